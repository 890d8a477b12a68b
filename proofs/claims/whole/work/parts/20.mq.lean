/-! what is asked of READ: the pure answers; the reference -/
def opKind (A : Abs) (x : Int32) : Int32 := if x < 0 ∨ ¬ x < nI (spn A.2.2.1) then -1 else nI (kd A.2.2.1 (tn x))
def opDepth (A : Abs) (x : Int32) : Int32 := if x < 0 ∨ ¬ x < nI (spn A.2.2.1) then -1 else nI (rD A.2.2.1 (tn x + 1))
def opPart (A : Abs) (x : Int32) : Int32 := if x < 0 ∨ ¬ x < nI (spn A.2.2.1) then -1 else if kd A.2.2.1 (tn x) = 3 then oI (clo A.2.2.1 (spn A.2.2.1) (tn x)) else if kd A.2.2.1 (tn x) = 4 then nI (((sk A.2.2.1 (tn x))[0]?).getD 0) else -2
def opWrong (A : Abs) (x y : Int32) : Int32 := if x < -1 ∨ y < 0 ∨ ¬ y < 2 then -1 else if x = -1 then nI (wlE A.2.2.1).length else match (wlE A.2.2.1)[tn x]? with
  | none => -4
  | some q => if y = 0 then nI q.1 else nI q.2
def qtS (A : Abs) (x y r : Int32) : Prop := ((x < -1 ∨ y < 0 ∨ ¬ y < 7) ∧ r = -1) ∨ (¬ (x < -1 ∨ y < 0 ∨ ¬ y < 7) ∧ ((x = -1 ∧ r = nI (ctn (kdIs A.2.2.1 3) (spn A.2.2.1))) ∨
  (∃ q, x = nI q ∧ q < 2 ^ 31 ∧ ((ctn (kdIs A.2.2.1 3) (spn A.2.2.1) ≤ q ∧ r = -4) ∨ ∃ o, isQ A.2.2.1 (spn A.2.2.1) q o ∧ r = qfS A.2.2.1 (spn A.2.2.1) o (tn y)))))
def opSaid (A : Abs) (x : Int32) : Int32 := if x < 0 ∨ 6 < x then -1 else nI (ltA A.2.2.1 (spn A.2.2.1) (tn x))
def paS (A : Abs) (x y r : Int32) : Prop := ((x < -1 ∨ y < 0 ∨ ¬ y < 3) ∧ r = -1) ∨ (¬ (x < -1 ∨ y < 0 ∨ ¬ y < 3) ∧ ((x = -1 ∧ r = nI (ctn (kdIs A.2.2.1 2) (spn A.2.2.1) + 1)) ∨
  (∃ q, x = nI q ∧ q < 2 ^ 31 ∧ ((ctn (kdIs A.2.2.1 2) (spn A.2.2.1) < q ∧ r = -4) ∨ (q ≤ ctn (kdIs A.2.2.1 2) (spn A.2.2.1) ∧ pfS A.2.2.1 (spn A.2.2.1) q (tn y) r)))))
theorem m1_cases {x : Int32} (h : ¬ x < -1) : x = -1 ∨ ∃ q, q < 2 ^ 31 ∧ x = nI q := by
  by_cases h0 : x < 0
  · left
    rw [Int32.lt_iff_toInt_lt] at h h0
    have e1 : (-1 : Int32).toInt = -1 := by decide
    have e0 : (0 : Int32).toInt = 0 := by decide
    apply Int32.toInt_inj.mp
    omega
  · exact Or.inr (nI_of h0)
theorem ltm1_0 {x : Int32} (h : x = -1) : x < 0 := by rw [h]; decide
theorem absR_rd {M M1 : Mem} {A : Abs} (h : absR M A) (hf : (∀ a, (a < 84 ∨ 89 < a) → a ≠ 80 → M1 a = M a) ∧ ∀ j, j ≠ 8 → j ≠ 11 → M1 80 j = M 80 j) : absR M1 A ∧ fr79 M M1 := by
  obtain ⟨h1, h2, h3, h4, h5⟩ := h
  exact ⟨⟨by rw [hf.2 0 (by omega) (by omega)]; exact h1, fun j hj => by rw [hf.1 81 (by omega) (by omega)]; exact h2 j hj, by rw [hf.1 82 (by omega) (by omega)]; exact h3, by rw [hf.2 4 (by omega) (by omega)]; exact h4, fun i T hi => by rw [hf.1 83 (by omega) (by omega)]; exact h5 i T hi⟩, fun a ha => hf.1 a (by omega) (by omega)⟩
theorem ctR_s {q : Nat → Bool} {a b : Nat} (h : a ≤ b) : ctR q a (b + 1) = ctR q a b + (if q b then 1 else 0) := by
  have h1 := ctn_mono q h
  have e : ctn q (b + 1) = ctn q b + (if q b then 1 else 0) := rfl
  unfold ctR
  rw [e]; omega
theorem ctR_le {q : Nat → Bool} {a b : Nat} : ctR q a b ≤ b := by
  have := ctn_le q b
  unfold ctR; omega
def qsel (S : Spt) (o w : Nat) : Nat → Bool := if w = 3 then kdIs S 0 else if w = 4 then (fun k => decide (kd S k = 0) && decide (rD S k = rD S o + 1)) else if w = 5 then kdIs S 2 else kdIs S 3
theorem qf_sel {S : Spt} {i o w : Nat} (h : 3 ≤ w) : qfS S i o w = nI (ctR (qsel S o w) (o + 1) (enQ S i o)) := by
  unfold qfS qsel
  rw [if_neg (by omega), if_neg (by omega), if_neg (by omega)]
  by_cases h3 : w = 3
  · rw [if_pos h3, if_pos h3]
  · rw [if_neg h3, if_neg h3]
    by_cases h4 : w = 4
    · rw [if_pos h4, if_pos h4]
    · rw [if_neg h4, if_neg h4]
      by_cases h5 : w = 5
      · rw [if_pos h5, if_pos h5]
      · rw [if_neg h5, if_neg h5]
def psel (S : Spt) (w : Nat) (x : Int32) : Nat → Bool := fun k => (decide (w = 1 ∧ kd S k = 0 ∨ w = 2 ∧ kd S k = 5)) && decide (nI (ctn (kdIs S 2) k) = x)
theorem ctn_cong {p q : Nat → Bool} : ∀ {i : Nat}, (∀ k, k < i → p k = q k) → ctn p i = ctn q i
  | 0, _ => rfl
  | i + 1, h => by
    have := ctn_cong (fun k hk => h k (by omega)) (i := i)
    show ctn p i + _ = ctn q i + _
    rw [this, h i (by omega)]
theorem le1 {x : Int32} : (1 : Int32) < x ↔ ¬ x < 2 := by
  rw [Int32.lt_iff_toInt_lt, Int32.lt_iff_toInt_lt]
  have e0 : (1 : Int32).toInt = 1 := by decide
  have e1 : (2 : Int32).toInt = 2 := by decide
  omega
theorem le6 {x : Int32} : (6 : Int32) < x ↔ ¬ x < 7 := by
  rw [Int32.lt_iff_toInt_lt, Int32.lt_iff_toInt_lt]
  have e0 : (6 : Int32).toInt = 6 := by decide
  have e1 : (7 : Int32).toInt = 7 := by decide
  omega
def dIv (S : Spt) (x : Int32) (v : Nat) (xd : Int32) : Prop := (∃ b, b < v ∧ kd S b = 2 ∧ nI (ctn (kdIs S 2) b + 1) = x ∧ xd = nI (rD S (b + 1))) ∨ ((∀ b, b < v → kd S b = 2 → nI (ctn (kdIs S 2) b + 1) ≠ x) ∧ xd = 0)
theorem dIv_n {S : Spt} {x xd : Int32} {v : Nat} (h : dIv S x v xd) (hk : kd S v ≠ 2) : dIv S x (v + 1) xd := by
  rcases h with ⟨b, h1, h2, h3⟩ | ⟨h1, h2⟩
  · exact Or.inl ⟨b, by omega, h2, h3⟩
  · refine Or.inr ⟨fun b hb hk2 => ?_, h2⟩
    by_cases e : b = v
    · rw [e] at hk2; exact absurd hk2 hk
    · exact h1 b (by omega) hk2
theorem dIv_no {S : Spt} {x xd : Int32} {v : Nat} (h : dIv S x v xd) (hx : nI (ctn (kdIs S 2) v + 1) ≠ x) : dIv S x (v + 1) xd := by
  rcases h with ⟨b, h1, h2, h3⟩ | ⟨h1, h2⟩
  · exact Or.inl ⟨b, by omega, h2, h3⟩
  · refine Or.inr ⟨fun b hb hk2 => ?_, h2⟩
    by_cases e : b = v
    · rw [e]; exact hx
    · exact h1 b (by omega) hk2
theorem dIv_end {S : Spt} {q n : Nat} {xd : Int32} (h : dIv S (nI q) n xd) (hq : q ≤ ctn (kdIs S 2) n) (hn : n ≤ 120) : pfS S n q 0 xd := by
  unfold pfS
  rw [if_pos rfl]
  rcases h with ⟨b, h1, h2, h3, h4⟩ | ⟨h1, h2⟩
  · have hb := ctn_le (kdIs S 2) b
    have hc := ctn_le (kdIs S 2) n
    exact Or.inr ⟨b, h1, h2, (nI_eq (by omega) (by omega)).mp h3, h4⟩
  · by_cases h0 : q = 0
    · exact Or.inl ⟨h0, h2⟩
    · obtain ⟨b, b1, b2, b3⟩ := ctn_ex (q := kdIs S 2) (n := n) (k := q - 1) (by omega)
      exact absurd (by rw [b3]; congr 1; omega) (h1 b b1 (by simpa using b2))
theorem psel_end {S : Spt} {q n w : Nat} (hw : w = 1 ∨ w = 2) (hq : q < 2 ^ 31) (hn : n ≤ 120) {r : Int32} (h : r = nI (ctn (psel S w (nI q)) n)) : pfS S n q w r := by
  have key : ∀ k, k < n → decide (nI (ctn (kdIs S 2) k) = nI q) = decide (ctn (kdIs S 2) k = q) := fun k hk => by
    have := ctn_le (kdIs S 2) k
    have e : (nI (ctn (kdIs S 2) k) = nI q) ↔ (ctn (kdIs S 2) k = q) := nI_eq (by omega) hq
    simp only [e]
  unfold pfS
  rcases hw with rfl | rfl
  · rw [if_neg (by decide), if_pos rfl, h]
    congr 1
    apply ctn_cong
    intro k hk
    unfold psel
    rw [key k hk]; simp
  · rw [if_neg (by decide), if_neg (by decide), h]
    congr 1
    apply ctn_cong
    intro k hk
    unfold psel
    rw [key k hk]; simp

set_option maxHeartbeats 4000000 in
set_option maxRecDepth 100000 in
theorem ct_X7_kind {l : Launch} {D : va_G} {cI cO : ClassId} {z tP : Nat} {aK aV : Nat → Nat} (M : Mem) (A : Abs) (x : Int32) (hA : absR M A) (hw : wfA A) : Cm l D cI cO z tP aK aV yX7_kind cX7_kind 2 (some .int) 4 92 [.ref (z + 80), .int x] SH M (pI (fun r M1 => r = opKind A x ∧ absR M1 A ∧ fr79 M M1)) := by
  refine cm_intro (lv0 := [some (.ref (z + 80)), some (.int x)]) (by decide) rfl (Nat.le_of_ble_eq_true rfl) rfl (fun p e s m below meth c C => ?_)
  have hwS := hw.2.1
  have hn120 := hwS.1
  have hsp := hA.2.2.1
  have hl6 := hw.2.2.1
  have htl := hw.1
  refine g_aload0 C dX7_kind_0 (n := 1) rfl ?_
  refine g_iload1 C dX7_kind_1 (n := 2) rfl ?_
  refine kc_X7_99 C (ct_X7_isPlace M A x hA hw) sh_80 ⟨Nat.le_of_ble_eq_true rfl, Nat.le_of_ble_eq_true rfl⟩ ⟨Nat.zero_le _, Nat.zero_le _⟩ (Nat.le_of_ble_eq_true rfl) dX7_kind_2 (n := 5) rfl (fun r_2 M_2 h_2 => ?_)
  rw [h_2.1, h_2.2]
  refine g_if_ne C dX7_kind_5 (t := 10) (by decide) (n := 8) rfl (fun c_5 => ?_) (fun c_5 => ?_)
  · have hb := blw'.mp c_5
    have hno : ¬ (x < 0 ∨ ¬ x < nI (spn A.2.2.1)) := fun h => h.elim hb.1 (fun q => q hb.2)
    obtain ⟨i0, hi3, hi⟩ := ix_of hb.1 hb.2 (by omega)
    have htn : tn x = i0 := by rw [hi, tn_nI (by omega)]
    refine g_aload0 C dX7_kind_10 (n := 11) rfl ?_
    refine kc_X7_126 C (ct_X7_read M A.2.2.1 hsp hwS) sh_80 ⟨Nat.le_of_ble_eq_true rfl, Nat.le_of_ble_eq_true rfl⟩ ⟨Nat.zero_le _, Nat.zero_le _⟩ (Nat.le_of_ble_eq_true rfl) dX7_kind_11 (n := 14) rfl (fun M2 h2 => ?_)
    have hab := absR_rd hA h2.2.2.2.2.2
    have h82 : M2 82 120 = nI (spn A.2.2.1) := by rw [h2.2.2.2.2.2.1 82 (by omega) (by omega)]; exact hsp.1
    refine g_aload0 C dX7_kind_14 (n := 15) rfl ?_
    refine kg_X7_19 C sh_80 rfl dX7_kind_15 (n := 18) rfl ?_
    refine g_iload1 C dX7_kind_18 (n := 19) rfl ?_
    refine g_iald C (j := i0) sh_84 (by decide) (hi) (by omega) dX7_kind_19 (n := 20) rfl ?_
    refine r_I C dX7_kind_20 ?_
    refine ⟨?_, hab⟩
    unfold opKind; rw [if_neg hno, htn]; exact h2.2.2.1 i0 hi3
  · have hb := blw.mp c_5
    refine g_iconst C ic_m1 dX7_kind_8 (n := 9) rfl ?_
    refine r_I C dX7_kind_9 ?_
    exact ⟨(if_pos hb).symm, hA, fun _ _ => rfl⟩
set_option maxHeartbeats 4000000 in
set_option maxRecDepth 100000 in
theorem ct_X7_depth {l : Launch} {D : va_G} {cI cO : ClassId} {z tP : Nat} {aK aV : Nat → Nat} (M : Mem) (A : Abs) (x : Int32) (hA : absR M A) (hw : wfA A) : Cm l D cI cO z tP aK aV yX7_depth cX7_depth 2 (some .int) 4 92 [.ref (z + 80), .int x] SH M (pI (fun r M1 => r = opDepth A x ∧ absR M1 A ∧ fr79 M M1)) := by
  refine cm_intro (lv0 := [some (.ref (z + 80)), some (.int x)]) (by decide) rfl (Nat.le_of_ble_eq_true rfl) rfl (fun p e s m below meth c C => ?_)
  have hwS := hw.2.1
  have hn120 := hwS.1
  have hsp := hA.2.2.1
  have hl6 := hw.2.2.1
  have htl := hw.1
  refine g_aload0 C dX7_depth_0 (n := 1) rfl ?_
  refine g_iload1 C dX7_depth_1 (n := 2) rfl ?_
  refine kc_X7_99 C (ct_X7_isPlace M A x hA hw) sh_80 ⟨Nat.le_of_ble_eq_true rfl, Nat.le_of_ble_eq_true rfl⟩ ⟨Nat.zero_le _, Nat.zero_le _⟩ (Nat.le_of_ble_eq_true rfl) dX7_depth_2 (n := 5) rfl (fun r_2 M_2 h_2 => ?_)
  rw [h_2.1, h_2.2]
  refine g_if_ne C dX7_depth_5 (t := 10) (by decide) (n := 8) rfl (fun c_5 => ?_) (fun c_5 => ?_)
  · have hb := blw'.mp c_5
    have hno : ¬ (x < 0 ∨ ¬ x < nI (spn A.2.2.1)) := fun h => h.elim hb.1 (fun q => q hb.2)
    obtain ⟨i0, hi3, hi⟩ := ix_of hb.1 hb.2 (by omega)
    have htn : tn x = i0 := by rw [hi, tn_nI (by omega)]
    refine g_aload0 C dX7_depth_10 (n := 11) rfl ?_
    refine kc_X7_126 C (ct_X7_read M A.2.2.1 hsp hwS) sh_80 ⟨Nat.le_of_ble_eq_true rfl, Nat.le_of_ble_eq_true rfl⟩ ⟨Nat.zero_le _, Nat.zero_le _⟩ (Nat.le_of_ble_eq_true rfl) dX7_depth_11 (n := 14) rfl (fun M2 h2 => ?_)
    have hab := absR_rd hA h2.2.2.2.2.2
    have h82 : M2 82 120 = nI (spn A.2.2.1) := by rw [h2.2.2.2.2.2.1 82 (by omega) (by omega)]; exact hsp.1
    refine g_aload0 C dX7_depth_14 (n := 15) rfl ?_
    refine kg_X7_22 C sh_80 rfl dX7_depth_15 (n := 18) rfl ?_
    refine g_iload1 C dX7_depth_18 (n := 19) rfl ?_
    refine g_iald C (j := i0) sh_85 (by decide) (hi) (by omega) dX7_depth_19 (n := 20) rfl ?_
    refine r_I C dX7_depth_20 ?_
    refine ⟨?_, hab⟩
    unfold opDepth; rw [if_neg hno, htn]; exact h2.2.2.2.1 i0 hi3
  · have hb := blw.mp c_5
    refine g_iconst C ic_m1 dX7_depth_8 (n := 9) rfl ?_
    refine r_I C dX7_depth_9 ?_
    exact ⟨(if_pos hb).symm, hA, fun _ _ => rfl⟩
set_option maxHeartbeats 4000000 in
set_option maxRecDepth 100000 in
theorem ct_X7_partner {l : Launch} {D : va_G} {cI cO : ClassId} {z tP : Nat} {aK aV : Nat → Nat} (M : Mem) (A : Abs) (x : Int32) (hA : absR M A) (hw : wfA A) : Cm l D cI cO z tP aK aV yX7_partner cX7_partner 2 (some .int) 4 92 [.ref (z + 80), .int x] SH M (pI (fun r M1 => r = opPart A x ∧ absR M1 A ∧ fr79 M M1)) := by
  refine cm_intro (lv0 := [some (.ref (z + 80)), some (.int x)]) (by decide) rfl (Nat.le_of_ble_eq_true rfl) rfl (fun p e s m below meth c C => ?_)
  have hwS := hw.2.1
  have hn120 := hwS.1
  have hsp := hA.2.2.1
  have hl6 := hw.2.2.1
  have htl := hw.1
  refine g_aload0 C dX7_partner_0 (n := 1) rfl ?_
  refine g_iload1 C dX7_partner_1 (n := 2) rfl ?_
  refine kc_X7_99 C (ct_X7_isPlace M A x hA hw) sh_80 ⟨Nat.le_of_ble_eq_true rfl, Nat.le_of_ble_eq_true rfl⟩ ⟨Nat.zero_le _, Nat.zero_le _⟩ (Nat.le_of_ble_eq_true rfl) dX7_partner_2 (n := 5) rfl (fun r_2 M_2 h_2 => ?_)
  rw [h_2.1, h_2.2]
  refine g_if_ne C dX7_partner_5 (t := 10) (by decide) (n := 8) rfl (fun c_5 => ?_) (fun c_5 => ?_)
  · have hb := blw'.mp c_5
    have hno : ¬ (x < 0 ∨ ¬ x < nI (spn A.2.2.1)) := fun h => h.elim hb.1 (fun q => q hb.2)
    obtain ⟨i0, hi3, hi⟩ := ix_of hb.1 hb.2 (by omega)
    have htn : tn x = i0 := by rw [hi, tn_nI (by omega)]
    refine g_aload0 C dX7_partner_10 (n := 11) rfl ?_
    refine kc_X7_126 C (ct_X7_read M A.2.2.1 hsp hwS) sh_80 ⟨Nat.le_of_ble_eq_true rfl, Nat.le_of_ble_eq_true rfl⟩ ⟨Nat.zero_le _, Nat.zero_le _⟩ (Nat.le_of_ble_eq_true rfl) dX7_partner_11 (n := 14) rfl (fun M2 h2 => ?_)
    have hab := absR_rd hA h2.2.2.2.2.2
    have h82 : M2 82 120 = nI (spn A.2.2.1) := by rw [h2.2.2.2.2.2.1 82 (by omega) (by omega)]; exact hsp.1
    have hkl := kd_lt A.2.2.1 i0
    refine g_aload0 C dX7_partner_14 (n := 15) rfl ?_
    refine kg_X7_19 C sh_80 rfl dX7_partner_15 (n := 18) rfl ?_
    refine g_iload1 C dX7_partner_18 (n := 19) rfl ?_
    refine g_iald C (j := i0) sh_84 (by decide) (hi) (by omega) dX7_partner_19 (n := 20) rfl ?_
    refine g_iconst C ic_3 dX7_partner_20 (n := 21) rfl ?_
    refine g_icmp_eq C dX7_partner_21 (t := 34) (by decide) (n := 24) rfl (fun c_21 => ?_) (fun c_21 => ?_)
    · have w21 : kd A.2.2.1 i0 = 3 := (qeq (h2.2.2.1 i0 hi3) (show (3 : Int32) = nI 3 from rfl) (by omega) (by decide)).mp c_21
      refine g_aload0 C dX7_partner_34 (n := 35) rfl ?_
      refine kg_X7_25 C sh_80 rfl dX7_partner_35 (n := 38) rfl ?_
      refine g_iload1 C dX7_partner_38 (n := 39) rfl ?_
      refine g_iald C (j := i0) sh_86 (by decide) (hi) (by omega) dX7_partner_39 (n := 40) rfl ?_
      have hv : M2 86 i0 = opPart A x := by
        unfold opPart; rw [if_neg hno, htn]
        have hp := h2.2.2.2.2.1 i0 hi3
        first
          | (rw [if_pos w21]; exact hp.1 w21)
          | (rw [if_neg w21, if_pos w31]
             obtain ⟨o, ho, e⟩ := hp.2 w31
             rw [ho]; exact e)
      refine g_goto C dX7_partner_40 (t := 45) (by decide) ?_
      refine r_I C dX7_partner_45 ?_
      exact ⟨hv, hab⟩
    · have w21 : ¬ kd A.2.2.1 i0 = 3 := fun h => c_21 ((qeq (h2.2.2.1 i0 hi3) (show (3 : Int32) = nI 3 from rfl) (by omega) (by decide)).mpr h)
      refine g_aload0 C dX7_partner_24 (n := 25) rfl ?_
      refine kg_X7_19 C sh_80 rfl dX7_partner_25 (n := 28) rfl ?_
      refine g_iload1 C dX7_partner_28 (n := 29) rfl ?_
      refine g_iald C (j := i0) sh_84 (by decide) (hi) (by omega) dX7_partner_29 (n := 30) rfl ?_
      refine g_iconst C ic_4 dX7_partner_30 (n := 31) rfl ?_
      refine g_icmp_ne C dX7_partner_31 (t := 43) (by decide) (n := 34) rfl (fun c_31 => ?_) (fun c_31 => ?_)
      · have w31 : ¬ kd A.2.2.1 i0 = 4 := fun h => c_31 ((qeq (h2.2.2.1 i0 hi3) (show (4 : Int32) = nI 4 from rfl) (by omega) (by decide)).mpr h)
        have hv : (-2 : Int32) = opPart A x := by unfold opPart; rw [if_neg hno, htn, if_neg w21, if_neg w31]
        refine g_bipush C bp_m2 dX7_partner_43 (n := 45) rfl ?_
        refine r_I C dX7_partner_45 ?_
        exact ⟨hv, hab⟩
      · have w31 : kd A.2.2.1 i0 = 4 := (qeq (h2.2.2.1 i0 hi3) (show (4 : Int32) = nI 4 from rfl) (by omega) (by decide)).mp c_31
        refine g_aload0 C dX7_partner_34 (n := 35) rfl ?_
        refine kg_X7_25 C sh_80 rfl dX7_partner_35 (n := 38) rfl ?_
        refine g_iload1 C dX7_partner_38 (n := 39) rfl ?_
        refine g_iald C (j := i0) sh_86 (by decide) (hi) (by omega) dX7_partner_39 (n := 40) rfl ?_
        have hv : M2 86 i0 = opPart A x := by
          unfold opPart; rw [if_neg hno, htn]
          have hp := h2.2.2.2.2.1 i0 hi3
          first
            | (rw [if_pos w21]; exact hp.1 w21)
            | (rw [if_neg w21, if_pos w31]
               obtain ⟨o, ho, e⟩ := hp.2 w31
               rw [ho]; exact e)
        refine g_goto C dX7_partner_40 (t := 45) (by decide) ?_
        refine r_I C dX7_partner_45 ?_
        exact ⟨hv, hab⟩
  · have hb := blw.mp c_5
    refine g_iconst C ic_m1 dX7_partner_8 (n := 9) rfl ?_
    refine r_I C dX7_partner_9 ?_
    exact ⟨(if_pos hb).symm, hA, fun _ _ => rfl⟩
set_option maxHeartbeats 4000000 in
set_option maxRecDepth 100000 in
theorem ct_X7_wrong {l : Launch} {D : va_G} {cI cO : ClassId} {z tP : Nat} {aK aV : Nat → Nat} (M : Mem) (A : Abs) (x y : Int32) (hA : absR M A) (hw : wfA A) : Cm l D cI cO z tP aK aV yX7_wrong cX7_wrong 3 (some .int) 4 92 [.ref (z + 80), .int x, .int y] SH M (pI (fun r M1 => r = opWrong A x y ∧ absR M1 A ∧ fr79 M M1)) := by
  refine cm_intro (lv0 := [some (.ref (z + 80)), some (.int x), some (.int y)]) (by decide) rfl (Nat.le_of_ble_eq_true rfl) rfl (fun p e s m below meth c C => ?_)
  have hwS := hw.2.1
  have hn120 := hwS.1
  have hsp := hA.2.2.1
  have hl6 := hw.2.2.1
  have htl := hw.1
  refine g_iload1 C dX7_wrong_0 (n := 1) rfl ?_
  refine g_iconst C ic_m1 dX7_wrong_1 (n := 2) rfl ?_
  refine g_icmp_lt C dX7_wrong_2 (t := 15) (by decide) (n := 5) rfl (fun c_2 => ?_) (fun c_2 => ?_)
  · have hbad : x < -1 ∨ y < 0 ∨ ¬ y < 2 := Or.inl c_2
    refine g_iconst C ic_m1 dX7_wrong_15 (n := 16) rfl ?_
    refine r_I C dX7_wrong_16 ?_
    exact ⟨(if_pos hbad).symm, hA, fun _ _ => rfl⟩
  · have _u := True.intro
    refine g_iload2 C dX7_wrong_5 (n := 6) rfl ?_
    refine g_i2l C dX7_wrong_6 (n := 7) rfl ?_
    refine g_lconst C (v := Int32.toInt64 0) (by decide) dX7_wrong_7 (n := 8) rfl ?_
    refine g_lconst C (v := Int32.toInt64 1) (by decide) dX7_wrong_8 (n := 9) rfl ?_
    refine kc_X7_50 C (ct_X7_in SH M y 0 1) ⟨Nat.le_of_ble_eq_true rfl, Nat.le_of_ble_eq_true rfl⟩ ⟨Nat.zero_le _, Nat.zero_le _⟩ (Nat.le_of_ble_eq_true rfl) dX7_wrong_9 (n := 12) rfl (fun r_9 M_9 h_9 => ?_)
    rw [h_9.1, h_9.2]
    refine g_if_ne C dX7_wrong_12 (t := 17) (by decide) (n := 15) rfl (fun c_12 => ?_) (fun c_12 => ?_)
    · have hb := inn'.mp c_12
      have hy2 : y < 2 := by
        by_cases h : y < 2
        · exact h
        · exact absurd (le1.mpr h) hb.2
      have hno : ¬ (x < -1 ∨ y < 0 ∨ ¬ y < 2) := by
        rintro (h | h | h)
        · exact c_2 h
        · exact hb.1 h
        · exact h hy2
      obtain ⟨y0, hy0, hy⟩ := ix_of (n := 2) hb.1 hy2 (by decide)
      refine g_aload0 C dX7_wrong_17 (n := 18) rfl ?_
      refine kc_X7_126 C (ct_X7_read M A.2.2.1 hsp hwS) sh_80 ⟨Nat.le_of_ble_eq_true rfl, Nat.le_of_ble_eq_true rfl⟩ ⟨Nat.zero_le _, Nat.zero_le _⟩ (Nat.le_of_ble_eq_true rfl) dX7_wrong_18 (n := 21) rfl (fun M2 h2 => ?_)
      have hab := absR_rd hA h2.2.2.2.2.2
      have h82 : M2 82 120 = nI (spn A.2.2.1) := by rw [h2.2.2.2.2.2.1 82 (by omega) (by omega)]; exact hsp.1
      have hlen : (wlE A.2.2.1).length < 1000 := by
        have h1 := wrL_len A.2.2.1 (spn A.2.2.1)
        unfold wlE; rw [List.length_append, List.length_append]; split <;> split <;> simp <;> omega
      refine g_iload1 C dX7_wrong_21 (n := 22) rfl ?_
      refine g_if_ge C dX7_wrong_22 (t := 32) (by decide) (n := 25) rfl (fun c_22 => ?_) (fun c_22 => ?_)
      · obtain ⟨q, hq, hxq⟩ := nI_of c_22
        have hxne : ¬ x = -1 := fun h => c_22 (ltm1_0 h)
        have htn : tn x = q := by rw [hxq, tn_nI hq]
        refine g_iload1 C dX7_wrong_32 (n := 33) rfl ?_
        refine g_aload0 C dX7_wrong_33 (n := 34) rfl ?_
        refine kg_X7_102 C sh_80 rfl dX7_wrong_34 (n := 37) rfl ?_
        refine g_icmp_lt C dX7_wrong_37 (t := 45) (by decide) (n := 40) rfl (fun c_37 => ?_) (fun c_37 => ?_)
        · have hlt : q < (wlE A.2.2.1).length := (qlt hxq h2.1.1 hq (by omega)).mp c_37
          obtain ⟨g, hg⟩ : ∃ g, (wlE A.2.2.1)[q]? = some g := ⟨_, List.getElem?_eq_getElem hlt⟩
          have hgg := h2.1.2 q g hg
          have hle2 : (wlE A.2.2.1).length ≤ 242 := by
            have h1 := wrL_len A.2.2.1 (spn A.2.2.1)
            unfold wlE; rw [List.length_append, List.length_append]; split <;> split <;> simp <;> omega
          refine g_iload2 C dX7_wrong_45 (n := 46) rfl ?_
          refine g_if_ne C dX7_wrong_46 (t := 58) (by decide) (n := 49) rfl (fun c_46 => ?_) (fun c_46 => ?_)
          · have _u := True.intro
            refine g_aload0 C dX7_wrong_58 (n := 59) rfl ?_
            refine kg_X7_31 C sh_80 rfl dX7_wrong_59 (n := 62) rfl ?_
            refine g_iload1 C dX7_wrong_62 (n := 63) rfl ?_
            refine g_iald C (j := q) sh_88 (by decide) (hxq) (by omega) dX7_wrong_63 (n := 64) rfl ?_
            refine r_I C dX7_wrong_64 ?_
            first
              | exact ⟨hv, hab⟩
              | (refine ⟨?_, hab⟩
                 unfold opWrong; rw [if_neg hno, if_neg hxne, htn, hg]
                 show _ = if y = 0 then _ else _
                 rw [if_neg c_46]; exact hgg.2)
          · have _u := True.intro
            refine g_aload0 C dX7_wrong_49 (n := 50) rfl ?_
            refine kg_X7_28 C sh_80 rfl dX7_wrong_50 (n := 53) rfl ?_
            refine g_iload1 C dX7_wrong_53 (n := 54) rfl ?_
            refine g_iald C (j := q) sh_87 (by decide) (hxq) (by omega) dX7_wrong_54 (n := 55) rfl ?_
            have hv : M2 87 q = opWrong A x y := by
              unfold opWrong; rw [if_neg hno, if_neg hxne, htn, hg]
              show _ = if y = 0 then _ else _
              rw [if_pos c_46]; exact hgg.1
            refine g_goto C dX7_wrong_55 (t := 64) (by decide) ?_
            refine r_I C dX7_wrong_64 ?_
            first
              | exact ⟨hv, hab⟩
              | (refine ⟨?_, hab⟩
                 unfold opWrong; rw [if_neg hno, if_neg hxne, htn, hg]
                 show _ = if y = 0 then _ else _
                 rw [if_neg c_46]; exact hgg.2)
        · have hge : ¬ q < (wlE A.2.2.1).length := fun h => c_37 ((qlt hxq h2.1.1 hq (by omega)).mpr h)
          have hv : (-4 : Int32) = opWrong A x y := by
            unfold opWrong; rw [if_neg hno, if_neg hxne, htn, List.getElem?_eq_none (by omega)]
          refine g_bipush C bp_m4 dX7_wrong_40 (n := 42) rfl ?_
          refine g_goto C dX7_wrong_42 (t := 64) (by decide) ?_
          refine r_I C dX7_wrong_64 ?_
          first
            | exact ⟨hv, hab⟩
            | (refine ⟨?_, hab⟩
               unfold opWrong; rw [if_neg hno, if_neg hxne, htn, hg]
               show _ = if y = 0 then _ else _
               rw [if_neg c_46]; exact hgg.2)
      · have hxm : x = -1 := by
          rcases m1_cases c_2 with h | ⟨q, hq, h⟩
          · exact h
          · exact absurd c_22 (by rw [h]; exact nI_pos hq)
        have hv : M2 80 8 = opWrong A x y := by unfold opWrong; rw [if_neg hno, if_pos hxm]; exact h2.1.1
        refine g_aload0 C dX7_wrong_25 (n := 26) rfl ?_
        refine kg_X7_102 C sh_80 rfl dX7_wrong_26 (n := 29) rfl ?_
        refine g_goto C dX7_wrong_29 (t := 64) (by decide) ?_
        refine r_I C dX7_wrong_64 ?_
        first
          | exact ⟨hv, hab⟩
          | (refine ⟨?_, hab⟩
             unfold opWrong; rw [if_neg hno, if_neg hxne, htn, hg]
             show _ = if y = 0 then _ else _
             rw [if_neg c_46]; exact hgg.2)
    · have hbad : x < -1 ∨ y < 0 ∨ ¬ y < 2 := Or.inr ((inn.mp c_12).elim Or.inl (fun h => Or.inr (le1.mp h)))
      refine g_iconst C ic_m1 dX7_wrong_15 (n := 16) rfl ?_
      refine r_I C dX7_wrong_16 ?_
      exact ⟨(if_pos hbad).symm, hA, fun _ _ => rfl⟩
set_option maxHeartbeats 4000000 in
set_option maxRecDepth 100000 in
theorem ct_X7_said {l : Launch} {D : va_G} {cI cO : ClassId} {z tP : Nat} {aK aV : Nat → Nat} (M : Mem) (A : Abs) (x : Int32) (hA : absR M A) (hw : wfA A) : Cm l D cI cO z tP aK aV yX7_said cX7_said 4 (some .int) 4 92 [.ref (z + 80), .int x] SH M (pI (fun r M1 => r = opSaid A x ∧ absR M1 A ∧ fr79 M M1)) := by
  refine cm_intro (lv0 := [some (.ref (z + 80)), some (.int x), none, none]) (by decide) rfl (Nat.le_of_ble_eq_true rfl) rfl (fun p e s m below meth c C => ?_)
  have hwS := hw.2.1
  have hn120 := hwS.1
  have hsp := hA.2.2.1
  have hl6 := hw.2.2.1
  have htl := hw.1
  refine g_iload1 C dX7_said_0 (n := 1) rfl ?_
  refine g_i2l C dX7_said_1 (n := 2) rfl ?_
  refine g_lconst C (v := Int32.toInt64 0) (by decide) dX7_said_2 (n := 3) rfl ?_
  refine g_ldc2 C kl_X7_129 dX7_said_3 (n := 6) rfl ?_
  refine kc_X7_50 C (ct_X7_in SH M x 0 6) ⟨Nat.le_of_ble_eq_true rfl, Nat.le_of_ble_eq_true rfl⟩ ⟨Nat.zero_le _, Nat.zero_le _⟩ (Nat.le_of_ble_eq_true rfl) dX7_said_6 (n := 9) rfl (fun r_6 M_6 h_6 => ?_)
  rw [h_6.1, h_6.2]
  refine g_if_ne C dX7_said_9 (t := 14) (by decide) (n := 12) rfl (fun c_9 => ?_) (fun c_9 => ?_)
  · have hb := inn'.mp c_9
    obtain ⟨d0, hd0, hd⟩ := ix_le (n := 6) hb.1 hb.2 (by decide)
    refine g_aload0 C dX7_said_14 (n := 15) rfl ?_
    refine kc_X7_126 C (ct_X7_read M A.2.2.1 hsp hwS) sh_80 ⟨Nat.le_of_ble_eq_true rfl, Nat.le_of_ble_eq_true rfl⟩ ⟨Nat.zero_le _, Nat.zero_le _⟩ (Nat.le_of_ble_eq_true rfl) dX7_said_15 (n := 18) rfl (fun M2 h2 => ?_)
    have hab := absR_rd hA h2.2.2.2.2.2
    have h82 : M2 82 120 = nI (spn A.2.2.1) := by rw [h2.2.2.2.2.2.1 82 (by omega) (by omega)]; exact hsp.1
    refine g_iconst C ic_0 dX7_said_18 (n := 19) rfl ?_
    refine g_istore2 C dX7_said_19 (n := 20) rfl ?_
    refine g_iconst C ic_0 dX7_said_20 (n := 21) rfl ?_
    refine g_istore3 C dX7_said_21 (n := 22) rfl ?_
    have L_22 : ∀ (fu : Nat) (v : Nat) (y u : Int32), spn A.2.2.1 - v < fu → (y = nI v) → (v ≤ spn A.2.2.1) → (u = nI (ltA A.2.2.1 v d0)) → G p l e ({ frames := 4, cells := 0, slots := 0, locals := 92 }) s m ([.ref (z + 80), .int x] : List Value).toArray below meth c D cI cO z 4 (QM below D cI cO z ([.ref (z + 80), .int x] : List Value).toArray s SH (pI (fun r M1 => r = opSaid A x ∧ absR M1 A ∧ fr79 M M1))) 0 0 SH M2 22 [some (.ref (z + 80)), some (.int x), some (.int u), some (.int y)] [] := by
      intro fu_22
      induction fu_22 with
      | zero => intro v y u hfu; exact absurd hfu (Nat.not_lt_zero _)
      | succ fu_22 ih_22 =>
        intro v y u hfu_22 hy hv hu
        refine g_iload3 C dX7_said_22 (n := 23) rfl ?_
        refine g_aload0 C dX7_said_23 (n := 24) rfl ?_
        refine kg_X7_13 C sh_80 rfl dX7_said_24 (n := 27) rfl ?_
        refine g_bipush C bp_120 dX7_said_27 (n := 29) rfl ?_
        refine g_iald C (j := 120) sh_82 (by decide) (rfl) (by omega) dX7_said_29 (n := 30) rfl ?_
        refine g_icmp_ge C dX7_said_30 (t := 66) (by decide) (n := 33) rfl (fun c_30 => ?_) (fun c_30 => ?_)
        · have w30 : ¬ v < spn A.2.2.1 := fun h => c_30 ((qlt hy h82 (by omega) (by omega)).mpr h)
          refine g_iload2 C dX7_said_66 (n := 67) rfl ?_
          refine r_I C dX7_said_67 ?_
          refine ⟨?_, hab⟩
          unfold opSaid; rw [if_neg (fun h => h.elim hb.1 hb.2), hd, tn_nI (by omega), hu, show v = spn A.2.2.1 by omega]
        · have w30 : v < spn A.2.2.1 := (qlt hy h82 (by omega) (by omega)).mp c_30
          refine g_iload2 C dX7_said_33 (n := 34) rfl ?_
          refine g_aload0 C dX7_said_34 (n := 35) rfl ?_
          refine kg_X7_19 C sh_80 rfl dX7_said_35 (n := 38) rfl ?_
          refine g_iload3 C dX7_said_38 (n := 39) rfl ?_
          refine g_iald C (j := v) sh_84 (by decide) (hy) (by omega) dX7_said_39 (n := 40) rfl ?_
          refine g_if_ne C dX7_said_40 (t := 57) (by decide) (n := 43) rfl (fun c_40 => ?_) (fun c_40 => ?_)
          · have w40 : ¬ kd A.2.2.1 v = 0 := fun h => c_40 ((qeq (h2.2.2.1 v w30) nI_0.symm (by have := kd_lt A.2.2.1 v; omega) (by decide)).mpr h)
            have hs : ltA A.2.2.1 (v + 1) d0 = ltA A.2.2.1 v d0 := by
              unfold ltA; apply ctn_no
              first | (simp [w40, w50]; done) | (simp [w40]; done)
            have hu2 : u + 0 = nI (ltA A.2.2.1 (v + 1) d0) := by rw [hs, hu]; exact nI_add _ 0
            refine g_iconst C ic_0 dX7_said_57 (n := 58) rfl ?_
            refine g_iadd C dX7_said_58 (n := 59) rfl ?_
            refine g_istore2 C dX7_said_59 (n := 60) rfl ?_
            refine g_iinc3 C (inc_1 _) dX7_said_60 (n := 63) rfl ?_
            refine g_goto C dX7_said_63 (t := 22) (by decide) ?_
            exact ih_22 (v + 1) (y + 1) _ (by omega) (by rw [hy, nI_1]) (by omega) hu2
          · have w40 : kd A.2.2.1 v = 0 := (qeq (h2.2.2.1 v w30) nI_0.symm (by have := kd_lt A.2.2.1 v; omega) (by decide)).mp c_40
            refine g_aload0 C dX7_said_43 (n := 44) rfl ?_
            refine kg_X7_22 C sh_80 rfl dX7_said_44 (n := 47) rfl ?_
            refine g_iload3 C dX7_said_47 (n := 48) rfl ?_
            refine g_iald C (j := v) sh_85 (by decide) (hy) (by omega) dX7_said_48 (n := 49) rfl ?_
            refine g_iload1 C dX7_said_49 (n := 50) rfl ?_
            refine g_icmp_ne C dX7_said_50 (t := 57) (by decide) (n := 53) rfl (fun c_50 => ?_) (fun c_50 => ?_)
            · have w50 : ¬ rD A.2.2.1 v = d0 := fun h => c_50 (by rw [h2.2.2.2.1 v w30, rD_s, if_neg (by omega), if_neg (by omega), h, hd])
              have hs : ltA A.2.2.1 (v + 1) d0 = ltA A.2.2.1 v d0 := by
                unfold ltA; apply ctn_no
                first | (simp [w40, w50]; done) | (simp [w40]; done)
              have hu2 : u + 0 = nI (ltA A.2.2.1 (v + 1) d0) := by rw [hs, hu]; exact nI_add _ 0
              refine g_iconst C ic_0 dX7_said_57 (n := 58) rfl ?_
              refine g_iadd C dX7_said_58 (n := 59) rfl ?_
              refine g_istore2 C dX7_said_59 (n := 60) rfl ?_
              refine g_iinc3 C (inc_1 _) dX7_said_60 (n := 63) rfl ?_
              refine g_goto C dX7_said_63 (t := 22) (by decide) ?_
              exact ih_22 (v + 1) (y + 1) _ (by omega) (by rw [hy, nI_1]) (by omega) hu2
            · have w50 : rD A.2.2.1 v = d0 := by
                have h9 := (h2.2.2.2.1 v w30).symm.trans (c_50.trans hd)
                rw [rD_s, if_neg (by omega), if_neg (by omega)] at h9
                exact (nI_eq (by have := rD_le A.2.2.1 v; omega) (by omega)).mp h9
              have hs : ltA A.2.2.1 (v + 1) d0 = ltA A.2.2.1 v d0 + 1 := by unfold ltA; exact ctn_yes (by simp [w40, w50])
              have hu2 : u + 1 = nI (ltA A.2.2.1 (v + 1) d0) := by rw [hs, hu, nI_1]
              refine g_iconst C ic_1 dX7_said_53 (n := 54) rfl ?_
              refine g_goto C dX7_said_54 (t := 58) (by decide) ?_
              refine g_iadd C dX7_said_58 (n := 59) rfl ?_
              refine g_istore2 C dX7_said_59 (n := 60) rfl ?_
              refine g_iinc3 C (inc_1 _) dX7_said_60 (n := 63) rfl ?_
              refine g_goto C dX7_said_63 (t := 22) (by decide) ?_
              exact ih_22 (v + 1) (y + 1) _ (by omega) (by rw [hy, nI_1]) (by omega) hu2
    exact L_22 (spn A.2.2.1 + 1) 0 0 0 (by omega) nI_0.symm (by omega) nI_0.symm
  · have hb := inn.mp c_9
    refine g_iconst C ic_m1 dX7_said_12 (n := 13) rfl ?_
    refine r_I C dX7_said_13 ?_
    exact ⟨(if_pos hb).symm, hA, fun _ _ => rfl⟩
set_option maxHeartbeats 4000000 in
set_option maxRecDepth 100000 in
theorem ct_X7_quote {l : Launch} {D : va_G} {cI cO : ClassId} {z tP : Nat} {aK aV : Nat → Nat} (M : Mem) (A : Abs) (x y : Int32) (hA : absR M A) (hw : wfA A) : Cm l D cI cO z tP aK aV yX7_quote cX7_quote 8 (some .int) 4 92 [.ref (z + 80), .int x, .int y] SH M (pI (fun r M1 => qtS A x y r ∧ absR M1 A ∧ fr79 M M1)) := by
  refine cm_intro (lv0 := [some (.ref (z + 80)), some (.int x), some (.int y), none, none, none, none, none]) (by decide) rfl (Nat.le_of_ble_eq_true rfl) rfl (fun p e s m below meth c C => ?_)
  have hwS := hw.2.1
  have hn120 := hwS.1
  have hsp := hA.2.2.1
  have hl6 := hw.2.2.1
  have htl := hw.1
  refine g_iload1 C dX7_quote_0 (n := 1) rfl ?_
  refine g_iconst C ic_m1 dX7_quote_1 (n := 2) rfl ?_
  refine g_icmp_lt C dX7_quote_2 (t := 17) (by decide) (n := 5) rfl (fun c_2 => ?_) (fun c_2 => ?_)
  · have hbad : x < -1 ∨ y < 0 ∨ ¬ y < 7 := Or.inl c_2
    refine g_iconst C ic_m1 dX7_quote_17 (n := 18) rfl ?_
    refine r_I C dX7_quote_18 ?_
    exact ⟨Or.inl ⟨hbad, rfl⟩, hA, fun _ _ => rfl⟩
  · have _u := True.intro
    refine g_iload2 C dX7_quote_5 (n := 6) rfl ?_
    refine g_i2l C dX7_quote_6 (n := 7) rfl ?_
    refine g_lconst C (v := Int32.toInt64 0) (by decide) dX7_quote_7 (n := 8) rfl ?_
    refine g_ldc2 C kl_X7_129 dX7_quote_8 (n := 11) rfl ?_
    refine kc_X7_50 C (ct_X7_in SH M y 0 6) ⟨Nat.le_of_ble_eq_true rfl, Nat.le_of_ble_eq_true rfl⟩ ⟨Nat.zero_le _, Nat.zero_le _⟩ (Nat.le_of_ble_eq_true rfl) dX7_quote_11 (n := 14) rfl (fun r_11 M_11 h_11 => ?_)
    rw [h_11.1, h_11.2]
    refine g_if_ne C dX7_quote_14 (t := 19) (by decide) (n := 17) rfl (fun c_14 => ?_) (fun c_14 => ?_)
    · have hb := inn'.mp c_14
      have hy7 : y < 7 := by
        by_cases h : y < 7
        · exact h
        · exact absurd (le6.mpr h) hb.2
      have hno : ¬ (x < -1 ∨ y < 0 ∨ ¬ y < 7) := by
        rintro (h | h | h)
        · exact c_2 h
        · exact hb.1 h
        · exact h hy7
      obtain ⟨y0, hy0, hy⟩ := ix_of (n := 7) hb.1 hy7 (by decide)
      refine g_aload0 C dX7_quote_19 (n := 20) rfl ?_
      refine kc_X7_126 C (ct_X7_read M A.2.2.1 hsp hwS) sh_80 ⟨Nat.le_of_ble_eq_true rfl, Nat.le_of_ble_eq_true rfl⟩ ⟨Nat.zero_le _, Nat.zero_le _⟩ (Nat.le_of_ble_eq_true rfl) dX7_quote_20 (n := 23) rfl (fun M2 h2 => ?_)
      have hab := absR_rd hA h2.2.2.2.2.2
      have h82 : M2 82 120 = nI (spn A.2.2.1) := by rw [h2.2.2.2.2.2.1 82 (by omega) (by omega)]; exact hsp.1
      have hct := ctn_le (kdIs A.2.2.1 3) (spn A.2.2.1)
      refine g_iload1 C dX7_quote_23 (n := 24) rfl ?_
      refine g_if_lt C dX7_quote_24 (t := 35) (by decide) (n := 27) rfl (fun c_24 => ?_) (fun c_24 => ?_)
      · have hxm : x = -1 := by
          rcases m1_cases c_2 with h | ⟨q, hq, h⟩
          · exact h
          · exact absurd c_24 (by rw [h]; exact nI_pos hq)
        refine g_iload1 C dX7_quote_35 (n := 36) rfl ?_
        refine g_if_ge C dX7_quote_36 (t := 46) (by decide) (n := 39) rfl (fun c_36 => ?_) (fun c_36 => ?_)
        · have hfin : qtS A x y (-4) := by
            refine Or.inr ⟨hno, Or.inr ?_⟩
            first | exact absurd c_24 c_36 | exact ⟨q, hxq, hq, Or.inl ⟨by omega, rfl⟩⟩
          refine g_bipush C bp_m4 dX7_quote_46 (n := 48) rfl ?_
          refine r_I C dX7_quote_48 ?_
          exact ⟨hfin, hab⟩
        · have hfin : qtS A x y (M2 80 11) := by
            refine Or.inr ⟨hno, Or.inl ⟨?_, h2.2.1.1⟩⟩
            first | exact hxm | exact absurd c_36 c_24
          refine g_aload0 C dX7_quote_39 (n := 40) rfl ?_
          refine kg_X7_105 C sh_80 rfl dX7_quote_40 (n := 43) rfl ?_
          refine g_goto C dX7_quote_43 (t := 48) (by decide) ?_
          refine r_I C dX7_quote_48 ?_
          exact ⟨hfin, hab⟩
      · obtain ⟨q, hq, hxq⟩ := nI_of c_24
        refine g_iload1 C dX7_quote_27 (n := 28) rfl ?_
        refine g_aload0 C dX7_quote_28 (n := 29) rfl ?_
        refine kg_X7_105 C sh_80 rfl dX7_quote_29 (n := 32) rfl ?_
        refine g_icmp_lt C dX7_quote_32 (t := 49) (by decide) (n := 35) rfl (fun c_32 => ?_) (fun c_32 => ?_)
        · have hlt : q < ctn (kdIs A.2.2.1 3) (spn A.2.2.1) := (qlt hxq h2.2.1.1 hq (by omega)).mp c_32
          obtain ⟨o0, ho1, ho2, ho3⟩ := ctn_ex hlt
          have hk3 : kd A.2.2.1 o0 = 3 := by simpa using ho2
          have hisq : isQ A.2.2.1 (spn A.2.2.1) q o0 := ⟨ho1, hk3, ho3⟩
          have hat := h2.2.1.2 q o0 hisq
          have hpt := (h2.2.2.2.2.1 o0 ho1).1 hk3
          refine g_aload0 C dX7_quote_49 (n := 50) rfl ?_
          refine kg_X7_34 C sh_80 rfl dX7_quote_50 (n := 53) rfl ?_
          refine g_iload1 C dX7_quote_53 (n := 54) rfl ?_
          refine g_iald C (j := q) sh_89 (by decide) (hxq) (by omega) dX7_quote_54 (n := 55) rfl ?_
          rw [hat]
          obtain ⟨e0, he0, heq⟩ : ∃ e0, e0 ≤ spn A.2.2.1 ∧ enQ A.2.2.1 (spn A.2.2.1) o0 = e0 := ⟨_, by
            unfold enQ
            cases h : clo A.2.2.1 (spn A.2.2.1) o0 with
            | none => exact Nat.le_refl _
            | some e => exact Nat.le_of_lt (clo_lt A.2.2.1 _ o0 e h).2, rfl⟩
          refine g_istore3 C dX7_quote_55 (n := 56) rfl ?_
          refine g_aload0 C dX7_quote_56 (n := 57) rfl ?_
          refine kg_X7_25 C sh_80 rfl dX7_quote_57 (n := 60) rfl ?_
          refine g_iload3 C dX7_quote_60 (n := 61) rfl ?_
          refine g_iald C (j := o0) sh_86 (by decide) (rfl) (by omega) dX7_quote_61 (n := 62) rfl ?_
          refine g_bipush C bp_m4 dX7_quote_62 (n := 64) rfl ?_
          refine g_icmp_ne C dX7_quote_64 (t := 77) (by decide) (n := 67) rfl (fun c_64 => ?_) (fun c_64 => ?_)
          · have hend : M2 86 o0 = nI e0 := by
              rw [hpt] at c_64 ⊢
              rw [← heq]; unfold enQ
              cases h : clo A.2.2.1 (spn A.2.2.1) o0 with
              | none => rw [h] at c_64; exact absurd rfl c_64
              | some e => rfl
            refine g_aload0 C dX7_quote_77 (n := 78) rfl ?_
            refine kg_X7_25 C sh_80 rfl dX7_quote_78 (n := 81) rfl ?_
            refine g_iload3 C dX7_quote_81 (n := 82) rfl ?_
            refine g_iald C (j := o0) sh_86 (by decide) (rfl) (by omega) dX7_quote_82 (n := 83) rfl ?_
            rw [hend]
            refine g_istore4 C dX7_quote_83 (n := 85) rfl ?_
            refine g_iconst C ic_0 dX7_quote_85 (n := 86) rfl ?_
            refine g_istore5 C dX7_quote_86 (n := 88) rfl ?_
            refine g_iload3 C dX7_quote_88 (n := 89) rfl ?_
            refine g_iconst C ic_1 dX7_quote_89 (n := 90) rfl ?_
            refine g_iadd C dX7_quote_90 (n := 91) rfl ?_
            refine g_istore6 C dX7_quote_91 (n := 93) rfl ?_
            have L_93 : ∀ (fu : Nat) (v : Nat) (u yv : Int32) (o7 : Option Value), e0 - v < fu → (yv = nI v) → (o0 + 1 ≤ v) → (v ≤ e0 ∨ v = o0 + 1) → (3 ≤ y0 → u = nI (ctR (qsel A.2.2.1 o0 y0) (o0 + 1) v)) → G p l e ({ frames := 4, cells := 0, slots := 0, locals := 92 }) s m ([.ref (z + 80), .int x, .int y] : List Value).toArray below meth c D cI cO z 8 (QM below D cI cO z ([.ref (z + 80), .int x, .int y] : List Value).toArray s SH (pI (fun r M1 => qtS A x y r ∧ absR M1 A ∧ fr79 M M1))) 0 0 SH M2 93 [some (.ref (z + 80)), some (.int x), some (.int y), some (.int (nI o0)), some (.int (nI e0)), some (.int u), some (.int yv), o7] [] := by
              intro fu_93
              induction fu_93 with
              | zero => intro v u yv o7 hfu; exact absurd hfu (Nat.not_lt_zero _)
              | succ fu_93 ih_93 =>
                intro v u yv o7 hfu_93 hyv hv1 hv2 hu
                refine g_iload6 C dX7_quote_93 (n := 95) rfl ?_
                refine g_iload4 C dX7_quote_95 (n := 97) rfl ?_
                refine g_icmp_ge C dX7_quote_97 (t := 225) (by decide) (n := 100) rfl (fun c_97 => ?_) (fun c_97 => ?_)
                · have w97 : ¬ v < e0 := fun h => c_97 ((qlt hyv (rfl : nI e0 = _) (by omega) (by omega)).mpr h)
                  have hqf : ∀ r, r = qfS A.2.2.1 (spn A.2.2.1) o0 y0 → qtS A x y r := fun r hr => Or.inr ⟨hno, Or.inr ⟨q, hxq, hq, Or.inr ⟨o0, hisq, by rw [hr, hy, tn_nI (by omega)]⟩⟩⟩
                  refine g_iload2 C dX7_quote_225 (n := 226) rfl ?_
                  refine g_if_ne C dX7_quote_226 (t := 233) (by decide) (n := 229) rfl (fun c_226 => ?_) (fun c_226 => ?_)
                  · have w226 : ¬ y0 = 0 := fun h => c_226 ((qeq hy nI_0.symm (by omega) (by decide)).mpr h)
                    refine g_iload2 C dX7_quote_233 (n := 234) rfl ?_
                    refine g_iconst C ic_1 dX7_quote_234 (n := 235) rfl ?_
                    refine g_icmp_ne C dX7_quote_235 (t := 247) (by decide) (n := 238) rfl (fun c_235 => ?_) (fun c_235 => ?_)
                    · have w235 : ¬ y0 = 1 := fun h => c_235 ((qeq hy (show (1 : Int32) = nI 1 from rfl) (by omega) (by decide)).mpr h)
                      refine g_iload2 C dX7_quote_247 (n := 248) rfl ?_
                      refine g_iconst C ic_2 dX7_quote_248 (n := 249) rfl ?_
                      refine g_icmp_ne C dX7_quote_249 (t := 261) (by decide) (n := 252) rfl (fun c_249 => ?_) (fun c_249 => ?_)
                      · have w249 : ¬ y0 = 2 := fun h => c_249 ((qeq hy (show (2 : Int32) = nI 2 from rfl) (by omega) (by decide)).mpr h)
                        have hfin := hqf u (by
                          rw [qf_sel (by omega), heq, hu (by omega)]
                          by_cases hve : v ≤ e0
                          · rw [show v = e0 by omega]
                          · have h1 : v = o0 + 1 := by omega
                            have h2 : e0 ≤ o0 := by omega
                            unfold ctR
                            have h3 := ctn_mono (qsel A.2.2.1 o0 y0) (show e0 ≤ o0 + 1 by omega)
                            rw [h1, Nat.sub_self, show ctn (qsel A.2.2.1 o0 y0) e0 - ctn (qsel A.2.2.1 o0 y0) (o0 + 1) = 0 by omega])
                        refine g_iload5 C dX7_quote_261 (n := 263) rfl ?_
                        refine r_I C dX7_quote_263 ?_
                        exact ⟨hfin, hab⟩
                      · have w249 : y0 = 2 := (qeq hy (show (2 : Int32) = nI 2 from rfl) (by omega) (by decide)).mp c_249
                        refine g_aload0 C dX7_quote_252 (n := 253) rfl ?_
                        refine kg_X7_22 C sh_80 rfl dX7_quote_253 (n := 256) rfl ?_
                        refine g_iload3 C dX7_quote_256 (n := 257) rfl ?_
                        refine g_iald C (j := o0) sh_85 (by decide) (rfl) (by omega) dX7_quote_257 (n := 258) rfl ?_
                        have hfin := hqf (M2 85 o0) (by unfold qfS; rw [if_neg w226, if_neg w235, if_pos w249, h2.2.2.2.1 o0 ho1, rD_s, if_pos hk3])
                        refine g_goto C dX7_quote_258 (t := 263) (by decide) ?_
                        refine r_I C dX7_quote_263 ?_
                        exact ⟨hfin, hab⟩
                    · have w235 : y0 = 1 := (qeq hy (show (1 : Int32) = nI 1 from rfl) (by omega) (by decide)).mp c_235
                      refine g_aload0 C dX7_quote_238 (n := 239) rfl ?_
                      refine kg_X7_25 C sh_80 rfl dX7_quote_239 (n := 242) rfl ?_
                      refine g_iload3 C dX7_quote_242 (n := 243) rfl ?_
                      refine g_iald C (j := o0) sh_86 (by decide) (rfl) (by omega) dX7_quote_243 (n := 244) rfl ?_
                      have hfin := hqf (M2 86 o0) (by unfold qfS; rw [if_neg w226, if_pos w235]; exact hpt)
                      refine g_goto C dX7_quote_244 (t := 263) (by decide) ?_
                      refine r_I C dX7_quote_263 ?_
                      exact ⟨hfin, hab⟩
                  · have w226 : y0 = 0 := (qeq hy nI_0.symm (by omega) (by decide)).mp c_226
                    refine g_iload3 C dX7_quote_229 (n := 230) rfl ?_
                    have hfin := hqf (nI o0) (by unfold qfS; rw [if_pos w226])
                    refine g_goto C dX7_quote_230 (t := 263) (by decide) ?_
                    refine r_I C dX7_quote_263 ?_
                    exact ⟨hfin, hab⟩
                · have w97 : v < e0 := (qlt hyv (rfl : nI e0 = _) (by omega) (by omega)).mp c_97
                  have J_202 : ∀ (b7 : Bool) (xb : Int32), (xb = bI b7) → (3 ≤ y0 → b7 = qsel A.2.2.1 o0 y0 v) → G p l e ({ frames := 4, cells := 0, slots := 0, locals := 92 }) s m ([.ref (z + 80), .int x, .int y] : List Value).toArray below meth c D cI cO z 8 (QM below D cI cO z ([.ref (z + 80), .int x, .int y] : List Value).toArray s SH (pI (fun r M1 => qtS A x y r ∧ absR M1 A ∧ fr79 M M1))) 0 0 SH M2 202 [some (.ref (z + 80)), some (.int x), some (.int y), some (.int (nI o0)), some (.int (nI e0)), some (.int u), some (.int yv), o7] [.int xb] := by
                    intro b7 xb hxb hb7
                    refine g_istore7 C dX7_quote_202 (n := 204) rfl ?_
                    refine g_iload5 C dX7_quote_204 (n := 206) rfl ?_
                    refine g_iload7 C dX7_quote_206 (n := 208) rfl ?_
                    refine g_if_eq C dX7_quote_208 (t := 215) (by decide) (n := 211) rfl (fun c_208 => ?_) (fun c_208 => ?_)
                    · have hb0 : b7 = false := bI_0.mp (hxb.symm.trans c_208)
                      have hun : 3 ≤ y0 → u + 0 = nI (ctR (qsel A.2.2.1 o0 y0) (o0 + 1) (v + 1)) := fun h => by rw [ctR_s (by omega), ← hb7 h, hb0, hu h]; exact nI_add _ 0
                      refine g_iconst C ic_0 dX7_quote_215 (n := 216) rfl ?_
                      refine g_iadd C dX7_quote_216 (n := 217) rfl ?_
                      refine g_istore5 C dX7_quote_217 (n := 219) rfl ?_
                      refine g_iinc6 C (inc_1 _) dX7_quote_219 (n := 222) rfl ?_
                      refine g_goto C dX7_quote_222 (t := 93) (by decide) ?_
                      exact ih_93 (v + 1) _ (yv + 1) _ (by omega) (by rw [hyv, nI_1]) (by omega) (Or.inl (by omega)) hun
                    · have hb1 : b7 = true := bI_n.mp (fun h => c_208 (hxb.trans h))
                      have hun : 3 ≤ y0 → u + 1 = nI (ctR (qsel A.2.2.1 o0 y0) (o0 + 1) (v + 1)) := fun h => by rw [ctR_s (by omega), ← hb7 h, hb1, hu h]; exact nI_1 _
                      refine g_iconst C ic_1 dX7_quote_211 (n := 212) rfl ?_
                      refine g_goto C dX7_quote_212 (t := 216) (by decide) ?_
                      refine g_iadd C dX7_quote_216 (n := 217) rfl ?_
                      refine g_istore5 C dX7_quote_217 (n := 219) rfl ?_
                      refine g_iinc6 C (inc_1 _) dX7_quote_219 (n := 222) rfl ?_
                      refine g_goto C dX7_quote_222 (t := 93) (by decide) ?_
                      exact ih_93 (v + 1) _ (yv + 1) _ (by omega) (by rw [hyv, nI_1]) (by omega) (Or.inl (by omega)) hun
                  refine g_iload2 C dX7_quote_100 (n := 101) rfl ?_
                  refine g_iconst C ic_3 dX7_quote_101 (n := 102) rfl ?_
                  refine g_icmp_ne C dX7_quote_102 (t := 123) (by decide) (n := 105) rfl (fun c_102 => ?_) (fun c_102 => ?_)
                  · have w102 : ¬ y0 = 3 := fun h => c_102 ((qeq hy (show (3 : Int32) = nI 3 from rfl) (by omega) (by decide)).mpr h)
                    refine g_iload2 C dX7_quote_123 (n := 124) rfl ?_
                    refine g_iconst C ic_4 dX7_quote_124 (n := 125) rfl ?_
                    refine g_icmp_ne C dX7_quote_125 (t := 162) (by decide) (n := 128) rfl (fun c_125 => ?_) (fun c_125 => ?_)
                    · have w125 : ¬ y0 = 4 := fun h => c_125 ((qeq hy (show (4 : Int32) = nI 4 from rfl) (by omega) (by decide)).mpr h)
                      refine g_iload2 C dX7_quote_162 (n := 163) rfl ?_
                      refine g_iconst C ic_5 dX7_quote_163 (n := 164) rfl ?_
                      refine g_icmp_ne C dX7_quote_164 (t := 186) (by decide) (n := 167) rfl (fun c_164 => ?_) (fun c_164 => ?_)
                      · have w164 : ¬ y0 = 5 := fun h => c_164 ((qeq hy (show (5 : Int32) = nI 5 from rfl) (by omega) (by decide)).mpr h)
                        refine g_aload0 C dX7_quote_186 (n := 187) rfl ?_
                        refine kg_X7_19 C sh_80 rfl dX7_quote_187 (n := 190) rfl ?_
                        refine g_iload6 C dX7_quote_190 (n := 192) rfl ?_
                        refine g_iald C (j := v) sh_84 (by decide) (hyv) (by omega) dX7_quote_192 (n := 193) rfl ?_
                        refine g_iconst C ic_3 dX7_quote_193 (n := 194) rfl ?_
                        refine g_icmp_ne C dX7_quote_194 (t := 201) (by decide) (n := 197) rfl (fun c_194 => ?_) (fun c_194 => ?_)
                        · have w194 : ¬ kd A.2.2.1 v = 3 := fun h => c_194 ((qeq (h2.2.2.1 v (by omega)) (show (3 : Int32) = nI 3 from rfl) (by have := kd_lt A.2.2.1 v; omega) (by decide)).mpr h)
                          have hb7v : (0 : Int32) = bI false ∧ (3 ≤ y0 → false = qsel A.2.2.1 o0 y0 v) := ⟨rfl, fun _ => by unfold qsel; rw [if_neg w102, if_neg w125, if_neg w164]; simp [w194]⟩
                          refine g_iconst C ic_0 dX7_quote_201 (n := 202) rfl ?_
                          exact J_202 _ _ hb7v.1 hb7v.2
                        · have w194 : kd A.2.2.1 v = 3 := (qeq (h2.2.2.1 v (by omega)) (show (3 : Int32) = nI 3 from rfl) (by have := kd_lt A.2.2.1 v; omega) (by decide)).mp c_194
                          have hb7v : (1 : Int32) = bI true ∧ (3 ≤ y0 → true = qsel A.2.2.1 o0 y0 v) := ⟨rfl, fun _ => by unfold qsel; rw [if_neg w102, if_neg w125, if_neg w164]; simp [w194]⟩
                          refine g_iconst C ic_1 dX7_quote_197 (n := 198) rfl ?_
                          refine g_goto C dX7_quote_198 (t := 202) (by decide) ?_
                          exact J_202 _ _ hb7v.1 hb7v.2
                      · have w164 : y0 = 5 := (qeq hy (show (5 : Int32) = nI 5 from rfl) (by omega) (by decide)).mp c_164
                        refine g_aload0 C dX7_quote_167 (n := 168) rfl ?_
                        refine kg_X7_19 C sh_80 rfl dX7_quote_168 (n := 171) rfl ?_
                        refine g_iload6 C dX7_quote_171 (n := 173) rfl ?_
                        refine g_iald C (j := v) sh_84 (by decide) (hyv) (by omega) dX7_quote_173 (n := 174) rfl ?_
                        refine g_iconst C ic_2 dX7_quote_174 (n := 175) rfl ?_
                        refine g_icmp_ne C dX7_quote_175 (t := 182) (by decide) (n := 178) rfl (fun c_175 => ?_) (fun c_175 => ?_)
                        · have w175 : ¬ kd A.2.2.1 v = 2 := fun h => c_175 ((qeq (h2.2.2.1 v (by omega)) (show (2 : Int32) = nI 2 from rfl) (by have := kd_lt A.2.2.1 v; omega) (by decide)).mpr h)
                          have hb7v : (0 : Int32) = bI false ∧ (3 ≤ y0 → false = qsel A.2.2.1 o0 y0 v) := ⟨rfl, fun _ => by unfold qsel; rw [if_neg w102, if_neg w125, if_pos w164]; simp [w175]⟩
                          refine g_iconst C ic_0 dX7_quote_182 (n := 183) rfl ?_
                          refine g_goto C dX7_quote_183 (t := 202) (by decide) ?_
                          exact J_202 _ _ hb7v.1 hb7v.2
                        · have w175 : kd A.2.2.1 v = 2 := (qeq (h2.2.2.1 v (by omega)) (show (2 : Int32) = nI 2 from rfl) (by have := kd_lt A.2.2.1 v; omega) (by decide)).mp c_175
                          have hb7v : (1 : Int32) = bI true ∧ (3 ≤ y0 → true = qsel A.2.2.1 o0 y0 v) := ⟨rfl, fun _ => by unfold qsel; rw [if_neg w102, if_neg w125, if_pos w164]; simp [w175]⟩
                          refine g_iconst C ic_1 dX7_quote_178 (n := 179) rfl ?_
                          refine g_goto C dX7_quote_179 (t := 202) (by decide) ?_
                          exact J_202 _ _ hb7v.1 hb7v.2
                    · have w125 : y0 = 4 := (qeq hy (show (4 : Int32) = nI 4 from rfl) (by omega) (by decide)).mp c_125
                      refine g_aload0 C dX7_quote_128 (n := 129) rfl ?_
                      refine kg_X7_19 C sh_80 rfl dX7_quote_129 (n := 132) rfl ?_
                      refine g_iload6 C dX7_quote_132 (n := 134) rfl ?_
                      refine g_iald C (j := v) sh_84 (by decide) (hyv) (by omega) dX7_quote_134 (n := 135) rfl ?_
                      refine g_if_ne C dX7_quote_135 (t := 158) (by decide) (n := 138) rfl (fun c_135 => ?_) (fun c_135 => ?_)
                      · have w135 : ¬ kd A.2.2.1 v = 0 := fun h => c_135 ((qeq (h2.2.2.1 v (by omega)) nI_0.symm (by have := kd_lt A.2.2.1 v; omega) (by decide)).mpr h)
                        have hb7v : (0 : Int32) = bI false ∧ (3 ≤ y0 → false = qsel A.2.2.1 o0 y0 v) := ⟨rfl, fun _ => by
                          unfold qsel; rw [if_neg w102, if_pos w125]
                          first | (simp [w135, w151]; done) | (simp [w135]; done)⟩
                        refine g_iconst C ic_0 dX7_quote_158 (n := 159) rfl ?_
                        refine g_goto C dX7_quote_159 (t := 202) (by decide) ?_
                        exact J_202 _ _ hb7v.1 hb7v.2
                      · have w135 : kd A.2.2.1 v = 0 := (qeq (h2.2.2.1 v (by omega)) nI_0.symm (by have := kd_lt A.2.2.1 v; omega) (by decide)).mp c_135
                        refine g_aload0 C dX7_quote_138 (n := 139) rfl ?_
                        refine kg_X7_22 C sh_80 rfl dX7_quote_139 (n := 142) rfl ?_
                        refine g_iload6 C dX7_quote_142 (n := 144) rfl ?_
                        refine g_iald C (j := v) sh_85 (by decide) (hyv) (by omega) dX7_quote_144 (n := 145) rfl ?_
                        refine g_aload0 C dX7_quote_145 (n := 146) rfl ?_
                        refine kg_X7_22 C sh_80 rfl dX7_quote_146 (n := 149) rfl ?_
                        refine g_iload3 C dX7_quote_149 (n := 150) rfl ?_
                        refine g_iald C (j := o0) sh_85 (by decide) (rfl) (by omega) dX7_quote_150 (n := 151) rfl ?_
                        refine g_icmp_ne C dX7_quote_151 (t := 158) (by decide) (n := 154) rfl (fun c_151 => ?_) (fun c_151 => ?_)
                        · have w151 : ¬ rD A.2.2.1 v = rD A.2.2.1 o0 + 1 := fun h => c_151 (by rw [h2.2.2.2.1 v (by omega), h2.2.2.2.1 o0 ho1, rD_s, if_neg (by omega), if_neg (by omega), rD_s, if_pos hk3, h])
                          have hb7v : (0 : Int32) = bI false ∧ (3 ≤ y0 → false = qsel A.2.2.1 o0 y0 v) := ⟨rfl, fun _ => by
                            unfold qsel; rw [if_neg w102, if_pos w125]
                            first | (simp [w135, w151]; done) | (simp [w135]; done)⟩
                          refine g_iconst C ic_0 dX7_quote_158 (n := 159) rfl ?_
                          refine g_goto C dX7_quote_159 (t := 202) (by decide) ?_
                          exact J_202 _ _ hb7v.1 hb7v.2
                        · have w151 : rD A.2.2.1 v = rD A.2.2.1 o0 + 1 := by
                            have h9 := (h2.2.2.2.1 v (by omega)).symm.trans (c_151.trans (h2.2.2.2.1 o0 ho1))
                            rw [rD_s, if_neg (by omega), if_neg (by omega), rD_s, if_pos hk3] at h9
                            exact (nI_eq (by have := rD_le A.2.2.1 v; omega) (by have := rD_le A.2.2.1 o0; omega)).mp h9
                          have hb7v : (1 : Int32) = bI true ∧ (3 ≤ y0 → true = qsel A.2.2.1 o0 y0 v) := ⟨rfl, fun _ => by unfold qsel; rw [if_neg w102, if_pos w125]; simp [w135, w151]⟩
                          refine g_iconst C ic_1 dX7_quote_154 (n := 155) rfl ?_
                          refine g_goto C dX7_quote_155 (t := 202) (by decide) ?_
                          exact J_202 _ _ hb7v.1 hb7v.2
                  · have w102 : y0 = 3 := (qeq hy (show (3 : Int32) = nI 3 from rfl) (by omega) (by decide)).mp c_102
                    refine g_aload0 C dX7_quote_105 (n := 106) rfl ?_
                    refine kg_X7_19 C sh_80 rfl dX7_quote_106 (n := 109) rfl ?_
                    refine g_iload6 C dX7_quote_109 (n := 111) rfl ?_
                    refine g_iald C (j := v) sh_84 (by decide) (hyv) (by omega) dX7_quote_111 (n := 112) rfl ?_
                    refine g_if_ne C dX7_quote_112 (t := 119) (by decide) (n := 115) rfl (fun c_112 => ?_) (fun c_112 => ?_)
                    · have w112 : ¬ kd A.2.2.1 v = 0 := fun h => c_112 ((qeq (h2.2.2.1 v (by omega)) nI_0.symm (by have := kd_lt A.2.2.1 v; omega) (by decide)).mpr h)
                      have hb7v : (0 : Int32) = bI false ∧ (3 ≤ y0 → false = qsel A.2.2.1 o0 y0 v) := ⟨rfl, fun _ => by unfold qsel; rw [if_pos w102]; simp [w112]⟩
                      refine g_iconst C ic_0 dX7_quote_119 (n := 120) rfl ?_
                      refine g_goto C dX7_quote_120 (t := 202) (by decide) ?_
                      exact J_202 _ _ hb7v.1 hb7v.2
                    · have w112 : kd A.2.2.1 v = 0 := (qeq (h2.2.2.1 v (by omega)) nI_0.symm (by have := kd_lt A.2.2.1 v; omega) (by decide)).mp c_112
                      have hb7v : (1 : Int32) = bI true ∧ (3 ≤ y0 → true = qsel A.2.2.1 o0 y0 v) := ⟨rfl, fun _ => by unfold qsel; rw [if_pos w102]; simp [w112]⟩
                      refine g_iconst C ic_1 dX7_quote_115 (n := 116) rfl ?_
                      refine g_goto C dX7_quote_116 (t := 202) (by decide) ?_
                      exact J_202 _ _ hb7v.1 hb7v.2
            exact L_93 (e0 + 1) (o0 + 1) 0 _ none (by omega) (nI_1 _) (by omega) (Or.inr rfl) (fun _ => by unfold ctR; rw [Nat.sub_self]; rfl)
          · have hend : M2 82 120 = nI e0 := by
              rw [h82, ← heq]; unfold enQ
              cases h : clo A.2.2.1 (spn A.2.2.1) o0 with
              | none => rfl
              | some e => rw [hpt, h] at c_64; exact absurd c_64 (nI_neg (by have := (clo_lt A.2.2.1 _ o0 e h).2; omega) (by decide))
            refine g_aload0 C dX7_quote_67 (n := 68) rfl ?_
            refine kg_X7_13 C sh_80 rfl dX7_quote_68 (n := 71) rfl ?_
            refine g_bipush C bp_120 dX7_quote_71 (n := 73) rfl ?_
            refine g_iald C (j := 120) sh_82 (by decide) (rfl) (by omega) dX7_quote_73 (n := 74) rfl ?_
            refine g_goto C dX7_quote_74 (t := 83) (by decide) ?_
            rw [hend]
            refine g_istore4 C dX7_quote_83 (n := 85) rfl ?_
            refine g_iconst C ic_0 dX7_quote_85 (n := 86) rfl ?_
            refine g_istore5 C dX7_quote_86 (n := 88) rfl ?_
            refine g_iload3 C dX7_quote_88 (n := 89) rfl ?_
            refine g_iconst C ic_1 dX7_quote_89 (n := 90) rfl ?_
            refine g_iadd C dX7_quote_90 (n := 91) rfl ?_
            refine g_istore6 C dX7_quote_91 (n := 93) rfl ?_
            have L_93 : ∀ (fu : Nat) (v : Nat) (u yv : Int32) (o7 : Option Value), e0 - v < fu → (yv = nI v) → (o0 + 1 ≤ v) → (v ≤ e0 ∨ v = o0 + 1) → (3 ≤ y0 → u = nI (ctR (qsel A.2.2.1 o0 y0) (o0 + 1) v)) → G p l e ({ frames := 4, cells := 0, slots := 0, locals := 92 }) s m ([.ref (z + 80), .int x, .int y] : List Value).toArray below meth c D cI cO z 8 (QM below D cI cO z ([.ref (z + 80), .int x, .int y] : List Value).toArray s SH (pI (fun r M1 => qtS A x y r ∧ absR M1 A ∧ fr79 M M1))) 0 0 SH M2 93 [some (.ref (z + 80)), some (.int x), some (.int y), some (.int (nI o0)), some (.int (nI e0)), some (.int u), some (.int yv), o7] [] := by
              intro fu_93
              induction fu_93 with
              | zero => intro v u yv o7 hfu; exact absurd hfu (Nat.not_lt_zero _)
              | succ fu_93 ih_93 =>
                intro v u yv o7 hfu_93 hyv hv1 hv2 hu
                refine g_iload6 C dX7_quote_93 (n := 95) rfl ?_
                refine g_iload4 C dX7_quote_95 (n := 97) rfl ?_
                refine g_icmp_ge C dX7_quote_97 (t := 225) (by decide) (n := 100) rfl (fun c_97 => ?_) (fun c_97 => ?_)
                · have w97 : ¬ v < e0 := fun h => c_97 ((qlt hyv (rfl : nI e0 = _) (by omega) (by omega)).mpr h)
                  have hqf : ∀ r, r = qfS A.2.2.1 (spn A.2.2.1) o0 y0 → qtS A x y r := fun r hr => Or.inr ⟨hno, Or.inr ⟨q, hxq, hq, Or.inr ⟨o0, hisq, by rw [hr, hy, tn_nI (by omega)]⟩⟩⟩
                  refine g_iload2 C dX7_quote_225 (n := 226) rfl ?_
                  refine g_if_ne C dX7_quote_226 (t := 233) (by decide) (n := 229) rfl (fun c_226 => ?_) (fun c_226 => ?_)
                  · have w226 : ¬ y0 = 0 := fun h => c_226 ((qeq hy nI_0.symm (by omega) (by decide)).mpr h)
                    refine g_iload2 C dX7_quote_233 (n := 234) rfl ?_
                    refine g_iconst C ic_1 dX7_quote_234 (n := 235) rfl ?_
                    refine g_icmp_ne C dX7_quote_235 (t := 247) (by decide) (n := 238) rfl (fun c_235 => ?_) (fun c_235 => ?_)
                    · have w235 : ¬ y0 = 1 := fun h => c_235 ((qeq hy (show (1 : Int32) = nI 1 from rfl) (by omega) (by decide)).mpr h)
                      refine g_iload2 C dX7_quote_247 (n := 248) rfl ?_
                      refine g_iconst C ic_2 dX7_quote_248 (n := 249) rfl ?_
                      refine g_icmp_ne C dX7_quote_249 (t := 261) (by decide) (n := 252) rfl (fun c_249 => ?_) (fun c_249 => ?_)
                      · have w249 : ¬ y0 = 2 := fun h => c_249 ((qeq hy (show (2 : Int32) = nI 2 from rfl) (by omega) (by decide)).mpr h)
                        have hfin := hqf u (by
                          rw [qf_sel (by omega), heq, hu (by omega)]
                          by_cases hve : v ≤ e0
                          · rw [show v = e0 by omega]
                          · have h1 : v = o0 + 1 := by omega
                            have h2 : e0 ≤ o0 := by omega
                            unfold ctR
                            have h3 := ctn_mono (qsel A.2.2.1 o0 y0) (show e0 ≤ o0 + 1 by omega)
                            rw [h1, Nat.sub_self, show ctn (qsel A.2.2.1 o0 y0) e0 - ctn (qsel A.2.2.1 o0 y0) (o0 + 1) = 0 by omega])
                        refine g_iload5 C dX7_quote_261 (n := 263) rfl ?_
                        refine r_I C dX7_quote_263 ?_
                        exact ⟨hfin, hab⟩
                      · have w249 : y0 = 2 := (qeq hy (show (2 : Int32) = nI 2 from rfl) (by omega) (by decide)).mp c_249
                        refine g_aload0 C dX7_quote_252 (n := 253) rfl ?_
                        refine kg_X7_22 C sh_80 rfl dX7_quote_253 (n := 256) rfl ?_
                        refine g_iload3 C dX7_quote_256 (n := 257) rfl ?_
                        refine g_iald C (j := o0) sh_85 (by decide) (rfl) (by omega) dX7_quote_257 (n := 258) rfl ?_
                        have hfin := hqf (M2 85 o0) (by unfold qfS; rw [if_neg w226, if_neg w235, if_pos w249, h2.2.2.2.1 o0 ho1, rD_s, if_pos hk3])
                        refine g_goto C dX7_quote_258 (t := 263) (by decide) ?_
                        refine r_I C dX7_quote_263 ?_
                        exact ⟨hfin, hab⟩
                    · have w235 : y0 = 1 := (qeq hy (show (1 : Int32) = nI 1 from rfl) (by omega) (by decide)).mp c_235
                      refine g_aload0 C dX7_quote_238 (n := 239) rfl ?_
                      refine kg_X7_25 C sh_80 rfl dX7_quote_239 (n := 242) rfl ?_
                      refine g_iload3 C dX7_quote_242 (n := 243) rfl ?_
                      refine g_iald C (j := o0) sh_86 (by decide) (rfl) (by omega) dX7_quote_243 (n := 244) rfl ?_
                      have hfin := hqf (M2 86 o0) (by unfold qfS; rw [if_neg w226, if_pos w235]; exact hpt)
                      refine g_goto C dX7_quote_244 (t := 263) (by decide) ?_
                      refine r_I C dX7_quote_263 ?_
                      exact ⟨hfin, hab⟩
                  · have w226 : y0 = 0 := (qeq hy nI_0.symm (by omega) (by decide)).mp c_226
                    refine g_iload3 C dX7_quote_229 (n := 230) rfl ?_
                    have hfin := hqf (nI o0) (by unfold qfS; rw [if_pos w226])
                    refine g_goto C dX7_quote_230 (t := 263) (by decide) ?_
                    refine r_I C dX7_quote_263 ?_
                    exact ⟨hfin, hab⟩
                · have w97 : v < e0 := (qlt hyv (rfl : nI e0 = _) (by omega) (by omega)).mp c_97
                  have J_202 : ∀ (b7 : Bool) (xb : Int32), (xb = bI b7) → (3 ≤ y0 → b7 = qsel A.2.2.1 o0 y0 v) → G p l e ({ frames := 4, cells := 0, slots := 0, locals := 92 }) s m ([.ref (z + 80), .int x, .int y] : List Value).toArray below meth c D cI cO z 8 (QM below D cI cO z ([.ref (z + 80), .int x, .int y] : List Value).toArray s SH (pI (fun r M1 => qtS A x y r ∧ absR M1 A ∧ fr79 M M1))) 0 0 SH M2 202 [some (.ref (z + 80)), some (.int x), some (.int y), some (.int (nI o0)), some (.int (nI e0)), some (.int u), some (.int yv), o7] [.int xb] := by
                    intro b7 xb hxb hb7
                    refine g_istore7 C dX7_quote_202 (n := 204) rfl ?_
                    refine g_iload5 C dX7_quote_204 (n := 206) rfl ?_
                    refine g_iload7 C dX7_quote_206 (n := 208) rfl ?_
                    refine g_if_eq C dX7_quote_208 (t := 215) (by decide) (n := 211) rfl (fun c_208 => ?_) (fun c_208 => ?_)
                    · have hb0 : b7 = false := bI_0.mp (hxb.symm.trans c_208)
                      have hun : 3 ≤ y0 → u + 0 = nI (ctR (qsel A.2.2.1 o0 y0) (o0 + 1) (v + 1)) := fun h => by rw [ctR_s (by omega), ← hb7 h, hb0, hu h]; exact nI_add _ 0
                      refine g_iconst C ic_0 dX7_quote_215 (n := 216) rfl ?_
                      refine g_iadd C dX7_quote_216 (n := 217) rfl ?_
                      refine g_istore5 C dX7_quote_217 (n := 219) rfl ?_
                      refine g_iinc6 C (inc_1 _) dX7_quote_219 (n := 222) rfl ?_
                      refine g_goto C dX7_quote_222 (t := 93) (by decide) ?_
                      exact ih_93 (v + 1) _ (yv + 1) _ (by omega) (by rw [hyv, nI_1]) (by omega) (Or.inl (by omega)) hun
                    · have hb1 : b7 = true := bI_n.mp (fun h => c_208 (hxb.trans h))
                      have hun : 3 ≤ y0 → u + 1 = nI (ctR (qsel A.2.2.1 o0 y0) (o0 + 1) (v + 1)) := fun h => by rw [ctR_s (by omega), ← hb7 h, hb1, hu h]; exact nI_1 _
                      refine g_iconst C ic_1 dX7_quote_211 (n := 212) rfl ?_
                      refine g_goto C dX7_quote_212 (t := 216) (by decide) ?_
                      refine g_iadd C dX7_quote_216 (n := 217) rfl ?_
                      refine g_istore5 C dX7_quote_217 (n := 219) rfl ?_
                      refine g_iinc6 C (inc_1 _) dX7_quote_219 (n := 222) rfl ?_
                      refine g_goto C dX7_quote_222 (t := 93) (by decide) ?_
                      exact ih_93 (v + 1) _ (yv + 1) _ (by omega) (by rw [hyv, nI_1]) (by omega) (Or.inl (by omega)) hun
                  refine g_iload2 C dX7_quote_100 (n := 101) rfl ?_
                  refine g_iconst C ic_3 dX7_quote_101 (n := 102) rfl ?_
                  refine g_icmp_ne C dX7_quote_102 (t := 123) (by decide) (n := 105) rfl (fun c_102 => ?_) (fun c_102 => ?_)
                  · have w102 : ¬ y0 = 3 := fun h => c_102 ((qeq hy (show (3 : Int32) = nI 3 from rfl) (by omega) (by decide)).mpr h)
                    refine g_iload2 C dX7_quote_123 (n := 124) rfl ?_
                    refine g_iconst C ic_4 dX7_quote_124 (n := 125) rfl ?_
                    refine g_icmp_ne C dX7_quote_125 (t := 162) (by decide) (n := 128) rfl (fun c_125 => ?_) (fun c_125 => ?_)
                    · have w125 : ¬ y0 = 4 := fun h => c_125 ((qeq hy (show (4 : Int32) = nI 4 from rfl) (by omega) (by decide)).mpr h)
                      refine g_iload2 C dX7_quote_162 (n := 163) rfl ?_
                      refine g_iconst C ic_5 dX7_quote_163 (n := 164) rfl ?_
                      refine g_icmp_ne C dX7_quote_164 (t := 186) (by decide) (n := 167) rfl (fun c_164 => ?_) (fun c_164 => ?_)
                      · have w164 : ¬ y0 = 5 := fun h => c_164 ((qeq hy (show (5 : Int32) = nI 5 from rfl) (by omega) (by decide)).mpr h)
                        refine g_aload0 C dX7_quote_186 (n := 187) rfl ?_
                        refine kg_X7_19 C sh_80 rfl dX7_quote_187 (n := 190) rfl ?_
                        refine g_iload6 C dX7_quote_190 (n := 192) rfl ?_
                        refine g_iald C (j := v) sh_84 (by decide) (hyv) (by omega) dX7_quote_192 (n := 193) rfl ?_
                        refine g_iconst C ic_3 dX7_quote_193 (n := 194) rfl ?_
                        refine g_icmp_ne C dX7_quote_194 (t := 201) (by decide) (n := 197) rfl (fun c_194 => ?_) (fun c_194 => ?_)
                        · have w194 : ¬ kd A.2.2.1 v = 3 := fun h => c_194 ((qeq (h2.2.2.1 v (by omega)) (show (3 : Int32) = nI 3 from rfl) (by have := kd_lt A.2.2.1 v; omega) (by decide)).mpr h)
                          have hb7v : (0 : Int32) = bI false ∧ (3 ≤ y0 → false = qsel A.2.2.1 o0 y0 v) := ⟨rfl, fun _ => by unfold qsel; rw [if_neg w102, if_neg w125, if_neg w164]; simp [w194]⟩
                          refine g_iconst C ic_0 dX7_quote_201 (n := 202) rfl ?_
                          exact J_202 _ _ hb7v.1 hb7v.2
                        · have w194 : kd A.2.2.1 v = 3 := (qeq (h2.2.2.1 v (by omega)) (show (3 : Int32) = nI 3 from rfl) (by have := kd_lt A.2.2.1 v; omega) (by decide)).mp c_194
                          have hb7v : (1 : Int32) = bI true ∧ (3 ≤ y0 → true = qsel A.2.2.1 o0 y0 v) := ⟨rfl, fun _ => by unfold qsel; rw [if_neg w102, if_neg w125, if_neg w164]; simp [w194]⟩
                          refine g_iconst C ic_1 dX7_quote_197 (n := 198) rfl ?_
                          refine g_goto C dX7_quote_198 (t := 202) (by decide) ?_
                          exact J_202 _ _ hb7v.1 hb7v.2
                      · have w164 : y0 = 5 := (qeq hy (show (5 : Int32) = nI 5 from rfl) (by omega) (by decide)).mp c_164
                        refine g_aload0 C dX7_quote_167 (n := 168) rfl ?_
                        refine kg_X7_19 C sh_80 rfl dX7_quote_168 (n := 171) rfl ?_
                        refine g_iload6 C dX7_quote_171 (n := 173) rfl ?_
                        refine g_iald C (j := v) sh_84 (by decide) (hyv) (by omega) dX7_quote_173 (n := 174) rfl ?_
                        refine g_iconst C ic_2 dX7_quote_174 (n := 175) rfl ?_
                        refine g_icmp_ne C dX7_quote_175 (t := 182) (by decide) (n := 178) rfl (fun c_175 => ?_) (fun c_175 => ?_)
                        · have w175 : ¬ kd A.2.2.1 v = 2 := fun h => c_175 ((qeq (h2.2.2.1 v (by omega)) (show (2 : Int32) = nI 2 from rfl) (by have := kd_lt A.2.2.1 v; omega) (by decide)).mpr h)
                          have hb7v : (0 : Int32) = bI false ∧ (3 ≤ y0 → false = qsel A.2.2.1 o0 y0 v) := ⟨rfl, fun _ => by unfold qsel; rw [if_neg w102, if_neg w125, if_pos w164]; simp [w175]⟩
                          refine g_iconst C ic_0 dX7_quote_182 (n := 183) rfl ?_
                          refine g_goto C dX7_quote_183 (t := 202) (by decide) ?_
                          exact J_202 _ _ hb7v.1 hb7v.2
                        · have w175 : kd A.2.2.1 v = 2 := (qeq (h2.2.2.1 v (by omega)) (show (2 : Int32) = nI 2 from rfl) (by have := kd_lt A.2.2.1 v; omega) (by decide)).mp c_175
                          have hb7v : (1 : Int32) = bI true ∧ (3 ≤ y0 → true = qsel A.2.2.1 o0 y0 v) := ⟨rfl, fun _ => by unfold qsel; rw [if_neg w102, if_neg w125, if_pos w164]; simp [w175]⟩
                          refine g_iconst C ic_1 dX7_quote_178 (n := 179) rfl ?_
                          refine g_goto C dX7_quote_179 (t := 202) (by decide) ?_
                          exact J_202 _ _ hb7v.1 hb7v.2
                    · have w125 : y0 = 4 := (qeq hy (show (4 : Int32) = nI 4 from rfl) (by omega) (by decide)).mp c_125
                      refine g_aload0 C dX7_quote_128 (n := 129) rfl ?_
                      refine kg_X7_19 C sh_80 rfl dX7_quote_129 (n := 132) rfl ?_
                      refine g_iload6 C dX7_quote_132 (n := 134) rfl ?_
                      refine g_iald C (j := v) sh_84 (by decide) (hyv) (by omega) dX7_quote_134 (n := 135) rfl ?_
                      refine g_if_ne C dX7_quote_135 (t := 158) (by decide) (n := 138) rfl (fun c_135 => ?_) (fun c_135 => ?_)
                      · have w135 : ¬ kd A.2.2.1 v = 0 := fun h => c_135 ((qeq (h2.2.2.1 v (by omega)) nI_0.symm (by have := kd_lt A.2.2.1 v; omega) (by decide)).mpr h)
                        have hb7v : (0 : Int32) = bI false ∧ (3 ≤ y0 → false = qsel A.2.2.1 o0 y0 v) := ⟨rfl, fun _ => by
                          unfold qsel; rw [if_neg w102, if_pos w125]
                          first | (simp [w135, w151]; done) | (simp [w135]; done)⟩
                        refine g_iconst C ic_0 dX7_quote_158 (n := 159) rfl ?_
                        refine g_goto C dX7_quote_159 (t := 202) (by decide) ?_
                        exact J_202 _ _ hb7v.1 hb7v.2
                      · have w135 : kd A.2.2.1 v = 0 := (qeq (h2.2.2.1 v (by omega)) nI_0.symm (by have := kd_lt A.2.2.1 v; omega) (by decide)).mp c_135
                        refine g_aload0 C dX7_quote_138 (n := 139) rfl ?_
                        refine kg_X7_22 C sh_80 rfl dX7_quote_139 (n := 142) rfl ?_
                        refine g_iload6 C dX7_quote_142 (n := 144) rfl ?_
                        refine g_iald C (j := v) sh_85 (by decide) (hyv) (by omega) dX7_quote_144 (n := 145) rfl ?_
                        refine g_aload0 C dX7_quote_145 (n := 146) rfl ?_
                        refine kg_X7_22 C sh_80 rfl dX7_quote_146 (n := 149) rfl ?_
                        refine g_iload3 C dX7_quote_149 (n := 150) rfl ?_
                        refine g_iald C (j := o0) sh_85 (by decide) (rfl) (by omega) dX7_quote_150 (n := 151) rfl ?_
                        refine g_icmp_ne C dX7_quote_151 (t := 158) (by decide) (n := 154) rfl (fun c_151 => ?_) (fun c_151 => ?_)
                        · have w151 : ¬ rD A.2.2.1 v = rD A.2.2.1 o0 + 1 := fun h => c_151 (by rw [h2.2.2.2.1 v (by omega), h2.2.2.2.1 o0 ho1, rD_s, if_neg (by omega), if_neg (by omega), rD_s, if_pos hk3, h])
                          have hb7v : (0 : Int32) = bI false ∧ (3 ≤ y0 → false = qsel A.2.2.1 o0 y0 v) := ⟨rfl, fun _ => by
                            unfold qsel; rw [if_neg w102, if_pos w125]
                            first | (simp [w135, w151]; done) | (simp [w135]; done)⟩
                          refine g_iconst C ic_0 dX7_quote_158 (n := 159) rfl ?_
                          refine g_goto C dX7_quote_159 (t := 202) (by decide) ?_
                          exact J_202 _ _ hb7v.1 hb7v.2
                        · have w151 : rD A.2.2.1 v = rD A.2.2.1 o0 + 1 := by
                            have h9 := (h2.2.2.2.1 v (by omega)).symm.trans (c_151.trans (h2.2.2.2.1 o0 ho1))
                            rw [rD_s, if_neg (by omega), if_neg (by omega), rD_s, if_pos hk3] at h9
                            exact (nI_eq (by have := rD_le A.2.2.1 v; omega) (by have := rD_le A.2.2.1 o0; omega)).mp h9
                          have hb7v : (1 : Int32) = bI true ∧ (3 ≤ y0 → true = qsel A.2.2.1 o0 y0 v) := ⟨rfl, fun _ => by unfold qsel; rw [if_neg w102, if_pos w125]; simp [w135, w151]⟩
                          refine g_iconst C ic_1 dX7_quote_154 (n := 155) rfl ?_
                          refine g_goto C dX7_quote_155 (t := 202) (by decide) ?_
                          exact J_202 _ _ hb7v.1 hb7v.2
                  · have w102 : y0 = 3 := (qeq hy (show (3 : Int32) = nI 3 from rfl) (by omega) (by decide)).mp c_102
                    refine g_aload0 C dX7_quote_105 (n := 106) rfl ?_
                    refine kg_X7_19 C sh_80 rfl dX7_quote_106 (n := 109) rfl ?_
                    refine g_iload6 C dX7_quote_109 (n := 111) rfl ?_
                    refine g_iald C (j := v) sh_84 (by decide) (hyv) (by omega) dX7_quote_111 (n := 112) rfl ?_
                    refine g_if_ne C dX7_quote_112 (t := 119) (by decide) (n := 115) rfl (fun c_112 => ?_) (fun c_112 => ?_)
                    · have w112 : ¬ kd A.2.2.1 v = 0 := fun h => c_112 ((qeq (h2.2.2.1 v (by omega)) nI_0.symm (by have := kd_lt A.2.2.1 v; omega) (by decide)).mpr h)
                      have hb7v : (0 : Int32) = bI false ∧ (3 ≤ y0 → false = qsel A.2.2.1 o0 y0 v) := ⟨rfl, fun _ => by unfold qsel; rw [if_pos w102]; simp [w112]⟩
                      refine g_iconst C ic_0 dX7_quote_119 (n := 120) rfl ?_
                      refine g_goto C dX7_quote_120 (t := 202) (by decide) ?_
                      exact J_202 _ _ hb7v.1 hb7v.2
                    · have w112 : kd A.2.2.1 v = 0 := (qeq (h2.2.2.1 v (by omega)) nI_0.symm (by have := kd_lt A.2.2.1 v; omega) (by decide)).mp c_112
                      have hb7v : (1 : Int32) = bI true ∧ (3 ≤ y0 → true = qsel A.2.2.1 o0 y0 v) := ⟨rfl, fun _ => by unfold qsel; rw [if_pos w102]; simp [w112]⟩
                      refine g_iconst C ic_1 dX7_quote_115 (n := 116) rfl ?_
                      refine g_goto C dX7_quote_116 (t := 202) (by decide) ?_
                      exact J_202 _ _ hb7v.1 hb7v.2
            exact L_93 (e0 + 1) (o0 + 1) 0 _ none (by omega) (nI_1 _) (by omega) (Or.inr rfl) (fun _ => by unfold ctR; rw [Nat.sub_self]; rfl)
        · have hge : ¬ q < ctn (kdIs A.2.2.1 3) (spn A.2.2.1) := fun h => c_32 ((qlt hxq h2.2.1.1 hq (by omega)).mpr h)
          refine g_iload1 C dX7_quote_35 (n := 36) rfl ?_
          refine g_if_ge C dX7_quote_36 (t := 46) (by decide) (n := 39) rfl (fun c_36 => ?_) (fun c_36 => ?_)
          · have hfin : qtS A x y (-4) := by
              refine Or.inr ⟨hno, Or.inr ?_⟩
              first | exact absurd c_24 c_36 | exact ⟨q, hxq, hq, Or.inl ⟨by omega, rfl⟩⟩
            refine g_bipush C bp_m4 dX7_quote_46 (n := 48) rfl ?_
            refine r_I C dX7_quote_48 ?_
            exact ⟨hfin, hab⟩
          · have hfin : qtS A x y (M2 80 11) := by
              refine Or.inr ⟨hno, Or.inl ⟨?_, h2.2.1.1⟩⟩
              first | exact hxm | exact absurd c_36 c_24
            refine g_aload0 C dX7_quote_39 (n := 40) rfl ?_
            refine kg_X7_105 C sh_80 rfl dX7_quote_40 (n := 43) rfl ?_
            refine g_goto C dX7_quote_43 (t := 48) (by decide) ?_
            refine r_I C dX7_quote_48 ?_
            exact ⟨hfin, hab⟩
    · have hbad : x < -1 ∨ y < 0 ∨ ¬ y < 7 := Or.inr ((inn.mp c_14).elim Or.inl (fun h => Or.inr (le6.mp h)))
      refine g_iconst C ic_m1 dX7_quote_17 (n := 18) rfl ?_
      refine r_I C dX7_quote_18 ?_
      exact ⟨Or.inl ⟨hbad, rfl⟩, hA, fun _ _ => rfl⟩
set_option maxHeartbeats 4000000 in
set_option maxRecDepth 100000 in
theorem ct_X7_paragraph {l : Launch} {D : va_G} {cI cO : ClassId} {z tP : Nat} {aK aV : Nat → Nat} (M : Mem) (A : Abs) (x y : Int32) (hA : absR M A) (hw : wfA A) : Cm l D cI cO z tP aK aV yX7_paragraph cX7_paragraph 7 (some .int) 4 92 [.ref (z + 80), .int x, .int y] SH M (pI (fun r M1 => paS A x y r ∧ absR M1 A ∧ fr79 M M1)) := by
  refine cm_intro (lv0 := [some (.ref (z + 80)), some (.int x), some (.int y), none, none, none, none]) (by decide) rfl (Nat.le_of_ble_eq_true rfl) rfl (fun p e s m below meth c C => ?_)
  have hwS := hw.2.1
  have hn120 := hwS.1
  have hsp := hA.2.2.1
  have hl6 := hw.2.2.1
  have htl := hw.1
  refine g_iload1 C dX7_paragraph_0 (n := 1) rfl ?_
  refine g_iconst C ic_m1 dX7_paragraph_1 (n := 2) rfl ?_
  refine g_icmp_lt C dX7_paragraph_2 (t := 17) (by decide) (n := 5) rfl (fun c_2 => ?_) (fun c_2 => ?_)
  · have hbad : x < -1 ∨ y < 0 ∨ ¬ y < 3 := Or.inl c_2
    refine g_iconst C ic_m1 dX7_paragraph_17 (n := 18) rfl ?_
    refine r_I C dX7_paragraph_18 ?_
    exact ⟨Or.inl ⟨hbad, rfl⟩, hA, fun _ _ => rfl⟩
  · have _u := True.intro
    refine g_iload2 C dX7_paragraph_5 (n := 6) rfl ?_
    refine g_i2l C dX7_paragraph_6 (n := 7) rfl ?_
    refine g_lconst C (v := Int32.toInt64 0) (by decide) dX7_paragraph_7 (n := 8) rfl ?_
    refine g_ldc2 C kl_X7_95 dX7_paragraph_8 (n := 11) rfl ?_
    refine kc_X7_50 C (ct_X7_in SH M y 0 2) ⟨Nat.le_of_ble_eq_true rfl, Nat.le_of_ble_eq_true rfl⟩ ⟨Nat.zero_le _, Nat.zero_le _⟩ (Nat.le_of_ble_eq_true rfl) dX7_paragraph_11 (n := 14) rfl (fun r_11 M_11 h_11 => ?_)
    rw [h_11.1, h_11.2]
    refine g_if_ne C dX7_paragraph_14 (t := 19) (by decide) (n := 17) rfl (fun c_14 => ?_) (fun c_14 => ?_)
    · have hb := inn'.mp c_14
      have hy3 : y < 3 := by
        by_cases h : y < 3
        · exact h
        · exact absurd (le2.mpr h) hb.2
      have hno : ¬ (x < -1 ∨ y < 0 ∨ ¬ y < 3) := by
        rintro (h | h | h)
        · exact c_2 h
        · exact hb.1 h
        · exact h hy3
      obtain ⟨y0, hy0, hy⟩ := ix_of (n := 3) hb.1 hy3 (by decide)
      refine g_aload0 C dX7_paragraph_19 (n := 20) rfl ?_
      refine kc_X7_126 C (ct_X7_read M A.2.2.1 hsp hwS) sh_80 ⟨Nat.le_of_ble_eq_true rfl, Nat.le_of_ble_eq_true rfl⟩ ⟨Nat.zero_le _, Nat.zero_le _⟩ (Nat.le_of_ble_eq_true rfl) dX7_paragraph_20 (n := 23) rfl (fun M2 h2 => ?_)
      have hab := absR_rd hA h2.2.2.2.2.2
      have h82 : M2 82 120 = nI (spn A.2.2.1) := by rw [h2.2.2.2.2.2.1 82 (by omega) (by omega)]; exact hsp.1
      have hct := ctn_le (kdIs A.2.2.1 2) (spn A.2.2.1)
      refine g_iconst C ic_0 dX7_paragraph_23 (n := 24) rfl ?_
      refine g_istore3 C dX7_paragraph_24 (n := 25) rfl ?_
      refine g_iconst C ic_0 dX7_paragraph_25 (n := 26) rfl ?_
      refine g_istore4 C dX7_paragraph_26 (n := 28) rfl ?_
      refine g_iconst C ic_0 dX7_paragraph_28 (n := 29) rfl ?_
      refine g_istore5 C dX7_paragraph_29 (n := 31) rfl ?_
      refine g_iconst C ic_0 dX7_paragraph_31 (n := 32) rfl ?_
      refine g_istore6 C dX7_paragraph_32 (n := 34) rfl ?_
      have L_34 : ∀ (fu : Nat) (v : Nat) (xp xd xn yv : Int32), spn A.2.2.1 - v < fu → (yv = nI v) → (v ≤ spn A.2.2.1) → (xp = nI (ctn (kdIs A.2.2.1 2) v)) → (dIv A.2.2.1 x v xd) → (xn = nI (ctn (psel A.2.2.1 y0 x) v)) → G p l e ({ frames := 4, cells := 0, slots := 0, locals := 92 }) s m ([.ref (z + 80), .int x, .int y] : List Value).toArray below meth c D cI cO z 7 (QM below D cI cO z ([.ref (z + 80), .int x, .int y] : List Value).toArray s SH (pI (fun r M1 => paS A x y r ∧ absR M1 A ∧ fr79 M M1))) 0 0 SH M2 34 [some (.ref (z + 80)), some (.int x), some (.int y), some (.int xp), some (.int xd), some (.int xn), some (.int yv)] [] := by
        intro fu_34
        induction fu_34 with
        | zero => intro v xp xd xn yv hfu; exact absurd hfu (Nat.not_lt_zero _)
        | succ fu_34 ih_34 =>
          intro v xp xd xn yv hfu_34 hyv hv hxp hxd hxn
          refine g_iload6 C dX7_paragraph_34 (n := 36) rfl ?_
          have hcv := ctn_le (kdIs A.2.2.1 2) v
          have hcq := ctn_le (psel A.2.2.1 y0 x) v
          refine g_aload0 C dX7_paragraph_36 (n := 37) rfl ?_
          refine kg_X7_13 C sh_80 rfl dX7_paragraph_37 (n := 40) rfl ?_
          refine g_bipush C bp_120 dX7_paragraph_40 (n := 42) rfl ?_
          refine g_iald C (j := 120) sh_82 (by decide) (rfl) (by omega) dX7_paragraph_42 (n := 43) rfl ?_
          refine g_icmp_ge C dX7_paragraph_43 (t := 134) (by decide) (n := 46) rfl (fun c_43 => ?_) (fun c_43 => ?_)
          · have w43 : ¬ v < spn A.2.2.1 := fun h => c_43 ((qlt hyv h82 (by omega) (by omega)).mpr h)
            have hve : v = spn A.2.2.1 := by omega
            rw [hve] at hxp hxd hxn
            refine g_iload1 C dX7_paragraph_134 (n := 135) rfl ?_
            refine g_if_ge C dX7_paragraph_135 (t := 144) (by decide) (n := 138) rfl (fun c_135 => ?_) (fun c_135 => ?_)
            · obtain ⟨q, hq, hxq⟩ := nI_of c_135
              refine g_iload1 C dX7_paragraph_144 (n := 145) rfl ?_
              refine g_iload3 C dX7_paragraph_145 (n := 146) rfl ?_
              refine g_icmp_le C dX7_paragraph_146 (t := 154) (by decide) (n := 149) rfl (fun c_146 => ?_) (fun c_146 => ?_)
              · have hle : q ≤ ctn (kdIs A.2.2.1 2) (spn A.2.2.1) := Nat.le_of_not_lt (fun h => c_146 ((qlt hxp hxq (by omega) hq).mpr h))
                refine g_iload2 C dX7_paragraph_154 (n := 155) rfl ?_
                refine g_if_ne C dX7_paragraph_155 (t := 163) (by decide) (n := 158) rfl (fun c_155 => ?_) (fun c_155 => ?_)
                · have w155 : ¬ y0 = 0 := fun h => c_155 ((qeq hy nI_0.symm (by omega) (by decide)).mpr h)
                  have hfin : paS A x y xn := Or.inr ⟨hno, Or.inr ⟨q, hxq, hq, Or.inr ⟨hle, by rw [hy, tn_nI (by omega)]; rw [hxq] at hxn; exact psel_end (by omega) hq hn120 hxn⟩⟩⟩
                  refine g_iload5 C dX7_paragraph_163 (n := 165) rfl ?_
                  refine r_I C dX7_paragraph_165 ?_
                  exact ⟨hfin, hab⟩
                · have w155 : y0 = 0 := (qeq hy nI_0.symm (by omega) (by decide)).mp c_155
                  have hfin : paS A x y xd := Or.inr ⟨hno, Or.inr ⟨q, hxq, hq, Or.inr ⟨hle, by rw [hy, tn_nI (by omega), w155]; rw [hxq] at hxd; exact dIv_end hxd hle hn120⟩⟩⟩
                  refine g_iload4 C dX7_paragraph_158 (n := 160) rfl ?_
                  refine g_goto C dX7_paragraph_160 (t := 165) (by decide) ?_
                  refine r_I C dX7_paragraph_165 ?_
                  exact ⟨hfin, hab⟩
              · have hgt : ctn (kdIs A.2.2.1 2) (spn A.2.2.1) < q := (qlt hxp hxq (by omega) hq).mp c_146
                have hfin : paS A x y (-4) := Or.inr ⟨hno, Or.inr ⟨q, hxq, hq, Or.inl ⟨hgt, rfl⟩⟩⟩
                refine g_bipush C bp_m4 dX7_paragraph_149 (n := 151) rfl ?_
                refine g_goto C dX7_paragraph_151 (t := 165) (by decide) ?_
                refine r_I C dX7_paragraph_165 ?_
                exact ⟨hfin, hab⟩
            · have hxm : x = -1 := by
                rcases m1_cases c_2 with h | ⟨q, hq, h⟩
                · exact h
                · exact absurd c_135 (by rw [h]; exact nI_pos hq)
              have hfin : paS A x y (xp + 1) := Or.inr ⟨hno, Or.inl ⟨hxm, by rw [hxp, nI_1]⟩⟩
              refine g_iload3 C dX7_paragraph_138 (n := 139) rfl ?_
              refine g_iconst C ic_1 dX7_paragraph_139 (n := 140) rfl ?_
              refine g_iadd C dX7_paragraph_140 (n := 141) rfl ?_
              refine g_goto C dX7_paragraph_141 (t := 165) (by decide) ?_
              refine r_I C dX7_paragraph_165 ?_
              exact ⟨hfin, hab⟩
          · have w43 : v < spn A.2.2.1 := (qlt hyv h82 (by omega) (by omega)).mp c_43
            have J_128 : ∀ (xp2 xd2 xn2 : Int32), (xp2 = nI (ctn (kdIs A.2.2.1 2) (v + 1))) → (dIv A.2.2.1 x (v + 1) xd2) → (xn2 = nI (ctn (psel A.2.2.1 y0 x) (v + 1))) → G p l e ({ frames := 4, cells := 0, slots := 0, locals := 92 }) s m ([.ref (z + 80), .int x, .int y] : List Value).toArray below meth c D cI cO z 7 (QM below D cI cO z ([.ref (z + 80), .int x, .int y] : List Value).toArray s SH (pI (fun r M1 => paS A x y r ∧ absR M1 A ∧ fr79 M M1))) 0 0 SH M2 128 [some (.ref (z + 80)), some (.int x), some (.int y), some (.int xp2), some (.int xd2), some (.int xn2), some (.int yv)] [] := by
              intro xp2 xd2 xn2 hp2 hd2 hn2
              refine g_iinc6 C (inc_1 _) dX7_paragraph_128 (n := 131) rfl ?_
              refine g_goto C dX7_paragraph_131 (t := 34) (by decide) ?_
              exact ih_34 (v + 1) _ _ _ (yv + 1) (by omega) (by rw [hyv, nI_1]) (by omega) hp2 hd2 hn2
            refine g_aload0 C dX7_paragraph_46 (n := 47) rfl ?_
            refine kg_X7_19 C sh_80 rfl dX7_paragraph_47 (n := 50) rfl ?_
            refine g_iload6 C dX7_paragraph_50 (n := 52) rfl ?_
            refine g_iald C (j := v) sh_84 (by decide) (hyv) (by omega) dX7_paragraph_52 (n := 53) rfl ?_
            refine g_iconst C ic_2 dX7_paragraph_53 (n := 54) rfl ?_
            refine g_icmp_ne C dX7_paragraph_54 (t := 82) (by decide) (n := 57) rfl (fun c_54 => ?_) (fun c_54 => ?_)
            · have w54 : ¬ kd A.2.2.1 v = 2 := fun h => c_54 ((qeq (h2.2.2.1 v w43) (show (2 : Int32) = nI 2 from rfl) (by have := kd_lt A.2.2.1 v; omega) (by decide)).mpr h)
              have hp9 : xp = nI (ctn (kdIs A.2.2.1 2) (v + 1)) := by rw [ctn_no (by simp [w54])]; exact hxp
              have hd9 := dIv_n hxd w54
              have hkv := h2.2.2.1 v w43
              refine g_iload3 C dX7_paragraph_82 (n := 83) rfl ?_
              refine g_iload1 C dX7_paragraph_83 (n := 84) rfl ?_
              refine g_icmp_ne C dX7_paragraph_84 (t := 128) (by decide) (n := 87) rfl (fun c_84 => ?_) (fun c_84 => ?_)
              · have h128 : xp = nI (ctn (kdIs A.2.2.1 2) (v + 1)) ∧ dIv A.2.2.1 x (v + 1) xd ∧ xn = nI (ctn (psel A.2.2.1 y0 x) (v + 1)) := ⟨hp9, hd9, by rw [ctn_no (by unfold psel; simp; intro _ h; exact c_84 (hxp.trans h))]; exact hxn⟩
                exact J_128 _ _ _ h128.1 h128.2.1 h128.2.2
              · have hpx : nI (ctn (kdIs A.2.2.1 2) v) = x := hxp.symm.trans c_84
                refine g_iload5 C dX7_paragraph_87 (n := 89) rfl ?_
                refine g_iload2 C dX7_paragraph_89 (n := 90) rfl ?_
                refine g_iconst C ic_1 dX7_paragraph_90 (n := 91) rfl ?_
                refine g_icmp_ne C dX7_paragraph_91 (t := 104) (by decide) (n := 94) rfl (fun c_91 => ?_) (fun c_91 => ?_)
                · have w91 : ¬ y0 = 1 := fun h => c_91 ((qeq hy (show (1 : Int32) = nI 1 from rfl) (by omega) (by decide)).mpr h)
                  refine g_iload2 C dX7_paragraph_104 (n := 105) rfl ?_
                  refine g_iconst C ic_2 dX7_paragraph_105 (n := 106) rfl ?_
                  refine g_icmp_ne C dX7_paragraph_106 (t := 124) (by decide) (n := 109) rfl (fun c_106 => ?_) (fun c_106 => ?_)
                  · have w106 : ¬ y0 = 2 := fun h => c_106 ((qeq hy (show (2 : Int32) = nI 2 from rfl) (by omega) (by decide)).mpr h)
                    have h128 : xp = nI (ctn (kdIs A.2.2.1 2) (v + 1)) ∧ dIv A.2.2.1 x (v + 1) xd ∧ xn + 0 = nI (ctn (psel A.2.2.1 y0 x) (v + 1)) := ⟨hp9, hd9, by
                      rw [ctn_no, hxn]
                      · exact nI_add _ 0
                      · unfold psel
                        first | (simp [w91, w101, w106, w117]; done) | (simp [w91, w101, w106]; done) | (simp [w91, w106, w117]; done) | (simp [w91, w106]; done)⟩
                    refine g_iconst C ic_0 dX7_paragraph_124 (n := 125) rfl ?_
                    refine g_iadd C dX7_paragraph_125 (n := 126) rfl ?_
                    refine g_istore5 C dX7_paragraph_126 (n := 128) rfl ?_
                    exact J_128 _ _ _ h128.1 h128.2.1 h128.2.2
                  · have w106 : y0 = 2 := (qeq hy (show (2 : Int32) = nI 2 from rfl) (by omega) (by decide)).mp c_106
                    refine g_aload0 C dX7_paragraph_109 (n := 110) rfl ?_
                    refine kg_X7_19 C sh_80 rfl dX7_paragraph_110 (n := 113) rfl ?_
                    refine g_iload6 C dX7_paragraph_113 (n := 115) rfl ?_
                    refine g_iald C (j := v) sh_84 (by decide) (hyv) (by omega) dX7_paragraph_115 (n := 116) rfl ?_
                    refine g_iconst C ic_5 dX7_paragraph_116 (n := 117) rfl ?_
                    refine g_icmp_ne C dX7_paragraph_117 (t := 124) (by decide) (n := 120) rfl (fun c_117 => ?_) (fun c_117 => ?_)
                    · have w117 : ¬ kd A.2.2.1 v = 5 := fun h => c_117 ((qeq hkv (show (5 : Int32) = nI 5 from rfl) (by have := kd_lt A.2.2.1 v; omega) (by decide)).mpr h)
                      have h128 : xp = nI (ctn (kdIs A.2.2.1 2) (v + 1)) ∧ dIv A.2.2.1 x (v + 1) xd ∧ xn + 0 = nI (ctn (psel A.2.2.1 y0 x) (v + 1)) := ⟨hp9, hd9, by
                        rw [ctn_no, hxn]
                        · exact nI_add _ 0
                        · unfold psel
                          first | (simp [w91, w101, w106, w117]; done) | (simp [w91, w101, w106]; done) | (simp [w91, w106, w117]; done) | (simp [w91, w106]; done)⟩
                      refine g_iconst C ic_0 dX7_paragraph_124 (n := 125) rfl ?_
                      refine g_iadd C dX7_paragraph_125 (n := 126) rfl ?_
                      refine g_istore5 C dX7_paragraph_126 (n := 128) rfl ?_
                      exact J_128 _ _ _ h128.1 h128.2.1 h128.2.2
                    · have w117 : kd A.2.2.1 v = 5 := (qeq hkv (show (5 : Int32) = nI 5 from rfl) (by have := kd_lt A.2.2.1 v; omega) (by decide)).mp c_117
                      have h128 : xp = nI (ctn (kdIs A.2.2.1 2) (v + 1)) ∧ dIv A.2.2.1 x (v + 1) xd ∧ xn + 1 = nI (ctn (psel A.2.2.1 y0 x) (v + 1)) := ⟨hp9, hd9, by
                        rw [ctn_yes, hxn, nI_1]
                        unfold psel
                        first | (simp [hpx, w91, w101]; done) | (simp [hpx, w106, w117]; done)⟩
                      refine g_iconst C ic_1 dX7_paragraph_120 (n := 121) rfl ?_
                      refine g_goto C dX7_paragraph_121 (t := 125) (by decide) ?_
                      refine g_iadd C dX7_paragraph_125 (n := 126) rfl ?_
                      refine g_istore5 C dX7_paragraph_126 (n := 128) rfl ?_
                      exact J_128 _ _ _ h128.1 h128.2.1 h128.2.2
                · have w91 : y0 = 1 := (qeq hy (show (1 : Int32) = nI 1 from rfl) (by omega) (by decide)).mp c_91
                  refine g_aload0 C dX7_paragraph_94 (n := 95) rfl ?_
                  refine kg_X7_19 C sh_80 rfl dX7_paragraph_95 (n := 98) rfl ?_
                  refine g_iload6 C dX7_paragraph_98 (n := 100) rfl ?_
                  refine g_iald C (j := v) sh_84 (by decide) (hyv) (by omega) dX7_paragraph_100 (n := 101) rfl ?_
                  refine g_if_eq C dX7_paragraph_101 (t := 120) (by decide) (n := 104) rfl (fun c_101 => ?_) (fun c_101 => ?_)
                  · have w101 : kd A.2.2.1 v = 0 := (qeq hkv nI_0.symm (by have := kd_lt A.2.2.1 v; omega) (by decide)).mp c_101
                    have h128 : xp = nI (ctn (kdIs A.2.2.1 2) (v + 1)) ∧ dIv A.2.2.1 x (v + 1) xd ∧ xn + 1 = nI (ctn (psel A.2.2.1 y0 x) (v + 1)) := ⟨hp9, hd9, by
                      rw [ctn_yes, hxn, nI_1]
                      unfold psel
                      first | (simp [hpx, w91, w101]; done) | (simp [hpx, w106, w117]; done)⟩
                    refine g_iconst C ic_1 dX7_paragraph_120 (n := 121) rfl ?_
                    refine g_goto C dX7_paragraph_121 (t := 125) (by decide) ?_
                    refine g_iadd C dX7_paragraph_125 (n := 126) rfl ?_
                    refine g_istore5 C dX7_paragraph_126 (n := 128) rfl ?_
                    exact J_128 _ _ _ h128.1 h128.2.1 h128.2.2
                  · have w101 : ¬ kd A.2.2.1 v = 0 := fun h => c_101 ((qeq hkv nI_0.symm (by have := kd_lt A.2.2.1 v; omega) (by decide)).mpr h)
                    refine g_iload2 C dX7_paragraph_104 (n := 105) rfl ?_
                    refine g_iconst C ic_2 dX7_paragraph_105 (n := 106) rfl ?_
                    refine g_icmp_ne C dX7_paragraph_106 (t := 124) (by decide) (n := 109) rfl (fun c_106 => ?_) (fun c_106 => ?_)
                    · have w106 : ¬ y0 = 2 := fun h => c_106 ((qeq hy (show (2 : Int32) = nI 2 from rfl) (by omega) (by decide)).mpr h)
                      have h128 : xp = nI (ctn (kdIs A.2.2.1 2) (v + 1)) ∧ dIv A.2.2.1 x (v + 1) xd ∧ xn + 0 = nI (ctn (psel A.2.2.1 y0 x) (v + 1)) := ⟨hp9, hd9, by
                        rw [ctn_no, hxn]
                        · exact nI_add _ 0
                        · unfold psel
                          first | (simp [w91, w101, w106, w117]; done) | (simp [w91, w101, w106]; done) | (simp [w91, w106, w117]; done) | (simp [w91, w106]; done)⟩
                      refine g_iconst C ic_0 dX7_paragraph_124 (n := 125) rfl ?_
                      refine g_iadd C dX7_paragraph_125 (n := 126) rfl ?_
                      refine g_istore5 C dX7_paragraph_126 (n := 128) rfl ?_
                      exact J_128 _ _ _ h128.1 h128.2.1 h128.2.2
                    · have w106 : y0 = 2 := (qeq hy (show (2 : Int32) = nI 2 from rfl) (by omega) (by decide)).mp c_106
                      refine g_aload0 C dX7_paragraph_109 (n := 110) rfl ?_
                      refine kg_X7_19 C sh_80 rfl dX7_paragraph_110 (n := 113) rfl ?_
                      refine g_iload6 C dX7_paragraph_113 (n := 115) rfl ?_
                      refine g_iald C (j := v) sh_84 (by decide) (hyv) (by omega) dX7_paragraph_115 (n := 116) rfl ?_
                      refine g_iconst C ic_5 dX7_paragraph_116 (n := 117) rfl ?_
                      refine g_icmp_ne C dX7_paragraph_117 (t := 124) (by decide) (n := 120) rfl (fun c_117 => ?_) (fun c_117 => ?_)
                      · have w117 : ¬ kd A.2.2.1 v = 5 := fun h => c_117 ((qeq hkv (show (5 : Int32) = nI 5 from rfl) (by have := kd_lt A.2.2.1 v; omega) (by decide)).mpr h)
                        have h128 : xp = nI (ctn (kdIs A.2.2.1 2) (v + 1)) ∧ dIv A.2.2.1 x (v + 1) xd ∧ xn + 0 = nI (ctn (psel A.2.2.1 y0 x) (v + 1)) := ⟨hp9, hd9, by
                          rw [ctn_no, hxn]
                          · exact nI_add _ 0
                          · unfold psel
                            first | (simp [w91, w101, w106, w117]; done) | (simp [w91, w101, w106]; done) | (simp [w91, w106, w117]; done) | (simp [w91, w106]; done)⟩
                        refine g_iconst C ic_0 dX7_paragraph_124 (n := 125) rfl ?_
                        refine g_iadd C dX7_paragraph_125 (n := 126) rfl ?_
                        refine g_istore5 C dX7_paragraph_126 (n := 128) rfl ?_
                        exact J_128 _ _ _ h128.1 h128.2.1 h128.2.2
                      · have w117 : kd A.2.2.1 v = 5 := (qeq hkv (show (5 : Int32) = nI 5 from rfl) (by have := kd_lt A.2.2.1 v; omega) (by decide)).mp c_117
                        have h128 : xp = nI (ctn (kdIs A.2.2.1 2) (v + 1)) ∧ dIv A.2.2.1 x (v + 1) xd ∧ xn + 1 = nI (ctn (psel A.2.2.1 y0 x) (v + 1)) := ⟨hp9, hd9, by
                          rw [ctn_yes, hxn, nI_1]
                          unfold psel
                          first | (simp [hpx, w91, w101]; done) | (simp [hpx, w106, w117]; done)⟩
                        refine g_iconst C ic_1 dX7_paragraph_120 (n := 121) rfl ?_
                        refine g_goto C dX7_paragraph_121 (t := 125) (by decide) ?_
                        refine g_iadd C dX7_paragraph_125 (n := 126) rfl ?_
                        refine g_istore5 C dX7_paragraph_126 (n := 128) rfl ?_
                        exact J_128 _ _ _ h128.1 h128.2.1 h128.2.2
            · have w54 : kd A.2.2.1 v = 2 := (qeq (h2.2.2.1 v w43) (show (2 : Int32) = nI 2 from rfl) (by have := kd_lt A.2.2.1 v; omega) (by decide)).mp c_54
              refine g_iinc3 C (inc_1 _) dX7_paragraph_57 (n := 60) rfl ?_
              have hp9 : xp + 1 = nI (ctn (kdIs A.2.2.1 2) (v + 1)) := by rw [ctn_yes (by simp [w54]), hxp, nI_1]
              have hn9 : xn = nI (ctn (psel A.2.2.1 y0 x) (v + 1)) := by rw [ctn_no (by unfold psel; simp [w54])]; exact hxn
              have hp8 : xp + 1 = nI (ctn (kdIs A.2.2.1 2) v + 1) := by rw [hxp, nI_1]
              refine g_iload3 C dX7_paragraph_60 (n := 61) rfl ?_
              refine g_iload1 C dX7_paragraph_61 (n := 62) rfl ?_
              refine g_icmp_ne C dX7_paragraph_62 (t := 75) (by decide) (n := 65) rfl (fun c_62 => ?_) (fun c_62 => ?_)
              · have _u := True.intro
                have h128 : xp + 1 = nI (ctn (kdIs A.2.2.1 2) (v + 1)) ∧ dIv A.2.2.1 x (v + 1) xd ∧ xn = nI (ctn (psel A.2.2.1 y0 x) (v + 1)) := ⟨hp9, dIv_no hxd (fun h => c_62 (hp8.trans h)), hn9⟩
                refine g_iload4 C dX7_paragraph_75 (n := 77) rfl ?_
                refine g_istore4 C dX7_paragraph_77 (n := 79) rfl ?_
                refine g_goto C dX7_paragraph_79 (t := 128) (by decide) ?_
                exact J_128 _ _ _ h128.1 h128.2.1 h128.2.2
              · have _u := True.intro
                refine g_aload0 C dX7_paragraph_65 (n := 66) rfl ?_
                refine kg_X7_22 C sh_80 rfl dX7_paragraph_66 (n := 69) rfl ?_
                refine g_iload6 C dX7_paragraph_69 (n := 71) rfl ?_
                refine g_iald C (j := v) sh_85 (by decide) (hyv) (by omega) dX7_paragraph_71 (n := 72) rfl ?_
                have h128 : xp + 1 = nI (ctn (kdIs A.2.2.1 2) (v + 1)) ∧ dIv A.2.2.1 x (v + 1) (M2 85 v) ∧ xn = nI (ctn (psel A.2.2.1 y0 x) (v + 1)) := ⟨hp9, Or.inl ⟨v, by omega, w54, hp8.symm.trans c_62, h2.2.2.2.1 v w43⟩, hn9⟩
                refine g_goto C dX7_paragraph_72 (t := 77) (by decide) ?_
                refine g_istore4 C dX7_paragraph_77 (n := 79) rfl ?_
                refine g_goto C dX7_paragraph_79 (t := 128) (by decide) ?_
                exact J_128 _ _ _ h128.1 h128.2.1 h128.2.2
      exact L_34 (spn A.2.2.1 + 1) 0 0 0 0 0 (by omega) nI_0.symm (by omega) nI_0.symm (Or.inr ⟨fun b hb => absurd hb (Nat.not_lt_zero _), rfl⟩) nI_0.symm
    · have hbad : x < -1 ∨ y < 0 ∨ ¬ y < 3 := Or.inr ((inn.mp c_14).elim Or.inl (fun h => Or.inr (le2.mp h)))
      refine g_iconst C ic_m1 dX7_paragraph_17 (n := 18) rfl ?_
      refine r_I C dX7_paragraph_18 ?_
      exact ⟨Or.inl ⟨hbad, rfl⟩, hA, fun _ _ => rfl⟩
