/-! the class follows the least way -/
def WY (M : Mem) (x : Way) : Prop := M 64 8 = nI x.1.1 ∧ M 64 9 = nI (7 * x.1.2.1 + x.1.2.2) ∧ M 64 6 = nI x.2.1.length ∧ (∀ j q, x.2.1[j]? = some q → M 77 j = q) ∧ ∀ j, j < 3 → M 79 j = nI (x.2.2 j)
abbrev frW (M M1 : Mem) : Prop := (∀ a, a ≠ 64 → a ≠ 77 → a ≠ 79 → M1 a = M a) ∧ ∀ j, j ≠ 6 → j ≠ 8 → j ≠ 9 → M1 64 j = M 64 j
theorem frW_t {M M1 M2 : Mem} (h : frW M M1) (g : frW M1 M2) : frW M M2 := ⟨fun a a1 a2 a3 => by rw [g.1 a a1 a2 a3]; exact h.1 a a1 a2 a3, fun j j1 j2 j3 => by rw [g.2 j j1 j2 j3]; exact h.2 j j1 j2 j3⟩
theorem MC_W {M M1 : Mem} {S : Spt} (h : MC M S) (f : frW M M1) : MC M1 S := by
  unfold MC at *
  rw [f.2 2 (by omega) (by omega) (by omega), f.1 71 (by omega) (by omega) (by omega), f.1 73 (by omega) (by omega) (by omega), f.1 65 (by omega) (by omega) (by omega)]
  exact ⟨h.1, h.2.1, h.2.2.1, GOK_cong (f.1 67 (by omega) (by omega) (by omega)) (f.1 69 (by omega) (by omega) (by omega)) h.2.2.2.1, h.2.2.2.2⟩
theorem CT_W {M M1 : Mem} {S : Spt} {i : Nat} (h : CT M 75 S i) (f : frW M M1) : CT M1 75 S i := CT_cong h (fun p _ => by rw [f.1 75 (by omega) (by omega) (by omega)])
theorem tkS_y {S : Spt} {i d u : Nat} {L : List Int32} {ch : Nat → Nat} {q : Nat × Nat} (hi : i < spn S) (hq : nxt (spt S) (spr S) d u (spg S i) = some q) : tkS S ((i, d, u), L, ch) = if cS S (i + 1) q.1 q.2 = cS S i d u then some ((i + 1, q.1, q.2), L ++ [spg S i], ch) else none := by
  unfold tkS
  rw [if_pos hi]
  show (match nxt (spt S) (spr S) d u (spg S i) with | none => none | some q => _) = _
  rw [hq]
theorem tkS_n1 {S : Spt} {i d u : Nat} {L : List Int32} {ch : Nat → Nat} (hi : ¬ i < spn S) : tkS S ((i, d, u), L, ch) = none := by
  unfold tkS
  rw [if_neg hi]
theorem tkS_n2 {S : Spt} {i d u : Nat} {L : List Int32} {ch : Nat → Nat} (hq : nxt (spt S) (spr S) d u (spg S i) = none) : tkS S ((i, d, u), L, ch) = none := by
  unfold tkS
  split
  · show (match nxt (spt S) (spr S) d u (spg S i) with | none => none | some q => _) = _
    rw [hq]
  · rfl
theorem or3 {α : Type} {a b c : Option α} {y : α} (h : a.or b = some y) : a.or (b.or c) = some y := by
  cases a <;> cases b <;> simp_all
theorem or3n {α : Type} {a b c : Option α} (h : a.or b = none) : a.or (b.or c) = c := by
  cases a <;> cases b <;> simp_all
theorem mv_1 {S : Spt} {x y : Way} (h : tkS S x = some y) : mvS S x = y := by unfold mvS; rw [h]; rfl
theorem mv_2 {S : Spt} {x y : Way} (h : tkS S x = none) (hm : atM S x = true) (ho : (tkO S x 2 (x.1.1 + 1) 0).or ((tkO S x 2 (x.1.1 + 1) 1).or (tkL S x)) = some y) : mvS S x = y := by
  unfold mvS; rw [h, if_pos hm, ho]; rfl
theorem mv_3 {S : Spt} {x : Way} (h : tkS S x = none) (hm : atM S x = false ∨ (tkO S x 2 (x.1.1 + 1) 0).or ((tkO S x 2 (x.1.1 + 1) 1).or (tkL S x)) = none) : mvS S x = ((tkO S x 0 x.1.1 0).or (tkO S x 0 x.1.1 1)).getD x := by
  unfold mvS
  rcases hm with hm | hm
  · rw [h, if_neg (by rw [hm]; decide)]; rfl
  · rw [h, hm, ite_self]; rfl
theorem app_q {L : List Int32} {c : Int32} {M M1 : Mem} (h : ∀ (j : Nat) q, L[j]? = some q → M 77 j = q) (e : M1 77 = upd (M 77) L.length c) : ∀ (j : Nat) q, (L ++ [c])[j]? = some q → M1 77 j = q := fun j q hq => by
  rw [e]
  by_cases hj : j < L.length
  · rw [pk_un (by omega)]
    rw [List.getElem?_append_left hj] at hq
    exact h j q hq
  · rw [List.getElem?_append_right (by omega)] at hq
    have h0 : j - L.length = 0 := by
      by_cases h1 : j - L.length = 0
      · exact h1
      · rw [List.getElem?_eq_none (by simp; omega)] at hq; cases hq
    rw [h0] at hq
    have hc : c = q := by simpa using hq
    rw [show j = L.length by omega, pk_us]; exact hc
theorem sp_1200 : (Int16.ofInt 1200).toInt32 = 1200 := by decide
set_option maxHeartbeats 4000000 in
set_option maxRecDepth 100000 in
theorem ct_X2_hasArrived {l : Launch} {D : va_G} {cI cO : ClassId} {z tP : Nat} {aK aV : Nat → Nat} (M : Mem) (S : Spt) (i d u : Nat) (L : List Int32) (ch : Nat → Nat) (hMC : MC M S) (hs : wfS S) (hC : CT M 75 S 0) (hW : WY M ((i, d, u), L, ch)) (hi : i ≤ spn S) (hd : d ≤ 6) (hu : u ≤ dmy (spr S) d) : Cm l D cI cO z tP aK aV yX2_hasArrived cX2_hasArrived 1 (some .boolean) 0 0 [.ref (z + 64)] SH M (pI (fun r M1 => r = bI (arr S ((i, d, u), L, ch)) ∧ M1 = M)) := by
  refine cm_intro (lv0 := [some (.ref (z + 64))]) (by decide) rfl (Nat.le_of_ble_eq_true rfl) rfl (fun p e s m below meth c C => ?_)
  have hn := hs.1
  have hdu := dmy_le (spr S) d
  obtain ⟨hW1, hW2, hW3, hW4, hW5⟩ := hW
  have g1 : M 64 8 = nI i := hW1
  have g2 : M 64 9 = nI (7 * d + u) := hW2
  have g3 : M 64 6 = nI L.length := hW3
  have hW : WY M ((i, d, u), L, ch) := ⟨hW1, hW2, hW3, hW4, hW5⟩
  refine g_aload0 C dX2_hasArrived_0 (n := 1) rfl ?_
  refine kg_X2_111 C sh_64 rfl dX2_hasArrived_1 (n := 4) rfl ?_
  refine g_aload0 C dX2_hasArrived_4 (n := 5) rfl ?_
  refine kg_X2_39 C sh_64 rfl dX2_hasArrived_5 (n := 8) rfl ?_
  refine g_icmp_lt C dX2_hasArrived_8 (t := 22) (by decide) (n := 11) rfl (fun c_8 => ?_) (fun c_8 => ?_)
  · have w8 : i < spn S := (qlt g1 hMC.1 (by omega) (by omega)).mp c_8
    have hfin : (0 : Int32) = bI (arr S ((i, d, u), L, ch)) := by unfold arr; rw [show (decide (spn S ≤ i) && decide (d = 0 ∧ u = 0)) = false by simp; omega]; rfl
    refine g_iconst C ic_0 dX2_hasArrived_22 (n := 23) rfl ?_
    refine r_Z C dX2_hasArrived_23 rfl ?_
    exact ⟨hfin, rfl⟩
  · have w8 : ¬ i < spn S := fun h => c_8 ((qlt g1 hMC.1 (by omega) (by omega)).mpr h)
    refine g_aload0 C dX2_hasArrived_11 (n := 12) rfl ?_
    refine kg_X2_114 C sh_64 rfl dX2_hasArrived_12 (n := 15) rfl ?_
    refine g_if_ne C dX2_hasArrived_15 (t := 22) (by decide) (n := 18) rfl (fun c_15 => ?_) (fun c_15 => ?_)
    · have w15 : ¬ (7 * d + u) = 0 := fun h => c_15 ((qeq g2 nI_0.symm (by omega) (by decide)).mpr h)
      have hfin : (0 : Int32) = bI (arr S ((i, d, u), L, ch)) := by unfold arr; rw [show (decide (spn S ≤ i) && decide (d = 0 ∧ u = 0)) = false by simp; omega]; rfl
      refine g_iconst C ic_0 dX2_hasArrived_22 (n := 23) rfl ?_
      refine r_Z C dX2_hasArrived_23 rfl ?_
      exact ⟨hfin, rfl⟩
    · have w15 : (7 * d + u) = 0 := (qeq g2 nI_0.symm (by omega) (by decide)).mp c_15
      have hfin : (1 : Int32) = bI (arr S ((i, d, u), L, ch)) := by unfold arr; rw [show (decide (spn S ≤ i) && decide (d = 0 ∧ u = 0)) = true by simp; omega]; rfl
      refine g_iconst C ic_1 dX2_hasArrived_18 (n := 19) rfl ?_
      refine g_goto C dX2_hasArrived_19 (t := 23) (by decide) ?_
      refine r_Z C dX2_hasArrived_23 rfl ?_
      exact ⟨hfin, rfl⟩
set_option maxHeartbeats 4000000 in
set_option maxRecDepth 100000 in
theorem ct_X2_isAtMark {l : Launch} {D : va_G} {cI cO : ClassId} {z tP : Nat} {aK aV : Nat → Nat} (M : Mem) (S : Spt) (i d u : Nat) (L : List Int32) (ch : Nat → Nat) (hMC : MC M S) (hs : wfS S) (hC : CT M 75 S 0) (hW : WY M ((i, d, u), L, ch)) (hi : i ≤ spn S) (hd : d ≤ 6) (hu : u ≤ dmy (spr S) d) : Cm l D cI cO z tP aK aV yX2_isAtMark cX2_isAtMark 1 (some .boolean) 6 127 [.ref (z + 64)] SH M (pI (fun r M1 => r = bI (atM S ((i, d, u), L, ch)) ∧ M1 = M)) := by
  refine cm_intro (lv0 := [some (.ref (z + 64))]) (by decide) rfl (Nat.le_of_ble_eq_true rfl) rfl (fun p e s m below meth c C => ?_)
  have hn := hs.1
  have hdu := dmy_le (spr S) d
  obtain ⟨hW1, hW2, hW3, hW4, hW5⟩ := hW
  have g1 : M 64 8 = nI i := hW1
  have g2 : M 64 9 = nI (7 * d + u) := hW2
  have g3 : M 64 6 = nI L.length := hW3
  have hW : WY M ((i, d, u), L, ch) := ⟨hW1, hW2, hW3, hW4, hW5⟩
  refine g_aload0 C dX2_isAtMark_0 (n := 1) rfl ?_
  refine kg_X2_111 C sh_64 rfl dX2_isAtMark_1 (n := 4) rfl ?_
  refine g_aload0 C dX2_isAtMark_4 (n := 5) rfl ?_
  refine kg_X2_39 C sh_64 rfl dX2_isAtMark_5 (n := 8) rfl ?_
  refine g_icmp_ge C dX2_isAtMark_8 (t := 32) (by decide) (n := 11) rfl (fun c_8 => ?_) (fun c_8 => ?_)
  · have w8 : ¬ i < spn S := fun h => c_8 ((qlt g1 hMC.1 (by omega) (by omega)).mpr h)
    have hfin : (0 : Int32) = bI (atM S ((i, d, u), L, ch)) := by
      unfold atM
      first
        | (have h9 := bI_0.mp c_25
           rw [show (decide (i < spn S) && isMk (spg S i)) = false by rw [h9]; simp]; rfl)
        | (rw [show (decide (i < spn S) && isMk (spg S i)) = false by simp; intro h; exact absurd h w8]; rfl)
    refine g_iconst C ic_0 dX2_isAtMark_32 (n := 33) rfl ?_
    refine r_Z C dX2_isAtMark_33 rfl ?_
    exact ⟨hfin, rfl⟩
  · have w8 : i < spn S := (qlt g1 hMC.1 (by omega) (by omega)).mp c_8
    refine g_aload0 C dX2_isAtMark_11 (n := 12) rfl ?_
    refine kg_X2_23 C sh_64 rfl dX2_isAtMark_12 (n := 15) rfl ?_
    refine g_aload0 C dX2_isAtMark_15 (n := 16) rfl ?_
    refine kg_X2_111 C sh_64 rfl dX2_isAtMark_16 (n := 19) rfl ?_
    refine kc_X2_69 C (ct_X4_at SH M 70 120 i _ row_70 g1 (by omega)) sh_70 ⟨Nat.le_of_ble_eq_true rfl, Nat.le_of_ble_eq_true rfl⟩ ⟨Nat.zero_le _, Nat.zero_le _⟩ (Nat.le_of_ble_eq_true rfl) dX2_isAtMark_19 (n := 22) rfl (fun r_19 M_19 h_19 => ?_)
    rw [h_19.2, h_19.1, show M (70 + 1) i = spg S i from hMC.2.1 i w8]
    refine kc_X2_73 C (ct_X6_isMark SH M (spg S i)) ⟨Nat.le_of_ble_eq_true rfl, Nat.le_of_ble_eq_true rfl⟩ ⟨Nat.zero_le _, Nat.zero_le _⟩ (Nat.le_of_ble_eq_true rfl) dX2_isAtMark_22 (n := 25) rfl (fun r_22 M_22 h_22 => ?_)
    rw [h_22.1, h_22.2]
    refine g_if_eq C dX2_isAtMark_25 (t := 32) (by decide) (n := 28) rfl (fun c_25 => ?_) (fun c_25 => ?_)
    · have _u := True.intro
      have hfin : (0 : Int32) = bI (atM S ((i, d, u), L, ch)) := by
        unfold atM
        first
          | (have h9 := bI_0.mp c_25
             rw [show (decide (i < spn S) && isMk (spg S i)) = false by rw [h9]; simp]; rfl)
          | (rw [show (decide (i < spn S) && isMk (spg S i)) = false by simp; intro h; exact absurd h w8]; rfl)
      refine g_iconst C ic_0 dX2_isAtMark_32 (n := 33) rfl ?_
      refine r_Z C dX2_isAtMark_33 rfl ?_
      exact ⟨hfin, rfl⟩
    · have _u := True.intro
      have hfin : (1 : Int32) = bI (atM S ((i, d, u), L, ch)) := by unfold atM; rw [show (decide (i < spn S) && isMk (spg S i)) = true by simp; exact ⟨w8, bI_n.mp c_25⟩]; rfl
      refine g_iconst C ic_1 dX2_isAtMark_28 (n := 29) rfl ?_
      refine g_goto C dX2_isAtMark_29 (t := 33) (by decide) ?_
      refine r_Z C dX2_isAtMark_33 rfl ?_
      exact ⟨hfin, rfl⟩
set_option maxHeartbeats 4000000 in
set_option maxRecDepth 100000 in
theorem ct_X2_isLeast {l : Launch} {D : va_G} {cI cO : ClassId} {z tP : Nat} {aK aV : Nat → Nat} (M : Mem) (S : Spt) (i d u : Nat) (L : List Int32) (ch : Nat → Nat) (w i1 d1 u1 : Nat) (xw xi xs : Int32) (hMC : MC M S) (hs : wfS S) (hC : CT M 75 S 0) (hW : WY M ((i, d, u), L, ch)) (hi : i ≤ spn S) (hd : d ≤ 6) (hu : u ≤ dmy (spr S) d) (hxw : xw = nI w) (hw9 : w ≤ 9) (hxi : xi = nI i1) (hxs : xs = nI (7 * d1 + u1)) (hi1 : i1 ≤ spn S) (hd1 : d1 ≤ 6) (hu1 : u1 ≤ dmy (spr S) d1) : Cm l D cI cO z tP aK aV yX2_isLeast cX2_isLeast 4 (some .boolean) 2 43 [.ref (z + 64), .int xw, .int xi, .int xs] SH M (pI (fun r M1 => r = bI (decide (w + cS S i1 d1 u1 = cS S i d u)) ∧ M1 = M)) := by
  refine cm_intro (lv0 := [some (.ref (z + 64)), some (.int xw), some (.int xi), some (.int xs)]) (by decide) rfl (Nat.le_of_ble_eq_true rfl) rfl (fun p e s m below meth c C => ?_)
  have hn := hs.1
  have hdu := dmy_le (spr S) d
  obtain ⟨hW1, hW2, hW3, hW4, hW5⟩ := hW
  have g1 : M 64 8 = nI i := hW1
  have g2 : M 64 9 = nI (7 * d + u) := hW2
  have g3 : M 64 6 = nI L.length := hW3
  have hW : WY M ((i, d, u), L, ch) := ⟨hW1, hW2, hW3, hW4, hW5⟩
  have hdu1 := dmy_le (spr S) d1
  have k1 := cS_lt hs hi hd hu
  have k2 := cS_lt hs hi1 hd1 hu1
  have m1 : M 75 (49 * i + (7 * d + u)) = nI (cS S i d u) := hC i (Nat.zero_le _) hi d hd u hu
  have m2 : M 75 (49 * i1 + (7 * d1 + u1)) = nI (cS S i1 d1 u1) := hC i1 (Nat.zero_le _) hi1 d1 hd1 u1 hu1
  refine g_iload1 C dX2_isLeast_0 (n := 1) rfl ?_
  refine g_aload0 C dX2_isLeast_1 (n := 2) rfl ?_
  refine g_iload2 C dX2_isLeast_2 (n := 3) rfl ?_
  refine g_iload3 C dX2_isLeast_3 (n := 4) rfl ?_
  refine kc_X2_46 C (ct_X2_costAt M i1 (7 * d1 + u1) _ _ hxi hxs (by omega)) sh_64 ⟨Nat.le_of_ble_eq_true rfl, Nat.le_of_ble_eq_true rfl⟩ ⟨Nat.zero_le _, Nat.zero_le _⟩ (Nat.le_of_ble_eq_true rfl) dX2_isLeast_4 (n := 7) rfl (fun r_4 M_4 h_4 => ?_)
  rw [h_4.2, h_4.1, m2]
  refine g_iadd C dX2_isLeast_7 (n := 8) rfl ?_
  refine g_aload0 C dX2_isLeast_8 (n := 9) rfl ?_
  refine g_aload0 C dX2_isLeast_9 (n := 10) rfl ?_
  refine kg_X2_111 C sh_64 rfl dX2_isLeast_10 (n := 13) rfl ?_
  refine g_aload0 C dX2_isLeast_13 (n := 14) rfl ?_
  refine kg_X2_114 C sh_64 rfl dX2_isLeast_14 (n := 17) rfl ?_
  refine kc_X2_46 C (ct_X2_costAt M i (7 * d + u) _ _ g1 g2 (by omega)) sh_64 ⟨Nat.le_of_ble_eq_true rfl, Nat.le_of_ble_eq_true rfl⟩ ⟨Nat.zero_le _, Nat.zero_le _⟩ (Nat.le_of_ble_eq_true rfl) dX2_isLeast_17 (n := 20) rfl (fun r_17 M_17 h_17 => ?_)
  rw [h_17.2, h_17.1, m1]
  refine g_icmp_ne C dX2_isLeast_20 (t := 27) (by decide) (n := 23) rfl (fun c_20 => ?_) (fun c_20 => ?_)
  · have w20 : ¬ w + cS S i1 d1 u1 = cS S i d u := fun h => c_20 ((qeq (e_add hxw rfl) rfl (by omega) (by omega)).mpr h)
    have hfin : (0 : Int32) = bI (decide (w + cS S i1 d1 u1 = cS S i d u)) := by rw [decide_eq_false w20]; rfl
    refine g_iconst C ic_0 dX2_isLeast_27 (n := 28) rfl ?_
    refine r_Z C dX2_isLeast_28 rfl ?_
    exact ⟨hfin, rfl⟩
  · have w20 : w + cS S i1 d1 u1 = cS S i d u := (qeq (e_add hxw rfl) rfl (by omega) (by omega)).mp c_20
    have hfin : (1 : Int32) = bI (decide (w + cS S i1 d1 u1 = cS S i d u)) := by rw [decide_eq_true w20]; rfl
    refine g_iconst C ic_1 dX2_isLeast_23 (n := 24) rfl ?_
    refine g_goto C dX2_isLeast_24 (t := 28) (by decide) ?_
    refine r_Z C dX2_isLeast_28 rfl ?_
    exact ⟨hfin, rfl⟩
set_option maxHeartbeats 4000000 in
set_option maxRecDepth 100000 in
theorem ct_X2_say {l : Launch} {D : va_G} {cI cO : ClassId} {z tP : Nat} {aK aV : Nat → Nat} (M : Mem) (n0 : Nat) (c0 : Int32) (h6 : M 64 6 = nI n0) (hn0 : n0 < 1200) : Cm l D cI cO z tP aK aV yX2_say cX2_say 2 none 1 22 [.ref (z + 64), .int c0] SH M (pV (fun M1 => M1 77 = upd (M 77) n0 c0 ∧ M1 64 6 = nI (n0 + 1) ∧ (∀ a, a ≠ 64 → a ≠ 77 → M1 a = M a) ∧ ∀ j, j ≠ 6 → M1 64 j = M 64 j)) := by
  refine cm_intro (lv0 := [some (.ref (z + 64)), some (.int c0)]) (by decide) rfl (Nat.le_of_ble_eq_true rfl) rfl (fun p e s m below meth c C => ?_)
  refine g_aload0 C dX2_say_0 (n := 1) rfl ?_
  refine kg_X2_33 C sh_64 rfl dX2_say_1 (n := 4) rfl ?_
  refine g_aload0 C dX2_say_4 (n := 5) rfl ?_
  refine kg_X2_43 C sh_64 rfl dX2_say_5 (n := 8) rfl ?_
  refine g_iload1 C dX2_say_8 (n := 9) rfl ?_
  refine kc_X2_89 C (ct_X4_set SH M 76 1200 n0 _ c0 row_76 h6 hn0) sh_76 ⟨Nat.le_of_ble_eq_true rfl, Nat.le_of_ble_eq_true rfl⟩ ⟨Nat.zero_le _, Nat.zero_le _⟩ (Nat.le_of_ble_eq_true rfl) dX2_say_9 (n := 12) rfl (fun M2 e2 => ?_)
  refine g_aload0 C dX2_say_12 (n := 13) rfl ?_
  refine g_dup C rfl dX2_say_13 (n := 14) rfl ?_
  refine kg_X2_43 C sh_64 rfl dX2_say_14 (n := 17) rfl ?_
  refine g_iconst C ic_1 dX2_say_17 (n := 18) rfl ?_
  refine g_iadd C dX2_say_18 (n := 19) rfl ?_
  refine kp_X2_43 C sh_64 rfl dX2_say_19 (n := 22) rfl (fun M3 e3 => ?_)
  refine r_V C dX2_say_22 ?_
  exact ⟨by rw [e3, up2_ne _ _ (by omega), e2]; exact up2_row _ _ _ _, by rw [e3, up2_at, e2, up2_ne _ _ (by omega), h6, nI_1], fun a a1 a2 => by rw [e3, up2_ne _ _ a1, e2, up2_ne _ _ a2], fun j hj => by rw [e3]; simp [up2, hj]; rw [e2, up2_ne _ _ (by omega)]⟩
set_option maxHeartbeats 4000000 in
set_option maxRecDepth 100000 in
theorem ct_X2_goTo {l : Launch} {D : va_G} {cI cO : ClassId} {z tP : Nat} {aK aV : Nat → Nat} (M : Mem) (x y : Int32) : Cm l D cI cO z tP aK aV yX2_goTo cX2_goTo 3 none 0 0 [.ref (z + 64), .int x, .int y] SH M (pV (fun M1 => M1 = up2 (up2 M 64 8 x) 64 9 y)) := by
  refine cm_intro (lv0 := [some (.ref (z + 64)), some (.int x), some (.int y)]) (by decide) rfl (Nat.le_of_ble_eq_true rfl) rfl (fun p e s m below meth c C => ?_)
  refine g_aload0 C dX2_goTo_0 (n := 1) rfl ?_
  refine g_iload1 C dX2_goTo_1 (n := 2) rfl ?_
  refine kp_X2_111 C sh_64 rfl dX2_goTo_2 (n := 5) rfl (fun M2 e2 => ?_)
  refine g_aload0 C dX2_goTo_5 (n := 6) rfl ?_
  refine g_iload2 C dX2_goTo_6 (n := 7) rfl ?_
  refine kp_X2_114 C sh_64 rfl dX2_goTo_7 (n := 10) rfl (fun M3 e3 => ?_)
  refine r_V C dX2_goTo_10 ?_
  rw [e3, e2]
set_option maxHeartbeats 4000000 in
set_option maxRecDepth 100000 in
theorem ct_X2_letStay {l : Launch} {D : va_G} {cI cO : ClassId} {z tP : Nat} {aK aV : Nat → Nat} (M : Mem) (S : Spt) (i d u : Nat) (L : List Int32) (ch : Nat → Nat) (hMC : MC M S) (hs : wfS S) (hC : CT M 75 S 0) (hW : WY M ((i, d, u), L, ch)) (hi : i ≤ spn S) (hd : d ≤ 6) (hu : u ≤ dmy (spr S) d) (hL : L.length < 1200) : Cm l D cI cO z tP aK aV yX2_letStay cX2_letStay 3 (some .boolean) 3 66 [.ref (z + 64)] SH M (pI (fun r M1 => ((r = 1 ∧ ∃ y, tkS S ((i, d, u), L, ch) = some y ∧ WY M1 y) ∨ (r = 0 ∧ tkS S ((i, d, u), L, ch) = none ∧ M1 = M)) ∧ frW M M1)) := by
  refine cm_intro (lv0 := [some (.ref (z + 64)), none, none]) (by decide) rfl (Nat.le_of_ble_eq_true rfl) rfl (fun p e s m below meth c C => ?_)
  have hn := hs.1
  have hdu := dmy_le (spr S) d
  obtain ⟨hW1, hW2, hW3, hW4, hW5⟩ := hW
  have g1 : M 64 8 = nI i := hW1
  have g2 : M 64 9 = nI (7 * d + u) := hW2
  have g3 : M 64 6 = nI L.length := hW3
  have hW : WY M ((i, d, u), L, ch) := ⟨hW1, hW2, hW3, hW4, hW5⟩
  refine g_aload0 C dX2_letStay_0 (n := 1) rfl ?_
  refine kg_X2_111 C sh_64 rfl dX2_letStay_1 (n := 4) rfl ?_
  refine g_aload0 C dX2_letStay_4 (n := 5) rfl ?_
  refine kg_X2_39 C sh_64 rfl dX2_letStay_5 (n := 8) rfl ?_
  refine g_icmp_lt C dX2_letStay_8 (t := 13) (by decide) (n := 11) rfl (fun c_8 => ?_) (fun c_8 => ?_)
  · have w8 : i < spn S := (qlt g1 hMC.1 (by omega) (by omega)).mp c_8
    refine g_aload0 C dX2_letStay_13 (n := 14) rfl ?_
    refine kg_X2_23 C sh_64 rfl dX2_letStay_14 (n := 17) rfl ?_
    refine g_aload0 C dX2_letStay_17 (n := 18) rfl ?_
    refine kg_X2_111 C sh_64 rfl dX2_letStay_18 (n := 21) rfl ?_
    refine kc_X2_69 C (ct_X4_at SH M 70 120 i _ row_70 g1 (by omega)) sh_70 ⟨Nat.le_of_ble_eq_true rfl, Nat.le_of_ble_eq_true rfl⟩ ⟨Nat.zero_le _, Nat.zero_le _⟩ (Nat.le_of_ble_eq_true rfl) dX2_letStay_21 (n := 24) rfl (fun r_21 M_21 h_21 => ?_)
    rw [h_21.2, h_21.1, show M (70 + 1) i = spg S i from hMC.2.1 i w8]
    refine g_istore1 C dX2_letStay_24 (n := 25) rfl ?_
    refine g_aload0 C dX2_letStay_25 (n := 26) rfl ?_
    refine kg_X2_12 C sh_64 rfl dX2_letStay_26 (n := 29) rfl ?_
    refine g_aload0 C dX2_letStay_29 (n := 30) rfl ?_
    refine kg_X2_114 C sh_64 rfl dX2_letStay_30 (n := 33) rfl ?_
    refine g_iload1 C dX2_letStay_33 (n := 34) rfl ?_
    refine kc_X2_93 C (ct_X0_step SH M 65 (spt S) (spr S) d u _ _ grammar_65 hMC.2.2.2.1 hMC.2.2.2.2.2 hs.2.2.1 hs.2.2.2.1 g2 hd hu (sg_ne0 (hs.2.1 i w8))) sh_65 ⟨Nat.le_of_ble_eq_true rfl, Nat.le_of_ble_eq_true rfl⟩ ⟨Nat.zero_le _, Nat.zero_le _⟩ (Nat.le_of_ble_eq_true rfl) dX2_letStay_34 (n := 37) rfl (fun r_34 M_34 h_34 => ?_)
    rw [h_34.1, h_34.2]
    refine g_istore2 C dX2_letStay_37 (n := 38) rfl ?_
    refine g_iload2 C dX2_letStay_38 (n := 39) rfl ?_
    refine g_iconst C ic_m1 dX2_letStay_39 (n := 40) rfl ?_
    refine g_icmp_eq C dX2_letStay_40 (t := 58) (by decide) (n := 43) rfl (fun c_40 => ?_) (fun c_40 => ?_)
    · have hnone : tkS S ((i, d, u), L, ch) = none := by
        cases hq : nxt (spt S) (spr S) d u (spg S i) with
        | none => exact tkS_n2 hq
        | some q =>
          rw [hq] at c_40
          have hk := nxt_ok hd hu hq
          have hdq := dmy_le (spr S) q.1
          exact absurd c_40 (nI_neg (by omega) (by decide))
      refine g_iconst C ic_0 dX2_letStay_58 (n := 59) rfl ?_
      refine r_Z C dX2_letStay_59 rfl ?_
      exact ⟨Or.inr ⟨rfl, hnone, rfl⟩, fun _ _ _ _ => rfl, fun _ _ _ _ => rfl⟩
    · obtain ⟨q, hq⟩ : ∃ q, nxt (spt S) (spr S) d u (spg S i) = some q := by
        cases hq : nxt (spt S) (spr S) d u (spg S i) with
        | none => rw [hq] at c_40; exact absurd rfl c_40
        | some q => exact ⟨q, rfl⟩
      have hk := nxt_ok hd hu hq
      have hdq := dmy_le (spr S) q.1
      have hst : stI (nxt (spt S) (spr S) d u (spg S i)) = nI (7 * q.1 + q.2) := by rw [hq]; rfl
      rw [hst]
      refine g_aload0 C dX2_letStay_43 (n := 44) rfl ?_
      refine g_iconst C ic_0 dX2_letStay_44 (n := 45) rfl ?_
      refine g_aload0 C dX2_letStay_45 (n := 46) rfl ?_
      refine kg_X2_111 C sh_64 rfl dX2_letStay_46 (n := 49) rfl ?_
      refine g_iconst C ic_1 dX2_letStay_49 (n := 50) rfl ?_
      refine g_iadd C dX2_letStay_50 (n := 51) rfl ?_
      refine g_iload2 C dX2_letStay_51 (n := 52) rfl ?_
      refine kc_X2_137 C (ct_X2_isLeast M S i d u L ch 0 (i + 1) q.1 q.2 _ _ _ hMC hs hC hW hi hd hu nI_0.symm (by omega) (by rw [g1, nI_1]) rfl w8 hk.1 hk.2) sh_64 ⟨Nat.le_of_ble_eq_true rfl, Nat.le_of_ble_eq_true rfl⟩ ⟨Nat.zero_le _, Nat.zero_le _⟩ (Nat.le_of_ble_eq_true rfl) dX2_letStay_52 (n := 55) rfl (fun r_52 M_52 h_52 => ?_)
      rw [h_52.1, h_52.2]
      refine g_if_ne C dX2_letStay_55 (t := 60) (by decide) (n := 58) rfl (fun c_55 => ?_) (fun c_55 => ?_)
      · have h9 := of_decide_eq_true (bI_n.mp c_55)
        rw [Nat.zero_add] at h9
        have hsome : tkS S ((i, d, u), L, ch) = some ((i + 1, q.1, q.2), L ++ [spg S i], ch) := by rw [tkS_y w8 hq, if_pos h9]
        refine g_aload0 C dX2_letStay_60 (n := 61) rfl ?_
        refine g_iload1 C dX2_letStay_61 (n := 62) rfl ?_
        refine kc_X2_141 C (ct_X2_say M L.length (spg S i) g3 hL) sh_64 ⟨Nat.le_of_ble_eq_true rfl, Nat.le_of_ble_eq_true rfl⟩ ⟨Nat.zero_le _, Nat.zero_le _⟩ (Nat.le_of_ble_eq_true rfl) dX2_letStay_62 (n := 65) rfl (fun M2 h2 => ?_)
        refine g_aload0 C dX2_letStay_65 (n := 66) rfl ?_
        refine g_aload0 C dX2_letStay_66 (n := 67) rfl ?_
        refine kg_X2_111 C sh_64 rfl dX2_letStay_67 (n := 70) rfl ?_
        refine g_iconst C ic_1 dX2_letStay_70 (n := 71) rfl ?_
        refine g_iadd C dX2_letStay_71 (n := 72) rfl ?_
        refine g_iload2 C dX2_letStay_72 (n := 73) rfl ?_
        refine kc_X2_144 C (ct_X2_goTo M2 _ _) sh_64 ⟨Nat.le_of_ble_eq_true rfl, Nat.le_of_ble_eq_true rfl⟩ ⟨Nat.zero_le _, Nat.zero_le _⟩ (Nat.le_of_ble_eq_true rfl) dX2_letStay_73 (n := 76) rfl (fun M3 e3 => ?_)
        refine g_iconst C ic_1 dX2_letStay_76 (n := 77) rfl ?_
        refine r_Z C dX2_letStay_77 rfl ?_
        have f3 : ∀ a, a ≠ 64 → M3 a = M2 a := fun a ha => by rw [e3, up2_ne _ _ ha, up2_ne _ _ ha]
        refine ⟨Or.inl ⟨rfl, _, hsome, ?_, ?_, ?_, ?_, ?_⟩, fun a a1 a2 a3 => by rw [f3 a a1]; exact h2.2.2.1 a a1 a2, fun j j1 j2 j3 => by rw [e3]; simp [up2, j2, j3]; exact h2.2.2.2 j j1⟩
        · rw [e3]; simp [up2]; rw [h2.2.2.2 8 (by omega), g1, nI_1]
        · rw [e3, up2_at]
        · rw [e3]; simp [up2]; exact h2.2.1
        · exact app_q hW4 (by rw [f3 77 (by omega)]; exact h2.1)
        · intro j hj; rw [f3 79 (by omega), h2.2.2.1 79 (by omega) (by omega)]; exact hW5 j hj
      · have h9 := of_decide_eq_false (bI_0.mp c_55)
        rw [Nat.zero_add] at h9
        have hnone : tkS S ((i, d, u), L, ch) = none := by rw [tkS_y w8 hq, if_neg h9]
        refine g_iconst C ic_0 dX2_letStay_58 (n := 59) rfl ?_
        refine r_Z C dX2_letStay_59 rfl ?_
        exact ⟨Or.inr ⟨rfl, hnone, rfl⟩, fun _ _ _ _ => rfl, fun _ _ _ _ => rfl⟩
  · have w8 : ¬ i < spn S := fun h => c_8 ((qlt g1 hMC.1 (by omega) (by omega)).mpr h)
    refine g_iconst C ic_0 dX2_letStay_11 (n := 12) rfl ?_
    refine r_Z C dX2_letStay_12 rfl ?_
    exact ⟨Or.inr ⟨rfl, tkS_n1 w8, rfl⟩, fun _ _ _ _ => rfl, fun _ _ _ _ => rfl⟩
set_option maxHeartbeats 4000000 in
set_option maxRecDepth 100000 in
theorem ct_X2_leaveOut {l : Launch} {D : va_G} {cI cO : ClassId} {z tP : Nat} {aK aV : Nat → Nat} (M : Mem) (S : Spt) (i d u : Nat) (L : List Int32) (ch : Nat → Nat) (hMC : MC M S) (hs : wfS S) (hC : CT M 75 S 0) (hW : WY M ((i, d, u), L, ch)) (hi : i ≤ spn S) (hd : d ≤ 6) (hu : u ≤ dmy (spr S) d) (hin : i < spn S) : Cm l D cI cO z tP aK aV yX2_leaveOut cX2_leaveOut 1 (some .boolean) 3 66 [.ref (z + 64)] SH M (pI (fun r M1 => ((r = 1 ∧ ∃ y, tkL S ((i, d, u), L, ch) = some y ∧ WY M1 y) ∨ (r = 0 ∧ tkL S ((i, d, u), L, ch) = none ∧ M1 = M)) ∧ frW M M1)) := by
  refine cm_intro (lv0 := [some (.ref (z + 64))]) (by decide) rfl (Nat.le_of_ble_eq_true rfl) rfl (fun p e s m below meth c C => ?_)
  have hn := hs.1
  have hdu := dmy_le (spr S) d
  obtain ⟨hW1, hW2, hW3, hW4, hW5⟩ := hW
  have g1 : M 64 8 = nI i := hW1
  have g2 : M 64 9 = nI (7 * d + u) := hW2
  have g3 : M 64 6 = nI L.length := hW3
  have hW : WY M ((i, d, u), L, ch) := ⟨hW1, hW2, hW3, hW4, hW5⟩
  refine g_aload0 C dX2_leaveOut_0 (n := 1) rfl ?_
  refine g_aload0 C dX2_leaveOut_1 (n := 2) rfl ?_
  refine kg_X2_27 C sh_64 rfl dX2_leaveOut_2 (n := 5) rfl ?_
  refine g_iconst C ic_1 dX2_leaveOut_5 (n := 6) rfl ?_
  refine kc_X2_69 C (ct_X4_at SH M 72 3 1 _ row_72 rfl (by decide)) sh_72 ⟨Nat.le_of_ble_eq_true rfl, Nat.le_of_ble_eq_true rfl⟩ ⟨Nat.zero_le _, Nat.zero_le _⟩ (Nat.le_of_ble_eq_true rfl) dX2_leaveOut_6 (n := 9) rfl (fun r_6 M_6 h_6 => ?_)
  rw [h_6.2, h_6.1, show M (72 + 1) 1 = nI (spw S 1) from hMC.2.2.1 1 (by decide)]
  refine g_aload0 C dX2_leaveOut_9 (n := 10) rfl ?_
  refine kg_X2_111 C sh_64 rfl dX2_leaveOut_10 (n := 13) rfl ?_
  refine g_iconst C ic_1 dX2_leaveOut_13 (n := 14) rfl ?_
  refine g_iadd C dX2_leaveOut_14 (n := 15) rfl ?_
  refine g_aload0 C dX2_leaveOut_15 (n := 16) rfl ?_
  refine kg_X2_114 C sh_64 rfl dX2_leaveOut_16 (n := 19) rfl ?_
  refine kc_X2_137 C (ct_X2_isLeast M S i d u L ch (spw S 1) (i + 1) d u _ _ _ hMC hs hC hW hi hd hu rfl (hs.2.2.2.2 1 (by decide)).2 (by rw [g1, nI_1]) g2 hin hd hu) sh_64 ⟨Nat.le_of_ble_eq_true rfl, Nat.le_of_ble_eq_true rfl⟩ ⟨Nat.zero_le _, Nat.zero_le _⟩ (Nat.le_of_ble_eq_true rfl) dX2_leaveOut_19 (n := 22) rfl (fun r_19 M_19 h_19 => ?_)
  rw [h_19.1, h_19.2]
  refine g_if_ne C dX2_leaveOut_22 (t := 27) (by decide) (n := 25) rfl (fun c_22 => ?_) (fun c_22 => ?_)
  · have h9 := of_decide_eq_true (bI_n.mp c_22)
    have hsome : tkL S ((i, d, u), L, ch) = some ((i + 1, d, u), L, fun j => ch j + (if j = 1 then 1 else 0)) := by unfold tkL; exact if_pos h9
    refine g_aload0 C dX2_leaveOut_27 (n := 28) rfl ?_
    refine kg_X2_36 C sh_64 rfl dX2_leaveOut_28 (n := 31) rfl ?_
    refine g_iconst C ic_1 dX2_leaveOut_31 (n := 32) rfl ?_
    refine g_iconst C ic_1 dX2_leaveOut_32 (n := 33) rfl ?_
    refine kc_X2_147 C (ct_X4_add SH M 78 3 1 _ 1 row_78 rfl (by decide)) sh_78 ⟨Nat.le_of_ble_eq_true rfl, Nat.le_of_ble_eq_true rfl⟩ ⟨Nat.zero_le _, Nat.zero_le _⟩ (Nat.le_of_ble_eq_true rfl) dX2_leaveOut_33 (n := 36) rfl (fun M2 e2 => ?_)
    refine g_aload0 C dX2_leaveOut_36 (n := 37) rfl ?_
    refine g_aload0 C dX2_leaveOut_37 (n := 38) rfl ?_
    refine kg_X2_111 C sh_64 rfl dX2_leaveOut_38 (n := 41) rfl ?_
    refine g_iconst C ic_1 dX2_leaveOut_41 (n := 42) rfl ?_
    refine g_iadd C dX2_leaveOut_42 (n := 43) rfl ?_
    refine g_aload0 C dX2_leaveOut_43 (n := 44) rfl ?_
    refine kg_X2_114 C sh_64 rfl dX2_leaveOut_44 (n := 47) rfl ?_
    refine kc_X2_144 C (ct_X2_goTo M2 _ _) sh_64 ⟨Nat.le_of_ble_eq_true rfl, Nat.le_of_ble_eq_true rfl⟩ ⟨Nat.zero_le _, Nat.zero_le _⟩ (Nat.le_of_ble_eq_true rfl) dX2_leaveOut_47 (n := 50) rfl (fun M3 e3 => ?_)
    refine g_iconst C ic_1 dX2_leaveOut_50 (n := 51) rfl ?_
    refine r_Z C dX2_leaveOut_51 rfl ?_
    have f3 : ∀ a, a ≠ 64 → M3 a = M2 a := fun a ha => by rw [e3, up2_ne _ _ ha, up2_ne _ _ ha]
    have f2 : ∀ a, a ≠ 79 → M2 a = M a := fun a ha => by rw [e2, up2_ne _ _ ha]
    refine ⟨Or.inl ⟨rfl, _, hsome, ?_, ?_, ?_, ?_, ?_⟩, fun a a1 a2 a3 => by rw [f3 a a1]; exact f2 a a3, fun j j1 j2 j3 => by rw [e3]; simp [up2, j2, j3]; rw [f2 64 (by omega)]⟩
    · rw [e3]; simp [up2]; rw [f2 64 (by omega), g1, nI_1]
    · rw [e3, up2_at, f2 64 (by omega)]; exact g2
    · rw [e3]; simp [up2]; rw [f2 64 (by omega)]; exact g3
    · intro j q hq; rw [f3 77 (by omega), f2 77 (by omega)]; exact hW4 j q hq
    · intro j hj
      rw [f3 79 (by omega), e2]
      show up2 M 79 1 (M 79 1 + 1) 79 j = nI (ch j + (if j = 1 then 1 else 0))
      have h5 := hW5 j hj
      by_cases hj1 : j = 1
      · subst hj1; rw [up2_at, if_pos rfl, h5, nI_1]
      · rw [if_neg hj1]; refine (show up2 M 79 1 _ 79 j = M 79 j by simp [up2, hj1]).trans ?_; exact h5
  · have h9 := of_decide_eq_false (bI_0.mp c_22)
    have hnone : tkL S ((i, d, u), L, ch) = none := by unfold tkL; exact if_neg h9
    refine g_iconst C ic_0 dX2_leaveOut_25 (n := 26) rfl ?_
    refine r_Z C dX2_leaveOut_26 rfl ?_
    exact ⟨Or.inr ⟨rfl, hnone, rfl⟩, fun _ _ _ _ => rfl, fun _ _ _ _ => rfl⟩
set_option maxHeartbeats 4000000 in
set_option maxRecDepth 100000 in
theorem ct_X2_takeOffer {l : Launch} {D : va_G} {cI cO : ClassId} {z tP : Nat} {aK aV : Nat → Nat} (M : Mem) (S : Spt) (i d u : Nat) (L : List Int32) (ch : Nat → Nat) (w i1 : Nat) (xw xi : Int32) (hMC : MC M S) (hs : wfS S) (hC : CT M 75 S 0) (hW : WY M ((i, d, u), L, ch)) (hi : i ≤ spn S) (hd : d ≤ 6) (hu : u ≤ dmy (spr S) d) (hL : L.length < 1200) (hxw : xw = nI w) (hw3 : w < 3) (hxi : xi = nI i1) (hi1 : i1 ≤ spn S) : Cm l D cI cO z tP aK aV yX2_takeOffer cX2_takeOffer 5 (some .boolean) 3 66 [.ref (z + 64), .int xw, .int xi] SH M (pI (fun r M1 => ((r = 1 ∧ ∃ y, (tkO S ((i, d, u), L, ch) w i1 0).or (tkO S ((i, d, u), L, ch) w i1 1) = some y ∧ WY M1 y) ∨ (r = 0 ∧ (tkO S ((i, d, u), L, ch) w i1 0).or (tkO S ((i, d, u), L, ch) w i1 1) = none ∧ M1 = M)) ∧ frW M M1)) := by
  refine cm_intro (lv0 := [some (.ref (z + 64)), some (.int xw), some (.int xi), none, none]) (by decide) rfl (Nat.le_of_ble_eq_true rfl) rfl (fun p e s m below meth c C => ?_)
  have hn := hs.1
  have hdu := dmy_le (spr S) d
  obtain ⟨hW1, hW2, hW3, hW4, hW5⟩ := hW
  have g1 : M 64 8 = nI i := hW1
  have g2 : M 64 9 = nI (7 * d + u) := hW2
  have g3 : M 64 6 = nI L.length := hW3
  have hW : WY M ((i, d, u), L, ch) := ⟨hW1, hW2, hW3, hW4, hW5⟩
  have hw9 := (hs.2.2.2.2 w hw3).2
  refine g_iconst C ic_0 dX2_takeOffer_0 (n := 1) rfl ?_
  refine g_istore3 C dX2_takeOffer_1 (n := 2) rfl ?_
  have L_2 : ∀ (fu : Nat) (v : Nat) (yv : Int32) (o4 : Option Value), 2 - v < fu → (yv = nI v) → (v ≤ 2) → (∀ b, b < v → tkO S ((i, d, u), L, ch) w i1 b = none) → G p l e ({ frames := 3, cells := 0, slots := 0, locals := 66 }) s m ([.ref (z + 64), .int xw, .int xi] : List Value).toArray below meth c D cI cO z 5 (QM below D cI cO z ([.ref (z + 64), .int xw, .int xi] : List Value).toArray s SH (pI (fun r M1 => ((r = 1 ∧ ∃ y, (tkO S ((i, d, u), L, ch) w i1 0).or (tkO S ((i, d, u), L, ch) w i1 1) = some y ∧ WY M1 y) ∨ (r = 0 ∧ (tkO S ((i, d, u), L, ch) w i1 0).or (tkO S ((i, d, u), L, ch) w i1 1) = none ∧ M1 = M)) ∧ frW M M1))) 0 0 SH M 2 [some (.ref (z + 64)), some (.int xw), some (.int xi), some (.int yv), o4] [] := by
    intro fu_2
    induction fu_2 with
    | zero => intro v yv o4 hfu; exact absurd hfu (Nat.not_lt_zero _)
    | succ fu_2 ih_2 =>
      intro v yv o4 hfu_2 hyv hv hN
      refine g_iload3 C dX2_takeOffer_2 (n := 3) rfl ?_
      refine g_iconst C ic_2 dX2_takeOffer_3 (n := 4) rfl ?_
      refine g_icmp_ge C dX2_takeOffer_4 (t := 85) (by decide) (n := 7) rfl (fun c_4 => ?_) (fun c_4 => ?_)
      · have w4 : ¬ v < 2 := fun h => c_4 ((qlt hyv (show (2 : Int32) = nI 2 from rfl) (by omega) (by decide)).mpr h)
        refine g_iconst C ic_0 dX2_takeOffer_85 (n := 86) rfl ?_
        refine r_Z C dX2_takeOffer_86 rfl ?_
        exact ⟨Or.inr ⟨rfl, by rw [hN 0 (by omega), hN 1 (by omega)]; rfl, rfl⟩, fun _ _ _ _ => rfl, fun _ _ _ _ => rfl⟩
      · have w4 : v < 2 := (qlt hyv (show (2 : Int32) = nI 2 from rfl) (by omega) (by decide)).mp c_4
        have hof := GOK_off hMC.2.2.2.1 hd hu (show v < 2 by omega)
        refine g_aload0 C dX2_takeOffer_7 (n := 8) rfl ?_
        refine kg_X2_12 C sh_64 rfl dX2_takeOffer_8 (n := 11) rfl ?_
        refine g_aload0 C dX2_takeOffer_11 (n := 12) rfl ?_
        refine kg_X2_114 C sh_64 rfl dX2_takeOffer_12 (n := 15) rfl ?_
        refine g_iload3 C dX2_takeOffer_15 (n := 16) rfl ?_
        refine kc_X2_96 C (ct_X0_behindOffer SH M 65 (7 * d + u) v _ _ grammar_65 g2 hyv (by omega)) sh_65 ⟨Nat.le_of_ble_eq_true rfl, Nat.le_of_ble_eq_true rfl⟩ ⟨Nat.zero_le _, Nat.zero_le _⟩ (Nat.le_of_ble_eq_true rfl) dX2_takeOffer_16 (n := 19) rfl (fun r_16 M_16 h_16 => ?_)
        rw [h_16.1, h_16.2]
        refine g_istore4 C dX2_takeOffer_19 (n := 21) rfl ?_
        refine g_iload4 C dX2_takeOffer_21 (n := 23) rfl ?_
        refine g_iconst C ic_m1 dX2_takeOffer_23 (n := 24) rfl ?_
        refine g_icmp_eq C dX2_takeOffer_24 (t := 79) (by decide) (n := 27) rfl (fun c_24 => ?_) (fun c_24 => ?_)
        · have hnone : tkO S ((i, d, u), L, ch) w i1 v = none := by
            rcases hof with ⟨h, _⟩ | ⟨q, h, _, h2⟩
            · exact tkO_n h
            · have hk := off_ok hs.2.2.1 hd hu h
              have hdq := dmy_le (spr S) q.2.1
              exact absurd (h2.symm.trans c_24) (nI_neg (by omega) (by decide))
          refine g_iinc3 C (inc_1 _) dX2_takeOffer_79 (n := 82) rfl ?_
          refine g_goto C dX2_takeOffer_82 (t := 2) (by decide) ?_
          exact ih_2 (v + 1) (yv + 1) _ (by omega) (by rw [hyv, nI_1]) (by omega) (fun b hb => by
            by_cases hbv : b = v
            · rw [hbv]; exact hnone
            · exact hN b (by omega))
        · obtain ⟨q, hq, hq1, hq2⟩ : ∃ q, off S d u v = some q ∧ M (65 + 2) (2 * (7 * d + u) + v) = q.1 ∧ M (65 + 4) (2 * (7 * d + u) + v) = nI (7 * q.2.1 + q.2.2) := by
            rcases hof with ⟨_, h⟩ | h
            · exact absurd h c_24
            · exact h
          have hk := off_ok hs.2.2.1 hd hu hq
          have hdq := dmy_le (spr S) q.2.1
          refine g_aload0 C dX2_takeOffer_27 (n := 28) rfl ?_
          refine g_aload0 C dX2_takeOffer_28 (n := 29) rfl ?_
          refine kg_X2_27 C sh_64 rfl dX2_takeOffer_29 (n := 32) rfl ?_
          refine g_iload1 C dX2_takeOffer_32 (n := 33) rfl ?_
          refine kc_X2_69 C (ct_X4_at SH M 72 3 w _ row_72 hxw hw3) sh_72 ⟨Nat.le_of_ble_eq_true rfl, Nat.le_of_ble_eq_true rfl⟩ ⟨Nat.zero_le _, Nat.zero_le _⟩ (Nat.le_of_ble_eq_true rfl) dX2_takeOffer_33 (n := 36) rfl (fun r_33 M_33 h_33 => ?_)
          rw [h_33.2, h_33.1, show M (72 + 1) w = nI (spw S w) from hMC.2.2.1 w hw3]
          refine g_iload2 C dX2_takeOffer_36 (n := 37) rfl ?_
          refine g_iload4 C dX2_takeOffer_37 (n := 39) rfl ?_
          refine kc_X2_137 C (ct_X2_isLeast M S i d u L ch (spw S w) i1 q.2.1 q.2.2 _ _ _ hMC hs hC hW hi hd hu rfl hw9 hxi hq2 hi1 hk.2.1 hk.2.2) sh_64 ⟨Nat.le_of_ble_eq_true rfl, Nat.le_of_ble_eq_true rfl⟩ ⟨Nat.zero_le _, Nat.zero_le _⟩ (Nat.le_of_ble_eq_true rfl) dX2_takeOffer_39 (n := 42) rfl (fun r_39 M_39 h_39 => ?_)
          rw [h_39.1, h_39.2]
          refine g_if_eq C dX2_takeOffer_42 (t := 79) (by decide) (n := 45) rfl (fun c_42 => ?_) (fun c_42 => ?_)
          · have h9 := of_decide_eq_false (bI_0.mp c_42)
            have hnone : tkO S ((i, d, u), L, ch) w i1 v = none := by rw [tkO_y hq, if_neg h9]
            refine g_iinc3 C (inc_1 _) dX2_takeOffer_79 (n := 82) rfl ?_
            refine g_goto C dX2_takeOffer_82 (t := 2) (by decide) ?_
            exact ih_2 (v + 1) (yv + 1) _ (by omega) (by rw [hyv, nI_1]) (by omega) (fun b hb => by
              by_cases hbv : b = v
              · rw [hbv]; exact hnone
              · exact hN b (by omega))
          · have h9 := of_decide_eq_true (bI_n.mp c_42)
            have hsome : (tkO S ((i, d, u), L, ch) w i1 0).or (tkO S ((i, d, u), L, ch) w i1 1) = some ((i1, q.2.1, q.2.2), L ++ [q.1], fun j => ch j + (if j = w then 1 else 0)) := by
              rcases (show v = 0 ∨ v = 1 by omega) with h0 | h0
              · rw [h0] at hq
                rw [tkO_y (w := w) (i1 := i1) (i := i) (L := L) (ch := ch) hq, if_pos h9]; rfl
              · rw [h0] at hq
                rw [hN 0 (by omega), tkO_y (w := w) (i1 := i1) (i := i) (L := L) (ch := ch) hq, if_pos h9]; rfl
            refine g_aload0 C dX2_takeOffer_45 (n := 46) rfl ?_
            refine g_aload0 C dX2_takeOffer_46 (n := 47) rfl ?_
            refine kg_X2_12 C sh_64 rfl dX2_takeOffer_47 (n := 50) rfl ?_
            refine g_aload0 C dX2_takeOffer_50 (n := 51) rfl ?_
            refine kg_X2_114 C sh_64 rfl dX2_takeOffer_51 (n := 54) rfl ?_
            refine g_iload3 C dX2_takeOffer_54 (n := 55) rfl ?_
            refine kc_X2_99 C (ct_X0_offered SH M 65 (7 * d + u) v _ _ grammar_65 g2 hyv (by omega)) sh_65 ⟨Nat.le_of_ble_eq_true rfl, Nat.le_of_ble_eq_true rfl⟩ ⟨Nat.zero_le _, Nat.zero_le _⟩ (Nat.le_of_ble_eq_true rfl) dX2_takeOffer_55 (n := 58) rfl (fun r_55 M_55 h_55 => ?_)
            rw [h_55.2, h_55.1, hq1]
            refine kc_X2_141 C (ct_X2_say M L.length q.1 g3 hL) sh_64 ⟨Nat.le_of_ble_eq_true rfl, Nat.le_of_ble_eq_true rfl⟩ ⟨Nat.zero_le _, Nat.zero_le _⟩ (Nat.le_of_ble_eq_true rfl) dX2_takeOffer_58 (n := 61) rfl (fun M2 h2 => ?_)
            refine g_aload0 C dX2_takeOffer_61 (n := 62) rfl ?_
            refine kg_X2_36 C sh_64 rfl dX2_takeOffer_62 (n := 65) rfl ?_
            refine g_iload1 C dX2_takeOffer_65 (n := 66) rfl ?_
            refine g_iconst C ic_1 dX2_takeOffer_66 (n := 67) rfl ?_
            refine kc_X2_147 C (ct_X4_add SH M2 78 3 w _ 1 row_78 hxw hw3) sh_78 ⟨Nat.le_of_ble_eq_true rfl, Nat.le_of_ble_eq_true rfl⟩ ⟨Nat.zero_le _, Nat.zero_le _⟩ (Nat.le_of_ble_eq_true rfl) dX2_takeOffer_67 (n := 70) rfl (fun M3 e3 => ?_)
            refine g_aload0 C dX2_takeOffer_70 (n := 71) rfl ?_
            refine g_iload2 C dX2_takeOffer_71 (n := 72) rfl ?_
            refine g_iload4 C dX2_takeOffer_72 (n := 74) rfl ?_
            refine kc_X2_144 C (ct_X2_goTo M3 _ _) sh_64 ⟨Nat.le_of_ble_eq_true rfl, Nat.le_of_ble_eq_true rfl⟩ ⟨Nat.zero_le _, Nat.zero_le _⟩ (Nat.le_of_ble_eq_true rfl) dX2_takeOffer_74 (n := 77) rfl (fun M4 e4 => ?_)
            refine g_iconst C ic_1 dX2_takeOffer_77 (n := 78) rfl ?_
            refine r_Z C dX2_takeOffer_78 rfl ?_
            have f4 : ∀ a, a ≠ 64 → M4 a = M3 a := fun a ha => by rw [e4, up2_ne _ _ ha, up2_ne _ _ ha]
            have f3 : ∀ a, a ≠ 79 → M3 a = M2 a := fun a ha => by rw [e3, up2_ne _ _ ha]
            refine ⟨Or.inl ⟨rfl, _, hsome, ?_, ?_, ?_, ?_, ?_⟩, fun a a1 a2 a3 => by rw [f4 a a1, f3 a a3]; exact h2.2.2.1 a a1 a2, fun j j1 j2 j3 => by rw [e4]; simp [up2, j2, j3]; rw [f3 64 (by omega)]; exact h2.2.2.2 j j1⟩
            · rw [e4]; simp [up2]; exact hxi
            · rw [e4, up2_at]; exact hq2
            · rw [e4]; simp [up2]; rw [f3 64 (by omega)]; exact h2.2.1
            · exact app_q hW4 (by rw [f4 77 (by omega), f3 77 (by omega)]; exact h2.1)
            · intro j hj
              rw [f4 79 (by omega), e3]
              show up2 M2 79 w (M2 79 w + 1) 79 j = nI (ch j + (if j = w then 1 else 0))
              have h5 := hW5 j hj
              by_cases hj1 : j = w
              · subst hj1; rw [up2_at, if_pos rfl, h2.2.2.1 79 (by omega) (by omega), h5, nI_1]
              · rw [if_neg hj1]; refine (show up2 M2 79 w _ 79 j = M2 79 j by simp [up2, hj1]).trans ?_; rw [h2.2.2.1 79 (by omega) (by omega)]; exact h5
  exact L_2 3 0 0 none (by omega) nI_0.symm (by omega) (fun b h => absurd h (Nat.not_lt_zero _))
set_option maxHeartbeats 4000000 in
set_option maxRecDepth 100000 in
theorem ct_X2_followLeastWay {l : Launch} {D : va_G} {cI cO : ClassId} {z tP : Nat} {aK aV : Nat → Nat} (M : Mem) (S : Spt) (hMC : MC M S) (hs : wfS S) (hC : CT M 75 S 0) : Cm l D cI cO z tP aK aV yX2_followLeastWay cX2_followLeastWay 3 none 7 147 [.ref (z + 64)] SH M (pV (fun M1 => WY M1 (mst S 1200) ∧ frW M M1)) := by
  refine cm_intro (lv0 := [some (.ref (z + 64)), none, none]) (by decide) rfl (Nat.le_of_ble_eq_true rfl) rfl (fun p e s m below meth c C => ?_)
  refine g_aload0 C dX2_followLeastWay_0 (n := 1) rfl ?_
  refine g_iconst C ic_0 dX2_followLeastWay_1 (n := 2) rfl ?_
  refine kp_X2_43 C sh_64 rfl dX2_followLeastWay_2 (n := 5) rfl (fun M2 e2 => ?_)
  refine g_aload0 C dX2_followLeastWay_5 (n := 6) rfl ?_
  refine g_iconst C ic_0 dX2_followLeastWay_6 (n := 7) rfl ?_
  refine kp_X2_111 C sh_64 rfl dX2_followLeastWay_7 (n := 10) rfl (fun M3 e3 => ?_)
  refine g_aload0 C dX2_followLeastWay_10 (n := 11) rfl ?_
  refine g_iconst C ic_0 dX2_followLeastWay_11 (n := 12) rfl ?_
  refine kp_X2_114 C sh_64 rfl dX2_followLeastWay_12 (n := 15) rfl (fun M4 e4 => ?_)
  refine g_aload0 C dX2_followLeastWay_15 (n := 16) rfl ?_
  refine kg_X2_36 C sh_64 rfl dX2_followLeastWay_16 (n := 19) rfl ?_
  refine g_iconst C ic_0 dX2_followLeastWay_19 (n := 20) rfl ?_
  refine kc_X2_117 C (ct_X4_fill SH M4 78 3 0 row_78) sh_78 ⟨Nat.le_of_ble_eq_true rfl, Nat.le_of_ble_eq_true rfl⟩ ⟨Nat.zero_le _, Nat.zero_le _⟩ (Nat.le_of_ble_eq_true rfl) dX2_followLeastWay_20 (n := 23) rfl (fun M5 e5 => ?_)
  have f4 : ∀ a, a ≠ 64 → M4 a = M a := fun a ha => by rw [e4, up2_ne _ _ ha, e3, up2_ne _ _ ha, e2, up2_ne _ _ ha]
  have f5 : ∀ a, a ≠ 79 → M5 a = M4 a := fun a ha => by rw [e5]; funext j; simp [fil, ha]
  have hf5 : frW M M5 := ⟨fun a a1 a2 a3 => by rw [f5 a a3]; exact f4 a a1, fun j j1 j2 j3 => by rw [f5 64 (by omega), e4, e3, e2]; simp [up2, j1, j2, j3]⟩
  have hW5 : WY M5 (mst S 0) := by
    refine ⟨?_, ?_, ?_, fun j q hq => absurd hq (by show ¬ ([] : List Int32)[j]? = some q; simp), fun j hj => ?_⟩
    · rw [f5 64 (by omega), e4, e3, e2]; simp [up2]; rfl
    · rw [f5 64 (by omega), e4, e3, e2]; simp [up2]; rfl
    · rw [f5 64 (by omega), e4, e3, e2]; simp [up2]; rfl
    · rw [e5]; show fil M4 79 3 0 79 j = nI 0; simp [fil, hj]; rfl
  refine g_iconst C ic_0 dX2_followLeastWay_23 (n := 24) rfl ?_
  refine g_istore1 C dX2_followLeastWay_24 (n := 25) rfl ?_
  have L_25 : ∀ (fu : Nat) (k : Nat) (yk : Int32) (M1 : Mem) (o2 : Option Value), 1200 - k < fu → (yk = nI k) → (k ≤ 1200) → (WY M1 (mst S k)) → (frW M M1) → G p l e ({ frames := 7, cells := 0, slots := 0, locals := 147 }) s m ([.ref (z + 64)] : List Value).toArray below meth c D cI cO z 3 (QM below D cI cO z ([.ref (z + 64)] : List Value).toArray s SH (pV (fun M1 => WY M1 (mst S 1200) ∧ frW M M1))) 0 0 SH M1 25 [some (.ref (z + 64)), some (.int yk), o2] [] := by
    intro fu_25
    induction fu_25 with
    | zero => intro k yk M1 o2 hfu; exact absurd hfu (Nat.not_lt_zero _)
    | succ fu_25 ih_25 =>
      intro k yk M1 o2 hfu_25 hyk hk hW0 hF
      refine g_iload1 C dX2_followLeastWay_25 (n := 26) rfl ?_
      refine g_sipush C sp_1200 dX2_followLeastWay_26 (n := 29) rfl ?_
      refine g_icmp_ge C dX2_followLeastWay_29 (t := 100) (by decide) (n := 32) rfl (fun c_29 => ?_) (fun c_29 => ?_)
      · have w29 : ¬ k < 1200 := fun h => c_29 ((qlt hyk (show (1200 : Int32) = nI 1200 from rfl) (by omega) (by decide)).mpr h)
        refine r_V C dX2_followLeastWay_100 ?_
        first
          | (have h9 := harr
             rw [← mst_end hs h9]; exact ⟨hW0, hF⟩)
          | (rw [← mst_end hs (Or.inr (show k = 1200 by omega))]; exact ⟨hW0, hF⟩)
      · have w29 : k < 1200 := (qlt hyk (show (1200 : Int32) = nI 1200 from rfl) (by omega) (by decide)).mp c_29
        obtain ⟨hV, hV2, _, _⟩ := mst_ok hs k
        obtain ⟨x0, hx0⟩ : ∃ x0, mst S k = x0 := ⟨_, rfl⟩
        obtain ⟨⟨i, d, u⟩, L, ch⟩ := x0
        rw [hx0] at hV hV2
        have hi : i ≤ spn S := hV.1
        have hd : d ≤ 6 := hV.2.1
        have hu : u ≤ dmy (spr S) d := hV.2.2
        have hW : WY M1 ((i, d, u), L, ch) := by rw [← hx0]; exact hW0
        have hMC1 := MC_W hMC hF
        have hC1 := CT_W hC hF
        refine g_aload0 C dX2_followLeastWay_32 (n := 33) rfl ?_
        refine kc_X2_120 C (ct_X2_hasArrived M1 S i d u L ch hMC1 hs hC1 hW hi hd hu) sh_64 ⟨Nat.le_of_ble_eq_true rfl, Nat.le_of_ble_eq_true rfl⟩ ⟨Nat.zero_le _, Nat.zero_le _⟩ (Nat.le_of_ble_eq_true rfl) dX2_followLeastWay_33 (n := 36) rfl (fun r_33 M_33 h_33 => ?_)
        rw [h_33.1, h_33.2]
        refine g_if_ne C dX2_followLeastWay_36 (t := 100) (by decide) (n := 39) rfl (fun c_36 => ?_) (fun c_36 => ?_)
        · have harr : arr S (mst S k) = true ∨ k = 1200 := Or.inl (by rw [hx0]; exact bI_n.mp c_36)
          refine r_V C dX2_followLeastWay_100 ?_
          first
            | (have h9 := harr
               rw [← mst_end hs h9]; exact ⟨hW0, hF⟩)
            | (rw [← mst_end hs (Or.inr (show k = 1200 by omega))]; exact ⟨hW0, hF⟩)
        · have hna : arr S ((i, d, u), L, ch) = false := bI_0.mp c_36
          have hms : mst S (k + 1) = mvS S ((i, d, u), L, ch) := by rw [mst_s, hx0, hna]; rfl
          have hmu : 0 < mu S ((i, d, u), L, ch) := by
            have := (mv_P hs hV hna).2.1
            omega
          have hL : L.length < 1200 := by
            have h9 : L.length + mu S ((i, d, u), L, ch) ≤ 1200 := hV2
            omega
          have J_94 : ∀ (M9 : Mem) (o2 : Option Value), (WY M9 (mst S (k + 1))) → (frW M M9) → G p l e ({ frames := 7, cells := 0, slots := 0, locals := 147 }) s m ([.ref (z + 64)] : List Value).toArray below meth c D cI cO z 3 (QM below D cI cO z ([.ref (z + 64)] : List Value).toArray s SH (pV (fun M1 => WY M1 (mst S 1200) ∧ frW M M1))) 0 0 SH M9 94 [some (.ref (z + 64)), some (.int yk), o2] [] := by
            intro M9 o2 hdn hfr
            refine g_iinc1 C (inc_1 _) dX2_followLeastWay_94 (n := 97) rfl ?_
            refine g_goto C dX2_followLeastWay_97 (t := 25) (by decide) ?_
            exact ih_25 (k + 1) (yk + 1) M9 _ (by omega) (by rw [hyk, nI_1]) (by omega) hdn hfr
          have J_79 : ∀ (M9 : Mem) (xb : Int32), ((xb = 1 ∧ WY M9 (mst S (k + 1))) ∨ (xb = 0 ∧ M9 = M1 ∧ mst S (k + 1) = ((tkO S ((i, d, u), L, ch) 0 i 0).or (tkO S ((i, d, u), L, ch) 0 i 1)).getD ((i, d, u), L, ch))) → (frW M M9) → G p l e ({ frames := 7, cells := 0, slots := 0, locals := 147 }) s m ([.ref (z + 64)] : List Value).toArray below meth c D cI cO z 3 (QM below D cI cO z ([.ref (z + 64)] : List Value).toArray s SH (pV (fun M1 => WY M1 (mst S 1200) ∧ frW M M1))) 0 0 SH M9 79 [some (.ref (z + 64)), some (.int yk), o2] [.int xb] := by
            intro M9 xb hcb hfr
            refine g_istore2 C dX2_followLeastWay_79 (n := 80) rfl ?_
            refine g_iload2 C dX2_followLeastWay_80 (n := 81) rfl ?_
            refine g_if_ne C dX2_followLeastWay_81 (t := 94) (by decide) (n := 84) rfl (fun c_81 => ?_) (fun c_81 => ?_)
            · have hdn : WY M9 (mst S (k + 1)) := by
                rcases hcb with h | h
                · exact h.2
                · exact absurd h.1 c_81
              exact J_94 _ _ hdn hfr
            · obtain ⟨hM9, hput⟩ : M9 = M1 ∧ mst S (k + 1) = ((tkO S ((i, d, u), L, ch) 0 i 0).or (tkO S ((i, d, u), L, ch) 0 i 1)).getD ((i, d, u), L, ch) := by
                rcases hcb with h | h
                · exact absurd (h.1.symm.trans c_81) (by decide)
                · exact h.2
              rw [hM9]
              refine g_aload0 C dX2_followLeastWay_84 (n := 85) rfl ?_
              refine g_iconst C ic_0 dX2_followLeastWay_85 (n := 86) rfl ?_
              refine g_aload0 C dX2_followLeastWay_86 (n := 87) rfl ?_
              refine kg_X2_111 C sh_64 rfl dX2_followLeastWay_87 (n := 90) rfl ?_
              refine kc_X2_130 C (ct_X2_takeOffer M1 S i d u L ch 0 i _ _ hMC1 hs hC1 hW hi hd hu hL nI_0.symm (by decide) hW.1 hi) sh_64 ⟨Nat.le_of_ble_eq_true rfl, Nat.le_of_ble_eq_true rfl⟩ ⟨Nat.zero_le _, Nat.zero_le _⟩ (Nat.le_of_ble_eq_true rfl) dX2_followLeastWay_90 (n := 93) rfl (fun r5 M5 h5 => ?_)
              obtain ⟨h5, hf5⟩ := h5
              have hdn : WY M5 (mst S (k + 1)) := by
                rw [hput]
                rcases h5 with ⟨_, y, hy, hWy⟩ | ⟨_, hy, hM5⟩
                · rw [hy]; exact hWy
                · rw [hy, hM5]; exact hW
              have hfr := frW_t hF hf5
              refine g_pop C rfl dX2_followLeastWay_93 (n := 94) rfl ?_
              exact J_94 _ _ hdn hfr
          refine g_aload0 C dX2_followLeastWay_39 (n := 40) rfl ?_
          refine kc_X2_124 C (ct_X2_letStay M1 S i d u L ch hMC1 hs hC1 hW hi hd hu hL) sh_64 ⟨Nat.le_of_ble_eq_true rfl, Nat.le_of_ble_eq_true rfl⟩ ⟨Nat.zero_le _, Nat.zero_le _⟩ (Nat.le_of_ble_eq_true rfl) dX2_followLeastWay_40 (n := 43) rfl (fun r2 M2 h2 => ?_)
          obtain ⟨h2, hf2⟩ := h2
          refine g_if_ne C dX2_followLeastWay_43 (t := 74) (by decide) (n := 46) rfl (fun c_43 => ?_) (fun c_43 => ?_)
          · have hdone : WY M2 (mst S (k + 1)) := by
              rcases h2 with ⟨_, y, hy, hWy⟩ | ⟨h, _⟩
              · rw [hms, mv_1 hy]; exact hWy
              · exact absurd h c_43
            have hfr := frW_t hF hf2
            have hcb : ∀ M9, WY M9 (mst S (k + 1)) → ((1 : Int32) = 1 ∧ WY M9 (mst S (k + 1))) ∨ ((1 : Int32) = 0 ∧ M9 = M1 ∧ mst S (k + 1) = ((tkO S ((i, d, u), L, ch) 0 i 0).or (tkO S ((i, d, u), L, ch) 0 i 1)).getD ((i, d, u), L, ch)) := fun M9 h => Or.inl ⟨rfl, h⟩
            replace hcb := hcb _ hdone
            refine g_iconst C ic_1 dX2_followLeastWay_74 (n := 75) rfl ?_
            refine g_goto C dX2_followLeastWay_75 (t := 79) (by decide) ?_
            exact J_79 _ _ hcb hfr
          · obtain ⟨hnS, hM2⟩ : tkS S ((i, d, u), L, ch) = none ∧ M2 = M1 := by
              rcases h2 with ⟨h, _⟩ | h
              · exact absurd (h.symm.trans c_43) (by decide)
              · exact h.2
            rw [hM2]
            refine g_aload0 C dX2_followLeastWay_46 (n := 47) rfl ?_
            refine kc_X2_127 C (ct_X2_isAtMark M1 S i d u L ch hMC1 hs hC1 hW hi hd hu) sh_64 ⟨Nat.le_of_ble_eq_true rfl, Nat.le_of_ble_eq_true rfl⟩ ⟨Nat.zero_le _, Nat.zero_le _⟩ (Nat.le_of_ble_eq_true rfl) dX2_followLeastWay_47 (n := 50) rfl (fun r_47 M_47 h_47 => ?_)
            rw [h_47.1, h_47.2]
            refine g_if_eq C dX2_followLeastWay_50 (t := 78) (by decide) (n := 53) rfl (fun c_50 => ?_) (fun c_50 => ?_)
            · have hput : mst S (k + 1) = ((tkO S ((i, d, u), L, ch) 0 i 0).or (tkO S ((i, d, u), L, ch) 0 i 1)).getD ((i, d, u), L, ch) := by rw [hms]; exact mv_3 hnS (Or.inl (bI_0.mp c_50))
              have hcb : ((0 : Int32) = 1 ∧ WY M1 (mst S (k + 1))) ∨ ((0 : Int32) = 0 ∧ M1 = M1 ∧ mst S (k + 1) = ((tkO S ((i, d, u), L, ch) 0 i 0).or (tkO S ((i, d, u), L, ch) 0 i 1)).getD ((i, d, u), L, ch)) := Or.inr ⟨rfl, rfl, hput⟩
              have hfr := hF
              refine g_iconst C ic_0 dX2_followLeastWay_78 (n := 79) rfl ?_
              exact J_79 _ _ hcb hfr
            · have ham := bI_n.mp c_50
              have hin := (atM_i ham).1
              refine g_aload0 C dX2_followLeastWay_53 (n := 54) rfl ?_
              refine g_iconst C ic_2 dX2_followLeastWay_54 (n := 55) rfl ?_
              refine g_aload0 C dX2_followLeastWay_55 (n := 56) rfl ?_
              refine kg_X2_111 C sh_64 rfl dX2_followLeastWay_56 (n := 59) rfl ?_
              refine g_iconst C ic_1 dX2_followLeastWay_59 (n := 60) rfl ?_
              refine g_iadd C dX2_followLeastWay_60 (n := 61) rfl ?_
              refine kc_X2_130 C (ct_X2_takeOffer M1 S i d u L ch 2 (i + 1) _ _ hMC1 hs hC1 hW hi hd hu hL rfl (by decide) (by rw [show M1 64 8 = nI i from hW.1, nI_1]) hin) sh_64 ⟨Nat.le_of_ble_eq_true rfl, Nat.le_of_ble_eq_true rfl⟩ ⟨Nat.zero_le _, Nat.zero_le _⟩ (Nat.le_of_ble_eq_true rfl) dX2_followLeastWay_61 (n := 64) rfl (fun r3 M3 h3 => ?_)
              obtain ⟨h3, hf3⟩ := h3
              refine g_if_ne C dX2_followLeastWay_64 (t := 74) (by decide) (n := 67) rfl (fun c_64 => ?_) (fun c_64 => ?_)
              · have hdone : WY M3 (mst S (k + 1)) := by
                  rcases h3 with ⟨_, y, hy, hWy⟩ | ⟨h, _⟩
                  · rw [hms, mv_2 hnS ham (or3 hy)]; exact hWy
                  · exact absurd h c_64
                have hfr := frW_t hF hf3
                have hcb : ∀ M9, WY M9 (mst S (k + 1)) → ((1 : Int32) = 1 ∧ WY M9 (mst S (k + 1))) ∨ ((1 : Int32) = 0 ∧ M9 = M1 ∧ mst S (k + 1) = ((tkO S ((i, d, u), L, ch) 0 i 0).or (tkO S ((i, d, u), L, ch) 0 i 1)).getD ((i, d, u), L, ch)) := fun M9 h => Or.inl ⟨rfl, h⟩
                replace hcb := hcb _ hdone
                refine g_iconst C ic_1 dX2_followLeastWay_74 (n := 75) rfl ?_
                refine g_goto C dX2_followLeastWay_75 (t := 79) (by decide) ?_
                exact J_79 _ _ hcb hfr
              · obtain ⟨hnO, hM3⟩ : (tkO S ((i, d, u), L, ch) 2 (i + 1) 0).or (tkO S ((i, d, u), L, ch) 2 (i + 1) 1) = none ∧ M3 = M1 := by
                  rcases h3 with ⟨h, _⟩ | h
                  · exact absurd (h.symm.trans c_64) (by decide)
                  · exact h.2
                rw [hM3]
                refine g_aload0 C dX2_followLeastWay_67 (n := 68) rfl ?_
                refine kc_X2_134 C (ct_X2_leaveOut M1 S i d u L ch hMC1 hs hC1 hW hi hd hu hin) sh_64 ⟨Nat.le_of_ble_eq_true rfl, Nat.le_of_ble_eq_true rfl⟩ ⟨Nat.zero_le _, Nat.zero_le _⟩ (Nat.le_of_ble_eq_true rfl) dX2_followLeastWay_68 (n := 71) rfl (fun r4 M4 h4 => ?_)
                obtain ⟨h4, hf4⟩ := h4
                refine g_if_eq C dX2_followLeastWay_71 (t := 78) (by decide) (n := 74) rfl (fun c_71 => ?_) (fun c_71 => ?_)
                · obtain ⟨hnL, hM4⟩ : tkL S ((i, d, u), L, ch) = none ∧ M4 = M1 := by
                    rcases h4 with ⟨h, _⟩ | h
                    · exact absurd (h.symm.trans c_71) (by decide)
                    · exact h.2
                  rw [hM4]
                  have hput : mst S (k + 1) = ((tkO S ((i, d, u), L, ch) 0 i 0).or (tkO S ((i, d, u), L, ch) 0 i 1)).getD ((i, d, u), L, ch) := by rw [hms]; exact mv_3 hnS (Or.inr ((or3n hnO).trans hnL))
                  have hcb : ((0 : Int32) = 1 ∧ WY M1 (mst S (k + 1))) ∨ ((0 : Int32) = 0 ∧ M1 = M1 ∧ mst S (k + 1) = ((tkO S ((i, d, u), L, ch) 0 i 0).or (tkO S ((i, d, u), L, ch) 0 i 1)).getD ((i, d, u), L, ch)) := Or.inr ⟨rfl, rfl, hput⟩
                  have hfr := hF
                  refine g_iconst C ic_0 dX2_followLeastWay_78 (n := 79) rfl ?_
                  exact J_79 _ _ hcb hfr
                · have hdone : WY M4 (mst S (k + 1)) := by
                    rcases h4 with ⟨_, y, hy, hWy⟩ | ⟨h, _⟩
                    · rw [hms, mv_2 hnS ham ((or3n hnO).trans hy)]; exact hWy
                    · exact absurd h c_71
                  have hfr := frW_t hF hf4
                  have hcb : ∀ M9, WY M9 (mst S (k + 1)) → ((1 : Int32) = 1 ∧ WY M9 (mst S (k + 1))) ∨ ((1 : Int32) = 0 ∧ M9 = M1 ∧ mst S (k + 1) = ((tkO S ((i, d, u), L, ch) 0 i 0).or (tkO S ((i, d, u), L, ch) 0 i 1)).getD ((i, d, u), L, ch)) := fun M9 h => Or.inl ⟨rfl, h⟩
                  replace hcb := hcb _ hdone
                  refine g_iconst C ic_1 dX2_followLeastWay_74 (n := 75) rfl ?_
                  refine g_goto C dX2_followLeastWay_75 (t := 79) (by decide) ?_
                  exact J_79 _ _ hcb hfr
  exact L_25 1201 0 0 M5 none (by omega) nI_0.symm (by omega) hW5 hf5
