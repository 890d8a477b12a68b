/-! the grammar: static helpers of SpeechMarks, and Grammar -/
theorem e_mul2 {x : Int32} {a : Nat} (hx : x = nI a) : x * 2 = nI (a * 2) := by rw [hx]; exact pk_mul a 2
theorem e_and1 {x : Int32} {a : Nat} (hx : x = nI a) (ha : a < 2 ^ 31) : x &&& 1 = nI (a % 2) := by
  rw [hx]; exact pk_andN (Nat.lt_trans ha (by decide)) 1 (by decide)
theorem e_add {x y : Int32} {a b : Nat} (hx : x = nI a) (hy : y = nI b) : x + y = nI (a + b) := by rw [hx, hy]; exact nI_add a b
theorem e_sub {x y : Int32} {a b : Nat} (hx : x = nI a) (hy : y = nI b) (h : b ≤ a) : x - y = nI (a - b) := by rw [hx, hy]; exact pk_sub h
theorem e_mul {x y : Int32} {a b : Nat} (hx : x = nI a) (hy : y = nI b) : x * y = nI (a * b) := by rw [hx, hy]; exact pk_mul a b
theorem e_st {x y : Int32} {d u : Nat} (hx : x = nI d) (hy : y = nI u) : x * 7 + y = nI (7 * d + u) := by
  rw [e_add (e_mul hx (show (7 : Int32) = nI 7 from rfl)) hy]; congr 1; omega
theorem e_ix {x y : Int32} {s ch : Nat} (hx : x = nI s) (hy : y = nI ch) : x * 2 + y = nI (2 * s + ch) := by
  rw [e_add (e_mul2 hx) hy]; congr 1; omega
theorem e_div7 {x : Int32} {d u : Nat} (hx : x = nI (7 * d + u)) (hd : d ≤ 6) (hu : u < 7) : x / 7 = nI d := by
  rw [hx]; rw [show (7 : Int32) = nI 7 from rfl, pk_div (by omega) (by decide) (by decide)]; congr 1; omega
theorem e_rem7 {x : Int32} {d u : Nat} (hx : x = nI (7 * d + u)) (hd : d ≤ 6) (hu : u < 7) : x - x / 7 * 7 = nI u := by
  rw [hx]; rw [show (7 : Int32) = nI 7 from rfl, pk_rem (by omega) (by decide) (by decide)]; congr 1; omega
def offr (M : Mem) (g s ch : Nat) (mk nx : Int32) : Mem := up2 (up2 M (g + 2) (2 * s + ch) mk) (g + 4) (2 * s + ch) nx
def gE (M : Mem) (g s ch : Nat) (mk nx : Int32) : Prop := M (g + 2) (2 * s + ch) = mk ∧ M (g + 4) (2 * s + ch) = nx
def gS (M : Mem) (g t ru d u : Nat) : Prop :=
  if u = 0 then gE M g (7 * d) 0 (if d < 6 then opn t d else 0) (if d < 6 then nI (7 * d + 7) else -1) ∧ gE M g (7 * d) 1 (if 1 ≤ d then cls t d else 0) (if 1 ≤ d then nI (7 * d - 7) else -1)
  else gE M g (7 * d + u) 0 (opn t (dmy ru d - u)) (nI (7 * d + u - 1)) ∧ gE M g (7 * d + u) 1 0 (-1)
def GOK (M : Mem) (g t ru : Nat) : Prop := ∀ d, d ≤ 6 → ∀ u, u ≤ dmy ru d → gS M g t ru d u
/-- what the grammar's keeper holds -/
def gI (M : Mem) (g : Nat) : Prop := M g 0 = -4 ∨ ∃ t ru, t < 4 ∧ ru < 3 ∧ M g 0 = nI t ∧ M g 1 = nI ru ∧ GOK M g t ru
theorem gE_offr {M : Mem} {g s ch s' ch' : Nat} {mk nx mk' nx' : Int32} (h : gE M g s ch mk nx) (hne : 2 * s + ch ≠ 2 * s' + ch') : gE (offr M g s' ch' mk' nx') g s ch mk nx := by
  unfold gE offr at *
  simp [up2, hne, h]
theorem gE_self (M : Mem) (g s ch : Nat) (mk nx : Int32) : gE (offr M g s ch mk nx) g s ch mk nx := by
  unfold gE offr
  simp [up2]
theorem gS_offr {M : Mem} {g t ru d u s ch : Nat} {mk nx : Int32} (h : gS M g t ru d u) (hne : s ≠ 7 * d + u) (hch : ch < 2) : gS (offr M g s ch mk nx) g t ru d u := by
  unfold gS at *
  by_cases hu : u = 0
  · rw [if_pos hu] at *
    subst hu
    exact ⟨gE_offr h.1 (by omega), gE_offr h.2 (by omega)⟩
  · rw [if_neg hu] at *
    exact ⟨gE_offr h.1 (by omega), gE_offr h.2 (by omega)⟩
theorem offr_ne {M : Mem} {g s ch a : Nat} {mk nx : Int32} (h1 : a ≠ g + 2) (h2 : a ≠ g + 4) : offr M g s ch mk nx a = M a := by
  unfold offr; rw [up2_ne _ _ h2, up2_ne _ _ h1]
theorem gS_cong {M M' : Mem} {g t ru d u : Nat} (h2 : M' (g + 2) = M (g + 2)) (h4 : M' (g + 4) = M (g + 4)) (h : gS M g t ru d u) : gS M' g t ru d u := by
  unfold gS gE at *; rw [h2, h4]; exact h
theorem GOK_cong {M M' : Mem} {g t ru : Nat} (h2 : M' (g + 2) = M (g + 2)) (h4 : M' (g + 4) = M (g + 4)) (h : GOK M g t ru) : GOK M' g t ru := fun d hd u hu => gS_cong h2 h4 (h d hd u hu)
theorem gI_cong {M M' : Mem} {g : Nat} (h0 : M' g = M g) (h2 : M' (g + 2) = M (g + 2)) (h4 : M' (g + 4) = M (g + 4)) (h : gI M g) : gI M' g := by
  rcases h with h | ⟨t, ru, ht, hr, h5, h6, h7⟩
  · exact Or.inl (by rw [h0]; exact h)
  · exact Or.inr ⟨t, ru, ht, hr, by rw [h0]; exact h5, by rw [h0]; exact h6, GOK_cong h2 h4 h7⟩
def ownS (t : Nat) (c : Int32) : Bool := decide (pq t 0 = c) || decide (pq t 1 = c) || decide (pq t 2 = c) || decide (pq t 3 = c)
theorem ic_m1 : Int32.ofInt (-1) = (-1) := by decide
theorem ic_1 : Int32.ofInt 1 = 1 := by decide
theorem ic_2 : Int32.ofInt 2 = 2 := by decide
theorem ic_4 : Int32.ofInt 4 = 4 := by decide
theorem bp_6 : (Int8.ofInt 6).toInt32 = 6 := by decide
theorem bp_7 : (Int8.ofInt 7).toInt32 = 7 := by decide
theorem bp_97 : (Int8.ofInt 97).toInt32 = 97 := by decide
theorem bp_122 : (Int8.ofInt 122).toInt32 = 122 := by decide
set_option maxHeartbeats 4000000 in
set_option maxRecDepth 100000 in
theorem ct_X6_pairSign {l : Launch} {D : va_G} {cI cO : ClassId} {z tP : Nat} {aK aV : Nat → Nat} (sh : Shp) (M : Mem) (t w : Nat) (x y : Int32) (hx : x = nI t) (hy : y = nI w) (ht : t < 4) (hw : w < 4) : Cm l D cI cO z tP aK aV yX6_pairSign cX6_pairSign 3 (some .int) 0 0 [.int x, .int y] sh M (pI (fun r M1 => r = pq t w ∧ M1 = M)) := by
  refine cm_intro (lv0 := [some (.int x), some (.int y), none]) (by decide) rfl (Nat.le_of_ble_eq_true rfl) rfl (fun p e s m below meth c C => ?_)
  refine g_iload0 C dX6_pairSign_0 (n := 1) rfl ?_
  refine g_iconst C ic_4 dX6_pairSign_1 (n := 2) rfl ?_
  refine g_imul C dX6_pairSign_2 (n := 3) rfl ?_
  refine g_iload1 C dX6_pairSign_3 (n := 4) rfl ?_
  refine g_iadd C dX6_pairSign_4 (n := 5) rfl ?_
  refine g_istore2 C dX6_pairSign_5 (n := 6) rfl ?_
  have hv : x * 4 + y = nI (4 * t + w) := by rw [e_add (e_mul hx (show (4 : Int32) = nI 4 from rfl)) hy]; congr 1; omega
  refine g_iload2 C dX6_pairSign_6 (n := 7) rfl ?_
  refine g_if_lt C dX6_pairSign_7 (t := 26) (by decide) (n := 10) rfl (fun c_7 => ?_) (fun c_7 => ?_)
  · exact absurd c_7 (by rw [hv]; exact nI_pos (by omega))
  · have _u := True.intro
    refine g_iload2 C dX6_pairSign_10 (n := 11) rfl ?_
    refine g_getP C dX6_pairSign_11 (n := 14) rfl ?_
    refine g_tlenP C dX6_pairSign_14 (n := 15) rfl ?_
    refine g_icmp_ge C dX6_pairSign_15 (t := 26) (by decide) (n := 18) rfl (fun c_15 => ?_) (fun c_15 => ?_)
    · exact absurd ((qlt hv (show (16 : Int32) = nI 16 from rfl) (by omega) (by decide)).mpr (by omega)) c_15
    · have _u := True.intro
      refine g_getP C dX6_pairSign_18 (n := 21) rfl ?_
      refine g_iload2 C dX6_pairSign_21 (n := 22) rfl ?_
      refine g_tcP C (j := 4 * t + w) (hv) (by omega) dX6_pairSign_22 (n := 23) rfl ?_
      refine g_goto C dX6_pairSign_23 (t := 27) (by decide) ?_
      refine r_I C dX6_pairSign_27 ?_
      exact ⟨rfl, rfl⟩
set_option maxHeartbeats 4000000 in
set_option maxRecDepth 100000 in
theorem ct_X6_openerOf {l : Launch} {D : va_G} {cI cO : ClassId} {z tP : Nat} {aK aV : Nat → Nat} (sh : Shp) (M : Mem) (t d : Nat) (x y : Int32) (hx : x = nI t) (hy : y = nI d) (ht : t < 4) (hd : d < 2 ^ 31) : Cm l D cI cO z tP aK aV yX6_openerOf cX6_openerOf 2 (some .int) 1 22 [.int x, .int y] sh M (pI (fun r M1 => r = opn t d ∧ M1 = M)) := by
  refine cm_intro (lv0 := [some (.int x), some (.int y)]) (by decide) rfl (Nat.le_of_ble_eq_true rfl) rfl (fun p e s m below meth c C => ?_)
  refine g_iload0 C dX6_openerOf_0 (n := 1) rfl ?_
  refine g_iload1 C dX6_openerOf_1 (n := 2) rfl ?_
  refine g_iconst C ic_1 dX6_openerOf_2 (n := 3) rfl ?_
  refine g_iand C dX6_openerOf_3 (n := 4) rfl ?_
  refine g_iconst C ic_2 dX6_openerOf_4 (n := 5) rfl ?_
  refine g_imul C dX6_openerOf_5 (n := 6) rfl ?_
  refine kc_X6_246 C (ct_X6_pairSign sh M t (d % 2 * 2) _ _ hx (e_mul2 (e_and1 hy hd)) ht (by omega)) ⟨Nat.le_of_ble_eq_true rfl, Nat.le_of_ble_eq_true rfl⟩ ⟨Nat.zero_le _, Nat.zero_le _⟩ (Nat.le_of_ble_eq_true rfl) dX6_openerOf_6 (n := 9) rfl (fun r_6 M_6 h_6 => ?_)
  rw [h_6.1, h_6.2]
  refine r_I C dX6_openerOf_9 ?_
  exact ⟨rfl, rfl⟩
set_option maxHeartbeats 4000000 in
set_option maxRecDepth 100000 in
theorem ct_X6_closerOf {l : Launch} {D : va_G} {cI cO : ClassId} {z tP : Nat} {aK aV : Nat → Nat} (sh : Shp) (M : Mem) (t d : Nat) (x y : Int32) (hx : x = nI t) (hy : y = nI d) (ht : t < 4) (hd : d < 2 ^ 31) (h1 : 1 ≤ d) : Cm l D cI cO z tP aK aV yX6_closerOf cX6_closerOf 2 (some .int) 1 22 [.int x, .int y] sh M (pI (fun r M1 => r = cls t d ∧ M1 = M)) := by
  refine cm_intro (lv0 := [some (.int x), some (.int y)]) (by decide) rfl (Nat.le_of_ble_eq_true rfl) rfl (fun p e s m below meth c C => ?_)
  refine g_iload0 C dX6_closerOf_0 (n := 1) rfl ?_
  refine g_iload1 C dX6_closerOf_1 (n := 2) rfl ?_
  refine g_iconst C ic_1 dX6_closerOf_2 (n := 3) rfl ?_
  refine g_isub C dX6_closerOf_3 (n := 4) rfl ?_
  refine g_iconst C ic_1 dX6_closerOf_4 (n := 5) rfl ?_
  refine g_iand C dX6_closerOf_5 (n := 6) rfl ?_
  refine g_iconst C ic_2 dX6_closerOf_6 (n := 7) rfl ?_
  refine g_imul C dX6_closerOf_7 (n := 8) rfl ?_
  refine g_iconst C ic_1 dX6_closerOf_8 (n := 9) rfl ?_
  refine g_iadd C dX6_closerOf_9 (n := 10) rfl ?_
  have hq : (d - 1) % 2 * 2 + 1 = (d + 1) % 2 * 2 + 1 := by omega
  refine kc_X6_246 C (ct_X6_pairSign sh M t ((d + 1) % 2 * 2 + 1) _ _ hx (by rw [← hq]; exact e_add (e_mul2 (e_and1 (e_sub hy (show (1 : Int32) = nI 1 from rfl) h1) (by omega))) rfl) ht (by omega)) ⟨Nat.le_of_ble_eq_true rfl, Nat.le_of_ble_eq_true rfl⟩ ⟨Nat.zero_le _, Nat.zero_le _⟩ (Nat.le_of_ble_eq_true rfl) dX6_closerOf_10 (n := 13) rfl (fun r_10 M_10 h_10 => ?_)
  rw [h_10.1, h_10.2]
  refine r_I C dX6_closerOf_13 ?_
  exact ⟨rfl, rfl⟩
set_option maxHeartbeats 4000000 in
set_option maxRecDepth 100000 in
theorem ct_X6_isLetter {l : Launch} {D : va_G} {cI cO : ClassId} {z tP : Nat} {aK aV : Nat → Nat} (sh : Shp) (M : Mem) (x : Int32) : Cm l D cI cO z tP aK aV yX6_isLetter cX6_isLetter 1 (some .boolean) 0 0 [.int x] sh M (pI (fun r M1 => r = bI (isLt x) ∧ M1 = M)) := by
  refine cm_intro (lv0 := [some (.int x)]) (by decide) rfl (Nat.le_of_ble_eq_true rfl) rfl (fun p e s m below meth c C => ?_)
  refine g_iload0 C dX6_isLetter_0 (n := 1) rfl ?_
  refine g_bipush C bp_97 dX6_isLetter_1 (n := 3) rfl ?_
  refine g_icmp_lt C dX6_isLetter_3 (t := 16) (by decide) (n := 6) rfl (fun c_3 => ?_) (fun c_3 => ?_)
  · have _u := True.intro
    refine g_iconst C ic_0 dX6_isLetter_16 (n := 17) rfl ?_
    refine r_Z C dX6_isLetter_17 rfl ?_
    exact ⟨by simp [bI, isLt, *], rfl⟩
  · have _u := True.intro
    refine g_iload0 C dX6_isLetter_6 (n := 7) rfl ?_
    refine g_bipush C bp_122 dX6_isLetter_7 (n := 9) rfl ?_
    refine g_icmp_gt C dX6_isLetter_9 (t := 16) (by decide) (n := 12) rfl (fun c_9 => ?_) (fun c_9 => ?_)
    · have _u := True.intro
      refine g_iconst C ic_0 dX6_isLetter_16 (n := 17) rfl ?_
      refine r_Z C dX6_isLetter_17 rfl ?_
      exact ⟨by simp [bI, isLt, *], rfl⟩
    · have _u := True.intro
      refine g_iconst C ic_1 dX6_isLetter_12 (n := 13) rfl ?_
      refine g_goto C dX6_isLetter_13 (t := 17) (by decide) ?_
      refine r_Z C dX6_isLetter_17 rfl ?_
      exact ⟨by simp [bI, isLt, *], rfl⟩
set_option maxHeartbeats 4000000 in
set_option maxRecDepth 100000 in
theorem ct_X6_isBelow {l : Launch} {D : va_G} {cI cO : ClassId} {z tP : Nat} {aK aV : Nat → Nat} (sh : Shp) (M : Mem) (x y : Int32) : Cm l D cI cO z tP aK aV yX6_isBelow cX6_isBelow 2 (some .boolean) 0 0 [.int x, .int y] sh M (pI (fun r M1 => r = bI (!decide (x < 0) && decide (x < y)) ∧ M1 = M)) := by
  refine cm_intro (lv0 := [some (.int x), some (.int y)]) (by decide) rfl (Nat.le_of_ble_eq_true rfl) rfl (fun p e s m below meth c C => ?_)
  refine g_iload0 C dX6_isBelow_0 (n := 1) rfl ?_
  refine g_if_lt C dX6_isBelow_1 (t := 13) (by decide) (n := 4) rfl (fun c_1 => ?_) (fun c_1 => ?_)
  · have _u := True.intro
    refine g_iconst C ic_0 dX6_isBelow_13 (n := 14) rfl ?_
    refine r_Z C dX6_isBelow_14 rfl ?_
    exact ⟨by simp [bI, *], rfl⟩
  · have _u := True.intro
    refine g_iload0 C dX6_isBelow_4 (n := 5) rfl ?_
    refine g_iload1 C dX6_isBelow_5 (n := 6) rfl ?_
    refine g_icmp_ge C dX6_isBelow_6 (t := 13) (by decide) (n := 9) rfl (fun c_6 => ?_) (fun c_6 => ?_)
    · have _u := True.intro
      refine g_iconst C ic_0 dX6_isBelow_13 (n := 14) rfl ?_
      refine r_Z C dX6_isBelow_14 rfl ?_
      exact ⟨by simp [bI, *], rfl⟩
    · have _u := True.intro
      refine g_iconst C ic_1 dX6_isBelow_9 (n := 10) rfl ?_
      refine g_goto C dX6_isBelow_10 (t := 14) (by decide) ?_
      refine r_Z C dX6_isBelow_14 rfl ?_
      exact ⟨by simp [bI, *], rfl⟩
set_option maxHeartbeats 4000000 in
set_option maxRecDepth 100000 in
theorem ct_X0_depthOf {l : Launch} {D : va_G} {cI cO : ClassId} {z tP : Nat} {aK aV : Nat → Nat} (sh : Shp) (M : Mem) (d u : Nat) (x : Int32) (hx : x = nI (7 * d + u)) (hd : d ≤ 6) (hu : u < 7) : Cm l D cI cO z tP aK aV yX0_depthOf cX0_depthOf 1 (some .int) 0 0 [.int x] sh M (pI (fun r M1 => r = nI d ∧ M1 = M)) := by
  refine cm_intro (lv0 := [some (.int x)]) (by decide) rfl (Nat.le_of_ble_eq_true rfl) rfl (fun p e s m below meth c C => ?_)
  refine g_iload0 C dX0_depthOf_0 (n := 1) rfl ?_
  refine g_bipush C bp_7 dX0_depthOf_1 (n := 3) rfl ?_
  refine g_idiv C (by decide) dX0_depthOf_3 (n := 4) rfl ?_
  refine r_I C dX0_depthOf_4 ?_
  exact ⟨e_div7 hx hd hu, rfl⟩
set_option maxHeartbeats 4000000 in
set_option maxRecDepth 100000 in
theorem ct_X0_leftDue {l : Launch} {D : va_G} {cI cO : ClassId} {z tP : Nat} {aK aV : Nat → Nat} (sh : Shp) (M : Mem) (d u : Nat) (x : Int32) (hx : x = nI (7 * d + u)) (hd : d ≤ 6) (hu : u < 7) : Cm l D cI cO z tP aK aV yX0_leftDue cX0_leftDue 1 (some .int) 0 0 [.int x] sh M (pI (fun r M1 => r = nI u ∧ M1 = M)) := by
  refine cm_intro (lv0 := [some (.int x)]) (by decide) rfl (Nat.le_of_ble_eq_true rfl) rfl (fun p e s m below meth c C => ?_)
  refine g_iload0 C dX0_leftDue_0 (n := 1) rfl ?_
  refine g_bipush C bp_7 dX0_leftDue_1 (n := 3) rfl ?_
  refine g_irem C (by decide) dX0_leftDue_3 (n := 4) rfl ?_
  refine r_I C dX0_leftDue_4 ?_
  exact ⟨e_rem7 hx hd hu, rfl⟩
set_option maxHeartbeats 4000000 in
set_option maxRecDepth 100000 in
theorem ct_X0_stateOf {l : Launch} {D : va_G} {cI cO : ClassId} {z tP : Nat} {aK aV : Nat → Nat} (sh : Shp) (M : Mem) (d u : Nat) (x y : Int32) (hx : x = nI d) (hy : y = nI u) : Cm l D cI cO z tP aK aV yX0_stateOf cX0_stateOf 2 (some .int) 0 0 [.int x, .int y] sh M (pI (fun r M1 => r = nI (7 * d + u) ∧ M1 = M)) := by
  refine cm_intro (lv0 := [some (.int x), some (.int y)]) (by decide) rfl (Nat.le_of_ble_eq_true rfl) rfl (fun p e s m below meth c C => ?_)
  refine g_iload0 C dX0_stateOf_0 (n := 1) rfl ?_
  refine g_bipush C bp_7 dX0_stateOf_1 (n := 3) rfl ?_
  refine g_imul C dX0_stateOf_3 (n := 4) rfl ?_
  refine g_iload1 C dX0_stateOf_4 (n := 5) rfl ?_
  refine g_iadd C dX0_stateOf_5 (n := 6) rfl ?_
  refine r_I C dX0_stateOf_6 ?_
  exact ⟨e_st hx hy, rfl⟩
set_option maxHeartbeats 4000000 in
set_option maxRecDepth 100000 in
theorem ct_X0_dueBehindBreak {l : Launch} {D : va_G} {cI cO : ClassId} {z tP : Nat} {aK aV : Nat → Nat} (sh : Shp) (M : Mem) (g : Nat) (ru d : Nat) (x : Int32) (hg : isGrammar sh g) (hru : M g 1 = nI ru) (hr3 : ru < 3) (hx : x = nI d) (hd : d < 2 ^ 31) : Cm l D cI cO z tP aK aV yX0_dueBehindBreak cX0_dueBehindBreak 2 (some .int) 1 21 [.ref (z + g), .int x] sh M (pI (fun r M1 => r = nI (dmy ru d) ∧ M1 = M)) := by
  refine cm_intro (lv0 := [some (.ref (z + g)), some (.int x)]) (by decide) rfl (Nat.le_of_ble_eq_true rfl) rfl (fun p e s m below meth c C => ?_)
  refine g_aload0 C dX0_dueBehindBreak_0 (n := 1) rfl ?_
  refine kg_X0_27 C hg.1 rfl dX0_dueBehindBreak_1 (n := 4) rfl ?_
  refine g_if_ne C dX0_dueBehindBreak_4 (t := 9) (by decide) (n := 7) rfl (fun c_4 => ?_) (fun c_4 => ?_)
  · have _u := True.intro
    refine g_aload0 C dX0_dueBehindBreak_9 (n := 10) rfl ?_
    refine kg_X0_27 C hg.1 rfl dX0_dueBehindBreak_10 (n := 13) rfl ?_
    refine g_iconst C ic_1 dX0_dueBehindBreak_13 (n := 14) rfl ?_
    refine g_icmp_ne C dX0_dueBehindBreak_14 (t := 25) (by decide) (n := 17) rfl (fun c_14 => ?_) (fun c_14 => ?_)
    · have _u := True.intro
      have hu0 : ¬ ru = 0 := fun h => c_4 ((qeq hru nI_0.symm (by omega) (by decide)).mpr h)
      have hu1 : ¬ ru = 1 := fun h => c_14 ((qeq hru (show (1 : Int32) = nI 1 from rfl) (by omega) (by decide)).mpr h)
      have hv : x = nI (dmy ru d) := by rw [hx]; unfold dmy; rw [if_neg hu0, if_neg hu1]
      refine g_iload1 C dX0_dueBehindBreak_25 (n := 26) rfl ?_
      refine r_I C dX0_dueBehindBreak_26 ?_
      exact ⟨hv, rfl⟩
    · have _u := True.intro
      refine g_iload1 C dX0_dueBehindBreak_17 (n := 18) rfl ?_
      refine g_iconst C ic_1 dX0_dueBehindBreak_18 (n := 19) rfl ?_
      refine kc_X0_55 C ⟨Nat.le_of_ble_eq_true rfl, Nat.le_of_ble_eq_true rfl⟩ ⟨Nat.zero_le _, Nat.zero_le _⟩ dX0_dueBehindBreak_19 (n := 22) rfl ?_
      have hu1 : ru = 1 := (qeq hru (show (1 : Int32) = nI 1 from rfl) (by omega) (by decide)).mp c_14
      have hv : (if (1 : Int32) < x then 1 else x) = nI (dmy ru d) := by
        rw [hu1]
        by_cases h9 : (1 : Int32) < x
        · rw [if_pos h9]
          have h8 := (qlt (show (1 : Int32) = nI 1 from rfl) hx (by decide) hd).mp h9
          have : dmy 1 d = 1 := by unfold dmy; simp; omega
          rw [this]; rfl
        · rw [if_neg h9, hx]
          have h8 : ¬ 1 < d := fun h => h9 ((qlt (show (1 : Int32) = nI 1 from rfl) hx (by decide) hd).mpr h)
          have : dmy 1 d = d := by unfold dmy; simp; omega
          rw [this]
      refine g_goto C dX0_dueBehindBreak_22 (t := 26) (by decide) ?_
      refine r_I C dX0_dueBehindBreak_26 ?_
      exact ⟨hv, rfl⟩
  · have _u := True.intro
    refine g_iconst C ic_0 dX0_dueBehindBreak_7 (n := 8) rfl ?_
    refine r_I C dX0_dueBehindBreak_8 ?_
    exact ⟨by rw [(qeq hru nI_0.symm (by omega) (by decide)).mp c_4]; rfl, rfl⟩
set_option maxHeartbeats 4000000 in
set_option maxRecDepth 100000 in
theorem ct_X0_firstDue {l : Launch} {D : va_G} {cI cO : ClassId} {z tP : Nat} {aK aV : Nat → Nat} (sh : Shp) (M : Mem) (g : Nat) (ru d u : Nat) (x : Int32) (hg : isGrammar sh g) (hru : M g 1 = nI ru) (hr3 : ru < 3) (hx : x = nI (7 * d + u)) (hd : d ≤ 6) (hu : u < 7) (hud : u ≤ dmy ru d) : Cm l D cI cO z tP aK aV yX0_firstDue cX0_firstDue 2 (some .int) 2 42 [.ref (z + g), .int x] sh M (pI (fun r M1 => r = nI (dmy ru d - u) ∧ M1 = M)) := by
  refine cm_intro (lv0 := [some (.ref (z + g)), some (.int x)]) (by decide) rfl (Nat.le_of_ble_eq_true rfl) rfl (fun p e s m below meth c C => ?_)
  refine g_aload0 C dX0_firstDue_0 (n := 1) rfl ?_
  refine g_iload1 C dX0_firstDue_1 (n := 2) rfl ?_
  refine kc_X0_60 C (ct_X0_depthOf sh M d u x hx hd hu) ⟨Nat.le_of_ble_eq_true rfl, Nat.le_of_ble_eq_true rfl⟩ ⟨Nat.zero_le _, Nat.zero_le _⟩ (Nat.le_of_ble_eq_true rfl) dX0_firstDue_2 (n := 5) rfl (fun r_2 M_2 h_2 => ?_)
  rw [h_2.1, h_2.2]
  refine kc_X0_33 C (ct_X0_dueBehindBreak sh M g ru d _ hg hru hr3 rfl (by omega)) hg.1 ⟨Nat.le_of_ble_eq_true rfl, Nat.le_of_ble_eq_true rfl⟩ ⟨Nat.zero_le _, Nat.zero_le _⟩ (Nat.le_of_ble_eq_true rfl) dX0_firstDue_5 (n := 8) rfl (fun r_5 M_5 h_5 => ?_)
  rw [h_5.1, h_5.2]
  refine g_iload1 C dX0_firstDue_8 (n := 9) rfl ?_
  refine kc_X0_63 C (ct_X0_leftDue sh M d u x hx hd hu) ⟨Nat.le_of_ble_eq_true rfl, Nat.le_of_ble_eq_true rfl⟩ ⟨Nat.zero_le _, Nat.zero_le _⟩ (Nat.le_of_ble_eq_true rfl) dX0_firstDue_9 (n := 12) rfl (fun r_9 M_9 h_9 => ?_)
  rw [h_9.1, h_9.2]
  refine g_isub C dX0_firstDue_12 (n := 13) rfl ?_
  refine r_I C dX0_firstDue_13 ?_
  exact ⟨pk_sub hud, rfl⟩
set_option maxHeartbeats 4000000 in
set_option maxRecDepth 100000 in
theorem ct_X0_offered {l : Launch} {D : va_G} {cI cO : ClassId} {z tP : Nat} {aK aV : Nat → Nat} (sh : Shp) (M : Mem) (g : Nat) (st ch : Nat) (x y : Int32) (hg : isGrammar sh g) (hx : x = nI st) (hy : y = nI ch) (hb : 2 * st + ch < 98) : Cm l D cI cO z tP aK aV yX0_offered cX0_offered 3 (some .int) 1 21 [.ref (z + g), .int x, .int y] sh M (pI (fun r M1 => r = M (g + 2) (2 * st + ch) ∧ M1 = M)) := by
  refine cm_intro (lv0 := [some (.ref (z + g)), some (.int x), some (.int y)]) (by decide) rfl (Nat.le_of_ble_eq_true rfl) rfl (fun p e s m below meth c C => ?_)
  refine g_aload0 C dX0_offered_0 (n := 1) rfl ?_
  refine kg_X0_14 C hg.1 rfl dX0_offered_1 (n := 4) rfl ?_
  refine g_iload1 C dX0_offered_4 (n := 5) rfl ?_
  refine g_iconst C ic_2 dX0_offered_5 (n := 6) rfl ?_
  refine g_imul C dX0_offered_6 (n := 7) rfl ?_
  refine g_iload2 C dX0_offered_7 (n := 8) rfl ?_
  refine g_iadd C dX0_offered_8 (n := 9) rfl ?_
  refine kc_X0_66 C (ct_X4_at sh M (g + 1) 98 (2 * st + ch) _ hg.2.1 (e_ix hx hy) hb) hg.2.1.1 ⟨Nat.le_of_ble_eq_true rfl, Nat.le_of_ble_eq_true rfl⟩ ⟨Nat.zero_le _, Nat.zero_le _⟩ (Nat.le_of_ble_eq_true rfl) dX0_offered_9 (n := 12) rfl (fun r_9 M_9 h_9 => ?_)
  rw [h_9.1, h_9.2]
  refine r_I C dX0_offered_12 ?_
  exact ⟨rfl, rfl⟩
set_option maxHeartbeats 4000000 in
set_option maxRecDepth 100000 in
theorem ct_X0_behindOffer {l : Launch} {D : va_G} {cI cO : ClassId} {z tP : Nat} {aK aV : Nat → Nat} (sh : Shp) (M : Mem) (g : Nat) (st ch : Nat) (x y : Int32) (hg : isGrammar sh g) (hx : x = nI st) (hy : y = nI ch) (hb : 2 * st + ch < 98) : Cm l D cI cO z tP aK aV yX0_behindOffer cX0_behindOffer 3 (some .int) 1 21 [.ref (z + g), .int x, .int y] sh M (pI (fun r M1 => r = M (g + 4) (2 * st + ch) ∧ M1 = M)) := by
  refine cm_intro (lv0 := [some (.ref (z + g)), some (.int x), some (.int y)]) (by decide) rfl (Nat.le_of_ble_eq_true rfl) rfl (fun p e s m below meth c C => ?_)
  refine g_aload0 C dX0_behindOffer_0 (n := 1) rfl ?_
  refine kg_X0_20 C hg.1 rfl dX0_behindOffer_1 (n := 4) rfl ?_
  refine g_iload1 C dX0_behindOffer_4 (n := 5) rfl ?_
  refine g_iconst C ic_2 dX0_behindOffer_5 (n := 6) rfl ?_
  refine g_imul C dX0_behindOffer_6 (n := 7) rfl ?_
  refine g_iload2 C dX0_behindOffer_7 (n := 8) rfl ?_
  refine g_iadd C dX0_behindOffer_8 (n := 9) rfl ?_
  refine kc_X0_66 C (ct_X4_at sh M (g + 3) 98 (2 * st + ch) _ hg.2.2 (e_ix hx hy) hb) hg.2.2.1 ⟨Nat.le_of_ble_eq_true rfl, Nat.le_of_ble_eq_true rfl⟩ ⟨Nat.zero_le _, Nat.zero_le _⟩ (Nat.le_of_ble_eq_true rfl) dX0_behindOffer_9 (n := 12) rfl (fun r_9 M_9 h_9 => ?_)
  rw [h_9.1, h_9.2]
  refine r_I C dX0_behindOffer_12 ?_
  exact ⟨rfl, rfl⟩
set_option maxHeartbeats 4000000 in
set_option maxRecDepth 100000 in
theorem ct_X0_offer {l : Launch} {D : va_G} {cI cO : ClassId} {z tP : Nat} {aK aV : Nat → Nat} (sh : Shp) (M : Mem) (g : Nat) (st ch : Nat) (x y mk nx : Int32) (hg : isGrammar sh g) (hx : x = nI st) (hy : y = nI ch) (hb : 2 * st + ch < 98) : Cm l D cI cO z tP aK aV yX0_offer cX0_offer 5 none 1 22 [.ref (z + g), .int x, .int y, .int mk, .int nx] sh M (pV (fun M1 => M1 = offr M g st ch mk nx)) := by
  refine cm_intro (lv0 := [some (.ref (z + g)), some (.int x), some (.int y), some (.int mk), some (.int nx)]) (by decide) rfl (Nat.le_of_ble_eq_true rfl) rfl (fun p e s m below meth c C => ?_)
  refine g_aload0 C dX0_offer_0 (n := 1) rfl ?_
  refine kg_X0_14 C hg.1 rfl dX0_offer_1 (n := 4) rfl ?_
  refine g_iload1 C dX0_offer_4 (n := 5) rfl ?_
  refine g_iconst C ic_2 dX0_offer_5 (n := 6) rfl ?_
  refine g_imul C dX0_offer_6 (n := 7) rfl ?_
  refine g_iload2 C dX0_offer_7 (n := 8) rfl ?_
  refine g_iadd C dX0_offer_8 (n := 9) rfl ?_
  refine g_iload3 C dX0_offer_9 (n := 10) rfl ?_
  refine kc_X0_51 C (ct_X4_set sh M (g + 1) 98 (2 * st + ch) _ mk hg.2.1 (e_ix hx hy) hb) hg.2.1.1 ⟨Nat.le_of_ble_eq_true rfl, Nat.le_of_ble_eq_true rfl⟩ ⟨Nat.zero_le _, Nat.zero_le _⟩ (Nat.le_of_ble_eq_true rfl) dX0_offer_10 (n := 13) rfl (fun M_10 h_10 => ?_)
  refine g_aload0 C dX0_offer_13 (n := 14) rfl ?_
  refine kg_X0_20 C hg.1 rfl dX0_offer_14 (n := 17) rfl ?_
  refine g_iload1 C dX0_offer_17 (n := 18) rfl ?_
  refine g_iconst C ic_2 dX0_offer_18 (n := 19) rfl ?_
  refine g_imul C dX0_offer_19 (n := 20) rfl ?_
  refine g_iload2 C dX0_offer_20 (n := 21) rfl ?_
  refine g_iadd C dX0_offer_21 (n := 22) rfl ?_
  refine g_iload4 C dX0_offer_22 (n := 24) rfl ?_
  refine kc_X0_51 C (ct_X4_set sh M_10 (g + 3) 98 (2 * st + ch) _ nx hg.2.2 (e_ix hx hy) hb) hg.2.2.1 ⟨Nat.le_of_ble_eq_true rfl, Nat.le_of_ble_eq_true rfl⟩ ⟨Nat.zero_le _, Nat.zero_le _⟩ (Nat.le_of_ble_eq_true rfl) dX0_offer_24 (n := 27) rfl (fun M_24 h_24 => ?_)
  refine r_V C dX0_offer_27 ?_
  rw [h_24, h_10]; rfl
set_option maxHeartbeats 4000000 in
set_option maxRecDepth 100000 in
theorem ct_X0_learnFreeState {l : Launch} {D : va_G} {cI cO : ClassId} {z tP : Nat} {aK aV : Nat → Nat} (sh : Shp) (M : Mem) (g : Nat) (t d : Nat) (x : Int32) (hg : isGrammar sh g) (ht : M g 0 = nI t) (ht4 : t < 4) (hx : x = nI d) (hd : d ≤ 6) : Cm l D cI cO z tP aK aV yX0_learnFreeState cX0_learnFreeState 3 none 2 46 [.ref (z + g), .int x] sh M (pV (fun M1 => M1 = offr (offr M g (7 * d) 0 (if d < 6 then opn t d else 0) (if d < 6 then nI (7 * d + 7) else -1)) g (7 * d) 1 (if 1 ≤ d then cls t d else 0) (if 1 ≤ d then nI (7 * d - 7) else -1))) := by
  refine cm_intro (lv0 := [some (.ref (z + g)), some (.int x), none]) (by decide) rfl (Nat.le_of_ble_eq_true rfl) rfl (fun p e s m below meth c C => ?_)
  refine g_iload1 C dX0_learnFreeState_0 (n := 1) rfl ?_
  refine g_iconst C ic_0 dX0_learnFreeState_1 (n := 2) rfl ?_
  refine kc_X0_37 C (ct_X0_stateOf sh M d 0 x 0 hx nI_0.symm) ⟨Nat.le_of_ble_eq_true rfl, Nat.le_of_ble_eq_true rfl⟩ ⟨Nat.zero_le _, Nat.zero_le _⟩ (Nat.le_of_ble_eq_true rfl) dX0_learnFreeState_2 (n := 5) rfl (fun r_2 M_2 h_2 => ?_)
  rw [h_2.1, h_2.2]
  refine g_istore2 C dX0_learnFreeState_5 (n := 6) rfl ?_
  refine g_iload1 C dX0_learnFreeState_6 (n := 7) rfl ?_
  refine g_bipush C bp_6 dX0_learnFreeState_7 (n := 9) rfl ?_
  refine g_icmp_ge C dX0_learnFreeState_9 (t := 33) (by decide) (n := 12) rfl (fun c_9 => ?_) (fun c_9 => ?_)
  · have h6 : ¬ d < 6 := fun h => c_9 ((qlt hx (show (6 : Int32) = nI 6 from rfl) (by omega) (by decide)).mpr h)
    refine g_aload0 C dX0_learnFreeState_33 (n := 34) rfl ?_
    refine g_iload2 C dX0_learnFreeState_34 (n := 35) rfl ?_
    refine g_iconst C ic_0 dX0_learnFreeState_35 (n := 36) rfl ?_
    refine g_iconst C ic_0 dX0_learnFreeState_36 (n := 37) rfl ?_
    refine g_iconst C ic_m1 dX0_learnFreeState_37 (n := 38) rfl ?_
    refine kc_X0_44 C (ct_X0_offer sh M g (7 * d) 0 _ _ _ _ hg rfl nI_0.symm (by omega)) hg.1 ⟨Nat.le_of_ble_eq_true rfl, Nat.le_of_ble_eq_true rfl⟩ ⟨Nat.zero_le _, Nat.zero_le _⟩ (Nat.le_of_ble_eq_true rfl) dX0_learnFreeState_38 (n := 41) rfl (fun Mo hMo => ?_)
    have e1 : Mo = offr M g (7 * d) 0 (if d < 6 then opn t d else 0) (if d < 6 then nI (7 * d + 7) else -1) := by rw [hMo, if_neg h6, if_neg h6]
    have et : Mo g 0 = nI t := by rw [hMo, offr_ne (by omega) (by omega)]; exact ht
    refine g_iload1 C dX0_learnFreeState_41 (n := 42) rfl ?_
    refine g_iconst C ic_1 dX0_learnFreeState_42 (n := 43) rfl ?_
    refine g_icmp_lt C dX0_learnFreeState_43 (t := 67) (by decide) (n := 46) rfl (fun c_43 => ?_) (fun c_43 => ?_)
    · have h0 : ¬ 1 ≤ d := fun h => absurd c_43 (by rw [qlt hx (show (1 : Int32) = nI 1 from rfl) (by omega) (by decide)]; omega)
      refine g_aload0 C dX0_learnFreeState_67 (n := 68) rfl ?_
      refine g_iload2 C dX0_learnFreeState_68 (n := 69) rfl ?_
      refine g_iconst C ic_1 dX0_learnFreeState_69 (n := 70) rfl ?_
      refine g_iconst C ic_0 dX0_learnFreeState_70 (n := 71) rfl ?_
      refine g_iconst C ic_m1 dX0_learnFreeState_71 (n := 72) rfl ?_
      refine kc_X0_44 C (ct_X0_offer sh Mo g (7 * d) 1 _ _ _ _ hg rfl (show (1 : Int32) = nI 1 from rfl) (by omega)) hg.1 ⟨Nat.le_of_ble_eq_true rfl, Nat.le_of_ble_eq_true rfl⟩ ⟨Nat.zero_le _, Nat.zero_le _⟩ (Nat.le_of_ble_eq_true rfl) dX0_learnFreeState_72 (n := 75) rfl (fun Mp hMp => ?_)
      have e2 : Mp = offr Mo g (7 * d) 1 (if 1 ≤ d then cls t d else 0) (if 1 ≤ d then nI (7 * d - 7) else -1) := by rw [hMp, if_neg h0, if_neg h0]
      refine r_V C dX0_learnFreeState_75 ?_
      rw [e2, e1]
    · have h0 : 1 ≤ d := Nat.le_of_not_lt (fun h => c_43 ((qlt hx (show (1 : Int32) = nI 1 from rfl) (by omega) (by decide)).mpr h))
      refine g_aload0 C dX0_learnFreeState_46 (n := 47) rfl ?_
      refine g_iload2 C dX0_learnFreeState_47 (n := 48) rfl ?_
      refine g_iconst C ic_1 dX0_learnFreeState_48 (n := 49) rfl ?_
      refine g_aload0 C dX0_learnFreeState_49 (n := 50) rfl ?_
      refine kg_X0_23 C hg.1 rfl dX0_learnFreeState_50 (n := 53) rfl ?_
      refine g_iload1 C dX0_learnFreeState_53 (n := 54) rfl ?_
      refine kc_X0_48 C (ct_X6_closerOf sh Mo t d _ _ et hx ht4 (by omega) h0) ⟨Nat.le_of_ble_eq_true rfl, Nat.le_of_ble_eq_true rfl⟩ ⟨Nat.zero_le _, Nat.zero_le _⟩ (Nat.le_of_ble_eq_true rfl) dX0_learnFreeState_54 (n := 57) rfl (fun r_54 M_54 h_54 => ?_)
      rw [h_54.1, h_54.2]
      refine g_iload2 C dX0_learnFreeState_57 (n := 58) rfl ?_
      refine g_bipush C bp_7 dX0_learnFreeState_58 (n := 60) rfl ?_
      refine g_isub C dX0_learnFreeState_60 (n := 61) rfl ?_
      refine kc_X0_44 C (ct_X0_offer sh Mo g (7 * d) 1 _ _ _ _ hg rfl (show (1 : Int32) = nI 1 from rfl) (by omega)) hg.1 ⟨Nat.le_of_ble_eq_true rfl, Nat.le_of_ble_eq_true rfl⟩ ⟨Nat.zero_le _, Nat.zero_le _⟩ (Nat.le_of_ble_eq_true rfl) dX0_learnFreeState_61 (n := 64) rfl (fun Mp hMp => ?_)
      have e2 : Mp = offr Mo g (7 * d) 1 (if 1 ≤ d then cls t d else 0) (if 1 ≤ d then nI (7 * d - 7) else -1) := by rw [hMp, if_pos h0, if_pos h0]; exact congrArg _ (pk_sub (a := 7 * d) (b := 7) (by omega))
      refine g_goto C dX0_learnFreeState_64 (t := 75) (by decide) ?_
      refine r_V C dX0_learnFreeState_75 ?_
      rw [e2, e1]
  · have h6 : d < 6 := (qlt hx (show (6 : Int32) = nI 6 from rfl) (by omega) (by decide)).mp c_9
    refine g_aload0 C dX0_learnFreeState_12 (n := 13) rfl ?_
    refine g_iload2 C dX0_learnFreeState_13 (n := 14) rfl ?_
    refine g_iconst C ic_0 dX0_learnFreeState_14 (n := 15) rfl ?_
    refine g_aload0 C dX0_learnFreeState_15 (n := 16) rfl ?_
    refine kg_X0_23 C hg.1 rfl dX0_learnFreeState_16 (n := 19) rfl ?_
    refine g_iload1 C dX0_learnFreeState_19 (n := 20) rfl ?_
    refine kc_X0_41 C (ct_X6_openerOf sh M t d _ _ ht hx ht4 (by omega)) ⟨Nat.le_of_ble_eq_true rfl, Nat.le_of_ble_eq_true rfl⟩ ⟨Nat.zero_le _, Nat.zero_le _⟩ (Nat.le_of_ble_eq_true rfl) dX0_learnFreeState_20 (n := 23) rfl (fun r_20 M_20 h_20 => ?_)
    rw [h_20.1, h_20.2]
    refine g_iload2 C dX0_learnFreeState_23 (n := 24) rfl ?_
    refine g_bipush C bp_7 dX0_learnFreeState_24 (n := 26) rfl ?_
    refine g_iadd C dX0_learnFreeState_26 (n := 27) rfl ?_
    refine kc_X0_44 C (ct_X0_offer sh M g (7 * d) 0 _ _ _ _ hg rfl nI_0.symm (by omega)) hg.1 ⟨Nat.le_of_ble_eq_true rfl, Nat.le_of_ble_eq_true rfl⟩ ⟨Nat.zero_le _, Nat.zero_le _⟩ (Nat.le_of_ble_eq_true rfl) dX0_learnFreeState_27 (n := 30) rfl (fun Mo hMo => ?_)
    have e1 : Mo = offr M g (7 * d) 0 (if d < 6 then opn t d else 0) (if d < 6 then nI (7 * d + 7) else -1) := by rw [hMo, if_pos h6, if_pos h6]; exact congrArg _ (nI_add (7 * d) 7)
    have et : Mo g 0 = nI t := by rw [hMo, offr_ne (by omega) (by omega)]; exact ht
    refine g_goto C dX0_learnFreeState_30 (t := 41) (by decide) ?_
    refine g_iload1 C dX0_learnFreeState_41 (n := 42) rfl ?_
    refine g_iconst C ic_1 dX0_learnFreeState_42 (n := 43) rfl ?_
    refine g_icmp_lt C dX0_learnFreeState_43 (t := 67) (by decide) (n := 46) rfl (fun c_43 => ?_) (fun c_43 => ?_)
    · have h0 : ¬ 1 ≤ d := fun h => absurd c_43 (by rw [qlt hx (show (1 : Int32) = nI 1 from rfl) (by omega) (by decide)]; omega)
      refine g_aload0 C dX0_learnFreeState_67 (n := 68) rfl ?_
      refine g_iload2 C dX0_learnFreeState_68 (n := 69) rfl ?_
      refine g_iconst C ic_1 dX0_learnFreeState_69 (n := 70) rfl ?_
      refine g_iconst C ic_0 dX0_learnFreeState_70 (n := 71) rfl ?_
      refine g_iconst C ic_m1 dX0_learnFreeState_71 (n := 72) rfl ?_
      refine kc_X0_44 C (ct_X0_offer sh Mo g (7 * d) 1 _ _ _ _ hg rfl (show (1 : Int32) = nI 1 from rfl) (by omega)) hg.1 ⟨Nat.le_of_ble_eq_true rfl, Nat.le_of_ble_eq_true rfl⟩ ⟨Nat.zero_le _, Nat.zero_le _⟩ (Nat.le_of_ble_eq_true rfl) dX0_learnFreeState_72 (n := 75) rfl (fun Mp hMp => ?_)
      have e2 : Mp = offr Mo g (7 * d) 1 (if 1 ≤ d then cls t d else 0) (if 1 ≤ d then nI (7 * d - 7) else -1) := by rw [hMp, if_neg h0, if_neg h0]
      refine r_V C dX0_learnFreeState_75 ?_
      rw [e2, e1]
    · have h0 : 1 ≤ d := Nat.le_of_not_lt (fun h => c_43 ((qlt hx (show (1 : Int32) = nI 1 from rfl) (by omega) (by decide)).mpr h))
      refine g_aload0 C dX0_learnFreeState_46 (n := 47) rfl ?_
      refine g_iload2 C dX0_learnFreeState_47 (n := 48) rfl ?_
      refine g_iconst C ic_1 dX0_learnFreeState_48 (n := 49) rfl ?_
      refine g_aload0 C dX0_learnFreeState_49 (n := 50) rfl ?_
      refine kg_X0_23 C hg.1 rfl dX0_learnFreeState_50 (n := 53) rfl ?_
      refine g_iload1 C dX0_learnFreeState_53 (n := 54) rfl ?_
      refine kc_X0_48 C (ct_X6_closerOf sh Mo t d _ _ et hx ht4 (by omega) h0) ⟨Nat.le_of_ble_eq_true rfl, Nat.le_of_ble_eq_true rfl⟩ ⟨Nat.zero_le _, Nat.zero_le _⟩ (Nat.le_of_ble_eq_true rfl) dX0_learnFreeState_54 (n := 57) rfl (fun r_54 M_54 h_54 => ?_)
      rw [h_54.1, h_54.2]
      refine g_iload2 C dX0_learnFreeState_57 (n := 58) rfl ?_
      refine g_bipush C bp_7 dX0_learnFreeState_58 (n := 60) rfl ?_
      refine g_isub C dX0_learnFreeState_60 (n := 61) rfl ?_
      refine kc_X0_44 C (ct_X0_offer sh Mo g (7 * d) 1 _ _ _ _ hg rfl (show (1 : Int32) = nI 1 from rfl) (by omega)) hg.1 ⟨Nat.le_of_ble_eq_true rfl, Nat.le_of_ble_eq_true rfl⟩ ⟨Nat.zero_le _, Nat.zero_le _⟩ (Nat.le_of_ble_eq_true rfl) dX0_learnFreeState_61 (n := 64) rfl (fun Mp hMp => ?_)
      have e2 : Mp = offr Mo g (7 * d) 1 (if 1 ≤ d then cls t d else 0) (if 1 ≤ d then nI (7 * d - 7) else -1) := by rw [hMp, if_pos h0, if_pos h0]; exact congrArg _ (pk_sub (a := 7 * d) (b := 7) (by omega))
      refine g_goto C dX0_learnFreeState_64 (t := 75) (by decide) ?_
      refine r_V C dX0_learnFreeState_75 ?_
      rw [e2, e1]
