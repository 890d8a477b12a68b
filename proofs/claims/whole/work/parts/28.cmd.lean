/-! the class reckons -/
def MC (M : Mem) (S : Spt) : Prop := M 64 2 = nI (spn S) ∧ (∀ j, j < spn S → M 71 j = spg S j) ∧ (∀ j, j < 3 → M 73 j = nI (spw S j)) ∧ GOK M 65 (spt S) (spr S) ∧ M 65 0 = nI (spt S) ∧ M 65 1 = nI (spr S)
def TB (M : Mem) (c i ru : Nat) (f : Nat → Nat → Nat) : Prop := ∀ d, d ≤ 6 → ∀ u, u ≤ dmy ru d → M c (49 * i + (7 * d + u)) = nI (f d u)
def CT (M : Mem) (c : Nat) (S : Spt) (i : Nat) : Prop := ∀ j, i ≤ j → j ≤ spn S → TB M c j (spr S) (cS S j)
theorem TB_up {M M1 : Mem} {c i ru d0 u0 v : Nat} {f g : Nat → Nat → Nat} (h : TB M c i ru f) (e : M1 c = upd (M c) (49 * i + (7 * d0 + u0)) (nI v)) (hd0 : d0 ≤ 6) (hu0 : u0 ≤ dmy ru d0) (hg : ∀ d u, d ≤ 6 → u ≤ dmy ru d → g d u = if d = d0 ∧ u = u0 then v else f d u) : TB M1 c i ru g := fun d hd u hu => by
  have h1 := dmy_le ru d
  have h2 := dmy_le ru d0
  rw [e, hg d u hd hu]
  by_cases hh : d = d0 ∧ u = u0
  · rw [if_pos hh, hh.1, hh.2, pk_us]
  · rw [if_neg hh, pk_un (by omega)]; exact h d hd u hu
theorem TB_cong {M M1 : Mem} {c i ru : Nat} {f g : Nat → Nat → Nat} (h : TB M c i ru f) (e : ∀ p, 49 * i ≤ p → p < 49 * i + 49 → M1 c p = M c p) (hg : ∀ d u, d ≤ 6 → u ≤ dmy ru d → g d u = f d u) : TB M1 c i ru g := fun d hd u hu => by
  have h1 := dmy_le ru d
  rw [e _ (by omega) (by omega), hg d u hd hu]; exact h d hd u hu
theorem CT_cong {M M1 : Mem} {c i : Nat} {S : Spt} (h : CT M c S i) (e : ∀ p, 49 * i ≤ p → M1 c p = M c p) : CT M1 c S i := fun j h1 h2 => TB_cong (h j h1 h2) (fun p p1 _ => e p (by omega)) (fun _ _ _ _ => rfl)
theorem CT_s {M M1 : Mem} {c i : Nat} {S : Spt} (h : CT M c S (i + 1)) (ht : TB M1 c i (spr S) (cS S i)) (e : ∀ p, 49 * i + 49 ≤ p → M1 c p = M c p) : CT M1 c S i := fun j h1 h2 => by
  by_cases hj : j = i
  · rw [hj]; exact ht
  · exact TB_cong (h j (by omega) h2) (fun p p1 _ => e p (by omega)) (fun _ _ _ _ => rfl)
theorem MC_cong {M M1 : Mem} {S : Spt} (h : MC M S) (f : ∀ a, 64 ≤ a → a < 74 → M1 a = M a) : MC M1 S := by
  unfold MC at *
  rw [f 64 (by omega) (by omega), f 71 (by omega) (by omega), f 73 (by omega) (by omega), f 65 (by omega) (by omega)]
  exact ⟨h.1, h.2.1, h.2.2.1, GOK_cong (f 67 (by omega) (by omega)) (f 69 (by omega) (by omega)) h.2.2.2.1, h.2.2.2.2⟩
theorem GOK_off {M : Mem} {g : Nat} {S : Spt} (h : GOK M g (spt S) (spr S)) {d u b : Nat} (hd : d ≤ 6) (hu : u ≤ dmy (spr S) d) (hb : b < 2) : (off S d u b = none ∧ M (g + 4) (2 * (7 * d + u) + b) = -1) ∨ ∃ q, off S d u b = some q ∧ M (g + 2) (2 * (7 * d + u) + b) = q.1 ∧ M (g + 4) (2 * (7 * d + u) + b) = nI (7 * q.2.1 + q.2.2) := by
  have hg := h d hd u hu
  unfold gS at hg
  by_cases h0 : u = 0
  · subst h0
    rw [if_pos rfl] at hg
    rcases (show b = 0 ∨ b = 1 by omega) with rfl | rfl
    · by_cases h6 : d < 6
      · rw [if_pos h6, if_pos h6] at hg
        exact Or.inr ⟨_, off_0o h6, hg.1.1, by rw [show 7 * (d + 1) + 0 = 7 * d + 7 by omega]; exact hg.1.2⟩
      · rw [if_neg h6, if_neg h6] at hg
        exact Or.inl ⟨off_0n h6, hg.1.2⟩
    · by_cases h1 : 1 ≤ d
      · rw [if_pos h1, if_pos h1] at hg
        exact Or.inr ⟨_, off_1c h1, hg.2.1, by rw [show 7 * (d - 1) + 0 = 7 * d - 7 by omega]; exact hg.2.2⟩
      · rw [if_neg h1, if_neg h1] at hg
        exact Or.inl ⟨off_1n h1, hg.2.2⟩
  · rw [if_neg h0] at hg
    rcases (show b = 0 ∨ b = 1 by omega) with rfl | rfl
    · exact Or.inr ⟨_, off_u h0, hg.1.1, by show _ = nI (7 * d + (u - 1)); rw [show 7 * d + (u - 1) = 7 * d + u - 1 by omega]; exact hg.1.2⟩
    · exact Or.inl ⟨off_u1 h0, hg.2.2⟩
/-- the least of taking out and of the first b that are offered -/
def bsV (S : Spt) (i d u : Nat) : Nat → Nat
  | 0 => spw S 1 + cS S (i + 1) d u
  | b + 1 => match off S d u b with
    | none => bsV S i d u b
    | some q => min (bsV S i d u b) (wgt (spg S i) q.1 (spw S 2) + cS S (i + 1) q.2.1 q.2.2)
theorem bsV_n {S : Spt} {i d u b : Nat} (h : off S d u b = none) : bsV S i d u (b + 1) = bsV S i d u b := by
  show (match off S d u b with | none => _ | some q => _) = _
  rw [h]
theorem bsV_y {S : Spt} {i d u b : Nat} {q : Int32 × Nat × Nat} (h : off S d u b = some q) : bsV S i d u (b + 1) = min (bsV S i d u b) (wgt (spg S i) q.1 (spw S 2) + cS S (i + 1) q.2.1 q.2.2) := by
  show (match off S d u b with | none => _ | some q => _) = _
  rw [h]
theorem bsV_2 {S : Spt} {i d u : Nat} (hi : i < spn S) (hm : isMk (spg S i) = true) : bsV S i d u 2 = rwS S i d u := by
  unfold rwS; rw [if_pos hi]; unfold rawC; rw [if_pos hm]
  cases u with
  | zero =>
    rw [rawM_0]
    by_cases h1 : 1 ≤ d
    · rw [if_pos h1, bsV_y (off_1c h1)]
      by_cases h6 : d < 6
      · rw [if_pos h6, bsV_y (off_0o h6)]; rfl
      · rw [if_neg h6, bsV_n (off_0n h6)]; rfl
    · rw [if_neg h1, bsV_n (off_1n h1)]
      by_cases h6 : d < 6
      · rw [if_pos h6, bsV_y (off_0o h6)]; rfl
      · rw [if_neg h6, bsV_n (off_0n h6)]; rfl
  | succ u => rw [rawM_s, bsV_n (off_u1 (by omega)), bsV_y (off_u (by omega))]; rfl
theorem bsV_le (S : Spt) (i d u : Nat) : ∀ b, bsV S i d u b ≤ spw S 1 + cS S (i + 1) d u
  | 0 => Nat.le_refl _
  | b + 1 => by
    have h := bsV_le S i d u b
    cases ho : off S d u b with
    | none => rw [bsV_n ho]; exact h
    | some q => rw [bsV_y ho]; omega
theorem wgt_le (c m : Int32) (w : Nat) : wgt c m w ≤ w := by unfold wgt; split <;> omega
theorem st_le {S : Spt} (hs : wfS S) {i d u : Nat} (hi : i < spn S) (hd : d ≤ 6) (hu : u ≤ dmy (spr S) d) : stV S i d u ≤ 1000000 := by
  unfold stV
  cases h : nxt (spt S) (spr S) d u (spg S i) with
  | none => exact Nat.le_refl 1000000
  | some q =>
    have hk := nxt_ok hd hu h
    have := cS_lt hs (show i + 1 ≤ spn S by omega) hk.1 hk.2
    show cS S (i + 1) q.1 q.2 ≤ _
    omega
theorem rw_b {S : Spt} (hs : wfS S) {i d u : Nat} (hd : d ≤ 6) (hu : u ≤ dmy (spr S) d) : rwS S i d u ≤ 1000000 := by
  by_cases hi : i < spn S
  · have h1 := st_le hs hi hd hu
    cases u with
    | zero => rw [rw_0 hs hi hd]; omega
    | succ u => rw [rw_s hs hi hd hu]; omega
  · unfold rwS; rw [if_neg hi]; unfold raw0; split
    · omega
    · exact Nat.le_refl 1000000
theorem up_b {S : Spt} (hs : wfS S) {i d : Nat} (hd : d ≤ 6) : upS (spw S) (rwS S i) d ≤ 1000054 := by
  have h1 := up_le (w := spw S) (raw := rwS S i) (hs.2.2.2.2 0 (by decide)).2 d
  have h2 := rw_b hs (i := i) (Nat.zero_le 6) (Nat.zero_le _)
  omega
theorem fin_b {S : Spt} (hs : wfS S) {i d u : Nat} (hd : d ≤ 6) (hu : u ≤ 6) : fin (spw S) (rwS S i) d u ≤ 1000108 := by
  have h1 := fin_le (w := spw S) (raw := rwS S i) (hs.2.2.2.2 0 (by decide)).2 hd u
  have h2 := rw_b hs (i := i) (Nat.zero_le 6) (Nat.zero_le _)
  omega
theorem upd_same (f : Nat → Int32) (i : Nat) (v : Int32) (h : f i = v) : upd f i v = f := by
  funext j
  by_cases hj : j = i
  · rw [hj, pk_us, h]
  · rw [pk_un hj]
theorem i_min {x y : Int32} {a b : Nat} (hx : x = nI a) (hy : y = nI b) (ha : a < 2 ^ 31) (hb : b < 2 ^ 31) : (if y < x then y else x) = nI (min a b) := by
  by_cases h : b < a
  · rw [if_pos ((qlt hy hx hb ha).mpr h), hy, Nat.min_eq_right (by omega)]
  · rw [if_neg (fun q => h ((qlt hy hx hb ha).mp q)), hx, Nat.min_eq_left (by omega)]
theorem bp_49 : (Int8.ofInt 49).toInt32 = 49 := by decide
set_option maxHeartbeats 4000000 in
set_option maxRecDepth 100000 in
theorem ct_X2_costAt {l : Launch} {D : va_G} {cI cO : ClassId} {z tP : Nat} {aK aV : Nat → Nat} (M : Mem) (i st : Nat) (x y : Int32) (hx : x = nI i) (hy : y = nI st) (hb : 49 * i + st < 5929) : Cm l D cI cO z tP aK aV yX2_costAt cX2_costAt 3 (some .int) 1 21 [.ref (z + 64), .int x, .int y] SH M (pI (fun r M1 => r = M 75 (49 * i + st) ∧ M1 = M)) := by
  refine cm_intro (lv0 := [some (.ref (z + 64)), some (.int x), some (.int y)]) (by decide) rfl (Nat.le_of_ble_eq_true rfl) rfl (fun p e s m below meth c C => ?_)
  refine g_aload0 C dX2_costAt_0 (n := 1) rfl ?_
  refine kg_X2_30 C sh_64 rfl dX2_costAt_1 (n := 4) rfl ?_
  refine g_iload1 C dX2_costAt_4 (n := 5) rfl ?_
  refine g_bipush C bp_49 dX2_costAt_5 (n := 7) rfl ?_
  refine g_imul C dX2_costAt_7 (n := 8) rfl ?_
  refine g_iload2 C dX2_costAt_8 (n := 9) rfl ?_
  refine g_iadd C dX2_costAt_9 (n := 10) rfl ?_
  refine kc_X2_69 C (ct_X4_at SH M 74 5929 (49 * i + st) _ row_74 (e_add (by rw [hx, Nat.mul_comm]; exact pk_mul _ 49) hy) hb) sh_74 ⟨Nat.le_of_ble_eq_true rfl, Nat.le_of_ble_eq_true rfl⟩ ⟨Nat.zero_le _, Nat.zero_le _⟩ (Nat.le_of_ble_eq_true rfl) dX2_costAt_10 (n := 13) rfl (fun r_10 M_10 h_10 => ?_)
  rw [h_10.1, h_10.2]
  refine r_I C dX2_costAt_13 ?_
  exact ⟨rfl, rfl⟩
set_option maxHeartbeats 4000000 in
set_option maxRecDepth 100000 in
theorem ct_X2_leastSum {l : Launch} {D : va_G} {cI cO : ClassId} {z tP : Nat} {aK aV : Nat → Nat} (M : Mem) : Cm l D cI cO z tP aK aV yX2_leastSum cX2_leastSum 1 (some .int) 2 43 [.ref (z + 64)] SH M (pI (fun r M1 => r = M 75 0 ∧ M1 = M)) := by
  refine cm_intro (lv0 := [some (.ref (z + 64))]) (by decide) rfl (Nat.le_of_ble_eq_true rfl) rfl (fun p e s m below meth c C => ?_)
  refine g_aload0 C dX2_leastSum_0 (n := 1) rfl ?_
  refine g_iconst C ic_0 dX2_leastSum_1 (n := 2) rfl ?_
  refine g_iconst C ic_0 dX2_leastSum_2 (n := 3) rfl ?_
  refine kc_X2_46 C (ct_X2_costAt M 0 0 0 0 nI_0.symm nI_0.symm (by decide)) sh_64 ⟨Nat.le_of_ble_eq_true rfl, Nat.le_of_ble_eq_true rfl⟩ ⟨Nat.zero_le _, Nat.zero_le _⟩ (Nat.le_of_ble_eq_true rfl) dX2_leastSum_3 (n := 6) rfl (fun r_3 M_3 h_3 => ?_)
  rw [h_3.1, h_3.2]
  refine r_I C dX2_leastSum_6 ?_
  exact ⟨rfl, rfl⟩
set_option maxHeartbeats 4000000 in
set_option maxRecDepth 100000 in
theorem ct_X2_costAtMark {l : Launch} {D : va_G} {cI cO : ClassId} {z tP : Nat} {aK aV : Nat → Nat} (M : Mem) (S : Spt) (i d u : Nat) (x y : Int32) (hMC : MC M S) (hs : wfS S) (hC : CT M 75 S (i + 1)) (hx : x = nI i) (hy : y = nI (7 * d + u)) (hi : i < spn S) (hm : isMk (spg S i) = true) (hd : d ≤ 6) (hu : u ≤ dmy (spr S) d) : Cm l D cI cO z tP aK aV yX2_costAtMark cX2_costAtMark 8 (some .int) 2 43 [.ref (z + 64), .int x, .int y] SH M (pI (fun r M1 => r = nI (rwS S i d u) ∧ M1 = M)) := by
  refine cm_intro (lv0 := [some (.ref (z + 64)), some (.int x), some (.int y), none, none, none, none, none]) (by decide) rfl (Nat.le_of_ble_eq_true rfl) rfl (fun p e s m below meth c C => ?_)
  have hn := hs.1
  have hdu := dmy_le (spr S) d
  have hw1 := (hs.2.2.2.2 1 (by decide)).2
  have hw2 := (hs.2.2.2.2 2 (by decide)).2
  have hc0 := cS_lt hs (show i + 1 ≤ spn S by omega) hd hu
  have hct : M 75 (49 * (i + 1) + (7 * d + u)) = nI (cS S (i + 1) d u) := hC (i + 1) (Nat.le_refl _) (by omega) d hd u hu
  refine g_aload0 C dX2_costAtMark_0 (n := 1) rfl ?_
  refine kg_X2_23 C sh_64 rfl dX2_costAtMark_1 (n := 4) rfl ?_
  refine g_iload1 C dX2_costAtMark_4 (n := 5) rfl ?_
  refine kc_X2_69 C (ct_X4_at SH M 70 120 i _ row_70 hx (by omega)) sh_70 ⟨Nat.le_of_ble_eq_true rfl, Nat.le_of_ble_eq_true rfl⟩ ⟨Nat.zero_le _, Nat.zero_le _⟩ (Nat.le_of_ble_eq_true rfl) dX2_costAtMark_5 (n := 8) rfl (fun r_5 M_5 h_5 => ?_)
  rw [h_5.2, h_5.1, show M (70 + 1) i = spg S i from hMC.2.1 i hi]
  refine g_istore3 C dX2_costAtMark_8 (n := 9) rfl ?_
  refine g_aload0 C dX2_costAtMark_9 (n := 10) rfl ?_
  refine kg_X2_27 C sh_64 rfl dX2_costAtMark_10 (n := 13) rfl ?_
  refine g_iconst C ic_1 dX2_costAtMark_13 (n := 14) rfl ?_
  refine kc_X2_69 C (ct_X4_at SH M 72 3 1 _ row_72 rfl (by decide)) sh_72 ⟨Nat.le_of_ble_eq_true rfl, Nat.le_of_ble_eq_true rfl⟩ ⟨Nat.zero_le _, Nat.zero_le _⟩ (Nat.le_of_ble_eq_true rfl) dX2_costAtMark_14 (n := 17) rfl (fun r_14 M_14 h_14 => ?_)
  rw [h_14.2, h_14.1, show M (72 + 1) 1 = nI (spw S 1) from hMC.2.2.1 1 (by decide)]
  refine g_aload0 C dX2_costAtMark_17 (n := 18) rfl ?_
  refine g_iload1 C dX2_costAtMark_18 (n := 19) rfl ?_
  refine g_iconst C ic_1 dX2_costAtMark_19 (n := 20) rfl ?_
  refine g_iadd C dX2_costAtMark_20 (n := 21) rfl ?_
  refine g_iload2 C dX2_costAtMark_21 (n := 22) rfl ?_
  refine kc_X2_46 C (ct_X2_costAt M (i + 1) (7 * d + u) _ _ (by rw [hx, nI_1]) hy (by omega)) sh_64 ⟨Nat.le_of_ble_eq_true rfl, Nat.le_of_ble_eq_true rfl⟩ ⟨Nat.zero_le _, Nat.zero_le _⟩ (Nat.le_of_ble_eq_true rfl) dX2_costAtMark_22 (n := 25) rfl (fun r_22 M_22 h_22 => ?_)
  rw [h_22.2, h_22.1, hct]
  refine g_iadd C dX2_costAtMark_25 (n := 26) rfl ?_
  refine g_istore4 C dX2_costAtMark_26 (n := 28) rfl ?_
  refine g_iconst C ic_0 dX2_costAtMark_28 (n := 29) rfl ?_
  refine g_istore5 C dX2_costAtMark_29 (n := 31) rfl ?_
  have L_31 : ∀ (fu : Nat) (v : Nat) (yv w : Int32) (o6 o7 : Option Value), 2 - v < fu → (yv = nI v) → (v ≤ 2) → (w = nI (bsV S i d u v)) → G p l e ({ frames := 2, cells := 0, slots := 0, locals := 43 }) s m ([.ref (z + 64), .int x, .int y] : List Value).toArray below meth c D cI cO z 8 (QM below D cI cO z ([.ref (z + 64), .int x, .int y] : List Value).toArray s SH (pI (fun r M1 => r = nI (rwS S i d u) ∧ M1 = M))) 0 0 SH M 31 [some (.ref (z + 64)), some (.int x), some (.int y), some (.int (spg S i)), some (.int w), some (.int yv), o6, o7] [] := by
    intro fu_31
    induction fu_31 with
    | zero => intro v yv w o6 o7 hfu; exact absurd hfu (Nat.not_lt_zero _)
    | succ fu_31 ih_31 =>
      intro v yv w o6 o7 hfu_31 hyv hv hw
      refine g_iload5 C dX2_costAtMark_31 (n := 33) rfl ?_
      refine g_iconst C ic_2 dX2_costAtMark_33 (n := 34) rfl ?_
      refine g_icmp_ge C dX2_costAtMark_34 (t := 108) (by decide) (n := 37) rfl (fun c_34 => ?_) (fun c_34 => ?_)
      · have w34 : ¬ v < 2 := fun h => c_34 ((qlt hyv (show (2 : Int32) = nI 2 from rfl) (by omega) (by decide)).mpr h)
        refine g_iload4 C dX2_costAtMark_108 (n := 110) rfl ?_
        refine r_I C dX2_costAtMark_110 ?_
        exact ⟨by rw [hw, show v = 2 by omega, bsV_2 hi hm], rfl⟩
      · have w34 : v < 2 := (qlt hyv (show (2 : Int32) = nI 2 from rfl) (by omega) (by decide)).mp c_34
        have hbl := bsV_le S i d u v
        have hof := GOK_off hMC.2.2.2.1 hd hu (show v < 2 by omega)
        refine g_aload0 C dX2_costAtMark_37 (n := 38) rfl ?_
        refine kg_X2_12 C sh_64 rfl dX2_costAtMark_38 (n := 41) rfl ?_
        refine g_iload2 C dX2_costAtMark_41 (n := 42) rfl ?_
        refine g_iload5 C dX2_costAtMark_42 (n := 44) rfl ?_
        refine kc_X2_96 C (ct_X0_behindOffer SH M 65 (7 * d + u) v _ _ grammar_65 hy hyv (by omega)) sh_65 ⟨Nat.le_of_ble_eq_true rfl, Nat.le_of_ble_eq_true rfl⟩ ⟨Nat.zero_le _, Nat.zero_le _⟩ (Nat.le_of_ble_eq_true rfl) dX2_costAtMark_44 (n := 47) rfl (fun r_44 M_44 h_44 => ?_)
        rw [h_44.1, h_44.2]
        refine g_istore6 C dX2_costAtMark_47 (n := 49) rfl ?_
        refine g_iload6 C dX2_costAtMark_49 (n := 51) rfl ?_
        refine g_iconst C ic_m1 dX2_costAtMark_51 (n := 52) rfl ?_
        refine g_icmp_eq C dX2_costAtMark_52 (t := 102) (by decide) (n := 55) rfl (fun c_52 => ?_) (fun c_52 => ?_)
        · have hno : bsV S i d u (v + 1) = bsV S i d u v := by
            rcases hof with ⟨h, _⟩ | ⟨q, h, _, h2⟩
            · exact bsV_n h
            · have hk := off_ok hs.2.2.1 hd hu h
              have hdq := dmy_le (spr S) q.2.1
              exact absurd (h2.symm.trans c_52) (nI_neg (by omega) (by decide))
          have hw3 : w = nI (bsV S i d u (v + 1)) := by rw [hno]; exact hw
          refine g_iinc5 C (inc_1 _) dX2_costAtMark_102 (n := 105) rfl ?_
          refine g_goto C dX2_costAtMark_105 (t := 31) (by decide) ?_
          exact ih_31 (v + 1) (yv + 1) _ _ _ (by omega) (by rw [hyv, nI_1]) (by omega) hw3
        · obtain ⟨q, hq, hq1, hq2⟩ : ∃ q, off S d u v = some q ∧ M (65 + 2) (2 * (7 * d + u) + v) = q.1 ∧ M (65 + 4) (2 * (7 * d + u) + v) = nI (7 * q.2.1 + q.2.2) := by
            rcases hof with ⟨_, h⟩ | h
            · exact absurd h c_52
            · exact h
          have hk := off_ok hs.2.2.1 hd hu hq
          have hdq := dmy_le (spr S) q.2.1
          have hcq := cS_lt hs (show i + 1 ≤ spn S by omega) hk.2.1 hk.2.2
          have hctq : M 75 (49 * (i + 1) + (7 * q.2.1 + q.2.2)) = nI (cS S (i + 1) q.2.1 q.2.2) := hC (i + 1) (Nat.le_refl _) (by omega) _ hk.2.1 _ hk.2.2
          have hwl := wgt_le (spg S i) q.1 (spw S 2)
          refine g_aload0 C dX2_costAtMark_55 (n := 56) rfl ?_
          refine kg_X2_12 C sh_64 rfl dX2_costAtMark_56 (n := 59) rfl ?_
          refine g_iload2 C dX2_costAtMark_59 (n := 60) rfl ?_
          refine g_iload5 C dX2_costAtMark_60 (n := 62) rfl ?_
          refine kc_X2_99 C (ct_X0_offered SH M 65 (7 * d + u) v _ _ grammar_65 hy hyv (by omega)) sh_65 ⟨Nat.le_of_ble_eq_true rfl, Nat.le_of_ble_eq_true rfl⟩ ⟨Nat.zero_le _, Nat.zero_le _⟩ (Nat.le_of_ble_eq_true rfl) dX2_costAtMark_62 (n := 65) rfl (fun r_62 M_62 h_62 => ?_)
          rw [h_62.2, h_62.1, hq1]
          refine g_iload3 C dX2_costAtMark_65 (n := 66) rfl ?_
          refine g_icmp_ne C dX2_costAtMark_66 (t := 73) (by decide) (n := 69) rfl (fun c_66 => ?_) (fun c_66 => ?_)
          · have hwt : nI (spw S 2) = nI (wgt (spg S i) q.1 (spw S 2)) := by unfold wgt; rw [if_neg c_66]
            refine g_aload0 C dX2_costAtMark_73 (n := 74) rfl ?_
            refine kg_X2_27 C sh_64 rfl dX2_costAtMark_74 (n := 77) rfl ?_
            refine g_iconst C ic_2 dX2_costAtMark_77 (n := 78) rfl ?_
            refine kc_X2_69 C (ct_X4_at SH M 72 3 2 _ row_72 rfl (by decide)) sh_72 ⟨Nat.le_of_ble_eq_true rfl, Nat.le_of_ble_eq_true rfl⟩ ⟨Nat.zero_le _, Nat.zero_le _⟩ (Nat.le_of_ble_eq_true rfl) dX2_costAtMark_78 (n := 81) rfl (fun r_78 M_78 h_78 => ?_)
            rw [h_78.2, h_78.1, show M (72 + 1) 2 = nI (spw S 2) from hMC.2.2.1 2 (by decide)]
            refine g_istore7 C dX2_costAtMark_81 (n := 83) rfl ?_
            refine g_iload4 C dX2_costAtMark_83 (n := 85) rfl ?_
            refine g_iload7 C dX2_costAtMark_85 (n := 87) rfl ?_
            refine g_aload0 C dX2_costAtMark_87 (n := 88) rfl ?_
            refine g_iload1 C dX2_costAtMark_88 (n := 89) rfl ?_
            refine g_iconst C ic_1 dX2_costAtMark_89 (n := 90) rfl ?_
            refine g_iadd C dX2_costAtMark_90 (n := 91) rfl ?_
            refine g_iload6 C dX2_costAtMark_91 (n := 93) rfl ?_
            refine kc_X2_46 C (ct_X2_costAt M (i + 1) (7 * q.2.1 + q.2.2) _ _ (by rw [hx, nI_1]) hq2 (by omega)) sh_64 ⟨Nat.le_of_ble_eq_true rfl, Nat.le_of_ble_eq_true rfl⟩ ⟨Nat.zero_le _, Nat.zero_le _⟩ (Nat.le_of_ble_eq_true rfl) dX2_costAtMark_93 (n := 96) rfl (fun r_93 M_93 h_93 => ?_)
            rw [h_93.2, h_93.1, hctq]
            refine g_iadd C dX2_costAtMark_96 (n := 97) rfl ?_
            refine kc_X2_102 C ⟨Nat.le_of_ble_eq_true rfl, Nat.le_of_ble_eq_true rfl⟩ ⟨Nat.zero_le _, Nat.zero_le _⟩ dX2_costAtMark_97 (n := 100) rfl ?_
            rw [i_min (a := bsV S i d u v) (b := wgt (spg S i) q.1 (spw S 2) + cS S (i + 1) q.2.1 q.2.2) hw (e_add hwt rfl) (by omega) (by omega)]
            have hw3 : nI (min (bsV S i d u v) (wgt (spg S i) q.1 (spw S 2) + cS S (i + 1) q.2.1 q.2.2)) = nI (bsV S i d u (v + 1)) := by rw [bsV_y hq]
            refine g_istore4 C dX2_costAtMark_100 (n := 102) rfl ?_
            refine g_iinc5 C (inc_1 _) dX2_costAtMark_102 (n := 105) rfl ?_
            refine g_goto C dX2_costAtMark_105 (t := 31) (by decide) ?_
            exact ih_31 (v + 1) (yv + 1) _ _ _ (by omega) (by rw [hyv, nI_1]) (by omega) hw3
          · have hwt : (0 : Int32) = nI (wgt (spg S i) q.1 (spw S 2)) := by unfold wgt; rw [if_pos c_66]; rfl
            refine g_iconst C ic_0 dX2_costAtMark_69 (n := 70) rfl ?_
            refine g_goto C dX2_costAtMark_70 (t := 81) (by decide) ?_
            refine g_istore7 C dX2_costAtMark_81 (n := 83) rfl ?_
            refine g_iload4 C dX2_costAtMark_83 (n := 85) rfl ?_
            refine g_iload7 C dX2_costAtMark_85 (n := 87) rfl ?_
            refine g_aload0 C dX2_costAtMark_87 (n := 88) rfl ?_
            refine g_iload1 C dX2_costAtMark_88 (n := 89) rfl ?_
            refine g_iconst C ic_1 dX2_costAtMark_89 (n := 90) rfl ?_
            refine g_iadd C dX2_costAtMark_90 (n := 91) rfl ?_
            refine g_iload6 C dX2_costAtMark_91 (n := 93) rfl ?_
            refine kc_X2_46 C (ct_X2_costAt M (i + 1) (7 * q.2.1 + q.2.2) _ _ (by rw [hx, nI_1]) hq2 (by omega)) sh_64 ⟨Nat.le_of_ble_eq_true rfl, Nat.le_of_ble_eq_true rfl⟩ ⟨Nat.zero_le _, Nat.zero_le _⟩ (Nat.le_of_ble_eq_true rfl) dX2_costAtMark_93 (n := 96) rfl (fun r_93 M_93 h_93 => ?_)
            rw [h_93.2, h_93.1, hctq]
            refine g_iadd C dX2_costAtMark_96 (n := 97) rfl ?_
            refine kc_X2_102 C ⟨Nat.le_of_ble_eq_true rfl, Nat.le_of_ble_eq_true rfl⟩ ⟨Nat.zero_le _, Nat.zero_le _⟩ dX2_costAtMark_97 (n := 100) rfl ?_
            rw [i_min (a := bsV S i d u v) (b := wgt (spg S i) q.1 (spw S 2) + cS S (i + 1) q.2.1 q.2.2) hw (e_add hwt rfl) (by omega) (by omega)]
            have hw3 : nI (min (bsV S i d u v) (wgt (spg S i) q.1 (spw S 2) + cS S (i + 1) q.2.1 q.2.2)) = nI (bsV S i d u (v + 1)) := by rw [bsV_y hq]
            refine g_istore4 C dX2_costAtMark_100 (n := 102) rfl ?_
            refine g_iinc5 C (inc_1 _) dX2_costAtMark_102 (n := 105) rfl ?_
            refine g_goto C dX2_costAtMark_105 (t := 31) (by decide) ?_
            exact ih_31 (v + 1) (yv + 1) _ _ _ (by omega) (by rw [hyv, nI_1]) (by omega) hw3
  exact L_31 3 0 0 _ _ _ (by omega) nI_0.symm (by omega) (nI_add _ _)
set_option maxHeartbeats 4000000 in
set_option maxRecDepth 100000 in
theorem ct_X2_costAtOther {l : Launch} {D : va_G} {cI cO : ClassId} {z tP : Nat} {aK aV : Nat → Nat} (M : Mem) (S : Spt) (i d u : Nat) (x y : Int32) (hMC : MC M S) (hs : wfS S) (hC : CT M 75 S (i + 1)) (hx : x = nI i) (hy : y = nI (7 * d + u)) (hi : i ≤ spn S) (hm : i < spn S → ¬ isMk (spg S i) = true) (hd : d ≤ 6) (hu : u ≤ dmy (spr S) d) : Cm l D cI cO z tP aK aV yX2_costAtOther cX2_costAtOther 4 (some .int) 3 66 [.ref (z + 64), .int x, .int y] SH M (pI (fun r M1 => r = nI (rwS S i d u) ∧ M1 = M)) := by
  refine cm_intro (lv0 := [some (.ref (z + 64)), some (.int x), some (.int y), none]) (by decide) rfl (Nat.le_of_ble_eq_true rfl) rfl (fun p e s m below meth c C => ?_)
  have hn := hs.1
  have hdu := dmy_le (spr S) d
  refine g_iload1 C dX2_costAtOther_0 (n := 1) rfl ?_
  refine g_aload0 C dX2_costAtOther_1 (n := 2) rfl ?_
  refine kg_X2_39 C sh_64 rfl dX2_costAtOther_2 (n := 5) rfl ?_
  refine g_icmp_lt C dX2_costAtOther_5 (t := 19) (by decide) (n := 8) rfl (fun c_5 => ?_) (fun c_5 => ?_)
  · have w5 : i < spn S := (qlt hx hMC.1 (by omega) (by omega)).mp c_5
    have hrw : rwS S i d u = match nxt (spt S) (spr S) d u (spg S i) with | some q => cS S (i + 1) q.1 q.2 | none => FAR := by unfold rwS; rw [if_pos w5]; unfold rawC; rw [if_neg (hm w5)]; rfl
    refine g_aload0 C dX2_costAtOther_19 (n := 20) rfl ?_
    refine kg_X2_12 C sh_64 rfl dX2_costAtOther_20 (n := 23) rfl ?_
    refine g_iload2 C dX2_costAtOther_23 (n := 24) rfl ?_
    refine g_aload0 C dX2_costAtOther_24 (n := 25) rfl ?_
    refine kg_X2_23 C sh_64 rfl dX2_costAtOther_25 (n := 28) rfl ?_
    refine g_iload1 C dX2_costAtOther_28 (n := 29) rfl ?_
    refine kc_X2_69 C (ct_X4_at SH M 70 120 i _ row_70 hx (by omega)) sh_70 ⟨Nat.le_of_ble_eq_true rfl, Nat.le_of_ble_eq_true rfl⟩ ⟨Nat.zero_le _, Nat.zero_le _⟩ (Nat.le_of_ble_eq_true rfl) dX2_costAtOther_29 (n := 32) rfl (fun r_29 M_29 h_29 => ?_)
    rw [h_29.2, h_29.1, show M (70 + 1) i = spg S i from hMC.2.1 i w5]
    refine kc_X2_93 C (ct_X0_step SH M 65 (spt S) (spr S) d u _ _ grammar_65 hMC.2.2.2.1 hMC.2.2.2.2.2 hs.2.2.1 hs.2.2.2.1 hy hd hu (sg_ne0 (hs.2.1 i w5))) sh_65 ⟨Nat.le_of_ble_eq_true rfl, Nat.le_of_ble_eq_true rfl⟩ ⟨Nat.zero_le _, Nat.zero_le _⟩ (Nat.le_of_ble_eq_true rfl) dX2_costAtOther_32 (n := 35) rfl (fun r_32 M_32 h_32 => ?_)
    rw [h_32.1, h_32.2]
    refine g_istore3 C dX2_costAtOther_35 (n := 36) rfl ?_
    refine g_iload3 C dX2_costAtOther_36 (n := 37) rfl ?_
    refine g_iconst C ic_m1 dX2_costAtOther_37 (n := 38) rfl ?_
    refine g_icmp_eq C dX2_costAtOther_38 (t := 52) (by decide) (n := 41) rfl (fun c_38 => ?_) (fun c_38 => ?_)
    · have hfin : (1000000 : Int32) = nI (rwS S i d u) := by
        rw [hrw]
        cases hq : nxt (spt S) (spr S) d u (spg S i) with
        | none => rfl
        | some q =>
          rw [hq] at c_38
          have hk := nxt_ok hd hu hq
          have hdq := dmy_le (spr S) q.1
          exact absurd c_38 (nI_neg (by omega) (by decide))
      refine g_ldc C (v := 1000000) (gmem (i := 677) (by decide +kernel) (by decide +kernel)) dX2_costAtOther_52 (n := 54) rfl ?_
      refine r_I C dX2_costAtOther_54 ?_
      exact ⟨hfin, rfl⟩
    · obtain ⟨q, hq⟩ : ∃ q, nxt (spt S) (spr S) d u (spg S i) = some q := by
        cases hq : nxt (spt S) (spr S) d u (spg S i) with
        | none => rw [hq] at c_38; exact absurd rfl c_38
        | some q => exact ⟨q, rfl⟩
      have hk := nxt_ok hd hu hq
      have hdq := dmy_le (spr S) q.1
      refine g_aload0 C dX2_costAtOther_41 (n := 42) rfl ?_
      refine g_iload1 C dX2_costAtOther_42 (n := 43) rfl ?_
      refine g_iconst C ic_1 dX2_costAtOther_43 (n := 44) rfl ?_
      refine g_iadd C dX2_costAtOther_44 (n := 45) rfl ?_
      refine g_iload3 C dX2_costAtOther_45 (n := 46) rfl ?_
      refine kc_X2_46 C (ct_X2_costAt M (i + 1) (7 * q.1 + q.2) _ _ (by rw [hx, nI_1]) (by rw [hq]; rfl) (by omega)) sh_64 ⟨Nat.le_of_ble_eq_true rfl, Nat.le_of_ble_eq_true rfl⟩ ⟨Nat.zero_le _, Nat.zero_le _⟩ (Nat.le_of_ble_eq_true rfl) dX2_costAtOther_46 (n := 49) rfl (fun r_46 M_46 h_46 => ?_)
      rw [h_46.2, h_46.1]
      have hfin : M 75 (49 * (i + 1) + (7 * q.1 + q.2)) = nI (rwS S i d u) := by
        rw [hrw, hq]; exact hC (i + 1) (Nat.le_refl _) (by omega) _ hk.1 _ hk.2
      refine g_goto C dX2_costAtOther_49 (t := 54) (by decide) ?_
      refine r_I C dX2_costAtOther_54 ?_
      exact ⟨hfin, rfl⟩
  · have w5 : ¬ i < spn S := fun h => c_5 ((qlt hx hMC.1 (by omega) (by omega)).mpr h)
    refine g_iload2 C dX2_costAtOther_8 (n := 9) rfl ?_
    refine g_if_ne C dX2_costAtOther_9 (t := 16) (by decide) (n := 12) rfl (fun c_9 => ?_) (fun c_9 => ?_)
    · have hfin : (1000000 : Int32) = nI (rwS S i d u) := by
        unfold rwS; rw [if_neg w5]; unfold raw0; rw [if_neg (fun h => c_9 (by rw [hy, h.1, h.2]; rfl))]; rfl
      refine g_ldc C (v := 1000000) (gmem (i := 677) (by decide +kernel) (by decide +kernel)) dX2_costAtOther_16 (n := 18) rfl ?_
      refine r_I C dX2_costAtOther_18 ?_
      exact ⟨hfin, rfl⟩
    · have hfin : (0 : Int32) = nI (rwS S i d u) := by
        have h9 := (qeq hy nI_0.symm (by omega) (by decide)).mp c_9
        unfold rwS; rw [if_neg w5]; unfold raw0; rw [if_pos (by omega)]; rfl
      refine g_iconst C ic_0 dX2_costAtOther_12 (n := 13) rfl ?_
      refine g_goto C dX2_costAtOther_13 (t := 18) (by decide) ?_
      refine r_I C dX2_costAtOther_18 ?_
      exact ⟨hfin, rfl⟩
set_option maxHeartbeats 4000000 in
set_option maxRecDepth 100000 in
theorem ct_X2_reckonPlace {l : Launch} {D : va_G} {cI cO : ClassId} {z tP : Nat} {aK aV : Nat → Nat} (M : Mem) (S : Spt) (i : Nat) (x : Int32) (hMC : MC M S) (hs : wfS S) (hC : CT M 75 S (i + 1)) (hx : x = nI i) (hi : i ≤ spn S) : Cm l D cI cO z tP aK aV yX2_reckonPlace cX2_reckonPlace 8 none 6 127 [.ref (z + 64), .int x] SH M (pV (fun M1 => TB M1 75 i (spr S) (rwS S i) ∧ (∀ a, a ≠ 75 → M1 a = M a) ∧ ∀ p, (p < 49 * i ∨ 49 * i + 49 ≤ p) → M1 75 p = M 75 p)) := by
  refine cm_intro (lv0 := [some (.ref (z + 64)), some (.int x), none, none, none, none, none, none]) (by decide) rfl (Nat.le_of_ble_eq_true rfl) rfl (fun p e s m below meth c C => ?_)
  have hn := hs.1
  have J_27 : ∀ (b2 : Bool) (xb : Int32), (xb = bI b2) → (b2 = true ↔ (i < spn S ∧ isMk (spg S i) = true)) → G p l e ({ frames := 6, cells := 0, slots := 0, locals := 127 }) s m ([.ref (z + 64), .int x] : List Value).toArray below meth c D cI cO z 8 (QM below D cI cO z ([.ref (z + 64), .int x] : List Value).toArray s SH (pV (fun M1 => TB M1 75 i (spr S) (rwS S i) ∧ (∀ a, a ≠ 75 → M1 a = M a) ∧ ∀ p, (p < 49 * i ∨ 49 * i + 49 ≤ p) → M1 75 p = M 75 p))) 0 0 SH M 27 [some (.ref (z + 64)), some (.int x), none, none, none, none, none, none] [.int xb] := by
    intro b2 xb hxb hb2
    rw [hxb]
    refine g_istore2 C dX2_reckonPlace_27 (n := 28) rfl ?_
    refine g_iconst C ic_0 dX2_reckonPlace_28 (n := 29) rfl ?_
    refine g_istore3 C dX2_reckonPlace_29 (n := 30) rfl ?_
    have L_30 : ∀ (fu : Nat) (v : Nat) (yv : Int32) (M1 : Mem) (o4 o5 o6 o7 : Option Value), 7 - v < fu → (yv = nI v) → (v ≤ 7) → (∀ d, d ≤ 6 → ∀ u, u ≤ dmy (spr S) d → d < v → M1 75 (49 * i + (7 * d + u)) = nI (rwS S i d u)) → (∀ a, a ≠ 75 → M1 a = M a) → (∀ p, (p < 49 * i ∨ 49 * i + 49 ≤ p) → M1 75 p = M 75 p) → G p l e ({ frames := 6, cells := 0, slots := 0, locals := 127 }) s m ([.ref (z + 64), .int x] : List Value).toArray below meth c D cI cO z 8 (QM below D cI cO z ([.ref (z + 64), .int x] : List Value).toArray s SH (pV (fun M1 => TB M1 75 i (spr S) (rwS S i) ∧ (∀ a, a ≠ 75 → M1 a = M a) ∧ ∀ p, (p < 49 * i ∨ 49 * i + 49 ≤ p) → M1 75 p = M 75 p))) 0 0 SH M1 30 [some (.ref (z + 64)), some (.int x), some (.int (bI b2)), some (.int yv), o4, o5, o6, o7] [] := by
      intro fu_30
      induction fu_30 with
      | zero => intro v yv M1 o4 o5 o6 o7 hfu; exact absurd hfu (Nat.not_lt_zero _)
      | succ fu_30 ih_30 =>
        intro v yv M1 o4 o5 o6 o7 hfu_30 hyv hv hB hF hP
        refine g_iload3 C dX2_reckonPlace_30 (n := 31) rfl ?_
        refine g_bipush C bp_6 dX2_reckonPlace_31 (n := 33) rfl ?_
        refine g_icmp_gt C dX2_reckonPlace_33 (t := 115) (by decide) (n := 36) rfl (fun c_33 => ?_) (fun c_33 => ?_)
        · have w33 : 6 < v := (qlt (show (6 : Int32) = nI 6 from rfl) hyv (by decide) (by omega)).mp c_33
          refine r_V C dX2_reckonPlace_115 ?_
          exact ⟨fun d hd u hu => hB d hd u hu (by omega), hF, hP⟩
        · have w33 : ¬ 6 < v := fun h => c_33 ((qlt (show (6 : Int32) = nI 6 from rfl) hyv (by decide) (by omega)).mpr h)
          refine g_aload0 C dX2_reckonPlace_36 (n := 37) rfl ?_
          refine kg_X2_12 C sh_64 rfl dX2_reckonPlace_37 (n := 40) rfl ?_
          refine g_iload3 C dX2_reckonPlace_40 (n := 41) rfl ?_
          refine kc_X2_77 C (ct_X0_dueBehindBreak SH M1 65 (spr S) v _ grammar_65 (by rw [hF 65 (by omega)]; exact hMC.2.2.2.2.2) hs.2.2.2.1 hyv (by omega)) sh_65 ⟨Nat.le_of_ble_eq_true rfl, Nat.le_of_ble_eq_true rfl⟩ ⟨Nat.zero_le _, Nat.zero_le _⟩ (Nat.le_of_ble_eq_true rfl) dX2_reckonPlace_41 (n := 44) rfl (fun r_41 M_41 h_41 => ?_)
          rw [h_41.1, h_41.2]
          have hdv := dmy_le (spr S) v
          refine g_istore4 C dX2_reckonPlace_44 (n := 46) rfl ?_
          refine g_iconst C ic_0 dX2_reckonPlace_46 (n := 47) rfl ?_
          refine g_istore5 C dX2_reckonPlace_47 (n := 49) rfl ?_
          have L_49 : ∀ (fu : Nat) (w : Nat) (yw : Int32) (M2 : Mem) (o6 o7 : Option Value), dmy (spr S) v + 1 - w < fu → (yw = nI w) → (w ≤ dmy (spr S) v + 1) → (∀ d, d ≤ 6 → ∀ u, u ≤ dmy (spr S) d → (d < v ∨ (d = v ∧ u < w)) → M2 75 (49 * i + (7 * d + u)) = nI (rwS S i d u)) → (∀ a, a ≠ 75 → M2 a = M a) → (∀ p, (p < 49 * i ∨ 49 * i + 49 ≤ p) → M2 75 p = M 75 p) → G p l e ({ frames := 6, cells := 0, slots := 0, locals := 127 }) s m ([.ref (z + 64), .int x] : List Value).toArray below meth c D cI cO z 8 (QM below D cI cO z ([.ref (z + 64), .int x] : List Value).toArray s SH (pV (fun M1 => TB M1 75 i (spr S) (rwS S i) ∧ (∀ a, a ≠ 75 → M1 a = M a) ∧ ∀ p, (p < 49 * i ∨ 49 * i + 49 ≤ p) → M1 75 p = M 75 p))) 0 0 SH M2 49 [some (.ref (z + 64)), some (.int x), some (.int (bI b2)), some (.int yv), some (.int (nI (dmy (spr S) v))), some (.int yw), o6, o7] [] := by
            intro fu_49
            induction fu_49 with
            | zero => intro w yw M2 o6 o7 hfu; exact absurd hfu (Nat.not_lt_zero _)
            | succ fu_49 ih_49 =>
              intro w yw M2 o6 o7 hfu_49 hyw hw hB2 hF2 hP2
              refine g_iload5 C dX2_reckonPlace_49 (n := 51) rfl ?_
              refine g_iload4 C dX2_reckonPlace_51 (n := 53) rfl ?_
              refine g_icmp_gt C dX2_reckonPlace_53 (t := 109) (by decide) (n := 56) rfl (fun c_53 => ?_) (fun c_53 => ?_)
              · have w53 : dmy (spr S) v < w := (qlt (rfl : nI (dmy (spr S) v) = _) hyw (by omega) (by omega)).mp c_53
                refine g_iinc3 C (inc_1 _) dX2_reckonPlace_109 (n := 112) rfl ?_
                refine g_goto C dX2_reckonPlace_112 (t := 30) (by decide) ?_
                exact ih_30 (v + 1) (yv + 1) M2 _ _ _ _ (by omega) (by rw [hyv, nI_1]) (by omega) (fun d hd u hu h => hB2 d hd u hu (by by_cases hdv2 : d = v; (right; subst hdv2; exact ⟨rfl, by omega⟩); (left; omega))) hF2 hP2
              · have w53 : ¬ dmy (spr S) v < w := fun h => c_53 ((qlt (rfl : nI (dmy (spr S) v) = _) hyw (by omega) (by omega)).mpr h)
                refine g_iload3 C dX2_reckonPlace_56 (n := 57) rfl ?_
                refine g_iload5 C dX2_reckonPlace_57 (n := 59) rfl ?_
                refine kc_X2_80 C (ct_X0_stateOf SH M2 v w _ _ hyv hyw) ⟨Nat.le_of_ble_eq_true rfl, Nat.le_of_ble_eq_true rfl⟩ ⟨Nat.zero_le _, Nat.zero_le _⟩ (Nat.le_of_ble_eq_true rfl) dX2_reckonPlace_59 (n := 62) rfl (fun r_59 M_59 h_59 => ?_)
                rw [h_59.1, h_59.2]
                have hMC2 : MC M2 S := MC_cong hMC (fun a _ _ => hF2 a (by omega))
                have hC2 : CT M2 75 S (i + 1) := CT_cong hC (fun p hp => hP2 p (by omega))
                refine g_istore6 C dX2_reckonPlace_62 (n := 64) rfl ?_
                refine g_iload2 C dX2_reckonPlace_64 (n := 65) rfl ?_
                refine g_if_eq C dX2_reckonPlace_65 (t := 78) (by decide) (n := 68) rfl (fun c_65 => ?_) (fun c_65 => ?_)
                · have hbf : ¬ (i < spn S ∧ isMk (spg S i) = true) := fun h => by have := hb2.mpr h; rw [bI_0.mp c_65] at this; cases this
                  refine g_aload0 C dX2_reckonPlace_78 (n := 79) rfl ?_
                  refine g_iload1 C dX2_reckonPlace_79 (n := 80) rfl ?_
                  refine g_iload6 C dX2_reckonPlace_80 (n := 82) rfl ?_
                  refine kc_X2_86 C (ct_X2_costAtOther M2 S i v w x _ hMC2 hs hC2 hx rfl hi (fun h1 h2 => hbf ⟨h1, h2⟩) (by omega) (by omega)) sh_64 ⟨Nat.le_of_ble_eq_true rfl, Nat.le_of_ble_eq_true rfl⟩ ⟨Nat.zero_le _, Nat.zero_le _⟩ (Nat.le_of_ble_eq_true rfl) dX2_reckonPlace_82 (n := 85) rfl (fun r_82 M_82 h_82 => ?_)
                  rw [h_82.1, h_82.2]
                  refine g_istore7 C dX2_reckonPlace_85 (n := 87) rfl ?_
                  refine g_aload0 C dX2_reckonPlace_87 (n := 88) rfl ?_
                  refine kg_X2_30 C sh_64 rfl dX2_reckonPlace_88 (n := 91) rfl ?_
                  refine g_iload1 C dX2_reckonPlace_91 (n := 92) rfl ?_
                  refine g_bipush C bp_49 dX2_reckonPlace_92 (n := 94) rfl ?_
                  refine g_imul C dX2_reckonPlace_94 (n := 95) rfl ?_
                  refine g_iload6 C dX2_reckonPlace_95 (n := 97) rfl ?_
                  refine g_iadd C dX2_reckonPlace_97 (n := 98) rfl ?_
                  refine g_iload7 C dX2_reckonPlace_98 (n := 100) rfl ?_
                  refine kc_X2_89 C (ct_X4_set SH M2 74 5929 (49 * i + (7 * v + w)) _ _ row_74 (e_add (by rw [hx, Nat.mul_comm]; exact pk_mul _ 49) rfl) (by omega)) sh_74 ⟨Nat.le_of_ble_eq_true rfl, Nat.le_of_ble_eq_true rfl⟩ ⟨Nat.zero_le _, Nat.zero_le _⟩ (Nat.le_of_ble_eq_true rfl) dX2_reckonPlace_100 (n := 103) rfl (fun M3 e3 => ?_)
                  refine g_iinc5 C (inc_1 _) dX2_reckonPlace_103 (n := 106) rfl ?_
                  refine g_goto C dX2_reckonPlace_106 (t := 49) (by decide) ?_
                  exact ih_49 (w + 1) (yw + 1) M3 _ _ (by omega) (by rw [hyw, nI_1]) (by omega) (fun d hd u hu h => by
                    have r3 : M3 75 = upd (M2 75) (49 * i + (7 * v + w)) (nI (rwS S i v w)) := by rw [e3]; exact up2_row _ _ _ _
                    have hdd := dmy_le (spr S) d
                    rw [r3]
                    by_cases hh : d = v ∧ u = w
                    · rw [hh.1, hh.2, pk_us]
                    · rw [pk_un (by omega)]; exact hB2 d hd u hu (by omega)) (fun a ha => by rw [e3, up2_ne _ _ ha]; exact hF2 a ha) (fun p hp => by
                    rw [e3]
                    refine (show up2 M2 75 (49 * i + (7 * v + w)) _ 75 p = M2 75 p by simp [up2]; omega).trans ?_
                    exact hP2 p hp)
                · have hbt := hb2.mp (bI_n.mp c_65)
                  refine g_aload0 C dX2_reckonPlace_68 (n := 69) rfl ?_
                  refine g_iload1 C dX2_reckonPlace_69 (n := 70) rfl ?_
                  refine g_iload6 C dX2_reckonPlace_70 (n := 72) rfl ?_
                  refine kc_X2_83 C (ct_X2_costAtMark M2 S i v w x _ hMC2 hs hC2 hx rfl hbt.1 hbt.2 (by omega) (by omega)) sh_64 ⟨Nat.le_of_ble_eq_true rfl, Nat.le_of_ble_eq_true rfl⟩ ⟨Nat.zero_le _, Nat.zero_le _⟩ (Nat.le_of_ble_eq_true rfl) dX2_reckonPlace_72 (n := 75) rfl (fun r_72 M_72 h_72 => ?_)
                  rw [h_72.1, h_72.2]
                  refine g_goto C dX2_reckonPlace_75 (t := 85) (by decide) ?_
                  refine g_istore7 C dX2_reckonPlace_85 (n := 87) rfl ?_
                  refine g_aload0 C dX2_reckonPlace_87 (n := 88) rfl ?_
                  refine kg_X2_30 C sh_64 rfl dX2_reckonPlace_88 (n := 91) rfl ?_
                  refine g_iload1 C dX2_reckonPlace_91 (n := 92) rfl ?_
                  refine g_bipush C bp_49 dX2_reckonPlace_92 (n := 94) rfl ?_
                  refine g_imul C dX2_reckonPlace_94 (n := 95) rfl ?_
                  refine g_iload6 C dX2_reckonPlace_95 (n := 97) rfl ?_
                  refine g_iadd C dX2_reckonPlace_97 (n := 98) rfl ?_
                  refine g_iload7 C dX2_reckonPlace_98 (n := 100) rfl ?_
                  refine kc_X2_89 C (ct_X4_set SH M2 74 5929 (49 * i + (7 * v + w)) _ _ row_74 (e_add (by rw [hx, Nat.mul_comm]; exact pk_mul _ 49) rfl) (by omega)) sh_74 ⟨Nat.le_of_ble_eq_true rfl, Nat.le_of_ble_eq_true rfl⟩ ⟨Nat.zero_le _, Nat.zero_le _⟩ (Nat.le_of_ble_eq_true rfl) dX2_reckonPlace_100 (n := 103) rfl (fun M3 e3 => ?_)
                  refine g_iinc5 C (inc_1 _) dX2_reckonPlace_103 (n := 106) rfl ?_
                  refine g_goto C dX2_reckonPlace_106 (t := 49) (by decide) ?_
                  exact ih_49 (w + 1) (yw + 1) M3 _ _ (by omega) (by rw [hyw, nI_1]) (by omega) (fun d hd u hu h => by
                    have r3 : M3 75 = upd (M2 75) (49 * i + (7 * v + w)) (nI (rwS S i v w)) := by rw [e3]; exact up2_row _ _ _ _
                    have hdd := dmy_le (spr S) d
                    rw [r3]
                    by_cases hh : d = v ∧ u = w
                    · rw [hh.1, hh.2, pk_us]
                    · rw [pk_un (by omega)]; exact hB2 d hd u hu (by omega)) (fun a ha => by rw [e3, up2_ne _ _ ha]; exact hF2 a ha) (fun p hp => by
                    rw [e3]
                    refine (show up2 M2 75 (49 * i + (7 * v + w)) _ 75 p = M2 75 p by simp [up2]; omega).trans ?_
                    exact hP2 p hp)
          exact L_49 (dmy (spr S) v + 2) 0 0 M1 _ _ (by omega) nI_0.symm (by omega) (fun d hd u hu h => hB d hd u hu (by omega)) hF hP
    exact L_30 8 0 0 M none none none none (by omega) nI_0.symm (by omega) (fun d _ u _ h => absurd h (Nat.not_lt_zero _)) (fun _ _ => rfl) (fun _ _ => rfl)
  refine g_iload1 C dX2_reckonPlace_0 (n := 1) rfl ?_
  refine g_aload0 C dX2_reckonPlace_1 (n := 2) rfl ?_
  refine kg_X2_39 C sh_64 rfl dX2_reckonPlace_2 (n := 5) rfl ?_
  refine g_icmp_ge C dX2_reckonPlace_5 (t := 26) (by decide) (n := 8) rfl (fun c_5 => ?_) (fun c_5 => ?_)
  · have w5 : ¬ i < spn S := fun h => c_5 ((qlt hx hMC.1 (by omega) (by omega)).mpr h)
    have hb : (0 : Int32) = bI false ∧ (false = true ↔ (i < spn S ∧ isMk (spg S i) = true)) := ⟨rfl, fun h => Bool.noConfusion h, fun h => by
      first
        | exact absurd h.1 w5
        | (have h8 := bI_0.mp c_19; rw [h8] at h; exact Bool.noConfusion h.2)⟩
    refine g_iconst C ic_0 dX2_reckonPlace_26 (n := 27) rfl ?_
    exact J_27 _ _ hb.1 hb.2
  · have w5 : i < spn S := (qlt hx hMC.1 (by omega) (by omega)).mp c_5
    refine g_aload0 C dX2_reckonPlace_8 (n := 9) rfl ?_
    refine kg_X2_23 C sh_64 rfl dX2_reckonPlace_9 (n := 12) rfl ?_
    refine g_iload1 C dX2_reckonPlace_12 (n := 13) rfl ?_
    refine kc_X2_69 C (ct_X4_at SH M 70 120 i _ row_70 hx (by omega)) sh_70 ⟨Nat.le_of_ble_eq_true rfl, Nat.le_of_ble_eq_true rfl⟩ ⟨Nat.zero_le _, Nat.zero_le _⟩ (Nat.le_of_ble_eq_true rfl) dX2_reckonPlace_13 (n := 16) rfl (fun r_13 M_13 h_13 => ?_)
    rw [h_13.2, h_13.1, show M (70 + 1) i = spg S i from hMC.2.1 i w5]
    refine kc_X2_73 C (ct_X6_isMark SH M (spg S i)) ⟨Nat.le_of_ble_eq_true rfl, Nat.le_of_ble_eq_true rfl⟩ ⟨Nat.zero_le _, Nat.zero_le _⟩ (Nat.le_of_ble_eq_true rfl) dX2_reckonPlace_16 (n := 19) rfl (fun r_16 M_16 h_16 => ?_)
    rw [h_16.1, h_16.2]
    refine g_if_eq C dX2_reckonPlace_19 (t := 26) (by decide) (n := 22) rfl (fun c_19 => ?_) (fun c_19 => ?_)
    · have _u := True.intro
      have hb : (0 : Int32) = bI false ∧ (false = true ↔ (i < spn S ∧ isMk (spg S i) = true)) := ⟨rfl, fun h => Bool.noConfusion h, fun h => by
        first
          | exact absurd h.1 w5
          | (have h8 := bI_0.mp c_19; rw [h8] at h; exact Bool.noConfusion h.2)⟩
      refine g_iconst C ic_0 dX2_reckonPlace_26 (n := 27) rfl ?_
      exact J_27 _ _ hb.1 hb.2
    · have _u := True.intro
      have hb : (1 : Int32) = bI true ∧ (true = true ↔ (i < spn S ∧ isMk (spg S i) = true)) := ⟨rfl, fun _ => ⟨w5, bI_n.mp c_19⟩, fun _ => rfl⟩
      refine g_iconst C ic_1 dX2_reckonPlace_22 (n := 23) rfl ?_
      refine g_goto C dX2_reckonPlace_23 (t := 27) (by decide) ?_
      exact J_27 _ _ hb.1 hb.2
set_option maxHeartbeats 4000000 in
set_option maxRecDepth 100000 in
theorem ct_X2_relax {l : Launch} {D : va_G} {cI cO : ClassId} {z tP : Nat} {aK aV : Nat → Nat} (M : Mem) (i a b fa fb w : Nat) (x y y2 : Int32) (hx : x = nI i) (hy : y = nI a) (hy2 : y2 = nI b) (ha : 49 * i + a < 5929) (hb : 49 * i + b < 5929) (hfa : M 75 (49 * i + a) = nI fa) (hfb : M 75 (49 * i + b) = nI fb) (h1 : fa < 2000000) (h2 : fb < 2000000) (hw : M 73 0 = nI w) (hw9 : w ≤ 9) : Cm l D cI cO z tP aK aV yX2_relax cX2_relax 5 none 2 43 [.ref (z + 64), .int x, .int y, .int y2] SH M (pV (fun M1 => (∀ c, c ≠ 75 → M1 c = M c) ∧ M1 75 = upd (M 75) (49 * i + a) (nI (min fa (w + fb))))) := by
  refine cm_intro (lv0 := [some (.ref (z + 64)), some (.int x), some (.int y), some (.int y2), none]) (by decide) rfl (Nat.le_of_ble_eq_true rfl) rfl (fun p e s m below meth c C => ?_)
  refine g_aload0 C dX2_relax_0 (n := 1) rfl ?_
  refine kg_X2_27 C sh_64 rfl dX2_relax_1 (n := 4) rfl ?_
  refine g_iconst C ic_0 dX2_relax_4 (n := 5) rfl ?_
  refine kc_X2_69 C (ct_X4_at SH M 72 3 0 _ row_72 nI_0.symm (by decide)) sh_72 ⟨Nat.le_of_ble_eq_true rfl, Nat.le_of_ble_eq_true rfl⟩ ⟨Nat.zero_le _, Nat.zero_le _⟩ (Nat.le_of_ble_eq_true rfl) dX2_relax_5 (n := 8) rfl (fun r_5 M_5 h_5 => ?_)
  rw [h_5.2, h_5.1, show M (72 + 1) 0 = nI w from hw]
  refine g_aload0 C dX2_relax_8 (n := 9) rfl ?_
  refine g_iload1 C dX2_relax_9 (n := 10) rfl ?_
  refine g_iload3 C dX2_relax_10 (n := 11) rfl ?_
  refine kc_X2_46 C (ct_X2_costAt M i b _ _ hx hy2 hb) sh_64 ⟨Nat.le_of_ble_eq_true rfl, Nat.le_of_ble_eq_true rfl⟩ ⟨Nat.zero_le _, Nat.zero_le _⟩ (Nat.le_of_ble_eq_true rfl) dX2_relax_11 (n := 14) rfl (fun r_11 M_11 h_11 => ?_)
  rw [h_11.2, h_11.1, hfb]
  refine g_iadd C dX2_relax_14 (n := 15) rfl ?_
  refine g_istore4 C dX2_relax_15 (n := 17) rfl ?_
  refine g_iload4 C dX2_relax_17 (n := 19) rfl ?_
  refine g_aload0 C dX2_relax_19 (n := 20) rfl ?_
  refine g_iload1 C dX2_relax_20 (n := 21) rfl ?_
  refine g_iload2 C dX2_relax_21 (n := 22) rfl ?_
  refine kc_X2_46 C (ct_X2_costAt M i a _ _ hx hy ha) sh_64 ⟨Nat.le_of_ble_eq_true rfl, Nat.le_of_ble_eq_true rfl⟩ ⟨Nat.zero_le _, Nat.zero_le _⟩ (Nat.le_of_ble_eq_true rfl) dX2_relax_22 (n := 25) rfl (fun r_22 M_22 h_22 => ?_)
  rw [h_22.2, h_22.1, hfa]
  refine g_icmp_ge C dX2_relax_25 (t := 43) (by decide) (n := 28) rfl (fun c_25 => ?_) (fun c_25 => ?_)
  · have w25 : ¬ w + fb < fa := fun h => c_25 ((qlt (nI_add w fb) (rfl : nI fa = _) (by omega) (by omega)).mpr h)
    refine r_V C dX2_relax_43 ?_
    first
      | (have h9 := e2
         exact ⟨fun c hc => by rw [h9, up2_ne _ _ hc], by rw [h9, nI_add, Nat.min_eq_right (by omega)]; exact up2_row _ _ _ _⟩)
      | exact ⟨fun _ _ => rfl, (upd_same _ _ _ (by rw [hfa, Nat.min_eq_left (by omega)])).symm⟩
  · have w25 : w + fb < fa := (qlt (nI_add w fb) (rfl : nI fa = _) (by omega) (by omega)).mp c_25
    refine g_aload0 C dX2_relax_28 (n := 29) rfl ?_
    refine kg_X2_30 C sh_64 rfl dX2_relax_29 (n := 32) rfl ?_
    refine g_iload1 C dX2_relax_32 (n := 33) rfl ?_
    refine g_bipush C bp_49 dX2_relax_33 (n := 35) rfl ?_
    refine g_imul C dX2_relax_35 (n := 36) rfl ?_
    refine g_iload2 C dX2_relax_36 (n := 37) rfl ?_
    refine g_iadd C dX2_relax_37 (n := 38) rfl ?_
    refine g_iload4 C dX2_relax_38 (n := 40) rfl ?_
    refine kc_X2_89 C (ct_X4_set SH M 74 5929 (49 * i + a) _ _ row_74 (e_add (by rw [hx, Nat.mul_comm]; exact pk_mul _ 49) hy) ha) sh_74 ⟨Nat.le_of_ble_eq_true rfl, Nat.le_of_ble_eq_true rfl⟩ ⟨Nat.zero_le _, Nat.zero_le _⟩ (Nat.le_of_ble_eq_true rfl) dX2_relax_40 (n := 43) rfl (fun M2 e2 => ?_)
    refine r_V C dX2_relax_43 ?_
    first
      | (have h9 := e2
         exact ⟨fun c hc => by rw [h9, up2_ne _ _ hc], by rw [h9, nI_add, Nat.min_eq_right (by omega)]; exact up2_row _ _ _ _⟩)
      | exact ⟨fun _ _ => rfl, (upd_same _ _ _ (by rw [hfa, Nat.min_eq_left (by omega)])).symm⟩
