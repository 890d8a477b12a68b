theorem gS_free {M : Mem} {g t ru d : Nat} : gS (offr (offr M g (7 * d) 0 (if d < 6 then opn t d else 0) (if d < 6 then nI (7 * d + 7) else -1)) g (7 * d) 1 (if 1 ≤ d then cls t d else 0) (if 1 ≤ d then nI (7 * d - 7) else -1)) g t ru d 0 := by
  unfold gS
  rw [if_pos rfl]
  exact ⟨gE_offr (gE_self _ _ _ _ _ _) (by omega), gE_self _ _ _ _ _ _⟩
theorem gS_due {M : Mem} {g t ru d u : Nat} (hu : 1 ≤ u) : gS (offr (offr M g (7 * d + u) 0 (opn t (dmy ru d - u)) (nI (7 * d + u - 1))) g (7 * d + u) 1 0 (-1)) g t ru d u := by
  unfold gS
  rw [if_neg (by omega)]
  exact ⟨gE_offr (gE_self _ _ _ _ _ _) (by omega), gE_self _ _ _ _ _ _⟩
theorem nxt_offer {M : Mem} {g t ru d u i : Nat} {c : Int32} (ht : t < 4) (hS : gS M g t ru d u) (hc : c ≠ 0) (hq : u = 0 → isLt c = false ∧ c ≠ 32 ∧ c ≠ 124) (hi : i < 2) (h : M (g + 2) (2 * (7 * d + u) + i) = c) : M (g + 4) (2 * (7 * d + u) + i) = stI (nxt t ru d u c) := by
  unfold gS at hS
  by_cases hu : u = 0
  · rw [if_pos hu] at hS
    subst hu
    obtain ⟨q1, q2, q3⟩ := hq rfl
    have hn : ∀ a b : Option (Nat × Nat), (if isLt c = true ∨ c = 32 then a else b) = b := fun a b => if_neg (by simp [q1, q2])
    unfold nxt
    rw [if_pos rfl, hn, if_neg q3]
    obtain ⟨⟨a1, a2⟩, b1, b2⟩ := hS
    rcases (show i = 0 ∨ i = 1 by omega) with rfl | rfl
    · by_cases h6 : d < 6
      · rw [if_pos h6] at a1 a2
        have e : c = opn t d := h.symm.trans a1
        rw [if_pos ⟨h6, e⟩]
        exact a2
      · rw [if_neg h6] at a1
        exact absurd (h.symm.trans a1) hc
    · by_cases h1 : 1 ≤ d
      · rw [if_pos h1] at b1 b2
        have e : c = cls t d := h.symm.trans b1
        rw [if_neg (fun q => opn_ne_cls t ht d (q.2.symm.trans e)), if_pos ⟨h1, e⟩]
        refine b2.trans ?_
        show nI (7 * d - 7) = nI (7 * (d - 1) + 0)
        congr 1; omega
      · rw [if_neg h1] at b1
        exact absurd (h.symm.trans b1) hc
  · rw [if_neg hu] at hS
    obtain ⟨⟨a1, a2⟩, b1, b2⟩ := hS
    unfold nxt
    rw [if_neg hu]
    rcases (show i = 0 ∨ i = 1 by omega) with rfl | rfl
    · have e : c = opn t (dmy ru d - u) := h.symm.trans a1
      rw [if_pos e]
      refine a2.trans ?_
      show nI (7 * d + u - 1) = nI (7 * d + (u - 1))
      congr 1; omega
    · exact absurd (h.symm.trans b1) hc
theorem nxt_none {M : Mem} {g t ru d u : Nat} {c : Int32} (hS : gS M g t ru d u) (hq : u = 0 → isLt c = false ∧ c ≠ 32 ∧ c ≠ 124) (h0 : M (g + 2) (2 * (7 * d + u) + 0) ≠ c) (h1 : M (g + 2) (2 * (7 * d + u) + 1) ≠ c) : nxt t ru d u c = none := by
  unfold gS at hS
  by_cases hu : u = 0
  · rw [if_pos hu] at hS
    subst hu
    obtain ⟨q1, q2, q3⟩ := hq rfl
    have hn : ∀ a b : Option (Nat × Nat), (if isLt c = true ∨ c = 32 then a else b) = b := fun a b => if_neg (by simp [q1, q2])
    unfold nxt
    rw [if_pos rfl, hn, if_neg q3]
    obtain ⟨⟨a1, a2⟩, b1, b2⟩ := hS
    rw [if_neg, if_neg]
    · rintro ⟨hd, e⟩
      rw [if_pos hd] at b1
      exact h1 (b1.trans e.symm)
    · rintro ⟨hd, e⟩
      rw [if_pos hd] at a1
      exact h0 (a1.trans e.symm)
  · rw [if_neg hu] at hS
    obtain ⟨⟨a1, a2⟩, b1, b2⟩ := hS
    unfold nxt
    rw [if_neg hu, if_neg]
    intro e
    exact h0 (a1.trans e.symm)
theorem bp_32 : (Int8.ofInt 32).toInt32 = 32 := by decide
theorem bp_124 : (Int8.ofInt 124).toInt32 = 124 := by decide
set_option maxHeartbeats 4000000 in
set_option maxRecDepth 100000 in
theorem ct_X0_speakAs {l : Launch} {D : va_G} {cI cO : ClassId} {z tP : Nat} {aK aV : Nat → Nat} (sh : Shp) (M : Mem) (g : Nat) (t ru : Nat) (x y : Int32) (hg : isGrammar sh g) (hx : x = nI t) (hy : y = nI ru) (ht : t < 4) (hr : ru < 3) (hI : gI M g) : Cm l D cI cO z tP aK aV yX0_speakAs cX0_speakAs 7 none 3 68 [.ref (z + g), .int x, .int y] sh M (pV (fun M1 => GOK M1 g t ru ∧ M1 g 0 = nI t ∧ M1 g 1 = nI ru ∧ ∀ a, a ≠ g → a ≠ g + 2 → a ≠ g + 4 → M1 a = M a)) := by
  refine cm_intro (lv0 := [some (.ref (z + g)), some (.int x), some (.int y), none, none, none, none]) (by decide) rfl (Nat.le_of_ble_eq_true rfl) rfl (fun p e s m below meth c C => ?_)
  have J_17 : G p l e ({ frames := 3, cells := 0, slots := 0, locals := 68 }) s m ([.ref (z + g), .int x, .int y] : List Value).toArray below meth c D cI cO z 7 (QM below D cI cO z ([.ref (z + g), .int x, .int y] : List Value).toArray s sh (pV (fun M1 => GOK M1 g t ru ∧ M1 g 0 = nI t ∧ M1 g 1 = nI ru ∧ ∀ a, a ≠ g → a ≠ g + 2 → a ≠ g + 4 → M1 a = M a))) 0 0 sh M 17 [some (.ref (z + g)), some (.int x), some (.int y), none, none, none, none] [] := by
    refine g_aload0 C dX0_speakAs_17 (n := 18) rfl ?_
    refine g_iload1 C dX0_speakAs_18 (n := 19) rfl ?_
    refine kp_X0_23 C hg.1 rfl dX0_speakAs_19 (n := 22) rfl (fun M_19 e_19 => ?_)
    refine g_aload0 C dX0_speakAs_22 (n := 23) rfl ?_
    refine g_iload2 C dX0_speakAs_23 (n := 24) rfl ?_
    refine kp_X0_27 C hg.1 rfl dX0_speakAs_24 (n := 27) rfl (fun M_24 e_24 => ?_)
    refine g_iconst C ic_0 dX0_speakAs_27 (n := 28) rfl ?_
    refine g_istore3 C dX0_speakAs_28 (n := 29) rfl ?_
    have L_29 : ∀ (fu : Nat) (d : Nat) (v : Int32) (o4 o5 o6 : Option Value) (M1 : Mem), 7 - d < fu → (v = nI d) → (d ≤ 7) → (∀ d9, d9 < d → ∀ u, u ≤ dmy ru d9 → gS M1 g t ru d9 u) → (M1 g 0 = nI t ∧ M1 g 1 = nI ru ∧ ∀ a, a ≠ g → a ≠ g + 2 → a ≠ g + 4 → M1 a = M a) → G p l e ({ frames := 3, cells := 0, slots := 0, locals := 68 }) s m ([.ref (z + g), .int x, .int y] : List Value).toArray below meth c D cI cO z 7 (QM below D cI cO z ([.ref (z + g), .int x, .int y] : List Value).toArray s sh (pV (fun M1 => GOK M1 g t ru ∧ M1 g 0 = nI t ∧ M1 g 1 = nI ru ∧ ∀ a, a ≠ g → a ≠ g + 2 → a ≠ g + 4 → M1 a = M a))) 0 0 sh M1 29 [some (.ref (z + g)), some (.int x), some (.int y), some (.int v), o4, o5, o6] [] := by
      intro fu_29
      induction fu_29 with
      | zero => intro d v o4 o5 o6 M1 hfu; exact absurd hfu (Nat.not_lt_zero _)
      | succ fu_29 ih_29 =>
        intro d v o4 o5 o6 M1 hfu_29 hv hd hB hK
        refine g_iload3 C dX0_speakAs_29 (n := 30) rfl ?_
        refine g_bipush C bp_6 dX0_speakAs_30 (n := 32) rfl ?_
        refine g_icmp_gt C dX0_speakAs_32 (t := 109) (by decide) (n := 35) rfl (fun c_32 => ?_) (fun c_32 => ?_)
        · have h7 : d = 7 := by
            have := (qlt (show (6 : Int32) = nI 6 from rfl) hv (by decide) (by omega)).mp c_32
            omega
          refine r_V C dX0_speakAs_109 ?_
          exact ⟨fun d9 h u hu => hB d9 (by omega) u hu, hK.1, hK.2.1, hK.2.2⟩
        · have h7 : d ≤ 6 := by
            have : ¬ 6 < d := fun h => c_32 ((qlt (show (6 : Int32) = nI 6 from rfl) hv (by decide) (by omega)).mpr h)
            omega
          have hdm := dmy_le ru d
          refine g_aload0 C dX0_speakAs_35 (n := 36) rfl ?_
          refine g_iload3 C dX0_speakAs_36 (n := 37) rfl ?_
          refine kc_X0_30 C (ct_X0_learnFreeState sh M1 g t d _ hg hK.1 ht hv h7) hg.1 ⟨Nat.le_of_ble_eq_true rfl, Nat.le_of_ble_eq_true rfl⟩ ⟨Nat.zero_le _, Nat.zero_le _⟩ (Nat.le_of_ble_eq_true rfl) dX0_speakAs_37 (n := 40) rfl (fun Mf hMf => ?_)
          have f0 : Mf g = M1 g := by rw [hMf, offr_ne (by omega) (by omega), offr_ne (by omega) (by omega)]
          have hKf : Mf g 0 = nI t ∧ Mf g 1 = nI ru ∧ ∀ a, a ≠ g → a ≠ g + 2 → a ≠ g + 4 → Mf a = M a := ⟨by rw [f0]; exact hK.1, by rw [f0]; exact hK.2.1, fun a h1 h2 h3 => by rw [hMf, offr_ne h2 h3, offr_ne h2 h3]; exact hK.2.2 a h1 h2 h3⟩
          have hBf : ∀ d9, d9 < d → ∀ u, u ≤ dmy ru d9 → gS Mf g t ru d9 u := fun d9 h u hu => by
            have := dmy_le ru d9
            rw [hMf]; exact gS_offr (gS_offr (hB d9 h u hu) (by omega) (by omega)) (by omega) (by omega)
          have hFf : gS Mf g t ru d 0 := by rw [hMf]; exact gS_free
          refine g_aload0 C dX0_speakAs_40 (n := 41) rfl ?_
          refine g_iload3 C dX0_speakAs_41 (n := 42) rfl ?_
          refine kc_X0_33 C (ct_X0_dueBehindBreak sh Mf g ru d _ hg hKf.2.1 hr hv (by omega)) hg.1 ⟨Nat.le_of_ble_eq_true rfl, Nat.le_of_ble_eq_true rfl⟩ ⟨Nat.zero_le _, Nat.zero_le _⟩ (Nat.le_of_ble_eq_true rfl) dX0_speakAs_42 (n := 45) rfl (fun r_42 M_42 h_42 => ?_)
          rw [h_42.1, h_42.2]
          refine g_istore4 C dX0_speakAs_45 (n := 47) rfl ?_
          refine g_iconst C ic_1 dX0_speakAs_47 (n := 48) rfl ?_
          refine g_istore5 C dX0_speakAs_48 (n := 50) rfl ?_
          have L_50 : ∀ (fu : Nat) (u : Nat) (w : Int32) (o6 : Option Value) (M2 : Mem), dmy ru d + 1 - u < fu → (w = nI u) → (1 ≤ u) → (u ≤ dmy ru d + 1) → (∀ d9, d9 < d → ∀ u, u ≤ dmy ru d9 → gS M2 g t ru d9 u) → (∀ u9, u9 < u → gS M2 g t ru d u9) → (M2 g 0 = nI t ∧ M2 g 1 = nI ru ∧ ∀ a, a ≠ g → a ≠ g + 2 → a ≠ g + 4 → M2 a = M a) → G p l e ({ frames := 3, cells := 0, slots := 0, locals := 68 }) s m ([.ref (z + g), .int x, .int y] : List Value).toArray below meth c D cI cO z 7 (QM below D cI cO z ([.ref (z + g), .int x, .int y] : List Value).toArray s sh (pV (fun M1 => GOK M1 g t ru ∧ M1 g 0 = nI t ∧ M1 g 1 = nI ru ∧ ∀ a, a ≠ g → a ≠ g + 2 → a ≠ g + 4 → M1 a = M a))) 0 0 sh M2 50 [some (.ref (z + g)), some (.int x), some (.int y), some (.int v), some (.int (nI (dmy ru d))), some (.int w), o6] [] := by
            intro fu_50
            induction fu_50 with
            | zero => intro u w o6 M2 hfu; exact absurd hfu (Nat.not_lt_zero _)
            | succ fu_50 ih_50 =>
              intro u w o6 M2 hfu_50 hw hu1 hud hB2 hC2 hK2
              refine g_iload5 C dX0_speakAs_50 (n := 52) rfl ?_
              refine g_iload4 C dX0_speakAs_52 (n := 54) rfl ?_
              refine g_icmp_gt C dX0_speakAs_54 (t := 103) (by decide) (n := 57) rfl (fun c_54 => ?_) (fun c_54 => ?_)
              · have hue : u = dmy ru d + 1 := by
                  have := (qlt rfl hw (by omega) (by omega)).mp c_54
                  omega
                refine g_iinc3 C (inc_1 _) dX0_speakAs_103 (n := 106) rfl ?_
                refine g_goto C dX0_speakAs_106 (t := 29) (by decide) ?_
                exact ih_29 (d + 1) (v + 1) _ _ _ M2 (by omega) (by rw [hv, nI_1]) (by omega) (fun d9 h u9 hu9 => by
  by_cases h9 : d9 = d
  · subst h9; exact hC2 u9 (by omega)
  · exact hB2 d9 (by omega) u9 hu9) hK2
              · have hue : u ≤ dmy ru d := by
                  have : ¬ dmy ru d < u := fun h => c_54 ((qlt rfl hw (by omega) (by omega)).mpr h)
                  omega
                refine g_iload3 C dX0_speakAs_57 (n := 58) rfl ?_
                refine g_iload5 C dX0_speakAs_58 (n := 60) rfl ?_
                refine kc_X0_37 C (ct_X0_stateOf sh M2 d u _ _ hv hw) ⟨Nat.le_of_ble_eq_true rfl, Nat.le_of_ble_eq_true rfl⟩ ⟨Nat.zero_le _, Nat.zero_le _⟩ (Nat.le_of_ble_eq_true rfl) dX0_speakAs_60 (n := 63) rfl (fun r_60 M_60 h_60 => ?_)
                rw [h_60.1, h_60.2]
                refine g_istore6 C dX0_speakAs_63 (n := 65) rfl ?_
                refine g_aload0 C dX0_speakAs_65 (n := 66) rfl ?_
                refine g_iload6 C dX0_speakAs_66 (n := 68) rfl ?_
                refine g_iconst C ic_0 dX0_speakAs_68 (n := 69) rfl ?_
                refine g_aload0 C dX0_speakAs_69 (n := 70) rfl ?_
                refine kg_X0_23 C hg.1 rfl dX0_speakAs_70 (n := 73) rfl ?_
                refine g_iload4 C dX0_speakAs_73 (n := 75) rfl ?_
                refine g_iload5 C dX0_speakAs_75 (n := 77) rfl ?_
                refine g_isub C dX0_speakAs_77 (n := 78) rfl ?_
                refine kc_X0_41 C (ct_X6_openerOf sh M2 t (dmy ru d - u) _ _ hK2.1 (e_sub rfl hw hue) ht (by omega)) ⟨Nat.le_of_ble_eq_true rfl, Nat.le_of_ble_eq_true rfl⟩ ⟨Nat.zero_le _, Nat.zero_le _⟩ (Nat.le_of_ble_eq_true rfl) dX0_speakAs_78 (n := 81) rfl (fun r_78 M_78 h_78 => ?_)
                rw [h_78.1, h_78.2]
                refine g_iload6 C dX0_speakAs_81 (n := 83) rfl ?_
                refine g_iconst C ic_1 dX0_speakAs_83 (n := 84) rfl ?_
                refine g_isub C dX0_speakAs_84 (n := 85) rfl ?_
                refine kc_X0_44 C (ct_X0_offer sh M2 g (7 * d + u) 0 _ _ _ _ hg rfl nI_0.symm (by omega)) hg.1 ⟨Nat.le_of_ble_eq_true rfl, Nat.le_of_ble_eq_true rfl⟩ ⟨Nat.zero_le _, Nat.zero_le _⟩ (Nat.le_of_ble_eq_true rfl) dX0_speakAs_85 (n := 88) rfl (fun M3 hM3 => ?_)
                refine g_aload0 C dX0_speakAs_88 (n := 89) rfl ?_
                refine g_iload6 C dX0_speakAs_89 (n := 91) rfl ?_
                refine g_iconst C ic_1 dX0_speakAs_91 (n := 92) rfl ?_
                refine g_iconst C ic_0 dX0_speakAs_92 (n := 93) rfl ?_
                refine g_iconst C ic_m1 dX0_speakAs_93 (n := 94) rfl ?_
                refine kc_X0_44 C (ct_X0_offer sh M3 g (7 * d + u) 1 _ _ _ _ hg rfl (show (1 : Int32) = nI 1 from rfl) (by omega)) hg.1 ⟨Nat.le_of_ble_eq_true rfl, Nat.le_of_ble_eq_true rfl⟩ ⟨Nat.zero_le _, Nat.zero_le _⟩ (Nat.le_of_ble_eq_true rfl) dX0_speakAs_94 (n := 97) rfl (fun M4 hM4 => ?_)
                have eM : M4 = offr (offr M2 g (7 * d + u) 0 (opn t (dmy ru d - u)) (nI (7 * d + u - 1))) g (7 * d + u) 1 0 (-1) := by
                  rw [hM4, hM3, e_sub (rfl : nI (7 * d + u) = _) (show (1 : Int32) = nI 1 from rfl) (by omega)]
                refine g_iinc5 C (inc_1 _) dX0_speakAs_97 (n := 100) rfl ?_
                refine g_goto C dX0_speakAs_100 (t := 50) (by decide) ?_
                exact ih_50 (u + 1) (w + 1) _ M4 (by omega) (by rw [hw, nI_1]) (by omega) (by omega) (fun d9 h u9 hu9 => by
  have := dmy_le ru d9
  rw [eM]; exact gS_offr (gS_offr (hB2 d9 h u9 hu9) (by omega) (by omega)) (by omega) (by omega)) (fun u9 h9 => by
  by_cases h : u9 = u
  · rw [h, eM]; exact gS_due hu1
  · rw [eM]; exact gS_offr (gS_offr (hC2 u9 (by omega)) (by omega) (by omega)) (by omega) (by omega)) ⟨by rw [eM, offr_ne (by omega) (by omega), offr_ne (by omega) (by omega)]; exact hK2.1, by rw [eM, offr_ne (by omega) (by omega), offr_ne (by omega) (by omega)]; exact hK2.2.1, fun a h1 h2 h3 => by rw [eM, offr_ne h2 h3, offr_ne h2 h3]; exact hK2.2.2 a h1 h2 h3⟩
          exact L_50 (dmy ru d + 2) 1 1 o6 Mf (by omega) rfl (by omega) (by omega) hBf (fun u9 h => by rw [show u9 = 0 by omega]; exact hFf) hKf
    exact L_29 8 0 0 none none none M_24 (by omega) nI_0.symm (by omega) (fun d9 h => absurd h (Nat.not_lt_zero _)) ⟨by rw [e_24, e_19]; simp [up2, hx], by rw [e_24, e_19]; simp [up2, hy], fun a h1 h2 h3 => by rw [e_24, up2_ne _ _ h1, e_19, up2_ne _ _ h1]⟩
  refine g_aload0 C dX0_speakAs_0 (n := 1) rfl ?_
  refine kg_X0_23 C hg.1 rfl dX0_speakAs_1 (n := 4) rfl ?_
  refine g_iload1 C dX0_speakAs_4 (n := 5) rfl ?_
  refine g_icmp_ne C dX0_speakAs_5 (t := 17) (by decide) (n := 8) rfl (fun c_5 => ?_) (fun c_5 => ?_)
  · have _u := True.intro
    exact J_17
  · have _u := True.intro
    refine g_aload0 C dX0_speakAs_8 (n := 9) rfl ?_
    refine kg_X0_27 C hg.1 rfl dX0_speakAs_9 (n := 12) rfl ?_
    refine g_iload2 C dX0_speakAs_12 (n := 13) rfl ?_
    refine g_icmp_ne C dX0_speakAs_13 (t := 17) (by decide) (n := 16) rfl (fun c_13 => ?_) (fun c_13 => ?_)
    · have _u := True.intro
      exact J_17
    · have _u := True.intro
      refine r_V C dX0_speakAs_16 ?_
      have e0 : M g 0 = nI t := c_5.trans hx
      have e1 : M g 1 = nI ru := c_13.trans hy
      refine ⟨?_, e0, e1, fun a _ _ _ => rfl⟩
      rcases hI with h | ⟨t2, r2, h1, h2, h3, h4, h5⟩
      · exact absurd (e0.symm.trans h) (nI_neg (by omega) (by decide))
      · have w1 : t2 = t := (nI_eq (by omega) (by omega)).mp (h3.symm.trans e0)
        have w2 : r2 = ru := (nI_eq (by omega) (by omega)).mp (h4.symm.trans e1)
        rw [w1, w2] at h5
        exact h5
set_option maxHeartbeats 4000000 in
set_option maxRecDepth 100000 in
theorem ct_X0_step {l : Launch} {D : va_G} {cI cO : ClassId} {z tP : Nat} {aK aV : Nat → Nat} (sh : Shp) (M : Mem) (g : Nat) (t ru d u : Nat) (x c0 : Int32) (hg : isGrammar sh g) (hG : GOK M g t ru) (hru : M g 1 = nI ru) (ht : t < 4) (hr3 : ru < 3) (hx : x = nI (7 * d + u)) (hd : d ≤ 6) (hu : u ≤ dmy ru d) (hc : c0 ≠ 0) : Cm l D cI cO z tP aK aV yX0_step cX0_step 4 (some .int) 2 43 [.ref (z + g), .int x, .int c0] sh M (pI (fun r M1 => r = stI (nxt t ru d u c0) ∧ M1 = M)) := by
  refine cm_intro (lv0 := [some (.ref (z + g)), some (.int x), some (.int c0), none]) (by decide) rfl (Nat.le_of_ble_eq_true rfl) rfl (fun p e s m below meth c C => ?_)
  have hdm := dmy_le ru d
  have hu7 : u < 7 := by omega
  have hS := hG d hd u hu
  have J_39 : (u = 0 → isLt c0 = false ∧ c0 ≠ 32 ∧ c0 ≠ 124) → G p l e ({ frames := 2, cells := 0, slots := 0, locals := 43 }) s m ([.ref (z + g), .int x, .int c0] : List Value).toArray below meth c D cI cO z 4 (QM below D cI cO z ([.ref (z + g), .int x, .int c0] : List Value).toArray s sh (pI (fun r M1 => r = stI (nxt t ru d u c0) ∧ M1 = M))) 0 0 sh M 39 [some (.ref (z + g)), some (.int x), some (.int c0), none] [] := by
    intro hq
    refine g_iconst C ic_0 dX0_step_39 (n := 40) rfl ?_
    refine g_istore3 C dX0_step_40 (n := 41) rfl ?_
    have L_41 : ∀ (fu : Nat) (i : Nat) (v : Int32), 2 - i < fu → (v = nI i) → (i ≤ 2) → (∀ j, j < i → M (g + 2) (2 * (7 * d + u) + j) ≠ c0) → G p l e ({ frames := 2, cells := 0, slots := 0, locals := 43 }) s m ([.ref (z + g), .int x, .int c0] : List Value).toArray below meth c D cI cO z 4 (QM below D cI cO z ([.ref (z + g), .int x, .int c0] : List Value).toArray s sh (pI (fun r M1 => r = stI (nxt t ru d u c0) ∧ M1 = M))) 0 0 sh M 41 [some (.ref (z + g)), some (.int x), some (.int c0), some (.int v)] [] := by
      intro fu_41
      induction fu_41 with
      | zero => intro i v hfu; exact absurd hfu (Nat.not_lt_zero _)
      | succ fu_41 ih_41 =>
        intro i v hfu_41 hv hi2 hB
        refine g_iload3 C dX0_step_41 (n := 42) rfl ?_
        refine g_iconst C ic_2 dX0_step_42 (n := 43) rfl ?_
        refine g_icmp_ge C dX0_step_43 (t := 69) (by decide) (n := 46) rfl (fun c_43 => ?_) (fun c_43 => ?_)
        · have h2 : ¬ i < 2 := fun h => c_43 ((qlt hv (show (2 : Int32) = nI 2 from rfl) (by omega) (by decide)).mpr h)
          refine g_iconst C ic_m1 dX0_step_69 (n := 70) rfl ?_
          refine r_I C dX0_step_70 ?_
          exact ⟨by rw [nxt_none hS hq (hB 0 (by omega)) (hB 1 (by omega))]; rfl, rfl⟩
        · have h2 : i < 2 := (qlt hv (show (2 : Int32) = nI 2 from rfl) (by omega) (by decide)).mp c_43
          refine g_aload0 C dX0_step_46 (n := 47) rfl ?_
          refine g_iload1 C dX0_step_47 (n := 48) rfl ?_
          refine g_iload3 C dX0_step_48 (n := 49) rfl ?_
          refine kc_X0_73 C (ct_X0_offered sh M g (7 * d + u) i _ _ hg hx hv (by omega)) hg.1 ⟨Nat.le_of_ble_eq_true rfl, Nat.le_of_ble_eq_true rfl⟩ ⟨Nat.zero_le _, Nat.zero_le _⟩ (Nat.le_of_ble_eq_true rfl) dX0_step_49 (n := 52) rfl (fun r_49 M_49 h_49 => ?_)
          rw [h_49.1, h_49.2]
          refine g_iload2 C dX0_step_52 (n := 53) rfl ?_
          refine g_icmp_ne C dX0_step_53 (t := 63) (by decide) (n := 56) rfl (fun c_53 => ?_) (fun c_53 => ?_)
          · have _u := True.intro
            refine g_iinc3 C (inc_1 _) dX0_step_63 (n := 66) rfl ?_
            refine g_goto C dX0_step_66 (t := 41) (by decide) ?_
            exact ih_41 (i + 1) (v + 1) (by omega) (by rw [hv, nI_1]) (by omega) (fun j hj => by
  by_cases h : j = i
  · rw [h]; exact c_53
  · exact hB j (by omega))
          · have _u := True.intro
            refine g_aload0 C dX0_step_56 (n := 57) rfl ?_
            refine g_iload1 C dX0_step_57 (n := 58) rfl ?_
            refine g_iload3 C dX0_step_58 (n := 59) rfl ?_
            refine kc_X0_76 C (ct_X0_behindOffer sh M g (7 * d + u) i _ _ hg hx hv (by omega)) hg.1 ⟨Nat.le_of_ble_eq_true rfl, Nat.le_of_ble_eq_true rfl⟩ ⟨Nat.zero_le _, Nat.zero_le _⟩ (Nat.le_of_ble_eq_true rfl) dX0_step_59 (n := 62) rfl (fun r_59 M_59 h_59 => ?_)
            rw [h_59.1, h_59.2]
            refine r_I C dX0_step_62 ?_
            exact ⟨nxt_offer ht hS hc hq h2 c_53, rfl⟩
    exact L_41 3 0 0 (by omega) nI_0.symm (by omega) (fun j h => absurd h (Nat.not_lt_zero _))
  refine g_iload1 C dX0_step_0 (n := 1) rfl ?_
  refine kc_X0_63 C (ct_X0_leftDue sh M d u _ hx hd hu7) ⟨Nat.le_of_ble_eq_true rfl, Nat.le_of_ble_eq_true rfl⟩ ⟨Nat.zero_le _, Nat.zero_le _⟩ (Nat.le_of_ble_eq_true rfl) dX0_step_1 (n := 4) rfl (fun r_1 M_1 h_1 => ?_)
  rw [h_1.1, h_1.2]
  refine g_if_ne C dX0_step_4 (t := 39) (by decide) (n := 7) rfl (fun c_4 => ?_) (fun c_4 => ?_)
  · have hu0 : ¬ u = 0 := fun h => c_4 ((qeq rfl nI_0.symm (by omega) (by decide)).mpr h)
    first | exact J_39 (fun h => absurd h hu0) | exact J_39 (fun _ => ⟨hl0, c_17, c_25⟩)
  · have hu0 : u = 0 := (qeq rfl nI_0.symm (by omega) (by decide)).mp c_4
    refine g_iload2 C dX0_step_7 (n := 8) rfl ?_
    refine kc_X0_69 C (ct_X6_isLetter sh M c0) ⟨Nat.le_of_ble_eq_true rfl, Nat.le_of_ble_eq_true rfl⟩ ⟨Nat.zero_le _, Nat.zero_le _⟩ (Nat.le_of_ble_eq_true rfl) dX0_step_8 (n := 11) rfl (fun r_8 M_8 h_8 => ?_)
    rw [h_8.1, h_8.2]
    refine g_if_ne C dX0_step_11 (t := 20) (by decide) (n := 14) rfl (fun c_11 => ?_) (fun c_11 => ?_)
    · have hl1 : isLt c0 = true := bI_n.mp c_11
      refine g_iload1 C dX0_step_20 (n := 21) rfl ?_
      refine r_I C dX0_step_21 ?_
      refine ⟨?_, rfl⟩
      have : nxt t ru d u c0 = some (d, 0) := by
        unfold nxt; rw [if_pos hu0, if_pos]
        first | exact Or.inl hl1 | exact Or.inr c_17
      rw [this, hx, hu0]; rfl
    · have hl0 : isLt c0 = false := bI_0.mp c_11
      refine g_iload2 C dX0_step_14 (n := 15) rfl ?_
      refine g_bipush C bp_32 dX0_step_15 (n := 17) rfl ?_
      refine g_icmp_ne C dX0_step_17 (t := 22) (by decide) (n := 20) rfl (fun c_17 => ?_) (fun c_17 => ?_)
      · have _u := True.intro
        refine g_iload2 C dX0_step_22 (n := 23) rfl ?_
        refine g_bipush C bp_124 dX0_step_23 (n := 25) rfl ?_
        refine g_icmp_ne C dX0_step_25 (t := 39) (by decide) (n := 28) rfl (fun c_25 => ?_) (fun c_25 => ?_)
        · have _u := True.intro
          first | exact J_39 (fun h => absurd h hu0) | exact J_39 (fun _ => ⟨hl0, c_17, c_25⟩)
        · have _u := True.intro
          refine g_iload1 C dX0_step_28 (n := 29) rfl ?_
          refine g_aload0 C dX0_step_29 (n := 30) rfl ?_
          refine g_iload1 C dX0_step_30 (n := 31) rfl ?_
          refine kc_X0_60 C (ct_X0_depthOf sh M d u _ hx hd hu7) ⟨Nat.le_of_ble_eq_true rfl, Nat.le_of_ble_eq_true rfl⟩ ⟨Nat.zero_le _, Nat.zero_le _⟩ (Nat.le_of_ble_eq_true rfl) dX0_step_31 (n := 34) rfl (fun r_31 M_31 h_31 => ?_)
          rw [h_31.1, h_31.2]
          refine kc_X0_33 C (ct_X0_dueBehindBreak sh M g ru d _ hg hru hr3 rfl (by omega)) hg.1 ⟨Nat.le_of_ble_eq_true rfl, Nat.le_of_ble_eq_true rfl⟩ ⟨Nat.zero_le _, Nat.zero_le _⟩ (Nat.le_of_ble_eq_true rfl) dX0_step_34 (n := 37) rfl (fun r_34 M_34 h_34 => ?_)
          rw [h_34.1, h_34.2]
          refine g_iadd C dX0_step_37 (n := 38) rfl ?_
          refine r_I C dX0_step_38 ?_
          refine ⟨?_, rfl⟩
          have : nxt t ru d u c0 = some (d, dmy ru d) := by
            unfold nxt; rw [if_pos hu0, if_neg, if_pos c_25]
            rintro (h | h)
            · rw [hl0] at h; cases h
            · exact c_17 h
          rw [this]
          exact e_add (by rw [hx, hu0]; rfl) rfl
      · have _u := True.intro
        refine g_iload1 C dX0_step_20 (n := 21) rfl ?_
        refine r_I C dX0_step_21 ?_
        refine ⟨?_, rfl⟩
        have : nxt t ru d u c0 = some (d, 0) := by
          unfold nxt; rw [if_pos hu0, if_pos]
          first | exact Or.inl hl1 | exact Or.inr c_17
        rw [this, hx, hu0]; rfl
set_option maxHeartbeats 4000000 in
set_option maxRecDepth 100000 in
theorem ct_X0_owns {l : Launch} {D : va_G} {cI cO : ClassId} {z tP : Nat} {aK aV : Nat → Nat} (sh : Shp) (M : Mem) (g : Nat) (t : Nat) (c0 : Int32) (hg : isGrammar sh g) (ht0 : M g 0 = nI t) (ht : t < 4) : Cm l D cI cO z tP aK aV yX0_owns cX0_owns 3 (some .boolean) 1 22 [.ref (z + g), .int c0] sh M (pI (fun r M1 => r = bI (ownS t c0) ∧ M1 = M)) := by
  refine cm_intro (lv0 := [some (.ref (z + g)), some (.int c0), none]) (by decide) rfl (Nat.le_of_ble_eq_true rfl) rfl (fun p e s m below meth c C => ?_)
  refine g_iconst C ic_0 dX0_owns_0 (n := 1) rfl ?_
  refine g_istore2 C dX0_owns_1 (n := 2) rfl ?_
  have L_2 : ∀ (fu : Nat) (i : Nat) (v : Int32), 4 - i < fu → (v = nI i) → (i ≤ 4) → (∀ j, j < i → pq t j ≠ c0) → G p l e ({ frames := 1, cells := 0, slots := 0, locals := 22 }) s m ([.ref (z + g), .int c0] : List Value).toArray below meth c D cI cO z 3 (QM below D cI cO z ([.ref (z + g), .int c0] : List Value).toArray s sh (pI (fun r M1 => r = bI (ownS t c0) ∧ M1 = M))) 0 0 sh M 2 [some (.ref (z + g)), some (.int c0), some (.int v)] [] := by
    intro fu_2
    induction fu_2 with
    | zero => intro i v hfu; exact absurd hfu (Nat.not_lt_zero _)
    | succ fu_2 ih_2 =>
      intro i v hfu_2 hv hi4 hB
      refine g_iload2 C dX0_owns_2 (n := 3) rfl ?_
      refine g_iconst C ic_4 dX0_owns_3 (n := 4) rfl ?_
      refine g_icmp_ge C dX0_owns_4 (t := 27) (by decide) (n := 7) rfl (fun c_4 => ?_) (fun c_4 => ?_)
      · have h2 : ¬ i < 4 := fun h => c_4 ((qlt hv (show (4 : Int32) = nI 4 from rfl) (by omega) (by decide)).mpr h)
        refine g_iconst C ic_0 dX0_owns_27 (n := 28) rfl ?_
        refine r_Z C dX0_owns_28 rfl ?_
        refine ⟨?_, rfl⟩
        have : ownS t c0 = false := by
          unfold ownS
          simp [hB 0 (by omega), hB 1 (by omega), hB 2 (by omega), hB 3 (by omega)]
        rw [this]; rfl
      · have h2 : i < 4 := (qlt hv (show (4 : Int32) = nI 4 from rfl) (by omega) (by decide)).mp c_4
        refine g_aload0 C dX0_owns_7 (n := 8) rfl ?_
        refine kg_X0_23 C hg.1 rfl dX0_owns_8 (n := 11) rfl ?_
        refine g_iload2 C dX0_owns_11 (n := 12) rfl ?_
        refine kc_X0_79 C (ct_X6_pairSign sh M t i _ _ ht0 hv ht h2) ⟨Nat.le_of_ble_eq_true rfl, Nat.le_of_ble_eq_true rfl⟩ ⟨Nat.zero_le _, Nat.zero_le _⟩ (Nat.le_of_ble_eq_true rfl) dX0_owns_12 (n := 15) rfl (fun r_12 M_12 h_12 => ?_)
        rw [h_12.1, h_12.2]
        refine g_iload1 C dX0_owns_15 (n := 16) rfl ?_
        refine g_icmp_ne C dX0_owns_16 (t := 21) (by decide) (n := 19) rfl (fun c_16 => ?_) (fun c_16 => ?_)
        · have _u := True.intro
          refine g_iinc2 C (inc_1 _) dX0_owns_21 (n := 24) rfl ?_
          refine g_goto C dX0_owns_24 (t := 2) (by decide) ?_
          exact ih_2 (i + 1) (v + 1) (by omega) (by rw [hv, nI_1]) (by omega) (fun j hj => by
  by_cases h : j = i
  · rw [h]; exact c_16
  · exact hB j (by omega))
        · have _u := True.intro
          refine g_iconst C ic_1 dX0_owns_19 (n := 20) rfl ?_
          refine r_Z C dX0_owns_20 rfl ?_
          refine ⟨?_, rfl⟩
          have : ownS t c0 = true := by
            unfold ownS
            rcases (show i = 0 ∨ i = 1 ∨ i = 2 ∨ i = 3 by omega) with rfl | rfl | rfl | rfl <;> simp [c_16]
          rw [this]; rfl
  exact L_2 5 0 0 (by omega) nI_0.symm (by omega) (fun j h => absurd h (Nat.not_lt_zero _))
