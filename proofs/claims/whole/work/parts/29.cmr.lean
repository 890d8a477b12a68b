/-! the class reckons: what is put in, and all -/
def f1V (S : Spt) (i v d u : Nat) : Nat := if u = 0 then (if d < v then upS (spw S) (rwS S i) d else rwS S i d 0) else rwS S i d u
def f2V (S : Spt) (i v d u : Nat) : Nat := if u = 0 then (if v ≤ d then fin (spw S) (rwS S i) d 0 else upS (spw S) (rwS S i) d) else rwS S i d u
def f3V (S : Spt) (i v w d u : Nat) : Nat := if d < v ∨ (d = v ∧ u < w) ∨ u = 0 then fin (spw S) (rwS S i) d u else rwS S i d u
theorem f1_s {S : Spt} {i v : Nat} (hv : 1 ≤ v) (d u : Nat) : f1V S i (v + 1) d u = if d = v ∧ u = 0 then min (rwS S i v 0) (spw S 0 + upS (spw S) (rwS S i) (v - 1)) else f1V S i v d u := by
  unfold f1V
  by_cases hu : u = 0
  · rw [if_pos hu, if_pos hu]
    by_cases hd : d = v
    · rw [if_pos (show d = v ∧ u = 0 from ⟨hd, hu⟩), if_pos (show d < v + 1 by omega), hd]
      have := up_s (spw S) (rwS S i) (v - 1)
      rw [show v - 1 + 1 = v by omega] at this
      exact this
    · rw [if_neg (show ¬ (d = v ∧ u = 0) from fun q => hd q.1)]
      by_cases h : d < v
      · rw [if_pos (show d < v from h), if_pos (show d < v + 1 by omega)]
      · rw [if_neg (show ¬ d < v from h), if_neg (show ¬ d < v + 1 by omega)]
  · rw [if_neg hu, if_neg (fun q => hu q.2), if_neg hu]
theorem f2_s {S : Spt} {i v : Nat} (hv : v < 6) (d u : Nat) : f2V S i v d u = if d = v ∧ u = 0 then min (upS (spw S) (rwS S i) v) (spw S 0 + fin (spw S) (rwS S i) (v + 1) 0) else f2V S i (v + 1) d u := by
  unfold f2V
  by_cases hu : u = 0
  · rw [if_pos hu, if_pos hu]
    by_cases hd : d = v
    · rw [if_pos (show d = v ∧ u = 0 from ⟨hd, hu⟩), if_pos (show v ≤ d by omega), hd]
      exact fin_d hv
    · rw [if_neg (show ¬ (d = v ∧ u = 0) from fun q => hd q.1)]
      by_cases h : v + 1 ≤ d
      · rw [if_pos (show v + 1 ≤ d from h), if_pos (show v ≤ d by omega)]
      · rw [if_neg (show ¬ v + 1 ≤ d from h), if_neg (show ¬ v ≤ d by omega)]
  · rw [if_neg hu, if_neg (fun q => hu q.2), if_neg hu]
theorem f3_s {S : Spt} {i v w : Nat} (hw : 1 ≤ w) (d u : Nat) : f3V S i v (w + 1) d u = if d = v ∧ u = w then min (rwS S i v w) (spw S 0 + fin (spw S) (rwS S i) v (w - 1)) else f3V S i v w d u := by
  unfold f3V
  by_cases h : d = v ∧ u = w
  · rw [if_pos h, if_pos (Or.inr (Or.inl ⟨h.1, by omega⟩)), h.1, h.2]
    have := fin_s (spw S) (rwS S i) v (w - 1)
    rw [show w - 1 + 1 = w by omega] at this
    exact this
  · rw [if_neg h]
    by_cases h2 : d < v ∨ (d = v ∧ u < w) ∨ u = 0
    · rw [if_pos h2, if_pos (by omega)]
    · rw [if_neg h2, if_neg (by omega)]
theorem f12 (S : Spt) (i : Nat) {d : Nat} (hd : d ≤ 6) (u : Nat) : f2V S i 6 d u = f1V S i 7 d u := by
  unfold f1V f2V
  by_cases hu : u = 0
  · rw [if_pos hu, if_pos hu, if_pos (show d < 7 by omega)]
    by_cases h : 6 ≤ d
    · rw [if_pos h, show d = 6 by omega]; rfl
    · rw [if_neg h]
  · rw [if_neg hu, if_neg hu]
theorem f23 (S : Spt) (i : Nat) {d u : Nat} (hu : u ≤ dmy (spr S) d) : f3V S i 1 0 d u = f2V S i 0 d u := by
  unfold f3V f2V
  by_cases h0 : u = 0
  · rw [if_pos (Or.inr (Or.inr h0)), if_pos h0, if_pos (Nat.zero_le _), h0]
  · have := dmy_le (spr S) d
    rw [if_neg (by omega), if_neg h0]
theorem f33 (S : Spt) (i v d u : Nat) : f3V S i v 1 d u = f3V S i v 0 d u := by
  unfold f3V
  by_cases h : d < v ∨ u = 0
  · rw [if_pos (by omega), if_pos (by omega)]
  · rw [if_neg (by omega), if_neg (by omega)]
theorem f34 (S : Spt) (i v : Nat) {d u : Nat} (hu : u ≤ dmy (spr S) d) : f3V S i (v + 1) 0 d u = f3V S i v (dmy (spr S) v + 1) d u := by
  unfold f3V
  by_cases h : d < v ∨ d = v ∨ u = 0
  · rw [if_pos (by omega), if_pos]
    rcases h with h | h | h
    · exact Or.inl h
    · refine Or.inr (Or.inl ⟨h, ?_⟩); rw [h] at hu; omega
    · exact Or.inr (Or.inr h)
  · rw [if_neg (by omega), if_neg (by omega)]
theorem f3e (S : Spt) (i : Nat) {d : Nat} (hd : d ≤ 6) (u : Nat) : fin (spw S) (rwS S i) d u = f3V S i 7 0 d u := by
  unfold f3V; rw [if_pos (by omega)]

set_option maxHeartbeats 4000000 in
set_option maxRecDepth 100000 in
theorem ct_X2_settlePuttingIn {l : Launch} {D : va_G} {cI cO : ClassId} {z tP : Nat} {aK aV : Nat → Nat} (M : Mem) (S : Spt) (i : Nat) (x : Int32) (hMC : MC M S) (hs : wfS S) (hT0 : TB M 75 i (spr S) (rwS S i)) (hx : x = nI i) (hi : i ≤ spn S) : Cm l D cI cO z tP aK aV yX2_settlePuttingIn cX2_settlePuttingIn 5 none 3 67 [.ref (z + 64), .int x] SH M (pV (fun M1 => TB M1 75 i (spr S) (cS S i) ∧ (∀ a, a ≠ 75 → M1 a = M a) ∧ ∀ p, (p < 49 * i ∨ 49 * i + 49 ≤ p) → M1 75 p = M 75 p)) := by
  refine cm_intro (lv0 := [some (.ref (z + 64)), some (.int x), none, none, none]) (by decide) rfl (Nat.le_of_ble_eq_true rfl) rfl (fun p e s m below meth c C => ?_)
  have hn := hs.1
  have hw9 := (hs.2.2.2.2 0 (by decide)).2
  refine g_iconst C ic_1 dX2_settlePuttingIn_0 (n := 1) rfl ?_
  refine g_istore2 C dX2_settlePuttingIn_1 (n := 2) rfl ?_
  have L_2 : ∀ (fu : Nat) (v : Nat) (yv : Int32) (M1 : Mem), 7 - v < fu → (yv = nI v) → (1 ≤ v) → (v ≤ 7) → (TB M1 75 i (spr S) (f1V S i v)) → (∀ a, a ≠ 75 → M1 a = M a) → (∀ p, (p < 49 * i ∨ 49 * i + 49 ≤ p) → M1 75 p = M 75 p) → G p l e ({ frames := 3, cells := 0, slots := 0, locals := 67 }) s m ([.ref (z + 64), .int x] : List Value).toArray below meth c D cI cO z 5 (QM below D cI cO z ([.ref (z + 64), .int x] : List Value).toArray s SH (pV (fun M1 => TB M1 75 i (spr S) (cS S i) ∧ (∀ a, a ≠ 75 → M1 a = M a) ∧ ∀ p, (p < 49 * i ∨ 49 * i + 49 ≤ p) → M1 75 p = M 75 p))) 0 0 SH M1 2 [some (.ref (z + 64)), some (.int x), some (.int yv), none, none] [] := by
    intro fu_2
    induction fu_2 with
    | zero => intro v yv M1 hfu; exact absurd hfu (Nat.not_lt_zero _)
    | succ fu_2 ih_2 =>
      intro v yv M1 hfu_2 hyv hv1 hv hT hF hP
      refine g_iload2 C dX2_settlePuttingIn_2 (n := 3) rfl ?_
      refine g_bipush C bp_6 dX2_settlePuttingIn_3 (n := 5) rfl ?_
      refine g_icmp_gt C dX2_settlePuttingIn_5 (t := 31) (by decide) (n := 8) rfl (fun c_5 => ?_) (fun c_5 => ?_)
      · have w5 : 6 < v := (qlt (show (6 : Int32) = nI 6 from rfl) hyv (by decide) (by omega)).mp c_5
        refine g_iconst C ic_5 dX2_settlePuttingIn_31 (n := 32) rfl ?_
        refine g_istore2 C dX2_settlePuttingIn_32 (n := 33) rfl ?_
        have L_33 : ∀ (fu : Nat) (v1 : Nat) (yw : Int32) (M1 : Mem), v1 < fu → (yw + 1 = nI v1) → (v1 ≤ 6) → (TB M1 75 i (spr S) (f2V S i v1)) → (∀ a, a ≠ 75 → M1 a = M a) → (∀ p, (p < 49 * i ∨ 49 * i + 49 ≤ p) → M1 75 p = M 75 p) → G p l e ({ frames := 3, cells := 0, slots := 0, locals := 67 }) s m ([.ref (z + 64), .int x] : List Value).toArray below meth c D cI cO z 5 (QM below D cI cO z ([.ref (z + 64), .int x] : List Value).toArray s SH (pV (fun M1 => TB M1 75 i (spr S) (cS S i) ∧ (∀ a, a ≠ 75 → M1 a = M a) ∧ ∀ p, (p < 49 * i ∨ 49 * i + 49 ≤ p) → M1 75 p = M 75 p))) 0 0 SH M1 33 [some (.ref (z + 64)), some (.int x), some (.int yw), none, none] [] := by
          intro fu_33
          induction fu_33 with
          | zero => intro v1 yw M1 hfu; exact absurd hfu (Nat.not_lt_zero _)
          | succ fu_33 ih_33 =>
            intro v1 yw M1 hfu_33 hyw hv6 hT hF hP
            refine g_iload2 C dX2_settlePuttingIn_33 (n := 34) rfl ?_
            refine g_if_lt C dX2_settlePuttingIn_34 (t := 60) (by decide) (n := 37) rfl (fun c_34 => ?_) (fun c_34 => ?_)
            · have hk0 : v1 = 0 := by
                by_cases h : v1 = 0
                · exact h
                · exfalso
                  have e : yw = nI (v1 - 1) := by
                    have e2 : yw = yw + 1 - 1 := by rw [Int32.add_sub_cancel]
                    rw [e2, hyw]; exact e_sub rfl (show (1 : Int32) = nI 1 from rfl) (by omega)
                  rw [e] at c_34; exact nI_pos (by omega) c_34
              refine g_iconst C ic_1 dX2_settlePuttingIn_60 (n := 61) rfl ?_
              refine g_istore2 C dX2_settlePuttingIn_61 (n := 62) rfl ?_
              have L_62 : ∀ (fu : Nat) (a : Nat) (ya : Int32) (M1 : Mem) (o3 o4 : Option Value), 7 - a < fu → (ya = nI a) → (1 ≤ a) → (a ≤ 7) → (TB M1 75 i (spr S) (f3V S i a 0)) → (∀ a, a ≠ 75 → M1 a = M a) → (∀ p, (p < 49 * i ∨ 49 * i + 49 ≤ p) → M1 75 p = M 75 p) → G p l e ({ frames := 3, cells := 0, slots := 0, locals := 67 }) s m ([.ref (z + 64), .int x] : List Value).toArray below meth c D cI cO z 5 (QM below D cI cO z ([.ref (z + 64), .int x] : List Value).toArray s SH (pV (fun M1 => TB M1 75 i (spr S) (cS S i) ∧ (∀ a, a ≠ 75 → M1 a = M a) ∧ ∀ p, (p < 49 * i ∨ 49 * i + 49 ≤ p) → M1 75 p = M 75 p))) 0 0 SH M1 62 [some (.ref (z + 64)), some (.int x), some (.int ya), o3, o4] [] := by
                intro fu_62
                induction fu_62 with
                | zero => intro a ya M1 o3 o4 hfu; exact absurd hfu (Nat.not_lt_zero _)
                | succ fu_62 ih_62 =>
                  intro a ya M1 o3 o4 hfu_62 hya ha1 ha hT hF hP
                  refine g_iload2 C dX2_settlePuttingIn_62 (n := 63) rfl ?_
                  refine g_bipush C bp_6 dX2_settlePuttingIn_63 (n := 65) rfl ?_
                  refine g_icmp_gt C dX2_settlePuttingIn_65 (t := 117) (by decide) (n := 68) rfl (fun c_65 => ?_) (fun c_65 => ?_)
                  · have w65 : 6 < a := (qlt (show (6 : Int32) = nI 6 from rfl) hya (by decide) (by omega)).mp c_65
                    refine r_V C dX2_settlePuttingIn_117 ?_
                    exact ⟨TB_cong hT (fun _ _ _ => rfl) (fun d u hd hu => by rw [cS_fin hi, show a = 7 by omega]; exact f3e S i hd u), hF, hP⟩
                  · have w65 : ¬ 6 < a := fun h => c_65 ((qlt (show (6 : Int32) = nI 6 from rfl) hya (by decide) (by omega)).mpr h)
                    refine g_aload0 C dX2_settlePuttingIn_68 (n := 69) rfl ?_
                    refine kg_X2_12 C sh_64 rfl dX2_settlePuttingIn_69 (n := 72) rfl ?_
                    refine g_iload2 C dX2_settlePuttingIn_72 (n := 73) rfl ?_
                    refine kc_X2_77 C (ct_X0_dueBehindBreak SH M1 65 (spr S) a _ grammar_65 (by rw [hF 65 (by omega)]; exact hMC.2.2.2.2.2) hs.2.2.2.1 hya (by omega)) sh_65 ⟨Nat.le_of_ble_eq_true rfl, Nat.le_of_ble_eq_true rfl⟩ ⟨Nat.zero_le _, Nat.zero_le _⟩ (Nat.le_of_ble_eq_true rfl) dX2_settlePuttingIn_73 (n := 76) rfl (fun r_73 M_73 h_73 => ?_)
                    rw [h_73.1, h_73.2]
                    have hda := dmy_le (spr S) a
                    refine g_istore3 C dX2_settlePuttingIn_76 (n := 77) rfl ?_
                    refine g_iconst C ic_1 dX2_settlePuttingIn_77 (n := 78) rfl ?_
                    refine g_istore4 C dX2_settlePuttingIn_78 (n := 80) rfl ?_
                    have L_80 : ∀ (fu : Nat) (w : Nat) (yb : Int32) (M1 : Mem), dmy (spr S) a + 1 - w < fu → (yb = nI w) → (1 ≤ w) → (w ≤ dmy (spr S) a + 1) → (TB M1 75 i (spr S) (f3V S i a w)) → (∀ a, a ≠ 75 → M1 a = M a) → (∀ p, (p < 49 * i ∨ 49 * i + 49 ≤ p) → M1 75 p = M 75 p) → G p l e ({ frames := 3, cells := 0, slots := 0, locals := 67 }) s m ([.ref (z + 64), .int x] : List Value).toArray below meth c D cI cO z 5 (QM below D cI cO z ([.ref (z + 64), .int x] : List Value).toArray s SH (pV (fun M1 => TB M1 75 i (spr S) (cS S i) ∧ (∀ a, a ≠ 75 → M1 a = M a) ∧ ∀ p, (p < 49 * i ∨ 49 * i + 49 ≤ p) → M1 75 p = M 75 p))) 0 0 SH M1 80 [some (.ref (z + 64)), some (.int x), some (.int ya), some (.int (nI (dmy (spr S) a))), some (.int yb)] [] := by
                      intro fu_80
                      induction fu_80 with
                      | zero => intro w yb M1 hfu; exact absurd hfu (Nat.not_lt_zero _)
                      | succ fu_80 ih_80 =>
                        intro w yb M1 hfu_80 hyb hw1 hw2 hT hF hP
                        refine g_iload4 C dX2_settlePuttingIn_80 (n := 82) rfl ?_
                        refine g_iload3 C dX2_settlePuttingIn_82 (n := 83) rfl ?_
                        refine g_icmp_gt C dX2_settlePuttingIn_83 (t := 111) (by decide) (n := 86) rfl (fun c_83 => ?_) (fun c_83 => ?_)
                        · have w83 : dmy (spr S) a < w := (qlt (rfl : nI (dmy (spr S) a) = _) hyb (by omega) (by omega)).mp c_83
                          refine g_iinc2 C (inc_1 _) dX2_settlePuttingIn_111 (n := 114) rfl ?_
                          refine g_goto C dX2_settlePuttingIn_114 (t := 62) (by decide) ?_
                          exact ih_62 (a + 1) (ya + 1) M1 _ _ (by omega) (by rw [hya, nI_1]) (by omega) (by omega) (TB_cong hT (fun _ _ _ => rfl) (fun d u hd hu => by rw [show w = dmy (spr S) a + 1 by omega]; exact f34 S i a hu)) hF hP
                        · have w83 : ¬ dmy (spr S) a < w := fun h => c_83 ((qlt (rfl : nI (dmy (spr S) a) = _) hyb (by omega) (by omega)).mpr h)
                          refine g_aload0 C dX2_settlePuttingIn_86 (n := 87) rfl ?_
                          refine g_iload1 C dX2_settlePuttingIn_87 (n := 88) rfl ?_
                          refine g_iload2 C dX2_settlePuttingIn_88 (n := 89) rfl ?_
                          refine g_iload4 C dX2_settlePuttingIn_89 (n := 91) rfl ?_
                          refine kc_X2_80 C (ct_X0_stateOf SH M1 a w _ _ hya hyb) ⟨Nat.le_of_ble_eq_true rfl, Nat.le_of_ble_eq_true rfl⟩ ⟨Nat.zero_le _, Nat.zero_le _⟩ (Nat.le_of_ble_eq_true rfl) dX2_settlePuttingIn_91 (n := 94) rfl (fun r_91 M_91 h_91 => ?_)
                          rw [h_91.1, h_91.2]
                          refine g_iload2 C dX2_settlePuttingIn_94 (n := 95) rfl ?_
                          refine g_iload4 C dX2_settlePuttingIn_95 (n := 97) rfl ?_
                          refine g_iconst C ic_1 dX2_settlePuttingIn_97 (n := 98) rfl ?_
                          refine g_isub C dX2_settlePuttingIn_98 (n := 99) rfl ?_
                          refine kc_X2_80 C (ct_X0_stateOf SH M1 a (w - 1) _ _ hya (e_sub hyb (show (1 : Int32) = nI 1 from rfl) (by omega))) ⟨Nat.le_of_ble_eq_true rfl, Nat.le_of_ble_eq_true rfl⟩ ⟨Nat.zero_le _, Nat.zero_le _⟩ (Nat.le_of_ble_eq_true rfl) dX2_settlePuttingIn_99 (n := 102) rfl (fun r_99 M_99 h_99 => ?_)
                          rw [h_99.1, h_99.2]
                          refine kc_X2_107 C (ct_X2_relax M1 i (7 * a + w) (7 * a + (w - 1)) (rwS S i a w) (fin (spw S) (rwS S i) a (w - 1)) (spw S 0) x _ _ hx rfl rfl (by omega) (by omega) ((hT a (by omega) w (by omega)).trans (by unfold f3V; rw [if_neg (by omega)])) ((hT a (by omega) (w - 1) (by omega)).trans (by unfold f3V; rw [if_pos (by omega)])) (by have := rw_b hs (i := i) (show a ≤ 6 by omega) (show w ≤ dmy (spr S) a by omega); omega) (by have := fin_b hs (i := i) (show a ≤ 6 by omega) (show w - 1 ≤ 6 by omega); omega) (by rw [hF 73 (by omega)]; exact hMC.2.2.1 0 (by decide)) hw9) sh_64 ⟨Nat.le_of_ble_eq_true rfl, Nat.le_of_ble_eq_true rfl⟩ ⟨Nat.zero_le _, Nat.zero_le _⟩ (Nat.le_of_ble_eq_true rfl) dX2_settlePuttingIn_102 (n := 105) rfl (fun M2 h2 => ?_)
                          refine g_iinc4 C (inc_1 _) dX2_settlePuttingIn_105 (n := 108) rfl ?_
                          refine g_goto C dX2_settlePuttingIn_108 (t := 80) (by decide) ?_
                          exact ih_80 (w + 1) (yb + 1) M2 (by omega) (by rw [hyb, nI_1]) (by omega) (by omega) (TB_up hT h2.2 (by omega) (by omega) (fun d u _ _ => f3_s hw1 d u)) (fun a ha => by rw [h2.1 a ha]; exact hF a ha) (fun p hp => by rw [h2.2, pk_un (by omega)]; exact hP p hp)
                    exact L_80 (dmy (spr S) a + 2) 1 1 M1 (by omega) rfl (by omega) (by omega) (TB_cong hT (fun _ _ _ => rfl) (fun d u hd hu => f33 S i a d u)) hF hP
              exact L_62 8 1 1 M1 none none (by omega) rfl (by omega) (by omega) (TB_cong hT (fun _ _ _ => rfl) (fun d u hd hu => by rw [hk0]; exact f23 S i hu)) hF hP
            · obtain ⟨kk, hkk, hykk⟩ : ∃ kk, kk + 1 = v1 ∧ yw = nI kk := by
                have e2 : yw = yw + 1 - 1 := by rw [Int32.add_sub_cancel]
                by_cases h : v1 = 0
                · rw [h] at hyw
                  rw [e2, hyw] at c_34
                  exact absurd (show (nI 0 - 1 : Int32) < 0 by decide) c_34
                · exact ⟨v1 - 1, by omega, by rw [e2, hyw]; exact e_sub rfl (show (1 : Int32) = nI 1 from rfl) (by omega)⟩
              refine g_aload0 C dX2_settlePuttingIn_37 (n := 38) rfl ?_
              refine g_iload1 C dX2_settlePuttingIn_38 (n := 39) rfl ?_
              refine g_iload2 C dX2_settlePuttingIn_39 (n := 40) rfl ?_
              refine g_iconst C ic_0 dX2_settlePuttingIn_40 (n := 41) rfl ?_
              refine kc_X2_80 C (ct_X0_stateOf SH M1 kk 0 _ _ hykk nI_0.symm) ⟨Nat.le_of_ble_eq_true rfl, Nat.le_of_ble_eq_true rfl⟩ ⟨Nat.zero_le _, Nat.zero_le _⟩ (Nat.le_of_ble_eq_true rfl) dX2_settlePuttingIn_41 (n := 44) rfl (fun r_41 M_41 h_41 => ?_)
              rw [h_41.1, h_41.2]
              refine g_iload2 C dX2_settlePuttingIn_44 (n := 45) rfl ?_
              refine g_iconst C ic_1 dX2_settlePuttingIn_45 (n := 46) rfl ?_
              refine g_iadd C dX2_settlePuttingIn_46 (n := 47) rfl ?_
              refine g_iconst C ic_0 dX2_settlePuttingIn_47 (n := 48) rfl ?_
              refine kc_X2_80 C (ct_X0_stateOf SH M1 (kk + 1) 0 _ _ (by rw [hykk, nI_1]) nI_0.symm) ⟨Nat.le_of_ble_eq_true rfl, Nat.le_of_ble_eq_true rfl⟩ ⟨Nat.zero_le _, Nat.zero_le _⟩ (Nat.le_of_ble_eq_true rfl) dX2_settlePuttingIn_48 (n := 51) rfl (fun r_48 M_48 h_48 => ?_)
              rw [h_48.1, h_48.2]
              refine kc_X2_107 C (ct_X2_relax M1 i (7 * kk + 0) (7 * (kk + 1) + 0) (upS (spw S) (rwS S i) kk) (fin (spw S) (rwS S i) (kk + 1) 0) (spw S 0) x _ _ hx rfl rfl (by omega) (by omega) ((hT kk (by omega) 0 (Nat.zero_le _)).trans (by unfold f2V; rw [if_pos rfl, if_neg (by omega)])) ((hT (kk + 1) (by omega) 0 (Nat.zero_le _)).trans (by unfold f2V; rw [if_pos rfl, if_pos (by omega)])) (by have := up_b hs (i := i) (show kk ≤ 6 by omega); omega) (by have := fin_b hs (i := i) (show kk + 1 ≤ 6 by omega) (Nat.zero_le 6); omega) (by rw [hF 73 (by omega)]; exact hMC.2.2.1 0 (by decide)) hw9) sh_64 ⟨Nat.le_of_ble_eq_true rfl, Nat.le_of_ble_eq_true rfl⟩ ⟨Nat.zero_le _, Nat.zero_le _⟩ (Nat.le_of_ble_eq_true rfl) dX2_settlePuttingIn_51 (n := 54) rfl (fun M2 h2 => ?_)
              refine g_iinc2 C (inc_m1 _) dX2_settlePuttingIn_54 (n := 57) rfl ?_
              refine g_goto C dX2_settlePuttingIn_57 (t := 33) (by decide) ?_
              exact ih_33 kk (yw + -1) M2 (by omega) (by rw [hykk, Int32.add_assoc]; exact Int32.add_zero _) (by omega) (TB_up hT h2.2 (by omega) (Nat.zero_le _) (fun d u _ _ => by rw [← hkk]; exact f2_s (by omega) d u)) (fun a ha => by rw [h2.1 a ha]; exact hF a ha) (fun p hp => by rw [h2.2, pk_un (by omega)]; exact hP p hp)
        exact L_33 7 6 5 M1 (by omega) rfl (by omega) (TB_cong hT (fun _ _ _ => rfl) (fun d u hd hu => by rw [show v = 7 by omega]; exact f12 S i hd u)) hF hP
      · have w5 : ¬ 6 < v := fun h => c_5 ((qlt (show (6 : Int32) = nI 6 from rfl) hyv (by decide) (by omega)).mpr h)
        refine g_aload0 C dX2_settlePuttingIn_8 (n := 9) rfl ?_
        refine g_iload1 C dX2_settlePuttingIn_9 (n := 10) rfl ?_
        refine g_iload2 C dX2_settlePuttingIn_10 (n := 11) rfl ?_
        refine g_iconst C ic_0 dX2_settlePuttingIn_11 (n := 12) rfl ?_
        refine kc_X2_80 C (ct_X0_stateOf SH M1 v 0 _ _ hyv nI_0.symm) ⟨Nat.le_of_ble_eq_true rfl, Nat.le_of_ble_eq_true rfl⟩ ⟨Nat.zero_le _, Nat.zero_le _⟩ (Nat.le_of_ble_eq_true rfl) dX2_settlePuttingIn_12 (n := 15) rfl (fun r_12 M_12 h_12 => ?_)
        rw [h_12.1, h_12.2]
        refine g_iload2 C dX2_settlePuttingIn_15 (n := 16) rfl ?_
        refine g_iconst C ic_1 dX2_settlePuttingIn_16 (n := 17) rfl ?_
        refine g_isub C dX2_settlePuttingIn_17 (n := 18) rfl ?_
        refine g_iconst C ic_0 dX2_settlePuttingIn_18 (n := 19) rfl ?_
        refine kc_X2_80 C (ct_X0_stateOf SH M1 (v - 1) 0 _ _ (e_sub hyv (show (1 : Int32) = nI 1 from rfl) (by omega)) nI_0.symm) ⟨Nat.le_of_ble_eq_true rfl, Nat.le_of_ble_eq_true rfl⟩ ⟨Nat.zero_le _, Nat.zero_le _⟩ (Nat.le_of_ble_eq_true rfl) dX2_settlePuttingIn_19 (n := 22) rfl (fun r_19 M_19 h_19 => ?_)
        rw [h_19.1, h_19.2]
        refine kc_X2_107 C (ct_X2_relax M1 i (7 * v + 0) (7 * (v - 1) + 0) (rwS S i v 0) (upS (spw S) (rwS S i) (v - 1)) (spw S 0) x _ _ hx rfl rfl (by omega) (by omega) ((hT v (by omega) 0 (Nat.zero_le _)).trans (by unfold f1V; rw [if_pos rfl, if_neg (by omega)])) ((hT (v - 1) (by omega) 0 (Nat.zero_le _)).trans (by unfold f1V; rw [if_pos rfl, if_pos (by omega)])) (by have := rw_b hs (i := i) (show v ≤ 6 by omega) (Nat.zero_le _); omega) (by have := up_b hs (i := i) (show v - 1 ≤ 6 by omega); omega) (by rw [hF 73 (by omega)]; exact hMC.2.2.1 0 (by decide)) hw9) sh_64 ⟨Nat.le_of_ble_eq_true rfl, Nat.le_of_ble_eq_true rfl⟩ ⟨Nat.zero_le _, Nat.zero_le _⟩ (Nat.le_of_ble_eq_true rfl) dX2_settlePuttingIn_22 (n := 25) rfl (fun M2 h2 => ?_)
        refine g_iinc2 C (inc_1 _) dX2_settlePuttingIn_25 (n := 28) rfl ?_
        refine g_goto C dX2_settlePuttingIn_28 (t := 2) (by decide) ?_
        exact ih_2 (v + 1) (yv + 1) M2 (by omega) (by rw [hyv, nI_1]) (by omega) (by omega) (TB_up hT h2.2 (by omega) (Nat.zero_le _) (fun d u _ _ => f1_s hv1 d u)) (fun a ha => by rw [h2.1 a ha]; exact hF a ha) (fun p hp => by rw [h2.2, pk_un (by omega)]; exact hP p hp)
  exact L_2 8 1 1 M (by omega) rfl (by omega) (by omega) (TB_cong hT0 (fun _ _ _ => rfl) (fun d u hd hu => by unfold f1V; by_cases h0 : u = 0; (rw [if_pos h0, h0]; by_cases hd0 : d < 1; (rw [if_pos hd0, show d = 0 by omega]; rfl); (rw [if_neg hd0])); (rw [if_neg h0]))) (fun _ _ => rfl) (fun _ _ => rfl)
set_option maxHeartbeats 4000000 in
set_option maxRecDepth 100000 in
theorem ct_X2_reckon {l : Launch} {D : va_G} {cI cO : ClassId} {z tP : Nat} {aK aV : Nat → Nat} (M : Mem) (S0 : Spt) (t ru : Nat) (x y : Int32) (hsp : spC M 3 S0) (hs0 : wfS S0) (hI : gI M 65) (hx : x = nI t) (hy : y = nI ru) (ht : t < 4) (hr : ru < 3) : Cm l D cI cO z tP aK aV yX2_reckon cX2_reckon 5 none 7 154 [.ref (z + 64), .ref (z + 3), .int x, .int y] SH M (pV (fun M1 => CT M1 75 (sTR S0 t ru) 0 ∧ MC M1 (sTR S0 t ru) ∧ ∀ a, (a < 64 ∨ 80 ≤ a) → M1 a = M a)) := by
  refine cm_intro (lv0 := [some (.ref (z + 64)), some (.ref (z + 3)), some (.int x), some (.int y), none]) (by decide) rfl (Nat.le_of_ble_eq_true rfl) rfl (fun p e s m below meth c C => ?_)
  have hs := sTR_wf hs0 ht hr
  have hn := hs0.1
  have en : spn (sTR S0 t ru) = spn S0 := rfl
  refine g_aload0 C dX2_reckon_0 (n := 1) rfl ?_
  refine kg_X2_12 C sh_64 rfl dX2_reckon_1 (n := 4) rfl ?_
  refine g_iload2 C dX2_reckon_4 (n := 5) rfl ?_
  refine g_iload3 C dX2_reckon_5 (n := 6) rfl ?_
  refine kc_X2_50 C (ct_X0_speakAs SH M 65 t ru x y grammar_65 hx hy ht hr hI) sh_65 ⟨Nat.le_of_ble_eq_true rfl, Nat.le_of_ble_eq_true rfl⟩ ⟨Nat.zero_le _, Nat.zero_le _⟩ (Nat.le_of_ble_eq_true rfl) dX2_reckon_6 (n := 9) rfl (fun M2 h2 => ?_)
  refine g_aload0 C dX2_reckon_9 (n := 10) rfl ?_
  refine g_aload1 C dX2_reckon_10 (n := 11) rfl ?_
  refine kg_X2_54 C sh_3 rfl dX2_reckon_11 (n := 14) rfl ?_
  refine kp_X2_39 C sh_64 rfl dX2_reckon_14 (n := 17) rfl (fun M3 e3 => ?_)
  have f3 : ∀ a, a ≠ 64 → M3 a = M2 a := fun a ha => by rw [e3, up2_ne _ _ ha]
  have s3 : M3 64 2 = nI (spn S0) := by rw [e3, up2_at, h2.2.2.2 3 (by omega) (by omega) (by omega)]; exact hsp.1
  refine g_aload0 C dX2_reckon_17 (n := 18) rfl ?_
  refine kg_X2_23 C sh_64 rfl dX2_reckon_18 (n := 21) rfl ?_
  refine g_aload1 C dX2_reckon_21 (n := 22) rfl ?_
  refine kg_X2_57 C sh_3 rfl dX2_reckon_22 (n := 25) rfl ?_
  refine g_aload0 C dX2_reckon_25 (n := 26) rfl ?_
  refine kg_X2_39 C sh_64 rfl dX2_reckon_26 (n := 29) rfl ?_
  refine kc_X2_58 C (ct_X4_copyFrom SH M3 70 120 4 120 (spn S0) _ row_70 row_4 s3 hn hn (by decide)) sh_70 ⟨Nat.le_of_ble_eq_true rfl, Nat.le_of_ble_eq_true rfl⟩ ⟨Nat.zero_le _, Nat.zero_le _⟩ (Nat.le_of_ble_eq_true rfl) dX2_reckon_29 (n := 32) rfl (fun M4 e4 => ?_)
  have f4 : ∀ a, a ≠ 71 → M4 a = M3 a := fun a ha => by rw [e4]; funext j; simp [cpr, ha]
  refine g_aload0 C dX2_reckon_32 (n := 33) rfl ?_
  refine kg_X2_27 C sh_64 rfl dX2_reckon_33 (n := 36) rfl ?_
  refine g_aload1 C dX2_reckon_36 (n := 37) rfl ?_
  refine kg_X2_62 C sh_3 rfl dX2_reckon_37 (n := 40) rfl ?_
  refine g_iconst C ic_3 dX2_reckon_40 (n := 41) rfl ?_
  refine kc_X2_58 C (ct_X4_copyFrom SH M4 72 3 6 3 3 _ row_72 row_6 rfl (by decide) (by decide) (by decide)) sh_72 ⟨Nat.le_of_ble_eq_true rfl, Nat.le_of_ble_eq_true rfl⟩ ⟨Nat.zero_le _, Nat.zero_le _⟩ (Nat.le_of_ble_eq_true rfl) dX2_reckon_41 (n := 44) rfl (fun M5 e5 => ?_)
  have f5 : ∀ a, a ≠ 73 → M5 a = M4 a := fun a ha => by rw [e5]; funext j; simp [cpr, ha]
  have f : ∀ a, a ≠ 64 → a ≠ 65 → a ≠ 67 → a ≠ 69 → a ≠ 71 → a ≠ 73 → M5 a = M a := fun a a1 a2 a3 a4 a5 a6 => by rw [f5 a a6, f4 a a5, f3 a a1]; exact h2.2.2.2 a a2 a3 a4
  have g5 : ∀ a, a ≠ 64 → a ≠ 71 → a ≠ 73 → M5 a = M2 a := fun a a1 a2 a3 => by rw [f5 a a3, f4 a a2, f3 a a1]
  have s5 : M5 64 2 = nI (spn S0) := by rw [f5 64 (by omega), f4 64 (by omega)]; exact s3
  have hMC5 : MC M5 (sTR S0 t ru) := by
    refine ⟨s5, fun j hj => ?_, fun j hj => ?_, GOK_cong (g5 _ (by omega) (by omega) (by omega)) (g5 _ (by omega) (by omega) (by omega)) h2.1, by rw [g5 65 (by omega) (by omega) (by omega)]; exact h2.2.1, by rw [g5 65 (by omega) (by omega) (by omega)]; exact h2.2.2.1⟩
    · rw [f5 71 (by omega), e4]
      refine (show cpr M3 71 5 (spn S0) 71 j = M3 5 j by simp [cpr]; intro h; exact absurd hj (by show ¬ j < spn S0; omega)).trans ?_
      rw [f3 5 (by omega), h2.2.2.2 5 (by omega) (by omega) (by omega)]; exact hsp.2.1 j hj
    · rw [e5]
      refine (show cpr M4 73 7 3 73 j = M4 7 j by simp [cpr]; intro h; omega).trans ?_
      rw [f4 7 (by omega), f3 7 (by omega), h2.2.2.2 7 (by omega) (by omega) (by omega)]; exact hsp.2.2.2.2 j hj
  refine g_aload0 C dX2_reckon_44 (n := 45) rfl ?_
  refine kg_X2_39 C sh_64 rfl dX2_reckon_45 (n := 48) rfl ?_
  refine g_istore4 C dX2_reckon_48 (n := 50) rfl ?_
  have L_50 : ∀ (fu : Nat) (v1 : Nat) (yw : Int32) (M6 : Mem), v1 < fu → (yw + 1 = nI v1) → (v1 ≤ spn S0 + 1) → (MC M6 (sTR S0 t ru)) → (CT M6 75 (sTR S0 t ru) v1) → (∀ a, (a < 64 ∨ 80 ≤ a) → M6 a = M a) → G p l e ({ frames := 7, cells := 0, slots := 0, locals := 154 }) s m ([.ref (z + 64), .ref (z + 3), .int x, .int y] : List Value).toArray below meth c D cI cO z 5 (QM below D cI cO z ([.ref (z + 64), .ref (z + 3), .int x, .int y] : List Value).toArray s SH (pV (fun M1 => CT M1 75 (sTR S0 t ru) 0 ∧ MC M1 (sTR S0 t ru) ∧ ∀ a, (a < 64 ∨ 80 ≤ a) → M1 a = M a))) 0 0 SH M6 50 [some (.ref (z + 64)), some (.ref (z + 3)), some (.int x), some (.int y), some (.int yw)] [] := by
    intro fu_50
    induction fu_50 with
    | zero => intro v1 yw M6 hfu; exact absurd hfu (Nat.not_lt_zero _)
    | succ fu_50 ih_50 =>
      intro v1 yw M6 hfu_50 hyw hv6 hMC hC hF
      refine g_iload4 C dX2_reckon_50 (n := 52) rfl ?_
      refine g_if_lt C dX2_reckon_52 (t := 73) (by decide) (n := 55) rfl (fun c_52 => ?_) (fun c_52 => ?_)
      · have hk0 : v1 = 0 := by
          by_cases h : v1 = 0
          · exact h
          · exfalso
            have e : yw = nI (v1 - 1) := by
              have e2 : yw = yw + 1 - 1 := by rw [Int32.add_sub_cancel]
              rw [e2, hyw]; exact e_sub rfl (show (1 : Int32) = nI 1 from rfl) (by omega)
            rw [e] at c_52; exact nI_pos (by omega) c_52
        refine r_V C dX2_reckon_73 ?_
        exact ⟨by rw [← hk0]; exact hC, hMC, hF⟩
      · obtain ⟨kk, hkk, hykk⟩ : ∃ kk, kk + 1 = v1 ∧ yw = nI kk := by
          have e2 : yw = yw + 1 - 1 := by rw [Int32.add_sub_cancel]
          by_cases h : v1 = 0
          · rw [h] at hyw
            rw [e2, hyw] at c_52
            exact absurd (show (nI 0 - 1 : Int32) < 0 by decide) c_52
          · exact ⟨v1 - 1, by omega, by rw [e2, hyw]; exact e_sub rfl (show (1 : Int32) = nI 1 from rfl) (by omega)⟩
        rw [← hkk] at hC
        refine g_aload0 C dX2_reckon_55 (n := 56) rfl ?_
        refine g_iload4 C dX2_reckon_56 (n := 58) rfl ?_
        refine kc_X2_63 C (ct_X2_reckonPlace M6 (sTR S0 t ru) kk yw hMC hs hC hykk (by omega)) sh_64 ⟨Nat.le_of_ble_eq_true rfl, Nat.le_of_ble_eq_true rfl⟩ ⟨Nat.zero_le _, Nat.zero_le _⟩ (Nat.le_of_ble_eq_true rfl) dX2_reckon_58 (n := 61) rfl (fun M7 h7 => ?_)
        have hMC7 : MC M7 (sTR S0 t ru) := MC_cong hMC (fun a _ _ => h7.2.1 a (by omega))
        refine g_aload0 C dX2_reckon_61 (n := 62) rfl ?_
        refine g_iload4 C dX2_reckon_62 (n := 64) rfl ?_
        refine kc_X2_66 C (ct_X2_settlePuttingIn M7 (sTR S0 t ru) kk yw hMC7 hs h7.1 hykk (by omega)) sh_64 ⟨Nat.le_of_ble_eq_true rfl, Nat.le_of_ble_eq_true rfl⟩ ⟨Nat.zero_le _, Nat.zero_le _⟩ (Nat.le_of_ble_eq_true rfl) dX2_reckon_64 (n := 67) rfl (fun M8 h8 => ?_)
        refine g_iinc4 C (inc_m1 _) dX2_reckon_67 (n := 70) rfl ?_
        refine g_goto C dX2_reckon_70 (t := 50) (by decide) ?_
        exact ih_50 kk (yw + -1) M8 (by omega) (by rw [hykk, Int32.add_assoc]; exact Int32.add_zero _) (by omega) (MC_cong hMC7 (fun a _ _ => h8.2.1 a (by omega))) (CT_s hC h8.1 (fun p hp => by rw [h8.2.2 p (by omega), h7.2.2 p (by omega)])) (fun a ha => by rw [h8.2.1 a (by omega), h7.2.1 a (by omega)]; exact hF a ha)
  exact L_50 (spn S0 + 2) (spn S0 + 1) _ M5 (by omega) (by rw [s5, nI_1]) (by omega) hMC5 (fun j h1 h2 => absurd h2 (by show ¬ j ≤ spn S0; omega)) (fun a ha => f a (by omega) (by omega) (by omega) (by omega) (by omega) (by omega))
