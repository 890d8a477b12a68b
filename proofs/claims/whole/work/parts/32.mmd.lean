/-! the reference: the least sum -/
def MR (M : Mem) (S : Spt) : Prop := M 82 120 = nI (spn S) ∧ (∀ j, j < spn S → M 82 j = spg S j) ∧ ∀ j, j < 3 → M 82 (123 + j) = nI (spw S j)
theorem MR_of {M : Mem} {S : Spt} {t r : Nat} (h : spR (M 82) S) : MR M (sTR S t r) := ⟨h.1, h.2.1, h.2.2.2.2⟩
theorem e_at {x y w : Int32} {i d u : Nat} (hx : x = nI i) (hy : y = nI d) (hw : w = nI u) : 49 * x + 7 * y + w = nI (49 * i + (7 * d + u)) := by
  rw [e_add (e_add (e_mul (show (49 : Int32) = nI 49 from rfl) hx) (e_mul (show (7 : Int32) = nI 7 from rfl) hy)) hw, Nat.add_assoc]
theorem st_no {S : Spt} {i d : Nat} (hs : wfS S) (hi : i < spn S) (hm : ¬ isMk (spg S i) = true) : stV S i d 0 = cS S (i + 1) d (if spg S i = 124 then dmy (spr S) d else 0) := by
  unfold stV
  rcases nomk (hs.2.1 i hi) hm with h | ⟨h, h2⟩
  · rw [show nxt (spt S) (spr S) d 0 (spg S i) = some (d, 0) by unfold nxt; rw [if_pos rfl, if_pos h], if_neg]
    intro q
    rcases h with h | h
    · rw [q] at h; revert h; decide
    · rw [q] at h; revert h; decide
  · rw [show nxt (spt S) (spr S) d 0 (spg S i) = some (d, dmy (spr S) d) by unfold nxt; rw [if_pos rfl, if_neg h, if_pos h2], if_pos h2]
theorem st_u {S : Spt} {i d u : Nat} (h : u ≠ 0) : stV S i d u = if spg S i = opn (spt S) (dmy (spr S) d - u) then cS S (i + 1) d (u - 1) else FAR := by
  unfold stV
  rw [nx_u h]
  by_cases hc : spg S i = opn (spt S) (dmy (spr S) d - u)
  · rw [if_pos hc, if_pos hc]
  · rw [if_neg hc, if_neg hc]
theorem b_le {S : Spt} (hs : wfS S) {i d u : Nat} (hi : i < spn S) (hd : d ≤ 6) (hu : u ≤ dmy (spr S) d) : b0V S i d u ≤ 1000000 ∧ bpV S i d u ≤ 1000000 ∧ bmV S i d u ≤ 1000000 ∧ tkV S i d u ≤ 1000000 := by
  have hw1 := (hs.2.2.2.2 1 (by decide)).2
  have hw2 := (hs.2.2.2.2 2 (by decide)).2
  have hF : FAR = 1000000 := rfl
  refine ⟨?_, ?_, ?_, ?_⟩
  · unfold b0V; split
    · have := cS_lt hs (show i + 1 ≤ spn S by omega) hd (show u - 1 ≤ dmy (spr S) d by omega); omega
    · omega
  · unfold bpV; split
    · next h => have := cS_lt hs (show i + 1 ≤ spn S by omega) (show d + 1 ≤ 6 by omega) (Nat.zero_le _); omega
    · omega
  · unfold bmV; split
    · next h => have := cS_lt hs (show i + 1 ≤ spn S by omega) (show d - 1 ≤ 6 by omega) (Nat.zero_le _); omega
    · omega
  · unfold tkV; split
    · have := cS_lt hs (show i + 1 ≤ spn S by omega) hd hu; omega
    · omega
theorem i_min2 {x y : Int32} {a b : Nat} (hx : x = nI a) (hy : y = nI b) (ha : a < 2 ^ 31) (hb : b < 2 ^ 31) : (x < y → x = nI (min a b)) ∧ (¬ x < y → y = nI (min a b)) := by
  constructor
  · intro h; have := (qlt hx hy ha hb).mp h; rw [hx, Nat.min_eq_left (by omega)]
  · intro h
    have : ¬ a < b := fun q => h ((qlt hx hy ha hb).mpr q)
    rw [hy, Nat.min_eq_right (by omega)]

set_option maxHeartbeats 4000000 in
set_option maxRecDepth 100000 in
theorem ct_X7_at {l : Launch} {D : va_G} {cI cO : ClassId} {z tP : Nat} {aK aV : Nat → Nat} (sh : Shp) (M : Mem) (i d u : Nat) (x y w : Int32) (hx : x = nI i) (hy : y = nI d) (hw : w = nI u) : Cm l D cI cO z tP aK aV yX7_at cX7_at 3 (some .int) 0 0 [.int x, .int y, .int w] sh M (pI (fun r M1 => r = nI (49 * i + (7 * d + u)) ∧ M1 = M)) := by
  refine cm_intro (lv0 := [some (.int x), some (.int y), some (.int w)]) (by decide) rfl (Nat.le_of_ble_eq_true rfl) rfl (fun p e s m below meth c C => ?_)
  refine g_bipush C bp_49 dX7_at_0 (n := 2) rfl ?_
  refine g_iload0 C dX7_at_2 (n := 3) rfl ?_
  refine g_imul C dX7_at_3 (n := 4) rfl ?_
  refine g_bipush C bp_7 dX7_at_4 (n := 6) rfl ?_
  refine g_iload1 C dX7_at_6 (n := 7) rfl ?_
  refine g_imul C dX7_at_7 (n := 8) rfl ?_
  refine g_iadd C dX7_at_8 (n := 9) rfl ?_
  refine g_iload2 C dX7_at_9 (n := 10) rfl ?_
  refine g_iadd C dX7_at_10 (n := 11) rfl ?_
  refine r_I C dX7_at_11 ?_
  exact ⟨e_at hx hy hw, rfl⟩
set_option maxHeartbeats 4000000 in
set_option maxRecDepth 100000 in
theorem ct_X7_min {l : Launch} {D : va_G} {cI cO : ClassId} {z tP : Nat} {aK aV : Nat → Nat} (sh : Shp) (M : Mem) (a b : Nat) (x y : Int32) (hx : x = nI a) (hy : y = nI b) (ha : a < 2 ^ 31) (hb : b < 2 ^ 31) : Cm l D cI cO z tP aK aV yX7_min cX7_min 2 (some .int) 0 0 [.int x, .int y] sh M (pI (fun r M1 => r = nI (min a b) ∧ M1 = M)) := by
  refine cm_intro (lv0 := [some (.int x), some (.int y)]) (by decide) rfl (Nat.le_of_ble_eq_true rfl) rfl (fun p e s m below meth c C => ?_)
  refine g_iload0 C dX7_min_0 (n := 1) rfl ?_
  refine g_iload1 C dX7_min_1 (n := 2) rfl ?_
  refine g_icmp_ge C dX7_min_2 (t := 9) (by decide) (n := 5) rfl (fun c_2 => ?_) (fun c_2 => ?_)
  · have hfin := (i_min2 hx hy ha hb).2 c_2
    refine g_iload1 C dX7_min_9 (n := 10) rfl ?_
    refine r_I C dX7_min_10 ?_
    exact ⟨hfin, rfl⟩
  · have hfin := (i_min2 hx hy ha hb).1 c_2
    refine g_iload0 C dX7_min_5 (n := 6) rfl ?_
    refine g_goto C dX7_min_6 (t := 10) (by decide) ?_
    refine r_I C dX7_min_10 ?_
    exact ⟨hfin, rfl⟩
set_option maxHeartbeats 4000000 in
set_option maxRecDepth 100000 in
theorem ct_X7_stays {l : Launch} {D : va_G} {cI cO : ClassId} {z tP : Nat} {aK aV : Nat → Nat} (M : Mem) (S : Spt) (i d u : Nat) (xi xd xu xt xr : Int32) (hMR : MR M S) (hs : wfS S) (hC : CT M 90 S (i + 1)) (hxi : xi = nI i) (hxd : xd = nI d) (hxu : xu = nI u) (hi : i < spn S) (hd : d ≤ 6) (hu : u ≤ dmy (spr S) d) (hxt : xt = nI (spt S)) (hxr : xr = nI (spr S)) : Cm l D cI cO z tP aK aV yX7_stays cX7_stays 7 (some .int) 3 65 [.ref (z + 80), .int xi, .int xd, .int xu, .int xt, .int xr] SH M (pI (fun r M1 => r = nI (stV S i d u) ∧ M1 = M)) := by
  refine cm_intro (lv0 := [some (.ref (z + 80)), some (.int xi), some (.int xd), some (.int xu), some (.int xt), some (.int xr), none]) (by decide) rfl (Nat.le_of_ble_eq_true rfl) rfl (fun p e s m below meth c C => ?_)
  have hn := hs.1
  have hdu := dmy_le (spr S) d
  have hc0 : M 82 i = spg S i := hMR.2.1 i hi
  have hi1 : xi + 1 = nI (i + 1) := by rw [hxi, nI_1]
  have hCi := hC (i + 1) (Nat.le_refl _) (by omega)
  refine g_aload0 C dX7_stays_0 (n := 1) rfl ?_
  refine kg_X7_13 C sh_80 rfl dX7_stays_1 (n := 4) rfl ?_
  refine g_iload1 C dX7_stays_4 (n := 5) rfl ?_
  refine g_iald C (j := i) sh_82 (by decide) (hxi) (by omega) dX7_stays_5 (n := 6) rfl ?_
  rw [hc0]
  refine g_istore6 C dX7_stays_6 (n := 8) rfl ?_
  refine g_iload3 C dX7_stays_8 (n := 9) rfl ?_
  refine g_if_le C dX7_stays_9 (t := 47) (by decide) (n := 12) rfl (fun c_9 => ?_) (fun c_9 => ?_)
  · have hu0 : u = 0 := by
      by_cases h : u = 0
      · exact h
      · exact absurd ((qlt (show (0 : Int32) = nI 0 from rfl) hxu (by decide) (by omega)).mpr (by omega)) c_9
    subst hu0
    refine g_iload6 C dX7_stays_47 (n := 49) rfl ?_
    refine kc_X7_54 C (ct_X7_isMark SH M (spg S i)) ⟨Nat.le_of_ble_eq_true rfl, Nat.le_of_ble_eq_true rfl⟩ ⟨Nat.zero_le _, Nat.zero_le _⟩ (Nat.le_of_ble_eq_true rfl) dX7_stays_49 (n := 52) rfl (fun r_49 M_49 h_49 => ?_)
    rw [h_49.1, h_49.2]
    refine g_if_ne C dX7_stays_52 (t := 85) (by decide) (n := 55) rfl (fun c_52 => ?_) (fun c_52 => ?_)
    · have hm := bI_n.mp c_52
      have hsm := st_mk (d := d) hs.2.2.1 hm
      refine g_iload2 C dX7_stays_85 (n := 86) rfl ?_
      refine g_if_le C dX7_stays_86 (t := 116) (by decide) (n := 89) rfl (fun c_86 => ?_) (fun c_86 => ?_)
      · have hd0 : ¬ 1 ≤ d := fun h => c_86 ((qlt (show (0 : Int32) = nI 0 from rfl) hxd (by decide) (by omega)).mpr (by omega))
        rw [if_neg (fun q => hd0 q.1)] at hsm
        refine g_iload2 C dX7_stays_116 (n := 117) rfl ?_
        refine g_bipush C bp_6 dX7_stays_117 (n := 119) rfl ?_
        refine g_icmp_ge C dX7_stays_119 (t := 151) (by decide) (n := 122) rfl (fun c_119 => ?_) (fun c_119 => ?_)
        · have w119 : ¬ d < 6 := fun h => c_119 ((qlt hxd (show (6 : Int32) = nI 6 from rfl) (by omega) (by decide)).mpr h)
          have hfin : (1000000 : Int32) = nI (stV S i d 0) := by
            rw [hsm]
            first
              | (rw [if_neg (fun q => w119 q.1)]; rfl)
              | (rw [if_neg (fun q => c_130 q.2)]; rfl)
          refine g_ldc C (v := 1000000) (gmem (i := 971) (by decide +kernel) (by decide +kernel)) dX7_stays_151 (n := 153) rfl ?_
          refine r_I C dX7_stays_153 ?_
          exact ⟨hfin, rfl⟩
        · have w119 : d < 6 := (qlt hxd (show (6 : Int32) = nI 6 from rfl) (by omega) (by decide)).mp c_119
          refine g_iload6 C dX7_stays_122 (n := 124) rfl ?_
          refine g_iload4 C dX7_stays_124 (n := 126) rfl ?_
          refine g_iload2 C dX7_stays_126 (n := 127) rfl ?_
          refine kc_X7_62 C (ct_X7_opener SH M (spt S) d _ _ hxt hxd hs.2.2.1 (by omega)) ⟨Nat.le_of_ble_eq_true rfl, Nat.le_of_ble_eq_true rfl⟩ ⟨Nat.zero_le _, Nat.zero_le _⟩ (Nat.le_of_ble_eq_true rfl) dX7_stays_127 (n := 130) rfl (fun r_127 M_127 h_127 => ?_)
          rw [h_127.1, h_127.2]
          refine g_icmp_ne C dX7_stays_130 (t := 151) (by decide) (n := 133) rfl (fun c_130 => ?_) (fun c_130 => ?_)
          · have _u := True.intro
            have hfin : (1000000 : Int32) = nI (stV S i d 0) := by
              rw [hsm]
              first
                | (rw [if_neg (fun q => w119 q.1)]; rfl)
                | (rw [if_neg (fun q => c_130 q.2)]; rfl)
            refine g_ldc C (v := 1000000) (gmem (i := 971) (by decide +kernel) (by decide +kernel)) dX7_stays_151 (n := 153) rfl ?_
            refine r_I C dX7_stays_153 ?_
            exact ⟨hfin, rfl⟩
          · have _u := True.intro
            refine g_aload0 C dX7_stays_133 (n := 134) rfl ?_
            refine kg_X7_37 C sh_80 rfl dX7_stays_134 (n := 137) rfl ?_
            refine g_iload1 C dX7_stays_137 (n := 138) rfl ?_
            refine g_iconst C ic_1 dX7_stays_138 (n := 139) rfl ?_
            refine g_iadd C dX7_stays_139 (n := 140) rfl ?_
            refine g_iload2 C dX7_stays_140 (n := 141) rfl ?_
            refine g_iconst C ic_1 dX7_stays_141 (n := 142) rfl ?_
            refine g_iadd C dX7_stays_142 (n := 143) rfl ?_
            refine g_iconst C ic_0 dX7_stays_143 (n := 144) rfl ?_
            refine kc_X7_131 C (ct_X7_at SH M (i + 1) (d + 1) 0 _ _ _ hi1 (by rw [hxd, nI_1]) nI_0.symm) ⟨Nat.le_of_ble_eq_true rfl, Nat.le_of_ble_eq_true rfl⟩ ⟨Nat.zero_le _, Nat.zero_le _⟩ (Nat.le_of_ble_eq_true rfl) dX7_stays_144 (n := 147) rfl (fun r_144 M_144 h_144 => ?_)
            rw [h_144.1, h_144.2]
            refine g_iald C (j := 49 * (i + 1) + (7 * (d + 1) + 0)) sh_90 (by decide) (rfl) (by omega) dX7_stays_147 (n := 148) rfl ?_
            have hfin : M 90 (49 * (i + 1) + (7 * (d + 1) + 0)) = nI (stV S i d 0) := by rw [hsm, if_pos ⟨w119, c_130⟩]; exact hCi (d + 1) (by omega) 0 (Nat.zero_le _)
            refine g_goto C dX7_stays_148 (t := 153) (by decide) ?_
            refine r_I C dX7_stays_153 ?_
            exact ⟨hfin, rfl⟩
      · have hd1 : 1 ≤ d := by
          have := (qlt (show (0 : Int32) = nI 0 from rfl) hxd (by decide) (by omega)).mp c_86
          omega
        refine g_iload6 C dX7_stays_89 (n := 91) rfl ?_
        refine g_iload4 C dX7_stays_91 (n := 93) rfl ?_
        refine g_iload2 C dX7_stays_93 (n := 94) rfl ?_
        refine kc_X7_119 C (ct_X7_closer SH M (spt S) d _ _ hxt hxd hs.2.2.1 (by omega)) ⟨Nat.le_of_ble_eq_true rfl, Nat.le_of_ble_eq_true rfl⟩ ⟨Nat.zero_le _, Nat.zero_le _⟩ (Nat.le_of_ble_eq_true rfl) dX7_stays_94 (n := 97) rfl (fun r_94 M_94 h_94 => ?_)
        rw [h_94.1, h_94.2]
        refine g_icmp_ne C dX7_stays_97 (t := 116) (by decide) (n := 100) rfl (fun c_97 => ?_) (fun c_97 => ?_)
        · rw [if_neg (fun q => c_97 q.2)] at hsm
          refine g_iload2 C dX7_stays_116 (n := 117) rfl ?_
          refine g_bipush C bp_6 dX7_stays_117 (n := 119) rfl ?_
          refine g_icmp_ge C dX7_stays_119 (t := 151) (by decide) (n := 122) rfl (fun c_119 => ?_) (fun c_119 => ?_)
          · have w119 : ¬ d < 6 := fun h => c_119 ((qlt hxd (show (6 : Int32) = nI 6 from rfl) (by omega) (by decide)).mpr h)
            have hfin : (1000000 : Int32) = nI (stV S i d 0) := by
              rw [hsm]
              first
                | (rw [if_neg (fun q => w119 q.1)]; rfl)
                | (rw [if_neg (fun q => c_130 q.2)]; rfl)
            refine g_ldc C (v := 1000000) (gmem (i := 971) (by decide +kernel) (by decide +kernel)) dX7_stays_151 (n := 153) rfl ?_
            refine r_I C dX7_stays_153 ?_
            exact ⟨hfin, rfl⟩
          · have w119 : d < 6 := (qlt hxd (show (6 : Int32) = nI 6 from rfl) (by omega) (by decide)).mp c_119
            refine g_iload6 C dX7_stays_122 (n := 124) rfl ?_
            refine g_iload4 C dX7_stays_124 (n := 126) rfl ?_
            refine g_iload2 C dX7_stays_126 (n := 127) rfl ?_
            refine kc_X7_62 C (ct_X7_opener SH M (spt S) d _ _ hxt hxd hs.2.2.1 (by omega)) ⟨Nat.le_of_ble_eq_true rfl, Nat.le_of_ble_eq_true rfl⟩ ⟨Nat.zero_le _, Nat.zero_le _⟩ (Nat.le_of_ble_eq_true rfl) dX7_stays_127 (n := 130) rfl (fun r_127 M_127 h_127 => ?_)
            rw [h_127.1, h_127.2]
            refine g_icmp_ne C dX7_stays_130 (t := 151) (by decide) (n := 133) rfl (fun c_130 => ?_) (fun c_130 => ?_)
            · have _u := True.intro
              have hfin : (1000000 : Int32) = nI (stV S i d 0) := by
                rw [hsm]
                first
                  | (rw [if_neg (fun q => w119 q.1)]; rfl)
                  | (rw [if_neg (fun q => c_130 q.2)]; rfl)
              refine g_ldc C (v := 1000000) (gmem (i := 971) (by decide +kernel) (by decide +kernel)) dX7_stays_151 (n := 153) rfl ?_
              refine r_I C dX7_stays_153 ?_
              exact ⟨hfin, rfl⟩
            · have _u := True.intro
              refine g_aload0 C dX7_stays_133 (n := 134) rfl ?_
              refine kg_X7_37 C sh_80 rfl dX7_stays_134 (n := 137) rfl ?_
              refine g_iload1 C dX7_stays_137 (n := 138) rfl ?_
              refine g_iconst C ic_1 dX7_stays_138 (n := 139) rfl ?_
              refine g_iadd C dX7_stays_139 (n := 140) rfl ?_
              refine g_iload2 C dX7_stays_140 (n := 141) rfl ?_
              refine g_iconst C ic_1 dX7_stays_141 (n := 142) rfl ?_
              refine g_iadd C dX7_stays_142 (n := 143) rfl ?_
              refine g_iconst C ic_0 dX7_stays_143 (n := 144) rfl ?_
              refine kc_X7_131 C (ct_X7_at SH M (i + 1) (d + 1) 0 _ _ _ hi1 (by rw [hxd, nI_1]) nI_0.symm) ⟨Nat.le_of_ble_eq_true rfl, Nat.le_of_ble_eq_true rfl⟩ ⟨Nat.zero_le _, Nat.zero_le _⟩ (Nat.le_of_ble_eq_true rfl) dX7_stays_144 (n := 147) rfl (fun r_144 M_144 h_144 => ?_)
              rw [h_144.1, h_144.2]
              refine g_iald C (j := 49 * (i + 1) + (7 * (d + 1) + 0)) sh_90 (by decide) (rfl) (by omega) dX7_stays_147 (n := 148) rfl ?_
              have hfin : M 90 (49 * (i + 1) + (7 * (d + 1) + 0)) = nI (stV S i d 0) := by rw [hsm, if_pos ⟨w119, c_130⟩]; exact hCi (d + 1) (by omega) 0 (Nat.zero_le _)
              refine g_goto C dX7_stays_148 (t := 153) (by decide) ?_
              refine r_I C dX7_stays_153 ?_
              exact ⟨hfin, rfl⟩
        · rw [if_pos ⟨hd1, c_97⟩] at hsm
          refine g_aload0 C dX7_stays_100 (n := 101) rfl ?_
          refine kg_X7_37 C sh_80 rfl dX7_stays_101 (n := 104) rfl ?_
          refine g_iload1 C dX7_stays_104 (n := 105) rfl ?_
          refine g_iconst C ic_1 dX7_stays_105 (n := 106) rfl ?_
          refine g_iadd C dX7_stays_106 (n := 107) rfl ?_
          refine g_iload2 C dX7_stays_107 (n := 108) rfl ?_
          refine g_iconst C ic_1 dX7_stays_108 (n := 109) rfl ?_
          refine g_isub C dX7_stays_109 (n := 110) rfl ?_
          refine g_iconst C ic_0 dX7_stays_110 (n := 111) rfl ?_
          refine kc_X7_131 C (ct_X7_at SH M (i + 1) (d - 1) 0 _ _ _ hi1 (e_sub hxd (show (1 : Int32) = nI 1 from rfl) hd1) nI_0.symm) ⟨Nat.le_of_ble_eq_true rfl, Nat.le_of_ble_eq_true rfl⟩ ⟨Nat.zero_le _, Nat.zero_le _⟩ (Nat.le_of_ble_eq_true rfl) dX7_stays_111 (n := 114) rfl (fun r_111 M_111 h_111 => ?_)
          rw [h_111.1, h_111.2]
          refine g_iald C (j := 49 * (i + 1) + (7 * (d - 1) + 0)) sh_90 (by decide) (rfl) (by omega) dX7_stays_114 (n := 115) rfl ?_
          refine r_I C dX7_stays_115 ?_
          exact ⟨by rw [hsm]; exact hCi (d - 1) (by omega) 0 (Nat.zero_le _), rfl⟩
    · have hm : ¬ isMk (spg S i) = true := fun h => c_52 |> fun q => by rw [h] at q; exact absurd q (by decide)
      have hsn := st_no (d := d) hs hi hm
      refine g_aload0 C dX7_stays_55 (n := 56) rfl ?_
      refine kg_X7_37 C sh_80 rfl dX7_stays_56 (n := 59) rfl ?_
      refine g_iload1 C dX7_stays_59 (n := 60) rfl ?_
      refine g_iconst C ic_1 dX7_stays_60 (n := 61) rfl ?_
      refine g_iadd C dX7_stays_61 (n := 62) rfl ?_
      refine g_iload2 C dX7_stays_62 (n := 63) rfl ?_
      refine g_iload6 C dX7_stays_63 (n := 65) rfl ?_
      refine g_bipush C bp_124 dX7_stays_65 (n := 67) rfl ?_
      refine g_icmp_ne C dX7_stays_67 (t := 79) (by decide) (n := 70) rfl (fun c_67 => ?_) (fun c_67 => ?_)
      · rw [if_neg c_67] at hsn
        have hdz : (0 : Int32) = nI 0 := nI_0.symm
        refine g_iconst C ic_0 dX7_stays_79 (n := 80) rfl ?_
        refine kc_X7_131 C (ct_X7_at SH M (i + 1) d _ _ _ _ hi1 hxd hdz) ⟨Nat.le_of_ble_eq_true rfl, Nat.le_of_ble_eq_true rfl⟩ ⟨Nat.zero_le _, Nat.zero_le _⟩ (Nat.le_of_ble_eq_true rfl) dX7_stays_80 (n := 83) rfl (fun r_80 M_80 h_80 => ?_)
        rw [h_80.1, h_80.2]
        refine g_iald C (j := _) sh_90 (by decide) (rfl) (by omega) dX7_stays_83 (n := 84) rfl ?_
        refine r_I C dX7_stays_84 ?_
        exact ⟨by rw [hsn]; exact hCi d hd _ (by first | exact Nat.zero_le _ | exact Nat.le_refl _), rfl⟩
      · rw [if_pos c_67] at hsn
        refine g_iload5 C dX7_stays_70 (n := 72) rfl ?_
        refine g_iload2 C dX7_stays_72 (n := 73) rfl ?_
        refine kc_X7_116 C (ct_X7_dueMany SH M (spr S) d _ _ hxr hxd hs.2.2.2.1 (by omega)) ⟨Nat.le_of_ble_eq_true rfl, Nat.le_of_ble_eq_true rfl⟩ ⟨Nat.zero_le _, Nat.zero_le _⟩ (Nat.le_of_ble_eq_true rfl) dX7_stays_73 (n := 76) rfl (fun r_73 M_73 h_73 => ?_)
        rw [h_73.1, h_73.2]
        have hdz : nI (dmy (spr S) d) = nI (dmy (spr S) d) := rfl
        refine g_goto C dX7_stays_76 (t := 80) (by decide) ?_
        refine kc_X7_131 C (ct_X7_at SH M (i + 1) d _ _ _ _ hi1 hxd hdz) ⟨Nat.le_of_ble_eq_true rfl, Nat.le_of_ble_eq_true rfl⟩ ⟨Nat.zero_le _, Nat.zero_le _⟩ (Nat.le_of_ble_eq_true rfl) dX7_stays_80 (n := 83) rfl (fun r_80 M_80 h_80 => ?_)
        rw [h_80.1, h_80.2]
        refine g_iald C (j := _) sh_90 (by decide) (rfl) (by omega) dX7_stays_83 (n := 84) rfl ?_
        refine r_I C dX7_stays_84 ?_
        exact ⟨by rw [hsn]; exact hCi d hd _ (by first | exact Nat.zero_le _ | exact Nat.le_refl _), rfl⟩
  · have hu1 : 1 ≤ u := by
      have := (qlt (show (0 : Int32) = nI 0 from rfl) hxu (by decide) (by omega)).mp c_9
      omega
    refine g_iload6 C dX7_stays_12 (n := 14) rfl ?_
    refine g_iload4 C dX7_stays_14 (n := 16) rfl ?_
    refine g_iload5 C dX7_stays_16 (n := 18) rfl ?_
    refine g_iload2 C dX7_stays_18 (n := 19) rfl ?_
    refine g_iload3 C dX7_stays_19 (n := 20) rfl ?_
    refine kc_X7_108 C (ct_X7_dueSign SH M (spt S) (spr S) d u _ _ _ _ hxt hxr hxd hxu hs.2.2.1 hs.2.2.2.1 (by omega) hu1 hu) ⟨Nat.le_of_ble_eq_true rfl, Nat.le_of_ble_eq_true rfl⟩ ⟨Nat.zero_le _, Nat.zero_le _⟩ (Nat.le_of_ble_eq_true rfl) dX7_stays_20 (n := 23) rfl (fun r_20 M_20 h_20 => ?_)
    rw [h_20.1, h_20.2]
    refine g_icmp_ne C dX7_stays_23 (t := 44) (by decide) (n := 26) rfl (fun c_23 => ?_) (fun c_23 => ?_)
    · have hfin : (1000000 : Int32) = nI (stV S i d u) := by rw [st_u (by omega), if_neg c_23]; rfl
      refine g_ldc C (v := 1000000) (gmem (i := 971) (by decide +kernel) (by decide +kernel)) dX7_stays_44 (n := 46) rfl ?_
      refine r_I C dX7_stays_46 ?_
      exact ⟨hfin, rfl⟩
    · have _u := True.intro
      refine g_aload0 C dX7_stays_26 (n := 27) rfl ?_
      refine kg_X7_37 C sh_80 rfl dX7_stays_27 (n := 30) rfl ?_
      refine g_iload1 C dX7_stays_30 (n := 31) rfl ?_
      refine g_iconst C ic_1 dX7_stays_31 (n := 32) rfl ?_
      refine g_iadd C dX7_stays_32 (n := 33) rfl ?_
      refine g_iload2 C dX7_stays_33 (n := 34) rfl ?_
      refine g_iload3 C dX7_stays_34 (n := 35) rfl ?_
      refine g_iconst C ic_1 dX7_stays_35 (n := 36) rfl ?_
      refine g_isub C dX7_stays_36 (n := 37) rfl ?_
      refine kc_X7_131 C (ct_X7_at SH M (i + 1) d (u - 1) _ _ _ hi1 hxd (e_sub hxu (show (1 : Int32) = nI 1 from rfl) hu1)) ⟨Nat.le_of_ble_eq_true rfl, Nat.le_of_ble_eq_true rfl⟩ ⟨Nat.zero_le _, Nat.zero_le _⟩ (Nat.le_of_ble_eq_true rfl) dX7_stays_37 (n := 40) rfl (fun r_37 M_37 h_37 => ?_)
      rw [h_37.1, h_37.2]
      refine g_iald C (j := 49 * (i + 1) + (7 * d + (u - 1))) sh_90 (by decide) (rfl) (by omega) dX7_stays_40 (n := 41) rfl ?_
      have hfin : M 90 (49 * (i + 1) + (7 * d + (u - 1))) = nI (stV S i d u) := by rw [st_u (by omega), if_pos c_23]; exact hCi d hd (u - 1) (by omega)
      refine g_goto C dX7_stays_41 (t := 46) (by decide) ?_
      refine r_I C dX7_stays_46 ?_
      exact ⟨hfin, rfl⟩
set_option maxHeartbeats 4000000 in
set_option maxRecDepth 100000 in
theorem ct_X7_taken {l : Launch} {D : va_G} {cI cO : ClassId} {z tP : Nat} {aK aV : Nat → Nat} (M : Mem) (S : Spt) (i d u : Nat) (xi xd xu : Int32) (hMR : MR M S) (hs : wfS S) (hC : CT M 90 S (i + 1)) (hxi : xi = nI i) (hxd : xd = nI d) (hxu : xu = nI u) (hi : i < spn S) (hd : d ≤ 6) (hu : u ≤ dmy (spr S) d) : Cm l D cI cO z tP aK aV yX7_taken cX7_taken 4 (some .int) 1 22 [.ref (z + 80), .int xi, .int xd, .int xu] SH M (pI (fun r M1 => r = nI (tkV S i d u) ∧ M1 = M)) := by
  refine cm_intro (lv0 := [some (.ref (z + 80)), some (.int xi), some (.int xd), some (.int xu)]) (by decide) rfl (Nat.le_of_ble_eq_true rfl) rfl (fun p e s m below meth c C => ?_)
  have hn := hs.1
  have hdu := dmy_le (spr S) d
  have hc0 : M 82 i = spg S i := hMR.2.1 i hi
  have hi1 : xi + 1 = nI (i + 1) := by rw [hxi, nI_1]
  have hCi := hC (i + 1) (Nat.le_refl _) (by omega)
  refine g_aload0 C dX7_taken_0 (n := 1) rfl ?_
  refine kg_X7_13 C sh_80 rfl dX7_taken_1 (n := 4) rfl ?_
  refine g_iload1 C dX7_taken_4 (n := 5) rfl ?_
  refine g_iald C (j := i) sh_82 (by decide) (hxi) (by omega) dX7_taken_5 (n := 6) rfl ?_
  refine kc_X7_54 C (ct_X7_isMark SH M (M 82 i)) ⟨Nat.le_of_ble_eq_true rfl, Nat.le_of_ble_eq_true rfl⟩ ⟨Nat.zero_le _, Nat.zero_le _⟩ (Nat.le_of_ble_eq_true rfl) dX7_taken_6 (n := 9) rfl (fun r_6 M_6 h_6 => ?_)
  rw [h_6.1, h_6.2, hc0]
  refine g_if_eq C dX7_taken_9 (t := 36) (by decide) (n := 12) rfl (fun c_9 => ?_) (fun c_9 => ?_)
  · have hfin : (1000000 : Int32) = nI (tkV S i d u) := by unfold tkV; rw [if_neg (fun h => by rw [bI_0.mp c_9] at h; cases h)]; rfl
    refine g_ldc C (v := 1000000) (gmem (i := 971) (by decide +kernel) (by decide +kernel)) dX7_taken_36 (n := 38) rfl ?_
    refine r_I C dX7_taken_38 ?_
    exact ⟨hfin, rfl⟩
  · have hm := bI_n.mp c_9
    refine g_aload0 C dX7_taken_12 (n := 13) rfl ?_
    refine kg_X7_13 C sh_80 rfl dX7_taken_13 (n := 16) rfl ?_
    refine g_bipush C bp_124 dX7_taken_16 (n := 18) rfl ?_
    refine g_iald C (j := 124) sh_82 (by decide) (rfl) (by omega) dX7_taken_18 (n := 19) rfl ?_
    refine g_aload0 C dX7_taken_19 (n := 20) rfl ?_
    refine kg_X7_37 C sh_80 rfl dX7_taken_20 (n := 23) rfl ?_
    refine g_iload1 C dX7_taken_23 (n := 24) rfl ?_
    refine g_iconst C ic_1 dX7_taken_24 (n := 25) rfl ?_
    refine g_iadd C dX7_taken_25 (n := 26) rfl ?_
    refine g_iload2 C dX7_taken_26 (n := 27) rfl ?_
    refine g_iload3 C dX7_taken_27 (n := 28) rfl ?_
    refine kc_X7_131 C (ct_X7_at SH M (i + 1) d u _ _ _ hi1 hxd hxu) ⟨Nat.le_of_ble_eq_true rfl, Nat.le_of_ble_eq_true rfl⟩ ⟨Nat.zero_le _, Nat.zero_le _⟩ (Nat.le_of_ble_eq_true rfl) dX7_taken_28 (n := 31) rfl (fun r_28 M_28 h_28 => ?_)
    rw [h_28.1, h_28.2]
    refine g_iald C (j := 49 * (i + 1) + (7 * d + u)) sh_90 (by decide) (rfl) (by omega) dX7_taken_31 (n := 32) rfl ?_
    refine g_iadd C dX7_taken_32 (n := 33) rfl ?_
    have hfin : M 82 124 + M 90 (49 * (i + 1) + (7 * d + u)) = nI (tkV S i d u) := by unfold tkV; rw [if_pos hm]; exact e_add (hMR.2.2 1 (by decide)) (hCi d hd u hu)
    refine g_goto C dX7_taken_33 (t := 38) (by decide) ?_
    refine r_I C dX7_taken_38 ?_
    exact ⟨hfin, rfl⟩
set_option maxHeartbeats 4000000 in
set_option maxRecDepth 100000 in
theorem ct0_X7_becomes {l : Launch} {D : va_G} {cI cO : ClassId} {z tP : Nat} {aK aV : Nat → Nat} (M : Mem) (S : Spt) (i d u : Nat) (xi xd xu : Int32) (hMR : MR M S) (hs : wfS S) (hC : CT M 90 S (i + 1)) (hxi : xi = nI i) (hxd : xd = nI d) (hxu : xu = nI u) (hi : i < spn S) (hd : d ≤ 6) (hu : u ≤ dmy (spr S) d) : Cm l D cI cO z tP aK aV yX7_becomes cX7_becomes 6 (some .int) 1 25 [.ref (z + 80), .int xi, .int xd, .int xu, .int 0] SH M (pI (fun r M1 => r = nI (b0V S i d u) ∧ M1 = M)) := by
  refine cm_intro (lv0 := [some (.ref (z + 80)), some (.int xi), some (.int xd), some (.int xu), some (.int 0), none]) (by decide) rfl (Nat.le_of_ble_eq_true rfl) rfl (fun p e s m below meth c C => ?_)
  have hn := hs.1
  have hdu := dmy_le (spr S) d
  have hc0 : M 82 i = spg S i := hMR.2.1 i hi
  have hi1 : xi + 1 = nI (i + 1) := by rw [hxi, nI_1]
  have hCi := hC (i + 1) (Nat.le_refl _) (by omega)
  have J_54 : ∀ (b5 : Bool) (xb : Int32), (xb = bI b5) → (b5 = true ↔ (isMk (spg S i) = true ∧ u ≠ 0)) → G p l e ({ frames := 1, cells := 0, slots := 0, locals := 25 }) s m ([.ref (z + 80), .int xi, .int xd, .int xu, .int 0] : List Value).toArray below meth c D cI cO z 6 (QM below D cI cO z ([.ref (z + 80), .int xi, .int xd, .int xu, .int 0] : List Value).toArray s SH (pI (fun r M1 => r = nI (b0V S i d u) ∧ M1 = M))) 0 0 SH M 54 [some (.ref (z + 80)), some (.int xi), some (.int xd), some (.int xu), some (.int 0), none] [.int xb] := by
    intro b5 xb hxb hb5
    refine g_istore5 C dX7_becomes_54 (n := 56) rfl ?_
    refine g_iload5 C dX7_becomes_56 (n := 58) rfl ?_
    refine g_if_eq C dX7_becomes_58 (t := 99) (by decide) (n := 61) rfl (fun c_58 => ?_) (fun c_58 => ?_)
    · have hfin : (1000000 : Int32) = nI (b0V S i d u) := by
        unfold b0V
        rw [if_neg (fun h => by have := hb5.mpr h; rw [bI_0.mp (hxb.symm.trans c_58)] at this; cases this)]; rfl
      refine g_ldc C (v := 1000000) (gmem (i := 971) (by decide +kernel) (by decide +kernel)) dX7_becomes_99 (n := 101) rfl ?_
      refine r_I C dX7_becomes_101 ?_
      exact ⟨hfin, rfl⟩
    · have hcd := hb5.mp (bI_n.mp (fun h => c_58 (hxb.trans h)))
      have hu0c := hcd.2
      refine g_aload0 C dX7_becomes_61 (n := 62) rfl ?_
      refine kg_X7_13 C sh_80 rfl dX7_becomes_62 (n := 65) rfl ?_
      refine g_bipush C bp_125 dX7_becomes_65 (n := 67) rfl ?_
      refine g_iald C (j := 125) sh_82 (by decide) (rfl) (by omega) dX7_becomes_67 (n := 68) rfl ?_
      refine g_aload0 C dX7_becomes_68 (n := 69) rfl ?_
      refine kg_X7_37 C sh_80 rfl dX7_becomes_69 (n := 72) rfl ?_
      refine g_iload1 C dX7_becomes_72 (n := 73) rfl ?_
      refine g_iconst C ic_1 dX7_becomes_73 (n := 74) rfl ?_
      refine g_iadd C dX7_becomes_74 (n := 75) rfl ?_
      refine g_iload2 C dX7_becomes_75 (n := 76) rfl ?_
      refine g_iload4 C dX7_becomes_76 (n := 78) rfl ?_
      refine g_iadd C dX7_becomes_78 (n := 79) rfl ?_
      refine g_iload4 C dX7_becomes_79 (n := 81) rfl ?_
      refine g_if_ne C dX7_becomes_81 (t := 90) (by decide) (n := 84) rfl (fun c_81 => ?_) (fun c_81 => ?_)
      · exact absurd rfl c_81
      · have _u := True.intro
        refine g_iload3 C dX7_becomes_84 (n := 85) rfl ?_
        refine g_iconst C ic_1 dX7_becomes_85 (n := 86) rfl ?_
        refine g_isub C dX7_becomes_86 (n := 87) rfl ?_
        refine g_goto C dX7_becomes_87 (t := 91) (by decide) ?_
        refine kc_X7_131 C (ct_X7_at SH M (i + 1) d (u - 1) _ _ _ hi1 (by rw [Int32.add_zero]; exact hxd) (e_sub hxu (show (1 : Int32) = nI 1 from rfl) (by omega))) ⟨Nat.le_of_ble_eq_true rfl, Nat.le_of_ble_eq_true rfl⟩ ⟨Nat.zero_le _, Nat.zero_le _⟩ (Nat.le_of_ble_eq_true rfl) dX7_becomes_91 (n := 94) rfl (fun r_91 M_91 h_91 => ?_)
        rw [h_91.1, h_91.2]
        refine g_iald C (j := 49 * (i + 1) + (7 * d + (u - 1))) sh_90 (by decide) (rfl) (by omega) dX7_becomes_94 (n := 95) rfl ?_
        refine g_iadd C dX7_becomes_95 (n := 96) rfl ?_
        have hfin : M 82 125 + M 90 (49 * (i + 1) + (7 * d + (u - 1))) = nI (b0V S i d u) := by unfold b0V; rw [if_pos hcd]; exact e_add (hMR.2.2 2 (by decide)) (hCi d hd (u - 1) (by omega))
        refine g_goto C dX7_becomes_96 (t := 101) (by decide) ?_
        refine r_I C dX7_becomes_101 ?_
        exact ⟨hfin, rfl⟩
  refine g_aload0 C dX7_becomes_0 (n := 1) rfl ?_
  refine kg_X7_13 C sh_80 rfl dX7_becomes_1 (n := 4) rfl ?_
  refine g_iload1 C dX7_becomes_4 (n := 5) rfl ?_
  refine g_iald C (j := i) sh_82 (by decide) (hxi) (by omega) dX7_becomes_5 (n := 6) rfl ?_
  refine kc_X7_54 C (ct_X7_isMark SH M (M 82 i)) ⟨Nat.le_of_ble_eq_true rfl, Nat.le_of_ble_eq_true rfl⟩ ⟨Nat.zero_le _, Nat.zero_le _⟩ (Nat.le_of_ble_eq_true rfl) dX7_becomes_6 (n := 9) rfl (fun r_6 M_6 h_6 => ?_)
  rw [h_6.1, h_6.2, hc0]
  refine g_if_eq C dX7_becomes_9 (t := 53) (by decide) (n := 12) rfl (fun c_9 => ?_) (fun c_9 => ?_)
  · have hb : (0 : Int32) = bI false ∧ (false = true ↔ (isMk (spg S i) = true ∧ u ≠ 0)) := ⟨rfl, fun h => Bool.noConfusion h, fun h => by rw [bI_0.mp c_9] at h; exact h.1⟩
    refine g_iconst C ic_0 dX7_becomes_53 (n := 54) rfl ?_
    exact J_54 _ _ hb.1 hb.2
  · have hm := bI_n.mp c_9
    refine g_iload4 C dX7_becomes_12 (n := 14) rfl ?_
    refine g_if_ne C dX7_becomes_14 (t := 21) (by decide) (n := 17) rfl (fun c_14 => ?_) (fun c_14 => ?_)
    · exact absurd rfl c_14
    · have _u := True.intro
      refine g_iconst C ic_1 dX7_becomes_17 (n := 18) rfl ?_
      refine g_goto C dX7_becomes_18 (t := 22) (by decide) ?_
      refine g_iload3 C dX7_becomes_22 (n := 23) rfl ?_
      refine g_if_le C dX7_becomes_23 (t := 30) (by decide) (n := 26) rfl (fun c_23 => ?_) (fun c_23 => ?_)
      · have hu0 : u = 0 := by
          by_cases h : u = 0
          · exact h
          · exact absurd ((qlt (show (0 : Int32) = nI 0 from rfl) hxu (by decide) (by omega)).mpr (by omega)) c_23
        refine g_iconst C ic_0 dX7_becomes_30 (n := 31) rfl ?_
        refine g_icmp_ne C dX7_becomes_31 (t := 53) (by decide) (n := 34) rfl (fun c_31 => ?_) (fun c_31 => ?_)
        · have hno : (isMk (spg S i) = true ∧ u ≠ 0) → False := fun h => by
            first
              | exact c_31 rfl
              | exact h.2 hu0
          have hb : (0 : Int32) = bI false ∧ (false = true ↔ (isMk (spg S i) = true ∧ u ≠ 0)) := ⟨rfl, fun h => Bool.noConfusion h, fun h => absurd (show False from hno h) id⟩
          refine g_iconst C ic_0 dX7_becomes_53 (n := 54) rfl ?_
          exact J_54 _ _ hb.1 hb.2
        · have hu1b : 1 ≤ u := by
            first
              | exact hu1
              | exact absurd c_31 (by decide)
          refine g_iload2 C dX7_becomes_34 (n := 35) rfl ?_
          refine g_iload4 C dX7_becomes_35 (n := 37) rfl ?_
          refine g_iadd C dX7_becomes_37 (n := 38) rfl ?_
          refine g_i2l C dX7_becomes_38 (n := 39) rfl ?_
          refine g_lconst C (v := Int32.toInt64 0) (by decide) dX7_becomes_39 (n := 40) rfl ?_
          refine g_ldc2 C kl_X7_129 dX7_becomes_40 (n := 43) rfl ?_
          refine kc_X7_50 C (ct_X7_in SH M (xd + 0) 0 6) ⟨Nat.le_of_ble_eq_true rfl, Nat.le_of_ble_eq_true rfl⟩ ⟨Nat.zero_le _, Nat.zero_le _⟩ (Nat.le_of_ble_eq_true rfl) dX7_becomes_43 (n := 46) rfl (fun r_43 M_43 h_43 => ?_)
          rw [h_43.1, h_43.2]
          refine g_if_eq C dX7_becomes_46 (t := 53) (by decide) (n := 49) rfl (fun c_46 => ?_) (fun c_46 => ?_)
          · have hno : (isMk (spg S i) = true ∧ u ≠ 0) → False := fun h => by
              rcases inn.mp c_46 with q | q
              · rw [Int32.add_zero, hxd] at q; exact nI_pos (by omega) q
              · rw [Int32.add_zero] at q; have := (qlt (show (6 : Int32) = nI 6 from rfl) hxd (by decide) (by omega)).mp q; omega
            have hb : (0 : Int32) = bI false ∧ (false = true ↔ (isMk (spg S i) = true ∧ u ≠ 0)) := ⟨rfl, fun h => Bool.noConfusion h, fun h => absurd (show False from hno h) id⟩
            refine g_iconst C ic_0 dX7_becomes_53 (n := 54) rfl ?_
            exact J_54 _ _ hb.1 hb.2
          · have hb : (1 : Int32) = bI true ∧ (true = true ↔ (isMk (spg S i) = true ∧ u ≠ 0)) := ⟨rfl, fun _ => ⟨hm, by omega⟩, fun _ => rfl⟩
            refine g_iconst C ic_1 dX7_becomes_49 (n := 50) rfl ?_
            refine g_goto C dX7_becomes_50 (t := 54) (by decide) ?_
            exact J_54 _ _ hb.1 hb.2
      · have hu1 : 1 ≤ u := by
          have := (qlt (show (0 : Int32) = nI 0 from rfl) hxu (by decide) (by omega)).mp c_23
          omega
        refine g_iconst C ic_1 dX7_becomes_26 (n := 27) rfl ?_
        refine g_goto C dX7_becomes_27 (t := 31) (by decide) ?_
        refine g_icmp_ne C dX7_becomes_31 (t := 53) (by decide) (n := 34) rfl (fun c_31 => ?_) (fun c_31 => ?_)
        · have hno : (isMk (spg S i) = true ∧ u ≠ 0) → False := fun h => by
            first
              | exact c_31 rfl
              | exact h.2 hu0
          have hb : (0 : Int32) = bI false ∧ (false = true ↔ (isMk (spg S i) = true ∧ u ≠ 0)) := ⟨rfl, fun h => Bool.noConfusion h, fun h => absurd (show False from hno h) id⟩
          refine g_iconst C ic_0 dX7_becomes_53 (n := 54) rfl ?_
          exact J_54 _ _ hb.1 hb.2
        · have hu1b : 1 ≤ u := by
            first
              | exact hu1
              | exact absurd c_31 (by decide)
          refine g_iload2 C dX7_becomes_34 (n := 35) rfl ?_
          refine g_iload4 C dX7_becomes_35 (n := 37) rfl ?_
          refine g_iadd C dX7_becomes_37 (n := 38) rfl ?_
          refine g_i2l C dX7_becomes_38 (n := 39) rfl ?_
          refine g_lconst C (v := Int32.toInt64 0) (by decide) dX7_becomes_39 (n := 40) rfl ?_
          refine g_ldc2 C kl_X7_129 dX7_becomes_40 (n := 43) rfl ?_
          refine kc_X7_50 C (ct_X7_in SH M (xd + 0) 0 6) ⟨Nat.le_of_ble_eq_true rfl, Nat.le_of_ble_eq_true rfl⟩ ⟨Nat.zero_le _, Nat.zero_le _⟩ (Nat.le_of_ble_eq_true rfl) dX7_becomes_43 (n := 46) rfl (fun r_43 M_43 h_43 => ?_)
          rw [h_43.1, h_43.2]
          refine g_if_eq C dX7_becomes_46 (t := 53) (by decide) (n := 49) rfl (fun c_46 => ?_) (fun c_46 => ?_)
          · have hno : (isMk (spg S i) = true ∧ u ≠ 0) → False := fun h => by
              rcases inn.mp c_46 with q | q
              · rw [Int32.add_zero, hxd] at q; exact nI_pos (by omega) q
              · rw [Int32.add_zero] at q; have := (qlt (show (6 : Int32) = nI 6 from rfl) hxd (by decide) (by omega)).mp q; omega
            have hb : (0 : Int32) = bI false ∧ (false = true ↔ (isMk (spg S i) = true ∧ u ≠ 0)) := ⟨rfl, fun h => Bool.noConfusion h, fun h => absurd (show False from hno h) id⟩
            refine g_iconst C ic_0 dX7_becomes_53 (n := 54) rfl ?_
            exact J_54 _ _ hb.1 hb.2
          · have hb : (1 : Int32) = bI true ∧ (true = true ↔ (isMk (spg S i) = true ∧ u ≠ 0)) := ⟨rfl, fun _ => ⟨hm, by omega⟩, fun _ => rfl⟩
            refine g_iconst C ic_1 dX7_becomes_49 (n := 50) rfl ?_
            refine g_goto C dX7_becomes_50 (t := 54) (by decide) ?_
            exact J_54 _ _ hb.1 hb.2
set_option maxHeartbeats 4000000 in
set_option maxRecDepth 100000 in
theorem ctp_X7_becomes {l : Launch} {D : va_G} {cI cO : ClassId} {z tP : Nat} {aK aV : Nat → Nat} (M : Mem) (S : Spt) (i d u : Nat) (xi xd xu : Int32) (hMR : MR M S) (hs : wfS S) (hC : CT M 90 S (i + 1)) (hxi : xi = nI i) (hxd : xd = nI d) (hxu : xu = nI u) (hi : i < spn S) (hd : d ≤ 6) (hu : u ≤ dmy (spr S) d) : Cm l D cI cO z tP aK aV yX7_becomes cX7_becomes 6 (some .int) 1 25 [.ref (z + 80), .int xi, .int xd, .int xu, .int 1] SH M (pI (fun r M1 => r = nI (bpV S i d u) ∧ M1 = M)) := by
  refine cm_intro (lv0 := [some (.ref (z + 80)), some (.int xi), some (.int xd), some (.int xu), some (.int 1), none]) (by decide) rfl (Nat.le_of_ble_eq_true rfl) rfl (fun p e s m below meth c C => ?_)
  have hn := hs.1
  have hdu := dmy_le (spr S) d
  have hc0 : M 82 i = spg S i := hMR.2.1 i hi
  have hi1 : xi + 1 = nI (i + 1) := by rw [hxi, nI_1]
  have hCi := hC (i + 1) (Nat.le_refl _) (by omega)
  have J_54 : ∀ (b5 : Bool) (xb : Int32), (xb = bI b5) → (b5 = true ↔ (isMk (spg S i) = true ∧ u = 0 ∧ d < 6)) → G p l e ({ frames := 1, cells := 0, slots := 0, locals := 25 }) s m ([.ref (z + 80), .int xi, .int xd, .int xu, .int 1] : List Value).toArray below meth c D cI cO z 6 (QM below D cI cO z ([.ref (z + 80), .int xi, .int xd, .int xu, .int 1] : List Value).toArray s SH (pI (fun r M1 => r = nI (bpV S i d u) ∧ M1 = M))) 0 0 SH M 54 [some (.ref (z + 80)), some (.int xi), some (.int xd), some (.int xu), some (.int 1), none] [.int xb] := by
    intro b5 xb hxb hb5
    refine g_istore5 C dX7_becomes_54 (n := 56) rfl ?_
    refine g_iload5 C dX7_becomes_56 (n := 58) rfl ?_
    refine g_if_eq C dX7_becomes_58 (t := 99) (by decide) (n := 61) rfl (fun c_58 => ?_) (fun c_58 => ?_)
    · have hfin : (1000000 : Int32) = nI (bpV S i d u) := by
        unfold bpV
        rw [if_neg (fun h => by have := hb5.mpr h; rw [bI_0.mp (hxb.symm.trans c_58)] at this; cases this)]; rfl
      refine g_ldc C (v := 1000000) (gmem (i := 971) (by decide +kernel) (by decide +kernel)) dX7_becomes_99 (n := 101) rfl ?_
      refine r_I C dX7_becomes_101 ?_
      exact ⟨hfin, rfl⟩
    · have hcd := hb5.mp (bI_n.mp (fun h => c_58 (hxb.trans h)))
      have hu0c := hcd.2.1
      have hdc := hcd.2.2
      refine g_aload0 C dX7_becomes_61 (n := 62) rfl ?_
      refine kg_X7_13 C sh_80 rfl dX7_becomes_62 (n := 65) rfl ?_
      refine g_bipush C bp_125 dX7_becomes_65 (n := 67) rfl ?_
      refine g_iald C (j := 125) sh_82 (by decide) (rfl) (by omega) dX7_becomes_67 (n := 68) rfl ?_
      refine g_aload0 C dX7_becomes_68 (n := 69) rfl ?_
      refine kg_X7_37 C sh_80 rfl dX7_becomes_69 (n := 72) rfl ?_
      refine g_iload1 C dX7_becomes_72 (n := 73) rfl ?_
      refine g_iconst C ic_1 dX7_becomes_73 (n := 74) rfl ?_
      refine g_iadd C dX7_becomes_74 (n := 75) rfl ?_
      refine g_iload2 C dX7_becomes_75 (n := 76) rfl ?_
      refine g_iload4 C dX7_becomes_76 (n := 78) rfl ?_
      refine g_iadd C dX7_becomes_78 (n := 79) rfl ?_
      refine g_iload4 C dX7_becomes_79 (n := 81) rfl ?_
      refine g_if_ne C dX7_becomes_81 (t := 90) (by decide) (n := 84) rfl (fun c_81 => ?_) (fun c_81 => ?_)
      · have _u := True.intro
        refine g_iconst C ic_0 dX7_becomes_90 (n := 91) rfl ?_
        refine kc_X7_131 C (ct_X7_at SH M (i + 1) (d + 1) 0 _ _ _ hi1 (by rw [hxd, nI_1]) nI_0.symm) ⟨Nat.le_of_ble_eq_true rfl, Nat.le_of_ble_eq_true rfl⟩ ⟨Nat.zero_le _, Nat.zero_le _⟩ (Nat.le_of_ble_eq_true rfl) dX7_becomes_91 (n := 94) rfl (fun r_91 M_91 h_91 => ?_)
        rw [h_91.1, h_91.2]
        refine g_iald C (j := 49 * (i + 1) + (7 * (d + 1) + 0)) sh_90 (by decide) (rfl) (by omega) dX7_becomes_94 (n := 95) rfl ?_
        refine g_iadd C dX7_becomes_95 (n := 96) rfl ?_
        have hfin : M 82 125 + M 90 (49 * (i + 1) + (7 * (d + 1) + 0)) = nI (bpV S i d u) := by unfold bpV; rw [if_pos hcd]; exact e_add (hMR.2.2 2 (by decide)) (hCi (d + 1) (by omega) 0 (Nat.zero_le _))
        refine g_goto C dX7_becomes_96 (t := 101) (by decide) ?_
        refine r_I C dX7_becomes_101 ?_
        exact ⟨hfin, rfl⟩
      · exact absurd c_81 (by decide)
  refine g_aload0 C dX7_becomes_0 (n := 1) rfl ?_
  refine kg_X7_13 C sh_80 rfl dX7_becomes_1 (n := 4) rfl ?_
  refine g_iload1 C dX7_becomes_4 (n := 5) rfl ?_
  refine g_iald C (j := i) sh_82 (by decide) (hxi) (by omega) dX7_becomes_5 (n := 6) rfl ?_
  refine kc_X7_54 C (ct_X7_isMark SH M (M 82 i)) ⟨Nat.le_of_ble_eq_true rfl, Nat.le_of_ble_eq_true rfl⟩ ⟨Nat.zero_le _, Nat.zero_le _⟩ (Nat.le_of_ble_eq_true rfl) dX7_becomes_6 (n := 9) rfl (fun r_6 M_6 h_6 => ?_)
  rw [h_6.1, h_6.2, hc0]
  refine g_if_eq C dX7_becomes_9 (t := 53) (by decide) (n := 12) rfl (fun c_9 => ?_) (fun c_9 => ?_)
  · have hb : (0 : Int32) = bI false ∧ (false = true ↔ (isMk (spg S i) = true ∧ u = 0 ∧ d < 6)) := ⟨rfl, fun h => Bool.noConfusion h, fun h => by rw [bI_0.mp c_9] at h; exact h.1⟩
    refine g_iconst C ic_0 dX7_becomes_53 (n := 54) rfl ?_
    exact J_54 _ _ hb.1 hb.2
  · have hm := bI_n.mp c_9
    refine g_iload4 C dX7_becomes_12 (n := 14) rfl ?_
    refine g_if_ne C dX7_becomes_14 (t := 21) (by decide) (n := 17) rfl (fun c_14 => ?_) (fun c_14 => ?_)
    · have _u := True.intro
      refine g_iconst C ic_0 dX7_becomes_21 (n := 22) rfl ?_
      refine g_iload3 C dX7_becomes_22 (n := 23) rfl ?_
      refine g_if_le C dX7_becomes_23 (t := 30) (by decide) (n := 26) rfl (fun c_23 => ?_) (fun c_23 => ?_)
      · have hu0 : u = 0 := by
          by_cases h : u = 0
          · exact h
          · exact absurd ((qlt (show (0 : Int32) = nI 0 from rfl) hxu (by decide) (by omega)).mpr (by omega)) c_23
        refine g_iconst C ic_0 dX7_becomes_30 (n := 31) rfl ?_
        refine g_icmp_ne C dX7_becomes_31 (t := 53) (by decide) (n := 34) rfl (fun c_31 => ?_) (fun c_31 => ?_)
        · have hno : (isMk (spg S i) = true ∧ u = 0 ∧ d < 6) → False := fun h => by
            first
              | exact c_31 rfl
              | (have := h.2.1; omega)
          have hb : (0 : Int32) = bI false ∧ (false = true ↔ (isMk (spg S i) = true ∧ u = 0 ∧ d < 6)) := ⟨rfl, fun h => Bool.noConfusion h, fun h => absurd (show False from hno h) id⟩
          refine g_iconst C ic_0 dX7_becomes_53 (n := 54) rfl ?_
          exact J_54 _ _ hb.1 hb.2
        · have hu0b : u = 0 := by
            first
              | exact hu0
              | exact absurd c_31 (by decide)
          refine g_iload2 C dX7_becomes_34 (n := 35) rfl ?_
          refine g_iload4 C dX7_becomes_35 (n := 37) rfl ?_
          refine g_iadd C dX7_becomes_37 (n := 38) rfl ?_
          refine g_i2l C dX7_becomes_38 (n := 39) rfl ?_
          refine g_lconst C (v := Int32.toInt64 0) (by decide) dX7_becomes_39 (n := 40) rfl ?_
          refine g_ldc2 C kl_X7_129 dX7_becomes_40 (n := 43) rfl ?_
          refine kc_X7_50 C (ct_X7_in SH M (xd + 1) 0 6) ⟨Nat.le_of_ble_eq_true rfl, Nat.le_of_ble_eq_true rfl⟩ ⟨Nat.zero_le _, Nat.zero_le _⟩ (Nat.le_of_ble_eq_true rfl) dX7_becomes_43 (n := 46) rfl (fun r_43 M_43 h_43 => ?_)
          rw [h_43.1, h_43.2]
          refine g_if_eq C dX7_becomes_46 (t := 53) (by decide) (n := 49) rfl (fun c_46 => ?_) (fun c_46 => ?_)
          · have hno : (isMk (spg S i) = true ∧ u = 0 ∧ d < 6) → False := fun h => by
              have h6 := h.2.2
              rcases inn.mp c_46 with q | q
              · rw [hxd, nI_1] at q; exact nI_pos (by omega) q
              · rw [hxd, nI_1] at q; have := (qlt (show (6 : Int32) = nI 6 from rfl) rfl (by decide) (by omega)).mp q; omega
            have hb : (0 : Int32) = bI false ∧ (false = true ↔ (isMk (spg S i) = true ∧ u = 0 ∧ d < 6)) := ⟨rfl, fun h => Bool.noConfusion h, fun h => absurd (show False from hno h) id⟩
            refine g_iconst C ic_0 dX7_becomes_53 (n := 54) rfl ?_
            exact J_54 _ _ hb.1 hb.2
          · have hb : (1 : Int32) = bI true ∧ (true = true ↔ (isMk (spg S i) = true ∧ u = 0 ∧ d < 6)) := ⟨rfl, fun _ => ⟨hm, hu0b, by
              have q := (inn'.mp c_46).2
              rw [hxd, nI_1] at q
              have q2 : ¬ 6 < d + 1 := fun h => q ((qlt (show (6 : Int32) = nI 6 from rfl) rfl (by decide) (by omega)).mpr h)
              omega⟩, fun _ => rfl⟩
            refine g_iconst C ic_1 dX7_becomes_49 (n := 50) rfl ?_
            refine g_goto C dX7_becomes_50 (t := 54) (by decide) ?_
            exact J_54 _ _ hb.1 hb.2
      · have hu1 : 1 ≤ u := by
          have := (qlt (show (0 : Int32) = nI 0 from rfl) hxu (by decide) (by omega)).mp c_23
          omega
        refine g_iconst C ic_1 dX7_becomes_26 (n := 27) rfl ?_
        refine g_goto C dX7_becomes_27 (t := 31) (by decide) ?_
        refine g_icmp_ne C dX7_becomes_31 (t := 53) (by decide) (n := 34) rfl (fun c_31 => ?_) (fun c_31 => ?_)
        · have hno : (isMk (spg S i) = true ∧ u = 0 ∧ d < 6) → False := fun h => by
            first
              | exact c_31 rfl
              | (have := h.2.1; omega)
          have hb : (0 : Int32) = bI false ∧ (false = true ↔ (isMk (spg S i) = true ∧ u = 0 ∧ d < 6)) := ⟨rfl, fun h => Bool.noConfusion h, fun h => absurd (show False from hno h) id⟩
          refine g_iconst C ic_0 dX7_becomes_53 (n := 54) rfl ?_
          exact J_54 _ _ hb.1 hb.2
        · have hu0b : u = 0 := by
            first
              | exact hu0
              | exact absurd c_31 (by decide)
          refine g_iload2 C dX7_becomes_34 (n := 35) rfl ?_
          refine g_iload4 C dX7_becomes_35 (n := 37) rfl ?_
          refine g_iadd C dX7_becomes_37 (n := 38) rfl ?_
          refine g_i2l C dX7_becomes_38 (n := 39) rfl ?_
          refine g_lconst C (v := Int32.toInt64 0) (by decide) dX7_becomes_39 (n := 40) rfl ?_
          refine g_ldc2 C kl_X7_129 dX7_becomes_40 (n := 43) rfl ?_
          refine kc_X7_50 C (ct_X7_in SH M (xd + 1) 0 6) ⟨Nat.le_of_ble_eq_true rfl, Nat.le_of_ble_eq_true rfl⟩ ⟨Nat.zero_le _, Nat.zero_le _⟩ (Nat.le_of_ble_eq_true rfl) dX7_becomes_43 (n := 46) rfl (fun r_43 M_43 h_43 => ?_)
          rw [h_43.1, h_43.2]
          refine g_if_eq C dX7_becomes_46 (t := 53) (by decide) (n := 49) rfl (fun c_46 => ?_) (fun c_46 => ?_)
          · have hno : (isMk (spg S i) = true ∧ u = 0 ∧ d < 6) → False := fun h => by
              have h6 := h.2.2
              rcases inn.mp c_46 with q | q
              · rw [hxd, nI_1] at q; exact nI_pos (by omega) q
              · rw [hxd, nI_1] at q; have := (qlt (show (6 : Int32) = nI 6 from rfl) rfl (by decide) (by omega)).mp q; omega
            have hb : (0 : Int32) = bI false ∧ (false = true ↔ (isMk (spg S i) = true ∧ u = 0 ∧ d < 6)) := ⟨rfl, fun h => Bool.noConfusion h, fun h => absurd (show False from hno h) id⟩
            refine g_iconst C ic_0 dX7_becomes_53 (n := 54) rfl ?_
            exact J_54 _ _ hb.1 hb.2
          · have hb : (1 : Int32) = bI true ∧ (true = true ↔ (isMk (spg S i) = true ∧ u = 0 ∧ d < 6)) := ⟨rfl, fun _ => ⟨hm, hu0b, by
              have q := (inn'.mp c_46).2
              rw [hxd, nI_1] at q
              have q2 : ¬ 6 < d + 1 := fun h => q ((qlt (show (6 : Int32) = nI 6 from rfl) rfl (by decide) (by omega)).mpr h)
              omega⟩, fun _ => rfl⟩
            refine g_iconst C ic_1 dX7_becomes_49 (n := 50) rfl ?_
            refine g_goto C dX7_becomes_50 (t := 54) (by decide) ?_
            exact J_54 _ _ hb.1 hb.2
    · exact absurd c_14 (by decide)
set_option maxHeartbeats 4000000 in
set_option maxRecDepth 100000 in
theorem ctm_X7_becomes {l : Launch} {D : va_G} {cI cO : ClassId} {z tP : Nat} {aK aV : Nat → Nat} (M : Mem) (S : Spt) (i d u : Nat) (xi xd xu : Int32) (hMR : MR M S) (hs : wfS S) (hC : CT M 90 S (i + 1)) (hxi : xi = nI i) (hxd : xd = nI d) (hxu : xu = nI u) (hi : i < spn S) (hd : d ≤ 6) (hu : u ≤ dmy (spr S) d) : Cm l D cI cO z tP aK aV yX7_becomes cX7_becomes 6 (some .int) 1 25 [.ref (z + 80), .int xi, .int xd, .int xu, .int (-1)] SH M (pI (fun r M1 => r = nI (bmV S i d u) ∧ M1 = M)) := by
  refine cm_intro (lv0 := [some (.ref (z + 80)), some (.int xi), some (.int xd), some (.int xu), some (.int (-1)), none]) (by decide) rfl (Nat.le_of_ble_eq_true rfl) rfl (fun p e s m below meth c C => ?_)
  have hn := hs.1
  have hdu := dmy_le (spr S) d
  have hc0 : M 82 i = spg S i := hMR.2.1 i hi
  have hi1 : xi + 1 = nI (i + 1) := by rw [hxi, nI_1]
  have hCi := hC (i + 1) (Nat.le_refl _) (by omega)
  have J_54 : ∀ (b5 : Bool) (xb : Int32), (xb = bI b5) → (b5 = true ↔ (isMk (spg S i) = true ∧ u = 0 ∧ 1 ≤ d)) → G p l e ({ frames := 1, cells := 0, slots := 0, locals := 25 }) s m ([.ref (z + 80), .int xi, .int xd, .int xu, .int (-1)] : List Value).toArray below meth c D cI cO z 6 (QM below D cI cO z ([.ref (z + 80), .int xi, .int xd, .int xu, .int (-1)] : List Value).toArray s SH (pI (fun r M1 => r = nI (bmV S i d u) ∧ M1 = M))) 0 0 SH M 54 [some (.ref (z + 80)), some (.int xi), some (.int xd), some (.int xu), some (.int (-1)), none] [.int xb] := by
    intro b5 xb hxb hb5
    refine g_istore5 C dX7_becomes_54 (n := 56) rfl ?_
    refine g_iload5 C dX7_becomes_56 (n := 58) rfl ?_
    refine g_if_eq C dX7_becomes_58 (t := 99) (by decide) (n := 61) rfl (fun c_58 => ?_) (fun c_58 => ?_)
    · have hfin : (1000000 : Int32) = nI (bmV S i d u) := by
        unfold bmV
        rw [if_neg (fun h => by have := hb5.mpr h; rw [bI_0.mp (hxb.symm.trans c_58)] at this; cases this)]; rfl
      refine g_ldc C (v := 1000000) (gmem (i := 971) (by decide +kernel) (by decide +kernel)) dX7_becomes_99 (n := 101) rfl ?_
      refine r_I C dX7_becomes_101 ?_
      exact ⟨hfin, rfl⟩
    · have hcd := hb5.mp (bI_n.mp (fun h => c_58 (hxb.trans h)))
      have hu0c := hcd.2.1
      have hdc := hcd.2.2
      refine g_aload0 C dX7_becomes_61 (n := 62) rfl ?_
      refine kg_X7_13 C sh_80 rfl dX7_becomes_62 (n := 65) rfl ?_
      refine g_bipush C bp_125 dX7_becomes_65 (n := 67) rfl ?_
      refine g_iald C (j := 125) sh_82 (by decide) (rfl) (by omega) dX7_becomes_67 (n := 68) rfl ?_
      refine g_aload0 C dX7_becomes_68 (n := 69) rfl ?_
      refine kg_X7_37 C sh_80 rfl dX7_becomes_69 (n := 72) rfl ?_
      refine g_iload1 C dX7_becomes_72 (n := 73) rfl ?_
      refine g_iconst C ic_1 dX7_becomes_73 (n := 74) rfl ?_
      refine g_iadd C dX7_becomes_74 (n := 75) rfl ?_
      refine g_iload2 C dX7_becomes_75 (n := 76) rfl ?_
      refine g_iload4 C dX7_becomes_76 (n := 78) rfl ?_
      refine g_iadd C dX7_becomes_78 (n := 79) rfl ?_
      refine g_iload4 C dX7_becomes_79 (n := 81) rfl ?_
      refine g_if_ne C dX7_becomes_81 (t := 90) (by decide) (n := 84) rfl (fun c_81 => ?_) (fun c_81 => ?_)
      · have _u := True.intro
        refine g_iconst C ic_0 dX7_becomes_90 (n := 91) rfl ?_
        refine kc_X7_131 C (ct_X7_at SH M (i + 1) (d - 1) 0 _ _ _ hi1 (by rw [hxd, show d = (d - 1) + 1 by omega]; exact pk_m1 _) nI_0.symm) ⟨Nat.le_of_ble_eq_true rfl, Nat.le_of_ble_eq_true rfl⟩ ⟨Nat.zero_le _, Nat.zero_le _⟩ (Nat.le_of_ble_eq_true rfl) dX7_becomes_91 (n := 94) rfl (fun r_91 M_91 h_91 => ?_)
        rw [h_91.1, h_91.2]
        refine g_iald C (j := 49 * (i + 1) + (7 * (d - 1) + 0)) sh_90 (by decide) (rfl) (by omega) dX7_becomes_94 (n := 95) rfl ?_
        refine g_iadd C dX7_becomes_95 (n := 96) rfl ?_
        have hfin : M 82 125 + M 90 (49 * (i + 1) + (7 * (d - 1) + 0)) = nI (bmV S i d u) := by unfold bmV; rw [if_pos hcd]; exact e_add (hMR.2.2 2 (by decide)) (hCi (d - 1) (by omega) 0 (Nat.zero_le _))
        refine g_goto C dX7_becomes_96 (t := 101) (by decide) ?_
        refine r_I C dX7_becomes_101 ?_
        exact ⟨hfin, rfl⟩
      · exact absurd c_81 (by decide)
  refine g_aload0 C dX7_becomes_0 (n := 1) rfl ?_
  refine kg_X7_13 C sh_80 rfl dX7_becomes_1 (n := 4) rfl ?_
  refine g_iload1 C dX7_becomes_4 (n := 5) rfl ?_
  refine g_iald C (j := i) sh_82 (by decide) (hxi) (by omega) dX7_becomes_5 (n := 6) rfl ?_
  refine kc_X7_54 C (ct_X7_isMark SH M (M 82 i)) ⟨Nat.le_of_ble_eq_true rfl, Nat.le_of_ble_eq_true rfl⟩ ⟨Nat.zero_le _, Nat.zero_le _⟩ (Nat.le_of_ble_eq_true rfl) dX7_becomes_6 (n := 9) rfl (fun r_6 M_6 h_6 => ?_)
  rw [h_6.1, h_6.2, hc0]
  refine g_if_eq C dX7_becomes_9 (t := 53) (by decide) (n := 12) rfl (fun c_9 => ?_) (fun c_9 => ?_)
  · have hb : (0 : Int32) = bI false ∧ (false = true ↔ (isMk (spg S i) = true ∧ u = 0 ∧ 1 ≤ d)) := ⟨rfl, fun h => Bool.noConfusion h, fun h => by rw [bI_0.mp c_9] at h; exact h.1⟩
    refine g_iconst C ic_0 dX7_becomes_53 (n := 54) rfl ?_
    exact J_54 _ _ hb.1 hb.2
  · have hm := bI_n.mp c_9
    refine g_iload4 C dX7_becomes_12 (n := 14) rfl ?_
    refine g_if_ne C dX7_becomes_14 (t := 21) (by decide) (n := 17) rfl (fun c_14 => ?_) (fun c_14 => ?_)
    · have _u := True.intro
      refine g_iconst C ic_0 dX7_becomes_21 (n := 22) rfl ?_
      refine g_iload3 C dX7_becomes_22 (n := 23) rfl ?_
      refine g_if_le C dX7_becomes_23 (t := 30) (by decide) (n := 26) rfl (fun c_23 => ?_) (fun c_23 => ?_)
      · have hu0 : u = 0 := by
          by_cases h : u = 0
          · exact h
          · exact absurd ((qlt (show (0 : Int32) = nI 0 from rfl) hxu (by decide) (by omega)).mpr (by omega)) c_23
        refine g_iconst C ic_0 dX7_becomes_30 (n := 31) rfl ?_
        refine g_icmp_ne C dX7_becomes_31 (t := 53) (by decide) (n := 34) rfl (fun c_31 => ?_) (fun c_31 => ?_)
        · have hno : (isMk (spg S i) = true ∧ u = 0 ∧ 1 ≤ d) → False := fun h => by
            first
              | exact c_31 rfl
              | (have := h.2.1; omega)
          have hb : (0 : Int32) = bI false ∧ (false = true ↔ (isMk (spg S i) = true ∧ u = 0 ∧ 1 ≤ d)) := ⟨rfl, fun h => Bool.noConfusion h, fun h => absurd (show False from hno h) id⟩
          refine g_iconst C ic_0 dX7_becomes_53 (n := 54) rfl ?_
          exact J_54 _ _ hb.1 hb.2
        · have hu0b : u = 0 := by
            first
              | exact hu0
              | exact absurd c_31 (by decide)
          refine g_iload2 C dX7_becomes_34 (n := 35) rfl ?_
          refine g_iload4 C dX7_becomes_35 (n := 37) rfl ?_
          refine g_iadd C dX7_becomes_37 (n := 38) rfl ?_
          refine g_i2l C dX7_becomes_38 (n := 39) rfl ?_
          refine g_lconst C (v := Int32.toInt64 0) (by decide) dX7_becomes_39 (n := 40) rfl ?_
          refine g_ldc2 C kl_X7_129 dX7_becomes_40 (n := 43) rfl ?_
          refine kc_X7_50 C (ct_X7_in SH M (xd + (-1)) 0 6) ⟨Nat.le_of_ble_eq_true rfl, Nat.le_of_ble_eq_true rfl⟩ ⟨Nat.zero_le _, Nat.zero_le _⟩ (Nat.le_of_ble_eq_true rfl) dX7_becomes_43 (n := 46) rfl (fun r_43 M_43 h_43 => ?_)
          rw [h_43.1, h_43.2]
          refine g_if_eq C dX7_becomes_46 (t := 53) (by decide) (n := 49) rfl (fun c_46 => ?_) (fun c_46 => ?_)
          · have hno : (isMk (spg S i) = true ∧ u = 0 ∧ 1 ≤ d) → False := fun h => by
              have h1 := h.2.2
              have e9 : xd + -1 = nI (d - 1) := by rw [hxd, show d = (d - 1) + 1 by omega]; exact pk_m1 _
              rcases inn.mp c_46 with q | q
              · rw [e9] at q; exact nI_pos (by omega) q
              · rw [e9] at q; have := (qlt (show (6 : Int32) = nI 6 from rfl) rfl (by decide) (by omega)).mp q; omega
            have hb : (0 : Int32) = bI false ∧ (false = true ↔ (isMk (spg S i) = true ∧ u = 0 ∧ 1 ≤ d)) := ⟨rfl, fun h => Bool.noConfusion h, fun h => absurd (show False from hno h) id⟩
            refine g_iconst C ic_0 dX7_becomes_53 (n := 54) rfl ?_
            exact J_54 _ _ hb.1 hb.2
          · have hb : (1 : Int32) = bI true ∧ (true = true ↔ (isMk (spg S i) = true ∧ u = 0 ∧ 1 ≤ d)) := ⟨rfl, fun _ => ⟨hm, hu0b, by
              have q := (inn'.mp c_46).1
              by_cases hd0 : d = 0
              · exact absurd (show xd + -1 < 0 by rw [hxd, hd0]; decide) q
              · omega⟩, fun _ => rfl⟩
            refine g_iconst C ic_1 dX7_becomes_49 (n := 50) rfl ?_
            refine g_goto C dX7_becomes_50 (t := 54) (by decide) ?_
            exact J_54 _ _ hb.1 hb.2
      · have hu1 : 1 ≤ u := by
          have := (qlt (show (0 : Int32) = nI 0 from rfl) hxu (by decide) (by omega)).mp c_23
          omega
        refine g_iconst C ic_1 dX7_becomes_26 (n := 27) rfl ?_
        refine g_goto C dX7_becomes_27 (t := 31) (by decide) ?_
        refine g_icmp_ne C dX7_becomes_31 (t := 53) (by decide) (n := 34) rfl (fun c_31 => ?_) (fun c_31 => ?_)
        · have hno : (isMk (spg S i) = true ∧ u = 0 ∧ 1 ≤ d) → False := fun h => by
            first
              | exact c_31 rfl
              | (have := h.2.1; omega)
          have hb : (0 : Int32) = bI false ∧ (false = true ↔ (isMk (spg S i) = true ∧ u = 0 ∧ 1 ≤ d)) := ⟨rfl, fun h => Bool.noConfusion h, fun h => absurd (show False from hno h) id⟩
          refine g_iconst C ic_0 dX7_becomes_53 (n := 54) rfl ?_
          exact J_54 _ _ hb.1 hb.2
        · have hu0b : u = 0 := by
            first
              | exact hu0
              | exact absurd c_31 (by decide)
          refine g_iload2 C dX7_becomes_34 (n := 35) rfl ?_
          refine g_iload4 C dX7_becomes_35 (n := 37) rfl ?_
          refine g_iadd C dX7_becomes_37 (n := 38) rfl ?_
          refine g_i2l C dX7_becomes_38 (n := 39) rfl ?_
          refine g_lconst C (v := Int32.toInt64 0) (by decide) dX7_becomes_39 (n := 40) rfl ?_
          refine g_ldc2 C kl_X7_129 dX7_becomes_40 (n := 43) rfl ?_
          refine kc_X7_50 C (ct_X7_in SH M (xd + (-1)) 0 6) ⟨Nat.le_of_ble_eq_true rfl, Nat.le_of_ble_eq_true rfl⟩ ⟨Nat.zero_le _, Nat.zero_le _⟩ (Nat.le_of_ble_eq_true rfl) dX7_becomes_43 (n := 46) rfl (fun r_43 M_43 h_43 => ?_)
          rw [h_43.1, h_43.2]
          refine g_if_eq C dX7_becomes_46 (t := 53) (by decide) (n := 49) rfl (fun c_46 => ?_) (fun c_46 => ?_)
          · have hno : (isMk (spg S i) = true ∧ u = 0 ∧ 1 ≤ d) → False := fun h => by
              have h1 := h.2.2
              have e9 : xd + -1 = nI (d - 1) := by rw [hxd, show d = (d - 1) + 1 by omega]; exact pk_m1 _
              rcases inn.mp c_46 with q | q
              · rw [e9] at q; exact nI_pos (by omega) q
              · rw [e9] at q; have := (qlt (show (6 : Int32) = nI 6 from rfl) rfl (by decide) (by omega)).mp q; omega
            have hb : (0 : Int32) = bI false ∧ (false = true ↔ (isMk (spg S i) = true ∧ u = 0 ∧ 1 ≤ d)) := ⟨rfl, fun h => Bool.noConfusion h, fun h => absurd (show False from hno h) id⟩
            refine g_iconst C ic_0 dX7_becomes_53 (n := 54) rfl ?_
            exact J_54 _ _ hb.1 hb.2
          · have hb : (1 : Int32) = bI true ∧ (true = true ↔ (isMk (spg S i) = true ∧ u = 0 ∧ 1 ≤ d)) := ⟨rfl, fun _ => ⟨hm, hu0b, by
              have q := (inn'.mp c_46).1
              by_cases hd0 : d = 0
              · exact absurd (show xd + -1 < 0 by rw [hxd, hd0]; decide) q
              · omega⟩, fun _ => rfl⟩
            refine g_iconst C ic_1 dX7_becomes_49 (n := 50) rfl ?_
            refine g_goto C dX7_becomes_50 (t := 54) (by decide) ?_
            exact J_54 _ _ hb.1 hb.2
    · exact absurd c_14 (by decide)
