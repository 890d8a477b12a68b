/-! the shape, and Row -/
def SH : Shp := [.inr (.inr (6, [some (some 1), none, some (some 3), some (some 8), some (some 40), some (some 64), none, none])), .inr (.inr (4, [some (some 2)])), .inl 200, .inr (.inr (5, [some (some 4), none, none, none, some (some 6)])), .inr (.inr (4, [some (some 5)])), .inl 120, .inr (.inr (4, [some (some 7)])), .inl 3, .inr (.inr (1, [some (some 9), none, none])), .inr (.inl [some 10, some 15, some 20, some 25, some 30, some 35]), .inr (.inr (5, [some (some 11), none, none, none, some (some 13)])), .inr (.inr (4, [some (some 12)])), .inl 120, .inr (.inr (4, [some (some 14)])), .inl 3, .inr (.inr (5, [some (some 16), none, none, none, some (some 18)])), .inr (.inr (4, [some (some 17)])), .inl 120, .inr (.inr (4, [some (some 19)])), .inl 3, .inr (.inr (5, [some (some 21), none, none, none, some (some 23)])), .inr (.inr (4, [some (some 22)])), .inl 120, .inr (.inr (4, [some (some 24)])), .inl 3, .inr (.inr (5, [some (some 26), none, none, none, some (some 28)])), .inr (.inr (4, [some (some 27)])), .inl 120, .inr (.inr (4, [some (some 29)])), .inl 3, .inr (.inr (5, [some (some 31), none, none, none, some (some 33)])), .inr (.inr (4, [some (some 32)])), .inl 120, .inr (.inr (4, [some (some 34)])), .inl 3, .inr (.inr (5, [some (some 36), none, none, none, some (some 38)])), .inr (.inr (4, [some (some 37)])), .inl 120, .inr (.inr (4, [some (some 39)])), .inl 3, .inr (.inr (3, [some (some 41), some (some 46), some (some 48), some (some 50), some (some 52), some (some 54), none, some (some 56), none, some (some 58), none, some (some 60), some (some 62), none, none])), .inr (.inr (0, [none, none, some (some 42), some (some 44)])), .inr (.inr (4, [some (some 43)])), .inl 98, .inr (.inr (4, [some (some 45)])), .inl 98, .inr (.inr (4, [some (some 47)])), .inl 120, .inr (.inr (4, [some (some 49)])), .inl 120, .inr (.inr (4, [some (some 51)])), .inl 120, .inr (.inr (4, [some (some 53)])), .inl 120, .inr (.inr (4, [some (some 55)])), .inl 484, .inr (.inr (4, [some (some 57)])), .inl 840, .inr (.inr (4, [some (some 59)])), .inl 363, .inr (.inr (4, [some (some 61)])), .inl 7, .inr (.inr (4, [some (some 63)])), .inl 7, .inr (.inr (2, [some (some 65), some (some 70), none, some (some 72), some (some 74), some (some 76), none, some (some 78), none, none])), .inr (.inr (0, [none, none, some (some 66), some (some 68)])), .inr (.inr (4, [some (some 67)])), .inl 98, .inr (.inr (4, [some (some 69)])), .inl 98, .inr (.inr (4, [some (some 71)])), .inl 120, .inr (.inr (4, [some (some 73)])), .inl 3, .inr (.inr (4, [some (some 75)])), .inl 5929, .inr (.inr (4, [some (some 77)])), .inl 1200, .inr (.inr (4, [some (some 79)])), .inl 3, .inr (.inr (7, [none, some (some 81), some (some 82), some (some 83), none, some (some 84), some (some 85), some (some 86), none, some (some 87), some (some 88), none, some (some 89), some (some 90), none, some (some 91), some (some 92)])), .inl 200, .inl 126, .inl 756, .inl 120, .inl 120, .inl 120, .inl 242, .inl 242, .inl 120, .inl 5929, .inl 1300, .inl 3]
theorem sh_0 : SH[0]? = some (.inr (.inr (6, [some (some 1), none, some (some 3), some (some 8), some (some 40), some (some 64), none, none]))) := rfl
theorem sh_1 : SH[1]? = some (.inr (.inr (4, [some (some 2)]))) := rfl
theorem sh_2 : SH[2]? = some (.inl 200) := rfl
theorem sh_3 : SH[3]? = some (.inr (.inr (5, [some (some 4), none, none, none, some (some 6)]))) := rfl
theorem sh_4 : SH[4]? = some (.inr (.inr (4, [some (some 5)]))) := rfl
theorem sh_5 : SH[5]? = some (.inl 120) := rfl
theorem sh_6 : SH[6]? = some (.inr (.inr (4, [some (some 7)]))) := rfl
theorem sh_7 : SH[7]? = some (.inl 3) := rfl
theorem sh_8 : SH[8]? = some (.inr (.inr (1, [some (some 9), none, none]))) := rfl
theorem sh_9 : SH[9]? = some (.inr (.inl [some 10, some 15, some 20, some 25, some 30, some 35])) := rfl
theorem sh_10 : SH[10]? = some (.inr (.inr (5, [some (some 11), none, none, none, some (some 13)]))) := rfl
theorem sh_11 : SH[11]? = some (.inr (.inr (4, [some (some 12)]))) := rfl
theorem sh_12 : SH[12]? = some (.inl 120) := rfl
theorem sh_13 : SH[13]? = some (.inr (.inr (4, [some (some 14)]))) := rfl
theorem sh_14 : SH[14]? = some (.inl 3) := rfl
theorem sh_15 : SH[15]? = some (.inr (.inr (5, [some (some 16), none, none, none, some (some 18)]))) := rfl
theorem sh_16 : SH[16]? = some (.inr (.inr (4, [some (some 17)]))) := rfl
theorem sh_17 : SH[17]? = some (.inl 120) := rfl
theorem sh_18 : SH[18]? = some (.inr (.inr (4, [some (some 19)]))) := rfl
theorem sh_19 : SH[19]? = some (.inl 3) := rfl
theorem sh_20 : SH[20]? = some (.inr (.inr (5, [some (some 21), none, none, none, some (some 23)]))) := rfl
theorem sh_21 : SH[21]? = some (.inr (.inr (4, [some (some 22)]))) := rfl
theorem sh_22 : SH[22]? = some (.inl 120) := rfl
theorem sh_23 : SH[23]? = some (.inr (.inr (4, [some (some 24)]))) := rfl
theorem sh_24 : SH[24]? = some (.inl 3) := rfl
theorem sh_25 : SH[25]? = some (.inr (.inr (5, [some (some 26), none, none, none, some (some 28)]))) := rfl
theorem sh_26 : SH[26]? = some (.inr (.inr (4, [some (some 27)]))) := rfl
theorem sh_27 : SH[27]? = some (.inl 120) := rfl
theorem sh_28 : SH[28]? = some (.inr (.inr (4, [some (some 29)]))) := rfl
theorem sh_29 : SH[29]? = some (.inl 3) := rfl
theorem sh_30 : SH[30]? = some (.inr (.inr (5, [some (some 31), none, none, none, some (some 33)]))) := rfl
theorem sh_31 : SH[31]? = some (.inr (.inr (4, [some (some 32)]))) := rfl
theorem sh_32 : SH[32]? = some (.inl 120) := rfl
theorem sh_33 : SH[33]? = some (.inr (.inr (4, [some (some 34)]))) := rfl
theorem sh_34 : SH[34]? = some (.inl 3) := rfl
theorem sh_35 : SH[35]? = some (.inr (.inr (5, [some (some 36), none, none, none, some (some 38)]))) := rfl
theorem sh_36 : SH[36]? = some (.inr (.inr (4, [some (some 37)]))) := rfl
theorem sh_37 : SH[37]? = some (.inl 120) := rfl
theorem sh_38 : SH[38]? = some (.inr (.inr (4, [some (some 39)]))) := rfl
theorem sh_39 : SH[39]? = some (.inl 3) := rfl
theorem sh_40 : SH[40]? = some (.inr (.inr (3, [some (some 41), some (some 46), some (some 48), some (some 50), some (some 52), some (some 54), none, some (some 56), none, some (some 58), none, some (some 60), some (some 62), none, none]))) := rfl
theorem sh_41 : SH[41]? = some (.inr (.inr (0, [none, none, some (some 42), some (some 44)]))) := rfl
theorem sh_42 : SH[42]? = some (.inr (.inr (4, [some (some 43)]))) := rfl
theorem sh_43 : SH[43]? = some (.inl 98) := rfl
theorem sh_44 : SH[44]? = some (.inr (.inr (4, [some (some 45)]))) := rfl
theorem sh_45 : SH[45]? = some (.inl 98) := rfl
theorem sh_46 : SH[46]? = some (.inr (.inr (4, [some (some 47)]))) := rfl
theorem sh_47 : SH[47]? = some (.inl 120) := rfl
theorem sh_48 : SH[48]? = some (.inr (.inr (4, [some (some 49)]))) := rfl
theorem sh_49 : SH[49]? = some (.inl 120) := rfl
theorem sh_50 : SH[50]? = some (.inr (.inr (4, [some (some 51)]))) := rfl
theorem sh_51 : SH[51]? = some (.inl 120) := rfl
theorem sh_52 : SH[52]? = some (.inr (.inr (4, [some (some 53)]))) := rfl
theorem sh_53 : SH[53]? = some (.inl 120) := rfl
theorem sh_54 : SH[54]? = some (.inr (.inr (4, [some (some 55)]))) := rfl
theorem sh_55 : SH[55]? = some (.inl 484) := rfl
theorem sh_56 : SH[56]? = some (.inr (.inr (4, [some (some 57)]))) := rfl
theorem sh_57 : SH[57]? = some (.inl 840) := rfl
theorem sh_58 : SH[58]? = some (.inr (.inr (4, [some (some 59)]))) := rfl
theorem sh_59 : SH[59]? = some (.inl 363) := rfl
theorem sh_60 : SH[60]? = some (.inr (.inr (4, [some (some 61)]))) := rfl
theorem sh_61 : SH[61]? = some (.inl 7) := rfl
theorem sh_62 : SH[62]? = some (.inr (.inr (4, [some (some 63)]))) := rfl
theorem sh_63 : SH[63]? = some (.inl 7) := rfl
theorem sh_64 : SH[64]? = some (.inr (.inr (2, [some (some 65), some (some 70), none, some (some 72), some (some 74), some (some 76), none, some (some 78), none, none]))) := rfl
theorem sh_65 : SH[65]? = some (.inr (.inr (0, [none, none, some (some 66), some (some 68)]))) := rfl
theorem sh_66 : SH[66]? = some (.inr (.inr (4, [some (some 67)]))) := rfl
theorem sh_67 : SH[67]? = some (.inl 98) := rfl
theorem sh_68 : SH[68]? = some (.inr (.inr (4, [some (some 69)]))) := rfl
theorem sh_69 : SH[69]? = some (.inl 98) := rfl
theorem sh_70 : SH[70]? = some (.inr (.inr (4, [some (some 71)]))) := rfl
theorem sh_71 : SH[71]? = some (.inl 120) := rfl
theorem sh_72 : SH[72]? = some (.inr (.inr (4, [some (some 73)]))) := rfl
theorem sh_73 : SH[73]? = some (.inl 3) := rfl
theorem sh_74 : SH[74]? = some (.inr (.inr (4, [some (some 75)]))) := rfl
theorem sh_75 : SH[75]? = some (.inl 5929) := rfl
theorem sh_76 : SH[76]? = some (.inr (.inr (4, [some (some 77)]))) := rfl
theorem sh_77 : SH[77]? = some (.inl 1200) := rfl
theorem sh_78 : SH[78]? = some (.inr (.inr (4, [some (some 79)]))) := rfl
theorem sh_79 : SH[79]? = some (.inl 3) := rfl
theorem sh_80 : SH[80]? = some (.inr (.inr (7, [none, some (some 81), some (some 82), some (some 83), none, some (some 84), some (some 85), some (some 86), none, some (some 87), some (some 88), none, some (some 89), some (some 90), none, some (some 91), some (some 92)]))) := rfl
theorem sh_81 : SH[81]? = some (.inl 200) := rfl
theorem sh_82 : SH[82]? = some (.inl 126) := rfl
theorem sh_83 : SH[83]? = some (.inl 756) := rfl
theorem sh_84 : SH[84]? = some (.inl 120) := rfl
theorem sh_85 : SH[85]? = some (.inl 120) := rfl
theorem sh_86 : SH[86]? = some (.inl 120) := rfl
theorem sh_87 : SH[87]? = some (.inl 242) := rfl
theorem sh_88 : SH[88]? = some (.inl 242) := rfl
theorem sh_89 : SH[89]? = some (.inl 120) := rfl
theorem sh_90 : SH[90]? = some (.inl 5929) := rfl
theorem sh_91 : SH[91]? = some (.inl 1300) := rfl
theorem sh_92 : SH[92]? = some (.inl 3) := rfl
def isRow (sh : Shp) (k n : Nat) : Prop := sh[k]? = some (.inr (.inr (4, [some (some (k + 1))]))) ∧ sh[k + 1]? = some (.inl n) ∧ n < 2 ^ 31
def isSpeech (sh : Shp) (k : Nat) : Prop := sh[k]? = some (.inr (.inr (5, [some (some (k + 1)), none, none, none, some (some (k + 3))]))) ∧ isRow sh (k + 1) 120 ∧ isRow sh (k + 3) 3
def isGrammar (sh : Shp) (k : Nat) : Prop := sh[k]? = some (.inr (.inr (0, [none, none, some (some (k + 1)), some (some (k + 3))]))) ∧ isRow sh (k + 1) 98 ∧ isRow sh (k + 3) 98
theorem row_1 : isRow SH 1 200 := ⟨rfl, rfl, by decide⟩
theorem row_4 : isRow SH 4 120 := ⟨rfl, rfl, by decide⟩
theorem row_6 : isRow SH 6 3 := ⟨rfl, rfl, by decide⟩
theorem row_11 : isRow SH 11 120 := ⟨rfl, rfl, by decide⟩
theorem row_13 : isRow SH 13 3 := ⟨rfl, rfl, by decide⟩
theorem row_16 : isRow SH 16 120 := ⟨rfl, rfl, by decide⟩
theorem row_18 : isRow SH 18 3 := ⟨rfl, rfl, by decide⟩
theorem row_21 : isRow SH 21 120 := ⟨rfl, rfl, by decide⟩
theorem row_23 : isRow SH 23 3 := ⟨rfl, rfl, by decide⟩
theorem row_26 : isRow SH 26 120 := ⟨rfl, rfl, by decide⟩
theorem row_28 : isRow SH 28 3 := ⟨rfl, rfl, by decide⟩
theorem row_31 : isRow SH 31 120 := ⟨rfl, rfl, by decide⟩
theorem row_33 : isRow SH 33 3 := ⟨rfl, rfl, by decide⟩
theorem row_36 : isRow SH 36 120 := ⟨rfl, rfl, by decide⟩
theorem row_38 : isRow SH 38 3 := ⟨rfl, rfl, by decide⟩
theorem row_42 : isRow SH 42 98 := ⟨rfl, rfl, by decide⟩
theorem row_44 : isRow SH 44 98 := ⟨rfl, rfl, by decide⟩
theorem row_46 : isRow SH 46 120 := ⟨rfl, rfl, by decide⟩
theorem row_48 : isRow SH 48 120 := ⟨rfl, rfl, by decide⟩
theorem row_50 : isRow SH 50 120 := ⟨rfl, rfl, by decide⟩
theorem row_52 : isRow SH 52 120 := ⟨rfl, rfl, by decide⟩
theorem row_54 : isRow SH 54 484 := ⟨rfl, rfl, by decide⟩
theorem row_56 : isRow SH 56 840 := ⟨rfl, rfl, by decide⟩
theorem row_58 : isRow SH 58 363 := ⟨rfl, rfl, by decide⟩
theorem row_60 : isRow SH 60 7 := ⟨rfl, rfl, by decide⟩
theorem row_62 : isRow SH 62 7 := ⟨rfl, rfl, by decide⟩
theorem row_66 : isRow SH 66 98 := ⟨rfl, rfl, by decide⟩
theorem row_68 : isRow SH 68 98 := ⟨rfl, rfl, by decide⟩
theorem row_70 : isRow SH 70 120 := ⟨rfl, rfl, by decide⟩
theorem row_72 : isRow SH 72 3 := ⟨rfl, rfl, by decide⟩
theorem row_74 : isRow SH 74 5929 := ⟨rfl, rfl, by decide⟩
theorem row_76 : isRow SH 76 1200 := ⟨rfl, rfl, by decide⟩
theorem row_78 : isRow SH 78 3 := ⟨rfl, rfl, by decide⟩
theorem speech_3 : isSpeech SH 3 := ⟨rfl, ⟨rfl, rfl, by decide⟩, ⟨rfl, rfl, by decide⟩⟩
theorem speech_10 : isSpeech SH 10 := ⟨rfl, ⟨rfl, rfl, by decide⟩, ⟨rfl, rfl, by decide⟩⟩
theorem speech_15 : isSpeech SH 15 := ⟨rfl, ⟨rfl, rfl, by decide⟩, ⟨rfl, rfl, by decide⟩⟩
theorem speech_20 : isSpeech SH 20 := ⟨rfl, ⟨rfl, rfl, by decide⟩, ⟨rfl, rfl, by decide⟩⟩
theorem speech_25 : isSpeech SH 25 := ⟨rfl, ⟨rfl, rfl, by decide⟩, ⟨rfl, rfl, by decide⟩⟩
theorem speech_30 : isSpeech SH 30 := ⟨rfl, ⟨rfl, rfl, by decide⟩, ⟨rfl, rfl, by decide⟩⟩
theorem speech_35 : isSpeech SH 35 := ⟨rfl, ⟨rfl, rfl, by decide⟩, ⟨rfl, rfl, by decide⟩⟩
theorem grammar_41 : isGrammar SH 41 := ⟨rfl, ⟨rfl, rfl, by decide⟩, ⟨rfl, rfl, by decide⟩⟩
theorem grammar_65 : isGrammar SH 65 := ⟨rfl, ⟨rfl, rfl, by decide⟩, ⟨rfl, rfl, by decide⟩⟩
def fil (M : Mem) (k n : Nat) (v : Int32) : Mem := fun a b => if a = k ∧ b < n then v else M a b
def cpr (M : Mem) (k o n : Nat) : Mem := fun a b => if a = k ∧ b < n then M o b else M a b
theorem fil_0 (M : Mem) (k : Nat) (v : Int32) : fil M k 0 v = M := by funext a b; simp [fil]
theorem fil_s (M : Mem) (k n : Nat) (v : Int32) : up2 (fil M k n v) k n v = fil M k (n + 1) v := by
  funext a b
  by_cases ha : a = k
  · by_cases hb : b = n
    · simp [up2, fil, ha, hb]
    · by_cases hl : b < n
      · simp [up2, fil, ha, hb, hl, Nat.lt_succ_of_lt hl]
      · have : ¬ b < n + 1 := by omega
        simp [up2, fil, ha, hb, hl, this]
  · simp [up2, fil, ha]
theorem cpr_0 (M : Mem) (k o : Nat) : cpr M k o 0 = M := by funext a b; simp [cpr]
theorem cpr_at {M : Mem} {k o n b : Nat} (h : k ≠ o) : cpr M k o n o b = M o b := by simp [cpr, Ne.symm h]
theorem cpr_s (M : Mem) (k o n : Nat) : up2 (cpr M k o n) k n (M o n) = cpr M k o (n + 1) := by
  funext a b
  by_cases ha : a = k
  · by_cases hb : b = n
    · simp [up2, cpr, ha, hb]
    · by_cases hl : b < n
      · simp [up2, cpr, ha, hb, hl, Nat.lt_succ_of_lt hl]
      · have : ¬ b < n + 1 := by omega
        simp [up2, cpr, ha, hb, hl, this]
  · simp [up2, cpr, ha]
theorem ic_0 : Int32.ofInt 0 = 0 := by decide
theorem inc_1 (x : Int32) : x + Int32.ofInt 1 = x + 1 := by rw [show Int32.ofInt 1 = 1 from by decide]
set_option maxHeartbeats 4000000 in
set_option maxRecDepth 100000 in
theorem ct_X4_at {l : Launch} {D : va_G} {cI cO : ClassId} {z tP : Nat} {aK aV : Nat → Nat} (sh : Shp) (M : Mem) (k n j : Nat) (i : Int32) (hr : isRow sh k n) (hi : i = nI j) (hj : j < n) : Cm l D cI cO z tP aK aV yX4_at cX4_at 2 (some .int) 0 0 [.ref (z + k), .int i] sh M (pI (fun r M1 => r = M (k + 1) j ∧ M1 = M)) := by
  refine cm_intro (lv0 := [some (.ref (z + k)), some (.int i)]) (by decide) rfl (Nat.le_of_ble_eq_true rfl) rfl (fun p e s m below meth c C => ?_)
  refine g_iload1 C dX4_at_0 (n := 1) rfl ?_
  refine g_if_lt C dX4_at_1 (t := 22) (by decide) (n := 4) rfl (fun c_1 => ?_) (fun c_1 => ?_)
  · exact absurd c_1 (by rw [hi]; exact nI_pos (Nat.lt_trans hj hr.2.2))
  · have _u := True.intro
    refine g_iload1 C dX4_at_4 (n := 5) rfl ?_
    refine g_aload0 C dX4_at_5 (n := 6) rfl ?_
    refine kg_X4_13 C hr.1 rfl dX4_at_6 (n := 9) rfl ?_
    refine g_alen C hr.2.1 dX4_at_9 (n := 10) rfl ?_
    refine g_icmp_ge C dX4_at_10 (t := 22) (by decide) (n := 13) rfl (fun c_10 => ?_) (fun c_10 => ?_)
    · exact absurd (by rw [hi]; exact nI_lt hj hr.2.2) c_10
    · have _u := True.intro
      refine g_aload0 C dX4_at_13 (n := 14) rfl ?_
      refine kg_X4_13 C hr.1 rfl dX4_at_14 (n := 17) rfl ?_
      refine g_iload1 C dX4_at_17 (n := 18) rfl ?_
      refine g_iald C (j := j) hr.2.1 hr.2.2 (hi) (hj) dX4_at_18 (n := 19) rfl ?_
      refine g_goto C dX4_at_19 (t := 23) (by decide) ?_
      refine r_I C dX4_at_23 ?_
      exact ⟨rfl, rfl⟩
set_option maxHeartbeats 4000000 in
set_option maxRecDepth 100000 in
theorem ct_X4_set {l : Launch} {D : va_G} {cI cO : ClassId} {z tP : Nat} {aK aV : Nat → Nat} (sh : Shp) (M : Mem) (k n j : Nat) (i : Int32) (v : Int32) (hr : isRow sh k n) (hi : i = nI j) (hj : j < n) : Cm l D cI cO z tP aK aV yX4_set cX4_set 3 none 0 0 [.ref (z + k), .int i, .int v] sh M (pV (fun M1 => M1 = up2 M (k + 1) j v)) := by
  refine cm_intro (lv0 := [some (.ref (z + k)), some (.int i), some (.int v)]) (by decide) rfl (Nat.le_of_ble_eq_true rfl) rfl (fun p e s m below meth c C => ?_)
  refine g_iload1 C dX4_set_0 (n := 1) rfl ?_
  refine g_if_lt C dX4_set_1 (t := 20) (by decide) (n := 4) rfl (fun c_1 => ?_) (fun c_1 => ?_)
  · exact absurd c_1 (by rw [hi]; exact nI_pos (Nat.lt_trans hj hr.2.2))
  · have _u := True.intro
    refine g_iload1 C dX4_set_4 (n := 5) rfl ?_
    refine g_aload0 C dX4_set_5 (n := 6) rfl ?_
    refine kg_X4_13 C hr.1 rfl dX4_set_6 (n := 9) rfl ?_
    refine g_alen C hr.2.1 dX4_set_9 (n := 10) rfl ?_
    refine g_icmp_ge C dX4_set_10 (t := 20) (by decide) (n := 13) rfl (fun c_10 => ?_) (fun c_10 => ?_)
    · exact absurd (by rw [hi]; exact nI_lt hj hr.2.2) c_10
    · have _u := True.intro
      refine g_aload0 C dX4_set_13 (n := 14) rfl ?_
      refine kg_X4_13 C hr.1 rfl dX4_set_14 (n := 17) rfl ?_
      refine g_iload1 C dX4_set_17 (n := 18) rfl ?_
      refine g_iload2 C dX4_set_18 (n := 19) rfl ?_
      refine g_iast C (j := j) hr.2.1 hr.2.2 (hi) (hj) dX4_set_19 (n := 20) rfl (fun M_19 e_19 => ?_)
      refine r_V C dX4_set_20 ?_
      exact e_19
set_option maxHeartbeats 4000000 in
set_option maxRecDepth 100000 in
theorem ct_X4_add {l : Launch} {D : va_G} {cI cO : ClassId} {z tP : Nat} {aK aV : Nat → Nat} (sh : Shp) (M : Mem) (k n j : Nat) (i : Int32) (v : Int32) (hr : isRow sh k n) (hi : i = nI j) (hj : j < n) : Cm l D cI cO z tP aK aV yX4_add cX4_add 3 none 0 0 [.ref (z + k), .int i, .int v] sh M (pV (fun M1 => M1 = up2 M (k + 1) j (M (k + 1) j + v))) := by
  refine cm_intro (lv0 := [some (.ref (z + k)), some (.int i), some (.int v)]) (by decide) rfl (Nat.le_of_ble_eq_true rfl) rfl (fun p e s m below meth c C => ?_)
  refine g_iload1 C dX4_add_0 (n := 1) rfl ?_
  refine g_if_lt C dX4_add_1 (t := 23) (by decide) (n := 4) rfl (fun c_1 => ?_) (fun c_1 => ?_)
  · exact absurd c_1 (by rw [hi]; exact nI_pos (Nat.lt_trans hj hr.2.2))
  · have _u := True.intro
    refine g_iload1 C dX4_add_4 (n := 5) rfl ?_
    refine g_aload0 C dX4_add_5 (n := 6) rfl ?_
    refine kg_X4_13 C hr.1 rfl dX4_add_6 (n := 9) rfl ?_
    refine g_alen C hr.2.1 dX4_add_9 (n := 10) rfl ?_
    refine g_icmp_ge C dX4_add_10 (t := 23) (by decide) (n := 13) rfl (fun c_10 => ?_) (fun c_10 => ?_)
    · exact absurd (by rw [hi]; exact nI_lt hj hr.2.2) c_10
    · have _u := True.intro
      refine g_aload0 C dX4_add_13 (n := 14) rfl ?_
      refine kg_X4_13 C hr.1 rfl dX4_add_14 (n := 17) rfl ?_
      refine g_iload1 C dX4_add_17 (n := 18) rfl ?_
      refine g_dup2 C rfl rfl dX4_add_18 (n := 19) rfl ?_
      refine g_iald C (j := j) hr.2.1 hr.2.2 (hi) (hj) dX4_add_19 (n := 20) rfl ?_
      refine g_iload2 C dX4_add_20 (n := 21) rfl ?_
      refine g_iadd C dX4_add_21 (n := 22) rfl ?_
      refine g_iast C (j := j) hr.2.1 hr.2.2 (hi) (hj) dX4_add_22 (n := 23) rfl (fun M_22 e_22 => ?_)
      refine r_V C dX4_add_23 ?_
      exact e_22
set_option maxHeartbeats 4000000 in
set_option maxRecDepth 100000 in
theorem ct_X4_fill {l : Launch} {D : va_G} {cI cO : ClassId} {z tP : Nat} {aK aV : Nat → Nat} (sh : Shp) (M : Mem) (k n : Nat) (v : Int32) (hr : isRow sh k n) : Cm l D cI cO z tP aK aV yX4_fill cX4_fill 3 none 0 0 [.ref (z + k), .int v] sh M (pV (fun M1 => M1 = fil M (k + 1) n v)) := by
  refine cm_intro (lv0 := [some (.ref (z + k)), some (.int v), none]) (by decide) rfl (Nat.le_of_ble_eq_true rfl) rfl (fun p e s m below meth c C => ?_)
  refine g_iconst C ic_0 dX4_fill_0 (n := 1) rfl ?_
  refine g_istore2 C dX4_fill_1 (n := 2) rfl ?_
  have L_2 : ∀ (fu : Nat) (i : Nat) (x : Int32) (M1 : Mem), n - i < fu → (x = nI i) → (i ≤ n) → (M1 = fil M (k + 1) i v) → G p l e ({ frames := 0, cells := 0, slots := 0, locals := 0 }) s m ([.ref (z + k), .int v] : List Value).toArray below meth c D cI cO z 3 (QM below D cI cO z ([.ref (z + k), .int v] : List Value).toArray s sh (pV (fun M1 => M1 = fil M (k + 1) n v))) 0 0 sh M1 2 [some (.ref (z + k)), some (.int v), some (.int x)] [] := by
    intro fu_2
    induction fu_2 with
    | zero => intro i x M1 hfu; exact absurd hfu (Nat.not_lt_zero _)
    | succ fu_2 ih_2 =>
      intro i x M1 hfu_2 hx hi hM
      refine g_iload2 C dX4_fill_2 (n := 3) rfl ?_
      refine g_aload0 C dX4_fill_3 (n := 4) rfl ?_
      refine kg_X4_13 C hr.1 rfl dX4_fill_4 (n := 7) rfl ?_
      refine g_alen C hr.2.1 dX4_fill_7 (n := 8) rfl ?_
      refine g_icmp_ge C dX4_fill_8 (t := 24) (by decide) (n := 11) rfl (fun c_8 => ?_) (fun c_8 => ?_)
      · have hin : i = n := Nat.le_antisymm hi (Nat.le_of_not_lt (fun h => c_8 (by rw [hx]; exact nI_lt h hr.2.2)))
        subst hin
        refine r_V C dX4_fill_24 ?_
        exact hM
      · have hin : i < n := Nat.lt_of_not_le (fun h => absurd c_8 (by rw [hx]; exact nI_nlt h (Nat.lt_of_le_of_lt hi hr.2.2)))
        refine g_aload0 C dX4_fill_11 (n := 12) rfl ?_
        refine kg_X4_13 C hr.1 rfl dX4_fill_12 (n := 15) rfl ?_
        refine g_iload2 C dX4_fill_15 (n := 16) rfl ?_
        refine g_iload1 C dX4_fill_16 (n := 17) rfl ?_
        refine g_iast C (j := i) hr.2.1 hr.2.2 (hx) (hin) dX4_fill_17 (n := 18) rfl (fun M_17 e_17 => ?_)
        refine g_iinc2 C (inc_1 _) dX4_fill_18 (n := 21) rfl ?_
        refine g_goto C dX4_fill_21 (t := 2) (by decide) ?_
        exact ih_2 (i + 1) (x + 1) M_17 (by omega) (by rw [hx, nI_1]) hin (by rw [e_17, hM, fil_s])
  exact L_2 (n + 1) 0 0 M (by omega) nI_0.symm (Nat.zero_le _) (fil_0 M (k + 1) v).symm
set_option maxHeartbeats 4000000 in
set_option maxRecDepth 100000 in
theorem ct_X4_copyFrom {l : Launch} {D : va_G} {cI cO : ClassId} {z tP : Nat} {aK aV : Nat → Nat} (sh : Shp) (M : Mem) (k n q nq mm : Nat) (i : Int32) (hr : isRow sh k n) (hq : isRow sh q nq) (hi : i = nI mm) (h1 : mm ≤ n) (h2 : mm ≤ nq) (hne : k ≠ q) : Cm l D cI cO z tP aK aV yX4_copyFrom cX4_copyFrom 4 none 1 22 [.ref (z + k), .ref (z + q), .int i] sh M (pV (fun M1 => M1 = cpr M (k + 1) (q + 1) mm)) := by
  refine cm_intro (lv0 := [some (.ref (z + k)), some (.ref (z + q)), some (.int i), none]) (by decide) rfl (Nat.le_of_ble_eq_true rfl) rfl (fun p e s m below meth c C => ?_)
  refine g_iconst C ic_0 dX4_copyFrom_0 (n := 1) rfl ?_
  refine g_istore3 C dX4_copyFrom_1 (n := 2) rfl ?_
  have L_2 : ∀ (fu : Nat) (a : Nat) (x : Int32) (M1 : Mem), mm - a < fu → (x = nI a) → (a ≤ mm) → (M1 = cpr M (k + 1) (q + 1) a) → G p l e ({ frames := 1, cells := 0, slots := 0, locals := 22 }) s m ([.ref (z + k), .ref (z + q), .int i] : List Value).toArray below meth c D cI cO z 4 (QM below D cI cO z ([.ref (z + k), .ref (z + q), .int i] : List Value).toArray s sh (pV (fun M1 => M1 = cpr M (k + 1) (q + 1) mm))) 0 0 sh M1 2 [some (.ref (z + k)), some (.ref (z + q)), some (.int i), some (.int x)] [] := by
    intro fu_2
    induction fu_2 with
    | zero => intro a x M1 hfu; exact absurd hfu (Nat.not_lt_zero _)
    | succ fu_2 ih_2 =>
      intro a x M1 hfu_2 hx ha hM
      refine g_iload3 C dX4_copyFrom_2 (n := 3) rfl ?_
      refine g_iload2 C dX4_copyFrom_3 (n := 4) rfl ?_
      refine g_icmp_ge C dX4_copyFrom_4 (t := 23) (by decide) (n := 7) rfl (fun c_4 => ?_) (fun c_4 => ?_)
      · have hin : a = mm := Nat.le_antisymm ha (Nat.le_of_not_lt (fun h => c_4 (by rw [hx, hi]; exact nI_lt h (Nat.lt_of_le_of_lt h1 hr.2.2))))
        subst hin
        refine r_V C dX4_copyFrom_23 ?_
        exact hM
      · have hin : a < mm := Nat.lt_of_not_le (fun h => absurd c_4 (by rw [hx, hi]; exact nI_nlt h (Nat.lt_of_le_of_lt ha (Nat.lt_of_le_of_lt h1 hr.2.2))))
        refine g_aload0 C dX4_copyFrom_7 (n := 8) rfl ?_
        refine g_iload3 C dX4_copyFrom_8 (n := 9) rfl ?_
        refine g_aload1 C dX4_copyFrom_9 (n := 10) rfl ?_
        refine g_iload3 C dX4_copyFrom_10 (n := 11) rfl ?_
        refine kc_X4_19 C (ct_X4_at sh M1 q nq a x hq hx (Nat.lt_of_lt_of_le hin h2)) hq.1 ⟨Nat.le_of_ble_eq_true rfl, Nat.le_of_ble_eq_true rfl⟩ ⟨Nat.zero_le _, Nat.zero_le _⟩ (Nat.le_of_ble_eq_true rfl) dX4_copyFrom_11 (n := 14) rfl (fun r_11 M_11 h_11 => ?_)
        rw [h_11.1, h_11.2]
        refine kc_X4_23 C (ct_X4_set sh M1 k n a x _ hr hx (Nat.lt_of_lt_of_le hin h1)) hr.1 ⟨Nat.le_of_ble_eq_true rfl, Nat.le_of_ble_eq_true rfl⟩ ⟨Nat.zero_le _, Nat.zero_le _⟩ (Nat.le_of_ble_eq_true rfl) dX4_copyFrom_14 (n := 17) rfl (fun M_14 h_14 => ?_)
        refine g_iinc3 C (inc_1 _) dX4_copyFrom_17 (n := 20) rfl ?_
        refine g_goto C dX4_copyFrom_20 (t := 2) (by decide) ?_
        exact ih_2 (a + 1) (x + 1) M_14 (by omega) (by rw [hx, nI_1]) hin (by rw [h_14, hM, cpr_at (by omega), cpr_s])
  exact L_2 (mm + 1) 0 0 M (by omega) nI_0.symm (Nat.zero_le _) (cpr_0 M (k + 1) (q + 1)).symm
