/-! speeches that are kept -/
theorem cpr_ne {M : Mem} {k q n a : Nat} (h : a ≠ k) : cpr M k q n a = M a := by
  funext b; simp [cpr, h]
theorem cpr_in {M : Mem} {k q n b : Nat} (h : b < n) : cpr M k q n k b = M q b := by simp [cpr, h]
theorem fil_ne {M : Mem} {k n a : Nat} {v : Int32} (h : a ≠ k) : fil M k n v a = M a := by
  funext b; simp [fil, h]
theorem fil_in {M : Mem} {k n b : Nat} {v : Int32} (h : b < n) : fil M k n v k b = v := by simp [fil, h]
theorem ring_at : ∀ a, a < 6 → ([some 10, some 15, some 20, some 25, some 30, some 35] : List (Option Nat))[a]? = some (some (10 + 5 * a)) := by decide
theorem speech_r {a : Nat} (ha : a < 6) : isSpeech SH (10 + 5 * a) := by
  rcases (show a = 0 ∨ a = 1 ∨ a = 2 ∨ a = 3 ∨ a = 4 ∨ a = 5 by omega) with rfl | rfl | rfl | rfl | rfl | rfl
  · exact speech_10
  · exact speech_15
  · exact speech_20
  · exact speech_25
  · exact speech_30
  · exact speech_35
theorem spC_cong {M M1 : Mem} {k : Nat} {S : Spt} (h0 : M1 k = M k) (h2 : M1 (k + 2) = M (k + 2)) (h4 : M1 (k + 4) = M (k + 4)) (h : spC M k S) : spC M1 k S := by
  unfold spC at *; rw [h0, h2, h4]; exact h
theorem min120 {x : Int32} {a : Nat} (hx : x = nI a) (ha : a ≤ 120) : (if (120 : Int32) < x then 120 else x) = nI a := by
  rw [if_neg]
  · exact hx
  · intro h
    have := (qlt (show (120 : Int32) = nI 120 from rfl) hx (by decide) (by omega)).mp h
    omega
def psh (L : List Spt) (S : Spt) : List Spt := if L.length = 6 then L.tail ++ [S] else L ++ [S]
theorem psh_len {L : List Spt} {S : Spt} (h : L.length ≤ 6) : (psh L S).length = min (L.length + 1) 6 := by
  unfold psh
  split
  · simp; omega
  · simp; omega
theorem psh_at {L : List Spt} {S T : Spt} {i : Nat} (h : L.length ≤ 6) (hi : (psh L S)[i]? = some T) : (i + 1 = (psh L S).length ∧ T = S) ∨ (L.length = 6 ∧ i < 5 ∧ L[i + 1]? = some T) ∨ (L.length < 6 ∧ i < L.length ∧ L[i]? = some T) := by
  rw [psh_len h]
  unfold psh at hi
  by_cases h6 : L.length = 6
  · rw [if_pos h6] at hi
    by_cases h5 : i < 5
    · rw [List.getElem?_append_left (by simp; omega), List.getElem?_tail] at hi
      exact Or.inr (Or.inl ⟨h6, h5, hi⟩)
    · rw [List.getElem?_append_right (by simp; omega)] at hi
      have hl := (List.getElem?_eq_some_iff.mp hi).1
      simp at hl
      have : i - L.tail.length = 0 := by simp; omega
      rw [this] at hi
      exact Or.inl ⟨by omega, by simpa using hi.symm⟩
  · rw [if_neg h6] at hi
    by_cases h5 : i < L.length
    · rw [List.getElem?_append_left h5] at hi
      exact Or.inr (Or.inr ⟨by omega, h5, hi⟩)
    · rw [List.getElem?_append_right (by omega)] at hi
      have hl := (List.getElem?_eq_some_iff.mp hi).1
      simp at hl
      have : i - L.length = 0 := by omega
      rw [this] at hi
      exact Or.inl ⟨by omega, by simpa using hi.symm⟩
theorem hsC_psh {M M1 : Mem} {L : List Spt} {S : Spt} {nx : Nat} (hl : L.length ≤ 6) (hx : nx < 6) (hL : ∀ i T, L[i]? = some T → spC M (10 + 5 * ((nx + 6 - L.length + i) % 6)) T)
    (h1 : M1 8 1 = nI ((nx + 1) % 6)) (h2 : M1 8 2 = nI (min (L.length + 1) 6)) (hS : spC M1 (10 + 5 * nx) S) (hf : ∀ a, a < 6 → a ≠ nx → M1 (10 + 5 * a) = M (10 + 5 * a) ∧ M1 (10 + 5 * a + 2) = M (10 + 5 * a + 2) ∧ M1 (10 + 5 * a + 4) = M (10 + 5 * a + 4)) : hsC M1 (psh L S) := by
  refine ⟨(nx + 1) % 6, Nat.mod_lt _ (by decide), h1, by rw [psh_len hl]; exact h2, fun i T hi => ?_⟩
  rcases psh_at hl hi with ⟨e1, rfl⟩ | ⟨e1, e2, e3⟩ | ⟨e1, e2, e3⟩
  · rw [psh_len hl] at e1 ⊢
    have : ((nx + 1) % 6 + 6 - min (L.length + 1) 6 + i) % 6 = nx := by omega
    rw [this]; exact hS
  · rw [psh_len hl]
    have q1 : ((nx + 1) % 6 + 6 - min (L.length + 1) 6 + i) % 6 = (nx + 6 - L.length + (i + 1)) % 6 := by omega
    have q2 : (nx + 6 - L.length + (i + 1)) % 6 ≠ nx := by omega
    rw [q1]
    obtain ⟨f1, f2, f3⟩ := hf _ (Nat.mod_lt _ (by decide)) q2
    exact spC_cong f1 f2 f3 (hL _ _ e3)
  · rw [psh_len hl]
    have q1 : ((nx + 1) % 6 + 6 - min (L.length + 1) 6 + i) % 6 = (nx + 6 - L.length + i) % 6 := by omega
    have q2 : (nx + 6 - L.length + i) % 6 ≠ nx := by omega
    rw [q1]
    obtain ⟨f1, f2, f3⟩ := hf _ (Nat.mod_lt _ (by decide)) q2
    exact spC_cong f1 f2 f3 (hL _ _ e3)
theorem hsC_cong {M M1 : Mem} {L : List Spt} (h : ∀ a, 8 ≤ a → a < 40 → M1 a = M a) (hL : hsC M L) : hsC M1 L := by
  obtain ⟨nx, h1, h2, h3, h4⟩ := hL
  refine ⟨nx, h1, by rw [h 8 (by omega) (by omega)]; exact h2, by rw [h 8 (by omega) (by omega)]; exact h3, fun i T hi => ?_⟩
  have hm : (nx + 6 - L.length + i) % 6 < 6 := Nat.mod_lt _ (by decide)
  exact spC_cong (h _ (by omega) (by omega)) (h _ (by omega) (by omega)) (h _ (by omega) (by omega)) (h4 i T hi)
theorem ic_3 : Int32.ofInt 3 = 3 := by decide
theorem ic_5 : Int32.ofInt 5 = 5 := by decide
theorem bp_120 : (Int8.ofInt 120).toInt32 = 120 := by decide
set_option maxHeartbeats 4000000 in
set_option maxRecDepth 100000 in
theorem ct_X5_replaceBy {l : Launch} {D : va_G} {cI cO : ClassId} {z tP : Nat} {aK aV : Nat → Nat} (sh : Shp) (M : Mem) (k q nq mm : Nat) (i : Int32) (hs : isSpeech sh k) (hq : isRow sh q nq) (hi : i = nI mm) (h1 : mm ≤ 120) (h2 : mm ≤ nq) (hne : k + 1 ≠ q) (hne2 : k ≠ q + 1) : Cm l D cI cO z tP aK aV yX5_replaceBy cX5_replaceBy 3 none 2 45 [.ref (z + k), .ref (z + q), .int i] sh M (pV (fun M1 => M1 = cpr (up2 M k 1 (nI mm)) (k + 2) (q + 1) mm)) := by
  refine cm_intro (lv0 := [some (.ref (z + k)), some (.ref (z + q)), some (.int i)]) (by decide) rfl (Nat.le_of_ble_eq_true rfl) rfl (fun p e s m below meth c C => ?_)
  refine g_aload0 C dX5_replaceBy_0 (n := 1) rfl ?_
  refine g_iload2 C dX5_replaceBy_1 (n := 2) rfl ?_
  refine g_bipush C bp_120 dX5_replaceBy_2 (n := 4) rfl ?_
  refine kc_X5_43 C ⟨Nat.le_of_ble_eq_true rfl, Nat.le_of_ble_eq_true rfl⟩ ⟨Nat.zero_le _, Nat.zero_le _⟩ dX5_replaceBy_4 (n := 7) rfl ?_
  rw [min120 hi h1]
  refine kp_X5_23 C hs.1 rfl dX5_replaceBy_7 (n := 10) rfl (fun Ms eMs => ?_)
  refine g_aload0 C dX5_replaceBy_10 (n := 11) rfl ?_
  refine kg_X5_14 C hs.1 rfl dX5_replaceBy_11 (n := 14) rfl ?_
  refine g_aload1 C dX5_replaceBy_14 (n := 15) rfl ?_
  refine g_aload0 C dX5_replaceBy_15 (n := 16) rfl ?_
  refine kg_X5_23 C hs.1 rfl dX5_replaceBy_16 (n := 19) rfl ?_
  refine kc_X5_40 C (ct_X4_copyFrom sh Ms (k + 1) 120 q nq mm _ hs.2.1 hq (by rw [eMs, up2_at]) h1 h2 hne) hs.2.1.1 ⟨Nat.le_of_ble_eq_true rfl, Nat.le_of_ble_eq_true rfl⟩ ⟨Nat.zero_le _, Nat.zero_le _⟩ (Nat.le_of_ble_eq_true rfl) dX5_replaceBy_19 (n := 22) rfl (fun M_19 h_19 => ?_)
  rw [eMs] at h_19
  refine r_V C dX5_replaceBy_22 ?_
  exact h_19
set_option maxHeartbeats 4000000 in
set_option maxRecDepth 100000 in
theorem ct_X5_becomeLike {l : Launch} {D : va_G} {cI cO : ClassId} {z tP : Nat} {aK aV : Nat → Nat} (sh : Shp) (M : Mem) (k q : Nat) (S : Spt) (hs : isSpeech sh k) (hq : isSpeech sh q) (hap : k + 5 ≤ q ∨ q + 5 ≤ k) (hS : spC M q S) (hn : spn S ≤ 120) : Cm l D cI cO z tP aK aV yX5_becomeLike cX5_becomeLike 2 none 3 67 [.ref (z + k), .ref (z + q)] sh M (pV (fun M1 => spC M1 k S ∧ ∀ a, a ≠ k → a ≠ k + 2 → a ≠ k + 4 → M1 a = M a)) := by
  refine cm_intro (lv0 := [some (.ref (z + k)), some (.ref (z + q))]) (by decide) rfl (Nat.le_of_ble_eq_true rfl) rfl (fun p e s m below meth c C => ?_)
  refine g_aload0 C dX5_becomeLike_0 (n := 1) rfl ?_
  refine g_aload1 C dX5_becomeLike_1 (n := 2) rfl ?_
  refine kg_X5_14 C hq.1 rfl dX5_becomeLike_2 (n := 5) rfl ?_
  refine g_aload1 C dX5_becomeLike_5 (n := 6) rfl ?_
  refine kg_X5_23 C hq.1 rfl dX5_becomeLike_6 (n := 9) rfl ?_
  refine kc_X5_36 C (ct_X5_replaceBy sh M k (q + 1) 120 (spn S) _ hs hq.2.1 hS.1 hn hn (by omega) (by omega)) hs.1 ⟨Nat.le_of_ble_eq_true rfl, Nat.le_of_ble_eq_true rfl⟩ ⟨Nat.zero_le _, Nat.zero_le _⟩ (Nat.le_of_ble_eq_true rfl) dX5_becomeLike_9 (n := 12) rfl (fun M2 h2 => ?_)
  have f2 : ∀ a, a ≠ k → a ≠ k + 2 → M2 a = M a := fun a a1 a2 => by
    rw [h2]; funext b; simp [cpr, up2, a1, a2]
  have g2 : ∀ j, j < spn S → M2 (k + 2) j = spg S j := fun j hj => by
    rw [h2]; simp [cpr, hj]; rw [up2_ne _ _ (by omega)]; exact hS.2.1 j hj
  have n2 : M2 k 1 = nI (spn S) := by rw [h2]; simp [cpr, up2]
  refine g_aload0 C dX5_becomeLike_12 (n := 13) rfl ?_
  refine g_aload1 C dX5_becomeLike_13 (n := 14) rfl ?_
  refine kg_X5_27 C hq.1 rfl dX5_becomeLike_14 (n := 17) rfl ?_
  refine kp_X5_27 C hs.1 rfl dX5_becomeLike_17 (n := 20) rfl (fun M3 e3 => ?_)
  refine g_aload0 C dX5_becomeLike_20 (n := 21) rfl ?_
  refine g_aload1 C dX5_becomeLike_21 (n := 22) rfl ?_
  refine kg_X5_30 C hq.1 rfl dX5_becomeLike_22 (n := 25) rfl ?_
  refine kp_X5_30 C hs.1 rfl dX5_becomeLike_25 (n := 28) rfl (fun M4 e4 => ?_)
  have q4 : M4 (q + 4) = M (q + 4) := by rw [e4, up2_ne _ _ (by omega), e3, up2_ne _ _ (by omega), f2 _ (by omega) (by omega)]
  refine g_aload0 C dX5_becomeLike_28 (n := 29) rfl ?_
  refine kg_X5_20 C hs.1 rfl dX5_becomeLike_29 (n := 32) rfl ?_
  refine g_aload1 C dX5_becomeLike_32 (n := 33) rfl ?_
  refine kg_X5_20 C hq.1 rfl dX5_becomeLike_33 (n := 36) rfl ?_
  refine g_iconst C ic_3 dX5_becomeLike_36 (n := 37) rfl ?_
  refine kc_X5_40 C (ct_X4_copyFrom sh M4 (k + 3) 3 (q + 3) 3 3 _ hs.2.2 hq.2.2 (show (3 : Int32) = nI 3 from rfl) (by omega) (by omega) (by omega)) hs.2.2.1 ⟨Nat.le_of_ble_eq_true rfl, Nat.le_of_ble_eq_true rfl⟩ ⟨Nat.zero_le _, Nat.zero_le _⟩ (Nat.le_of_ble_eq_true rfl) dX5_becomeLike_37 (n := 40) rfl (fun M5 h5 => ?_)
  refine r_V C dX5_becomeLike_40 ?_
  have r3 : M3 q = M q := by rw [e3, up2_ne _ _ (by omega), f2 _ (by omega) (by omega)]
  have r2 : M2 q = M q := f2 _ (by omega) (by omega)
  have f5 : ∀ a, a ≠ k + 4 → M5 a = M4 a := fun a ha => by rw [h5]; exact cpr_ne ha
  refine ⟨⟨?_, fun j hj => ?_, ?_, ?_, fun j hj => ?_⟩, fun a a1 a2 a3 => ?_⟩
  · rw [f5 k (by omega), e4, e3]; simp [up2]; exact n2
  · rw [f5 _ (by omega), e4, up2_ne _ _ (by omega), e3, up2_ne _ _ (by omega)]; exact g2 j hj
  · rw [f5 k (by omega), e4, e3]; simp [up2]; rw [r2]; exact hS.2.2.1
  · rw [f5 k (by omega), e4]; simp [up2]; rw [r3]; exact hS.2.2.2.1
  · rw [h5]; refine (cpr_in hj).trans ?_; rw [q4]; exact hS.2.2.2.2 j hj
  · rw [f5 a a3, e4, up2_ne _ _ a1, e3, up2_ne _ _ a1, f2 a a1 a2]
set_option maxHeartbeats 4000000 in
set_option maxRecDepth 100000 in
theorem ct_X1_slot {l : Launch} {D : va_G} {cI cO : ClassId} {z tP : Nat} {aK aV : Nat → Nat} (M : Mem) (a : Nat) (x : Int32) (hx : x = nI a) (ha : a < 6) : Cm l D cI cO z tP aK aV yX1_slot cX1_slot 2 (some (.object "SpeechMarks$Speech")) 0 0 [.ref (z + 8), .int x] SH M (pA (fun r M1 => r = z + (10 + 5 * a) ∧ M1 = M)) := by
  refine cm_intro (lv0 := [some (.ref (z + 8)), some (.int x)]) (by decide) rfl (Nat.le_of_ble_eq_true rfl) rfl (fun p e s m below meth c C => ?_)
  refine g_iload1 C dX1_slot_0 (n := 1) rfl ?_
  refine g_if_lt C dX1_slot_1 (t := 22) (by decide) (n := 4) rfl (fun c_1 => ?_) (fun c_1 => ?_)
  · exact absurd c_1 (by rw [hx]; exact nI_pos (by omega))
  · have _u := True.intro
    refine g_iload1 C dX1_slot_4 (n := 5) rfl ?_
    refine g_aload0 C dX1_slot_5 (n := 6) rfl ?_
    refine kg_X1_11 C sh_8 rfl dX1_slot_6 (n := 9) rfl ?_
    refine g_alenR C sh_9 dX1_slot_9 (n := 10) rfl ?_
    refine g_icmp_ge C dX1_slot_10 (t := 22) (by decide) (n := 13) rfl (fun c_10 => ?_) (fun c_10 => ?_)
    · exact absurd ((qlt hx (show nI ([some 10, some 15, some 20, some 25, some 30, some 35] : List (Option Nat)).length = nI 6 from rfl) (by omega) (by decide)).mpr ha) c_10
    · have _u := True.intro
      refine g_aload0 C dX1_slot_13 (n := 14) rfl ?_
      refine kg_X1_11 C sh_8 rfl dX1_slot_14 (n := 17) rfl ?_
      refine g_iload1 C dX1_slot_17 (n := 18) rfl ?_
      refine g_aald C sh_9 (by decide) hx (ring_at a ha) dX1_slot_18 (n := 19) rfl ?_
      refine g_goto C dX1_slot_19 (t := 23) (by decide) ?_
      refine r_A C dX1_slot_23 ?_
      exact ⟨rfl, rfl⟩
set_option maxHeartbeats 4000000 in
set_option maxRecDepth 100000 in
theorem ct_X1_keep {l : Launch} {D : va_G} {cI cO : ClassId} {z tP : Nat} {aK aV : Nat → Nat} (M : Mem) (S : Spt) (L : List Spt) (hS : spC M 3 S) (hn : spn S ≤ 120) (hL : hsC M L) (hl : L.length ≤ 6) : Cm l D cI cO z tP aK aV yX1_keep cX1_keep 3 none 4 88 [.ref (z + 8), .ref (z + 3)] SH M (pV (fun M1 => hsC M1 (psh L S) ∧ ∀ a, (a < 8 ∨ 40 ≤ a) → M1 a = M a)) := by
  refine cm_intro (lv0 := [some (.ref (z + 8)), some (.ref (z + 3)), none]) (by decide) rfl (Nat.le_of_ble_eq_true rfl) rfl (fun p e s m below meth c C => ?_)
  obtain ⟨nx, hx, hx1, hx2, hx3⟩ := hL
  have J_40 : ∀ (Mk : Mem) (v : Int32), (spC Mk (10 + 5 * nx) S ∧ ∀ a, a ≠ 10 + 5 * nx → a ≠ 10 + 5 * nx + 2 → a ≠ 10 + 5 * nx + 4 → Mk a = M a) → (v = nI ((nx + 1) % 6)) → G p l e ({ frames := 4, cells := 0, slots := 0, locals := 88 }) s m ([.ref (z + 8), .ref (z + 3)] : List Value).toArray below meth c D cI cO z 3 (QM below D cI cO z ([.ref (z + 8), .ref (z + 3)] : List Value).toArray s SH (pV (fun M1 => hsC M1 (psh L S) ∧ ∀ a, (a < 8 ∨ 40 ≤ a) → M1 a = M a))) 0 0 SH Mk 40 [some (.ref (z + 8)), some (.ref (z + 3)), some (.ref (z + (10 + 5 * nx)))] [.int v, .ref (z + 8)] := by
    intro Mk v hk hv
    refine kp_X1_18 C sh_8 rfl dX1_keep_40 (n := 43) rfl (fun Mc eMc => ?_)
    refine g_aload0 C dX1_keep_43 (n := 44) rfl ?_
    refine g_aload0 C dX1_keep_44 (n := 45) rfl ?_
    refine kg_X1_22 C sh_8 rfl dX1_keep_45 (n := 48) rfl ?_
    refine g_iconst C ic_1 dX1_keep_48 (n := 49) rfl ?_
    refine g_iadd C dX1_keep_49 (n := 50) rfl ?_
    refine g_bipush C bp_6 dX1_keep_50 (n := 52) rfl ?_
    refine kc_X1_33 C ⟨Nat.le_of_ble_eq_true rfl, Nat.le_of_ble_eq_true rfl⟩ ⟨Nat.zero_le _, Nat.zero_le _⟩ dX1_keep_52 (n := 55) rfl ?_
    have hk2 : Mc 8 2 = nI L.length := by rw [eMc]; simp [up2]; rw [hk.2 8 (by omega) (by omega) (by omega)]; exact hx2
    have hmin : (if (6 : Int32) < Mc 8 2 + 1 then 6 else Mc 8 2 + 1) = nI (min (L.length + 1) 6) := by
      have e9 : Mc 8 2 + 1 = nI (L.length + 1) := by rw [hk2, nI_1]
      by_cases h9 : (6 : Int32) < Mc 8 2 + 1
      · have := (qlt (show (6 : Int32) = nI 6 from rfl) e9 (by decide) (by omega)).mp h9
        rw [if_pos h9, show min (L.length + 1) 6 = 6 by omega]; rfl
      · have : ¬ 6 < L.length + 1 := fun h => h9 ((qlt (show (6 : Int32) = nI 6 from rfl) e9 (by decide) (by omega)).mpr h)
        rw [if_neg h9, e9, show min (L.length + 1) 6 = L.length + 1 by omega]
    rw [hmin]
    refine kp_X1_22 C sh_8 rfl dX1_keep_55 (n := 58) rfl (fun Md eMd => ?_)
    refine r_V C dX1_keep_58 ?_
    have f : ∀ a, a ≠ 8 → Md a = Mk a := fun a ha => by rw [eMd, up2_ne _ _ ha, eMc, up2_ne _ _ ha]
    refine ⟨hsC_psh (M := M) hl hx hx3 ?_ ?_ (spC_cong (f _ (by omega)) (f _ (by omega)) (f _ (by omega)) hk.1) (fun a ha hne => ?_), fun a ha => ?_⟩
    · rw [eMd, eMc]; simp [up2]; exact hv
    · rw [eMd]; simp [up2]
    · refine ⟨?_, ?_, ?_⟩ <;> rw [f _ (by omega)] <;> exact hk.2 _ (by omega) (by omega) (by omega)
    · rw [f a (by omega)]; exact hk.2 a (by omega) (by omega) (by omega)
  refine g_aload0 C dX1_keep_0 (n := 1) rfl ?_
  refine g_aload0 C dX1_keep_1 (n := 2) rfl ?_
  refine kg_X1_18 C sh_8 rfl dX1_keep_2 (n := 5) rfl ?_
  refine kc_X1_25 C (ct_X1_slot M nx _ hx1 hx) sh_8 ⟨Nat.le_of_ble_eq_true rfl, Nat.le_of_ble_eq_true rfl⟩ ⟨Nat.zero_le _, Nat.zero_le _⟩ (Nat.le_of_ble_eq_true rfl) dX1_keep_5 (n := 8) rfl (fun r_5 M_5 h_5 => ?_)
  rw [h_5.1, h_5.2]
  refine g_astore2 C dX1_keep_8 (n := 9) rfl ?_
  refine g_aload2 C dX1_keep_9 (n := 10) rfl ?_
  refine g_ifnull C dX1_keep_10 (n := 13) rfl ?_
  refine g_aload2 C dX1_keep_13 (n := 14) rfl ?_
  refine g_aload1 C dX1_keep_14 (n := 15) rfl ?_
  refine kc_X1_29 C (ct_X5_becomeLike SH M (10 + 5 * nx) 3 S (speech_r hx) speech_3 (by omega) hS hn) (speech_r hx).1 ⟨Nat.le_of_ble_eq_true rfl, Nat.le_of_ble_eq_true rfl⟩ ⟨Nat.zero_le _, Nat.zero_le _⟩ (Nat.le_of_ble_eq_true rfl) dX1_keep_15 (n := 18) rfl (fun Mb hMb => ?_)
  have hb1 : Mb 8 1 = nI nx := by rw [hMb.2 8 (by omega) (by omega) (by omega)]; exact hx1
  refine g_aload0 C dX1_keep_18 (n := 19) rfl ?_
  refine g_aload0 C dX1_keep_19 (n := 20) rfl ?_
  refine kg_X1_18 C sh_8 rfl dX1_keep_20 (n := 23) rfl ?_
  refine g_iconst C ic_1 dX1_keep_23 (n := 24) rfl ?_
  refine g_iadd C dX1_keep_24 (n := 25) rfl ?_
  refine g_bipush C bp_6 dX1_keep_25 (n := 27) rfl ?_
  refine g_icmp_ge C dX1_keep_27 (t := 39) (by decide) (n := 30) rfl (fun c_27 => ?_) (fun c_27 => ?_)
  · have h6 : ¬ nx + 1 < 6 := fun h => c_27 ((qlt (by rw [hb1, nI_1]) (show (6 : Int32) = nI 6 from rfl) (by omega) (by decide)).mpr h)
    refine g_iconst C ic_0 dX1_keep_39 (n := 40) rfl ?_
    first | exact J_40 Mb _ hMb (by rw [hb1, nI_1]; congr 1; omega) | exact J_40 Mb _ hMb (by rw [show (nx + 1) % 6 = 0 by omega]; rfl)
  · have h6 : nx + 1 < 6 := (qlt (by rw [hb1, nI_1]) (show (6 : Int32) = nI 6 from rfl) (by omega) (by decide)).mp c_27
    refine g_aload0 C dX1_keep_30 (n := 31) rfl ?_
    refine kg_X1_18 C sh_8 rfl dX1_keep_31 (n := 34) rfl ?_
    refine g_iconst C ic_1 dX1_keep_34 (n := 35) rfl ?_
    refine g_iadd C dX1_keep_35 (n := 36) rfl ?_
    refine g_goto C dX1_keep_36 (t := 40) (by decide) ?_
    first | exact J_40 Mb _ hMb (by rw [hb1, nI_1]; congr 1; omega) | exact J_40 Mb _ hMb (by rw [show (nx + 1) % 6 = 0 by omega]; rfl)
set_option maxHeartbeats 4000000 in
set_option maxRecDepth 100000 in
theorem ct_X1_giveBack {l : Launch} {D : va_G} {cI cO : ClassId} {z tP : Nat} {aK aV : Nat → Nat} (M : Mem) (S : Spt) (L : List Spt) (hL : hsC M (L ++ [S])) (hn : spn S ≤ 120) (hl : L.length < 6) : Cm l D cI cO z tP aK aV yX1_giveBack cX1_giveBack 4 none 4 88 [.ref (z + 8), .ref (z + 3)] SH M (pV (fun M1 => spC M1 3 S ∧ hsC M1 L ∧ ∀ a, (a < 3 ∨ 40 ≤ a) → M1 a = M a)) := by
  refine cm_intro (lv0 := [some (.ref (z + 8)), some (.ref (z + 3)), none, none]) (by decide) rfl (Nat.le_of_ble_eq_true rfl) rfl (fun p e s m below meth c C => ?_)
  obtain ⟨nx, hx, hx1, hx2, hx3⟩ := hL
  rw [List.length_append, List.length_singleton] at hx2 hx3
  have hlt : (nx + 5) % 6 < 6 := Nat.mod_lt _ (by decide)
  have hlast : spC M (10 + 5 * ((nx + 5) % 6)) S := by
    have q := hx3 L.length S (by simp)
    rw [show (nx + 6 - (L.length + 1) + L.length) % 6 = (nx + 5) % 6 by omega] at q
    exact q
  have J_18 : ∀ (v : Int32), (v = nI ((nx + 5) % 6)) → G p l e ({ frames := 4, cells := 0, slots := 0, locals := 88 }) s m ([.ref (z + 8), .ref (z + 3)] : List Value).toArray below meth c D cI cO z 4 (QM below D cI cO z ([.ref (z + 8), .ref (z + 3)] : List Value).toArray s SH (pV (fun M1 => spC M1 3 S ∧ hsC M1 L ∧ ∀ a, (a < 3 ∨ 40 ≤ a) → M1 a = M a))) 0 0 SH M 18 [some (.ref (z + 8)), some (.ref (z + 3)), some (.int v), none] [] := by
    intro v hv
    refine g_aload0 C dX1_giveBack_18 (n := 19) rfl ?_
    refine g_iload2 C dX1_giveBack_19 (n := 20) rfl ?_
    refine kc_X1_25 C (ct_X1_slot M ((nx + 5) % 6) _ hv hlt) sh_8 ⟨Nat.le_of_ble_eq_true rfl, Nat.le_of_ble_eq_true rfl⟩ ⟨Nat.zero_le _, Nat.zero_le _⟩ (Nat.le_of_ble_eq_true rfl) dX1_giveBack_20 (n := 23) rfl (fun r_20 M_20 h_20 => ?_)
    rw [h_20.1, h_20.2]
    refine g_astore3 C dX1_giveBack_23 (n := 24) rfl ?_
    refine g_aload3 C dX1_giveBack_24 (n := 25) rfl ?_
    refine g_ifnull C dX1_giveBack_25 (n := 28) rfl ?_
    refine g_aload0 C dX1_giveBack_28 (n := 29) rfl ?_
    refine kg_X1_22 C sh_8 rfl dX1_giveBack_29 (n := 32) rfl ?_
    refine g_if_le C dX1_giveBack_32 (t := 55) (by decide) (n := 35) rfl (fun c_32 => ?_) (fun c_32 => ?_)
    · exact absurd ((qlt nI_0.symm hx2 (by decide) (by omega)).mpr (by omega)) c_32
    · have _u := True.intro
      refine g_aload1 C dX1_giveBack_35 (n := 36) rfl ?_
      refine g_aload3 C dX1_giveBack_36 (n := 37) rfl ?_
      refine kc_X1_29 C (ct_X5_becomeLike SH M 3 (10 + 5 * ((nx + 5) % 6)) S speech_3 (speech_r hlt) (by omega) hlast hn) sh_3 ⟨Nat.le_of_ble_eq_true rfl, Nat.le_of_ble_eq_true rfl⟩ ⟨Nat.zero_le _, Nat.zero_le _⟩ (Nat.le_of_ble_eq_true rfl) dX1_giveBack_37 (n := 40) rfl (fun Mb hMb => ?_)
      refine g_aload0 C dX1_giveBack_40 (n := 41) rfl ?_
      refine g_iload2 C dX1_giveBack_41 (n := 42) rfl ?_
      refine kp_X1_18 C sh_8 rfl dX1_giveBack_42 (n := 45) rfl (fun Mc eMc => ?_)
      have hk2 : Mc 8 2 = nI (L.length + 1) := by rw [eMc]; simp [up2]; rw [hMb.2 8 (by omega) (by omega) (by omega)]; exact hx2
      refine g_aload0 C dX1_giveBack_45 (n := 46) rfl ?_
      refine g_dup C rfl dX1_giveBack_46 (n := 47) rfl ?_
      refine kg_X1_22 C sh_8 rfl dX1_giveBack_47 (n := 50) rfl ?_
      refine g_iconst C ic_1 dX1_giveBack_50 (n := 51) rfl ?_
      refine g_isub C dX1_giveBack_51 (n := 52) rfl ?_
      refine kp_X1_22 C sh_8 rfl dX1_giveBack_52 (n := 55) rfl (fun Md eMd => ?_)
      refine r_V C dX1_giveBack_55 ?_
      have f : ∀ a, a ≠ 8 → Md a = Mb a := fun a ha => by rw [eMd, up2_ne _ _ ha, eMc, up2_ne _ _ ha]
      refine ⟨spC_cong (f _ (by omega)) (f _ (by omega)) (f _ (by omega)) hMb.1, ⟨(nx + 5) % 6, hlt, ?_, ?_, fun i T hi => ?_⟩, fun a ha => ?_⟩
      · rw [eMd]; simp [up2]; rw [eMc]; simp [up2]; exact hv
      · rw [eMd]; simp [up2]; rw [hk2]; exact pk_sub (b := 1) (by omega)
      · have hi9 : i < L.length := (List.getElem?_eq_some_iff.mp hi).1
        have q := hx3 i T (by rw [List.getElem?_append_left hi9]; exact hi)
        rw [show ((nx + 5) % 6 + 6 - L.length + i) % 6 = (nx + 6 - (L.length + 1) + i) % 6 by omega]
        have hm : (nx + 6 - (L.length + 1) + i) % 6 < 6 := Nat.mod_lt _ (by decide)
        exact spC_cong (by rw [f _ (by omega)]; exact hMb.2 _ (by omega) (by omega) (by omega)) (by rw [f _ (by omega)]; exact hMb.2 _ (by omega) (by omega) (by omega)) (by rw [f _ (by omega)]; exact hMb.2 _ (by omega) (by omega) (by omega)) q
      · rw [f a (by omega)]; exact hMb.2 a (by omega) (by omega) (by omega)
  refine g_aload0 C dX1_giveBack_0 (n := 1) rfl ?_
  refine kg_X1_18 C sh_8 rfl dX1_giveBack_1 (n := 4) rfl ?_
  refine g_if_le C dX1_giveBack_4 (t := 16) (by decide) (n := 7) rfl (fun c_4 => ?_) (fun c_4 => ?_)
  · have h0 : nx = 0 := by
      have : ¬ 0 < nx := fun h => c_4 ((qlt nI_0.symm hx1 (by decide) (by omega)).mpr h)
      omega
    refine g_iconst C ic_5 dX1_giveBack_16 (n := 17) rfl ?_
    refine g_istore2 C dX1_giveBack_17 (n := 18) rfl ?_
    first | exact J_18 _ (by rw [e_sub hx1 (show (1 : Int32) = nI 1 from rfl) (by omega)]; congr 1; omega) | exact J_18 _ (by rw [show (nx + 5) % 6 = 5 by omega]; rfl)
  · have h0 : 0 < nx := (qlt nI_0.symm hx1 (by decide) (by omega)).mp c_4
    refine g_aload0 C dX1_giveBack_7 (n := 8) rfl ?_
    refine kg_X1_18 C sh_8 rfl dX1_giveBack_8 (n := 11) rfl ?_
    refine g_iconst C ic_1 dX1_giveBack_11 (n := 12) rfl ?_
    refine g_isub C dX1_giveBack_12 (n := 13) rfl ?_
    refine g_goto C dX1_giveBack_13 (t := 17) (by decide) ?_
    refine g_istore2 C dX1_giveBack_17 (n := 18) rfl ?_
    first | exact J_18 _ (by rw [e_sub hx1 (show (1 : Int32) = nI 1 from rfl) (by omega)]; congr 1; omega) | exact J_18 _ (by rw [show (nx + 5) % 6 = 5 by omega]; rfl)
set_option maxHeartbeats 4000000 in
set_option maxRecDepth 100000 in
theorem ct_X1_forget {l : Launch} {D : va_G} {cI cO : ClassId} {z tP : Nat} {aK aV : Nat → Nat} (M : Mem) : Cm l D cI cO z tP aK aV yX1_forget cX1_forget 1 none 0 0 [.ref (z + 8)] SH M (pV (fun M1 => M1 = up2 M 8 2 0)) := by
  refine cm_intro (lv0 := [some (.ref (z + 8))]) (by decide) rfl (Nat.le_of_ble_eq_true rfl) rfl (fun p e s m below meth c C => ?_)
  refine g_aload0 C dX1_forget_0 (n := 1) rfl ?_
  refine g_iconst C ic_0 dX1_forget_1 (n := 2) rfl ?_
  refine kp_X1_22 C sh_8 rfl dX1_forget_2 (n := 5) rfl (fun M_2 e_2 => ?_)
  refine r_V C dX1_forget_5 ?_
  exact e_2
set_option maxHeartbeats 4000000 in
set_option maxRecDepth 100000 in
theorem ct_X6_outdate {l : Launch} {D : va_G} {cI cO : ClassId} {z tP : Nat} {aK aV : Nat → Nat} (M : Mem) : Cm l D cI cO z tP aK aV yX6_outdate cX6_outdate 1 none 0 0 [.ref (z + 0)] SH M (pV (fun M1 => M1 = up2 (up2 M 0 6 0) 0 7 0)) := by
  refine cm_intro (lv0 := [some (.ref (z + 0))]) (by decide) rfl (Nat.le_of_ble_eq_true rfl) rfl (fun p e s m below meth c C => ?_)
  refine g_aload0 C dX6_outdate_0 (n := 1) rfl ?_
  refine g_iconst C ic_0 dX6_outdate_1 (n := 2) rfl ?_
  refine kp_X6_50 C rfl rfl sh_0 rfl dX6_outdate_2 (n := 5) rfl (fun M_2 e_2 => ?_)
  refine g_aload0 C dX6_outdate_5 (n := 6) rfl ?_
  refine g_iconst C ic_0 dX6_outdate_6 (n := 7) rfl ?_
  refine kp_X6_54 C rfl rfl sh_0 rfl dX6_outdate_7 (n := 10) rfl (fun M_7 e_7 => ?_)
  refine r_V C dX6_outdate_10 ?_
  rw [e_7, e_2]
