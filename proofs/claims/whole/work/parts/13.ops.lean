/-! changes by hand: the pure words, and the class -/
def tn (x : Int32) : Nat := x.toNatClampNeg
theorem tn_nI {a : Nat} (h : a < 2 ^ 31) : tn (nI a) = a := nI_clamp h
def sIns (S : Spt) (i : Nat) (c : Int32) : Spt := (spn S + 1, fun j => if j < i then spg S j else if j = i then c else spg S (j - 1), spt S, spr S, spw S)
def sRem (S : Spt) (i : Nat) : Spt := (spn S - 1, fun j => if j < i then spg S j else spg S (j + 1), spt S, spr S, spw S)
def sAlt (S : Spt) (i : Nat) (c : Int32) : Spt := (spn S, fun j => if j = i then c else spg S j, spt S, spr S, spw S)
def sTon (S : Spt) (t : Nat) : Spt := (spn S, spg S, t, spr S, spw S)
def sRul (S : Spt) (r : Nat) : Spt := (spn S, spg S, spt S, r, spw S)
def sWei (S : Spt) (i v : Nat) : Spt := (spn S, spg S, spt S, spr S, fun j => if j = i then v else spw S j)
def sLay (S : Spt) (n : Nat) (g : Nat → Int32) : Spt := (n, g, spt S, spr S, spw S)
def chg (A : Abs) (S : Spt) : Abs := (A.1, A.2.1, S, psh A.2.2.2 A.2.2.1)
def opWrite (A : Abs) (x : Int32) : Int32 × Abs := if x < 32 ∨ 126 < x then (-1, A) else if A.1 = 200 then (-3, A) else (nI (A.1 + 1), (A.1 + 1, fun j => if j = A.1 then x else A.2.1 j, A.2.2))
def opWipe (A : Abs) : Int32 × Abs := (nI A.1, (0, A.2.1, A.2.2))
def okT (A : Abs) (j : Nat) : Prop := j < 120 ∧ isSg (A.2.1 j) = true
def fltS (A : Abs) (r : Int32) : Prop := (∃ j, j < A.1 ∧ r = nI j ∧ ¬ okT A j ∧ ∀ i, i < j → okT A i) ∨ (r = -4 ∧ ∀ i, i < A.1 → okT A i)
def layS (A : Abs) (r : Int32) (B : Abs) : Prop := ((∀ i, i < A.1 → okT A i) ∧ r = nI A.1 ∧ B = (A.1, A.2.1, sLay A.2.2.1 A.1 A.2.1, [])) ∨ ((∃ i, i < A.1 ∧ ¬ okT A i) ∧ r = -2 ∧ B = A)
def spkS (A : Abs) (r : Int32) (B : Abs) : Prop := ((∀ t, t < 4 → ¬ nmB A.1 A.2.1 (t + 1)) ∧ r = -4 ∧ B = A) ∨ ∃ t, t < 4 ∧ nmB A.1 A.2.1 (t + 1) ∧ ((t = spt A.2.2.1 ∧ r = -2 ∧ B = A) ∨ (t ≠ spt A.2.2.1 ∧ r = nI t ∧ B = chg A (sTon A.2.2.1 t)))
def opRule (A : Abs) (x : Int32) : Int32 × Abs := if x < 0 ∨ ¬ x < 3 then (-1, A) else if x = nI (spr A.2.2.1) then (-2, A) else (nI (spr A.2.2.1), chg A (sRul A.2.2.1 (tn x)))
def opWeigh (A : Abs) (x y : Int32) : Int32 × Abs := if x < 0 ∨ ¬ x < 3 ∨ y < 1 ∨ 9 < y then (-1, A) else if y = nI (spw A.2.2.1 (tn x)) then (-2, A) else (nI (spw A.2.2.1 (tn x)), chg A (sWei A.2.2.1 (tn x) (tn y)))
def opPut (A : Abs) (x c : Int32) : Int32 × Abs := if x < 0 ∨ nI (spn A.2.2.1) < x ∨ isSg c = false then (-1, A) else if spn A.2.2.1 = 120 then (-3, A) else (nI (spn A.2.2.1 + 1), chg A (sIns A.2.2.1 (tn x) c))
def opTake (A : Abs) (x : Int32) : Int32 × Abs := if x < 0 ∨ ¬ x < nI (spn A.2.2.1) then (-1, A) else (spg A.2.2.1 (tn x), chg A (sRem A.2.2.1 (tn x)))
def opAlter (A : Abs) (x c : Int32) : Int32 × Abs := if x < 0 ∨ ¬ x < nI (spn A.2.2.1) ∨ isSg c = false then (-1, A) else if c = spg A.2.2.1 (tn x) then (-2, A) else (spg A.2.2.1 (tn x), chg A (sAlt A.2.2.1 (tn x) c))
def opSign (A : Abs) (x : Int32) : Int32 := if x < 0 ∨ ¬ x < nI (spn A.2.2.1) then -1 else spg A.2.2.1 (tn x)
def undS (A : Abs) (r : Int32) (B : Abs) : Prop := (A.2.2.2 = [] ∧ r = -2 ∧ B = A) ∨ ∃ L S, A.2.2.2 = L ++ [S] ∧ r = nI L.length ∧ B = (A.1, A.2.1, S, L)
def absF (M : Mem) (A : Abs) : Prop := absC M A ∧ M 0 6 = 0 ∧ M 0 7 = 0
abbrev fr80 (M M1 : Mem) : Prop := ∀ a, 80 ≤ a → M1 a = M a
/-- an index that is below -/
theorem ix_of {x : Int32} {n : Nat} (h0 : ¬ x < 0) (h1 : x < nI n) (hn : n < 2 ^ 31) : ∃ j, j < n ∧ x = nI j := by
  rcases pk_ix x hn with h | h | h
  · exact absurd h h0
  · exact absurd h1 (Int32.not_lt.mpr h)
  · exact h
theorem ix_le {x : Int32} {n : Nat} (h0 : ¬ x < 0) (h1 : ¬ nI n < x) (hn : n < 2 ^ 31 - 1) : ∃ j, j ≤ n ∧ x = nI j := by
  obtain ⟨j, hj, e⟩ := nI_of h0
  refine ⟨j, ?_, e⟩
  have : ¬ n < j := fun h => h1 ((qlt rfl e (by omega) hj).mpr h)
  omega
theorem blw {x y : Int32} : bI (!decide (x < 0) && decide (x < y)) = 0 ↔ x < 0 ∨ ¬ x < y := by
  by_cases h : x < 0 <;> by_cases h2 : x < y <;> simp [bI, h, h2]
theorem blw' {x y : Int32} : ¬ bI (!decide (x < 0) && decide (x < y)) = 0 ↔ ¬ x < 0 ∧ x < y := by
  by_cases h : x < 0 <;> by_cases h2 : x < y <;> simp [bI, h, h2]
theorem absF_sp {M M1 : Mem} {A : Abs} {S : Spt} (h : absF M A) (hS : spC M1 3 S) (hf : ∀ a, a ≠ 3 → a ≠ 5 → a ≠ 7 → M1 a = M a) : absF M1 (A.1, A.2.1, S, A.2.2.2) := by
  obtain ⟨⟨h1, h2, h3, h4, h5, h6, h7, h8⟩, h9, h10⟩ := h
  have e0 : M1 0 = M 0 := hf 0 (by omega) (by omega) (by omega)
  refine ⟨⟨by rw [e0]; exact h1, fun j hj => by rw [hf 2 (by omega) (by omega) (by omega)]; exact h2 j hj, hS, hsC_cong (fun a _ _ => hf a (by omega) (by omega) (by omega)) h4, gI_cong (hf _ (by omega) (by omega) (by omega)) (hf _ (by omega) (by omega) (by omega)) (hf _ (by omega) (by omega) (by omega)) h5, gI_cong (hf _ (by omega) (by omega) (by omega)) (hf _ (by omega) (by omega) (by omega)) (hf _ (by omega) (by omega) (by omega)) h6, Or.inl (by rw [e0]; exact h9), Or.inl (by rw [e0]; exact h10)⟩, by rw [e0]; exact h9, by rw [e0]; exact h10⟩
/-- text alone -/
theorem absC_tx {M M1 : Mem} {A : Abs} {n : Nat} {g : Nat → Int32} (h : absC M A) (h1 : M1 0 1 = nI n) (h2 : ∀ j, j < n → M1 2 j = g j) (h6 : M1 0 6 = M 0 6) (h7 : M1 0 7 = M 0 7) (hf : ∀ a, a ≠ 0 → a ≠ 2 → M1 a = M a) : absC M1 (n, g, A.2.2) := by
  obtain ⟨_, _, q3, q4, q5, q6, q7, q8⟩ := h
  have f := fun a (ha : 3 ≤ a) => hf a (by omega) (by omega)
  refine ⟨h1, h2, spC_cong (f 3 (by omega)) (f 5 (by omega)) (f 7 (by omega)) q3, hsC_cong (fun a _ _ => f a (by omega)) q4, gI_cong (f _ (by omega)) (f _ (by omega)) (f _ (by omega)) q5, gI_cong (f _ (by omega)) (f _ (by omega)) (f _ (by omega)) q6, ?_, ?_⟩
  · rcases q7 with q | ⟨q, w⟩
    · exact Or.inl (by rw [h6]; exact q)
    · refine Or.inr ⟨by rw [h6]; exact q, ?_⟩
      unfold RdOK at *
      rw [f 40 (by omega), f 55 (by omega), f 47 (by omega), f 49 (by omega), f 51 (by omega), f 53 (by omega), f 57 (by omega), f 59 (by omega), f 61 (by omega)]
      exact w
  · rcases q8 with q | ⟨q, w⟩
    · exact Or.inl (by rw [h7]; exact q)
    · refine Or.inr ⟨by rw [h7]; exact q, ?_⟩
      unfold MdOK at *
      rw [f 75 (by omega), f 64 (by omega), f 77 (by omega), f 79 (by omega)]
      exact w
theorem wfA_sp {A : Abs} (h : wfA A) : wfS A.2.2.1 := h.2.1
theorem bp_m3 : (Int8.ofInt (-3)).toInt32 = (-3) := by decide
theorem bp_m2 : (Int8.ofInt (-2)).toInt32 = (-2) := by decide
theorem bp_126 : (Int8.ofInt 126).toInt32 = 126 := by decide
theorem sp_200 : (Int16.ofInt 200).toInt32 = 200 := by decide
theorem inc_m1 (x : Int32) : x + Int32.ofInt (-1) = x + (-1) := by rw [show Int32.ofInt (-1) = (-1) from by decide]
set_option maxHeartbeats 4000000 in
set_option maxRecDepth 100000 in
theorem ct_X5_insert {l : Launch} {D : va_G} {cI cO : ClassId} {z tP : Nat} {aK aV : Nat → Nat} (sh : Shp) (M : Mem) (k a0 : Nat) (S : Spt) (x c0 : Int32) (hs : isSpeech sh k) (hS : spC M k S) (hx : x = nI a0) (ha0 : a0 ≤ spn S) (hn : spn S < 120) : Cm l D cI cO z tP aK aV yX5_insert cX5_insert 4 none 1 22 [.ref (z + k), .int x, .int c0] sh M (pV (fun M1 => spC M1 k (sIns S a0 c0) ∧ ∀ a, a ≠ k → a ≠ k + 2 → M1 a = M a)) := by
  refine cm_intro (lv0 := [some (.ref (z + k)), some (.int x), some (.int c0), none]) (by decide) rfl (Nat.le_of_ble_eq_true rfl) rfl (fun p e s m below meth c C => ?_)
  refine g_aload0 C dX5_insert_0 (n := 1) rfl ?_
  refine kg_X5_23 C hs.1 rfl dX5_insert_1 (n := 4) rfl ?_
  refine g_istore3 C dX5_insert_4 (n := 5) rfl ?_
  have L_5 : ∀ (fu : Nat) (v : Nat) (y : Int32) (M1 : Mem), v - a0 < fu → (y = nI v) → (a0 ≤ v) → (v ≤ spn S) → (∀ j, j ≤ spn S → j ≠ v → M1 (k + 2) j = if j < v then spg S j else spg S (j - 1)) → (v < spn S → M1 (k + 2) v = spg S v) → (∀ a, a ≠ k + 2 → M1 a = M a) → G p l e ({ frames := 1, cells := 0, slots := 0, locals := 22 }) s m ([.ref (z + k), .int x, .int c0] : List Value).toArray below meth c D cI cO z 4 (QM below D cI cO z ([.ref (z + k), .int x, .int c0] : List Value).toArray s sh (pV (fun M1 => spC M1 k (sIns S a0 c0) ∧ ∀ a, a ≠ k → a ≠ k + 2 → M1 a = M a))) 0 0 sh M1 5 [some (.ref (z + k)), some (.int x), some (.int c0), some (.int y)] [] := by
    intro fu_5
    induction fu_5 with
    | zero => intro v y M1 hfu; exact absurd hfu (Nat.not_lt_zero _)
    | succ fu_5 ih_5 =>
      intro v y M1 hfu_5 hy hv1 hv2 hB hC hF
      refine g_iload3 C dX5_insert_5 (n := 6) rfl ?_
      refine g_iload1 C dX5_insert_6 (n := 7) rfl ?_
      refine g_icmp_le C dX5_insert_7 (t := 34) (by decide) (n := 10) rfl (fun c_7 => ?_) (fun c_7 => ?_)
      · have hv : v = a0 := by
          have : ¬ a0 < v := fun h => c_7 ((qlt hx hy (by omega) (by omega)).mpr h)
          omega
        refine g_aload0 C dX5_insert_34 (n := 35) rfl ?_
        refine kg_X5_14 C hs.1 rfl dX5_insert_35 (n := 38) rfl ?_
        refine g_iload1 C dX5_insert_38 (n := 39) rfl ?_
        refine g_iload2 C dX5_insert_39 (n := 40) rfl ?_
        refine kc_X5_53 C (ct_X4_set sh M1 (k + 1) 120 a0 _ c0 hs.2.1 hx (by omega)) hs.2.1.1 ⟨Nat.le_of_ble_eq_true rfl, Nat.le_of_ble_eq_true rfl⟩ ⟨Nat.zero_le _, Nat.zero_le _⟩ (Nat.le_of_ble_eq_true rfl) dX5_insert_40 (n := 43) rfl (fun M3 h3 => ?_)
        have e30 : M3 k = M k := by rw [h3, up2_ne _ _ (by omega)]; exact hF k (by omega)
        refine g_aload0 C dX5_insert_43 (n := 44) rfl ?_
        refine g_aload0 C dX5_insert_44 (n := 45) rfl ?_
        refine kg_X5_23 C hs.1 rfl dX5_insert_45 (n := 48) rfl ?_
        refine g_iconst C ic_1 dX5_insert_48 (n := 49) rfl ?_
        refine g_iadd C dX5_insert_49 (n := 50) rfl ?_
        refine g_bipush C bp_120 dX5_insert_50 (n := 52) rfl ?_
        refine kc_X5_43 C ⟨Nat.le_of_ble_eq_true rfl, Nat.le_of_ble_eq_true rfl⟩ ⟨Nat.zero_le _, Nat.zero_le _⟩ dX5_insert_52 (n := 55) rfl ?_
        rw [min120 (a := spn S + 1) (by rw [e30, hS.1, nI_1]) (by omega)]
        refine kp_X5_23 C hs.1 rfl dX5_insert_55 (n := 58) rfl (fun M4 e4 => ?_)
        refine r_V C dX5_insert_58 ?_
        have f4 : ∀ a, a ≠ k → a ≠ k + 2 → M4 a = M a := fun a h1 h2 => by rw [e4, up2_ne _ _ h1, h3, up2_ne _ _ h2]; exact hF a h2
        have g4 : M4 k 2 = M k 2 ∧ M4 k 3 = M k 3 := by rw [e4]; simp [up2]; rw [e30]; exact ⟨rfl, rfl⟩
        refine ⟨⟨by rw [e4]; simp [up2]; rfl, fun j hj => ?_, by rw [g4.1]; exact hS.2.2.1, by rw [g4.2]; exact hS.2.2.2.1, fun j hj => by rw [f4 _ (by omega) (by omega)]; exact hS.2.2.2.2 j hj⟩, f4⟩
        rw [e4, up2_ne _ _ (by omega), h3]
        show up2 M1 (k + 2) a0 c0 (k + 2) j = if j < a0 then spg S j else if j = a0 then c0 else spg S (j - 1)
        have hj2 : j < spn S + 1 := hj
        by_cases hja : j = a0
        · rw [hja, up2_at, if_neg (by omega), if_pos rfl]
        · rw [if_neg hja]
          refine (show up2 M1 (k + 2) a0 c0 (k + 2) j = M1 (k + 2) j by simp [up2, hja]).trans ?_
          rw [hB j (by omega) (by omega), hv]
      · have hv : a0 < v := (qlt hx hy (by omega) (by omega)).mp c_7
        refine g_aload0 C dX5_insert_10 (n := 11) rfl ?_
        refine kg_X5_14 C hs.1 rfl dX5_insert_11 (n := 14) rfl ?_
        refine g_iload3 C dX5_insert_14 (n := 15) rfl ?_
        refine g_aload0 C dX5_insert_15 (n := 16) rfl ?_
        refine kg_X5_14 C hs.1 rfl dX5_insert_16 (n := 19) rfl ?_
        refine g_iload3 C dX5_insert_19 (n := 20) rfl ?_
        refine g_iconst C ic_1 dX5_insert_20 (n := 21) rfl ?_
        refine g_isub C dX5_insert_21 (n := 22) rfl ?_
        refine kc_X5_49 C (ct_X4_at sh M1 (k + 1) 120 (v - 1) _ hs.2.1 (e_sub hy (show (1 : Int32) = nI 1 from rfl) (by omega)) (by omega)) hs.2.1.1 ⟨Nat.le_of_ble_eq_true rfl, Nat.le_of_ble_eq_true rfl⟩ ⟨Nat.zero_le _, Nat.zero_le _⟩ (Nat.le_of_ble_eq_true rfl) dX5_insert_22 (n := 25) rfl (fun r_22 M_22 h_22 => ?_)
        rw [h_22.1, h_22.2]
        refine kc_X5_53 C (ct_X4_set sh M1 (k + 1) 120 v _ _ hs.2.1 hy (by omega)) hs.2.1.1 ⟨Nat.le_of_ble_eq_true rfl, Nat.le_of_ble_eq_true rfl⟩ ⟨Nat.zero_le _, Nat.zero_le _⟩ (Nat.le_of_ble_eq_true rfl) dX5_insert_25 (n := 28) rfl (fun M2 h2 => ?_)
        refine g_iinc3 C (inc_m1 _) dX5_insert_28 (n := 31) rfl ?_
        refine g_goto C dX5_insert_31 (t := 5) (by decide) ?_
        exact ih_5 (v - 1) (y + -1) M2 (by omega) (by rw [hy, show v = (v - 1) + 1 by omega]; exact pk_m1 _) (by omega) (by omega) (fun j h1 h3 => by
  rw [h2]
  by_cases hj : j = v
  · rw [hj]; refine (up2_at _ _ _ _).trans ?_; rw [if_neg (by omega), hB (v - 1) (by omega) (by omega), if_pos (by omega)]
  · refine (show up2 M1 (k + 2) v _ (k + 2) j = M1 (k + 2) j by simp [up2, hj]).trans ?_
    rw [hB j h1 hj]
    by_cases h4 : j < v
    · rw [if_pos h4, if_pos (by omega)]
    · rw [if_neg h4, if_neg (by omega)]) (fun h => by
  rw [h2]
  refine (show up2 M1 (k + 2) v _ (k + 2) (v - 1) = M1 (k + 2) (v - 1) by simp [up2]; try omega).trans ?_
  rw [hB (v - 1) (by omega) (by omega), if_pos (by omega)]) (fun a ha => by rw [h2, up2_ne _ _ ha]; exact hF a ha)
  exact L_5 (spn S - a0 + 1) (spn S) _ M (by omega) hS.1 (by omega) (by omega) (fun j h1 h2 => by rw [if_pos (by omega)]; exact hS.2.1 j (by omega)) (fun h => absurd h (by omega)) (fun _ _ => rfl)
set_option maxHeartbeats 4000000 in
set_option maxRecDepth 100000 in
theorem ct_X5_remove {l : Launch} {D : va_G} {cI cO : ClassId} {z tP : Nat} {aK aV : Nat → Nat} (sh : Shp) (M : Mem) (k a0 : Nat) (S : Spt) (x : Int32) (hs : isSpeech sh k) (hS : spC M k S) (hx : x = nI a0) (ha0 : a0 < spn S) (hn : spn S ≤ 120) : Cm l D cI cO z tP aK aV yX5_remove cX5_remove 3 none 1 22 [.ref (z + k), .int x] sh M (pV (fun M1 => spC M1 k (sRem S a0) ∧ ∀ a, a ≠ k → a ≠ k + 2 → M1 a = M a)) := by
  refine cm_intro (lv0 := [some (.ref (z + k)), some (.int x), none]) (by decide) rfl (Nat.le_of_ble_eq_true rfl) rfl (fun p e s m below meth c C => ?_)
  refine g_iload1 C dX5_remove_0 (n := 1) rfl ?_
  refine g_istore2 C dX5_remove_1 (n := 2) rfl ?_
  have L_2 : ∀ (fu : Nat) (v : Nat) (y : Int32) (M1 : Mem), spn S - v < fu → (y = nI v) → (a0 ≤ v) → (v < spn S) → (∀ j, j < spn S → M1 (k + 2) j = if a0 ≤ j ∧ j < v then spg S (j + 1) else spg S j) → (∀ a, a ≠ k + 2 → M1 a = M a) → G p l e ({ frames := 1, cells := 0, slots := 0, locals := 22 }) s m ([.ref (z + k), .int x] : List Value).toArray below meth c D cI cO z 3 (QM below D cI cO z ([.ref (z + k), .int x] : List Value).toArray s sh (pV (fun M1 => spC M1 k (sRem S a0) ∧ ∀ a, a ≠ k → a ≠ k + 2 → M1 a = M a))) 0 0 sh M1 2 [some (.ref (z + k)), some (.int x), some (.int y)] [] := by
    intro fu_2
    induction fu_2 with
    | zero => intro v y M1 hfu; exact absurd hfu (Nat.not_lt_zero _)
    | succ fu_2 ih_2 =>
      intro v y M1 hfu_2 hy hv1 hv2 hB hF
      refine g_iload2 C dX5_remove_2 (n := 3) rfl ?_
      have hk1 : M1 k 1 - 1 = nI (spn S - 1) := by rw [hF k (by omega)]; exact e_sub hS.1 (show (1 : Int32) = nI 1 from rfl) (by omega)
      refine g_aload0 C dX5_remove_3 (n := 4) rfl ?_
      refine kg_X5_23 C hs.1 rfl dX5_remove_4 (n := 7) rfl ?_
      refine g_iconst C ic_1 dX5_remove_7 (n := 8) rfl ?_
      refine g_isub C dX5_remove_8 (n := 9) rfl ?_
      refine g_icmp_ge C dX5_remove_9 (t := 36) (by decide) (n := 12) rfl (fun c_9 => ?_) (fun c_9 => ?_)
      · have hv : v = spn S - 1 := by
          have : ¬ v < spn S - 1 := fun h => c_9 ((qlt hy hk1 (by omega) (by omega)).mpr h)
          omega
        refine g_aload0 C dX5_remove_36 (n := 37) rfl ?_
        refine g_aload0 C dX5_remove_37 (n := 38) rfl ?_
        refine kg_X5_23 C hs.1 rfl dX5_remove_38 (n := 41) rfl ?_
        refine g_iconst C ic_1 dX5_remove_41 (n := 42) rfl ?_
        refine g_isub C dX5_remove_42 (n := 43) rfl ?_
        refine g_iconst C ic_0 dX5_remove_43 (n := 44) rfl ?_
        refine kc_X5_57 C ⟨Nat.le_of_ble_eq_true rfl, Nat.le_of_ble_eq_true rfl⟩ ⟨Nat.zero_le _, Nat.zero_le _⟩ dX5_remove_44 (n := 47) rfl ?_
        have hm : (if M1 k 1 - 1 < 0 then 0 else M1 k 1 - 1) = nI (spn S - 1) := by rw [hk1, if_neg (nI_pos (by omega))]
        rw [hm]
        refine kp_X5_23 C hs.1 rfl dX5_remove_47 (n := 50) rfl (fun M4 e4 => ?_)
        refine r_V C dX5_remove_50 ?_
        have f4 : ∀ a, a ≠ k → a ≠ k + 2 → M4 a = M a := fun a h1 h2 => by rw [e4, up2_ne _ _ h1]; exact hF a h2
        have e30 : M1 k = M k := hF k (by omega)
        have g4 : M4 k 2 = M k 2 ∧ M4 k 3 = M k 3 := by rw [e4]; simp [up2]; rw [e30]; exact ⟨rfl, rfl⟩
        refine ⟨⟨by rw [e4]; simp [up2]; rfl, fun j hj => ?_, by rw [g4.1]; exact hS.2.2.1, by rw [g4.2]; exact hS.2.2.2.1, fun j hj => by rw [f4 _ (by omega) (by omega)]; exact hS.2.2.2.2 j hj⟩, f4⟩
        have hj2 : j < spn S - 1 := hj
        rw [e4, up2_ne _ _ (by omega), hB j (by omega)]
        show _ = if j < a0 then spg S j else spg S (j + 1)
        by_cases hja : j < a0
        · rw [if_pos hja, if_neg (by omega)]
        · rw [if_neg hja, if_pos (by omega)]
      · have hv : v < spn S - 1 := (qlt hy hk1 (by omega) (by omega)).mp c_9
        refine g_aload0 C dX5_remove_12 (n := 13) rfl ?_
        refine kg_X5_14 C hs.1 rfl dX5_remove_13 (n := 16) rfl ?_
        refine g_iload2 C dX5_remove_16 (n := 17) rfl ?_
        refine g_aload0 C dX5_remove_17 (n := 18) rfl ?_
        refine kg_X5_14 C hs.1 rfl dX5_remove_18 (n := 21) rfl ?_
        refine g_iload2 C dX5_remove_21 (n := 22) rfl ?_
        refine g_iconst C ic_1 dX5_remove_22 (n := 23) rfl ?_
        refine g_iadd C dX5_remove_23 (n := 24) rfl ?_
        refine kc_X5_49 C (ct_X4_at sh M1 (k + 1) 120 (v + 1) _ hs.2.1 (by rw [hy, nI_1]) (by omega)) hs.2.1.1 ⟨Nat.le_of_ble_eq_true rfl, Nat.le_of_ble_eq_true rfl⟩ ⟨Nat.zero_le _, Nat.zero_le _⟩ (Nat.le_of_ble_eq_true rfl) dX5_remove_24 (n := 27) rfl (fun r_24 M_24 h_24 => ?_)
        rw [h_24.1, h_24.2]
        refine kc_X5_53 C (ct_X4_set sh M1 (k + 1) 120 v _ _ hs.2.1 hy (by omega)) hs.2.1.1 ⟨Nat.le_of_ble_eq_true rfl, Nat.le_of_ble_eq_true rfl⟩ ⟨Nat.zero_le _, Nat.zero_le _⟩ (Nat.le_of_ble_eq_true rfl) dX5_remove_27 (n := 30) rfl (fun M2 h2 => ?_)
        refine g_iinc2 C (inc_1 _) dX5_remove_30 (n := 33) rfl ?_
        refine g_goto C dX5_remove_33 (t := 2) (by decide) ?_
        exact ih_2 (v + 1) (y + 1) M2 (by omega) (by rw [hy, nI_1]) (by omega) (by omega) (fun j h1 => by
  rw [h2]
  by_cases hj : j = v
  · rw [hj]; refine (up2_at _ _ _ _).trans ?_; rw [if_pos (by omega), hB (v + 1) (by omega), if_neg (by omega)]
  · refine (show up2 M1 (k + 2) v _ (k + 2) j = M1 (k + 2) j by simp [up2, hj]).trans ?_
    rw [hB j h1]
    by_cases h4 : a0 ≤ j ∧ j < v
    · rw [if_pos h4, if_pos (by omega)]
    · rw [if_neg h4, if_neg (by omega)]) (fun a ha => by rw [h2, up2_ne _ _ ha]; exact hF a ha)
  exact L_2 (spn S - a0 + 1) a0 _ M (by omega) hx (by omega) (by omega) (fun j h1 => by rw [if_neg (by omega)]; exact hS.2.1 j h1) (fun _ _ => rfl)
set_option maxHeartbeats 4000000 in
set_option maxRecDepth 100000 in
theorem ct_X5_marks {l : Launch} {D : va_G} {cI cO : ClassId} {z tP : Nat} {aK aV : Nat → Nat} (sh : Shp) (M : Mem) (k : Nat) (S : Spt) (hs : isSpeech sh k) (hS : spC M k S) (hn : spn S ≤ 120) : Cm l D cI cO z tP aK aV yX5_marks cX5_marks 3 (some .int) 6 127 [.ref (z + k)] sh M (pI (fun r M1 => r = nI (ctn (fun j => isMk (spg S j)) (spn S)) ∧ M1 = M)) := by
  refine cm_intro (lv0 := [some (.ref (z + k)), none, none]) (by decide) rfl (Nat.le_of_ble_eq_true rfl) rfl (fun p e s m below meth c C => ?_)
  refine g_iconst C ic_0 dX5_marks_0 (n := 1) rfl ?_
  refine g_istore1 C dX5_marks_1 (n := 2) rfl ?_
  refine g_iconst C ic_0 dX5_marks_2 (n := 3) rfl ?_
  refine g_istore2 C dX5_marks_3 (n := 4) rfl ?_
  have L_4 : ∀ (fu : Nat) (v : Nat) (y u : Int32), spn S - v < fu → (y = nI v) → (v ≤ spn S) → (u = nI (ctn (fun j => isMk (spg S j)) v)) → G p l e ({ frames := 6, cells := 0, slots := 0, locals := 127 }) s m ([.ref (z + k)] : List Value).toArray below meth c D cI cO z 3 (QM below D cI cO z ([.ref (z + k)] : List Value).toArray s sh (pI (fun r M1 => r = nI (ctn (fun j => isMk (spg S j)) (spn S)) ∧ M1 = M))) 0 0 sh M 4 [some (.ref (z + k)), some (.int u), some (.int y)] [] := by
    intro fu_4
    induction fu_4 with
    | zero => intro v y u hfu; exact absurd hfu (Nat.not_lt_zero _)
    | succ fu_4 ih_4 =>
      intro v y u hfu_4 hy hv2 hu
      refine g_iload2 C dX5_marks_4 (n := 5) rfl ?_
      refine g_aload0 C dX5_marks_5 (n := 6) rfl ?_
      refine kg_X5_23 C hs.1 rfl dX5_marks_6 (n := 9) rfl ?_
      refine g_icmp_ge C dX5_marks_9 (t := 35) (by decide) (n := 12) rfl (fun c_9 => ?_) (fun c_9 => ?_)
      · have hv : v = spn S := by
          have : ¬ v < spn S := fun h => c_9 ((qlt hy hS.1 (by omega) (by omega)).mpr h)
          omega
        refine g_iload1 C dX5_marks_35 (n := 36) rfl ?_
        refine r_I C dX5_marks_36 ?_
        exact ⟨by rw [hu, hv], rfl⟩
      · have hv : v < spn S := (qlt hy hS.1 (by omega) (by omega)).mp c_9
        refine g_aload0 C dX5_marks_12 (n := 13) rfl ?_
        refine kg_X5_14 C hs.1 rfl dX5_marks_13 (n := 16) rfl ?_
        refine g_iload2 C dX5_marks_16 (n := 17) rfl ?_
        refine kc_X5_49 C (ct_X4_at sh M (k + 1) 120 v _ hs.2.1 hy (by omega)) hs.2.1.1 ⟨Nat.le_of_ble_eq_true rfl, Nat.le_of_ble_eq_true rfl⟩ ⟨Nat.zero_le _, Nat.zero_le _⟩ (Nat.le_of_ble_eq_true rfl) dX5_marks_17 (n := 20) rfl (fun r_17 M_17 h_17 => ?_)
        rw [h_17.2, h_17.1, show M (k + 1 + 1) v = spg S v from hS.2.1 v hv]
        refine kc_X5_60 C (ct_X6_isMark sh M (spg S v)) ⟨Nat.le_of_ble_eq_true rfl, Nat.le_of_ble_eq_true rfl⟩ ⟨Nat.zero_le _, Nat.zero_le _⟩ (Nat.le_of_ble_eq_true rfl) dX5_marks_20 (n := 23) rfl (fun r_20 M_20 h_20 => ?_)
        rw [h_20.1, h_20.2]
        refine g_if_eq C dX5_marks_23 (t := 29) (by decide) (n := 26) rfl (fun c_23 => ?_) (fun c_23 => ?_)
        · have hm : ctn (fun j => isMk (spg S j)) (v + 1) = ctn (fun j => isMk (spg S j)) v := ctn_no (bI_0.mp c_23)
          refine g_iinc2 C (inc_1 _) dX5_marks_29 (n := 32) rfl ?_
          refine g_goto C dX5_marks_32 (t := 4) (by decide) ?_
          first | exact ih_4 (v + 1) (y + 1) u (by omega) (by rw [hy, nI_1]) (by omega) (by rw [hm]; exact hu) | exact ih_4 (v + 1) (y + 1) (u + 1) (by omega) (by rw [hy, nI_1]) (by omega) (by rw [hm, hu, nI_1])
        · have hm : ctn (fun j => isMk (spg S j)) (v + 1) = ctn (fun j => isMk (spg S j)) v + 1 := ctn_yes (q := fun j => isMk (spg S j)) (bI_n.mp c_23)
          refine g_iinc1 C (inc_1 _) dX5_marks_26 (n := 29) rfl ?_
          refine g_iinc2 C (inc_1 _) dX5_marks_29 (n := 32) rfl ?_
          refine g_goto C dX5_marks_32 (t := 4) (by decide) ?_
          first | exact ih_4 (v + 1) (y + 1) u (by omega) (by rw [hy, nI_1]) (by omega) (by rw [hm]; exact hu) | exact ih_4 (v + 1) (y + 1) (u + 1) (by omega) (by rw [hy, nI_1]) (by omega) (by rw [hm, hu, nI_1])
  exact L_4 (spn S + 1) 0 0 0 (by omega) nI_0.symm (by omega) nI_0.symm
set_option maxHeartbeats 4000000 in
set_option maxRecDepth 100000 in
theorem ct_X6_write {l : Launch} {D : va_G} {cI cO : ClassId} {z tP : Nat} {aK aV : Nat → Nat} (M : Mem) (A : Abs) (x : Int32) (hA : absC M A) (hw : wfA A) : Cm l D cI cO z tP aK aV yX6_write cX6_write 2 (some .int) 1 22 [.ref (z + 0), .int x] SH M (pI (fun r M1 => r = (opWrite A x).1 ∧ absC M1 (opWrite A x).2 ∧ fr80 M M1)) := by
  refine cm_intro (lv0 := [some (.ref (z + 0)), some (.int x)]) (by decide) rfl (Nat.le_of_ble_eq_true rfl) rfl (fun p e s m below meth c C => ?_)
  refine g_iload1 C dX6_write_0 (n := 1) rfl ?_
  refine g_bipush C bp_32 dX6_write_1 (n := 3) rfl ?_
  refine g_icmp_lt C dX6_write_3 (t := 12) (by decide) (n := 6) rfl (fun c_3 => ?_) (fun c_3 => ?_)
  · have _u := True.intro
    refine g_iconst C ic_m1 dX6_write_12 (n := 13) rfl ?_
    refine r_I C dX6_write_13 ?_
    rw [show opWrite A x = (-1, A) from if_pos (by first | exact Or.inl c_3 | exact Or.inr c_9)]
    exact ⟨rfl, hA, fun _ _ => rfl⟩
  · have _u := True.intro
    refine g_iload1 C dX6_write_6 (n := 7) rfl ?_
    refine g_bipush C bp_126 dX6_write_7 (n := 9) rfl ?_
    refine g_icmp_le C dX6_write_9 (t := 14) (by decide) (n := 12) rfl (fun c_9 => ?_) (fun c_9 => ?_)
    · have hno : ¬ (x < 32 ∨ 126 < x) := fun h => h.elim c_3 c_9
      refine g_aload0 C dX6_write_14 (n := 15) rfl ?_
      refine kg_X6_46 C sh_0 rfl dX6_write_15 (n := 18) rfl ?_
      refine g_sipush C sp_200 dX6_write_18 (n := 21) rfl ?_
      refine g_icmp_lt C dX6_write_21 (t := 27) (by decide) (n := 24) rfl (fun c_21 => ?_) (fun c_21 => ?_)
      · have h2 : A.1 < 200 := (qlt hA.1 (show (200 : Int32) = nI 200 from rfl) (by have := hw.1; omega) (by decide)).mp c_21
        refine g_aload0 C dX6_write_27 (n := 28) rfl ?_
        refine kg_X6_14 C sh_0 rfl dX6_write_28 (n := 31) rfl ?_
        refine g_aload0 C dX6_write_31 (n := 32) rfl ?_
        refine kg_X6_46 C sh_0 rfl dX6_write_32 (n := 35) rfl ?_
        refine g_iload1 C dX6_write_35 (n := 36) rfl ?_
        refine kc_X6_57 C (ct_X4_set SH M 1 200 A.1 _ x row_1 hA.1 h2) sh_1 ⟨Nat.le_of_ble_eq_true rfl, Nat.le_of_ble_eq_true rfl⟩ ⟨Nat.zero_le _, Nat.zero_le _⟩ (Nat.le_of_ble_eq_true rfl) dX6_write_36 (n := 39) rfl (fun M2 h2e => ?_)
        have e20 : M2 0 = M 0 := by rw [h2e, up2_ne _ _ (by omega)]
        refine g_aload0 C dX6_write_39 (n := 40) rfl ?_
        refine g_dup C rfl dX6_write_40 (n := 41) rfl ?_
        refine kg_X6_46 C sh_0 rfl dX6_write_41 (n := 44) rfl ?_
        refine g_iconst C ic_1 dX6_write_44 (n := 45) rfl ?_
        refine g_iadd C dX6_write_45 (n := 46) rfl ?_
        refine kp_X6_46 C sh_0 rfl dX6_write_46 (n := 49) rfl (fun M3 e3 => ?_)
        refine g_aload0 C dX6_write_49 (n := 50) rfl ?_
        refine kg_X6_46 C sh_0 rfl dX6_write_50 (n := 53) rfl ?_
        refine r_I C dX6_write_53 ?_
        have v3 : M3 0 1 = nI (A.1 + 1) := by rw [e3]; simp [up2]; rw [e20, hA.1, nI_1]
        rw [show opWrite A x = (nI (A.1 + 1), (A.1 + 1, fun j => if j = A.1 then x else A.2.1 j, A.2.2)) by unfold opWrite; rw [if_neg hno, if_neg (by omega)]]
        refine ⟨v3, absC_tx hA v3 (fun j hj => ?_) (by rw [e3]; simp [up2]; rw [e20]) (by rw [e3]; simp [up2]; rw [e20]) (fun a h0 h2 => by rw [e3, up2_ne _ _ h0, h2e, up2_ne _ _ h2]), fun a ha => by rw [e3, up2_ne _ _ (by omega), h2e, up2_ne _ _ (by omega)]⟩
        rw [e3, up2_ne _ _ (by omega), h2e]
        by_cases hj2 : j = A.1
        · rw [hj2, if_pos rfl]; exact up2_at _ _ _ _
        · rw [if_neg hj2]
          refine (show up2 M (1 + 1) A.1 x 2 j = M 2 j by simp [up2, hj2]).trans ?_
          exact hA.2.1 j (by omega)
      · have h2 : A.1 = 200 := by
          have h8 := hw.1
          have : ¬ A.1 < 200 := fun h => c_21 ((qlt hA.1 (show (200 : Int32) = nI 200 from rfl) (by omega) (by decide)).mpr h)
          omega
        refine g_bipush C bp_m3 dX6_write_24 (n := 26) rfl ?_
        refine r_I C dX6_write_26 ?_
        rw [show opWrite A x = (-3, A) by unfold opWrite; rw [if_neg hno, if_pos h2]]
        exact ⟨rfl, hA, fun _ _ => rfl⟩
    · have _u := True.intro
      refine g_iconst C ic_m1 dX6_write_12 (n := 13) rfl ?_
      refine r_I C dX6_write_13 ?_
      rw [show opWrite A x = (-1, A) from if_pos (by first | exact Or.inl c_3 | exact Or.inr c_9)]
      exact ⟨rfl, hA, fun _ _ => rfl⟩
set_option maxHeartbeats 4000000 in
set_option maxRecDepth 100000 in
theorem ct_X6_wipe {l : Launch} {D : va_G} {cI cO : ClassId} {z tP : Nat} {aK aV : Nat → Nat} (M : Mem) (A : Abs) (hA : absC M A) (hw : wfA A) : Cm l D cI cO z tP aK aV yX6_wipe cX6_wipe 2 (some .int) 0 0 [.ref (z + 0)] SH M (pI (fun r M1 => r = (opWipe A).1 ∧ absC M1 (opWipe A).2 ∧ fr80 M M1)) := by
  refine cm_intro (lv0 := [some (.ref (z + 0)), none]) (by decide) rfl (Nat.le_of_ble_eq_true rfl) rfl (fun p e s m below meth c C => ?_)
  refine g_aload0 C dX6_wipe_0 (n := 1) rfl ?_
  refine kg_X6_46 C sh_0 rfl dX6_wipe_1 (n := 4) rfl ?_
  refine g_istore1 C dX6_wipe_4 (n := 5) rfl ?_
  refine g_aload0 C dX6_wipe_5 (n := 6) rfl ?_
  refine g_iconst C ic_0 dX6_wipe_6 (n := 7) rfl ?_
  refine kp_X6_46 C sh_0 rfl dX6_wipe_7 (n := 10) rfl (fun M_7 e_7 => ?_)
  refine g_iload1 C dX6_wipe_10 (n := 11) rfl ?_
  refine r_I C dX6_wipe_11 ?_
  exact ⟨hA.1, absC_tx hA (by rw [e_7]; simp [up2]; rfl) (fun j hj => absurd hj (Nat.not_lt_zero _)) (by rw [e_7]; simp [up2]) (by rw [e_7]; simp [up2]) (fun a h0 h2 => by rw [e_7, up2_ne _ _ h0]), fun a ha => by rw [e_7, up2_ne _ _ (by omega)]⟩
set_option maxHeartbeats 4000000 in
set_option maxRecDepth 100000 in
theorem ct_X6_fault {l : Launch} {D : va_G} {cI cO : ClassId} {z tP : Nat} {aK aV : Nat → Nat} (M : Mem) (A : Abs) (hA : absC M A) (hw : wfA A) : Cm l D cI cO z tP aK aV yX6_fault cX6_fault 2 (some .int) 7 147 [.ref (z + 0)] SH M (pI (fun r M1 => fltS A r ∧ M1 = M)) := by
  refine cm_intro (lv0 := [some (.ref (z + 0)), none]) (by decide) rfl (Nat.le_of_ble_eq_true rfl) rfl (fun p e s m below meth c C => ?_)
  have h8 := hw.1
  refine g_iconst C ic_0 dX6_fault_0 (n := 1) rfl ?_
  refine g_istore1 C dX6_fault_1 (n := 2) rfl ?_
  have L_2 : ∀ (fu : Nat) (v : Nat) (y : Int32), A.1 - v < fu → (y = nI v) → (v ≤ A.1) → (∀ i, i < v → okT A i) → G p l e ({ frames := 7, cells := 0, slots := 0, locals := 147 }) s m ([.ref (z + 0)] : List Value).toArray below meth c D cI cO z 2 (QM below D cI cO z ([.ref (z + 0)] : List Value).toArray s SH (pI (fun r M1 => fltS A r ∧ M1 = M))) 0 0 SH M 2 [some (.ref (z + 0)), some (.int y)] [] := by
    intro fu_2
    induction fu_2 with
    | zero => intro v y hfu; exact absurd hfu (Nat.not_lt_zero _)
    | succ fu_2 ih_2 =>
      intro v y hfu_2 hy hv2 hB
      refine g_iload1 C dX6_fault_2 (n := 3) rfl ?_
      refine g_aload0 C dX6_fault_3 (n := 4) rfl ?_
      refine kg_X6_46 C sh_0 rfl dX6_fault_4 (n := 7) rfl ?_
      refine g_icmp_ge C dX6_fault_7 (t := 38) (by decide) (n := 10) rfl (fun c_7 => ?_) (fun c_7 => ?_)
      · have hv : v = A.1 := by
          have : ¬ v < A.1 := fun h => c_7 ((qlt hy hA.1 (by omega) (by omega)).mpr h)
          omega
        refine g_bipush C bp_m4 dX6_fault_38 (n := 40) rfl ?_
        refine r_I C dX6_fault_40 ?_
        exact ⟨Or.inr ⟨rfl, fun i hi => hB i (by omega)⟩, rfl⟩
      · have hv : v < A.1 := (qlt hy hA.1 (by omega) (by omega)).mp c_7
        refine g_iload1 C dX6_fault_10 (n := 11) rfl ?_
        refine g_bipush C bp_120 dX6_fault_11 (n := 13) rfl ?_
        refine g_icmp_ge C dX6_fault_13 (t := 30) (by decide) (n := 16) rfl (fun c_13 => ?_) (fun c_13 => ?_)
        · have h12 : ¬ v < 120 := fun h => c_13 ((qlt hy (show (120 : Int32) = nI 120 from rfl) (by omega) (by decide)).mpr h)
          have hbad : ¬ okT A v := fun h => h12 h.1
          refine g_iload1 C dX6_fault_30 (n := 31) rfl ?_
          refine r_I C dX6_fault_31 ?_
          exact ⟨Or.inl ⟨v, hv, hy, hbad, hB⟩, rfl⟩
        · have h12 : v < 120 := (qlt hy (show (120 : Int32) = nI 120 from rfl) (by omega) (by decide)).mp c_13
          refine g_aload0 C dX6_fault_16 (n := 17) rfl ?_
          refine kg_X6_14 C sh_0 rfl dX6_fault_17 (n := 20) rfl ?_
          refine g_iload1 C dX6_fault_20 (n := 21) rfl ?_
          refine kc_X6_61 C (ct_X4_at SH M 1 200 v _ row_1 hy (by omega)) sh_1 ⟨Nat.le_of_ble_eq_true rfl, Nat.le_of_ble_eq_true rfl⟩ ⟨Nat.zero_le _, Nat.zero_le _⟩ (Nat.le_of_ble_eq_true rfl) dX6_fault_21 (n := 24) rfl (fun r_21 M_21 h_21 => ?_)
          rw [h_21.2, h_21.1, show M (1 + 1) v = A.2.1 v from hA.2.1 v hv]
          refine kc_X6_65 C (ct_X6_isSign SH M (A.2.1 v)) ⟨Nat.le_of_ble_eq_true rfl, Nat.le_of_ble_eq_true rfl⟩ ⟨Nat.zero_le _, Nat.zero_le _⟩ (Nat.le_of_ble_eq_true rfl) dX6_fault_24 (n := 27) rfl (fun r_24 M_24 h_24 => ?_)
          rw [h_24.1, h_24.2]
          refine g_if_ne C dX6_fault_27 (t := 32) (by decide) (n := 30) rfl (fun c_27 => ?_) (fun c_27 => ?_)
          · have hgood : okT A v := ⟨h12, bI_n.mp c_27⟩
            refine g_iinc1 C (inc_1 _) dX6_fault_32 (n := 35) rfl ?_
            refine g_goto C dX6_fault_35 (t := 2) (by decide) ?_
            exact ih_2 (v + 1) (y + 1) (by omega) (by rw [hy, nI_1]) (by omega) (fun i hi => by
  by_cases h : i = v
  · rw [h]; exact hgood
  · exact hB i (by omega))
          · have hbad : ¬ okT A v := fun h => absurd ((bI_0.mp c_27).symm.trans h.2) (by decide)
            refine g_iload1 C dX6_fault_30 (n := 31) rfl ?_
            refine r_I C dX6_fault_31 ?_
            exact ⟨Or.inl ⟨v, hv, hy, hbad, hB⟩, rfl⟩
  exact L_2 (A.1 + 1) 0 0 (by omega) nI_0.symm (by omega) (fun i h => absurd h (Nat.not_lt_zero _))
set_option maxHeartbeats 4000000 in
set_option maxRecDepth 100000 in
theorem ct_X6_lay {l : Launch} {D : va_G} {cI cO : ClassId} {z tP : Nat} {aK aV : Nat → Nat} (M : Mem) (A : Abs) (hA : absC M A) (hw : wfA A) : Cm l D cI cO z tP aK aV yX6_lay cX6_lay 1 (some .int) 8 168 [.ref (z + 0)] SH M (pI (fun r M1 => ∃ B, layS A r B ∧ absC M1 B ∧ fr80 M M1)) := by
  refine cm_intro (lv0 := [some (.ref (z + 0))]) (by decide) rfl (Nat.le_of_ble_eq_true rfl) rfl (fun p e s m below meth c C => ?_)
  have h8 := hw.1
  refine g_aload0 C dX6_lay_0 (n := 1) rfl ?_
  refine kc_X6_69 C (ct_X6_fault M A hA hw) sh_0 ⟨Nat.le_of_ble_eq_true rfl, Nat.le_of_ble_eq_true rfl⟩ ⟨Nat.zero_le _, Nat.zero_le _⟩ (Nat.le_of_ble_eq_true rfl) dX6_lay_1 (n := 4) rfl (fun r_1 M_1 h_1 => ?_)
  rw [h_1.2]
  replace h_1 := h_1.1
  refine g_bipush C bp_m4 dX6_lay_4 (n := 6) rfl ?_
  refine g_icmp_eq C dX6_lay_6 (t := 12) (by decide) (n := 9) rfl (fun c_6 => ?_) (fun c_6 => ?_)
  · have hok : ∀ i, i < A.1 → okT A i := by
      rcases h_1 with ⟨j, hj, e, _⟩ | h
      · exact absurd (e.symm.trans c_6) (nI_neg (by omega) (by decide))
      · exact h.2
    have hle : A.1 ≤ 120 := by
      rcases Nat.eq_zero_or_pos A.1 with h | h
      · omega
      · have := (hok (A.1 - 1) (by omega)).1
        omega
    refine g_aload0 C dX6_lay_12 (n := 13) rfl ?_
    refine kg_X6_21 C sh_0 rfl dX6_lay_13 (n := 16) rfl ?_
    refine g_aload0 C dX6_lay_16 (n := 17) rfl ?_
    refine kg_X6_14 C sh_0 rfl dX6_lay_17 (n := 20) rfl ?_
    refine g_aload0 C dX6_lay_20 (n := 21) rfl ?_
    refine kg_X6_46 C sh_0 rfl dX6_lay_21 (n := 24) rfl ?_
    refine kc_X6_73 C (ct_X5_replaceBy SH M 3 1 200 A.1 _ speech_3 row_1 hA.1 hle (by omega) (by omega) (by omega)) sh_3 ⟨Nat.le_of_ble_eq_true rfl, Nat.le_of_ble_eq_true rfl⟩ ⟨Nat.zero_le _, Nat.zero_le _⟩ (Nat.le_of_ble_eq_true rfl) dX6_lay_24 (n := 27) rfl (fun M2 h2 => ?_)
    refine g_aload0 C dX6_lay_27 (n := 28) rfl ?_
    refine kg_X6_28 C sh_0 rfl dX6_lay_28 (n := 31) rfl ?_
    refine kc_X6_77 C (ct_X1_forget M2) sh_8 ⟨Nat.le_of_ble_eq_true rfl, Nat.le_of_ble_eq_true rfl⟩ ⟨Nat.zero_le _, Nat.zero_le _⟩ (Nat.le_of_ble_eq_true rfl) dX6_lay_31 (n := 34) rfl (fun M3 h3 => ?_)
    refine g_aload0 C dX6_lay_34 (n := 35) rfl ?_
    refine kc_X6_80 C (ct_X6_outdate M3) sh_0 ⟨Nat.le_of_ble_eq_true rfl, Nat.le_of_ble_eq_true rfl⟩ ⟨Nat.zero_le _, Nat.zero_le _⟩ (Nat.le_of_ble_eq_true rfl) dX6_lay_35 (n := 38) rfl (fun M4 h4 => ?_)
    refine g_aload0 C dX6_lay_38 (n := 39) rfl ?_
    refine kg_X6_21 C sh_0 rfl dX6_lay_39 (n := 42) rfl ?_
    refine kg_X6_83 C sh_3 rfl dX6_lay_42 (n := 45) rfl ?_
    refine r_I C dX6_lay_45 ?_
    have f2 : ∀ a, a ≠ 3 → a ≠ 5 → M2 a = M a := fun a a1 a2 => by rw [h2, cpr_ne (by omega), up2_ne _ _ a1]
    have f4 : ∀ a, a ≠ 0 → a ≠ 8 → M4 a = M2 a := fun a a1 a2 => by rw [h4, up2_ne _ _ a1, up2_ne _ _ a1, h3, up2_ne _ _ a2]
    have n3 : M4 3 1 = nI A.1 := by rw [f4 3 (by omega) (by omega), h2, cpr_ne (by omega), up2_at]
    have z0 : M4 0 1 = M 0 1 ∧ M4 0 6 = 0 ∧ M4 0 7 = 0 := by rw [h4]; simp [up2]; rw [h3, up2_ne _ _ (by omega), f2 0 (by omega) (by omega)]
    obtain ⟨q1, q2, q3, q4, q5, q6, q7, q8⟩ := hA
    have s3 : M2 3 2 = M 3 2 ∧ M2 3 3 = M 3 3 := by rw [h2, cpr_ne (by omega)]; simp [up2]
    refine ⟨_, Or.inl ⟨hok, n3, rfl⟩, ⟨by rw [z0.1]; exact q1, fun j hj => by rw [f4 2 (by omega) (by omega), f2 2 (by omega) (by omega)]; exact q2 j hj, ⟨n3, fun j hj => ?_, ?_, ?_, fun j hj => ?_⟩, ?_, ?_, ?_, Or.inl z0.2.1, Or.inl z0.2.2⟩, fun a ha => by rw [f4 a (by omega) (by omega), f2 a (by omega) (by omega)]⟩
    · rw [f4 _ (by omega) (by omega), h2]; refine (cpr_in (n := A.1) hj).trans ?_; rw [up2_ne _ _ (by omega)]; exact q2 j hj
    · rw [f4 _ (by omega) (by omega), s3.1]; exact q3.2.2.1
    · rw [f4 _ (by omega) (by omega), s3.2]; exact q3.2.2.2.1
    · rw [f4 _ (by omega) (by omega), f2 _ (by omega) (by omega)]; exact q3.2.2.2.2 j hj
    · obtain ⟨nx, w1, w2, w3, w4⟩ := q4
      exact ⟨nx, w1, by rw [h4, up2_ne _ _ (by omega), up2_ne _ _ (by omega), h3]; simp [up2]; rw [f2 8 (by omega) (by omega)]; exact w2, by rw [h4, up2_ne _ _ (by omega), up2_ne _ _ (by omega), h3]; simp [up2]; rfl, fun i T hi => by simp at hi⟩
    · exact gI_cong (by rw [f4 _ (by omega) (by omega), f2 _ (by omega) (by omega)]) (by rw [f4 _ (by omega) (by omega), f2 _ (by omega) (by omega)]) (by rw [f4 _ (by omega) (by omega), f2 _ (by omega) (by omega)]) q5
    · exact gI_cong (by rw [f4 _ (by omega) (by omega), f2 _ (by omega) (by omega)]) (by rw [f4 _ (by omega) (by omega), f2 _ (by omega) (by omega)]) (by rw [f4 _ (by omega) (by omega), f2 _ (by omega) (by omega)]) q6
  · have hbad : ∃ i, i < A.1 ∧ ¬ okT A i := by
      rcases h_1 with ⟨j, hj, e, h, _⟩ | h
      · exact ⟨j, hj, h⟩
      · exact absurd h.1 c_6
    refine g_bipush C bp_m2 dX6_lay_9 (n := 11) rfl ?_
    refine r_I C dX6_lay_11 ?_
    exact ⟨A, Or.inr ⟨hbad, rfl, rfl⟩, hA, fun _ _ => rfl⟩
set_option maxHeartbeats 4000000 in
set_option maxRecDepth 100000 in
theorem ct_X6_beginChange {l : Launch} {D : va_G} {cI cO : ClassId} {z tP : Nat} {aK aV : Nat → Nat} (M : Mem) (A : Abs) (hA : absC M A) (hw : wfA A) : Cm l D cI cO z tP aK aV yX6_beginChange cX6_beginChange 1 none 5 110 [.ref (z + 0)] SH M (pV (fun M1 => absF M1 (chg A A.2.2.1) ∧ fr80 M M1)) := by
  refine cm_intro (lv0 := [some (.ref (z + 0))]) (by decide) rfl (Nat.le_of_ble_eq_true rfl) rfl (fun p e s m below meth c C => ?_)
  refine g_aload0 C dX6_beginChange_0 (n := 1) rfl ?_
  refine kg_X6_28 C sh_0 rfl dX6_beginChange_1 (n := 4) rfl ?_
  refine g_aload0 C dX6_beginChange_4 (n := 5) rfl ?_
  refine kg_X6_21 C sh_0 rfl dX6_beginChange_5 (n := 8) rfl ?_
  refine kc_X6_194 C (ct_X1_keep M A.2.2.1 A.2.2.2 hA.2.2.1 hw.2.1.1 hA.2.2.2.1 hw.2.2.1) sh_8 ⟨Nat.le_of_ble_eq_true rfl, Nat.le_of_ble_eq_true rfl⟩ ⟨Nat.zero_le _, Nat.zero_le _⟩ (Nat.le_of_ble_eq_true rfl) dX6_beginChange_8 (n := 11) rfl (fun M2 h2 => ?_)
  refine g_aload0 C dX6_beginChange_11 (n := 12) rfl ?_
  refine kc_X6_80 C (ct_X6_outdate M2) sh_0 ⟨Nat.le_of_ble_eq_true rfl, Nat.le_of_ble_eq_true rfl⟩ ⟨Nat.zero_le _, Nat.zero_le _⟩ (Nat.le_of_ble_eq_true rfl) dX6_beginChange_12 (n := 15) rfl (fun M3 h3 => ?_)
  refine r_V C dX6_beginChange_15 ?_
  have f3 : ∀ a, a ≠ 0 → M3 a = M2 a := fun a a1 => by rw [h3, up2_ne _ _ a1, up2_ne _ _ a1]
  have z0 : M3 0 1 = M 0 1 ∧ M3 0 6 = 0 ∧ M3 0 7 = 0 := by rw [h3]; simp [up2]; rw [h2.2 0 (by omega)]
  obtain ⟨q1, q2, q3, q4, q5, q6, q7, q8⟩ := hA
  have f : ∀ a, a ≠ 0 → (a < 8 ∨ 40 ≤ a) → M3 a = M a := fun a a1 a2 => by rw [f3 a a1]; exact h2.2 a a2
  refine ⟨⟨⟨by rw [z0.1]; exact q1, fun j hj => by rw [f 2 (by omega) (by omega)]; exact q2 j hj, spC_cong (f _ (by omega) (by omega)) (f _ (by omega) (by omega)) (f _ (by omega) (by omega)) q3, hsC_cong (fun a _ _ => f3 a (by omega)) h2.1, gI_cong (f _ (by omega) (by omega)) (f _ (by omega) (by omega)) (f _ (by omega) (by omega)) q5, gI_cong (f _ (by omega) (by omega)) (f _ (by omega) (by omega)) (f _ (by omega) (by omega)) q6, Or.inl z0.2.1, Or.inl z0.2.2⟩, z0.2.1, z0.2.2⟩, fun a ha => f a (by omega) (by omega)⟩
