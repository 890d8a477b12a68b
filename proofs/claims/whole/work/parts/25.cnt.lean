/-! count and retell -/
theorem le3 {x : Int32} : (3 : Int32) < x ↔ ¬ x < 4 := by
  rw [Int32.lt_iff_toInt_lt, Int32.lt_iff_toInt_lt]
  have e0 : (3 : Int32).toInt = 3 := by decide
  have e1 : (4 : Int32).toInt = 4 := by decide
  omega
/-- where what is due began -/
theorem ren_b (S : Spt) : ∀ i, rU S i ≠ 0 → ∃ j, j < i ∧ kd S j = 2 ∧ (∀ k, j < k → k < i → kd S k = 5) ∧ dmy (spr S) (rD S i) - rU S i = i - j - 1
  | 0, h => absurd rfl h
  | i + 1, h => by
    have e1 : rU S (i + 1) = (nxK S i).2 := by unfold rU; rw [rst_s]
    have e2 : rD S (i + 1) = (nxK S i).1 := by unfold rD; rw [rst_s]
    rw [e1] at h
    rw [e1, e2]
    by_cases h5 : kd S i = 5
    · have en : nxK S i = (rD S i, rU S i - 1) := by unfold nxK; rw [if_pos h5]
      rw [en] at h ⊢
      have h9 : rU S i - 1 ≠ 0 := h
      have hl := rU_le S i
      obtain ⟨j, j1, j2, j3, j4⟩ := ren_b S i (by omega)
      refine ⟨j, by omega, j2, fun k k1 k2 => ?_, ?_⟩
      · by_cases hk : k = i
        · rw [hk]; exact h5
        · exact j3 k k1 (by omega)
      · show dmy (spr S) (rD S i) - (rU S i - 1) = i + 1 - j - 1
        omega
    · by_cases h2 : kd S i = 2
      · have en : nxK S i = (rD S i, dmy (spr S) (rD S i)) := by unfold nxK; rw [if_neg h5, if_pos h2]
        rw [en]
        exact ⟨i, by omega, h2, fun k k1 k2 => by omega, by show dmy (spr S) (rD S i) - dmy (spr S) (rD S i) = i + 1 - i - 1; omega⟩
      · exfalso
        apply h
        unfold nxK
        rw [if_neg h5, if_neg h2]
        split
        · rfl
        · split <;> rfl
theorem wr_mono (S : Spt) {a b : Nat} (h : a ≤ b) : (wrL S a).length ≤ (wrL S b).length := by
  induction b with
  | zero => rw [Nat.le_zero.mp h]; exact Nat.le_refl _
  | succ b ih =>
    by_cases e : a = b + 1
    · rw [e]; exact Nat.le_refl _
    · have := ih (by omega)
      rw [wr_s, List.length_append, List.length_append]; omega
theorem no_6 {S : Spt} (h : (wlE S).length = 0) {i : Nat} (hi : i < spn S) : kd S i ≠ 6 := fun h6 => by
  have h1 := wr_mono S (show i + 1 ≤ spn S from hi)
  rw [wr_s, if_pos h6, List.length_append] at h1
  unfold wlE at h
  rw [List.length_append, List.length_append] at h
  simp at h1
  omega
theorem kd_mk {S : Spt} {i : Nat} (hs : isSg (spg S i) = true) (ht : spt S < 4) : isMk (spg S i) = true ↔ 3 ≤ kd S i := by
  by_cases h5 : kd S i = 5
  · have hd : spg S i = duS S (rD S i) (rU S i) := by
      by_cases hq : spg S i = duS S (rD S i) (rU S i)
      · exact hq
      · exact absurd h5 (kd_5n (Or.inr hq))
    rw [hd, h5]
    exact ⟨fun _ => by omega, fun _ => opn_mk _ ht _⟩
  · rcases kd_n5 h5 with ⟨h1, h2⟩ | ⟨h1, h2, h3⟩ | ⟨h1, h2, h3, h4⟩ | ⟨h1, h2, h3, h4⟩
    · exact ⟨fun h => (by have := (mk_ne h).1; rw [h1] at this; exact Bool.noConfusion this), fun h => by omega⟩
    · exact ⟨fun h => absurd h2 (mk_ne h).2.1, fun h => by omega⟩
    · exact ⟨fun h => absurd h3 (mk_ne h).2.2.1, fun h => by omega⟩
    · refine ⟨fun _ => by omega, fun _ => ?_⟩
      unfold isSg at hs
      rw [h1] at hs
      simp [h2, h3] at hs
      exact hs
/-- which of its tongue a mark is -/
def whS (S : Spt) (i : Nat) : Nat := if kd S i = 4 then (rD S i + 1) % 2 * 2 + 1 else levS S i % 2 * 2
theorem whS_4 (S : Spt) (i : Nat) : whS S i < 4 := by unfold whS; split <;> omega
theorem whS_g {S : Spt} {i t : Nat} (h : kd S i = 3 ∨ kd S i = 4 ∨ kd S i = 5) : spg (sRet S t) i = pq t (whS S i) := by
  show (if kd S i = 3 ∨ kd S i = 5 then opn t (levS S i) else if kd S i = 4 then cls t (levS S i) else spg S i) = _
  unfold whS
  by_cases h4 : kd S i = 4
  · rw [if_neg (by omega), if_pos h4, if_pos h4, lev_34 (by omega)]; rfl
  · rw [if_pos (by omega), if_neg h4]; rfl
theorem spC_ret {M M0 : Mem} {S : Spt} {t : Nat} {v : Int32} (h : spC M 3 S) (hv : v = nI t) (h5 : ∀ j, j < spn S → M0 5 j = spg (sRet S t) j) (hf : ∀ a, a ≠ 5 → M0 a = M a) : spC (up2 M0 3 2 v) 3 (sRet S t) := by
  obtain ⟨h1, h2, h3, h4, h6⟩ := h
  refine ⟨by simp [up2]; rw [hf 3 (by omega)]; exact h1, fun j hj => by rw [up2_ne _ _ (by omega)]; exact h5 j hj, by rw [up2_at]; exact hv, by simp [up2]; rw [hf 3 (by omega)]; exact h4, fun j hj => by rw [up2_ne _ _ (by omega), hf 7 (by omega)]; exact h6 j hj⟩

set_option maxHeartbeats 4000000 in
set_option maxRecDepth 100000 in
theorem ct2_X6_beginChange {l : Launch} {D : va_G} {cI cO : ClassId} {z tP : Nat} {aK aV : Nat → Nat} (M : Mem) (A : Abs) (hA : absC M A) (hw : wfA A) : Cm l D cI cO z tP aK aV yX6_beginChange cX6_beginChange 1 none 5 110 [.ref (z + 0)] SH M (pV (fun M1 => absF M1 (chg A A.2.2.1) ∧ fr80 M M1 ∧ ∀ a, 40 ≤ a → M1 a = M a)) := by
  refine cm_intro (lv0 := [some (.ref (z + 0))]) (by decide) rfl (Nat.le_of_ble_eq_true rfl) rfl (fun p e s m below meth c C => ?_)
  refine g_aload0 C dX6_beginChange_0 (n := 1) rfl ?_
  refine kg_X6_28 C sh_0 rfl dX6_beginChange_1 (n := 4) rfl ?_
  refine g_aload0 C dX6_beginChange_4 (n := 5) rfl ?_
  refine kg_X6_21 C sh_0 rfl dX6_beginChange_5 (n := 8) rfl ?_
  refine kc_X6_194 C (ct_X1_keep M A.2.2.1 A.2.2.2 hA.2.2.1 hw.2.1.1 hA.2.2.2.1 hw.2.2.1) sh_8 ⟨Nat.le_of_ble_eq_true rfl, Nat.le_of_ble_eq_true rfl⟩ ⟨Nat.zero_le _, Nat.zero_le _⟩ (Nat.le_of_ble_eq_true rfl) dX6_beginChange_8 (n := 11) rfl (fun M2 h2 => ?_)
  refine g_aload0 C dX6_beginChange_11 (n := 12) rfl ?_
  refine kc_X6_80 C (ct_X6_outdate M2) sh_0 ⟨Nat.le_of_ble_eq_true rfl, Nat.le_of_ble_eq_true rfl⟩ ⟨Nat.zero_le _, Nat.zero_le _⟩ (Nat.le_of_ble_eq_true rfl) dX6_beginChange_12 (n := 15) rfl (fun M3 h3 => ?_)
  refine r_V C dX6_beginChange_15 ?_
  have f3 : ∀ a, a ≠ 0 → M3 a = M2 a := fun a a1 => by rw [h3, up2_ne _ _ a1, up2_ne _ _ a1]
  have z0 : M3 0 1 = M 0 1 ∧ M3 0 6 = 0 ∧ M3 0 7 = 0 := by rw [h3]; simp [up2]; rw [h2.2 0 (by omega)]
  obtain ⟨q1, q2, q3, q4, q5, q6, q7, q8⟩ := hA
  have f : ∀ a, a ≠ 0 → (a < 8 ∨ 40 ≤ a) → M3 a = M a := fun a a1 a2 => by rw [f3 a a1]; exact h2.2 a a2
  refine ⟨⟨⟨by rw [z0.1]; exact q1, fun j hj => by rw [f 2 (by omega) (by omega)]; exact q2 j hj, spC_cong (f _ (by omega) (by omega)) (f _ (by omega) (by omega)) (f _ (by omega) (by omega)) q3, hsC_cong (fun a _ _ => f3 a (by omega)) h2.1, gI_cong (f _ (by omega) (by omega)) (f _ (by omega) (by omega)) (f _ (by omega) (by omega)) q5, gI_cong (f _ (by omega) (by omega)) (f _ (by omega) (by omega)) (f _ (by omega) (by omega)) q6, Or.inl z0.2.1, Or.inl z0.2.2⟩, z0.2.1, z0.2.2⟩, fun a ha => f a (by omega) (by omega), fun a ha => f a (by omega) (by omega)⟩
set_option maxHeartbeats 4000000 in
set_option maxRecDepth 100000 in
theorem ct2_X7_note {l : Launch} {D : va_G} {cI cO : ClassId} {z tP : Nat} {aK aV : Nat → Nat} (M : Mem) (A : Abs) (hA : absR M A) (hw : wfA A) : Cm l D cI cO z tP aK aV yX7_note cX7_note 2 none 0 0 [.ref (z + 80)] SH M (pV (fun M1 => nP M M1 A ∧ (∀ a, a ≠ 80 → a ≠ 83 → M1 a = M a) ∧ ∀ j, j ≠ 4 → M1 80 j = M 80 j)) := by
  refine cm_intro (lv0 := [some (.ref (z + 80)), none]) (by decide) rfl (Nat.le_of_ble_eq_true rfl) rfl (fun p e s m below meth c C => ?_)
  have hwS := hw.2.1
  have hn120 := hwS.1
  have hsp := hA.2.2.1
  have hl6 := hw.2.2.1
  have htl := hw.1
  have J_49 : ∀ (M2 : Mem) (o1 : Option Value), (M2 80 4 = nI (pre6 A.2.2.2).length) → ((pre6 A.2.2.2).length ≤ 5) → (∀ i T, (pre6 A.2.2.2)[i]? = some T → spR (fun j => M2 83 (126 * i + j)) T) → (∀ a, a ≠ 80 → a ≠ 83 → M2 a = M a) → (∀ j, j ≠ 4 → M2 80 j = M 80 j) → G p l e ({ frames := 0, cells := 0, slots := 0, locals := 0 }) s m ([.ref (z + 80)] : List Value).toArray below meth c D cI cO z 2 (QM below D cI cO z ([.ref (z + 80)] : List Value).toArray s SH (pV (fun M1 => nP M M1 A ∧ (∀ a, a ≠ 80 → a ≠ 83 → M1 a = M a) ∧ ∀ j, j ≠ 4 → M1 80 j = M 80 j))) 0 0 SH M2 49 [some (.ref (z + 80)), o1] [] := by
    intro M2 o1 hk2 hl2 hH hF h80
    refine g_iconst C ic_0 dX7_note_49 (n := 50) rfl ?_
    refine g_istore1 C dX7_note_50 (n := 51) rfl ?_
    have L_51 : ∀ (fu : Nat) (v : Nat) (y : Int32) (M3 : Mem), 126 - v < fu → (y = nI v) → (v ≤ 126) → (∀ x, M3 83 x = if 126 * (pre6 A.2.2.2).length ≤ x ∧ x < 126 * (pre6 A.2.2.2).length + v then M 82 (x - 126 * (pre6 A.2.2.2).length) else M2 83 x) → (∀ a, a ≠ 83 → M3 a = M2 a) → G p l e ({ frames := 0, cells := 0, slots := 0, locals := 0 }) s m ([.ref (z + 80)] : List Value).toArray below meth c D cI cO z 2 (QM below D cI cO z ([.ref (z + 80)] : List Value).toArray s SH (pV (fun M1 => nP M M1 A ∧ (∀ a, a ≠ 80 → a ≠ 83 → M1 a = M a) ∧ ∀ j, j ≠ 4 → M1 80 j = M 80 j))) 0 0 SH M3 51 [some (.ref (z + 80)), some (.int y)] [] := by
      intro fu_51
      induction fu_51 with
      | zero => intro v y M3 hfu; exact absurd hfu (Nat.not_lt_zero _)
      | succ fu_51 ih_51 =>
        intro v y M3 hfu_51 hy hv hB hF3
        refine g_iload1 C dX7_note_51 (n := 52) rfl ?_
        refine g_bipush C bp_126 dX7_note_52 (n := 54) rfl ?_
        refine g_icmp_ge C dX7_note_54 (t := 83) (by decide) (n := 57) rfl (fun c_54 => ?_) (fun c_54 => ?_)
        · have w54 : ¬ v < 126 := fun h => c_54 ((qlt hy (show (126 : Int32) = nI 126 from rfl) (by omega) (by decide)).mpr h)
          refine g_aload0 C dX7_note_83 (n := 84) rfl ?_
          refine g_dup C rfl dX7_note_84 (n := 85) rfl ?_
          refine kg_X7_80 C sh_80 rfl dX7_note_85 (n := 88) rfl ?_
          refine g_iconst C ic_1 dX7_note_88 (n := 89) rfl ?_
          refine g_iadd C dX7_note_89 (n := 90) rfl ?_
          refine kp_X7_80 C sh_80 rfl dX7_note_90 (n := 93) rfl (fun M_90 e_90 => ?_)
          refine r_V C dX7_note_93 ?_
          have f : ∀ a, a ≠ 80 → a ≠ 83 → M_90 a = M a := fun a a1 a2 => by rw [e_90, up2_ne _ _ a1, hF3 a a2]; exact hF a a1 a2
          have g : M_90 83 = M3 83 := by rw [e_90, up2_ne _ _ (by omega)]
          refine ⟨⟨⟨?_, fun j hj => by rw [f 81 (by omega) (by omega)]; exact hA.2.1 j hj, by rw [f 82 (by omega) (by omega)]; exact hsp, ?_, fun i T hi => ?_⟩, f 82 (by omega) (by omega), fun a ha => f a (by omega) (by omega)⟩, f, fun j hj => by rw [e_90]; simp [up2, hj]; rw [hF3 80 (by omega), h80 j hj]⟩
          · rw [e_90]; simp [up2]; rw [hF3 80 (by omega), h80 0 (by omega)]; exact hA.1
          · show M_90 80 4 = nI (psh A.2.2.2 A.2.2.1).length
            rw [pre6_psh, List.length_append, List.length_singleton, e_90, up2_at, hF3 80 (by omega), hk2, nI_1]
          · have hi2 : (psh A.2.2.2 A.2.2.1)[i]? = some T := hi
            rw [pre6_psh] at hi2
            by_cases h4 : i < (pre6 A.2.2.2).length
            · rw [List.getElem?_append_left h4] at hi2
              have hT : T ∈ A.2.2.2 := by
                have := List.mem_of_getElem? hi2
                unfold pre6 at this
                split at this
                · exact List.mem_of_mem_tail this
                · exact this
              refine spR_cong (hw.2.2.2.1 T hT).1 (fun j hj => ?_) (hH i T hi2)
              show M_90 83 (126 * i + j) = M2 83 (126 * i + j)
              rw [g, hB, if_neg (by omega)]
            · rw [List.getElem?_append_right (by omega)] at hi2
              have hl := (List.getElem?_eq_some_iff.mp hi2).1
              simp at hl
              have hie : i = (pre6 A.2.2.2).length := by omega
              have hTS : T = A.2.2.1 := by rw [hie, Nat.sub_self] at hi2; simpa using hi2.symm
              rw [hTS]
              refine spR_cong hn120 (fun j hj => ?_) hsp
              show M_90 83 (126 * i + j) = M 82 j
              rw [g, hB, if_pos (by omega), hie]; congr 1; omega
        · have w54 : v < 126 := (qlt hy (show (126 : Int32) = nI 126 from rfl) (by omega) (by decide)).mp c_54
          refine g_aload0 C dX7_note_57 (n := 58) rfl ?_
          refine kg_X7_16 C sh_80 rfl dX7_note_58 (n := 61) rfl ?_
          refine g_bipush C bp_126 dX7_note_61 (n := 63) rfl ?_
          refine g_aload0 C dX7_note_63 (n := 64) rfl ?_
          refine kg_X7_80 C sh_80 rfl dX7_note_64 (n := 67) rfl ?_
          refine g_imul C dX7_note_67 (n := 68) rfl ?_
          refine g_iload1 C dX7_note_68 (n := 69) rfl ?_
          refine g_iadd C dX7_note_69 (n := 70) rfl ?_
          refine g_aload0 C dX7_note_70 (n := 71) rfl ?_
          refine kg_X7_13 C sh_80 rfl dX7_note_71 (n := 74) rfl ?_
          refine g_iload1 C dX7_note_74 (n := 75) rfl ?_
          refine g_iald C (j := v) sh_82 (by decide) (hy) (by omega) dX7_note_75 (n := 76) rfl ?_
          refine g_iast C (j := 126 * (pre6 A.2.2.2).length + v) sh_83 (by decide) (e_add (e_mul rfl (by rw [hF3 80 (by omega)]; exact hk2)) hy) (by omega) dX7_note_76 (n := 77) rfl (fun M_76 e_76 => ?_)
          refine g_iinc1 C (inc_1 _) dX7_note_77 (n := 80) rfl ?_
          refine g_goto C dX7_note_80 (t := 51) (by decide) ?_
          exact ih_51 (v + 1) (y + 1) M_76 (by omega) (by rw [hy, nI_1]) (by omega) (fun x => by
            rw [e_76]
            by_cases hx : x = 126 * (pre6 A.2.2.2).length + v
            · rw [hx, up2_at, if_pos (by omega), hF3 82 (by omega), hF 82 (by omega) (by omega)]; congr 1; omega
            · refine (show up2 M3 83 _ _ 83 x = M3 83 x by simp [up2, hx]).trans ?_
              rw [hB]
              by_cases h4 : 126 * (pre6 A.2.2.2).length ≤ x ∧ x < 126 * (pre6 A.2.2.2).length + v
              · rw [if_pos h4, if_pos (by omega)]
              · rw [if_neg h4, if_neg (by omega)]) (fun a ha => by rw [e_76, up2_ne _ _ ha]; exact hF3 a ha)
    exact L_51 127 0 0 M2 (by omega) nI_0.symm (by omega) (fun x => by rw [if_neg (by omega)]) (fun _ _ => rfl)
  refine g_aload0 C dX7_note_0 (n := 1) rfl ?_
  refine kg_X7_80 C sh_80 rfl dX7_note_1 (n := 4) rfl ?_
  refine g_bipush C bp_6 dX7_note_4 (n := 6) rfl ?_
  refine g_icmp_ne C dX7_note_6 (t := 49) (by decide) (n := 9) rfl (fun c_6 => ?_) (fun c_6 => ?_)
  · have h6 : ¬ A.2.2.2.length = 6 := fun h => c_6 (by rw [hA.2.2.2.1, h]; rfl)
    have hp6 : pre6 A.2.2.2 = A.2.2.2 := if_neg h6
    first | (have h9 := hz1; exact J_49 M_46 _ hz1 hz2 hz3 hz4 hz5) | exact J_49 M none (by rw [hp6]; exact hA.2.2.2.1) (by rw [hp6]; omega) (by rw [hp6]; exact hA.2.2.2.2) (fun _ _ _ => rfl) (fun _ _ => rfl)
  · have h6 : A.2.2.2.length = 6 := (qeq hA.2.2.2.1 (show (6 : Int32) = nI 6 from rfl) (by omega) (by decide)).mp c_6
    have hp6 : pre6 A.2.2.2 = A.2.2.2.tail := if_pos h6
    refine g_iconst C ic_0 dX7_note_9 (n := 10) rfl ?_
    refine g_istore1 C dX7_note_10 (n := 11) rfl ?_
    have L_11 : ∀ (fu : Nat) (v : Nat) (y : Int32) (M1 : Mem), 630 - v < fu → (y = nI v) → (v ≤ 630) → (∀ x, M1 83 x = if x < v then M 83 (126 + x) else M 83 x) → (∀ a, a ≠ 83 → M1 a = M a) → G p l e ({ frames := 0, cells := 0, slots := 0, locals := 0 }) s m ([.ref (z + 80)] : List Value).toArray below meth c D cI cO z 2 (QM below D cI cO z ([.ref (z + 80)] : List Value).toArray s SH (pV (fun M1 => nP M M1 A ∧ (∀ a, a ≠ 80 → a ≠ 83 → M1 a = M a) ∧ ∀ j, j ≠ 4 → M1 80 j = M 80 j))) 0 0 SH M1 11 [some (.ref (z + 80)), some (.int y)] [] := by
      intro fu_11
      induction fu_11 with
      | zero => intro v y M1 hfu; exact absurd hfu (Nat.not_lt_zero _)
      | succ fu_11 ih_11 =>
        intro v y M1 hfu_11 hy hv hB hF
        refine g_iload1 C dX7_note_11 (n := 12) rfl ?_
        refine g_sipush C sp_630 dX7_note_12 (n := 15) rfl ?_
        refine g_icmp_ge C dX7_note_15 (t := 39) (by decide) (n := 18) rfl (fun c_15 => ?_) (fun c_15 => ?_)
        · have w15 : ¬ v < 630 := fun h => c_15 ((qlt hy (show (630 : Int32) = nI 630 from rfl) (by omega) (by decide)).mpr h)
          refine g_aload0 C dX7_note_39 (n := 40) rfl ?_
          refine g_dup C rfl dX7_note_40 (n := 41) rfl ?_
          refine kg_X7_80 C sh_80 rfl dX7_note_41 (n := 44) rfl ?_
          refine g_iconst C ic_1 dX7_note_44 (n := 45) rfl ?_
          refine g_isub C dX7_note_45 (n := 46) rfl ?_
          refine kp_X7_80 C sh_80 rfl dX7_note_46 (n := 49) rfl (fun M_46 e_46 => ?_)
          have hl5 : (pre6 A.2.2.2).length = 5 := by rw [hp6]; simp; omega
          have hz1 : M_46 80 4 = nI (pre6 A.2.2.2).length := by
            rw [e_46, up2_at, hF 80 (by omega), hA.2.2.2.1, hl5, h6]; rfl
          have hz2 : (pre6 A.2.2.2).length ≤ 5 := by omega
          have hz3 : ∀ i T, (pre6 A.2.2.2)[i]? = some T → spR (fun j => M_46 83 (126 * i + j)) T := by
            intro i T hi
            have hi5 := (List.getElem?_eq_some_iff.mp hi).1
            rw [hp6, List.getElem?_tail] at hi
            refine spR_cong (hw.2.2.2.1 T (List.mem_of_getElem? hi)).1 (fun j hj => ?_) (hA.2.2.2.2 (i + 1) T hi)
            show M_46 83 (126 * i + j) = M 83 (126 * (i + 1) + j)
            rw [e_46, up2_ne _ _ (by omega), hB, if_pos (by omega)]
            congr 1; omega
          have hz4 : ∀ a, a ≠ 80 → a ≠ 83 → M_46 a = M a := fun a a1 a2 => by rw [e_46, up2_ne _ _ a1]; exact hF a a2
          have hz5 : ∀ j, j ≠ 4 → M_46 80 j = M 80 j := fun j hj => by rw [e_46]; simp [up2, hj]; rw [hF 80 (by omega)]
          first | (have h9 := hz1; exact J_49 M_46 _ hz1 hz2 hz3 hz4 hz5) | exact J_49 M none (by rw [hp6]; exact hA.2.2.2.1) (by rw [hp6]; omega) (by rw [hp6]; exact hA.2.2.2.2) (fun _ _ _ => rfl) (fun _ _ => rfl)
        · have w15 : v < 630 := (qlt hy (show (630 : Int32) = nI 630 from rfl) (by omega) (by decide)).mp c_15
          refine g_aload0 C dX7_note_18 (n := 19) rfl ?_
          refine kg_X7_16 C sh_80 rfl dX7_note_19 (n := 22) rfl ?_
          refine g_iload1 C dX7_note_22 (n := 23) rfl ?_
          refine g_aload0 C dX7_note_23 (n := 24) rfl ?_
          refine kg_X7_16 C sh_80 rfl dX7_note_24 (n := 27) rfl ?_
          refine g_bipush C bp_126 dX7_note_27 (n := 29) rfl ?_
          refine g_iload1 C dX7_note_29 (n := 30) rfl ?_
          refine g_iadd C dX7_note_30 (n := 31) rfl ?_
          refine g_iald C (j := 126 + v) sh_83 (by decide) (e_add rfl hy) (by omega) dX7_note_31 (n := 32) rfl ?_
          refine g_iast C (j := v) sh_83 (by decide) (hy) (by omega) dX7_note_32 (n := 33) rfl (fun M_32 e_32 => ?_)
          refine g_iinc1 C (inc_1 _) dX7_note_33 (n := 36) rfl ?_
          refine g_goto C dX7_note_36 (t := 11) (by decide) ?_
          exact ih_11 (v + 1) (y + 1) M_32 (by omega) (by rw [hy, nI_1]) (by omega) (fun x => by
            rw [e_32]
            by_cases hx : x = v
            · rw [hx, up2_at, hB, if_neg (by omega), if_pos (by omega)]
            · refine (show up2 M1 83 v _ 83 x = M1 83 x by simp [up2, hx]).trans ?_
              rw [hB]
              by_cases h4 : x < v
              · rw [if_pos h4, if_pos (by omega)]
              · rw [if_neg h4, if_neg (by omega)]) (fun a ha => by rw [e_32, up2_ne _ _ ha]; exact hF a ha)
    exact L_11 631 0 0 M (by omega) nI_0.symm (by omega) (fun x => by rw [if_neg (Nat.not_lt_zero _)]) (fun _ _ => rfl)
set_option maxHeartbeats 4000000 in
set_option maxRecDepth 100000 in
theorem ct_X6_retell {l : Launch} {D : va_G} {cI cO : ClassId} {z tP : Nat} {aK aV : Nat → Nat} (M : Mem) (A : Abs) (x : Int32) (hA : absC M A) (hw : wfA A) : Cm l D cI cO z tP aK aV yX6_retell cX6_retell 4 (some .int) 6 137 [.ref (z + 0), .int x] SH M (pI (fun r M1 => r = (opRetell A x).1 ∧ absC M1 (opRetell A x).2 ∧ fr80 M M1)) := by
  refine cm_intro (lv0 := [some (.ref (z + 0)), some (.int x), none, none]) (by decide) rfl (Nat.le_of_ble_eq_true rfl) rfl (fun p e s m below meth c C => ?_)
  have hwS := hw.2.1
  have hn120 := hwS.1
  have hsp := hA.2.2.1
  have ht4 := hwS.2.2.1
  refine g_iload1 C dX6_retell_0 (n := 1) rfl ?_
  refine g_iconst C ic_4 dX6_retell_1 (n := 2) rfl ?_
  refine kc_X6_95 C (ct_X6_isBelow SH M x 4) ⟨Nat.le_of_ble_eq_true rfl, Nat.le_of_ble_eq_true rfl⟩ ⟨Nat.zero_le _, Nat.zero_le _⟩ (Nat.le_of_ble_eq_true rfl) dX6_retell_2 (n := 5) rfl (fun r_2 M_2 h_2 => ?_)
  rw [h_2.1, h_2.2]
  refine g_if_ne C dX6_retell_5 (t := 10) (by decide) (n := 8) rfl (fun c_5 => ?_) (fun c_5 => ?_)
  · have hb := blw'.mp c_5
    have hno : ¬ (x < 0 ∨ ¬ x < 4) := fun h => h.elim hb.1 (fun q => q hb.2)
    obtain ⟨t, ht, hxt⟩ := ix_of (n := 4) hb.1 hb.2 (by decide)
    have htn : tn x = t := by rw [hxt, tn_nI (by omega)]
    refine g_iload1 C dX6_retell_10 (n := 11) rfl ?_
    refine g_aload0 C dX6_retell_11 (n := 12) rfl ?_
    refine kg_X6_21 C sh_0 rfl dX6_retell_12 (n := 15) rfl ?_
    refine kg_X6_89 C sh_3 rfl dX6_retell_15 (n := 18) rfl ?_
    refine g_icmp_eq C dX6_retell_18 (t := 31) (by decide) (n := 21) rfl (fun c_18 => ?_) (fun c_18 => ?_)
    · have hv : (-2 : Int32) = (opRetell A x).1 ∧ absC M (opRetell A x).2 ∧ fr80 M M := by
        rw [show opRetell A x = (-2, A) by unfold opRetell; rw [if_neg hno, if_pos (Or.inl (c_18.trans hsp.2.2.1))]]
        exact ⟨rfl, hA, fun _ _ => rfl⟩
      refine g_bipush C bp_m2 dX6_retell_31 (n := 33) rfl ?_
      refine r_I C dX6_retell_33 ?_
      exact hv
    · have hne : ¬ x = nI (spt A.2.2.1) := fun h => c_18 (h.trans hsp.2.2.1.symm)
      have hwl := wlE_len hn120
      refine g_aload0 C dX6_retell_21 (n := 22) rfl ?_
      refine kc_X6_121 C (ct_X6_freshReading M A hA hw) sh_0 ⟨Nat.le_of_ble_eq_true rfl, Nat.le_of_ble_eq_true rfl⟩ ⟨Nat.zero_le _, Nat.zero_le _⟩ (Nat.le_of_ble_eq_true rfl) dX6_retell_22 (n := 25) rfl (fun r2 M2 h2 => ?_)
      rw [h2.1]
      obtain ⟨_, hA2, hR2, _, hf2⟩ := h2
      have hab : absC M2 A ∧ fr80 M M2 := ⟨hA2, fun a ha => hf2.1 a (by omega) (by omega)⟩
      refine kg_X6_137 C sh_40 rfl dX6_retell_25 (n := 28) rfl ?_
      refine g_if_le C dX6_retell_28 (t := 34) (by decide) (n := 31) rfl (fun c_28 => ?_) (fun c_28 => ?_)
      · have hlen : (wlE A.2.2.1).length = 0 := by
          by_cases h : (wlE A.2.2.1).length = 0
          · exact h
          · exact absurd ((qlt (show (0 : Int32) = nI 0 from rfl) hR2.1.1 (by decide) (by omega)).mpr (by omega)) c_28
        refine g_aload0 C dX6_retell_34 (n := 35) rfl ?_
        refine kc_X6_92 C (ct2_X6_beginChange M2 A hA2 hw) sh_0 ⟨Nat.le_of_ble_eq_true rfl, Nat.le_of_ble_eq_true rfl⟩ ⟨Nat.zero_le _, Nat.zero_le _⟩ (Nat.le_of_ble_eq_true rfl) dX6_retell_35 (n := 38) rfl (fun M3 h3 => ?_)
        have hs3 : spC M3 3 A.2.2.1 := h3.1.1.2.2.1
        have hR3 : RdOK M3 A.2.2.1 := RdOK_cong hR2 (fun a ha _ => h3.2.2 a ha)
        refine g_aload0 C dX6_retell_38 (n := 39) rfl ?_
        refine kg_X6_21 C sh_0 rfl dX6_retell_39 (n := 42) rfl ?_
        refine kg_X6_89 C sh_3 rfl dX6_retell_42 (n := 45) rfl ?_
        refine g_istore2 C dX6_retell_45 (n := 46) rfl ?_
        refine g_iconst C ic_0 dX6_retell_46 (n := 47) rfl ?_
        refine g_istore3 C dX6_retell_47 (n := 48) rfl ?_
        have L_48 : ∀ (fu : Nat) (v : Nat) (y : Int32) (M4 : Mem), spn A.2.2.1 - v < fu → (y = nI v) → (v ≤ spn A.2.2.1) → (∀ j, j < spn A.2.2.1 → M4 5 j = if j < v then spg (sRet A.2.2.1 t) j else spg A.2.2.1 j) → (∀ a, a ≠ 5 → M4 a = M3 a) → G p l e ({ frames := 6, cells := 0, slots := 0, locals := 137 }) s m ([.ref (z + 0), .int x] : List Value).toArray below meth c D cI cO z 4 (QM below D cI cO z ([.ref (z + 0), .int x] : List Value).toArray s SH (pI (fun r M1 => r = (opRetell A x).1 ∧ absC M1 (opRetell A x).2 ∧ fr80 M M1))) 0 0 SH M4 48 [some (.ref (z + 0)), some (.int x), some (.int (M3 3 2)), some (.int y)] [] := by
          intro fu_48
          induction fu_48 with
          | zero => intro v y M4 hfu; exact absurd hfu (Nat.not_lt_zero _)
          | succ fu_48 ih_48 =>
            intro v y M4 hfu_48 hy hv hB hF
            refine g_iload3 C dX6_retell_48 (n := 49) rfl ?_
            refine g_aload0 C dX6_retell_49 (n := 50) rfl ?_
            refine kg_X6_21 C sh_0 rfl dX6_retell_50 (n := 53) rfl ?_
            refine kg_X6_83 C sh_3 rfl dX6_retell_53 (n := 56) rfl ?_
            refine g_icmp_ge C dX6_retell_56 (t := 71) (by decide) (n := 59) rfl (fun c_56 => ?_) (fun c_56 => ?_)
            · have w56 : ¬ v < spn A.2.2.1 := fun h => c_56 ((qlt hy (show M4 3 1 = nI (spn A.2.2.1) by rw [hF 3 (by omega)]; exact hs3.1) (by omega) (by omega)).mpr h)
              refine g_aload0 C dX6_retell_71 (n := 72) rfl ?_
              refine kg_X6_21 C sh_0 rfl dX6_retell_72 (n := 75) rfl ?_
              refine g_iload1 C dX6_retell_75 (n := 76) rfl ?_
              refine kp_X6_89 C sh_3 rfl dX6_retell_76 (n := 79) rfl (fun M6 e6 => ?_)
              refine g_iload2 C dX6_retell_79 (n := 80) rfl ?_
              refine r_I C dX6_retell_80 ?_
              have hve : v = spn A.2.2.1 := by omega
              rw [show opRetell A x = (nI (spt A.2.2.1), chg A (sRet A.2.2.1 (tn x))) by unfold opRetell; rw [if_neg hno, if_neg (fun h => h.elim hne (fun q => q hlen))], htn]
              have hS6 : spC M6 3 (sRet A.2.2.1 t) := by rw [e6]; exact spC_ret hs3 hxt (fun j hj => by rw [hB j hj, if_pos (by omega)]) hF
              refine ⟨hs3.2.2.1, (absF_sp h3.1 hS6 (fun a a1 a2 _ => by rw [e6, up2_ne _ _ a1]; exact hF a a2)).1, fun a ha => by rw [e6, up2_ne _ _ (by omega), hF a (by omega), h3.2.1 a ha]; exact hab.2 a ha⟩
            · have w56 : v < spn A.2.2.1 := (qlt hy (show M4 3 1 = nI (spn A.2.2.1) by rw [hF 3 (by omega)]; exact hs3.1) (by omega) (by omega)).mp c_56
              refine g_aload0 C dX6_retell_59 (n := 60) rfl ?_
              refine g_iload3 C dX6_retell_60 (n := 61) rfl ?_
              refine g_iload1 C dX6_retell_61 (n := 62) rfl ?_
              refine kc_X6_177 C (ct_X6_retellSign M4 A.2.2.1 v t y x (RdOK_cong hR3 (fun a _ _ => hF a (by omega))) hy w56 hn120 hxt ht) sh_0 ⟨Nat.le_of_ble_eq_true rfl, Nat.le_of_ble_eq_true rfl⟩ ⟨Nat.zero_le _, Nat.zero_le _⟩ (Nat.le_of_ble_eq_true rfl) dX6_retell_62 (n := 65) rfl (fun M5 h5 => ?_)
              refine g_iinc3 C (inc_1 _) dX6_retell_65 (n := 68) rfl ?_
              refine g_goto C dX6_retell_68 (t := 48) (by decide) ?_
              exact ih_48 (v + 1) (y + 1) M5 (by omega) (by rw [hy, nI_1]) (by omega) (fun j hj => by
                rcases h5 with ⟨e, k3, k4, k5⟩ | e
                · rw [e, hB j hj]
                  by_cases hjv : j = v
                  · rw [hjv, if_neg (by omega), if_pos (by omega)]
                    show _ = if kd A.2.2.1 v = 3 ∨ kd A.2.2.1 v = 5 then _ else _
                    rw [if_neg (fun h => h.elim k3 k5), if_neg k4]
                  · by_cases h4 : j < v
                    · rw [if_pos h4, if_pos (by omega)]
                    · rw [if_neg h4, if_neg (by omega)]
                · rw [e]
                  by_cases hjv : j = v
                  · rw [hjv, up2_at, if_pos (by omega)]
                  · refine (show up2 M4 5 v _ 5 j = M4 5 j by simp [up2, hjv]).trans ?_
                    rw [hB j hj]
                    by_cases h4 : j < v
                    · rw [if_pos h4, if_pos (by omega)]
                    · rw [if_neg h4, if_neg (by omega)]) (fun a ha => by
                rcases h5 with ⟨e, _⟩ | e
                · rw [e]; exact hF a ha
                · rw [e, up2_ne _ _ ha]; exact hF a ha)
        exact L_48 (spn A.2.2.1 + 1) 0 0 M3 (by omega) nI_0.symm (by omega) (fun j hj => by rw [if_neg (Nat.not_lt_zero _)]; exact hs3.2.1 j hj) (fun _ _ => rfl)
      · have hlen : (wlE A.2.2.1).length ≠ 0 := fun h => c_28 |> fun q => by rw [hR2.1.1, h] at q; exact absurd q (by decide)
        have hv : (-2 : Int32) = (opRetell A x).1 ∧ absC M2 (opRetell A x).2 ∧ fr80 M M2 := by
          rw [show opRetell A x = (-2, A) by unfold opRetell; rw [if_neg hno, if_pos (Or.inr hlen)]]
          exact ⟨rfl, hab⟩
        refine g_bipush C bp_m2 dX6_retell_31 (n := 33) rfl ?_
        refine r_I C dX6_retell_33 ?_
        exact hv
  · have hb := blw.mp c_5
    refine g_iconst C ic_m1 dX6_retell_8 (n := 9) rfl ?_
    refine r_I C dX6_retell_9 ?_
    rw [show opRetell A x = (-1, A) from if_pos hb]
    exact ⟨rfl, hA, fun _ _ => rfl⟩
set_option maxHeartbeats 4000000 in
set_option maxRecDepth 100000 in
theorem ct_X7_count {l : Launch} {D : va_G} {cI cO : ClassId} {z tP : Nat} {aK aV : Nat → Nat} (M : Mem) (A : Abs) (x : Int32) (hA : absR M A) (hw : wfA A) : Cm l D cI cO z tP aK aV yX7_count cX7_count 5 (some .int) 4 92 [.ref (z + 80), .int x] SH M (pI (fun r M1 => r = opCount A x ∧ absR M1 A ∧ fr79 M M1)) := by
  refine cm_intro (lv0 := [some (.ref (z + 80)), some (.int x), none, none, none]) (by decide) rfl (Nat.le_of_ble_eq_true rfl) rfl (fun p e s m below meth c C => ?_)
  have hwS := hw.2.1
  have hn120 := hwS.1
  have hsp := hA.2.2.1
  have hl6 := hw.2.2.1
  have htl := hw.1
  refine g_aload0 C dX7_count_0 (n := 1) rfl ?_
  refine kc_X7_126 C (ct_X7_read M A.2.2.1 hsp hwS) sh_80 ⟨Nat.le_of_ble_eq_true rfl, Nat.le_of_ble_eq_true rfl⟩ ⟨Nat.zero_le _, Nat.zero_le _⟩ (Nat.le_of_ble_eq_true rfl) dX7_count_1 (n := 4) rfl (fun M2 h2 => ?_)
  have hab := absR_rd hA h2.2.2.2.2.2
  have h82 : M2 82 120 = nI (spn A.2.2.1) := by rw [h2.2.2.2.2.2.1 82 (by omega) (by omega)]; exact hsp.1
  have hs2 : spR (M2 82) A.2.2.1 := hab.1.2.2.1
  refine g_iconst C ic_0 dX7_count_4 (n := 5) rfl ?_
  refine g_istore2 C dX7_count_5 (n := 6) rfl ?_
  refine g_iconst C ic_0 dX7_count_6 (n := 7) rfl ?_
  refine g_istore3 C dX7_count_7 (n := 8) rfl ?_
  refine g_iconst C ic_0 dX7_count_8 (n := 9) rfl ?_
  refine g_istore4 C dX7_count_9 (n := 11) rfl ?_
  have L_11 : ∀ (fu : Nat) (v : Nat) (y u w : Int32), spn A.2.2.1 - v < fu → (y = nI v) → (v ≤ spn A.2.2.1) → (u = nI (ctn (fun j => isMk (spg A.2.2.1 j)) v)) → (w = nI (mxD A.2.2.1 v)) → G p l e ({ frames := 4, cells := 0, slots := 0, locals := 92 }) s m ([.ref (z + 80), .int x] : List Value).toArray below meth c D cI cO z 5 (QM below D cI cO z ([.ref (z + 80), .int x] : List Value).toArray s SH (pI (fun r M1 => r = opCount A x ∧ absR M1 A ∧ fr79 M M1))) 0 0 SH M2 11 [some (.ref (z + 80)), some (.int x), some (.int u), some (.int w), some (.int y)] [] := by
    intro fu_11
    induction fu_11 with
    | zero => intro v y u w hfu; exact absurd hfu (Nat.not_lt_zero _)
    | succ fu_11 ih_11 =>
      intro v y u w hfu_11 hy hv hu hw9
      refine g_iload4 C dX7_count_11 (n := 13) rfl ?_
      refine g_aload0 C dX7_count_13 (n := 14) rfl ?_
      refine kg_X7_13 C sh_80 rfl dX7_count_14 (n := 17) rfl ?_
      refine g_bipush C bp_120 dX7_count_17 (n := 19) rfl ?_
      refine g_iald C (j := 120) sh_82 (by decide) (rfl) (by omega) dX7_count_19 (n := 20) rfl ?_
      refine g_icmp_ge C dX7_count_20 (t := 73) (by decide) (n := 23) rfl (fun c_20 => ?_) (fun c_20 => ?_)
      · have w20 : ¬ v < spn A.2.2.1 := fun h => c_20 ((qlt hy h82 (by omega) (by omega)).mpr h)
        have hve : v = spn A.2.2.1 := by omega
        refine g_iload1 C dX7_count_73 (n := 74) rfl ?_
        by_cases c_74_0 : x = 0
        · refine g_tblIn C dX7_count_74 (by rw [c_74_0]; decide) (by rw [c_74_0]; decide) (off := 58) (by rw [c_74_0]; rfl) (t := 132) (by decide) ?_
          refine g_aload0 C dX7_count_132 (n := 133) rfl ?_
          refine kg_X7_13 C sh_80 rfl dX7_count_133 (n := 136) rfl ?_
          refine g_bipush C bp_120 dX7_count_136 (n := 138) rfl ?_
          refine g_iald C (j := 120) sh_82 (by decide) (rfl) (by omega) dX7_count_138 (n := 139) rfl ?_
          refine r_I C dX7_count_139 ?_
          exact ⟨by rw [oc_0 c_74_0]; exact hs2.1, hab⟩
        by_cases c_74_1 : x = 1
        · refine g_tblIn C dX7_count_74 (by rw [c_74_1]; decide) (by rw [c_74_1]; decide) (off := 66) (by rw [c_74_1]; rfl) (t := 140) (by decide) ?_
          refine g_iload2 C dX7_count_140 (n := 141) rfl ?_
          refine r_I C dX7_count_141 ?_
          exact ⟨by rw [oc_1 c_74_1, hu, hve], hab⟩
        by_cases c_74_2 : x = 2
        · refine g_tblIn C dX7_count_74 (by rw [c_74_2]; decide) (by rw [c_74_2]; decide) (off := 68) (by rw [c_74_2]; rfl) (t := 142) (by decide) ?_
          refine g_aload0 C dX7_count_142 (n := 143) rfl ?_
          refine kg_X7_13 C sh_80 rfl dX7_count_143 (n := 146) rfl ?_
          refine g_bipush C bp_121 dX7_count_146 (n := 148) rfl ?_
          refine g_iload1 C dX7_count_148 (n := 149) rfl ?_
          refine g_iadd C dX7_count_149 (n := 150) rfl ?_
          refine g_iconst C ic_2 dX7_count_150 (n := 151) rfl ?_
          refine g_isub C dX7_count_151 (n := 152) rfl ?_
          refine g_iald C (j := 119 + tn x) sh_82 (by decide) (by first | (rw [c_74_2]; rfl) | (rw [c_74_3]; rfl) | (rw [c_74_4]; rfl) | (rw [c_74_5]; rfl) | (rw [c_74_6]; rfl)) (by first | (rw [c_74_2]; decide) | (rw [c_74_3]; decide) | (rw [c_74_4]; decide) | (rw [c_74_5]; decide) | (rw [c_74_6]; decide)) dX7_count_152 (n := 153) rfl ?_
          refine r_I C dX7_count_153 ?_
          refine ⟨?_, hab⟩
          first
            | (rw [oc_2 c_74_2, c_74_2, show tn (2 : Int32) = 2 from by decide]; exact hs2.2.2.1)
            | (rw [oc_3 c_74_3, c_74_3, show tn (3 : Int32) = 3 from by decide]; exact hs2.2.2.2.1)
            | (rw [oc_4 c_74_4, c_74_4, show tn (4 : Int32) = 4 from by decide]; exact hs2.2.2.2.2 0 (by decide))
            | (rw [oc_5 c_74_5, c_74_5, show tn (5 : Int32) = 5 from by decide]; exact hs2.2.2.2.2 1 (by decide))
            | (rw [oc_6 c_74_6, c_74_6, show tn (6 : Int32) = 6 from by decide]; exact hs2.2.2.2.2 2 (by decide))
        by_cases c_74_3 : x = 3
        · refine g_tblIn C dX7_count_74 (by rw [c_74_3]; decide) (by rw [c_74_3]; decide) (off := 68) (by rw [c_74_3]; rfl) (t := 142) (by decide) ?_
          refine g_aload0 C dX7_count_142 (n := 143) rfl ?_
          refine kg_X7_13 C sh_80 rfl dX7_count_143 (n := 146) rfl ?_
          refine g_bipush C bp_121 dX7_count_146 (n := 148) rfl ?_
          refine g_iload1 C dX7_count_148 (n := 149) rfl ?_
          refine g_iadd C dX7_count_149 (n := 150) rfl ?_
          refine g_iconst C ic_2 dX7_count_150 (n := 151) rfl ?_
          refine g_isub C dX7_count_151 (n := 152) rfl ?_
          refine g_iald C (j := 119 + tn x) sh_82 (by decide) (by first | (rw [c_74_2]; rfl) | (rw [c_74_3]; rfl) | (rw [c_74_4]; rfl) | (rw [c_74_5]; rfl) | (rw [c_74_6]; rfl)) (by first | (rw [c_74_2]; decide) | (rw [c_74_3]; decide) | (rw [c_74_4]; decide) | (rw [c_74_5]; decide) | (rw [c_74_6]; decide)) dX7_count_152 (n := 153) rfl ?_
          refine r_I C dX7_count_153 ?_
          refine ⟨?_, hab⟩
          first
            | (rw [oc_2 c_74_2, c_74_2, show tn (2 : Int32) = 2 from by decide]; exact hs2.2.2.1)
            | (rw [oc_3 c_74_3, c_74_3, show tn (3 : Int32) = 3 from by decide]; exact hs2.2.2.2.1)
            | (rw [oc_4 c_74_4, c_74_4, show tn (4 : Int32) = 4 from by decide]; exact hs2.2.2.2.2 0 (by decide))
            | (rw [oc_5 c_74_5, c_74_5, show tn (5 : Int32) = 5 from by decide]; exact hs2.2.2.2.2 1 (by decide))
            | (rw [oc_6 c_74_6, c_74_6, show tn (6 : Int32) = 6 from by decide]; exact hs2.2.2.2.2 2 (by decide))
        by_cases c_74_4 : x = 4
        · refine g_tblIn C dX7_count_74 (by rw [c_74_4]; decide) (by rw [c_74_4]; decide) (off := 68) (by rw [c_74_4]; rfl) (t := 142) (by decide) ?_
          refine g_aload0 C dX7_count_142 (n := 143) rfl ?_
          refine kg_X7_13 C sh_80 rfl dX7_count_143 (n := 146) rfl ?_
          refine g_bipush C bp_121 dX7_count_146 (n := 148) rfl ?_
          refine g_iload1 C dX7_count_148 (n := 149) rfl ?_
          refine g_iadd C dX7_count_149 (n := 150) rfl ?_
          refine g_iconst C ic_2 dX7_count_150 (n := 151) rfl ?_
          refine g_isub C dX7_count_151 (n := 152) rfl ?_
          refine g_iald C (j := 119 + tn x) sh_82 (by decide) (by first | (rw [c_74_2]; rfl) | (rw [c_74_3]; rfl) | (rw [c_74_4]; rfl) | (rw [c_74_5]; rfl) | (rw [c_74_6]; rfl)) (by first | (rw [c_74_2]; decide) | (rw [c_74_3]; decide) | (rw [c_74_4]; decide) | (rw [c_74_5]; decide) | (rw [c_74_6]; decide)) dX7_count_152 (n := 153) rfl ?_
          refine r_I C dX7_count_153 ?_
          refine ⟨?_, hab⟩
          first
            | (rw [oc_2 c_74_2, c_74_2, show tn (2 : Int32) = 2 from by decide]; exact hs2.2.2.1)
            | (rw [oc_3 c_74_3, c_74_3, show tn (3 : Int32) = 3 from by decide]; exact hs2.2.2.2.1)
            | (rw [oc_4 c_74_4, c_74_4, show tn (4 : Int32) = 4 from by decide]; exact hs2.2.2.2.2 0 (by decide))
            | (rw [oc_5 c_74_5, c_74_5, show tn (5 : Int32) = 5 from by decide]; exact hs2.2.2.2.2 1 (by decide))
            | (rw [oc_6 c_74_6, c_74_6, show tn (6 : Int32) = 6 from by decide]; exact hs2.2.2.2.2 2 (by decide))
        by_cases c_74_5 : x = 5
        · refine g_tblIn C dX7_count_74 (by rw [c_74_5]; decide) (by rw [c_74_5]; decide) (off := 68) (by rw [c_74_5]; rfl) (t := 142) (by decide) ?_
          refine g_aload0 C dX7_count_142 (n := 143) rfl ?_
          refine kg_X7_13 C sh_80 rfl dX7_count_143 (n := 146) rfl ?_
          refine g_bipush C bp_121 dX7_count_146 (n := 148) rfl ?_
          refine g_iload1 C dX7_count_148 (n := 149) rfl ?_
          refine g_iadd C dX7_count_149 (n := 150) rfl ?_
          refine g_iconst C ic_2 dX7_count_150 (n := 151) rfl ?_
          refine g_isub C dX7_count_151 (n := 152) rfl ?_
          refine g_iald C (j := 119 + tn x) sh_82 (by decide) (by first | (rw [c_74_2]; rfl) | (rw [c_74_3]; rfl) | (rw [c_74_4]; rfl) | (rw [c_74_5]; rfl) | (rw [c_74_6]; rfl)) (by first | (rw [c_74_2]; decide) | (rw [c_74_3]; decide) | (rw [c_74_4]; decide) | (rw [c_74_5]; decide) | (rw [c_74_6]; decide)) dX7_count_152 (n := 153) rfl ?_
          refine r_I C dX7_count_153 ?_
          refine ⟨?_, hab⟩
          first
            | (rw [oc_2 c_74_2, c_74_2, show tn (2 : Int32) = 2 from by decide]; exact hs2.2.2.1)
            | (rw [oc_3 c_74_3, c_74_3, show tn (3 : Int32) = 3 from by decide]; exact hs2.2.2.2.1)
            | (rw [oc_4 c_74_4, c_74_4, show tn (4 : Int32) = 4 from by decide]; exact hs2.2.2.2.2 0 (by decide))
            | (rw [oc_5 c_74_5, c_74_5, show tn (5 : Int32) = 5 from by decide]; exact hs2.2.2.2.2 1 (by decide))
            | (rw [oc_6 c_74_6, c_74_6, show tn (6 : Int32) = 6 from by decide]; exact hs2.2.2.2.2 2 (by decide))
        by_cases c_74_6 : x = 6
        · refine g_tblIn C dX7_count_74 (by rw [c_74_6]; decide) (by rw [c_74_6]; decide) (off := 68) (by rw [c_74_6]; rfl) (t := 142) (by decide) ?_
          refine g_aload0 C dX7_count_142 (n := 143) rfl ?_
          refine kg_X7_13 C sh_80 rfl dX7_count_143 (n := 146) rfl ?_
          refine g_bipush C bp_121 dX7_count_146 (n := 148) rfl ?_
          refine g_iload1 C dX7_count_148 (n := 149) rfl ?_
          refine g_iadd C dX7_count_149 (n := 150) rfl ?_
          refine g_iconst C ic_2 dX7_count_150 (n := 151) rfl ?_
          refine g_isub C dX7_count_151 (n := 152) rfl ?_
          refine g_iald C (j := 119 + tn x) sh_82 (by decide) (by first | (rw [c_74_2]; rfl) | (rw [c_74_3]; rfl) | (rw [c_74_4]; rfl) | (rw [c_74_5]; rfl) | (rw [c_74_6]; rfl)) (by first | (rw [c_74_2]; decide) | (rw [c_74_3]; decide) | (rw [c_74_4]; decide) | (rw [c_74_5]; decide) | (rw [c_74_6]; decide)) dX7_count_152 (n := 153) rfl ?_
          refine r_I C dX7_count_153 ?_
          refine ⟨?_, hab⟩
          first
            | (rw [oc_2 c_74_2, c_74_2, show tn (2 : Int32) = 2 from by decide]; exact hs2.2.2.1)
            | (rw [oc_3 c_74_3, c_74_3, show tn (3 : Int32) = 3 from by decide]; exact hs2.2.2.2.1)
            | (rw [oc_4 c_74_4, c_74_4, show tn (4 : Int32) = 4 from by decide]; exact hs2.2.2.2.2 0 (by decide))
            | (rw [oc_5 c_74_5, c_74_5, show tn (5 : Int32) = 5 from by decide]; exact hs2.2.2.2.2 1 (by decide))
            | (rw [oc_6 c_74_6, c_74_6, show tn (6 : Int32) = 6 from by decide]; exact hs2.2.2.2.2 2 (by decide))
        by_cases c_74_7 : x = 7
        · refine g_tblIn C dX7_count_74 (by rw [c_74_7]; decide) (by rw [c_74_7]; decide) (off := 80) (by rw [c_74_7]; rfl) (t := 154) (by decide) ?_
          refine g_aload0 C dX7_count_154 (n := 155) rfl ?_
          refine kg_X7_69 C sh_80 rfl dX7_count_155 (n := 158) rfl ?_
          refine r_I C dX7_count_158 ?_
          exact ⟨by rw [oc_7 c_74_7]; exact hab.1.1, hab⟩
        by_cases c_74_8 : x = 8
        · refine g_tblIn C dX7_count_74 (by rw [c_74_8]; decide) (by rw [c_74_8]; decide) (off := 85) (by rw [c_74_8]; rfl) (t := 159) (by decide) ?_
          refine g_aload0 C dX7_count_159 (n := 160) rfl ?_
          refine kg_X7_80 C sh_80 rfl dX7_count_160 (n := 163) rfl ?_
          refine r_I C dX7_count_163 ?_
          exact ⟨by rw [oc_8 c_74_8]; exact hab.1.2.2.2.1, hab⟩
        by_cases c_74_9 : x = 9
        · refine g_tblIn C dX7_count_74 (by rw [c_74_9]; decide) (by rw [c_74_9]; decide) (off := 90) (by rw [c_74_9]; rfl) (t := 164) (by decide) ?_
          refine g_iload3 C dX7_count_164 (n := 165) rfl ?_
          refine r_I C dX7_count_165 ?_
          exact ⟨by rw [oc_9 c_74_9, hw9, hve], hab⟩
        by_cases c_74_10 : x = 10
        · refine g_tblIn C dX7_count_74 (by rw [c_74_10]; decide) (by rw [c_74_10]; decide) (off := 92) (by rw [c_74_10]; rfl) (t := 166) (by decide) ?_
          refine g_aload0 C dX7_count_166 (n := 167) rfl ?_
          refine kg_X7_13 C sh_80 rfl dX7_count_167 (n := 170) rfl ?_
          refine g_bipush C bp_120 dX7_count_170 (n := 172) rfl ?_
          refine g_iald C (j := 120) sh_82 (by decide) (rfl) (by omega) dX7_count_172 (n := 173) rfl ?_
          refine g_if_ne C dX7_count_173 (t := 180) (by decide) (n := 176) rfl (fun c_173 => ?_) (fun c_173 => ?_)
          · have w173 : ¬ spn A.2.2.1 = 0 := fun h => c_173 ((qeq hs2.1 nI_0.symm (by omega) (by decide)).mpr h)
            refine g_aload0 C dX7_count_180 (n := 181) rfl ?_
            refine kg_X7_22 C sh_80 rfl dX7_count_181 (n := 184) rfl ?_
            refine g_aload0 C dX7_count_184 (n := 185) rfl ?_
            refine kg_X7_13 C sh_80 rfl dX7_count_185 (n := 188) rfl ?_
            refine g_bipush C bp_120 dX7_count_188 (n := 190) rfl ?_
            refine g_iald C (j := 120) sh_82 (by decide) (rfl) (by omega) dX7_count_190 (n := 191) rfl ?_
            refine g_iconst C ic_1 dX7_count_191 (n := 192) rfl ?_
            refine g_isub C dX7_count_192 (n := 193) rfl ?_
            refine g_iald C (j := spn A.2.2.1 - 1) sh_85 (by decide) (e_sub hs2.1 (show (1 : Int32) = nI 1 from rfl) (by omega)) (by omega) dX7_count_193 (n := 194) rfl ?_
            refine r_I C dX7_count_194 ?_
            refine ⟨?_, hab⟩
            rw [oc_10 c_74_10]
            first
              | (rw [h2.2.2.2.1 (spn A.2.2.1 - 1) (by omega), show spn A.2.2.1 - 1 + 1 = spn A.2.2.1 by omega]; done)
              | (rw [w173]; rfl)
          · have w173 : spn A.2.2.1 = 0 := (qeq hs2.1 nI_0.symm (by omega) (by decide)).mp c_173
            refine g_iconst C ic_0 dX7_count_176 (n := 177) rfl ?_
            refine g_goto C dX7_count_177 (t := 194) (by decide) ?_
            refine r_I C dX7_count_194 ?_
            refine ⟨?_, hab⟩
            rw [oc_10 c_74_10]
            first
              | (rw [h2.2.2.2.1 (spn A.2.2.1 - 1) (by omega), show spn A.2.2.1 - 1 + 1 = spn A.2.2.1 by omega]; done)
              | (rw [w173]; rfl)
        refine g_tblOut C dX7_count_74 (sw_out_0_10 c_74_0 c_74_1 c_74_2 c_74_3 c_74_4 c_74_5 c_74_6 c_74_7 c_74_8 c_74_9 c_74_10) (t := 195) (by decide) ?_
        refine g_iconst C ic_m1 dX7_count_195 (n := 196) rfl ?_
        refine r_I C dX7_count_196 ?_
        exact ⟨by rw [oc_n c_74_0 c_74_1 c_74_2 c_74_3 c_74_4 c_74_5 c_74_6 c_74_7 c_74_8 c_74_9 c_74_10], hab⟩
      · have w20 : v < spn A.2.2.1 := (qlt hy h82 (by omega) (by omega)).mp c_20
        refine g_iload2 C dX7_count_23 (n := 24) rfl ?_
        refine g_aload0 C dX7_count_24 (n := 25) rfl ?_
        refine kg_X7_13 C sh_80 rfl dX7_count_25 (n := 28) rfl ?_
        refine g_iload4 C dX7_count_28 (n := 30) rfl ?_
        refine g_iald C (j := v) sh_82 (by decide) (hy) (by omega) dX7_count_30 (n := 31) rfl ?_
        refine kc_X7_54 C (ct_X7_isMark SH M2 (M2 82 v)) ⟨Nat.le_of_ble_eq_true rfl, Nat.le_of_ble_eq_true rfl⟩ ⟨Nat.zero_le _, Nat.zero_le _⟩ (Nat.le_of_ble_eq_true rfl) dX7_count_31 (n := 34) rfl (fun r_31 M_31 h_31 => ?_)
        rw [h_31.1, h_31.2, hs2.2.1 v w20]
        refine g_if_eq C dX7_count_34 (t := 41) (by decide) (n := 37) rfl (fun c_34 => ?_) (fun c_34 => ?_)
        · have hu2 : u + 0 = nI (ctn (fun j => isMk (spg A.2.2.1 j)) (v + 1)) := by rw [ctn_no (q := fun j => isMk (spg A.2.2.1 j)) (bI_0.mp c_34), hu]; exact nI_add _ 0
          refine g_iconst C ic_0 dX7_count_41 (n := 42) rfl ?_
          refine g_iadd C dX7_count_42 (n := 43) rfl ?_
          refine g_istore2 C dX7_count_43 (n := 44) rfl ?_
          refine g_aload0 C dX7_count_44 (n := 45) rfl ?_
          refine kg_X7_22 C sh_80 rfl dX7_count_45 (n := 48) rfl ?_
          refine g_iload4 C dX7_count_48 (n := 50) rfl ?_
          refine g_iald C (j := v) sh_85 (by decide) (hy) (by omega) dX7_count_50 (n := 51) rfl ?_
          refine g_iload3 C dX7_count_51 (n := 52) rfl ?_
          refine g_icmp_le C dX7_count_52 (t := 65) (by decide) (n := 55) rfl (fun c_52 => ?_) (fun c_52 => ?_)
          · have hw2 : w = nI (mxD A.2.2.1 (v + 1)) := by
              have hq : ¬ mxD A.2.2.1 v < rD A.2.2.1 (v + 1) := fun h => c_52 ((qlt hw9 (h2.2.2.2.1 v w20) (by have := mxD_le A.2.2.1 v; omega) (by have := rD_le A.2.2.1 (v + 1); omega)).mpr h)
              rw [show mxD A.2.2.1 (v + 1) = max (mxD A.2.2.1 v) (rD A.2.2.1 (v + 1)) from rfl, Nat.max_eq_left (by omega)]; exact hw9
            refine g_iload3 C dX7_count_65 (n := 66) rfl ?_
            refine g_istore3 C dX7_count_66 (n := 67) rfl ?_
            refine g_iinc4 C (inc_1 _) dX7_count_67 (n := 70) rfl ?_
            refine g_goto C dX7_count_70 (t := 11) (by decide) ?_
            exact ih_11 (v + 1) (y + 1) _ _ (by omega) (by rw [hy, nI_1]) (by omega) hu2 hw2
          · have hw2 : M2 85 v = nI (mxD A.2.2.1 (v + 1)) := by
              have hq : mxD A.2.2.1 v < rD A.2.2.1 (v + 1) := (qlt hw9 (h2.2.2.2.1 v w20) (by have := mxD_le A.2.2.1 v; omega) (by have := rD_le A.2.2.1 (v + 1); omega)).mp c_52
              rw [show mxD A.2.2.1 (v + 1) = max (mxD A.2.2.1 v) (rD A.2.2.1 (v + 1)) from rfl, Nat.max_eq_right (by omega)]; exact h2.2.2.2.1 v w20
            refine g_aload0 C dX7_count_55 (n := 56) rfl ?_
            refine kg_X7_22 C sh_80 rfl dX7_count_56 (n := 59) rfl ?_
            refine g_iload4 C dX7_count_59 (n := 61) rfl ?_
            refine g_iald C (j := v) sh_85 (by decide) (hy) (by omega) dX7_count_61 (n := 62) rfl ?_
            refine g_goto C dX7_count_62 (t := 66) (by decide) ?_
            refine g_istore3 C dX7_count_66 (n := 67) rfl ?_
            refine g_iinc4 C (inc_1 _) dX7_count_67 (n := 70) rfl ?_
            refine g_goto C dX7_count_70 (t := 11) (by decide) ?_
            exact ih_11 (v + 1) (y + 1) _ _ (by omega) (by rw [hy, nI_1]) (by omega) hu2 hw2
        · have hu2 : u + 1 = nI (ctn (fun j => isMk (spg A.2.2.1 j)) (v + 1)) := by rw [ctn_yes (q := fun j => isMk (spg A.2.2.1 j)) (bI_n.mp c_34), hu, nI_1]
          refine g_iconst C ic_1 dX7_count_37 (n := 38) rfl ?_
          refine g_goto C dX7_count_38 (t := 42) (by decide) ?_
          refine g_iadd C dX7_count_42 (n := 43) rfl ?_
          refine g_istore2 C dX7_count_43 (n := 44) rfl ?_
          refine g_aload0 C dX7_count_44 (n := 45) rfl ?_
          refine kg_X7_22 C sh_80 rfl dX7_count_45 (n := 48) rfl ?_
          refine g_iload4 C dX7_count_48 (n := 50) rfl ?_
          refine g_iald C (j := v) sh_85 (by decide) (hy) (by omega) dX7_count_50 (n := 51) rfl ?_
          refine g_iload3 C dX7_count_51 (n := 52) rfl ?_
          refine g_icmp_le C dX7_count_52 (t := 65) (by decide) (n := 55) rfl (fun c_52 => ?_) (fun c_52 => ?_)
          · have hw2 : w = nI (mxD A.2.2.1 (v + 1)) := by
              have hq : ¬ mxD A.2.2.1 v < rD A.2.2.1 (v + 1) := fun h => c_52 ((qlt hw9 (h2.2.2.2.1 v w20) (by have := mxD_le A.2.2.1 v; omega) (by have := rD_le A.2.2.1 (v + 1); omega)).mpr h)
              rw [show mxD A.2.2.1 (v + 1) = max (mxD A.2.2.1 v) (rD A.2.2.1 (v + 1)) from rfl, Nat.max_eq_left (by omega)]; exact hw9
            refine g_iload3 C dX7_count_65 (n := 66) rfl ?_
            refine g_istore3 C dX7_count_66 (n := 67) rfl ?_
            refine g_iinc4 C (inc_1 _) dX7_count_67 (n := 70) rfl ?_
            refine g_goto C dX7_count_70 (t := 11) (by decide) ?_
            exact ih_11 (v + 1) (y + 1) _ _ (by omega) (by rw [hy, nI_1]) (by omega) hu2 hw2
          · have hw2 : M2 85 v = nI (mxD A.2.2.1 (v + 1)) := by
              have hq : mxD A.2.2.1 v < rD A.2.2.1 (v + 1) := (qlt hw9 (h2.2.2.2.1 v w20) (by have := mxD_le A.2.2.1 v; omega) (by have := rD_le A.2.2.1 (v + 1); omega)).mp c_52
              rw [show mxD A.2.2.1 (v + 1) = max (mxD A.2.2.1 v) (rD A.2.2.1 (v + 1)) from rfl, Nat.max_eq_right (by omega)]; exact h2.2.2.2.1 v w20
            refine g_aload0 C dX7_count_55 (n := 56) rfl ?_
            refine kg_X7_22 C sh_80 rfl dX7_count_56 (n := 59) rfl ?_
            refine g_iload4 C dX7_count_59 (n := 61) rfl ?_
            refine g_iald C (j := v) sh_85 (by decide) (hy) (by omega) dX7_count_61 (n := 62) rfl ?_
            refine g_goto C dX7_count_62 (t := 66) (by decide) ?_
            refine g_istore3 C dX7_count_66 (n := 67) rfl ?_
            refine g_iinc4 C (inc_1 _) dX7_count_67 (n := 70) rfl ?_
            refine g_goto C dX7_count_70 (t := 11) (by decide) ?_
            exact ih_11 (v + 1) (y + 1) _ _ (by omega) (by rw [hy, nI_1]) (by omega) hu2 hw2
  exact L_11 (spn A.2.2.1 + 1) 0 0 0 0 (by omega) nI_0.symm (by omega) nI_0.symm nI_0.symm
set_option maxHeartbeats 4000000 in
set_option maxRecDepth 100000 in
theorem ct_X7_renewer {l : Launch} {D : va_G} {cI cO : ClassId} {z tP : Nat} {aK aV : Nat → Nat} (M : Mem) (S : Spt) (i : Nat) (x : Int32) (hwS : wfS S) (hsp : spR (M 82) S) (hK : KDm M S (spn S)) (hx : x = nI i) (hi : i < spn S) (hk : kd S i = 5) : Cm l D cI cO z tP aK aV yX7_renewer cX7_renewer 3 (some .int) 0 0 [.ref (z + 80), .int x] SH M (pI (fun r M1 => r = nI (levS S i % 2 * 2) ∧ M1 = M)) := by
  refine cm_intro (lv0 := [some (.ref (z + 80)), some (.int x), none]) (by decide) rfl (Nat.le_of_ble_eq_true rfl) rfl (fun p e s m below meth c C => ?_)
  have hn120 := hwS.1
  have hr3 := hwS.2.2.2.1
  have hpos := kd5_pos hk
  obtain ⟨j0, j1, j2, j3, j4⟩ := ren_b S i (by omega)
  have hlev : levS S i = i - j0 - 1 := by unfold levS; rw [if_pos hk]; exact j4
  have hul := rU_le S i
  refine g_iload1 C dX7_renewer_0 (n := 1) rfl ?_
  refine g_istore2 C dX7_renewer_1 (n := 2) rfl ?_
  have L_2 : ∀ (fu : Nat) (v : Nat) (y : Int32), v < fu → (y = nI v) → (j0 ≤ v) → (v ≤ i) → G p l e ({ frames := 0, cells := 0, slots := 0, locals := 0 }) s m ([.ref (z + 80), .int x] : List Value).toArray below meth c D cI cO z 3 (QM below D cI cO z ([.ref (z + 80), .int x] : List Value).toArray s SH (pI (fun r M1 => r = nI (levS S i % 2 * 2) ∧ M1 = M))) 0 0 SH M 2 [some (.ref (z + 80)), some (.int x), some (.int y)] [] := by
    intro fu_2
    induction fu_2 with
    | zero => intro v y hfu; exact absurd hfu (Nat.not_lt_zero _)
    | succ fu_2 ih_2 =>
      intro v y hfu_2 hy hv1 hv2
      refine g_aload0 C dX7_renewer_2 (n := 3) rfl ?_
      refine kg_X7_19 C sh_80 rfl dX7_renewer_3 (n := 6) rfl ?_
      refine g_iload2 C dX7_renewer_6 (n := 7) rfl ?_
      refine g_iald C (j := v) sh_84 (by decide) (hy) (by omega) dX7_renewer_7 (n := 8) rfl ?_
      refine g_iconst C ic_2 dX7_renewer_8 (n := 9) rfl ?_
      refine g_icmp_eq C dX7_renewer_9 (t := 18) (by decide) (n := 12) rfl (fun c_9 => ?_) (fun c_9 => ?_)
      · have w9 : kd S v = 2 := (qeq (hK v (by omega)) (show (2 : Int32) = nI 2 from rfl) (by have := kd_lt S v; omega) (by decide)).mp c_9
        have hvj : v = j0 := by
          by_cases h : v = j0
          · exact h
          · have h5 : kd S v = 5 := by
              by_cases hvi : v = i
              · rw [hvi]; exact hk
              · exact j3 v (by omega) (by omega)
            omega
        refine g_aload0 C dX7_renewer_18 (n := 19) rfl ?_
        refine kg_X7_13 C sh_80 rfl dX7_renewer_19 (n := 22) rfl ?_
        refine g_bipush C bp_122 dX7_renewer_22 (n := 24) rfl ?_
        refine g_iald C (j := 122) sh_82 (by decide) (rfl) (by omega) dX7_renewer_24 (n := 25) rfl ?_
        refine g_iconst C ic_1 dX7_renewer_25 (n := 26) rfl ?_
        refine g_icmp_eq C dX7_renewer_26 (t := 39) (by decide) (n := 29) rfl (fun c_26 => ?_) (fun c_26 => ?_)
        · have w26 : spr S = 1 := (qeq hsp.2.2.2.1 (show (1 : Int32) = nI 1 from rfl) (by omega) (by decide)).mp c_26
          have hfin : (0 : Int32) = nI (levS S i % 2 * 2) := by
            first
              | (rw [hlev, w36]; rfl)
              | (have h1 : dmy (spr S) (rD S i) ≤ 1 := by unfold dmy; rw [if_neg (by omega), if_pos w26]; omega
                 have h0 : levS S i = 0 := by omega
                 rw [h0]; rfl)
          refine g_iconst C ic_0 dX7_renewer_39 (n := 40) rfl ?_
          refine g_goto C dX7_renewer_40 (t := 44) (by decide) ?_
          refine r_I C dX7_renewer_44 ?_
          exact ⟨hfin, rfl⟩
        · have w26 : ¬ spr S = 1 := fun h => c_26 ((qeq hsp.2.2.2.1 (show (1 : Int32) = nI 1 from rfl) (by omega) (by decide)).mpr h)
          have hs2 : x - y - 1 = nI (i - j0 - 1) := e_sub (e_sub hx hy (by omega)) (show (1 : Int32) = nI 1 from rfl) (by omega) |>.trans (by rw [hvj])
          refine g_iload1 C dX7_renewer_29 (n := 30) rfl ?_
          refine g_iload2 C dX7_renewer_30 (n := 31) rfl ?_
          refine g_isub C dX7_renewer_31 (n := 32) rfl ?_
          refine g_iconst C ic_1 dX7_renewer_32 (n := 33) rfl ?_
          refine g_isub C dX7_renewer_33 (n := 34) rfl ?_
          refine g_iconst C ic_2 dX7_renewer_34 (n := 35) rfl ?_
          refine g_irem C (by decide) dX7_renewer_35 (n := 36) rfl ?_
          refine g_if_ne C dX7_renewer_36 (t := 43) (by decide) (n := 39) rfl (fun c_36 => ?_) (fun c_36 => ?_)
          · have w36 : ¬ ((i - j0 - 1) % 2) = 0 := fun h => c_36 ((qeq (e_rem2 hs2 (by omega)) nI_0.symm (by omega) (by decide)).mpr h)
            have hfin : (2 : Int32) = nI (levS S i % 2 * 2) := by rw [hlev, show (i - j0 - 1) % 2 = 1 by omega]; rfl
            refine g_iconst C ic_2 dX7_renewer_43 (n := 44) rfl ?_
            refine r_I C dX7_renewer_44 ?_
            exact ⟨hfin, rfl⟩
          · have w36 : ((i - j0 - 1) % 2) = 0 := (qeq (e_rem2 hs2 (by omega)) nI_0.symm (by omega) (by decide)).mp c_36
            have hfin : (0 : Int32) = nI (levS S i % 2 * 2) := by
              first
                | (rw [hlev, w36]; rfl)
                | (have h1 : dmy (spr S) (rD S i) ≤ 1 := by unfold dmy; rw [if_neg (by omega), if_pos w26]; omega
                   have h0 : levS S i = 0 := by omega
                   rw [h0]; rfl)
            refine g_iconst C ic_0 dX7_renewer_39 (n := 40) rfl ?_
            refine g_goto C dX7_renewer_40 (t := 44) (by decide) ?_
            refine r_I C dX7_renewer_44 ?_
            exact ⟨hfin, rfl⟩
      · have w9 : ¬ kd S v = 2 := fun h => c_9 ((qeq (hK v (by omega)) (show (2 : Int32) = nI 2 from rfl) (by have := kd_lt S v; omega) (by decide)).mpr h)
        refine g_iinc2 C (inc_m1 _) dX7_renewer_12 (n := 15) rfl ?_
        have hvj : j0 < v := by
          by_cases h : v = j0
          · exact absurd (by rw [h]; exact j2) w9
          · omega
        refine g_goto C dX7_renewer_15 (t := 2) (by decide) ?_
        exact ih_2 (v - 1) (y + -1) (by omega) (by rw [hy, show v = (v - 1) + 1 by omega]; exact pk_m1 _) (by omega) (by omega)
  exact L_2 (i + 1) i x (by omega) hx (by omega) (by omega)
set_option maxHeartbeats 4000000 in
set_option maxRecDepth 100000 in
theorem ct_X7_retell {l : Launch} {D : va_G} {cI cO : ClassId} {z tP : Nat} {aK aV : Nat → Nat} (M : Mem) (A : Abs) (x : Int32) (hA : absR M A) (hw : wfA A) : Cm l D cI cO z tP aK aV yX7_retell cX7_retell 6 (some .int) 4 92 [.ref (z + 80), .int x] SH M (pI (fun r M1 => r = (opRetell A x).1 ∧ absR M1 (opRetell A x).2 ∧ fr79 M M1)) := by
  refine cm_intro (lv0 := [some (.ref (z + 80)), some (.int x), none, none, none, none]) (by decide) rfl (Nat.le_of_ble_eq_true rfl) rfl (fun p e s m below meth c C => ?_)
  have hwS := hw.2.1
  have hn120 := hwS.1
  have hsp := hA.2.2.1
  have hl6 := hw.2.2.1
  have htl := hw.1
  have ht4 := hwS.2.2.1
  refine g_iload1 C dX7_retell_0 (n := 1) rfl ?_
  refine g_i2l C dX7_retell_1 (n := 2) rfl ?_
  refine g_lconst C (v := Int32.toInt64 0) (by decide) dX7_retell_2 (n := 3) rfl ?_
  refine g_ldc2 C kl_X7_161 dX7_retell_3 (n := 6) rfl ?_
  refine kc_X7_50 C (ct_X7_in SH M x 0 3) ⟨Nat.le_of_ble_eq_true rfl, Nat.le_of_ble_eq_true rfl⟩ ⟨Nat.zero_le _, Nat.zero_le _⟩ (Nat.le_of_ble_eq_true rfl) dX7_retell_6 (n := 9) rfl (fun r_6 M_6 h_6 => ?_)
  rw [h_6.1, h_6.2]
  refine g_if_ne C dX7_retell_9 (t := 14) (by decide) (n := 12) rfl (fun c_9 => ?_) (fun c_9 => ?_)
  · have hb0 := inn'.mp c_9
    have hb4 : x < 4 := by
      by_cases h : x < 4
      · exact h
      · exact absurd (le3.mpr h) hb0.2
    have hno : ¬ (x < 0 ∨ ¬ x < 4) := fun h => h.elim hb0.1 (fun q => q hb4)
    obtain ⟨t, ht, hxt⟩ := ix_of (n := 4) hb0.1 hb4 (by decide)
    have htn : tn x = t := by rw [hxt, tn_nI (by omega)]
    refine g_aload0 C dX7_retell_14 (n := 15) rfl ?_
    refine kg_X7_13 C sh_80 rfl dX7_retell_15 (n := 18) rfl ?_
    refine g_bipush C bp_121 dX7_retell_18 (n := 20) rfl ?_
    refine g_iald C (j := 121) sh_82 (by decide) (rfl) (by omega) dX7_retell_20 (n := 21) rfl ?_
    refine g_istore2 C dX7_retell_21 (n := 22) rfl ?_
    refine g_aload0 C dX7_retell_22 (n := 23) rfl ?_
    refine kc_X7_126 C (ct_X7_read M A.2.2.1 hsp hwS) sh_80 ⟨Nat.le_of_ble_eq_true rfl, Nat.le_of_ble_eq_true rfl⟩ ⟨Nat.zero_le _, Nat.zero_le _⟩ (Nat.le_of_ble_eq_true rfl) dX7_retell_23 (n := 26) rfl (fun M2 h2 => ?_)
    have hab := absR_rd hA h2.2.2.2.2.2
    have h82 : M2 82 120 = nI (spn A.2.2.1) := by rw [h2.2.2.2.2.2.1 82 (by omega) (by omega)]; exact hsp.1
    have hwl := wlE_len hn120
    refine g_iload2 C dX7_retell_26 (n := 27) rfl ?_
    refine g_iload1 C dX7_retell_27 (n := 28) rfl ?_
    refine g_icmp_eq C dX7_retell_28 (t := 38) (by decide) (n := 31) rfl (fun c_28 => ?_) (fun c_28 => ?_)
    · have hv : (-2 : Int32) = (opRetell A x).1 ∧ absR M2 (opRetell A x).2 ∧ fr79 M M2 := by
        rw [show opRetell A x = (-2, A) by unfold opRetell; rw [if_neg hno, if_pos (Or.inl (c_28.symm.trans hsp.2.2.1))]]
        exact ⟨rfl, hab⟩
      refine g_bipush C bp_m2 dX7_retell_38 (n := 40) rfl ?_
      refine r_I C dX7_retell_40 ?_
      exact hv
    · have hne : ¬ x = nI (spt A.2.2.1) := fun h => c_28 (hsp.2.2.1.trans h.symm)
      refine g_aload0 C dX7_retell_31 (n := 32) rfl ?_
      refine kg_X7_102 C sh_80 rfl dX7_retell_32 (n := 35) rfl ?_
      refine g_if_le C dX7_retell_35 (t := 41) (by decide) (n := 38) rfl (fun c_35 => ?_) (fun c_35 => ?_)
      · have hlen : (wlE A.2.2.1).length = 0 := by
          by_cases h : (wlE A.2.2.1).length = 0
          · exact h
          · exact absurd ((qlt (show (0 : Int32) = nI 0 from rfl) h2.1.1 (by decide) (by omega)).mpr (by omega)) c_35
        refine g_aload0 C dX7_retell_41 (n := 42) rfl ?_
        refine kc_X7_86 C (ct2_X7_note M2 A hab.1 hw) sh_80 ⟨Nat.le_of_ble_eq_true rfl, Nat.le_of_ble_eq_true rfl⟩ ⟨Nat.zero_le _, Nat.zero_le _⟩ (Nat.le_of_ble_eq_true rfl) dX7_retell_42 (n := 45) rfl (fun M3 h3 => ?_)
        have hs3 : spR (M3 82) A.2.2.1 := h3.1.1.2.2.1
        have hK3 : KDm M3 A.2.2.1 (spn A.2.2.1) := by unfold KDm; rw [h3.2.1 84 (by omega) (by omega)]; exact h2.2.2.1
        have hD3 : DPm M3 A.2.2.1 (spn A.2.2.1) := by unfold DPm; rw [h3.2.1 85 (by omega) (by omega)]; exact h2.2.2.2.1
        refine g_iconst C ic_0 dX7_retell_45 (n := 46) rfl ?_
        refine g_istore3 C dX7_retell_46 (n := 47) rfl ?_
        have L_47 : ∀ (fu : Nat) (v : Nat) (y : Int32) (M4 : Mem) (o4 o5 : Option Value), spn A.2.2.1 - v < fu → (y = nI v) → (v ≤ spn A.2.2.1) → (∀ j, j < v → M4 91 j = spg (sRet A.2.2.1 t) j) → (∀ a, a ≠ 91 → M4 a = M3 a) → G p l e ({ frames := 4, cells := 0, slots := 0, locals := 92 }) s m ([.ref (z + 80), .int x] : List Value).toArray below meth c D cI cO z 6 (QM below D cI cO z ([.ref (z + 80), .int x] : List Value).toArray s SH (pI (fun r M1 => r = (opRetell A x).1 ∧ absR M1 (opRetell A x).2 ∧ fr79 M M1))) 0 0 SH M4 47 [some (.ref (z + 80)), some (.int x), some (.int (M 82 121)), some (.int y), o4, o5] [] := by
          intro fu_47
          induction fu_47 with
          | zero => intro v y M4 o4 o5 hfu; exact absurd hfu (Nat.not_lt_zero _)
          | succ fu_47 ih_47 =>
            intro v y M4 o4 o5 hfu_47 hy hv hB hF
            refine g_iload3 C dX7_retell_47 (n := 48) rfl ?_
            refine g_aload0 C dX7_retell_48 (n := 49) rfl ?_
            refine kg_X7_13 C sh_80 rfl dX7_retell_49 (n := 52) rfl ?_
            refine g_bipush C bp_120 dX7_retell_52 (n := 54) rfl ?_
            refine g_iald C (j := 120) sh_82 (by decide) (rfl) (by omega) dX7_retell_54 (n := 55) rfl ?_
            refine g_icmp_ge C dX7_retell_55 (t := 227) (by decide) (n := 58) rfl (fun c_55 => ?_) (fun c_55 => ?_)
            · have w55 : ¬ v < spn A.2.2.1 := fun h => c_55 ((qlt hy (show M4 82 120 = nI (spn A.2.2.1) by rw [hF 82 (by omega)]; exact hs3.1) (by omega) (by omega)).mpr h)
              have hve : v = spn A.2.2.1 := by omega
              refine g_iconst C ic_0 dX7_retell_227 (n := 228) rfl ?_
              refine g_istore3 C dX7_retell_228 (n := 229) rfl ?_
              have L_229 : ∀ (fu : Nat) (w : Nat) (y9 : Int32) (M6 : Mem), spn A.2.2.1 - w < fu → (y9 = nI w) → (w ≤ spn A.2.2.1) → (∀ j, j < w → M6 82 j = spg (sRet A.2.2.1 t) j) → (∀ a, a ≠ 82 → M6 a = M4 a) → (∀ j, 120 ≤ j → M6 82 j = M3 82 j) → G p l e ({ frames := 4, cells := 0, slots := 0, locals := 92 }) s m ([.ref (z + 80), .int x] : List Value).toArray below meth c D cI cO z 6 (QM below D cI cO z ([.ref (z + 80), .int x] : List Value).toArray s SH (pI (fun r M1 => r = (opRetell A x).1 ∧ absR M1 (opRetell A x).2 ∧ fr79 M M1))) 0 0 SH M6 229 [some (.ref (z + 80)), some (.int x), some (.int (M 82 121)), some (.int y9), o4, o5] [] := by
                intro fu_229
                induction fu_229 with
                | zero => intro w y9 M6 hfu; exact absurd hfu (Nat.not_lt_zero _)
                | succ fu_229 ih_229 =>
                  intro w y9 M6 hfu_229 hy9 hw9 hB6 hF6 hT6
                  refine g_iload3 C dX7_retell_229 (n := 230) rfl ?_
                  refine g_aload0 C dX7_retell_230 (n := 231) rfl ?_
                  refine kg_X7_13 C sh_80 rfl dX7_retell_231 (n := 234) rfl ?_
                  refine g_bipush C bp_120 dX7_retell_234 (n := 236) rfl ?_
                  refine g_iald C (j := 120) sh_82 (by decide) (rfl) (by omega) dX7_retell_236 (n := 237) rfl ?_
                  refine g_icmp_ge C dX7_retell_237 (t := 258) (by decide) (n := 240) rfl (fun c_237 => ?_) (fun c_237 => ?_)
                  · have w237 : ¬ w < spn A.2.2.1 := fun h => c_237 ((qlt hy9 (show M6 82 120 = nI (spn A.2.2.1) by rw [hT6 120 (by omega)]; exact hs3.1) (by omega) (by omega)).mpr h)
                    refine g_aload0 C dX7_retell_258 (n := 259) rfl ?_
                    refine kg_X7_13 C sh_80 rfl dX7_retell_259 (n := 262) rfl ?_
                    refine g_bipush C bp_121 dX7_retell_262 (n := 264) rfl ?_
                    refine g_iload1 C dX7_retell_264 (n := 265) rfl ?_
                    refine g_iast C (j := 121) sh_82 (by decide) (rfl) (by omega) dX7_retell_265 (n := 266) rfl (fun M7 e7 => ?_)
                    refine g_iload2 C dX7_retell_266 (n := 267) rfl ?_
                    refine r_I C dX7_retell_267 ?_
                    rw [show opRetell A x = (nI (spt A.2.2.1), chg A (sRet A.2.2.1 (tn x))) by unfold opRetell; rw [if_neg hno, if_neg (fun h => h.elim hne (fun q => q hlen))], htn]
                    have f7 : ∀ a, a ≠ 82 → a ≠ 91 → M7 a = M3 a := fun a a1 a2 => by rw [e7, up2_ne _ _ a1, hF6 a a1]; exact hF a a2
                    have r7 : M7 82 = upd (M6 82) 121 x := by rw [e7]; exact up2_row _ _ _ _
                    have hS7 : spR (M7 82) (sRet A.2.2.1 t) := by
                      rw [r7]
                      refine ⟨by rw [pk_un (by omega), hT6 120 (by omega)]; exact hs3.1, fun j hj => ?_, by rw [pk_us]; exact hxt, by rw [pk_un (by omega), hT6 122 (by omega)]; exact hs3.2.2.2.1, fun j hj => by rw [pk_un (by omega), hT6 (123 + j) (by omega)]; exact hs3.2.2.2.2 j hj⟩
                      have hj2 : j < spn A.2.2.1 := hj
                      rw [pk_un (by omega)]; exact hB6 j (by omega)
                    obtain ⟨a1, a2, a3, a4, a5⟩ := h3.1.1
                    refine ⟨hsp.2.2.1, ⟨by rw [f7 80 (by omega) (by omega)]; exact a1, fun j hj => by rw [f7 81 (by omega) (by omega)]; exact a2 j hj, hS7, by rw [f7 80 (by omega) (by omega)]; exact a4, fun i T hi => by rw [f7 83 (by omega) (by omega)]; exact a5 i T hi⟩, fun a ha => by rw [f7 a (by omega) (by omega), h3.1.2.2 a ha]; exact hab.2 a ha⟩
                  · have w237 : w < spn A.2.2.1 := (qlt hy9 (show M6 82 120 = nI (spn A.2.2.1) by rw [hT6 120 (by omega)]; exact hs3.1) (by omega) (by omega)).mp c_237
                    refine g_aload0 C dX7_retell_240 (n := 241) rfl ?_
                    refine kg_X7_13 C sh_80 rfl dX7_retell_241 (n := 244) rfl ?_
                    refine g_iload3 C dX7_retell_244 (n := 245) rfl ?_
                    refine g_aload0 C dX7_retell_245 (n := 246) rfl ?_
                    refine kg_X7_40 C sh_80 rfl dX7_retell_246 (n := 249) rfl ?_
                    refine g_iload3 C dX7_retell_249 (n := 250) rfl ?_
                    refine g_iald C (j := w) sh_91 (by decide) (hy9) (by omega) dX7_retell_250 (n := 251) rfl ?_
                    refine g_iast C (j := w) sh_82 (by decide) (hy9) (by omega) dX7_retell_251 (n := 252) rfl (fun M7 e7 => ?_)
                    refine g_iinc3 C (inc_1 _) dX7_retell_252 (n := 255) rfl ?_
                    refine g_goto C dX7_retell_255 (t := 229) (by decide) ?_
                    exact ih_229 (w + 1) (y9 + 1) M7 (by omega) (by rw [hy9, nI_1]) (by omega) (fun j hj => by
                      rw [e7]
                      by_cases hjw : j = w
                      · rw [hjw, up2_at, hF6 91 (by omega)]; exact hB w (by omega)
                      · refine (show up2 M6 82 w _ 82 j = M6 82 j by simp [up2, hjw]).trans ?_
                        exact hB6 j (by omega)) (fun a ha => by rw [e7, up2_ne _ _ ha]; exact hF6 a ha) (fun j hj => by
                      rw [e7]
                      refine (show up2 M6 82 w _ 82 j = M6 82 j by simp [up2]; omega).trans ?_
                      exact hT6 j hj)
              exact L_229 (spn A.2.2.1 + 1) 0 0 M4 (by omega) nI_0.symm (by omega) (fun j hj => absurd hj (Nat.not_lt_zero _)) (fun _ _ => rfl) (fun j _ => by rw [hF 82 (by omega)])
            · have w55 : v < spn A.2.2.1 := (qlt hy (show M4 82 120 = nI (spn A.2.2.1) by rw [hF 82 (by omega)]; exact hs3.1) (by omega) (by omega)).mp c_55
              have hc4 : M4 82 v = spg A.2.2.1 v := by rw [hF 82 (by omega)]; exact hs3.2.1 v w55
              have hkm := kd_mk (hwS.2.1 v w55) ht4
              have hk6 := no_6 hlen w55
              have hkl := kd_lt A.2.2.1 v
              have hk4 : M4 84 v = nI (kd A.2.2.1 v) := by rw [hF 84 (by omega)]; exact hK3 v w55
              have hd4 : M4 85 v = nI (rD A.2.2.1 (v + 1)) := by rw [hF 85 (by omega)]; exact hD3 v w55
              have hd6 := rD_le A.2.2.1 (v + 1)
              have J_221 : ∀ (M9 : Mem) (o4 o5 : Option Value), (∀ j, j < v + 1 → M9 91 j = spg (sRet A.2.2.1 t) j) → (∀ a, a ≠ 91 → M9 a = M3 a) → G p l e ({ frames := 4, cells := 0, slots := 0, locals := 92 }) s m ([.ref (z + 80), .int x] : List Value).toArray below meth c D cI cO z 6 (QM below D cI cO z ([.ref (z + 80), .int x] : List Value).toArray s SH (pI (fun r M1 => r = (opRetell A x).1 ∧ absR M1 (opRetell A x).2 ∧ fr79 M M1))) 0 0 SH M9 221 [some (.ref (z + 80)), some (.int x), some (.int (M 82 121)), some (.int y), o4, o5] [] := by
                intro M9 o4 o5 hB9 hF9
                refine g_iinc3 C (inc_1 _) dX7_retell_221 (n := 224) rfl ?_
                refine g_goto C dX7_retell_224 (t := 47) (by decide) ?_
                exact ih_47 (v + 1) (y + 1) M9 _ _ (by omega) (by rw [hy, nI_1]) (by omega) hB9 hF9
              refine g_aload0 C dX7_retell_58 (n := 59) rfl ?_
              refine kg_X7_13 C sh_80 rfl dX7_retell_59 (n := 62) rfl ?_
              refine g_iload3 C dX7_retell_62 (n := 63) rfl ?_
              refine g_iald C (j := v) sh_82 (by decide) (hy) (by omega) dX7_retell_63 (n := 64) rfl ?_
              refine kc_X7_54 C (ct_X7_isMark SH M4 (M4 82 v)) ⟨Nat.le_of_ble_eq_true rfl, Nat.le_of_ble_eq_true rfl⟩ ⟨Nat.zero_le _, Nat.zero_le _⟩ (Nat.le_of_ble_eq_true rfl) dX7_retell_64 (n := 67) rfl (fun r_64 M_64 h_64 => ?_)
              rw [h_64.1, h_64.2, hc4]
              refine g_if_eq C dX7_retell_67 (t := 209) (by decide) (n := 70) rfl (fun c_67 => ?_) (fun c_67 => ?_)
              · have hnm : ¬ 3 ≤ kd A.2.2.1 v := fun h => by have := hkm.mpr h; rw [bI_0.mp c_67] at this; cases this
                refine g_aload0 C dX7_retell_209 (n := 210) rfl ?_
                refine kg_X7_40 C sh_80 rfl dX7_retell_210 (n := 213) rfl ?_
                refine g_iload3 C dX7_retell_213 (n := 214) rfl ?_
                refine g_aload0 C dX7_retell_214 (n := 215) rfl ?_
                refine kg_X7_13 C sh_80 rfl dX7_retell_215 (n := 218) rfl ?_
                refine g_iload3 C dX7_retell_218 (n := 219) rfl ?_
                refine g_iald C (j := v) sh_82 (by decide) (hy) (by omega) dX7_retell_219 (n := 220) rfl ?_
                refine g_iast C (j := v) sh_91 (by decide) (hy) (by omega) dX7_retell_220 (n := 221) rfl (fun M8 e8 => ?_)
                have hF9 : ∀ a, a ≠ 91 → M8 a = M3 a := fun a ha => by rw [e8, up2_ne _ _ ha]; exact hF a ha
                have hB9 : ∀ j, j < v + 1 → M8 91 j = spg (sRet A.2.2.1 t) j := fun j hj => by
                  rw [e8]
                  by_cases hjv : j = v
                  · rw [hjv, up2_at, hc4]
                    show _ = if kd A.2.2.1 v = 3 ∨ kd A.2.2.1 v = 5 then _ else _
                    rw [if_neg (by omega), if_neg (by omega)]
                  · refine (show up2 M4 91 v _ 91 j = M4 91 j by simp [up2, hjv]).trans ?_
                    exact hB j (by omega)
                exact J_221 _ _ _ hB9 hF9
              · have hmk : 3 ≤ kd A.2.2.1 v := hkm.mp (bI_n.mp c_67)
                refine g_iconst C ic_3 dX7_retell_70 (n := 71) rfl ?_
                refine g_istore4 C dX7_retell_71 (n := 73) rfl ?_
                have L_73 : ∀ (fu : Nat) (k1 : Nat) (y4 : Int32) (M5 : Mem) (o5 : Option Value), k1 < fu → (y4 + 1 = nI k1) → (k1 ≤ 4) → (k1 ≤ whS A.2.2.1 v → M5 91 v = pq t (whS A.2.2.1 v)) → (∀ j, j < v → M5 91 j = spg (sRet A.2.2.1 t) j) → (∀ a, a ≠ 91 → M5 a = M3 a) → G p l e ({ frames := 4, cells := 0, slots := 0, locals := 92 }) s m ([.ref (z + 80), .int x] : List Value).toArray below meth c D cI cO z 6 (QM below D cI cO z ([.ref (z + 80), .int x] : List Value).toArray s SH (pI (fun r M1 => r = (opRetell A x).1 ∧ absR M1 (opRetell A x).2 ∧ fr79 M M1))) 0 0 SH M5 73 [some (.ref (z + 80)), some (.int x), some (.int (M 82 121)), some (.int y), some (.int y4), o5] [] := by
                  intro fu_73
                  induction fu_73 with
                  | zero => intro k1 y4 M5 o5 hfu; exact absurd hfu (Nat.not_lt_zero _)
                  | succ fu_73 ih_73 =>
                    intro k1 y4 M5 o5 hfu_73 hy4 hk14 hC hB5 hF5
                    refine g_iload4 C dX7_retell_73 (n := 75) rfl ?_
                    refine g_if_lt C dX7_retell_75 (t := 206) (by decide) (n := 78) rfl (fun c_75 => ?_) (fun c_75 => ?_)
                    · have hk0 : k1 = 0 := by
                        by_cases h : k1 = 0
                        · exact h
                        · exfalso
                          have e : y4 = nI (k1 - 1) := by
                            have e2 : y4 = y4 + 1 - 1 := by rw [Int32.add_sub_cancel]
                            rw [e2, hy4]; exact e_sub rfl (show (1 : Int32) = nI 1 from rfl) (by omega)
                          rw [e] at c_75; exact nI_pos (by omega) c_75
                      have hF9 := hF5
                      have hB9 : ∀ j, j < v + 1 → M5 91 j = spg (sRet A.2.2.1 t) j := fun j hj => by
                        by_cases hjv : j = v
                        · rw [hjv, hC (by omega), whS_g (by omega)]
                        · exact hB5 j (by omega)
                      refine g_goto C dX7_retell_206 (t := 221) (by decide) ?_
                      exact J_221 _ _ _ hB9 hF9
                    · obtain ⟨kk, hkk, hykk⟩ : ∃ kk, kk + 1 = k1 ∧ y4 = nI kk := by
                        have e2 : y4 = y4 + 1 - 1 := by rw [Int32.add_sub_cancel]
                        by_cases h : k1 = 0
                        · rw [h] at hy4
                          rw [e2, hy4] at c_75
                          exact absurd (show (nI 0 - 1 : Int32) < 0 by decide) c_75
                        · exact ⟨k1 - 1, by omega, by rw [e2, hy4]; exact e_sub rfl (show (1 : Int32) = nI 1 from rfl) (by omega)⟩
                      have hk5 : M5 84 v = nI (kd A.2.2.1 v) := by rw [hF5 84 (by omega)]; exact hK3 v w55
                      have hd5 : M5 85 v = nI (rD A.2.2.1 (v + 1)) := by rw [hF5 85 (by omega)]; exact hD3 v w55
                      have J_172 : ∀ (b7 : Bool) (xb : Int32), (xb = bI b7) → (b7 = true ↔ kk = whS A.2.2.1 v) → G p l e ({ frames := 4, cells := 0, slots := 0, locals := 92 }) s m ([.ref (z + 80), .int x] : List Value).toArray below meth c D cI cO z 6 (QM below D cI cO z ([.ref (z + 80), .int x] : List Value).toArray s SH (pI (fun r M1 => r = (opRetell A x).1 ∧ absR M1 (opRetell A x).2 ∧ fr79 M M1))) 0 0 SH M5 172 [some (.ref (z + 80)), some (.int x), some (.int (M 82 121)), some (.int y), some (.int y4), o5] [.int xb] := by
                        intro b7 xb hxb hb7
                        refine g_istore5 C dX7_retell_172 (n := 174) rfl ?_
                        refine g_aload0 C dX7_retell_174 (n := 175) rfl ?_
                        refine kg_X7_40 C sh_80 rfl dX7_retell_175 (n := 178) rfl ?_
                        refine g_iload3 C dX7_retell_178 (n := 179) rfl ?_
                        refine g_iload5 C dX7_retell_179 (n := 181) rfl ?_
                        refine g_if_eq C dX7_retell_181 (t := 193) (by decide) (n := 184) rfl (fun c_181 => ?_) (fun c_181 => ?_)
                        · have hbf : b7 = false := bI_0.mp (hxb.symm.trans c_181)
                          refine g_aload0 C dX7_retell_193 (n := 194) rfl ?_
                          refine kg_X7_40 C sh_80 rfl dX7_retell_194 (n := 197) rfl ?_
                          refine g_iload3 C dX7_retell_197 (n := 198) rfl ?_
                          refine g_iald C (j := v) sh_91 (by decide) (hy) (by omega) dX7_retell_198 (n := 199) rfl ?_
                          refine g_iast C (j := v) sh_91 (by decide) (hy) (by omega) dX7_retell_199 (n := 200) rfl (fun M8 e8 => ?_)
                          refine g_iinc4 C (inc_m1 _) dX7_retell_200 (n := 203) rfl ?_
                          refine g_goto C dX7_retell_203 (t := 73) (by decide) ?_
                          exact ih_73 kk (y4 + -1) M8 _ (by omega) (by rw [hykk, Int32.add_assoc]; exact Int32.add_zero _) (by omega) (fun h => by
                            rw [e8, up2_at]
                            first
                              | (have h9 := hbf
                                 refine hC ?_
                                 have h8 : ¬ kk = whS A.2.2.1 v := fun q => by rw [hb7.mpr q] at h9; cases h9
                                 omega)
                              | (have h9 := hbt
                                 rw [hb7.mp h9])) (fun j hj => by
                            rw [e8]
                            refine (show up2 M5 91 v _ 91 j = M5 91 j by simp [up2]; omega).trans ?_
                            exact hB5 j hj) (fun a ha => by rw [e8, up2_ne _ _ ha]; exact hF5 a ha)
                        · have hbt : b7 = true := bI_n.mp (fun h => c_181 (hxb.trans h))
                          refine g_iload1 C dX7_retell_184 (n := 185) rfl ?_
                          refine g_iload4 C dX7_retell_185 (n := 187) rfl ?_
                          refine kc_X7_58 C (ct_X7_markOf SH M5 t kk x y4 hxt hykk ht (by omega)) ⟨Nat.le_of_ble_eq_true rfl, Nat.le_of_ble_eq_true rfl⟩ ⟨Nat.zero_le _, Nat.zero_le _⟩ (Nat.le_of_ble_eq_true rfl) dX7_retell_187 (n := 190) rfl (fun r_187 M_187 h_187 => ?_)
                          rw [h_187.1, h_187.2]
                          refine g_goto C dX7_retell_190 (t := 199) (by decide) ?_
                          refine g_iast C (j := v) sh_91 (by decide) (hy) (by omega) dX7_retell_199 (n := 200) rfl (fun M8 e8 => ?_)
                          refine g_iinc4 C (inc_m1 _) dX7_retell_200 (n := 203) rfl ?_
                          refine g_goto C dX7_retell_203 (t := 73) (by decide) ?_
                          exact ih_73 kk (y4 + -1) M8 _ (by omega) (by rw [hykk, Int32.add_assoc]; exact Int32.add_zero _) (by omega) (fun h => by
                            rw [e8, up2_at]
                            first
                              | (have h9 := hbf
                                 refine hC ?_
                                 have h8 : ¬ kk = whS A.2.2.1 v := fun q => by rw [hb7.mpr q] at h9; cases h9
                                 omega)
                              | (have h9 := hbt
                                 rw [hb7.mp h9])) (fun j hj => by
                            rw [e8]
                            refine (show up2 M5 91 v _ 91 j = M5 91 j by simp [up2]; omega).trans ?_
                            exact hB5 j hj) (fun a ha => by rw [e8, up2_ne _ _ ha]; exact hF5 a ha)
                      refine g_aload0 C dX7_retell_78 (n := 79) rfl ?_
                      refine kg_X7_19 C sh_80 rfl dX7_retell_79 (n := 82) rfl ?_
                      refine g_iload3 C dX7_retell_82 (n := 83) rfl ?_
                      refine g_iald C (j := v) sh_84 (by decide) (hy) (by omega) dX7_retell_83 (n := 84) rfl ?_
                      refine g_iconst C ic_4 dX7_retell_84 (n := 85) rfl ?_
                      refine g_icmp_ne C dX7_retell_85 (t := 117) (by decide) (n := 88) rfl (fun c_85 => ?_) (fun c_85 => ?_)
                      · have w85 : ¬ kd A.2.2.1 v = 4 := fun h => c_85 ((qeq hk5 (show (4 : Int32) = nI 4 from rfl) (by omega) (by decide)).mpr h)
                        refine g_aload0 C dX7_retell_117 (n := 118) rfl ?_
                        refine kg_X7_19 C sh_80 rfl dX7_retell_118 (n := 121) rfl ?_
                        refine g_iload3 C dX7_retell_121 (n := 122) rfl ?_
                        refine g_iald C (j := v) sh_84 (by decide) (hy) (by omega) dX7_retell_122 (n := 123) rfl ?_
                        refine g_iconst C ic_3 dX7_retell_123 (n := 124) rfl ?_
                        refine g_icmp_ne C dX7_retell_124 (t := 157) (by decide) (n := 127) rfl (fun c_124 => ?_) (fun c_124 => ?_)
                        · have w124 : ¬ kd A.2.2.1 v = 3 := fun h => c_124 ((qeq hk5 (show (3 : Int32) = nI 3 from rfl) (by omega) (by decide)).mpr h)
                          refine g_iload4 C dX7_retell_157 (n := 159) rfl ?_
                          refine g_aload0 C dX7_retell_159 (n := 160) rfl ?_
                          refine g_iload3 C dX7_retell_160 (n := 161) rfl ?_
                          refine kc_X7_163 C (ct_X7_renewer M5 A.2.2.1 v y hwS (by rw [hF5 82 (by omega)]; exact hs3) (by unfold KDm; rw [hF5 84 (by omega)]; exact hK3) hy w55 (by omega)) sh_80 ⟨Nat.le_of_ble_eq_true rfl, Nat.le_of_ble_eq_true rfl⟩ ⟨Nat.zero_le _, Nat.zero_le _⟩ (Nat.le_of_ble_eq_true rfl) dX7_retell_161 (n := 164) rfl (fun r_161 M_161 h_161 => ?_)
                          rw [h_161.1, h_161.2]
                          have hwh : whS A.2.2.1 v = levS A.2.2.1 v % 2 * 2 := by unfold whS; rw [if_neg w85]
                          refine g_icmp_ne C dX7_retell_164 (t := 171) (by decide) (n := 167) rfl (fun c_164 => ?_) (fun c_164 => ?_)
                          · have hb7v : (0 : Int32) = bI false ∧ (false = true ↔ kk = whS A.2.2.1 v) := ⟨rfl, fun h => Bool.noConfusion h, fun h => absurd (by rw [hykk, h, hwh]) c_164⟩
                            refine g_iconst C ic_0 dX7_retell_171 (n := 172) rfl ?_
                            exact J_172 _ _ hb7v.1 hb7v.2
                          · have hb7v : (1 : Int32) = bI true ∧ (true = true ↔ kk = whS A.2.2.1 v) := ⟨rfl, fun _ => by rw [hwh]; exact (nI_eq (by omega) (by omega)).mp (hykk.symm.trans c_164), fun _ => rfl⟩
                            refine g_iconst C ic_1 dX7_retell_167 (n := 168) rfl ?_
                            refine g_goto C dX7_retell_168 (t := 172) (by decide) ?_
                            exact J_172 _ _ hb7v.1 hb7v.2
                        · have w124 : kd A.2.2.1 v = 3 := (qeq hk5 (show (3 : Int32) = nI 3 from rfl) (by omega) (by decide)).mp c_124
                          have hq1 : rD A.2.2.1 (v + 1) = rD A.2.2.1 v + 1 := by rw [rD_s, if_pos w124]
                          have hwh : whS A.2.2.1 v = rD A.2.2.1 v % 2 * 2 := by unfold whS; rw [if_neg (by omega), lev_34 (by omega)]
                          refine g_iload4 C dX7_retell_127 (n := 129) rfl ?_
                          refine g_aload0 C dX7_retell_129 (n := 130) rfl ?_
                          refine kg_X7_22 C sh_80 rfl dX7_retell_130 (n := 133) rfl ?_
                          refine g_iload3 C dX7_retell_133 (n := 134) rfl ?_
                          refine g_iald C (j := v) sh_85 (by decide) (hy) (by omega) dX7_retell_134 (n := 135) rfl ?_
                          refine g_iconst C ic_2 dX7_retell_135 (n := 136) rfl ?_
                          refine g_irem C (by decide) dX7_retell_136 (n := 137) rfl ?_
                          refine g_iconst C ic_1 dX7_retell_137 (n := 138) rfl ?_
                          refine g_icmp_ne C dX7_retell_138 (t := 145) (by decide) (n := 141) rfl (fun c_138 => ?_) (fun c_138 => ?_)
                          · have w138 : ¬ (rD A.2.2.1 (v + 1) % 2) = 1 := fun h => c_138 ((qeq (e_rem2 hd5 (by omega)) (show (1 : Int32) = nI 1 from rfl) (by omega) (by decide)).mpr h)
                            refine g_iconst C ic_2 dX7_retell_145 (n := 146) rfl ?_
                            refine g_icmp_ne C dX7_retell_146 (t := 153) (by decide) (n := 149) rfl (fun c_146 => ?_) (fun c_146 => ?_)
                            · have hb7v : (0 : Int32) = bI false ∧ (false = true ↔ kk = whS A.2.2.1 v) := ⟨rfl, fun h => Bool.noConfusion h, fun h => absurd (by rw [hykk, h, hwh]; first | (rw [show rD A.2.2.1 v % 2 = 0 by omega]; rfl) | (rw [show rD A.2.2.1 v % 2 = 1 by omega]; rfl)) c_146⟩
                              refine g_iconst C ic_0 dX7_retell_153 (n := 154) rfl ?_
                              refine g_goto C dX7_retell_154 (t := 172) (by decide) ?_
                              exact J_172 _ _ hb7v.1 hb7v.2
                            · have hb7v : (1 : Int32) = bI true ∧ (true = true ↔ kk = whS A.2.2.1 v) := ⟨rfl, fun _ => (by
                                have h9 := hykk.symm.trans c_146
                                rw [hwh]
                                first
                                  | (have h0 : rD A.2.2.1 v % 2 = 0 := by omega
                                     have h8 := (nI_eq (b := 0) (by omega) (by decide)).mp h9
                                     omega)
                                  | (have h0 : rD A.2.2.1 v % 2 = 1 := by omega
                                     have h8 := (nI_eq (b := 2) (by omega) (by decide)).mp h9
                                     omega)), fun _ => rfl⟩
                              refine g_iconst C ic_1 dX7_retell_149 (n := 150) rfl ?_
                              refine g_goto C dX7_retell_150 (t := 172) (by decide) ?_
                              exact J_172 _ _ hb7v.1 hb7v.2
                          · have w138 : (rD A.2.2.1 (v + 1) % 2) = 1 := (qeq (e_rem2 hd5 (by omega)) (show (1 : Int32) = nI 1 from rfl) (by omega) (by decide)).mp c_138
                            refine g_iconst C ic_0 dX7_retell_141 (n := 142) rfl ?_
                            refine g_goto C dX7_retell_142 (t := 146) (by decide) ?_
                            refine g_icmp_ne C dX7_retell_146 (t := 153) (by decide) (n := 149) rfl (fun c_146 => ?_) (fun c_146 => ?_)
                            · have hb7v : (0 : Int32) = bI false ∧ (false = true ↔ kk = whS A.2.2.1 v) := ⟨rfl, fun h => Bool.noConfusion h, fun h => absurd (by rw [hykk, h, hwh]; first | (rw [show rD A.2.2.1 v % 2 = 0 by omega]; rfl) | (rw [show rD A.2.2.1 v % 2 = 1 by omega]; rfl)) c_146⟩
                              refine g_iconst C ic_0 dX7_retell_153 (n := 154) rfl ?_
                              refine g_goto C dX7_retell_154 (t := 172) (by decide) ?_
                              exact J_172 _ _ hb7v.1 hb7v.2
                            · have hb7v : (1 : Int32) = bI true ∧ (true = true ↔ kk = whS A.2.2.1 v) := ⟨rfl, fun _ => (by
                                have h9 := hykk.symm.trans c_146
                                rw [hwh]
                                first
                                  | (have h0 : rD A.2.2.1 v % 2 = 0 := by omega
                                     have h8 := (nI_eq (b := 0) (by omega) (by decide)).mp h9
                                     omega)
                                  | (have h0 : rD A.2.2.1 v % 2 = 1 := by omega
                                     have h8 := (nI_eq (b := 2) (by omega) (by decide)).mp h9
                                     omega)), fun _ => rfl⟩
                              refine g_iconst C ic_1 dX7_retell_149 (n := 150) rfl ?_
                              refine g_goto C dX7_retell_150 (t := 172) (by decide) ?_
                              exact J_172 _ _ hb7v.1 hb7v.2
                      · have w85 : kd A.2.2.1 v = 4 := (qeq hk5 (show (4 : Int32) = nI 4 from rfl) (by omega) (by decide)).mp c_85
                        have hq1 : rD A.2.2.1 (v + 1) = rD A.2.2.1 v - 1 := by rw [rD_s, if_neg (by omega), if_pos w85]
                        have hp1 := kd4_pos w85
                        have hwh : whS A.2.2.1 v = (rD A.2.2.1 v + 1) % 2 * 2 + 1 := by unfold whS; rw [if_pos w85]
                        refine g_iload4 C dX7_retell_88 (n := 90) rfl ?_
                        refine g_aload0 C dX7_retell_90 (n := 91) rfl ?_
                        refine kg_X7_22 C sh_80 rfl dX7_retell_91 (n := 94) rfl ?_
                        refine g_iload3 C dX7_retell_94 (n := 95) rfl ?_
                        refine g_iald C (j := v) sh_85 (by decide) (hy) (by omega) dX7_retell_95 (n := 96) rfl ?_
                        refine g_iconst C ic_2 dX7_retell_96 (n := 97) rfl ?_
                        refine g_irem C (by decide) dX7_retell_97 (n := 98) rfl ?_
                        refine g_if_ne C dX7_retell_98 (t := 105) (by decide) (n := 101) rfl (fun c_98 => ?_) (fun c_98 => ?_)
                        · have w98 : ¬ (rD A.2.2.1 (v + 1) % 2) = 0 := fun h => c_98 ((qeq (e_rem2 hd5 (by omega)) nI_0.symm (by omega) (by decide)).mpr h)
                          refine g_iconst C ic_3 dX7_retell_105 (n := 106) rfl ?_
                          refine g_icmp_ne C dX7_retell_106 (t := 113) (by decide) (n := 109) rfl (fun c_106 => ?_) (fun c_106 => ?_)
                          · have hb7v : (0 : Int32) = bI false ∧ (false = true ↔ kk = whS A.2.2.1 v) := ⟨rfl, fun h => Bool.noConfusion h, fun h => absurd (by rw [hykk, h, hwh]; first | (rw [show (rD A.2.2.1 v + 1) % 2 = 0 by omega]; rfl) | (rw [show (rD A.2.2.1 v + 1) % 2 = 1 by omega]; rfl)) c_106⟩
                            refine g_iconst C ic_0 dX7_retell_113 (n := 114) rfl ?_
                            refine g_goto C dX7_retell_114 (t := 172) (by decide) ?_
                            exact J_172 _ _ hb7v.1 hb7v.2
                          · have hb7v : (1 : Int32) = bI true ∧ (true = true ↔ kk = whS A.2.2.1 v) := ⟨rfl, fun _ => (by
                              have h9 := hykk.symm.trans c_106
                              rw [hwh]
                              first
                                | (have h0 : (rD A.2.2.1 v + 1) % 2 = 0 := by omega
                                   have h8 := (nI_eq (b := 1) (by omega) (by decide)).mp h9
                                   omega)
                                | (have h0 : (rD A.2.2.1 v + 1) % 2 = 1 := by omega
                                   have h8 := (nI_eq (b := 3) (by omega) (by decide)).mp h9
                                   omega)), fun _ => rfl⟩
                            refine g_iconst C ic_1 dX7_retell_109 (n := 110) rfl ?_
                            refine g_goto C dX7_retell_110 (t := 172) (by decide) ?_
                            exact J_172 _ _ hb7v.1 hb7v.2
                        · have w98 : (rD A.2.2.1 (v + 1) % 2) = 0 := (qeq (e_rem2 hd5 (by omega)) nI_0.symm (by omega) (by decide)).mp c_98
                          refine g_iconst C ic_1 dX7_retell_101 (n := 102) rfl ?_
                          refine g_goto C dX7_retell_102 (t := 106) (by decide) ?_
                          refine g_icmp_ne C dX7_retell_106 (t := 113) (by decide) (n := 109) rfl (fun c_106 => ?_) (fun c_106 => ?_)
                          · have hb7v : (0 : Int32) = bI false ∧ (false = true ↔ kk = whS A.2.2.1 v) := ⟨rfl, fun h => Bool.noConfusion h, fun h => absurd (by rw [hykk, h, hwh]; first | (rw [show (rD A.2.2.1 v + 1) % 2 = 0 by omega]; rfl) | (rw [show (rD A.2.2.1 v + 1) % 2 = 1 by omega]; rfl)) c_106⟩
                            refine g_iconst C ic_0 dX7_retell_113 (n := 114) rfl ?_
                            refine g_goto C dX7_retell_114 (t := 172) (by decide) ?_
                            exact J_172 _ _ hb7v.1 hb7v.2
                          · have hb7v : (1 : Int32) = bI true ∧ (true = true ↔ kk = whS A.2.2.1 v) := ⟨rfl, fun _ => (by
                              have h9 := hykk.symm.trans c_106
                              rw [hwh]
                              first
                                | (have h0 : (rD A.2.2.1 v + 1) % 2 = 0 := by omega
                                   have h8 := (nI_eq (b := 1) (by omega) (by decide)).mp h9
                                   omega)
                                | (have h0 : (rD A.2.2.1 v + 1) % 2 = 1 := by omega
                                   have h8 := (nI_eq (b := 3) (by omega) (by decide)).mp h9
                                   omega)), fun _ => rfl⟩
                            refine g_iconst C ic_1 dX7_retell_109 (n := 110) rfl ?_
                            refine g_goto C dX7_retell_110 (t := 172) (by decide) ?_
                            exact J_172 _ _ hb7v.1 hb7v.2
                exact L_73 5 4 3 M4 _ (by omega) rfl (by omega) (fun h => absurd (whS_4 A.2.2.1 v) (by omega)) hB hF
        exact L_47 (spn A.2.2.1 + 1) 0 0 M3 none none (by omega) nI_0.symm (by omega) (fun j hj => absurd hj (Nat.not_lt_zero _)) (fun _ _ => rfl)
      · have hlen : (wlE A.2.2.1).length ≠ 0 := fun h => c_35 |> fun q => by rw [h2.1.1, h] at q; exact absurd q (by decide)
        have hv : (-2 : Int32) = (opRetell A x).1 ∧ absR M2 (opRetell A x).2 ∧ fr79 M M2 := by
          rw [show opRetell A x = (-2, A) by unfold opRetell; rw [if_neg hno, if_pos (Or.inr hlen)]]
          exact ⟨rfl, hab⟩
        refine g_bipush C bp_m2 dX7_retell_38 (n := 40) rfl ?_
        refine r_I C dX7_retell_40 ?_
        exact hv
  · have hb : x < 0 ∨ ¬ x < 4 := (inn.mp c_9).elim Or.inl (fun h => Or.inr (le3.mp h))
    refine g_iconst C ic_m1 dX7_retell_12 (n := 13) rfl ?_
    refine r_I C dX7_retell_13 ?_
    rw [show opRetell A x = (-1, A) from if_pos hb]
    exact ⟨rfl, hA, fun _ _ => rfl⟩
