/-! the reference: changes by hand -/
abbrev fr79 (M M1 : Mem) : Prop := ∀ a, a < 80 → M1 a = M a
theorem spR_cong {f g : Nat → Int32} {S : Spt} (hn : spn S ≤ 120) (h : ∀ j, j < 126 → g j = f j) (hf : spR f S) : spR g S := by
  obtain ⟨h1, h2, h3, h4, h5⟩ := hf
  exact ⟨by rw [h _ (by omega)]; exact h1, fun j hj => by rw [h _ (by omega)]; exact h2 j hj, by rw [h _ (by omega)]; exact h3, by rw [h _ (by omega)]; exact h4, fun j hj => by rw [h _ (by omega)]; exact h5 j hj⟩
theorem spR_ton {f : Nat → Int32} {S : Spt} {t : Nat} {v : Int32} (hn : spn S ≤ 120) (hv : v = nI t) (hf : spR f S) : spR (upd f 121 v) (sTon S t) := by
  obtain ⟨h1, h2, h3, h4, h5⟩ := hf
  exact ⟨by rw [pk_un (by omega)]; exact h1, fun j hj => by have : j < spn S := hj; rw [pk_un (by omega)]; exact h2 j hj, by rw [pk_us]; exact hv, by rw [pk_un (by omega)]; exact h4, fun j hj => by rw [pk_un (by omega)]; exact h5 j hj⟩
theorem spR_rul {f : Nat → Int32} {S : Spt} {t : Nat} {v : Int32} (hn : spn S ≤ 120) (hv : v = nI t) (hf : spR f S) : spR (upd f 122 v) (sRul S t) := by
  obtain ⟨h1, h2, h3, h4, h5⟩ := hf
  exact ⟨by rw [pk_un (by omega)]; exact h1, fun j hj => by have : j < spn S := hj; rw [pk_un (by omega)]; exact h2 j hj, by rw [pk_un (by omega)]; exact h3, by rw [pk_us]; exact hv, fun j hj => by rw [pk_un (by omega)]; exact h5 j hj⟩
theorem spR_wei {f : Nat → Int32} {S : Spt} {i t : Nat} {v : Int32} (hn : spn S ≤ 120) (hv : v = nI t) (hf : spR f S) : spR (upd f (123 + i) v) (sWei S i t) := by
  obtain ⟨h1, h2, h3, h4, h5⟩ := hf
  refine ⟨by rw [pk_un (by omega)]; exact h1, fun j hj => by have : j < spn S := hj; rw [pk_un (by omega)]; exact h2 j hj, by rw [pk_un (by omega)]; exact h3, by rw [pk_un (by omega)]; exact h4, fun j hj => ?_⟩
  show _ = nI (if j = i then t else spw S j)
  by_cases hji : j = i
  · rw [hji, pk_us, if_pos rfl]; exact hv
  · rw [if_neg hji, pk_un (by omega)]; exact h5 j hj
theorem spR_alt {f : Nat → Int32} {S : Spt} {i : Nat} {v : Int32} (hn : spn S ≤ 120) (hi : i < spn S) (hf : spR f S) : spR (upd f i v) (sAlt S i v) := by
  obtain ⟨h1, h2, h3, h4, h5⟩ := hf
  refine ⟨by rw [pk_un (by omega)]; exact h1, fun j hj => ?_, by rw [pk_un (by omega)]; exact h3, by rw [pk_un (by omega)]; exact h4, fun j hj => by rw [pk_un (by omega)]; exact h5 j hj⟩
  show _ = if j = i then v else spg S j
  by_cases hji : j = i
  · rw [hji, pk_us, if_pos rfl]
  · rw [if_neg hji, pk_un hji]; exact h2 j hj
theorem absR_sp {M M1 : Mem} {A : Abs} {S : Spt} (h : absR M A) (hf : ∀ a, a ≠ 82 → M1 a = M a) (hS : spR (M1 82) S) : absR M1 (A.1, A.2.1, S, A.2.2.2) := by
  obtain ⟨h1, h2, h3, h4, h5⟩ := h
  exact ⟨by rw [hf 80 (by omega)]; exact h1, fun j hj => by rw [hf 81 (by omega)]; exact h2 j hj, hS, by rw [hf 80 (by omega)]; exact h4, fun i T hi => by rw [hf 83 (by omega)]; exact h5 i T hi⟩
theorem pl_iff {x : Int32} {n : Nat} (hn : n ≤ 120) : (nI n - 1 < x) ↔ ¬ x < nI n := by
  have e : (nI n - 1).toInt = (n : Int) - 1 := pk_sub_toInt (a := n) (b := 1) (by omega) (by decide)
  rw [Int32.lt_iff_toInt_lt, Int32.lt_iff_toInt_lt, e, nI_toInt (by omega)]
  omega
def nlx (t k : Nat) : Int32 := if k < sN (t + 1) then sB (t + 1) k else 0
def txz (A : Abs) (k : Nat) : Int32 := if k < A.1 then A.2.1 k else 0
theorem sB_n0 : ∀ t, t < 4 → ∀ k, k < sN (t + 1) → sB (t + 1) k ≠ 0 := by decide
theorem sN_5 : ∀ t, t < 4 → sN (t + 1) < 6 := by decide
theorem nm_iff {A : Abs} {t : Nat} (hw : wfA A) (ht : t < 4) : nmB A.1 A.2.1 (t + 1) ↔ (∀ j, j < 6 → txz A j = nlx t j) ∧ A.1 < 6 := by
  have h5 := sN_5 t ht
  constructor
  · rintro ⟨h1, h2⟩
    refine ⟨fun j hj => ?_, by omega⟩
    unfold txz nlx
    rw [← h1]
    by_cases h : j < A.1
    · rw [if_pos h, if_pos h]; exact h2 j h
    · rw [if_neg h, if_neg h]
  · rintro ⟨h1, h2⟩
    have e : A.1 = sN (t + 1) := by
      rcases Nat.lt_trichotomy A.1 (sN (t + 1)) with h | h | h
      · have := h1 A.1 (by omega)
        unfold txz nlx at this
        rw [if_neg (by omega), if_pos h] at this
        exact absurd this.symm (sB_n0 t ht _ h)
      · exact h
      · have := h1 (sN (t + 1)) h5
        unfold txz nlx at this
        rw [if_pos h, if_neg (by omega)] at this
        exact absurd this (hw.2.2.2.2 _ h)
    refine ⟨e, fun j hj => ?_⟩
    have := h1 j (by omega)
    unfold txz nlx at this
    rw [if_pos hj, if_pos (by omega)] at this
    exact this
def nP (M M2 : Mem) (A : Abs) : Prop := absR M2 (chg A A.2.2.1) ∧ M2 82 = M 82 ∧ fr79 M M2
def pre6 (L : List Spt) : List Spt := if L.length = 6 then L.tail else L
theorem pre6_psh (L : List Spt) (S : Spt) : psh L S = pre6 L ++ [S] := by unfold psh pre6; split <;> rfl
theorem bp_101 : (Int8.ofInt 101).toInt32 = 101 := by decide
theorem bp_104 : (Int8.ofInt 104).toInt32 = 104 := by decide
theorem bp_110 : (Int8.ofInt 110).toInt32 = 110 := by decide
theorem bp_111 : (Int8.ofInt 111).toInt32 = 111 := by decide
theorem bp_114 : (Int8.ofInt 114).toInt32 = 114 := by decide
theorem bp_115 : (Int8.ofInt 115).toInt32 = 115 := by decide
theorem bp_116 : (Int8.ofInt 116).toInt32 = 116 := by decide
theorem bp_117 : (Int8.ofInt 117).toInt32 = 117 := by decide
theorem bp_119 : (Int8.ofInt 119).toInt32 = 119 := by decide
theorem sp_630 : (Int16.ofInt 630).toInt32 = 630 := by decide
set_option maxHeartbeats 4000000 in
set_option maxRecDepth 100000 in
theorem ct_X7_note {l : Launch} {D : va_G} {cI cO : ClassId} {z tP : Nat} {aK aV : Nat → Nat} (M : Mem) (A : Abs) (hA : absR M A) (hw : wfA A) : Cm l D cI cO z tP aK aV yX7_note cX7_note 2 none 0 0 [.ref (z + 80)] SH M (pV (fun M1 => nP M M1 A)) := by
  refine cm_intro (lv0 := [some (.ref (z + 80)), none]) (by decide) rfl (Nat.le_of_ble_eq_true rfl) rfl (fun p e s m below meth c C => ?_)
  have hwS := hw.2.1
  have hn120 := hwS.1
  have hsp := hA.2.2.1
  have hl6 := hw.2.2.1
  have htl := hw.1
  have J_49 : ∀ (M2 : Mem) (o1 : Option Value), (M2 80 4 = nI (pre6 A.2.2.2).length) → ((pre6 A.2.2.2).length ≤ 5) → (∀ i T, (pre6 A.2.2.2)[i]? = some T → spR (fun j => M2 83 (126 * i + j)) T) → (∀ a, a ≠ 80 → a ≠ 83 → M2 a = M a) → (M2 80 0 = M 80 0) → G p l e ({ frames := 0, cells := 0, slots := 0, locals := 0 }) s m ([.ref (z + 80)] : List Value).toArray below meth c D cI cO z 2 (QM below D cI cO z ([.ref (z + 80)] : List Value).toArray s SH (pV (fun M1 => nP M M1 A))) 0 0 SH M2 49 [some (.ref (z + 80)), o1] [] := by
    intro M2 o1 hk2 hl2 hH hF h80
    refine g_iconst C ic_0 dX7_note_49 (n := 50) rfl ?_
    refine g_istore1 C dX7_note_50 (n := 51) rfl ?_
    have L_51 : ∀ (fu : Nat) (v : Nat) (y : Int32) (M3 : Mem), 126 - v < fu → (y = nI v) → (v ≤ 126) → (∀ x, M3 83 x = if 126 * (pre6 A.2.2.2).length ≤ x ∧ x < 126 * (pre6 A.2.2.2).length + v then M 82 (x - 126 * (pre6 A.2.2.2).length) else M2 83 x) → (∀ a, a ≠ 83 → M3 a = M2 a) → G p l e ({ frames := 0, cells := 0, slots := 0, locals := 0 }) s m ([.ref (z + 80)] : List Value).toArray below meth c D cI cO z 2 (QM below D cI cO z ([.ref (z + 80)] : List Value).toArray s SH (pV (fun M1 => nP M M1 A))) 0 0 SH M3 51 [some (.ref (z + 80)), some (.int y)] [] := by
      intro fu_51
      induction fu_51 with
      | zero => intro v y M3 hfu; exact absurd hfu (Nat.not_lt_zero _)
      | succ fu_51 ih_51 =>
        intro v y M3 hfu_51 hy hv hB hF3
        refine g_iload1 C dX7_note_51 (n := 52) rfl ?_
        refine g_bipush C bp_126 dX7_note_52 (n := 54) rfl ?_
        refine g_icmp_ge C dX7_note_54 (t := 83) (by decide) (n := 57) rfl (fun c_54 => ?_) (fun c_54 => ?_)
        · have w54 : ¬ v < 126 := fun h => c_54 ((qlt hy (show (126 : Int32) = nI 126 from rfl) (by omega) (by decide)).mpr h)
          refine g_aload0 C dX7_note_83 (n := 84) rfl ?_
          refine g_dup C rfl dX7_note_84 (n := 85) rfl ?_
          refine kg_X7_80 C sh_80 rfl dX7_note_85 (n := 88) rfl ?_
          refine g_iconst C ic_1 dX7_note_88 (n := 89) rfl ?_
          refine g_iadd C dX7_note_89 (n := 90) rfl ?_
          refine kp_X7_80 C sh_80 rfl dX7_note_90 (n := 93) rfl (fun M_90 e_90 => ?_)
          refine r_V C dX7_note_93 ?_
          have f : ∀ a, a ≠ 80 → a ≠ 83 → M_90 a = M a := fun a a1 a2 => by rw [e_90, up2_ne _ _ a1, hF3 a a2]; exact hF a a1 a2
          have g : M_90 83 = M3 83 := by rw [e_90, up2_ne _ _ (by omega)]
          refine ⟨⟨?_, fun j hj => by rw [f 81 (by omega) (by omega)]; exact hA.2.1 j hj, by rw [f 82 (by omega) (by omega)]; exact hsp, ?_, fun i T hi => ?_⟩, f 82 (by omega) (by omega), fun a ha => f a (by omega) (by omega)⟩
          · rw [e_90]; simp [up2]; rw [hF3 80 (by omega), h80]; exact hA.1
          · show M_90 80 4 = nI (psh A.2.2.2 A.2.2.1).length
            rw [pre6_psh, List.length_append, List.length_singleton, e_90, up2_at, hF3 80 (by omega), hk2, nI_1]
          · have hi2 : (psh A.2.2.2 A.2.2.1)[i]? = some T := hi
            rw [pre6_psh] at hi2
            by_cases h4 : i < (pre6 A.2.2.2).length
            · rw [List.getElem?_append_left h4] at hi2
              have hT : T ∈ A.2.2.2 := by
                have := List.mem_of_getElem? hi2
                unfold pre6 at this
                split at this
                · exact List.mem_of_mem_tail this
                · exact this
              refine spR_cong (hw.2.2.2.1 T hT).1 (fun j hj => ?_) (hH i T hi2)
              show M_90 83 (126 * i + j) = M2 83 (126 * i + j)
              rw [g, hB, if_neg (by omega)]
            · rw [List.getElem?_append_right (by omega)] at hi2
              have hl := (List.getElem?_eq_some_iff.mp hi2).1
              simp at hl
              have hie : i = (pre6 A.2.2.2).length := by omega
              have hTS : T = A.2.2.1 := by rw [hie, Nat.sub_self] at hi2; simpa using hi2.symm
              rw [hTS]
              refine spR_cong hn120 (fun j hj => ?_) hsp
              show M_90 83 (126 * i + j) = M 82 j
              rw [g, hB, if_pos (by omega), hie]; congr 1; omega
        · have w54 : v < 126 := (qlt hy (show (126 : Int32) = nI 126 from rfl) (by omega) (by decide)).mp c_54
          refine g_aload0 C dX7_note_57 (n := 58) rfl ?_
          refine kg_X7_16 C sh_80 rfl dX7_note_58 (n := 61) rfl ?_
          refine g_bipush C bp_126 dX7_note_61 (n := 63) rfl ?_
          refine g_aload0 C dX7_note_63 (n := 64) rfl ?_
          refine kg_X7_80 C sh_80 rfl dX7_note_64 (n := 67) rfl ?_
          refine g_imul C dX7_note_67 (n := 68) rfl ?_
          refine g_iload1 C dX7_note_68 (n := 69) rfl ?_
          refine g_iadd C dX7_note_69 (n := 70) rfl ?_
          refine g_aload0 C dX7_note_70 (n := 71) rfl ?_
          refine kg_X7_13 C sh_80 rfl dX7_note_71 (n := 74) rfl ?_
          refine g_iload1 C dX7_note_74 (n := 75) rfl ?_
          refine g_iald C (j := v) sh_82 (by decide) (hy) (by omega) dX7_note_75 (n := 76) rfl ?_
          refine g_iast C (j := 126 * (pre6 A.2.2.2).length + v) sh_83 (by decide) (e_add (e_mul rfl (by rw [hF3 80 (by omega)]; exact hk2)) hy) (by omega) dX7_note_76 (n := 77) rfl (fun M_76 e_76 => ?_)
          refine g_iinc1 C (inc_1 _) dX7_note_77 (n := 80) rfl ?_
          refine g_goto C dX7_note_80 (t := 51) (by decide) ?_
          exact ih_51 (v + 1) (y + 1) M_76 (by omega) (by rw [hy, nI_1]) (by omega) (fun x => by
  rw [e_76]
  by_cases hx : x = 126 * (pre6 A.2.2.2).length + v
  · rw [hx, up2_at, if_pos (by omega), hF3 82 (by omega), hF 82 (by omega) (by omega)]; congr 1; omega
  · refine (show up2 M3 83 _ _ 83 x = M3 83 x by simp [up2, hx]).trans ?_
    rw [hB]
    by_cases h4 : 126 * (pre6 A.2.2.2).length ≤ x ∧ x < 126 * (pre6 A.2.2.2).length + v
    · rw [if_pos h4, if_pos (by omega)]
    · rw [if_neg h4, if_neg (by omega)]) (fun a ha => by rw [e_76, up2_ne _ _ ha]; exact hF3 a ha)
    exact L_51 127 0 0 M2 (by omega) nI_0.symm (by omega) (fun x => by rw [if_neg (by omega)]) (fun _ _ => rfl)
  refine g_aload0 C dX7_note_0 (n := 1) rfl ?_
  refine kg_X7_80 C sh_80 rfl dX7_note_1 (n := 4) rfl ?_
  refine g_bipush C bp_6 dX7_note_4 (n := 6) rfl ?_
  refine g_icmp_ne C dX7_note_6 (t := 49) (by decide) (n := 9) rfl (fun c_6 => ?_) (fun c_6 => ?_)
  · have h6 : ¬ A.2.2.2.length = 6 := fun h => c_6 (by rw [hA.2.2.2.1, h]; rfl)
    have hp6 : pre6 A.2.2.2 = A.2.2.2 := if_neg h6
    first | (have h9 := hz1; exact J_49 M_46 _ hz1 hz2 hz3 hz4 hz5) | exact J_49 M none (by rw [hp6]; exact hA.2.2.2.1) (by rw [hp6]; omega) (by rw [hp6]; exact hA.2.2.2.2) (fun _ _ _ => rfl) rfl
  · have h6 : A.2.2.2.length = 6 := (qeq hA.2.2.2.1 (show (6 : Int32) = nI 6 from rfl) (by omega) (by decide)).mp c_6
    have hp6 : pre6 A.2.2.2 = A.2.2.2.tail := if_pos h6
    refine g_iconst C ic_0 dX7_note_9 (n := 10) rfl ?_
    refine g_istore1 C dX7_note_10 (n := 11) rfl ?_
    have L_11 : ∀ (fu : Nat) (v : Nat) (y : Int32) (M1 : Mem), 630 - v < fu → (y = nI v) → (v ≤ 630) → (∀ x, M1 83 x = if x < v then M 83 (126 + x) else M 83 x) → (∀ a, a ≠ 83 → M1 a = M a) → G p l e ({ frames := 0, cells := 0, slots := 0, locals := 0 }) s m ([.ref (z + 80)] : List Value).toArray below meth c D cI cO z 2 (QM below D cI cO z ([.ref (z + 80)] : List Value).toArray s SH (pV (fun M1 => nP M M1 A))) 0 0 SH M1 11 [some (.ref (z + 80)), some (.int y)] [] := by
      intro fu_11
      induction fu_11 with
      | zero => intro v y M1 hfu; exact absurd hfu (Nat.not_lt_zero _)
      | succ fu_11 ih_11 =>
        intro v y M1 hfu_11 hy hv hB hF
        refine g_iload1 C dX7_note_11 (n := 12) rfl ?_
        refine g_sipush C sp_630 dX7_note_12 (n := 15) rfl ?_
        refine g_icmp_ge C dX7_note_15 (t := 39) (by decide) (n := 18) rfl (fun c_15 => ?_) (fun c_15 => ?_)
        · have w15 : ¬ v < 630 := fun h => c_15 ((qlt hy (show (630 : Int32) = nI 630 from rfl) (by omega) (by decide)).mpr h)
          refine g_aload0 C dX7_note_39 (n := 40) rfl ?_
          refine g_dup C rfl dX7_note_40 (n := 41) rfl ?_
          refine kg_X7_80 C sh_80 rfl dX7_note_41 (n := 44) rfl ?_
          refine g_iconst C ic_1 dX7_note_44 (n := 45) rfl ?_
          refine g_isub C dX7_note_45 (n := 46) rfl ?_
          refine kp_X7_80 C sh_80 rfl dX7_note_46 (n := 49) rfl (fun M_46 e_46 => ?_)
          have hl5 : (pre6 A.2.2.2).length = 5 := by rw [hp6]; simp; omega
          have hz1 : M_46 80 4 = nI (pre6 A.2.2.2).length := by
            rw [e_46, up2_at, hF 80 (by omega), hA.2.2.2.1, hl5, h6]; rfl
          have hz2 : (pre6 A.2.2.2).length ≤ 5 := by omega
          have hz3 : ∀ i T, (pre6 A.2.2.2)[i]? = some T → spR (fun j => M_46 83 (126 * i + j)) T := by
            intro i T hi
            have hi5 := (List.getElem?_eq_some_iff.mp hi).1
            rw [hp6, List.getElem?_tail] at hi
            refine spR_cong (hw.2.2.2.1 T (List.mem_of_getElem? hi)).1 (fun j hj => ?_) (hA.2.2.2.2 (i + 1) T hi)
            show M_46 83 (126 * i + j) = M 83 (126 * (i + 1) + j)
            rw [e_46, up2_ne _ _ (by omega), hB, if_pos (by omega)]
            congr 1; omega
          have hz4 : ∀ a, a ≠ 80 → a ≠ 83 → M_46 a = M a := fun a a1 a2 => by rw [e_46, up2_ne _ _ a1]; exact hF a a2
          have hz5 : M_46 80 0 = M 80 0 := by rw [e_46]; simp [up2]; rw [hF 80 (by omega)]
          first | (have h9 := hz1; exact J_49 M_46 _ hz1 hz2 hz3 hz4 hz5) | exact J_49 M none (by rw [hp6]; exact hA.2.2.2.1) (by rw [hp6]; omega) (by rw [hp6]; exact hA.2.2.2.2) (fun _ _ _ => rfl) rfl
        · have w15 : v < 630 := (qlt hy (show (630 : Int32) = nI 630 from rfl) (by omega) (by decide)).mp c_15
          refine g_aload0 C dX7_note_18 (n := 19) rfl ?_
          refine kg_X7_16 C sh_80 rfl dX7_note_19 (n := 22) rfl ?_
          refine g_iload1 C dX7_note_22 (n := 23) rfl ?_
          refine g_aload0 C dX7_note_23 (n := 24) rfl ?_
          refine kg_X7_16 C sh_80 rfl dX7_note_24 (n := 27) rfl ?_
          refine g_bipush C bp_126 dX7_note_27 (n := 29) rfl ?_
          refine g_iload1 C dX7_note_29 (n := 30) rfl ?_
          refine g_iadd C dX7_note_30 (n := 31) rfl ?_
          refine g_iald C (j := 126 + v) sh_83 (by decide) (e_add rfl hy) (by omega) dX7_note_31 (n := 32) rfl ?_
          refine g_iast C (j := v) sh_83 (by decide) (hy) (by omega) dX7_note_32 (n := 33) rfl (fun M_32 e_32 => ?_)
          refine g_iinc1 C (inc_1 _) dX7_note_33 (n := 36) rfl ?_
          refine g_goto C dX7_note_36 (t := 11) (by decide) ?_
          exact ih_11 (v + 1) (y + 1) M_32 (by omega) (by rw [hy, nI_1]) (by omega) (fun x => by
  rw [e_32]
  by_cases hx : x = v
  · rw [hx, up2_at, hB, if_neg (by omega), if_pos (by omega)]
  · refine (show up2 M1 83 v _ 83 x = M1 83 x by simp [up2, hx]).trans ?_
    rw [hB]
    by_cases h4 : x < v
    · rw [if_pos h4, if_pos (by omega)]
    · rw [if_neg h4, if_neg (by omega)]) (fun a ha => by rw [e_32, up2_ne _ _ ha]; exact hF a ha)
    exact L_11 631 0 0 M (by omega) nI_0.symm (by omega) (fun x => by rw [if_neg (Nat.not_lt_zero _)]) (fun _ _ => rfl)
set_option maxHeartbeats 4000000 in
set_option maxRecDepth 100000 in
theorem ct_X7_undo {l : Launch} {D : va_G} {cI cO : ClassId} {z tP : Nat} {aK aV : Nat → Nat} (M : Mem) (A : Abs) (hA : absR M A) (hw : wfA A) : Cm l D cI cO z tP aK aV yX7_undo cX7_undo 2 (some .int) 0 0 [.ref (z + 80)] SH M (pI (fun r M1 => ∃ B, undS A r B ∧ absR M1 B ∧ fr79 M M1)) := by
  refine cm_intro (lv0 := [some (.ref (z + 80)), none]) (by decide) rfl (Nat.le_of_ble_eq_true rfl) rfl (fun p e s m below meth c C => ?_)
  have hwS := hw.2.1
  have hn120 := hwS.1
  have hsp := hA.2.2.1
  have hl6 := hw.2.2.1
  have htl := hw.1
  have hk := hA.2.2.2.1
  refine g_aload0 C dX7_undo_0 (n := 1) rfl ?_
  refine kg_X7_80 C sh_80 rfl dX7_undo_1 (n := 4) rfl ?_
  refine g_if_ne C dX7_undo_4 (t := 10) (by decide) (n := 7) rfl (fun c_4 => ?_) (fun c_4 => ?_)
  · have hne : A.2.2.2 ≠ [] := fun h => c_4 (by rw [hk, h]; rfl)
    obtain ⟨L, S, hLS⟩ : ∃ L S, A.2.2.2 = L ++ [S] := ⟨A.2.2.2.dropLast, A.2.2.2.getLast hne, (List.dropLast_concat_getLast hne).symm⟩
    have hlen : L.length < 6 := by rw [hLS] at hl6; simp at hl6; omega
    have hwS2 : wfS S := hw.2.2.2.1 S (by rw [hLS]; simp)
    have hkL : M 80 4 = nI (L.length + 1) := by rw [hk, hLS, List.length_append, List.length_singleton]
    refine g_aload0 C dX7_undo_10 (n := 11) rfl ?_
    refine g_dup C rfl dX7_undo_11 (n := 12) rfl ?_
    refine kg_X7_80 C sh_80 rfl dX7_undo_12 (n := 15) rfl ?_
    refine g_iconst C ic_1 dX7_undo_15 (n := 16) rfl ?_
    refine g_isub C dX7_undo_16 (n := 17) rfl ?_
    refine kp_X7_80 C sh_80 rfl dX7_undo_17 (n := 20) rfl (fun M2 e2 => ?_)
    have hk2 : M2 80 4 = nI L.length := by rw [e2, up2_at, hkL]; exact pk_sub (b := 1) (by omega)
    refine g_iconst C ic_0 dX7_undo_20 (n := 21) rfl ?_
    refine g_istore1 C dX7_undo_21 (n := 22) rfl ?_
    have L_22 : ∀ (fu : Nat) (v : Nat) (y : Int32) (M3 : Mem), 126 - v < fu → (y = nI v) → (v ≤ 126) → (∀ x, x < v → M3 82 x = M 83 (126 * L.length + x)) → (∀ a, a ≠ 82 → M3 a = M2 a) → G p l e ({ frames := 0, cells := 0, slots := 0, locals := 0 }) s m ([.ref (z + 80)] : List Value).toArray below meth c D cI cO z 2 (QM below D cI cO z ([.ref (z + 80)] : List Value).toArray s SH (pI (fun r M1 => ∃ B, undS A r B ∧ absR M1 B ∧ fr79 M M1))) 0 0 SH M3 22 [some (.ref (z + 80)), some (.int y)] [] := by
      intro fu_22
      induction fu_22 with
      | zero => intro v y M3 hfu; exact absurd hfu (Nat.not_lt_zero _)
      | succ fu_22 ih_22 =>
        intro v y M3 hfu_22 hy hv hB hF3
        refine g_iload1 C dX7_undo_22 (n := 23) rfl ?_
        refine g_bipush C bp_126 dX7_undo_23 (n := 25) rfl ?_
        refine g_icmp_ge C dX7_undo_25 (t := 54) (by decide) (n := 28) rfl (fun c_25 => ?_) (fun c_25 => ?_)
        · have w25 : ¬ v < 126 := fun h => c_25 ((qlt hy (show (126 : Int32) = nI 126 from rfl) (by omega) (by decide)).mpr h)
          refine g_aload0 C dX7_undo_54 (n := 55) rfl ?_
          refine kg_X7_80 C sh_80 rfl dX7_undo_55 (n := 58) rfl ?_
          refine r_I C dX7_undo_58 ?_
          have f : ∀ a, a ≠ 80 → a ≠ 82 → M3 a = M a := fun a a1 a2 => by rw [hF3 a a2, e2, up2_ne _ _ a1]
          refine ⟨(A.1, A.2.1, S, L), Or.inr ⟨L, S, hLS, by rw [hF3 80 (by omega)]; exact hk2, rfl⟩, ⟨?_, fun j hj => by rw [f 81 (by omega) (by omega)]; exact hA.2.1 j hj, ?_, by rw [hF3 80 (by omega)]; exact hk2, fun i T hi => ?_⟩, fun a ha => f a (by omega) (by omega)⟩
          · rw [hF3 80 (by omega), e2]; simp [up2]; exact hA.1
          · refine spR_cong hwS2.1 (fun j hj => ?_) (hA.2.2.2.2 L.length S (by rw [hLS]; simp))
            exact hB j (by omega)
          · have hi9 : i < L.length := (List.getElem?_eq_some_iff.mp hi).1
            rw [f 83 (by omega) (by omega)]
            exact hA.2.2.2.2 i T (by rw [hLS, List.getElem?_append_left hi9]; exact hi)
        · have w25 : v < 126 := (qlt hy (show (126 : Int32) = nI 126 from rfl) (by omega) (by decide)).mp c_25
          refine g_aload0 C dX7_undo_28 (n := 29) rfl ?_
          refine kg_X7_13 C sh_80 rfl dX7_undo_29 (n := 32) rfl ?_
          refine g_iload1 C dX7_undo_32 (n := 33) rfl ?_
          refine g_aload0 C dX7_undo_33 (n := 34) rfl ?_
          refine kg_X7_16 C sh_80 rfl dX7_undo_34 (n := 37) rfl ?_
          refine g_bipush C bp_126 dX7_undo_37 (n := 39) rfl ?_
          refine g_aload0 C dX7_undo_39 (n := 40) rfl ?_
          refine kg_X7_80 C sh_80 rfl dX7_undo_40 (n := 43) rfl ?_
          refine g_imul C dX7_undo_43 (n := 44) rfl ?_
          refine g_iload1 C dX7_undo_44 (n := 45) rfl ?_
          refine g_iadd C dX7_undo_45 (n := 46) rfl ?_
          refine g_iald C (j := 126 * L.length + v) sh_83 (by decide) (e_add (e_mul rfl (by rw [hF3 80 (by omega)]; exact hk2)) hy) (by omega) dX7_undo_46 (n := 47) rfl ?_
          refine g_iast C (j := v) sh_82 (by decide) (hy) (by omega) dX7_undo_47 (n := 48) rfl (fun M_47 e_47 => ?_)
          refine g_iinc1 C (inc_1 _) dX7_undo_48 (n := 51) rfl ?_
          refine g_goto C dX7_undo_51 (t := 22) (by decide) ?_
          exact ih_22 (v + 1) (y + 1) M_47 (by omega) (by rw [hy, nI_1]) (by omega) (fun x hx9 => by
  rw [e_47]
  by_cases hx : x = v
  · rw [hx, up2_at, hF3 83 (by omega), e2, up2_ne _ _ (by omega)]
  · refine (show up2 M3 82 v _ 82 x = M3 82 x by simp [up2, hx]).trans ?_
    exact hB x (by omega)) (fun a ha => by rw [e_47, up2_ne _ _ ha]; exact hF3 a ha)
    exact L_22 127 0 0 M2 (by omega) nI_0.symm (by omega) (fun x h => absurd h (Nat.not_lt_zero _)) (fun _ _ => rfl)
  · have hnil : A.2.2.2 = [] := List.eq_nil_of_length_eq_zero ((nI_eq (by omega) (by decide)).mp (hk.symm.trans (c_4.trans nI_0.symm)))
    refine g_bipush C bp_m2 dX7_undo_7 (n := 9) rfl ?_
    refine r_I C dX7_undo_9 ?_
    exact ⟨A, Or.inl ⟨hnil, rfl, rfl⟩, hA, fun _ _ => rfl⟩
set_option maxHeartbeats 4000000 in
set_option maxRecDepth 100000 in
theorem ct_X7_tells {l : Launch} {D : va_G} {cI cO : ClassId} {z tP : Nat} {aK aV : Nat → Nat} (M : Mem) (A : Abs) (i0 : Nat) (x v : Int32) (hx : x = nI i0) (hi0 : i0 < 126) (hA : absR M A) (hw : wfA A) : Cm l D cI cO z tP aK aV yX7_tells cX7_tells 4 (some .int) 1 21 [.ref (z + 80), .int x, .int v] SH M (pI (fun r M1 => (M 82 i0 = v ∧ r = -2 ∧ M1 = M) ∨ (¬ M 82 i0 = v ∧ r = M 82 i0 ∧ ∃ M2, nP M M2 A ∧ M1 = up2 M2 82 i0 v))) := by
  refine cm_intro (lv0 := [some (.ref (z + 80)), some (.int x), some (.int v), none]) (by decide) rfl (Nat.le_of_ble_eq_true rfl) rfl (fun p e s m below meth c C => ?_)
  refine g_aload0 C dX7_tells_0 (n := 1) rfl ?_
  refine kg_X7_13 C sh_80 rfl dX7_tells_1 (n := 4) rfl ?_
  refine g_iload1 C dX7_tells_4 (n := 5) rfl ?_
  refine g_iald C (j := i0) sh_82 (by decide) (hx) (hi0) dX7_tells_5 (n := 6) rfl ?_
  refine g_istore3 C dX7_tells_6 (n := 7) rfl ?_
  refine g_iload3 C dX7_tells_7 (n := 8) rfl ?_
  refine g_iload2 C dX7_tells_8 (n := 9) rfl ?_
  refine g_icmp_ne C dX7_tells_9 (t := 15) (by decide) (n := 12) rfl (fun c_9 => ?_) (fun c_9 => ?_)
  · have _u := True.intro
    refine g_aload0 C dX7_tells_15 (n := 16) rfl ?_
    refine kc_X7_86 C (ct_X7_note M A hA hw) sh_80 ⟨Nat.le_of_ble_eq_true rfl, Nat.le_of_ble_eq_true rfl⟩ ⟨Nat.zero_le _, Nat.zero_le _⟩ (Nat.le_of_ble_eq_true rfl) dX7_tells_16 (n := 19) rfl (fun M2 h2 => ?_)
    refine g_aload0 C dX7_tells_19 (n := 20) rfl ?_
    refine kg_X7_13 C sh_80 rfl dX7_tells_20 (n := 23) rfl ?_
    refine g_iload1 C dX7_tells_23 (n := 24) rfl ?_
    refine g_iload2 C dX7_tells_24 (n := 25) rfl ?_
    refine g_iast C (j := i0) sh_82 (by decide) (hx) (hi0) dX7_tells_25 (n := 26) rfl (fun M_25 e_25 => ?_)
    refine g_iload3 C dX7_tells_26 (n := 27) rfl ?_
    refine r_I C dX7_tells_27 ?_
    exact Or.inr ⟨c_9, rfl, M2, h2, e_25⟩
  · have _u := True.intro
    refine g_bipush C bp_m2 dX7_tells_12 (n := 14) rfl ?_
    refine r_I C dX7_tells_14 ?_
    exact Or.inl ⟨c_9, rfl, rfl⟩
set_option maxHeartbeats 4000000 in
set_option maxRecDepth 100000 in
theorem ct_X7_nameLetter {l : Launch} {D : va_G} {cI cO : ClassId} {z tP : Nat} {aK aV : Nat → Nat} (sh : Shp) (M : Mem) (t w : Nat) (x y : Int32) (hx : x = nI t) (hy : y = nI w) (ht : t < 4) (hw6 : w < 6) : Cm l D cI cO z tP aK aV yX7_nameLetter cX7_nameLetter 2 (some .int) 0 0 [.int x, .int y] sh M (pI (fun r M1 => r = nlx t w ∧ M1 = M)) := by
  refine cm_intro (lv0 := [some (.int x), some (.int y)]) (by decide) rfl (Nat.le_of_ble_eq_true rfl) rfl (fun p e s m below meth c C => ?_)
  refine g_iload0 C dX7_nameLetter_0 (n := 1) rfl ?_
  by_cases c_1_0 : x = 0
  · refine g_tblIn C dX7_nameLetter_1 (by rw [c_1_0]; decide) (by rw [c_1_0]; decide) (off := 27) (by rw [c_1_0]; rfl) (t := 28) (by decide) ?_
    have ht0 : t = 0 := (qeq hx nI_0.symm (by omega) (by decide)).mp c_1_0
    subst ht0
    refine g_iload1 C dX7_nameLetter_28 (n := 29) rfl ?_
    refine g_if_ne C dX7_nameLetter_29 (t := 37) (by decide) (n := 32) rfl (fun c_29 => ?_) (fun c_29 => ?_)
    · have w29 : ¬ w = 0 := fun h => c_29 ((qeq hy nI_0.symm (by omega) (by decide)).mpr h)
      refine g_iload1 C dX7_nameLetter_37 (n := 38) rfl ?_
      refine g_iconst C ic_1 dX7_nameLetter_38 (n := 39) rfl ?_
      refine g_icmp_ne C dX7_nameLetter_39 (t := 47) (by decide) (n := 42) rfl (fun c_39 => ?_) (fun c_39 => ?_)
      · have w39 : ¬ w = 1 := fun h => c_39 ((qeq hy (show (1 : Int32) = nI 1 from rfl) (by omega) (by decide)).mpr h)
        refine g_iload1 C dX7_nameLetter_47 (n := 48) rfl ?_
        refine g_iconst C ic_2 dX7_nameLetter_48 (n := 49) rfl ?_
        refine g_icmp_ne C dX7_nameLetter_49 (t := 57) (by decide) (n := 52) rfl (fun c_49 => ?_) (fun c_49 => ?_)
        · have w49 : ¬ w = 2 := fun h => c_49 ((qeq hy (show (2 : Int32) = nI 2 from rfl) (by omega) (by decide)).mpr h)
          refine g_iload1 C dX7_nameLetter_57 (n := 58) rfl ?_
          refine g_iconst C ic_3 dX7_nameLetter_58 (n := 59) rfl ?_
          refine g_icmp_ne C dX7_nameLetter_59 (t := 67) (by decide) (n := 62) rfl (fun c_59 => ?_) (fun c_59 => ?_)
          · have w59 : ¬ w = 3 := fun h => c_59 ((qeq hy (show (3 : Int32) = nI 3 from rfl) (by omega) (by decide)).mpr h)
            refine g_iload1 C dX7_nameLetter_67 (n := 68) rfl ?_
            refine g_iconst C ic_4 dX7_nameLetter_68 (n := 69) rfl ?_
            refine g_icmp_ne C dX7_nameLetter_69 (t := 77) (by decide) (n := 72) rfl (fun c_69 => ?_) (fun c_69 => ?_)
            · have w69 : ¬ w = 4 := fun h => c_69 ((qeq hy (show (4 : Int32) = nI 4 from rfl) (by omega) (by decide)).mpr h)
              refine g_iconst C ic_0 dX7_nameLetter_77 (n := 78) rfl ?_
              refine r_I C dX7_nameLetter_78 ?_
              rcases (show w = 0 ∨ w = 1 ∨ w = 2 ∨ w = 3 ∨ w = 4 ∨ w = 5 by omega) with rfl | rfl | rfl | rfl | rfl | rfl <;> first | exact ⟨rfl, rfl⟩ | (exfalso; omega)
            · have w69 : w = 4 := (qeq hy (show (4 : Int32) = nI 4 from rfl) (by omega) (by decide)).mp c_69
              refine g_bipush C bp_104 dX7_nameLetter_72 (n := 74) rfl ?_
              refine g_goto C dX7_nameLetter_74 (t := 78) (by decide) ?_
              refine r_I C dX7_nameLetter_78 ?_
              rcases (show w = 0 ∨ w = 1 ∨ w = 2 ∨ w = 3 ∨ w = 4 ∨ w = 5 by omega) with rfl | rfl | rfl | rfl | rfl | rfl <;> first | exact ⟨rfl, rfl⟩ | (exfalso; omega)
          · have w59 : w = 3 := (qeq hy (show (3 : Int32) = nI 3 from rfl) (by omega) (by decide)).mp c_59
            refine g_bipush C bp_116 dX7_nameLetter_62 (n := 64) rfl ?_
            refine g_goto C dX7_nameLetter_64 (t := 78) (by decide) ?_
            refine r_I C dX7_nameLetter_78 ?_
            rcases (show w = 0 ∨ w = 1 ∨ w = 2 ∨ w = 3 ∨ w = 4 ∨ w = 5 by omega) with rfl | rfl | rfl | rfl | rfl | rfl <;> first | exact ⟨rfl, rfl⟩ | (exfalso; omega)
        · have w49 : w = 2 := (qeq hy (show (2 : Int32) = nI 2 from rfl) (by omega) (by decide)).mp c_49
          refine g_bipush C bp_114 dX7_nameLetter_52 (n := 54) rfl ?_
          refine g_goto C dX7_nameLetter_54 (t := 78) (by decide) ?_
          refine r_I C dX7_nameLetter_78 ?_
          rcases (show w = 0 ∨ w = 1 ∨ w = 2 ∨ w = 3 ∨ w = 4 ∨ w = 5 by omega) with rfl | rfl | rfl | rfl | rfl | rfl <;> first | exact ⟨rfl, rfl⟩ | (exfalso; omega)
      · have w39 : w = 1 := (qeq hy (show (1 : Int32) = nI 1 from rfl) (by omega) (by decide)).mp c_39
        refine g_bipush C bp_111 dX7_nameLetter_42 (n := 44) rfl ?_
        refine g_goto C dX7_nameLetter_44 (t := 78) (by decide) ?_
        refine r_I C dX7_nameLetter_78 ?_
        rcases (show w = 0 ∨ w = 1 ∨ w = 2 ∨ w = 3 ∨ w = 4 ∨ w = 5 by omega) with rfl | rfl | rfl | rfl | rfl | rfl <;> first | exact ⟨rfl, rfl⟩ | (exfalso; omega)
    · have w29 : w = 0 := (qeq hy nI_0.symm (by omega) (by decide)).mp c_29
      refine g_bipush C bp_110 dX7_nameLetter_32 (n := 34) rfl ?_
      refine g_goto C dX7_nameLetter_34 (t := 78) (by decide) ?_
      refine r_I C dX7_nameLetter_78 ?_
      rcases (show w = 0 ∨ w = 1 ∨ w = 2 ∨ w = 3 ∨ w = 4 ∨ w = 5 by omega) with rfl | rfl | rfl | rfl | rfl | rfl <;> first | exact ⟨rfl, rfl⟩ | (exfalso; omega)
  by_cases c_1_1 : x = 1
  · refine g_tblIn C dX7_nameLetter_1 (by rw [c_1_1]; decide) (by rw [c_1_1]; decide) (off := 78) (by rw [c_1_1]; rfl) (t := 79) (by decide) ?_
    have ht1 : t = 1 := (qeq hx (show (1 : Int32) = nI 1 from rfl) (by omega) (by decide)).mp c_1_1
    subst ht1
    refine g_iload1 C dX7_nameLetter_79 (n := 80) rfl ?_
    refine g_if_ne C dX7_nameLetter_80 (t := 88) (by decide) (n := 83) rfl (fun c_80 => ?_) (fun c_80 => ?_)
    · have w80 : ¬ w = 0 := fun h => c_80 ((qeq hy nI_0.symm (by omega) (by decide)).mpr h)
      refine g_iload1 C dX7_nameLetter_88 (n := 89) rfl ?_
      refine g_iconst C ic_1 dX7_nameLetter_89 (n := 90) rfl ?_
      refine g_icmp_ne C dX7_nameLetter_90 (t := 98) (by decide) (n := 93) rfl (fun c_90 => ?_) (fun c_90 => ?_)
      · have w90 : ¬ w = 1 := fun h => c_90 ((qeq hy (show (1 : Int32) = nI 1 from rfl) (by omega) (by decide)).mpr h)
        refine g_iload1 C dX7_nameLetter_98 (n := 99) rfl ?_
        refine g_iconst C ic_2 dX7_nameLetter_99 (n := 100) rfl ?_
        refine g_icmp_ne C dX7_nameLetter_100 (t := 108) (by decide) (n := 103) rfl (fun c_100 => ?_) (fun c_100 => ?_)
        · have w100 : ¬ w = 2 := fun h => c_100 ((qeq hy (show (2 : Int32) = nI 2 from rfl) (by omega) (by decide)).mpr h)
          refine g_iload1 C dX7_nameLetter_108 (n := 109) rfl ?_
          refine g_iconst C ic_3 dX7_nameLetter_109 (n := 110) rfl ?_
          refine g_icmp_ne C dX7_nameLetter_110 (t := 118) (by decide) (n := 113) rfl (fun c_110 => ?_) (fun c_110 => ?_)
          · have w110 : ¬ w = 3 := fun h => c_110 ((qeq hy (show (3 : Int32) = nI 3 from rfl) (by omega) (by decide)).mpr h)
            refine g_iconst C ic_0 dX7_nameLetter_118 (n := 119) rfl ?_
            refine r_I C dX7_nameLetter_119 ?_
            rcases (show w = 0 ∨ w = 1 ∨ w = 2 ∨ w = 3 ∨ w = 4 ∨ w = 5 by omega) with rfl | rfl | rfl | rfl | rfl | rfl <;> first | exact ⟨rfl, rfl⟩ | (exfalso; omega)
          · have w110 : w = 3 := (qeq hy (show (3 : Int32) = nI 3 from rfl) (by omega) (by decide)).mp c_110
            refine g_bipush C bp_116 dX7_nameLetter_113 (n := 115) rfl ?_
            refine g_goto C dX7_nameLetter_115 (t := 119) (by decide) ?_
            refine r_I C dX7_nameLetter_119 ?_
            rcases (show w = 0 ∨ w = 1 ∨ w = 2 ∨ w = 3 ∨ w = 4 ∨ w = 5 by omega) with rfl | rfl | rfl | rfl | rfl | rfl <;> first | exact ⟨rfl, rfl⟩ | (exfalso; omega)
        · have w100 : w = 2 := (qeq hy (show (2 : Int32) = nI 2 from rfl) (by omega) (by decide)).mp c_100
          refine g_bipush C bp_115 dX7_nameLetter_103 (n := 105) rfl ?_
          refine g_goto C dX7_nameLetter_105 (t := 119) (by decide) ?_
          refine r_I C dX7_nameLetter_119 ?_
          rcases (show w = 0 ∨ w = 1 ∨ w = 2 ∨ w = 3 ∨ w = 4 ∨ w = 5 by omega) with rfl | rfl | rfl | rfl | rfl | rfl <;> first | exact ⟨rfl, rfl⟩ | (exfalso; omega)
      · have w90 : w = 1 := (qeq hy (show (1 : Int32) = nI 1 from rfl) (by omega) (by decide)).mp c_90
        refine g_bipush C bp_97 dX7_nameLetter_93 (n := 95) rfl ?_
        refine g_goto C dX7_nameLetter_95 (t := 119) (by decide) ?_
        refine r_I C dX7_nameLetter_119 ?_
        rcases (show w = 0 ∨ w = 1 ∨ w = 2 ∨ w = 3 ∨ w = 4 ∨ w = 5 by omega) with rfl | rfl | rfl | rfl | rfl | rfl <;> first | exact ⟨rfl, rfl⟩ | (exfalso; omega)
    · have w80 : w = 0 := (qeq hy nI_0.symm (by omega) (by decide)).mp c_80
      refine g_bipush C bp_101 dX7_nameLetter_83 (n := 85) rfl ?_
      refine g_goto C dX7_nameLetter_85 (t := 119) (by decide) ?_
      refine r_I C dX7_nameLetter_119 ?_
      rcases (show w = 0 ∨ w = 1 ∨ w = 2 ∨ w = 3 ∨ w = 4 ∨ w = 5 by omega) with rfl | rfl | rfl | rfl | rfl | rfl <;> first | exact ⟨rfl, rfl⟩ | (exfalso; omega)
  by_cases c_1_2 : x = 2
  · refine g_tblIn C dX7_nameLetter_1 (by rw [c_1_2]; decide) (by rw [c_1_2]; decide) (off := 119) (by rw [c_1_2]; rfl) (t := 120) (by decide) ?_
    have ht2 : t = 2 := (qeq hx (show (2 : Int32) = nI 2 from rfl) (by omega) (by decide)).mp c_1_2
    subst ht2
    refine g_iload1 C dX7_nameLetter_120 (n := 121) rfl ?_
    refine g_if_ne C dX7_nameLetter_121 (t := 129) (by decide) (n := 124) rfl (fun c_121 => ?_) (fun c_121 => ?_)
    · have w121 : ¬ w = 0 := fun h => c_121 ((qeq hy nI_0.symm (by omega) (by decide)).mpr h)
      refine g_iload1 C dX7_nameLetter_129 (n := 130) rfl ?_
      refine g_iconst C ic_1 dX7_nameLetter_130 (n := 131) rfl ?_
      refine g_icmp_ne C dX7_nameLetter_131 (t := 139) (by decide) (n := 134) rfl (fun c_131 => ?_) (fun c_131 => ?_)
      · have w131 : ¬ w = 1 := fun h => c_131 ((qeq hy (show (1 : Int32) = nI 1 from rfl) (by omega) (by decide)).mpr h)
        refine g_iload1 C dX7_nameLetter_139 (n := 140) rfl ?_
        refine g_iconst C ic_2 dX7_nameLetter_140 (n := 141) rfl ?_
        refine g_icmp_ne C dX7_nameLetter_141 (t := 149) (by decide) (n := 144) rfl (fun c_141 => ?_) (fun c_141 => ?_)
        · have w141 : ¬ w = 2 := fun h => c_141 ((qeq hy (show (2 : Int32) = nI 2 from rfl) (by omega) (by decide)).mpr h)
          refine g_iload1 C dX7_nameLetter_149 (n := 150) rfl ?_
          refine g_iconst C ic_3 dX7_nameLetter_150 (n := 151) rfl ?_
          refine g_icmp_ne C dX7_nameLetter_151 (t := 159) (by decide) (n := 154) rfl (fun c_151 => ?_) (fun c_151 => ?_)
          · have w151 : ¬ w = 3 := fun h => c_151 ((qeq hy (show (3 : Int32) = nI 3 from rfl) (by omega) (by decide)).mpr h)
            refine g_iload1 C dX7_nameLetter_159 (n := 160) rfl ?_
            refine g_iconst C ic_4 dX7_nameLetter_160 (n := 161) rfl ?_
            refine g_icmp_ne C dX7_nameLetter_161 (t := 169) (by decide) (n := 164) rfl (fun c_161 => ?_) (fun c_161 => ?_)
            · have w161 : ¬ w = 4 := fun h => c_161 ((qeq hy (show (4 : Int32) = nI 4 from rfl) (by omega) (by decide)).mpr h)
              refine g_iconst C ic_0 dX7_nameLetter_169 (n := 170) rfl ?_
              refine r_I C dX7_nameLetter_170 ?_
              rcases (show w = 0 ∨ w = 1 ∨ w = 2 ∨ w = 3 ∨ w = 4 ∨ w = 5 by omega) with rfl | rfl | rfl | rfl | rfl | rfl <;> first | exact ⟨rfl, rfl⟩ | (exfalso; omega)
            · have w161 : w = 4 := (qeq hy (show (4 : Int32) = nI 4 from rfl) (by omega) (by decide)).mp c_161
              refine g_bipush C bp_104 dX7_nameLetter_164 (n := 166) rfl ?_
              refine g_goto C dX7_nameLetter_166 (t := 170) (by decide) ?_
              refine r_I C dX7_nameLetter_170 ?_
              rcases (show w = 0 ∨ w = 1 ∨ w = 2 ∨ w = 3 ∨ w = 4 ∨ w = 5 by omega) with rfl | rfl | rfl | rfl | rfl | rfl <;> first | exact ⟨rfl, rfl⟩ | (exfalso; omega)
          · have w151 : w = 3 := (qeq hy (show (3 : Int32) = nI 3 from rfl) (by omega) (by decide)).mp c_151
            refine g_bipush C bp_116 dX7_nameLetter_154 (n := 156) rfl ?_
            refine g_goto C dX7_nameLetter_156 (t := 170) (by decide) ?_
            refine r_I C dX7_nameLetter_170 ?_
            rcases (show w = 0 ∨ w = 1 ∨ w = 2 ∨ w = 3 ∨ w = 4 ∨ w = 5 by omega) with rfl | rfl | rfl | rfl | rfl | rfl <;> first | exact ⟨rfl, rfl⟩ | (exfalso; omega)
        · have w141 : w = 2 := (qeq hy (show (2 : Int32) = nI 2 from rfl) (by omega) (by decide)).mp c_141
          refine g_bipush C bp_117 dX7_nameLetter_144 (n := 146) rfl ?_
          refine g_goto C dX7_nameLetter_146 (t := 170) (by decide) ?_
          refine r_I C dX7_nameLetter_170 ?_
          rcases (show w = 0 ∨ w = 1 ∨ w = 2 ∨ w = 3 ∨ w = 4 ∨ w = 5 by omega) with rfl | rfl | rfl | rfl | rfl | rfl <;> first | exact ⟨rfl, rfl⟩ | (exfalso; omega)
      · have w131 : w = 1 := (qeq hy (show (1 : Int32) = nI 1 from rfl) (by omega) (by decide)).mp c_131
        refine g_bipush C bp_111 dX7_nameLetter_134 (n := 136) rfl ?_
        refine g_goto C dX7_nameLetter_136 (t := 170) (by decide) ?_
        refine r_I C dX7_nameLetter_170 ?_
        rcases (show w = 0 ∨ w = 1 ∨ w = 2 ∨ w = 3 ∨ w = 4 ∨ w = 5 by omega) with rfl | rfl | rfl | rfl | rfl | rfl <;> first | exact ⟨rfl, rfl⟩ | (exfalso; omega)
    · have w121 : w = 0 := (qeq hy nI_0.symm (by omega) (by decide)).mp c_121
      refine g_bipush C bp_115 dX7_nameLetter_124 (n := 126) rfl ?_
      refine g_goto C dX7_nameLetter_126 (t := 170) (by decide) ?_
      refine r_I C dX7_nameLetter_170 ?_
      rcases (show w = 0 ∨ w = 1 ∨ w = 2 ∨ w = 3 ∨ w = 4 ∨ w = 5 by omega) with rfl | rfl | rfl | rfl | rfl | rfl <;> first | exact ⟨rfl, rfl⟩ | (exfalso; omega)
  refine g_tblOut C dX7_nameLetter_1 (sw_out_0_2 c_1_0 c_1_1 c_1_2) (t := 171) (by decide) ?_
  have e0 : ¬ t = 0 := fun h => c_1_0 ((qeq hx nI_0.symm (by omega) (by decide)).mpr h)
  have e1 : ¬ t = 1 := fun h => c_1_1 ((qeq hx (show (1 : Int32) = nI 1 from rfl) (by omega) (by decide)).mpr h)
  have e2 : ¬ t = 2 := fun h => c_1_2 ((qeq hx (show (2 : Int32) = nI 2 from rfl) (by omega) (by decide)).mpr h)
  have ht3 : t = 3 := by omega
  subst ht3
  refine g_iload1 C dX7_nameLetter_171 (n := 172) rfl ?_
  refine g_if_ne C dX7_nameLetter_172 (t := 180) (by decide) (n := 175) rfl (fun c_172 => ?_) (fun c_172 => ?_)
  · have w172 : ¬ w = 0 := fun h => c_172 ((qeq hy nI_0.symm (by omega) (by decide)).mpr h)
    refine g_iload1 C dX7_nameLetter_180 (n := 181) rfl ?_
    refine g_iconst C ic_1 dX7_nameLetter_181 (n := 182) rfl ?_
    refine g_icmp_ne C dX7_nameLetter_182 (t := 190) (by decide) (n := 185) rfl (fun c_182 => ?_) (fun c_182 => ?_)
    · have w182 : ¬ w = 1 := fun h => c_182 ((qeq hy (show (1 : Int32) = nI 1 from rfl) (by omega) (by decide)).mpr h)
      refine g_iload1 C dX7_nameLetter_190 (n := 191) rfl ?_
      refine g_iconst C ic_2 dX7_nameLetter_191 (n := 192) rfl ?_
      refine g_icmp_ne C dX7_nameLetter_192 (t := 200) (by decide) (n := 195) rfl (fun c_192 => ?_) (fun c_192 => ?_)
      · have w192 : ¬ w = 2 := fun h => c_192 ((qeq hy (show (2 : Int32) = nI 2 from rfl) (by omega) (by decide)).mpr h)
        refine g_iload1 C dX7_nameLetter_200 (n := 201) rfl ?_
        refine g_iconst C ic_3 dX7_nameLetter_201 (n := 202) rfl ?_
        refine g_icmp_ne C dX7_nameLetter_202 (t := 210) (by decide) (n := 205) rfl (fun c_202 => ?_) (fun c_202 => ?_)
        · have w202 : ¬ w = 3 := fun h => c_202 ((qeq hy (show (3 : Int32) = nI 3 from rfl) (by omega) (by decide)).mpr h)
          refine g_iconst C ic_0 dX7_nameLetter_210 (n := 211) rfl ?_
          refine r_I C dX7_nameLetter_211 ?_
          rcases (show w = 0 ∨ w = 1 ∨ w = 2 ∨ w = 3 ∨ w = 4 ∨ w = 5 by omega) with rfl | rfl | rfl | rfl | rfl | rfl <;> first | exact ⟨rfl, rfl⟩ | (exfalso; omega)
        · have w202 : w = 3 := (qeq hy (show (3 : Int32) = nI 3 from rfl) (by omega) (by decide)).mp c_202
          refine g_bipush C bp_116 dX7_nameLetter_205 (n := 207) rfl ?_
          refine g_goto C dX7_nameLetter_207 (t := 211) (by decide) ?_
          refine r_I C dX7_nameLetter_211 ?_
          rcases (show w = 0 ∨ w = 1 ∨ w = 2 ∨ w = 3 ∨ w = 4 ∨ w = 5 by omega) with rfl | rfl | rfl | rfl | rfl | rfl <;> first | exact ⟨rfl, rfl⟩ | (exfalso; omega)
      · have w192 : w = 2 := (qeq hy (show (2 : Int32) = nI 2 from rfl) (by omega) (by decide)).mp c_192
        refine g_bipush C bp_115 dX7_nameLetter_195 (n := 197) rfl ?_
        refine g_goto C dX7_nameLetter_197 (t := 211) (by decide) ?_
        refine r_I C dX7_nameLetter_211 ?_
        rcases (show w = 0 ∨ w = 1 ∨ w = 2 ∨ w = 3 ∨ w = 4 ∨ w = 5 by omega) with rfl | rfl | rfl | rfl | rfl | rfl <;> first | exact ⟨rfl, rfl⟩ | (exfalso; omega)
    · have w182 : w = 1 := (qeq hy (show (1 : Int32) = nI 1 from rfl) (by omega) (by decide)).mp c_182
      refine g_bipush C bp_101 dX7_nameLetter_185 (n := 187) rfl ?_
      refine g_goto C dX7_nameLetter_187 (t := 211) (by decide) ?_
      refine r_I C dX7_nameLetter_211 ?_
      rcases (show w = 0 ∨ w = 1 ∨ w = 2 ∨ w = 3 ∨ w = 4 ∨ w = 5 by omega) with rfl | rfl | rfl | rfl | rfl | rfl <;> first | exact ⟨rfl, rfl⟩ | (exfalso; omega)
  · have w172 : w = 0 := (qeq hy nI_0.symm (by omega) (by decide)).mp c_172
    refine g_bipush C bp_119 dX7_nameLetter_175 (n := 177) rfl ?_
    refine g_goto C dX7_nameLetter_177 (t := 211) (by decide) ?_
    refine r_I C dX7_nameLetter_211 ?_
    rcases (show w = 0 ∨ w = 1 ∨ w = 2 ∨ w = 3 ∨ w = 4 ∨ w = 5 by omega) with rfl | rfl | rfl | rfl | rfl | rfl <;> first | exact ⟨rfl, rfl⟩ | (exfalso; omega)
set_option maxHeartbeats 4000000 in
set_option maxRecDepth 100000 in
theorem ct_X7_isName {l : Launch} {D : va_G} {cI cO : ClassId} {z tP : Nat} {aK aV : Nat → Nat} (M : Mem) (A : Abs) (t : Nat) (x : Int32) (hx : x = nI t) (ht : t < 4) (hA : absR M A) (hw : wfA A) : Cm l D cI cO z tP aK aV yX7_isName cX7_isName 4 (some .boolean) 1 21 [.ref (z + 80), .int x] SH M (pI (fun r M1 => ((r = 1 ∧ nmB A.1 A.2.1 (t + 1)) ∨ (r = 0 ∧ ¬ nmB A.1 A.2.1 (t + 1))) ∧ M1 = M)) := by
  refine cm_intro (lv0 := [some (.ref (z + 80)), some (.int x), none, none]) (by decide) rfl (Nat.le_of_ble_eq_true rfl) rfl (fun p e s m below meth c C => ?_)
  have hwS := hw.2.1
  have hn120 := hwS.1
  have hsp := hA.2.2.1
  have hl6 := hw.2.2.1
  have htl := hw.1
  refine g_iconst C ic_1 dX7_isName_0 (n := 1) rfl ?_
  refine g_istore2 C dX7_isName_1 (n := 2) rfl ?_
  refine g_iconst C ic_0 dX7_isName_2 (n := 3) rfl ?_
  refine g_istore3 C dX7_isName_3 (n := 4) rfl ?_
  have L_4 : ∀ (fu : Nat) (v : Nat) (y q : Int32), 6 - v < fu → (y = nI v) → (v ≤ 6) → ((q = 1 ∧ ∀ j, j < v → txz A j = nlx t j) ∨ (q = 0 ∧ ∃ j, j < v ∧ txz A j ≠ nlx t j)) → G p l e ({ frames := 1, cells := 0, slots := 0, locals := 21 }) s m ([.ref (z + 80), .int x] : List Value).toArray below meth c D cI cO z 4 (QM below D cI cO z ([.ref (z + 80), .int x] : List Value).toArray s SH (pI (fun r M1 => ((r = 1 ∧ nmB A.1 A.2.1 (t + 1)) ∨ (r = 0 ∧ ¬ nmB A.1 A.2.1 (t + 1))) ∧ M1 = M))) 0 0 SH M 4 [some (.ref (z + 80)), some (.int x), some (.int q), some (.int y)] [] := by
    intro fu_4
    induction fu_4 with
    | zero => intro v y q hfu; exact absurd hfu (Nat.not_lt_zero _)
    | succ fu_4 ih_4 =>
      intro v y q hfu_4 hy hv hq
      refine g_iload3 C dX7_isName_4 (n := 5) rfl ?_
      refine g_bipush C bp_6 dX7_isName_5 (n := 7) rfl ?_
      refine g_icmp_ge C dX7_isName_7 (t := 52) (by decide) (n := 10) rfl (fun c_7 => ?_) (fun c_7 => ?_)
      · have w7 : ¬ v < 6 := fun h => c_7 ((qlt hy (show (6 : Int32) = nI 6 from rfl) (by omega) (by decide)).mpr h)
        refine g_iload2 C dX7_isName_52 (n := 53) rfl ?_
        refine g_if_eq C dX7_isName_53 (t := 69) (by decide) (n := 56) rfl (fun c_53 => ?_) (fun c_53 => ?_)
        · have hno : ¬ nmB A.1 A.2.1 (t + 1) := by
            rcases hq with h | ⟨_, j, h1, h2⟩
            · exact absurd (h.1.symm.trans c_53) (by decide)
            · exact fun h => h2 (((nm_iff hw ht).mp h).1 j (by omega))
          refine g_iconst C ic_0 dX7_isName_69 (n := 70) rfl ?_
          refine r_Z C dX7_isName_70 rfl ?_
          first | exact ⟨Or.inl ⟨rfl, hyes⟩, rfl⟩ | exact ⟨Or.inr ⟨rfl, hno⟩, rfl⟩
        · have hall : ∀ j, j < 6 → txz A j = nlx t j := by
            rcases hq with h | h
            · exact fun j hj => h.2 j (by omega)
            · exact absurd h.1 c_53
          refine g_aload0 C dX7_isName_56 (n := 57) rfl ?_
          refine kg_X7_69 C sh_80 rfl dX7_isName_57 (n := 60) rfl ?_
          refine g_bipush C bp_6 dX7_isName_60 (n := 62) rfl ?_
          refine g_icmp_ge C dX7_isName_62 (t := 69) (by decide) (n := 65) rfl (fun c_62 => ?_) (fun c_62 => ?_)
          · have w62 : ¬ A.1 < 6 := fun h => c_62 ((qlt hA.1 (show (6 : Int32) = nI 6 from rfl) (by omega) (by decide)).mpr h)
            have hno : ¬ nmB A.1 A.2.1 (t + 1) := fun h => w62 ((nm_iff hw ht).mp h).2
            refine g_iconst C ic_0 dX7_isName_69 (n := 70) rfl ?_
            refine r_Z C dX7_isName_70 rfl ?_
            first | exact ⟨Or.inl ⟨rfl, hyes⟩, rfl⟩ | exact ⟨Or.inr ⟨rfl, hno⟩, rfl⟩
          · have w62 : A.1 < 6 := (qlt hA.1 (show (6 : Int32) = nI 6 from rfl) (by omega) (by decide)).mp c_62
            have hyes : nmB A.1 A.2.1 (t + 1) := (nm_iff hw ht).mpr ⟨hall, w62⟩
            refine g_iconst C ic_1 dX7_isName_65 (n := 66) rfl ?_
            refine g_goto C dX7_isName_66 (t := 70) (by decide) ?_
            refine r_Z C dX7_isName_70 rfl ?_
            first | exact ⟨Or.inl ⟨rfl, hyes⟩, rfl⟩ | exact ⟨Or.inr ⟨rfl, hno⟩, rfl⟩
      · have w7 : v < 6 := (qlt hy (show (6 : Int32) = nI 6 from rfl) (by omega) (by decide)).mp c_7
        refine g_iload2 C dX7_isName_10 (n := 11) rfl ?_
        refine g_if_eq C dX7_isName_11 (t := 44) (by decide) (n := 14) rfl (fun c_11 => ?_) (fun c_11 => ?_)
        · have hn : ∃ j, j < v + 1 ∧ txz A j ≠ nlx t j := by
            rcases hq with h | ⟨_, j, h1, h2⟩
            · exact absurd (h.1.symm.trans c_11) (by decide)
            · exact ⟨j, by omega, h2⟩
          refine g_iconst C ic_0 dX7_isName_44 (n := 45) rfl ?_
          refine g_istore2 C dX7_isName_45 (n := 46) rfl ?_
          refine g_iinc3 C (inc_1 _) dX7_isName_46 (n := 49) rfl ?_
          refine g_goto C dX7_isName_49 (t := 4) (by decide) ?_
          first | (have h9 := hn; exact ih_4 (v + 1) (y + 1) 0 (by omega) (by rw [hy, nI_1]) (by omega) (Or.inr ⟨rfl, h9⟩)) | (have h9 := hyes; exact ih_4 (v + 1) (y + 1) 1 (by omega) (by rw [hy, nI_1]) (by omega) (Or.inl ⟨rfl, h9⟩))
        · have hall : ∀ j, j < v → txz A j = nlx t j := by
            rcases hq with h | h
            · exact h.2
            · exact absurd h.1 c_11
          refine g_iload3 C dX7_isName_14 (n := 15) rfl ?_
          refine g_aload0 C dX7_isName_15 (n := 16) rfl ?_
          refine kg_X7_69 C sh_80 rfl dX7_isName_16 (n := 19) rfl ?_
          refine g_icmp_ge C dX7_isName_19 (t := 31) (by decide) (n := 22) rfl (fun c_19 => ?_) (fun c_19 => ?_)
          · have w19 : ¬ v < A.1 := fun h => c_19 ((qlt hy hA.1 (by omega) (by omega)).mpr h)
            have htx : (0 : Int32) = txz A v := by unfold txz; rw [if_neg w19]
            refine g_iconst C ic_0 dX7_isName_31 (n := 32) rfl ?_
            refine g_iload1 C dX7_isName_32 (n := 33) rfl ?_
            refine g_iload3 C dX7_isName_33 (n := 34) rfl ?_
            refine kc_X7_83 C (ct_X7_nameLetter SH M t v _ _ hx hy ht (by omega)) ⟨Nat.le_of_ble_eq_true rfl, Nat.le_of_ble_eq_true rfl⟩ ⟨Nat.zero_le _, Nat.zero_le _⟩ (Nat.le_of_ble_eq_true rfl) dX7_isName_34 (n := 37) rfl (fun r_34 M_34 h_34 => ?_)
            rw [h_34.1, h_34.2]
            refine g_icmp_ne C dX7_isName_37 (t := 44) (by decide) (n := 40) rfl (fun c_37 => ?_) (fun c_37 => ?_)
            · have hn : ∃ j, j < v + 1 ∧ txz A j ≠ nlx t j := ⟨v, by omega, fun h => c_37 (htx.trans h)⟩
              refine g_iconst C ic_0 dX7_isName_44 (n := 45) rfl ?_
              refine g_istore2 C dX7_isName_45 (n := 46) rfl ?_
              refine g_iinc3 C (inc_1 _) dX7_isName_46 (n := 49) rfl ?_
              refine g_goto C dX7_isName_49 (t := 4) (by decide) ?_
              first | (have h9 := hn; exact ih_4 (v + 1) (y + 1) 0 (by omega) (by rw [hy, nI_1]) (by omega) (Or.inr ⟨rfl, h9⟩)) | (have h9 := hyes; exact ih_4 (v + 1) (y + 1) 1 (by omega) (by rw [hy, nI_1]) (by omega) (Or.inl ⟨rfl, h9⟩))
            · have hyes : ∀ j, j < v + 1 → txz A j = nlx t j := fun j hj => by
                by_cases h : j = v
                · rw [h]; exact htx.symm.trans c_37
                · exact hall j (by omega)
              refine g_iconst C ic_1 dX7_isName_40 (n := 41) rfl ?_
              refine g_goto C dX7_isName_41 (t := 45) (by decide) ?_
              refine g_istore2 C dX7_isName_45 (n := 46) rfl ?_
              refine g_iinc3 C (inc_1 _) dX7_isName_46 (n := 49) rfl ?_
              refine g_goto C dX7_isName_49 (t := 4) (by decide) ?_
              first | (have h9 := hn; exact ih_4 (v + 1) (y + 1) 0 (by omega) (by rw [hy, nI_1]) (by omega) (Or.inr ⟨rfl, h9⟩)) | (have h9 := hyes; exact ih_4 (v + 1) (y + 1) 1 (by omega) (by rw [hy, nI_1]) (by omega) (Or.inl ⟨rfl, h9⟩))
          · have w19 : v < A.1 := (qlt hy hA.1 (by omega) (by omega)).mp c_19
            refine g_aload0 C dX7_isName_22 (n := 23) rfl ?_
            refine kg_X7_7 C sh_80 rfl dX7_isName_23 (n := 26) rfl ?_
            refine g_iload3 C dX7_isName_26 (n := 27) rfl ?_
            refine g_iald C (j := v) sh_81 (by decide) (hy) (by omega) dX7_isName_27 (n := 28) rfl ?_
            have htx : M 81 v = txz A v := by unfold txz; rw [if_pos w19]; exact hA.2.1 v w19
            refine g_goto C dX7_isName_28 (t := 32) (by decide) ?_
            refine g_iload1 C dX7_isName_32 (n := 33) rfl ?_
            refine g_iload3 C dX7_isName_33 (n := 34) rfl ?_
            refine kc_X7_83 C (ct_X7_nameLetter SH M t v _ _ hx hy ht (by omega)) ⟨Nat.le_of_ble_eq_true rfl, Nat.le_of_ble_eq_true rfl⟩ ⟨Nat.zero_le _, Nat.zero_le _⟩ (Nat.le_of_ble_eq_true rfl) dX7_isName_34 (n := 37) rfl (fun r_34 M_34 h_34 => ?_)
            rw [h_34.1, h_34.2]
            refine g_icmp_ne C dX7_isName_37 (t := 44) (by decide) (n := 40) rfl (fun c_37 => ?_) (fun c_37 => ?_)
            · have hn : ∃ j, j < v + 1 ∧ txz A j ≠ nlx t j := ⟨v, by omega, fun h => c_37 (htx.trans h)⟩
              refine g_iconst C ic_0 dX7_isName_44 (n := 45) rfl ?_
              refine g_istore2 C dX7_isName_45 (n := 46) rfl ?_
              refine g_iinc3 C (inc_1 _) dX7_isName_46 (n := 49) rfl ?_
              refine g_goto C dX7_isName_49 (t := 4) (by decide) ?_
              first | (have h9 := hn; exact ih_4 (v + 1) (y + 1) 0 (by omega) (by rw [hy, nI_1]) (by omega) (Or.inr ⟨rfl, h9⟩)) | (have h9 := hyes; exact ih_4 (v + 1) (y + 1) 1 (by omega) (by rw [hy, nI_1]) (by omega) (Or.inl ⟨rfl, h9⟩))
            · have hyes : ∀ j, j < v + 1 → txz A j = nlx t j := fun j hj => by
                by_cases h : j = v
                · rw [h]; exact htx.symm.trans c_37
                · exact hall j (by omega)
              refine g_iconst C ic_1 dX7_isName_40 (n := 41) rfl ?_
              refine g_goto C dX7_isName_41 (t := 45) (by decide) ?_
              refine g_istore2 C dX7_isName_45 (n := 46) rfl ?_
              refine g_iinc3 C (inc_1 _) dX7_isName_46 (n := 49) rfl ?_
              refine g_goto C dX7_isName_49 (t := 4) (by decide) ?_
              first | (have h9 := hn; exact ih_4 (v + 1) (y + 1) 0 (by omega) (by rw [hy, nI_1]) (by omega) (Or.inr ⟨rfl, h9⟩)) | (have h9 := hyes; exact ih_4 (v + 1) (y + 1) 1 (by omega) (by rw [hy, nI_1]) (by omega) (Or.inl ⟨rfl, h9⟩))
  exact L_4 7 0 0 1 (by omega) nI_0.symm (by omega) (Or.inl ⟨rfl, fun j h => absurd h (Nat.not_lt_zero _)⟩)
