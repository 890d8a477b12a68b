/-! the reference follows the least way -/
section MM
variable {S : Spt} {i d u : Nat} {L : List Int32} {ch : Nat → Nat}
theorem FAR_ne (hs : wfS S) (hi : i ≤ spn S) (hd : d ≤ 6) (hu : u ≤ dmy (spr S) d) : ¬ FAR = cS S i d u := fun h => by
  have := cS_lt hs hi hd hu
  have hF : FAR = 1000000 := rfl
  omega
theorem mm_S (hs : wfS S) (hi : i < spn S) (hA : stV S i d u ≠ cS S i d u) : tkS S ((i, d, u), L, ch) = none := by
  cases hq : nxt (spt S) (spr S) d u (spg S i) with
  | none => exact tkS_n2 hq
  | some q =>
    rw [tkS_y hi hq, if_neg]
    intro h
    apply hA
    unfold stV; rw [hq]; exact h
theorem mm_A (hs : wfS S) (hi : i < spn S) (hd : d ≤ 6) (hu : u ≤ dmy (spr S) d) (e : stV S i d u = cS S i d u) : ∃ q, nxt (spt S) (spr S) d u (spg S i) = some q ∧ mvS S ((i, d, u), L, ch) = ((i + 1, q.1, q.2), L ++ [spg S i], ch) := by
  cases hq : nxt (spt S) (spr S) d u (spg S i) with
  | none =>
    unfold stV at e; rw [hq] at e
    exact absurd e (FAR_ne hs (by omega) hd hu)
  | some q =>
    unfold stV at e; rw [hq] at e
    exact ⟨q, rfl, mv_1 (by rw [tkS_y hi hq]; exact if_pos e)⟩
theorem mm_at (hs : wfS S) (hi : i < spn S) (hm : isMk (spg S i) = true) : atM S ((i, d, u), L, ch) = true := by unfold atM; simp; exact ⟨hi, hm⟩
theorem mm_0 (hs : wfS S) (hi : i < spn S) (hd : d ≤ 6) (hu : u ≤ dmy (spr S) d) (hA : stV S i d u ≠ cS S i d u) (e : b0V S i d u = cS S i d u) : u ≠ 0 ∧ mvS S ((i, d, u), L, ch) = ((i + 1, d, u - 1), L ++ [duS S d u], fun j => ch j + (if j = 2 then 1 else 0)) := by
  unfold b0V at e
  split at e
  · next hm =>
    refine ⟨hm.2, mv_2 (mm_S hs hi hA) (mm_at hs hi hm.1) ?_⟩
    show (tkO S ((i, d, u), L, ch) 2 (i + 1) 0).or _ = _
    rw [tkO_y (off_u hm.2), if_pos e]; rfl
  · exact absurd e (FAR_ne hs (by omega) hd hu)
theorem mm_p (hs : wfS S) (hi : i < spn S) (hd : d ≤ 6) (hu : u ≤ dmy (spr S) d) (hA : stV S i d u ≠ cS S i d u) (e : bpV S i d u = cS S i d u) : u = 0 ∧ d < 6 ∧ mvS S ((i, d, u), L, ch) = ((i + 1, d + 1, 0), L ++ [opn (spt S) d], fun j => ch j + (if j = 2 then 1 else 0)) := by
  unfold bpV at e
  split at e
  · next hm =>
    obtain ⟨h1, h2, h3⟩ := hm
    subst h2
    refine ⟨rfl, h3, mv_2 (mm_S hs hi hA) (mm_at hs hi h1) ?_⟩
    show (tkO S ((i, d, 0), L, ch) 2 (i + 1) 0).or _ = _
    rw [tkO_y (off_0o h3), if_pos e]; rfl
  · exact absurd e (FAR_ne hs (by omega) hd hu)
theorem mm_O0 (hs : wfS S) (hm : isMk (spg S i) = true) (hB : b0V S i d u ≠ cS S i d u) (hP : bpV S i d u ≠ cS S i d u) : tkO S ((i, d, u), L, ch) 2 (i + 1) 0 = none := by
  by_cases h0 : u = 0
  · subst h0
    by_cases h6 : d < 6
    · rw [tkO_y (off_0o h6), if_neg]
      intro h; apply hP; unfold bpV; rw [if_pos ⟨hm, rfl, h6⟩]; exact h
    · exact tkO_n (off_0n h6)
  · rw [tkO_y (off_u h0), if_neg]
    intro h; apply hB; unfold b0V; rw [if_pos ⟨hm, h0⟩]; exact h
theorem mm_O1 (hs : wfS S) (hm : isMk (spg S i) = true) (hM : bmV S i d u ≠ cS S i d u) : tkO S ((i, d, u), L, ch) 2 (i + 1) 1 = none := by
  by_cases h0 : u = 0
  · subst h0
    by_cases h1 : 1 ≤ d
    · rw [tkO_y (off_1c h1), if_neg]
      intro h; apply hM; unfold bmV; rw [if_pos ⟨hm, rfl, h1⟩]; exact h
    · exact tkO_n (off_1n h1)
  · exact tkO_n (off_u1 h0)
theorem mm_m (hs : wfS S) (hi : i < spn S) (hd : d ≤ 6) (hu : u ≤ dmy (spr S) d) (hA : stV S i d u ≠ cS S i d u) (hB : b0V S i d u ≠ cS S i d u) (hP : bpV S i d u ≠ cS S i d u) (e : bmV S i d u = cS S i d u) : u = 0 ∧ 1 ≤ d ∧ mvS S ((i, d, u), L, ch) = ((i + 1, d - 1, 0), L ++ [cls (spt S) d], fun j => ch j + (if j = 2 then 1 else 0)) := by
  unfold bmV at e
  split at e
  · next hm =>
    obtain ⟨h1, h2, h3⟩ := hm
    subst h2
    refine ⟨rfl, h3, mv_2 (mm_S hs hi hA) (mm_at hs hi h1) ?_⟩
    show (tkO S ((i, d, 0), L, ch) 2 (i + 1) 0).or ((tkO S ((i, d, 0), L, ch) 2 (i + 1) 1).or _) = _
    rw [mm_O0 hs h1 hB hP, tkO_y (off_1c h3), if_pos e]; rfl
  · exact absurd e (FAR_ne hs (by omega) hd hu)
theorem mm_t (hs : wfS S) (hi : i < spn S) (hd : d ≤ 6) (hu : u ≤ dmy (spr S) d) (hA : stV S i d u ≠ cS S i d u) (hB : b0V S i d u ≠ cS S i d u) (hP : bpV S i d u ≠ cS S i d u) (hM : bmV S i d u ≠ cS S i d u) (e : tkV S i d u = cS S i d u) : mvS S ((i, d, u), L, ch) = ((i + 1, d, u), L, fun j => ch j + (if j = 1 then 1 else 0)) := by
  unfold tkV at e
  split at e
  · next hm =>
    refine mv_2 (mm_S hs hi hA) (mm_at hs hi hm) ?_
    show (tkO S ((i, d, u), L, ch) 2 (i + 1) 0).or ((tkO S ((i, d, u), L, ch) 2 (i + 1) 1).or (tkL S ((i, d, u), L, ch))) = _
    rw [mm_O0 hs hm hB hP, mm_O1 hs hm hM]
    unfold tkL
    exact if_pos e
  · exact absurd e (FAR_ne hs (by omega) hd hu)
/-- nothing but putting in is least -/
def noW (S : Spt) (i d u : Nat) : Prop := i < spn S → stV S i d u ≠ cS S i d u ∧ b0V S i d u ≠ cS S i d u ∧ bpV S i d u ≠ cS S i d u ∧ bmV S i d u ≠ cS S i d u ∧ tkV S i d u ≠ cS S i d u
theorem mm_3 (hs : wfS S) (hn : noW S i d u) : mvS S ((i, d, u), L, ch) = ((tkO S ((i, d, u), L, ch) 0 i 0).or (tkO S ((i, d, u), L, ch) 0 i 1)).getD ((i, d, u), L, ch) := by
  by_cases hi : i < spn S
  · obtain ⟨hA, hB, hP, hM, hT⟩ := hn hi
    refine mv_3 (mm_S hs hi hA) ?_
    by_cases hm : isMk (spg S i) = true
    · right
      show (tkO S ((i, d, u), L, ch) 2 (i + 1) 0).or ((tkO S ((i, d, u), L, ch) 2 (i + 1) 1).or (tkL S ((i, d, u), L, ch))) = none
      rw [mm_O0 hs hm hB hP, mm_O1 hs hm hM]
      unfold tkL
      show (if spw S 1 + cS S (i + 1) d u = cS S i d u then _ else _) = _
      rw [if_neg]
      intro h; apply hT; unfold tkV; rw [if_pos hm]; exact h
    · left
      unfold atM
      show (decide (i < spn S) && isMk (spg S i)) = false
      cases h : isMk (spg S i) with
      | true => exact absurd h hm
      | false => simp
  · refine mv_3 (tkS_n1 hi) (Or.inl ?_)
    unfold atM
    show (decide (i < spn S) && isMk (spg S i)) = false
    simp; intro h; exact absurd h hi
theorem mm_ne (hs : wfS S) (hi : i ≤ spn S) (hd : d ≤ 6) (hu : u ≤ dmy (spr S) d) (hn : noW S i d u) (ha : arr S ((i, d, u), L, ch) = false) : cS S i d u ≠ rwS S i d u := fun h => by
  by_cases hin : i < spn S
  · obtain ⟨hA, hB, hP, hM, hT⟩ := hn hin
    cases u with
    | zero => rw [rw_0 hs hin hd] at h; omega
    | succ u => rw [rw_s hs hin hd hu] at h; omega
  · have hn0 : ¬ (d = 0 ∧ u = 0) := fun q => by
      have : arr S ((i, d, u), L, ch) = true := by unfold arr; simp; exact ⟨by omega, q⟩
      rw [this] at ha; cases ha
    have : rwS S i d u = FAR := by unfold rwS; rw [if_neg hin]; unfold raw0; rw [if_neg hn0]
    exact FAR_ne hs hi hd hu (this.symm.trans h.symm)
theorem mm_u (hs : wfS S) (hi : i ≤ spn S) (hd : d ≤ 6) (hu : u ≤ dmy (spr S) d) (hn : noW S i d u) (ha : arr S ((i, d, u), L, ch) = false) (h0 : u ≠ 0) : mvS S ((i, d, u), L, ch) = ((i, d, u - 1), L ++ [duS S d u], fun j => ch j + (if j = 0 then 1 else 0)) := by
  rw [mm_3 hs hn]
  rcases tk_put (L := L) (ch := ch) hs hi hd hu (mm_ne hs hi hd hu hn ha) with h | h
  · rw [tkO_y (off_u h0)] at h ⊢
    by_cases hc : spw S 0 + cS S i (duS S d u, d, u - 1).2.1 (duS S d u, d, u - 1).2.2 = cS S i d u
    · rw [if_pos hc]; rfl
    · rw [if_neg hc] at h; exact absurd rfl h
  · exact absurd (tkO_n (off_u1 h0)) h
theorem mm_o (hs : wfS S) (hn : noW S i d 0) (h6 : d < 6) (e : spw S 0 + cS S i (d + 1) 0 = cS S i d 0) : mvS S ((i, d, 0), L, ch) = ((i, d + 1, 0), L ++ [opn (spt S) d], fun j => ch j + (if j = 0 then 1 else 0)) := by
  rw [mm_3 hs hn, tkO_y (off_0o h6), if_pos e]; rfl
theorem mm_c (hs : wfS S) (hi : i ≤ spn S) (hd : d ≤ 6) (hn : noW S i d 0) (ha : arr S ((i, d, 0), L, ch) = false) (h : ¬ (d < 6 ∧ spw S 0 + cS S i (d + 1) 0 = cS S i d 0)) : 1 ≤ d ∧ mvS S ((i, d, 0), L, ch) = ((i, d - 1, 0), L ++ [cls (spt S) d], fun j => ch j + (if j = 0 then 1 else 0)) := by
  have hno : tkO S ((i, d, 0), L, ch) 0 i 0 = none := by
    by_cases h6 : d < 6
    · rw [tkO_y (off_0o h6)]; exact if_neg (fun q => h ⟨h6, q⟩)
    · exact tkO_n (off_0n h6)
  rcases tk_put (L := L) (ch := ch) hs hi hd (Nat.zero_le _) (mm_ne hs hi hd (Nat.zero_le _) hn ha) with q | q
  · exact absurd hno q
  · by_cases h1 : 1 ≤ d
    · refine ⟨h1, ?_⟩
      rw [mm_3 hs hn, hno]
      rw [tkO_y (off_1c h1)] at q ⊢
      by_cases hc : spw S 0 + cS S i (cls (spt S) d, d - 1, 0).2.1 (cls (spt S) d, d - 1, 0).2.2 = cS S i d 0
      · rw [if_pos hc]; rfl
      · rw [if_neg hc] at q; exact absurd rfl q
    · exact absurd (tkO_n (off_1n h1)) q
end MM
theorem nx_mk {S : Spt} {i d : Nat} {q : Nat × Nat} (ht : spt S < 4) (hm : isMk (spg S i) = true) (h : nxt (spt S) (spr S) d 0 (spg S i) = some q) : (1 ≤ d ∧ spg S i = cls (spt S) d ∧ q = (d - 1, 0)) ∨ (¬ (1 ≤ d ∧ spg S i = cls (spt S) d) ∧ q = (d + 1, 0)) := by
  rw [mk_nxt hm] at h
  split at h
  · next h1 =>
    refine Or.inr ⟨fun h2 => opn_ne_cls _ ht d (h1.2.symm.trans h2.2), ?_⟩
    cases h; rfl
  · split at h
    · next h2 => cases h; exact Or.inl ⟨h2.1, h2.2, rfl⟩
    · cases h
theorem nx_no {S : Spt} {i d : Nat} {q : Nat × Nat} (hs : isSg (spg S i) = true) (hm : ¬ isMk (spg S i) = true) (h : nxt (spt S) (spr S) d 0 (spg S i) = some q) : q = (d, if spg S i = 124 then dmy (spr S) d else 0) := by
  rcases nomk hs hm with h1 | ⟨h1, h2⟩
  · rw [show nxt (spt S) (spr S) d 0 (spg S i) = some (d, 0) by unfold nxt; rw [if_pos rfl, if_pos h1]] at h
    rw [if_neg]
    · cases h; rfl
    · intro e
      rcases h1 with h1 | h1
      · rw [e] at h1; revert h1; decide
      · rw [e] at h1; revert h1; decide
  · rw [show nxt (spt S) (spr S) d 0 (spg S i) = some (d, dmy (spr S) d) by unfold nxt; rw [if_pos rfl, if_neg h1, if_pos h2]] at h
    rw [if_pos h2]; cases h; rfl
theorem nx_du {S : Spt} {i d u : Nat} {q : Nat × Nat} (h0 : u ≠ 0) (h : nxt (spt S) (spr S) d u (spg S i) = some q) : q = (d, u - 1) := by
  rw [nx_u h0] at h
  split at h
  · cases h; rfl
  · cases h
def WM (M : Mem) (x : Way) : Prop := M 80 14 = nI x.2.1.length ∧ (∀ j q, x.2.1[j]? = some q → M 91 j = q) ∧ ∀ j, j < 3 → M 92 j = nI (x.2.2 j)
theorem app_m {L : List Int32} {c : Int32} {M M1 : Mem} (h : ∀ (j : Nat) q, L[j]? = some q → M 91 j = q) (e : M1 91 = upd (M 91) L.length c) : ∀ (j : Nat) q, (L ++ [c])[j]? = some q → M1 91 j = q := fun j q hq => by
  rw [e]
  by_cases hj : j < L.length
  · rw [pk_un (by omega)]
    rw [List.getElem?_append_left hj] at hq
    exact h j q hq
  · rw [List.getElem?_append_right (by omega)] at hq
    have h0 : j - L.length = 0 := by
      by_cases h1 : j - L.length = 0
      · exact h1
      · rw [List.getElem?_eq_none (by simp; omega)] at hq; cases hq
    rw [h0] at hq
    have hc : c = q := by simpa using hq
    rw [show j = L.length by omega, pk_us]; exact hc
abbrev frM (M M1 : Mem) : Prop := (∀ a, a ≠ 80 → a ≠ 91 → a ≠ 92 → M1 a = M a) ∧ ∀ j, j ≠ 14 → M1 80 j = M 80 j
abbrev pts (M M1 : Mem) (n0 : Nat) (c0 : Int32) (h : Nat) : Prop := M1 91 = upd (M 91) n0 c0 ∧ M1 80 14 = nI (n0 + 1) ∧ (∀ j, j < 3 → M1 92 j = M 92 j + (if j = h then 1 else 0)) ∧ frM M M1
theorem WM_p {M M1 : Mem} {i d u i1 d1 u1 h : Nat} {L : List Int32} {c0 : Int32} {ch : Nat → Nat} (hW : WM M ((i, d, u), L, ch)) (hp : pts M M1 L.length c0 h) : WM M1 ((i1, d1, u1), L ++ [c0], fun j => ch j + (if j = h then 1 else 0)) := by
  refine ⟨by rw [hp.2.1]; show _ = nI (L ++ [c0]).length; rw [List.length_append]; rfl, app_m hW.2.1 hp.1, fun j hj => ?_⟩
  rw [hp.2.2.1 j hj, hW.2.2 j hj]
  show nI (ch j) + _ = nI (ch j + _)
  by_cases hjh : j = h
  · rw [if_pos hjh, if_pos hjh]; exact nI_1 _
  · rw [if_neg hjh, if_neg hjh]; exact Int32.add_zero _
theorem WM_p3 {M M1 : Mem} {i d u i1 d1 u1 : Nat} {L : List Int32} {c0 : Int32} {ch : Nat → Nat} (hW : WM M ((i, d, u), L, ch)) (hp : pts M M1 L.length c0 3) : WM M1 ((i1, d1, u1), L ++ [c0], ch) := by
  refine ⟨by rw [hp.2.1]; show _ = nI (L ++ [c0]).length; rw [List.length_append]; rfl, app_m hW.2.1 hp.1, fun j hj => ?_⟩
  rw [hp.2.2.1 j hj, hW.2.2 j hj, if_neg (by omega)]
  exact Int32.add_zero _
theorem frM_t {M M1 M2 : Mem} (h : frM M M1) (g : frM M1 M2) : frM M M2 := ⟨fun a a1 a2 a3 => by rw [g.1 a a1 a2 a3]; exact h.1 a a1 a2 a3, fun j j1 => by rw [g.2 j j1]; exact h.2 j j1⟩

set_option maxHeartbeats 4000000 in
set_option maxRecDepth 100000 in
theorem ct_X7_puts {l : Launch} {D : va_G} {cI cO : ClassId} {z tP : Nat} {aK aV : Nat → Nat} (M : Mem) (n0 h : Nat) (c0 y : Int32) (h14 : M 80 14 = nI n0) (hn0 : n0 < 1300) (hy : y = nI h) (hh : h ≤ 3) : Cm l D cI cO z tP aK aV yX7_puts cX7_puts 3 none 0 0 [.ref (z + 80), .int c0, .int y] SH M (pV (fun M1 => pts M M1 n0 c0 h)) := by
  refine cm_intro (lv0 := [some (.ref (z + 80)), some (.int c0), some (.int y)]) (by decide) rfl (Nat.le_of_ble_eq_true rfl) rfl (fun p e s m below meth c C => ?_)
  refine g_aload0 C dX7_puts_0 (n := 1) rfl ?_
  refine kg_X7_40 C sh_80 rfl dX7_puts_1 (n := 4) rfl ?_
  refine g_aload0 C dX7_puts_4 (n := 5) rfl ?_
  refine kg_X7_149 C sh_80 rfl dX7_puts_5 (n := 8) rfl ?_
  refine g_iload1 C dX7_puts_8 (n := 9) rfl ?_
  refine g_iast C (j := n0) sh_91 (by decide) (h14) (by omega) dX7_puts_9 (n := 10) rfl (fun M2 e2 => ?_)
  refine g_aload0 C dX7_puts_10 (n := 11) rfl ?_
  refine g_dup C rfl dX7_puts_11 (n := 12) rfl ?_
  refine kg_X7_149 C sh_80 rfl dX7_puts_12 (n := 15) rfl ?_
  refine g_iconst C ic_1 dX7_puts_15 (n := 16) rfl ?_
  refine g_iadd C dX7_puts_16 (n := 17) rfl ?_
  refine kp_X7_149 C sh_80 rfl dX7_puts_17 (n := 20) rfl (fun M3 e3 => ?_)
  have f3 : ∀ a, a ≠ 80 → a ≠ 91 → M3 a = M a := fun a a1 a2 => by rw [e3, up2_ne _ _ a1, e2, up2_ne _ _ a2]
  have g3 : M3 91 = upd (M 91) n0 c0 := by rw [e3, up2_ne _ _ (by omega), e2]; exact up2_row _ _ _ _
  have s3 : M3 80 14 = nI (n0 + 1) := by rw [e3, up2_at, e2, up2_ne _ _ (by omega), h14, nI_1]
  have t3 : ∀ j, j ≠ 14 → M3 80 j = M 80 j := fun j hj => by rw [e3]; simp [up2, hj]; rw [e2, up2_ne _ _ (by omega)]
  refine g_iload2 C dX7_puts_20 (n := 21) rfl ?_
  refine g_iconst C ic_3 dX7_puts_21 (n := 22) rfl ?_
  refine g_icmp_ge C dX7_puts_22 (t := 35) (by decide) (n := 25) rfl (fun c_22 => ?_) (fun c_22 => ?_)
  · have w22 : ¬ h < 3 := fun h => c_22 ((qlt hy (show (3 : Int32) = nI 3 from rfl) (by omega) (by decide)).mpr h)
    refine r_V C dX7_puts_35 ?_
    first
      | (have h9 := e4
         refine ⟨by rw [h9, up2_ne _ _ (by omega)]; exact g3, by rw [h9, up2_ne _ _ (by omega)]; exact s3, fun j hj => ?_, fun a a1 a2 a3 => by rw [h9, up2_ne _ _ a3]; exact f3 a a1 a2, fun j hj => by rw [h9, up2_ne _ _ (by omega)]; exact t3 j hj⟩
         rw [h9]
         by_cases hjh : j = h
         · rw [hjh, up2_at, if_pos rfl, f3 92 (by omega) (by omega)]
         · rw [if_neg hjh, Int32.add_zero]
           refine (show up2 M3 92 h _ 92 j = M3 92 j by simp [up2, hjh]).trans ?_
           rw [f3 92 (by omega) (by omega)])
      | exact ⟨g3, s3, fun j hj => by rw [if_neg (by omega), Int32.add_zero, f3 92 (by omega) (by omega)], fun a a1 a2 _ => f3 a a1 a2, t3⟩
  · have w22 : h < 3 := (qlt hy (show (3 : Int32) = nI 3 from rfl) (by omega) (by decide)).mp c_22
    refine g_aload0 C dX7_puts_25 (n := 26) rfl ?_
    refine kg_X7_43 C sh_80 rfl dX7_puts_26 (n := 29) rfl ?_
    refine g_iload2 C dX7_puts_29 (n := 30) rfl ?_
    refine g_dup2 C rfl rfl dX7_puts_30 (n := 31) rfl ?_
    refine g_iald C (j := h) sh_92 (by decide) (hy) (by omega) dX7_puts_31 (n := 32) rfl ?_
    refine g_iconst C ic_1 dX7_puts_32 (n := 33) rfl ?_
    refine g_iadd C dX7_puts_33 (n := 34) rfl ?_
    refine g_iast C (j := h) sh_92 (by decide) (hy) (by omega) dX7_puts_34 (n := 35) rfl (fun M4 e4 => ?_)
    refine r_V C dX7_puts_35 ?_
    first
      | (have h9 := e4
         refine ⟨by rw [h9, up2_ne _ _ (by omega)]; exact g3, by rw [h9, up2_ne _ _ (by omega)]; exact s3, fun j hj => ?_, fun a a1 a2 a3 => by rw [h9, up2_ne _ _ a3]; exact f3 a a1 a2, fun j hj => by rw [h9, up2_ne _ _ (by omega)]; exact t3 j hj⟩
         rw [h9]
         by_cases hjh : j = h
         · rw [hjh, up2_at, if_pos rfl, f3 92 (by omega) (by omega)]
         · rw [if_neg hjh, Int32.add_zero]
           refine (show up2 M3 92 h _ 92 j = M3 92 j by simp [up2, hjh]).trans ?_
           rw [f3 92 (by omega) (by omega)])
      | exact ⟨g3, s3, fun j hj => by rw [if_neg (by omega), Int32.add_zero, f3 92 (by omega) (by omega)], fun a a1 a2 _ => f3 a a1 a2, t3⟩
