/-! the document's state stays well; what a relation tells is told once -/
theorem sg_mk {c : Int32} (h : isMk c = true) : isSg c = true := by simp [isSg, h]
theorem psh_wf {L : List Spt} {S : Spt} (hl : L.length ≤ 6) (h : ∀ T ∈ L, wfS T) (hS : wfS S) : (psh L S).length ≤ 6 ∧ ∀ T ∈ psh L S, wfS T := by
  refine ⟨by rw [psh_len hl]; omega, fun T hT => ?_⟩
  unfold psh at hT
  split at hT
  · rcases List.mem_append.mp hT with h1 | h1
    · exact h T (List.mem_of_mem_tail h1)
    · rw [List.mem_singleton.mp h1]; exact hS
  · rcases List.mem_append.mp hT with h1 | h1
    · exact h T h1
    · rw [List.mem_singleton.mp h1]; exact hS
theorem chg_wf {A : Abs} {S : Spt} (hA : wfA A) (hS : wfS S) : wfA (chg A S) := by
  obtain ⟨h1, h2, h3, h4, h5⟩ := hA
  have := psh_wf (S := A.2.2.1) h3 h4 h2
  exact ⟨h1, hS, this.1, this.2, h5⟩
theorem tn_lt {x c : Int32} {n : Nat} (hc : c = nI n) (hn : n < 2 ^ 31) (h0 : ¬ x < 0) (h1 : x < c) : tn x < n := by
  obtain ⟨j, hj, e⟩ := ix_of h0 (by rw [← hc]; exact h1) hn
  rw [e, tn_nI (by omega)]
  exact hj
theorem wf_write {A : Abs} (x : Int32) (hA : wfA A) : wfA (opWrite A x).2 := by
  unfold opWrite
  split
  · exact hA
  · next hx =>
    split
    · exact hA
    · next h2 =>
      obtain ⟨h1, h3, h4, h5, h6⟩ := hA
      refine ⟨?_, h3, h4, h5, fun j hj => ?_⟩
      · show A.1 + 1 ≤ 200
        omega
      · show (if j = A.1 then x else A.2.1 j) ≠ 0
        by_cases hj2 : j = A.1
        · rw [if_pos hj2]
          intro e
          exact hx (Or.inl (by rw [e]; decide))
        · rw [if_neg hj2]
          have hj3 : j < A.1 + 1 := hj
          exact h6 j (by omega)
theorem wf_wipe {A : Abs} (hA : wfA A) : wfA (opWipe A).2 := ⟨Nat.zero_le _, hA.2.1, hA.2.2.1, hA.2.2.2.1, fun j hj => absurd hj (Nat.not_lt_zero _)⟩
theorem wf_lay {A B : Abs} {r : Int32} (hA : wfA A) (h : layS A r B) : wfA B := by
  rcases h with ⟨h1, -, e⟩ | ⟨-, -, e⟩
  · rw [e]
    obtain ⟨a1, a2, a3, a4, a5⟩ := hA
    refine ⟨a1, ⟨?_, fun j hj => (h1 j hj).2, a2.2.2.1, a2.2.2.2.1, a2.2.2.2.2⟩, Nat.zero_le _, fun S hS => absurd hS List.not_mem_nil, a5⟩
    show A.1 ≤ 120
    by_cases h : A.1 ≤ 120
    · exact h
    · exact absurd (h1 120 (by omega)).1 (by omega)
  · rw [e]; exact hA
theorem wf_speak {A B : Abs} {r : Int32} (hA : wfA A) (h : spkS A r B) : wfA B := by
  rcases h with ⟨-, -, e⟩ | ⟨t, ht, -, ⟨-, -, e⟩ | ⟨-, -, e⟩⟩
  · rw [e]; exact hA
  · rw [e]; exact hA
  · rw [e]; exact chg_wf hA ⟨hA.2.1.1, hA.2.1.2.1, ht, hA.2.1.2.2.2.1, hA.2.1.2.2.2.2⟩
theorem wf_rule {A : Abs} (x : Int32) (hA : wfA A) : wfA (opRule A x).2 := by
  unfold opRule
  split
  · exact hA
  · next hx =>
    have hx1 : ¬ x < 0 := fun h => hx (Or.inl h)
    have hx2 : x < 3 := Classical.byContradiction fun h => hx (Or.inr h)
    split
    · exact hA
    · exact chg_wf hA ⟨hA.2.1.1, hA.2.1.2.1, hA.2.1.2.2.1, tn_lt (n := 3) (by decide) (by decide) hx1 hx2, hA.2.1.2.2.2.2⟩
theorem wf_weigh {A : Abs} (x y : Int32) (hA : wfA A) : wfA (opWeigh A x y).2 := by
  unfold opWeigh
  split
  · exact hA
  · next hx =>
    have hy1 : ¬ y < 1 := fun h => hx (Or.inr (Or.inr (Or.inl h)))
    have hy2 : ¬ nI 9 < y := fun h => hx (Or.inr (Or.inr (Or.inr h)))
    split
    · exact hA
    · refine chg_wf hA ⟨hA.2.1.1, hA.2.1.2.1, hA.2.1.2.2.1, hA.2.1.2.2.2.1, fun j hj => ?_⟩
      have hy0 : ¬ y < 0 := fun h => hy1 (Int32.lt_trans h (by decide))
      obtain ⟨i, hi, e⟩ := ix_le (n := 9) hy0 hy2 (by decide)
      have hi0 : i ≠ 0 := by
        intro h
        rw [e, h] at hy1
        exact hy1 (by decide)
      show 1 ≤ (if j = tn x then tn y else spw A.2.2.1 j) ∧ (if j = tn x then tn y else spw A.2.2.1 j) ≤ 9
      by_cases hj2 : j = tn x
      · rw [if_pos hj2, e, tn_nI (by omega)]
        omega
      · rw [if_neg hj2]; exact hA.2.1.2.2.2.2 j hj
theorem wf_put {A : Abs} (x c : Int32) (hA : wfA A) : wfA (opPut A x c).2 := by
  unfold opPut
  split
  · exact hA
  · next hx =>
    have hx1 : ¬ x < 0 := fun h => hx (Or.inl h)
    have hx2 : ¬ nI (spn A.2.2.1) < x := fun h => hx (Or.inr (Or.inl h))
    have hc : isSg c = true := by
      cases h : isSg c with
      | true => rfl
      | false => exact absurd (Or.inr (Or.inr h)) hx
    split
    · exact hA
    · next hn =>
      have h120 := hA.2.1.1
      obtain ⟨i, hi, e⟩ := ix_le hx1 hx2 (by omega)
      have ei : tn x = i := by rw [e, tn_nI (by omega)]
      rw [ei]
      refine chg_wf hA ⟨?_, fun j hj => ?_, hA.2.1.2.2.1, hA.2.1.2.2.2.1, hA.2.1.2.2.2.2⟩
      · show spn A.2.2.1 + 1 ≤ 120
        omega
      · have hj2 : j < spn A.2.2.1 + 1 := hj
        show isSg (if j < i then spg A.2.2.1 j else if j = i then c else spg A.2.2.1 (j - 1)) = true
        by_cases h1 : j < i
        · rw [if_pos h1]; exact hA.2.1.2.1 j (by omega)
        · rw [if_neg h1]
          by_cases h2 : j = i
          · rw [if_pos h2]; exact hc
          · rw [if_neg h2]; exact hA.2.1.2.1 (j - 1) (by omega)
theorem wf_take {A : Abs} (x : Int32) (hA : wfA A) : wfA (opTake A x).2 := by
  unfold opTake
  split
  · exact hA
  · have h120 := hA.2.1.1
    refine chg_wf hA ⟨?_, fun j hj => ?_, hA.2.1.2.2.1, hA.2.1.2.2.2.1, hA.2.1.2.2.2.2⟩
    · show spn A.2.2.1 - 1 ≤ 120
      omega
    · have hj2 : j < spn A.2.2.1 - 1 := hj
      show isSg (if j < tn x then spg A.2.2.1 j else spg A.2.2.1 (j + 1)) = true
      by_cases h1 : j < tn x
      · rw [if_pos h1]; exact hA.2.1.2.1 j (by omega)
      · rw [if_neg h1]; exact hA.2.1.2.1 (j + 1) (by omega)
theorem wf_alter {A : Abs} (x c : Int32) (hA : wfA A) : wfA (opAlter A x c).2 := by
  unfold opAlter
  split
  · exact hA
  · next hx =>
    have hc : isSg c = true := by
      cases h : isSg c with
      | true => rfl
      | false => exact absurd (Or.inr (Or.inr h)) hx
    split
    · exact hA
    · refine chg_wf hA ⟨hA.2.1.1, fun j hj => ?_, hA.2.1.2.2.1, hA.2.1.2.2.2.1, hA.2.1.2.2.2.2⟩
      show isSg (if j = tn x then c else spg A.2.2.1 j) = true
      by_cases h1 : j = tn x
      · rw [if_pos h1]; exact hc
      · rw [if_neg h1]; exact hA.2.1.2.1 j hj
theorem wf_undo {A B : Abs} {r : Int32} (hA : wfA A) (h : undS A r B) : wfA B := by
  rcases h with ⟨-, -, e⟩ | ⟨L, S, hL, -, e⟩
  · rw [e]; exact hA
  · rw [e]
    obtain ⟨h1, h2, h3, h4, h5⟩ := hA
    rw [hL] at h3 h4
    refine ⟨h1, h4 S (List.mem_append_right _ (List.mem_singleton.mpr rfl)), ?_, fun T hT => h4 T (List.mem_append_left _ hT), h5⟩
    rw [List.length_append] at h3
    show L.length ≤ 6
    omega
theorem wf_retell {A : Abs} (x : Int32) (hA : wfA A) : wfA (opRetell A x).2 := by
  unfold opRetell
  split
  · exact hA
  · next hx =>
    have hx1 : ¬ x < 0 := fun h => hx (Or.inl h)
    have hx2 : x < 4 := Classical.byContradiction fun h => hx (Or.inr h)
    have ht : tn x < 4 := tn_lt (n := 4) (by decide) (by decide) hx1 hx2
    split
    · exact hA
    · refine chg_wf hA ⟨hA.2.1.1, fun j hj => ?_, ht, hA.2.1.2.2.2.1, hA.2.1.2.2.2.2⟩
      show isSg (if kd A.2.2.1 j = 3 ∨ kd A.2.2.1 j = 5 then opn (tn x) (levS A.2.2.1 j) else if kd A.2.2.1 j = 4 then cls (tn x) (levS A.2.2.1 j) else spg A.2.2.1 j) = true
      split
      · exact sg_mk (opn_mk _ ht _)
      · split
        · exact sg_mk (cls_mk _ ht _)
        · exact hA.2.1.2.1 j hj
theorem wf_mend {A : Abs} (hA : wfA A) : wfA (opMend A).2 := by
  unfold opMend
  split
  · exact hA
  · split
    · exact hA
    · next h2 =>
      refine chg_wf hA ⟨?_, fun j hj => ?_, hA.2.1.2.2.1, hA.2.1.2.2.2.1, hA.2.1.2.2.2.2⟩
      · show (mdS A.2.2.1).length ≤ 120
        omega
      · have hj2 : j < (mdS A.2.2.1).length := hj
        show isSg ((mdS A.2.2.1).getD j 0) = true
        rw [List.getD_eq_getElem?_getD, List.getElem?_eq_getElem hj2]
        exact (mdS_ok hA.2.1).2 _ (List.getElem_mem hj2)
/-! told once -/
theorem flt_one {A : Abs} {r r' : Int32} (h : fltS A r) (h' : fltS A r') : r = r' := by
  rcases h with ⟨j, h1, h2, h3, h4⟩ | ⟨h1, h2⟩
  · rcases h' with ⟨j', g1, g2, g3, g4⟩ | ⟨g1, g2⟩
    · have : j = j' := by
        rcases Nat.lt_trichotomy j j' with q | q | q
        · exact absurd (g4 j q) h3
        · exact q
        · exact absurd (h4 j' q) g3
      rw [h2, g2, this]
    · exact absurd (g2 j h1) h3
  · rcases h' with ⟨j', g1, g2, g3, g4⟩ | ⟨g1, g2⟩
    · exact absurd (h2 j' g1) g3
    · rw [h1, g1]
theorem lay_one {A B B' : Abs} {r r' : Int32} (h : layS A r B) (h' : layS A r' B') : r = r' ∧ B = B' := by
  rcases h with ⟨h1, h2, h3⟩ | ⟨⟨i, h0, h1⟩, h2, h3⟩
  · rcases h' with ⟨g1, g2, g3⟩ | ⟨⟨i, g0, g1⟩, g2, g3⟩
    · exact ⟨h2.trans g2.symm, h3.trans g3.symm⟩
    · exact absurd (h1 i g0) g1
  · rcases h' with ⟨g1, g2, g3⟩ | ⟨-, g2, g3⟩
    · exact absurd (g1 i h0) h1
    · exact ⟨h2.trans g2.symm, h3.trans g3.symm⟩
theorem nm_one {tl : Nat} {tx : Nat → Int32} {t t' : Nat} (ht : t < 4) (ht' : t' < 4) (h : nmB tl tx (t + 1)) (h' : nmB tl tx (t' + 1)) : t = t' := by
  have hl : 0 < sN (t + 1) := (show ∀ t, t < 4 → 0 < sN (t + 1) from by decide) t ht
  have e1 := h.2 0 (by rw [h.1]; exact hl)
  have e2 := h'.2 0 (by rw [h.1]; exact hl)
  exact (show ∀ t, t < 4 → ∀ t', t' < 4 → sB (t + 1) 0 = sB (t' + 1) 0 → t = t' from by decide) t ht t' ht' (e1.symm.trans e2)
theorem spk_one {A B B' : Abs} {r r' : Int32} (h : spkS A r B) (h' : spkS A r' B') : r = r' ∧ B = B' := by
  rcases h with ⟨h1, h2, h3⟩ | ⟨t, ht, hn, h⟩
  · rcases h' with ⟨g1, g2, g3⟩ | ⟨t', ht', hn', g⟩
    · exact ⟨h2.trans g2.symm, h3.trans g3.symm⟩
    · exact absurd hn' (h1 t' ht')
  · rcases h' with ⟨g1, g2, g3⟩ | ⟨t', ht', hn', g⟩
    · exact absurd hn (g1 t ht)
    · have e := nm_one ht ht' hn hn'
      subst e
      rcases h with ⟨h1, h2, h3⟩ | ⟨h1, h2, h3⟩
      · rcases g with ⟨g1, g2, g3⟩ | ⟨g1, g2, g3⟩
        · exact ⟨h2.trans g2.symm, h3.trans g3.symm⟩
        · exact absurd h1 g1
      · rcases g with ⟨g1, g2, g3⟩ | ⟨g1, g2, g3⟩
        · exact absurd g1 h1
        · exact ⟨h2.trans g2.symm, h3.trans g3.symm⟩
theorem und_one {A B B' : Abs} {r r' : Int32} (h : undS A r B) (h' : undS A r' B') : r = r' ∧ B = B' := by
  rcases h with ⟨h1, h2, h3⟩ | ⟨L, S, h1, h2, h3⟩
  · rcases h' with ⟨g1, g2, g3⟩ | ⟨L', S', g1, g2, g3⟩
    · exact ⟨h2.trans g2.symm, h3.trans g3.symm⟩
    · rw [h1] at g1
      exact absurd g1.symm (by simp)
  · rcases h' with ⟨g1, g2, g3⟩ | ⟨L', S', g1, g2, g3⟩
    · rw [g1] at h1
      exact absurd h1.symm (by simp)
    · have e := List.append_inj' (h1.symm.trans g1) rfl
      have e1 := e.1
      have e2 : S = S' := by simpa using e.2
      subst e1; subst e2
      exact ⟨h2.trans g2.symm, h3.trans g3.symm⟩
theorem neg_nI {q : Nat} (h : q < 2 ^ 31) : ¬ (-1 : Int32) = nI q := fun e => nI_pos h (by rw [← e]; decide)
theorem qt_one {A : Abs} {x y r r' : Int32} (h : qtS A x y r) (h' : qtS A x y r') : r = r' := by
  rcases h with ⟨h1, h2⟩ | ⟨h1, h⟩
  · rcases h' with ⟨g1, g2⟩ | ⟨g1, g⟩
    · rw [h2, g2]
    · exact absurd h1 g1
  · rcases h' with ⟨g1, g2⟩ | ⟨g1, g⟩
    · exact absurd g1 h1
    · rcases h with ⟨h2, h3⟩ | ⟨q, hq, hb, h⟩
      · rcases g with ⟨g2, g3⟩ | ⟨q', hq', hb', g⟩
        · rw [h3, g3]
        · exact absurd (h2.symm.trans hq') (neg_nI hb')
      · rcases g with ⟨g2, g3⟩ | ⟨q', hq', hb', g⟩
        · exact absurd (g2.symm.trans hq) (neg_nI hb)
        · have e : q = q' := (nI_eq hb hb').mp (hq.symm.trans hq')
          subst e
          rcases h with ⟨h2, h3⟩ | ⟨o, ho, h3⟩
          · rcases g with ⟨g2, g3⟩ | ⟨o', ho', g3⟩
            · rw [h3, g3]
            · have := ctn_lt (q := kdIs A.2.2.1 3) ho'.1 (by simp [kdIs, ho'.2.1])
              rw [ho'.2.2] at this
              omega
          · rcases g with ⟨g2, g3⟩ | ⟨o', ho', g3⟩
            · have := ctn_lt (q := kdIs A.2.2.1 3) ho.1 (by simp [kdIs, ho.2.1])
              rw [ho.2.2] at this
              omega
            · have e := ctn_one (q := kdIs A.2.2.1 3) (by simp [kdIs, ho.2.1]) (by simp [kdIs, ho'.2.1]) (ho.2.2.trans ho'.2.2.symm)
              rw [h3, g3, e]
theorem pf_one {S : Spt} {i p w : Nat} {r r' : Int32} (h : pfS S i p w r) (h' : pfS S i p w r') : r = r' := by
  unfold pfS at h h'
  by_cases h0 : w = 0
  · rw [if_pos h0] at h h'
    rcases h with ⟨h1, h2⟩ | ⟨b, h1, h2, h3, h4⟩
    · rcases h' with ⟨g1, g2⟩ | ⟨b', g1, g2, g3, g4⟩
      · rw [h2, g2]
      · omega
    · rcases h' with ⟨g1, g2⟩ | ⟨b', g1, g2, g3, g4⟩
      · omega
      · have e := ctn_one (q := kdIs S 2) (a := b) (b := b') (by simp [kdIs, h2]) (by simp [kdIs, g2]) (by omega)
        rw [h4, g4, e]
  · rw [if_neg h0] at h h'
    by_cases h1 : w = 1
    · rw [if_pos h1] at h h'
      rw [h, h']
    · rw [if_neg h1] at h h'
      rw [h, h']
theorem pa_one {A : Abs} {x y r r' : Int32} (h : paS A x y r) (h' : paS A x y r') : r = r' := by
  rcases h with ⟨h1, h2⟩ | ⟨h1, h⟩
  · rcases h' with ⟨g1, g2⟩ | ⟨g1, g⟩
    · rw [h2, g2]
    · exact absurd h1 g1
  · rcases h' with ⟨g1, g2⟩ | ⟨g1, g⟩
    · exact absurd g1 h1
    · rcases h with ⟨h2, h3⟩ | ⟨q, hq, hb, h⟩
      · rcases g with ⟨g2, g3⟩ | ⟨q', hq', hb', g⟩
        · rw [h3, g3]
        · exact absurd (h2.symm.trans hq') (neg_nI hb')
      · rcases g with ⟨g2, g3⟩ | ⟨q', hq', hb', g⟩
        · exact absurd (g2.symm.trans hq) (neg_nI hb)
        · have e : q = q' := (nI_eq hb hb').mp (hq.symm.trans hq')
          subst e
          rcases h with ⟨h2, h3⟩ | ⟨h2, h3⟩
          · rcases g with ⟨g2, g3⟩ | ⟨g2, g3⟩
            · rw [h3, g3]
            · omega
          · rcases g with ⟨g2, g3⟩ | ⟨g2, g3⟩
            · omega
            · exact pf_one h3 g3
