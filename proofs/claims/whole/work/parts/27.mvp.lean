/-! the way by the least -/
def VW (S : Spt) (x : Way) : Prop := x.1.1 ≤ spn S ∧ x.1.2.1 ≤ 6 ∧ x.1.2.2 ≤ dmy (spr S) x.1.2.1
def mu (S : Spt) (x : Way) : Nat := (spn S - x.1.1) + cS S x.1.1 x.1.2.1 x.1.2.2
def PW (S : Spt) (x y : Way) : Prop := VW S y ∧ mu S y < mu S x ∧ y.2.1.length ≤ x.2.1.length + 1 ∧ ((∀ c ∈ x.2.1, isSg c = true) → ∀ c ∈ y.2.1, isSg c = true)
theorem mk_sg {c : Int32} (h : isMk c = true) : isSg c = true := by unfold isSg; simp [h]
theorem sg_app {L : List Int32} {q : Int32} (hq : isSg q = true) (h : ∀ c ∈ L, isSg c = true) : ∀ c ∈ L ++ [q], isSg c = true := fun c hc => by
  rcases List.mem_append.mp hc with h1 | h1
  · exact h c h1
  · rw [List.mem_singleton.mp h1]; exact hq
theorem off_ok {S : Spt} (ht : spt S < 4) {d u ch : Nat} {q : Int32 × Nat × Nat} (hd : d ≤ 6) (hu : u ≤ dmy (spr S) d) (h : off S d u ch = some q) : isMk q.1 = true ∧ q.2.1 ≤ 6 ∧ q.2.2 ≤ dmy (spr S) q.2.1 := by
  unfold off at h
  split at h
  · split at h
    · split at h
      · cases h; exact ⟨opn_mk _ ht _, by show d + 1 ≤ 6; omega, Nat.zero_le _⟩
      · cases h
    · split at h
      · cases h; exact ⟨cls_mk _ ht _, by show d - 1 ≤ 6; omega, Nat.zero_le _⟩
      · cases h
  · split at h
    · cases h; exact ⟨opn_mk _ ht _, hd, by show u - 1 ≤ dmy (spr S) d; omega⟩
    · cases h
theorem off_u {S : Spt} {d u : Nat} (h : u ≠ 0) : off S d u 0 = some (duS S d u, d, u - 1) := by unfold off; rw [if_neg h, if_pos rfl]
theorem off_u1 {S : Spt} {d u : Nat} (h : u ≠ 0) : off S d u 1 = none := by unfold off; rw [if_neg h, if_neg (by decide)]
theorem off_0o {S : Spt} {d : Nat} (h : d < 6) : off S d 0 0 = some (opn (spt S) d, d + 1, 0) := by unfold off; rw [if_pos rfl, if_pos rfl, if_pos h]
theorem off_0n {S : Spt} {d : Nat} (h : ¬ d < 6) : off S d 0 0 = none := by unfold off; rw [if_pos rfl, if_pos rfl, if_neg h]
theorem off_1c {S : Spt} {d : Nat} (h : 1 ≤ d) : off S d 0 1 = some (cls (spt S) d, d - 1, 0) := by unfold off; rw [if_pos rfl, if_neg (by decide), if_pos h]
theorem off_1n {S : Spt} {d : Nat} (h : ¬ 1 ≤ d) : off S d 0 1 = none := by unfold off; rw [if_pos rfl, if_neg (by decide), if_neg h]
theorem tkO_y {S : Spt} {i d u w i1 b : Nat} {L : List Int32} {ch : Nat → Nat} {q : Int32 × Nat × Nat} (h : off S d u b = some q) : tkO S ((i, d, u), L, ch) w i1 b = if spw S w + cS S i1 q.2.1 q.2.2 = cS S i d u then some ((i1, q.2.1, q.2.2), L ++ [q.1], fun j => ch j + (if j = w then 1 else 0)) else none := by
  unfold tkO
  show (match off S d u b with | none => none | some q => _) = _
  rw [h]
theorem tkO_n {S : Spt} {i d u w i1 b : Nat} {L : List Int32} {ch : Nat → Nat} (h : off S d u b = none) : tkO S ((i, d, u), L, ch) w i1 b = none := by
  unfold tkO
  show (match off S d u b with | none => none | some q => _) = _
  rw [h]
theorem tkO_ne {S : Spt} {i d u w i1 b : Nat} {L : List Int32} {ch : Nat → Nat} {q : Int32 × Nat × Nat} (h : off S d u b = some q) (e : spw S w + cS S i1 q.2.1 q.2.2 = cS S i d u) : tkO S ((i, d, u), L, ch) w i1 b ≠ none := by
  rw [tkO_y h, if_pos e]; intro q; cases q
theorem tkS_P {S : Spt} (hs : wfS S) {x y : Way} (hx : VW S x) (h : tkS S x = some y) : PW S x y := by
  unfold tkS at h
  split at h
  · next hi =>
    split at h
    · cases h
    · next q hq =>
      split at h
      · next hc =>
        cases h
        have hk := nxt_ok hx.2.1 hx.2.2 hq
        refine ⟨⟨hi, hk.1, hk.2⟩, ?_, by simp, sg_app (hs.2.1 _ hi)⟩
        unfold mu
        show spn S - (x.1.1 + 1) + cS S (x.1.1 + 1) q.1 q.2 < _
        rw [hc]; omega
      · cases h
  · cases h
theorem tkO_P {S : Spt} (hs : wfS S) {x y : Way} {w i ch : Nat} (hx : VW S x) (hw : w < 3) (hi : i = x.1.1 ∨ (i = x.1.1 + 1 ∧ x.1.1 < spn S)) (h : tkO S x w i ch = some y) : PW S x y := by
  have hw1 := (hs.2.2.2.2 w hw).1
  unfold tkO at h
  split at h
  · cases h
  · next q hq =>
    split at h
    · next hc =>
      cases h
      have hk := off_ok hs.2.2.1 hx.2.1 hx.2.2 hq
      refine ⟨⟨?_, hk.2.1, hk.2.2⟩, ?_, by simp, sg_app (mk_sg hk.1)⟩
      · show i ≤ spn S
        have := hx.1
        omega
      · unfold mu
        show spn S - i + cS S i q.2.1 q.2.2 < _
        rw [← hc]; omega
    · cases h
theorem tkL_P {S : Spt} (hs : wfS S) {x y : Way} (hx : VW S x) (hi : x.1.1 < spn S) (h : tkL S x = some y) : PW S x y := by
  have hw1 := (hs.2.2.2.2 1 (by decide)).1
  unfold tkL at h
  split at h
  · next hc =>
    cases h
    refine ⟨⟨hi, hx.2.1, hx.2.2⟩, ?_, by show x.2.1.length ≤ _; omega, fun h => h⟩
    unfold mu
    show spn S - (x.1.1 + 1) + cS S (x.1.1 + 1) x.1.2.1 x.1.2.2 < _
    rw [← hc]; omega
  · cases h
theorem atM_i {S : Spt} {x : Way} (h : atM S x = true) : x.1.1 < spn S ∧ isMk (spg S x.1.1) = true := by
  unfold atM at h; simp at h; exact h
/-- what isn't put in: one of the ways is least -/
theorem tk_ex {S : Spt} (hs : wfS S) {i d u : Nat} {L : List Int32} {ch : Nat → Nat} (hi : i < spn S) (hd : d ≤ 6) (hu : u ≤ dmy (spr S) d) (h : cS S i d u = rwS S i d u) : tkS S ((i, d, u), L, ch) ≠ none ∨ (isMk (spg S i) = true ∧ (tkO S ((i, d, u), L, ch) 2 (i + 1) 0 ≠ none ∨ tkO S ((i, d, u), L, ch) 2 (i + 1) 1 ≠ none ∨ tkL S ((i, d, u), L, ch) ≠ none)) := by
  have hlt := cS_lt hs (Nat.le_of_lt hi) hd hu
  have hF : FAR = 1000000 := rfl
  have kst : stV S i d u = cS S i d u → tkS S ((i, d, u), L, ch) ≠ none := fun e => by
    unfold tkS
    rw [if_pos hi]
    unfold stV at e
    show (match nxt (spt S) (spr S) d u (spg S i) with | none => none | some q => _) ≠ none
    cases hn : nxt (spt S) (spr S) d u (spg S i) with
    | none =>
      rw [hn] at e
      have e' : FAR = cS S i d u := e
      omega
    | some q =>
      rw [hn] at e
      have e' : cS S (i + 1) q.1 q.2 = cS S i d u := e
      show (if cS S (i + 1) q.1 q.2 = cS S i d u then _ else _) ≠ _
      rw [if_pos e']; intro q; cases q
  have ktk : tkV S i d u = cS S i d u → isMk (spg S i) = true ∧ tkL S ((i, d, u), L, ch) ≠ none := fun e => by
    unfold tkV at e
    split at e
    · next hm =>
      refine ⟨hm, ?_⟩
      unfold tkL
      show (if spw S 1 + cS S (i + 1) d u = cS S i d u then _ else _) ≠ _
      rw [if_pos e]; intro q; cases q
    · omega
  cases u with
  | zero =>
    rw [rw_0 hs hi hd] at h
    have hcase : stV S i d 0 = cS S i d 0 ∨ tkV S i d 0 = cS S i d 0 ∨ bpV S i d 0 = cS S i d 0 ∨ bmV S i d 0 = cS S i d 0 := by omega
    rcases hcase with e | e | e | e
    · exact Or.inl (kst e)
    · exact Or.inr ⟨(ktk e).1, Or.inr (Or.inr (ktk e).2)⟩
    · unfold bpV at e
      split at e
      · next hm =>
        refine Or.inr ⟨hm.1, Or.inl ?_⟩
        exact tkO_ne (off_0o hm.2.2) e
      · omega
    · unfold bmV at e
      split at e
      · next hm =>
        refine Or.inr ⟨hm.1, Or.inr (Or.inl ?_)⟩
        exact tkO_ne (off_1c hm.2.2) e
      · omega
  | succ u =>
    rw [rw_s hs hi hd hu] at h
    have hcase : stV S i d (u + 1) = cS S i d (u + 1) ∨ tkV S i d (u + 1) = cS S i d (u + 1) ∨ b0V S i d (u + 1) = cS S i d (u + 1) := by omega
    rcases hcase with e | e | e
    · exact Or.inl (kst e)
    · exact Or.inr ⟨(ktk e).1, Or.inr (Or.inr (ktk e).2)⟩
    · unfold b0V at e
      split at e
      · next hm =>
        refine Or.inr ⟨hm.1, Or.inl ?_⟩
        exact tkO_ne (off_u (by omega)) e
      · omega
/-- where nothing else is least, putting in is -/
theorem tk_put {S : Spt} (hs : wfS S) {i d u : Nat} {L : List Int32} {ch : Nat → Nat} (hi : i ≤ spn S) (hd : d ≤ 6) (hu : u ≤ dmy (spr S) d) (h : cS S i d u ≠ rwS S i d u) : tkO S ((i, d, u), L, ch) 0 i 0 ≠ none ∨ tkO S ((i, d, u), L, ch) 0 i 1 ≠ none := by
  have hw := (hs.2.2.2.2 0 (by decide)).1
  have ec := cS_fin hi
  cases u with
  | zero =>
    rcases fin_t (w := spw S) (raw := rwS S i) hd hw with e | ⟨h6, e⟩ | ⟨h1, e⟩
    · rw [ec] at h; exact absurd e h
    · left
      rw [← ec] at e
      exact tkO_ne (off_0o h6) e
    · right
      rw [← ec] at e
      exact tkO_ne (off_1c h1) e
  | succ u =>
    left
    have e := fin_s (spw S) (rwS S i) d u
    rw [← ec] at e
    have e2 : spw S 0 + cS S i d u = cS S i d (u + 1) := by omega
    exact tkO_ne (off_u (by omega)) e2
theorem mv_P {S : Spt} (hs : wfS S) {x : Way} (hx : VW S x) (ha : arr S x = false) : PW S x (mvS S x) := by
  obtain ⟨⟨i, d, u⟩, L, ch⟩ := x
  have hi : i ≤ spn S := hx.1
  have hd : d ≤ 6 := hx.2.1
  have hu : u ≤ dmy (spr S) d := hx.2.2
  unfold mvS
  cases h1 : tkS S ((i, d, u), L, ch) with
  | some y => exact tkS_P hs hx h1
  | none =>
    rw [Option.getD_none]
    cases h2 : (if atM S ((i, d, u), L, ch) then ((tkO S ((i, d, u), L, ch) 2 (i + 1) 0).or ((tkO S ((i, d, u), L, ch) 2 (i + 1) 1).or (tkL S ((i, d, u), L, ch)))) else none) with
    | some y =>
      rw [Option.getD_some]
      split at h2
      · next hm =>
        have hin := (atM_i hm).1
        cases h3 : tkO S ((i, d, u), L, ch) 2 (i + 1) 0 with
        | some y1 => rw [h3] at h2; simp at h2; rw [← h2]; exact tkO_P hs hx (by decide) (Or.inr ⟨rfl, hin⟩) h3
        | none =>
          cases h4 : tkO S ((i, d, u), L, ch) 2 (i + 1) 1 with
          | some y1 => rw [h3, h4] at h2; simp at h2; rw [← h2]; exact tkO_P hs hx (by decide) (Or.inr ⟨rfl, hin⟩) h4
          | none => rw [h3, h4] at h2; simp at h2; exact tkL_P hs hx hin h2
      · cases h2
    | none =>
      rw [Option.getD_none]
      cases h5 : tkO S ((i, d, u), L, ch) 0 i 0 with
      | some y1 =>
        exact tkO_P hs hx (by decide) (Or.inl rfl) h5
      | none =>
        cases h6 : tkO S ((i, d, u), L, ch) 0 i 1 with
        | some y1 =>
          exact tkO_P hs hx (by decide) (Or.inl rfl) h6
        | none =>
          exfalso
          by_cases hc : cS S i d u = rwS S i d u
          · by_cases hin : i < spn S
            · rcases tk_ex (L := L) (ch := ch) hs hin hd hu hc with e | ⟨hm, e⟩
              · exact e h1
              · have ham : atM S ((i, d, u), L, ch) = true := by unfold atM; simp; exact ⟨hin, hm⟩
                rw [if_pos ham] at h2
                rcases e with e | e | e
                · cases h7 : tkO S ((i, d, u), L, ch) 2 (i + 1) 0 with
                  | none => exact e h7
                  | some y => rw [h7] at h2; simp at h2
                · cases h7 : tkO S ((i, d, u), L, ch) 2 (i + 1) 1 with
                  | none => exact e h7
                  | some y => rw [h7] at h2; simp at h2
                · cases h7 : tkL S ((i, d, u), L, ch) with
                  | none => exact e h7
                  | some y => rw [h7] at h2; simp at h2
            · have hF : FAR = 1000000 := rfl
              have hlt := cS_lt hs hi hd hu
              have hn0 : ¬ (d = 0 ∧ u = 0) := fun q => by
                have : arr S ((i, d, u), L, ch) = true := by unfold arr; simp; exact ⟨by omega, q⟩
                rw [this] at ha; cases ha
              have : rwS S i d u = FAR := by unfold rwS; rw [if_neg hin]; unfold raw0; rw [if_neg hn0]
              omega
          · rcases tk_put (L := L) (ch := ch) hs hi hd hu hc with e | e
            · exact e h5
            · exact e h6
theorem mst_s (S : Spt) (k : Nat) : mst S (k + 1) = if arr S (mst S k) then mst S k else mvS S (mst S k) := rfl
theorem mst_ok {S : Spt} (hs : wfS S) : ∀ k, VW S (mst S k) ∧ (mst S k).2.1.length + mu S (mst S k) ≤ 1200 ∧ (∀ c ∈ (mst S k).2.1, isSg c = true) ∧ (arr S (mst S k) = true ∨ mu S (mst S k) + k ≤ 1200)
  | 0 => by
    have h1 := cS_le hs (Nat.zero_le (spn S)) (Nat.zero_le 6) 0
    have h2 := hs.1
    have e : mu S (mst S 0) = (spn S - 0) + cS S 0 0 0 := rfl
    refine ⟨⟨Nat.zero_le _, Nat.zero_le _, Nat.zero_le _⟩, ?_, fun c hc => absurd hc (by show ¬ c ∈ ([] : List Int32); simp), Or.inr ?_⟩
    · show 0 + _ ≤ 1200
      rw [e]; omega
    · rw [e]; omega
  | k + 1 => by
    obtain ⟨h1, h2, h3, h4⟩ := mst_ok hs k
    rw [mst_s]
    cases ha : arr S (mst S k) with
    | true => rw [if_pos rfl]; exact ⟨h1, h2, h3, Or.inl ha⟩
    | false =>
      rw [if_neg (by decide)]
      obtain ⟨p1, p2, p3, p4⟩ := mv_P hs h1 ha
      refine ⟨p1, by omega, p4 h3, ?_⟩
      rcases h4 with h4 | h4
      · rw [ha] at h4; cases h4
      · exact Or.inr (by omega)
theorem mst_fix {S : Spt} {k : Nat} (h : arr S (mst S k) = true) : ∀ m, mst S (k + m) = mst S k
  | 0 => rfl
  | m + 1 => by
    have e := mst_fix h m
    show mst S (k + m + 1) = _
    rw [mst_s, e, if_pos h]
theorem mst_arr {S : Spt} (hs : wfS S) : arr S (mst S 1200) = true := by
  obtain ⟨h1, _, _, h4⟩ := mst_ok hs 1200
  rcases h4 with h | h
  · exact h
  · have hm : mu S (mst S 1200) = 0 := by omega
    unfold mu at hm
    have hn : (mst S 1200).1.1 = spn S := by have := h1.1; omega
    rw [hn] at hm
    have := cS_pos hs h1.2.1 (show cS S (spn S) (mst S 1200).1.2.1 (mst S 1200).1.2.2 = 0 by omega)
    unfold arr; simp; exact ⟨by omega, this⟩
/-- wherever it has arrived, it is the same -/
theorem mst_end {S : Spt} (hs : wfS S) {k : Nat} (h : arr S (mst S k) = true ∨ k = 1200) : mst S k = mst S 1200 := by
  rcases h with h | h
  · by_cases hk : k ≤ 1200
    · have := mst_fix h (1200 - k)
      rw [show k + (1200 - k) = 1200 by omega] at this
      exact this.symm
    · have := mst_fix (mst_arr hs) (k - 1200)
      rw [show 1200 + (k - 1200) = k by omega] at this
      exact this
  · rw [h]
theorem mdS_ok {S : Spt} (hs : wfS S) : (mdS S).length ≤ 1200 ∧ ∀ c ∈ mdS S, isSg c = true := by
  obtain ⟨_, h2, h3, _⟩ := mst_ok hs 1200
  exact ⟨by unfold mdS; omega, h3⟩
