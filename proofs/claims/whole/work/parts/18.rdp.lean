/-! facts of READ -/
theorem nxt_ok {t ru d u : Nat} {c : Int32} {q : Nat × Nat} (hd : d ≤ 6) (hu : u ≤ dmy ru d) (h : nxt t ru d u c = some q) : q.1 ≤ 6 ∧ q.2 ≤ dmy ru q.1 := by
  unfold nxt at h
  split at h
  · split at h
    · cases h; exact ⟨hd, Nat.zero_le _⟩
    · split at h
      · cases h; exact ⟨hd, Nat.le_refl _⟩
      · split at h
        · next h1 => cases h; exact ⟨by have := h1.1; omega, Nat.zero_le _⟩
        · split at h
          · cases h; exact ⟨by show d - 1 ≤ 6; omega, Nat.zero_le _⟩
          · cases h
  · split at h
    · cases h; exact ⟨hd, by show u - 1 ≤ dmy ru d; omega⟩
    · cases h
theorem rst_ok (S : Spt) : ∀ i, rD S i ≤ 6 ∧ rU S i ≤ dmy (spr S) (rD S i)
  | 0 => ⟨Nat.zero_le _, Nat.zero_le _⟩
  | i + 1 => by
    have ih := rst_ok S i
    have e : rst S (i + 1) = if (rst S i).2 ≠ 0 ∧ spg S i = duS S (rst S i).1 (rst S i).2 then ((rst S i).1, (rst S i).2 - 1)
      else (nxt (spt S) (spr S) (rst S i).1 0 (spg S i)).getD ((rst S i).1, 0) := rfl
    unfold rD rU
    rw [e]
    split
    · exact ⟨ih.1, Nat.le_trans (Nat.sub_le _ _) ih.2⟩
    · cases hn : nxt (spt S) (spr S) (rst S i).1 0 (spg S i) with
      | none => exact ⟨ih.1, Nat.zero_le _⟩
      | some q => exact nxt_ok ih.1 (Nat.zero_le _) hn
theorem rD_le (S : Spt) (i : Nat) : rD S i ≤ 6 := (rst_ok S i).1
theorem rU_le (S : Spt) (i : Nat) : rU S i ≤ dmy (spr S) (rD S i) := (rst_ok S i).2
theorem rU_lt (S : Spt) (i : Nat) : rU S i < 7 := by
  have h1 := rD_le S i
  have h2 := rU_le S i
  have h3 := dmy_le (spr S) (rD S i)
  omega
/-- the state behind a sign, by its kind -/
def nxK (S : Spt) (i : Nat) : Nat × Nat :=
  if kd S i = 5 then (rD S i, rU S i - 1) else if kd S i = 2 then (rD S i, dmy (spr S) (rD S i)) else if kd S i = 3 then (rD S i + 1, 0) else if kd S i = 4 then (rD S i - 1, 0) else (rD S i, 0)
theorem kd_lt (S : Spt) (i : Nat) : kd S i ≤ 6 := by unfold kd; repeat' split
                                                     all_goals omega
theorem rst_s (S : Spt) (i : Nat) : rst S (i + 1) = nxK S i := by
  have e : rst S (i + 1) = if (rst S i).2 ≠ 0 ∧ spg S i = duS S (rst S i).1 (rst S i).2 then ((rst S i).1, (rst S i).2 - 1)
    else (nxt (spt S) (spr S) (rst S i).1 0 (spg S i)).getD ((rst S i).1, 0) := rfl
  rw [e]
  by_cases hr : (rst S i).2 ≠ 0 ∧ spg S i = duS S (rst S i).1 (rst S i).2
  · have k5 : kd S i = 5 := by
      unfold kd isRn; rw [if_pos]; simp; exact hr
    rw [if_pos hr]; unfold nxK; rw [if_pos k5]
  · rw [if_neg hr]
    have hn : isRn S i = false := by
      unfold isRn
      cases h : (decide (rU S i ≠ 0) && decide (spg S i = duS S (rD S i) (rU S i))) with
      | false => rfl
      | true => simp at h; exact absurd h hr
    unfold nxt nxK kd
    simp only [hn, Bool.false_eq_true, if_false, if_true]
    by_cases h1 : isLt (spg S i) = true
    · simp [h1]
    · by_cases h2 : spg S i = 32
      · have e32 : isLt 32 = false := by decide
        simp [h2, e32]
      · by_cases h3 : spg S i = 124
        · have e124 : isLt 124 = false := by decide
          simp [h3, e124]
        · by_cases h4 : rD S i < 6 ∧ spg S i = opn (spt S) (rD S i)
          · have : isOp S i = true := by unfold isOp; simp; exact h4
            simp [h1, h2, h3, this]
            rw [if_pos h4]; rfl
          · have h4' : isOp S i = false := by
              unfold isOp
              cases h : (decide (rD S i < 6) && decide (spg S i = opn (spt S) (rD S i))) with
              | false => rfl
              | true => simp at h; exact absurd h h4
            by_cases h5 : 1 ≤ rD S i ∧ spg S i = cls (spt S) (rD S i)
            · have : isCl S i = true := by unfold isCl; simp; exact h5
              simp [h1, h2, h3, h4', this]
              rw [if_neg h4, if_pos h5]; rfl
            · have h5' : isCl S i = false := by
                unfold isCl
                cases h : (decide (1 ≤ rD S i) && decide (spg S i = cls (spt S) (rD S i))) with
                | false => rfl
                | true => simp at h; exact absurd h h5
              simp [h1, h2, h3, h4', h5']
              rw [if_neg h4, if_neg h5]; rfl
theorem kd_cases (S : Spt) (i : Nat) : kd S i = 0 ∨ kd S i = 1 ∨ kd S i = 2 ∨ kd S i = 3 ∨ kd S i = 4 ∨ kd S i = 5 ∨ kd S i = 6 := by
  have := kd_lt S i; omega
theorem rD_s (S : Spt) (i : Nat) : rD S (i + 1) = if kd S i = 3 then rD S i + 1 else if kd S i = 4 then rD S i - 1 else rD S i := by
  unfold rD; rw [rst_s]; unfold nxK
  rcases kd_cases S i with h | h | h | h | h | h | h <;> simp [h]
theorem kd3_lt {S : Spt} {i : Nat} (h : kd S i = 3) : rD S i < 6 := by
  unfold kd at h
  repeat' split at h
  all_goals first | (cases h; done) | skip
  next h1 => unfold isOp at h1; simp at h1; exact h1.1
theorem kd4_pos {S : Spt} {i : Nat} (h : kd S i = 4) : 1 ≤ rD S i := by
  unfold kd at h
  repeat' split at h
  all_goals first | (cases h; done) | skip
  next h1 => unfold isCl at h1; simp at h1; exact h1.1
theorem kd5_pos {S : Spt} {i : Nat} (h : kd S i = 5) : 1 ≤ rU S i := by
  unfold kd at h
  repeat' split at h
  all_goals first | (cases h; done) | skip
  next h1 => unfold isRn at h1; simp at h1; omega
theorem sk_s (S : Spt) (i : Nat) : sk S (i + 1) = if kd S i = 3 then i :: sk S i else if kd S i = 4 then (sk S i).tail else sk S i := rfl
theorem sk_len (S : Spt) : ∀ i, (sk S i).length = rD S i
  | 0 => rfl
  | i + 1 => by
    have ih := sk_len S i
    rw [sk_s, rD_s]
    rcases kd_cases S i with h | h | h | h | h | h | h <;> simp [h, ih]
theorem sk_lv (S : Spt) : ∀ (i p o : Nat), (sk S i)[p]? = some o → o < i ∧ kd S o = 3 ∧ rD S o + 1 + p = rD S i
  | 0, p, o, h => by simp [sk] at h
  | i + 1, p, o, h => by
    rw [sk_s] at h
    rw [rD_s]
    by_cases h3 : kd S i = 3
    · rw [if_pos h3] at h ⊢
      cases p with
      | zero => simp at h; subst h; exact ⟨by omega, h3, by omega⟩
      | succ p =>
        have := sk_lv S i p o (by simpa using h)
        exact ⟨by omega, this.2.1, by omega⟩
    · rw [if_neg h3] at h ⊢
      by_cases h4 : kd S i = 4
      · rw [if_pos h4] at h ⊢
        rw [List.getElem?_tail] at h
        have := sk_lv S i (p + 1) o h
        exact ⟨by omega, this.2.1, by omega⟩
      · rw [if_neg h4] at h ⊢
        have := sk_lv S i p o h
        exact ⟨by omega, this.2.1, by omega⟩
theorem sk_one {S : Spt} {i p q o : Nat} (h1 : (sk S i)[p]? = some o) (h2 : (sk S i)[q]? = some o) : p = q := by
  have a := sk_lv S i p o h1
  have b := sk_lv S i q o h2
  omega
theorem clo_s (S : Spt) (i o : Nat) : clo S (i + 1) o = if kd S i = 4 ∧ (sk S i).head? = some o then some i else clo S i o := rfl
theorem clo_ge (S : Spt) : ∀ i o, i ≤ o → clo S i o = none
  | 0, _, _ => rfl
  | i + 1, o, h => by
    rw [clo_s, if_neg]
    · exact clo_ge S i o (by omega)
    · rintro ⟨_, h2⟩
      rw [List.head?_eq_getElem?] at h2
      have := (sk_lv S i 0 o h2).1
      omega
theorem clo_lt (S : Spt) : ∀ i o e, clo S i o = some e → o < e ∧ e < i
  | 0, _, _, h => by simp [clo] at h
  | i + 1, o, e, h => by
    rw [clo_s] at h
    split at h
    · next h1 =>
      cases h
      have h2 := h1.2
      rw [List.head?_eq_getElem?] at h2
      exact ⟨(sk_lv S i 0 o h2).1, by omega⟩
    · have := clo_lt S i o e h
      exact ⟨this.1, by omega⟩
theorem sk_dec (S : Spt) : ∀ (i p q a b : Nat), p < q → (sk S i)[p]? = some a → (sk S i)[q]? = some b → b < a
  | 0, p, q, a, b, _, h1, _ => by simp [sk] at h1
  | i + 1, p, q, a, b, hpq, h1, h2 => by
    rw [sk_s] at h1 h2
    by_cases h3 : kd S i = 3
    · rw [if_pos h3] at h1 h2
      cases p with
      | zero =>
        simp at h1; subst h1
        cases q with
        | zero => omega
        | succ q => exact (sk_lv S i q b (by simpa using h2)).1
      | succ p =>
        cases q with
        | zero => omega
        | succ q => exact sk_dec S i p q a b (by omega) (by simpa using h1) (by simpa using h2)
    · rw [if_neg h3] at h1 h2
      by_cases h4 : kd S i = 4
      · rw [if_pos h4, List.getElem?_tail] at h1 h2
        exact sk_dec S i (p + 1) (q + 1) a b (by omega) h1 h2
      · rw [if_neg h4] at h1 h2
        exact sk_dec S i p q a b hpq h1 h2
/-- open is what isn't closed -/
theorem sk_iff (S : Spt) : ∀ (i o : Nat), (∃ p : Nat, (sk S i)[p]? = some o) ↔ (o < i ∧ kd S o = 3 ∧ clo S i o = none)
  | 0, o => by simp [sk]
  | i + 1, o => by
    have ih := sk_iff S i o
    rw [sk_s, clo_s]
    by_cases h3 : kd S i = 3
    · rw [if_pos h3, if_neg (by rw [h3]; intro h; exact absurd h.1 (by decide))]
      constructor
      · rintro ⟨p, hp⟩
        cases p with
        | zero => simp at hp; subst hp; exact ⟨by omega, h3, clo_ge S i i (Nat.le_refl _)⟩
        | succ p =>
          have := ih.mp ⟨p, by simpa using hp⟩
          exact ⟨by omega, this.2.1, this.2.2⟩
      · rintro ⟨h1, h2, h4⟩
        by_cases he : o = i
        · subst he; exact ⟨0, by simp⟩
        · obtain ⟨p, hp⟩ := ih.mpr ⟨by omega, h2, h4⟩
          exact ⟨p + 1, by simpa using hp⟩
    · rw [if_neg h3]
      by_cases h4 : kd S i = 4
      · rw [if_pos h4]
        constructor
        · rintro ⟨p, hp⟩
          rw [List.getElem?_tail] at hp
          have := ih.mp ⟨p + 1, hp⟩
          rw [if_neg]
          · exact ⟨by omega, this.2.1, this.2.2⟩
          · rintro ⟨_, h5⟩
            rw [List.head?_eq_getElem?] at h5
            have := sk_one hp h5
            omega
        · rintro ⟨h1, h2, h5⟩
          by_cases hh : (sk S i).head? = some o
          · rw [if_pos ⟨h4, hh⟩] at h5; cases h5
          · rw [if_neg (fun q => hh q.2)] at h5
            have hoi : o ≠ i := fun e => by rw [e] at h2; rw [h4] at h2; cases h2
            obtain ⟨p, hp⟩ := ih.mpr ⟨by omega, h2, h5⟩
            cases p with
            | zero => rw [List.head?_eq_getElem?] at hh; exact absurd hp hh
            | succ p => exact ⟨p, by rw [List.getElem?_tail]; exact hp⟩
      · rw [if_neg h4, if_neg (fun q => h4 q.1)]
        constructor
        · intro h
          have := ih.mp h
          exact ⟨by omega, this.2.1, this.2.2⟩
        · rintro ⟨h1, h2, h5⟩
          have hoi : o ≠ i := fun e => by rw [e] at h2; exact h3 h2
          exact ih.mpr ⟨by omega, h2, h5⟩
theorem sk_head {S : Spt} {i : Nat} (h : 1 ≤ rD S i) : ∃ o, (sk S i)[0]? = some o := by
  rw [← sk_len] at h
  cases hs : sk S i with
  | nil => rw [hs] at h; simp at h
  | cons a l => exact ⟨a, rfl⟩
/-- the latest that is open is the head -/
theorem sk_max {S : Spt} {i o k : Nat} (h : (sk S i)[0]? = some o) (h1 : k < i) (h2 : kd S k = 3) (h3 : clo S i k = none) : k ≤ o := by
  obtain ⟨p, hp⟩ := (sk_iff S i k).mpr ⟨h1, h2, h3⟩
  cases p with
  | zero => rw [h] at hp; cases hp; exact Nat.le_refl _
  | succ p => exact Nat.le_of_lt (sk_dec S i 0 (p + 1) o k (by omega) h hp)
/-- by level -/
theorem sk_at {S : Spt} {i v : Nat} (h1 : 1 ≤ v) (h2 : v ≤ rD S i) : ∃ o, (sk S i)[rD S i - v]? = some o ∧ rD S o + 1 = v := by
  have hl : rD S i - v < (sk S i).length := by rw [sk_len]; omega
  refine ⟨(sk S i)[rD S i - v], List.getElem?_eq_getElem hl, ?_⟩
  have := sk_lv S i (rD S i - v) _ (List.getElem?_eq_getElem hl)
  omega
