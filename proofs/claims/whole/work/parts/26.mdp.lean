/-! facts of the least change -/
def sTR (S : Spt) (t r : Nat) : Spt := (spn S, spg S, t, r, spw S)
theorem sTR_wf {S : Spt} {t r : Nat} (h : wfS S) (ht : t < 4) (hr : r < 3) : wfS (sTR S t r) := ⟨h.1, h.2.1, ht, hr, h.2.2.2.2⟩
/-- the sum ahead of any putting in -/
def rwS (S : Spt) (i d u : Nat) : Nat := if i < spn S then rawC (spt S) (spr S) (spw S) (cS S (i + 1)) (spg S i) d u else raw0 d u
theorem cS_fin {S : Spt} {i : Nat} (h : i ≤ spn S) : cS S i = fin (spw S) (rwS S i) := by
  by_cases hi : i < spn S
  · show cst (spg S) (spn S) (spt S) (spr S) (spw S) (spn S - i) = _
    rw [show spn S - i = (spn S - (i + 1)) + 1 by omega]
    show fin (spw S) (rawC (spt S) (spr S) (spw S) (cst (spg S) (spn S) (spt S) (spr S) (spw S) (spn S - (i + 1))) (spg S (spn S - ((spn S - (i + 1)) + 1)))) = _
    rw [show spn S - ((spn S - (i + 1)) + 1) = i by omega]
    congr 1
    funext d u
    unfold rwS
    rw [if_pos hi]
  · have e : i = spn S := by omega
    subst e
    show cst (spg S) (spn S) (spt S) (spr S) (spw S) (spn S - spn S) = _
    rw [Nat.sub_self]
    show fin (spw S) raw0 = _
    congr 1
    funext d u
    unfold rwS
    rw [if_neg hi]
theorem fin_0 (w : Nat → Nat) (raw : Nat → Nat → Nat) (d : Nat) : fin w raw d 0 = dnS w raw (6 - d) := rfl
theorem fin_s (w : Nat → Nat) (raw : Nat → Nat → Nat) (d u : Nat) : fin w raw d (u + 1) = min (raw d (u + 1)) (w 0 + fin w raw d u) := rfl
theorem up_s (w : Nat → Nat) (raw : Nat → Nat → Nat) (d : Nat) : upS w raw (d + 1) = min (raw (d + 1) 0) (w 0 + upS w raw d) := rfl
theorem fin_6 (w : Nat → Nat) (raw : Nat → Nat → Nat) : fin w raw 6 0 = upS w raw 6 := rfl
theorem fin_d {w : Nat → Nat} {raw : Nat → Nat → Nat} {d : Nat} (h : d < 6) : fin w raw d 0 = min (upS w raw d) (w 0 + fin w raw (d + 1) 0) := by
  rw [fin_0, fin_0, show 6 - d = (6 - (d + 1)) + 1 by omega]
  show min (upS w raw (6 - (6 - (d + 1) + 1))) (w 0 + dnS w raw (6 - (d + 1))) = _
  rw [show 6 - (6 - (d + 1) + 1) = d by omega]
theorem fin_up {w : Nat → Nat} {raw : Nat → Nat → Nat} {d : Nat} (h : d ≤ 6) : fin w raw d 0 ≤ upS w raw d := by
  by_cases h6 : d = 6
  · subst h6; exact Nat.le_refl _
  · rw [fin_d (by omega)]; exact Nat.min_le_left _ _
theorem fin_t {w : Nat → Nat} {raw : Nat → Nat → Nat} {d : Nat} (h : d ≤ 6) (hw : 1 ≤ w 0) : fin w raw d 0 = raw d 0 ∨ (d < 6 ∧ w 0 + fin w raw (d + 1) 0 = fin w raw d 0) ∨ (1 ≤ d ∧ w 0 + fin w raw (d - 1) 0 = fin w raw d 0) := by
  have key : fin w raw d 0 = upS w raw d ∨ (d < 6 ∧ w 0 + fin w raw (d + 1) 0 = fin w raw d 0) := by
    by_cases h6 : d = 6
    · subst h6; exact Or.inl rfl
    · have e := fin_d (w := w) (raw := raw) (show d < 6 by omega)
      by_cases hm : upS w raw d ≤ w 0 + fin w raw (d + 1) 0
      · left; rw [e, Nat.min_eq_left hm]
      · right; exact ⟨by omega, by rw [e, Nat.min_eq_right (by omega)]⟩
  rcases key with k | k
  · cases d with
    | zero => left; exact k
    | succ d =>
      have e2 := up_s w raw d
      by_cases hm : raw (d + 1) 0 ≤ w 0 + upS w raw d
      · left; rw [k, e2, Nat.min_eq_left hm]
      · rw [Nat.min_eq_right (by omega)] at e2
        right; right
        refine ⟨by omega, ?_⟩
        show w 0 + fin w raw d 0 = fin w raw (d + 1) 0
        have e3 := fin_d (w := w) (raw := raw) (show d < 6 by omega)
        have h9 : upS w raw d ≤ w 0 + fin w raw (d + 1) 0 := by omega
        rw [Nat.min_eq_left h9] at e3
        omega
  · exact Or.inr (Or.inl k)
theorem up_le {w : Nat → Nat} {raw : Nat → Nat → Nat} (hw : w 0 ≤ 9) : ∀ d, upS w raw d ≤ raw 0 0 + 9 * d
  | 0 => by show raw 0 0 ≤ _; omega
  | d + 1 => by have := up_le (raw := raw) hw d; rw [up_s]; omega
theorem fin_le {w : Nat → Nat} {raw : Nat → Nat → Nat} (hw : w 0 ≤ 9) {d : Nat} (hd : d ≤ 6) : ∀ u, fin w raw d u ≤ raw 0 0 + 9 * d + 9 * u
  | 0 => Nat.le_trans (fin_up hd) (up_le hw d)
  | u + 1 => by have := fin_le (raw := raw) hw hd u; rw [fin_s]; omega
theorem rawM_0 (t ru : Nat) (w : Nat → Nat) (prev : Nat → Nat → Nat) (c : Int32) (d : Nat) : rawM t ru w prev c d 0 = if 1 ≤ d then min (if d < 6 then min (w 1 + prev d 0) (wgt c (opn t d) (w 2) + prev (d + 1) 0) else w 1 + prev d 0) (wgt c (cls t d) (w 2) + prev (d - 1) 0) else (if d < 6 then min (w 1 + prev d 0) (wgt c (opn t d) (w 2) + prev (d + 1) 0) else w 1 + prev d 0) := rfl
theorem rawM_s (t ru : Nat) (w : Nat → Nat) (prev : Nat → Nat → Nat) (c : Int32) (d u : Nat) : rawM t ru w prev c d (u + 1) = min (w 1 + prev d (u + 1)) (wgt c (opn t (dmy ru d - (u + 1))) (w 2) + prev d u) := rfl
theorem nomk {c : Int32} (hs : isSg c = true) (hm : ¬ isMk c = true) : (isLt c = true ∨ c = 32) ∨ (¬ (isLt c = true ∨ c = 32) ∧ c = 124) := by
  by_cases h1 : isLt c = true ∨ c = 32
  · exact Or.inl h1
  · refine Or.inr ⟨h1, ?_⟩
    unfold isSg at hs
    by_cases h3 : c = 124
    · exact h3
    · exfalso
      simp at hs
      rcases hs with ((h | h) | h) | h
      · exact h1 (Or.inl h)
      · exact h1 (Or.inr h)
      · exact h3 h
      · exact hm h
theorem raw_00 {S : Spt} {i : Nat} (hs : wfS S) (hi : i < spn S) : rwS S i 0 0 ≤ 9 + cS S (i + 1) 0 0 := by
  unfold rwS; rw [if_pos hi]
  unfold rawC
  have hw := (hs.2.2.2.2 1 (by decide)).2
  by_cases hm : isMk (spg S i) = true
  · rw [if_pos hm, rawM_0, if_neg (by decide), if_pos (by decide)]
    omega
  · rw [if_neg hm]
    rcases nomk (hs.2.1 i hi) hm with h | ⟨h, h2⟩
    · have e : nxt (spt S) (spr S) 0 0 (spg S i) = some (0, 0) := by unfold nxt; rw [if_pos rfl, if_pos h]
      rw [e]
      show cS S (i + 1) 0 0 ≤ _
      omega
    · have e : nxt (spt S) (spr S) 0 0 (spg S i) = some (0, 0) := by unfold nxt; rw [if_pos rfl, if_neg h, if_pos h2, dmy_0]
      rw [e]
      show cS S (i + 1) 0 0 ≤ _
      omega
theorem r00_le {S : Spt} (hs : wfS S) : ∀ k i, i + k = spn S → rwS S i 0 0 ≤ 9 * k
  | 0, i, h => by
    unfold rwS; rw [if_neg (by omega)]
    show (if 0 = 0 ∧ 0 = 0 then 0 else FAR) ≤ _
    rw [if_pos ⟨rfl, rfl⟩]; omega
  | k + 1, i, h => by
    have h1 := raw_00 hs (show i < spn S by omega)
    have h2 := r00_le hs k (i + 1) (by omega)
    have h3 := fin_le (w := spw S) (raw := rwS S (i + 1)) (hs.2.2.2.2 0 (by decide)).2 (show 0 ≤ 6 by omega) 0
    rw [← cS_fin (show i + 1 ≤ spn S by omega)] at h3
    omega
theorem cS_le {S : Spt} (hs : wfS S) {i d : Nat} (hi : i ≤ spn S) (hd : d ≤ 6) (u : Nat) : cS S i d u ≤ 9 * (spn S - i) + 9 * d + 9 * u := by
  have h1 := r00_le hs (spn S - i) i (by omega)
  have h3 := fin_le (w := spw S) (raw := rwS S i) (hs.2.2.2.2 0 (by decide)).2 hd u
  rw [← cS_fin hi] at h3
  omega
theorem cS_lt {S : Spt} (hs : wfS S) {i d u : Nat} (hi : i ≤ spn S) (hd : d ≤ 6) (hu : u ≤ dmy (spr S) d) : cS S i d u < 2000 := by
  have h1 := cS_le hs hi hd u
  have h2 := dmy_le (spr S) d
  have h3 := hs.1
  omega
theorem cS_pos {S : Spt} (hs : wfS S) {d u : Nat} (hd : d ≤ 6) (h : cS S (spn S) d u = 0) : d = 0 ∧ u = 0 := by
  have hw := (hs.2.2.2.2 0 (by decide)).1
  rw [cS_fin (Nat.le_refl _)] at h
  have hr : ∀ d u, ¬ (d = 0 ∧ u = 0) → rwS S (spn S) d u = FAR := fun d u hn => by
    unfold rwS; rw [if_neg (by omega)]; unfold raw0; rw [if_neg hn]
  have hF : FAR = 1000000 := rfl
  cases u with
  | zero =>
    refine ⟨?_, rfl⟩
    by_cases hd0 : d = 0
    · exact hd0
    · rcases fin_t (w := spw S) (raw := rwS S (spn S)) hd hw with e | ⟨_, e⟩ | ⟨_, e⟩
      · rw [h, hr d 0 (by omega)] at e; omega
      · omega
      · omega
  | succ u => rw [fin_s, hr d (u + 1) (by omega)] at h; omega
/-! the four ways of the reference -/
def stV (S : Spt) (i d u : Nat) : Nat := match nxt (spt S) (spr S) d u (spg S i) with
  | some q => cS S (i + 1) q.1 q.2
  | none => FAR
def b0V (S : Spt) (i d u : Nat) : Nat := if isMk (spg S i) = true ∧ u ≠ 0 then spw S 2 + cS S (i + 1) d (u - 1) else FAR
def bpV (S : Spt) (i d u : Nat) : Nat := if isMk (spg S i) = true ∧ u = 0 ∧ d < 6 then spw S 2 + cS S (i + 1) (d + 1) 0 else FAR
def bmV (S : Spt) (i d u : Nat) : Nat := if isMk (spg S i) = true ∧ u = 0 ∧ 1 ≤ d then spw S 2 + cS S (i + 1) (d - 1) 0 else FAR
def tkV (S : Spt) (i d u : Nat) : Nat := if isMk (spg S i) = true then spw S 1 + cS S (i + 1) d u else FAR
theorem mk_nxt {t ru d : Nat} {c : Int32} (hm : isMk c = true) : nxt t ru d 0 c = if d < 6 ∧ c = opn t d then some (d + 1, 0) else if 1 ≤ d ∧ c = cls t d then some (d - 1, 0) else none := by
  have h := mk_ne hm
  unfold nxt
  rw [if_pos rfl, if_neg (fun q => q.elim (fun q => by rw [h.1] at q; cases q) h.2.1), if_neg h.2.2.1]
theorem st_mk {S : Spt} {i d : Nat} (ht : spt S < 4) (hm : isMk (spg S i) = true) : stV S i d 0 = if 1 ≤ d ∧ spg S i = cls (spt S) d then cS S (i + 1) (d - 1) 0 else if d < 6 ∧ spg S i = opn (spt S) d then cS S (i + 1) (d + 1) 0 else FAR := by
  unfold stV
  rw [mk_nxt hm]
  by_cases h1 : d < 6 ∧ spg S i = opn (spt S) d
  · rw [if_pos h1, if_neg (fun q => opn_ne_cls _ ht d (h1.2.symm.trans q.2)), if_pos h1]
  · rw [if_neg h1, if_neg h1]
    by_cases h2 : 1 ≤ d ∧ spg S i = cls (spt S) d
    · rw [if_pos h2, if_pos h2]
    · rw [if_neg h2, if_neg h2]
theorem rw_0 {S : Spt} (hs : wfS S) {i d : Nat} (hi : i < spn S) (hd : d ≤ 6) : rwS S i d 0 = min (min (stV S i d 0) (tkV S i d 0)) (min (bpV S i d 0) (bmV S i d 0)) := by
  have ht := hs.2.2.1
  have c0 := cS_lt hs (show i + 1 ≤ spn S by omega) hd (Nat.zero_le _)
  have hw1 := (hs.2.2.2.2 1 (by decide)).2
  have hF : FAR = 1000000 := rfl
  unfold rwS; rw [if_pos hi]
  unfold rawC
  by_cases hm : isMk (spg S i) = true
  · have hst := st_mk (d := d) ht hm
    have htk : tkV S i d 0 = spw S 1 + cS S (i + 1) d 0 := if_pos hm
    have wc1 : spg S i = cls (spt S) d → wgt (spg S i) (cls (spt S) d) (spw S 2) = 0 := fun h => if_pos h.symm
    have wc2 : ¬ spg S i = cls (spt S) d → wgt (spg S i) (cls (spt S) d) (spw S 2) = spw S 2 := fun h => if_neg (fun q => h q.symm)
    have wo1 : spg S i = opn (spt S) d → wgt (spg S i) (opn (spt S) d) (spw S 2) = 0 := fun h => if_pos h.symm
    have wo2 : ¬ spg S i = opn (spt S) d → wgt (spg S i) (opn (spt S) d) (spw S 2) = spw S 2 := fun h => if_neg (fun q => h q.symm)
    have hbp : d < 6 → bpV S i d 0 = spw S 2 + cS S (i + 1) (d + 1) 0 := fun h => if_pos ⟨hm, rfl, h⟩
    have hbp2 : ¬ d < 6 → bpV S i d 0 = FAR := fun h => if_neg (fun q => h q.2.2)
    have hbm : 1 ≤ d → bmV S i d 0 = spw S 2 + cS S (i + 1) (d - 1) 0 := fun h => if_pos ⟨hm, rfl, h⟩
    have hbm2 : ¬ 1 ≤ d → bmV S i d 0 = FAR := fun h => if_neg (fun q => h q.2.2)
    have hw2 := (hs.2.2.2.2 2 (by decide)).2
    rw [if_pos hm, rawM_0, htk]
    by_cases h1 : 1 ≤ d
    · have cm := cS_lt hs (show i + 1 ≤ spn S by omega) (show d - 1 ≤ 6 by omega) (Nat.zero_le _)
      rw [if_pos h1, hbm h1]
      by_cases hc : spg S i = cls (spt S) d
      · have ho : ¬ spg S i = opn (spt S) d := fun q => opn_ne_cls _ ht d (q.symm.trans hc)
        rw [if_pos ⟨h1, hc⟩] at hst
        rw [hst, wc1 hc]
        by_cases h6 : d < 6
        · rw [if_pos h6, wo2 ho, hbp h6]; omega
        · rw [if_neg h6, hbp2 h6]; omega
      · rw [if_neg (fun q => hc q.2)] at hst
        rw [wc2 hc]
        by_cases h6 : d < 6
        · have cp := cS_lt hs (show i + 1 ≤ spn S by omega) (show d + 1 ≤ 6 by omega) (Nat.zero_le _)
          rw [if_pos h6, hbp h6]
          by_cases ho : spg S i = opn (spt S) d
          · rw [if_pos ⟨h6, ho⟩] at hst
            rw [hst, wo1 ho]; omega
          · rw [if_neg (fun q => ho q.2)] at hst
            rw [hst, wo2 ho]; omega
        · rw [if_neg (fun q => h6 q.1)] at hst
          rw [if_neg h6, hst, hbp2 h6]; omega
    · have h6 : d < 6 := by omega
      have cp := cS_lt hs (show i + 1 ≤ spn S by omega) (show d + 1 ≤ 6 by omega) (Nat.zero_le _)
      rw [if_neg (fun q => h1 q.1)] at hst
      rw [if_neg h1, if_pos h6, hbm2 h1, hbp h6]
      by_cases ho : spg S i = opn (spt S) d
      · rw [if_pos ⟨h6, ho⟩] at hst
        rw [hst, wo1 ho]; omega
      · rw [if_neg (fun q => ho q.2)] at hst
        rw [hst, wo2 ho]; omega
  · rw [if_neg hm]
    have e1 : tkV S i d 0 = FAR := if_neg hm
    have e2 : bpV S i d 0 = FAR := if_neg (fun q => hm q.1)
    have e3 : bmV S i d 0 = FAR := if_neg (fun q => hm q.1)
    have e4 : stV S i d 0 < FAR := by
      unfold stV
      rcases nomk (hs.2.1 i hi) hm with h | ⟨h, h2⟩
      · rw [show nxt (spt S) (spr S) d 0 (spg S i) = some (d, 0) by unfold nxt; rw [if_pos rfl, if_pos h]]
        show cS S (i + 1) d 0 < FAR
        omega
      · rw [show nxt (spt S) (spr S) d 0 (spg S i) = some (d, dmy (spr S) d) by unfold nxt; rw [if_pos rfl, if_neg h, if_pos h2]]
        have := cS_lt hs (show i + 1 ≤ spn S by omega) hd (Nat.le_refl _)
        show cS S (i + 1) d (dmy (spr S) d) < FAR
        omega
    rw [e1, e2, e3]
    show stV S i d 0 = _
    omega
theorem rw_s {S : Spt} (hs : wfS S) {i d u : Nat} (hi : i < spn S) (hd : d ≤ 6) (hu : u + 1 ≤ dmy (spr S) d) : rwS S i d (u + 1) = min (min (stV S i d (u + 1)) (tkV S i d (u + 1))) (b0V S i d (u + 1)) := by
  have c0 := cS_lt hs (show i + 1 ≤ spn S by omega) hd hu
  have c1 := cS_lt hs (show i + 1 ≤ spn S by omega) hd (show u ≤ dmy (spr S) d by omega)
  have hw1 := (hs.2.2.2.2 1 (by decide)).2
  have hw2 := (hs.2.2.2.2 2 (by decide)).2
  have hF : FAR = 1000000 := rfl
  unfold rwS; rw [if_pos hi]
  unfold rawC stV
  rw [nx_u (show u + 1 ≠ 0 by omega)]
  by_cases hm : isMk (spg S i) = true
  · have htk : tkV S i d (u + 1) = spw S 1 + cS S (i + 1) d (u + 1) := if_pos hm
    have hb0 : b0V S i d (u + 1) = spw S 2 + cS S (i + 1) d u := if_pos ⟨hm, by omega⟩
    rw [if_pos hm, rawM_s, htk, hb0]
    by_cases hc : spg S i = opn (spt S) (dmy (spr S) d - (u + 1))
    · have e1 : wgt (spg S i) (opn (spt S) (dmy (spr S) d - (u + 1))) (spw S 2) = 0 := if_pos hc.symm
      rw [if_pos hc, e1]
      show _ = min (min (cS S (i + 1) d u) _) _
      omega
    · have e1 : wgt (spg S i) (opn (spt S) (dmy (spr S) d - (u + 1))) (spw S 2) = spw S 2 := if_neg (fun q => hc q.symm)
      rw [if_neg hc, e1]
      show _ = min (min FAR _) _
      omega
  · rw [if_neg hm]
    have e1 : tkV S i d (u + 1) = FAR := if_neg hm
    have e2 : b0V S i d (u + 1) = FAR := if_neg (fun q => hm q.1)
    rw [e1, e2]
    by_cases hc : spg S i = opn (spt S) (dmy (spr S) d - (u + 1))
    · exact absurd (by rw [hc]; exact opn_mk _ hs.2.2.1 _) hm
    · rw [if_neg hc]
      show FAR = min (min FAR FAR) FAR
      omega
