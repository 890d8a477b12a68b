/-! what the document says, as pure words -/
abbrev Spt : Type := Nat × (Nat → Int32) × Nat × Nat × (Nat → Nat)
abbrev spn (S : Spt) : Nat := S.1
abbrev spg (S : Spt) : Nat → Int32 := S.2.1
abbrev spt (S : Spt) : Nat := S.2.2.1
abbrev spr (S : Spt) : Nat := S.2.2.2.1
abbrev spw (S : Spt) : Nat → Nat := S.2.2.2.2
def wfS (S : Spt) : Prop := spn S ≤ 120 ∧ (∀ j, j < spn S → isSg (spg S j) = true) ∧ spt S < 4 ∧ spr S < 3 ∧ ∀ j, j < 3 → 1 ≤ spw S j ∧ spw S j ≤ 9
/-- how many below i -/
def ctn (q : Nat → Bool) : Nat → Nat
  | 0 => 0
  | i + 1 => ctn q i + (if q i then 1 else 0)
theorem ctn_le (q : Nat → Bool) : ∀ i, ctn q i ≤ i
  | 0 => Nat.le_refl 0
  | i + 1 => by have := ctn_le q i; unfold ctn; split <;> omega
theorem ctn_mono (q : Nat → Bool) {a b : Nat} (h : a ≤ b) : ctn q a ≤ ctn q b := by
  induction b with
  | zero => rw [Nat.le_zero.mp h]; exact Nat.le_refl _
  | succ b ih =>
    by_cases e : a = b + 1
    · rw [e]; exact Nat.le_refl _
    · have := ih (by omega)
      have e2 : ctn q (b + 1) = ctn q b + (if q b then 1 else 0) := rfl
      omega
theorem ctn_yes {q : Nat → Bool} {i : Nat} (h : q i = true) : ctn q (i + 1) = ctn q i + 1 := by simp [ctn, h]
theorem ctn_no {q : Nat → Bool} {i : Nat} (h : q i = false) : ctn q (i + 1) = ctn q i := by simp [ctn, h]
theorem ctn_lt {q : Nat → Bool} {a b : Nat} (h : a < b) (ha : q a = true) : ctn q a < ctn q b := by
  have := ctn_mono q (a := a + 1) (b := b) h
  rw [ctn_yes ha] at this
  omega
theorem ctn_one {q : Nat → Bool} {a b : Nat} (ha : q a = true) (hb : q b = true) (h : ctn q a = ctn q b) : a = b := by
  rcases Nat.lt_trichotomy a b with h1 | h1 | h1
  · have := ctn_lt h1 ha; omega
  · exact h1
  · have := ctn_lt h1 hb; omega
theorem ctn_ex {q : Nat → Bool} : ∀ {n k : Nat}, k < ctn q n → ∃ a, a < n ∧ q a = true ∧ ctn q a = k
  | 0, k, h => by simp [ctn] at h
  | n + 1, k, h => by
    by_cases hk : k < ctn q n
    · obtain ⟨a, h1, h2, h3⟩ := ctn_ex hk
      exact ⟨a, by omega, h2, h3⟩
    · cases hq : q n with
      | true => rw [ctn_yes hq] at h; exact ⟨n, by omega, hq, by omega⟩
      | false => rw [ctn_no hq] at h; omega
/-- READ: the first that is due -/
def duS (S : Spt) (d u : Nat) : Int32 := opn (spt S) (dmy (spr S) d - u)
/-- READ: depth and how much is due ahead of sign i -/
def rst (S : Spt) : Nat → Nat × Nat
  | 0 => (0, 0)
  | i + 1 =>
    if (rst S i).2 ≠ 0 ∧ spg S i = duS S (rst S i).1 (rst S i).2 then ((rst S i).1, (rst S i).2 - 1)
    else (nxt (spt S) (spr S) (rst S i).1 0 (spg S i)).getD ((rst S i).1, 0)
abbrev rD (S : Spt) (i : Nat) : Nat := (rst S i).1
abbrev rU (S : Spt) (i : Nat) : Nat := (rst S i).2
def isRn (S : Spt) (i : Nat) : Bool := decide (rU S i ≠ 0) && decide (spg S i = duS S (rD S i) (rU S i))
def w3 (S : Spt) (i : Nat) : Bool := decide (rU S i ≠ 0) && !decide (spg S i = duS S (rD S i) (rU S i))
def isOp (S : Spt) (i : Nat) : Bool := decide (rD S i < 6) && decide (spg S i = opn (spt S) (rD S i))
def isCl (S : Spt) (i : Nat) : Bool := decide (1 ≤ rD S i) && decide (spg S i = cls (spt S) (rD S i))
def kd (S : Spt) (i : Nat) : Nat :=
  if isRn S i then 5 else if isLt (spg S i) then 0 else if spg S i = 32 then 1 else if spg S i = 124 then 2 else if isOp S i then 3 else if isCl S i then 4 else 6
def wrL (S : Spt) : Nat → List (Nat × Nat)
  | 0 => []
  | i + 1 => wrL S i ++ (if w3 S i then [(i, 3)] else []) ++ (if kd S i = 6 then [(i, if ownS (spt S) (spg S i) then 1 else 2)] else [])
def wlE (S : Spt) : List (Nat × Nat) := wrL S (spn S) ++ (if rU S (spn S) ≠ 0 then [(spn S, 3)] else []) ++ (if rD S (spn S) ≠ 0 then [(spn S, 4)] else [])
abbrev kdIs (S : Spt) (k : Nat) : Nat → Bool := fun i => decide (kd S i = k)
/-- the places of what is open, the latest first -/
def sk (S : Spt) : Nat → List Nat
  | 0 => []
  | i + 1 => if kd S i = 3 then i :: sk S i else if kd S i = 4 then (sk S i).tail else sk S i
/-- where what opened at o is closed, as known ahead of sign i -/
def clo (S : Spt) : Nat → Nat → Option Nat
  | 0, _ => none
  | i + 1, o => if kd S i = 4 ∧ (sk S i).head? = some o then some i else clo S i o
def oI (o : Option Nat) : Int32 := match o with
  | none => -4
  | some a => nI a
def ctR (q : Nat → Bool) (a b : Nat) : Nat := ctn q b - ctn q a
/-- the end of what opened at o, ahead of sign i -/
def enQ (S : Spt) (i o : Nat) : Nat := (clo S i o).getD i
/-- a fact of the quote that opened at o, ahead of sign i -/
def qfS (S : Spt) (i o w : Nat) : Int32 :=
  if w = 0 then nI o else if w = 1 then oI (clo S i o) else if w = 2 then nI (rD S o + 1)
  else if w = 3 then nI (ctR (kdIs S 0) (o + 1) (enQ S i o)) else if w = 4 then nI (ctR (fun k => decide (kd S k = 0) && decide (rD S k = rD S o + 1)) (o + 1) (enQ S i o))
  else if w = 5 then nI (ctR (kdIs S 2) (o + 1) (enQ S i o)) else nI (ctR (kdIs S 3) (o + 1) (enQ S i o))
def isQ (S : Spt) (i q o : Nat) : Prop := o < i ∧ kd S o = 3 ∧ ctn (kdIs S 3) o = q
def ltA (S : Spt) (i d : Nat) : Nat := ctn (fun k => decide (kd S k = 0) && decide (rD S k = d)) i
/-- a fact of the p-th paragraph, ahead of sign i -/
def pfS (S : Spt) (i p w : Nat) (r : Int32) : Prop :=
  if w = 0 then (p = 0 ∧ r = 0) ∨ ∃ b, b < i ∧ kd S b = 2 ∧ ctn (kdIs S 2) b + 1 = p ∧ r = nI (rD S (b + 1))
  else if w = 1 then r = nI (ctn (fun k => decide (kd S k = 0) && decide (ctn (kdIs S 2) k = p)) i)
  else r = nI (ctn (fun k => decide (kd S k = 5) && decide (ctn (kdIs S 2) k = p)) i)
def mxD (S : Spt) : Nat → Nat
  | 0 => 0
  | i + 1 => max (mxD S i) (rD S (i + 1))
def levS (S : Spt) (i : Nat) : Nat := if kd S i = 5 then dmy (spr S) (rD S i) - rU S i else rD S i
/-! the least change -/
def FAR : Nat := 1000000
def wgt (c m : Int32) (w : Nat) : Nat := if m = c then 0 else w
section CO
variable (sg : Nat → Int32) (n t ru : Nat) (w : Nat → Nat)
def rawM (prev : Nat → Nat → Nat) (c : Int32) (d u : Nat) : Nat :=
  if u = 0 then
    let a := w 1 + prev d 0
    let b := if d < 6 then min a (wgt c (opn t d) (w 2) + prev (d + 1) 0) else a
    if 1 ≤ d then min b (wgt c (cls t d) (w 2) + prev (d - 1) 0) else b
  else min (w 1 + prev d u) (wgt c (opn t (dmy ru d - u)) (w 2) + prev d (u - 1))
def rawC (prev : Nat → Nat → Nat) (c : Int32) (d u : Nat) : Nat :=
  if isMk c = true then rawM t ru w prev c d u else match nxt t ru d u c with
    | some q => prev q.1 q.2
    | none => FAR
def raw0 (d u : Nat) : Nat := if d = 0 ∧ u = 0 then 0 else FAR
def upS (raw : Nat → Nat → Nat) : Nat → Nat
  | 0 => raw 0 0
  | d + 1 => min (raw (d + 1) 0) (w 0 + upS raw d)
def dnS (raw : Nat → Nat → Nat) : Nat → Nat
  | 0 => upS w raw 6
  | k + 1 => min (upS w raw (6 - (k + 1))) (w 0 + dnS raw k)
def fin (raw : Nat → Nat → Nat) (d : Nat) : Nat → Nat
  | 0 => dnS w raw (6 - d)
  | u + 1 => min (raw d (u + 1)) (w 0 + fin raw d u)
/-- the least sum from a state on, with k signs to come -/
def cst : Nat → Nat → Nat → Nat
  | 0 => fin w raw0
  | k + 1 => fin w (rawC t ru w (cst k) (sg (n - (k + 1))))
end CO
abbrev cS (S : Spt) (i : Nat) : Nat → Nat → Nat := cst (spg S) (spn S) (spt S) (spr S) (spw S) (spn S - i)
/-- a step of the way by the least: place, depth, due; what is said; the three counts -/
abbrev Way : Type := (Nat × Nat × Nat) × List Int32 × (Nat → Nat)
def arr (S : Spt) (x : Way) : Bool := decide (spn S ≤ x.1.1) && decide (x.1.2.1 = 0 ∧ x.1.2.2 = 0)
/-- the marks that may come: which, and the state behind -/
def off (S : Spt) (d u ch : Nat) : Option (Int32 × Nat × Nat) :=
  if u = 0 then if ch = 0 then (if d < 6 then some (opn (spt S) d, d + 1, 0) else none) else (if 1 ≤ d then some (cls (spt S) d, d - 1, 0) else none)
  else if ch = 0 then some (duS S d u, d, u - 1) else none
def tkO (S : Spt) (x : Way) (w i ch : Nat) : Option Way := match off S x.1.2.1 x.1.2.2 ch with
  | none => none
  | some q => if spw S w + cS S i q.2.1 q.2.2 = cS S x.1.1 x.1.2.1 x.1.2.2 then some ((i, q.2.1, q.2.2), x.2.1 ++ [q.1], fun j => x.2.2 j + (if j = w then 1 else 0)) else none
def tkS (S : Spt) (x : Way) : Option Way :=
  if x.1.1 < spn S then match nxt (spt S) (spr S) x.1.2.1 x.1.2.2 (spg S x.1.1) with
    | none => none
    | some q => if cS S (x.1.1 + 1) q.1 q.2 = cS S x.1.1 x.1.2.1 x.1.2.2 then some ((x.1.1 + 1, q.1, q.2), x.2.1 ++ [spg S x.1.1], x.2.2) else none
  else none
def tkL (S : Spt) (x : Way) : Option Way :=
  if spw S 1 + cS S (x.1.1 + 1) x.1.2.1 x.1.2.2 = cS S x.1.1 x.1.2.1 x.1.2.2 then some ((x.1.1 + 1, x.1.2.1, x.1.2.2), x.2.1, fun j => x.2.2 j + (if j = 1 then 1 else 0)) else none
def atM (S : Spt) (x : Way) : Bool := decide (x.1.1 < spn S) && isMk (spg S x.1.1)
def mvS (S : Spt) (x : Way) : Way :=
  (tkS S x).getD ((if atM S x then ((tkO S x 2 (x.1.1 + 1) 0).or ((tkO S x 2 (x.1.1 + 1) 1).or (tkL S x))) else none).getD (((tkO S x 0 x.1.1 0).or (tkO S x 0 x.1.1 1)).getD x))
def mst (S : Spt) : Nat → Way
  | 0 => ((0, 0, 0), [], fun _ => 0)
  | k + 1 => if arr S (mst S k) then mst S k else mvS S (mst S k)
def mdS (S : Spt) : List Int32 := (mst S 1200).2.1
def mdC (S : Spt) : Nat → Nat := (mst S 1200).2.2
/-! how the class holds it, how the reference holds it -/
def spC (M : Mem) (k : Nat) (S : Spt) : Prop := M k 1 = nI (spn S) ∧ (∀ j, j < spn S → M (k + 2) j = spg S j) ∧ M k 2 = nI (spt S) ∧ M k 3 = nI (spr S) ∧ ∀ j, j < 3 → M (k + 4) j = nI (spw S j)
def spR (f : Nat → Int32) (S : Spt) : Prop := f 120 = nI (spn S) ∧ (∀ j, j < spn S → f j = spg S j) ∧ f 121 = nI (spt S) ∧ f 122 = nI (spr S) ∧ ∀ j, j < 3 → f (123 + j) = nI (spw S j)
def RdOK (M : Mem) (S : Spt) : Prop :=
  (M 40 6 = nI (wlE S).length ∧ ∀ j q, (wlE S)[j]? = some q → M 55 (2 * j) = nI q.1 ∧ M 55 (2 * j + 1) = nI q.2) ∧
  (∀ i, i < spn S → M 47 i = nI (kd S i) ∧ M 49 i = nI (rD S (i + 1)) ∧ (kd S i = 3 → M 51 i = oI (clo S (spn S) i)) ∧ (kd S i = 4 → ∃ o, (sk S i).head? = some o ∧ M 51 i = nI o) ∧ (kd S i = 3 ∨ kd S i = 4 ∨ kd S i = 5 → M 53 i = nI (levS S i))) ∧
  (M 40 8 = nI (ctn (kdIs S 3) (spn S)) ∧ ∀ q o, isQ S (spn S) q o → ∀ w, w < 7 → M 57 (7 * q + w) = qfS S (spn S) o w) ∧
  (M 40 10 = nI (ctn (kdIs S 2) (spn S) + 1) ∧ ∀ q, q ≤ ctn (kdIs S 2) (spn S) → ∀ w, w < 3 → pfS S (spn S) q w (M 59 (3 * q + w))) ∧
  (∀ d, d ≤ 6 → M 61 d = nI (ltA S (spn S) d)) ∧ M 40 13 = nI (mxD S (spn S)) ∧ M 40 14 = nI (7 * rD S (spn S) + rU S (spn S))
def MdOK (M : Mem) (S : Spt) : Prop :=
  M 75 0 = nI (cS S 0 0 0) ∧ M 64 6 = nI (mdS S).length ∧ (∀ j q, (mdS S)[j]? = some q → M 77 j = q) ∧ ∀ j, j < 3 → M 79 j = nI (mdC S j)
/-- text, its length, the speech, what can be undone (the oldest first) -/
abbrev Abs : Type := Nat × (Nat → Int32) × Spt × List Spt
def wfA (A : Abs) : Prop := A.1 ≤ 200 ∧ wfS A.2.2.1 ∧ A.2.2.2.length ≤ 6 ∧ (∀ S ∈ A.2.2.2, wfS S) ∧ ∀ j, j < A.1 → A.2.1 j ≠ 0
def hsC (M : Mem) (L : List Spt) : Prop := ∃ nx, nx < 6 ∧ M 8 1 = nI nx ∧ M 8 2 = nI L.length ∧ ∀ i S, L[i]? = some S → spC M (10 + 5 * ((nx + 6 - L.length + i) % 6)) S
def absC (M : Mem) (A : Abs) : Prop :=
  M 0 1 = nI A.1 ∧ (∀ j, j < A.1 → M 2 j = A.2.1 j) ∧ spC M 3 A.2.2.1 ∧ hsC M A.2.2.2 ∧ gI M 41 ∧ gI M 65 ∧
  (M 0 6 = 0 ∨ (M 0 6 = 1 ∧ RdOK M A.2.2.1)) ∧ (M 0 7 = 0 ∨ (M 0 7 = 1 ∧ MdOK M A.2.2.1))
def absR (M : Mem) (A : Abs) : Prop :=
  M 80 0 = nI A.1 ∧ (∀ j, j < A.1 → M 81 j = A.2.1 j) ∧ spR (M 82) A.2.2.1 ∧ M 80 4 = nI A.2.2.2.length ∧ ∀ i S, A.2.2.2[i]? = some S → spR (fun j => M 83 (126 * i + j)) S
