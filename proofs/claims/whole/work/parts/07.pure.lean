/-! numbers, and the pure words of the document -/
theorem qlt {x y : Int32} {a b : Nat} (hx : x = nI a) (hy : y = nI b) (ha : a < 2 ^ 31) (hb : b < 2 ^ 31) : x < y ↔ a < b := by rw [hx, hy]; exact nI_ltI ha hb
theorem qeq {x y : Int32} {a b : Nat} (hx : x = nI a) (hy : y = nI b) (ha : a < 2 ^ 31) (hb : b < 2 ^ 31) : x = y ↔ a = b := by rw [hx, hy]; exact nI_eq ha hb
theorem nI_neg {a : Nat} (ha : a < 2 ^ 31) {v : Int32} (hv : v < 0) : ¬ nI a = v := fun h => nI_pos ha (h ▸ hv)
def bI (b : Bool) : Int32 := if b then 1 else 0
theorem bI_0 {b : Bool} : bI b = 0 ↔ b = false := by cases b <;> decide
theorem bI_n {b : Bool} : ¬ bI b = 0 ↔ b = true := by cases b <;> decide
theorem nar_b (b : Bool) : narrow .boolean (.int (bI b)) = .int (bI b) := by cases b <;> rfl
def pq (t w : Nat) : Int32 := pairsL.getD (4 * t + w) 0
def opn (t d : Nat) : Int32 := pq t (d % 2 * 2)
def cls (t d : Nat) : Int32 := pq t ((d + 1) % 2 * 2 + 1)
def dmy (ru d : Nat) : Nat := if ru = 0 then 0 else if ru = 1 then min d 1 else d
theorem dmy_le (ru d : Nat) : dmy ru d ≤ d := by unfold dmy; split <;> (try split) <;> omega
theorem dmy_0 (ru : Nat) : dmy ru 0 = 0 := by have := dmy_le ru 0; omega
def isLt (c : Int32) : Bool := !decide (c < 97) && !decide (122 < c)
def isMk (c : Int32) : Bool := decide (c = 60 ∨ c = 62 ∨ c = 123 ∨ c = 125 ∨ c = 40 ∨ c = 41 ∨ c = 91 ∨ c = 93 ∨ c = 34 ∨ c = 39)
def isSg (c : Int32) : Bool := isLt c || decide (c = 32) || decide (c = 124) || isMk c
/-- the state behind a sign, where it is right -/
def nxt (t ru d u : Nat) (c : Int32) : Option (Nat × Nat) :=
  if u = 0 then
    if isLt c = true ∨ c = 32 then some (d, 0) else if c = 124 then some (d, dmy ru d)
    else if d < 6 ∧ c = opn t d then some (d + 1, 0) else if 1 ≤ d ∧ c = cls t d then some (d - 1, 0) else none
  else if c = opn t (dmy ru d - u) then some (d, u - 1) else none
def stI (o : Option (Nat × Nat)) : Int32 := match o with
  | none => -1
  | some q => nI (7 * q.1 + q.2)
theorem opn_mk : ∀ t, t < 4 → ∀ d, isMk (opn t d) = true := by
  intro t ht d
  have hd : d % 2 < 2 := Nat.mod_lt _ (by decide)
  unfold opn
  generalize d % 2 = q at hd ⊢
  have h1 : ∀ t, t < 4 → ∀ q, q < 2 → isMk (pq t (q * 2)) = true := by decide
  exact h1 t ht q hd
theorem cls_mk : ∀ t, t < 4 → ∀ d, isMk (cls t d) = true := by
  intro t ht d
  have hd : (d + 1) % 2 < 2 := Nat.mod_lt _ (by decide)
  unfold cls
  generalize (d + 1) % 2 = q at hd ⊢
  have h1 : ∀ t, t < 4 → ∀ q, q < 2 → isMk (pq t (q * 2 + 1)) = true := by decide
  exact h1 t ht q hd
theorem opn_ne_cls : ∀ t, t < 4 → ∀ d, opn t d ≠ cls t d := by
  intro t ht d
  have hd : d % 2 < 2 := Nat.mod_lt _ (by decide)
  have e : (d + 1) % 2 = 1 - d % 2 := by omega
  unfold opn cls
  rw [e]
  generalize d % 2 = q at hd ⊢
  have h1 : ∀ t, t < 4 → ∀ q, q < 2 → pq t (q * 2) ≠ pq t ((1 - q) * 2 + 1) := by decide
  exact h1 t ht q hd
theorem mk_ne {c : Int32} (h : isMk c = true) : isLt c = false ∧ c ≠ 32 ∧ c ≠ 124 ∧ c ≠ 0 := by
  unfold isMk at h
  have h := of_decide_eq_true h
  rcases h with rfl | rfl | rfl | rfl | rfl | rfl | rfl | rfl | rfl | rfl <;> decide
theorem sg_ne0 {c : Int32} (h : isSg c = true) : c ≠ 0 := by
  intro e; subst e; revert h; decide
section GP
variable {p : Program} {l : Launch} {e : Env} {R : Room} {s : State} {m : MethodId} {args : Array Value} {below : List Frame} {meth : Method} {c : Code} {D : va_G} {cI cO : ClassId} {z tP : Nat} {aK aV : Nat → Nat} {nm : String} {cc : ByteArray} {nL : Nat} {rt : Option FieldType} {Q : State → Prop} {cs sl : Nat} {sh : Shp} {M : Mem} {pc n : Nat} {lv : List (Option Value)} {st : List Value}
theorem g_getP (C : Cx p s m args meth c D cI cO z tP aK aV RX6 nm cc nL rt) (hd : decode cc pc = .ok (.getstatic 249, 3)) (hn : pc + 3 = n) (k : G p l e R s m args below meth c D cI cO z nL Q cs sl sh M n lv (.ref tP :: st)) : G p l e R s m args below meth c D cI cO z nL Q cs sl sh M pc lv st := by
  subst hn
  intro H locs ls hP hS hl
  exact va_gets (ref := RX6) C.1 C.2.1 C.2.2.2.2.2.1.2.2.2.1.1 hS C.2.2.2.1 (C.2.2.2.2.1 _ (gmem (i := 518) (by decide +kernel) (by decide +kernel))) (fun _ h => h) hd (k H locs ls hP hS hl)
theorem g_tlenP {own : String} (C : Cx p s m args meth c D cI cO z tP aK aV own nm cc nL rt) (hd : decode cc pc = .ok (.arraylength, 1)) (hn : pc + 1 = n) (k : G p l e R s m args below meth c D cI cO z nL Q cs sl sh M n lv (.int 16 :: st)) : G p l e R s m args below meth c D cI cO z nL Q cs sl sh M pc lv (.ref tP :: st) := by
  subst hn
  intro H locs ls hP hS hl
  exact va_tlen C.1 C.2.1 C.2.2.2.2.2.1.2.2.2.1.2 hS rfl hd (k H locs ls hP hS hl)
theorem g_tcP {own : String} (C : Cx p s m args meth c D cI cO z tP aK aV own nm cc nL rt) {j : Nat} {i : Int32} (hi : i = nI j) (hj : j < 16) (hd : decode cc pc = .ok (.caload, 1)) (hn : pc + 1 = n) (k : G p l e R s m args below meth c D cI cO z nL Q cs sl sh M n lv (.int (pairsL.getD j 0) :: st)) : G p l e R s m args below meth c D cI cO z nL Q cs sl sh M pc lv (.int i :: .ref tP :: st) := by
  subst hn; subst hi
  intro H locs ls hP hS hl
  exact va_tc C.1 C.2.1 C.2.2.2.2.2.1.2.2.2.1.2 hS (vp_in_nI hj (by decide)) (by rw [nI_clamp (Nat.lt_trans hj (by decide))]) hd (k H locs ls hP hS hl)
end GP
