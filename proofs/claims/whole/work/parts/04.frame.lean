/-! The calculus: a pure memory M (cell, slot -> int), a shape sh (what stands at which cell), cells at z, z+1, .. -/
abbrev Mem : Type := Nat → Nat → Int32
abbrev ShE : Type := Nat ⊕ (List (Option Nat)) ⊕ (Nat × List (Option (Option Nat)))
abbrev Shp : Type := List ShE
def up2 (M : Mem) (k j : Nat) (v : Int32) : Mem := fun a b => if a = k ∧ b = j then v else M a b
theorem up2_at (M : Mem) (k j : Nat) (v : Int32) : up2 M k j v k j = v := by simp [up2]
theorem up2_row (M : Mem) (k j : Nat) (v : Int32) : up2 M k j v k = upd (M k) j v := by
  funext b; simp [up2, upd]
theorem up2_ne (M : Mem) {k j a : Nat} (v : Int32) (h : a ≠ k) : up2 M k j v a = M a := by
  funext b; simp [up2, h]
def slv (z : Nat) (f : Nat → Int32) (j : Nat) (o : Option (Option Nat)) : Value := match o with
  | none => .int (f j)
  | some none => .null
  | some (some r) => .ref (z + r)
def cel (cI cO : ClassId) (z : Nat) (M : Mem) (k : Nat) (e : ShE) : va_E := match e with
  | .inl n => .inl (cI, n, .inl (M k))
  | .inr (.inl rs) => .inl (cO, rs.length, .inr (.inr (.inr (.inr (fun j => (rs.getD j none).map (fun r => z + r))))))
  | .inr (.inr o) => .inr (o.1, o.2.mapIdx (fun j x => slv z (M k) j x))
def wl (cI cO : ClassId) (z : Nat) (sh : Shp) (M : Mem) : va_W := sh.mapIdx (fun k e => (z + k, cel cI cO z M k e))
def AA (z : Nat) : Nat → Prop := fun q => z ≤ q
section WL
variable {cI cO : ClassId} {z k : Nat} {sh : Shp} {M M' : Mem} {e : ShE}
theorem wl_get (h : sh[k]? = some e) : (wl cI cO z sh M)[k]? = some (z + k, cel cI cO z M k e) := by
  rw [wl, List.getElem?_mapIdx, h]; rfl
theorem wl_len : (wl cI cO z sh M).length = sh.length := by simp [wl]
theorem wl_inv {q : Nat × va_E} (h : (wl cI cO z sh M)[k]? = some q) : ∃ e, sh[k]? = some e ∧ q = (z + k, cel cI cO z M k e) := by
  rw [wl, List.getElem?_mapIdx] at h
  cases hk : sh[k]? with
  | none => rw [hk] at h; cases h
  | some e => rw [hk] at h; exact ⟨e, rfl, (Option.some.inj h).symm⟩
theorem wl_D : va_D (AA z) (wl cI cO z sh M) := by
  refine ⟨fun i j p q hi hj h => ?_, fun k q h => ?_⟩
  · obtain ⟨_, _, rfl⟩ := wl_inv hi
    obtain ⟨_, _, rfl⟩ := wl_inv hj
    have h' : z + i = z + j := h
    omega
  · obtain ⟨_, _, rfl⟩ := wl_inv h
    exact Nat.le_add_right z k
theorem cel_cong (h : M' k = M k) : cel cI cO z M' k e = cel cI cO z M k e := by
  unfold cel; rw [h]
theorem wl_set (hk : sh[k]? = some e) (hM : ∀ a, a ≠ k → M' a = M a) : (wl cI cO z sh M).set k (z + k, cel cI cO z M' k e) = wl cI cO z sh M' := by
  apply List.ext_getElem?
  intro i
  by_cases hi : i = k
  · subst hi
    have hl : i < (wl cI cO z sh M).length := by rw [wl_len]; exact (List.getElem?_eq_some_iff.mp hk).1
    rw [List.getElem?_set_self hl, wl_get hk]
  · rw [List.getElem?_set_ne (Ne.symm hi), wl, wl, List.getElem?_mapIdx, List.getElem?_mapIdx]
    cases sh[i]? with
    | none => rfl
    | some x => simp only [Option.map_some]; rw [cel_cong (hM i hi)]
theorem wl_setS {e' : ShE} (hk : sh[k]? = some e) : (wl cI cO z sh M).set k (z + k, cel cI cO z M k e') = wl cI cO z (sh.set k e') M := by
  apply List.ext_getElem?
  intro i
  by_cases hi : i = k
  · subst hi
    have h0 := (List.getElem?_eq_some_iff.mp hk).1
    have hl : i < (wl cI cO z sh M).length := by rw [wl_len]; exact h0
    rw [List.getElem?_set_self hl, wl_get (List.getElem?_set_self h0)]
  · rw [List.getElem?_set_ne (Ne.symm hi), wl, wl, List.getElem?_mapIdx, List.getElem?_mapIdx, List.getElem?_set_ne (Ne.symm hi)]
theorem wl_cong (hM : ∀ a, a < sh.length → M' a = M a) : wl cI cO z sh M' = wl cI cO z sh M := by
  apply List.ext_getElem?
  intro i
  rw [wl, wl, List.getElem?_mapIdx, List.getElem?_mapIdx]
  cases hi : sh[i]? with
  | none => rfl
  | some x => simp only [Option.map_some]; rw [cel_cong (hM i (List.getElem?_eq_some_iff.mp hi).1)]
theorem wl_push : wl cI cO z sh M ++ [(z + sh.length, cel cI cO z M sh.length e)] = wl cI cO z (sh ++ [e]) M := by
  unfold wl; rw [List.mapIdx_concat]
end WL
/-! locals: a list of what is known -/
def lvh (ls : Array Slot) (nL : Nat) (lv : List (Option Value)) : Prop := ls.size = nL ∧ lv_wf ls ∧ lv.length = nL ∧ ∀ (i : Nat) (v : Value), lv[i]? = some (some v) → v.category = 1 ∧ ls[i]? = some (.val v)
def prs (lv : List (Option Value)) : List (Nat × Value) := (List.range lv.length).filterMap (fun j => match lv[j]? with | some (some v) => some (j, v) | _ => none)
theorem mem_prs {lv : List (Option Value)} {q : Nat × Value} : q ∈ prs lv ↔ lv[q.1]? = some (some q.2) := by
  unfold prs
  rw [List.mem_filterMap]
  constructor
  · rintro ⟨j, -, h⟩
    split at h
    · next v hv => cases h; exact hv
    · cases h
  · intro h
    refine ⟨q.1, List.mem_range.mpr (List.getElem?_eq_some_iff.mp h).1, ?_⟩
    rw [h]
theorem lvh.has {ls : Array Slot} {nL : Nat} {lv : List (Option Value)} (h : lvh ls nL lv) : lv_has ls nL (prs lv) := ⟨h.1, h.2.1, fun q hq => (h.2.2.2 q.1 q.2 (mem_prs.mp hq)).2⟩
theorem lvh.at {ls : Array Slot} {nL : Nat} {lv : List (Option Value)} (h : lvh ls nL lv) {i : Nat} {v : Value} (hv : lv[i]? = some (some v)) : ls[i]? = some (.val v) := (h.2.2.2 i v hv).2
theorem lvh.set {ls ls' : Array Slot} {nL i : Nat} {lv : List (Option Value)} {v : Value} (h : lvh ls nL lv) (hc : v.category = 1) (h' : lv_has ls' nL ((i, v) :: (prs lv).filter (fun q => !(q.1 == i) && !(q.1 + 1 == i && q.2.category == 2)))) : lvh ls' nL (lv.set i (some v)) := by
  refine ⟨h'.1, h'.2.1, by rw [List.length_set]; exact h.2.2.1, fun j w hj => ?_⟩
  by_cases hij : i = j
  · subst hij
    have hl : i < lv.length := by
      have := (List.getElem?_eq_some_iff.mp hj).1
      rwa [List.length_set] at this
    rw [List.getElem?_set_self hl] at hj
    cases hj
    exact ⟨hc, h'.2.2 (i, v) List.mem_cons_self⟩
  · rw [List.getElem?_set_ne hij] at hj
    have hq := h.2.2.2 j w hj
    refine ⟨hq.1, h'.2.2 (j, w) (List.mem_cons_of_mem _ (List.mem_filter.mpr ⟨mem_prs.mpr hj, ?_⟩))⟩
    have h2 : (j == i) = false := by simp; exact fun e => hij e.symm
    simp [h2, hq.1]
/-! words -/
def isNest : Cond → Bool
  | .fieldLinkNest .. => true
  | .methodLinkNest .. => true
  | _ => false
def gtbl : List Cond := lw_tbl.filter goodWord
def ntbl : List Cond := lw_tbl.filter isNest
theorem gmem {w : Cond} {i : Nat} (h : lw_tbl[i]? = some w) (hg : goodWord w = true) : w ∈ gtbl := List.mem_filter.mpr ⟨List.mem_of_getElem? h, hg⟩
theorem nmem {w : Cond} {i : Nat} (h : lw_tbl[i]? = some w) (hg : isNest w = true) : w ∈ ntbl := List.mem_filter.mpr ⟨List.mem_of_getElem? h, hg⟩
theorem ggood {w : Cond} (h : w ∈ gtbl) : (w.onTables && w.keeps) = true ∨ ∃ ty, w = .arrayClass ty := good_of_word (List.mem_filter.mp h).2
theorem ggoodIn {c0 c1 : Cond} (h : c1 ∈ gtbl) : GoodIn gtbl (c1 :: gtbl) := by
  intro w hw
  rcases List.mem_cons.mp hw with rfl | hw
  · exact ⟨h, ggood h⟩
  · exact ⟨hw, ggood hw⟩
def pairsL : List Int32 := [60, 62, 123, 125, 34, 34, 39, 39, 40, 41, 91, 93, 39, 39, 34, 34]
def strLen : List Nat := [10, 5, 4, 5, 4]
def strByt : List (List Int32) := [[60, 62, 123, 125, 40, 41, 91, 93, 34, 39], [110, 111, 114, 116, 104], [101, 97, 115, 116], [115, 111, 117, 116, 104], [119, 101, 115, 116]]
def strIdx : List Nat := [244, 230, 232, 234, 236]
def strTx : List String := ["<>{}()[]\"'", "north", "east", "south", "west"]
def Inv (D : va_G) (cI cO : ClassId) (z tP : Nat) (aK aV : Nat → Nat) (U : State) (H : Heap) : Prop :=
  va_K D vwCl [(cI, .int), (cO, .object RX5)] U ∧ (∀ w ∈ ntbl, va_Nw w U) ∧ va_AO RX5 U ∧
  (va_Z RX6 "PAIRS" "[C" (.ref tP) (AA z) U H ∧ va_T .char tP 16 (fun j => .int (pairsL.getD j 0)) (AA z) U H) ∧
  vk_S 5 strLen strByt aK aV (AA z) U H ∧ (∀ i, i < 5 → vk_R RX6 (strIdx.getD i 0) (strTx.getD i "") (aK i) U) ∧
  va_Z RJ0 "COMPACT_STRINGS" "Z" (.int 1) (AA z) U H ∧ va_Zq RJ3 "SIOOBE_FORMATTER" "Ljava/util/function/BiFunction;" (AA z) U H
theorem nest_warm {w : Cond} (hw : w ∈ ntbl) {s U : State} (hW : s.WarmedH U.vm) (h : va_Nw w s) : va_Nw w U := by
  have hn := (List.mem_filter.mp hw).2
  cases w <;> first | exact va_Nw.warmF hW h | exact va_Nw.warmM hW h | (exact absurd hn (by simp [isNest]))
theorem Inv.moved {D : va_G} {cI cO : ClassId} {z tP : Nat} {aK aV : Nat → Nat} {s U : State} {H : Heap} (hW : s.WarmedH U.vm) (h : Inv D cI cO z tP aK aV s H) : Inv D cI cO z tP aK aV U H := by
  obtain ⟨h1, h2, h3, ⟨h4, h5⟩, h6, h7, h8, h9⟩ := h
  exact ⟨va_K.moved hW.alike h1, fun w hw => nest_warm hw hW (h2 w hw), va_AO.moved hW.alike h3, ⟨va_Z.moved hW.alike h4, va_T.moved hW.alike h5⟩, vk_S.moved hW.alike h6, fun i hi => vk_R.warm hW (h7 i hi), va_Z.moved hW.alike h8, va_Zq.moved hW.alike h9⟩
theorem Inv.kept {D : va_G} {cI cO : ClassId} {z tP : Nat} {aK aV : Nat → Nat} {U : State} {H H1 : Heap} (hq : ∀ a : Nat, a < H.size → ¬ AA z a → H1[a]? = H[a]?) (h : Inv D cI cO z tP aK aV U H) : Inv D cI cO z tP aK aV U H1 := by
  obtain ⟨h1, h2, h3, ⟨h4, h5⟩, h6, h7, h8, h9⟩ := h
  exact ⟨h1, h2, h3, ⟨h4.kept hq, h5.kept hq⟩, h6.kept hq, h7, h8.kept hq, h9.kept hq⟩
theorem Inv.calling {D : va_G} {cI cO : ClassId} {z tP : Nat} {aK aV : Nat → Nat} {U : State} {g : JFrame} {mk : MethodId} {a : Array Value} (h : Inv D cI cO z tP aK aV U U.heap) : Inv D cI cO z tP aK aV (U.calling g mk a) (U.calling g mk a).heap := by
  have hW : U.WarmedH (U.calling g mk a).vm := State.WarmedH.refl U
  exact Inv.moved (U := U.calling g mk a) hW h
/-! the judgement -/
def G (p : Program) (l : Launch) (e : Env) (R : Room) (s : State) (m : MethodId) (args : Array Value) (below : List Frame) (meth : Method) (c : Code) (D : va_G) (cI cO : ClassId) (z nL : Nat) (Q : State → Prop) (cs sl : Nat) (sh : Shp) (M : Mem) (pc : Nat) (lv : List (Option Value)) (st : List Value) : Prop :=
  ∀ (H : Heap) (locs : List Loc) (ls : Array Slot), va_P D vwCl (wl cI cO z sh M) H → va_S (AA z) s.heap H locs → lvh ls nL lv → W p l e R s m args below meth c H locs cs sl Q (F0 m pc ls st)
def Cx (p : Program) (s : State) (m : MethodId) (args : Array Value) (meth : Method) (c : Code) (D : va_G) (cI cO : ClassId) (z tP : Nat) (aK aV : Nat → Nat) (own nm : String) (cc : ByteArray) (nL : Nat) (rt : Option FieldType) : Prop :=
  p.tables.exec = Jvm.exec ∧ c.code = cc ∧ c.maxLocals = nL ∧ s.vm.findClass own = some m.cls ∧ (∀ w ∈ gtbl, w.before args s = true) ∧ Inv D cI cO z tP aK aV s s.heap ∧ meth.sig.returnType = rt ∧ meth.locks = false ∧ meth.name = nm ∧ z ≤ s.heap.size
def QP (D : va_G) (cI cO : ClassId) (z : Nat) (Post : Option Value → Shp → Mem → Prop) : Array Value → State → Outcome → State → Prop := fun _ st oc t => ∃ (v : Option Value) (sh : Shp) (M : Mem), oc = .returned v ∧ Post v sh M ∧ va_P D vwCl (wl cI cO z sh M) t.heap ∧ va_F (AA z) st t
def PP (D : va_G) (cI cO : ClassId) (z tP : Nat) (aK aV : Nat → Nat) (sh : Shp) (M : Mem) (b : Prop) (U : State) : Prop := Inv D cI cO z tP aK aV U U.heap ∧ va_P D vwCl (wl cI cO z sh M) U.heap ∧ z ≤ U.heap.size ∧ (b → U.heap.size = z + sh.length)
def Ct (l : Launch) (D : va_G) (cI cO : ClassId) (z tP : Nat) (aK aV : Nat → Nat) (y : MethodName) (cc : ByteArray) (nL : Nat) (rt : Option FieldType) (fr lo mc ms : Nat) (b : Prop) (as : List Value) (sh : Shp) (M : Mem) (Post : Option Value → Shp → Mem → Prop) : Prop :=
  Met l y (.code y cc nL rt :: gtbl) ({ frames := fr, cells := mc, slots := ms, locals := lo }) (va_Pc as (PP D cI cO z tP aK aV sh M b)) (QP D cI cO z Post) mc ms (AA z)
/-- the locals at a method's entry -/
def lvE (as : List Value) (nL : Nat) : List (Option Value) := as.map some ++ List.replicate (nL - as.length) none
theorem lv_args_1 : ∀ (as : List Value) (k : Nat), (∀ v ∈ as, v.category = 1) → ∀ (i : Nat) (v : Value), as[i]? = some v → (k + i, v) ∈ lv_args k as
  | [], _, _, i, v, h => by simp at h
  | a :: as, k, hc, 0, v, h => by
    have : a = v := by simpa using h
    subst this
    simp [lv_args]
  | a :: as, k, hc, i + 1, v, h => by
    have h1 : a.category = 1 := hc a List.mem_cons_self
    have h2 : ¬ a.category = 2 := by omega
    have ih := lv_args_1 as (k + 1) (fun v hv => hc v (List.mem_cons_of_mem _ hv)) i v (by simpa using h)
    unfold lv_args
    rw [if_neg h2]
    have e : k + (i + 1) = k + 1 + i := by omega
    rw [e]
    exact List.mem_cons_of_mem _ ih
theorem lg_sl_1 : ∀ (as : List Value), (∀ v ∈ as, v.category = 1) → (lg_sl as).length = as.length
  | [], _ => rfl
  | a :: as, hc => by
    have h1 : a.category = 1 := hc a List.mem_cons_self
    have h2 : ¬ a.category = 2 := by omega
    have ih := lg_sl_1 as (fun v hv => hc v (List.mem_cons_of_mem _ hv))
    unfold lg_sl at ih ⊢
    rw [List.flatMap_cons, if_neg h2, List.length_append, ih, List.length_singleton, List.length_cons]
    omega
theorem lvE_ok {as : List Value} {nL : Nat} (hc : ∀ v ∈ as, v.category = 1) (hn : as.length ≤ nL) : lvh ((lg_sl as ++ List.replicate (nL - (lg_sl as).length) Slot.unset).toArray) nL (lvE as nL) := by
  have h0 := lg_sl_1 as hc
  have h := lv_entry as (n := nL) (by rw [h0]; exact hn)
  refine ⟨h.1, h.2.1, ?_, fun i v hi => ?_⟩
  · simp [lvE]; omega
  · have hi2 : as[i]? = some v := by
      unfold lvE at hi
      by_cases hl : i < as.length
      · rw [List.getElem?_append_left (by simpa using hl), List.getElem?_map] at hi
        cases ha : as[i]? with
        | none => rw [ha] at hi; cases hi
        | some a => rw [ha] at hi; simp at hi; rw [hi]
      · rw [List.getElem?_append_right (by simpa using Nat.le_of_not_lt hl)] at hi
        have := List.mem_of_getElem? hi
        simp at this
    refine ⟨hc v (List.mem_of_getElem? hi2), ?_⟩
    have := lv_args_1 as 0 hc i v hi2
    rw [Nat.zero_add] at this
    exact h.2.2 (i, v) this
section GR
variable {p : Program} {l : Launch} {e : Env} {R : Room} {s : State} {m : MethodId} {args : Array Value} {below : List Frame} {meth : Method} {c : Code} {D : va_G} {cI cO : ClassId} {z tP : Nat} {aK aV : Nat → Nat} {own nm : String} {cc : ByteArray} {nL : Nat} {rt : Option FieldType} {Q : State → Prop} {cs sl : Nat} {sh : Shp} {M : Mem} {pc n : Nat} {lv : List (Option Value)} {st : List Value}
theorem ct_intro {y : MethodName} {fr lo mc ms : Nat} {b : Prop} {as : List Value} {Post : Option Value → Shp → Mem → Prop} (hy : plainName y.cls = true) (hc : ∀ v ∈ as, v.category = 1) (hn : as.length ≤ nL)
    (h : ∀ (p : Program) (e : Env) (s : State) (m : MethodId) (below : List Frame) (meth : Method) (c : Code), Cx p s m as.toArray meth c D cI cO z tP aK aV y.cls y.name cc nL rt → (b → s.heap.size = z + sh.length) → G p l e ({ frames := fr, cells := mc, slots := ms, locals := lo }) s m as.toArray below meth c D cI cO z nL (MQ below (QP D cI cO z Post) as.toArray s mc ms (AA z)) 0 0 sh M 0 (lvE as nL) []) : Ct l D cI cO z tP aK aV y cc nL rt fr lo mc ms b as sh M Post := by
  refine Met.ofW (cc := cc) (maxL := nL) (ret := rt) hy rfl ?_
  intro p e s m args below meth c s₁ B hml hv
  obtain ⟨rfl, hI, hP, hz, hsz⟩ := hv
  have hts := atoms_spec (ws := .code y cc nL rt :: gtbl) B.pre
  have C : Cx p s m as.toArray meth c D cI cO z tP aK aV y.cls y.name cc nL rt := ⟨B.exec, B.bytes, hml, findClass_of_methodNamed B.named, fun w hw => hts w (List.mem_cons_of_mem _ hw), hI, B.returns, B.notSynchronized, (name_of_methodNamed B.named B.method).1, hz⟩
  rw [lg_entry_eq]
  exact h p e s m below meth c C hsz s.heap [] _ hP va_S.rf (lvE_ok hc hn)
theorem g_iconst (C : Cx p s m args meth c D cI cO z tP aK aV own nm cc nL rt) {i : Int} {v : Int32} (hv : Int32.ofInt i = v) (hd : decode cc pc = .ok (.iconst i, 1)) (hn : pc + 1 = n) (k : G p l e R s m args below meth c D cI cO z nL Q cs sl sh M n lv (.int v :: st)) : G p l e R s m args below meth c D cI cO z nL Q cs sl sh M pc lv st := by
  subst hn
  intro H locs ls hP hS hl
  exact lv_iconst C.1 C.2.1 hd hv (k H locs ls hP hS hl)
theorem g_bipush (C : Cx p s m args meth c D cI cO z tP aK aV own nm cc nL rt) {i : Int} {v : Int32} (hv : (Int8.ofInt i).toInt32 = v) (hd : decode cc pc = .ok (.bipush i, 2)) (hn : pc + 2 = n) (k : G p l e R s m args below meth c D cI cO z nL Q cs sl sh M n lv (.int v :: st)) : G p l e R s m args below meth c D cI cO z nL Q cs sl sh M pc lv st := by
  subst hn
  intro H locs ls hP hS hl
  exact lv_bipush C.1 C.2.1 hd hv (k H locs ls hP hS hl)
theorem g_sipush (C : Cx p s m args meth c D cI cO z tP aK aV own nm cc nL rt) {i : Int} {v : Int32} (hv : (Int16.ofInt i).toInt32 = v) (hd : decode cc pc = .ok (.sipush i, 3)) (hn : pc + 3 = n) (k : G p l e R s m args below meth c D cI cO z nL Q cs sl sh M n lv (.int v :: st)) : G p l e R s m args below meth c D cI cO z nL Q cs sl sh M pc lv st := by
  subst hn
  intro H locs ls hP hS hl
  exact lv_sipush C.1 C.2.1 hd hv (k H locs ls hP hS hl)
theorem g_lconst (C : Cx p s m args meth c D cI cO z tP aK aV own nm cc nL rt) {i : Fin 2} {v : Int64} (hv : Int64.ofNat (i : Nat) = v) (hd : decode cc pc = .ok (.lconst i, 1)) (hn : pc + 1 = n) (k : G p l e R s m args below meth c D cI cO z nL Q cs sl sh M n lv (.long v :: st)) : G p l e R s m args below meth c D cI cO z nL Q cs sl sh M pc lv st := by
  subst hn
  intro H locs ls hP hS hl
  exact lv_lconst C.1 C.2.1 hd hv (k H locs ls hP hS hl)
theorem g_ldc (C : Cx p s m args meth c D cI cO z tP aK aV own nm cc nL rt) {idx : Nat} {v : Int32} (hw : Cond.constant own idx v ∈ gtbl) (hd : decode cc pc = .ok (.ldc idx, 2)) (hn : pc + 2 = n) (k : G p l e R s m args below meth c D cI cO z nL Q cs sl sh M n lv (.int v :: st)) : G p l e R s m args below meth c D cI cO z nL Q cs sl sh M pc lv st := by
  subst hn
  intro H locs ls hP hS hl
  exact lv_ldc C.1 C.2.1 C.2.2.2.1 (C.2.2.2.2.1 _ hw) hd (k H locs ls hP hS hl)
theorem g_ldc2 (C : Cx p s m args meth c D cI cO z tP aK aV own nm cc nL rt) {idx : Nat} {v : Int64} (hw : Cond.constantLong own idx v ∈ gtbl) (hd : decode cc pc = .ok (.ldc2_w idx, 3)) (hn : pc + 3 = n) (k : G p l e R s m args below meth c D cI cO z nL Q cs sl sh M n lv (.long v :: st)) : G p l e R s m args below meth c D cI cO z nL Q cs sl sh M pc lv st := by
  subst hn
  intro H locs ls hP hS hl
  exact lv_ldc2 C.1 C.2.1 C.2.2.2.1 (C.2.2.2.2.1 _ hw) hd (k H locs ls hP hS hl)
theorem g_null (C : Cx p s m args meth c D cI cO z tP aK aV own nm cc nL rt)  (hd : decode cc pc = .ok (.aconst_null, 1)) (hn : pc + 1 = n) (k : G p l e R s m args below meth c D cI cO z nL Q cs sl sh M n lv (.null :: st)) : G p l e R s m args below meth c D cI cO z nL Q cs sl sh M pc lv st := by
  subst hn
  intro H locs ls hP hS hl
  exact lv_null C.1 C.2.1 hd (k H locs ls hP hS hl)
theorem g_i2l (C : Cx p s m args meth c D cI cO z tP aK aV own nm cc nL rt) {x : Int32} (hd : decode cc pc = .ok (.i2l, 1)) (hn : pc + 1 = n) (k : G p l e R s m args below meth c D cI cO z nL Q cs sl sh M n lv (.long x.toInt64 :: st)) : G p l e R s m args below meth c D cI cO z nL Q cs sl sh M pc lv (.int x :: st) := by
  subst hn
  intro H locs ls hP hS hl
  exact lv_i2l C.1 C.2.1 hd rfl (k H locs ls hP hS hl)
theorem g_i2c (C : Cx p s m args meth c D cI cO z tP aK aV own nm cc nL rt) {x : Int32} (hd : decode cc pc = .ok (.i2c, 1)) (hn : pc + 1 = n) (k : G p l e R s m args below meth c D cI cO z nL Q cs sl sh M n lv (.int (x.toUInt32 % 65536).toInt32 :: st)) : G p l e R s m args below meth c D cI cO z nL Q cs sl sh M pc lv (.int x :: st) := by
  subst hn
  intro H locs ls hP hS hl
  exact lv_i2c C.1 C.2.1 hd rfl (k H locs ls hP hS hl)
theorem g_iadd (C : Cx p s m args meth c D cI cO z tP aK aV own nm cc nL rt) {x y : Int32} (hd : decode cc pc = .ok (.iadd, 1)) (hn : pc + 1 = n) (k : G p l e R s m args below meth c D cI cO z nL Q cs sl sh M n lv (.int (x + y) :: st)) : G p l e R s m args below meth c D cI cO z nL Q cs sl sh M pc lv (.int y :: .int x :: st) := by
  subst hn
  intro H locs ls hP hS hl
  exact lv_iadd C.1 C.2.1 hd (k H locs ls hP hS hl)
theorem g_isub (C : Cx p s m args meth c D cI cO z tP aK aV own nm cc nL rt) {x y : Int32} (hd : decode cc pc = .ok (.isub, 1)) (hn : pc + 1 = n) (k : G p l e R s m args below meth c D cI cO z nL Q cs sl sh M n lv (.int (x - y) :: st)) : G p l e R s m args below meth c D cI cO z nL Q cs sl sh M pc lv (.int y :: .int x :: st) := by
  subst hn
  intro H locs ls hP hS hl
  exact lv_isub C.1 C.2.1 hd (k H locs ls hP hS hl)
theorem g_imul (C : Cx p s m args meth c D cI cO z tP aK aV own nm cc nL rt) {x y : Int32} (hd : decode cc pc = .ok (.imul, 1)) (hn : pc + 1 = n) (k : G p l e R s m args below meth c D cI cO z nL Q cs sl sh M n lv (.int (x * y) :: st)) : G p l e R s m args below meth c D cI cO z nL Q cs sl sh M pc lv (.int y :: .int x :: st) := by
  subst hn
  intro H locs ls hP hS hl
  exact lv_imul C.1 C.2.1 hd (k H locs ls hP hS hl)
theorem g_iand (C : Cx p s m args meth c D cI cO z tP aK aV own nm cc nL rt) {x y : Int32} (hd : decode cc pc = .ok (.iand, 1)) (hn : pc + 1 = n) (k : G p l e R s m args below meth c D cI cO z nL Q cs sl sh M n lv (.int (x &&& y) :: st)) : G p l e R s m args below meth c D cI cO z nL Q cs sl sh M pc lv (.int y :: .int x :: st) := by
  subst hn
  intro H locs ls hP hS hl
  exact lv_iand C.1 C.2.1 hd (k H locs ls hP hS hl)
theorem g_idiv (C : Cx p s m args meth c D cI cO z tP aK aV own nm cc nL rt) {x y : Int32} (hne : ¬ y = 0) (hd : decode cc pc = .ok (.idiv, 1)) (hn : pc + 1 = n) (k : G p l e R s m args below meth c D cI cO z nL Q cs sl sh M n lv (.int (x / y) :: st)) : G p l e R s m args below meth c D cI cO z nL Q cs sl sh M pc lv (.int y :: .int x :: st) := by
  subst hn
  intro H locs ls hP hS hl
  exact lv_idiv C.1 C.2.1 hd hne (k H locs ls hP hS hl)
theorem g_irem (C : Cx p s m args meth c D cI cO z tP aK aV own nm cc nL rt) {x y : Int32} (hne : ¬ y = 0) (hd : decode cc pc = .ok (.irem, 1)) (hn : pc + 1 = n) (k : G p l e R s m args below meth c D cI cO z nL Q cs sl sh M n lv (.int (x - x / y * y) :: st)) : G p l e R s m args below meth c D cI cO z nL Q cs sl sh M pc lv (.int y :: .int x :: st) := by
  subst hn
  intro H locs ls hP hS hl
  exact lv_irem C.1 C.2.1 hd hne (k H locs ls hP hS hl)
theorem g_lcmp (C : Cx p s m args meth c D cI cO z tP aK aV own nm cc nL rt) {x y : Int64} (hd : decode cc pc = .ok (.lcmp, 1)) (hn : pc + 1 = n) (k : G p l e R s m args below meth c D cI cO z nL Q cs sl sh M n lv (.int (lg_cmp x y) :: st)) : G p l e R s m args below meth c D cI cO z nL Q cs sl sh M pc lv (.long y :: .long x :: st) := by
  subst hn
  intro H locs ls hP hS hl
  exact W.lcmp C.1 C.2.1 hd (k H locs ls hP hS hl)
theorem g_dup (C : Cx p s m args meth c D cI cO z tP aK aV own nm cc nL rt) {v : Value} (hv : v.category = 1) (hd : decode cc pc = .ok (.dup, 1)) (hn : pc + 1 = n) (k : G p l e R s m args below meth c D cI cO z nL Q cs sl sh M n lv (v :: v :: st)) : G p l e R s m args below meth c D cI cO z nL Q cs sl sh M pc lv (v :: st) := by
  subst hn
  intro H locs ls hP hS hl
  exact lv_dup C.1 C.2.1 hd hv (k H locs ls hP hS hl)
theorem g_dup2 (C : Cx p s m args meth c D cI cO z tP aK aV own nm cc nL rt) {v u : Value} (hv : v.category = 1) (hu : u.category = 1) (hd : decode cc pc = .ok (.dup2, 1)) (hn : pc + 1 = n) (k : G p l e R s m args below meth c D cI cO z nL Q cs sl sh M n lv (v :: u :: v :: u :: st)) : G p l e R s m args below meth c D cI cO z nL Q cs sl sh M pc lv (v :: u :: st) := by
  subst hn
  intro H locs ls hP hS hl
  exact lv_dup2_11 C.1 C.2.1 hd hv hu (k H locs ls hP hS hl)
theorem g_pop (C : Cx p s m args meth c D cI cO z tP aK aV own nm cc nL rt) {v : Value} (hv : v.category = 1) (hd : decode cc pc = .ok (.pop, 1)) (hn : pc + 1 = n) (k : G p l e R s m args below meth c D cI cO z nL Q cs sl sh M n lv st) : G p l e R s m args below meth c D cI cO z nL Q cs sl sh M pc lv (v :: st) := by
  subst hn
  intro H locs ls hP hS hl
  exact lv_pop C.1 C.2.1 hd hv (k H locs ls hP hS hl)
theorem g_iload0 (C : Cx p s m args meth c D cI cO z tP aK aV own nm cc nL rt) {r : List (Option Value)} {x : Int32} (hd : decode cc pc = .ok (.iload_n 0, 1)) (hn : pc + 1 = n) (k : G p l e R s m args below meth c D cI cO z nL Q cs sl sh M n (some (.int x) :: r) (.int x :: st)) : G p l e R s m args below meth c D cI cO z nL Q cs sl sh M pc (some (.int x) :: r) st := by
  subst hn
  intro H locs ls hP hS hl
  exact lv_iload_n C.1 C.2.1 hd rfl (hl.at (i := 0) rfl) (k H locs ls hP hS hl)
theorem g_istore0 (C : Cx p s m args meth c D cI cO z tP aK aV own nm cc nL rt) {r : List (Option Value)} {o : Option Value} {x : Int32} (hd : decode cc pc = .ok (.istore_n 0, 1)) (hn : pc + 1 = n) (k : G p l e R s m args below meth c D cI cO z nL Q cs sl sh M n (some (.int x) :: r) st) : G p l e R s m args below meth c D cI cO z nL Q cs sl sh M pc (o :: r) (.int x :: st) := by
  subst hn
  intro H locs ls hP hS hl
  exact lv_istore_n C.1 C.2.1 hd rfl hl.has (by rw [← hl.2.2.1]; simp; try omega) rfl (fun ls' h' => k H locs ls' hP hS (hl.set rfl h'))
theorem g_aload0 (C : Cx p s m args meth c D cI cO z tP aK aV own nm cc nL rt) {r : List (Option Value)} {x : Nat} (hd : decode cc pc = .ok (.aload_n 0, 1)) (hn : pc + 1 = n) (k : G p l e R s m args below meth c D cI cO z nL Q cs sl sh M n (some (.ref x) :: r) (.ref x :: st)) : G p l e R s m args below meth c D cI cO z nL Q cs sl sh M pc (some (.ref x) :: r) st := by
  subst hn
  intro H locs ls hP hS hl
  exact lv_aload_n C.1 C.2.1 hd rfl (hl.at (i := 0) rfl) (k H locs ls hP hS hl)
theorem g_astore0 (C : Cx p s m args meth c D cI cO z tP aK aV own nm cc nL rt) {r : List (Option Value)} {o : Option Value} {x : Nat} (hd : decode cc pc = .ok (.astore_n 0, 1)) (hn : pc + 1 = n) (k : G p l e R s m args below meth c D cI cO z nL Q cs sl sh M n (some (.ref x) :: r) st) : G p l e R s m args below meth c D cI cO z nL Q cs sl sh M pc (o :: r) (.ref x :: st) := by
  subst hn
  intro H locs ls hP hS hl
  exact lv_astore_n C.1 C.2.1 hd rfl hl.has (by rw [← hl.2.2.1]; simp; try omega) rfl (fun ls' h' => k H locs ls' hP hS (hl.set rfl h'))
theorem g_astoreN0 (C : Cx p s m args meth c D cI cO z tP aK aV own nm cc nL rt) {r : List (Option Value)} {o : Option Value} (hd : decode cc pc = .ok (.astore_n 0, 1)) (hn : pc + 1 = n) (k : G p l e R s m args below meth c D cI cO z nL Q cs sl sh M n (some .null :: r) st) : G p l e R s m args below meth c D cI cO z nL Q cs sl sh M pc (o :: r) (.null :: st) := by
  subst hn
  intro H locs ls hP hS hl
  exact lv_astore_nN C.1 C.2.1 hd rfl hl.has (by rw [← hl.2.2.1]; simp; try omega) rfl (fun ls' h' => k H locs ls' hP hS (hl.set rfl h'))
theorem g_aloadN0 (C : Cx p s m args meth c D cI cO z tP aK aV own nm cc nL rt) {r : List (Option Value)} (hd : decode cc pc = .ok (.aload_n 0, 1)) (hn : pc + 1 = n) (k : G p l e R s m args below meth c D cI cO z nL Q cs sl sh M n (some .null :: r) (.null :: st)) : G p l e R s m args below meth c D cI cO z nL Q cs sl sh M pc (some .null :: r) st := by
  subst hn
  intro H locs ls hP hS hl
  exact lv_aload_nN C.1 C.2.1 hd rfl (hl.at (i := 0) rfl) (k H locs ls hP hS hl)
theorem g_iinc0 (C : Cx p s m args meth c D cI cO z tP aK aV own nm cc nL rt) {r : List (Option Value)} {x v : Int32} {d : Int} (hv : x + Int32.ofInt d = v) (hd : decode cc pc = .ok (.iinc 0 d, 3)) (hn : pc + 3 = n) (k : G p l e R s m args below meth c D cI cO z nL Q cs sl sh M n (some (.int v) :: r) st) : G p l e R s m args below meth c D cI cO z nL Q cs sl sh M pc (some (.int x) :: r) st := by
  subst hn
  intro H locs ls hP hS hl
  have hm : (0, Value.int x) ∈ prs (some (.int x) :: r) := mem_prs.mpr rfl
  obtain ⟨k0, hk0⟩ := List.getElem?_of_mem hm
  exact lv_iinc C.1 C.2.1 hd hl.has hk0 hv (by rw [← hl.2.2.1]; simp; try omega) rfl (fun ls' h' => k H locs ls' hP hS (hl.set rfl h'))
theorem g_iload1 (C : Cx p s m args meth c D cI cO z tP aK aV own nm cc nL rt) {a0 : Option Value} {r : List (Option Value)} {x : Int32} (hd : decode cc pc = .ok (.iload_n 1, 1)) (hn : pc + 1 = n) (k : G p l e R s m args below meth c D cI cO z nL Q cs sl sh M n (a0 :: some (.int x) :: r) (.int x :: st)) : G p l e R s m args below meth c D cI cO z nL Q cs sl sh M pc (a0 :: some (.int x) :: r) st := by
  subst hn
  intro H locs ls hP hS hl
  exact lv_iload_n C.1 C.2.1 hd rfl (hl.at (i := 1) rfl) (k H locs ls hP hS hl)
theorem g_istore1 (C : Cx p s m args meth c D cI cO z tP aK aV own nm cc nL rt) {a0 : Option Value} {r : List (Option Value)} {o : Option Value} {x : Int32} (hd : decode cc pc = .ok (.istore_n 1, 1)) (hn : pc + 1 = n) (k : G p l e R s m args below meth c D cI cO z nL Q cs sl sh M n (a0 :: some (.int x) :: r) st) : G p l e R s m args below meth c D cI cO z nL Q cs sl sh M pc (a0 :: o :: r) (.int x :: st) := by
  subst hn
  intro H locs ls hP hS hl
  exact lv_istore_n C.1 C.2.1 hd rfl hl.has (by rw [← hl.2.2.1]; simp; try omega) rfl (fun ls' h' => k H locs ls' hP hS (hl.set rfl h'))
theorem g_aload1 (C : Cx p s m args meth c D cI cO z tP aK aV own nm cc nL rt) {a0 : Option Value} {r : List (Option Value)} {x : Nat} (hd : decode cc pc = .ok (.aload_n 1, 1)) (hn : pc + 1 = n) (k : G p l e R s m args below meth c D cI cO z nL Q cs sl sh M n (a0 :: some (.ref x) :: r) (.ref x :: st)) : G p l e R s m args below meth c D cI cO z nL Q cs sl sh M pc (a0 :: some (.ref x) :: r) st := by
  subst hn
  intro H locs ls hP hS hl
  exact lv_aload_n C.1 C.2.1 hd rfl (hl.at (i := 1) rfl) (k H locs ls hP hS hl)
theorem g_astore1 (C : Cx p s m args meth c D cI cO z tP aK aV own nm cc nL rt) {a0 : Option Value} {r : List (Option Value)} {o : Option Value} {x : Nat} (hd : decode cc pc = .ok (.astore_n 1, 1)) (hn : pc + 1 = n) (k : G p l e R s m args below meth c D cI cO z nL Q cs sl sh M n (a0 :: some (.ref x) :: r) st) : G p l e R s m args below meth c D cI cO z nL Q cs sl sh M pc (a0 :: o :: r) (.ref x :: st) := by
  subst hn
  intro H locs ls hP hS hl
  exact lv_astore_n C.1 C.2.1 hd rfl hl.has (by rw [← hl.2.2.1]; simp; try omega) rfl (fun ls' h' => k H locs ls' hP hS (hl.set rfl h'))
theorem g_astoreN1 (C : Cx p s m args meth c D cI cO z tP aK aV own nm cc nL rt) {a0 : Option Value} {r : List (Option Value)} {o : Option Value} (hd : decode cc pc = .ok (.astore_n 1, 1)) (hn : pc + 1 = n) (k : G p l e R s m args below meth c D cI cO z nL Q cs sl sh M n (a0 :: some .null :: r) st) : G p l e R s m args below meth c D cI cO z nL Q cs sl sh M pc (a0 :: o :: r) (.null :: st) := by
  subst hn
  intro H locs ls hP hS hl
  exact lv_astore_nN C.1 C.2.1 hd rfl hl.has (by rw [← hl.2.2.1]; simp; try omega) rfl (fun ls' h' => k H locs ls' hP hS (hl.set rfl h'))
theorem g_aloadN1 (C : Cx p s m args meth c D cI cO z tP aK aV own nm cc nL rt) {a0 : Option Value} {r : List (Option Value)} (hd : decode cc pc = .ok (.aload_n 1, 1)) (hn : pc + 1 = n) (k : G p l e R s m args below meth c D cI cO z nL Q cs sl sh M n (a0 :: some .null :: r) (.null :: st)) : G p l e R s m args below meth c D cI cO z nL Q cs sl sh M pc (a0 :: some .null :: r) st := by
  subst hn
  intro H locs ls hP hS hl
  exact lv_aload_nN C.1 C.2.1 hd rfl (hl.at (i := 1) rfl) (k H locs ls hP hS hl)
theorem g_iinc1 (C : Cx p s m args meth c D cI cO z tP aK aV own nm cc nL rt) {a0 : Option Value} {r : List (Option Value)} {x v : Int32} {d : Int} (hv : x + Int32.ofInt d = v) (hd : decode cc pc = .ok (.iinc 1 d, 3)) (hn : pc + 3 = n) (k : G p l e R s m args below meth c D cI cO z nL Q cs sl sh M n (a0 :: some (.int v) :: r) st) : G p l e R s m args below meth c D cI cO z nL Q cs sl sh M pc (a0 :: some (.int x) :: r) st := by
  subst hn
  intro H locs ls hP hS hl
  have hm : (1, Value.int x) ∈ prs (a0 :: some (.int x) :: r) := mem_prs.mpr rfl
  obtain ⟨k0, hk0⟩ := List.getElem?_of_mem hm
  exact lv_iinc C.1 C.2.1 hd hl.has hk0 hv (by rw [← hl.2.2.1]; simp; try omega) rfl (fun ls' h' => k H locs ls' hP hS (hl.set rfl h'))
theorem g_iload2 (C : Cx p s m args meth c D cI cO z tP aK aV own nm cc nL rt) {a0 a1 : Option Value} {r : List (Option Value)} {x : Int32} (hd : decode cc pc = .ok (.iload_n 2, 1)) (hn : pc + 1 = n) (k : G p l e R s m args below meth c D cI cO z nL Q cs sl sh M n (a0 :: a1 :: some (.int x) :: r) (.int x :: st)) : G p l e R s m args below meth c D cI cO z nL Q cs sl sh M pc (a0 :: a1 :: some (.int x) :: r) st := by
  subst hn
  intro H locs ls hP hS hl
  exact lv_iload_n C.1 C.2.1 hd rfl (hl.at (i := 2) rfl) (k H locs ls hP hS hl)
theorem g_istore2 (C : Cx p s m args meth c D cI cO z tP aK aV own nm cc nL rt) {a0 a1 : Option Value} {r : List (Option Value)} {o : Option Value} {x : Int32} (hd : decode cc pc = .ok (.istore_n 2, 1)) (hn : pc + 1 = n) (k : G p l e R s m args below meth c D cI cO z nL Q cs sl sh M n (a0 :: a1 :: some (.int x) :: r) st) : G p l e R s m args below meth c D cI cO z nL Q cs sl sh M pc (a0 :: a1 :: o :: r) (.int x :: st) := by
  subst hn
  intro H locs ls hP hS hl
  exact lv_istore_n C.1 C.2.1 hd rfl hl.has (by rw [← hl.2.2.1]; simp; try omega) rfl (fun ls' h' => k H locs ls' hP hS (hl.set rfl h'))
theorem g_aload2 (C : Cx p s m args meth c D cI cO z tP aK aV own nm cc nL rt) {a0 a1 : Option Value} {r : List (Option Value)} {x : Nat} (hd : decode cc pc = .ok (.aload_n 2, 1)) (hn : pc + 1 = n) (k : G p l e R s m args below meth c D cI cO z nL Q cs sl sh M n (a0 :: a1 :: some (.ref x) :: r) (.ref x :: st)) : G p l e R s m args below meth c D cI cO z nL Q cs sl sh M pc (a0 :: a1 :: some (.ref x) :: r) st := by
  subst hn
  intro H locs ls hP hS hl
  exact lv_aload_n C.1 C.2.1 hd rfl (hl.at (i := 2) rfl) (k H locs ls hP hS hl)
theorem g_astore2 (C : Cx p s m args meth c D cI cO z tP aK aV own nm cc nL rt) {a0 a1 : Option Value} {r : List (Option Value)} {o : Option Value} {x : Nat} (hd : decode cc pc = .ok (.astore_n 2, 1)) (hn : pc + 1 = n) (k : G p l e R s m args below meth c D cI cO z nL Q cs sl sh M n (a0 :: a1 :: some (.ref x) :: r) st) : G p l e R s m args below meth c D cI cO z nL Q cs sl sh M pc (a0 :: a1 :: o :: r) (.ref x :: st) := by
  subst hn
  intro H locs ls hP hS hl
  exact lv_astore_n C.1 C.2.1 hd rfl hl.has (by rw [← hl.2.2.1]; simp; try omega) rfl (fun ls' h' => k H locs ls' hP hS (hl.set rfl h'))
theorem g_astoreN2 (C : Cx p s m args meth c D cI cO z tP aK aV own nm cc nL rt) {a0 a1 : Option Value} {r : List (Option Value)} {o : Option Value} (hd : decode cc pc = .ok (.astore_n 2, 1)) (hn : pc + 1 = n) (k : G p l e R s m args below meth c D cI cO z nL Q cs sl sh M n (a0 :: a1 :: some .null :: r) st) : G p l e R s m args below meth c D cI cO z nL Q cs sl sh M pc (a0 :: a1 :: o :: r) (.null :: st) := by
  subst hn
  intro H locs ls hP hS hl
  exact lv_astore_nN C.1 C.2.1 hd rfl hl.has (by rw [← hl.2.2.1]; simp; try omega) rfl (fun ls' h' => k H locs ls' hP hS (hl.set rfl h'))
theorem g_aloadN2 (C : Cx p s m args meth c D cI cO z tP aK aV own nm cc nL rt) {a0 a1 : Option Value} {r : List (Option Value)} (hd : decode cc pc = .ok (.aload_n 2, 1)) (hn : pc + 1 = n) (k : G p l e R s m args below meth c D cI cO z nL Q cs sl sh M n (a0 :: a1 :: some .null :: r) (.null :: st)) : G p l e R s m args below meth c D cI cO z nL Q cs sl sh M pc (a0 :: a1 :: some .null :: r) st := by
  subst hn
  intro H locs ls hP hS hl
  exact lv_aload_nN C.1 C.2.1 hd rfl (hl.at (i := 2) rfl) (k H locs ls hP hS hl)
theorem g_iinc2 (C : Cx p s m args meth c D cI cO z tP aK aV own nm cc nL rt) {a0 a1 : Option Value} {r : List (Option Value)} {x v : Int32} {d : Int} (hv : x + Int32.ofInt d = v) (hd : decode cc pc = .ok (.iinc 2 d, 3)) (hn : pc + 3 = n) (k : G p l e R s m args below meth c D cI cO z nL Q cs sl sh M n (a0 :: a1 :: some (.int v) :: r) st) : G p l e R s m args below meth c D cI cO z nL Q cs sl sh M pc (a0 :: a1 :: some (.int x) :: r) st := by
  subst hn
  intro H locs ls hP hS hl
  have hm : (2, Value.int x) ∈ prs (a0 :: a1 :: some (.int x) :: r) := mem_prs.mpr rfl
  obtain ⟨k0, hk0⟩ := List.getElem?_of_mem hm
  exact lv_iinc C.1 C.2.1 hd hl.has hk0 hv (by rw [← hl.2.2.1]; simp; try omega) rfl (fun ls' h' => k H locs ls' hP hS (hl.set rfl h'))
theorem g_iload3 (C : Cx p s m args meth c D cI cO z tP aK aV own nm cc nL rt) {a0 a1 a2 : Option Value} {r : List (Option Value)} {x : Int32} (hd : decode cc pc = .ok (.iload_n 3, 1)) (hn : pc + 1 = n) (k : G p l e R s m args below meth c D cI cO z nL Q cs sl sh M n (a0 :: a1 :: a2 :: some (.int x) :: r) (.int x :: st)) : G p l e R s m args below meth c D cI cO z nL Q cs sl sh M pc (a0 :: a1 :: a2 :: some (.int x) :: r) st := by
  subst hn
  intro H locs ls hP hS hl
  exact lv_iload_n C.1 C.2.1 hd rfl (hl.at (i := 3) rfl) (k H locs ls hP hS hl)
theorem g_istore3 (C : Cx p s m args meth c D cI cO z tP aK aV own nm cc nL rt) {a0 a1 a2 : Option Value} {r : List (Option Value)} {o : Option Value} {x : Int32} (hd : decode cc pc = .ok (.istore_n 3, 1)) (hn : pc + 1 = n) (k : G p l e R s m args below meth c D cI cO z nL Q cs sl sh M n (a0 :: a1 :: a2 :: some (.int x) :: r) st) : G p l e R s m args below meth c D cI cO z nL Q cs sl sh M pc (a0 :: a1 :: a2 :: o :: r) (.int x :: st) := by
  subst hn
  intro H locs ls hP hS hl
  exact lv_istore_n C.1 C.2.1 hd rfl hl.has (by rw [← hl.2.2.1]; simp; try omega) rfl (fun ls' h' => k H locs ls' hP hS (hl.set rfl h'))
theorem g_aload3 (C : Cx p s m args meth c D cI cO z tP aK aV own nm cc nL rt) {a0 a1 a2 : Option Value} {r : List (Option Value)} {x : Nat} (hd : decode cc pc = .ok (.aload_n 3, 1)) (hn : pc + 1 = n) (k : G p l e R s m args below meth c D cI cO z nL Q cs sl sh M n (a0 :: a1 :: a2 :: some (.ref x) :: r) (.ref x :: st)) : G p l e R s m args below meth c D cI cO z nL Q cs sl sh M pc (a0 :: a1 :: a2 :: some (.ref x) :: r) st := by
  subst hn
  intro H locs ls hP hS hl
  exact lv_aload_n C.1 C.2.1 hd rfl (hl.at (i := 3) rfl) (k H locs ls hP hS hl)
theorem g_astore3 (C : Cx p s m args meth c D cI cO z tP aK aV own nm cc nL rt) {a0 a1 a2 : Option Value} {r : List (Option Value)} {o : Option Value} {x : Nat} (hd : decode cc pc = .ok (.astore_n 3, 1)) (hn : pc + 1 = n) (k : G p l e R s m args below meth c D cI cO z nL Q cs sl sh M n (a0 :: a1 :: a2 :: some (.ref x) :: r) st) : G p l e R s m args below meth c D cI cO z nL Q cs sl sh M pc (a0 :: a1 :: a2 :: o :: r) (.ref x :: st) := by
  subst hn
  intro H locs ls hP hS hl
  exact lv_astore_n C.1 C.2.1 hd rfl hl.has (by rw [← hl.2.2.1]; simp; try omega) rfl (fun ls' h' => k H locs ls' hP hS (hl.set rfl h'))
theorem g_astoreN3 (C : Cx p s m args meth c D cI cO z tP aK aV own nm cc nL rt) {a0 a1 a2 : Option Value} {r : List (Option Value)} {o : Option Value} (hd : decode cc pc = .ok (.astore_n 3, 1)) (hn : pc + 1 = n) (k : G p l e R s m args below meth c D cI cO z nL Q cs sl sh M n (a0 :: a1 :: a2 :: some .null :: r) st) : G p l e R s m args below meth c D cI cO z nL Q cs sl sh M pc (a0 :: a1 :: a2 :: o :: r) (.null :: st) := by
  subst hn
  intro H locs ls hP hS hl
  exact lv_astore_nN C.1 C.2.1 hd rfl hl.has (by rw [← hl.2.2.1]; simp; try omega) rfl (fun ls' h' => k H locs ls' hP hS (hl.set rfl h'))
theorem g_aloadN3 (C : Cx p s m args meth c D cI cO z tP aK aV own nm cc nL rt) {a0 a1 a2 : Option Value} {r : List (Option Value)} (hd : decode cc pc = .ok (.aload_n 3, 1)) (hn : pc + 1 = n) (k : G p l e R s m args below meth c D cI cO z nL Q cs sl sh M n (a0 :: a1 :: a2 :: some .null :: r) (.null :: st)) : G p l e R s m args below meth c D cI cO z nL Q cs sl sh M pc (a0 :: a1 :: a2 :: some .null :: r) st := by
  subst hn
  intro H locs ls hP hS hl
  exact lv_aload_nN C.1 C.2.1 hd rfl (hl.at (i := 3) rfl) (k H locs ls hP hS hl)
theorem g_iinc3 (C : Cx p s m args meth c D cI cO z tP aK aV own nm cc nL rt) {a0 a1 a2 : Option Value} {r : List (Option Value)} {x v : Int32} {d : Int} (hv : x + Int32.ofInt d = v) (hd : decode cc pc = .ok (.iinc 3 d, 3)) (hn : pc + 3 = n) (k : G p l e R s m args below meth c D cI cO z nL Q cs sl sh M n (a0 :: a1 :: a2 :: some (.int v) :: r) st) : G p l e R s m args below meth c D cI cO z nL Q cs sl sh M pc (a0 :: a1 :: a2 :: some (.int x) :: r) st := by
  subst hn
  intro H locs ls hP hS hl
  have hm : (3, Value.int x) ∈ prs (a0 :: a1 :: a2 :: some (.int x) :: r) := mem_prs.mpr rfl
  obtain ⟨k0, hk0⟩ := List.getElem?_of_mem hm
  exact lv_iinc C.1 C.2.1 hd hl.has hk0 hv (by rw [← hl.2.2.1]; simp; try omega) rfl (fun ls' h' => k H locs ls' hP hS (hl.set rfl h'))
theorem g_iload4 (C : Cx p s m args meth c D cI cO z tP aK aV own nm cc nL rt) {a0 a1 a2 a3 : Option Value} {r : List (Option Value)} {x : Int32} (hd : decode cc pc = .ok (.iload 4, 2)) (hn : pc + 2 = n) (k : G p l e R s m args below meth c D cI cO z nL Q cs sl sh M n (a0 :: a1 :: a2 :: a3 :: some (.int x) :: r) (.int x :: st)) : G p l e R s m args below meth c D cI cO z nL Q cs sl sh M pc (a0 :: a1 :: a2 :: a3 :: some (.int x) :: r) st := by
  subst hn
  intro H locs ls hP hS hl
  exact lv_iload C.1 C.2.1 hd (hl.at (i := 4) rfl) (k H locs ls hP hS hl)
theorem g_istore4 (C : Cx p s m args meth c D cI cO z tP aK aV own nm cc nL rt) {a0 a1 a2 a3 : Option Value} {r : List (Option Value)} {o : Option Value} {x : Int32} (hd : decode cc pc = .ok (.istore 4, 2)) (hn : pc + 2 = n) (k : G p l e R s m args below meth c D cI cO z nL Q cs sl sh M n (a0 :: a1 :: a2 :: a3 :: some (.int x) :: r) st) : G p l e R s m args below meth c D cI cO z nL Q cs sl sh M pc (a0 :: a1 :: a2 :: a3 :: o :: r) (.int x :: st) := by
  subst hn
  intro H locs ls hP hS hl
  exact lv_istore C.1 C.2.1 hd hl.has (by rw [← hl.2.2.1]; simp; try omega) rfl (fun ls' h' => k H locs ls' hP hS (hl.set rfl h'))
theorem g_aload4 (C : Cx p s m args meth c D cI cO z tP aK aV own nm cc nL rt) {a0 a1 a2 a3 : Option Value} {r : List (Option Value)} {x : Nat} (hd : decode cc pc = .ok (.aload 4, 2)) (hn : pc + 2 = n) (k : G p l e R s m args below meth c D cI cO z nL Q cs sl sh M n (a0 :: a1 :: a2 :: a3 :: some (.ref x) :: r) (.ref x :: st)) : G p l e R s m args below meth c D cI cO z nL Q cs sl sh M pc (a0 :: a1 :: a2 :: a3 :: some (.ref x) :: r) st := by
  subst hn
  intro H locs ls hP hS hl
  exact lv_aload C.1 C.2.1 hd (hl.at (i := 4) rfl) (k H locs ls hP hS hl)
theorem g_astore4 (C : Cx p s m args meth c D cI cO z tP aK aV own nm cc nL rt) {a0 a1 a2 a3 : Option Value} {r : List (Option Value)} {o : Option Value} {x : Nat} (hd : decode cc pc = .ok (.astore 4, 2)) (hn : pc + 2 = n) (k : G p l e R s m args below meth c D cI cO z nL Q cs sl sh M n (a0 :: a1 :: a2 :: a3 :: some (.ref x) :: r) st) : G p l e R s m args below meth c D cI cO z nL Q cs sl sh M pc (a0 :: a1 :: a2 :: a3 :: o :: r) (.ref x :: st) := by
  subst hn
  intro H locs ls hP hS hl
  exact lv_astore C.1 C.2.1 hd hl.has (by rw [← hl.2.2.1]; simp; try omega) rfl (fun ls' h' => k H locs ls' hP hS (hl.set rfl h'))
theorem g_iinc4 (C : Cx p s m args meth c D cI cO z tP aK aV own nm cc nL rt) {a0 a1 a2 a3 : Option Value} {r : List (Option Value)} {x v : Int32} {d : Int} (hv : x + Int32.ofInt d = v) (hd : decode cc pc = .ok (.iinc 4 d, 3)) (hn : pc + 3 = n) (k : G p l e R s m args below meth c D cI cO z nL Q cs sl sh M n (a0 :: a1 :: a2 :: a3 :: some (.int v) :: r) st) : G p l e R s m args below meth c D cI cO z nL Q cs sl sh M pc (a0 :: a1 :: a2 :: a3 :: some (.int x) :: r) st := by
  subst hn
  intro H locs ls hP hS hl
  have hm : (4, Value.int x) ∈ prs (a0 :: a1 :: a2 :: a3 :: some (.int x) :: r) := mem_prs.mpr rfl
  obtain ⟨k0, hk0⟩ := List.getElem?_of_mem hm
  exact lv_iinc C.1 C.2.1 hd hl.has hk0 hv (by rw [← hl.2.2.1]; simp; try omega) rfl (fun ls' h' => k H locs ls' hP hS (hl.set rfl h'))
theorem g_iload5 (C : Cx p s m args meth c D cI cO z tP aK aV own nm cc nL rt) {a0 a1 a2 a3 a4 : Option Value} {r : List (Option Value)} {x : Int32} (hd : decode cc pc = .ok (.iload 5, 2)) (hn : pc + 2 = n) (k : G p l e R s m args below meth c D cI cO z nL Q cs sl sh M n (a0 :: a1 :: a2 :: a3 :: a4 :: some (.int x) :: r) (.int x :: st)) : G p l e R s m args below meth c D cI cO z nL Q cs sl sh M pc (a0 :: a1 :: a2 :: a3 :: a4 :: some (.int x) :: r) st := by
  subst hn
  intro H locs ls hP hS hl
  exact lv_iload C.1 C.2.1 hd (hl.at (i := 5) rfl) (k H locs ls hP hS hl)
theorem g_istore5 (C : Cx p s m args meth c D cI cO z tP aK aV own nm cc nL rt) {a0 a1 a2 a3 a4 : Option Value} {r : List (Option Value)} {o : Option Value} {x : Int32} (hd : decode cc pc = .ok (.istore 5, 2)) (hn : pc + 2 = n) (k : G p l e R s m args below meth c D cI cO z nL Q cs sl sh M n (a0 :: a1 :: a2 :: a3 :: a4 :: some (.int x) :: r) st) : G p l e R s m args below meth c D cI cO z nL Q cs sl sh M pc (a0 :: a1 :: a2 :: a3 :: a4 :: o :: r) (.int x :: st) := by
  subst hn
  intro H locs ls hP hS hl
  exact lv_istore C.1 C.2.1 hd hl.has (by rw [← hl.2.2.1]; simp; try omega) rfl (fun ls' h' => k H locs ls' hP hS (hl.set rfl h'))
theorem g_aload5 (C : Cx p s m args meth c D cI cO z tP aK aV own nm cc nL rt) {a0 a1 a2 a3 a4 : Option Value} {r : List (Option Value)} {x : Nat} (hd : decode cc pc = .ok (.aload 5, 2)) (hn : pc + 2 = n) (k : G p l e R s m args below meth c D cI cO z nL Q cs sl sh M n (a0 :: a1 :: a2 :: a3 :: a4 :: some (.ref x) :: r) (.ref x :: st)) : G p l e R s m args below meth c D cI cO z nL Q cs sl sh M pc (a0 :: a1 :: a2 :: a3 :: a4 :: some (.ref x) :: r) st := by
  subst hn
  intro H locs ls hP hS hl
  exact lv_aload C.1 C.2.1 hd (hl.at (i := 5) rfl) (k H locs ls hP hS hl)
theorem g_astore5 (C : Cx p s m args meth c D cI cO z tP aK aV own nm cc nL rt) {a0 a1 a2 a3 a4 : Option Value} {r : List (Option Value)} {o : Option Value} {x : Nat} (hd : decode cc pc = .ok (.astore 5, 2)) (hn : pc + 2 = n) (k : G p l e R s m args below meth c D cI cO z nL Q cs sl sh M n (a0 :: a1 :: a2 :: a3 :: a4 :: some (.ref x) :: r) st) : G p l e R s m args below meth c D cI cO z nL Q cs sl sh M pc (a0 :: a1 :: a2 :: a3 :: a4 :: o :: r) (.ref x :: st) := by
  subst hn
  intro H locs ls hP hS hl
  exact lv_astore C.1 C.2.1 hd hl.has (by rw [← hl.2.2.1]; simp; try omega) rfl (fun ls' h' => k H locs ls' hP hS (hl.set rfl h'))
theorem g_iinc5 (C : Cx p s m args meth c D cI cO z tP aK aV own nm cc nL rt) {a0 a1 a2 a3 a4 : Option Value} {r : List (Option Value)} {x v : Int32} {d : Int} (hv : x + Int32.ofInt d = v) (hd : decode cc pc = .ok (.iinc 5 d, 3)) (hn : pc + 3 = n) (k : G p l e R s m args below meth c D cI cO z nL Q cs sl sh M n (a0 :: a1 :: a2 :: a3 :: a4 :: some (.int v) :: r) st) : G p l e R s m args below meth c D cI cO z nL Q cs sl sh M pc (a0 :: a1 :: a2 :: a3 :: a4 :: some (.int x) :: r) st := by
  subst hn
  intro H locs ls hP hS hl
  have hm : (5, Value.int x) ∈ prs (a0 :: a1 :: a2 :: a3 :: a4 :: some (.int x) :: r) := mem_prs.mpr rfl
  obtain ⟨k0, hk0⟩ := List.getElem?_of_mem hm
  exact lv_iinc C.1 C.2.1 hd hl.has hk0 hv (by rw [← hl.2.2.1]; simp; try omega) rfl (fun ls' h' => k H locs ls' hP hS (hl.set rfl h'))
theorem g_iload6 (C : Cx p s m args meth c D cI cO z tP aK aV own nm cc nL rt) {a0 a1 a2 a3 a4 a5 : Option Value} {r : List (Option Value)} {x : Int32} (hd : decode cc pc = .ok (.iload 6, 2)) (hn : pc + 2 = n) (k : G p l e R s m args below meth c D cI cO z nL Q cs sl sh M n (a0 :: a1 :: a2 :: a3 :: a4 :: a5 :: some (.int x) :: r) (.int x :: st)) : G p l e R s m args below meth c D cI cO z nL Q cs sl sh M pc (a0 :: a1 :: a2 :: a3 :: a4 :: a5 :: some (.int x) :: r) st := by
  subst hn
  intro H locs ls hP hS hl
  exact lv_iload C.1 C.2.1 hd (hl.at (i := 6) rfl) (k H locs ls hP hS hl)
theorem g_istore6 (C : Cx p s m args meth c D cI cO z tP aK aV own nm cc nL rt) {a0 a1 a2 a3 a4 a5 : Option Value} {r : List (Option Value)} {o : Option Value} {x : Int32} (hd : decode cc pc = .ok (.istore 6, 2)) (hn : pc + 2 = n) (k : G p l e R s m args below meth c D cI cO z nL Q cs sl sh M n (a0 :: a1 :: a2 :: a3 :: a4 :: a5 :: some (.int x) :: r) st) : G p l e R s m args below meth c D cI cO z nL Q cs sl sh M pc (a0 :: a1 :: a2 :: a3 :: a4 :: a5 :: o :: r) (.int x :: st) := by
  subst hn
  intro H locs ls hP hS hl
  exact lv_istore C.1 C.2.1 hd hl.has (by rw [← hl.2.2.1]; simp; try omega) rfl (fun ls' h' => k H locs ls' hP hS (hl.set rfl h'))
theorem g_aload6 (C : Cx p s m args meth c D cI cO z tP aK aV own nm cc nL rt) {a0 a1 a2 a3 a4 a5 : Option Value} {r : List (Option Value)} {x : Nat} (hd : decode cc pc = .ok (.aload 6, 2)) (hn : pc + 2 = n) (k : G p l e R s m args below meth c D cI cO z nL Q cs sl sh M n (a0 :: a1 :: a2 :: a3 :: a4 :: a5 :: some (.ref x) :: r) (.ref x :: st)) : G p l e R s m args below meth c D cI cO z nL Q cs sl sh M pc (a0 :: a1 :: a2 :: a3 :: a4 :: a5 :: some (.ref x) :: r) st := by
  subst hn
  intro H locs ls hP hS hl
  exact lv_aload C.1 C.2.1 hd (hl.at (i := 6) rfl) (k H locs ls hP hS hl)
theorem g_astore6 (C : Cx p s m args meth c D cI cO z tP aK aV own nm cc nL rt) {a0 a1 a2 a3 a4 a5 : Option Value} {r : List (Option Value)} {o : Option Value} {x : Nat} (hd : decode cc pc = .ok (.astore 6, 2)) (hn : pc + 2 = n) (k : G p l e R s m args below meth c D cI cO z nL Q cs sl sh M n (a0 :: a1 :: a2 :: a3 :: a4 :: a5 :: some (.ref x) :: r) st) : G p l e R s m args below meth c D cI cO z nL Q cs sl sh M pc (a0 :: a1 :: a2 :: a3 :: a4 :: a5 :: o :: r) (.ref x :: st) := by
  subst hn
  intro H locs ls hP hS hl
  exact lv_astore C.1 C.2.1 hd hl.has (by rw [← hl.2.2.1]; simp; try omega) rfl (fun ls' h' => k H locs ls' hP hS (hl.set rfl h'))
theorem g_iinc6 (C : Cx p s m args meth c D cI cO z tP aK aV own nm cc nL rt) {a0 a1 a2 a3 a4 a5 : Option Value} {r : List (Option Value)} {x v : Int32} {d : Int} (hv : x + Int32.ofInt d = v) (hd : decode cc pc = .ok (.iinc 6 d, 3)) (hn : pc + 3 = n) (k : G p l e R s m args below meth c D cI cO z nL Q cs sl sh M n (a0 :: a1 :: a2 :: a3 :: a4 :: a5 :: some (.int v) :: r) st) : G p l e R s m args below meth c D cI cO z nL Q cs sl sh M pc (a0 :: a1 :: a2 :: a3 :: a4 :: a5 :: some (.int x) :: r) st := by
  subst hn
  intro H locs ls hP hS hl
  have hm : (6, Value.int x) ∈ prs (a0 :: a1 :: a2 :: a3 :: a4 :: a5 :: some (.int x) :: r) := mem_prs.mpr rfl
  obtain ⟨k0, hk0⟩ := List.getElem?_of_mem hm
  exact lv_iinc C.1 C.2.1 hd hl.has hk0 hv (by rw [← hl.2.2.1]; simp; try omega) rfl (fun ls' h' => k H locs ls' hP hS (hl.set rfl h'))
theorem g_iload7 (C : Cx p s m args meth c D cI cO z tP aK aV own nm cc nL rt) {a0 a1 a2 a3 a4 a5 a6 : Option Value} {r : List (Option Value)} {x : Int32} (hd : decode cc pc = .ok (.iload 7, 2)) (hn : pc + 2 = n) (k : G p l e R s m args below meth c D cI cO z nL Q cs sl sh M n (a0 :: a1 :: a2 :: a3 :: a4 :: a5 :: a6 :: some (.int x) :: r) (.int x :: st)) : G p l e R s m args below meth c D cI cO z nL Q cs sl sh M pc (a0 :: a1 :: a2 :: a3 :: a4 :: a5 :: a6 :: some (.int x) :: r) st := by
  subst hn
  intro H locs ls hP hS hl
  exact lv_iload C.1 C.2.1 hd (hl.at (i := 7) rfl) (k H locs ls hP hS hl)
theorem g_istore7 (C : Cx p s m args meth c D cI cO z tP aK aV own nm cc nL rt) {a0 a1 a2 a3 a4 a5 a6 : Option Value} {r : List (Option Value)} {o : Option Value} {x : Int32} (hd : decode cc pc = .ok (.istore 7, 2)) (hn : pc + 2 = n) (k : G p l e R s m args below meth c D cI cO z nL Q cs sl sh M n (a0 :: a1 :: a2 :: a3 :: a4 :: a5 :: a6 :: some (.int x) :: r) st) : G p l e R s m args below meth c D cI cO z nL Q cs sl sh M pc (a0 :: a1 :: a2 :: a3 :: a4 :: a5 :: a6 :: o :: r) (.int x :: st) := by
  subst hn
  intro H locs ls hP hS hl
  exact lv_istore C.1 C.2.1 hd hl.has (by rw [← hl.2.2.1]; simp; try omega) rfl (fun ls' h' => k H locs ls' hP hS (hl.set rfl h'))
theorem g_aload7 (C : Cx p s m args meth c D cI cO z tP aK aV own nm cc nL rt) {a0 a1 a2 a3 a4 a5 a6 : Option Value} {r : List (Option Value)} {x : Nat} (hd : decode cc pc = .ok (.aload 7, 2)) (hn : pc + 2 = n) (k : G p l e R s m args below meth c D cI cO z nL Q cs sl sh M n (a0 :: a1 :: a2 :: a3 :: a4 :: a5 :: a6 :: some (.ref x) :: r) (.ref x :: st)) : G p l e R s m args below meth c D cI cO z nL Q cs sl sh M pc (a0 :: a1 :: a2 :: a3 :: a4 :: a5 :: a6 :: some (.ref x) :: r) st := by
  subst hn
  intro H locs ls hP hS hl
  exact lv_aload C.1 C.2.1 hd (hl.at (i := 7) rfl) (k H locs ls hP hS hl)
theorem g_astore7 (C : Cx p s m args meth c D cI cO z tP aK aV own nm cc nL rt) {a0 a1 a2 a3 a4 a5 a6 : Option Value} {r : List (Option Value)} {o : Option Value} {x : Nat} (hd : decode cc pc = .ok (.astore 7, 2)) (hn : pc + 2 = n) (k : G p l e R s m args below meth c D cI cO z nL Q cs sl sh M n (a0 :: a1 :: a2 :: a3 :: a4 :: a5 :: a6 :: some (.ref x) :: r) st) : G p l e R s m args below meth c D cI cO z nL Q cs sl sh M pc (a0 :: a1 :: a2 :: a3 :: a4 :: a5 :: a6 :: o :: r) (.ref x :: st) := by
  subst hn
  intro H locs ls hP hS hl
  exact lv_astore C.1 C.2.1 hd hl.has (by rw [← hl.2.2.1]; simp; try omega) rfl (fun ls' h' => k H locs ls' hP hS (hl.set rfl h'))
theorem g_iinc7 (C : Cx p s m args meth c D cI cO z tP aK aV own nm cc nL rt) {a0 a1 a2 a3 a4 a5 a6 : Option Value} {r : List (Option Value)} {x v : Int32} {d : Int} (hv : x + Int32.ofInt d = v) (hd : decode cc pc = .ok (.iinc 7 d, 3)) (hn : pc + 3 = n) (k : G p l e R s m args below meth c D cI cO z nL Q cs sl sh M n (a0 :: a1 :: a2 :: a3 :: a4 :: a5 :: a6 :: some (.int v) :: r) st) : G p l e R s m args below meth c D cI cO z nL Q cs sl sh M pc (a0 :: a1 :: a2 :: a3 :: a4 :: a5 :: a6 :: some (.int x) :: r) st := by
  subst hn
  intro H locs ls hP hS hl
  have hm : (7, Value.int x) ∈ prs (a0 :: a1 :: a2 :: a3 :: a4 :: a5 :: a6 :: some (.int x) :: r) := mem_prs.mpr rfl
  obtain ⟨k0, hk0⟩ := List.getElem?_of_mem hm
  exact lv_iinc C.1 C.2.1 hd hl.has hk0 hv (by rw [← hl.2.2.1]; simp; try omega) rfl (fun ls' h' => k H locs ls' hP hS (hl.set rfl h'))
theorem g_iload8 (C : Cx p s m args meth c D cI cO z tP aK aV own nm cc nL rt) {a0 a1 a2 a3 a4 a5 a6 a7 : Option Value} {r : List (Option Value)} {x : Int32} (hd : decode cc pc = .ok (.iload 8, 2)) (hn : pc + 2 = n) (k : G p l e R s m args below meth c D cI cO z nL Q cs sl sh M n (a0 :: a1 :: a2 :: a3 :: a4 :: a5 :: a6 :: a7 :: some (.int x) :: r) (.int x :: st)) : G p l e R s m args below meth c D cI cO z nL Q cs sl sh M pc (a0 :: a1 :: a2 :: a3 :: a4 :: a5 :: a6 :: a7 :: some (.int x) :: r) st := by
  subst hn
  intro H locs ls hP hS hl
  exact lv_iload C.1 C.2.1 hd (hl.at (i := 8) rfl) (k H locs ls hP hS hl)
theorem g_istore8 (C : Cx p s m args meth c D cI cO z tP aK aV own nm cc nL rt) {a0 a1 a2 a3 a4 a5 a6 a7 : Option Value} {r : List (Option Value)} {o : Option Value} {x : Int32} (hd : decode cc pc = .ok (.istore 8, 2)) (hn : pc + 2 = n) (k : G p l e R s m args below meth c D cI cO z nL Q cs sl sh M n (a0 :: a1 :: a2 :: a3 :: a4 :: a5 :: a6 :: a7 :: some (.int x) :: r) st) : G p l e R s m args below meth c D cI cO z nL Q cs sl sh M pc (a0 :: a1 :: a2 :: a3 :: a4 :: a5 :: a6 :: a7 :: o :: r) (.int x :: st) := by
  subst hn
  intro H locs ls hP hS hl
  exact lv_istore C.1 C.2.1 hd hl.has (by rw [← hl.2.2.1]; simp; try omega) rfl (fun ls' h' => k H locs ls' hP hS (hl.set rfl h'))
theorem g_aload8 (C : Cx p s m args meth c D cI cO z tP aK aV own nm cc nL rt) {a0 a1 a2 a3 a4 a5 a6 a7 : Option Value} {r : List (Option Value)} {x : Nat} (hd : decode cc pc = .ok (.aload 8, 2)) (hn : pc + 2 = n) (k : G p l e R s m args below meth c D cI cO z nL Q cs sl sh M n (a0 :: a1 :: a2 :: a3 :: a4 :: a5 :: a6 :: a7 :: some (.ref x) :: r) (.ref x :: st)) : G p l e R s m args below meth c D cI cO z nL Q cs sl sh M pc (a0 :: a1 :: a2 :: a3 :: a4 :: a5 :: a6 :: a7 :: some (.ref x) :: r) st := by
  subst hn
  intro H locs ls hP hS hl
  exact lv_aload C.1 C.2.1 hd (hl.at (i := 8) rfl) (k H locs ls hP hS hl)
theorem g_astore8 (C : Cx p s m args meth c D cI cO z tP aK aV own nm cc nL rt) {a0 a1 a2 a3 a4 a5 a6 a7 : Option Value} {r : List (Option Value)} {o : Option Value} {x : Nat} (hd : decode cc pc = .ok (.astore 8, 2)) (hn : pc + 2 = n) (k : G p l e R s m args below meth c D cI cO z nL Q cs sl sh M n (a0 :: a1 :: a2 :: a3 :: a4 :: a5 :: a6 :: a7 :: some (.ref x) :: r) st) : G p l e R s m args below meth c D cI cO z nL Q cs sl sh M pc (a0 :: a1 :: a2 :: a3 :: a4 :: a5 :: a6 :: a7 :: o :: r) (.ref x :: st) := by
  subst hn
  intro H locs ls hP hS hl
  exact lv_astore C.1 C.2.1 hd hl.has (by rw [← hl.2.2.1]; simp; try omega) rfl (fun ls' h' => k H locs ls' hP hS (hl.set rfl h'))
theorem g_iinc8 (C : Cx p s m args meth c D cI cO z tP aK aV own nm cc nL rt) {a0 a1 a2 a3 a4 a5 a6 a7 : Option Value} {r : List (Option Value)} {x v : Int32} {d : Int} (hv : x + Int32.ofInt d = v) (hd : decode cc pc = .ok (.iinc 8 d, 3)) (hn : pc + 3 = n) (k : G p l e R s m args below meth c D cI cO z nL Q cs sl sh M n (a0 :: a1 :: a2 :: a3 :: a4 :: a5 :: a6 :: a7 :: some (.int v) :: r) st) : G p l e R s m args below meth c D cI cO z nL Q cs sl sh M pc (a0 :: a1 :: a2 :: a3 :: a4 :: a5 :: a6 :: a7 :: some (.int x) :: r) st := by
  subst hn
  intro H locs ls hP hS hl
  have hm : (8, Value.int x) ∈ prs (a0 :: a1 :: a2 :: a3 :: a4 :: a5 :: a6 :: a7 :: some (.int x) :: r) := mem_prs.mpr rfl
  obtain ⟨k0, hk0⟩ := List.getElem?_of_mem hm
  exact lv_iinc C.1 C.2.1 hd hl.has hk0 hv (by rw [← hl.2.2.1]; simp; try omega) rfl (fun ls' h' => k H locs ls' hP hS (hl.set rfl h'))
theorem g_iload9 (C : Cx p s m args meth c D cI cO z tP aK aV own nm cc nL rt) {a0 a1 a2 a3 a4 a5 a6 a7 a8 : Option Value} {r : List (Option Value)} {x : Int32} (hd : decode cc pc = .ok (.iload 9, 2)) (hn : pc + 2 = n) (k : G p l e R s m args below meth c D cI cO z nL Q cs sl sh M n (a0 :: a1 :: a2 :: a3 :: a4 :: a5 :: a6 :: a7 :: a8 :: some (.int x) :: r) (.int x :: st)) : G p l e R s m args below meth c D cI cO z nL Q cs sl sh M pc (a0 :: a1 :: a2 :: a3 :: a4 :: a5 :: a6 :: a7 :: a8 :: some (.int x) :: r) st := by
  subst hn
  intro H locs ls hP hS hl
  exact lv_iload C.1 C.2.1 hd (hl.at (i := 9) rfl) (k H locs ls hP hS hl)
theorem g_istore9 (C : Cx p s m args meth c D cI cO z tP aK aV own nm cc nL rt) {a0 a1 a2 a3 a4 a5 a6 a7 a8 : Option Value} {r : List (Option Value)} {o : Option Value} {x : Int32} (hd : decode cc pc = .ok (.istore 9, 2)) (hn : pc + 2 = n) (k : G p l e R s m args below meth c D cI cO z nL Q cs sl sh M n (a0 :: a1 :: a2 :: a3 :: a4 :: a5 :: a6 :: a7 :: a8 :: some (.int x) :: r) st) : G p l e R s m args below meth c D cI cO z nL Q cs sl sh M pc (a0 :: a1 :: a2 :: a3 :: a4 :: a5 :: a6 :: a7 :: a8 :: o :: r) (.int x :: st) := by
  subst hn
  intro H locs ls hP hS hl
  exact lv_istore C.1 C.2.1 hd hl.has (by rw [← hl.2.2.1]; simp; try omega) rfl (fun ls' h' => k H locs ls' hP hS (hl.set rfl h'))
theorem g_aload9 (C : Cx p s m args meth c D cI cO z tP aK aV own nm cc nL rt) {a0 a1 a2 a3 a4 a5 a6 a7 a8 : Option Value} {r : List (Option Value)} {x : Nat} (hd : decode cc pc = .ok (.aload 9, 2)) (hn : pc + 2 = n) (k : G p l e R s m args below meth c D cI cO z nL Q cs sl sh M n (a0 :: a1 :: a2 :: a3 :: a4 :: a5 :: a6 :: a7 :: a8 :: some (.ref x) :: r) (.ref x :: st)) : G p l e R s m args below meth c D cI cO z nL Q cs sl sh M pc (a0 :: a1 :: a2 :: a3 :: a4 :: a5 :: a6 :: a7 :: a8 :: some (.ref x) :: r) st := by
  subst hn
  intro H locs ls hP hS hl
  exact lv_aload C.1 C.2.1 hd (hl.at (i := 9) rfl) (k H locs ls hP hS hl)
theorem g_astore9 (C : Cx p s m args meth c D cI cO z tP aK aV own nm cc nL rt) {a0 a1 a2 a3 a4 a5 a6 a7 a8 : Option Value} {r : List (Option Value)} {o : Option Value} {x : Nat} (hd : decode cc pc = .ok (.astore 9, 2)) (hn : pc + 2 = n) (k : G p l e R s m args below meth c D cI cO z nL Q cs sl sh M n (a0 :: a1 :: a2 :: a3 :: a4 :: a5 :: a6 :: a7 :: a8 :: some (.ref x) :: r) st) : G p l e R s m args below meth c D cI cO z nL Q cs sl sh M pc (a0 :: a1 :: a2 :: a3 :: a4 :: a5 :: a6 :: a7 :: a8 :: o :: r) (.ref x :: st) := by
  subst hn
  intro H locs ls hP hS hl
  exact lv_astore C.1 C.2.1 hd hl.has (by rw [← hl.2.2.1]; simp; try omega) rfl (fun ls' h' => k H locs ls' hP hS (hl.set rfl h'))
theorem g_iinc9 (C : Cx p s m args meth c D cI cO z tP aK aV own nm cc nL rt) {a0 a1 a2 a3 a4 a5 a6 a7 a8 : Option Value} {r : List (Option Value)} {x v : Int32} {d : Int} (hv : x + Int32.ofInt d = v) (hd : decode cc pc = .ok (.iinc 9 d, 3)) (hn : pc + 3 = n) (k : G p l e R s m args below meth c D cI cO z nL Q cs sl sh M n (a0 :: a1 :: a2 :: a3 :: a4 :: a5 :: a6 :: a7 :: a8 :: some (.int v) :: r) st) : G p l e R s m args below meth c D cI cO z nL Q cs sl sh M pc (a0 :: a1 :: a2 :: a3 :: a4 :: a5 :: a6 :: a7 :: a8 :: some (.int x) :: r) st := by
  subst hn
  intro H locs ls hP hS hl
  have hm : (9, Value.int x) ∈ prs (a0 :: a1 :: a2 :: a3 :: a4 :: a5 :: a6 :: a7 :: a8 :: some (.int x) :: r) := mem_prs.mpr rfl
  obtain ⟨k0, hk0⟩ := List.getElem?_of_mem hm
  exact lv_iinc C.1 C.2.1 hd hl.has hk0 hv (by rw [← hl.2.2.1]; simp; try omega) rfl (fun ls' h' => k H locs ls' hP hS (hl.set rfl h'))
theorem g_iload10 (C : Cx p s m args meth c D cI cO z tP aK aV own nm cc nL rt) {a0 a1 a2 a3 a4 a5 a6 a7 a8 a9 : Option Value} {r : List (Option Value)} {x : Int32} (hd : decode cc pc = .ok (.iload 10, 2)) (hn : pc + 2 = n) (k : G p l e R s m args below meth c D cI cO z nL Q cs sl sh M n (a0 :: a1 :: a2 :: a3 :: a4 :: a5 :: a6 :: a7 :: a8 :: a9 :: some (.int x) :: r) (.int x :: st)) : G p l e R s m args below meth c D cI cO z nL Q cs sl sh M pc (a0 :: a1 :: a2 :: a3 :: a4 :: a5 :: a6 :: a7 :: a8 :: a9 :: some (.int x) :: r) st := by
  subst hn
  intro H locs ls hP hS hl
  exact lv_iload C.1 C.2.1 hd (hl.at (i := 10) rfl) (k H locs ls hP hS hl)
theorem g_istore10 (C : Cx p s m args meth c D cI cO z tP aK aV own nm cc nL rt) {a0 a1 a2 a3 a4 a5 a6 a7 a8 a9 : Option Value} {r : List (Option Value)} {o : Option Value} {x : Int32} (hd : decode cc pc = .ok (.istore 10, 2)) (hn : pc + 2 = n) (k : G p l e R s m args below meth c D cI cO z nL Q cs sl sh M n (a0 :: a1 :: a2 :: a3 :: a4 :: a5 :: a6 :: a7 :: a8 :: a9 :: some (.int x) :: r) st) : G p l e R s m args below meth c D cI cO z nL Q cs sl sh M pc (a0 :: a1 :: a2 :: a3 :: a4 :: a5 :: a6 :: a7 :: a8 :: a9 :: o :: r) (.int x :: st) := by
  subst hn
  intro H locs ls hP hS hl
  exact lv_istore C.1 C.2.1 hd hl.has (by rw [← hl.2.2.1]; simp; try omega) rfl (fun ls' h' => k H locs ls' hP hS (hl.set rfl h'))
theorem g_aload10 (C : Cx p s m args meth c D cI cO z tP aK aV own nm cc nL rt) {a0 a1 a2 a3 a4 a5 a6 a7 a8 a9 : Option Value} {r : List (Option Value)} {x : Nat} (hd : decode cc pc = .ok (.aload 10, 2)) (hn : pc + 2 = n) (k : G p l e R s m args below meth c D cI cO z nL Q cs sl sh M n (a0 :: a1 :: a2 :: a3 :: a4 :: a5 :: a6 :: a7 :: a8 :: a9 :: some (.ref x) :: r) (.ref x :: st)) : G p l e R s m args below meth c D cI cO z nL Q cs sl sh M pc (a0 :: a1 :: a2 :: a3 :: a4 :: a5 :: a6 :: a7 :: a8 :: a9 :: some (.ref x) :: r) st := by
  subst hn
  intro H locs ls hP hS hl
  exact lv_aload C.1 C.2.1 hd (hl.at (i := 10) rfl) (k H locs ls hP hS hl)
theorem g_astore10 (C : Cx p s m args meth c D cI cO z tP aK aV own nm cc nL rt) {a0 a1 a2 a3 a4 a5 a6 a7 a8 a9 : Option Value} {r : List (Option Value)} {o : Option Value} {x : Nat} (hd : decode cc pc = .ok (.astore 10, 2)) (hn : pc + 2 = n) (k : G p l e R s m args below meth c D cI cO z nL Q cs sl sh M n (a0 :: a1 :: a2 :: a3 :: a4 :: a5 :: a6 :: a7 :: a8 :: a9 :: some (.ref x) :: r) st) : G p l e R s m args below meth c D cI cO z nL Q cs sl sh M pc (a0 :: a1 :: a2 :: a3 :: a4 :: a5 :: a6 :: a7 :: a8 :: a9 :: o :: r) (.ref x :: st) := by
  subst hn
  intro H locs ls hP hS hl
  exact lv_astore C.1 C.2.1 hd hl.has (by rw [← hl.2.2.1]; simp; try omega) rfl (fun ls' h' => k H locs ls' hP hS (hl.set rfl h'))
theorem g_iinc10 (C : Cx p s m args meth c D cI cO z tP aK aV own nm cc nL rt) {a0 a1 a2 a3 a4 a5 a6 a7 a8 a9 : Option Value} {r : List (Option Value)} {x v : Int32} {d : Int} (hv : x + Int32.ofInt d = v) (hd : decode cc pc = .ok (.iinc 10 d, 3)) (hn : pc + 3 = n) (k : G p l e R s m args below meth c D cI cO z nL Q cs sl sh M n (a0 :: a1 :: a2 :: a3 :: a4 :: a5 :: a6 :: a7 :: a8 :: a9 :: some (.int v) :: r) st) : G p l e R s m args below meth c D cI cO z nL Q cs sl sh M pc (a0 :: a1 :: a2 :: a3 :: a4 :: a5 :: a6 :: a7 :: a8 :: a9 :: some (.int x) :: r) st := by
  subst hn
  intro H locs ls hP hS hl
  have hm : (10, Value.int x) ∈ prs (a0 :: a1 :: a2 :: a3 :: a4 :: a5 :: a6 :: a7 :: a8 :: a9 :: some (.int x) :: r) := mem_prs.mpr rfl
  obtain ⟨k0, hk0⟩ := List.getElem?_of_mem hm
  exact lv_iinc C.1 C.2.1 hd hl.has hk0 hv (by rw [← hl.2.2.1]; simp; try omega) rfl (fun ls' h' => k H locs ls' hP hS (hl.set rfl h'))
theorem g_if_eq (C : Cx p s m args meth c D cI cO z tP aK aV own nm cc nL rt) {x : Int32} {off : Int} {t : Nat} (hd : decode cc pc = .ok (.ifCond .eq off, 3)) (ht : (pc : Int) + off = (t : Int)) (hn : pc + 3 = n) (kt : x = 0 → G p l e R s m args below meth c D cI cO z nL Q cs sl sh M t lv st) (kf : ¬ x = 0 → G p l e R s m args below meth c D cI cO z nL Q cs sl sh M n lv st) : G p l e R s m args below meth c D cI cO z nL Q cs sl sh M pc lv (.int x :: st) := by
  subst hn
  intro H locs ls hP hS hl
  exact lv_if_eq C.1 C.2.1 hd ht (fun h => kt h H locs ls hP hS hl) (fun h => kf h H locs ls hP hS hl)
theorem g_if_ne (C : Cx p s m args meth c D cI cO z tP aK aV own nm cc nL rt) {x : Int32} {off : Int} {t : Nat} (hd : decode cc pc = .ok (.ifCond .ne off, 3)) (ht : (pc : Int) + off = (t : Int)) (hn : pc + 3 = n) (kt : ¬ x = 0 → G p l e R s m args below meth c D cI cO z nL Q cs sl sh M t lv st) (kf : x = 0 → G p l e R s m args below meth c D cI cO z nL Q cs sl sh M n lv st) : G p l e R s m args below meth c D cI cO z nL Q cs sl sh M pc lv (.int x :: st) := by
  subst hn
  intro H locs ls hP hS hl
  exact lv_if_ne C.1 C.2.1 hd ht (fun h => kt h H locs ls hP hS hl) (fun h => kf h H locs ls hP hS hl)
theorem g_if_lt (C : Cx p s m args meth c D cI cO z tP aK aV own nm cc nL rt) {x : Int32} {off : Int} {t : Nat} (hd : decode cc pc = .ok (.ifCond .lt off, 3)) (ht : (pc : Int) + off = (t : Int)) (hn : pc + 3 = n) (kt : x < 0 → G p l e R s m args below meth c D cI cO z nL Q cs sl sh M t lv st) (kf : ¬ x < 0 → G p l e R s m args below meth c D cI cO z nL Q cs sl sh M n lv st) : G p l e R s m args below meth c D cI cO z nL Q cs sl sh M pc lv (.int x :: st) := by
  subst hn
  intro H locs ls hP hS hl
  exact lv_if_lt C.1 C.2.1 hd ht (fun h => kt h H locs ls hP hS hl) (fun h => kf h H locs ls hP hS hl)
theorem g_if_ge (C : Cx p s m args meth c D cI cO z tP aK aV own nm cc nL rt) {x : Int32} {off : Int} {t : Nat} (hd : decode cc pc = .ok (.ifCond .ge off, 3)) (ht : (pc : Int) + off = (t : Int)) (hn : pc + 3 = n) (kt : ¬ x < 0 → G p l e R s m args below meth c D cI cO z nL Q cs sl sh M t lv st) (kf : x < 0 → G p l e R s m args below meth c D cI cO z nL Q cs sl sh M n lv st) : G p l e R s m args below meth c D cI cO z nL Q cs sl sh M pc lv (.int x :: st) := by
  subst hn
  intro H locs ls hP hS hl
  exact lv_if_ge C.1 C.2.1 hd ht (fun h => kt (Int32.not_lt.mpr h) H locs ls hP hS hl) (fun h => kf (Int32.not_le.mp h) H locs ls hP hS hl)
theorem g_if_gt (C : Cx p s m args meth c D cI cO z tP aK aV own nm cc nL rt) {x : Int32} {off : Int} {t : Nat} (hd : decode cc pc = .ok (.ifCond .gt off, 3)) (ht : (pc : Int) + off = (t : Int)) (hn : pc + 3 = n) (kt : 0 < x → G p l e R s m args below meth c D cI cO z nL Q cs sl sh M t lv st) (kf : ¬ 0 < x → G p l e R s m args below meth c D cI cO z nL Q cs sl sh M n lv st) : G p l e R s m args below meth c D cI cO z nL Q cs sl sh M pc lv (.int x :: st) := by
  subst hn
  intro H locs ls hP hS hl
  exact lv_if_gt C.1 C.2.1 hd ht (fun h => kt h H locs ls hP hS hl) (fun h => kf h H locs ls hP hS hl)
theorem g_if_le (C : Cx p s m args meth c D cI cO z tP aK aV own nm cc nL rt) {x : Int32} {off : Int} {t : Nat} (hd : decode cc pc = .ok (.ifCond .le off, 3)) (ht : (pc : Int) + off = (t : Int)) (hn : pc + 3 = n) (kt : ¬ 0 < x → G p l e R s m args below meth c D cI cO z nL Q cs sl sh M t lv st) (kf : 0 < x → G p l e R s m args below meth c D cI cO z nL Q cs sl sh M n lv st) : G p l e R s m args below meth c D cI cO z nL Q cs sl sh M pc lv (.int x :: st) := by
  subst hn
  intro H locs ls hP hS hl
  exact lv_if_le C.1 C.2.1 hd ht (fun h => kt (Int32.not_lt.mpr h) H locs ls hP hS hl) (fun h => kf (Int32.not_le.mp h) H locs ls hP hS hl)
theorem g_icmp_eq (C : Cx p s m args meth c D cI cO z tP aK aV own nm cc nL rt) {x y : Int32} {off : Int} {t : Nat} (hd : decode cc pc = .ok (.if_icmp .eq off, 3)) (ht : (pc : Int) + off = (t : Int)) (hn : pc + 3 = n) (kt : x = y → G p l e R s m args below meth c D cI cO z nL Q cs sl sh M t lv st) (kf : ¬ x = y → G p l e R s m args below meth c D cI cO z nL Q cs sl sh M n lv st) : G p l e R s m args below meth c D cI cO z nL Q cs sl sh M pc lv (.int y :: .int x :: st) := by
  subst hn
  intro H locs ls hP hS hl
  exact lv_icmp_eq C.1 C.2.1 hd ht (fun h => kt h H locs ls hP hS hl) (fun h => kf h H locs ls hP hS hl)
theorem g_icmp_ne (C : Cx p s m args meth c D cI cO z tP aK aV own nm cc nL rt) {x y : Int32} {off : Int} {t : Nat} (hd : decode cc pc = .ok (.if_icmp .ne off, 3)) (ht : (pc : Int) + off = (t : Int)) (hn : pc + 3 = n) (kt : ¬ x = y → G p l e R s m args below meth c D cI cO z nL Q cs sl sh M t lv st) (kf : x = y → G p l e R s m args below meth c D cI cO z nL Q cs sl sh M n lv st) : G p l e R s m args below meth c D cI cO z nL Q cs sl sh M pc lv (.int y :: .int x :: st) := by
  subst hn
  intro H locs ls hP hS hl
  exact lv_icmp_ne C.1 C.2.1 hd ht (fun h => kt h H locs ls hP hS hl) (fun h => kf h H locs ls hP hS hl)
theorem g_icmp_lt (C : Cx p s m args meth c D cI cO z tP aK aV own nm cc nL rt) {x y : Int32} {off : Int} {t : Nat} (hd : decode cc pc = .ok (.if_icmp .lt off, 3)) (ht : (pc : Int) + off = (t : Int)) (hn : pc + 3 = n) (kt : x < y → G p l e R s m args below meth c D cI cO z nL Q cs sl sh M t lv st) (kf : ¬ x < y → G p l e R s m args below meth c D cI cO z nL Q cs sl sh M n lv st) : G p l e R s m args below meth c D cI cO z nL Q cs sl sh M pc lv (.int y :: .int x :: st) := by
  subst hn
  intro H locs ls hP hS hl
  exact lv_icmp_lt C.1 C.2.1 hd ht (fun h => kt h H locs ls hP hS hl) (fun h => kf h H locs ls hP hS hl)
theorem g_icmp_ge (C : Cx p s m args meth c D cI cO z tP aK aV own nm cc nL rt) {x y : Int32} {off : Int} {t : Nat} (hd : decode cc pc = .ok (.if_icmp .ge off, 3)) (ht : (pc : Int) + off = (t : Int)) (hn : pc + 3 = n) (kt : ¬ x < y → G p l e R s m args below meth c D cI cO z nL Q cs sl sh M t lv st) (kf : x < y → G p l e R s m args below meth c D cI cO z nL Q cs sl sh M n lv st) : G p l e R s m args below meth c D cI cO z nL Q cs sl sh M pc lv (.int y :: .int x :: st) := by
  subst hn
  intro H locs ls hP hS hl
  exact lv_icmp_ge C.1 C.2.1 hd ht (fun h => kt (Int32.not_lt.mpr h) H locs ls hP hS hl) (fun h => kf (Int32.not_le.mp h) H locs ls hP hS hl)
theorem g_icmp_gt (C : Cx p s m args meth c D cI cO z tP aK aV own nm cc nL rt) {x y : Int32} {off : Int} {t : Nat} (hd : decode cc pc = .ok (.if_icmp .gt off, 3)) (ht : (pc : Int) + off = (t : Int)) (hn : pc + 3 = n) (kt : y < x → G p l e R s m args below meth c D cI cO z nL Q cs sl sh M t lv st) (kf : ¬ y < x → G p l e R s m args below meth c D cI cO z nL Q cs sl sh M n lv st) : G p l e R s m args below meth c D cI cO z nL Q cs sl sh M pc lv (.int y :: .int x :: st) := by
  subst hn
  intro H locs ls hP hS hl
  exact lv_icmp_gt C.1 C.2.1 hd ht (fun h => kt h H locs ls hP hS hl) (fun h => kf h H locs ls hP hS hl)
theorem g_icmp_le (C : Cx p s m args meth c D cI cO z tP aK aV own nm cc nL rt) {x y : Int32} {off : Int} {t : Nat} (hd : decode cc pc = .ok (.if_icmp .le off, 3)) (ht : (pc : Int) + off = (t : Int)) (hn : pc + 3 = n) (kt : ¬ y < x → G p l e R s m args below meth c D cI cO z nL Q cs sl sh M t lv st) (kf : y < x → G p l e R s m args below meth c D cI cO z nL Q cs sl sh M n lv st) : G p l e R s m args below meth c D cI cO z nL Q cs sl sh M pc lv (.int y :: .int x :: st) := by
  subst hn
  intro H locs ls hP hS hl
  exact lv_icmp_le C.1 C.2.1 hd ht (fun h => kt (Int32.not_lt.mpr h) H locs ls hP hS hl) (fun h => kf (Int32.not_le.mp h) H locs ls hP hS hl)
theorem g_goto (C : Cx p s m args meth c D cI cO z tP aK aV own nm cc nL rt) {off : Int} {t : Nat} (hd : decode cc pc = .ok (.goto off, 3)) (ht : (pc : Int) + off = (t : Int)) (k : G p l e R s m args below meth c D cI cO z nL Q cs sl sh M t lv st) : G p l e R s m args below meth c D cI cO z nL Q cs sl sh M pc lv st := by
  intro H locs ls hP hS hl
  exact lv_goto C.1 C.2.1 hd ht (k H locs ls hP hS hl)
theorem g_ifnull (C : Cx p s m args meth c D cI cO z tP aK aV own nm cc nL rt) {x : Nat} {off : Int} (hd : decode cc pc = .ok (.ifnull off, 3)) (hn : pc + 3 = n) (k : G p l e R s m args below meth c D cI cO z nL Q cs sl sh M n lv st) : G p l e R s m args below meth c D cI cO z nL Q cs sl sh M pc lv (.ref x :: st) := by
  subst hn
  intro H locs ls hP hS hl
  exact lv_ifnull C.1 C.2.1 hd (k H locs ls hP hS hl)
theorem g_tblIn (C : Cx p s m args meth c D cI cO z tP aK aV own nm cc nL rt) {dflt lo hi : Int} {offs : Array Int} {len : Nat} {x : Int32} {off : Int} {t : Nat} (hd : decode cc pc = .ok (.tableswitch dflt lo hi offs, len)) (h1 : ¬ x.toInt < lo) (h2 : ¬ hi < x.toInt) (ho : offs[(x.toInt - lo).toNat]? = some off) (ht : (pc : Int) + off = (t : Int)) (k : G p l e R s m args below meth c D cI cO z nL Q cs sl sh M t lv st) : G p l e R s m args below meth c D cI cO z nL Q cs sl sh M pc lv (.int x :: st) := by
  intro H locs ls hP hS hl
  exact lv_tableIn C.1 C.2.1 hd h1 h2 ho ht (k H locs ls hP hS hl)
theorem g_tblOut (C : Cx p s m args meth c D cI cO z tP aK aV own nm cc nL rt) {dflt lo hi : Int} {offs : Array Int} {len : Nat} {x : Int32} {t : Nat} (hd : decode cc pc = .ok (.tableswitch dflt lo hi offs, len)) (h : x.toInt < lo ∨ hi < x.toInt) (ht : (pc : Int) + dflt = (t : Int)) (k : G p l e R s m args below meth c D cI cO z nL Q cs sl sh M t lv st) : G p l e R s m args below meth c D cI cO z nL Q cs sl sh M pc lv (.int x :: st) := by
  intro H locs ls hP hS hl
  exact lv_tableOut C.1 C.2.1 hd h ht (k H locs ls hP hS hl)
theorem g_iret {x : Int32} (C : Cx p s m args meth c D cI cO z tP aK aV own nm cc nL (some .int)) {Post : Option Value → Shp → Mem → Prop}  (hd : decode cc pc = .ok (.ireturn, 1)) (hp : Post (some (.int x)) sh M) : G p l e R s m args below meth c D cI cO z nL (MQ below (QP D cI cO z Post) args s cs sl (AA z)) cs sl sh M pc lv [.int x] := by
  intro H locs ls hP hS hl
  exact W.iret C.1 C.2.1 C.2.2.2.2.2.2.1 (fun t ht hW => ⟨_, sh, M, rfl, hp, by rw [ht]; exact hP, hS.F ht⟩) hS.2.2 hd C.2.2.2.2.2.2.2.1
theorem g_zret {x : Int32} {ty : FieldType} (C : Cx p s m args meth c D cI cO z tP aK aV own nm cc nL (some ty)) {Post : Option Value → Shp → Mem → Prop} (hnr : narrow ty (.int x) = .int x) (hd : decode cc pc = .ok (.ireturn, 1)) (hp : Post (some (.int x)) sh M) : G p l e R s m args below meth c D cI cO z nL (MQ below (QP D cI cO z Post) args s cs sl (AA z)) cs sl sh M pc lv [.int x] := by
  intro H locs ls hP hS hl
  exact W.zret C.1 C.2.1 C.2.2.2.2.2.2.1 hnr (fun t ht hW => ⟨_, sh, M, rfl, hp, by rw [ht]; exact hP, hS.F ht⟩) hS.2.2 hd C.2.2.2.2.2.2.2.1
theorem g_vret  (C : Cx p s m args meth c D cI cO z tP aK aV own nm cc nL none) {Post : Option Value → Shp → Mem → Prop}  (hd : decode cc pc = .ok (.return_, 1)) (hp : Post none sh M) : G p l e R s m args below meth c D cI cO z nL (MQ below (QP D cI cO z Post) args s cs sl (AA z)) cs sl sh M pc lv [] := by
  intro H locs ls hP hS hl
  exact W.vret C.1 C.2.1 C.2.2.2.2.2.2.1 (fun t ht hW => ⟨_, sh, M, rfl, hp, by rw [ht]; exact hP, hS.F ht⟩) hS.2.2 hd C.2.2.2.2.2.2.2.1
theorem g_aret {x : Nat} {o : String} (C : Cx p s m args meth c D cI cO z tP aK aV own nm cc nL (some (.object o))) {Post : Option Value → Shp → Mem → Prop}  (hd : decode cc pc = .ok (.areturn, 1)) (hp : Post (some (.ref x)) sh M) : G p l e R s m args below meth c D cI cO z nL (MQ below (QP D cI cO z Post) args s cs sl (AA z)) cs sl sh M pc lv [.ref x] := by
  intro H locs ls hP hS hl
  exact W.aret C.1 C.2.1 C.2.2.2.2.2.2.1 (Or.inl ⟨_, rfl⟩) (Or.inr ⟨_, rfl⟩) (fun t ht hW => ⟨_, sh, M, rfl, hp, by rw [ht]; exact hP, hS.F ht⟩) hS.2.2 hd C.2.2.2.2.2.2.2.1
theorem g_aretN {o : String} (C : Cx p s m args meth c D cI cO z tP aK aV own nm cc nL (some (.object o))) {Post : Option Value → Shp → Mem → Prop}  (hd : decode cc pc = .ok (.areturn, 1)) (hp : Post (some .null) sh M) : G p l e R s m args below meth c D cI cO z nL (MQ below (QP D cI cO z Post) args s cs sl (AA z)) cs sl sh M pc lv [.null] := by
  intro H locs ls hP hS hl
  exact W.aret C.1 C.2.1 C.2.2.2.2.2.2.1 (Or.inl ⟨_, rfl⟩) (Or.inl rfl) (fun t ht hW => ⟨_, sh, M, rfl, hp, by rw [ht]; exact hP, hS.F ht⟩) hS.2.2 hd C.2.2.2.2.2.2.2.1
end GR
section GF
variable {p : Program} {l : Launch} {e : Env} {R : Room} {s : State} {m : MethodId} {args : Array Value} {below : List Frame} {meth : Method} {c : Code} {D : va_G} {cI cO : ClassId} {z tP : Nat} {aK aV : Nat → Nat} {own nm : String} {cc : ByteArray} {nL : Nat} {rt : Option FieldType} {Q : State → Prop} {cs sl : Nat} {sh : Shp} {M : Mem} {pc n : Nat} {lv : List (Option Value)} {st : List Value}
theorem g_getI (C : Cx p s m args meth c D cI cO z tP aK aV own nm cc nL rt) {Cn : String} {T : u_T} {N ci idx k j : Nat} {sx : List (Option (Option Nat))} (hin : ∀ w ∈ u_ws Cn T N, w ∈ gtbl) (hc : vwCl[ci]? = some (Cn, T, N)) (hown : (T j).1 = Cn) (hj : j < N) (hlink : Cond.fieldLink own idx Cn (T j).2.1 (T j).2.2.1 ∈ gtbl) (hob : sh[k]? = some (.inr (.inr (ci, sx)))) (hsl : sx[j]? = some none) (hd : decode cc pc = .ok (.getfield idx, 3)) (hn : pc + 3 = n) (kk : G p l e R s m args below meth c D cI cO z nL Q cs sl sh M n lv (.int (M k j) :: st)) : G p l e R s m args below meth c D cI cO z nL Q cs sl sh M pc lv (.ref (z + k) :: st) := by
  subst hn
  intro H locs ls hP hS hl
  exact va_get C.1 C.2.1 C.2.2.2.2.1 hin C.2.2.2.1 C.2.2.2.2.2.1.1 hP k (wl_get hob) hc j hj (C.2.2.2.2.1 _ hlink) (fun _ h9 => hown ▸ h9) (v := .int (M k j)) (by rw [List.getElem?_mapIdx, hsl]; rfl) hd (kk H locs ls hP hS hl)
theorem g_getR (C : Cx p s m args meth c D cI cO z tP aK aV own nm cc nL rt) {Cn : String} {T : u_T} {N ci idx k j : Nat} {sx : List (Option (Option Nat))} (hin : ∀ w ∈ u_ws Cn T N, w ∈ gtbl) (hc : vwCl[ci]? = some (Cn, T, N)) (hown : (T j).1 = Cn) (hj : j < N) (hlink : Cond.fieldLink own idx Cn (T j).2.1 (T j).2.2.1 ∈ gtbl) (hob : sh[k]? = some (.inr (.inr (ci, sx)))) {r : Nat} (hsl : sx[j]? = some (some (some r))) (hd : decode cc pc = .ok (.getfield idx, 3)) (hn : pc + 3 = n) (kk : G p l e R s m args below meth c D cI cO z nL Q cs sl sh M n lv (.ref (z + r) :: st)) : G p l e R s m args below meth c D cI cO z nL Q cs sl sh M pc lv (.ref (z + k) :: st) := by
  subst hn
  intro H locs ls hP hS hl
  exact va_get C.1 C.2.1 C.2.2.2.2.1 hin C.2.2.2.1 C.2.2.2.2.2.1.1 hP k (wl_get hob) hc j hj (C.2.2.2.2.1 _ hlink) (fun _ h9 => hown ▸ h9) (v := .ref (z + r)) (by rw [List.getElem?_mapIdx, hsl]; rfl) hd (kk H locs ls hP hS hl)
theorem g_putI (C : Cx p s m args meth c D cI cO z tP aK aV own nm cc nL rt) {Cn : String} {T : u_T} {N ci idx k j : Nat} {sx : List (Option (Option Nat))} (hin : ∀ w ∈ u_ws Cn T N, w ∈ gtbl) (hc : vwCl[ci]? = some (Cn, T, N)) (hown : (T j).1 = Cn) (hj : j < N) (ty0 : Nat → FieldType) (hty : ∀ k, k < N → parseFieldDescriptor (T k).2.2.1 = some (ty0 k)) (hnm : ∀ a, a < N → ∀ b, b < N → a ≠ b → (T a).2.1 ≠ (T b).2.1) (hlink : Cond.fieldLink own idx Cn (T j).2.1 (T j).2.2.1 ∈ gtbl) (hfin : (T j).2.2.2 = false) {v : Int32} {ty : FieldType} (hde : parseFieldDescriptor (T j).2.2.1 = some ty) (hnr : narrow ty (.int v) = .int v) (hft : fits ty (.int v) = true) (hob : sh[k]? = some (.inr (.inr (ci, sx)))) (hsl : sx[j]? = some none) (hd : decode cc pc = .ok (.putfield idx, 3)) (hn : pc + 3 = n) (kk : ∀ M1, M1 = up2 M k j v → G p l e R s m args below meth c D cI cO z nL Q cs sl sh M1 n lv st) : G p l e R s m args below meth c D cI cO z nL Q cs sl sh M pc lv (.int v :: .ref (z + k) :: st) := by
  subst hn
  intro H locs ls hP hS hl
  have hjl : j < sx.length := (List.getElem?_eq_some_iff.mp hsl).1
  refine va_put C.1 C.2.1 C.2.2.2.2.1 hin ty0 hty hnm C.2.2.2.1 C.2.2.2.2.2.1.1 hP wl_D hS k (wl_get hob) hc j hj (C.2.2.2.2.1 _ hlink) (fun _ h9 => hown ▸ h9) hfin hde hnr hft (by simpa using hjl) hd (fun H1 locs1 hP1 _ hS1 => ?_)
  refine kk (up2 M k j v) rfl H1 locs1 ls ?_ hS1 hl
  rw [← wl_set (M := M) hob (fun a ha => up2_ne M v ha)]
  have e : cel cI cO z (up2 M k j v) k (.inr (.inr (ci, sx))) = .inr (ci, (sx.mapIdx (fun j x => slv z (M k) j x)).set j (.int v)) := by
    show Sum.inr (ci, _) = Sum.inr (ci, _)
    congr 2
    apply List.ext_getElem?
    intro i
    by_cases hi : i = j
    · subst hi
      rw [List.getElem?_set_self (by simpa using hjl), List.getElem?_mapIdx, hsl]
      simp [slv, up2]
    · rw [List.getElem?_set_ne (Ne.symm hi), List.getElem?_mapIdx, List.getElem?_mapIdx]
      cases sx[i]? with
      | none => rfl
      | some x => cases x with
        | none => simp [slv, up2, hi]
        | some x => cases x <;> rfl
  rw [e]
  exact hP1
theorem g_getIN (C : Cx p s m args meth c D cI cO z tP aK aV own nm cc nL rt) {Cn : String} {T : u_T} {N ci idx k j : Nat} {sx : List (Option (Option Nat))} (hin : ∀ w ∈ u_ws Cn T N, w ∈ gtbl) (hc : vwCl[ci]? = some (Cn, T, N)) (hown : (T j).1 = Cn) (hj : j < N) {host : String} (hlink : Cond.fieldLinkNest own idx Cn (T j).2.1 (T j).2.2.1 host ∈ ntbl) (hob : sh[k]? = some (.inr (.inr (ci, sx)))) (hsl : sx[j]? = some none) (hd : decode cc pc = .ok (.getfield idx, 3)) (hn : pc + 3 = n) (kk : G p l e R s m args below meth c D cI cO z nL Q cs sl sh M n lv (.int (M k j) :: st)) : G p l e R s m args below meth c D cI cO z nL Q cs sl sh M pc lv (.ref (z + k) :: st) := by
  subst hn
  intro H locs ls hP hS hl
  exact va_getN C.1 C.2.1 C.2.2.2.2.1 hin C.2.2.2.1 C.2.2.2.2.2.1.1 hP k (wl_get hob) hc j hj (va_Nw.use rfl (C.2.2.2.2.2.1.2.1 _ hlink)) (fun _ h9 => hown ▸ h9) (v := .int (M k j)) (by rw [List.getElem?_mapIdx, hsl]; rfl) hd (kk H locs ls hP hS hl)
theorem g_getRN (C : Cx p s m args meth c D cI cO z tP aK aV own nm cc nL rt) {Cn : String} {T : u_T} {N ci idx k j : Nat} {sx : List (Option (Option Nat))} (hin : ∀ w ∈ u_ws Cn T N, w ∈ gtbl) (hc : vwCl[ci]? = some (Cn, T, N)) (hown : (T j).1 = Cn) (hj : j < N) {host : String} (hlink : Cond.fieldLinkNest own idx Cn (T j).2.1 (T j).2.2.1 host ∈ ntbl) (hob : sh[k]? = some (.inr (.inr (ci, sx)))) {r : Nat} (hsl : sx[j]? = some (some (some r))) (hd : decode cc pc = .ok (.getfield idx, 3)) (hn : pc + 3 = n) (kk : G p l e R s m args below meth c D cI cO z nL Q cs sl sh M n lv (.ref (z + r) :: st)) : G p l e R s m args below meth c D cI cO z nL Q cs sl sh M pc lv (.ref (z + k) :: st) := by
  subst hn
  intro H locs ls hP hS hl
  exact va_getN C.1 C.2.1 C.2.2.2.2.1 hin C.2.2.2.1 C.2.2.2.2.2.1.1 hP k (wl_get hob) hc j hj (va_Nw.use rfl (C.2.2.2.2.2.1.2.1 _ hlink)) (fun _ h9 => hown ▸ h9) (v := .ref (z + r)) (by rw [List.getElem?_mapIdx, hsl]; rfl) hd (kk H locs ls hP hS hl)
theorem g_putIN (C : Cx p s m args meth c D cI cO z tP aK aV own nm cc nL rt) {Cn : String} {T : u_T} {N ci idx k j : Nat} {sx : List (Option (Option Nat))} (hin : ∀ w ∈ u_ws Cn T N, w ∈ gtbl) (hc : vwCl[ci]? = some (Cn, T, N)) (hown : (T j).1 = Cn) (hj : j < N) (ty0 : Nat → FieldType) (hty : ∀ k, k < N → parseFieldDescriptor (T k).2.2.1 = some (ty0 k)) (hnm : ∀ a, a < N → ∀ b, b < N → a ≠ b → (T a).2.1 ≠ (T b).2.1) {host : String} (hlink : Cond.fieldLinkNest own idx Cn (T j).2.1 (T j).2.2.1 host ∈ ntbl) (hfin : (T j).2.2.2 = false) {v : Int32} {ty : FieldType} (hde : parseFieldDescriptor (T j).2.2.1 = some ty) (hnr : narrow ty (.int v) = .int v) (hft : fits ty (.int v) = true) (hob : sh[k]? = some (.inr (.inr (ci, sx)))) (hsl : sx[j]? = some none) (hd : decode cc pc = .ok (.putfield idx, 3)) (hn : pc + 3 = n) (kk : ∀ M1, M1 = up2 M k j v → G p l e R s m args below meth c D cI cO z nL Q cs sl sh M1 n lv st) : G p l e R s m args below meth c D cI cO z nL Q cs sl sh M pc lv (.int v :: .ref (z + k) :: st) := by
  subst hn
  intro H locs ls hP hS hl
  have hjl : j < sx.length := (List.getElem?_eq_some_iff.mp hsl).1
  refine va_putN C.1 C.2.1 C.2.2.2.2.1 hin ty0 hty hnm C.2.2.2.1 C.2.2.2.2.2.1.1 hP wl_D hS k (wl_get hob) hc j hj (va_Nw.use rfl (C.2.2.2.2.2.1.2.1 _ hlink)) (fun _ h9 => hown ▸ h9) hfin hde hnr hft (by simpa using hjl) hd (fun H1 locs1 hP1 _ hS1 => ?_)
  refine kk (up2 M k j v) rfl H1 locs1 ls ?_ hS1 hl
  rw [← wl_set (M := M) hob (fun a ha => up2_ne M v ha)]
  have e : cel cI cO z (up2 M k j v) k (.inr (.inr (ci, sx))) = .inr (ci, (sx.mapIdx (fun j x => slv z (M k) j x)).set j (.int v)) := by
    show Sum.inr (ci, _) = Sum.inr (ci, _)
    congr 2
    apply List.ext_getElem?
    intro i
    by_cases hi : i = j
    · subst hi
      rw [List.getElem?_set_self (by simpa using hjl), List.getElem?_mapIdx, hsl]
      simp [slv, up2]
    · rw [List.getElem?_set_ne (Ne.symm hi), List.getElem?_mapIdx, List.getElem?_mapIdx]
      cases sx[i]? with
      | none => rfl
      | some x => cases x with
        | none => simp [slv, up2, hi]
        | some x => cases x <;> rfl
  rw [e]
  exact hP1
end GF
section GA
variable {p : Program} {l : Launch} {e : Env} {R : Room} {s : State} {m : MethodId} {args : Array Value} {below : List Frame} {meth : Method} {c : Code} {D : va_G} {cI cO : ClassId} {z tP : Nat} {aK aV : Nat → Nat} {own nm : String} {cc : ByteArray} {nL : Nat} {rt : Option FieldType} {Q : State → Prop} {cs sl : Nat} {sh : Shp} {M : Mem} {pc n : Nat} {lv : List (Option Value)} {st : List Value}
theorem g_iald (C : Cx p s m args meth c D cI cO z tP aK aV own nm cc nL rt) {k j N : Nat} {i : Int32} (hob : sh[k]? = some (.inl N)) (hN : N < 2 ^ 31) (hi : i = nI j) (hj : j < N) (hd : decode cc pc = .ok (.iaload, 1)) (hn : pc + 1 = n) (kk : G p l e R s m args below meth c D cI cO z nL Q cs sl sh M n lv (.int (M k j) :: st)) : G p l e R s m args below meth c D cI cO z nL Q cs sl sh M pc lv (.int i :: .ref (z + k) :: st) := by
  subst hn; subst hi
  intro H locs ls hP hS hl
  refine va_iald C.1 C.2.1 C.2.2.2.2.2.1.1 hP k 0 (wl_get hob) rfl (vp_in_nI hj hN) hd ?_
  rw [nI_clamp (Nat.lt_trans hj hN)]
  exact kk H locs ls hP hS hl
theorem g_iast (C : Cx p s m args meth c D cI cO z tP aK aV own nm cc nL rt) {k j N : Nat} {i : Int32} {x : Int32} (hob : sh[k]? = some (.inl N)) (hN : N < 2 ^ 31) (hi : i = nI j) (hj : j < N) (hd : decode cc pc = .ok (.iastore, 1)) (hn : pc + 1 = n) (kk : ∀ M1, M1 = up2 M k j x → G p l e R s m args below meth c D cI cO z nL Q cs sl sh M1 n lv st) : G p l e R s m args below meth c D cI cO z nL Q cs sl sh M pc lv (.int x :: .int i :: .ref (z + k) :: st) := by
  subst hn; subst hi
  intro H locs ls hP hS hl
  refine va_iast C.1 C.2.1 C.2.2.2.2.2.1.1 hP wl_D hS k 0 (wl_get hob) rfl (vp_in_nI hj hN) hd (fun H1 locs1 hP1 _ hS1 => ?_)
  refine kk (up2 M k j x) rfl H1 locs1 ls ?_ hS1 hl
  rw [← wl_set (M := M) hob (fun a ha => up2_ne M x ha)]
  rw [nI_clamp (Nat.lt_trans hj hN)] at hP1
  have e : cel cI cO z (up2 M k j x) k (.inl N) = .inl (cI, N, .inl (upd (M k) j x)) := by
    show Sum.inl (cI, N, Sum.inl _) = _
    rw [up2_row]
  rw [e]
  exact hP1
theorem g_alen (C : Cx p s m args meth c D cI cO z tP aK aV own nm cc nL rt) {k N : Nat} (hob : sh[k]? = some (.inl N)) (hd : decode cc pc = .ok (.arraylength, 1)) (hn : pc + 1 = n) (kk : G p l e R s m args below meth c D cI cO z nL Q cs sl sh M n lv (.int (nI N) :: st)) : G p l e R s m args below meth c D cI cO z nL Q cs sl sh M pc lv (.ref (z + k) :: st) := by
  subst hn
  intro H locs ls hP hS hl
  exact va_alen C.1 C.2.1 C.2.2.2.2.2.1.1 hP k 0 (wl_get hob) (ty := .int) rfl rfl hd (kk H locs ls hP hS hl)
theorem g_alenR (C : Cx p s m args meth c D cI cO z tP aK aV own nm cc nL rt) {k : Nat} {rs : List (Option Nat)} (hob : sh[k]? = some (.inr (.inl rs))) (hd : decode cc pc = .ok (.arraylength, 1)) (hn : pc + 1 = n) (kk : G p l e R s m args below meth c D cI cO z nL Q cs sl sh M n lv (.int (nI rs.length) :: st)) : G p l e R s m args below meth c D cI cO z nL Q cs sl sh M pc lv (.ref (z + k) :: st) := by
  subst hn
  intro H locs ls hP hS hl
  exact va_alen C.1 C.2.1 C.2.2.2.2.2.1.1 hP k 1 (wl_get hob) (ty := .object RX5) rfl rfl hd (kk H locs ls hP hS hl)
theorem g_aald (C : Cx p s m args meth c D cI cO z tP aK aV own nm cc nL rt) {k j r : Nat} {i : Int32} {rs : List (Option Nat)} (hob : sh[k]? = some (.inr (.inl rs))) (hN : rs.length < 2 ^ 31) (hi : i = nI j) (hj : rs[j]? = some (some r)) (hd : decode cc pc = .ok (.aaload, 1)) (hn : pc + 1 = n) (kk : G p l e R s m args below meth c D cI cO z nL Q cs sl sh M n lv (.ref (z + r) :: st)) : G p l e R s m args below meth c D cI cO z nL Q cs sl sh M pc lv (.int i :: .ref (z + k) :: st) := by
  subst hn; subst hi
  intro H locs ls hP hS hl
  have hl0 : j < rs.length := (List.getElem?_eq_some_iff.mp hj).1
  refine va_aldq C.1 C.2.1 C.2.2.2.2.2.1.1 hP k 1 (wl_get hob) rfl (vp_in_nI hl0 hN) hd ?_
  rw [nI_clamp (Nat.lt_trans hl0 hN)]
  have e : va_rf ((rs.getD j none).map (fun r => z + r)) = .ref (z + r) := by
    rw [List.getD_eq_getElem?_getD, hj]; rfl
  rw [e]
  exact kk H locs ls hP hS hl
end GA
section GC
variable {p : Program} {l : Launch} {e : Env} {R : Room} {s : State} {m : MethodId} {args : Array Value} {below : List Frame} {meth : Method} {c : Code} {D : va_G} {cI cO : ClassId} {z tP : Nat} {aK aV : Nat → Nat} {own nm : String} {cc : ByteArray} {nL : Nat} {rt : Option FieldType} {Q : State → Prop} {cs sl : Nat} {sh : Shp} {M : Mem} {pc n : Nat} {lv : List (Option Value)} {st : List Value}
theorem run_G {H : Heap} {locs : List Loc} {ls : Array Slot} {mc ms : Nat} {a : Array Value} {rest st0 : List Value} {Post : Option Value → Shp → Mem → Prop} (hr : va_Run p l e R s m args below meth c H locs cs sl mc ms (F0 m pc ls st0) rest (QP D cI cO z Post a) (AA z)) (hS : va_S (AA z) s.heap H locs) (hl : lvh ls nL lv)
    (kk : ∀ (v : Option Value) (sh1 : Shp) (M1 : Mem), Post v sh1 M1 → G p l e R s m args below meth c D cI cO z nL Q (cs + mc) (sl + ms) sh1 M1 (pc + 3) lv (v.toList ++ rest)) : W p l e R s m args below meth c H locs cs sl Q (F0 m pc ls st0) := by
  intro T hT X
  obtain ⟨v, st₀, t, T', L, h0, X', hL, e1, e2, ⟨v', sh', M', hv, hp, hP, hz1, hk⟩, stp⟩ := hr T hT X
  cases hv
  rw [h0] at hz1 hk
  obtain ⟨t2, a1, b1⟩ := kk v sh' M' hp T'.heap (locs ++ L) ls (by rw [e1]; exact hP) ⟨Nat.le_trans hS.1 (by rw [e1]; exact hz1), fun q h1 h2 => by rw [e1, hk q (Nat.lt_of_lt_of_le h1 hS.1) h2]; exact hS.2.1 q h1 h2, fun q hq => by
      rcases List.mem_append.mp hq with h | h
      · exact hS.2.2 q h
      · exact hL q h⟩ hl T' rfl X'
  exact ⟨t2, stp t2 a1, b1⟩
theorem PP_blind {as : List Value} {b : Prop} : FrameBlind (va_Pc as (PP D cI cO z tP aK aV sh M b)) := fun a U g mk q => by
  obtain ⟨q0, q1, q2, q3, q4⟩ := q
  exact ⟨q0, q1.calling, q2, q3, q4⟩
theorem PP_of (C : Cx p s m args meth c D cI cO z tP aK aV own nm cc nL rt) {H : Heap} {locs : List Loc} {as : List Value} (hP : va_P D vwCl (wl cI cO z sh M) H) (hS : va_S (AA z) s.heap H locs) : ∀ U : State, U.heap = H → s.WarmedH U.vm → va_Pc as (PP D cI cO z tP aK aV sh M False) as.toArray U := fun U hU hW => ⟨rfl, Inv.moved hW (by rw [hU]; exact Inv.kept hS.2.1 C.2.2.2.2.2.1), by rw [hU]; exact hP, by rw [hU]; exact Nat.le_trans C.2.2.2.2.2.2.2.2.2 hS.1, fun h => h.elim⟩
theorem g_callV (C : Cx p s m args meth c D cI cO z tP aK aV own nm cc nL rt) {y : MethodName} {bytes : ByteArray} {maxL fr lo mc ms idx np : Nat} {ret : Option FieldType} {Post : Option Value → Shp → Mem → Prop} {rest : List Value} {As : List Value} {k ci : Nat} {sx : List (Option (Option Nat))} {T : u_T} {N : Nat} (hM : Ct l D cI cO z tP aK aV y bytes maxL ret fr lo mc ms False (.ref (z + k) :: As) sh M Post) (hcode : Cond.code y bytes maxL ret ∈ gtbl) (hl1 : Cond.methodLink own idx y ∈ gtbl) (hl2 : Cond.instanceMethod y ∈ gtbl) (hl3 : Cond.selects y.cls y y ∈ gtbl) (hl4 : Cond.initialized y.cls ∈ gtbl) (hd2 : y.cls ≠ "java/lang/invoke/MethodHandle" ∧ y.cls ≠ "java/lang/invoke/VarHandle" ∧ (parseMethodDescriptor y.desc).map (fun d => d.parameters.length) = some np) (hnp : As.length = np) (hci : vwCl[ci]? = some (y.cls, T, N)) (hob : sh[k]? = some (.inr (.inr (ci, sx)))) (hR : fr + 1 ≤ R.frames ∧ 8 + (maxL + 11) + lo ≤ R.locals) (hf : cs + mc ≤ R.cells ∧ sl + ms ≤ R.slots) (hW : (rest.map fun v => v.category).sum ≤ 8) (hst : st = As.reverse ++ .ref (z + k) :: rest) (hd : decode cc pc = .ok (.invokevirtual idx, 3)) (hn : pc + 3 = n) (kk : ∀ (v : Option Value) (sh1 : Shp) (M1 : Mem), Post v sh1 M1 → G p l e R s m args below meth c D cI cO z nL Q (cs + mc) (sl + ms) sh1 M1 n lv (v.toList ++ rest)) : G p l e R s m args below meth c D cI cO z nL Q cs sl sh M pc lv st := by
  subst hn; subst hst
  intro H locs ls hP hS hl
  have hG : GoodIn gtbl (.code y bytes maxL ret :: gtbl) := ggoodIn (c0 := .code y bytes maxL ret) hcode
  refine run_G (a := (Value.ref (z + k) :: As).toArray) (va_runV (C := y.cls) (n := np) (maxL := maxL) (bytes := bytes) (ret := ret) (index := idx) ⟨C.1, C.2.1, C.2.2.1, C.2.2.2.1, C.2.2.2.2.1⟩ hM ⟨callB_of np C.2.2.2.2.1 hG rfl rfl rfl (C.2.2.2.2.1 _ hl4) (C.2.2.2.2.1 _ hl1) hd2 hR, C.2.2.2.2.1 _ hl2, C.2.2.2.2.1 _ hl3⟩ ⟨PP_blind, va_recv C.2.2.2.2.2.1.1 hP hci (wl_get hob), PP_of C hP hS⟩ rfl hnp hl.1 rfl (lv_room hW) hd hf) hS hl kk
theorem g_callS (C : Cx p s m args meth c D cI cO z tP aK aV own nm cc nL rt) {y : MethodName} {bytes : ByteArray} {maxL fr lo mc ms idx np : Nat} {ret : Option FieldType} {Post : Option Value → Shp → Mem → Prop} {rest : List Value} {As : List Value} (hM : Ct l D cI cO z tP aK aV y bytes maxL ret fr lo mc ms False As sh M Post) (hcode : Cond.code y bytes maxL ret ∈ gtbl) (hl1 : Cond.methodLink own idx y ∈ gtbl) (hl2 : Cond.static y ∈ gtbl) (hl4 : Cond.initialized y.cls ∈ gtbl) (hd2 : y.cls ≠ "java/lang/invoke/MethodHandle" ∧ y.cls ≠ "java/lang/invoke/VarHandle" ∧ (parseMethodDescriptor y.desc).map (fun d => d.parameters.length) = some np) (hnp : As.length = np) (hR : fr + 1 ≤ R.frames ∧ 8 + (maxL + 11) + lo ≤ R.locals) (hf : cs + mc ≤ R.cells ∧ sl + ms ≤ R.slots) (hW : (rest.map fun v => v.category).sum ≤ 8) (hst : st = As.reverse ++ rest) (hd : decode cc pc = .ok (.invokestatic idx, 3)) (hn : pc + 3 = n) (kk : ∀ (v : Option Value) (sh1 : Shp) (M1 : Mem), Post v sh1 M1 → G p l e R s m args below meth c D cI cO z nL Q (cs + mc) (sl + ms) sh1 M1 n lv (v.toList ++ rest)) : G p l e R s m args below meth c D cI cO z nL Q cs sl sh M pc lv st := by
  subst hn; subst hst
  intro H locs ls hP hS hl
  have hG : GoodIn gtbl (.code y bytes maxL ret :: gtbl) := ggoodIn (c0 := .code y bytes maxL ret) hcode
  refine run_G (a := As.toArray) (va_runS (n := np) (maxL := maxL) (bytes := bytes) (ret := ret) (index := idx) ⟨C.1, C.2.1, C.2.2.1, C.2.2.2.1, C.2.2.2.2.1⟩ hM ⟨callB_of np C.2.2.2.2.1 hG rfl rfl rfl (C.2.2.2.2.1 _ hl4) (C.2.2.2.2.1 _ hl1) hd2 hR, C.2.2.2.2.1 _ hl2⟩ ⟨PP_blind, PP_of C hP hS⟩ rfl hnp hl.1 rfl (lv_room hW) hd hf) hS hl kk
theorem g_callSN (C : Cx p s m args meth c D cI cO z tP aK aV own nm cc nL rt) {y : MethodName} {bytes : ByteArray} {maxL fr lo mc ms idx np : Nat} {ret : Option FieldType} {Post : Option Value → Shp → Mem → Prop} {rest : List Value} {As : List Value} {host : String} (hM : Ct l D cI cO z tP aK aV y bytes maxL ret fr lo mc ms False As sh M Post) (hcode : Cond.code y bytes maxL ret ∈ gtbl) (hl1 : Cond.methodLinkNest own idx y host ∈ ntbl) (hl2 : Cond.static y ∈ gtbl) (hl4 : Cond.initialized y.cls ∈ gtbl) (hd2 : y.cls ≠ "java/lang/invoke/MethodHandle" ∧ y.cls ≠ "java/lang/invoke/VarHandle" ∧ (parseMethodDescriptor y.desc).map (fun d => d.parameters.length) = some np) (hnp : As.length = np) (hR : fr + 1 ≤ R.frames ∧ 8 + (maxL + 11) + lo ≤ R.locals) (hf : cs + mc ≤ R.cells ∧ sl + ms ≤ R.slots) (hW : (rest.map fun v => v.category).sum ≤ 8) (hst : st = As.reverse ++ rest) (hd : decode cc pc = .ok (.invokestatic idx, 3)) (hn : pc + 3 = n) (kk : ∀ (v : Option Value) (sh1 : Shp) (M1 : Mem), Post v sh1 M1 → G p l e R s m args below meth c D cI cO z nL Q (cs + mc) (sl + ms) sh1 M1 n lv (v.toList ++ rest)) : G p l e R s m args below meth c D cI cO z nL Q cs sl sh M pc lv st := by
  subst hn; subst hst
  intro H locs ls hP hS hl
  have hG : GoodIn gtbl (.code y bytes maxL ret :: gtbl) := ggoodIn (c0 := .code y bytes maxL ret) hcode
  refine run_G (a := As.toArray) (va_runSN (n := np) (maxL := maxL) (bytes := bytes) (ret := ret) (index := idx) ⟨C.1, C.2.1, C.2.2.1, C.2.2.2.1, C.2.2.2.2.1⟩ hM ⟨va_cnB (rm := ⟨fr, mc, ms, lo⟩) np C.2.2.2.2.1 hG rfl rfl rfl (C.2.2.2.2.2.1.2.1 _ hl1) (C.2.2.2.2.1 _ hl4) hd2 hR, C.2.2.2.2.1 _ hl2, trivial⟩ ⟨PP_blind, PP_of C hP hS⟩ rfl hnp hl.1 rfl (lv_room hW) hd hf) hS hl kk
theorem g_mmax (C : Cx p s m args meth c D cI cO z tP aK aV own nm cc nL rt) {idx : Nat} {x y : Int32} (hl1 : Cond.methodLink own idx Lib.Math.max.name ∈ gtbl) (hR : 1 ≤ R.frames ∧ (st.map fun v => v.category).sum + 13 ≤ R.locals) (hf : cs ≤ R.cells ∧ sl ≤ R.slots) (hw2 : Cond.static Lib.Math.max.name ∈ gtbl) (hw3 : Cond.initialized "java/lang/Math" ∈ gtbl) (hw4 : Cond.code Lib.Math.max.name Lib.Math.max.code 2 (some .int) ∈ gtbl) (hd : decode cc pc = .ok (.invokestatic idx, 3)) (hn : pc + 3 = n) (k : G p l e R s m args below meth c D cI cO z nL Q cs sl sh M n lv (.int (if x < y then y else x) :: st)) : G p l e R s m args below meth c D cI cO z nL Q cs sl sh M pc lv (.int y :: .int x :: st) := by
  subst hn
  intro H locs ls hP hS hl
  exact va_mmax C.1 C.2.1 (C.2.2.1.trans hl.1.symm) C.2.2.2.1 (C.2.2.2.2.1 _ hl1) (C.2.2.2.2.1 _ hw2) (C.2.2.2.2.1 _ hw3) (C.2.2.2.2.1 _ hw4) hR.1 hR.2 hf.1 hf.2 hd (k H locs ls hP hS hl)
theorem g_mmin (C : Cx p s m args meth c D cI cO z tP aK aV own nm cc nL rt) {idx : Nat} {x y : Int32} (hl1 : Cond.methodLink own idx Lib.Math.min.name ∈ gtbl) (hR : 1 ≤ R.frames ∧ (st.map fun v => v.category).sum + 13 ≤ R.locals) (hf : cs ≤ R.cells ∧ sl ≤ R.slots) (hw2 : Cond.static Lib.Math.min.name ∈ gtbl) (hw3 : Cond.initialized "java/lang/Math" ∈ gtbl) (hw4 : Cond.code Lib.Math.min.name Lib.Math.min.code 2 (some .int) ∈ gtbl) (hd : decode cc pc = .ok (.invokestatic idx, 3)) (hn : pc + 3 = n) (k : G p l e R s m args below meth c D cI cO z nL Q cs sl sh M n lv (.int (if y < x then y else x) :: st)) : G p l e R s m args below meth c D cI cO z nL Q cs sl sh M pc lv (.int y :: .int x :: st) := by
  subst hn
  intro H locs ls hP hS hl
  exact va_mmin C.1 C.2.1 (C.2.2.1.trans hl.1.symm) C.2.2.2.1 (C.2.2.2.2.1 _ hl1) (C.2.2.2.2.1 _ hw2) (C.2.2.2.2.1 _ hw3) (C.2.2.2.2.1 _ hw4) hR.1 hR.2 hf.1 hf.2 hd (k H locs ls hP hS hl)
end GC
