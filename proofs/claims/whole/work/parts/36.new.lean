/-! rules for what makes cells: the next cell is z + sh.length, for the room is counted to the cell -/
section GN
variable {p : Program} {l : Launch} {e : Env} {R : Room} {s : State} {m : MethodId} {args : Array Value} {below : List Frame} {meth : Method} {c : Code} {D : va_G} {cI cO : ClassId} {z tP : Nat} {aK aV : Nat → Nat} {own nm : String} {cc : ByteArray} {nL : Nat} {rt : Option FieldType} {Q : State → Prop} {cs sl : Nat} {sh : Shp} {M : Mem} {pc n : Nat} {lv : List (Option Value)} {st : List Value}
theorem nx_size (C : Cx p s m args meth c D cI cO z tP aK aV own nm cc nL rt) {H : Heap} {locs : List Loc} {T : State} (h0 : s.heap.size + cs = z + sh.length) (hP : va_P D vwCl (wl cI cO z sh M) H) (hS : va_S (AA z) s.heap H locs) (hT : T.heap = H) (X : Stand p l e R s m args below meth c T locs cs sl) : H.size = z + sh.length := by
  have h1 := X.heapSize
  rw [hT] at h1
  have h2 : z + sh.length ≤ H.size := by
    cases hn : sh.length with
    | zero => exact Nat.le_trans C.2.2.2.2.2.2.2.2.2 hS.1
    | succ k =>
      have hk : k < sh.length := by omega
      have hg : sh[k]? = some sh[k] := List.getElem?_eq_getElem hk
      have := (hP k _ (wl_get hg)).lt
      have h3 : z + k < H.size := this
      omega
  omega
theorem nx_adr {q : Nat} {E : va_E} {H1 : Heap} {locs : List Loc} {T : State} {k9 : Nat} (h0 : s.heap.size + cs = z + sh.length) (hP1 : va_P D vwCl (wl cI cO z sh M ++ [(q, E)]) H1) (hD1 : va_D (AA z) (wl cI cO z sh M ++ [(q, E)])) (hT : T.heap = H1) (X : Stand p l e R s m args below meth c T locs (cs + 1) k9) : q = z + sh.length := by
  have h1 := X.heapSize
  rw [hT] at h1
  have hl : (wl cI cO z sh M).length = sh.length := wl_len
  have hq : (wl cI cO z sh M ++ [(q, E)])[sh.length]? = some (q, E) := by
    rw [List.getElem?_append_right (by omega), hl, Nat.sub_self]; rfl
  have h2 : q < H1.size := (hP1 _ _ hq).lt
  have h3 : z ≤ q := hD1.2 _ _ hq
  by_cases hlt : q < z + sh.length
  · have hk : q - z < sh.length := by omega
    have hg : sh[q - z]? = some sh[q - z] := List.getElem?_eq_getElem hk
    have hk2 : (wl cI cO z sh M ++ [(q, E)])[q - z]? = some (z + (q - z), cel cI cO z M (q - z) sh[q - z]) := by
      rw [List.getElem?_append_left (by omega)]; exact wl_get hg
    have h4 : z + (q - z) = q := by omega
    have := hD1.1 _ _ _ _ hk2 hq h4
    omega
  · omega
theorem g_cnt {cs' sl' : Nat} (h1 : cs = cs') (h2 : sl = sl') (k : G p l e R s m args below meth c D cI cO z nL Q cs' sl' sh M pc lv st) : G p l e R s m args below meth c D cI cO z nL Q cs sl sh M pc lv st := by
  subst h1; subst h2; exact k
theorem g_shp {sh' : Shp} (h : sh = sh') (k : G p l e R s m args below meth c D cI cO z nL Q cs sl sh' M pc lv st) : G p l e R s m args below meth c D cI cO z nL Q cs sl sh M pc lv st := by
  subst h; exact k
theorem g_mem {M' : Mem} (h : M = M') (k : G p l e R s m args below meth c D cI cO z nL Q cs sl sh M' pc lv st) : G p l e R s m args below meth c D cI cO z nL Q cs sl sh M pc lv st := by
  subst h; exact k
theorem g_lvw {lv' : List (Option Value)} (h : lv = lv') (k : G p l e R s m args below meth c D cI cO z nL Q cs sl sh M pc lv' st) : G p l e R s m args below meth c D cI cO z nL Q cs sl sh M pc lv st := by
  subst h; exact k
theorem g_objI (C : Cx p s m args meth c D cI cO z tP aK aV own nm cc nL rt) {idx x : Nat} (hl1 : Cond.methodLink own idx objectInit ∈ gtbl) (hR : 1 ≤ R.frames ∧ (st.map fun v => v.category).sum + 12 ≤ R.locals) (hd : decode cc pc = .ok (.invokespecial idx, 3)) (hn : pc + 3 = n) (k : G p l e R s m args below meth c D cI cO z nL Q cs sl sh M n lv st) : G p l e R s m args below meth c D cI cO z nL Q cs sl sh M pc lv (.ref x :: st) := by
  subst hn
  intro H locs ls hP hS hl
  refine W.objInit C.1 C.2.1 C.2.2.2.1 (C.2.2.2.2.1 _ hl1) (C.2.2.2.2.1 (.instanceMethod objectInit) (gmem (i := 68) (by decide +kernel) (by decide +kernel))) (C.2.2.2.2.1 (.code objectInit ⟨#[0xb1]⟩ 1 none) (gmem (i := 69) (by decide +kernel) (by decide +kernel))) rfl (hl.1.trans C.2.2.1.symm) rfl hd hR.1 ?_ ?_
  · have := hR.2
    simp only [F0, JFrame.monitorRoom]
    omega
  · exact k H locs ls hP hS hl
theorem g_new (C : Cx p s m args meth c D cI cO z tP aK aV own nm cc nL rt) {Cn : String} {T : u_T} {N ci idx k' : Nat} {sh' : Shp} {sx : List (Option (Option Nat))} (hin : ∀ w ∈ u_ws Cn T N, w ∈ gtbl) (ty0 : Nat → FieldType) (hty : ∀ k, k < N → parseFieldDescriptor (T k).2.2.1 = some (ty0 k)) (hc : vwCl[ci]? = some (Cn, T, N)) (hcl : Cond.classLink own idx Cn ∈ gtbl) (hinst : Cond.instantiable Cn N ∈ gtbl) (hini : Cond.initialized Cn ∈ gtbl) (hfs : ∀ j, j < N → defaultValue (ty0 j) = vp_V (sx.mapIdx (fun j x => slv z (fun _ => 0) j x)) j) (hM : ∀ j, M sh.length j = 0) (h0 : s.heap.size + cs = z + sh.length) (hf : cs + 1 ≤ R.cells ∧ sl + N ≤ R.slots) (hs : sh ++ [.inr (.inr (ci, sx))] = sh') (hk : sh.length = k') (hd : decode cc pc = .ok (.new idx, 3)) (hn : pc + 3 = n) (kk : G p l e R s m args below meth c D cI cO z nL Q (cs + 1) (sl + N) sh' M n lv (.ref (z + k') :: st)) : G p l e R s m args below meth c D cI cO z nL Q cs sl sh M pc lv st := by
  subst hn; subst hs; subst hk
  intro H locs ls hP hS hl
  refine va_new (ci := ci) (fs := sx.mapIdx (fun j x => slv z (fun _ => 0) j x)) C.1 C.2.1 C.2.2.2.2.1 hin ty0 hty C.2.2.2.1 (C.2.2.2.2.1 _ hcl) (C.2.2.2.2.1 _ hinst) (C.2.2.2.2.1 _ hini) C.2.2.2.2.2.1.1 hP wl_D hS (fun q hq => Nat.le_trans C.2.2.2.2.2.2.2.2.2 hq) hc hfs hf.1 hf.2 hd (fun q H1 hP1 hD1 hS1 => ?_)
  intro T0 hT X
  have hq := nx_adr h0 hP1 hD1 hT X
  subst hq
  have hM0 : M sh.length = fun _ => 0 := funext hM
  have e : cel cI cO z M sh.length (.inr (.inr (ci, sx))) = .inr (ci, sx.mapIdx (fun j x => slv z (fun _ => 0) j x)) := by
    unfold cel; rw [hM0]
  rw [← e, wl_push] at hP1
  exact kk H1 locs ls hP1 hS1 hl T0 hT X
theorem g_newa (C : Cx p s m args meth c D cI cO z tP aK aV own nm cc nL rt) {N k' : Nat} {i : Int32} {sh' : Shp} (harr : Cond.arrayClass .int ∈ gtbl) (hi : i = nI N) (hN : N < 2 ^ 27) (hM : ∀ j, M sh.length j = 0) (h0 : s.heap.size + cs = z + sh.length) (hf : cs + 1 ≤ R.cells ∧ sl + N ≤ R.slots) (hs : sh ++ [.inl N] = sh') (hk : sh.length = k') (hd : decode cc pc = .ok (.newarray .int, 2)) (hn : pc + 2 = n) (kk : G p l e R s m args below meth c D cI cO z nL Q (cs + 1) (sl + N) sh' M n lv (.ref (z + k') :: st)) : G p l e R s m args below meth c D cI cO z nL Q cs sl sh M pc lv (.int i :: st) := by
  subst hn; subst hs; subst hk; subst hi
  intro H locs ls hP hS hl
  have h31 : N < 2 ^ 31 := Nat.lt_trans hN (by decide)
  have hM0 : M sh.length = fun _ => 0 := funext hM
  refine va_newa (atype := .int) (ty := .int) (a0 := (N, .inl (fun _ => 0))) C.1 C.2.1 (C.2.2.2.2.1 _ harr) rfl C.2.2.2.2.2.1.1 hP wl_D hS (fun q hq => Nat.le_trans C.2.2.2.2.2.2.2.2.2 hq) (fun cA => rfl) (nI_pos h31) (nI_clamp h31) ?_ hf.1 hf.2 hd (fun q cA H1 hK1 hP1 hD1 hS1 => ?_)
  · show N * 4 ≤ 536870912
    omega
  intro T0 hT X
  have hq := nx_adr h0 hP1 hD1 hT X
  subst hq
  have hcA : cA = cI := by
    have a1 := (hK1.2 2 (cA, .int) rfl).2
    have a2 := (C.2.2.2.2.2.1.1.2 0 (cI, .int) rfl).2
    exact Option.some.inj (a1.symm.trans a2)
  subst hcA
  have e : cel cA cO z M sh.length (.inl N) = .inl (cA, N, .inl (fun _ => 0)) := by
    unfold cel; rw [hM0]
  rw [← e, wl_push] at hP1
  exact kk H1 locs ls hP1 hS1 hl T0 hT X
theorem g_anew (C : Cx p s m args meth c D cI cO z tP aK aV own nm cc nL rt) {idx k' : Nat} {sh' : Shp} (hcl : Cond.classLink own idx RX5 ∈ gtbl) (h0 : s.heap.size + cs = z + sh.length) (hf : cs + 1 ≤ R.cells ∧ sl + 6 ≤ R.slots) (hs : sh ++ [.inr (.inl [none, none, none, none, none, none])] = sh') (hk : sh.length = k') (hd : decode cc pc = .ok (.anewarray idx, 3)) (hn : pc + 3 = n) (kk : G p l e R s m args below meth c D cI cO z nL Q (cs + 1) (sl + 6) sh' M n lv (.ref (z + k') :: st)) : G p l e R s m args below meth c D cI cO z nL Q cs sl sh M pc lv (.int 6 :: st) := by
  subst hn; subst hs; subst hk
  intro H locs ls hP hS hl
  refine va_newq (C := RX5) (N' := 6) C.1 C.2.1 C.2.2.2.1 (C.2.2.2.2.1 _ hcl) C.2.2.2.2.2.1.2.2.1 C.2.2.2.2.2.1.1 hP wl_D hS (fun q hq => Nat.le_trans C.2.2.2.2.2.2.2.2.2 hq) (by decide) (by decide) (by decide) hf.1 hf.2 hd (fun q cA H1 hK1 hP1 hD1 hS1 => ?_)
  intro T0 hT X
  have hq := nx_adr h0 hP1 hD1 hT X
  subst hq
  have hcA : cA = cO := by
    obtain ⟨_, _, _, _, _, a1⟩ := (hK1.2 2 (cA, .object RX5) rfl).2
    obtain ⟨_, _, _, _, _, a2⟩ := (C.2.2.2.2.2.1.1.2 1 (cO, .object RX5) rfl).2
    exact Option.some.inj (a1.symm.trans a2)
  subst hcA
  have ef : (fun j => (([none, none, none, none, none, none] : List (Option Nat)).getD j none).map (fun r => z + r)) = fun _ => none := by
    funext j
    match j with
    | 0 => rfl
    | 1 => rfl
    | 2 => rfl
    | 3 => rfl
    | 4 => rfl
    | 5 => rfl
    | j + 6 => rfl
  have e : cel cI cA z M sh.length (.inr (.inl [none, none, none, none, none, none])) = .inl (cA, 6, .inr (.inr (.inr (.inr (fun _ => none))))) := by
    show (Sum.inl (cA, 6, Sum.inr (Sum.inr (Sum.inr (Sum.inr (fun j => (([none, none, none, none, none, none] : List (Option Nat)).getD j none).map (fun r => z + r)))))) : va_E) = _
    rw [ef]
  rw [← e, wl_push] at hP1
  exact kk H1 locs ls hP1 hS1 hl T0 hT X
theorem g_aast (C : Cx p s m args meth c D cI cO z tP aK aV own nm cc nL rt) {k j r : Nat} {i : Int32} {rs : List (Option Nat)} {sx : List (Option (Option Nat))} {sh' : Shp} (hob : sh[k]? = some (.inr (.inl rs))) (hN : rs.length < 2 ^ 31) (hi : i = nI j) (hj : j < rs.length) (hv : sh[r]? = some (.inr (.inr (5, sx)))) (hs : sh.set k (.inr (.inl (rs.set j (some r)))) = sh') (hd : decode cc pc = .ok (.aastore, 1)) (hn : pc + 1 = n) (kk : G p l e R s m args below meth c D cI cO z nL Q cs sl sh' M n lv st) : G p l e R s m args below meth c D cI cO z nL Q cs sl sh M pc lv (.ref (z + r) :: .int i :: .ref (z + k) :: st) := by
  subst hn; subst hs; subst hi
  intro H locs ls hP hS hl
  refine va_astq (r := (RX5, TX5, 5)) C.1 C.2.1 C.2.2.2.2.2.1.1 hP wl_D hS k 1 r 5 (wl_get hob) rfl (wl_get hv) rfl (vp_in_nI hj hN) hd (fun H1 locs1 hP1 _ hS1 => ?_)
  refine kk H1 locs1 ls ?_ hS1 hl
  rw [nI_clamp (Nat.lt_trans hj hN)] at hP1
  rw [← wl_setS (M := M) (e' := .inr (.inl (rs.set j (some r)))) hob]
  have ef : va_up (fun j => (rs.getD j none).map (fun r => z + r)) j (some (z + r)) = fun x => ((rs.set j (some r)).getD x none).map (fun r => z + r) := by
    funext x
    by_cases hx : x = j
    · subst hx
      rw [va_up_self, List.getD_eq_getElem?_getD, List.getElem?_set_self hj]
      rfl
    · rw [va_up_ne _ _ hx, List.getD_eq_getElem?_getD, List.getD_eq_getElem?_getD, List.getElem?_set_ne (fun h => hx h.symm)]
  have e : cel cI cO z M k (.inr (.inl (rs.set j (some r)))) = .inl (cO, rs.length, .inr (.inr (.inr (.inr (va_up (fun j => (rs.getD j none).map (fun r => z + r)) j (some (z + r))))))) := by
    rw [ef]
    show (Sum.inl (cO, (rs.set j (some r)).length, Sum.inr (Sum.inr (Sum.inr (Sum.inr (fun x => ((rs.set j (some r)).getD x none).map (fun r => z + r)))))) : va_E) = _
    rw [List.length_set]
  rw [e]
  exact hP1
theorem g_putR (C : Cx p s m args meth c D cI cO z tP aK aV own nm cc nL rt) {Cn : String} {T : u_T} {N ci idx k j r : Nat} {sx : List (Option (Option Nat))} {sh' : Shp} (hin : ∀ w ∈ u_ws Cn T N, w ∈ gtbl) (hc : vwCl[ci]? = some (Cn, T, N)) (hown : (T j).1 = Cn) (ho2 : Cn = own) (hj : j < N) (ty0 : Nat → FieldType) (hty : ∀ k, k < N → parseFieldDescriptor (T k).2.2.1 = some (ty0 k)) (hnm : ∀ a, a < N → ∀ b, b < N → a ≠ b → (T a).2.1 ≠ (T b).2.1) (hlink : Cond.fieldLink own idx Cn (T j).2.1 (T j).2.2.1 ∈ gtbl) (hfin : (T j).2.2.2 = true) (hini : nm = "<init>") {ty : FieldType} (hde : parseFieldDescriptor (T j).2.2.1 = some ty) (hnr : narrow ty (.ref (z + r)) = .ref (z + r)) (hft : fits ty (.ref (z + r)) = true) (hob : sh[k]? = some (.inr (.inr (ci, sx)))) (hjl : j < sx.length) (hs : sh.set k (.inr (.inr (ci, sx.set j (some (some r))))) = sh') (hd : decode cc pc = .ok (.putfield idx, 3)) (hn : pc + 3 = n) (kk : G p l e R s m args below meth c D cI cO z nL Q cs sl sh' M n lv st) : G p l e R s m args below meth c D cI cO z nL Q cs sl sh M pc lv (.ref (z + r) :: .ref (z + k) :: st) := by
  subst hn; subst hs
  intro H locs ls hP hS hl
  refine va_putF C.1 C.2.1 C.2.2.2.2.1 hin ty0 hty hnm C.2.2.2.1 C.2.2.2.2.2.1.1 hP wl_D hS k (wl_get hob) hc j hj (C.2.2.2.2.1 _ hlink) (fun _ h9 => hown ▸ h9) hfin (C.2.2.2.2.2.2.2.2.1.trans hini) (hown.trans ho2) hde hnr hft (by rw [List.length_mapIdx]; exact hjl) hd (fun H1 locs1 hP1 _ hS1 => ?_)
  refine kk H1 locs1 ls ?_ hS1 hl
  rw [← wl_setS (M := M) (e' := .inr (.inr (ci, sx.set j (some (some r))))) hob]
  have e : cel cI cO z M k (.inr (.inr (ci, sx.set j (some (some r))))) = .inr (ci, (sx.mapIdx (fun j x => slv z (M k) j x)).set j (.ref (z + r))) := by
    show (Sum.inr (ci, (sx.set j (some (some r))).mapIdx (fun j x => slv z (M k) j x)) : va_E) = _
    congr 2
    apply List.ext_getElem?
    intro i
    by_cases hi : i = j
    · subst hi
      rw [List.getElem?_mapIdx, List.getElem?_set_self hjl, List.getElem?_set_self (by rw [List.length_mapIdx]; exact hjl)]
      rfl
    · rw [List.getElem?_mapIdx, List.getElem?_set_ne (fun h => hi h.symm), List.getElem?_set_ne (fun h => hi h.symm), List.getElem?_mapIdx]
  rw [e]
  exact hP1
theorem PP_ofT (C : Cx p s m args meth c D cI cO z tP aK aV own nm cc nL rt) {H : Heap} {locs : List Loc} {as : List Value} (hz : H.size = z + sh.length) (hP : va_P D vwCl (wl cI cO z sh M) H) (hS : va_S (AA z) s.heap H locs) : ∀ U : State, U.heap = H → s.WarmedH U.vm → va_Pc as (PP D cI cO z tP aK aV sh M True) as.toArray U := fun U hU hW => ⟨rfl, Inv.moved hW (by rw [hU]; exact Inv.kept hS.2.1 C.2.2.2.2.2.1), by rw [hU]; exact hP, by rw [hU]; exact Nat.le_trans C.2.2.2.2.2.2.2.2.2 hS.1, fun _ => by rw [hU]; exact hz⟩
theorem g_callI (C : Cx p s m args meth c D cI cO z tP aK aV own nm cc nL rt) {y : MethodName} {bytes : ByteArray} {maxL fr lo mc ms idx np : Nat} {Post : Option Value → Shp → Mem → Prop} {rest : List Value} {As : List Value} {k : Nat} (hM : Ct l D cI cO z tP aK aV y bytes maxL none fr lo mc ms True (.ref (z + k) :: As) sh M Post) (hcode : Cond.code y bytes maxL none ∈ gtbl) (hnm : y.name = "<init>") (hl1 : Cond.methodLink own idx y ∈ gtbl) (hl2 : Cond.instanceMethod y ∈ gtbl) (hl4 : Cond.initialized y.cls ∈ gtbl) (hd2 : y.cls ≠ "java/lang/invoke/MethodHandle" ∧ y.cls ≠ "java/lang/invoke/VarHandle" ∧ (parseMethodDescriptor y.desc).map (fun d => d.parameters.length) = some np) (hnp : As.length = np) (h0 : s.heap.size + cs = z + sh.length) (hR : fr + 1 ≤ R.frames ∧ 8 + (maxL + 11) + lo ≤ R.locals) (hf : cs + mc ≤ R.cells ∧ sl + ms ≤ R.slots) (hW : (rest.map fun v => v.category).sum ≤ 8) (hst : st = As.reverse ++ .ref (z + k) :: rest) (hd : decode cc pc = .ok (.invokespecial idx, 3)) (hn : pc + 3 = n) (kk : ∀ (v : Option Value) (sh1 : Shp) (M1 : Mem), Post v sh1 M1 → G p l e R s m args below meth c D cI cO z nL Q (cs + mc) (sl + ms) sh1 M1 n lv (v.toList ++ rest)) : G p l e R s m args below meth c D cI cO z nL Q cs sl sh M pc lv st := by
  subst hn; subst hst
  intro H locs ls hP hS hl T hT X
  have hz := nx_size C h0 hP hS hT X
  have hG : GoodIn gtbl (.code y bytes maxL none :: gtbl) := ggoodIn (c0 := .code y bytes maxL none) hcode
  exact (run_G (a := (Value.ref (z + k) :: As).toArray) (va_runI (n := np) (maxL := maxL) (bytes := bytes) (index := idx) ⟨C.1, C.2.1, C.2.2.1, C.2.2.2.1, C.2.2.2.2.1⟩ hM ⟨callB_of np C.2.2.2.2.1 hG rfl rfl rfl (C.2.2.2.2.1 _ hl4) (C.2.2.2.2.1 _ hl1) hd2 hR, hnm, C.2.2.2.2.1 _ hl2⟩ ⟨PP_blind, PP_ofT C hz hP hS⟩ rfl hnp hl.1 rfl (lv_room hW) hd hf) hS hl kk) T hT X
end GN
