/-! texts: constant Strings, by their places -/
def sB (i j : Nat) : Int32 := (strByt.getD i []).getD j 0
def sN (i : Nat) : Nat := strLen.getD i 0
theorem sN_lt : ∀ i, i < 5 → sN i ≤ 10 := by decide
theorem sB_c : ∀ i, i < 5 → ∀ j, j < sN i → ((sB i j &&& 255).toUInt32 % 65536).toInt32 = sB i j := by decide
section ST
variable {p : Program} {l : Launch} {e : Env} {R : Room} {s : State} {m : MethodId} {args : Array Value} {below : List Frame} {meth : Method} {c : Code} {D : va_G} {cI cO : ClassId} {z tP : Nat} {aK aV : Nat → Nat} {nm : String} {cc : ByteArray} {nL : Nat} {rt : Option FieldType} {Q : State → Prop} {cs sl : Nat} {sh : Shp} {M : Mem} {pc n : Nat} {lv : List (Option Value)} {st : List Value}
theorem g_ishr {own : String} (C : Cx p s m args meth c D cI cO z tP aK aV own nm cc nL rt) {x y : Int32} (hd : decode cc pc = .ok (.ishr, 1)) (hn : pc + 1 = n) (k : G p l e R s m args below meth c D cI cO z nL Q cs sl sh M n lv (.int (x >>> (y &&& 31)) :: st)) : G p l e R s m args below meth c D cI cO z nL Q cs sl sh M pc lv (.int y :: .int x :: st) := by
  subst hn
  intro H locs ls hP hS hl
  exact lv_ishr C.1 C.2.1 hd (k H locs ls hP hS hl)
theorem g_ldcS (C : Cx p s m args meth c D cI cO z tP aK aV RX6 nm cc nL rt) {i idx : Nat} (hi : i < 5) (hx : strIdx.getD i 0 = idx) (hd : decode cc pc = .ok (.ldc idx, 2)) (hn : pc + 2 = n) (k : G p l e R s m args below meth c D cI cO z nL Q cs sl sh M n lv (.ref (aK i) :: st)) : G p l e R s m args below meth c D cI cO z nL Q cs sl sh M pc lv st := by
  subst hn; subst hx
  intro H locs ls hP hS hl
  exact va_ldcS C.1 C.2.1 C.2.2.2.1 (C.2.2.2.2.2.1.2.2.2.2.2.1 i hi) hd (k H locs ls hP hS hl)
theorem g_getCS (C : Cx p s m args meth c D cI cO z tP aK aV RJ0 nm cc nL rt) (hd : decode cc pc = .ok (.getstatic 38, 3)) (hn : pc + 3 = n) (k : G p l e R s m args below meth c D cI cO z nL Q cs sl sh M n lv (.int 1 :: st)) : G p l e R s m args below meth c D cI cO z nL Q cs sl sh M pc lv st := by
  subst hn
  intro H locs ls hP hS hl
  exact va_gets (ref := RJ0) C.1 C.2.1 C.2.2.2.2.2.1.2.2.2.2.2.2.1 hS C.2.2.2.1 (C.2.2.2.2.1 _ (gmem (i := 339) (by decide +kernel) (by decide +kernel))) (fun _ h => h) hd (k H locs ls hP hS hl)
theorem g_getSF (C : Cx p s m args meth c D cI cO z tP aK aV RJ0 nm cc nL rt) (hd : decode cc pc = .ok (.getstatic 1053, 3)) (hn : pc + 3 = n) (k : ∀ v : Value, v.category = 1 → G p l e R s m args below meth c D cI cO z nL Q cs sl sh M n lv (v :: st)) : G p l e R s m args below meth c D cI cO z nL Q cs sl sh M pc lv st := by
  subst hn
  intro H locs ls hP hS hl
  rcases C.2.2.2.2.2.1.2.2.2.2.2.2.2 with hZ | ⟨t, hZ⟩
  · exact va_gets (ref := RJ3) C.1 C.2.1 hZ hS C.2.2.2.1 (C.2.2.2.2.1 _ (gmem (i := 355) (by decide +kernel) (by decide +kernel))) (fun _ h => h) hd (k _ rfl H locs ls hP hS hl)
  · exact va_gets (ref := RJ3) C.1 C.2.1 hZ hS C.2.2.2.1 (C.2.2.2.2.1 _ (gmem (i := 355) (by decide +kernel) (by decide +kernel))) (fun _ h => h) hd (k _ rfl H locs ls hP hS hl)
theorem g_gstV (C : Cx p s m args meth c D cI cO z tP aK aV RJ0 nm cc nL rt) {i : Nat} (hi : i < 5) (hd : decode cc pc = .ok (.getfield 9, 3)) (hn : pc + 3 = n) (k : G p l e R s m args below meth c D cI cO z nL Q cs sl sh M n lv (.ref (aV i) :: st)) : G p l e R s m args below meth c D cI cO z nL Q cs sl sh M pc lv (.ref (aK i) :: st) := by
  subst hn
  intro H locs ls hP hS hl
  exact vk_getf (ref := RJ0) C.1 C.2.1 (C.2.2.2.2.2.1.2.2.2.2.1.1 i hi).2.2.1 hS C.2.2.2.1 (C.2.2.2.2.1 _ (gmem (i := 1027) (by decide +kernel) (by decide +kernel))) (fun _ h => h) hd (k H locs ls hP hS hl)
theorem g_gstC (C : Cx p s m args meth c D cI cO z tP aK aV RJ0 nm cc nL rt) {i : Nat} (hi : i < 5) (hd : decode cc pc = .ok (.getfield 15, 3)) (hn : pc + 3 = n) (k : G p l e R s m args below meth c D cI cO z nL Q cs sl sh M n lv (.int 0 :: st)) : G p l e R s m args below meth c D cI cO z nL Q cs sl sh M pc lv (.ref (aK i) :: st) := by
  subst hn
  intro H locs ls hP hS hl
  exact vk_getf (ref := RJ0) C.1 C.2.1 (C.2.2.2.2.2.1.2.2.2.2.1.1 i hi).2.1 hS C.2.2.2.1 (C.2.2.2.2.1 _ (gmem (i := 1028) (by decide +kernel) (by decide +kernel))) (fun _ h => h) hd (k H locs ls hP hS hl)
theorem g_slen {own : String} (C : Cx p s m args meth c D cI cO z tP aK aV own nm cc nL rt) {i : Nat} (hi : i < 5) (hd : decode cc pc = .ok (.arraylength, 1)) (hn : pc + 1 = n) (k : G p l e R s m args below meth c D cI cO z nL Q cs sl sh M n lv (.int (nI (sN i)) :: st)) : G p l e R s m args below meth c D cI cO z nL Q cs sl sh M pc lv (.ref (aV i) :: st) := by
  subst hn
  intro H locs ls hP hS hl
  exact va_tlen C.1 C.2.1 (C.2.2.2.2.2.1.2.2.2.2.1.1 i hi).2.2.2 hS rfl hd (k H locs ls hP hS hl)
theorem g_sb {own : String} (C : Cx p s m args meth c D cI cO z tP aK aV own nm cc nL rt) {i : Nat} (hi : i < 5) {j : Nat} {x : Int32} (hx : x = nI j) (hj : j < sN i) (hd : decode cc pc = .ok (.baload, 1)) (hn : pc + 1 = n) (k : G p l e R s m args below meth c D cI cO z nL Q cs sl sh M n lv (.int (sB i j) :: st)) : G p l e R s m args below meth c D cI cO z nL Q cs sl sh M pc lv (.int x :: .ref (aV i) :: st) := by
  subst hn; subst hx
  intro H locs ls hP hS hl
  have h10 := sN_lt i hi
  exact va_tb C.1 C.2.1 (C.2.2.2.2.2.1.2.2.2.2.1.1 i hi).2.2.2 hS (vp_in_nI (N := sN i) hj (by omega)) (by rw [nI_clamp (by omega)]; rfl) hd (k H locs ls hP hS hl)
theorem g_callVS {own : String} (C : Cx p s m args meth c D cI cO z tP aK aV own nm cc nL rt) {y : MethodName} {bytes : ByteArray} {maxL fr lo mc ms idx np i : Nat} {ret : Option FieldType} {Post : Option Value → Shp → Mem → Prop} {rest : List Value} {As : List Value} (hM : Ct l D cI cO z tP aK aV y bytes maxL ret fr lo mc ms False (.ref (aK i) :: As) sh M Post) (hcode : Cond.code y bytes maxL ret ∈ gtbl) (hl1 : Cond.methodLink own idx y ∈ gtbl) (hl2 : Cond.instanceMethod y ∈ gtbl) (hl3 : Cond.selects y.cls y y ∈ gtbl) (hl4 : Cond.initialized y.cls ∈ gtbl) (hd2 : y.cls ≠ "java/lang/invoke/MethodHandle" ∧ y.cls ≠ "java/lang/invoke/VarHandle" ∧ (parseMethodDescriptor y.desc).map (fun d => d.parameters.length) = some np) (hnp : As.length = np) (hyc : y.cls = "java/lang/String") (hi : i < 5) (hR : fr + 1 ≤ R.frames ∧ 8 + (maxL + 11) + lo ≤ R.locals) (hf : cs + mc ≤ R.cells ∧ sl + ms ≤ R.slots) (hW : (rest.map fun v => v.category).sum ≤ 8) (hst : st = As.reverse ++ .ref (aK i) :: rest) (hd : decode cc pc = .ok (.invokevirtual idx, 3)) (hn : pc + 3 = n) (kk : ∀ (v : Option Value) (sh1 : Shp) (M1 : Mem), Post v sh1 M1 → G p l e R s m args below meth c D cI cO z nL Q (cs + mc) (sl + ms) sh1 M1 n lv (v.toList ++ rest)) : G p l e R s m args below meth c D cI cO z nL Q cs sl sh M pc lv st := by
  subst hn; subst hst
  intro H locs ls hP hS hl
  have hG : GoodIn gtbl (.code y bytes maxL ret :: gtbl) := ggoodIn (c0 := .code y bytes maxL ret) hcode
  have hrv := vk_recv C.2.2.2.2.2.1.2.2.2.2.1 hi hS
  rw [← hyc] at hrv
  refine run_G (a := (Value.ref (aK i) :: As).toArray) (va_runV (C := y.cls) (n := np) (maxL := maxL) (bytes := bytes) (ret := ret) (index := idx) ⟨C.1, C.2.1, C.2.2.1, C.2.2.2.1, C.2.2.2.2.1⟩ hM ⟨callB_of np C.2.2.2.2.1 hG rfl rfl rfl (C.2.2.2.2.1 _ hl4) (C.2.2.2.2.1 _ hl1) hd2 hR, C.2.2.2.2.1 _ hl2, C.2.2.2.2.1 _ hl3⟩ ⟨PP_blind, hrv, PP_of C hP hS⟩ rfl hnp hl.1 rfl (lv_room hW) hd hf) hS hl kk
theorem kc_X6_221 (C : Cx p s m args meth c D cI cO z tP aK aV RX6 nm cc nL rt) {i : Nat} {P : Int32 → Mem → Prop} {rest : List Value} (hM : Cm l D cI cO z tP aK aV yJ0_length_8abf5 cJ0_length_8abf5 1 (some .int) 1 20 [.ref (aK i)] sh M (pI P)) (hi : i < 5) (hR : 1 + 1 ≤ R.frames ∧ 8 + (1 + 11) + 20 ≤ R.locals) (hf : cs ≤ R.cells ∧ sl ≤ R.slots) (hW : (rest.map fun v => v.category).sum ≤ 8) (hd : decode cc pc = .ok (.invokevirtual 221, 3)) (hn : pc + 3 = n) (kk : ∀ r M1, P r M1 → G p l e R s m args below meth c D cI cO z nL Q cs sl sh M1 n lv (.int r :: rest)) : G p l e R s m args below meth c D cI cO z nL Q cs sl sh M pc lv (.ref (aK i) :: rest) := g_callVS (As := []) C hM wc_J0_length_8abf5 wk_X6_221 wn_J0_length_8abf5 we_J0_length_8abf5 wi_J0 wd_J0_length_8abf5 rfl rfl hi hR hf hW rfl hd hn (fun v sh1 M1 h => by obtain ⟨rfl, r, rfl, h⟩ := h; exact kk r M1 h)
theorem kc_X6_226 (C : Cx p s m args meth c D cI cO z tP aK aV RX6 nm cc nL rt) {a1 : Value} {i : Nat} {P : Int32 → Mem → Prop} {rest : List Value} (hM : Cm l D cI cO z tP aK aV yJ0_charAt_5068e cJ0_charAt_5068e 2 (some .char) 4 85 [.ref (aK i), a1] sh M (pI P)) (hi : i < 5) (hR : 4 + 1 ≤ R.frames ∧ 8 + (2 + 11) + 85 ≤ R.locals) (hf : cs ≤ R.cells ∧ sl ≤ R.slots) (hW : (rest.map fun v => v.category).sum ≤ 8) (hd : decode cc pc = .ok (.invokevirtual 226, 3)) (hn : pc + 3 = n) (kk : ∀ r M1, P r M1 → G p l e R s m args below meth c D cI cO z nL Q cs sl sh M1 n lv (.int r :: rest)) : G p l e R s m args below meth c D cI cO z nL Q cs sl sh M pc lv (a1 :: .ref (aK i) :: rest) := g_callVS (As := [a1]) C hM wc_J0_charAt_5068e wk_X6_226 wn_J0_charAt_5068e we_J0_charAt_5068e wi_J0 wd_J0_charAt_5068e rfl rfl hi hR hf hW rfl hd hn (fun v sh1 M1 h => by obtain ⟨rfl, r, rfl, h⟩ := h; exact kk r M1 h)
theorem kc_J0_335 (C : Cx p s m args meth c D cI cO z tP aK aV RJ0 nm cc nL rt) {i : Nat} {P : Int32 → Mem → Prop} {rest : List Value} (hM : Cm l D cI cO z tP aK aV yJ0_coder_7d493 cJ0_coder_7d493 1 (some .byte) 0 0 [.ref (aK i)] sh M (pI P)) (hi : i < 5) (hR : 0 + 1 ≤ R.frames ∧ 8 + (1 + 11) + 0 ≤ R.locals) (hf : cs ≤ R.cells ∧ sl ≤ R.slots) (hW : (rest.map fun v => v.category).sum ≤ 8) (hd : decode cc pc = .ok (.invokevirtual 335, 3)) (hn : pc + 3 = n) (kk : ∀ r M1, P r M1 → G p l e R s m args below meth c D cI cO z nL Q cs sl sh M1 n lv (.int r :: rest)) : G p l e R s m args below meth c D cI cO z nL Q cs sl sh M pc lv (.ref (aK i) :: rest) := g_callVS (As := []) C hM wc_J0_coder_7d493 wk_J0_335 wn_J0_coder_7d493 we_J0_coder_7d493 wi_J0 wd_J0_coder_7d493 rfl rfl hi hR hf hW rfl hd hn (fun v sh1 M1 h => by obtain ⟨rfl, r, rfl, h⟩ := h; exact kk r M1 h)
theorem kc_J0_492 (C : Cx p s m args meth c D cI cO z tP aK aV RJ0 nm cc nL rt) {i : Nat} {P : Int32 → Mem → Prop} {rest : List Value} (hM : Cm l D cI cO z tP aK aV yJ0_isLatin1_aae02 cJ0_isLatin1_aae02 1 (some .boolean) 0 0 [.ref (aK i)] sh M (pI P)) (hi : i < 5) (hR : 0 + 1 ≤ R.frames ∧ 8 + (1 + 11) + 0 ≤ R.locals) (hf : cs ≤ R.cells ∧ sl ≤ R.slots) (hW : (rest.map fun v => v.category).sum ≤ 8) (hd : decode cc pc = .ok (.invokevirtual 492, 3)) (hn : pc + 3 = n) (kk : ∀ r M1, P r M1 → G p l e R s m args below meth c D cI cO z nL Q cs sl sh M1 n lv (.int r :: rest)) : G p l e R s m args below meth c D cI cO z nL Q cs sl sh M pc lv (.ref (aK i) :: rest) := g_callVS (As := []) C hM wc_J0_isLatin1_aae02 wk_J0_492 wn_J0_isLatin1_aae02 we_J0_isLatin1_aae02 wi_J0 wd_J0_isLatin1_aae02 rfl rfl hi hR hf hW rfl hd hn (fun v sh1 M1 h => by obtain ⟨rfl, r, rfl, h⟩ := h; exact kk r M1 h)
end ST
def nmB (tl : Nat) (tx : Nat → Int32) (i : Nat) : Prop := tl = sN i ∧ ∀ j, j < tl → tx j = sB i j
theorem mk_ix {c0 : Int32} : isMk c0 = true ↔ ∃ j, j < 10 ∧ sB 0 j = c0 := by
  constructor
  · intro h
    unfold isMk at h
    have h := of_decide_eq_true h
    rcases h with rfl | rfl | rfl | rfl | rfl | rfl | rfl | rfl | rfl | rfl
    · exact ⟨0, by decide, by decide⟩
    · exact ⟨1, by decide, by decide⟩
    · exact ⟨2, by decide, by decide⟩
    · exact ⟨3, by decide, by decide⟩
    · exact ⟨4, by decide, by decide⟩
    · exact ⟨5, by decide, by decide⟩
    · exact ⟨6, by decide, by decide⟩
    · exact ⟨7, by decide, by decide⟩
    · exact ⟨8, by decide, by decide⟩
    · exact ⟨9, by decide, by decide⟩
  · rintro ⟨j, hj, rfl⟩
    have : ∀ j, j < 10 → isMk (sB 0 j) = true := by decide
    exact this j hj
theorem sw_out_0_2 {x : Int32} (h0 : ¬ x = 0) (h1 : ¬ x = 1) (h2 : ¬ x = 2) : x.toInt < 0 ∨ 2 < x.toInt := by
  have e0 : x.toInt ≠ 0 := lv_neT h0 (by decide)
  have e1 : x.toInt ≠ 1 := lv_neT h1 (by decide)
  have e2 : x.toInt ≠ 2 := lv_neT h2 (by decide)
  omega
theorem bp_m4 : (Int8.ofInt (-4)).toInt32 = (-4) := by decide
theorem sp_255 : (Int16.ofInt 255).toInt32 = 255 := by decide
set_option maxHeartbeats 4000000 in
set_option maxRecDepth 100000 in
theorem ct_J0_coder_7d493 {l : Launch} {D : va_G} {cI cO : ClassId} {z tP : Nat} {aK aV : Nat → Nat} (sh : Shp) (M : Mem) (i : Nat) (h5 : i < 5) : Cm l D cI cO z tP aK aV yJ0_coder_7d493 cJ0_coder_7d493 1 (some .byte) 0 0 [.ref (aK i)] sh M (pI (fun r M1 => r = 0 ∧ M1 = M)) := by
  refine cm_intro (lv0 := [some (.ref (aK i))]) (by decide) rfl (Nat.le_of_ble_eq_true rfl) rfl (fun p e s m below meth c C => ?_)
  refine g_getCS C dJ0_coder_7d493_0 (n := 3) rfl ?_
  refine g_if_eq C dJ0_coder_7d493_3 (t := 13) (by decide) (n := 6) rfl (fun c_3 => ?_) (fun c_3 => ?_)
  · exact absurd c_3 (by decide)
  · have _u := True.intro
    refine g_aload0 C dJ0_coder_7d493_6 (n := 7) rfl ?_
    refine g_gstC C h5 dJ0_coder_7d493_7 (n := 10) rfl ?_
    refine g_goto C dJ0_coder_7d493_10 (t := 14) (by decide) ?_
    refine r_Z C dJ0_coder_7d493_14 rfl ?_
    exact ⟨rfl, rfl⟩
set_option maxHeartbeats 4000000 in
set_option maxRecDepth 100000 in
theorem ct_J0_isLatin1_aae02 {l : Launch} {D : va_G} {cI cO : ClassId} {z tP : Nat} {aK aV : Nat → Nat} (sh : Shp) (M : Mem) (i : Nat) (h5 : i < 5) : Cm l D cI cO z tP aK aV yJ0_isLatin1_aae02 cJ0_isLatin1_aae02 1 (some .boolean) 0 0 [.ref (aK i)] sh M (pI (fun r M1 => r = 1 ∧ M1 = M)) := by
  refine cm_intro (lv0 := [some (.ref (aK i))]) (by decide) rfl (Nat.le_of_ble_eq_true rfl) rfl (fun p e s m below meth c C => ?_)
  refine g_getCS C dJ0_isLatin1_aae02_0 (n := 3) rfl ?_
  refine g_if_eq C dJ0_isLatin1_aae02_3 (t := 17) (by decide) (n := 6) rfl (fun c_3 => ?_) (fun c_3 => ?_)
  · exact absurd c_3 (by decide)
  · have _u := True.intro
    refine g_aload0 C dJ0_isLatin1_aae02_6 (n := 7) rfl ?_
    refine g_gstC C h5 dJ0_isLatin1_aae02_7 (n := 10) rfl ?_
    refine g_if_ne C dJ0_isLatin1_aae02_10 (t := 17) (by decide) (n := 13) rfl (fun c_10 => ?_) (fun c_10 => ?_)
    · exact absurd rfl c_10
    · have _u := True.intro
      refine g_iconst C ic_1 dJ0_isLatin1_aae02_13 (n := 14) rfl ?_
      refine g_goto C dJ0_isLatin1_aae02_14 (t := 18) (by decide) ?_
      refine r_Z C dJ0_isLatin1_aae02_18 rfl ?_
      exact ⟨rfl, rfl⟩
set_option maxHeartbeats 4000000 in
set_option maxRecDepth 100000 in
theorem ct_J0_length_8abf5 {l : Launch} {D : va_G} {cI cO : ClassId} {z tP : Nat} {aK aV : Nat → Nat} (sh : Shp) (M : Mem) (i : Nat) (h5 : i < 5) : Cm l D cI cO z tP aK aV yJ0_length_8abf5 cJ0_length_8abf5 1 (some .int) 1 20 [.ref (aK i)] sh M (pI (fun r M1 => r = nI (sN i) ∧ M1 = M)) := by
  refine cm_intro (lv0 := [some (.ref (aK i))]) (by decide) rfl (Nat.le_of_ble_eq_true rfl) rfl (fun p e s m below meth c C => ?_)
  refine g_aload0 C dJ0_length_8abf5_0 (n := 1) rfl ?_
  refine g_gstV C h5 dJ0_length_8abf5_1 (n := 4) rfl ?_
  refine g_slen C h5 dJ0_length_8abf5_4 (n := 5) rfl ?_
  refine g_aload0 C dJ0_length_8abf5_5 (n := 6) rfl ?_
  refine kc_J0_335 C (ct_J0_coder_7d493 _ _ _ (by assumption)) h5 ⟨Nat.le_of_ble_eq_true rfl, Nat.le_of_ble_eq_true rfl⟩ ⟨Nat.zero_le _, Nat.zero_le _⟩ (Nat.le_of_ble_eq_true rfl) dJ0_length_8abf5_6 (n := 9) rfl (fun r_6 M_6 h_6 => ?_)
  rw [h_6.1, h_6.2]
  refine g_ishr C dJ0_length_8abf5_9 (n := 10) rfl ?_
  refine r_I C dJ0_length_8abf5_10 ?_
  exact ⟨sb_shr0 _, rfl⟩
set_option maxHeartbeats 4000000 in
set_option maxRecDepth 100000 in
theorem ct_J3_checkIndex_8e157 {l : Launch} {D : va_G} {cI cO : ClassId} {z tP : Nat} {aK aV : Nat → Nat} (sh : Shp) (M : Mem) (j n : Nat) (x y : Int32) (v : Value) (hx : x = nI j) (hy : y = nI n) (hj : j < n) (hn : n < 2 ^ 31) (hv : v.category = 1) : Cm l D cI cO z tP aK aV yJ3_checkIndex_8e157 cJ3_checkIndex_8e157 3 (some .int) 0 0 [.int x, .int y, v] sh M (pI (fun r M1 => M1 = M)) := by
  refine cm_intro (lv0 := [some (.int x), some (.int y), some v]) (by decide) (by simp [hv]; exact ⟨rfl, rfl⟩) (Nat.le_of_ble_eq_true rfl) rfl (fun p e s m below meth c C => ?_)
  refine g_iload0 C dJ3_checkIndex_8e157_0 (n := 1) rfl ?_
  refine g_if_lt C dJ3_checkIndex_8e157_1 (t := 9) (by decide) (n := 4) rfl (fun c_1 => ?_) (fun c_1 => ?_)
  · exact absurd c_1 (by rw [hx]; exact nI_pos (by omega))
  · refine g_iload0 C dJ3_checkIndex_8e157_4 (n := 5) rfl ?_
    refine g_iload1 C dJ3_checkIndex_8e157_5 (n := 6) rfl ?_
    refine g_icmp_lt C dJ3_checkIndex_8e157_6 (t := 16) (by decide) (n := 9) rfl (fun c_6 => ?_) (fun c_6 => ?_)
    · refine g_iload0 C dJ3_checkIndex_8e157_16 (n := 17) rfl ?_
      exact r_I C dJ3_checkIndex_8e157_17 rfl
    · exact absurd ((qlt hx hy (by omega) hn).mpr hj) c_6
set_option maxHeartbeats 4000000 in
set_option maxRecDepth 100000 in
theorem ct_J0_checkIndex_df160 {l : Launch} {D : va_G} {cI cO : ClassId} {z tP : Nat} {aK aV : Nat → Nat} (sh : Shp) (M : Mem) (j n : Nat) (x y : Int32) (hx : x = nI j) (hy : y = nI n) (hj : j < n) (hn : n < 2 ^ 31) : Cm l D cI cO z tP aK aV yJ0_checkIndex_df160 cJ0_checkIndex_df160 2 none 1 22 [.int x, .int y] sh M (pV (fun M1 => M1 = M)) := by
  refine cm_intro (lv0 := [some (.int x), some (.int y)]) (by decide) rfl (Nat.le_of_ble_eq_true rfl) rfl (fun p e s m below meth c C => ?_)
  refine g_iload0 C dJ0_checkIndex_df160_0 (n := 1) rfl ?_
  refine g_iload1 C dJ0_checkIndex_df160_1 (n := 2) rfl ?_
  refine g_getSF C dJ0_checkIndex_df160_2 (n := 5) rfl (fun v hv => ?_)
  refine kc_J0_1059 C (ct_J3_checkIndex_8e157 sh M j n x y v hx hy hj hn hv) ⟨Nat.le_of_ble_eq_true rfl, Nat.le_of_ble_eq_true rfl⟩ ⟨Nat.zero_le _, Nat.zero_le _⟩ (Nat.le_of_ble_eq_true rfl) dJ0_checkIndex_df160_5 (n := 8) rfl (fun r M1 hM1 => ?_)
  rw [hM1]
  refine g_pop C rfl dJ0_checkIndex_df160_8 (n := 9) rfl ?_
  exact r_V C dJ0_checkIndex_df160_9 rfl
set_option maxHeartbeats 4000000 in
set_option maxRecDepth 100000 in
theorem ct_J1_charAt_3b067 {l : Launch} {D : va_G} {cI cO : ClassId} {z tP : Nat} {aK aV : Nat → Nat} (sh : Shp) (M : Mem) (i : Nat) (h5 : i < 5) (j : Nat) (x : Int32) (hx : x = nI j) (hj : j < sN i) : Cm l D cI cO z tP aK aV yJ1_charAt_3b067 cJ1_charAt_3b067 2 (some .char) 2 43 [.ref (aV i), .int x] sh M (pI (fun r M1 => r = sB i j ∧ M1 = M)) := by
  refine cm_intro (lv0 := [some (.ref (aV i)), some (.int x)]) (by decide) rfl (Nat.le_of_ble_eq_true rfl) rfl (fun p e s m below meth c C => ?_)
  have h10 := sN_lt i h5
  refine g_iload1 C dJ1_charAt_3b067_0 (n := 1) rfl ?_
  refine g_aload0 C dJ1_charAt_3b067_1 (n := 2) rfl ?_
  refine g_slen C h5 dJ1_charAt_3b067_2 (n := 3) rfl ?_
  refine kc_J1_9 C (ct_J0_checkIndex_df160 sh M j (sN i) x _ hx rfl hj (by omega)) ⟨Nat.le_of_ble_eq_true rfl, Nat.le_of_ble_eq_true rfl⟩ ⟨Nat.zero_le _, Nat.zero_le _⟩ (Nat.le_of_ble_eq_true rfl) dJ1_charAt_3b067_3 (n := 6) rfl (fun Mc hMc => ?_)
  rw [hMc]
  refine g_aload0 C dJ1_charAt_3b067_6 (n := 7) rfl ?_
  refine g_iload1 C dJ1_charAt_3b067_7 (n := 8) rfl ?_
  refine g_sb C h5 (j := j) (hx) (hj) dJ1_charAt_3b067_8 (n := 9) rfl ?_
  refine g_sipush C sp_255 dJ1_charAt_3b067_9 (n := 12) rfl ?_
  refine g_iand C dJ1_charAt_3b067_12 (n := 13) rfl ?_
  refine g_i2c C dJ1_charAt_3b067_13 (n := 14) rfl ?_
  refine r_Z C dJ1_charAt_3b067_14 (pk_nc _) ?_
  exact ⟨sB_c i h5 j hj, rfl⟩
set_option maxHeartbeats 4000000 in
set_option maxRecDepth 100000 in
theorem ct_J0_charAt_5068e {l : Launch} {D : va_G} {cI cO : ClassId} {z tP : Nat} {aK aV : Nat → Nat} (sh : Shp) (M : Mem) (i : Nat) (h5 : i < 5) (j : Nat) (x : Int32) (hx : x = nI j) (hj : j < sN i) : Cm l D cI cO z tP aK aV yJ0_charAt_5068e cJ0_charAt_5068e 2 (some .char) 4 85 [.ref (aK i), .int x] sh M (pI (fun r M1 => r = sB i j ∧ M1 = M)) := by
  refine cm_intro (lv0 := [some (.ref (aK i)), some (.int x)]) (by decide) rfl (Nat.le_of_ble_eq_true rfl) rfl (fun p e s m below meth c C => ?_)
  refine g_aload0 C dJ0_charAt_5068e_0 (n := 1) rfl ?_
  refine kc_J0_492 C (ct_J0_isLatin1_aae02 sh M i h5) h5 ⟨Nat.le_of_ble_eq_true rfl, Nat.le_of_ble_eq_true rfl⟩ ⟨Nat.zero_le _, Nat.zero_le _⟩ (Nat.le_of_ble_eq_true rfl) dJ0_charAt_5068e_1 (n := 4) rfl (fun r_1 M_1 h_1 => ?_)
  rw [h_1.1, h_1.2]
  refine g_if_eq C dJ0_charAt_5068e_4 (t := 16) (by decide) (n := 7) rfl (fun c_4 => ?_) (fun c_4 => ?_)
  · exact absurd c_4 (by decide)
  · have _u := True.intro
    refine g_aload0 C dJ0_charAt_5068e_7 (n := 8) rfl ?_
    refine g_gstV C h5 dJ0_charAt_5068e_8 (n := 11) rfl ?_
    refine g_iload1 C dJ0_charAt_5068e_11 (n := 12) rfl ?_
    refine kc_J0_495 C (ct_J1_charAt_3b067 sh M i h5 j x hx hj) ⟨Nat.le_of_ble_eq_true rfl, Nat.le_of_ble_eq_true rfl⟩ ⟨Nat.zero_le _, Nat.zero_le _⟩ (Nat.le_of_ble_eq_true rfl) dJ0_charAt_5068e_12 (n := 15) rfl (fun r_12 M_12 h_12 => ?_)
    rw [h_12.1, h_12.2]
    refine r_Z C dJ0_charAt_5068e_15 (by rw [← sB_c i h5 j hj]; exact pk_nc _) ?_
    exact ⟨rfl, rfl⟩
set_option maxHeartbeats 4000000 in
set_option maxRecDepth 100000 in
theorem ct_X6_isMark {l : Launch} {D : va_G} {cI cO : ClassId} {z tP : Nat} {aK aV : Nat → Nat} (sh : Shp) (M : Mem) (c0 : Int32) : Cm l D cI cO z tP aK aV yX6_isMark cX6_isMark 2 (some .boolean) 5 106 [.int c0] sh M (pI (fun r M1 => r = bI (isMk c0) ∧ M1 = M)) := by
  refine cm_intro (lv0 := [some (.int c0), none]) (by decide) rfl (Nat.le_of_ble_eq_true rfl) rfl (fun p e s m below meth c C => ?_)
  refine g_iconst C ic_0 dX6_isMark_0 (n := 1) rfl ?_
  refine g_istore1 C dX6_isMark_1 (n := 2) rfl ?_
  have L_2 : ∀ (fu : Nat) (a : Nat) (v : Int32), 10 - a < fu → (v = nI a) → (a ≤ 10) → (∀ j, j < a → sB 0 j ≠ c0) → G p l e ({ frames := 5, cells := 0, slots := 0, locals := 106 }) s m ([.int c0] : List Value).toArray below meth c D cI cO z 2 (QM below D cI cO z ([.int c0] : List Value).toArray s sh (pI (fun r M1 => r = bI (isMk c0) ∧ M1 = M))) 0 0 sh M 2 [some (.int c0), some (.int v)] [] := by
    intro fu_2
    induction fu_2 with
    | zero => intro a v hfu; exact absurd hfu (Nat.not_lt_zero _)
    | succ fu_2 ih_2 =>
      intro a v hfu_2 hv ha hB
      refine g_iload1 C dX6_isMark_2 (n := 3) rfl ?_
      refine g_ldcS C (i := 0) (by decide) rfl dX6_isMark_3 (n := 5) rfl ?_
      refine kc_X6_221 C (ct_J0_length_8abf5 sh M 0 (by decide)) (by decide) ⟨Nat.le_of_ble_eq_true rfl, Nat.le_of_ble_eq_true rfl⟩ ⟨Nat.zero_le _, Nat.zero_le _⟩ (Nat.le_of_ble_eq_true rfl) dX6_isMark_5 (n := 8) rfl (fun r_5 M_5 h_5 => ?_)
      rw [h_5.1, h_5.2]
      refine g_icmp_ge C dX6_isMark_8 (t := 29) (by decide) (n := 11) rfl (fun c_8 => ?_) (fun c_8 => ?_)
      · have h2 : ¬ a < 10 := fun h => c_8 ((qlt hv rfl (by omega) (by decide)).mpr h)
        refine g_iconst C ic_0 dX6_isMark_29 (n := 30) rfl ?_
        refine r_Z C dX6_isMark_30 rfl ?_
        refine ⟨?_, rfl⟩
        have : isMk c0 = false := by
          cases h : isMk c0 with
          | false => rfl
          | true =>
            obtain ⟨j, hj, e⟩ := mk_ix.mp h
            exact absurd e (hB j (by omega))
        rw [this]; rfl
      · have h2 : a < 10 := (qlt hv rfl (by omega) (by decide)).mp c_8
        refine g_ldcS C (i := 0) (by decide) rfl dX6_isMark_11 (n := 13) rfl ?_
        refine g_iload1 C dX6_isMark_13 (n := 14) rfl ?_
        refine kc_X6_226 C (ct_J0_charAt_5068e sh M 0 (by decide) a _ hv h2) (by decide) ⟨Nat.le_of_ble_eq_true rfl, Nat.le_of_ble_eq_true rfl⟩ ⟨Nat.zero_le _, Nat.zero_le _⟩ (Nat.le_of_ble_eq_true rfl) dX6_isMark_14 (n := 17) rfl (fun r_14 M_14 h_14 => ?_)
        rw [h_14.1, h_14.2]
        refine g_iload0 C dX6_isMark_17 (n := 18) rfl ?_
        refine g_icmp_ne C dX6_isMark_18 (t := 23) (by decide) (n := 21) rfl (fun c_18 => ?_) (fun c_18 => ?_)
        · have _u := True.intro
          refine g_iinc1 C (inc_1 _) dX6_isMark_23 (n := 26) rfl ?_
          refine g_goto C dX6_isMark_26 (t := 2) (by decide) ?_
          exact ih_2 (a + 1) (v + 1) (by omega) (by rw [hv, nI_1]) (by omega) (fun j hj => by
  by_cases h : j = a
  · rw [h]; exact c_18
  · exact hB j (by omega))
        · have _u := True.intro
          refine g_iconst C ic_1 dX6_isMark_21 (n := 22) rfl ?_
          refine r_Z C dX6_isMark_22 rfl ?_
          refine ⟨?_, rfl⟩
          rw [mk_ix.mpr ⟨a, h2, c_18⟩]; rfl
  exact L_2 11 0 0 (by omega) nI_0.symm (by omega) (fun j h => absurd h (Nat.not_lt_zero _))
set_option maxHeartbeats 4000000 in
set_option maxRecDepth 100000 in
theorem ct_X6_isSign {l : Launch} {D : va_G} {cI cO : ClassId} {z tP : Nat} {aK aV : Nat → Nat} (sh : Shp) (M : Mem) (c0 : Int32) : Cm l D cI cO z tP aK aV yX6_isSign cX6_isSign 1 (some .boolean) 6 127 [.int c0] sh M (pI (fun r M1 => r = bI (isSg c0) ∧ M1 = M)) := by
  refine cm_intro (lv0 := [some (.int c0)]) (by decide) rfl (Nat.le_of_ble_eq_true rfl) rfl (fun p e s m below meth c C => ?_)
  refine g_iload0 C dX6_isSign_0 (n := 1) rfl ?_
  refine kc_X6_238 C (ct_X6_isLetter sh M c0) ⟨Nat.le_of_ble_eq_true rfl, Nat.le_of_ble_eq_true rfl⟩ ⟨Nat.zero_le _, Nat.zero_le _⟩ (Nat.le_of_ble_eq_true rfl) dX6_isSign_1 (n := 4) rfl (fun r_1 M_1 h_1 => ?_)
  rw [h_1.1, h_1.2]
  refine g_if_ne C dX6_isSign_4 (t := 26) (by decide) (n := 7) rfl (fun c_4 => ?_) (fun c_4 => ?_)
  · have q1 := bI_n.mp c_4
    refine g_iconst C ic_1 dX6_isSign_26 (n := 27) rfl ?_
    refine g_goto C dX6_isSign_27 (t := 31) (by decide) ?_
    refine r_Z C dX6_isSign_31 rfl ?_
    exact ⟨by simp [bI, isSg, *], rfl⟩
  · have q1 := bI_0.mp c_4
    refine g_iload0 C dX6_isSign_7 (n := 8) rfl ?_
    refine g_bipush C bp_32 dX6_isSign_8 (n := 10) rfl ?_
    refine g_icmp_eq C dX6_isSign_10 (t := 26) (by decide) (n := 13) rfl (fun c_10 => ?_) (fun c_10 => ?_)
    · have _u := True.intro
      refine g_iconst C ic_1 dX6_isSign_26 (n := 27) rfl ?_
      refine g_goto C dX6_isSign_27 (t := 31) (by decide) ?_
      refine r_Z C dX6_isSign_31 rfl ?_
      exact ⟨by simp [bI, isSg, *], rfl⟩
    · have _u := True.intro
      refine g_iload0 C dX6_isSign_13 (n := 14) rfl ?_
      refine g_bipush C bp_124 dX6_isSign_14 (n := 16) rfl ?_
      refine g_icmp_eq C dX6_isSign_16 (t := 26) (by decide) (n := 19) rfl (fun c_16 => ?_) (fun c_16 => ?_)
      · have _u := True.intro
        refine g_iconst C ic_1 dX6_isSign_26 (n := 27) rfl ?_
        refine g_goto C dX6_isSign_27 (t := 31) (by decide) ?_
        refine r_Z C dX6_isSign_31 rfl ?_
        exact ⟨by simp [bI, isSg, *], rfl⟩
      · have _u := True.intro
        refine g_iload0 C dX6_isSign_19 (n := 20) rfl ?_
        refine kc_X6_241 C (ct_X6_isMark sh M c0) ⟨Nat.le_of_ble_eq_true rfl, Nat.le_of_ble_eq_true rfl⟩ ⟨Nat.zero_le _, Nat.zero_le _⟩ (Nat.le_of_ble_eq_true rfl) dX6_isSign_20 (n := 23) rfl (fun r_20 M_20 h_20 => ?_)
        rw [h_20.1, h_20.2]
        refine g_if_eq C dX6_isSign_23 (t := 30) (by decide) (n := 26) rfl (fun c_23 => ?_) (fun c_23 => ?_)
        · have q4 := bI_0.mp c_23
          refine g_iconst C ic_0 dX6_isSign_30 (n := 31) rfl ?_
          refine r_Z C dX6_isSign_31 rfl ?_
          exact ⟨by simp [bI, isSg, *], rfl⟩
        · have q4 := bI_n.mp c_23
          refine g_iconst C ic_1 dX6_isSign_26 (n := 27) rfl ?_
          refine g_goto C dX6_isSign_27 (t := 31) (by decide) ?_
          refine r_Z C dX6_isSign_31 rfl ?_
          exact ⟨by simp [bI, isSg, *], rfl⟩
set_option maxHeartbeats 4000000 in
set_option maxRecDepth 100000 in
theorem ct_X6_nameOf {l : Launch} {D : va_G} {cI cO : ClassId} {z tP : Nat} {aK aV : Nat → Nat} (sh : Shp) (M : Mem) (t : Nat) (x : Int32) (hx : x = nI t) (ht : t < 4) : Cm l D cI cO z tP aK aV yX6_nameOf cX6_nameOf 1 (some (.object "java/lang/String")) 0 0 [.int x] sh M (pA (fun r M1 => r = aK (t + 1) ∧ M1 = M)) := by
  refine cm_intro (lv0 := [some (.int x)]) (by decide) rfl (Nat.le_of_ble_eq_true rfl) rfl (fun p e s m below meth c C => ?_)
  refine g_iload0 C dX6_nameOf_0 (n := 1) rfl ?_
  by_cases c_1_0 : x = 0
  · refine g_tblIn C dX6_nameOf_1 (by rw [c_1_0]; decide) (by rw [c_1_0]; decide) (off := 27) (by rw [c_1_0]; rfl) (t := 28) (by decide) ?_
    refine g_ldcS C (i := 1) (by decide) rfl dX6_nameOf_28 (n := 30) rfl ?_
    refine r_A C dX6_nameOf_30 ?_
    have : t = 0 := (qeq hx nI_0.symm (by omega) (by decide)).mp c_1_0
    rw [this]; exact ⟨rfl, rfl⟩
  by_cases c_1_1 : x = 1
  · refine g_tblIn C dX6_nameOf_1 (by rw [c_1_1]; decide) (by rw [c_1_1]; decide) (off := 30) (by rw [c_1_1]; rfl) (t := 31) (by decide) ?_
    refine g_ldcS C (i := 2) (by decide) rfl dX6_nameOf_31 (n := 33) rfl ?_
    refine r_A C dX6_nameOf_33 ?_
    have : t = 1 := (qeq hx (show (1 : Int32) = nI 1 from rfl) (by omega) (by decide)).mp c_1_1
    rw [this]; exact ⟨rfl, rfl⟩
  by_cases c_1_2 : x = 2
  · refine g_tblIn C dX6_nameOf_1 (by rw [c_1_2]; decide) (by rw [c_1_2]; decide) (off := 33) (by rw [c_1_2]; rfl) (t := 34) (by decide) ?_
    refine g_ldcS C (i := 3) (by decide) rfl dX6_nameOf_34 (n := 36) rfl ?_
    refine r_A C dX6_nameOf_36 ?_
    have : t = 2 := (qeq hx (show (2 : Int32) = nI 2 from rfl) (by omega) (by decide)).mp c_1_2
    rw [this]; exact ⟨rfl, rfl⟩
  refine g_tblOut C dX6_nameOf_1 (sw_out_0_2 c_1_0 c_1_1 c_1_2) (t := 37) (by decide) ?_
  refine g_ldcS C (i := 4) (by decide) rfl dX6_nameOf_37 (n := 39) rfl ?_
  refine r_A C dX6_nameOf_39 ?_
  have e0 : ¬ t = 0 := fun h => c_1_0 ((qeq hx nI_0.symm (by omega) (by decide)).mpr h)
  have e1 : ¬ t = 1 := fun h => c_1_1 ((qeq hx (show (1 : Int32) = nI 1 from rfl) (by omega) (by decide)).mpr h)
  have e2 : ¬ t = 2 := fun h => c_1_2 ((qeq hx (show (2 : Int32) = nI 2 from rfl) (by omega) (by decide)).mpr h)
  rw [show t = 3 by omega]; exact ⟨rfl, rfl⟩
set_option maxHeartbeats 4000000 in
set_option maxRecDepth 100000 in
theorem ct_X6_textIs {l : Launch} {D : va_G} {cI cO : ClassId} {z tP : Nat} {aK aV : Nat → Nat} (M : Mem) (tl i : Nat) (h5 : i < 5) (ht0 : M 0 1 = nI tl) (htl : tl ≤ 200) : Cm l D cI cO z tP aK aV yX6_textIs cX6_textIs 3 (some .boolean) 5 106 [.ref (z + 0), .ref (aK i)] SH M (pI (fun r M1 => ((r = 1 ∧ nmB tl (M 2) i) ∨ (r = 0 ∧ ¬ nmB tl (M 2) i)) ∧ M1 = M)) := by
  refine cm_intro (lv0 := [some (.ref (z + 0)), some (.ref (aK i)), none]) (by decide) rfl (Nat.le_of_ble_eq_true rfl) rfl (fun p e s m below meth c C => ?_)
  have h10 := sN_lt i h5
  refine g_aload1 C dX6_textIs_0 (n := 1) rfl ?_
  refine kc_X6_221 C (ct_J0_length_8abf5 SH M i h5) h5 ⟨Nat.le_of_ble_eq_true rfl, Nat.le_of_ble_eq_true rfl⟩ ⟨Nat.zero_le _, Nat.zero_le _⟩ (Nat.le_of_ble_eq_true rfl) dX6_textIs_1 (n := 4) rfl (fun r_1 M_1 h_1 => ?_)
  rw [h_1.1, h_1.2]
  refine g_aload0 C dX6_textIs_4 (n := 5) rfl ?_
  refine kg_X6_46 C sh_0 rfl dX6_textIs_5 (n := 8) rfl ?_
  refine g_icmp_eq C dX6_textIs_8 (t := 13) (by decide) (n := 11) rfl (fun c_8 => ?_) (fun c_8 => ?_)
  · have hle : sN i = tl := (qeq rfl ht0 (by omega) (by omega)).mp c_8
    refine g_iconst C ic_0 dX6_textIs_13 (n := 14) rfl ?_
    refine g_istore2 C dX6_textIs_14 (n := 15) rfl ?_
    have L_15 : ∀ (fu : Nat) (a : Nat) (v : Int32), sN i - a < fu → (v = nI a) → (a ≤ sN i) → (∀ j, j < a → M 2 j = sB i j) → G p l e ({ frames := 5, cells := 0, slots := 0, locals := 106 }) s m ([.ref (z + 0), .ref (aK i)] : List Value).toArray below meth c D cI cO z 3 (QM below D cI cO z ([.ref (z + 0), .ref (aK i)] : List Value).toArray s SH (pI (fun r M1 => ((r = 1 ∧ nmB tl (M 2) i) ∨ (r = 0 ∧ ¬ nmB tl (M 2) i)) ∧ M1 = M))) 0 0 SH M 15 [some (.ref (z + 0)), some (.ref (aK i)), some (.int v)] [] := by
      intro fu_15
      induction fu_15 with
      | zero => intro a v hfu; exact absurd hfu (Nat.not_lt_zero _)
      | succ fu_15 ih_15 =>
        intro a v hfu_15 hv ha hB
        refine g_iload2 C dX6_textIs_15 (n := 16) rfl ?_
        refine g_aload1 C dX6_textIs_16 (n := 17) rfl ?_
        refine kc_X6_221 C (ct_J0_length_8abf5 SH M i h5) h5 ⟨Nat.le_of_ble_eq_true rfl, Nat.le_of_ble_eq_true rfl⟩ ⟨Nat.zero_le _, Nat.zero_le _⟩ (Nat.le_of_ble_eq_true rfl) dX6_textIs_17 (n := 20) rfl (fun r_17 M_17 h_17 => ?_)
        rw [h_17.1, h_17.2]
        refine g_icmp_ge C dX6_textIs_20 (t := 47) (by decide) (n := 23) rfl (fun c_20 => ?_) (fun c_20 => ?_)
        · have h2 : ¬ a < sN i := fun h => c_20 ((qlt hv rfl (by omega) (by omega)).mpr h)
          refine g_iconst C ic_1 dX6_textIs_47 (n := 48) rfl ?_
          refine r_Z C dX6_textIs_48 rfl ?_
          exact ⟨Or.inl ⟨rfl, hle.symm, fun j hj => hB j (by omega)⟩, rfl⟩
        · have h2 : a < sN i := (qlt hv rfl (by omega) (by omega)).mp c_20
          refine g_aload1 C dX6_textIs_23 (n := 24) rfl ?_
          refine g_iload2 C dX6_textIs_24 (n := 25) rfl ?_
          refine kc_X6_226 C (ct_J0_charAt_5068e SH M i h5 a _ hv h2) h5 ⟨Nat.le_of_ble_eq_true rfl, Nat.le_of_ble_eq_true rfl⟩ ⟨Nat.zero_le _, Nat.zero_le _⟩ (Nat.le_of_ble_eq_true rfl) dX6_textIs_25 (n := 28) rfl (fun r_25 M_25 h_25 => ?_)
          rw [h_25.1, h_25.2]
          refine g_aload0 C dX6_textIs_28 (n := 29) rfl ?_
          refine kg_X6_14 C sh_0 rfl dX6_textIs_29 (n := 32) rfl ?_
          refine g_iload2 C dX6_textIs_32 (n := 33) rfl ?_
          refine kc_X6_61 C (ct_X4_at SH M 1 200 a _ row_1 hv (by omega)) sh_1 ⟨Nat.le_of_ble_eq_true rfl, Nat.le_of_ble_eq_true rfl⟩ ⟨Nat.zero_le _, Nat.zero_le _⟩ (Nat.le_of_ble_eq_true rfl) dX6_textIs_33 (n := 36) rfl (fun r_33 M_33 h_33 => ?_)
          rw [h_33.1, h_33.2]
          refine g_icmp_eq C dX6_textIs_36 (t := 41) (by decide) (n := 39) rfl (fun c_36 => ?_) (fun c_36 => ?_)
          · have _u := True.intro
            refine g_iinc2 C (inc_1 _) dX6_textIs_41 (n := 44) rfl ?_
            refine g_goto C dX6_textIs_44 (t := 15) (by decide) ?_
            exact ih_15 (a + 1) (v + 1) (by omega) (by rw [hv, nI_1]) (by omega) (fun j hj => by
  by_cases h : j = a
  · rw [h]; exact c_36.symm
  · exact hB j (by omega))
          · have _u := True.intro
            refine g_iconst C ic_0 dX6_textIs_39 (n := 40) rfl ?_
            refine r_Z C dX6_textIs_40 rfl ?_
            exact ⟨Or.inr ⟨rfl, fun h => c_36 (h.2 a (by omega)).symm⟩, rfl⟩
    exact L_15 (sN i + 1) 0 0 (by omega) nI_0.symm (by omega) (fun j h => absurd h (Nat.not_lt_zero _))
  · have hle : ¬ sN i = tl := fun h => c_8 ((qeq rfl ht0 (by omega) (by omega)).mpr h)
    refine g_iconst C ic_0 dX6_textIs_11 (n := 12) rfl ?_
    refine r_Z C dX6_textIs_12 rfl ?_
    exact ⟨Or.inr ⟨rfl, fun h => hle h.1.symm⟩, rfl⟩
set_option maxHeartbeats 4000000 in
set_option maxRecDepth 100000 in
theorem ct_X6_tongueNamed {l : Launch} {D : va_G} {cI cO : ClassId} {z tP : Nat} {aK aV : Nat → Nat} (M : Mem) (tl : Nat) (ht0 : M 0 1 = nI tl) (htl : tl ≤ 200) : Cm l D cI cO z tP aK aV yX6_tongueNamed cX6_tongueNamed 2 (some .int) 6 128 [.ref (z + 0)] SH M (pI (fun r M1 => ((∃ t, t < 4 ∧ r = nI t ∧ nmB tl (M 2) (t + 1)) ∨ (r = -4 ∧ ∀ t, t < 4 → ¬ nmB tl (M 2) (t + 1))) ∧ M1 = M)) := by
  refine cm_intro (lv0 := [some (.ref (z + 0)), none]) (by decide) rfl (Nat.le_of_ble_eq_true rfl) rfl (fun p e s m below meth c C => ?_)
  refine g_iconst C ic_0 dX6_tongueNamed_0 (n := 1) rfl ?_
  refine g_istore1 C dX6_tongueNamed_1 (n := 2) rfl ?_
  have L_2 : ∀ (fu : Nat) (a : Nat) (v : Int32), 4 - a < fu → (v = nI a) → (a ≤ 4) → (∀ j, j < a → ¬ nmB tl (M 2) (j + 1)) → G p l e ({ frames := 6, cells := 0, slots := 0, locals := 128 }) s m ([.ref (z + 0)] : List Value).toArray below meth c D cI cO z 2 (QM below D cI cO z ([.ref (z + 0)] : List Value).toArray s SH (pI (fun r M1 => ((∃ t, t < 4 ∧ r = nI t ∧ nmB tl (M 2) (t + 1)) ∨ (r = -4 ∧ ∀ t, t < 4 → ¬ nmB tl (M 2) (t + 1))) ∧ M1 = M))) 0 0 SH M 2 [some (.ref (z + 0)), some (.int v)] [] := by
    intro fu_2
    induction fu_2 with
    | zero => intro a v hfu; exact absurd hfu (Nat.not_lt_zero _)
    | succ fu_2 ih_2 =>
      intro a v hfu_2 hv ha hB
      refine g_iload1 C dX6_tongueNamed_2 (n := 3) rfl ?_
      refine g_iconst C ic_4 dX6_tongueNamed_3 (n := 4) rfl ?_
      refine g_icmp_ge C dX6_tongueNamed_4 (t := 26) (by decide) (n := 7) rfl (fun c_4 => ?_) (fun c_4 => ?_)
      · have h2 : ¬ a < 4 := fun h => c_4 ((qlt hv (show (4 : Int32) = nI 4 from rfl) (by omega) (by decide)).mpr h)
        refine g_bipush C bp_m4 dX6_tongueNamed_26 (n := 28) rfl ?_
        refine r_I C dX6_tongueNamed_28 ?_
        exact ⟨Or.inr ⟨rfl, fun t ht => hB t (by omega)⟩, rfl⟩
      · have h2 : a < 4 := (qlt hv (show (4 : Int32) = nI 4 from rfl) (by omega) (by decide)).mp c_4
        refine g_aload0 C dX6_tongueNamed_7 (n := 8) rfl ?_
        refine g_iload1 C dX6_tongueNamed_8 (n := 9) rfl ?_
        refine kc_X6_213 C (ct_X6_nameOf SH M a _ hv h2) ⟨Nat.le_of_ble_eq_true rfl, Nat.le_of_ble_eq_true rfl⟩ ⟨Nat.zero_le _, Nat.zero_le _⟩ (Nat.le_of_ble_eq_true rfl) dX6_tongueNamed_9 (n := 12) rfl (fun r_9 M_9 h_9 => ?_)
        rw [h_9.1, h_9.2]
        refine kc_X6_217 C (ct_X6_textIs M tl (a + 1) (by omega) ht0 htl) sh_0 ⟨Nat.le_of_ble_eq_true rfl, Nat.le_of_ble_eq_true rfl⟩ ⟨Nat.zero_le _, Nat.zero_le _⟩ (Nat.le_of_ble_eq_true rfl) dX6_tongueNamed_12 (n := 15) rfl (fun r_12 M_12 h_12 => ?_)
        rw [h_12.2]
        replace h_12 := h_12.1
        refine g_if_eq C dX6_tongueNamed_15 (t := 20) (by decide) (n := 18) rfl (fun c_15 => ?_) (fun c_15 => ?_)
        · have _u := True.intro
          refine g_iinc1 C (inc_1 _) dX6_tongueNamed_20 (n := 23) rfl ?_
          refine g_goto C dX6_tongueNamed_23 (t := 2) (by decide) ?_
          exact ih_2 (a + 1) (v + 1) (by omega) (by rw [hv, nI_1]) (by omega) (fun j hj => by
  by_cases h : j = a
  · rw [h]
    rcases h_12 with q | q
    · exact absurd (q.1.symm.trans c_15) (by decide)
    · exact q.2
  · exact hB j (by omega))
        · have _u := True.intro
          refine g_iload1 C dX6_tongueNamed_18 (n := 19) rfl ?_
          refine r_I C dX6_tongueNamed_19 ?_
          rcases h_12 with h | h
          · exact ⟨Or.inl ⟨a, h2, hv, h.2⟩, rfl⟩
          · exact absurd h.1 c_15
  exact L_2 5 0 0 (by omega) nI_0.symm (by omega) (fun j h => absurd h (Nat.not_lt_zero _))
