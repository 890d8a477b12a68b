/-! THE CLAIM OUT OF ONE WALK OF THE LAW'S BODY. Your part is whole_start (and what it stands on); all else here is the same for every law, but numbers. -/
def R_law : String := "SpeechMarksLaw"
def lw_P (b : Addr) (xs : List Int32) (args : Array Value) (s : State) : Prop := args = #[.ref b] ∧ s.IntsAt b xs ∧ xs.length ≤ 1536 ∧ (Jvm.Cond.and given_1 narrow_1).before args s = true
def lw_Q (_ : Array Value) (s : State) (o : Outcome) (t : State) : Prop := o = .returned (some (.int 1)) ∧ Framed s o t [] 600000 7302250
def lw_Z (below : List Frame) (a : Array Value) (s : State) : State → Prop := fun t => ∃ o, t.status = .running ∧ Ended t below o ∧ lw_Q a s o t
/-- the law's own end, with 1 on the stack, nothing written that was there before, its room as the claim has it -/
theorem lw_ret {p : Program} {l : Launch} {e : Env} {s : State} {m : MethodId} {below : List Frame} {meth : Method} {c : Code} {b : Nat} (hx : p.tables.exec = Jvm.exec) (hb : c.code = code) (hr : meth.sig.returnType = ret) (hlocks : meth.locks = false) {pc : Nat} {H : Heap} {ls : Array Slot} (hdg : decode code pc = .ok (.ireturn, 1)) : W p l e room_1 s m #[Value.ref b] below meth c H [] 600000 7302250 (lw_Z below #[Value.ref b] s) (F0 m pc ls [.int 1]) := by
  intro T hT X
  obtain ⟨fs, hret, hrun, hended, hW, hframe⟩ := X.leave (v := some (.int 1)) (hlocks := hlocks) (fun h => by rw [hr] at h; cases h)
  have hmeth' : T.vm.method? m = some meth := X.method'
  refine ⟨T.setFrames fs, ?_, .returned (some (.int 1)), hrun, hended, rfl, ⟨_, rfl⟩, hW, hframe⟩
  jvm_step X.here [X.here.top, hx, hb, hdg, hmeth', hr, ret, narrow_b1]
  (try refine ⟨rfl, ?_⟩); (try refine ⟨rfl, ?_⟩)
  first | (intro acts; rw [hret _ acts rfl rfl rfl]) | rw [hret _ _ rfl rfl rfl]
  exact Steps.refl _
/-- what holds at the law's entry: the machine, the code, the tables' words (any of lw_tbl by 'hts w (by decide +kernel)'), the script of L ints xs at the cell b, what the Statement gives of the start (any of its parts by flat_of_before) -/
def lw_At (p : Program) (s : State) (m : MethodId) (meth : Method) (c : Code) (b L : Nat) (xs : Nat → Int32) : Prop :=
  p.tables.exec = Jvm.exec ∧ c.code = code ∧ meth.sig.returnType = ret ∧ c.maxLocals = 4 ∧ s.vm.findClass R_law = some m.cls ∧ (∀ w ∈ lw_tbl, w.before #[Value.ref b] s = true) ∧ va_X b L xs s s.heap ∧ b < s.heap.size ∧ meth.locks = false ∧ (Jvm.Cond.and given_1 narrow_1).before #[Value.ref b] s = true
set_option maxHeartbeats 4000000 in
set_option maxRecDepth 100000 in
theorem law_0 {p : Program} {l : Launch} {e : Env} {s : State} {m : MethodId} {below : List Frame} {meth : Method} {c : Code} {D : va_G} {cI cO : ClassId} {tP : Nat} {aK aV : Nat → Nat} {nm : String} {b L : Nat} {xs : Nat → Int32} (hL : L ≤ 1536) (hX : va_X b L xs s s.heap) (hb : b < s.heap.size) (C : Cx p s m #[Value.ref b] meth c D cI cO s.heap.size tP aK aV RL nm code 4 ret) {i : Nat} (hi : i + 3 ≤ L) {M : Mem} {A : Abs} (hC : absC M A) (hR : absR M A) (hw : wfA A) (J : ∀ (M1 : Mem) (A1 : Abs), absC M1 A1 → absR M1 A1 → wfA A1 → G p l e room_1 s m #[Value.ref b] below meth c D cI cO s.heap.size 4 (lw_Z below #[Value.ref b] s) 93 20302 SH M1 750 [some (.ref b), some (.ref (s.heap.size + 0)), some (.ref (s.heap.size + 80)), some (.int (nI i))] []) : G p l e room_1 s m #[Value.ref b] below meth c D cI cO s.heap.size 4 (lw_Z below #[Value.ref b] s) 93 20302 SH M 152 [some (.ref b), some (.ref (s.heap.size + 0)), some (.ref (s.heap.size + 80)), some (.int (nI i))] [] := by
  refine g_aload1 C dL_law_152 (n := 153) rfl ?_
  refine g_aload0 C dL_law_153 (n := 154) rfl ?_
  refine g_iload3 C dL_law_154 (n := 155) rfl ?_
  refine g_iconst C (v := 1) (by decide) dL_law_155 (n := 156) rfl ?_
  refine g_iadd C dL_law_156 (n := 157) rfl ?_
  refine g_sld C (j := i + 1) hX hb (nI_add i 1) (by omega) (by omega) dL_law_157 (n := 158) rfl ?_
  refine kc_L_13 C (ct_X6_write M A (xs (i + 1)) hC hw) sh_0 ⟨(Nat.le_of_ble_eq_true rfl), (Nat.le_of_ble_eq_true rfl)⟩ ⟨(Nat.le_of_ble_eq_true rfl), (Nat.le_of_ble_eq_true rfl)⟩ (Nat.le_of_ble_eq_true rfl) dL_law_158 (n := 161) rfl (fun r1 M1 h1 => ?_)
  have hR1 : absR M1 A := absR_fr hR h1.2.2
  refine g_aload2 C dL_law_161 (n := 162) rfl ?_
  refine g_aload0 C dL_law_162 (n := 163) rfl ?_
  refine g_iload3 C dL_law_163 (n := 164) rfl ?_
  refine g_iconst C (v := 1) (by decide) dL_law_164 (n := 165) rfl ?_
  refine g_iadd C dL_law_165 (n := 166) rfl ?_
  refine g_sld C (j := i + 1) hX hb (nI_add i 1) (by omega) (by omega) dL_law_166 (n := 167) rfl ?_
  refine kc_L_17 C (ct_X7_write M1 A (xs (i + 1)) hR1 hw) sh_80 ⟨(Nat.le_of_ble_eq_true rfl), (Nat.le_of_ble_eq_true rfl)⟩ ⟨(Nat.le_of_ble_eq_true rfl), (Nat.le_of_ble_eq_true rfl)⟩ (Nat.le_of_ble_eq_true rfl) dL_law_167 (n := 170) rfl (fun r2 M2 h2 => ?_)
  exact g_icmp_eq C dL_law_170 (t := 750) (by decide) (n := 173) rfl (fun _ => J M2 _ (absC_fr h1.2.1 h2.2.2) h2.2.1 (wf_write _ hw)) (fun c9 => absurd (h1.1.trans h2.1.symm) c9)
set_option maxHeartbeats 4000000 in
set_option maxRecDepth 100000 in
theorem law_1 {p : Program} {l : Launch} {e : Env} {s : State} {m : MethodId} {below : List Frame} {meth : Method} {c : Code} {D : va_G} {cI cO : ClassId} {tP : Nat} {aK aV : Nat → Nat} {nm : String} {b L : Nat} {xs : Nat → Int32} (hL : L ≤ 1536) (hX : va_X b L xs s s.heap) (hb : b < s.heap.size) (C : Cx p s m #[Value.ref b] meth c D cI cO s.heap.size tP aK aV RL nm code 4 ret) {i : Nat} (hi : i + 3 ≤ L) {M : Mem} {A : Abs} (hC : absC M A) (hR : absR M A) (hw : wfA A) (J : ∀ (M1 : Mem) (A1 : Abs), absC M1 A1 → absR M1 A1 → wfA A1 → G p l e room_1 s m #[Value.ref b] below meth c D cI cO s.heap.size 4 (lw_Z below #[Value.ref b] s) 93 20302 SH M1 750 [some (.ref b), some (.ref (s.heap.size + 0)), some (.ref (s.heap.size + 80)), some (.int (nI i))] []) : G p l e room_1 s m #[Value.ref b] below meth c D cI cO s.heap.size 4 (lw_Z below #[Value.ref b] s) 93 20302 SH M 175 [some (.ref b), some (.ref (s.heap.size + 0)), some (.ref (s.heap.size + 80)), some (.int (nI i))] [] := by
  refine g_aload1 C dL_law_175 (n := 176) rfl ?_
  refine kc_L_18 C (ct_X6_wipe M A hC hw) sh_0 ⟨(Nat.le_of_ble_eq_true rfl), (Nat.le_of_ble_eq_true rfl)⟩ ⟨(Nat.le_of_ble_eq_true rfl), (Nat.le_of_ble_eq_true rfl)⟩ (Nat.le_of_ble_eq_true rfl) dL_law_176 (n := 179) rfl (fun r1 M1 h1 => ?_)
  have hR1 : absR M1 A := absR_fr hR h1.2.2
  refine g_aload2 C dL_law_179 (n := 180) rfl ?_
  refine kc_L_22 C (ct_X7_wipe M1 A hR1 hw) sh_80 ⟨(Nat.le_of_ble_eq_true rfl), (Nat.le_of_ble_eq_true rfl)⟩ ⟨(Nat.le_of_ble_eq_true rfl), (Nat.le_of_ble_eq_true rfl)⟩ (Nat.le_of_ble_eq_true rfl) dL_law_180 (n := 183) rfl (fun r2 M2 h2 => ?_)
  exact g_icmp_eq C dL_law_183 (t := 750) (by decide) (n := 186) rfl (fun _ => J M2 _ (absC_fr h1.2.1 h2.2.2) h2.2.1 (wf_wipe hw)) (fun c9 => absurd (h1.1.trans h2.1.symm) c9)
set_option maxHeartbeats 4000000 in
set_option maxRecDepth 100000 in
theorem law_2 {p : Program} {l : Launch} {e : Env} {s : State} {m : MethodId} {below : List Frame} {meth : Method} {c : Code} {D : va_G} {cI cO : ClassId} {tP : Nat} {aK aV : Nat → Nat} {nm : String} {b L : Nat} {xs : Nat → Int32} (hL : L ≤ 1536) (hX : va_X b L xs s s.heap) (hb : b < s.heap.size) (C : Cx p s m #[Value.ref b] meth c D cI cO s.heap.size tP aK aV RL nm code 4 ret) {i : Nat} (hi : i + 3 ≤ L) {M : Mem} {A : Abs} (hC : absC M A) (hR : absR M A) (hw : wfA A) (J : ∀ (M1 : Mem) (A1 : Abs), absC M1 A1 → absR M1 A1 → wfA A1 → G p l e room_1 s m #[Value.ref b] below meth c D cI cO s.heap.size 4 (lw_Z below #[Value.ref b] s) 93 20302 SH M1 750 [some (.ref b), some (.ref (s.heap.size + 0)), some (.ref (s.heap.size + 80)), some (.int (nI i))] []) : G p l e room_1 s m #[Value.ref b] below meth c D cI cO s.heap.size 4 (lw_Z below #[Value.ref b] s) 93 20302 SH M 188 [some (.ref b), some (.ref (s.heap.size + 0)), some (.ref (s.heap.size + 80)), some (.int (nI i))] [] := by
  refine g_aload1 C dL_law_188 (n := 189) rfl ?_
  refine kc_L_23 C (ct_X6_fault M A hC hw) sh_0 ⟨(Nat.le_of_ble_eq_true rfl), (Nat.le_of_ble_eq_true rfl)⟩ ⟨(Nat.le_of_ble_eq_true rfl), (Nat.le_of_ble_eq_true rfl)⟩ (Nat.le_of_ble_eq_true rfl) dL_law_189 (n := 192) rfl (fun r1 M1 h1 => ?_)
  rw [h1.2]
  refine g_aload2 C dL_law_192 (n := 193) rfl ?_
  refine kc_L_26 C (ct_X7_fault M A hR hw) sh_80 ⟨(Nat.le_of_ble_eq_true rfl), (Nat.le_of_ble_eq_true rfl)⟩ ⟨(Nat.le_of_ble_eq_true rfl), (Nat.le_of_ble_eq_true rfl)⟩ (Nat.le_of_ble_eq_true rfl) dL_law_193 (n := 196) rfl (fun r2 M2 h2 => ?_)
  rw [h2.2]
  exact g_icmp_eq C dL_law_196 (t := 750) (by decide) (n := 199) rfl (fun _ => J M A hC hR hw) (fun c9 => absurd (flt_one h1.1 h2.1) c9)
set_option maxHeartbeats 4000000 in
set_option maxRecDepth 100000 in
theorem law_3 {p : Program} {l : Launch} {e : Env} {s : State} {m : MethodId} {below : List Frame} {meth : Method} {c : Code} {D : va_G} {cI cO : ClassId} {tP : Nat} {aK aV : Nat → Nat} {nm : String} {b L : Nat} {xs : Nat → Int32} (hL : L ≤ 1536) (hX : va_X b L xs s s.heap) (hb : b < s.heap.size) (C : Cx p s m #[Value.ref b] meth c D cI cO s.heap.size tP aK aV RL nm code 4 ret) {i : Nat} (hi : i + 3 ≤ L) {M : Mem} {A : Abs} (hC : absC M A) (hR : absR M A) (hw : wfA A) (J : ∀ (M1 : Mem) (A1 : Abs), absC M1 A1 → absR M1 A1 → wfA A1 → G p l e room_1 s m #[Value.ref b] below meth c D cI cO s.heap.size 4 (lw_Z below #[Value.ref b] s) 93 20302 SH M1 750 [some (.ref b), some (.ref (s.heap.size + 0)), some (.ref (s.heap.size + 80)), some (.int (nI i))] []) : G p l e room_1 s m #[Value.ref b] below meth c D cI cO s.heap.size 4 (lw_Z below #[Value.ref b] s) 93 20302 SH M 201 [some (.ref b), some (.ref (s.heap.size + 0)), some (.ref (s.heap.size + 80)), some (.int (nI i))] [] := by
  refine g_aload1 C dL_law_201 (n := 202) rfl ?_
  refine kc_L_27 C (ct_X6_lay M A hC hw) sh_0 ⟨(Nat.le_of_ble_eq_true rfl), (Nat.le_of_ble_eq_true rfl)⟩ ⟨(Nat.le_of_ble_eq_true rfl), (Nat.le_of_ble_eq_true rfl)⟩ (Nat.le_of_ble_eq_true rfl) dL_law_202 (n := 205) rfl (fun r1 M1 h1 => ?_)
  obtain ⟨B1, b1, f1, g1⟩ := h1
  have hR1 : absR M1 A := absR_fr hR g1
  refine g_aload2 C dL_law_205 (n := 206) rfl ?_
  refine kc_L_30 C (ct_X7_lay M1 A hR1 hw) sh_80 ⟨(Nat.le_of_ble_eq_true rfl), (Nat.le_of_ble_eq_true rfl)⟩ ⟨(Nat.le_of_ble_eq_true rfl), (Nat.le_of_ble_eq_true rfl)⟩ (Nat.le_of_ble_eq_true rfl) dL_law_206 (n := 209) rfl (fun r2 M2 h2 => ?_)
  obtain ⟨B2, b2, f2, g2⟩ := h2
  exact g_icmp_eq C dL_law_209 (t := 750) (by decide) (n := 212) rfl (fun _ => J M2 B1 (absC_fr f1 g2) (by rw [(lay_one b1 b2).2]; exact f2) (wf_lay hw b1)) (fun c9 => absurd ((lay_one b1 b2).1) c9)
set_option maxHeartbeats 4000000 in
set_option maxRecDepth 100000 in
theorem law_4 {p : Program} {l : Launch} {e : Env} {s : State} {m : MethodId} {below : List Frame} {meth : Method} {c : Code} {D : va_G} {cI cO : ClassId} {tP : Nat} {aK aV : Nat → Nat} {nm : String} {b L : Nat} {xs : Nat → Int32} (hL : L ≤ 1536) (hX : va_X b L xs s s.heap) (hb : b < s.heap.size) (C : Cx p s m #[Value.ref b] meth c D cI cO s.heap.size tP aK aV RL nm code 4 ret) {i : Nat} (hi : i + 3 ≤ L) {M : Mem} {A : Abs} (hC : absC M A) (hR : absR M A) (hw : wfA A) (J : ∀ (M1 : Mem) (A1 : Abs), absC M1 A1 → absR M1 A1 → wfA A1 → G p l e room_1 s m #[Value.ref b] below meth c D cI cO s.heap.size 4 (lw_Z below #[Value.ref b] s) 93 20302 SH M1 750 [some (.ref b), some (.ref (s.heap.size + 0)), some (.ref (s.heap.size + 80)), some (.int (nI i))] []) : G p l e room_1 s m #[Value.ref b] below meth c D cI cO s.heap.size 4 (lw_Z below #[Value.ref b] s) 93 20302 SH M 214 [some (.ref b), some (.ref (s.heap.size + 0)), some (.ref (s.heap.size + 80)), some (.int (nI i))] [] := by
  refine g_aload1 C dL_law_214 (n := 215) rfl ?_
  refine kc_L_31 C (ct_X6_speak M A hC hw) sh_0 ⟨(Nat.le_of_ble_eq_true rfl), (Nat.le_of_ble_eq_true rfl)⟩ ⟨(Nat.le_of_ble_eq_true rfl), (Nat.le_of_ble_eq_true rfl)⟩ (Nat.le_of_ble_eq_true rfl) dL_law_215 (n := 218) rfl (fun r1 M1 h1 => ?_)
  obtain ⟨B1, b1, f1, g1⟩ := h1
  have hR1 : absR M1 A := absR_fr hR g1
  refine g_aload2 C dL_law_218 (n := 219) rfl ?_
  refine kc_L_34 C (ct_X7_speak M1 A hR1 hw) sh_80 ⟨(Nat.le_of_ble_eq_true rfl), (Nat.le_of_ble_eq_true rfl)⟩ ⟨(Nat.le_of_ble_eq_true rfl), (Nat.le_of_ble_eq_true rfl)⟩ (Nat.le_of_ble_eq_true rfl) dL_law_219 (n := 222) rfl (fun r2 M2 h2 => ?_)
  obtain ⟨B2, b2, f2, g2⟩ := h2
  exact g_icmp_eq C dL_law_222 (t := 750) (by decide) (n := 225) rfl (fun _ => J M2 B1 (absC_fr f1 g2) (by rw [(spk_one b1 b2).2]; exact f2) (wf_speak hw b1)) (fun c9 => absurd ((spk_one b1 b2).1) c9)
set_option maxHeartbeats 4000000 in
set_option maxRecDepth 100000 in
theorem law_5 {p : Program} {l : Launch} {e : Env} {s : State} {m : MethodId} {below : List Frame} {meth : Method} {c : Code} {D : va_G} {cI cO : ClassId} {tP : Nat} {aK aV : Nat → Nat} {nm : String} {b L : Nat} {xs : Nat → Int32} (hL : L ≤ 1536) (hX : va_X b L xs s s.heap) (hb : b < s.heap.size) (C : Cx p s m #[Value.ref b] meth c D cI cO s.heap.size tP aK aV RL nm code 4 ret) {i : Nat} (hi : i + 3 ≤ L) {M : Mem} {A : Abs} (hC : absC M A) (hR : absR M A) (hw : wfA A) (J : ∀ (M1 : Mem) (A1 : Abs), absC M1 A1 → absR M1 A1 → wfA A1 → G p l e room_1 s m #[Value.ref b] below meth c D cI cO s.heap.size 4 (lw_Z below #[Value.ref b] s) 93 20302 SH M1 750 [some (.ref b), some (.ref (s.heap.size + 0)), some (.ref (s.heap.size + 80)), some (.int (nI i))] []) : G p l e room_1 s m #[Value.ref b] below meth c D cI cO s.heap.size 4 (lw_Z below #[Value.ref b] s) 93 20302 SH M 227 [some (.ref b), some (.ref (s.heap.size + 0)), some (.ref (s.heap.size + 80)), some (.int (nI i))] [] := by
  refine g_aload1 C dL_law_227 (n := 228) rfl ?_
  refine g_aload0 C dL_law_228 (n := 229) rfl ?_
  refine g_iload3 C dL_law_229 (n := 230) rfl ?_
  refine g_iconst C (v := 1) (by decide) dL_law_230 (n := 231) rfl ?_
  refine g_iadd C dL_law_231 (n := 232) rfl ?_
  refine g_sld C (j := i + 1) hX hb (nI_add i 1) (by omega) (by omega) dL_law_232 (n := 233) rfl ?_
  refine kc_L_35 C (ct_X6_rule M A (xs (i + 1)) hC hw) sh_0 ⟨(Nat.le_of_ble_eq_true rfl), (Nat.le_of_ble_eq_true rfl)⟩ ⟨(Nat.le_of_ble_eq_true rfl), (Nat.le_of_ble_eq_true rfl)⟩ (Nat.le_of_ble_eq_true rfl) dL_law_233 (n := 236) rfl (fun r1 M1 h1 => ?_)
  have hR1 : absR M1 A := absR_fr hR h1.2.2
  refine g_aload2 C dL_law_236 (n := 237) rfl ?_
  refine g_aload0 C dL_law_237 (n := 238) rfl ?_
  refine g_iload3 C dL_law_238 (n := 239) rfl ?_
  refine g_iconst C (v := 1) (by decide) dL_law_239 (n := 240) rfl ?_
  refine g_iadd C dL_law_240 (n := 241) rfl ?_
  refine g_sld C (j := i + 1) hX hb (nI_add i 1) (by omega) (by omega) dL_law_241 (n := 242) rfl ?_
  refine kc_L_38 C (ct_X7_rule M1 A (xs (i + 1)) hR1 hw) sh_80 ⟨(Nat.le_of_ble_eq_true rfl), (Nat.le_of_ble_eq_true rfl)⟩ ⟨(Nat.le_of_ble_eq_true rfl), (Nat.le_of_ble_eq_true rfl)⟩ (Nat.le_of_ble_eq_true rfl) dL_law_242 (n := 245) rfl (fun r2 M2 h2 => ?_)
  exact g_icmp_eq C dL_law_245 (t := 750) (by decide) (n := 248) rfl (fun _ => J M2 _ (absC_fr h1.2.1 h2.2.2) h2.2.1 (wf_rule _ hw)) (fun c9 => absurd (h1.1.trans h2.1.symm) c9)
set_option maxHeartbeats 4000000 in
set_option maxRecDepth 100000 in
theorem law_6 {p : Program} {l : Launch} {e : Env} {s : State} {m : MethodId} {below : List Frame} {meth : Method} {c : Code} {D : va_G} {cI cO : ClassId} {tP : Nat} {aK aV : Nat → Nat} {nm : String} {b L : Nat} {xs : Nat → Int32} (hL : L ≤ 1536) (hX : va_X b L xs s s.heap) (hb : b < s.heap.size) (C : Cx p s m #[Value.ref b] meth c D cI cO s.heap.size tP aK aV RL nm code 4 ret) {i : Nat} (hi : i + 3 ≤ L) {M : Mem} {A : Abs} (hC : absC M A) (hR : absR M A) (hw : wfA A) (J : ∀ (M1 : Mem) (A1 : Abs), absC M1 A1 → absR M1 A1 → wfA A1 → G p l e room_1 s m #[Value.ref b] below meth c D cI cO s.heap.size 4 (lw_Z below #[Value.ref b] s) 93 20302 SH M1 750 [some (.ref b), some (.ref (s.heap.size + 0)), some (.ref (s.heap.size + 80)), some (.int (nI i))] []) : G p l e room_1 s m #[Value.ref b] below meth c D cI cO s.heap.size 4 (lw_Z below #[Value.ref b] s) 93 20302 SH M 250 [some (.ref b), some (.ref (s.heap.size + 0)), some (.ref (s.heap.size + 80)), some (.int (nI i))] [] := by
  refine g_aload1 C dL_law_250 (n := 251) rfl ?_
  refine g_aload0 C dL_law_251 (n := 252) rfl ?_
  refine g_iload3 C dL_law_252 (n := 253) rfl ?_
  refine g_iconst C (v := 1) (by decide) dL_law_253 (n := 254) rfl ?_
  refine g_iadd C dL_law_254 (n := 255) rfl ?_
  refine g_sld C (j := i + 1) hX hb (nI_add i 1) (by omega) (by omega) dL_law_255 (n := 256) rfl ?_
  refine g_aload0 C dL_law_256 (n := 257) rfl ?_
  refine g_iload3 C dL_law_257 (n := 258) rfl ?_
  refine g_iconst C (v := 2) (by decide) dL_law_258 (n := 259) rfl ?_
  refine g_iadd C dL_law_259 (n := 260) rfl ?_
  refine g_sld C (j := i + 2) hX hb (nI_add i 2) (by omega) (by omega) dL_law_260 (n := 261) rfl ?_
  refine kc_L_39 C (ct_X6_weigh M A (xs (i + 1)) (xs (i + 2)) hC hw) sh_0 ⟨(Nat.le_of_ble_eq_true rfl), (Nat.le_of_ble_eq_true rfl)⟩ ⟨(Nat.le_of_ble_eq_true rfl), (Nat.le_of_ble_eq_true rfl)⟩ (Nat.le_of_ble_eq_true rfl) dL_law_261 (n := 264) rfl (fun r1 M1 h1 => ?_)
  have hR1 : absR M1 A := absR_fr hR h1.2.2
  refine g_aload2 C dL_law_264 (n := 265) rfl ?_
  refine g_aload0 C dL_law_265 (n := 266) rfl ?_
  refine g_iload3 C dL_law_266 (n := 267) rfl ?_
  refine g_iconst C (v := 1) (by decide) dL_law_267 (n := 268) rfl ?_
  refine g_iadd C dL_law_268 (n := 269) rfl ?_
  refine g_sld C (j := i + 1) hX hb (nI_add i 1) (by omega) (by omega) dL_law_269 (n := 270) rfl ?_
  refine g_aload0 C dL_law_270 (n := 271) rfl ?_
  refine g_iload3 C dL_law_271 (n := 272) rfl ?_
  refine g_iconst C (v := 2) (by decide) dL_law_272 (n := 273) rfl ?_
  refine g_iadd C dL_law_273 (n := 274) rfl ?_
  refine g_sld C (j := i + 2) hX hb (nI_add i 2) (by omega) (by omega) dL_law_274 (n := 275) rfl ?_
  refine kc_L_43 C (ct_X7_weigh M1 A (xs (i + 1)) (xs (i + 2)) hR1 hw) sh_80 ⟨(Nat.le_of_ble_eq_true rfl), (Nat.le_of_ble_eq_true rfl)⟩ ⟨(Nat.le_of_ble_eq_true rfl), (Nat.le_of_ble_eq_true rfl)⟩ (Nat.le_of_ble_eq_true rfl) dL_law_275 (n := 278) rfl (fun r2 M2 h2 => ?_)
  exact g_icmp_eq C dL_law_278 (t := 750) (by decide) (n := 281) rfl (fun _ => J M2 _ (absC_fr h1.2.1 h2.2.2) h2.2.1 (wf_weigh _ _ hw)) (fun c9 => absurd (h1.1.trans h2.1.symm) c9)
set_option maxHeartbeats 4000000 in
set_option maxRecDepth 100000 in
theorem law_7 {p : Program} {l : Launch} {e : Env} {s : State} {m : MethodId} {below : List Frame} {meth : Method} {c : Code} {D : va_G} {cI cO : ClassId} {tP : Nat} {aK aV : Nat → Nat} {nm : String} {b L : Nat} {xs : Nat → Int32} (hL : L ≤ 1536) (hX : va_X b L xs s s.heap) (hb : b < s.heap.size) (C : Cx p s m #[Value.ref b] meth c D cI cO s.heap.size tP aK aV RL nm code 4 ret) {i : Nat} (hi : i + 3 ≤ L) {M : Mem} {A : Abs} (hC : absC M A) (hR : absR M A) (hw : wfA A) (J : ∀ (M1 : Mem) (A1 : Abs), absC M1 A1 → absR M1 A1 → wfA A1 → G p l e room_1 s m #[Value.ref b] below meth c D cI cO s.heap.size 4 (lw_Z below #[Value.ref b] s) 93 20302 SH M1 750 [some (.ref b), some (.ref (s.heap.size + 0)), some (.ref (s.heap.size + 80)), some (.int (nI i))] []) : G p l e room_1 s m #[Value.ref b] below meth c D cI cO s.heap.size 4 (lw_Z below #[Value.ref b] s) 93 20302 SH M 283 [some (.ref b), some (.ref (s.heap.size + 0)), some (.ref (s.heap.size + 80)), some (.int (nI i))] [] := by
  refine g_aload1 C dL_law_283 (n := 284) rfl ?_
  refine g_aload0 C dL_law_284 (n := 285) rfl ?_
  refine g_iload3 C dL_law_285 (n := 286) rfl ?_
  refine g_iconst C (v := 1) (by decide) dL_law_286 (n := 287) rfl ?_
  refine g_iadd C dL_law_287 (n := 288) rfl ?_
  refine g_sld C (j := i + 1) hX hb (nI_add i 1) (by omega) (by omega) dL_law_288 (n := 289) rfl ?_
  refine g_aload0 C dL_law_289 (n := 290) rfl ?_
  refine g_iload3 C dL_law_290 (n := 291) rfl ?_
  refine g_iconst C (v := 2) (by decide) dL_law_291 (n := 292) rfl ?_
  refine g_iadd C dL_law_292 (n := 293) rfl ?_
  refine g_sld C (j := i + 2) hX hb (nI_add i 2) (by omega) (by omega) dL_law_293 (n := 294) rfl ?_
  refine kc_L_44 C (ct_X6_put M A (xs (i + 1)) (xs (i + 2)) hC hw) sh_0 ⟨(Nat.le_of_ble_eq_true rfl), (Nat.le_of_ble_eq_true rfl)⟩ ⟨(Nat.le_of_ble_eq_true rfl), (Nat.le_of_ble_eq_true rfl)⟩ (Nat.le_of_ble_eq_true rfl) dL_law_294 (n := 297) rfl (fun r1 M1 h1 => ?_)
  have hR1 : absR M1 A := absR_fr hR h1.2.2
  refine g_aload2 C dL_law_297 (n := 298) rfl ?_
  refine g_aload0 C dL_law_298 (n := 299) rfl ?_
  refine g_iload3 C dL_law_299 (n := 300) rfl ?_
  refine g_iconst C (v := 1) (by decide) dL_law_300 (n := 301) rfl ?_
  refine g_iadd C dL_law_301 (n := 302) rfl ?_
  refine g_sld C (j := i + 1) hX hb (nI_add i 1) (by omega) (by omega) dL_law_302 (n := 303) rfl ?_
  refine g_aload0 C dL_law_303 (n := 304) rfl ?_
  refine g_iload3 C dL_law_304 (n := 305) rfl ?_
  refine g_iconst C (v := 2) (by decide) dL_law_305 (n := 306) rfl ?_
  refine g_iadd C dL_law_306 (n := 307) rfl ?_
  refine g_sld C (j := i + 2) hX hb (nI_add i 2) (by omega) (by omega) dL_law_307 (n := 308) rfl ?_
  refine kc_L_47 C (ct_X7_put M1 A (xs (i + 1)) (xs (i + 2)) hR1 hw) sh_80 ⟨(Nat.le_of_ble_eq_true rfl), (Nat.le_of_ble_eq_true rfl)⟩ ⟨(Nat.le_of_ble_eq_true rfl), (Nat.le_of_ble_eq_true rfl)⟩ (Nat.le_of_ble_eq_true rfl) dL_law_308 (n := 311) rfl (fun r2 M2 h2 => ?_)
  exact g_icmp_eq C dL_law_311 (t := 750) (by decide) (n := 314) rfl (fun _ => J M2 _ (absC_fr h1.2.1 h2.2.2) h2.2.1 (wf_put _ _ hw)) (fun c9 => absurd (h1.1.trans h2.1.symm) c9)
set_option maxHeartbeats 4000000 in
set_option maxRecDepth 100000 in
theorem law_8 {p : Program} {l : Launch} {e : Env} {s : State} {m : MethodId} {below : List Frame} {meth : Method} {c : Code} {D : va_G} {cI cO : ClassId} {tP : Nat} {aK aV : Nat → Nat} {nm : String} {b L : Nat} {xs : Nat → Int32} (hL : L ≤ 1536) (hX : va_X b L xs s s.heap) (hb : b < s.heap.size) (C : Cx p s m #[Value.ref b] meth c D cI cO s.heap.size tP aK aV RL nm code 4 ret) {i : Nat} (hi : i + 3 ≤ L) {M : Mem} {A : Abs} (hC : absC M A) (hR : absR M A) (hw : wfA A) (J : ∀ (M1 : Mem) (A1 : Abs), absC M1 A1 → absR M1 A1 → wfA A1 → G p l e room_1 s m #[Value.ref b] below meth c D cI cO s.heap.size 4 (lw_Z below #[Value.ref b] s) 93 20302 SH M1 750 [some (.ref b), some (.ref (s.heap.size + 0)), some (.ref (s.heap.size + 80)), some (.int (nI i))] []) : G p l e room_1 s m #[Value.ref b] below meth c D cI cO s.heap.size 4 (lw_Z below #[Value.ref b] s) 93 20302 SH M 316 [some (.ref b), some (.ref (s.heap.size + 0)), some (.ref (s.heap.size + 80)), some (.int (nI i))] [] := by
  refine g_aload1 C dL_law_316 (n := 317) rfl ?_
  refine g_aload0 C dL_law_317 (n := 318) rfl ?_
  refine g_iload3 C dL_law_318 (n := 319) rfl ?_
  refine g_iconst C (v := 1) (by decide) dL_law_319 (n := 320) rfl ?_
  refine g_iadd C dL_law_320 (n := 321) rfl ?_
  refine g_sld C (j := i + 1) hX hb (nI_add i 1) (by omega) (by omega) dL_law_321 (n := 322) rfl ?_
  refine kc_L_48 C (ct_X6_take M A (xs (i + 1)) hC hw) sh_0 ⟨(Nat.le_of_ble_eq_true rfl), (Nat.le_of_ble_eq_true rfl)⟩ ⟨(Nat.le_of_ble_eq_true rfl), (Nat.le_of_ble_eq_true rfl)⟩ (Nat.le_of_ble_eq_true rfl) dL_law_322 (n := 325) rfl (fun r1 M1 h1 => ?_)
  have hR1 : absR M1 A := absR_fr hR h1.2.2
  refine g_aload2 C dL_law_325 (n := 326) rfl ?_
  refine g_aload0 C dL_law_326 (n := 327) rfl ?_
  refine g_iload3 C dL_law_327 (n := 328) rfl ?_
  refine g_iconst C (v := 1) (by decide) dL_law_328 (n := 329) rfl ?_
  refine g_iadd C dL_law_329 (n := 330) rfl ?_
  refine g_sld C (j := i + 1) hX hb (nI_add i 1) (by omega) (by omega) dL_law_330 (n := 331) rfl ?_
  refine kc_L_51 C (ct_X7_take M1 A (xs (i + 1)) hR1 hw) sh_80 ⟨(Nat.le_of_ble_eq_true rfl), (Nat.le_of_ble_eq_true rfl)⟩ ⟨(Nat.le_of_ble_eq_true rfl), (Nat.le_of_ble_eq_true rfl)⟩ (Nat.le_of_ble_eq_true rfl) dL_law_331 (n := 334) rfl (fun r2 M2 h2 => ?_)
  exact g_icmp_eq C dL_law_334 (t := 750) (by decide) (n := 337) rfl (fun _ => J M2 _ (absC_fr h1.2.1 h2.2.2) h2.2.1 (wf_take _ hw)) (fun c9 => absurd (h1.1.trans h2.1.symm) c9)
set_option maxHeartbeats 4000000 in
set_option maxRecDepth 100000 in
theorem law_9 {p : Program} {l : Launch} {e : Env} {s : State} {m : MethodId} {below : List Frame} {meth : Method} {c : Code} {D : va_G} {cI cO : ClassId} {tP : Nat} {aK aV : Nat → Nat} {nm : String} {b L : Nat} {xs : Nat → Int32} (hL : L ≤ 1536) (hX : va_X b L xs s s.heap) (hb : b < s.heap.size) (C : Cx p s m #[Value.ref b] meth c D cI cO s.heap.size tP aK aV RL nm code 4 ret) {i : Nat} (hi : i + 3 ≤ L) {M : Mem} {A : Abs} (hC : absC M A) (hR : absR M A) (hw : wfA A) (J : ∀ (M1 : Mem) (A1 : Abs), absC M1 A1 → absR M1 A1 → wfA A1 → G p l e room_1 s m #[Value.ref b] below meth c D cI cO s.heap.size 4 (lw_Z below #[Value.ref b] s) 93 20302 SH M1 750 [some (.ref b), some (.ref (s.heap.size + 0)), some (.ref (s.heap.size + 80)), some (.int (nI i))] []) : G p l e room_1 s m #[Value.ref b] below meth c D cI cO s.heap.size 4 (lw_Z below #[Value.ref b] s) 93 20302 SH M 339 [some (.ref b), some (.ref (s.heap.size + 0)), some (.ref (s.heap.size + 80)), some (.int (nI i))] [] := by
  refine g_aload1 C dL_law_339 (n := 340) rfl ?_
  refine g_aload0 C dL_law_340 (n := 341) rfl ?_
  refine g_iload3 C dL_law_341 (n := 342) rfl ?_
  refine g_iconst C (v := 1) (by decide) dL_law_342 (n := 343) rfl ?_
  refine g_iadd C dL_law_343 (n := 344) rfl ?_
  refine g_sld C (j := i + 1) hX hb (nI_add i 1) (by omega) (by omega) dL_law_344 (n := 345) rfl ?_
  refine g_aload0 C dL_law_345 (n := 346) rfl ?_
  refine g_iload3 C dL_law_346 (n := 347) rfl ?_
  refine g_iconst C (v := 2) (by decide) dL_law_347 (n := 348) rfl ?_
  refine g_iadd C dL_law_348 (n := 349) rfl ?_
  refine g_sld C (j := i + 2) hX hb (nI_add i 2) (by omega) (by omega) dL_law_349 (n := 350) rfl ?_
  refine kc_L_52 C (ct_X6_alter M A (xs (i + 1)) (xs (i + 2)) hC hw) sh_0 ⟨(Nat.le_of_ble_eq_true rfl), (Nat.le_of_ble_eq_true rfl)⟩ ⟨(Nat.le_of_ble_eq_true rfl), (Nat.le_of_ble_eq_true rfl)⟩ (Nat.le_of_ble_eq_true rfl) dL_law_350 (n := 353) rfl (fun r1 M1 h1 => ?_)
  have hR1 : absR M1 A := absR_fr hR h1.2.2
  refine g_aload2 C dL_law_353 (n := 354) rfl ?_
  refine g_aload0 C dL_law_354 (n := 355) rfl ?_
  refine g_iload3 C dL_law_355 (n := 356) rfl ?_
  refine g_iconst C (v := 1) (by decide) dL_law_356 (n := 357) rfl ?_
  refine g_iadd C dL_law_357 (n := 358) rfl ?_
  refine g_sld C (j := i + 1) hX hb (nI_add i 1) (by omega) (by omega) dL_law_358 (n := 359) rfl ?_
  refine g_aload0 C dL_law_359 (n := 360) rfl ?_
  refine g_iload3 C dL_law_360 (n := 361) rfl ?_
  refine g_iconst C (v := 2) (by decide) dL_law_361 (n := 362) rfl ?_
  refine g_iadd C dL_law_362 (n := 363) rfl ?_
  refine g_sld C (j := i + 2) hX hb (nI_add i 2) (by omega) (by omega) dL_law_363 (n := 364) rfl ?_
  refine kc_L_55 C (ct_X7_alter M1 A (xs (i + 1)) (xs (i + 2)) hR1 hw) sh_80 ⟨(Nat.le_of_ble_eq_true rfl), (Nat.le_of_ble_eq_true rfl)⟩ ⟨(Nat.le_of_ble_eq_true rfl), (Nat.le_of_ble_eq_true rfl)⟩ (Nat.le_of_ble_eq_true rfl) dL_law_364 (n := 367) rfl (fun r2 M2 h2 => ?_)
  exact g_icmp_eq C dL_law_367 (t := 750) (by decide) (n := 370) rfl (fun _ => J M2 _ (absC_fr h1.2.1 h2.2.2) h2.2.1 (wf_alter _ _ hw)) (fun c9 => absurd (h1.1.trans h2.1.symm) c9)
set_option maxHeartbeats 4000000 in
set_option maxRecDepth 100000 in
theorem law_10 {p : Program} {l : Launch} {e : Env} {s : State} {m : MethodId} {below : List Frame} {meth : Method} {c : Code} {D : va_G} {cI cO : ClassId} {tP : Nat} {aK aV : Nat → Nat} {nm : String} {b L : Nat} {xs : Nat → Int32} (hL : L ≤ 1536) (hX : va_X b L xs s s.heap) (hb : b < s.heap.size) (C : Cx p s m #[Value.ref b] meth c D cI cO s.heap.size tP aK aV RL nm code 4 ret) {i : Nat} (hi : i + 3 ≤ L) {M : Mem} {A : Abs} (hC : absC M A) (hR : absR M A) (hw : wfA A) (J : ∀ (M1 : Mem) (A1 : Abs), absC M1 A1 → absR M1 A1 → wfA A1 → G p l e room_1 s m #[Value.ref b] below meth c D cI cO s.heap.size 4 (lw_Z below #[Value.ref b] s) 93 20302 SH M1 750 [some (.ref b), some (.ref (s.heap.size + 0)), some (.ref (s.heap.size + 80)), some (.int (nI i))] []) : G p l e room_1 s m #[Value.ref b] below meth c D cI cO s.heap.size 4 (lw_Z below #[Value.ref b] s) 93 20302 SH M 372 [some (.ref b), some (.ref (s.heap.size + 0)), some (.ref (s.heap.size + 80)), some (.int (nI i))] [] := by
  refine g_aload1 C dL_law_372 (n := 373) rfl ?_
  refine kc_L_56 C (ct_X6_undo M A hC hw) sh_0 ⟨(Nat.le_of_ble_eq_true rfl), (Nat.le_of_ble_eq_true rfl)⟩ ⟨(Nat.le_of_ble_eq_true rfl), (Nat.le_of_ble_eq_true rfl)⟩ (Nat.le_of_ble_eq_true rfl) dL_law_373 (n := 376) rfl (fun r1 M1 h1 => ?_)
  obtain ⟨B1, b1, f1, g1⟩ := h1
  have hR1 : absR M1 A := absR_fr hR g1
  refine g_aload2 C dL_law_376 (n := 377) rfl ?_
  refine kc_L_59 C (ct_X7_undo M1 A hR1 hw) sh_80 ⟨(Nat.le_of_ble_eq_true rfl), (Nat.le_of_ble_eq_true rfl)⟩ ⟨(Nat.le_of_ble_eq_true rfl), (Nat.le_of_ble_eq_true rfl)⟩ (Nat.le_of_ble_eq_true rfl) dL_law_377 (n := 380) rfl (fun r2 M2 h2 => ?_)
  obtain ⟨B2, b2, f2, g2⟩ := h2
  exact g_icmp_eq C dL_law_380 (t := 750) (by decide) (n := 383) rfl (fun _ => J M2 B1 (absC_fr f1 g2) (by rw [(und_one b1 b2).2]; exact f2) (wf_undo hw b1)) (fun c9 => absurd ((und_one b1 b2).1) c9)
set_option maxHeartbeats 4000000 in
set_option maxRecDepth 100000 in
theorem law_11 {p : Program} {l : Launch} {e : Env} {s : State} {m : MethodId} {below : List Frame} {meth : Method} {c : Code} {D : va_G} {cI cO : ClassId} {tP : Nat} {aK aV : Nat → Nat} {nm : String} {b L : Nat} {xs : Nat → Int32} (hL : L ≤ 1536) (hX : va_X b L xs s s.heap) (hb : b < s.heap.size) (C : Cx p s m #[Value.ref b] meth c D cI cO s.heap.size tP aK aV RL nm code 4 ret) {i : Nat} (hi : i + 3 ≤ L) {M : Mem} {A : Abs} (hC : absC M A) (hR : absR M A) (hw : wfA A) (J : ∀ (M1 : Mem) (A1 : Abs), absC M1 A1 → absR M1 A1 → wfA A1 → G p l e room_1 s m #[Value.ref b] below meth c D cI cO s.heap.size 4 (lw_Z below #[Value.ref b] s) 93 20302 SH M1 750 [some (.ref b), some (.ref (s.heap.size + 0)), some (.ref (s.heap.size + 80)), some (.int (nI i))] []) : G p l e room_1 s m #[Value.ref b] below meth c D cI cO s.heap.size 4 (lw_Z below #[Value.ref b] s) 93 20302 SH M 385 [some (.ref b), some (.ref (s.heap.size + 0)), some (.ref (s.heap.size + 80)), some (.int (nI i))] [] := by
  refine g_aload1 C dL_law_385 (n := 386) rfl ?_
  refine g_aload0 C dL_law_386 (n := 387) rfl ?_
  refine g_iload3 C dL_law_387 (n := 388) rfl ?_
  refine g_iconst C (v := 1) (by decide) dL_law_388 (n := 389) rfl ?_
  refine g_iadd C dL_law_389 (n := 390) rfl ?_
  refine g_sld C (j := i + 1) hX hb (nI_add i 1) (by omega) (by omega) dL_law_390 (n := 391) rfl ?_
  refine kc_L_60 C (ct_X6_sign M A (xs (i + 1)) hC hw) sh_0 ⟨(Nat.le_of_ble_eq_true rfl), (Nat.le_of_ble_eq_true rfl)⟩ ⟨(Nat.le_of_ble_eq_true rfl), (Nat.le_of_ble_eq_true rfl)⟩ (Nat.le_of_ble_eq_true rfl) dL_law_391 (n := 394) rfl (fun r1 M1 h1 => ?_)
  rw [h1.2]
  refine g_aload2 C dL_law_394 (n := 395) rfl ?_
  refine g_aload0 C dL_law_395 (n := 396) rfl ?_
  refine g_iload3 C dL_law_396 (n := 397) rfl ?_
  refine g_iconst C (v := 1) (by decide) dL_law_397 (n := 398) rfl ?_
  refine g_iadd C dL_law_398 (n := 399) rfl ?_
  refine g_sld C (j := i + 1) hX hb (nI_add i 1) (by omega) (by omega) dL_law_399 (n := 400) rfl ?_
  refine kc_L_63 C (ct_X7_sign M A (xs (i + 1)) hR hw) sh_80 ⟨(Nat.le_of_ble_eq_true rfl), (Nat.le_of_ble_eq_true rfl)⟩ ⟨(Nat.le_of_ble_eq_true rfl), (Nat.le_of_ble_eq_true rfl)⟩ (Nat.le_of_ble_eq_true rfl) dL_law_400 (n := 403) rfl (fun r2 M2 h2 => ?_)
  rw [h2.2]
  exact g_icmp_eq C dL_law_403 (t := 750) (by decide) (n := 406) rfl (fun _ => J M A hC hR hw) (fun c9 => absurd (h1.1.trans h2.1.symm) c9)
set_option maxHeartbeats 4000000 in
set_option maxRecDepth 100000 in
theorem law_12 {p : Program} {l : Launch} {e : Env} {s : State} {m : MethodId} {below : List Frame} {meth : Method} {c : Code} {D : va_G} {cI cO : ClassId} {tP : Nat} {aK aV : Nat → Nat} {nm : String} {b L : Nat} {xs : Nat → Int32} (hL : L ≤ 1536) (hX : va_X b L xs s s.heap) (hb : b < s.heap.size) (C : Cx p s m #[Value.ref b] meth c D cI cO s.heap.size tP aK aV RL nm code 4 ret) {i : Nat} (hi : i + 3 ≤ L) {M : Mem} {A : Abs} (hC : absC M A) (hR : absR M A) (hw : wfA A) (J : ∀ (M1 : Mem) (A1 : Abs), absC M1 A1 → absR M1 A1 → wfA A1 → G p l e room_1 s m #[Value.ref b] below meth c D cI cO s.heap.size 4 (lw_Z below #[Value.ref b] s) 93 20302 SH M1 750 [some (.ref b), some (.ref (s.heap.size + 0)), some (.ref (s.heap.size + 80)), some (.int (nI i))] []) : G p l e room_1 s m #[Value.ref b] below meth c D cI cO s.heap.size 4 (lw_Z below #[Value.ref b] s) 93 20302 SH M 408 [some (.ref b), some (.ref (s.heap.size + 0)), some (.ref (s.heap.size + 80)), some (.int (nI i))] [] := by
  refine g_aload1 C dL_law_408 (n := 409) rfl ?_
  refine g_aload0 C dL_law_409 (n := 410) rfl ?_
  refine g_iload3 C dL_law_410 (n := 411) rfl ?_
  refine g_iconst C (v := 1) (by decide) dL_law_411 (n := 412) rfl ?_
  refine g_iadd C dL_law_412 (n := 413) rfl ?_
  refine g_sld C (j := i + 1) hX hb (nI_add i 1) (by omega) (by omega) dL_law_413 (n := 414) rfl ?_
  refine kc_L_64 C (ct_X6_kind M A (xs (i + 1)) hC hw) sh_0 ⟨(Nat.le_of_ble_eq_true rfl), (Nat.le_of_ble_eq_true rfl)⟩ ⟨(Nat.le_of_ble_eq_true rfl), (Nat.le_of_ble_eq_true rfl)⟩ (Nat.le_of_ble_eq_true rfl) dL_law_414 (n := 417) rfl (fun r1 M1 h1 => ?_)
  have hR1 : absR M1 A := absR_fr hR h1.2.2
  refine g_aload2 C dL_law_417 (n := 418) rfl ?_
  refine g_aload0 C dL_law_418 (n := 419) rfl ?_
  refine g_iload3 C dL_law_419 (n := 420) rfl ?_
  refine g_iconst C (v := 1) (by decide) dL_law_420 (n := 421) rfl ?_
  refine g_iadd C dL_law_421 (n := 422) rfl ?_
  refine g_sld C (j := i + 1) hX hb (nI_add i 1) (by omega) (by omega) dL_law_422 (n := 423) rfl ?_
  refine kc_L_67 C (ct_X7_kind M1 A (xs (i + 1)) hR1 hw) sh_80 ⟨(Nat.le_of_ble_eq_true rfl), (Nat.le_of_ble_eq_true rfl)⟩ ⟨(Nat.le_of_ble_eq_true rfl), (Nat.le_of_ble_eq_true rfl)⟩ (Nat.le_of_ble_eq_true rfl) dL_law_423 (n := 426) rfl (fun r2 M2 h2 => ?_)
  exact g_icmp_eq C dL_law_426 (t := 750) (by decide) (n := 429) rfl (fun _ => J M2 A (absC_fr h1.2.1 h2.2.2) h2.2.1 hw) (fun c9 => absurd (h1.1.trans h2.1.symm) c9)
set_option maxHeartbeats 4000000 in
set_option maxRecDepth 100000 in
theorem law_13 {p : Program} {l : Launch} {e : Env} {s : State} {m : MethodId} {below : List Frame} {meth : Method} {c : Code} {D : va_G} {cI cO : ClassId} {tP : Nat} {aK aV : Nat → Nat} {nm : String} {b L : Nat} {xs : Nat → Int32} (hL : L ≤ 1536) (hX : va_X b L xs s s.heap) (hb : b < s.heap.size) (C : Cx p s m #[Value.ref b] meth c D cI cO s.heap.size tP aK aV RL nm code 4 ret) {i : Nat} (hi : i + 3 ≤ L) {M : Mem} {A : Abs} (hC : absC M A) (hR : absR M A) (hw : wfA A) (J : ∀ (M1 : Mem) (A1 : Abs), absC M1 A1 → absR M1 A1 → wfA A1 → G p l e room_1 s m #[Value.ref b] below meth c D cI cO s.heap.size 4 (lw_Z below #[Value.ref b] s) 93 20302 SH M1 750 [some (.ref b), some (.ref (s.heap.size + 0)), some (.ref (s.heap.size + 80)), some (.int (nI i))] []) : G p l e room_1 s m #[Value.ref b] below meth c D cI cO s.heap.size 4 (lw_Z below #[Value.ref b] s) 93 20302 SH M 431 [some (.ref b), some (.ref (s.heap.size + 0)), some (.ref (s.heap.size + 80)), some (.int (nI i))] [] := by
  refine g_aload1 C dL_law_431 (n := 432) rfl ?_
  refine g_aload0 C dL_law_432 (n := 433) rfl ?_
  refine g_iload3 C dL_law_433 (n := 434) rfl ?_
  refine g_iconst C (v := 1) (by decide) dL_law_434 (n := 435) rfl ?_
  refine g_iadd C dL_law_435 (n := 436) rfl ?_
  refine g_sld C (j := i + 1) hX hb (nI_add i 1) (by omega) (by omega) dL_law_436 (n := 437) rfl ?_
  refine kc_L_68 C (ct_X6_depth M A (xs (i + 1)) hC hw) sh_0 ⟨(Nat.le_of_ble_eq_true rfl), (Nat.le_of_ble_eq_true rfl)⟩ ⟨(Nat.le_of_ble_eq_true rfl), (Nat.le_of_ble_eq_true rfl)⟩ (Nat.le_of_ble_eq_true rfl) dL_law_437 (n := 440) rfl (fun r1 M1 h1 => ?_)
  have hR1 : absR M1 A := absR_fr hR h1.2.2
  refine g_aload2 C dL_law_440 (n := 441) rfl ?_
  refine g_aload0 C dL_law_441 (n := 442) rfl ?_
  refine g_iload3 C dL_law_442 (n := 443) rfl ?_
  refine g_iconst C (v := 1) (by decide) dL_law_443 (n := 444) rfl ?_
  refine g_iadd C dL_law_444 (n := 445) rfl ?_
  refine g_sld C (j := i + 1) hX hb (nI_add i 1) (by omega) (by omega) dL_law_445 (n := 446) rfl ?_
  refine kc_L_71 C (ct_X7_depth M1 A (xs (i + 1)) hR1 hw) sh_80 ⟨(Nat.le_of_ble_eq_true rfl), (Nat.le_of_ble_eq_true rfl)⟩ ⟨(Nat.le_of_ble_eq_true rfl), (Nat.le_of_ble_eq_true rfl)⟩ (Nat.le_of_ble_eq_true rfl) dL_law_446 (n := 449) rfl (fun r2 M2 h2 => ?_)
  exact g_icmp_eq C dL_law_449 (t := 750) (by decide) (n := 452) rfl (fun _ => J M2 A (absC_fr h1.2.1 h2.2.2) h2.2.1 hw) (fun c9 => absurd (h1.1.trans h2.1.symm) c9)
set_option maxHeartbeats 4000000 in
set_option maxRecDepth 100000 in
theorem law_14 {p : Program} {l : Launch} {e : Env} {s : State} {m : MethodId} {below : List Frame} {meth : Method} {c : Code} {D : va_G} {cI cO : ClassId} {tP : Nat} {aK aV : Nat → Nat} {nm : String} {b L : Nat} {xs : Nat → Int32} (hL : L ≤ 1536) (hX : va_X b L xs s s.heap) (hb : b < s.heap.size) (C : Cx p s m #[Value.ref b] meth c D cI cO s.heap.size tP aK aV RL nm code 4 ret) {i : Nat} (hi : i + 3 ≤ L) {M : Mem} {A : Abs} (hC : absC M A) (hR : absR M A) (hw : wfA A) (J : ∀ (M1 : Mem) (A1 : Abs), absC M1 A1 → absR M1 A1 → wfA A1 → G p l e room_1 s m #[Value.ref b] below meth c D cI cO s.heap.size 4 (lw_Z below #[Value.ref b] s) 93 20302 SH M1 750 [some (.ref b), some (.ref (s.heap.size + 0)), some (.ref (s.heap.size + 80)), some (.int (nI i))] []) : G p l e room_1 s m #[Value.ref b] below meth c D cI cO s.heap.size 4 (lw_Z below #[Value.ref b] s) 93 20302 SH M 454 [some (.ref b), some (.ref (s.heap.size + 0)), some (.ref (s.heap.size + 80)), some (.int (nI i))] [] := by
  refine g_aload1 C dL_law_454 (n := 455) rfl ?_
  refine g_aload0 C dL_law_455 (n := 456) rfl ?_
  refine g_iload3 C dL_law_456 (n := 457) rfl ?_
  refine g_iconst C (v := 1) (by decide) dL_law_457 (n := 458) rfl ?_
  refine g_iadd C dL_law_458 (n := 459) rfl ?_
  refine g_sld C (j := i + 1) hX hb (nI_add i 1) (by omega) (by omega) dL_law_459 (n := 460) rfl ?_
  refine kc_L_72 C (ct_X6_partner M A (xs (i + 1)) hC hw) sh_0 ⟨(Nat.le_of_ble_eq_true rfl), (Nat.le_of_ble_eq_true rfl)⟩ ⟨(Nat.le_of_ble_eq_true rfl), (Nat.le_of_ble_eq_true rfl)⟩ (Nat.le_of_ble_eq_true rfl) dL_law_460 (n := 463) rfl (fun r1 M1 h1 => ?_)
  have hR1 : absR M1 A := absR_fr hR h1.2.2
  refine g_aload2 C dL_law_463 (n := 464) rfl ?_
  refine g_aload0 C dL_law_464 (n := 465) rfl ?_
  refine g_iload3 C dL_law_465 (n := 466) rfl ?_
  refine g_iconst C (v := 1) (by decide) dL_law_466 (n := 467) rfl ?_
  refine g_iadd C dL_law_467 (n := 468) rfl ?_
  refine g_sld C (j := i + 1) hX hb (nI_add i 1) (by omega) (by omega) dL_law_468 (n := 469) rfl ?_
  refine kc_L_75 C (ct_X7_partner M1 A (xs (i + 1)) hR1 hw) sh_80 ⟨(Nat.le_of_ble_eq_true rfl), (Nat.le_of_ble_eq_true rfl)⟩ ⟨(Nat.le_of_ble_eq_true rfl), (Nat.le_of_ble_eq_true rfl)⟩ (Nat.le_of_ble_eq_true rfl) dL_law_469 (n := 472) rfl (fun r2 M2 h2 => ?_)
  exact g_icmp_eq C dL_law_472 (t := 750) (by decide) (n := 475) rfl (fun _ => J M2 A (absC_fr h1.2.1 h2.2.2) h2.2.1 hw) (fun c9 => absurd (h1.1.trans h2.1.symm) c9)
set_option maxHeartbeats 4000000 in
set_option maxRecDepth 100000 in
theorem law_15 {p : Program} {l : Launch} {e : Env} {s : State} {m : MethodId} {below : List Frame} {meth : Method} {c : Code} {D : va_G} {cI cO : ClassId} {tP : Nat} {aK aV : Nat → Nat} {nm : String} {b L : Nat} {xs : Nat → Int32} (hL : L ≤ 1536) (hX : va_X b L xs s s.heap) (hb : b < s.heap.size) (C : Cx p s m #[Value.ref b] meth c D cI cO s.heap.size tP aK aV RL nm code 4 ret) {i : Nat} (hi : i + 3 ≤ L) {M : Mem} {A : Abs} (hC : absC M A) (hR : absR M A) (hw : wfA A) (J : ∀ (M1 : Mem) (A1 : Abs), absC M1 A1 → absR M1 A1 → wfA A1 → G p l e room_1 s m #[Value.ref b] below meth c D cI cO s.heap.size 4 (lw_Z below #[Value.ref b] s) 93 20302 SH M1 750 [some (.ref b), some (.ref (s.heap.size + 0)), some (.ref (s.heap.size + 80)), some (.int (nI i))] []) : G p l e room_1 s m #[Value.ref b] below meth c D cI cO s.heap.size 4 (lw_Z below #[Value.ref b] s) 93 20302 SH M 477 [some (.ref b), some (.ref (s.heap.size + 0)), some (.ref (s.heap.size + 80)), some (.int (nI i))] [] := by
  refine g_aload1 C dL_law_477 (n := 478) rfl ?_
  refine g_aload0 C dL_law_478 (n := 479) rfl ?_
  refine g_iload3 C dL_law_479 (n := 480) rfl ?_
  refine g_iconst C (v := 1) (by decide) dL_law_480 (n := 481) rfl ?_
  refine g_iadd C dL_law_481 (n := 482) rfl ?_
  refine g_sld C (j := i + 1) hX hb (nI_add i 1) (by omega) (by omega) dL_law_482 (n := 483) rfl ?_
  refine g_aload0 C dL_law_483 (n := 484) rfl ?_
  refine g_iload3 C dL_law_484 (n := 485) rfl ?_
  refine g_iconst C (v := 2) (by decide) dL_law_485 (n := 486) rfl ?_
  refine g_iadd C dL_law_486 (n := 487) rfl ?_
  refine g_sld C (j := i + 2) hX hb (nI_add i 2) (by omega) (by omega) dL_law_487 (n := 488) rfl ?_
  refine kc_L_76 C (ct_X6_wrong M A (xs (i + 1)) (xs (i + 2)) hC hw) sh_0 ⟨(Nat.le_of_ble_eq_true rfl), (Nat.le_of_ble_eq_true rfl)⟩ ⟨(Nat.le_of_ble_eq_true rfl), (Nat.le_of_ble_eq_true rfl)⟩ (Nat.le_of_ble_eq_true rfl) dL_law_488 (n := 491) rfl (fun r1 M1 h1 => ?_)
  have hR1 : absR M1 A := absR_fr hR h1.2.2
  refine g_aload2 C dL_law_491 (n := 492) rfl ?_
  refine g_aload0 C dL_law_492 (n := 493) rfl ?_
  refine g_iload3 C dL_law_493 (n := 494) rfl ?_
  refine g_iconst C (v := 1) (by decide) dL_law_494 (n := 495) rfl ?_
  refine g_iadd C dL_law_495 (n := 496) rfl ?_
  refine g_sld C (j := i + 1) hX hb (nI_add i 1) (by omega) (by omega) dL_law_496 (n := 497) rfl ?_
  refine g_aload0 C dL_law_497 (n := 498) rfl ?_
  refine g_iload3 C dL_law_498 (n := 499) rfl ?_
  refine g_iconst C (v := 2) (by decide) dL_law_499 (n := 500) rfl ?_
  refine g_iadd C dL_law_500 (n := 501) rfl ?_
  refine g_sld C (j := i + 2) hX hb (nI_add i 2) (by omega) (by omega) dL_law_501 (n := 502) rfl ?_
  refine kc_L_79 C (ct_X7_wrong M1 A (xs (i + 1)) (xs (i + 2)) hR1 hw) sh_80 ⟨(Nat.le_of_ble_eq_true rfl), (Nat.le_of_ble_eq_true rfl)⟩ ⟨(Nat.le_of_ble_eq_true rfl), (Nat.le_of_ble_eq_true rfl)⟩ (Nat.le_of_ble_eq_true rfl) dL_law_502 (n := 505) rfl (fun r2 M2 h2 => ?_)
  exact g_icmp_eq C dL_law_505 (t := 750) (by decide) (n := 508) rfl (fun _ => J M2 A (absC_fr h1.2.1 h2.2.2) h2.2.1 hw) (fun c9 => absurd (h1.1.trans h2.1.symm) c9)
set_option maxHeartbeats 4000000 in
set_option maxRecDepth 100000 in
theorem law_16 {p : Program} {l : Launch} {e : Env} {s : State} {m : MethodId} {below : List Frame} {meth : Method} {c : Code} {D : va_G} {cI cO : ClassId} {tP : Nat} {aK aV : Nat → Nat} {nm : String} {b L : Nat} {xs : Nat → Int32} (hL : L ≤ 1536) (hX : va_X b L xs s s.heap) (hb : b < s.heap.size) (C : Cx p s m #[Value.ref b] meth c D cI cO s.heap.size tP aK aV RL nm code 4 ret) {i : Nat} (hi : i + 3 ≤ L) {M : Mem} {A : Abs} (hC : absC M A) (hR : absR M A) (hw : wfA A) (J : ∀ (M1 : Mem) (A1 : Abs), absC M1 A1 → absR M1 A1 → wfA A1 → G p l e room_1 s m #[Value.ref b] below meth c D cI cO s.heap.size 4 (lw_Z below #[Value.ref b] s) 93 20302 SH M1 750 [some (.ref b), some (.ref (s.heap.size + 0)), some (.ref (s.heap.size + 80)), some (.int (nI i))] []) : G p l e room_1 s m #[Value.ref b] below meth c D cI cO s.heap.size 4 (lw_Z below #[Value.ref b] s) 93 20302 SH M 510 [some (.ref b), some (.ref (s.heap.size + 0)), some (.ref (s.heap.size + 80)), some (.int (nI i))] [] := by
  refine g_aload1 C dL_law_510 (n := 511) rfl ?_
  refine g_aload0 C dL_law_511 (n := 512) rfl ?_
  refine g_iload3 C dL_law_512 (n := 513) rfl ?_
  refine g_iconst C (v := 1) (by decide) dL_law_513 (n := 514) rfl ?_
  refine g_iadd C dL_law_514 (n := 515) rfl ?_
  refine g_sld C (j := i + 1) hX hb (nI_add i 1) (by omega) (by omega) dL_law_515 (n := 516) rfl ?_
  refine g_aload0 C dL_law_516 (n := 517) rfl ?_
  refine g_iload3 C dL_law_517 (n := 518) rfl ?_
  refine g_iconst C (v := 2) (by decide) dL_law_518 (n := 519) rfl ?_
  refine g_iadd C dL_law_519 (n := 520) rfl ?_
  refine g_sld C (j := i + 2) hX hb (nI_add i 2) (by omega) (by omega) dL_law_520 (n := 521) rfl ?_
  refine kc_L_80 C (ct_X6_quote M A (xs (i + 1)) (xs (i + 2)) hC hw) sh_0 ⟨(Nat.le_of_ble_eq_true rfl), (Nat.le_of_ble_eq_true rfl)⟩ ⟨(Nat.le_of_ble_eq_true rfl), (Nat.le_of_ble_eq_true rfl)⟩ (Nat.le_of_ble_eq_true rfl) dL_law_521 (n := 524) rfl (fun r1 M1 h1 => ?_)
  have hR1 : absR M1 A := absR_fr hR h1.2.2
  refine g_aload2 C dL_law_524 (n := 525) rfl ?_
  refine g_aload0 C dL_law_525 (n := 526) rfl ?_
  refine g_iload3 C dL_law_526 (n := 527) rfl ?_
  refine g_iconst C (v := 1) (by decide) dL_law_527 (n := 528) rfl ?_
  refine g_iadd C dL_law_528 (n := 529) rfl ?_
  refine g_sld C (j := i + 1) hX hb (nI_add i 1) (by omega) (by omega) dL_law_529 (n := 530) rfl ?_
  refine g_aload0 C dL_law_530 (n := 531) rfl ?_
  refine g_iload3 C dL_law_531 (n := 532) rfl ?_
  refine g_iconst C (v := 2) (by decide) dL_law_532 (n := 533) rfl ?_
  refine g_iadd C dL_law_533 (n := 534) rfl ?_
  refine g_sld C (j := i + 2) hX hb (nI_add i 2) (by omega) (by omega) dL_law_534 (n := 535) rfl ?_
  refine kc_L_83 C (ct_X7_quote M1 A (xs (i + 1)) (xs (i + 2)) hR1 hw) sh_80 ⟨(Nat.le_of_ble_eq_true rfl), (Nat.le_of_ble_eq_true rfl)⟩ ⟨(Nat.le_of_ble_eq_true rfl), (Nat.le_of_ble_eq_true rfl)⟩ (Nat.le_of_ble_eq_true rfl) dL_law_535 (n := 538) rfl (fun r2 M2 h2 => ?_)
  exact g_icmp_eq C dL_law_538 (t := 750) (by decide) (n := 541) rfl (fun _ => J M2 A (absC_fr h1.2.1 h2.2.2) h2.2.1 hw) (fun c9 => absurd (qt_one h1.1 h2.1) c9)
set_option maxHeartbeats 4000000 in
set_option maxRecDepth 100000 in
theorem law_17 {p : Program} {l : Launch} {e : Env} {s : State} {m : MethodId} {below : List Frame} {meth : Method} {c : Code} {D : va_G} {cI cO : ClassId} {tP : Nat} {aK aV : Nat → Nat} {nm : String} {b L : Nat} {xs : Nat → Int32} (hL : L ≤ 1536) (hX : va_X b L xs s s.heap) (hb : b < s.heap.size) (C : Cx p s m #[Value.ref b] meth c D cI cO s.heap.size tP aK aV RL nm code 4 ret) {i : Nat} (hi : i + 3 ≤ L) {M : Mem} {A : Abs} (hC : absC M A) (hR : absR M A) (hw : wfA A) (J : ∀ (M1 : Mem) (A1 : Abs), absC M1 A1 → absR M1 A1 → wfA A1 → G p l e room_1 s m #[Value.ref b] below meth c D cI cO s.heap.size 4 (lw_Z below #[Value.ref b] s) 93 20302 SH M1 750 [some (.ref b), some (.ref (s.heap.size + 0)), some (.ref (s.heap.size + 80)), some (.int (nI i))] []) : G p l e room_1 s m #[Value.ref b] below meth c D cI cO s.heap.size 4 (lw_Z below #[Value.ref b] s) 93 20302 SH M 543 [some (.ref b), some (.ref (s.heap.size + 0)), some (.ref (s.heap.size + 80)), some (.int (nI i))] [] := by
  refine g_aload1 C dL_law_543 (n := 544) rfl ?_
  refine g_aload0 C dL_law_544 (n := 545) rfl ?_
  refine g_iload3 C dL_law_545 (n := 546) rfl ?_
  refine g_iconst C (v := 1) (by decide) dL_law_546 (n := 547) rfl ?_
  refine g_iadd C dL_law_547 (n := 548) rfl ?_
  refine g_sld C (j := i + 1) hX hb (nI_add i 1) (by omega) (by omega) dL_law_548 (n := 549) rfl ?_
  refine kc_L_84 C (ct_X6_said M A (xs (i + 1)) hC hw) sh_0 ⟨(Nat.le_of_ble_eq_true rfl), (Nat.le_of_ble_eq_true rfl)⟩ ⟨(Nat.le_of_ble_eq_true rfl), (Nat.le_of_ble_eq_true rfl)⟩ (Nat.le_of_ble_eq_true rfl) dL_law_549 (n := 552) rfl (fun r1 M1 h1 => ?_)
  have hR1 : absR M1 A := absR_fr hR h1.2.2
  refine g_aload2 C dL_law_552 (n := 553) rfl ?_
  refine g_aload0 C dL_law_553 (n := 554) rfl ?_
  refine g_iload3 C dL_law_554 (n := 555) rfl ?_
  refine g_iconst C (v := 1) (by decide) dL_law_555 (n := 556) rfl ?_
  refine g_iadd C dL_law_556 (n := 557) rfl ?_
  refine g_sld C (j := i + 1) hX hb (nI_add i 1) (by omega) (by omega) dL_law_557 (n := 558) rfl ?_
  refine kc_L_87 C (ct_X7_said M1 A (xs (i + 1)) hR1 hw) sh_80 ⟨(Nat.le_of_ble_eq_true rfl), (Nat.le_of_ble_eq_true rfl)⟩ ⟨(Nat.le_of_ble_eq_true rfl), (Nat.le_of_ble_eq_true rfl)⟩ (Nat.le_of_ble_eq_true rfl) dL_law_558 (n := 561) rfl (fun r2 M2 h2 => ?_)
  exact g_icmp_eq C dL_law_561 (t := 750) (by decide) (n := 564) rfl (fun _ => J M2 A (absC_fr h1.2.1 h2.2.2) h2.2.1 hw) (fun c9 => absurd (h1.1.trans h2.1.symm) c9)
set_option maxHeartbeats 4000000 in
set_option maxRecDepth 100000 in
theorem law_18 {p : Program} {l : Launch} {e : Env} {s : State} {m : MethodId} {below : List Frame} {meth : Method} {c : Code} {D : va_G} {cI cO : ClassId} {tP : Nat} {aK aV : Nat → Nat} {nm : String} {b L : Nat} {xs : Nat → Int32} (hL : L ≤ 1536) (hX : va_X b L xs s s.heap) (hb : b < s.heap.size) (C : Cx p s m #[Value.ref b] meth c D cI cO s.heap.size tP aK aV RL nm code 4 ret) {i : Nat} (hi : i + 3 ≤ L) {M : Mem} {A : Abs} (hC : absC M A) (hR : absR M A) (hw : wfA A) (J : ∀ (M1 : Mem) (A1 : Abs), absC M1 A1 → absR M1 A1 → wfA A1 → G p l e room_1 s m #[Value.ref b] below meth c D cI cO s.heap.size 4 (lw_Z below #[Value.ref b] s) 93 20302 SH M1 750 [some (.ref b), some (.ref (s.heap.size + 0)), some (.ref (s.heap.size + 80)), some (.int (nI i))] []) : G p l e room_1 s m #[Value.ref b] below meth c D cI cO s.heap.size 4 (lw_Z below #[Value.ref b] s) 93 20302 SH M 566 [some (.ref b), some (.ref (s.heap.size + 0)), some (.ref (s.heap.size + 80)), some (.int (nI i))] [] := by
  refine g_aload1 C dL_law_566 (n := 567) rfl ?_
  refine g_aload0 C dL_law_567 (n := 568) rfl ?_
  refine g_iload3 C dL_law_568 (n := 569) rfl ?_
  refine g_iconst C (v := 1) (by decide) dL_law_569 (n := 570) rfl ?_
  refine g_iadd C dL_law_570 (n := 571) rfl ?_
  refine g_sld C (j := i + 1) hX hb (nI_add i 1) (by omega) (by omega) dL_law_571 (n := 572) rfl ?_
  refine g_aload0 C dL_law_572 (n := 573) rfl ?_
  refine g_iload3 C dL_law_573 (n := 574) rfl ?_
  refine g_iconst C (v := 2) (by decide) dL_law_574 (n := 575) rfl ?_
  refine g_iadd C dL_law_575 (n := 576) rfl ?_
  refine g_sld C (j := i + 2) hX hb (nI_add i 2) (by omega) (by omega) dL_law_576 (n := 577) rfl ?_
  refine kc_L_88 C (ct_X6_paragraph M A (xs (i + 1)) (xs (i + 2)) hC hw) sh_0 ⟨(Nat.le_of_ble_eq_true rfl), (Nat.le_of_ble_eq_true rfl)⟩ ⟨(Nat.le_of_ble_eq_true rfl), (Nat.le_of_ble_eq_true rfl)⟩ (Nat.le_of_ble_eq_true rfl) dL_law_577 (n := 580) rfl (fun r1 M1 h1 => ?_)
  have hR1 : absR M1 A := absR_fr hR h1.2.2
  refine g_aload2 C dL_law_580 (n := 581) rfl ?_
  refine g_aload0 C dL_law_581 (n := 582) rfl ?_
  refine g_iload3 C dL_law_582 (n := 583) rfl ?_
  refine g_iconst C (v := 1) (by decide) dL_law_583 (n := 584) rfl ?_
  refine g_iadd C dL_law_584 (n := 585) rfl ?_
  refine g_sld C (j := i + 1) hX hb (nI_add i 1) (by omega) (by omega) dL_law_585 (n := 586) rfl ?_
  refine g_aload0 C dL_law_586 (n := 587) rfl ?_
  refine g_iload3 C dL_law_587 (n := 588) rfl ?_
  refine g_iconst C (v := 2) (by decide) dL_law_588 (n := 589) rfl ?_
  refine g_iadd C dL_law_589 (n := 590) rfl ?_
  refine g_sld C (j := i + 2) hX hb (nI_add i 2) (by omega) (by omega) dL_law_590 (n := 591) rfl ?_
  refine kc_L_91 C (ct_X7_paragraph M1 A (xs (i + 1)) (xs (i + 2)) hR1 hw) sh_80 ⟨(Nat.le_of_ble_eq_true rfl), (Nat.le_of_ble_eq_true rfl)⟩ ⟨(Nat.le_of_ble_eq_true rfl), (Nat.le_of_ble_eq_true rfl)⟩ (Nat.le_of_ble_eq_true rfl) dL_law_591 (n := 594) rfl (fun r2 M2 h2 => ?_)
  exact g_icmp_eq C dL_law_594 (t := 750) (by decide) (n := 597) rfl (fun _ => J M2 A (absC_fr h1.2.1 h2.2.2) h2.2.1 hw) (fun c9 => absurd (pa_one h1.1 h2.1) c9)
set_option maxHeartbeats 4000000 in
set_option maxRecDepth 100000 in
theorem law_19 {p : Program} {l : Launch} {e : Env} {s : State} {m : MethodId} {below : List Frame} {meth : Method} {c : Code} {D : va_G} {cI cO : ClassId} {tP : Nat} {aK aV : Nat → Nat} {nm : String} {b L : Nat} {xs : Nat → Int32} (hL : L ≤ 1536) (hX : va_X b L xs s s.heap) (hb : b < s.heap.size) (C : Cx p s m #[Value.ref b] meth c D cI cO s.heap.size tP aK aV RL nm code 4 ret) {i : Nat} (hi : i + 3 ≤ L) {M : Mem} {A : Abs} (hC : absC M A) (hR : absR M A) (hw : wfA A) (J : ∀ (M1 : Mem) (A1 : Abs), absC M1 A1 → absR M1 A1 → wfA A1 → G p l e room_1 s m #[Value.ref b] below meth c D cI cO s.heap.size 4 (lw_Z below #[Value.ref b] s) 93 20302 SH M1 750 [some (.ref b), some (.ref (s.heap.size + 0)), some (.ref (s.heap.size + 80)), some (.int (nI i))] []) : G p l e room_1 s m #[Value.ref b] below meth c D cI cO s.heap.size 4 (lw_Z below #[Value.ref b] s) 93 20302 SH M 599 [some (.ref b), some (.ref (s.heap.size + 0)), some (.ref (s.heap.size + 80)), some (.int (nI i))] [] := by
  refine g_aload1 C dL_law_599 (n := 600) rfl ?_
  refine kc_L_92 C (ct_X6_least M A hC hw) sh_0 ⟨(Nat.le_of_ble_eq_true rfl), (Nat.le_of_ble_eq_true rfl)⟩ ⟨(Nat.le_of_ble_eq_true rfl), (Nat.le_of_ble_eq_true rfl)⟩ (Nat.le_of_ble_eq_true rfl) dL_law_600 (n := 603) rfl (fun r1 M1 h1 => ?_)
  have hR1 : absR M1 A := absR_fr hR h1.2.2
  refine g_aload2 C dL_law_603 (n := 604) rfl ?_
  refine kc_L_95 C (ct_X7_least M1 A hR1 hw) sh_80 ⟨(Nat.le_of_ble_eq_true rfl), (Nat.le_of_ble_eq_true rfl)⟩ ⟨(Nat.le_of_ble_eq_true rfl), (Nat.le_of_ble_eq_true rfl)⟩ (Nat.le_of_ble_eq_true rfl) dL_law_604 (n := 607) rfl (fun r2 M2 h2 => ?_)
  exact g_icmp_eq C dL_law_607 (t := 750) (by decide) (n := 610) rfl (fun _ => J M2 A (absC_fr h1.2.1 h2.2.2) h2.2.1 hw) (fun c9 => absurd (h1.1.trans h2.1.symm) c9)
set_option maxHeartbeats 4000000 in
set_option maxRecDepth 100000 in
theorem law_20 {p : Program} {l : Launch} {e : Env} {s : State} {m : MethodId} {below : List Frame} {meth : Method} {c : Code} {D : va_G} {cI cO : ClassId} {tP : Nat} {aK aV : Nat → Nat} {nm : String} {b L : Nat} {xs : Nat → Int32} (hL : L ≤ 1536) (hX : va_X b L xs s s.heap) (hb : b < s.heap.size) (C : Cx p s m #[Value.ref b] meth c D cI cO s.heap.size tP aK aV RL nm code 4 ret) {i : Nat} (hi : i + 3 ≤ L) {M : Mem} {A : Abs} (hC : absC M A) (hR : absR M A) (hw : wfA A) (J : ∀ (M1 : Mem) (A1 : Abs), absC M1 A1 → absR M1 A1 → wfA A1 → G p l e room_1 s m #[Value.ref b] below meth c D cI cO s.heap.size 4 (lw_Z below #[Value.ref b] s) 93 20302 SH M1 750 [some (.ref b), some (.ref (s.heap.size + 0)), some (.ref (s.heap.size + 80)), some (.int (nI i))] []) : G p l e room_1 s m #[Value.ref b] below meth c D cI cO s.heap.size 4 (lw_Z below #[Value.ref b] s) 93 20302 SH M 612 [some (.ref b), some (.ref (s.heap.size + 0)), some (.ref (s.heap.size + 80)), some (.int (nI i))] [] := by
  refine g_aload1 C dL_law_612 (n := 613) rfl ?_
  refine g_aload0 C dL_law_613 (n := 614) rfl ?_
  refine g_iload3 C dL_law_614 (n := 615) rfl ?_
  refine g_iconst C (v := 1) (by decide) dL_law_615 (n := 616) rfl ?_
  refine g_iadd C dL_law_616 (n := 617) rfl ?_
  refine g_sld C (j := i + 1) hX hb (nI_add i 1) (by omega) (by omega) dL_law_617 (n := 618) rfl ?_
  refine kc_L_96 C (ct_X6_changes M A (xs (i + 1)) hC hw) sh_0 ⟨(Nat.le_of_ble_eq_true rfl), (Nat.le_of_ble_eq_true rfl)⟩ ⟨(Nat.le_of_ble_eq_true rfl), (Nat.le_of_ble_eq_true rfl)⟩ (Nat.le_of_ble_eq_true rfl) dL_law_618 (n := 621) rfl (fun r1 M1 h1 => ?_)
  have hR1 : absR M1 A := absR_fr hR h1.2.2
  refine g_aload2 C dL_law_621 (n := 622) rfl ?_
  refine g_aload0 C dL_law_622 (n := 623) rfl ?_
  refine g_iload3 C dL_law_623 (n := 624) rfl ?_
  refine g_iconst C (v := 1) (by decide) dL_law_624 (n := 625) rfl ?_
  refine g_iadd C dL_law_625 (n := 626) rfl ?_
  refine g_sld C (j := i + 1) hX hb (nI_add i 1) (by omega) (by omega) dL_law_626 (n := 627) rfl ?_
  refine kc_L_99 C (ct_X7_changes M1 A (xs (i + 1)) hR1 hw) sh_80 ⟨(Nat.le_of_ble_eq_true rfl), (Nat.le_of_ble_eq_true rfl)⟩ ⟨(Nat.le_of_ble_eq_true rfl), (Nat.le_of_ble_eq_true rfl)⟩ (Nat.le_of_ble_eq_true rfl) dL_law_627 (n := 630) rfl (fun r2 M2 h2 => ?_)
  exact g_icmp_eq C dL_law_630 (t := 750) (by decide) (n := 633) rfl (fun _ => J M2 A (absC_fr h1.2.1 h2.2.2) h2.2.1 hw) (fun c9 => absurd (h1.1.trans h2.1.symm) c9)
set_option maxHeartbeats 4000000 in
set_option maxRecDepth 100000 in
theorem law_21 {p : Program} {l : Launch} {e : Env} {s : State} {m : MethodId} {below : List Frame} {meth : Method} {c : Code} {D : va_G} {cI cO : ClassId} {tP : Nat} {aK aV : Nat → Nat} {nm : String} {b L : Nat} {xs : Nat → Int32} (hL : L ≤ 1536) (hX : va_X b L xs s s.heap) (hb : b < s.heap.size) (C : Cx p s m #[Value.ref b] meth c D cI cO s.heap.size tP aK aV RL nm code 4 ret) {i : Nat} (hi : i + 3 ≤ L) {M : Mem} {A : Abs} (hC : absC M A) (hR : absR M A) (hw : wfA A) (J : ∀ (M1 : Mem) (A1 : Abs), absC M1 A1 → absR M1 A1 → wfA A1 → G p l e room_1 s m #[Value.ref b] below meth c D cI cO s.heap.size 4 (lw_Z below #[Value.ref b] s) 93 20302 SH M1 750 [some (.ref b), some (.ref (s.heap.size + 0)), some (.ref (s.heap.size + 80)), some (.int (nI i))] []) : G p l e room_1 s m #[Value.ref b] below meth c D cI cO s.heap.size 4 (lw_Z below #[Value.ref b] s) 93 20302 SH M 635 [some (.ref b), some (.ref (s.heap.size + 0)), some (.ref (s.heap.size + 80)), some (.int (nI i))] [] := by
  refine g_aload1 C dL_law_635 (n := 636) rfl ?_
  refine g_aload0 C dL_law_636 (n := 637) rfl ?_
  refine g_iload3 C dL_law_637 (n := 638) rfl ?_
  refine g_iconst C (v := 1) (by decide) dL_law_638 (n := 639) rfl ?_
  refine g_iadd C dL_law_639 (n := 640) rfl ?_
  refine g_sld C (j := i + 1) hX hb (nI_add i 1) (by omega) (by omega) dL_law_640 (n := 641) rfl ?_
  refine kc_L_100 C (ct_X6_mended M A (xs (i + 1)) hC hw) sh_0 ⟨(Nat.le_of_ble_eq_true rfl), (Nat.le_of_ble_eq_true rfl)⟩ ⟨(Nat.le_of_ble_eq_true rfl), (Nat.le_of_ble_eq_true rfl)⟩ (Nat.le_of_ble_eq_true rfl) dL_law_641 (n := 644) rfl (fun r1 M1 h1 => ?_)
  have hR1 : absR M1 A := absR_fr hR h1.2.2
  refine g_aload2 C dL_law_644 (n := 645) rfl ?_
  refine g_aload0 C dL_law_645 (n := 646) rfl ?_
  refine g_iload3 C dL_law_646 (n := 647) rfl ?_
  refine g_iconst C (v := 1) (by decide) dL_law_647 (n := 648) rfl ?_
  refine g_iadd C dL_law_648 (n := 649) rfl ?_
  refine g_sld C (j := i + 1) hX hb (nI_add i 1) (by omega) (by omega) dL_law_649 (n := 650) rfl ?_
  refine kc_L_103 C (ct_X7_mended M1 A (xs (i + 1)) hR1 hw) sh_80 ⟨(Nat.le_of_ble_eq_true rfl), (Nat.le_of_ble_eq_true rfl)⟩ ⟨(Nat.le_of_ble_eq_true rfl), (Nat.le_of_ble_eq_true rfl)⟩ (Nat.le_of_ble_eq_true rfl) dL_law_650 (n := 653) rfl (fun r2 M2 h2 => ?_)
  exact g_icmp_eq C dL_law_653 (t := 750) (by decide) (n := 656) rfl (fun _ => J M2 A (absC_fr h1.2.1 h2.2.2) h2.2.1 hw) (fun c9 => absurd (h1.1.trans h2.1.symm) c9)
set_option maxHeartbeats 4000000 in
set_option maxRecDepth 100000 in
theorem law_22 {p : Program} {l : Launch} {e : Env} {s : State} {m : MethodId} {below : List Frame} {meth : Method} {c : Code} {D : va_G} {cI cO : ClassId} {tP : Nat} {aK aV : Nat → Nat} {nm : String} {b L : Nat} {xs : Nat → Int32} (hL : L ≤ 1536) (hX : va_X b L xs s s.heap) (hb : b < s.heap.size) (C : Cx p s m #[Value.ref b] meth c D cI cO s.heap.size tP aK aV RL nm code 4 ret) {i : Nat} (hi : i + 3 ≤ L) {M : Mem} {A : Abs} (hC : absC M A) (hR : absR M A) (hw : wfA A) (J : ∀ (M1 : Mem) (A1 : Abs), absC M1 A1 → absR M1 A1 → wfA A1 → G p l e room_1 s m #[Value.ref b] below meth c D cI cO s.heap.size 4 (lw_Z below #[Value.ref b] s) 93 20302 SH M1 750 [some (.ref b), some (.ref (s.heap.size + 0)), some (.ref (s.heap.size + 80)), some (.int (nI i))] []) : G p l e room_1 s m #[Value.ref b] below meth c D cI cO s.heap.size 4 (lw_Z below #[Value.ref b] s) 93 20302 SH M 658 [some (.ref b), some (.ref (s.heap.size + 0)), some (.ref (s.heap.size + 80)), some (.int (nI i))] [] := by
  refine g_aload1 C dL_law_658 (n := 659) rfl ?_
  refine kc_L_104 C (ct_X6_mend M A hC hw) sh_0 ⟨(Nat.le_of_ble_eq_true rfl), (Nat.le_of_ble_eq_true rfl)⟩ ⟨(Nat.le_of_ble_eq_true rfl), (Nat.le_of_ble_eq_true rfl)⟩ (Nat.le_of_ble_eq_true rfl) dL_law_659 (n := 662) rfl (fun r1 M1 h1 => ?_)
  have hR1 : absR M1 A := absR_fr hR h1.2.2
  refine g_aload2 C dL_law_662 (n := 663) rfl ?_
  refine kc_L_107 C (ct_X7_mend M1 A hR1 hw) sh_80 ⟨(Nat.le_of_ble_eq_true rfl), (Nat.le_of_ble_eq_true rfl)⟩ ⟨(Nat.le_of_ble_eq_true rfl), (Nat.le_of_ble_eq_true rfl)⟩ (Nat.le_of_ble_eq_true rfl) dL_law_663 (n := 666) rfl (fun r2 M2 h2 => ?_)
  exact g_icmp_eq C dL_law_666 (t := 750) (by decide) (n := 669) rfl (fun _ => J M2 _ (absC_fr h1.2.1 h2.2.2) h2.2.1 (wf_mend hw)) (fun c9 => absurd (h1.1.trans h2.1.symm) c9)
set_option maxHeartbeats 4000000 in
set_option maxRecDepth 100000 in
theorem law_23 {p : Program} {l : Launch} {e : Env} {s : State} {m : MethodId} {below : List Frame} {meth : Method} {c : Code} {D : va_G} {cI cO : ClassId} {tP : Nat} {aK aV : Nat → Nat} {nm : String} {b L : Nat} {xs : Nat → Int32} (hL : L ≤ 1536) (hX : va_X b L xs s s.heap) (hb : b < s.heap.size) (C : Cx p s m #[Value.ref b] meth c D cI cO s.heap.size tP aK aV RL nm code 4 ret) {i : Nat} (hi : i + 3 ≤ L) {M : Mem} {A : Abs} (hC : absC M A) (hR : absR M A) (hw : wfA A) (J : ∀ (M1 : Mem) (A1 : Abs), absC M1 A1 → absR M1 A1 → wfA A1 → G p l e room_1 s m #[Value.ref b] below meth c D cI cO s.heap.size 4 (lw_Z below #[Value.ref b] s) 93 20302 SH M1 750 [some (.ref b), some (.ref (s.heap.size + 0)), some (.ref (s.heap.size + 80)), some (.int (nI i))] []) : G p l e room_1 s m #[Value.ref b] below meth c D cI cO s.heap.size 4 (lw_Z below #[Value.ref b] s) 93 20302 SH M 671 [some (.ref b), some (.ref (s.heap.size + 0)), some (.ref (s.heap.size + 80)), some (.int (nI i))] [] := by
  refine g_aload1 C dL_law_671 (n := 672) rfl ?_
  refine g_aload0 C dL_law_672 (n := 673) rfl ?_
  refine g_iload3 C dL_law_673 (n := 674) rfl ?_
  refine g_iconst C (v := 1) (by decide) dL_law_674 (n := 675) rfl ?_
  refine g_iadd C dL_law_675 (n := 676) rfl ?_
  refine g_sld C (j := i + 1) hX hb (nI_add i 1) (by omega) (by omega) dL_law_676 (n := 677) rfl ?_
  refine g_aload0 C dL_law_677 (n := 678) rfl ?_
  refine g_iload3 C dL_law_678 (n := 679) rfl ?_
  refine g_iconst C (v := 2) (by decide) dL_law_679 (n := 680) rfl ?_
  refine g_iadd C dL_law_680 (n := 681) rfl ?_
  refine g_sld C (j := i + 2) hX hb (nI_add i 2) (by omega) (by omega) dL_law_681 (n := 682) rfl ?_
  refine kc_L_108 C (ct_X6_would M A (xs (i + 1)) (xs (i + 2)) hC hw) sh_0 ⟨(Nat.le_of_ble_eq_true rfl), (Nat.le_of_ble_eq_true rfl)⟩ ⟨(Nat.le_of_ble_eq_true rfl), (Nat.le_of_ble_eq_true rfl)⟩ (Nat.le_of_ble_eq_true rfl) dL_law_682 (n := 685) rfl (fun r1 M1 h1 => ?_)
  have hR1 : absR M1 A := absR_fr hR h1.2.2
  refine g_aload2 C dL_law_685 (n := 686) rfl ?_
  refine g_aload0 C dL_law_686 (n := 687) rfl ?_
  refine g_iload3 C dL_law_687 (n := 688) rfl ?_
  refine g_iconst C (v := 1) (by decide) dL_law_688 (n := 689) rfl ?_
  refine g_iadd C dL_law_689 (n := 690) rfl ?_
  refine g_sld C (j := i + 1) hX hb (nI_add i 1) (by omega) (by omega) dL_law_690 (n := 691) rfl ?_
  refine g_aload0 C dL_law_691 (n := 692) rfl ?_
  refine g_iload3 C dL_law_692 (n := 693) rfl ?_
  refine g_iconst C (v := 2) (by decide) dL_law_693 (n := 694) rfl ?_
  refine g_iadd C dL_law_694 (n := 695) rfl ?_
  refine g_sld C (j := i + 2) hX hb (nI_add i 2) (by omega) (by omega) dL_law_695 (n := 696) rfl ?_
  refine kc_L_111 C (ct_X7_would M1 A (xs (i + 1)) (xs (i + 2)) hR1 hw) sh_80 ⟨(Nat.le_of_ble_eq_true rfl), (Nat.le_of_ble_eq_true rfl)⟩ ⟨(Nat.le_of_ble_eq_true rfl), (Nat.le_of_ble_eq_true rfl)⟩ (Nat.le_of_ble_eq_true rfl) dL_law_696 (n := 699) rfl (fun r2 M2 h2 => ?_)
  exact g_icmp_eq C dL_law_699 (t := 750) (by decide) (n := 702) rfl (fun _ => J M2 A (absC_fr h1.2.1 h2.2.2) h2.2.1 hw) (fun c9 => absurd (h1.1.trans h2.1.symm) c9)
set_option maxHeartbeats 4000000 in
set_option maxRecDepth 100000 in
theorem law_24 {p : Program} {l : Launch} {e : Env} {s : State} {m : MethodId} {below : List Frame} {meth : Method} {c : Code} {D : va_G} {cI cO : ClassId} {tP : Nat} {aK aV : Nat → Nat} {nm : String} {b L : Nat} {xs : Nat → Int32} (hL : L ≤ 1536) (hX : va_X b L xs s s.heap) (hb : b < s.heap.size) (C : Cx p s m #[Value.ref b] meth c D cI cO s.heap.size tP aK aV RL nm code 4 ret) {i : Nat} (hi : i + 3 ≤ L) {M : Mem} {A : Abs} (hC : absC M A) (hR : absR M A) (hw : wfA A) (J : ∀ (M1 : Mem) (A1 : Abs), absC M1 A1 → absR M1 A1 → wfA A1 → G p l e room_1 s m #[Value.ref b] below meth c D cI cO s.heap.size 4 (lw_Z below #[Value.ref b] s) 93 20302 SH M1 750 [some (.ref b), some (.ref (s.heap.size + 0)), some (.ref (s.heap.size + 80)), some (.int (nI i))] []) : G p l e room_1 s m #[Value.ref b] below meth c D cI cO s.heap.size 4 (lw_Z below #[Value.ref b] s) 93 20302 SH M 704 [some (.ref b), some (.ref (s.heap.size + 0)), some (.ref (s.heap.size + 80)), some (.int (nI i))] [] := by
  refine g_aload1 C dL_law_704 (n := 705) rfl ?_
  refine g_aload0 C dL_law_705 (n := 706) rfl ?_
  refine g_iload3 C dL_law_706 (n := 707) rfl ?_
  refine g_iconst C (v := 1) (by decide) dL_law_707 (n := 708) rfl ?_
  refine g_iadd C dL_law_708 (n := 709) rfl ?_
  refine g_sld C (j := i + 1) hX hb (nI_add i 1) (by omega) (by omega) dL_law_709 (n := 710) rfl ?_
  refine kc_L_112 C (ct_X6_retell M A (xs (i + 1)) hC hw) sh_0 ⟨(Nat.le_of_ble_eq_true rfl), (Nat.le_of_ble_eq_true rfl)⟩ ⟨(Nat.le_of_ble_eq_true rfl), (Nat.le_of_ble_eq_true rfl)⟩ (Nat.le_of_ble_eq_true rfl) dL_law_710 (n := 713) rfl (fun r1 M1 h1 => ?_)
  have hR1 : absR M1 A := absR_fr hR h1.2.2
  refine g_aload2 C dL_law_713 (n := 714) rfl ?_
  refine g_aload0 C dL_law_714 (n := 715) rfl ?_
  refine g_iload3 C dL_law_715 (n := 716) rfl ?_
  refine g_iconst C (v := 1) (by decide) dL_law_716 (n := 717) rfl ?_
  refine g_iadd C dL_law_717 (n := 718) rfl ?_
  refine g_sld C (j := i + 1) hX hb (nI_add i 1) (by omega) (by omega) dL_law_718 (n := 719) rfl ?_
  refine kc_L_115 C (ct_X7_retell M1 A (xs (i + 1)) hR1 hw) sh_80 ⟨(Nat.le_of_ble_eq_true rfl), (Nat.le_of_ble_eq_true rfl)⟩ ⟨(Nat.le_of_ble_eq_true rfl), (Nat.le_of_ble_eq_true rfl)⟩ (Nat.le_of_ble_eq_true rfl) dL_law_719 (n := 722) rfl (fun r2 M2 h2 => ?_)
  exact g_icmp_eq C dL_law_722 (t := 750) (by decide) (n := 725) rfl (fun _ => J M2 _ (absC_fr h1.2.1 h2.2.2) h2.2.1 (wf_retell _ hw)) (fun c9 => absurd (h1.1.trans h2.1.symm) c9)
set_option maxHeartbeats 4000000 in
set_option maxRecDepth 100000 in
theorem law_25 {p : Program} {l : Launch} {e : Env} {s : State} {m : MethodId} {below : List Frame} {meth : Method} {c : Code} {D : va_G} {cI cO : ClassId} {tP : Nat} {aK aV : Nat → Nat} {nm : String} {b L : Nat} {xs : Nat → Int32} (hL : L ≤ 1536) (hX : va_X b L xs s s.heap) (hb : b < s.heap.size) (C : Cx p s m #[Value.ref b] meth c D cI cO s.heap.size tP aK aV RL nm code 4 ret) {i : Nat} (hi : i + 3 ≤ L) {M : Mem} {A : Abs} (hC : absC M A) (hR : absR M A) (hw : wfA A) (J : ∀ (M1 : Mem) (A1 : Abs), absC M1 A1 → absR M1 A1 → wfA A1 → G p l e room_1 s m #[Value.ref b] below meth c D cI cO s.heap.size 4 (lw_Z below #[Value.ref b] s) 93 20302 SH M1 750 [some (.ref b), some (.ref (s.heap.size + 0)), some (.ref (s.heap.size + 80)), some (.int (nI i))] []) : G p l e room_1 s m #[Value.ref b] below meth c D cI cO s.heap.size 4 (lw_Z below #[Value.ref b] s) 93 20302 SH M 727 [some (.ref b), some (.ref (s.heap.size + 0)), some (.ref (s.heap.size + 80)), some (.int (nI i))] [] := by
  refine g_aload1 C dL_law_727 (n := 728) rfl ?_
  refine g_aload0 C dL_law_728 (n := 729) rfl ?_
  refine g_iload3 C dL_law_729 (n := 730) rfl ?_
  refine g_iconst C (v := 1) (by decide) dL_law_730 (n := 731) rfl ?_
  refine g_iadd C dL_law_731 (n := 732) rfl ?_
  refine g_sld C (j := i + 1) hX hb (nI_add i 1) (by omega) (by omega) dL_law_732 (n := 733) rfl ?_
  refine kc_L_116 C (ct_X6_count M A (xs (i + 1)) hC hw) sh_0 ⟨(Nat.le_of_ble_eq_true rfl), (Nat.le_of_ble_eq_true rfl)⟩ ⟨(Nat.le_of_ble_eq_true rfl), (Nat.le_of_ble_eq_true rfl)⟩ (Nat.le_of_ble_eq_true rfl) dL_law_733 (n := 736) rfl (fun r1 M1 h1 => ?_)
  have hR1 : absR M1 A := absR_fr hR h1.2.2
  refine g_aload2 C dL_law_736 (n := 737) rfl ?_
  refine g_aload0 C dL_law_737 (n := 738) rfl ?_
  refine g_iload3 C dL_law_738 (n := 739) rfl ?_
  refine g_iconst C (v := 1) (by decide) dL_law_739 (n := 740) rfl ?_
  refine g_iadd C dL_law_740 (n := 741) rfl ?_
  refine g_sld C (j := i + 1) hX hb (nI_add i 1) (by omega) (by omega) dL_law_741 (n := 742) rfl ?_
  refine kc_L_119 C (ct_X7_count M1 A (xs (i + 1)) hR1 hw) sh_80 ⟨(Nat.le_of_ble_eq_true rfl), (Nat.le_of_ble_eq_true rfl)⟩ ⟨(Nat.le_of_ble_eq_true rfl), (Nat.le_of_ble_eq_true rfl)⟩ (Nat.le_of_ble_eq_true rfl) dL_law_742 (n := 745) rfl (fun r2 M2 h2 => ?_)
  exact g_icmp_eq C dL_law_745 (t := 750) (by decide) (n := 748) rfl (fun _ => J M2 A (absC_fr h1.2.1 h2.2.2) h2.2.1 hw) (fun c9 => absurd (h1.1.trans h2.1.symm) c9)
set_option maxHeartbeats 4000000 in
set_option maxRecDepth 100000 in
theorem law_loop {p : Program} {l : Launch} {e : Env} {s : State} {m : MethodId} {below : List Frame} {meth : Method} {c : Code} {D : va_G} {cI cO : ClassId} {tP : Nat} {aK aV : Nat → Nat} {nm : String} {b L : Nat} {xs : Nat → Int32} (hL : L ≤ 1536) (hX : va_X b L xs s s.heap) (hb : b < s.heap.size) (C : Cx p s m #[Value.ref b] meth c D cI cO s.heap.size tP aK aV RL nm code 4 ret) : ∀ (fu i : Nat) (M : Mem) (A : Abs), L + 3 - i < fu → i ≤ L → absC M A → absR M A → wfA A → G p l e room_1 s m #[Value.ref b] below meth c D cI cO s.heap.size 4 (lw_Z below #[Value.ref b] s) 93 20302 SH M 18 [some (.ref b), some (.ref (s.heap.size + 0)), some (.ref (s.heap.size + 80)), some (.int (nI i))] [] := by
  intro fu
  induction fu with
  | zero => intro i M A h; exact absurd h (Nat.not_lt_zero _)
  | succ fu ih =>
    intro i M A hfu hiL hC hR hw
    refine g_iload3 C dL_law_18 (n := 19) rfl ?_
    refine g_aload0 C dL_law_19 (n := 20) rfl ?_
    refine g_slen0 C hX hb dL_law_20 (n := 21) rfl ?_
    refine g_iconst C (v := 3) (by decide) dL_law_21 (n := 22) rfl ?_
    refine g_isub C dL_law_22 (n := 23) rfl ?_
    refine g_icmp_gt C dL_law_23 (t := 756) (by decide) (n := 26) rfl (fun c_23 => ?_) (fun c_23 => ?_)
    · refine g_iconst C (v := 1) (by decide) dL_law_756 (n := 757) rfl ?_
      intro H locs ls hP hS hl
      refine va_forget (fun q hq => hS.2.2 q hq) ?_
      refine W.widen (k := 600000) (n := 7302250) (Nat.le_of_ble_eq_true rfl) (Nat.le_of_ble_eq_true rfl) ?_
      exact lw_ret C.1 C.2.1 C.2.2.2.2.2.2.1 C.2.2.2.2.2.2.2.1 dL_law_757
    · have hi : i + 3 ≤ L := by
        have h9 : ¬ L < i + 3 := fun h => c_23 ((lw_gt (L := L) (i := i) (by omega) (by omega)).mpr h)
        omega
      have J : ∀ (M1 : Mem) (A1 : Abs), absC M1 A1 → absR M1 A1 → wfA A1 → G p l e room_1 s m #[Value.ref b] below meth c D cI cO s.heap.size 4 (lw_Z below #[Value.ref b] s) 93 20302 SH M1 750 [some (.ref b), some (.ref (s.heap.size + 0)), some (.ref (s.heap.size + 80)), some (.int (nI i))] [] := by
        intro M1 A1 h1 h2 h3
        refine g_iinc3 C (v := nI (i + 3)) (by rw [show Int32.ofInt 3 = nI 3 from by decide]; exact nI_add i 3) dL_law_750 (n := 753) rfl ?_
        refine g_goto C dL_law_753 (t := 18) (by decide) ?_
        exact ih (i + 3) M1 A1 (by omega) hi h1 h2 h3
      refine g_aload0 C dL_law_26 (n := 27) rfl ?_
      refine g_iload3 C dL_law_27 (n := 28) rfl ?_
      refine g_sld C (j := i) hX hb rfl (by omega) (by omega) dL_law_28 (n := 29) rfl ?_
      refine g_bipush C (v := 31) (by decide) dL_law_29 (n := 31) rfl ?_
      refine g_iand C dL_law_31 (n := 32) rfl ?_
      generalize xs i &&& 31 = y
      by_cases c_0 : y = 0
      · refine g_tblIn C dL_law_32 (by rw [c_0]; decide) (by rw [c_0]; decide) (off := 120) (by rw [c_0]; rfl) (t := 152) (by decide) ?_
        exact law_0 hL hX hb C hi hC hR hw J
      by_cases c_1 : y = 1
      · refine g_tblIn C dL_law_32 (by rw [c_1]; decide) (by rw [c_1]; decide) (off := 143) (by rw [c_1]; rfl) (t := 175) (by decide) ?_
        exact law_1 hL hX hb C hi hC hR hw J
      by_cases c_2 : y = 2
      · refine g_tblIn C dL_law_32 (by rw [c_2]; decide) (by rw [c_2]; decide) (off := 156) (by rw [c_2]; rfl) (t := 188) (by decide) ?_
        exact law_2 hL hX hb C hi hC hR hw J
      by_cases c_3 : y = 3
      · refine g_tblIn C dL_law_32 (by rw [c_3]; decide) (by rw [c_3]; decide) (off := 169) (by rw [c_3]; rfl) (t := 201) (by decide) ?_
        exact law_3 hL hX hb C hi hC hR hw J
      by_cases c_4 : y = 4
      · refine g_tblIn C dL_law_32 (by rw [c_4]; decide) (by rw [c_4]; decide) (off := 182) (by rw [c_4]; rfl) (t := 214) (by decide) ?_
        exact law_4 hL hX hb C hi hC hR hw J
      by_cases c_5 : y = 5
      · refine g_tblIn C dL_law_32 (by rw [c_5]; decide) (by rw [c_5]; decide) (off := 195) (by rw [c_5]; rfl) (t := 227) (by decide) ?_
        exact law_5 hL hX hb C hi hC hR hw J
      by_cases c_6 : y = 6
      · refine g_tblIn C dL_law_32 (by rw [c_6]; decide) (by rw [c_6]; decide) (off := 218) (by rw [c_6]; rfl) (t := 250) (by decide) ?_
        exact law_6 hL hX hb C hi hC hR hw J
      by_cases c_7 : y = 7
      · refine g_tblIn C dL_law_32 (by rw [c_7]; decide) (by rw [c_7]; decide) (off := 251) (by rw [c_7]; rfl) (t := 283) (by decide) ?_
        exact law_7 hL hX hb C hi hC hR hw J
      by_cases c_8 : y = 8
      · refine g_tblIn C dL_law_32 (by rw [c_8]; decide) (by rw [c_8]; decide) (off := 284) (by rw [c_8]; rfl) (t := 316) (by decide) ?_
        exact law_8 hL hX hb C hi hC hR hw J
      by_cases c_9 : y = 9
      · refine g_tblIn C dL_law_32 (by rw [c_9]; decide) (by rw [c_9]; decide) (off := 307) (by rw [c_9]; rfl) (t := 339) (by decide) ?_
        exact law_9 hL hX hb C hi hC hR hw J
      by_cases c_10 : y = 10
      · refine g_tblIn C dL_law_32 (by rw [c_10]; decide) (by rw [c_10]; decide) (off := 340) (by rw [c_10]; rfl) (t := 372) (by decide) ?_
        exact law_10 hL hX hb C hi hC hR hw J
      by_cases c_11 : y = 11
      · refine g_tblIn C dL_law_32 (by rw [c_11]; decide) (by rw [c_11]; decide) (off := 353) (by rw [c_11]; rfl) (t := 385) (by decide) ?_
        exact law_11 hL hX hb C hi hC hR hw J
      by_cases c_12 : y = 12
      · refine g_tblIn C dL_law_32 (by rw [c_12]; decide) (by rw [c_12]; decide) (off := 376) (by rw [c_12]; rfl) (t := 408) (by decide) ?_
        exact law_12 hL hX hb C hi hC hR hw J
      by_cases c_13 : y = 13
      · refine g_tblIn C dL_law_32 (by rw [c_13]; decide) (by rw [c_13]; decide) (off := 399) (by rw [c_13]; rfl) (t := 431) (by decide) ?_
        exact law_13 hL hX hb C hi hC hR hw J
      by_cases c_14 : y = 14
      · refine g_tblIn C dL_law_32 (by rw [c_14]; decide) (by rw [c_14]; decide) (off := 422) (by rw [c_14]; rfl) (t := 454) (by decide) ?_
        exact law_14 hL hX hb C hi hC hR hw J
      by_cases c_15 : y = 15
      · refine g_tblIn C dL_law_32 (by rw [c_15]; decide) (by rw [c_15]; decide) (off := 445) (by rw [c_15]; rfl) (t := 477) (by decide) ?_
        exact law_15 hL hX hb C hi hC hR hw J
      by_cases c_16 : y = 16
      · refine g_tblIn C dL_law_32 (by rw [c_16]; decide) (by rw [c_16]; decide) (off := 478) (by rw [c_16]; rfl) (t := 510) (by decide) ?_
        exact law_16 hL hX hb C hi hC hR hw J
      by_cases c_17 : y = 17
      · refine g_tblIn C dL_law_32 (by rw [c_17]; decide) (by rw [c_17]; decide) (off := 511) (by rw [c_17]; rfl) (t := 543) (by decide) ?_
        exact law_17 hL hX hb C hi hC hR hw J
      by_cases c_18 : y = 18
      · refine g_tblIn C dL_law_32 (by rw [c_18]; decide) (by rw [c_18]; decide) (off := 534) (by rw [c_18]; rfl) (t := 566) (by decide) ?_
        exact law_18 hL hX hb C hi hC hR hw J
      by_cases c_19 : y = 19
      · refine g_tblIn C dL_law_32 (by rw [c_19]; decide) (by rw [c_19]; decide) (off := 567) (by rw [c_19]; rfl) (t := 599) (by decide) ?_
        exact law_19 hL hX hb C hi hC hR hw J
      by_cases c_20 : y = 20
      · refine g_tblIn C dL_law_32 (by rw [c_20]; decide) (by rw [c_20]; decide) (off := 580) (by rw [c_20]; rfl) (t := 612) (by decide) ?_
        exact law_20 hL hX hb C hi hC hR hw J
      by_cases c_21 : y = 21
      · refine g_tblIn C dL_law_32 (by rw [c_21]; decide) (by rw [c_21]; decide) (off := 603) (by rw [c_21]; rfl) (t := 635) (by decide) ?_
        exact law_21 hL hX hb C hi hC hR hw J
      by_cases c_22 : y = 22
      · refine g_tblIn C dL_law_32 (by rw [c_22]; decide) (by rw [c_22]; decide) (off := 626) (by rw [c_22]; rfl) (t := 658) (by decide) ?_
        exact law_22 hL hX hb C hi hC hR hw J
      by_cases c_23 : y = 23
      · refine g_tblIn C dL_law_32 (by rw [c_23]; decide) (by rw [c_23]; decide) (off := 639) (by rw [c_23]; rfl) (t := 671) (by decide) ?_
        exact law_23 hL hX hb C hi hC hR hw J
      by_cases c_24 : y = 24
      · refine g_tblIn C dL_law_32 (by rw [c_24]; decide) (by rw [c_24]; decide) (off := 672) (by rw [c_24]; rfl) (t := 704) (by decide) ?_
        exact law_24 hL hX hb C hi hC hR hw J
      by_cases c_25 : y = 25
      · refine g_tblIn C dL_law_32 (by rw [c_25]; decide) (by rw [c_25]; decide) (off := 695) (by rw [c_25]; rfl) (t := 727) (by decide) ?_
        exact law_25 hL hX hb C hi hC hR hw J
      refine g_tblOut C dL_law_32 (sw_out_0_25 c_0 c_1 c_2 c_3 c_4 c_5 c_6 c_7 c_8 c_9 c_10 c_11 c_12 c_13 c_14 c_15 c_16 c_17 c_18 c_19 c_20 c_21 c_22 c_23 c_24 c_25) (t := 750) (by decide) ?_
      exact J M A hC hR hw
def SHA : Shp := [.inr (.inr (6, [some (some (1)), none, some (some (3)), some (some (8)), some (some (40)), some (some (64)), none, none])), .inr (.inr (4, [some (some (2))])), .inl 200, .inr (.inr (5, [some (some (4)), none, none, none, some (some (6))])), .inr (.inr (4, [some (some (5))])), .inl 120, .inr (.inr (4, [some (some (7))])), .inl 3, .inr (.inr (1, [some (some (9)), none, none])), .inr (.inl [some (10), some (15), some (20), some (25), some (30), some (35)]), .inr (.inr (5, [some (some (11)), none, none, none, some (some (13))])), .inr (.inr (4, [some (some (12))])), .inl 120, .inr (.inr (4, [some (some (14))])), .inl 3, .inr (.inr (5, [some (some (16)), none, none, none, some (some (18))])), .inr (.inr (4, [some (some (17))])), .inl 120, .inr (.inr (4, [some (some (19))])), .inl 3, .inr (.inr (5, [some (some (21)), none, none, none, some (some (23))])), .inr (.inr (4, [some (some (22))])), .inl 120, .inr (.inr (4, [some (some (24))])), .inl 3, .inr (.inr (5, [some (some (26)), none, none, none, some (some (28))])), .inr (.inr (4, [some (some (27))])), .inl 120, .inr (.inr (4, [some (some (29))])), .inl 3, .inr (.inr (5, [some (some (31)), none, none, none, some (some (33))])), .inr (.inr (4, [some (some (32))])), .inl 120, .inr (.inr (4, [some (some (34))])), .inl 3, .inr (.inr (5, [some (some (36)), none, none, none, some (some (38))])), .inr (.inr (4, [some (some (37))])), .inl 120, .inr (.inr (4, [some (some (39))])), .inl 3, .inr (.inr (3, [some (some (41)), some (some (46)), some (some (48)), some (some (50)), some (some (52)), some (some (54)), none, some (some (56)), none, some (some (58)), none, some (some (60)), some (some (62)), none, none])), .inr (.inr (0, [none, none, some (some (42)), some (some (44))])), .inr (.inr (4, [some (some (43))])), .inl 98, .inr (.inr (4, [some (some (45))])), .inl 98, .inr (.inr (4, [some (some (47))])), .inl 120, .inr (.inr (4, [some (some (49))])), .inl 120, .inr (.inr (4, [some (some (51))])), .inl 120, .inr (.inr (4, [some (some (53))])), .inl 120, .inr (.inr (4, [some (some (55))])), .inl 484, .inr (.inr (4, [some (some (57))])), .inl 840, .inr (.inr (4, [some (some (59))])), .inl 363, .inr (.inr (4, [some (some (61))])), .inl 7, .inr (.inr (4, [some (some (63))])), .inl 7, .inr (.inr (2, [some (some (65)), some (some (70)), none, some (some (72)), some (some (74)), some (some (76)), none, some (some (78)), none, none])), .inr (.inr (0, [none, none, some (some (66)), some (some (68))])), .inr (.inr (4, [some (some (67))])), .inl 98, .inr (.inr (4, [some (some (69))])), .inl 98, .inr (.inr (4, [some (some (71))])), .inl 120, .inr (.inr (4, [some (some (73))])), .inl 3, .inr (.inr (4, [some (some (75))])), .inl 5929, .inr (.inr (4, [some (some (77))])), .inl 1200, .inr (.inr (4, [some (some (79))])), .inl 3]
set_option maxHeartbeats 4000000 in
set_option maxRecDepth 100000 in
theorem whole_start {p : Program} {e : Env} {s : State} {m : MethodId} {below : List Frame} {meth : Method} {c : Code} (l : Launch) (hflags : l.flags = flags0) {b L : Nat} {xs : Nat → Int32} (hL : L ≤ 1536) (C0 : lw_At p s m meth c b L xs) : W p l e room_1 s m #[Value.ref b] below meth c s.heap [] 0 0 (lw_Z below #[Value.ref b] s) (entryFrame m ([Value.ref b] : List Value).toArray 4) := by
  obtain ⟨hx, hbb, hr, hml, hown, hts, hX, hbl, hlocks, hgv⟩ := C0
  obtain ⟨D, cI, cO, tP, aK, aV, hI⟩ := inv_start hts hgv
  have hg : ∀ w ∈ gtbl, w.before #[Value.ref b] s = true := fun w hw => hts w (List.mem_filter.mp hw).1
  have C : Cx p s m #[Value.ref b] meth c D cI cO s.heap.size tP aK aV RL meth.name code 4 ret := ⟨hx, hbb, hml, hown, hg, hI, hr, hlocks, rfl, Nat.le_refl _⟩
  have K : G p l e room_1 s m #[Value.ref b] below meth c D cI cO s.heap.size 4 (lw_Z below #[Value.ref b] s) 0 0 [] (fun _ _ => 0) 0 [some (.ref b), none, none, none] [] := by
    refine g_new C (ci := 6) gin_X6 tyX6 tyX6_ok rfl wcl_L_7 wis_X6 wi_X6 (df_X6 _) (fun j => rfl) rfl ⟨(Nat.le_of_ble_eq_true rfl), (Nat.le_of_ble_eq_true rfl)⟩ (sh' := ([] : Shp) ++ [.inr (.inr (6, [some none, none, some none, some none, some none, some none, none, none]))]) rfl (k' := 0) rfl dL_law_0 (n := 3) rfl ?_
    refine g_cnt (cs' := 1) (sl' := 8) rfl rfl ?_
    refine g_dup C rfl dL_law_3 (n := 4) rfl ?_
    refine g_callI (As := []) (k := 0) C (cn_X6 [] 0 _ rfl (fun a ha j => rfl)) wc_X6_init rfl wk_L_9 wn_X6_init wi_X6 wd_X6_init rfl rfl ⟨(Nat.le_of_ble_eq_true rfl), (Nat.le_of_ble_eq_true rfl)⟩ ⟨(Nat.le_of_ble_eq_true rfl), (Nat.le_of_ble_eq_true rfl)⟩ (Nat.le_of_ble_eq_true rfl) rfl dL_law_4 (n := 7) rfl (fun v1 sh1 M1 hp => ?_)
    obtain ⟨p1, p2, p3⟩ := hp
    refine g_nrm (cs' := 80) (sl' := 11007) (sh' := SHA) (st' := [.ref (s.heap.size + 0)]) (M' := smM (fun _ _ => 0) 0) rfl rfl (p2.trans rfl) (by rw [p1]; rfl) p3 ?_
    refine g_astore1 C dL_law_7 (n := 8) rfl ?_
    have hZ : ∀ a, 80 ≤ a → ∀ j, smM (fun _ _ => 0) 0 a j = 0 := fun a ha j => by rw [smM_ne (by omega)]
    have hl80 : SHA.length = 80 := rfl
    refine g_new C (ci := 7) gin_X7 tyX7 tyX7_ok rfl wcl_L_10 wis_X7 wi_X7 (df_X7 _) (fun j => hZ _ (Nat.le_refl _) j) (by rw [hl80]) ⟨(Nat.le_of_ble_eq_true rfl), (Nat.le_of_ble_eq_true rfl)⟩ (sh' := SHA ++ [.inr (.inr (7, [none, some none, some none, some none, none, some none, some none, some none, none, some none, some none, none, some none, some none, none, some none, some none]))]) rfl (k' := 80) rfl dL_law_8 (n := 11) rfl ?_
    refine g_cnt (cs' := 81) (sl' := 11024) rfl rfl ?_
    refine g_dup C rfl dL_law_11 (n := 12) rfl ?_
    refine g_callI (As := []) (k := 80) C (cn_X7 SHA 80 _ rfl hZ) wc_X7_init rfl wk_L_12 wn_X7_init wi_X7 wd_X7_init rfl (by rw [List.length_append, hl80]; rfl) ⟨(Nat.le_of_ble_eq_true rfl), (Nat.le_of_ble_eq_true rfl)⟩ ⟨(Nat.le_of_ble_eq_true rfl), (Nat.le_of_ble_eq_true rfl)⟩ (Nat.le_of_ble_eq_true rfl) rfl dL_law_12 (n := 15) rfl (fun v1 sh1 M1 hp => ?_)
    obtain ⟨p1, p2, p3⟩ := hp
    refine g_nrm (cs' := 93) (sl' := 20302) (sh' := SH) (st' := [.ref (s.heap.size + 80)]) (M' := M0) rfl rfl (p2.trans rfl) (by rw [p1]; rfl) p3 ?_
    refine g_astore2 C dL_law_15 (n := 16) rfl ?_
    refine g_iconst C (v := nI 0) (by decide) dL_law_16 (n := 17) rfl ?_
    refine g_istore3 C dL_law_17 (n := 18) rfl ?_
    exact law_loop hL hX hbl C (L + 4) 0 M0 A0 (by omega) (Nat.zero_le _) absC_0 absR_0 wf_A0
  rw [lg_entry_eq]
  exact K s.heap [] _ (fun k q h => absurd h (by rw [List.getElem?_eq_none (by rw [wl_len]; exact Nat.zero_le _)]; exact fun h => nomatch h)) va_S.rf (lvE_ok (as := [.ref b]) (nL := 4) (cat_ok rfl) (Nat.le_of_ble_eq_true rfl))
