/-! ===== the law's body ===== -/
def R_law : String := "TrenchMergeLaw"
def lw_P (b : Addr) (xs : List Int32) (args : Array Value) (s : State) : Prop := args = #[.ref b] ∧ s.IntsAt b xs ∧ xs.length ≤ 2560 ∧ (Jvm.Cond.and given_1 narrow_1).before args s = true
def lw_Q (_ : Array Value) (s : State) (o : Outcome) (t : State) : Prop := o = .returned (some (.int 1)) ∧ Framed s o t [] 601024 7293034
def lw_Z (below : List Frame) (a : Array Value) (s : State) : State → Prop := fun t => ∃ o, t.status = .running ∧ Ended t below o ∧ lw_Q a s o t
/-- the law's own end, with 1 on the stack, nothing written that was there before, its room as the claim has it -/
theorem lw_ret {p : Program} {l : Launch} {e : Env} {s : State} {m : MethodId} {below : List Frame} {meth : Method} {c : Code} {b : Nat} (hx : p.tables.exec = Jvm.exec) (hb : c.code = code) (hr : meth.sig.returnType = ret) (hlocks : meth.locks = false) {pc : Nat} {H : Heap} {ls : Array Slot} (hdg : decode code pc = .ok (.ireturn, 1)) : W p l e room_1 s m #[Value.ref b] below meth c H [] 601024 7293034 (lw_Z below #[Value.ref b] s) (F0 m pc ls [.int 1]) := by
  intro T hT X
  obtain ⟨fs, hret, hrun, hended, hW, hframe⟩ := X.leave (v := some (.int 1)) (hlocks := hlocks) (fun h => by rw [hr] at h; cases h)
  have hmeth' : T.vm.method? m = some meth := X.method'
  refine ⟨T.setFrames fs, ?_, .returned (some (.int 1)), hrun, hended, rfl, ⟨_, rfl⟩, hW, hframe⟩
  jvm_step X.here [X.here.top, hx, hb, hdg, hmeth', hr, ret, narrow_b1]
  (try refine ⟨rfl, ?_⟩); (try refine ⟨rfl, ?_⟩)
  first | (intro acts; rw [hret _ acts rfl rfl rfl]) | rw [hret _ _ rfl rfl rfl]
  exact Steps.refl _
/-- what holds at the law's entry: the machine, the code, the tables' words (any of lw_tbl by 'hts w (by decide +kernel)'), the script of L ints xs at the cell b, what the Statement gives of the start (any of its parts by flat_of_before) -/
def lw_At (p : Program) (s : State) (m : MethodId) (meth : Method) (c : Code) (b L : Nat) (xs : Nat → Int32) : Prop :=
  p.tables.exec = Jvm.exec ∧ c.code = code ∧ meth.sig.returnType = ret ∧ c.maxLocals = 7 ∧ s.vm.findClass R_law = some m.cls ∧ (∀ w ∈ lw_tbl, w.before #[Value.ref b] s = true) ∧ va_X b L xs s s.heap ∧ b < s.heap.size ∧ meth.locks = false ∧ (Jvm.Cond.and given_1 narrow_1).before #[Value.ref b] s = true
theorem and15 (x : Int32) : ∃ k, k < 16 ∧ x &&& 15 = nI k := by
  refine ⟨(x &&& 15).toBitVec.toNat, ?_, ?_⟩
  · rw [Int32.toBitVec_and]
    show (x.toBitVec &&& 15#32).toNat < 16
    rw [BitVec.toNat_and]
    exact Nat.lt_of_le_of_lt Nat.and_le_right (by decide)
  · rw [← Int32.toBitVec_inj]
    show _ = BitVec.ofNat 32 _
    rw [BitVec.ofNat_toNat, BitVec.setWidth_eq]
theorem sub5 {i L : Nat} (hL : L ≤ 2560) (hi : i ≤ L) : nI L - 5 < nI i ↔ L < i + 5 := by
  rcases Nat.lt_or_ge L 5 with h | h
  · have h2 : nI L - 5 < 0 := by
      rcases (by omega : L = 0 ∨ L = 1 ∨ L = 2 ∨ L = 3 ∨ L = 4) with rfl | rfl | rfl | rfl | rfl <;> decide
    have h3 : (nI L - 5).toInt < 0 := by rw [Int32.lt_iff_toInt_lt] at h2; exact h2
    rw [Int32.lt_iff_toInt_lt, nI_toInt (by omega)]
    omega
  · obtain ⟨k, rfl⟩ : ∃ k, L = k + 5 := ⟨L - 5, by omega⟩
    rw [← nI_add k 5, show (nI 5 : Int32) = 5 from rfl, Int32.add_sub_cancel, nI_ltI (by omega) (by omega)]
    omega
theorem cmp_eq (x : Int64) : lg_cmp x x = 0 := by unfold lg_cmp; simp
theorem g_lawret {p : Program} {l : Launch} {e : Env} {s : State} {m : MethodId} {below : List Frame} {meth : Method} {c : Code} {b : Nat} {G : hD} {w : hW} {cells slots pc : Nat} {lv : List (Nat × Value)} (C : h_C p l s m #[Value.ref b] meth c G (fun q : Nat => s.heap.size ≤ q) code 7 RL) (hr : meth.sig.returnType = ret) (hd : decode code pc = .ok (.ireturn, 1)) (hc : cells ≤ 601024) (hs : slots ≤ 7293034) : h_G p l e room_1 s m #[Value.ref b] below meth c G (fun q : Nat => s.heap.size ≤ q) 7 (lw_Z below #[Value.ref b] s) w cells slots pc lv [.int 1] :=
  fun H locs ls hP hA hS hl h1 => va_forget (fun q hq => hS.2.2 q hq) (W.widen hc hs (lw_ret C.1 C.2.1 hr C.2.2.2.2.2.2.2.1 hd))

theorem cc_compact (l : Launch) (G : hD) {x mo ou : Nat} {w : hW} (hI : LWI G x mo ou w) : ∃ pst : Option Value → hW → Prop, h_Met l yX2_compact (Cond.code yX2_compact cX2_compact 3 (some .int)) { frames := 2, cells := 0, slots := 0, locals := 41 } G [.ref x] w pst noX ∧ ∀ r w1, pst r w1 → ∃ k : Int32, r = some (.int k) ∧ (∃ fs, w1 mo = some (eO 3 fs)) ∧ ∃ pM : Option Value → hW → Prop, h_Met l yX3_compact (Cond.code yX3_compact cX3_compact 4 (some .int)) { frames := 3, cells := 0, slots := 0, locals := 80 } G [.ref mo] w1 pM noX ∧ ∀ b w2, pM b w2 → b = some (.int k) ∧ LWI G x mo ou w2 := by
  obtain ⟨tl, rw, ng, cx, un, ad, n, ti, ch, rl, gv, f, M, I, B, thr, ord, mny, ov, hT, hR, hC, hA, ho⟩ := hI
  refine ⟨_, c_X2_compact l G w x tl rw ng cx un ad n ti ch rl gv f hT (fun i hi => (hC.1.1 i).mpr hi) hC.1.nd, ?_⟩
  rintro r w1 ⟨rfl, hT', hf⟩
  have hR1 : MR G mo M n I B thr ord mny w1 := hR.mv (fun q e hq hw => fr_use hf (fun hcd => (hA.1 q hcd).1 hq) hw)
  have ho1 : w1 ou = some (eJ G 1 ov) := fr_use hf (fun hq => (hA.1 ou hq).2 rfl) ho
  refine ⟨_, rfl, ⟨_, hR1.1⟩, _, c_X3_compact l G w1 mo M n I B thr ord mny hR1, ?_⟩
  rintro b w2 ⟨rfl, B', hR2, hf2, hB⟩
  exact ⟨by rw [hC.cpcount], tl, rw, ng, cx, un, ad, n, _, ch, rl, gv, f, M, I, B', _, _, _, ov, hT'.mv (fun q e hq hw => fr_use hf2 (hA.1 q hq).1 hw), hR2, hC.compact hB, hA, fr_use hf2 hA.2 ho1⟩
set_option maxHeartbeats 4000000 in
set_option maxRecDepth 100000 in
theorem law_tell {p : Program} {l : Launch} {e : Env} {s : State} {m : MethodId} {below : List Frame} {meth : Method} {c : Code} {b L : Nat} {xs : Nat → Int32} {G : hD} (C : h_C p l s m #[Value.ref b] meth c G (fun q : Nat => s.heap.size ≤ q) code 7 RL) (hX : va_X b L xs s s.heap) (hbl : b < s.heap.size) (hbA : ¬ s.heap.size ≤ b) (hL : L ≤ 2560) {x mo ou i cells slots : Nat} (hi5 : i + 5 ≤ L) (hc : cells + 6 ≤ 601024) (hs : slots + 41 ≤ 7293034) {w : hW} (hI : LWI G x mo ou w) (kk : ∀ w', LWI G x mo ou w' → h_G p l e room_1 s m #[Value.ref b] below meth c G (fun q : Nat => s.heap.size ≤ q) 7 (lw_Z below #[Value.ref b] s) w' (cells + 6) (slots + 41) 1259 [(0, .ref b), (1, .ref x), (2, .ref mo), (3, .ref ou), (4, .int (nI i))] []) : h_G p l e room_1 s m #[Value.ref b] below meth c G (fun q : Nat => s.heap.size ≤ q) 7 (lw_Z below #[Value.ref b] s) w cells slots 116 [(0, .ref b), (1, .ref x), (2, .ref mo), (3, .ref ou), (4, .int (nI i))] [] := by
  obtain ⟨pst, hH, hK⟩ := cc_tell l G hI (xs (i + 1)) (xs (i + 2)) (xs (i + 3)) (xs (i + 4))
  first | refine g_aload_n C dL_law_116 rfl rfl ?_ | refine g_aload_nN C dL_law_116 rfl rfl ?_ | refine g_aload_nq C dL_law_116 rfl rfl ?_
  first | refine g_aload_n C dL_law_117 rfl rfl ?_ | refine g_aload_nN C dL_law_117 rfl rfl ?_ | refine g_aload_nq C dL_law_117 rfl rfl ?_
  refine g_iload C dL_law_118 rfl ?_
  refine g_iconst C (v := 1) dL_law_120 (by decide) ?_
  refine g_iadd C dL_law_121 ?_
  refine g_sld C hX hbl hbA dL_law_122 (nI_add i 1) (by omega) (by omega) ?_
  first | refine g_aload_n C dL_law_123 rfl rfl ?_ | refine g_aload_nN C dL_law_123 rfl rfl ?_ | refine g_aload_nq C dL_law_123 rfl rfl ?_
  refine g_iload C dL_law_124 rfl ?_
  refine g_iconst C (v := 2) dL_law_126 (by decide) ?_
  refine g_iadd C dL_law_127 ?_
  refine g_sld C hX hbl hbA dL_law_128 (nI_add i 2) (by omega) (by omega) ?_
  first | refine g_aload_n C dL_law_129 rfl rfl ?_ | refine g_aload_nN C dL_law_129 rfl rfl ?_ | refine g_aload_nq C dL_law_129 rfl rfl ?_
  refine g_iload C dL_law_130 rfl ?_
  refine g_iconst C (v := 3) dL_law_132 (by decide) ?_
  refine g_iadd C dL_law_133 ?_
  refine g_sld C hX hbl hbA dL_law_134 (nI_add i 3) (by omega) (by omega) ?_
  first | refine g_aload_n C dL_law_135 rfl rfl ?_ | refine g_aload_nN C dL_law_135 rfl rfl ?_ | refine g_aload_nq C dL_law_135 rfl rfl ?_
  refine g_iload C dL_law_136 rfl ?_
  refine g_iconst C (v := 4) dL_law_138 (by decide) ?_
  refine g_iadd C dL_law_139 ?_
  refine g_sld C hX hbl hbA dL_law_140 (nI_add i 4) (by omega) (by omega) ?_
  first | refine g_aload_n C dL_law_141 rfl rfl ?_ | refine g_aload_nN C dL_law_141 rfl rfl ?_ | refine g_aload_nq C dL_law_141 rfl rfl ?_
  refine g_callSW C [] dL_law_142 hH kmL_69 ks_L_tell kn_L kc_L_tell hy_L_tell ⟨by decide, by decide⟩ rfl (Nat.le_of_ble_eq_true rfl) ⟨by show cells + 5 ≤ 601024; omega, by show slots + 35 ≤ 7293034; omega⟩ (fun v w1 hp => ?_)
  obtain ⟨k9, rfl, ⟨fsM, hm1⟩, pM, hM, hN⟩ := hK _ _ hp
  refine g_istore C dL_law_145 (by decide) ?_
  first | refine g_aload_n C dL_law_147 rfl rfl ?_ | refine g_aload_nN C dL_law_147 rfl rfl ?_ | refine g_aload_nq C dL_law_147 rfl rfl ?_
  first | refine g_aload_n C dL_law_148 rfl rfl ?_ | refine g_aload_nN C dL_law_148 rfl rfl ?_ | refine g_aload_nq C dL_law_148 rfl rfl ?_
  refine g_iload C dL_law_149 rfl ?_
  refine g_iconst C (v := 1) dL_law_151 (by decide) ?_
  refine g_iadd C dL_law_152 ?_
  refine g_sld C hX hbl hbA dL_law_153 (nI_add i 1) (by omega) (by omega) ?_
  first | refine g_aload_n C dL_law_154 rfl rfl ?_ | refine g_aload_nN C dL_law_154 rfl rfl ?_ | refine g_aload_nq C dL_law_154 rfl rfl ?_
  refine g_iload C dL_law_155 rfl ?_
  refine g_iconst C (v := 2) dL_law_157 (by decide) ?_
  refine g_iadd C dL_law_158 ?_
  refine g_sld C hX hbl hbA dL_law_159 (nI_add i 2) (by omega) (by omega) ?_
  first | refine g_aload_n C dL_law_160 rfl rfl ?_ | refine g_aload_nN C dL_law_160 rfl rfl ?_ | refine g_aload_nq C dL_law_160 rfl rfl ?_
  refine g_iload C dL_law_161 rfl ?_
  refine g_iconst C (v := 3) dL_law_163 (by decide) ?_
  refine g_iadd C dL_law_164 ?_
  refine g_sld C hX hbl hbA dL_law_165 (nI_add i 3) (by omega) (by omega) ?_
  first | refine g_aload_n C dL_law_166 rfl rfl ?_ | refine g_aload_nN C dL_law_166 rfl rfl ?_ | refine g_aload_nq C dL_law_166 rfl rfl ?_
  refine g_iload C dL_law_167 rfl ?_
  refine g_iconst C (v := 4) dL_law_169 (by decide) ?_
  refine g_iadd C dL_law_170 ?_
  refine g_sld C hX hbl hbA dL_law_171 (nI_add i 4) (by omega) (by omega) ?_
  refine g_callVn C [] dL_law_172 (hM) kmL_74 ki_X3_tell kv_X3_tell kn_X3 kc_X3_tell hy_X3_tell ⟨by decide, by decide⟩ hm1 rfl rfl (Nat.le_of_ble_eq_true rfl) ⟨by show cells + 5 + 0 ≤ 601024; omega, by show slots + 35 + 0 ≤ 7293034; omega⟩ (fun v w1 hp => ?_)
  obtain ⟨z9, rfl, hZ9, ⟨M2, n2, I2, B2, ord2, mny2, hR2⟩, hI2, ov2, ho2, hz⟩ := hN _ _ hp
  refine g_istore C dL_law_175 (by decide) ?_
  first | refine g_aload_n C dL_law_177 rfl rfl ?_ | refine g_aload_nN C dL_law_177 rfl rfl ?_ | refine g_aload_nq C dL_law_177 rfl rfl ?_
  refine g_callVn C [] dL_law_178 (c_X3_thrown l G _ _ _ _ _ _ _ _ _ hR2) kmL_75 ki_X3_thrown kv_X3_thrown kn_X3 kc_X3_thrown hy_X3_thrown ⟨by decide, by decide⟩ hR2.1 rfl rfl (Nat.le_of_ble_eq_true rfl) ⟨by show cells + 5 + 0 + 0 ≤ 601024; omega, by show slots + 35 + 0 + 0 ≤ 7293034; omega⟩ (fun v w1 hp => ?_)
  obtain ⟨rfl, hw1⟩ := hp
  have hw1 := hw1.symm
  subst hw1
  refine g_iload C dL_law_181 rfl ?_
  refine g_icmp_eq C 188 dL_law_183 (by decide) (fun _ => ?_) (fun c183 => absurd (rfl) c183)
  refine g_iload C dL_law_188 rfl ?_
  refine g_if_ne C 205 dL_law_190 (by decide) (fun c190 => ?_) (fun c190 => ?_)
  · refine g_goto C 1259 dL_law_205 (by decide) ?_
    refine g_drop [(0, .ref b), (1, .ref x), (2, .ref mo), (3, .ref ou), (4, .int (nI i))] _ rfl ?_
    refine g_widen (k := cells + 6) (n := slots + 41) (by show cells + 5 + 0 + 0 ≤ cells + 6; omega) (by show slots + 35 + 0 + 0 ≤ slots + 41; omega) (kk _ hI2)
  · have hz9 := hz c190
    first | refine g_aload_n C dL_law_193 rfl rfl ?_ | refine g_aload_nN C dL_law_193 rfl rfl ?_ | refine g_aload_nq C dL_law_193 rfl rfl ?_
    refine g_iconst C (v := 0) dL_law_194 (by decide) ?_
    refine g_laldN (k0 := 0) C dL_law_195 ho2 (by decide) (by decide) ?_
    refine g_iload C dL_law_196 rfl ?_
    refine g_i2l C dL_law_198 rfl ?_
    refine g_lcmp C dL_law_199 ?_
    refine g_if_eq C 205 dL_law_200 (by decide) (fun _ => ?_) (fun c200 => absurd (by rw [hz9]; exact cmp_eq _) c200)
    refine g_goto C 1259 dL_law_205 (by decide) ?_
    refine g_drop [(0, .ref b), (1, .ref x), (2, .ref mo), (3, .ref ou), (4, .int (nI i))] _ rfl ?_
    refine g_widen (k := cells + 6) (n := slots + 41) (by show cells + 5 + 0 + 0 ≤ cells + 6; omega) (by show slots + 35 + 0 + 0 ≤ slots + 41; omega) (kk _ hI2)
set_option maxHeartbeats 4000000 in
set_option maxRecDepth 100000 in
theorem law_insert {p : Program} {l : Launch} {e : Env} {s : State} {m : MethodId} {below : List Frame} {meth : Method} {c : Code} {b L : Nat} {xs : Nat → Int32} {G : hD} (C : h_C p l s m #[Value.ref b] meth c G (fun q : Nat => s.heap.size ≤ q) code 7 RL) (hX : va_X b L xs s s.heap) (hbl : b < s.heap.size) (hbA : ¬ s.heap.size ≤ b) (hL : L ≤ 2560) {x mo ou i cells slots : Nat} (hi5 : i + 5 ≤ L) (hc : cells + 6 ≤ 601024) (hs : slots + 41 ≤ 7293034) {w : hW} (hI : LWI G x mo ou w) (kk : ∀ w', LWI G x mo ou w' → h_G p l e room_1 s m #[Value.ref b] below meth c G (fun q : Nat => s.heap.size ≤ q) 7 (lw_Z below #[Value.ref b] s) w' (cells + 6) (slots + 41) 1259 [(0, .ref b), (1, .ref x), (2, .ref mo), (3, .ref ou), (4, .int (nI i))] []) : h_G p l e room_1 s m #[Value.ref b] below meth c G (fun q : Nat => s.heap.size ≤ q) 7 (lw_Z below #[Value.ref b] s) w cells slots 208 [(0, .ref b), (1, .ref x), (2, .ref mo), (3, .ref ou), (4, .int (nI i))] [] := by
  obtain ⟨pst, hH, hK⟩ := cc_insert l G hI (xs (i + 1)) (xs (i + 2)) (xs (i + 3)) (xs (i + 4))
  first | refine g_aload_n C dL_law_208 rfl rfl ?_ | refine g_aload_nN C dL_law_208 rfl rfl ?_ | refine g_aload_nq C dL_law_208 rfl rfl ?_
  first | refine g_aload_n C dL_law_209 rfl rfl ?_ | refine g_aload_nN C dL_law_209 rfl rfl ?_ | refine g_aload_nq C dL_law_209 rfl rfl ?_
  refine g_iload C dL_law_210 rfl ?_
  refine g_iconst C (v := 1) dL_law_212 (by decide) ?_
  refine g_iadd C dL_law_213 ?_
  refine g_sld C hX hbl hbA dL_law_214 (nI_add i 1) (by omega) (by omega) ?_
  first | refine g_aload_n C dL_law_215 rfl rfl ?_ | refine g_aload_nN C dL_law_215 rfl rfl ?_ | refine g_aload_nq C dL_law_215 rfl rfl ?_
  refine g_iload C dL_law_216 rfl ?_
  refine g_iconst C (v := 2) dL_law_218 (by decide) ?_
  refine g_iadd C dL_law_219 ?_
  refine g_sld C hX hbl hbA dL_law_220 (nI_add i 2) (by omega) (by omega) ?_
  first | refine g_aload_n C dL_law_221 rfl rfl ?_ | refine g_aload_nN C dL_law_221 rfl rfl ?_ | refine g_aload_nq C dL_law_221 rfl rfl ?_
  refine g_iload C dL_law_222 rfl ?_
  refine g_iconst C (v := 3) dL_law_224 (by decide) ?_
  refine g_iadd C dL_law_225 ?_
  refine g_sld C hX hbl hbA dL_law_226 (nI_add i 3) (by omega) (by omega) ?_
  first | refine g_aload_n C dL_law_227 rfl rfl ?_ | refine g_aload_nN C dL_law_227 rfl rfl ?_ | refine g_aload_nq C dL_law_227 rfl rfl ?_
  refine g_iload C dL_law_228 rfl ?_
  refine g_iconst C (v := 4) dL_law_230 (by decide) ?_
  refine g_iadd C dL_law_231 ?_
  refine g_sld C hX hbl hbA dL_law_232 (nI_add i 4) (by omega) (by omega) ?_
  first | refine g_aload_n C dL_law_233 rfl rfl ?_ | refine g_aload_nN C dL_law_233 rfl rfl ?_ | refine g_aload_nq C dL_law_233 rfl rfl ?_
  refine g_callSW C [] dL_law_234 hH kmL_79 ks_L_insert kn_L kc_L_insert hy_L_insert ⟨by decide, by decide⟩ rfl (Nat.le_of_ble_eq_true rfl) ⟨by show cells + 6 ≤ 601024; omega, by show slots + 41 ≤ 7293034; omega⟩ (fun v w1 hp => ?_)
  obtain ⟨k9, rfl, ⟨fsM, hm1⟩, pM, hM, hN⟩ := hK _ _ hp
  refine g_istore C dL_law_237 (by decide) ?_
  first | refine g_aload_n C dL_law_239 rfl rfl ?_ | refine g_aload_nN C dL_law_239 rfl rfl ?_ | refine g_aload_nq C dL_law_239 rfl rfl ?_
  first | refine g_aload_n C dL_law_240 rfl rfl ?_ | refine g_aload_nN C dL_law_240 rfl rfl ?_ | refine g_aload_nq C dL_law_240 rfl rfl ?_
  refine g_iload C dL_law_241 rfl ?_
  refine g_iconst C (v := 1) dL_law_243 (by decide) ?_
  refine g_iadd C dL_law_244 ?_
  refine g_sld C hX hbl hbA dL_law_245 (nI_add i 1) (by omega) (by omega) ?_
  first | refine g_aload_n C dL_law_246 rfl rfl ?_ | refine g_aload_nN C dL_law_246 rfl rfl ?_ | refine g_aload_nq C dL_law_246 rfl rfl ?_
  refine g_iload C dL_law_247 rfl ?_
  refine g_iconst C (v := 2) dL_law_249 (by decide) ?_
  refine g_iadd C dL_law_250 ?_
  refine g_sld C hX hbl hbA dL_law_251 (nI_add i 2) (by omega) (by omega) ?_
  first | refine g_aload_n C dL_law_252 rfl rfl ?_ | refine g_aload_nN C dL_law_252 rfl rfl ?_ | refine g_aload_nq C dL_law_252 rfl rfl ?_
  refine g_iload C dL_law_253 rfl ?_
  refine g_iconst C (v := 3) dL_law_255 (by decide) ?_
  refine g_iadd C dL_law_256 ?_
  refine g_sld C hX hbl hbA dL_law_257 (nI_add i 3) (by omega) (by omega) ?_
  first | refine g_aload_n C dL_law_258 rfl rfl ?_ | refine g_aload_nN C dL_law_258 rfl rfl ?_ | refine g_aload_nq C dL_law_258 rfl rfl ?_
  refine g_iload C dL_law_259 rfl ?_
  refine g_iconst C (v := 4) dL_law_261 (by decide) ?_
  refine g_iadd C dL_law_262 ?_
  refine g_sld C hX hbl hbA dL_law_263 (nI_add i 4) (by omega) (by omega) ?_
  refine g_callVn C [] dL_law_264 (hM) kmL_81 ki_X3_insert kv_X3_insert kn_X3 kc_X3_insert hy_X3_insert ⟨by decide, by decide⟩ hm1 rfl rfl (Nat.le_of_ble_eq_true rfl) ⟨by show cells + 6 + 0 ≤ 601024; omega, by show slots + 41 + 0 ≤ 7293034; omega⟩ (fun v w1 hp => ?_)
  obtain ⟨z9, rfl, hZ9, ⟨M2, n2, I2, B2, ord2, mny2, hR2⟩, hI2, ov2, ho2, hz⟩ := hN _ _ hp
  refine g_istore C dL_law_267 (by decide) ?_
  first | refine g_aload_n C dL_law_269 rfl rfl ?_ | refine g_aload_nN C dL_law_269 rfl rfl ?_ | refine g_aload_nq C dL_law_269 rfl rfl ?_
  refine g_callVn C [] dL_law_270 (c_X3_thrown l G _ _ _ _ _ _ _ _ _ hR2) kmL_75 ki_X3_thrown kv_X3_thrown kn_X3 kc_X3_thrown hy_X3_thrown ⟨by decide, by decide⟩ hR2.1 rfl rfl (Nat.le_of_ble_eq_true rfl) ⟨by show cells + 6 + 0 + 0 ≤ 601024; omega, by show slots + 41 + 0 + 0 ≤ 7293034; omega⟩ (fun v w1 hp => ?_)
  obtain ⟨rfl, hw1⟩ := hp
  have hw1 := hw1.symm
  subst hw1
  refine g_iload C dL_law_273 rfl ?_
  refine g_icmp_eq C 280 dL_law_275 (by decide) (fun _ => ?_) (fun c275 => absurd (rfl) c275)
  refine g_iload C dL_law_280 rfl ?_
  refine g_if_ne C 297 dL_law_282 (by decide) (fun c282 => ?_) (fun c282 => ?_)
  · refine g_goto C 1259 dL_law_297 (by decide) ?_
    refine g_drop [(0, .ref b), (1, .ref x), (2, .ref mo), (3, .ref ou), (4, .int (nI i))] _ rfl ?_
    refine g_widen (k := cells + 6) (n := slots + 41) (by show cells + 6 + 0 + 0 ≤ cells + 6; omega) (by show slots + 41 + 0 + 0 ≤ slots + 41; omega) (kk _ hI2)
  · have hz9 := hz c282
    first | refine g_aload_n C dL_law_285 rfl rfl ?_ | refine g_aload_nN C dL_law_285 rfl rfl ?_ | refine g_aload_nq C dL_law_285 rfl rfl ?_
    refine g_iconst C (v := 0) dL_law_286 (by decide) ?_
    refine g_laldN (k0 := 0) C dL_law_287 ho2 (by decide) (by decide) ?_
    refine g_iload C dL_law_288 rfl ?_
    refine g_i2l C dL_law_290 rfl ?_
    refine g_lcmp C dL_law_291 ?_
    refine g_if_eq C 297 dL_law_292 (by decide) (fun _ => ?_) (fun c292 => absurd (by rw [hz9]; exact cmp_eq _) c292)
    refine g_goto C 1259 dL_law_297 (by decide) ?_
    refine g_drop [(0, .ref b), (1, .ref x), (2, .ref mo), (3, .ref ou), (4, .int (nI i))] _ rfl ?_
    refine g_widen (k := cells + 6) (n := slots + 41) (by show cells + 6 + 0 + 0 ≤ cells + 6; omega) (by show slots + 41 + 0 + 0 ≤ slots + 41; omega) (kk _ hI2)
set_option maxHeartbeats 4000000 in
set_option maxRecDepth 100000 in
theorem law_remove {p : Program} {l : Launch} {e : Env} {s : State} {m : MethodId} {below : List Frame} {meth : Method} {c : Code} {b L : Nat} {xs : Nat → Int32} {G : hD} (C : h_C p l s m #[Value.ref b] meth c G (fun q : Nat => s.heap.size ≤ q) code 7 RL) (hX : va_X b L xs s s.heap) (hbl : b < s.heap.size) (hbA : ¬ s.heap.size ≤ b) (hL : L ≤ 2560) {x mo ou i cells slots : Nat} (hi5 : i + 5 ≤ L) (hc : cells + 6 ≤ 601024) (hs : slots + 41 ≤ 7293034) {w : hW} (hI : LWI G x mo ou w) (kk : ∀ w', LWI G x mo ou w' → h_G p l e room_1 s m #[Value.ref b] below meth c G (fun q : Nat => s.heap.size ≤ q) 7 (lw_Z below #[Value.ref b] s) w' (cells + 6) (slots + 41) 1259 [(0, .ref b), (1, .ref x), (2, .ref mo), (3, .ref ou), (4, .int (nI i))] []) : h_G p l e room_1 s m #[Value.ref b] below meth c G (fun q : Nat => s.heap.size ≤ q) 7 (lw_Z below #[Value.ref b] s) w cells slots 300 [(0, .ref b), (1, .ref x), (2, .ref mo), (3, .ref ou), (4, .int (nI i))] [] := by
  obtain ⟨pst, hH, hK⟩ := cc_remove l G hI (xs (i + 1)) (xs (i + 2))
  first | refine g_aload_n C dL_law_300 rfl rfl ?_ | refine g_aload_nN C dL_law_300 rfl rfl ?_ | refine g_aload_nq C dL_law_300 rfl rfl ?_
  first | refine g_aload_n C dL_law_301 rfl rfl ?_ | refine g_aload_nN C dL_law_301 rfl rfl ?_ | refine g_aload_nq C dL_law_301 rfl rfl ?_
  refine g_iload C dL_law_302 rfl ?_
  refine g_iconst C (v := 1) dL_law_304 (by decide) ?_
  refine g_iadd C dL_law_305 ?_
  refine g_sld C hX hbl hbA dL_law_306 (nI_add i 1) (by omega) (by omega) ?_
  first | refine g_aload_n C dL_law_307 rfl rfl ?_ | refine g_aload_nN C dL_law_307 rfl rfl ?_ | refine g_aload_nq C dL_law_307 rfl rfl ?_
  refine g_iload C dL_law_308 rfl ?_
  refine g_iconst C (v := 2) dL_law_310 (by decide) ?_
  refine g_iadd C dL_law_311 ?_
  refine g_sld C hX hbl hbA dL_law_312 (nI_add i 2) (by omega) (by omega) ?_
  first | refine g_aload_n C dL_law_313 rfl rfl ?_ | refine g_aload_nN C dL_law_313 rfl rfl ?_ | refine g_aload_nq C dL_law_313 rfl rfl ?_
  refine g_callSW C [] dL_law_314 hH kmL_82 ks_L_remove kn_L kc_L_remove hy_L_remove ⟨by decide, by decide⟩ rfl (Nat.le_of_ble_eq_true rfl) ⟨by show cells + 4 ≤ 601024; omega, by show slots + 35 ≤ 7293034; omega⟩ (fun v w1 hp => ?_)
  obtain ⟨k9, rfl, ⟨fsM, hm1⟩, pM, hM, hN⟩ := hK _ _ hp
  refine g_istore C dL_law_317 (by decide) ?_
  first | refine g_aload_n C dL_law_319 rfl rfl ?_ | refine g_aload_nN C dL_law_319 rfl rfl ?_ | refine g_aload_nq C dL_law_319 rfl rfl ?_
  first | refine g_aload_n C dL_law_320 rfl rfl ?_ | refine g_aload_nN C dL_law_320 rfl rfl ?_ | refine g_aload_nq C dL_law_320 rfl rfl ?_
  refine g_iload C dL_law_321 rfl ?_
  refine g_iconst C (v := 1) dL_law_323 (by decide) ?_
  refine g_iadd C dL_law_324 ?_
  refine g_sld C hX hbl hbA dL_law_325 (nI_add i 1) (by omega) (by omega) ?_
  first | refine g_aload_n C dL_law_326 rfl rfl ?_ | refine g_aload_nN C dL_law_326 rfl rfl ?_ | refine g_aload_nq C dL_law_326 rfl rfl ?_
  refine g_iload C dL_law_327 rfl ?_
  refine g_iconst C (v := 2) dL_law_329 (by decide) ?_
  refine g_iadd C dL_law_330 ?_
  refine g_sld C hX hbl hbA dL_law_331 (nI_add i 2) (by omega) (by omega) ?_
  refine g_callVn C [] dL_law_332 (hM) kmL_85 ki_X3_remove kv_X3_remove kn_X3 kc_X3_remove hy_X3_remove ⟨by decide, by decide⟩ hm1 rfl rfl (Nat.le_of_ble_eq_true rfl) ⟨by show cells + 4 + 0 ≤ 601024; omega, by show slots + 35 + 0 ≤ 7293034; omega⟩ (fun v w1 hp => ?_)
  obtain ⟨z9, rfl, hZ9, ⟨M2, n2, I2, B2, ord2, mny2, hR2⟩, hI2, ov2, ho2, hz⟩ := hN _ _ hp
  refine g_istore C dL_law_335 (by decide) ?_
  first | refine g_aload_n C dL_law_337 rfl rfl ?_ | refine g_aload_nN C dL_law_337 rfl rfl ?_ | refine g_aload_nq C dL_law_337 rfl rfl ?_
  refine g_callVn C [] dL_law_338 (c_X3_thrown l G _ _ _ _ _ _ _ _ _ hR2) kmL_75 ki_X3_thrown kv_X3_thrown kn_X3 kc_X3_thrown hy_X3_thrown ⟨by decide, by decide⟩ hR2.1 rfl rfl (Nat.le_of_ble_eq_true rfl) ⟨by show cells + 4 + 0 + 0 ≤ 601024; omega, by show slots + 35 + 0 + 0 ≤ 7293034; omega⟩ (fun v w1 hp => ?_)
  obtain ⟨rfl, hw1⟩ := hp
  have hw1 := hw1.symm
  subst hw1
  refine g_iload C dL_law_341 rfl ?_
  refine g_icmp_eq C 348 dL_law_343 (by decide) (fun _ => ?_) (fun c343 => absurd (rfl) c343)
  refine g_iload C dL_law_348 rfl ?_
  refine g_if_ne C 365 dL_law_350 (by decide) (fun c350 => ?_) (fun c350 => ?_)
  · refine g_goto C 1259 dL_law_365 (by decide) ?_
    refine g_drop [(0, .ref b), (1, .ref x), (2, .ref mo), (3, .ref ou), (4, .int (nI i))] _ rfl ?_
    refine g_widen (k := cells + 6) (n := slots + 41) (by show cells + 4 + 0 + 0 ≤ cells + 6; omega) (by show slots + 35 + 0 + 0 ≤ slots + 41; omega) (kk _ hI2)
  · have hz9 := hz c350
    first | refine g_aload_n C dL_law_353 rfl rfl ?_ | refine g_aload_nN C dL_law_353 rfl rfl ?_ | refine g_aload_nq C dL_law_353 rfl rfl ?_
    refine g_iconst C (v := 0) dL_law_354 (by decide) ?_
    refine g_laldN (k0 := 0) C dL_law_355 ho2 (by decide) (by decide) ?_
    refine g_iload C dL_law_356 rfl ?_
    refine g_i2l C dL_law_358 rfl ?_
    refine g_lcmp C dL_law_359 ?_
    refine g_if_eq C 365 dL_law_360 (by decide) (fun _ => ?_) (fun c360 => absurd (by rw [hz9]; exact cmp_eq _) c360)
    refine g_goto C 1259 dL_law_365 (by decide) ?_
    refine g_drop [(0, .ref b), (1, .ref x), (2, .ref mo), (3, .ref ou), (4, .int (nI i))] _ rfl ?_
    refine g_widen (k := cells + 6) (n := slots + 41) (by show cells + 4 + 0 + 0 ≤ cells + 6; omega) (by show slots + 35 + 0 + 0 ≤ slots + 41; omega) (kk _ hI2)
set_option maxHeartbeats 4000000 in
set_option maxRecDepth 100000 in
theorem law_relate {p : Program} {l : Launch} {e : Env} {s : State} {m : MethodId} {below : List Frame} {meth : Method} {c : Code} {b L : Nat} {xs : Nat → Int32} {G : hD} (C : h_C p l s m #[Value.ref b] meth c G (fun q : Nat => s.heap.size ≤ q) code 7 RL) (hX : va_X b L xs s s.heap) (hbl : b < s.heap.size) (hbA : ¬ s.heap.size ≤ b) (hL : L ≤ 2560) {x mo ou i cells slots : Nat} (hi5 : i + 5 ≤ L) (hc : cells + 6 ≤ 601024) (hs : slots + 41 ≤ 7293034) {w : hW} (hI : LWI G x mo ou w) (kk : ∀ w', LWI G x mo ou w' → h_G p l e room_1 s m #[Value.ref b] below meth c G (fun q : Nat => s.heap.size ≤ q) 7 (lw_Z below #[Value.ref b] s) w' (cells + 6) (slots + 41) 1259 [(0, .ref b), (1, .ref x), (2, .ref mo), (3, .ref ou), (4, .int (nI i))] []) : h_G p l e room_1 s m #[Value.ref b] below meth c G (fun q : Nat => s.heap.size ≤ q) 7 (lw_Z below #[Value.ref b] s) w cells slots 368 [(0, .ref b), (1, .ref x), (2, .ref mo), (3, .ref ou), (4, .int (nI i))] [] := by
  obtain ⟨pst, hH, hK⟩ := cc_relate l G hI (xs (i + 1)) (xs (i + 2)) (xs (i + 3))
  first | refine g_aload_n C dL_law_368 rfl rfl ?_ | refine g_aload_nN C dL_law_368 rfl rfl ?_ | refine g_aload_nq C dL_law_368 rfl rfl ?_
  first | refine g_aload_n C dL_law_369 rfl rfl ?_ | refine g_aload_nN C dL_law_369 rfl rfl ?_ | refine g_aload_nq C dL_law_369 rfl rfl ?_
  refine g_iload C dL_law_370 rfl ?_
  refine g_iconst C (v := 1) dL_law_372 (by decide) ?_
  refine g_iadd C dL_law_373 ?_
  refine g_sld C hX hbl hbA dL_law_374 (nI_add i 1) (by omega) (by omega) ?_
  first | refine g_aload_n C dL_law_375 rfl rfl ?_ | refine g_aload_nN C dL_law_375 rfl rfl ?_ | refine g_aload_nq C dL_law_375 rfl rfl ?_
  refine g_iload C dL_law_376 rfl ?_
  refine g_iconst C (v := 2) dL_law_378 (by decide) ?_
  refine g_iadd C dL_law_379 ?_
  refine g_sld C hX hbl hbA dL_law_380 (nI_add i 2) (by omega) (by omega) ?_
  first | refine g_aload_n C dL_law_381 rfl rfl ?_ | refine g_aload_nN C dL_law_381 rfl rfl ?_ | refine g_aload_nq C dL_law_381 rfl rfl ?_
  refine g_iload C dL_law_382 rfl ?_
  refine g_iconst C (v := 3) dL_law_384 (by decide) ?_
  refine g_iadd C dL_law_385 ?_
  refine g_sld C hX hbl hbA dL_law_386 (nI_add i 3) (by omega) (by omega) ?_
  first | refine g_aload_n C dL_law_387 rfl rfl ?_ | refine g_aload_nN C dL_law_387 rfl rfl ?_ | refine g_aload_nq C dL_law_387 rfl rfl ?_
  refine g_callSW C [] dL_law_388 hH kmL_86 ks_L_relate kn_L kc_L_relate hy_L_relate ⟨by decide, by decide⟩ rfl (Nat.le_of_ble_eq_true rfl) ⟨by show cells + 4 ≤ 601024; omega, by show slots + 29 ≤ 7293034; omega⟩ (fun v w1 hp => ?_)
  obtain ⟨k9, rfl, ⟨fsM, hm1⟩, pM, hM, hN⟩ := hK _ _ hp
  refine g_istore C dL_law_391 (by decide) ?_
  first | refine g_aload_n C dL_law_393 rfl rfl ?_ | refine g_aload_nN C dL_law_393 rfl rfl ?_ | refine g_aload_nq C dL_law_393 rfl rfl ?_
  first | refine g_aload_n C dL_law_394 rfl rfl ?_ | refine g_aload_nN C dL_law_394 rfl rfl ?_ | refine g_aload_nq C dL_law_394 rfl rfl ?_
  refine g_iload C dL_law_395 rfl ?_
  refine g_iconst C (v := 1) dL_law_397 (by decide) ?_
  refine g_iadd C dL_law_398 ?_
  refine g_sld C hX hbl hbA dL_law_399 (nI_add i 1) (by omega) (by omega) ?_
  first | refine g_aload_n C dL_law_400 rfl rfl ?_ | refine g_aload_nN C dL_law_400 rfl rfl ?_ | refine g_aload_nq C dL_law_400 rfl rfl ?_
  refine g_iload C dL_law_401 rfl ?_
  refine g_iconst C (v := 2) dL_law_403 (by decide) ?_
  refine g_iadd C dL_law_404 ?_
  refine g_sld C hX hbl hbA dL_law_405 (nI_add i 2) (by omega) (by omega) ?_
  first | refine g_aload_n C dL_law_406 rfl rfl ?_ | refine g_aload_nN C dL_law_406 rfl rfl ?_ | refine g_aload_nq C dL_law_406 rfl rfl ?_
  refine g_iload C dL_law_407 rfl ?_
  refine g_iconst C (v := 3) dL_law_409 (by decide) ?_
  refine g_iadd C dL_law_410 ?_
  refine g_sld C hX hbl hbA dL_law_411 (nI_add i 3) (by omega) (by omega) ?_
  refine g_callVn C [] dL_law_412 (hM) kmL_89 ki_X3_relate kv_X3_relate kn_X3 kc_X3_relate hy_X3_relate ⟨by decide, by decide⟩ hm1 rfl rfl (Nat.le_of_ble_eq_true rfl) ⟨by show cells + 4 + 0 ≤ 601024; omega, by show slots + 29 + 0 ≤ 7293034; omega⟩ (fun v w1 hp => ?_)
  obtain ⟨z9, rfl, hZ9, ⟨M2, n2, I2, B2, ord2, mny2, hR2⟩, hI2, ov2, ho2, hz⟩ := hN _ _ hp
  refine g_istore C dL_law_415 (by decide) ?_
  first | refine g_aload_n C dL_law_417 rfl rfl ?_ | refine g_aload_nN C dL_law_417 rfl rfl ?_ | refine g_aload_nq C dL_law_417 rfl rfl ?_
  refine g_callVn C [] dL_law_418 (c_X3_thrown l G _ _ _ _ _ _ _ _ _ hR2) kmL_75 ki_X3_thrown kv_X3_thrown kn_X3 kc_X3_thrown hy_X3_thrown ⟨by decide, by decide⟩ hR2.1 rfl rfl (Nat.le_of_ble_eq_true rfl) ⟨by show cells + 4 + 0 + 0 ≤ 601024; omega, by show slots + 29 + 0 + 0 ≤ 7293034; omega⟩ (fun v w1 hp => ?_)
  obtain ⟨rfl, hw1⟩ := hp
  have hw1 := hw1.symm
  subst hw1
  refine g_iload C dL_law_421 rfl ?_
  refine g_icmp_eq C 428 dL_law_423 (by decide) (fun _ => ?_) (fun c423 => absurd (rfl) c423)
  refine g_iload C dL_law_428 rfl ?_
  refine g_if_ne C 445 dL_law_430 (by decide) (fun c430 => ?_) (fun c430 => ?_)
  · refine g_goto C 1259 dL_law_445 (by decide) ?_
    refine g_drop [(0, .ref b), (1, .ref x), (2, .ref mo), (3, .ref ou), (4, .int (nI i))] _ rfl ?_
    refine g_widen (k := cells + 6) (n := slots + 41) (by show cells + 4 + 0 + 0 ≤ cells + 6; omega) (by show slots + 29 + 0 + 0 ≤ slots + 41; omega) (kk _ hI2)
  · have hz9 := hz c430
    first | refine g_aload_n C dL_law_433 rfl rfl ?_ | refine g_aload_nN C dL_law_433 rfl rfl ?_ | refine g_aload_nq C dL_law_433 rfl rfl ?_
    refine g_iconst C (v := 0) dL_law_434 (by decide) ?_
    refine g_laldN (k0 := 0) C dL_law_435 ho2 (by decide) (by decide) ?_
    refine g_iload C dL_law_436 rfl ?_
    refine g_i2l C dL_law_438 rfl ?_
    refine g_lcmp C dL_law_439 ?_
    refine g_if_eq C 445 dL_law_440 (by decide) (fun _ => ?_) (fun c440 => absurd (by rw [hz9]; exact cmp_eq _) c440)
    refine g_goto C 1259 dL_law_445 (by decide) ?_
    refine g_drop [(0, .ref b), (1, .ref x), (2, .ref mo), (3, .ref ou), (4, .int (nI i))] _ rfl ?_
    refine g_widen (k := cells + 6) (n := slots + 41) (by show cells + 4 + 0 + 0 ≤ cells + 6; omega) (by show slots + 29 + 0 + 0 ≤ slots + 41; omega) (kk _ hI2)
set_option maxHeartbeats 4000000 in
set_option maxRecDepth 100000 in
theorem law_drop {p : Program} {l : Launch} {e : Env} {s : State} {m : MethodId} {below : List Frame} {meth : Method} {c : Code} {b L : Nat} {xs : Nat → Int32} {G : hD} (C : h_C p l s m #[Value.ref b] meth c G (fun q : Nat => s.heap.size ≤ q) code 7 RL) (hX : va_X b L xs s s.heap) (hbl : b < s.heap.size) (hbA : ¬ s.heap.size ≤ b) (hL : L ≤ 2560) {x mo ou i cells slots : Nat} (hi5 : i + 5 ≤ L) (hc : cells + 6 ≤ 601024) (hs : slots + 41 ≤ 7293034) {w : hW} (hI : LWI G x mo ou w) (kk : ∀ w', LWI G x mo ou w' → h_G p l e room_1 s m #[Value.ref b] below meth c G (fun q : Nat => s.heap.size ≤ q) 7 (lw_Z below #[Value.ref b] s) w' (cells + 6) (slots + 41) 1259 [(0, .ref b), (1, .ref x), (2, .ref mo), (3, .ref ou), (4, .int (nI i))] []) : h_G p l e room_1 s m #[Value.ref b] below meth c G (fun q : Nat => s.heap.size ≤ q) 7 (lw_Z below #[Value.ref b] s) w cells slots 448 [(0, .ref b), (1, .ref x), (2, .ref mo), (3, .ref ou), (4, .int (nI i))] [] := by
  obtain ⟨pst, hH, hK⟩ := cc_drop l G hI (xs (i + 1)) (xs (i + 2))
  first | refine g_aload_n C dL_law_448 rfl rfl ?_ | refine g_aload_nN C dL_law_448 rfl rfl ?_ | refine g_aload_nq C dL_law_448 rfl rfl ?_
  first | refine g_aload_n C dL_law_449 rfl rfl ?_ | refine g_aload_nN C dL_law_449 rfl rfl ?_ | refine g_aload_nq C dL_law_449 rfl rfl ?_
  refine g_iload C dL_law_450 rfl ?_
  refine g_iconst C (v := 1) dL_law_452 (by decide) ?_
  refine g_iadd C dL_law_453 ?_
  refine g_sld C hX hbl hbA dL_law_454 (nI_add i 1) (by omega) (by omega) ?_
  first | refine g_aload_n C dL_law_455 rfl rfl ?_ | refine g_aload_nN C dL_law_455 rfl rfl ?_ | refine g_aload_nq C dL_law_455 rfl rfl ?_
  refine g_iload C dL_law_456 rfl ?_
  refine g_iconst C (v := 2) dL_law_458 (by decide) ?_
  refine g_iadd C dL_law_459 ?_
  refine g_sld C hX hbl hbA dL_law_460 (nI_add i 2) (by omega) (by omega) ?_
  first | refine g_aload_n C dL_law_461 rfl rfl ?_ | refine g_aload_nN C dL_law_461 rfl rfl ?_ | refine g_aload_nq C dL_law_461 rfl rfl ?_
  refine g_callSW C [] dL_law_462 hH kmL_90 ks_L_drop kn_L kc_L_drop hy_L_drop ⟨by decide, by decide⟩ rfl (Nat.le_of_ble_eq_true rfl) ⟨by show cells + 4 ≤ 601024; omega, by show slots + 35 ≤ 7293034; omega⟩ (fun v w1 hp => ?_)
  obtain ⟨k9, rfl, ⟨fsM, hm1⟩, pM, hM, hN⟩ := hK _ _ hp
  refine g_istore C dL_law_465 (by decide) ?_
  first | refine g_aload_n C dL_law_467 rfl rfl ?_ | refine g_aload_nN C dL_law_467 rfl rfl ?_ | refine g_aload_nq C dL_law_467 rfl rfl ?_
  first | refine g_aload_n C dL_law_468 rfl rfl ?_ | refine g_aload_nN C dL_law_468 rfl rfl ?_ | refine g_aload_nq C dL_law_468 rfl rfl ?_
  refine g_iload C dL_law_469 rfl ?_
  refine g_iconst C (v := 1) dL_law_471 (by decide) ?_
  refine g_iadd C dL_law_472 ?_
  refine g_sld C hX hbl hbA dL_law_473 (nI_add i 1) (by omega) (by omega) ?_
  first | refine g_aload_n C dL_law_474 rfl rfl ?_ | refine g_aload_nN C dL_law_474 rfl rfl ?_ | refine g_aload_nq C dL_law_474 rfl rfl ?_
  refine g_iload C dL_law_475 rfl ?_
  refine g_iconst C (v := 2) dL_law_477 (by decide) ?_
  refine g_iadd C dL_law_478 ?_
  refine g_sld C hX hbl hbA dL_law_479 (nI_add i 2) (by omega) (by omega) ?_
  refine g_callVn C [] dL_law_480 (hM) kmL_92 ki_X3_drop kv_X3_drop kn_X3 kc_X3_drop hy_X3_drop ⟨by decide, by decide⟩ hm1 rfl rfl (Nat.le_of_ble_eq_true rfl) ⟨by show cells + 4 + 0 ≤ 601024; omega, by show slots + 35 + 0 ≤ 7293034; omega⟩ (fun v w1 hp => ?_)
  obtain ⟨z9, rfl, hZ9, ⟨M2, n2, I2, B2, ord2, mny2, hR2⟩, hI2, ov2, ho2, hz⟩ := hN _ _ hp
  refine g_istore C dL_law_483 (by decide) ?_
  first | refine g_aload_n C dL_law_485 rfl rfl ?_ | refine g_aload_nN C dL_law_485 rfl rfl ?_ | refine g_aload_nq C dL_law_485 rfl rfl ?_
  refine g_callVn C [] dL_law_486 (c_X3_thrown l G _ _ _ _ _ _ _ _ _ hR2) kmL_75 ki_X3_thrown kv_X3_thrown kn_X3 kc_X3_thrown hy_X3_thrown ⟨by decide, by decide⟩ hR2.1 rfl rfl (Nat.le_of_ble_eq_true rfl) ⟨by show cells + 4 + 0 + 0 ≤ 601024; omega, by show slots + 35 + 0 + 0 ≤ 7293034; omega⟩ (fun v w1 hp => ?_)
  obtain ⟨rfl, hw1⟩ := hp
  have hw1 := hw1.symm
  subst hw1
  refine g_iload C dL_law_489 rfl ?_
  refine g_icmp_eq C 496 dL_law_491 (by decide) (fun _ => ?_) (fun c491 => absurd (rfl) c491)
  refine g_iload C dL_law_496 rfl ?_
  refine g_if_ne C 513 dL_law_498 (by decide) (fun c498 => ?_) (fun c498 => ?_)
  · refine g_goto C 1259 dL_law_513 (by decide) ?_
    refine g_drop [(0, .ref b), (1, .ref x), (2, .ref mo), (3, .ref ou), (4, .int (nI i))] _ rfl ?_
    refine g_widen (k := cells + 6) (n := slots + 41) (by show cells + 4 + 0 + 0 ≤ cells + 6; omega) (by show slots + 35 + 0 + 0 ≤ slots + 41; omega) (kk _ hI2)
  · have hz9 := hz c498
    first | refine g_aload_n C dL_law_501 rfl rfl ?_ | refine g_aload_nN C dL_law_501 rfl rfl ?_ | refine g_aload_nq C dL_law_501 rfl rfl ?_
    refine g_iconst C (v := 0) dL_law_502 (by decide) ?_
    refine g_laldN (k0 := 0) C dL_law_503 ho2 (by decide) (by decide) ?_
    refine g_iload C dL_law_504 rfl ?_
    refine g_i2l C dL_law_506 rfl ?_
    refine g_lcmp C dL_law_507 ?_
    refine g_if_eq C 513 dL_law_508 (by decide) (fun _ => ?_) (fun c508 => absurd (by rw [hz9]; exact cmp_eq _) c508)
    refine g_goto C 1259 dL_law_513 (by decide) ?_
    refine g_drop [(0, .ref b), (1, .ref x), (2, .ref mo), (3, .ref ou), (4, .int (nI i))] _ rfl ?_
    refine g_widen (k := cells + 6) (n := slots + 41) (by show cells + 4 + 0 + 0 ≤ cells + 6; omega) (by show slots + 35 + 0 + 0 ≤ slots + 41; omega) (kk _ hI2)
set_option maxHeartbeats 4000000 in
set_option maxRecDepth 100000 in
theorem law_join {p : Program} {l : Launch} {e : Env} {s : State} {m : MethodId} {below : List Frame} {meth : Method} {c : Code} {b L : Nat} {xs : Nat → Int32} {G : hD} (C : h_C p l s m #[Value.ref b] meth c G (fun q : Nat => s.heap.size ≤ q) code 7 RL) (hX : va_X b L xs s s.heap) (hbl : b < s.heap.size) (hbA : ¬ s.heap.size ≤ b) (hL : L ≤ 2560) {x mo ou i cells slots : Nat} (hi5 : i + 5 ≤ L) (hc : cells + 6 ≤ 601024) (hs : slots + 41 ≤ 7293034) {w : hW} (hI : LWI G x mo ou w) (kk : ∀ w', LWI G x mo ou w' → h_G p l e room_1 s m #[Value.ref b] below meth c G (fun q : Nat => s.heap.size ≤ q) 7 (lw_Z below #[Value.ref b] s) w' (cells + 6) (slots + 41) 1259 [(0, .ref b), (1, .ref x), (2, .ref mo), (3, .ref ou), (4, .int (nI i))] []) : h_G p l e room_1 s m #[Value.ref b] below meth c G (fun q : Nat => s.heap.size ≤ q) 7 (lw_Z below #[Value.ref b] s) w cells slots 516 [(0, .ref b), (1, .ref x), (2, .ref mo), (3, .ref ou), (4, .int (nI i))] [] := by
  obtain ⟨pst, hH, hK⟩ := cc_join l G hI (xs (i + 1)) (xs (i + 2))
  first | refine g_aload_n C dL_law_516 rfl rfl ?_ | refine g_aload_nN C dL_law_516 rfl rfl ?_ | refine g_aload_nq C dL_law_516 rfl rfl ?_
  first | refine g_aload_n C dL_law_517 rfl rfl ?_ | refine g_aload_nN C dL_law_517 rfl rfl ?_ | refine g_aload_nq C dL_law_517 rfl rfl ?_
  refine g_iload C dL_law_518 rfl ?_
  refine g_iconst C (v := 1) dL_law_520 (by decide) ?_
  refine g_iadd C dL_law_521 ?_
  refine g_sld C hX hbl hbA dL_law_522 (nI_add i 1) (by omega) (by omega) ?_
  first | refine g_aload_n C dL_law_523 rfl rfl ?_ | refine g_aload_nN C dL_law_523 rfl rfl ?_ | refine g_aload_nq C dL_law_523 rfl rfl ?_
  refine g_iload C dL_law_524 rfl ?_
  refine g_iconst C (v := 2) dL_law_526 (by decide) ?_
  refine g_iadd C dL_law_527 ?_
  refine g_sld C hX hbl hbA dL_law_528 (nI_add i 2) (by omega) (by omega) ?_
  first | refine g_aload_n C dL_law_529 rfl rfl ?_ | refine g_aload_nN C dL_law_529 rfl rfl ?_ | refine g_aload_nq C dL_law_529 rfl rfl ?_
  refine g_callSW C [] dL_law_530 hH kmL_93 ks_L_join kn_L kc_L_join hy_L_join ⟨by decide, by decide⟩ rfl (Nat.le_of_ble_eq_true rfl) ⟨by show cells + 2 ≤ 601024; omega, by show slots + 12 ≤ 7293034; omega⟩ (fun v w1 hp => ?_)
  obtain ⟨k9, rfl, ⟨fsM, hm1⟩, pM, hM, hN⟩ := hK _ _ hp
  refine g_istore C dL_law_533 (by decide) ?_
  first | refine g_aload_n C dL_law_535 rfl rfl ?_ | refine g_aload_nN C dL_law_535 rfl rfl ?_ | refine g_aload_nq C dL_law_535 rfl rfl ?_
  first | refine g_aload_n C dL_law_536 rfl rfl ?_ | refine g_aload_nN C dL_law_536 rfl rfl ?_ | refine g_aload_nq C dL_law_536 rfl rfl ?_
  refine g_iload C dL_law_537 rfl ?_
  refine g_iconst C (v := 1) dL_law_539 (by decide) ?_
  refine g_iadd C dL_law_540 ?_
  refine g_sld C hX hbl hbA dL_law_541 (nI_add i 1) (by omega) (by omega) ?_
  first | refine g_aload_n C dL_law_542 rfl rfl ?_ | refine g_aload_nN C dL_law_542 rfl rfl ?_ | refine g_aload_nq C dL_law_542 rfl rfl ?_
  refine g_iload C dL_law_543 rfl ?_
  refine g_iconst C (v := 2) dL_law_545 (by decide) ?_
  refine g_iadd C dL_law_546 ?_
  refine g_sld C hX hbl hbA dL_law_547 (nI_add i 2) (by omega) (by omega) ?_
  refine g_callVn C [] dL_law_548 (hM) kmL_95 ki_X3_join kv_X3_join kn_X3 kc_X3_join hy_X3_join ⟨by decide, by decide⟩ hm1 rfl rfl (Nat.le_of_ble_eq_true rfl) ⟨by show cells + 2 + 0 ≤ 601024; omega, by show slots + 12 + 0 ≤ 7293034; omega⟩ (fun v w1 hp => ?_)
  obtain ⟨z9, rfl, hZ9, ⟨M2, n2, I2, B2, ord2, mny2, hR2⟩, hI2, ov2, ho2, hz⟩ := hN _ _ hp
  refine g_istore C dL_law_551 (by decide) ?_
  first | refine g_aload_n C dL_law_553 rfl rfl ?_ | refine g_aload_nN C dL_law_553 rfl rfl ?_ | refine g_aload_nq C dL_law_553 rfl rfl ?_
  refine g_callVn C [] dL_law_554 (c_X3_thrown l G _ _ _ _ _ _ _ _ _ hR2) kmL_75 ki_X3_thrown kv_X3_thrown kn_X3 kc_X3_thrown hy_X3_thrown ⟨by decide, by decide⟩ hR2.1 rfl rfl (Nat.le_of_ble_eq_true rfl) ⟨by show cells + 2 + 0 + 0 ≤ 601024; omega, by show slots + 12 + 0 + 0 ≤ 7293034; omega⟩ (fun v w1 hp => ?_)
  obtain ⟨rfl, hw1⟩ := hp
  have hw1 := hw1.symm
  subst hw1
  refine g_iload C dL_law_557 rfl ?_
  refine g_icmp_eq C 564 dL_law_559 (by decide) (fun _ => ?_) (fun c559 => absurd (rfl) c559)
  refine g_iload C dL_law_564 rfl ?_
  refine g_if_ne C 581 dL_law_566 (by decide) (fun c566 => ?_) (fun c566 => ?_)
  · refine g_goto C 1259 dL_law_581 (by decide) ?_
    refine g_drop [(0, .ref b), (1, .ref x), (2, .ref mo), (3, .ref ou), (4, .int (nI i))] _ rfl ?_
    refine g_widen (k := cells + 6) (n := slots + 41) (by show cells + 2 + 0 + 0 ≤ cells + 6; omega) (by show slots + 12 + 0 + 0 ≤ slots + 41; omega) (kk _ hI2)
  · have hz9 := hz c566
    first | refine g_aload_n C dL_law_569 rfl rfl ?_ | refine g_aload_nN C dL_law_569 rfl rfl ?_ | refine g_aload_nq C dL_law_569 rfl rfl ?_
    refine g_iconst C (v := 0) dL_law_570 (by decide) ?_
    refine g_laldN (k0 := 0) C dL_law_571 ho2 (by decide) (by decide) ?_
    refine g_iload C dL_law_572 rfl ?_
    refine g_i2l C dL_law_574 rfl ?_
    refine g_lcmp C dL_law_575 ?_
    refine g_if_eq C 581 dL_law_576 (by decide) (fun _ => ?_) (fun c576 => absurd (by rw [hz9]; exact cmp_eq _) c576)
    refine g_goto C 1259 dL_law_581 (by decide) ?_
    refine g_drop [(0, .ref b), (1, .ref x), (2, .ref mo), (3, .ref ou), (4, .int (nI i))] _ rfl ?_
    refine g_widen (k := cells + 6) (n := slots + 41) (by show cells + 2 + 0 + 0 ≤ cells + 6; omega) (by show slots + 12 + 0 + 0 ≤ slots + 41; omega) (kk _ hI2)
set_option maxHeartbeats 4000000 in
set_option maxRecDepth 100000 in
theorem law_number {p : Program} {l : Launch} {e : Env} {s : State} {m : MethodId} {below : List Frame} {meth : Method} {c : Code} {b L : Nat} {xs : Nat → Int32} {G : hD} (C : h_C p l s m #[Value.ref b] meth c G (fun q : Nat => s.heap.size ≤ q) code 7 RL) (hX : va_X b L xs s s.heap) (hbl : b < s.heap.size) (hbA : ¬ s.heap.size ≤ b) (hL : L ≤ 2560) {x mo ou i cells slots : Nat} (hi5 : i + 5 ≤ L) (hc : cells + 6 ≤ 601024) (hs : slots + 41 ≤ 7293034) {w : hW} (hI : LWI G x mo ou w) (kk : ∀ w', LWI G x mo ou w' → h_G p l e room_1 s m #[Value.ref b] below meth c G (fun q : Nat => s.heap.size ≤ q) 7 (lw_Z below #[Value.ref b] s) w' (cells + 6) (slots + 41) 1259 [(0, .ref b), (1, .ref x), (2, .ref mo), (3, .ref ou), (4, .int (nI i))] []) : h_G p l e room_1 s m #[Value.ref b] below meth c G (fun q : Nat => s.heap.size ≤ q) 7 (lw_Z below #[Value.ref b] s) w cells slots 584 [(0, .ref b), (1, .ref x), (2, .ref mo), (3, .ref ou), (4, .int (nI i))] [] := by
  obtain ⟨pst, hH, hK⟩ := cc_number l G hI (xs (i + 1))
  first | refine g_aload_n C dL_law_584 rfl rfl ?_ | refine g_aload_nN C dL_law_584 rfl rfl ?_ | refine g_aload_nq C dL_law_584 rfl rfl ?_
  first | refine g_aload_n C dL_law_585 rfl rfl ?_ | refine g_aload_nN C dL_law_585 rfl rfl ?_ | refine g_aload_nq C dL_law_585 rfl rfl ?_
  refine g_iload C dL_law_586 rfl ?_
  refine g_iconst C (v := 1) dL_law_588 (by decide) ?_
  refine g_iadd C dL_law_589 ?_
  refine g_sld C hX hbl hbA dL_law_590 (nI_add i 1) (by omega) (by omega) ?_
  first | refine g_aload_n C dL_law_591 rfl rfl ?_ | refine g_aload_nN C dL_law_591 rfl rfl ?_ | refine g_aload_nq C dL_law_591 rfl rfl ?_
  refine g_callSW C [] dL_law_592 hH kmL_96 ks_L_number kn_L kc_L_number hy_L_number ⟨by decide, by decide⟩ rfl (Nat.le_of_ble_eq_true rfl) ⟨by show cells + 2 ≤ 601024; omega, by show slots + 12 ≤ 7293034; omega⟩ (fun v w1 hp => ?_)
  obtain ⟨k9, rfl, ⟨fsM, hm1⟩, pM, hM, hN⟩ := hK _ _ hp
  refine g_istore C dL_law_595 (by decide) ?_
  first | refine g_aload_n C dL_law_597 rfl rfl ?_ | refine g_aload_nN C dL_law_597 rfl rfl ?_ | refine g_aload_nq C dL_law_597 rfl rfl ?_
  first | refine g_aload_n C dL_law_598 rfl rfl ?_ | refine g_aload_nN C dL_law_598 rfl rfl ?_ | refine g_aload_nq C dL_law_598 rfl rfl ?_
  refine g_iload C dL_law_599 rfl ?_
  refine g_iconst C (v := 1) dL_law_601 (by decide) ?_
  refine g_iadd C dL_law_602 ?_
  refine g_sld C hX hbl hbA dL_law_603 (nI_add i 1) (by omega) (by omega) ?_
  refine g_callVn C [] dL_law_604 (hM) kmL_99 ki_X3_number kv_X3_number kn_X3 kc_X3_number hy_X3_number ⟨by decide, by decide⟩ hm1 rfl rfl (Nat.le_of_ble_eq_true rfl) ⟨by show cells + 2 + 0 ≤ 601024; omega, by show slots + 12 + 0 ≤ 7293034; omega⟩ (fun v w1 hp => ?_)
  obtain ⟨z9, rfl, hZ9, ⟨M2, n2, I2, B2, ord2, mny2, hR2⟩, hI2, ov2, ho2, hz⟩ := hN _ _ hp
  refine g_istore C dL_law_607 (by decide) ?_
  first | refine g_aload_n C dL_law_609 rfl rfl ?_ | refine g_aload_nN C dL_law_609 rfl rfl ?_ | refine g_aload_nq C dL_law_609 rfl rfl ?_
  refine g_callVn C [] dL_law_610 (c_X3_thrown l G _ _ _ _ _ _ _ _ _ hR2) kmL_75 ki_X3_thrown kv_X3_thrown kn_X3 kc_X3_thrown hy_X3_thrown ⟨by decide, by decide⟩ hR2.1 rfl rfl (Nat.le_of_ble_eq_true rfl) ⟨by show cells + 2 + 0 + 0 ≤ 601024; omega, by show slots + 12 + 0 + 0 ≤ 7293034; omega⟩ (fun v w1 hp => ?_)
  obtain ⟨rfl, hw1⟩ := hp
  have hw1 := hw1.symm
  subst hw1
  refine g_iload C dL_law_613 rfl ?_
  refine g_icmp_eq C 620 dL_law_615 (by decide) (fun _ => ?_) (fun c615 => absurd (rfl) c615)
  refine g_iload C dL_law_620 rfl ?_
  refine g_if_ne C 637 dL_law_622 (by decide) (fun c622 => ?_) (fun c622 => ?_)
  · refine g_goto C 1259 dL_law_637 (by decide) ?_
    refine g_drop [(0, .ref b), (1, .ref x), (2, .ref mo), (3, .ref ou), (4, .int (nI i))] _ rfl ?_
    refine g_widen (k := cells + 6) (n := slots + 41) (by show cells + 2 + 0 + 0 ≤ cells + 6; omega) (by show slots + 12 + 0 + 0 ≤ slots + 41; omega) (kk _ hI2)
  · have hz9 := hz c622
    first | refine g_aload_n C dL_law_625 rfl rfl ?_ | refine g_aload_nN C dL_law_625 rfl rfl ?_ | refine g_aload_nq C dL_law_625 rfl rfl ?_
    refine g_iconst C (v := 0) dL_law_626 (by decide) ?_
    refine g_laldN (k0 := 0) C dL_law_627 ho2 (by decide) (by decide) ?_
    refine g_iload C dL_law_628 rfl ?_
    refine g_i2l C dL_law_630 rfl ?_
    refine g_lcmp C dL_law_631 ?_
    refine g_if_eq C 637 dL_law_632 (by decide) (fun _ => ?_) (fun c632 => absurd (by rw [hz9]; exact cmp_eq _) c632)
    refine g_goto C 1259 dL_law_637 (by decide) ?_
    refine g_drop [(0, .ref b), (1, .ref x), (2, .ref mo), (3, .ref ou), (4, .int (nI i))] _ rfl ?_
    refine g_widen (k := cells + 6) (n := slots + 41) (by show cells + 2 + 0 + 0 ≤ cells + 6; omega) (by show slots + 12 + 0 + 0 ≤ slots + 41; omega) (kk _ hI2)
set_option maxHeartbeats 4000000 in
set_option maxRecDepth 100000 in
theorem law_at {p : Program} {l : Launch} {e : Env} {s : State} {m : MethodId} {below : List Frame} {meth : Method} {c : Code} {b L : Nat} {xs : Nat → Int32} {G : hD} (C : h_C p l s m #[Value.ref b] meth c G (fun q : Nat => s.heap.size ≤ q) code 7 RL) (hX : va_X b L xs s s.heap) (hbl : b < s.heap.size) (hbA : ¬ s.heap.size ≤ b) (hL : L ≤ 2560) {x mo ou i cells slots : Nat} (hi5 : i + 5 ≤ L) (hc : cells + 6 ≤ 601024) (hs : slots + 41 ≤ 7293034) {w : hW} (hI : LWI G x mo ou w) (kk : ∀ w', LWI G x mo ou w' → h_G p l e room_1 s m #[Value.ref b] below meth c G (fun q : Nat => s.heap.size ≤ q) 7 (lw_Z below #[Value.ref b] s) w' (cells + 6) (slots + 41) 1259 [(0, .ref b), (1, .ref x), (2, .ref mo), (3, .ref ou), (4, .int (nI i))] []) : h_G p l e room_1 s m #[Value.ref b] below meth c G (fun q : Nat => s.heap.size ≤ q) 7 (lw_Z below #[Value.ref b] s) w cells slots 640 [(0, .ref b), (1, .ref x), (2, .ref mo), (3, .ref ou), (4, .int (nI i))] [] := by
  obtain ⟨pst, hH, hK⟩ := cc_at l G hI (xs (i + 1)) (xs (i + 2)) (xs (i + 3)) (xs (i + 4))
  first | refine g_aload_n C dL_law_640 rfl rfl ?_ | refine g_aload_nN C dL_law_640 rfl rfl ?_ | refine g_aload_nq C dL_law_640 rfl rfl ?_
  first | refine g_aload_n C dL_law_641 rfl rfl ?_ | refine g_aload_nN C dL_law_641 rfl rfl ?_ | refine g_aload_nq C dL_law_641 rfl rfl ?_
  refine g_iload C dL_law_642 rfl ?_
  refine g_iconst C (v := 1) dL_law_644 (by decide) ?_
  refine g_iadd C dL_law_645 ?_
  refine g_sld C hX hbl hbA dL_law_646 (nI_add i 1) (by omega) (by omega) ?_
  first | refine g_aload_n C dL_law_647 rfl rfl ?_ | refine g_aload_nN C dL_law_647 rfl rfl ?_ | refine g_aload_nq C dL_law_647 rfl rfl ?_
  refine g_iload C dL_law_648 rfl ?_
  refine g_iconst C (v := 2) dL_law_650 (by decide) ?_
  refine g_iadd C dL_law_651 ?_
  refine g_sld C hX hbl hbA dL_law_652 (nI_add i 2) (by omega) (by omega) ?_
  first | refine g_aload_n C dL_law_653 rfl rfl ?_ | refine g_aload_nN C dL_law_653 rfl rfl ?_ | refine g_aload_nq C dL_law_653 rfl rfl ?_
  refine g_iload C dL_law_654 rfl ?_
  refine g_iconst C (v := 3) dL_law_656 (by decide) ?_
  refine g_iadd C dL_law_657 ?_
  refine g_sld C hX hbl hbA dL_law_658 (nI_add i 3) (by omega) (by omega) ?_
  first | refine g_aload_n C dL_law_659 rfl rfl ?_ | refine g_aload_nN C dL_law_659 rfl rfl ?_ | refine g_aload_nq C dL_law_659 rfl rfl ?_
  refine g_iload C dL_law_660 rfl ?_
  refine g_iconst C (v := 4) dL_law_662 (by decide) ?_
  refine g_iadd C dL_law_663 ?_
  refine g_sld C hX hbl hbA dL_law_664 (nI_add i 4) (by omega) (by omega) ?_
  first | refine g_aload_n C dL_law_665 rfl rfl ?_ | refine g_aload_nN C dL_law_665 rfl rfl ?_ | refine g_aload_nq C dL_law_665 rfl rfl ?_
  refine g_callSW C [] dL_law_666 hH kmL_100 ks_L_at kn_L kc_L_at hy_L_at ⟨by decide, by decide⟩ rfl (Nat.le_of_ble_eq_true rfl) ⟨by show cells + 4 ≤ 601024; omega, by show slots + 24 ≤ 7293034; omega⟩ (fun v w1 hp => ?_)
  obtain ⟨k9, rfl, ⟨fsM, hm1⟩, pM, hM, hN⟩ := hK _ _ hp
  refine g_istore C dL_law_669 (by decide) ?_
  first | refine g_aload_n C dL_law_671 rfl rfl ?_ | refine g_aload_nN C dL_law_671 rfl rfl ?_ | refine g_aload_nq C dL_law_671 rfl rfl ?_
  first | refine g_aload_n C dL_law_672 rfl rfl ?_ | refine g_aload_nN C dL_law_672 rfl rfl ?_ | refine g_aload_nq C dL_law_672 rfl rfl ?_
  refine g_iload C dL_law_673 rfl ?_
  refine g_iconst C (v := 1) dL_law_675 (by decide) ?_
  refine g_iadd C dL_law_676 ?_
  refine g_sld C hX hbl hbA dL_law_677 (nI_add i 1) (by omega) (by omega) ?_
  first | refine g_aload_n C dL_law_678 rfl rfl ?_ | refine g_aload_nN C dL_law_678 rfl rfl ?_ | refine g_aload_nq C dL_law_678 rfl rfl ?_
  refine g_iload C dL_law_679 rfl ?_
  refine g_iconst C (v := 2) dL_law_681 (by decide) ?_
  refine g_iadd C dL_law_682 ?_
  refine g_sld C hX hbl hbA dL_law_683 (nI_add i 2) (by omega) (by omega) ?_
  first | refine g_aload_n C dL_law_684 rfl rfl ?_ | refine g_aload_nN C dL_law_684 rfl rfl ?_ | refine g_aload_nq C dL_law_684 rfl rfl ?_
  refine g_iload C dL_law_685 rfl ?_
  refine g_iconst C (v := 3) dL_law_687 (by decide) ?_
  refine g_iadd C dL_law_688 ?_
  refine g_sld C hX hbl hbA dL_law_689 (nI_add i 3) (by omega) (by omega) ?_
  first | refine g_aload_n C dL_law_690 rfl rfl ?_ | refine g_aload_nN C dL_law_690 rfl rfl ?_ | refine g_aload_nq C dL_law_690 rfl rfl ?_
  refine g_iload C dL_law_691 rfl ?_
  refine g_iconst C (v := 4) dL_law_693 (by decide) ?_
  refine g_iadd C dL_law_694 ?_
  refine g_sld C hX hbl hbA dL_law_695 (nI_add i 4) (by omega) (by omega) ?_
  refine g_callVn C [] dL_law_696 (hM) kmL_102 ki_X3_at kv_X3_at kn_X3 kc_X3_at hy_X3_at ⟨by decide, by decide⟩ hm1 rfl rfl (Nat.le_of_ble_eq_true rfl) ⟨by show cells + 4 + 0 ≤ 601024; omega, by show slots + 24 + 0 ≤ 7293034; omega⟩ (fun v w1 hp => ?_)
  obtain ⟨z9, rfl, hZ9, ⟨M2, n2, I2, B2, ord2, mny2, hR2⟩, hI2, ov2, ho2, hz⟩ := hN _ _ hp
  refine g_istore C dL_law_699 (by decide) ?_
  first | refine g_aload_n C dL_law_701 rfl rfl ?_ | refine g_aload_nN C dL_law_701 rfl rfl ?_ | refine g_aload_nq C dL_law_701 rfl rfl ?_
  refine g_callVn C [] dL_law_702 (c_X3_thrown l G _ _ _ _ _ _ _ _ _ hR2) kmL_75 ki_X3_thrown kv_X3_thrown kn_X3 kc_X3_thrown hy_X3_thrown ⟨by decide, by decide⟩ hR2.1 rfl rfl (Nat.le_of_ble_eq_true rfl) ⟨by show cells + 4 + 0 + 0 ≤ 601024; omega, by show slots + 24 + 0 + 0 ≤ 7293034; omega⟩ (fun v w1 hp => ?_)
  obtain ⟨rfl, hw1⟩ := hp
  have hw1 := hw1.symm
  subst hw1
  refine g_iload C dL_law_705 rfl ?_
  refine g_icmp_eq C 712 dL_law_707 (by decide) (fun _ => ?_) (fun c707 => absurd (rfl) c707)
  refine g_iload C dL_law_712 rfl ?_
  refine g_if_ne C 729 dL_law_714 (by decide) (fun c714 => ?_) (fun c714 => ?_)
  · refine g_goto C 1259 dL_law_729 (by decide) ?_
    refine g_drop [(0, .ref b), (1, .ref x), (2, .ref mo), (3, .ref ou), (4, .int (nI i))] _ rfl ?_
    refine g_widen (k := cells + 6) (n := slots + 41) (by show cells + 4 + 0 + 0 ≤ cells + 6; omega) (by show slots + 24 + 0 + 0 ≤ slots + 41; omega) (kk _ hI2)
  · have hz9 := hz c714
    first | refine g_aload_n C dL_law_717 rfl rfl ?_ | refine g_aload_nN C dL_law_717 rfl rfl ?_ | refine g_aload_nq C dL_law_717 rfl rfl ?_
    refine g_iconst C (v := 0) dL_law_718 (by decide) ?_
    refine g_laldN (k0 := 0) C dL_law_719 ho2 (by decide) (by decide) ?_
    refine g_iload C dL_law_720 rfl ?_
    refine g_i2l C dL_law_722 rfl ?_
    refine g_lcmp C dL_law_723 ?_
    refine g_if_eq C 729 dL_law_724 (by decide) (fun _ => ?_) (fun c724 => absurd (by rw [hz9]; exact cmp_eq _) c724)
    refine g_goto C 1259 dL_law_729 (by decide) ?_
    refine g_drop [(0, .ref b), (1, .ref x), (2, .ref mo), (3, .ref ou), (4, .int (nI i))] _ rfl ?_
    refine g_widen (k := cells + 6) (n := slots + 41) (by show cells + 4 + 0 + 0 ≤ cells + 6; omega) (by show slots + 24 + 0 + 0 ≤ slots + 41; omega) (kk _ hI2)
set_option maxHeartbeats 4000000 in
set_option maxRecDepth 100000 in
theorem law_place {p : Program} {l : Launch} {e : Env} {s : State} {m : MethodId} {below : List Frame} {meth : Method} {c : Code} {b L : Nat} {xs : Nat → Int32} {G : hD} (C : h_C p l s m #[Value.ref b] meth c G (fun q : Nat => s.heap.size ≤ q) code 7 RL) (hX : va_X b L xs s s.heap) (hbl : b < s.heap.size) (hbA : ¬ s.heap.size ≤ b) (hL : L ≤ 2560) {x mo ou i cells slots : Nat} (hi5 : i + 5 ≤ L) (hc : cells + 6 ≤ 601024) (hs : slots + 41 ≤ 7293034) {w : hW} (hI : LWI G x mo ou w) (kk : ∀ w', LWI G x mo ou w' → h_G p l e room_1 s m #[Value.ref b] below meth c G (fun q : Nat => s.heap.size ≤ q) 7 (lw_Z below #[Value.ref b] s) w' (cells + 6) (slots + 41) 1259 [(0, .ref b), (1, .ref x), (2, .ref mo), (3, .ref ou), (4, .int (nI i))] []) : h_G p l e room_1 s m #[Value.ref b] below meth c G (fun q : Nat => s.heap.size ≤ q) 7 (lw_Z below #[Value.ref b] s) w cells slots 732 [(0, .ref b), (1, .ref x), (2, .ref mo), (3, .ref ou), (4, .int (nI i))] [] := by
  obtain ⟨pst, hH, hK⟩ := cc_place l G hI (xs (i + 1)) (xs (i + 2)) (xs (i + 3))
  first | refine g_aload_n C dL_law_732 rfl rfl ?_ | refine g_aload_nN C dL_law_732 rfl rfl ?_ | refine g_aload_nq C dL_law_732 rfl rfl ?_
  first | refine g_aload_n C dL_law_733 rfl rfl ?_ | refine g_aload_nN C dL_law_733 rfl rfl ?_ | refine g_aload_nq C dL_law_733 rfl rfl ?_
  refine g_iload C dL_law_734 rfl ?_
  refine g_iconst C (v := 1) dL_law_736 (by decide) ?_
  refine g_iadd C dL_law_737 ?_
  refine g_sld C hX hbl hbA dL_law_738 (nI_add i 1) (by omega) (by omega) ?_
  first | refine g_aload_n C dL_law_739 rfl rfl ?_ | refine g_aload_nN C dL_law_739 rfl rfl ?_ | refine g_aload_nq C dL_law_739 rfl rfl ?_
  refine g_iload C dL_law_740 rfl ?_
  refine g_iconst C (v := 2) dL_law_742 (by decide) ?_
  refine g_iadd C dL_law_743 ?_
  refine g_sld C hX hbl hbA dL_law_744 (nI_add i 2) (by omega) (by omega) ?_
  first | refine g_aload_n C dL_law_745 rfl rfl ?_ | refine g_aload_nN C dL_law_745 rfl rfl ?_ | refine g_aload_nq C dL_law_745 rfl rfl ?_
  refine g_iload C dL_law_746 rfl ?_
  refine g_iconst C (v := 3) dL_law_748 (by decide) ?_
  refine g_iadd C dL_law_749 ?_
  refine g_sld C hX hbl hbA dL_law_750 (nI_add i 3) (by omega) (by omega) ?_
  first | refine g_aload_n C dL_law_751 rfl rfl ?_ | refine g_aload_nN C dL_law_751 rfl rfl ?_ | refine g_aload_nq C dL_law_751 rfl rfl ?_
  refine g_callSW C [] dL_law_752 hH kmL_103 ks_L_place kn_L kc_L_place hy_L_place ⟨by decide, by decide⟩ rfl (Nat.le_of_ble_eq_true rfl) ⟨by show cells + 3 ≤ 601024; omega, by show slots + 18 ≤ 7293034; omega⟩ (fun v w1 hp => ?_)
  obtain ⟨k9, rfl, ⟨fsM, hm1⟩, pM, hM, hN⟩ := hK _ _ hp
  refine g_istore C dL_law_755 (by decide) ?_
  first | refine g_aload_n C dL_law_757 rfl rfl ?_ | refine g_aload_nN C dL_law_757 rfl rfl ?_ | refine g_aload_nq C dL_law_757 rfl rfl ?_
  first | refine g_aload_n C dL_law_758 rfl rfl ?_ | refine g_aload_nN C dL_law_758 rfl rfl ?_ | refine g_aload_nq C dL_law_758 rfl rfl ?_
  refine g_iload C dL_law_759 rfl ?_
  refine g_iconst C (v := 1) dL_law_761 (by decide) ?_
  refine g_iadd C dL_law_762 ?_
  refine g_sld C hX hbl hbA dL_law_763 (nI_add i 1) (by omega) (by omega) ?_
  first | refine g_aload_n C dL_law_764 rfl rfl ?_ | refine g_aload_nN C dL_law_764 rfl rfl ?_ | refine g_aload_nq C dL_law_764 rfl rfl ?_
  refine g_iload C dL_law_765 rfl ?_
  refine g_iconst C (v := 2) dL_law_767 (by decide) ?_
  refine g_iadd C dL_law_768 ?_
  refine g_sld C hX hbl hbA dL_law_769 (nI_add i 2) (by omega) (by omega) ?_
  first | refine g_aload_n C dL_law_770 rfl rfl ?_ | refine g_aload_nN C dL_law_770 rfl rfl ?_ | refine g_aload_nq C dL_law_770 rfl rfl ?_
  refine g_iload C dL_law_771 rfl ?_
  refine g_iconst C (v := 3) dL_law_773 (by decide) ?_
  refine g_iadd C dL_law_774 ?_
  refine g_sld C hX hbl hbA dL_law_775 (nI_add i 3) (by omega) (by omega) ?_
  refine g_callVn C [] dL_law_776 (hM) kmL_105 ki_X3_place kv_X3_place kn_X3 kc_X3_place hy_X3_place ⟨by decide, by decide⟩ hm1 rfl rfl (Nat.le_of_ble_eq_true rfl) ⟨by show cells + 3 + 0 ≤ 601024; omega, by show slots + 18 + 0 ≤ 7293034; omega⟩ (fun v w1 hp => ?_)
  obtain ⟨z9, rfl, hZ9, ⟨M2, n2, I2, B2, ord2, mny2, hR2⟩, hI2, ov2, ho2, hz⟩ := hN _ _ hp
  refine g_istore C dL_law_779 (by decide) ?_
  first | refine g_aload_n C dL_law_781 rfl rfl ?_ | refine g_aload_nN C dL_law_781 rfl rfl ?_ | refine g_aload_nq C dL_law_781 rfl rfl ?_
  refine g_callVn C [] dL_law_782 (c_X3_thrown l G _ _ _ _ _ _ _ _ _ hR2) kmL_75 ki_X3_thrown kv_X3_thrown kn_X3 kc_X3_thrown hy_X3_thrown ⟨by decide, by decide⟩ hR2.1 rfl rfl (Nat.le_of_ble_eq_true rfl) ⟨by show cells + 3 + 0 + 0 ≤ 601024; omega, by show slots + 18 + 0 + 0 ≤ 7293034; omega⟩ (fun v w1 hp => ?_)
  obtain ⟨rfl, hw1⟩ := hp
  have hw1 := hw1.symm
  subst hw1
  refine g_iload C dL_law_785 rfl ?_
  refine g_icmp_eq C 792 dL_law_787 (by decide) (fun _ => ?_) (fun c787 => absurd (rfl) c787)
  refine g_iload C dL_law_792 rfl ?_
  refine g_if_ne C 809 dL_law_794 (by decide) (fun c794 => ?_) (fun c794 => ?_)
  · refine g_goto C 1259 dL_law_809 (by decide) ?_
    refine g_drop [(0, .ref b), (1, .ref x), (2, .ref mo), (3, .ref ou), (4, .int (nI i))] _ rfl ?_
    refine g_widen (k := cells + 6) (n := slots + 41) (by show cells + 3 + 0 + 0 ≤ cells + 6; omega) (by show slots + 18 + 0 + 0 ≤ slots + 41; omega) (kk _ hI2)
  · have hz9 := hz c794
    first | refine g_aload_n C dL_law_797 rfl rfl ?_ | refine g_aload_nN C dL_law_797 rfl rfl ?_ | refine g_aload_nq C dL_law_797 rfl rfl ?_
    refine g_iconst C (v := 0) dL_law_798 (by decide) ?_
    refine g_laldN (k0 := 0) C dL_law_799 ho2 (by decide) (by decide) ?_
    refine g_iload C dL_law_800 rfl ?_
    refine g_i2l C dL_law_802 rfl ?_
    refine g_lcmp C dL_law_803 ?_
    refine g_if_eq C 809 dL_law_804 (by decide) (fun _ => ?_) (fun c804 => absurd (by rw [hz9]; exact cmp_eq _) c804)
    refine g_goto C 1259 dL_law_809 (by decide) ?_
    refine g_drop [(0, .ref b), (1, .ref x), (2, .ref mo), (3, .ref ou), (4, .int (nI i))] _ rfl ?_
    refine g_widen (k := cells + 6) (n := slots + 41) (by show cells + 3 + 0 + 0 ≤ cells + 6; omega) (by show slots + 18 + 0 + 0 ≤ slots + 41; omega) (kk _ hI2)
set_option maxHeartbeats 4000000 in
set_option maxRecDepth 100000 in
theorem law_order {p : Program} {l : Launch} {e : Env} {s : State} {m : MethodId} {below : List Frame} {meth : Method} {c : Code} {b L : Nat} {xs : Nat → Int32} {G : hD} (C : h_C p l s m #[Value.ref b] meth c G (fun q : Nat => s.heap.size ≤ q) code 7 RL) (hX : va_X b L xs s s.heap) (hbl : b < s.heap.size) (hbA : ¬ s.heap.size ≤ b) (hL : L ≤ 2560) {x mo ou i cells slots : Nat} (hi5 : i + 5 ≤ L) (hc : cells + 6 ≤ 601024) (hs : slots + 41 ≤ 7293034) {w : hW} (hI : LWI G x mo ou w) (kk : ∀ w', LWI G x mo ou w' → h_G p l e room_1 s m #[Value.ref b] below meth c G (fun q : Nat => s.heap.size ≤ q) 7 (lw_Z below #[Value.ref b] s) w' (cells + 6) (slots + 41) 1259 [(0, .ref b), (1, .ref x), (2, .ref mo), (3, .ref ou), (4, .int (nI i))] []) : h_G p l e room_1 s m #[Value.ref b] below meth c G (fun q : Nat => s.heap.size ≤ q) 7 (lw_Z below #[Value.ref b] s) w cells slots 812 [(0, .ref b), (1, .ref x), (2, .ref mo), (3, .ref ou), (4, .int (nI i))] [] := by
  obtain ⟨pst, hH, hK⟩ := cc_order l G hI (xs (i + 1)) (xs (i + 2)) (xs (i + 3))
  first | refine g_aload_n C dL_law_812 rfl rfl ?_ | refine g_aload_nN C dL_law_812 rfl rfl ?_ | refine g_aload_nq C dL_law_812 rfl rfl ?_
  first | refine g_aload_n C dL_law_813 rfl rfl ?_ | refine g_aload_nN C dL_law_813 rfl rfl ?_ | refine g_aload_nq C dL_law_813 rfl rfl ?_
  refine g_iload C dL_law_814 rfl ?_
  refine g_iconst C (v := 1) dL_law_816 (by decide) ?_
  refine g_iadd C dL_law_817 ?_
  refine g_sld C hX hbl hbA dL_law_818 (nI_add i 1) (by omega) (by omega) ?_
  first | refine g_aload_n C dL_law_819 rfl rfl ?_ | refine g_aload_nN C dL_law_819 rfl rfl ?_ | refine g_aload_nq C dL_law_819 rfl rfl ?_
  refine g_iload C dL_law_820 rfl ?_
  refine g_iconst C (v := 2) dL_law_822 (by decide) ?_
  refine g_iadd C dL_law_823 ?_
  refine g_sld C hX hbl hbA dL_law_824 (nI_add i 2) (by omega) (by omega) ?_
  first | refine g_aload_n C dL_law_825 rfl rfl ?_ | refine g_aload_nN C dL_law_825 rfl rfl ?_ | refine g_aload_nq C dL_law_825 rfl rfl ?_
  refine g_iload C dL_law_826 rfl ?_
  refine g_iconst C (v := 3) dL_law_828 (by decide) ?_
  refine g_iadd C dL_law_829 ?_
  refine g_sld C hX hbl hbA dL_law_830 (nI_add i 3) (by omega) (by omega) ?_
  first | refine g_aload_n C dL_law_831 rfl rfl ?_ | refine g_aload_nN C dL_law_831 rfl rfl ?_ | refine g_aload_nq C dL_law_831 rfl rfl ?_
  refine g_callSW C [] dL_law_832 hH kmL_106 ks_L_order kn_L kc_L_order hy_L_order ⟨by decide, by decide⟩ rfl (Nat.le_of_ble_eq_true rfl) ⟨by show cells + 3 ≤ 601024; omega, by show slots + 18 ≤ 7293034; omega⟩ (fun v w1 hp => ?_)
  obtain ⟨k9, rfl, ⟨fsM, hm1⟩, pM, hM, hN⟩ := hK _ _ hp
  refine g_istore C dL_law_835 (by decide) ?_
  first | refine g_aload_n C dL_law_837 rfl rfl ?_ | refine g_aload_nN C dL_law_837 rfl rfl ?_ | refine g_aload_nq C dL_law_837 rfl rfl ?_
  first | refine g_aload_n C dL_law_838 rfl rfl ?_ | refine g_aload_nN C dL_law_838 rfl rfl ?_ | refine g_aload_nq C dL_law_838 rfl rfl ?_
  refine g_iload C dL_law_839 rfl ?_
  refine g_iconst C (v := 1) dL_law_841 (by decide) ?_
  refine g_iadd C dL_law_842 ?_
  refine g_sld C hX hbl hbA dL_law_843 (nI_add i 1) (by omega) (by omega) ?_
  first | refine g_aload_n C dL_law_844 rfl rfl ?_ | refine g_aload_nN C dL_law_844 rfl rfl ?_ | refine g_aload_nq C dL_law_844 rfl rfl ?_
  refine g_iload C dL_law_845 rfl ?_
  refine g_iconst C (v := 2) dL_law_847 (by decide) ?_
  refine g_iadd C dL_law_848 ?_
  refine g_sld C hX hbl hbA dL_law_849 (nI_add i 2) (by omega) (by omega) ?_
  first | refine g_aload_n C dL_law_850 rfl rfl ?_ | refine g_aload_nN C dL_law_850 rfl rfl ?_ | refine g_aload_nq C dL_law_850 rfl rfl ?_
  refine g_iload C dL_law_851 rfl ?_
  refine g_iconst C (v := 3) dL_law_853 (by decide) ?_
  refine g_iadd C dL_law_854 ?_
  refine g_sld C hX hbl hbA dL_law_855 (nI_add i 3) (by omega) (by omega) ?_
  refine g_callVn C [] dL_law_856 (hM) kmL_108 ki_X3_order kv_X3_order kn_X3 kc_X3_order hy_X3_order ⟨by decide, by decide⟩ hm1 rfl rfl (Nat.le_of_ble_eq_true rfl) ⟨by show cells + 3 + 0 ≤ 601024; omega, by show slots + 18 + 0 ≤ 7293034; omega⟩ (fun v w1 hp => ?_)
  obtain ⟨z9, rfl, hZ9, ⟨M2, n2, I2, B2, ord2, mny2, hR2⟩, hI2, ov2, ho2, hz⟩ := hN _ _ hp
  refine g_istore C dL_law_859 (by decide) ?_
  first | refine g_aload_n C dL_law_861 rfl rfl ?_ | refine g_aload_nN C dL_law_861 rfl rfl ?_ | refine g_aload_nq C dL_law_861 rfl rfl ?_
  refine g_callVn C [] dL_law_862 (c_X3_thrown l G _ _ _ _ _ _ _ _ _ hR2) kmL_75 ki_X3_thrown kv_X3_thrown kn_X3 kc_X3_thrown hy_X3_thrown ⟨by decide, by decide⟩ hR2.1 rfl rfl (Nat.le_of_ble_eq_true rfl) ⟨by show cells + 3 + 0 + 0 ≤ 601024; omega, by show slots + 18 + 0 + 0 ≤ 7293034; omega⟩ (fun v w1 hp => ?_)
  obtain ⟨rfl, hw1⟩ := hp
  have hw1 := hw1.symm
  subst hw1
  refine g_iload C dL_law_865 rfl ?_
  refine g_icmp_eq C 872 dL_law_867 (by decide) (fun _ => ?_) (fun c867 => absurd (rfl) c867)
  refine g_iload C dL_law_872 rfl ?_
  refine g_if_ne C 889 dL_law_874 (by decide) (fun c874 => ?_) (fun c874 => ?_)
  · refine g_goto C 1259 dL_law_889 (by decide) ?_
    refine g_drop [(0, .ref b), (1, .ref x), (2, .ref mo), (3, .ref ou), (4, .int (nI i))] _ rfl ?_
    refine g_widen (k := cells + 6) (n := slots + 41) (by show cells + 3 + 0 + 0 ≤ cells + 6; omega) (by show slots + 18 + 0 + 0 ≤ slots + 41; omega) (kk _ hI2)
  · have hz9 := hz c874
    first | refine g_aload_n C dL_law_877 rfl rfl ?_ | refine g_aload_nN C dL_law_877 rfl rfl ?_ | refine g_aload_nq C dL_law_877 rfl rfl ?_
    refine g_iconst C (v := 0) dL_law_878 (by decide) ?_
    refine g_laldN (k0 := 0) C dL_law_879 ho2 (by decide) (by decide) ?_
    refine g_iload C dL_law_880 rfl ?_
    refine g_i2l C dL_law_882 rfl ?_
    refine g_lcmp C dL_law_883 ?_
    refine g_if_eq C 889 dL_law_884 (by decide) (fun _ => ?_) (fun c884 => absurd (by rw [hz9]; exact cmp_eq _) c884)
    refine g_goto C 1259 dL_law_889 (by decide) ?_
    refine g_drop [(0, .ref b), (1, .ref x), (2, .ref mo), (3, .ref ou), (4, .int (nI i))] _ rfl ?_
    refine g_widen (k := cells + 6) (n := slots + 41) (by show cells + 3 + 0 + 0 ≤ cells + 6; omega) (by show slots + 18 + 0 + 0 ≤ slots + 41; omega) (kk _ hI2)
set_option maxHeartbeats 4000000 in
set_option maxRecDepth 100000 in
theorem law_open {p : Program} {l : Launch} {e : Env} {s : State} {m : MethodId} {below : List Frame} {meth : Method} {c : Code} {b L : Nat} {xs : Nat → Int32} {G : hD} (C : h_C p l s m #[Value.ref b] meth c G (fun q : Nat => s.heap.size ≤ q) code 7 RL) (hX : va_X b L xs s s.heap) (hbl : b < s.heap.size) (hbA : ¬ s.heap.size ≤ b) (hL : L ≤ 2560) {x mo ou i cells slots : Nat} (hi5 : i + 5 ≤ L) (hc : cells + 6 ≤ 601024) (hs : slots + 41 ≤ 7293034) {w : hW} (hI : LWI G x mo ou w) (kk : ∀ w', LWI G x mo ou w' → h_G p l e room_1 s m #[Value.ref b] below meth c G (fun q : Nat => s.heap.size ≤ q) 7 (lw_Z below #[Value.ref b] s) w' (cells + 6) (slots + 41) 1259 [(0, .ref b), (1, .ref x), (2, .ref mo), (3, .ref ou), (4, .int (nI i))] []) : h_G p l e room_1 s m #[Value.ref b] below meth c G (fun q : Nat => s.heap.size ≤ q) 7 (lw_Z below #[Value.ref b] s) w cells slots 892 [(0, .ref b), (1, .ref x), (2, .ref mo), (3, .ref ou), (4, .int (nI i))] [] := by
  obtain ⟨pst, hH, hK⟩ := cc_open l G hI (xs (i + 1)) (xs (i + 2))
  first | refine g_aload_n C dL_law_892 rfl rfl ?_ | refine g_aload_nN C dL_law_892 rfl rfl ?_ | refine g_aload_nq C dL_law_892 rfl rfl ?_
  first | refine g_aload_n C dL_law_893 rfl rfl ?_ | refine g_aload_nN C dL_law_893 rfl rfl ?_ | refine g_aload_nq C dL_law_893 rfl rfl ?_
  refine g_iload C dL_law_894 rfl ?_
  refine g_iconst C (v := 1) dL_law_896 (by decide) ?_
  refine g_iadd C dL_law_897 ?_
  refine g_sld C hX hbl hbA dL_law_898 (nI_add i 1) (by omega) (by omega) ?_
  first | refine g_aload_n C dL_law_899 rfl rfl ?_ | refine g_aload_nN C dL_law_899 rfl rfl ?_ | refine g_aload_nq C dL_law_899 rfl rfl ?_
  refine g_iload C dL_law_900 rfl ?_
  refine g_iconst C (v := 2) dL_law_902 (by decide) ?_
  refine g_iadd C dL_law_903 ?_
  refine g_sld C hX hbl hbA dL_law_904 (nI_add i 2) (by omega) (by omega) ?_
  first | refine g_aload_n C dL_law_905 rfl rfl ?_ | refine g_aload_nN C dL_law_905 rfl rfl ?_ | refine g_aload_nq C dL_law_905 rfl rfl ?_
  refine g_callSW C [] dL_law_906 hH kmL_109 ks_L_open kn_L kc_L_open hy_L_open ⟨by decide, by decide⟩ rfl (Nat.le_of_ble_eq_true rfl) ⟨by show cells + 2 ≤ 601024; omega, by show slots + 12 ≤ 7293034; omega⟩ (fun v w1 hp => ?_)
  obtain ⟨k9, rfl, ⟨fsM, hm1⟩, pM, hM, hN⟩ := hK _ _ hp
  refine g_istore C dL_law_909 (by decide) ?_
  first | refine g_aload_n C dL_law_911 rfl rfl ?_ | refine g_aload_nN C dL_law_911 rfl rfl ?_ | refine g_aload_nq C dL_law_911 rfl rfl ?_
  first | refine g_aload_n C dL_law_912 rfl rfl ?_ | refine g_aload_nN C dL_law_912 rfl rfl ?_ | refine g_aload_nq C dL_law_912 rfl rfl ?_
  refine g_iload C dL_law_913 rfl ?_
  refine g_iconst C (v := 1) dL_law_915 (by decide) ?_
  refine g_iadd C dL_law_916 ?_
  refine g_sld C hX hbl hbA dL_law_917 (nI_add i 1) (by omega) (by omega) ?_
  first | refine g_aload_n C dL_law_918 rfl rfl ?_ | refine g_aload_nN C dL_law_918 rfl rfl ?_ | refine g_aload_nq C dL_law_918 rfl rfl ?_
  refine g_iload C dL_law_919 rfl ?_
  refine g_iconst C (v := 2) dL_law_921 (by decide) ?_
  refine g_iadd C dL_law_922 ?_
  refine g_sld C hX hbl hbA dL_law_923 (nI_add i 2) (by omega) (by omega) ?_
  refine g_callVn C [] dL_law_924 (hM) kmL_111 ki_X3_open kv_X3_open kn_X3 kc_X3_open hy_X3_open ⟨by decide, by decide⟩ hm1 rfl rfl (Nat.le_of_ble_eq_true rfl) ⟨by show cells + 2 + 0 ≤ 601024; omega, by show slots + 12 + 0 ≤ 7293034; omega⟩ (fun v w1 hp => ?_)
  obtain ⟨z9, rfl, hZ9, ⟨M2, n2, I2, B2, ord2, mny2, hR2⟩, hI2, ov2, ho2, hz⟩ := hN _ _ hp
  refine g_istore C dL_law_927 (by decide) ?_
  first | refine g_aload_n C dL_law_929 rfl rfl ?_ | refine g_aload_nN C dL_law_929 rfl rfl ?_ | refine g_aload_nq C dL_law_929 rfl rfl ?_
  refine g_callVn C [] dL_law_930 (c_X3_thrown l G _ _ _ _ _ _ _ _ _ hR2) kmL_75 ki_X3_thrown kv_X3_thrown kn_X3 kc_X3_thrown hy_X3_thrown ⟨by decide, by decide⟩ hR2.1 rfl rfl (Nat.le_of_ble_eq_true rfl) ⟨by show cells + 2 + 0 + 0 ≤ 601024; omega, by show slots + 12 + 0 + 0 ≤ 7293034; omega⟩ (fun v w1 hp => ?_)
  obtain ⟨rfl, hw1⟩ := hp
  have hw1 := hw1.symm
  subst hw1
  refine g_iload C dL_law_933 rfl ?_
  refine g_icmp_eq C 940 dL_law_935 (by decide) (fun _ => ?_) (fun c935 => absurd (rfl) c935)
  refine g_iload C dL_law_940 rfl ?_
  refine g_if_ne C 957 dL_law_942 (by decide) (fun c942 => ?_) (fun c942 => ?_)
  · refine g_goto C 1259 dL_law_957 (by decide) ?_
    refine g_drop [(0, .ref b), (1, .ref x), (2, .ref mo), (3, .ref ou), (4, .int (nI i))] _ rfl ?_
    refine g_widen (k := cells + 6) (n := slots + 41) (by show cells + 2 + 0 + 0 ≤ cells + 6; omega) (by show slots + 12 + 0 + 0 ≤ slots + 41; omega) (kk _ hI2)
  · have hz9 := hz c942
    first | refine g_aload_n C dL_law_945 rfl rfl ?_ | refine g_aload_nN C dL_law_945 rfl rfl ?_ | refine g_aload_nq C dL_law_945 rfl rfl ?_
    refine g_iconst C (v := 0) dL_law_946 (by decide) ?_
    refine g_laldN (k0 := 0) C dL_law_947 ho2 (by decide) (by decide) ?_
    refine g_iload C dL_law_948 rfl ?_
    refine g_i2l C dL_law_950 rfl ?_
    refine g_lcmp C dL_law_951 ?_
    refine g_if_eq C 957 dL_law_952 (by decide) (fun _ => ?_) (fun c952 => absurd (by rw [hz9]; exact cmp_eq _) c952)
    refine g_goto C 1259 dL_law_957 (by decide) ?_
    refine g_drop [(0, .ref b), (1, .ref x), (2, .ref mo), (3, .ref ou), (4, .int (nI i))] _ rfl ?_
    refine g_widen (k := cells + 6) (n := slots + 41) (by show cells + 2 + 0 + 0 ≤ cells + 6; omega) (by show slots + 12 + 0 + 0 ≤ slots + 41; omega) (kk _ hI2)
set_option maxHeartbeats 4000000 in
set_option maxRecDepth 100000 in
theorem law_knows {p : Program} {l : Launch} {e : Env} {s : State} {m : MethodId} {below : List Frame} {meth : Method} {c : Code} {b L : Nat} {xs : Nat → Int32} {G : hD} (C : h_C p l s m #[Value.ref b] meth c G (fun q : Nat => s.heap.size ≤ q) code 7 RL) (hX : va_X b L xs s s.heap) (hbl : b < s.heap.size) (hbA : ¬ s.heap.size ≤ b) (hL : L ≤ 2560) {x mo ou i cells slots : Nat} (hi5 : i + 5 ≤ L) (hc : cells + 6 ≤ 601024) (hs : slots + 41 ≤ 7293034) {w : hW} (hI : LWI G x mo ou w) (kk : ∀ w', LWI G x mo ou w' → h_G p l e room_1 s m #[Value.ref b] below meth c G (fun q : Nat => s.heap.size ≤ q) 7 (lw_Z below #[Value.ref b] s) w' (cells + 6) (slots + 41) 1259 [(0, .ref b), (1, .ref x), (2, .ref mo), (3, .ref ou), (4, .int (nI i))] []) : h_G p l e room_1 s m #[Value.ref b] below meth c G (fun q : Nat => s.heap.size ≤ q) 7 (lw_Z below #[Value.ref b] s) w cells slots 960 [(0, .ref b), (1, .ref x), (2, .ref mo), (3, .ref ou), (4, .int (nI i))] [] := by
  obtain ⟨pst, hH, hK⟩ := cc_knows l G hI (xs (i + 1)) (xs (i + 2))
  first | refine g_aload_n C dL_law_960 rfl rfl ?_ | refine g_aload_nN C dL_law_960 rfl rfl ?_ | refine g_aload_nq C dL_law_960 rfl rfl ?_
  first | refine g_aload_n C dL_law_961 rfl rfl ?_ | refine g_aload_nN C dL_law_961 rfl rfl ?_ | refine g_aload_nq C dL_law_961 rfl rfl ?_
  refine g_iload C dL_law_962 rfl ?_
  refine g_iconst C (v := 1) dL_law_964 (by decide) ?_
  refine g_iadd C dL_law_965 ?_
  refine g_sld C hX hbl hbA dL_law_966 (nI_add i 1) (by omega) (by omega) ?_
  first | refine g_aload_n C dL_law_967 rfl rfl ?_ | refine g_aload_nN C dL_law_967 rfl rfl ?_ | refine g_aload_nq C dL_law_967 rfl rfl ?_
  refine g_iload C dL_law_968 rfl ?_
  refine g_iconst C (v := 2) dL_law_970 (by decide) ?_
  refine g_iadd C dL_law_971 ?_
  refine g_sld C hX hbl hbA dL_law_972 (nI_add i 2) (by omega) (by omega) ?_
  first | refine g_aload_n C dL_law_973 rfl rfl ?_ | refine g_aload_nN C dL_law_973 rfl rfl ?_ | refine g_aload_nq C dL_law_973 rfl rfl ?_
  refine g_callSW C [] dL_law_974 hH kmL_112 ks_L_knows kn_L kc_L_knows hy_L_knows ⟨by decide, by decide⟩ rfl (Nat.le_of_ble_eq_true rfl) ⟨by show cells + 2 ≤ 601024; omega, by show slots + 12 ≤ 7293034; omega⟩ (fun v w1 hp => ?_)
  obtain ⟨k9, rfl, ⟨fsM, hm1⟩, pM, hM, hN⟩ := hK _ _ hp
  refine g_istore C dL_law_977 (by decide) ?_
  first | refine g_aload_n C dL_law_979 rfl rfl ?_ | refine g_aload_nN C dL_law_979 rfl rfl ?_ | refine g_aload_nq C dL_law_979 rfl rfl ?_
  first | refine g_aload_n C dL_law_980 rfl rfl ?_ | refine g_aload_nN C dL_law_980 rfl rfl ?_ | refine g_aload_nq C dL_law_980 rfl rfl ?_
  refine g_iload C dL_law_981 rfl ?_
  refine g_iconst C (v := 1) dL_law_983 (by decide) ?_
  refine g_iadd C dL_law_984 ?_
  refine g_sld C hX hbl hbA dL_law_985 (nI_add i 1) (by omega) (by omega) ?_
  first | refine g_aload_n C dL_law_986 rfl rfl ?_ | refine g_aload_nN C dL_law_986 rfl rfl ?_ | refine g_aload_nq C dL_law_986 rfl rfl ?_
  refine g_iload C dL_law_987 rfl ?_
  refine g_iconst C (v := 2) dL_law_989 (by decide) ?_
  refine g_iadd C dL_law_990 ?_
  refine g_sld C hX hbl hbA dL_law_991 (nI_add i 2) (by omega) (by omega) ?_
  refine g_callVn C [] dL_law_992 (hM) kmL_114 ki_X3_knows kv_X3_knows kn_X3 kc_X3_knows hy_X3_knows ⟨by decide, by decide⟩ hm1 rfl rfl (Nat.le_of_ble_eq_true rfl) ⟨by show cells + 2 + 0 ≤ 601024; omega, by show slots + 12 + 0 ≤ 7293034; omega⟩ (fun v w1 hp => ?_)
  obtain ⟨z9, rfl, hZ9, ⟨M2, n2, I2, B2, ord2, mny2, hR2⟩, hI2, ov2, ho2, hz⟩ := hN _ _ hp
  refine g_istore C dL_law_995 (by decide) ?_
  first | refine g_aload_n C dL_law_997 rfl rfl ?_ | refine g_aload_nN C dL_law_997 rfl rfl ?_ | refine g_aload_nq C dL_law_997 rfl rfl ?_
  refine g_callVn C [] dL_law_998 (c_X3_thrown l G _ _ _ _ _ _ _ _ _ hR2) kmL_75 ki_X3_thrown kv_X3_thrown kn_X3 kc_X3_thrown hy_X3_thrown ⟨by decide, by decide⟩ hR2.1 rfl rfl (Nat.le_of_ble_eq_true rfl) ⟨by show cells + 2 + 0 + 0 ≤ 601024; omega, by show slots + 12 + 0 + 0 ≤ 7293034; omega⟩ (fun v w1 hp => ?_)
  obtain ⟨rfl, hw1⟩ := hp
  have hw1 := hw1.symm
  subst hw1
  refine g_iload C dL_law_1001 rfl ?_
  refine g_icmp_eq C 1008 dL_law_1003 (by decide) (fun _ => ?_) (fun c1003 => absurd (rfl) c1003)
  refine g_iload C dL_law_1008 rfl ?_
  refine g_if_ne C 1032 dL_law_1010 (by decide) (fun c1010 => ?_) (fun c1010 => ?_)
  · refine g_goto C 1259 dL_law_1032 (by decide) ?_
    refine g_drop [(0, .ref b), (1, .ref x), (2, .ref mo), (3, .ref ou), (4, .int (nI i))] _ rfl ?_
    refine g_widen (k := cells + 6) (n := slots + 41) (by show cells + 2 + 0 + 0 ≤ cells + 6; omega) (by show slots + 12 + 0 + 0 ≤ slots + 41; omega) (kk _ hI2)
  · have hz9 := hz c1010
    rcases hZ9 with hz0 | hz0
    · subst hz0
      first | refine g_aload_n C dL_law_1013 rfl rfl ?_ | refine g_aload_nN C dL_law_1013 rfl rfl ?_ | refine g_aload_nq C dL_law_1013 rfl rfl ?_
      refine g_iconst C (v := 0) dL_law_1014 (by decide) ?_
      refine g_laldN (k0 := 0) C dL_law_1015 ho2 (by decide) (by decide) ?_
      refine g_iload C dL_law_1016 rfl ?_
      refine g_if_eq C 1025 dL_law_1018 (by decide) (fun _ => ?_) (fun c1018 => absurd (rfl) c1018)
      refine g_lconst C (v := 0) dL_law_1025 (by decide) ?_
      refine g_lcmp C dL_law_1026 ?_
      refine g_if_eq C 1032 dL_law_1027 (by decide) (fun _ => ?_) (fun c1027 => absurd (by rw [hz9]; exact cmp_eq _) c1027)
      refine g_goto C 1259 dL_law_1032 (by decide) ?_
      refine g_drop [(0, .ref b), (1, .ref x), (2, .ref mo), (3, .ref ou), (4, .int (nI i))] _ rfl ?_
      refine g_widen (k := cells + 6) (n := slots + 41) (by show cells + 2 + 0 + 0 ≤ cells + 6; omega) (by show slots + 12 + 0 + 0 ≤ slots + 41; omega) (kk _ hI2)
    · subst hz0
      first | refine g_aload_n C dL_law_1013 rfl rfl ?_ | refine g_aload_nN C dL_law_1013 rfl rfl ?_ | refine g_aload_nq C dL_law_1013 rfl rfl ?_
      refine g_iconst C (v := 0) dL_law_1014 (by decide) ?_
      refine g_laldN (k0 := 0) C dL_law_1015 ho2 (by decide) (by decide) ?_
      refine g_iload C dL_law_1016 rfl ?_
      refine g_if_eq C 1025 dL_law_1018 (by decide) (fun c1018 => absurd c1018 (by decide)) (fun _ => ?_)
      refine g_lconst C (v := 1) dL_law_1021 (by decide) ?_
      refine g_goto C 1026 dL_law_1022 (by decide) ?_
      refine g_lcmp C dL_law_1026 ?_
      refine g_if_eq C 1032 dL_law_1027 (by decide) (fun _ => ?_) (fun c1027 => absurd (by rw [hz9]; exact cmp_eq _) c1027)
      refine g_goto C 1259 dL_law_1032 (by decide) ?_
      refine g_drop [(0, .ref b), (1, .ref x), (2, .ref mo), (3, .ref ou), (4, .int (nI i))] _ rfl ?_
      refine g_widen (k := cells + 6) (n := slots + 41) (by show cells + 2 + 0 + 0 ≤ cells + 6; omega) (by show slots + 12 + 0 + 0 ≤ slots + 41; omega) (kk _ hI2)
set_option maxHeartbeats 4000000 in
set_option maxRecDepth 100000 in
theorem law_equal {p : Program} {l : Launch} {e : Env} {s : State} {m : MethodId} {below : List Frame} {meth : Method} {c : Code} {b L : Nat} {xs : Nat → Int32} {G : hD} (C : h_C p l s m #[Value.ref b] meth c G (fun q : Nat => s.heap.size ≤ q) code 7 RL) (hX : va_X b L xs s s.heap) (hbl : b < s.heap.size) (hbA : ¬ s.heap.size ≤ b) (hL : L ≤ 2560) {x mo ou i cells slots : Nat} (hi5 : i + 5 ≤ L) (hc : cells + 6 ≤ 601024) (hs : slots + 41 ≤ 7293034) {w : hW} (hI : LWI G x mo ou w) (kk : ∀ w', LWI G x mo ou w' → h_G p l e room_1 s m #[Value.ref b] below meth c G (fun q : Nat => s.heap.size ≤ q) 7 (lw_Z below #[Value.ref b] s) w' (cells + 6) (slots + 41) 1259 [(0, .ref b), (1, .ref x), (2, .ref mo), (3, .ref ou), (4, .int (nI i))] []) : h_G p l e room_1 s m #[Value.ref b] below meth c G (fun q : Nat => s.heap.size ≤ q) 7 (lw_Z below #[Value.ref b] s) w cells slots 1035 [(0, .ref b), (1, .ref x), (2, .ref mo), (3, .ref ou), (4, .int (nI i))] [] := by
  obtain ⟨pst, hH, hK⟩ := cc_equal l G hI (xs (i + 1)) (xs (i + 2))
  first | refine g_aload_n C dL_law_1035 rfl rfl ?_ | refine g_aload_nN C dL_law_1035 rfl rfl ?_ | refine g_aload_nq C dL_law_1035 rfl rfl ?_
  first | refine g_aload_n C dL_law_1036 rfl rfl ?_ | refine g_aload_nN C dL_law_1036 rfl rfl ?_ | refine g_aload_nq C dL_law_1036 rfl rfl ?_
  refine g_iload C dL_law_1037 rfl ?_
  refine g_iconst C (v := 1) dL_law_1039 (by decide) ?_
  refine g_iadd C dL_law_1040 ?_
  refine g_sld C hX hbl hbA dL_law_1041 (nI_add i 1) (by omega) (by omega) ?_
  first | refine g_aload_n C dL_law_1042 rfl rfl ?_ | refine g_aload_nN C dL_law_1042 rfl rfl ?_ | refine g_aload_nq C dL_law_1042 rfl rfl ?_
  refine g_iload C dL_law_1043 rfl ?_
  refine g_iconst C (v := 2) dL_law_1045 (by decide) ?_
  refine g_iadd C dL_law_1046 ?_
  refine g_sld C hX hbl hbA dL_law_1047 (nI_add i 2) (by omega) (by omega) ?_
  first | refine g_aload_n C dL_law_1048 rfl rfl ?_ | refine g_aload_nN C dL_law_1048 rfl rfl ?_ | refine g_aload_nq C dL_law_1048 rfl rfl ?_
  refine g_callSW C [] dL_law_1049 hH kmL_115 ks_L_equal kn_L kc_L_equal hy_L_equal ⟨by decide, by decide⟩ rfl (Nat.le_of_ble_eq_true rfl) ⟨by show cells + 2 ≤ 601024; omega, by show slots + 12 ≤ 7293034; omega⟩ (fun v w1 hp => ?_)
  obtain ⟨k9, rfl, ⟨fsM, hm1⟩, pM, hM, hN⟩ := hK _ _ hp
  refine g_istore C dL_law_1052 (by decide) ?_
  first | refine g_aload_n C dL_law_1054 rfl rfl ?_ | refine g_aload_nN C dL_law_1054 rfl rfl ?_ | refine g_aload_nq C dL_law_1054 rfl rfl ?_
  first | refine g_aload_n C dL_law_1055 rfl rfl ?_ | refine g_aload_nN C dL_law_1055 rfl rfl ?_ | refine g_aload_nq C dL_law_1055 rfl rfl ?_
  refine g_iload C dL_law_1056 rfl ?_
  refine g_iconst C (v := 1) dL_law_1058 (by decide) ?_
  refine g_iadd C dL_law_1059 ?_
  refine g_sld C hX hbl hbA dL_law_1060 (nI_add i 1) (by omega) (by omega) ?_
  first | refine g_aload_n C dL_law_1061 rfl rfl ?_ | refine g_aload_nN C dL_law_1061 rfl rfl ?_ | refine g_aload_nq C dL_law_1061 rfl rfl ?_
  refine g_iload C dL_law_1062 rfl ?_
  refine g_iconst C (v := 2) dL_law_1064 (by decide) ?_
  refine g_iadd C dL_law_1065 ?_
  refine g_sld C hX hbl hbA dL_law_1066 (nI_add i 2) (by omega) (by omega) ?_
  refine g_callVn C [] dL_law_1067 (hM) kmL_117 ki_X3_equal kv_X3_equal kn_X3 kc_X3_equal hy_X3_equal ⟨by decide, by decide⟩ hm1 rfl rfl (Nat.le_of_ble_eq_true rfl) ⟨by show cells + 2 + 0 ≤ 601024; omega, by show slots + 12 + 0 ≤ 7293034; omega⟩ (fun v w1 hp => ?_)
  obtain ⟨z9, rfl, hZ9, ⟨M2, n2, I2, B2, ord2, mny2, hR2⟩, hI2, ov2, ho2, hz⟩ := hN _ _ hp
  refine g_istore C dL_law_1070 (by decide) ?_
  first | refine g_aload_n C dL_law_1072 rfl rfl ?_ | refine g_aload_nN C dL_law_1072 rfl rfl ?_ | refine g_aload_nq C dL_law_1072 rfl rfl ?_
  refine g_callVn C [] dL_law_1073 (c_X3_thrown l G _ _ _ _ _ _ _ _ _ hR2) kmL_75 ki_X3_thrown kv_X3_thrown kn_X3 kc_X3_thrown hy_X3_thrown ⟨by decide, by decide⟩ hR2.1 rfl rfl (Nat.le_of_ble_eq_true rfl) ⟨by show cells + 2 + 0 + 0 ≤ 601024; omega, by show slots + 12 + 0 + 0 ≤ 7293034; omega⟩ (fun v w1 hp => ?_)
  obtain ⟨rfl, hw1⟩ := hp
  have hw1 := hw1.symm
  subst hw1
  refine g_iload C dL_law_1076 rfl ?_
  refine g_icmp_eq C 1083 dL_law_1078 (by decide) (fun _ => ?_) (fun c1078 => absurd (rfl) c1078)
  refine g_iload C dL_law_1083 rfl ?_
  refine g_if_ne C 1107 dL_law_1085 (by decide) (fun c1085 => ?_) (fun c1085 => ?_)
  · refine g_goto C 1259 dL_law_1107 (by decide) ?_
    refine g_drop [(0, .ref b), (1, .ref x), (2, .ref mo), (3, .ref ou), (4, .int (nI i))] _ rfl ?_
    refine g_widen (k := cells + 6) (n := slots + 41) (by show cells + 2 + 0 + 0 ≤ cells + 6; omega) (by show slots + 12 + 0 + 0 ≤ slots + 41; omega) (kk _ hI2)
  · have hz9 := hz c1085
    rcases hZ9 with hz0 | hz0
    · subst hz0
      first | refine g_aload_n C dL_law_1088 rfl rfl ?_ | refine g_aload_nN C dL_law_1088 rfl rfl ?_ | refine g_aload_nq C dL_law_1088 rfl rfl ?_
      refine g_iconst C (v := 0) dL_law_1089 (by decide) ?_
      refine g_laldN (k0 := 0) C dL_law_1090 ho2 (by decide) (by decide) ?_
      refine g_iload C dL_law_1091 rfl ?_
      refine g_if_eq C 1100 dL_law_1093 (by decide) (fun _ => ?_) (fun c1093 => absurd (rfl) c1093)
      refine g_lconst C (v := 0) dL_law_1100 (by decide) ?_
      refine g_lcmp C dL_law_1101 ?_
      refine g_if_eq C 1107 dL_law_1102 (by decide) (fun _ => ?_) (fun c1102 => absurd (by rw [hz9]; exact cmp_eq _) c1102)
      refine g_goto C 1259 dL_law_1107 (by decide) ?_
      refine g_drop [(0, .ref b), (1, .ref x), (2, .ref mo), (3, .ref ou), (4, .int (nI i))] _ rfl ?_
      refine g_widen (k := cells + 6) (n := slots + 41) (by show cells + 2 + 0 + 0 ≤ cells + 6; omega) (by show slots + 12 + 0 + 0 ≤ slots + 41; omega) (kk _ hI2)
    · subst hz0
      first | refine g_aload_n C dL_law_1088 rfl rfl ?_ | refine g_aload_nN C dL_law_1088 rfl rfl ?_ | refine g_aload_nq C dL_law_1088 rfl rfl ?_
      refine g_iconst C (v := 0) dL_law_1089 (by decide) ?_
      refine g_laldN (k0 := 0) C dL_law_1090 ho2 (by decide) (by decide) ?_
      refine g_iload C dL_law_1091 rfl ?_
      refine g_if_eq C 1100 dL_law_1093 (by decide) (fun c1093 => absurd c1093 (by decide)) (fun _ => ?_)
      refine g_lconst C (v := 1) dL_law_1096 (by decide) ?_
      refine g_goto C 1101 dL_law_1097 (by decide) ?_
      refine g_lcmp C dL_law_1101 ?_
      refine g_if_eq C 1107 dL_law_1102 (by decide) (fun _ => ?_) (fun c1102 => absurd (by rw [hz9]; exact cmp_eq _) c1102)
      refine g_goto C 1259 dL_law_1107 (by decide) ?_
      refine g_drop [(0, .ref b), (1, .ref x), (2, .ref mo), (3, .ref ou), (4, .int (nI i))] _ rfl ?_
      refine g_widen (k := cells + 6) (n := slots + 41) (by show cells + 2 + 0 + 0 ≤ cells + 6; omega) (by show slots + 12 + 0 + 0 ≤ slots + 41; omega) (kk _ hI2)
set_option maxHeartbeats 4000000 in
set_option maxRecDepth 100000 in
theorem law_compact {p : Program} {l : Launch} {e : Env} {s : State} {m : MethodId} {below : List Frame} {meth : Method} {c : Code} {b L : Nat} {xs : Nat → Int32} {G : hD} (C : h_C p l s m #[Value.ref b] meth c G (fun q : Nat => s.heap.size ≤ q) code 7 RL) (hX : va_X b L xs s s.heap) (hbl : b < s.heap.size) (hbA : ¬ s.heap.size ≤ b) (hL : L ≤ 2560) {x mo ou i cells slots : Nat} (hi5 : i + 5 ≤ L) (hc : cells + 6 ≤ 601024) (hs : slots + 41 ≤ 7293034) {w : hW} (hI : LWI G x mo ou w) (kk : ∀ w', LWI G x mo ou w' → h_G p l e room_1 s m #[Value.ref b] below meth c G (fun q : Nat => s.heap.size ≤ q) 7 (lw_Z below #[Value.ref b] s) w' (cells + 6) (slots + 41) 1259 [(0, .ref b), (1, .ref x), (2, .ref mo), (3, .ref ou), (4, .int (nI i))] []) : h_G p l e room_1 s m #[Value.ref b] below meth c G (fun q : Nat => s.heap.size ≤ q) 7 (lw_Z below #[Value.ref b] s) w cells slots 1110 [(0, .ref b), (1, .ref x), (2, .ref mo), (3, .ref ou), (4, .int (nI i))] [] := by
  obtain ⟨fs0, hx0⟩ : ∃ fs, w x = some (eO 2 fs) := by obtain ⟨_, _, _, _, _, _, _, _, _, _, _, _, _, _, _, _, _, _, _, hT, _⟩ := hI; exact ⟨_, hT.1⟩
  obtain ⟨pst, hH, hK⟩ := cc_compact l G hI
  first | refine g_aload_n C dL_law_1110 rfl rfl ?_ | refine g_aload_nN C dL_law_1110 rfl rfl ?_ | refine g_aload_nq C dL_law_1110 rfl rfl ?_
  refine g_callVn C [] dL_law_1111 (hH) kmL_118 ki_X2_compact kv_X2_compact kn_X2 kc_X2_compact hy_X2_compact ⟨by decide, by decide⟩ hx0 rfl rfl (Nat.le_of_ble_eq_true rfl) ⟨by show cells + 0 ≤ 601024; omega, by show slots + 0 ≤ 7293034; omega⟩ (fun v w1 hp => ?_)
  obtain ⟨k9, rfl, ⟨fsM, hm1⟩, pM, hM, hN⟩ := hK _ _ hp
  first | refine g_aload_n C dL_law_1114 rfl rfl ?_ | refine g_aload_nN C dL_law_1114 rfl rfl ?_ | refine g_aload_nq C dL_law_1114 rfl rfl ?_
  refine g_callVn C [.int k9] dL_law_1115 (hM) kmL_121 ki_X3_compact kv_X3_compact kn_X3 kc_X3_compact hy_X3_compact ⟨by decide, by decide⟩ hm1 rfl rfl (Nat.le_of_ble_eq_true rfl) ⟨by show cells + 0 + 0 ≤ 601024; omega, by show slots + 0 + 0 ≤ 7293034; omega⟩ (fun v w1 hp => ?_)
  obtain ⟨rfl, hI2⟩ := hN _ _ hp
  refine g_icmp_eq C 1259 dL_law_1118 (by decide) (fun _ => ?_) (fun c1118 => absurd (rfl) c1118)
  refine g_drop [(0, .ref b), (1, .ref x), (2, .ref mo), (3, .ref ou), (4, .int (nI i))] _ rfl ?_
  refine g_widen (k := cells + 6) (n := slots + 41) (by show cells + 0 + 0 ≤ cells + 6; omega) (by show slots + 0 + 0 ≤ slots + 41; omega) (kk _ hI2)
set_option maxHeartbeats 4000000 in
set_option maxRecDepth 100000 in
theorem law_about {p : Program} {l : Launch} {e : Env} {s : State} {m : MethodId} {below : List Frame} {meth : Method} {c : Code} {b L : Nat} {xs : Nat → Int32} {G : hD} (C : h_C p l s m #[Value.ref b] meth c G (fun q : Nat => s.heap.size ≤ q) code 7 RL) (hX : va_X b L xs s s.heap) (hbl : b < s.heap.size) (hbA : ¬ s.heap.size ≤ b) (hL : L ≤ 2560) {x mo ou i cells slots : Nat} (hi5 : i + 5 ≤ L) (hc : cells + 6 ≤ 601024) (hs : slots + 41 ≤ 7293034) {w : hW} (hI : LWI G x mo ou w) (kk : ∀ w', LWI G x mo ou w' → h_G p l e room_1 s m #[Value.ref b] below meth c G (fun q : Nat => s.heap.size ≤ q) 7 (lw_Z below #[Value.ref b] s) w' (cells + 6) (slots + 41) 1259 [(0, .ref b), (1, .ref x), (2, .ref mo), (3, .ref ou), (4, .int (nI i))] []) : h_G p l e room_1 s m #[Value.ref b] below meth c G (fun q : Nat => s.heap.size ≤ q) 7 (lw_Z below #[Value.ref b] s) w cells slots 1123 [(0, .ref b), (1, .ref x), (2, .ref mo), (3, .ref ou), (4, .int (nI i))] [] := by
  obtain ⟨pst, hH, hK⟩ := cc_about l G hI (xs (i + 1)) (xs (i + 2)) (xs (i + 3))
  first | refine g_aload_n C dL_law_1123 rfl rfl ?_ | refine g_aload_nN C dL_law_1123 rfl rfl ?_ | refine g_aload_nq C dL_law_1123 rfl rfl ?_
  first | refine g_aload_n C dL_law_1124 rfl rfl ?_ | refine g_aload_nN C dL_law_1124 rfl rfl ?_ | refine g_aload_nq C dL_law_1124 rfl rfl ?_
  refine g_iload C dL_law_1125 rfl ?_
  refine g_iconst C (v := 1) dL_law_1127 (by decide) ?_
  refine g_iadd C dL_law_1128 ?_
  refine g_sld C hX hbl hbA dL_law_1129 (nI_add i 1) (by omega) (by omega) ?_
  first | refine g_aload_n C dL_law_1130 rfl rfl ?_ | refine g_aload_nN C dL_law_1130 rfl rfl ?_ | refine g_aload_nq C dL_law_1130 rfl rfl ?_
  refine g_iload C dL_law_1131 rfl ?_
  refine g_iconst C (v := 2) dL_law_1133 (by decide) ?_
  refine g_iadd C dL_law_1134 ?_
  refine g_sld C hX hbl hbA dL_law_1135 (nI_add i 2) (by omega) (by omega) ?_
  first | refine g_aload_n C dL_law_1136 rfl rfl ?_ | refine g_aload_nN C dL_law_1136 rfl rfl ?_ | refine g_aload_nq C dL_law_1136 rfl rfl ?_
  refine g_iload C dL_law_1137 rfl ?_
  refine g_iconst C (v := 3) dL_law_1139 (by decide) ?_
  refine g_iadd C dL_law_1140 ?_
  refine g_sld C hX hbl hbA dL_law_1141 (nI_add i 3) (by omega) (by omega) ?_
  first | refine g_aload_n C dL_law_1142 rfl rfl ?_ | refine g_aload_nN C dL_law_1142 rfl rfl ?_ | refine g_aload_nq C dL_law_1142 rfl rfl ?_
  refine g_callSW C [] dL_law_1143 hH kmL_122 ks_L_about kn_L kc_L_about hy_L_about ⟨by decide, by decide⟩ rfl (Nat.le_of_ble_eq_true rfl) ⟨by show cells + 4 ≤ 601024; omega, by show slots + 24 ≤ 7293034; omega⟩ (fun v w1 hp => ?_)
  obtain ⟨k9, rfl, ⟨fsM, hm1⟩, pM, hM, hN⟩ := hK _ _ hp
  refine g_istore C dL_law_1146 (by decide) ?_
  first | refine g_aload_n C dL_law_1148 rfl rfl ?_ | refine g_aload_nN C dL_law_1148 rfl rfl ?_ | refine g_aload_nq C dL_law_1148 rfl rfl ?_
  first | refine g_aload_n C dL_law_1149 rfl rfl ?_ | refine g_aload_nN C dL_law_1149 rfl rfl ?_ | refine g_aload_nq C dL_law_1149 rfl rfl ?_
  refine g_iload C dL_law_1150 rfl ?_
  refine g_iconst C (v := 1) dL_law_1152 (by decide) ?_
  refine g_iadd C dL_law_1153 ?_
  refine g_sld C hX hbl hbA dL_law_1154 (nI_add i 1) (by omega) (by omega) ?_
  first | refine g_aload_n C dL_law_1155 rfl rfl ?_ | refine g_aload_nN C dL_law_1155 rfl rfl ?_ | refine g_aload_nq C dL_law_1155 rfl rfl ?_
  refine g_iload C dL_law_1156 rfl ?_
  refine g_iconst C (v := 2) dL_law_1158 (by decide) ?_
  refine g_iadd C dL_law_1159 ?_
  refine g_sld C hX hbl hbA dL_law_1160 (nI_add i 2) (by omega) (by omega) ?_
  first | refine g_aload_n C dL_law_1161 rfl rfl ?_ | refine g_aload_nN C dL_law_1161 rfl rfl ?_ | refine g_aload_nq C dL_law_1161 rfl rfl ?_
  refine g_iload C dL_law_1162 rfl ?_
  refine g_iconst C (v := 3) dL_law_1164 (by decide) ?_
  refine g_iadd C dL_law_1165 ?_
  refine g_sld C hX hbl hbA dL_law_1166 (nI_add i 3) (by omega) (by omega) ?_
  refine g_callVn C [] dL_law_1167 (hM) kmL_124 ki_X3_about kv_X3_about kn_X3 kc_X3_about hy_X3_about ⟨by decide, by decide⟩ hm1 rfl rfl (Nat.le_of_ble_eq_true rfl) ⟨by show cells + 4 + 0 ≤ 601024; omega, by show slots + 24 + 0 ≤ 7293034; omega⟩ (fun v w1 hp => ?_)
  obtain ⟨z9, rfl, hZ9, ⟨M2, n2, I2, B2, ord2, mny2, hR2⟩, hI2, ov2, ho2, hz⟩ := hN _ _ hp
  refine g_istore C dL_law_1170 (by decide) ?_
  first | refine g_aload_n C dL_law_1172 rfl rfl ?_ | refine g_aload_nN C dL_law_1172 rfl rfl ?_ | refine g_aload_nq C dL_law_1172 rfl rfl ?_
  refine g_callVn C [] dL_law_1173 (c_X3_thrown l G _ _ _ _ _ _ _ _ _ hR2) kmL_75 ki_X3_thrown kv_X3_thrown kn_X3 kc_X3_thrown hy_X3_thrown ⟨by decide, by decide⟩ hR2.1 rfl rfl (Nat.le_of_ble_eq_true rfl) ⟨by show cells + 4 + 0 + 0 ≤ 601024; omega, by show slots + 24 + 0 + 0 ≤ 7293034; omega⟩ (fun v w1 hp => ?_)
  obtain ⟨rfl, hw1⟩ := hp
  have hw1 := hw1.symm
  subst hw1
  refine g_iload C dL_law_1176 rfl ?_
  refine g_icmp_eq C 1183 dL_law_1178 (by decide) (fun _ => ?_) (fun c1178 => absurd (rfl) c1178)
  refine g_iload C dL_law_1183 rfl ?_
  refine g_if_ne C 1200 dL_law_1185 (by decide) (fun c1185 => ?_) (fun c1185 => ?_)
  · refine g_goto C 1259 dL_law_1200 (by decide) ?_
    refine g_drop [(0, .ref b), (1, .ref x), (2, .ref mo), (3, .ref ou), (4, .int (nI i))] _ rfl ?_
    refine g_widen (k := cells + 6) (n := slots + 41) (by show cells + 4 + 0 + 0 ≤ cells + 6; omega) (by show slots + 24 + 0 + 0 ≤ slots + 41; omega) (kk _ hI2)
  · have hz9 := hz c1185
    first | refine g_aload_n C dL_law_1188 rfl rfl ?_ | refine g_aload_nN C dL_law_1188 rfl rfl ?_ | refine g_aload_nq C dL_law_1188 rfl rfl ?_
    refine g_iconst C (v := 0) dL_law_1189 (by decide) ?_
    refine g_laldN (k0 := 0) C dL_law_1190 ho2 (by decide) (by decide) ?_
    refine g_iload C dL_law_1191 rfl ?_
    refine g_i2l C dL_law_1193 rfl ?_
    refine g_lcmp C dL_law_1194 ?_
    refine g_if_eq C 1200 dL_law_1195 (by decide) (fun _ => ?_) (fun c1195 => absurd (by rw [hz9]; exact cmp_eq _) c1195)
    refine g_goto C 1259 dL_law_1200 (by decide) ?_
    refine g_drop [(0, .ref b), (1, .ref x), (2, .ref mo), (3, .ref ou), (4, .int (nI i))] _ rfl ?_
    refine g_widen (k := cells + 6) (n := slots + 41) (by show cells + 4 + 0 + 0 ≤ cells + 6; omega) (by show slots + 24 + 0 + 0 ≤ slots + 41; omega) (kk _ hI2)
set_option maxHeartbeats 4000000 in
set_option maxRecDepth 100000 in
theorem law_count {p : Program} {l : Launch} {e : Env} {s : State} {m : MethodId} {below : List Frame} {meth : Method} {c : Code} {b L : Nat} {xs : Nat → Int32} {G : hD} (C : h_C p l s m #[Value.ref b] meth c G (fun q : Nat => s.heap.size ≤ q) code 7 RL) (hX : va_X b L xs s s.heap) (hbl : b < s.heap.size) (hbA : ¬ s.heap.size ≤ b) (hL : L ≤ 2560) {x mo ou i cells slots : Nat} (hi5 : i + 5 ≤ L) (hc : cells + 6 ≤ 601024) (hs : slots + 41 ≤ 7293034) {w : hW} (hI : LWI G x mo ou w) (kk : ∀ w', LWI G x mo ou w' → h_G p l e room_1 s m #[Value.ref b] below meth c G (fun q : Nat => s.heap.size ≤ q) 7 (lw_Z below #[Value.ref b] s) w' (cells + 6) (slots + 41) 1259 [(0, .ref b), (1, .ref x), (2, .ref mo), (3, .ref ou), (4, .int (nI i))] []) : h_G p l e room_1 s m #[Value.ref b] below meth c G (fun q : Nat => s.heap.size ≤ q) 7 (lw_Z below #[Value.ref b] s) w cells slots 1203 [(0, .ref b), (1, .ref x), (2, .ref mo), (3, .ref ou), (4, .int (nI i))] [] := by
  obtain ⟨pst, hH, hK⟩ := cc_count l G hI (xs (i + 1))
  first | refine g_aload_n C dL_law_1203 rfl rfl ?_ | refine g_aload_nN C dL_law_1203 rfl rfl ?_ | refine g_aload_nq C dL_law_1203 rfl rfl ?_
  first | refine g_aload_n C dL_law_1204 rfl rfl ?_ | refine g_aload_nN C dL_law_1204 rfl rfl ?_ | refine g_aload_nq C dL_law_1204 rfl rfl ?_
  refine g_iload C dL_law_1205 rfl ?_
  refine g_iconst C (v := 1) dL_law_1207 (by decide) ?_
  refine g_iadd C dL_law_1208 ?_
  refine g_sld C hX hbl hbA dL_law_1209 (nI_add i 1) (by omega) (by omega) ?_
  first | refine g_aload_n C dL_law_1210 rfl rfl ?_ | refine g_aload_nN C dL_law_1210 rfl rfl ?_ | refine g_aload_nq C dL_law_1210 rfl rfl ?_
  refine g_callSW C [] dL_law_1211 hH kmL_125 ks_L_count kn_L kc_L_count hy_L_count ⟨by decide, by decide⟩ rfl (Nat.le_of_ble_eq_true rfl) ⟨by show cells + 1 ≤ 601024; omega, by show slots + 6 ≤ 7293034; omega⟩ (fun v w1 hp => ?_)
  obtain ⟨k9, rfl, ⟨fsM, hm1⟩, pM, hM, hN⟩ := hK _ _ hp
  refine g_istore C dL_law_1214 (by decide) ?_
  first | refine g_aload_n C dL_law_1216 rfl rfl ?_ | refine g_aload_nN C dL_law_1216 rfl rfl ?_ | refine g_aload_nq C dL_law_1216 rfl rfl ?_
  first | refine g_aload_n C dL_law_1217 rfl rfl ?_ | refine g_aload_nN C dL_law_1217 rfl rfl ?_ | refine g_aload_nq C dL_law_1217 rfl rfl ?_
  refine g_iload C dL_law_1218 rfl ?_
  refine g_iconst C (v := 1) dL_law_1220 (by decide) ?_
  refine g_iadd C dL_law_1221 ?_
  refine g_sld C hX hbl hbA dL_law_1222 (nI_add i 1) (by omega) (by omega) ?_
  refine g_callVn C [] dL_law_1223 (hM) kmL_127 ki_X3_count kv_X3_count kn_X3 kc_X3_count hy_X3_count ⟨by decide, by decide⟩ hm1 rfl rfl (Nat.le_of_ble_eq_true rfl) ⟨by show cells + 1 + 0 ≤ 601024; omega, by show slots + 6 + 0 ≤ 7293034; omega⟩ (fun v w1 hp => ?_)
  obtain ⟨z9, rfl, hZ9, ⟨M2, n2, I2, B2, ord2, mny2, hR2⟩, hI2, ov2, ho2, hz⟩ := hN _ _ hp
  refine g_istore C dL_law_1226 (by decide) ?_
  first | refine g_aload_n C dL_law_1228 rfl rfl ?_ | refine g_aload_nN C dL_law_1228 rfl rfl ?_ | refine g_aload_nq C dL_law_1228 rfl rfl ?_
  refine g_callVn C [] dL_law_1229 (c_X3_thrown l G _ _ _ _ _ _ _ _ _ hR2) kmL_75 ki_X3_thrown kv_X3_thrown kn_X3 kc_X3_thrown hy_X3_thrown ⟨by decide, by decide⟩ hR2.1 rfl rfl (Nat.le_of_ble_eq_true rfl) ⟨by show cells + 1 + 0 + 0 ≤ 601024; omega, by show slots + 6 + 0 + 0 ≤ 7293034; omega⟩ (fun v w1 hp => ?_)
  obtain ⟨rfl, hw1⟩ := hp
  have hw1 := hw1.symm
  subst hw1
  refine g_iload C dL_law_1232 rfl ?_
  refine g_icmp_eq C 1239 dL_law_1234 (by decide) (fun _ => ?_) (fun c1234 => absurd (rfl) c1234)
  refine g_iload C dL_law_1239 rfl ?_
  refine g_if_ne C 1256 dL_law_1241 (by decide) (fun c1241 => ?_) (fun c1241 => ?_)
  · refine g_goto C 1259 dL_law_1256 (by decide) ?_
    refine g_drop [(0, .ref b), (1, .ref x), (2, .ref mo), (3, .ref ou), (4, .int (nI i))] _ rfl ?_
    refine g_widen (k := cells + 6) (n := slots + 41) (by show cells + 1 + 0 + 0 ≤ cells + 6; omega) (by show slots + 6 + 0 + 0 ≤ slots + 41; omega) (kk _ hI2)
  · have hz9 := hz c1241
    first | refine g_aload_n C dL_law_1244 rfl rfl ?_ | refine g_aload_nN C dL_law_1244 rfl rfl ?_ | refine g_aload_nq C dL_law_1244 rfl rfl ?_
    refine g_iconst C (v := 0) dL_law_1245 (by decide) ?_
    refine g_laldN (k0 := 0) C dL_law_1246 ho2 (by decide) (by decide) ?_
    refine g_iload C dL_law_1247 rfl ?_
    refine g_i2l C dL_law_1249 rfl ?_
    refine g_lcmp C dL_law_1250 ?_
    refine g_if_eq C 1256 dL_law_1251 (by decide) (fun _ => ?_) (fun c1251 => absurd (by rw [hz9]; exact cmp_eq _) c1251)
    refine g_goto C 1259 dL_law_1256 (by decide) ?_
    refine g_drop [(0, .ref b), (1, .ref x), (2, .ref mo), (3, .ref ou), (4, .int (nI i))] _ rfl ?_
    refine g_widen (k := cells + 6) (n := slots + 41) (by show cells + 1 + 0 + 0 ≤ cells + 6; omega) (by show slots + 6 + 0 + 0 ≤ slots + 41; omega) (kk _ hI2)
