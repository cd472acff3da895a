/-! ===== the law: catching, the script, its helpers ===== -/
section LW
variable {p : Program} {l : Launch} {e : Env} {R : Room} {s : State} {m : MethodId} {args : Array Value} {below : List Frame} {meth : Method} {c : Code} {Q : State → Prop}
variable {G : hD} {A : Nat → Prop} {nL : Nat} {w : hW} {cells slots pc : Nat} {lv : List (Nat × Value)} {st : List Value} {cc : ByteArray} {own : String}
theorem g_catch (C : h_C p l s m args meth c G A cc nL own) {E : String} {H1 : Heap} {locs1 : List Loc} {ls : Array Slot} {rest : List Value} {q : Addr} {ce : Cell} (pre : List ExceptionTableEntry) (x : ExceptionTableEntry) (suf : List ExceptionTableEntry) (hsplit : c.exceptionTable.toList = pre ++ x :: suf)
    (hpass : ∀ z ∈ pre, z.catchType ≠ 0 ∧ ∃ nm : String, Cond.classLink own z.catchType nm ∈ hAll ∧ (E, nm) ∈ hNcs) (hcov : covers x pc = true) (h0 : x.catchType ≠ 0) (hlink : Cond.classLink own x.catchType E ∈ hAll) (hE : E ∈ hExc) (hP1 : h_P G.1 w H1) (hA1 : h_in_A A w) (hS1 : va_S A s.heap H1 locs1) (hl : lv_has ls nL lv) (h1 : lv1 lv) (hc1 : H1[q]? = some ce) (hc2 : ce.vm = .none) (hc3 : s.vm.findClass E = some ce.cls)
    (k : h_G p l e R s m args below meth c G A nL Q w cells slots x.handlerPc lv [.ref q]) : vx_W p l e R s m args below meth c H1 locs1 cells slots Q (F0 m pc ls rest) q :=
  vx_catch (own := own) (name := E) C.2.2.2.1 pre x suf hsplit (fun z hz => by
    obtain ⟨a1, nm, a2, a3⟩ := hpass z hz
    exact Or.inr ⟨a1, nm, C.2.2.2.2.1 _ a2, C.2.2.2.2.2.2.2.2.2.2.2.2.2.2.1 _ a3⟩) hcov h0 (C.2.2.2.2.1 _ hlink) (va_Nw.use rfl (C.2.2.2.2.2.2.2.2.2.2.2.2.2.1 _ hE)) hc1 hc2 hc3 (k H1 locs1 ls hP1 hA1 hS1 hl h1)
theorem g_sld (C : h_C p l s m args meth c G A cc nL own) {b L k0 : Nat} {xs : Nat → Int32} (hX : va_X b L xs s s.heap) (hbl : b < s.heap.size) (hbA : ¬ A b) (hd : decode cc pc = .ok (.iaload, 1)) {i : Int32} (hi : i = nI k0) (hk : k0 < L) (hL : L < 2 ^ 31) (k : h_G p l e R s m args below meth c G A nL Q w cells slots (pc + 1) lv (.int (xs k0) :: st)) : h_G p l e R s m args below meth c G A nL Q w cells slots pc lv (.int i :: .ref b :: st) := by
  subst hi
  intro H locs ls hP hA hS hl h1
  refine va_sld C.1 C.2.1 hX hbl hbA hS (vp_in_nI hk hL) hd ?_
  rw [nI_clamp (by omega)]
  exact k H locs ls hP hA hS hl h1
theorem g_slen (C : h_C p l s m args meth c G A cc nL own) {b L : Nat} {xs : Nat → Int32} (hX : va_X b L xs s s.heap) (hbl : b < s.heap.size) (hbA : ¬ A b) (hd : decode cc pc = .ok (.arraylength, 1)) (k : h_G p l e R s m args below meth c G A nL Q w cells slots (pc + 1) lv (.int (nI L) :: st)) : h_G p l e R s m args below meth c G A nL Q w cells slots pc lv (.ref b :: st) :=
  fun H locs ls hP hA hS hl h1 => va_slen C.1 C.2.1 hX hbl hbA hS hd (k H locs ls hP hA hS hl h1)
end LW
def cd3 (E : String) : Int32 := if E = nNS then 1 else if E = nIA then 2 else 3
def cd2 (E : String) : Int32 := if E = nNS then 1 else 2
def cd1 (_ : String) : Int32 := 1
theorem cd3_nNS : cd3 nNS = 1 := by decide
theorem cd3_nIA : cd3 nIA = 2 := by decide
theorem cd3_nIS : cd3 nIS = 3 := by decide
theorem cd2_nNS : cd2 nNS = 1 := by decide
theorem cd2_nIA : cd2 nIA = 2 := by decide
theorem cd2_nIS : cd2 nIS = 2 := by decide
theorem cd1_nNS : cd1 nNS = 1 := rfl
theorem cd1_nIA : cd1 nIA = 1 := rfl
/-- a helper of the law: a code for what was thrown, or 0 and the answer -/
def lwP (G : hD) (cd : String → Int32) (px : String → Prop) (pst : Option Value → hW → Prop) (w : hW) (ou : Nat) (ov : Nat → Int64) (r : Option Value) (w' : hW) : Prop :=
  (∃ E, px E ∧ r = some (.int (cd E)) ∧ w' = w) ∨ ∃ z w1, pst (some (.int z)) w1 ∧ r = some (.int 0) ∧ w' = h_up w1 ou (eJ G 1 (vp_updL ov 0 z.toInt64))

set_option maxHeartbeats 4000000 in
set_option maxRecDepth 100000 in
theorem c_L_tell (l : Launch) (G : hD) (w : hW) (x ou : Nat) (ov : Nat → Int64) {fs : List Value} {px : String → Prop} {pst : Option Value → hW → Prop} (p0 p1 p2 p3 : Int32) (hx : w x = some (eO 2 fs)) (hc : h_Met l yX2_tell (Cond.code yX2_tell cX2_tell 5 (some .int)) { frames := 7, cells := 5, slots := 35, locals := 108 } G [.ref x, .int p0, .int p1, .int p2, .int p3] w pst px) (hpx : ∀ E, px E → E = nNS ∨ E = nIA ∨ E = nIS) (hpst : ∀ v w1, pst v w1 → (∃ z9 : Int32, v = some (.int z9) ∧ w1 ou = some (eJ G 1 ov))) : h_Met l yL_tell (Cond.codeWith yL_tell cL_tell 7 (some .int) [(0, 14, 17, 13), (0, 14, 21, 15), (0, 14, 25, 17)]) { frames := 8, cells := 5, slots := 35, locals := 132 } G [.ref x, .int p0, .int p1, .int p2, .int p3, .ref ou] w (lwP G cd3 px pst w ou ov) noX := by
  refine h_metH RL rfl (by decide) (Nat.le_of_ble_eq_true rfl) (cat_c rfl (cat_c rfl (cat_c rfl (cat_c rfl (cat_c rfl (cat_c rfl cat_n)))))) ?_
  intro p e s m below meth c A C hxt hr hnm
  first | refine g_aload C dL_tell_0 rfl ?_ | refine g_aloadN C dL_tell_0 rfl ?_ | refine g_aloadq C dL_tell_0 rfl ?_
  refine g_iconst C (v := 0) dL_tell_2 (by decide) ?_
  first | refine g_aload_n C dL_tell_3 rfl rfl ?_ | refine g_aload_nN C dL_tell_3 rfl rfl ?_ | refine g_aload_nq C dL_tell_3 rfl rfl ?_
  refine g_iload_n C dL_tell_4 rfl rfl ?_
  refine g_iload_n C dL_tell_5 rfl rfl ?_
  refine g_iload_n C dL_tell_6 rfl rfl ?_
  refine g_iload C dL_tell_7 rfl ?_
  refine g_callVg (rest := [.int 0, .ref ou]) C dL_tell_9 hc kmL_7 ki_X2_tell kv_X2_tell kn_X2 kc_X2_tell hy_X2_tell ⟨by decide, by decide⟩ hx rfl rfl (Nat.le_of_ble_eq_true rfl) ⟨by decide, by decide⟩ ?_ ?_
  · intro E q ce H1 locs1 ls hp hP1 hA1 hS1 hl9 h19 hc1 hc2 hc3
    rcases hpx E hp with rfl | rfl | rfl
    · refine g_catch C [] (⟨0, 14, 17, 13⟩ : ExceptionTableEntry) [(⟨0, 14, 21, 15⟩ : ExceptionTableEntry), (⟨0, 14, 25, 17⟩ : ExceptionTableEntry)] hxt (fun z hz => by cases hz) (by decide) (by decide) klL_13 (by decide) hP1 hA1 hS1 hl9 h19 hc1 hc2 hc3 ?_
      first | refine g_astore C dL_tell_17 (by decide) ?_ | refine g_astoreN C dL_tell_17 (by decide) ?_ | refine g_astoreq C dL_tell_17 (by decide) ?_
      refine g_iconst C (v := 1) dL_tell_19 (by decide) ?_
      exact g_iret C hr dL_tell_20 (by decide) (by decide) (Or.inl ⟨_, hp, by rw [cd3_nNS], rfl⟩)
    · refine g_catch C [(⟨0, 14, 17, 13⟩ : ExceptionTableEntry)] (⟨0, 14, 21, 15⟩ : ExceptionTableEntry) [(⟨0, 14, 25, 17⟩ : ExceptionTableEntry)] hxt (fun z hz => by rcases List.mem_singleton.mp hz with rfl; exact ⟨by decide, nNS, klL_13, by decide⟩) (by decide) (by decide) klL_15 (by decide) hP1 hA1 hS1 hl9 h19 hc1 hc2 hc3 ?_
      first | refine g_astore C dL_tell_21 (by decide) ?_ | refine g_astoreN C dL_tell_21 (by decide) ?_ | refine g_astoreq C dL_tell_21 (by decide) ?_
      refine g_iconst C (v := 2) dL_tell_23 (by decide) ?_
      exact g_iret C hr dL_tell_24 (by decide) (by decide) (Or.inl ⟨_, hp, by rw [cd3_nIA], rfl⟩)
    · refine g_catch C [(⟨0, 14, 17, 13⟩ : ExceptionTableEntry), (⟨0, 14, 21, 15⟩ : ExceptionTableEntry)] (⟨0, 14, 25, 17⟩ : ExceptionTableEntry) [] hxt (fun z hz => (List.mem_cons.mp hz).elim (fun e => by subst e; exact ⟨by decide, nNS, klL_13, by decide⟩) (fun hz => by rcases List.mem_singleton.mp hz with rfl; exact ⟨by decide, nIA, klL_15, by decide⟩)) (by decide) (by decide) klL_17 (by decide) hP1 hA1 hS1 hl9 h19 hc1 hc2 hc3 ?_
      first | refine g_astore C dL_tell_25 (by decide) ?_ | refine g_astoreN C dL_tell_25 (by decide) ?_ | refine g_astoreq C dL_tell_25 (by decide) ?_
      refine g_iconst C (v := 3) dL_tell_27 (by decide) ?_
      exact g_iret C hr dL_tell_28 (by decide) (by decide) (Or.inl ⟨_, hp, by rw [cd3_nIS], rfl⟩)
  · intro v w1 hp
    obtain ⟨z9, rfl, ho1⟩ := hpst v w1 hp
    refine g_i2l C dL_tell_12 rfl ?_
    refine g_lastN (k0 := 0) C dL_tell_13 ho1 (by decide) (by decide) ?_
    refine g_goto C 29 dL_tell_14 (by decide) ?_
    refine g_iconst C (v := 0) dL_tell_29 (by decide) ?_
    exact g_iret C hr dL_tell_30 (by decide) (by decide) (Or.inr ⟨z9, w1, hp, rfl, rfl⟩)
set_option maxHeartbeats 4000000 in
set_option maxRecDepth 100000 in
theorem c_L_insert (l : Launch) (G : hD) (w : hW) (x ou : Nat) (ov : Nat → Int64) {fs : List Value} {px : String → Prop} {pst : Option Value → hW → Prop} (p0 p1 p2 p3 : Int32) (hx : w x = some (eO 2 fs)) (hc : h_Met l yX2_insert (Cond.code yX2_insert cX2_insert 7 (some .int)) { frames := 8, cells := 6, slots := 41, locals := 127 } G [.ref x, .int p0, .int p1, .int p2, .int p3] w pst px) (hpx : ∀ E, px E → E = nNS ∨ E = nIA ∨ E = nIS) (hpst : ∀ v w1, pst v w1 → (∃ z9 : Int32, v = some (.int z9) ∧ w1 ou = some (eJ G 1 ov))) : h_Met l yL_insert (Cond.codeWith yL_insert cL_insert 7 (some .int) [(0, 14, 17, 13), (0, 14, 21, 15), (0, 14, 25, 17)]) { frames := 9, cells := 6, slots := 41, locals := 153 } G [.ref x, .int p0, .int p1, .int p2, .int p3, .ref ou] w (lwP G cd3 px pst w ou ov) noX := by
  refine h_metH RL rfl (by decide) (Nat.le_of_ble_eq_true rfl) (cat_c rfl (cat_c rfl (cat_c rfl (cat_c rfl (cat_c rfl (cat_c rfl cat_n)))))) ?_
  intro p e s m below meth c A C hxt hr hnm
  first | refine g_aload C dL_insert_0 rfl ?_ | refine g_aloadN C dL_insert_0 rfl ?_ | refine g_aloadq C dL_insert_0 rfl ?_
  refine g_iconst C (v := 0) dL_insert_2 (by decide) ?_
  first | refine g_aload_n C dL_insert_3 rfl rfl ?_ | refine g_aload_nN C dL_insert_3 rfl rfl ?_ | refine g_aload_nq C dL_insert_3 rfl rfl ?_
  refine g_iload_n C dL_insert_4 rfl rfl ?_
  refine g_iload_n C dL_insert_5 rfl rfl ?_
  refine g_iload_n C dL_insert_6 rfl rfl ?_
  refine g_iload C dL_insert_7 rfl ?_
  refine g_callVg (rest := [.int 0, .ref ou]) C dL_insert_9 hc kmL_19 ki_X2_insert kv_X2_insert kn_X2 kc_X2_insert hy_X2_insert ⟨by decide, by decide⟩ hx rfl rfl (Nat.le_of_ble_eq_true rfl) ⟨by decide, by decide⟩ ?_ ?_
  · intro E q ce H1 locs1 ls hp hP1 hA1 hS1 hl9 h19 hc1 hc2 hc3
    rcases hpx E hp with rfl | rfl | rfl
    · refine g_catch C [] (⟨0, 14, 17, 13⟩ : ExceptionTableEntry) [(⟨0, 14, 21, 15⟩ : ExceptionTableEntry), (⟨0, 14, 25, 17⟩ : ExceptionTableEntry)] hxt (fun z hz => by cases hz) (by decide) (by decide) klL_13 (by decide) hP1 hA1 hS1 hl9 h19 hc1 hc2 hc3 ?_
      first | refine g_astore C dL_insert_17 (by decide) ?_ | refine g_astoreN C dL_insert_17 (by decide) ?_ | refine g_astoreq C dL_insert_17 (by decide) ?_
      refine g_iconst C (v := 1) dL_insert_19 (by decide) ?_
      exact g_iret C hr dL_insert_20 (by decide) (by decide) (Or.inl ⟨_, hp, by rw [cd3_nNS], rfl⟩)
    · refine g_catch C [(⟨0, 14, 17, 13⟩ : ExceptionTableEntry)] (⟨0, 14, 21, 15⟩ : ExceptionTableEntry) [(⟨0, 14, 25, 17⟩ : ExceptionTableEntry)] hxt (fun z hz => by rcases List.mem_singleton.mp hz with rfl; exact ⟨by decide, nNS, klL_13, by decide⟩) (by decide) (by decide) klL_15 (by decide) hP1 hA1 hS1 hl9 h19 hc1 hc2 hc3 ?_
      first | refine g_astore C dL_insert_21 (by decide) ?_ | refine g_astoreN C dL_insert_21 (by decide) ?_ | refine g_astoreq C dL_insert_21 (by decide) ?_
      refine g_iconst C (v := 2) dL_insert_23 (by decide) ?_
      exact g_iret C hr dL_insert_24 (by decide) (by decide) (Or.inl ⟨_, hp, by rw [cd3_nIA], rfl⟩)
    · refine g_catch C [(⟨0, 14, 17, 13⟩ : ExceptionTableEntry), (⟨0, 14, 21, 15⟩ : ExceptionTableEntry)] (⟨0, 14, 25, 17⟩ : ExceptionTableEntry) [] hxt (fun z hz => (List.mem_cons.mp hz).elim (fun e => by subst e; exact ⟨by decide, nNS, klL_13, by decide⟩) (fun hz => by rcases List.mem_singleton.mp hz with rfl; exact ⟨by decide, nIA, klL_15, by decide⟩)) (by decide) (by decide) klL_17 (by decide) hP1 hA1 hS1 hl9 h19 hc1 hc2 hc3 ?_
      first | refine g_astore C dL_insert_25 (by decide) ?_ | refine g_astoreN C dL_insert_25 (by decide) ?_ | refine g_astoreq C dL_insert_25 (by decide) ?_
      refine g_iconst C (v := 3) dL_insert_27 (by decide) ?_
      exact g_iret C hr dL_insert_28 (by decide) (by decide) (Or.inl ⟨_, hp, by rw [cd3_nIS], rfl⟩)
  · intro v w1 hp
    obtain ⟨z9, rfl, ho1⟩ := hpst v w1 hp
    refine g_i2l C dL_insert_12 rfl ?_
    refine g_lastN (k0 := 0) C dL_insert_13 ho1 (by decide) (by decide) ?_
    refine g_goto C 29 dL_insert_14 (by decide) ?_
    refine g_iconst C (v := 0) dL_insert_29 (by decide) ?_
    exact g_iret C hr dL_insert_30 (by decide) (by decide) (Or.inr ⟨z9, w1, hp, rfl, rfl⟩)
set_option maxHeartbeats 4000000 in
set_option maxRecDepth 100000 in
theorem c_L_remove (l : Launch) (G : hD) (w : hW) (x ou : Nat) (ov : Nat → Int64) {fs : List Value} {px : String → Prop} {pst : Option Value → hW → Prop} (p0 p1 : Int32) (hx : w x = some (eO 2 fs)) (hc : h_Met l yX2_remove (Cond.code yX2_remove cX2_remove 3 (some .int)) { frames := 9, cells := 4, slots := 35, locals := 153 } G [.ref x, .int p0, .int p1] w pst px) (hpx : ∀ E, px E → E = nNS ∨ E = nIA ∨ E = nIS) (hpst : ∀ v w1, pst v w1 → (∃ z9 : Int32, v = some (.int z9) ∧ w1 ou = some (eJ G 1 ov))) : h_Met l yL_remove (Cond.codeWith yL_remove cL_remove 5 (some .int) [(0, 10, 13, 13), (0, 10, 17, 15), (0, 10, 21, 17)]) { frames := 10, cells := 4, slots := 35, locals := 175 } G [.ref x, .int p0, .int p1, .ref ou] w (lwP G cd3 px pst w ou ov) noX := by
  refine h_metH RL rfl (by decide) (Nat.le_of_ble_eq_true rfl) (cat_c rfl (cat_c rfl (cat_c rfl (cat_c rfl cat_n)))) ?_
  intro p e s m below meth c A C hxt hr hnm
  first | refine g_aload_n C dL_remove_0 rfl rfl ?_ | refine g_aload_nN C dL_remove_0 rfl rfl ?_ | refine g_aload_nq C dL_remove_0 rfl rfl ?_
  refine g_iconst C (v := 0) dL_remove_1 (by decide) ?_
  first | refine g_aload_n C dL_remove_2 rfl rfl ?_ | refine g_aload_nN C dL_remove_2 rfl rfl ?_ | refine g_aload_nq C dL_remove_2 rfl rfl ?_
  refine g_iload_n C dL_remove_3 rfl rfl ?_
  refine g_iload_n C dL_remove_4 rfl rfl ?_
  refine g_callVg (rest := [.int 0, .ref ou]) C dL_remove_5 hc kmL_22 ki_X2_remove kv_X2_remove kn_X2 kc_X2_remove hy_X2_remove ⟨by decide, by decide⟩ hx rfl rfl (Nat.le_of_ble_eq_true rfl) ⟨by decide, by decide⟩ ?_ ?_
  · intro E q ce H1 locs1 ls hp hP1 hA1 hS1 hl9 h19 hc1 hc2 hc3
    rcases hpx E hp with rfl | rfl | rfl
    · refine g_catch C [] (⟨0, 10, 13, 13⟩ : ExceptionTableEntry) [(⟨0, 10, 17, 15⟩ : ExceptionTableEntry), (⟨0, 10, 21, 17⟩ : ExceptionTableEntry)] hxt (fun z hz => by cases hz) (by decide) (by decide) klL_13 (by decide) hP1 hA1 hS1 hl9 h19 hc1 hc2 hc3 ?_
      first | refine g_astore C dL_remove_13 (by decide) ?_ | refine g_astoreN C dL_remove_13 (by decide) ?_ | refine g_astoreq C dL_remove_13 (by decide) ?_
      refine g_iconst C (v := 1) dL_remove_15 (by decide) ?_
      exact g_iret C hr dL_remove_16 (by decide) (by decide) (Or.inl ⟨_, hp, by rw [cd3_nNS], rfl⟩)
    · refine g_catch C [(⟨0, 10, 13, 13⟩ : ExceptionTableEntry)] (⟨0, 10, 17, 15⟩ : ExceptionTableEntry) [(⟨0, 10, 21, 17⟩ : ExceptionTableEntry)] hxt (fun z hz => by rcases List.mem_singleton.mp hz with rfl; exact ⟨by decide, nNS, klL_13, by decide⟩) (by decide) (by decide) klL_15 (by decide) hP1 hA1 hS1 hl9 h19 hc1 hc2 hc3 ?_
      first | refine g_astore C dL_remove_17 (by decide) ?_ | refine g_astoreN C dL_remove_17 (by decide) ?_ | refine g_astoreq C dL_remove_17 (by decide) ?_
      refine g_iconst C (v := 2) dL_remove_19 (by decide) ?_
      exact g_iret C hr dL_remove_20 (by decide) (by decide) (Or.inl ⟨_, hp, by rw [cd3_nIA], rfl⟩)
    · refine g_catch C [(⟨0, 10, 13, 13⟩ : ExceptionTableEntry), (⟨0, 10, 17, 15⟩ : ExceptionTableEntry)] (⟨0, 10, 21, 17⟩ : ExceptionTableEntry) [] hxt (fun z hz => (List.mem_cons.mp hz).elim (fun e => by subst e; exact ⟨by decide, nNS, klL_13, by decide⟩) (fun hz => by rcases List.mem_singleton.mp hz with rfl; exact ⟨by decide, nIA, klL_15, by decide⟩)) (by decide) (by decide) klL_17 (by decide) hP1 hA1 hS1 hl9 h19 hc1 hc2 hc3 ?_
      first | refine g_astore C dL_remove_21 (by decide) ?_ | refine g_astoreN C dL_remove_21 (by decide) ?_ | refine g_astoreq C dL_remove_21 (by decide) ?_
      refine g_iconst C (v := 3) dL_remove_23 (by decide) ?_
      exact g_iret C hr dL_remove_24 (by decide) (by decide) (Or.inl ⟨_, hp, by rw [cd3_nIS], rfl⟩)
  · intro v w1 hp
    obtain ⟨z9, rfl, ho1⟩ := hpst v w1 hp
    refine g_i2l C dL_remove_8 rfl ?_
    refine g_lastN (k0 := 0) C dL_remove_9 ho1 (by decide) (by decide) ?_
    refine g_goto C 25 dL_remove_10 (by decide) ?_
    refine g_iconst C (v := 0) dL_remove_25 (by decide) ?_
    exact g_iret C hr dL_remove_26 (by decide) (by decide) (Or.inr ⟨z9, w1, hp, rfl, rfl⟩)
set_option maxHeartbeats 4000000 in
set_option maxRecDepth 100000 in
theorem c_L_relate (l : Launch) (G : hD) (w : hW) (x ou : Nat) (ov : Nat → Int64) {fs : List Value} {px : String → Prop} {pst : Option Value → hW → Prop} (p0 p1 p2 : Int32) (hx : w x = some (eO 2 fs)) (hc : h_Met l yX2_relate (Cond.code yX2_relate cX2_relate 4 (some .int)) { frames := 7, cells := 4, slots := 29, locals := 107 } G [.ref x, .int p0, .int p1, .int p2] w pst px) (hpx : ∀ E, px E → E = nNS ∨ E = nIA ∨ E = nIS) (hpst : ∀ v w1, pst v w1 → (∃ z9 : Int32, v = some (.int z9) ∧ w1 ou = some (eJ G 1 ov))) : h_Met l yL_relate (Cond.codeWith yL_relate cL_relate 6 (some .int) [(0, 12, 15, 13), (0, 12, 19, 15), (0, 12, 23, 17)]) { frames := 8, cells := 4, slots := 29, locals := 130 } G [.ref x, .int p0, .int p1, .int p2, .ref ou] w (lwP G cd3 px pst w ou ov) noX := by
  refine h_metH RL rfl (by decide) (Nat.le_of_ble_eq_true rfl) (cat_c rfl (cat_c rfl (cat_c rfl (cat_c rfl (cat_c rfl cat_n))))) ?_
  intro p e s m below meth c A C hxt hr hnm
  first | refine g_aload C dL_relate_0 rfl ?_ | refine g_aloadN C dL_relate_0 rfl ?_ | refine g_aloadq C dL_relate_0 rfl ?_
  refine g_iconst C (v := 0) dL_relate_2 (by decide) ?_
  first | refine g_aload_n C dL_relate_3 rfl rfl ?_ | refine g_aload_nN C dL_relate_3 rfl rfl ?_ | refine g_aload_nq C dL_relate_3 rfl rfl ?_
  refine g_iload_n C dL_relate_4 rfl rfl ?_
  refine g_iload_n C dL_relate_5 rfl rfl ?_
  refine g_iload_n C dL_relate_6 rfl rfl ?_
  refine g_callVg (rest := [.int 0, .ref ou]) C dL_relate_7 hc kmL_26 ki_X2_relate kv_X2_relate kn_X2 kc_X2_relate hy_X2_relate ⟨by decide, by decide⟩ hx rfl rfl (Nat.le_of_ble_eq_true rfl) ⟨by decide, by decide⟩ ?_ ?_
  · intro E q ce H1 locs1 ls hp hP1 hA1 hS1 hl9 h19 hc1 hc2 hc3
    rcases hpx E hp with rfl | rfl | rfl
    · refine g_catch C [] (⟨0, 12, 15, 13⟩ : ExceptionTableEntry) [(⟨0, 12, 19, 15⟩ : ExceptionTableEntry), (⟨0, 12, 23, 17⟩ : ExceptionTableEntry)] hxt (fun z hz => by cases hz) (by decide) (by decide) klL_13 (by decide) hP1 hA1 hS1 hl9 h19 hc1 hc2 hc3 ?_
      first | refine g_astore C dL_relate_15 (by decide) ?_ | refine g_astoreN C dL_relate_15 (by decide) ?_ | refine g_astoreq C dL_relate_15 (by decide) ?_
      refine g_iconst C (v := 1) dL_relate_17 (by decide) ?_
      exact g_iret C hr dL_relate_18 (by decide) (by decide) (Or.inl ⟨_, hp, by rw [cd3_nNS], rfl⟩)
    · refine g_catch C [(⟨0, 12, 15, 13⟩ : ExceptionTableEntry)] (⟨0, 12, 19, 15⟩ : ExceptionTableEntry) [(⟨0, 12, 23, 17⟩ : ExceptionTableEntry)] hxt (fun z hz => by rcases List.mem_singleton.mp hz with rfl; exact ⟨by decide, nNS, klL_13, by decide⟩) (by decide) (by decide) klL_15 (by decide) hP1 hA1 hS1 hl9 h19 hc1 hc2 hc3 ?_
      first | refine g_astore C dL_relate_19 (by decide) ?_ | refine g_astoreN C dL_relate_19 (by decide) ?_ | refine g_astoreq C dL_relate_19 (by decide) ?_
      refine g_iconst C (v := 2) dL_relate_21 (by decide) ?_
      exact g_iret C hr dL_relate_22 (by decide) (by decide) (Or.inl ⟨_, hp, by rw [cd3_nIA], rfl⟩)
    · refine g_catch C [(⟨0, 12, 15, 13⟩ : ExceptionTableEntry), (⟨0, 12, 19, 15⟩ : ExceptionTableEntry)] (⟨0, 12, 23, 17⟩ : ExceptionTableEntry) [] hxt (fun z hz => (List.mem_cons.mp hz).elim (fun e => by subst e; exact ⟨by decide, nNS, klL_13, by decide⟩) (fun hz => by rcases List.mem_singleton.mp hz with rfl; exact ⟨by decide, nIA, klL_15, by decide⟩)) (by decide) (by decide) klL_17 (by decide) hP1 hA1 hS1 hl9 h19 hc1 hc2 hc3 ?_
      first | refine g_astore C dL_relate_23 (by decide) ?_ | refine g_astoreN C dL_relate_23 (by decide) ?_ | refine g_astoreq C dL_relate_23 (by decide) ?_
      refine g_iconst C (v := 3) dL_relate_25 (by decide) ?_
      exact g_iret C hr dL_relate_26 (by decide) (by decide) (Or.inl ⟨_, hp, by rw [cd3_nIS], rfl⟩)
  · intro v w1 hp
    obtain ⟨z9, rfl, ho1⟩ := hpst v w1 hp
    refine g_i2l C dL_relate_10 rfl ?_
    refine g_lastN (k0 := 0) C dL_relate_11 ho1 (by decide) (by decide) ?_
    refine g_goto C 27 dL_relate_12 (by decide) ?_
    refine g_iconst C (v := 0) dL_relate_27 (by decide) ?_
    exact g_iret C hr dL_relate_28 (by decide) (by decide) (Or.inr ⟨z9, w1, hp, rfl, rfl⟩)
set_option maxHeartbeats 4000000 in
set_option maxRecDepth 100000 in
theorem c_L_drop (l : Launch) (G : hD) (w : hW) (x ou : Nat) (ov : Nat → Int64) {fs : List Value} {px : String → Prop} {pst : Option Value → hW → Prop} (p0 p1 : Int32) (hx : w x = some (eO 2 fs)) (hc : h_Met l yX2_drop (Cond.code yX2_drop cX2_drop 3 (some .int)) { frames := 9, cells := 4, slots := 35, locals := 153 } G [.ref x, .int p0, .int p1] w pst px) (hpx : ∀ E, px E → E = nNS ∨ E = nIA ∨ E = nIS) (hpst : ∀ v w1, pst v w1 → (∃ z9 : Int32, v = some (.int z9) ∧ w1 ou = some (eJ G 1 ov))) : h_Met l yL_drop (Cond.codeWith yL_drop cL_drop 5 (some .int) [(0, 10, 13, 13), (0, 10, 17, 15), (0, 10, 21, 17)]) { frames := 10, cells := 4, slots := 35, locals := 175 } G [.ref x, .int p0, .int p1, .ref ou] w (lwP G cd3 px pst w ou ov) noX := by
  refine h_metH RL rfl (by decide) (Nat.le_of_ble_eq_true rfl) (cat_c rfl (cat_c rfl (cat_c rfl (cat_c rfl cat_n)))) ?_
  intro p e s m below meth c A C hxt hr hnm
  first | refine g_aload_n C dL_drop_0 rfl rfl ?_ | refine g_aload_nN C dL_drop_0 rfl rfl ?_ | refine g_aload_nq C dL_drop_0 rfl rfl ?_
  refine g_iconst C (v := 0) dL_drop_1 (by decide) ?_
  first | refine g_aload_n C dL_drop_2 rfl rfl ?_ | refine g_aload_nN C dL_drop_2 rfl rfl ?_ | refine g_aload_nq C dL_drop_2 rfl rfl ?_
  refine g_iload_n C dL_drop_3 rfl rfl ?_
  refine g_iload_n C dL_drop_4 rfl rfl ?_
  refine g_callVg (rest := [.int 0, .ref ou]) C dL_drop_5 hc kmL_30 ki_X2_drop kv_X2_drop kn_X2 kc_X2_drop hy_X2_drop ⟨by decide, by decide⟩ hx rfl rfl (Nat.le_of_ble_eq_true rfl) ⟨by decide, by decide⟩ ?_ ?_
  · intro E q ce H1 locs1 ls hp hP1 hA1 hS1 hl9 h19 hc1 hc2 hc3
    rcases hpx E hp with rfl | rfl | rfl
    · refine g_catch C [] (⟨0, 10, 13, 13⟩ : ExceptionTableEntry) [(⟨0, 10, 17, 15⟩ : ExceptionTableEntry), (⟨0, 10, 21, 17⟩ : ExceptionTableEntry)] hxt (fun z hz => by cases hz) (by decide) (by decide) klL_13 (by decide) hP1 hA1 hS1 hl9 h19 hc1 hc2 hc3 ?_
      first | refine g_astore C dL_drop_13 (by decide) ?_ | refine g_astoreN C dL_drop_13 (by decide) ?_ | refine g_astoreq C dL_drop_13 (by decide) ?_
      refine g_iconst C (v := 1) dL_drop_15 (by decide) ?_
      exact g_iret C hr dL_drop_16 (by decide) (by decide) (Or.inl ⟨_, hp, by rw [cd3_nNS], rfl⟩)
    · refine g_catch C [(⟨0, 10, 13, 13⟩ : ExceptionTableEntry)] (⟨0, 10, 17, 15⟩ : ExceptionTableEntry) [(⟨0, 10, 21, 17⟩ : ExceptionTableEntry)] hxt (fun z hz => by rcases List.mem_singleton.mp hz with rfl; exact ⟨by decide, nNS, klL_13, by decide⟩) (by decide) (by decide) klL_15 (by decide) hP1 hA1 hS1 hl9 h19 hc1 hc2 hc3 ?_
      first | refine g_astore C dL_drop_17 (by decide) ?_ | refine g_astoreN C dL_drop_17 (by decide) ?_ | refine g_astoreq C dL_drop_17 (by decide) ?_
      refine g_iconst C (v := 2) dL_drop_19 (by decide) ?_
      exact g_iret C hr dL_drop_20 (by decide) (by decide) (Or.inl ⟨_, hp, by rw [cd3_nIA], rfl⟩)
    · refine g_catch C [(⟨0, 10, 13, 13⟩ : ExceptionTableEntry), (⟨0, 10, 17, 15⟩ : ExceptionTableEntry)] (⟨0, 10, 21, 17⟩ : ExceptionTableEntry) [] hxt (fun z hz => (List.mem_cons.mp hz).elim (fun e => by subst e; exact ⟨by decide, nNS, klL_13, by decide⟩) (fun hz => by rcases List.mem_singleton.mp hz with rfl; exact ⟨by decide, nIA, klL_15, by decide⟩)) (by decide) (by decide) klL_17 (by decide) hP1 hA1 hS1 hl9 h19 hc1 hc2 hc3 ?_
      first | refine g_astore C dL_drop_21 (by decide) ?_ | refine g_astoreN C dL_drop_21 (by decide) ?_ | refine g_astoreq C dL_drop_21 (by decide) ?_
      refine g_iconst C (v := 3) dL_drop_23 (by decide) ?_
      exact g_iret C hr dL_drop_24 (by decide) (by decide) (Or.inl ⟨_, hp, by rw [cd3_nIS], rfl⟩)
  · intro v w1 hp
    obtain ⟨z9, rfl, ho1⟩ := hpst v w1 hp
    refine g_i2l C dL_drop_8 rfl ?_
    refine g_lastN (k0 := 0) C dL_drop_9 ho1 (by decide) (by decide) ?_
    refine g_goto C 25 dL_drop_10 (by decide) ?_
    refine g_iconst C (v := 0) dL_drop_25 (by decide) ?_
    exact g_iret C hr dL_drop_26 (by decide) (by decide) (Or.inr ⟨z9, w1, hp, rfl, rfl⟩)
set_option maxHeartbeats 4000000 in
set_option maxRecDepth 100000 in
theorem c_L_join (l : Launch) (G : hD) (w : hW) (x ou : Nat) (ov : Nat → Int64) {fs : List Value} {px : String → Prop} {pst : Option Value → hW → Prop} (p0 p1 : Int32) (hx : w x = some (eO 2 fs)) (hc : h_Met l yX2_join (Cond.code yX2_join cX2_join 5 (some .int)) { frames := 7, cells := 2, slots := 12, locals := 102 } G [.ref x, .int p0, .int p1] w pst px) (hpx : ∀ E, px E → E = nNS) (hpst : ∀ v w1, pst v w1 → (∃ z9 : Int32, v = some (.int z9) ∧ w1 ou = some (eJ G 1 ov))) : h_Met l yL_join (Cond.codeWith yL_join cL_join 5 (some .int) [(0, 10, 13, 13)]) { frames := 8, cells := 2, slots := 12, locals := 126 } G [.ref x, .int p0, .int p1, .ref ou] w (lwP G cd1 px pst w ou ov) noX := by
  refine h_metH RL rfl (by decide) (Nat.le_of_ble_eq_true rfl) (cat_c rfl (cat_c rfl (cat_c rfl (cat_c rfl cat_n)))) ?_
  intro p e s m below meth c A C hxt hr hnm
  first | refine g_aload_n C dL_join_0 rfl rfl ?_ | refine g_aload_nN C dL_join_0 rfl rfl ?_ | refine g_aload_nq C dL_join_0 rfl rfl ?_
  refine g_iconst C (v := 0) dL_join_1 (by decide) ?_
  first | refine g_aload_n C dL_join_2 rfl rfl ?_ | refine g_aload_nN C dL_join_2 rfl rfl ?_ | refine g_aload_nq C dL_join_2 rfl rfl ?_
  refine g_iload_n C dL_join_3 rfl rfl ?_
  refine g_iload_n C dL_join_4 rfl rfl ?_
  refine g_callVg (rest := [.int 0, .ref ou]) C dL_join_5 hc kmL_33 ki_X2_join kv_X2_join kn_X2 kc_X2_join hy_X2_join ⟨by decide, by decide⟩ hx rfl rfl (Nat.le_of_ble_eq_true rfl) ⟨by decide, by decide⟩ ?_ ?_
  · intro E q ce H1 locs1 ls hp hP1 hA1 hS1 hl9 h19 hc1 hc2 hc3
    rcases hpx E hp with rfl
    · refine g_catch C [] (⟨0, 10, 13, 13⟩ : ExceptionTableEntry) [] hxt (fun z hz => by cases hz) (by decide) (by decide) klL_13 (by decide) hP1 hA1 hS1 hl9 h19 hc1 hc2 hc3 ?_
      first | refine g_astore C dL_join_13 (by decide) ?_ | refine g_astoreN C dL_join_13 (by decide) ?_ | refine g_astoreq C dL_join_13 (by decide) ?_
      refine g_iconst C (v := 1) dL_join_15 (by decide) ?_
      exact g_iret C hr dL_join_16 (by decide) (by decide) (Or.inl ⟨_, hp, by rw [cd1_nNS], rfl⟩)
  · intro v w1 hp
    obtain ⟨z9, rfl, ho1⟩ := hpst v w1 hp
    refine g_i2l C dL_join_8 rfl ?_
    refine g_lastN (k0 := 0) C dL_join_9 ho1 (by decide) (by decide) ?_
    refine g_goto C 17 dL_join_10 (by decide) ?_
    refine g_iconst C (v := 0) dL_join_17 (by decide) ?_
    exact g_iret C hr dL_join_18 (by decide) (by decide) (Or.inr ⟨z9, w1, hp, rfl, rfl⟩)
set_option maxHeartbeats 4000000 in
set_option maxRecDepth 100000 in
theorem c_L_number (l : Launch) (G : hD) (w : hW) (x ou : Nat) (ov : Nat → Int64) {fs : List Value} {px : String → Prop} {pst : Option Value → hW → Prop} (p0 : Int32) (hx : w x = some (eO 2 fs)) (hc : h_Met l yX2_number (Cond.code yX2_number cX2_number 3 (some .int)) { frames := 7, cells := 2, slots := 12, locals := 102 } G [.ref x, .int p0] w pst px) (hpx : ∀ E, px E → E = nNS ∨ E = nIS) (hpst : ∀ v w1, pst v w1 → (∃ z9 : Int32, v = some (.int z9) ∧ w1 ou = some (eJ G 1 ov))) : h_Met l yL_number (Cond.codeWith yL_number cL_number 4 (some .int) [(0, 9, 12, 13), (0, 9, 15, 17)]) { frames := 8, cells := 2, slots := 12, locals := 124 } G [.ref x, .int p0, .ref ou] w (lwP G cd2 px pst w ou ov) noX := by
  refine h_metH RL rfl (by decide) (Nat.le_of_ble_eq_true rfl) (cat_c rfl (cat_c rfl (cat_c rfl cat_n))) ?_
  intro p e s m below meth c A C hxt hr hnm
  first | refine g_aload_n C dL_number_0 rfl rfl ?_ | refine g_aload_nN C dL_number_0 rfl rfl ?_ | refine g_aload_nq C dL_number_0 rfl rfl ?_
  refine g_iconst C (v := 0) dL_number_1 (by decide) ?_
  first | refine g_aload_n C dL_number_2 rfl rfl ?_ | refine g_aload_nN C dL_number_2 rfl rfl ?_ | refine g_aload_nq C dL_number_2 rfl rfl ?_
  refine g_iload_n C dL_number_3 rfl rfl ?_
  refine g_callVg (rest := [.int 0, .ref ou]) C dL_number_4 hc kmL_36 ki_X2_number kv_X2_number kn_X2 kc_X2_number hy_X2_number ⟨by decide, by decide⟩ hx rfl rfl (Nat.le_of_ble_eq_true rfl) ⟨by decide, by decide⟩ ?_ ?_
  · intro E q ce H1 locs1 ls hp hP1 hA1 hS1 hl9 h19 hc1 hc2 hc3
    rcases hpx E hp with rfl | rfl
    · refine g_catch C [] (⟨0, 9, 12, 13⟩ : ExceptionTableEntry) [(⟨0, 9, 15, 17⟩ : ExceptionTableEntry)] hxt (fun z hz => by cases hz) (by decide) (by decide) klL_13 (by decide) hP1 hA1 hS1 hl9 h19 hc1 hc2 hc3 ?_
      first | refine g_astore_n C dL_number_12 rfl (by decide) ?_ | refine g_astore_nN C dL_number_12 rfl (by decide) ?_ | refine g_astore_nq C dL_number_12 rfl (by decide) ?_
      refine g_iconst C (v := 1) dL_number_13 (by decide) ?_
      exact g_iret C hr dL_number_14 (by decide) (by decide) (Or.inl ⟨_, hp, by rw [cd2_nNS], rfl⟩)
    · refine g_catch C [(⟨0, 9, 12, 13⟩ : ExceptionTableEntry)] (⟨0, 9, 15, 17⟩ : ExceptionTableEntry) [] hxt (fun z hz => by rcases List.mem_singleton.mp hz with rfl; exact ⟨by decide, nNS, klL_13, by decide⟩) (by decide) (by decide) klL_17 (by decide) hP1 hA1 hS1 hl9 h19 hc1 hc2 hc3 ?_
      first | refine g_astore_n C dL_number_15 rfl (by decide) ?_ | refine g_astore_nN C dL_number_15 rfl (by decide) ?_ | refine g_astore_nq C dL_number_15 rfl (by decide) ?_
      refine g_iconst C (v := 2) dL_number_16 (by decide) ?_
      exact g_iret C hr dL_number_17 (by decide) (by decide) (Or.inl ⟨_, hp, by rw [cd2_nIS], rfl⟩)
  · intro v w1 hp
    obtain ⟨z9, rfl, ho1⟩ := hpst v w1 hp
    refine g_i2l C dL_number_7 rfl ?_
    refine g_lastN (k0 := 0) C dL_number_8 ho1 (by decide) (by decide) ?_
    refine g_goto C 18 dL_number_9 (by decide) ?_
    refine g_iconst C (v := 0) dL_number_18 (by decide) ?_
    exact g_iret C hr dL_number_19 (by decide) (by decide) (Or.inr ⟨z9, w1, hp, rfl, rfl⟩)
set_option maxHeartbeats 4000000 in
set_option maxRecDepth 100000 in
theorem c_L_at (l : Launch) (G : hD) (w : hW) (x ou : Nat) (ov : Nat → Int64) {fs : List Value} {px : String → Prop} {pst : Option Value → hW → Prop} (p0 p1 p2 p3 : Int32) (hx : w x = some (eO 2 fs)) (hc : h_Met l yX2_at (Cond.code yX2_at cX2_at 6 (some .int)) { frames := 7, cells := 4, slots := 24, locals := 103 } G [.ref x, .int p0, .int p1, .int p2, .int p3] w pst px) (hpx : ∀ E, px E → E = nNS) (hpst : ∀ v w1, pst v w1 → (∃ z9 : Int32, v = some (.int z9) ∧ w1 ou = some (eJ G 1 ov))) : h_Met l yL_at (Cond.codeWith yL_at cL_at 7 (some .int) [(0, 14, 17, 13)]) { frames := 8, cells := 4, slots := 24, locals := 128 } G [.ref x, .int p0, .int p1, .int p2, .int p3, .ref ou] w (lwP G cd1 px pst w ou ov) noX := by
  refine h_metH RL rfl (by decide) (Nat.le_of_ble_eq_true rfl) (cat_c rfl (cat_c rfl (cat_c rfl (cat_c rfl (cat_c rfl (cat_c rfl cat_n)))))) ?_
  intro p e s m below meth c A C hxt hr hnm
  first | refine g_aload C dL_at_0 rfl ?_ | refine g_aloadN C dL_at_0 rfl ?_ | refine g_aloadq C dL_at_0 rfl ?_
  refine g_iconst C (v := 0) dL_at_2 (by decide) ?_
  first | refine g_aload_n C dL_at_3 rfl rfl ?_ | refine g_aload_nN C dL_at_3 rfl rfl ?_ | refine g_aload_nq C dL_at_3 rfl rfl ?_
  refine g_iload_n C dL_at_4 rfl rfl ?_
  refine g_iload_n C dL_at_5 rfl rfl ?_
  refine g_iload_n C dL_at_6 rfl rfl ?_
  refine g_iload C dL_at_7 rfl ?_
  refine g_callVg (rest := [.int 0, .ref ou]) C dL_at_9 hc kmL_40 ki_X2_at kv_X2_at kn_X2 kc_X2_at hy_X2_at ⟨by decide, by decide⟩ hx rfl rfl (Nat.le_of_ble_eq_true rfl) ⟨by decide, by decide⟩ ?_ ?_
  · intro E q ce H1 locs1 ls hp hP1 hA1 hS1 hl9 h19 hc1 hc2 hc3
    rcases hpx E hp with rfl
    · refine g_catch C [] (⟨0, 14, 17, 13⟩ : ExceptionTableEntry) [] hxt (fun z hz => by cases hz) (by decide) (by decide) klL_13 (by decide) hP1 hA1 hS1 hl9 h19 hc1 hc2 hc3 ?_
      first | refine g_astore C dL_at_17 (by decide) ?_ | refine g_astoreN C dL_at_17 (by decide) ?_ | refine g_astoreq C dL_at_17 (by decide) ?_
      refine g_iconst C (v := 1) dL_at_19 (by decide) ?_
      exact g_iret C hr dL_at_20 (by decide) (by decide) (Or.inl ⟨_, hp, by rw [cd1_nNS], rfl⟩)
  · intro v w1 hp
    obtain ⟨z9, rfl, ho1⟩ := hpst v w1 hp
    refine g_i2l C dL_at_12 rfl ?_
    refine g_lastN (k0 := 0) C dL_at_13 ho1 (by decide) (by decide) ?_
    refine g_goto C 21 dL_at_14 (by decide) ?_
    refine g_iconst C (v := 0) dL_at_21 (by decide) ?_
    exact g_iret C hr dL_at_22 (by decide) (by decide) (Or.inr ⟨z9, w1, hp, rfl, rfl⟩)
set_option maxHeartbeats 4000000 in
set_option maxRecDepth 100000 in
theorem c_L_place (l : Launch) (G : hD) (w : hW) (x ou : Nat) (ov : Nat → Int64) {fs : List Value} {px : String → Prop} {pst : Option Value → hW → Prop} (p0 p1 p2 : Int32) (hx : w x = some (eO 2 fs)) (hc : h_Met l yX2_place (Cond.code yX2_place cX2_place 5 (some .int)) { frames := 7, cells := 3, slots := 18, locals := 102 } G [.ref x, .int p0, .int p1, .int p2] w pst px) (hpx : ∀ E, px E → E = nNS) (hpst : ∀ v w1, pst v w1 → (∃ z9 : Int32, v = some (.int z9) ∧ w1 ou = some (eJ G 1 ov))) : h_Met l yL_place (Cond.codeWith yL_place cL_place 6 (some .int) [(0, 12, 15, 13)]) { frames := 8, cells := 3, slots := 18, locals := 126 } G [.ref x, .int p0, .int p1, .int p2, .ref ou] w (lwP G cd1 px pst w ou ov) noX := by
  refine h_metH RL rfl (by decide) (Nat.le_of_ble_eq_true rfl) (cat_c rfl (cat_c rfl (cat_c rfl (cat_c rfl (cat_c rfl cat_n))))) ?_
  intro p e s m below meth c A C hxt hr hnm
  first | refine g_aload C dL_place_0 rfl ?_ | refine g_aloadN C dL_place_0 rfl ?_ | refine g_aloadq C dL_place_0 rfl ?_
  refine g_iconst C (v := 0) dL_place_2 (by decide) ?_
  first | refine g_aload_n C dL_place_3 rfl rfl ?_ | refine g_aload_nN C dL_place_3 rfl rfl ?_ | refine g_aload_nq C dL_place_3 rfl rfl ?_
  refine g_iload_n C dL_place_4 rfl rfl ?_
  refine g_iload_n C dL_place_5 rfl rfl ?_
  refine g_iload_n C dL_place_6 rfl rfl ?_
  refine g_callVg (rest := [.int 0, .ref ou]) C dL_place_7 hc kmL_43 ki_X2_place kv_X2_place kn_X2 kc_X2_place hy_X2_place ⟨by decide, by decide⟩ hx rfl rfl (Nat.le_of_ble_eq_true rfl) ⟨by decide, by decide⟩ ?_ ?_
  · intro E q ce H1 locs1 ls hp hP1 hA1 hS1 hl9 h19 hc1 hc2 hc3
    rcases hpx E hp with rfl
    · refine g_catch C [] (⟨0, 12, 15, 13⟩ : ExceptionTableEntry) [] hxt (fun z hz => by cases hz) (by decide) (by decide) klL_13 (by decide) hP1 hA1 hS1 hl9 h19 hc1 hc2 hc3 ?_
      first | refine g_astore C dL_place_15 (by decide) ?_ | refine g_astoreN C dL_place_15 (by decide) ?_ | refine g_astoreq C dL_place_15 (by decide) ?_
      refine g_iconst C (v := 1) dL_place_17 (by decide) ?_
      exact g_iret C hr dL_place_18 (by decide) (by decide) (Or.inl ⟨_, hp, by rw [cd1_nNS], rfl⟩)
  · intro v w1 hp
    obtain ⟨z9, rfl, ho1⟩ := hpst v w1 hp
    refine g_i2l C dL_place_10 rfl ?_
    refine g_lastN (k0 := 0) C dL_place_11 ho1 (by decide) (by decide) ?_
    refine g_goto C 19 dL_place_12 (by decide) ?_
    refine g_iconst C (v := 0) dL_place_19 (by decide) ?_
    exact g_iret C hr dL_place_20 (by decide) (by decide) (Or.inr ⟨z9, w1, hp, rfl, rfl⟩)
set_option maxHeartbeats 4000000 in
set_option maxRecDepth 100000 in
theorem c_L_order (l : Launch) (G : hD) (w : hW) (x ou : Nat) (ov : Nat → Int64) {fs : List Value} {px : String → Prop} {pst : Option Value → hW → Prop} (p0 p1 p2 : Int32) (hx : w x = some (eO 2 fs)) (hc : h_Met l yX2_order (Cond.code yX2_order cX2_order 4 (some .int)) { frames := 7, cells := 3, slots := 18, locals := 102 } G [.ref x, .int p0, .int p1, .int p2] w pst px) (hpx : ∀ E, px E → E = nNS) (hpst : ∀ v w1, pst v w1 → (∃ z9 : Int32, v = some (.int z9) ∧ w1 ou = some (eJ G 1 ov))) : h_Met l yL_order (Cond.codeWith yL_order cL_order 6 (some .int) [(0, 12, 15, 13)]) { frames := 8, cells := 3, slots := 18, locals := 125 } G [.ref x, .int p0, .int p1, .int p2, .ref ou] w (lwP G cd1 px pst w ou ov) noX := by
  refine h_metH RL rfl (by decide) (Nat.le_of_ble_eq_true rfl) (cat_c rfl (cat_c rfl (cat_c rfl (cat_c rfl (cat_c rfl cat_n))))) ?_
  intro p e s m below meth c A C hxt hr hnm
  first | refine g_aload C dL_order_0 rfl ?_ | refine g_aloadN C dL_order_0 rfl ?_ | refine g_aloadq C dL_order_0 rfl ?_
  refine g_iconst C (v := 0) dL_order_2 (by decide) ?_
  first | refine g_aload_n C dL_order_3 rfl rfl ?_ | refine g_aload_nN C dL_order_3 rfl rfl ?_ | refine g_aload_nq C dL_order_3 rfl rfl ?_
  refine g_iload_n C dL_order_4 rfl rfl ?_
  refine g_iload_n C dL_order_5 rfl rfl ?_
  refine g_iload_n C dL_order_6 rfl rfl ?_
  refine g_callVg (rest := [.int 0, .ref ou]) C dL_order_7 hc kmL_46 ki_X2_order kv_X2_order kn_X2 kc_X2_order hy_X2_order ⟨by decide, by decide⟩ hx rfl rfl (Nat.le_of_ble_eq_true rfl) ⟨by decide, by decide⟩ ?_ ?_
  · intro E q ce H1 locs1 ls hp hP1 hA1 hS1 hl9 h19 hc1 hc2 hc3
    rcases hpx E hp with rfl
    · refine g_catch C [] (⟨0, 12, 15, 13⟩ : ExceptionTableEntry) [] hxt (fun z hz => by cases hz) (by decide) (by decide) klL_13 (by decide) hP1 hA1 hS1 hl9 h19 hc1 hc2 hc3 ?_
      first | refine g_astore C dL_order_15 (by decide) ?_ | refine g_astoreN C dL_order_15 (by decide) ?_ | refine g_astoreq C dL_order_15 (by decide) ?_
      refine g_iconst C (v := 1) dL_order_17 (by decide) ?_
      exact g_iret C hr dL_order_18 (by decide) (by decide) (Or.inl ⟨_, hp, by rw [cd1_nNS], rfl⟩)
  · intro v w1 hp
    obtain ⟨z9, rfl, ho1⟩ := hpst v w1 hp
    refine g_i2l C dL_order_10 rfl ?_
    refine g_lastN (k0 := 0) C dL_order_11 ho1 (by decide) (by decide) ?_
    refine g_goto C 19 dL_order_12 (by decide) ?_
    refine g_iconst C (v := 0) dL_order_19 (by decide) ?_
    exact g_iret C hr dL_order_20 (by decide) (by decide) (Or.inr ⟨z9, w1, hp, rfl, rfl⟩)
set_option maxHeartbeats 4000000 in
set_option maxRecDepth 100000 in
theorem c_L_open (l : Launch) (G : hD) (w : hW) (x ou : Nat) (ov : Nat → Int64) {fs : List Value} {px : String → Prop} {pst : Option Value → hW → Prop} (p0 p1 : Int32) (hx : w x = some (eO 2 fs)) (hc : h_Met l yX2_open (Cond.code yX2_open cX2_open 5 (some .int)) { frames := 7, cells := 2, slots := 12, locals := 102 } G [.ref x, .int p0, .int p1] w pst px) (hpx : ∀ E, px E → E = nNS) (hpst : ∀ v w1, pst v w1 → (∃ z9 : Int32, v = some (.int z9) ∧ w1 ou = some (eJ G 1 ov))) : h_Met l yL_open (Cond.codeWith yL_open cL_open 5 (some .int) [(0, 10, 13, 13)]) { frames := 8, cells := 2, slots := 12, locals := 126 } G [.ref x, .int p0, .int p1, .ref ou] w (lwP G cd1 px pst w ou ov) noX := by
  refine h_metH RL rfl (by decide) (Nat.le_of_ble_eq_true rfl) (cat_c rfl (cat_c rfl (cat_c rfl (cat_c rfl cat_n)))) ?_
  intro p e s m below meth c A C hxt hr hnm
  first | refine g_aload_n C dL_open_0 rfl rfl ?_ | refine g_aload_nN C dL_open_0 rfl rfl ?_ | refine g_aload_nq C dL_open_0 rfl rfl ?_
  refine g_iconst C (v := 0) dL_open_1 (by decide) ?_
  first | refine g_aload_n C dL_open_2 rfl rfl ?_ | refine g_aload_nN C dL_open_2 rfl rfl ?_ | refine g_aload_nq C dL_open_2 rfl rfl ?_
  refine g_iload_n C dL_open_3 rfl rfl ?_
  refine g_iload_n C dL_open_4 rfl rfl ?_
  refine g_callVg (rest := [.int 0, .ref ou]) C dL_open_5 hc kmL_49 ki_X2_open kv_X2_open kn_X2 kc_X2_open hy_X2_open ⟨by decide, by decide⟩ hx rfl rfl (Nat.le_of_ble_eq_true rfl) ⟨by decide, by decide⟩ ?_ ?_
  · intro E q ce H1 locs1 ls hp hP1 hA1 hS1 hl9 h19 hc1 hc2 hc3
    rcases hpx E hp with rfl
    · refine g_catch C [] (⟨0, 10, 13, 13⟩ : ExceptionTableEntry) [] hxt (fun z hz => by cases hz) (by decide) (by decide) klL_13 (by decide) hP1 hA1 hS1 hl9 h19 hc1 hc2 hc3 ?_
      first | refine g_astore C dL_open_13 (by decide) ?_ | refine g_astoreN C dL_open_13 (by decide) ?_ | refine g_astoreq C dL_open_13 (by decide) ?_
      refine g_iconst C (v := 1) dL_open_15 (by decide) ?_
      exact g_iret C hr dL_open_16 (by decide) (by decide) (Or.inl ⟨_, hp, by rw [cd1_nNS], rfl⟩)
  · intro v w1 hp
    obtain ⟨z9, rfl, ho1⟩ := hpst v w1 hp
    refine g_i2l C dL_open_8 rfl ?_
    refine g_lastN (k0 := 0) C dL_open_9 ho1 (by decide) (by decide) ?_
    refine g_goto C 17 dL_open_10 (by decide) ?_
    refine g_iconst C (v := 0) dL_open_17 (by decide) ?_
    exact g_iret C hr dL_open_18 (by decide) (by decide) (Or.inr ⟨z9, w1, hp, rfl, rfl⟩)
set_option maxHeartbeats 4000000 in
set_option maxRecDepth 100000 in
theorem c_L_knows (l : Launch) (G : hD) (w : hW) (x ou : Nat) (ov : Nat → Int64) {fs : List Value} {px : String → Prop} {pst : Option Value → hW → Prop} (p0 p1 : Int32) (hx : w x = some (eO 2 fs)) (hc : h_Met l yX2_knows (Cond.code yX2_knows cX2_knows 3 (some .boolean)) { frames := 7, cells := 2, slots := 12, locals := 104 } G [.ref x, .int p0, .int p1] w pst px) (hpx : ∀ E, px E → E = nNS) (hpst : ∀ v w1, pst v w1 → (∃ b9 : Bool, v = some (.int (bI b9)) ∧ w1 ou = some (eJ G 1 ov))) : h_Met l yL_knows (Cond.codeWith yL_knows cL_knows 5 (some .int) [(0, 17, 20, 13)]) { frames := 8, cells := 2, slots := 12, locals := 126 } G [.ref x, .int p0, .int p1, .ref ou] w (lwP G cd1 px pst w ou ov) noX := by
  refine h_metH RL rfl (by decide) (Nat.le_of_ble_eq_true rfl) (cat_c rfl (cat_c rfl (cat_c rfl (cat_c rfl cat_n)))) ?_
  intro p e s m below meth c A C hxt hr hnm
  first | refine g_aload_n C dL_knows_0 rfl rfl ?_ | refine g_aload_nN C dL_knows_0 rfl rfl ?_ | refine g_aload_nq C dL_knows_0 rfl rfl ?_
  refine g_iconst C (v := 0) dL_knows_1 (by decide) ?_
  first | refine g_aload_n C dL_knows_2 rfl rfl ?_ | refine g_aload_nN C dL_knows_2 rfl rfl ?_ | refine g_aload_nq C dL_knows_2 rfl rfl ?_
  refine g_iload_n C dL_knows_3 rfl rfl ?_
  refine g_iload_n C dL_knows_4 rfl rfl ?_
  refine g_callVg (rest := [.int 0, .ref ou]) C dL_knows_5 hc kmL_52 ki_X2_knows kv_X2_knows kn_X2 kc_X2_knows hy_X2_knows ⟨by decide, by decide⟩ hx rfl rfl (Nat.le_of_ble_eq_true rfl) ⟨by decide, by decide⟩ ?_ ?_
  · intro E q ce H1 locs1 ls hp hP1 hA1 hS1 hl9 h19 hc1 hc2 hc3
    rcases hpx E hp with rfl
    · refine g_catch C [] (⟨0, 17, 20, 13⟩ : ExceptionTableEntry) [] hxt (fun z hz => by cases hz) (by decide) (by decide) klL_13 (by decide) hP1 hA1 hS1 hl9 h19 hc1 hc2 hc3 ?_
      first | refine g_astore C dL_knows_20 (by decide) ?_ | refine g_astoreN C dL_knows_20 (by decide) ?_ | refine g_astoreq C dL_knows_20 (by decide) ?_
      refine g_iconst C (v := 1) dL_knows_22 (by decide) ?_
      exact g_iret C hr dL_knows_23 (by decide) (by decide) (Or.inl ⟨_, hp, by rw [cd1_nNS], rfl⟩)
  · intro v w1 hp
    obtain ⟨b9, rfl, ho1⟩ := hpst v w1 hp
    cases b9 with
    | true =>
      refine g_if_eq C 15 dL_knows_8 (by decide) (fun c8 => absurd c8 (by decide)) (fun _ => ?_)
      refine g_lconst C (v := 1) dL_knows_11 (by decide) ?_
      refine g_goto C 16 dL_knows_12 (by decide) ?_
      refine g_lastN (k0 := 0) C dL_knows_16 ho1 (by decide) (by decide) ?_
      refine g_goto C 24 dL_knows_17 (by decide) ?_
      refine g_iconst C (v := 0) dL_knows_24 (by decide) ?_
      exact g_iret C hr dL_knows_25 (by decide) (by decide) (Or.inr ⟨1, w1, hp, rfl, rfl⟩)
    | false =>
      refine g_if_eq C 15 dL_knows_8 (by decide) (fun _ => ?_) (fun c8 => absurd (rfl) c8)
      refine g_lconst C (v := 0) dL_knows_15 (by decide) ?_
      refine g_lastN (k0 := 0) C dL_knows_16 ho1 (by decide) (by decide) ?_
      refine g_goto C 24 dL_knows_17 (by decide) ?_
      refine g_iconst C (v := 0) dL_knows_24 (by decide) ?_
      exact g_iret C hr dL_knows_25 (by decide) (by decide) (Or.inr ⟨0, w1, hp, rfl, rfl⟩)
set_option maxHeartbeats 4000000 in
set_option maxRecDepth 100000 in
theorem c_L_equal (l : Launch) (G : hD) (w : hW) (x ou : Nat) (ov : Nat → Int64) {fs : List Value} {px : String → Prop} {pst : Option Value → hW → Prop} (p0 p1 : Int32) (hx : w x = some (eO 2 fs)) (hc : h_Met l yX2_equal (Cond.code yX2_equal cX2_equal 4 (some .boolean)) { frames := 7, cells := 2, slots := 12, locals := 102 } G [.ref x, .int p0, .int p1] w pst px) (hpx : ∀ E, px E → E = nNS) (hpst : ∀ v w1, pst v w1 → (∃ b9 : Bool, v = some (.int (bI b9)) ∧ w1 ou = some (eJ G 1 ov))) : h_Met l yL_equal (Cond.codeWith yL_equal cL_equal 5 (some .int) [(0, 17, 20, 13)]) { frames := 8, cells := 2, slots := 12, locals := 125 } G [.ref x, .int p0, .int p1, .ref ou] w (lwP G cd1 px pst w ou ov) noX := by
  refine h_metH RL rfl (by decide) (Nat.le_of_ble_eq_true rfl) (cat_c rfl (cat_c rfl (cat_c rfl (cat_c rfl cat_n)))) ?_
  intro p e s m below meth c A C hxt hr hnm
  first | refine g_aload_n C dL_equal_0 rfl rfl ?_ | refine g_aload_nN C dL_equal_0 rfl rfl ?_ | refine g_aload_nq C dL_equal_0 rfl rfl ?_
  refine g_iconst C (v := 0) dL_equal_1 (by decide) ?_
  first | refine g_aload_n C dL_equal_2 rfl rfl ?_ | refine g_aload_nN C dL_equal_2 rfl rfl ?_ | refine g_aload_nq C dL_equal_2 rfl rfl ?_
  refine g_iload_n C dL_equal_3 rfl rfl ?_
  refine g_iload_n C dL_equal_4 rfl rfl ?_
  refine g_callVg (rest := [.int 0, .ref ou]) C dL_equal_5 hc kmL_56 ki_X2_equal kv_X2_equal kn_X2 kc_X2_equal hy_X2_equal ⟨by decide, by decide⟩ hx rfl rfl (Nat.le_of_ble_eq_true rfl) ⟨by decide, by decide⟩ ?_ ?_
  · intro E q ce H1 locs1 ls hp hP1 hA1 hS1 hl9 h19 hc1 hc2 hc3
    rcases hpx E hp with rfl
    · refine g_catch C [] (⟨0, 17, 20, 13⟩ : ExceptionTableEntry) [] hxt (fun z hz => by cases hz) (by decide) (by decide) klL_13 (by decide) hP1 hA1 hS1 hl9 h19 hc1 hc2 hc3 ?_
      first | refine g_astore C dL_equal_20 (by decide) ?_ | refine g_astoreN C dL_equal_20 (by decide) ?_ | refine g_astoreq C dL_equal_20 (by decide) ?_
      refine g_iconst C (v := 1) dL_equal_22 (by decide) ?_
      exact g_iret C hr dL_equal_23 (by decide) (by decide) (Or.inl ⟨_, hp, by rw [cd1_nNS], rfl⟩)
  · intro v w1 hp
    obtain ⟨b9, rfl, ho1⟩ := hpst v w1 hp
    cases b9 with
    | true =>
      refine g_if_eq C 15 dL_equal_8 (by decide) (fun c8 => absurd c8 (by decide)) (fun _ => ?_)
      refine g_lconst C (v := 1) dL_equal_11 (by decide) ?_
      refine g_goto C 16 dL_equal_12 (by decide) ?_
      refine g_lastN (k0 := 0) C dL_equal_16 ho1 (by decide) (by decide) ?_
      refine g_goto C 24 dL_equal_17 (by decide) ?_
      refine g_iconst C (v := 0) dL_equal_24 (by decide) ?_
      exact g_iret C hr dL_equal_25 (by decide) (by decide) (Or.inr ⟨1, w1, hp, rfl, rfl⟩)
    | false =>
      refine g_if_eq C 15 dL_equal_8 (by decide) (fun _ => ?_) (fun c8 => absurd (rfl) c8)
      refine g_lconst C (v := 0) dL_equal_15 (by decide) ?_
      refine g_lastN (k0 := 0) C dL_equal_16 ho1 (by decide) (by decide) ?_
      refine g_goto C 24 dL_equal_17 (by decide) ?_
      refine g_iconst C (v := 0) dL_equal_24 (by decide) ?_
      exact g_iret C hr dL_equal_25 (by decide) (by decide) (Or.inr ⟨0, w1, hp, rfl, rfl⟩)
set_option maxHeartbeats 4000000 in
set_option maxRecDepth 100000 in
theorem c_L_about (l : Launch) (G : hD) (w : hW) (x ou : Nat) (ov : Nat → Int64) {fs : List Value} {px : String → Prop} {pst : Option Value → hW → Prop} (p0 p1 p2 : Int32) (hx : w x = some (eO 2 fs)) (hc : h_Met l yX2_about (Cond.code yX2_about cX2_about 5 (some .int)) { frames := 8, cells := 4, slots := 24, locals := 127 } G [.ref x, .int p0, .int p1, .int p2] w pst px) (hpx : ∀ E, px E → E = nNS ∨ E = nIA) (hpst : ∀ v w1, pst v w1 → (∃ z9 : Int32, v = some (.int z9) ∧ w1 ou = some (eJ G 1 ov))) : h_Met l yL_about (Cond.codeWith yL_about cL_about 6 (some .int) [(0, 12, 15, 13), (0, 12, 19, 15)]) { frames := 9, cells := 4, slots := 24, locals := 151 } G [.ref x, .int p0, .int p1, .int p2, .ref ou] w (lwP G cd2 px pst w ou ov) noX := by
  refine h_metH RL rfl (by decide) (Nat.le_of_ble_eq_true rfl) (cat_c rfl (cat_c rfl (cat_c rfl (cat_c rfl (cat_c rfl cat_n))))) ?_
  intro p e s m below meth c A C hxt hr hnm
  first | refine g_aload C dL_about_0 rfl ?_ | refine g_aloadN C dL_about_0 rfl ?_ | refine g_aloadq C dL_about_0 rfl ?_
  refine g_iconst C (v := 0) dL_about_2 (by decide) ?_
  first | refine g_aload_n C dL_about_3 rfl rfl ?_ | refine g_aload_nN C dL_about_3 rfl rfl ?_ | refine g_aload_nq C dL_about_3 rfl rfl ?_
  refine g_iload_n C dL_about_4 rfl rfl ?_
  refine g_iload_n C dL_about_5 rfl rfl ?_
  refine g_iload_n C dL_about_6 rfl rfl ?_
  refine g_callVg (rest := [.int 0, .ref ou]) C dL_about_7 hc kmL_59 ki_X2_about kv_X2_about kn_X2 kc_X2_about hy_X2_about ⟨by decide, by decide⟩ hx rfl rfl (Nat.le_of_ble_eq_true rfl) ⟨by decide, by decide⟩ ?_ ?_
  · intro E q ce H1 locs1 ls hp hP1 hA1 hS1 hl9 h19 hc1 hc2 hc3
    rcases hpx E hp with rfl | rfl
    · refine g_catch C [] (⟨0, 12, 15, 13⟩ : ExceptionTableEntry) [(⟨0, 12, 19, 15⟩ : ExceptionTableEntry)] hxt (fun z hz => by cases hz) (by decide) (by decide) klL_13 (by decide) hP1 hA1 hS1 hl9 h19 hc1 hc2 hc3 ?_
      first | refine g_astore C dL_about_15 (by decide) ?_ | refine g_astoreN C dL_about_15 (by decide) ?_ | refine g_astoreq C dL_about_15 (by decide) ?_
      refine g_iconst C (v := 1) dL_about_17 (by decide) ?_
      exact g_iret C hr dL_about_18 (by decide) (by decide) (Or.inl ⟨_, hp, by rw [cd2_nNS], rfl⟩)
    · refine g_catch C [(⟨0, 12, 15, 13⟩ : ExceptionTableEntry)] (⟨0, 12, 19, 15⟩ : ExceptionTableEntry) [] hxt (fun z hz => by rcases List.mem_singleton.mp hz with rfl; exact ⟨by decide, nNS, klL_13, by decide⟩) (by decide) (by decide) klL_15 (by decide) hP1 hA1 hS1 hl9 h19 hc1 hc2 hc3 ?_
      first | refine g_astore C dL_about_19 (by decide) ?_ | refine g_astoreN C dL_about_19 (by decide) ?_ | refine g_astoreq C dL_about_19 (by decide) ?_
      refine g_iconst C (v := 2) dL_about_21 (by decide) ?_
      exact g_iret C hr dL_about_22 (by decide) (by decide) (Or.inl ⟨_, hp, by rw [cd2_nIA], rfl⟩)
  · intro v w1 hp
    obtain ⟨z9, rfl, ho1⟩ := hpst v w1 hp
    refine g_i2l C dL_about_10 rfl ?_
    refine g_lastN (k0 := 0) C dL_about_11 ho1 (by decide) (by decide) ?_
    refine g_goto C 23 dL_about_12 (by decide) ?_
    refine g_iconst C (v := 0) dL_about_23 (by decide) ?_
    exact g_iret C hr dL_about_24 (by decide) (by decide) (Or.inr ⟨z9, w1, hp, rfl, rfl⟩)
set_option maxHeartbeats 4000000 in
set_option maxRecDepth 100000 in
theorem c_L_count (l : Launch) (G : hD) (w : hW) (x ou : Nat) (ov : Nat → Int64) {fs : List Value} {px : String → Prop} {pst : Option Value → hW → Prop} (p0 : Int32) (hx : w x = some (eO 2 fs)) (hc : h_Met l yX2_count (Cond.code yX2_count cX2_count 2 (some .int)) { frames := 6, cells := 1, slots := 6, locals := 82 } G [.ref x, .int p0] w pst px) (hpx : ∀ E, px E → E = nIA) (hpst : ∀ v w1, pst v w1 → (∃ z9 : Int32, v = some (.int z9) ∧ w1 ou = some (eJ G 1 ov))) : h_Met l yL_count (Cond.codeWith yL_count cL_count 4 (some .int) [(0, 9, 12, 15)]) { frames := 7, cells := 1, slots := 6, locals := 103 } G [.ref x, .int p0, .ref ou] w (lwP G cd1 px pst w ou ov) noX := by
  refine h_metH RL rfl (by decide) (Nat.le_of_ble_eq_true rfl) (cat_c rfl (cat_c rfl (cat_c rfl cat_n))) ?_
  intro p e s m below meth c A C hxt hr hnm
  first | refine g_aload_n C dL_count_0 rfl rfl ?_ | refine g_aload_nN C dL_count_0 rfl rfl ?_ | refine g_aload_nq C dL_count_0 rfl rfl ?_
  refine g_iconst C (v := 0) dL_count_1 (by decide) ?_
  first | refine g_aload_n C dL_count_2 rfl rfl ?_ | refine g_aload_nN C dL_count_2 rfl rfl ?_ | refine g_aload_nq C dL_count_2 rfl rfl ?_
  refine g_iload_n C dL_count_3 rfl rfl ?_
  refine g_callVg (rest := [.int 0, .ref ou]) C dL_count_4 hc kmL_62 ki_X2_count kv_X2_count kn_X2 kc_X2_count hy_X2_count ⟨by decide, by decide⟩ hx rfl rfl (Nat.le_of_ble_eq_true rfl) ⟨by decide, by decide⟩ ?_ ?_
  · intro E q ce H1 locs1 ls hp hP1 hA1 hS1 hl9 h19 hc1 hc2 hc3
    rcases hpx E hp with rfl
    · refine g_catch C [] (⟨0, 9, 12, 15⟩ : ExceptionTableEntry) [] hxt (fun z hz => by cases hz) (by decide) (by decide) klL_15 (by decide) hP1 hA1 hS1 hl9 h19 hc1 hc2 hc3 ?_
      first | refine g_astore_n C dL_count_12 rfl (by decide) ?_ | refine g_astore_nN C dL_count_12 rfl (by decide) ?_ | refine g_astore_nq C dL_count_12 rfl (by decide) ?_
      refine g_iconst C (v := 1) dL_count_13 (by decide) ?_
      exact g_iret C hr dL_count_14 (by decide) (by decide) (Or.inl ⟨_, hp, by rw [cd1_nIA], rfl⟩)
  · intro v w1 hp
    obtain ⟨z9, rfl, ho1⟩ := hpst v w1 hp
    refine g_i2l C dL_count_7 rfl ?_
    refine g_lastN (k0 := 0) C dL_count_8 ho1 (by decide) (by decide) ?_
    refine g_goto C 15 dL_count_9 (by decide) ?_
    refine g_iconst C (v := 0) dL_count_15 (by decide) ?_
    exact g_iret C hr dL_count_16 (by decide) (by decide) (Or.inr ⟨z9, w1, hp, rfl, rfl⟩)
