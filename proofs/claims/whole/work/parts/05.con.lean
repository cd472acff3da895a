/-! ===== contracts over function worlds: their start, their end, calls ===== -/
/-- a method's start: the world w, in cells that A names -/
def h_Ok (l : Launch) (G : hD) (A : Nat → Prop) (w : hW) (U : State) : Prop := h_P G.1 w U.heap ∧ va_K G.1 vwCl (hTy G) U ∧ h_in_A A w ∧ (∀ q, U.heap.size ≤ q → A q) ∧ h_T l A U U.heap
def h_Qc (G : hD) (A : Nat → Prop) (post : Option Value → hW → Prop) : Array Value → State → Outcome → State → Prop := fun _ st oc t => (∃ (v : Option Value) (w' : hW), oc = .returned v ∧ post v w' ∧ h_P G.1 w' t.heap ∧ h_in_A A w') ∧ va_F A st t
def h_XC (G : hD) (A : Nat → Prop) (w0 : hW) (px : String → Prop) : String → State → State → Prop := fun E st t => px E ∧ h_P G.1 w0 t.heap ∧ va_F A st t
def h_Q (G : hD) (A : Nat → Prop) (post : Option Value → hW → Prop) (px : String → Prop) (w0 : hW) (below : List Frame) (args : Array Value) (s : State) (mc ms : Nat) : State → Prop := vx_MQ below (h_Qc G A post) (h_XC G A w0 px) args s mc ms A
/-- the contract: from the world w, with these arguments, y returns with post, or throws (then the world is as it was) -/
def h_Met (l : Launch) (y : MethodName) (cd : Cond) (rm : Room) (G : hD) (av : List Value) (w : hW) (post : Option Value → hW → Prop) (px : String → Prop) : Prop :=
  ∀ A : Nat → Prop, vx_Met l y (cd :: hAll) rm (va_Pc av (h_Ok l G A w)) (h_Qc G A post) (h_XC G A w px) rm.cells rm.slots A
def noX : String → Prop := fun _ => False
theorem h_pre_blind {l : Launch} {G : hD} {A : Nat → Prop} {w : hW} {av : List Value} : FrameBlind (va_Pc av (h_Ok l G A w)) := by
  intro a U g mk q
  obtain ⟨q0, hP, hK, hA, hs, hT⟩ := q
  exact ⟨q0, hP, va_K.moved (u := U) (U := U.calling g mk a) (Vm.Alike.refl U.vm) hK, hA, hs, hT.same (U := U.calling g mk a) rfl⟩
/-- a contract out of the body's walk -/
theorem h_met {l : Launch} {y : MethodName} {cc : ByteArray} {maxL : Nat} {ret : Option FieldType} {rm : Room} {G : hD} {av : List Value} {w : hW} {post : Option Value → hW → Prop} {px : String → Prop} (own : String) (ho : y.cls = own) (hy : plainName y.cls = true) (hlen : (lg_sl av).length ≤ maxL) (hcat : ∀ v ∈ av, v.category = 1)
    (body : ∀ (p : Program) (e : Env) (s : State) (m : MethodId) (below : List Frame) (meth : Method) (c : Code) (A : Nat → Prop), h_C p l s m av.toArray meth c G A cc maxL own → (∀ x ∈ c.exceptionTable.toList, False) → meth.sig.returnType = ret → meth.name = y.name →
      h_G p l e rm s m av.toArray below meth c G A maxL (h_Q G A post px w below av.toArray s rm.cells rm.slots) w 0 0 0 (lvA 0 av) []) : h_Met l y (Cond.code y cc maxL ret) rm G av w post px := by
  subst ho
  intro A
  refine vx_ofW (cc := cc) (maxL := maxL) (ret := ret) hy rfl ?_
  intro p e s m args below meth c s₁ B hml hx hv
  obtain ⟨rfl, hP, hK, hA, hAs, hT⟩ := hv
  have hts := atoms_spec (ws := Cond.code y cc maxL ret :: hAll) B.pre
  have C : h_C p l s m av.toArray meth c G A cc maxL y.cls := ⟨B.exec, B.bytes, hml, findClass_of_methodNamed B.named, fun x hx => hts x (List.mem_cons_of_mem _ hx), hK, hAs, B.notSynchronized, hT⟩
  have hl := lv_entry av (n := maxL) hlen
  rw [lg_entry_eq]
  generalize (lg_sl av ++ List.replicate (maxL - (lg_sl av).length) Slot.unset).toArray = ls at hl ⊢
  exact body p e s m below meth c A C hx B.returns (name_of_methodNamed B.named B.method).1 s.heap [] ls hP hA va_S.rf (by rw [← lvA_eq av 0 hcat]; exact hl) (lvA_1 av 0 hcat)
/-- the same for a method with a table of handlers -/
theorem h_metH {l : Launch} {y : MethodName} {cc : ByteArray} {maxL : Nat} {ret : Option FieldType} {hh : List (Nat × Nat × Nat × Nat)} {rm : Room} {G : hD} {av : List Value} {w : hW} {post : Option Value → hW → Prop} {px : String → Prop} (own : String) (ho : y.cls = own) (hy : plainName y.cls = true) (hlen : (lg_sl av).length ≤ maxL) (hcat : ∀ v ∈ av, v.category = 1)
    (body : ∀ (p : Program) (e : Env) (s : State) (m : MethodId) (below : List Frame) (meth : Method) (c : Code) (A : Nat → Prop), h_C p l s m av.toArray meth c G A cc maxL own → c.exceptionTable.toList = tableOf hh → meth.sig.returnType = ret → meth.name = y.name →
      h_G p l e rm s m av.toArray below meth c G A maxL (h_Q G A post px w below av.toArray s rm.cells rm.slots) w 0 0 0 (lvA 0 av) []) : h_Met l y (Cond.codeWith y cc maxL ret hh) rm G av w post px := by
  subst ho
  intro A
  refine vx_ofWH (cc := cc) (maxL := maxL) (ret := ret) (hh := hh) hy rfl ?_
  intro p e s m args below meth c s₁ B hml hv
  obtain ⟨rfl, hP, hK, hA, hAs, hT⟩ := hv
  have hts := atoms_spec (ws := Cond.codeWith y cc maxL ret hh :: hAll) B.pre
  have C : h_C p l s m av.toArray meth c G A cc maxL y.cls := ⟨B.exec, B.bytes, hml, findClass_of_methodNamed B.named, fun x hx => hts x (List.mem_cons_of_mem _ hx), hK, hAs, B.notSynchronized, hT⟩
  have hl := lv_entry av (n := maxL) hlen
  rw [lg_entry_eq]
  generalize (lg_sl av ++ List.replicate (maxL - (lg_sl av).length) Slot.unset).toArray = ls at hl ⊢
  exact body p e s m below meth c A C (vx_table (x := y) B (hts _ List.mem_cons_self)) B.returns (name_of_methodNamed B.named B.method).1 s.heap [] ls hP hA va_S.rf (by rw [← lvA_eq av 0 hcat]; exact hl) (lvA_1 av 0 hcat)
section HR
variable {p : Program} {l : Launch} {e : Env} {R : Room} {s : State} {m : MethodId} {args : Array Value} {below : List Frame} {meth : Method} {c : Code} {Q : State → Prop}
variable {G : hD} {A : Nat → Prop} {nL : Nat} {w w0 : hW} {cells slots pc mc ms : Nat} {lv : List (Nat × Value)} {st : List Value} {cc : ByteArray} {own : String} {post : Option Value → hW → Prop} {px : String → Prop}
theorem g_iret (C : h_C p l s m args meth c G A cc nL own) {v : Int32} (hr : meth.sig.returnType = some .int) (hd : decode cc pc = .ok (.ireturn, 1)) (hc : cells ≤ mc) (hs : slots ≤ ms) (hp : post (some (.int v)) w) : h_G p l e R s m args below meth c G A nL (h_Q G A post px w0 below args s mc ms) w cells slots pc lv [.int v] :=
  fun H locs ls hP hA hS hl h1 => W.widen hc hs (vx_ret (W.iret C.1 C.2.1 hr (fun t ht hw => ⟨⟨_, w, rfl, hp, by rw [ht]; exact hP, hA⟩, hS.F ht⟩) hS.2.2 hd C.2.2.2.2.2.2.2.1))
theorem g_zret (C : h_C p l s m args meth c G A cc nL own) {v : Int32} (hr : meth.sig.returnType = some .boolean) (hn : narrow .boolean (.int v) = .int v) (hd : decode cc pc = .ok (.ireturn, 1)) (hc : cells ≤ mc) (hs : slots ≤ ms) (hp : post (some (.int v)) w) : h_G p l e R s m args below meth c G A nL (h_Q G A post px w0 below args s mc ms) w cells slots pc lv [.int v] :=
  fun H locs ls hP hA hS hl h1 => W.widen hc hs (vx_ret (W.zret C.1 C.2.1 hr hn (fun t ht hw => ⟨⟨_, w, rfl, hp, by rw [ht]; exact hP, hA⟩, hS.F ht⟩) hS.2.2 hd C.2.2.2.2.2.2.2.1))
theorem g_vret (C : h_C p l s m args meth c G A cc nL own) (hr : meth.sig.returnType = none) (hd : decode cc pc = .ok (.return_, 1)) (hc : cells ≤ mc) (hs : slots ≤ ms) (hp : post none w) : h_G p l e R s m args below meth c G A nL (h_Q G A post px w0 below args s mc ms) w cells slots pc lv [] :=
  fun H locs ls hP hA hS hl h1 => W.widen hc hs (vx_ret (W.vret C.1 C.2.1 hr (fun t ht hw => ⟨⟨_, w, rfl, hp, by rw [ht]; exact hP, hA⟩, hS.F ht⟩) hS.2.2 hd C.2.2.2.2.2.2.2.1))
theorem g_aret (C : h_C p l s m args meth c G A cc nL own) {r : Option Nat} {cn : String} (hr : meth.sig.returnType = some (.object cn)) (hd : decode cc pc = .ok (.areturn, 1)) (hc : cells ≤ mc) (hs : slots ≤ ms) (hp : post (some (va_rf r)) w) : h_G p l e R s m args below meth c G A nL (h_Q G A post px w0 below args s mc ms) w cells slots pc lv [va_rf r] :=
  fun H locs ls hP hA hS hl h1 => W.widen hc hs (vx_ret (W.aret C.1 C.2.1 hr (Or.inl ⟨cn, rfl⟩) (by cases r with | none => exact Or.inl rfl | some a => exact Or.inr ⟨a, rfl⟩) (fun t ht hw => ⟨⟨_, w, rfl, hp, by rw [ht]; exact hP, hA⟩, hS.F ht⟩) hS.2.2 hd C.2.2.2.2.2.2.2.1))
/-- a callee's start out of the caller's world -/
theorem h_callPre (C : h_C p l s m args meth c G A cc nL own) {H : Heap} {locs : List Loc} (hP : h_P G.1 w H) (hA : h_in_A A w) (hS : va_S A s.heap H locs) {U : State} (hU : U.heap = H) (hW : s.WarmedH U.vm) : h_Ok l G A w U :=
  ⟨by rw [hU]; exact hP, va_K.moved hW.alike C.2.2.2.2.2.1, hA, fun q hq => C.2.2.2.2.2.2.1 q (Nat.le_trans hS.1 (by rw [hU] at hq; exact hq)), C.2.2.2.2.2.2.2.2.go hW (fun a h1 h2 => by rw [hU]; exact hS.2.1 a h1 h2)⟩
theorem h_pay (hts : ∀ x ∈ hAll, x.before args s = true) {x : Cond} (hx : x ∈ hAll) (a' : Array Value) (U : State) (hW : s.WarmedH U.vm) : x.before a' U = true := word_at hW (good_of_word (List.mem_filter.mp hx).2) (hts x hx)
theorem h_cb {y : MethodName} {bytes : ByteArray} {maxL index n : Nat} {ret : Option FieldType} {rm : Room} (hts : ∀ x ∈ hAll, x.before args s = true) (h1 : Cond.methodLink own index y ∈ hAll) (h4 : Cond.initialized y.cls ∈ hAll) (h5 : Cond.code y bytes maxL ret ∈ hAll)
    (hd : y.cls ≠ "java/lang/invoke/MethodHandle" ∧ y.cls ≠ "java/lang/invoke/VarHandle" ∧ (parseMethodDescriptor y.desc).map (fun d => d.parameters.length) = some n) (hR : rm.frames + 1 ≤ R.frames ∧ 8 + (maxL + 11) + rm.locals ≤ R.locals) : CallB R s args own index y bytes maxL ret (Cond.code y bytes maxL ret :: hAll) rm rm.cells rm.slots n := by
  refine ⟨rfl, rfl, hR.1, hR.2, fun x hx a' U hW => ?_, List.mem_cons_self, hts _ h5, hts _ h4, ⟨hd.1, hd.2.1⟩, fun sig h => ?_, hts _ h1⟩
  · rcases List.mem_cons.mp hx with rfl | hx
    · exact h_pay hts h5 a' U hW
    · exact h_pay hts hx a' U hW
  · have h2 := hd.2.2
    rw [h] at h2
    exact (Option.some.inj h2).symm
theorem h_goOn {rest : List Value} {mc' ms' : Nat} {ls : Array Slot} {H : Heap} {locs : List Loc} {w' : hW} {av : Array Value} {pst : Option Value → hW → Prop} {pxx : String → Prop} (hr : vx_Run p l e R s m args below meth c H locs cells slots mc' ms' (F0 m pc ls st) rest (h_Qc G A pst av) (h_XC G A w' pxx) A) (hS : va_S A s.heap H locs) (hl : lv_has ls nL lv) (h1 : lv1 lv)
    (kx : ∀ (E : String) (q : Addr) (ce : Cell) (H1 : Heap) (locs1 : List Loc), pxx E → h_P G.1 w' H1 → va_S A s.heap H1 locs1 → H1[q]? = some ce → ce.vm = .none → s.vm.findClass E = some ce.cls → vx_W p l e R s m args below meth c H1 locs1 (cells + mc') (slots + ms') Q (F0 m pc ls rest) q)
    (k : ∀ (v : Option Value) (w1 : hW), pst v w1 → h_G p l e R s m args below meth c G A nL Q w1 (cells + mc') (slots + ms') (pc + 3) lv (v.toList ++ rest)) : W p l e R s m args below meth c H locs cells slots Q (F0 m pc ls st) := by
  intro T hT X
  rcases hr T hT X with ⟨v, st₀, t, T', L, h0, X', hL, e1, e2, ⟨⟨v', w1, hv, hp, hP', hA'⟩, hF⟩, go⟩ | ⟨q, st₀, t, T', L, E, ce, h0, X', hL, e1, e2, ⟨hp, hP', hF⟩, hce, hcv, hcl, go⟩
  · cases hv
    obtain ⟨k1, k2, k3⟩ := vx_keep h0 e1 hS (fun q _ h => h) (fun q h => h) hL hF
    obtain ⟨t2, a1, b1⟩ := k v w1 hp T'.heap (locs ++ L) ls (by rw [e1]; exact hP') hA' k3 hl h1 T' rfl X'
    exact ⟨t2, go t2 a1, b1⟩
  · obtain ⟨k1, k2, k3⟩ := vx_keep h0 e1 hS (fun q _ h => h) (fun q h => h) hL hF
    obtain ⟨t2, a1, b1⟩ := kx E q ce T'.heap (locs ++ L) hp (by rw [e1]; exact hP') k3 (by rw [e1]; exact hce) hcv hcl T' rfl X'
    exact ⟨t2, go.trans a1, b1⟩
/-- a virtual call of a method that returns or throws -/
theorem g_callVg (C : h_C p l s m args meth c G A cc nL own) {y : MethodName} {bytes : ByteArray} {maxL index ci a : Nat} {ret : Option FieldType} {rm : Room} {As rest fs : List Value} {T : u_T} {N : Nat} {pst : Option Value → hW → Prop} {pxx : String → Prop}
    (hd : decode cc pc = .ok (.invokevirtual index, 3)) (hM : h_Met l y (Cond.code y bytes maxL ret) rm G (.ref a :: As) w pst pxx) (h1 : Cond.methodLink own index y ∈ hAll) (h2 : Cond.instanceMethod y ∈ hAll) (h3 : Cond.selects y.cls y y ∈ hAll) (h4 : Cond.initialized y.cls ∈ hAll) (h5 : Cond.code y bytes maxL ret ∈ hAll)
    (hy : y.cls ≠ "java/lang/invoke/MethodHandle" ∧ y.cls ≠ "java/lang/invoke/VarHandle" ∧ (parseMethodDescriptor y.desc).map (fun d => d.parameters.length) = some As.length) (hR : rm.frames + 1 ≤ R.frames ∧ 8 + (maxL + 11) + rm.locals ≤ R.locals) (hcell : w a = some (eO ci fs)) (hci : vwCl[ci]? = some (y.cls, T, N)) (hst : st = As.reverse ++ .ref a :: rest) (hrs : (rest.map fun v => v.category).sum ≤ 8) (hf : cells + rm.cells ≤ R.cells ∧ slots + rm.slots ≤ R.slots)
    (kx : ∀ (E : String) (q : Addr) (ce : Cell) (H1 : Heap) (locs1 : List Loc) (ls : Array Slot), pxx E → h_P G.1 w H1 → h_in_A A w → va_S A s.heap H1 locs1 → lv_has ls nL lv → lv1 lv → H1[q]? = some ce → ce.vm = .none → s.vm.findClass E = some ce.cls → vx_W p l e R s m args below meth c H1 locs1 (cells + rm.cells) (slots + rm.slots) Q (F0 m pc ls rest) q)
    (k : ∀ (v : Option Value) (w1 : hW), pst v w1 → h_G p l e R s m args below meth c G A nL Q w1 (cells + rm.cells) (slots + rm.slots) (pc + 3) lv (v.toList ++ rest)) : h_G p l e R s m args below meth c G A nL Q w cells slots pc lv st := by
  intro H locs ls hP hA hS hl hl1
  have hts := C.2.2.2.2.1
  have hrc : ∃ cell : Cell, H[a]? = some cell ∧ cell.vm.isStatics = false ∧ s.vm.findClass y.cls = some cell.cls := va_recv C.2.2.2.2.2.1 (hP.one hcell) hci (q0 := 0) rfl
  exact h_goOn (vx_runV (b := a) (As := As) (rest := rest) (g := F0 m pc ls st) ⟨C.1, C.2.1, C.2.2.1, C.2.2.2.1, hts⟩ (hM A) ⟨h_cb hts h1 h4 h5 hy hR, hts _ h2, hts _ h3⟩ ⟨h_pre_blind, hrc, fun U hU hW => ⟨rfl, h_callPre C hP hA hS hU hW⟩⟩ rfl rfl hl.1 hst (lv_room hrs) hd hf) hS hl hl1
    (fun E q ce H1 locs1 hp hP1 hS1 hc1 hc2 hc3 => kx E q ce H1 locs1 ls hp hP1 hA hS1 hl hl1 hc1 hc2 hc3) k
theorem g_callSg (C : h_C p l s m args meth c G A cc nL own) {y : MethodName} {bytes : ByteArray} {maxL index : Nat} {ret : Option FieldType} {rm : Room} {As rest : List Value} {pst : Option Value → hW → Prop} {pxx : String → Prop}
    (hd : decode cc pc = .ok (.invokestatic index, 3)) (hM : h_Met l y (Cond.code y bytes maxL ret) rm G As w pst pxx) (h1 : Cond.methodLink own index y ∈ hAll) (h2 : Cond.static y ∈ hAll) (h4 : Cond.initialized y.cls ∈ hAll) (h5 : Cond.code y bytes maxL ret ∈ hAll)
    (hy : y.cls ≠ "java/lang/invoke/MethodHandle" ∧ y.cls ≠ "java/lang/invoke/VarHandle" ∧ (parseMethodDescriptor y.desc).map (fun d => d.parameters.length) = some As.length) (hR : rm.frames + 1 ≤ R.frames ∧ 8 + (maxL + 11) + rm.locals ≤ R.locals) (hst : st = As.reverse ++ rest) (hrs : (rest.map fun v => v.category).sum ≤ 8) (hf : cells + rm.cells ≤ R.cells ∧ slots + rm.slots ≤ R.slots)
    (kx : ∀ (E : String) (q : Addr) (ce : Cell) (H1 : Heap) (locs1 : List Loc) (ls : Array Slot), pxx E → h_P G.1 w H1 → h_in_A A w → va_S A s.heap H1 locs1 → lv_has ls nL lv → lv1 lv → H1[q]? = some ce → ce.vm = .none → s.vm.findClass E = some ce.cls → vx_W p l e R s m args below meth c H1 locs1 (cells + rm.cells) (slots + rm.slots) Q (F0 m pc ls rest) q)
    (k : ∀ (v : Option Value) (w1 : hW), pst v w1 → h_G p l e R s m args below meth c G A nL Q w1 (cells + rm.cells) (slots + rm.slots) (pc + 3) lv (v.toList ++ rest)) : h_G p l e R s m args below meth c G A nL Q w cells slots pc lv st := by
  intro H locs ls hP hA hS hl hl1
  have hts := C.2.2.2.2.1
  exact h_goOn (vx_runS (As := As) (rest := rest) (g := F0 m pc ls st) ⟨C.1, C.2.1, C.2.2.1, C.2.2.2.1, hts⟩ (hM A) ⟨h_cb hts h1 h4 h5 hy hR, hts _ h2⟩ ⟨h_pre_blind, fun U hU hW => ⟨rfl, h_callPre C hP hA hS hU hW⟩⟩ rfl rfl hl.1 hst (lv_room hrs) hd hf) hS hl hl1
    (fun E q ce H1 locs1 hp hP1 hS1 hc1 hc2 hc3 => kx E q ce H1 locs1 ls hp hP1 hA hS1 hl hl1 hc1 hc2 hc3) k
/-- thrown by a callee, not caught here -/
theorem h_pass (C : h_C p l s m args meth c G A cc nL own) (hnt : ∀ x ∈ c.exceptionTable.toList, False) {ls : Array Slot} {rest : List Value} {E : String} {q : Addr} {ce : Cell} {H1 : Heap} {locs1 : List Loc} (hx : px E) (hP : h_P G.1 w0 H1) (hS : va_S A s.heap H1 locs1) (hc1 : H1[q]? = some ce) (hc2 : ce.vm = .none) (hc3 : s.vm.findClass E = some ce.cls) (hc : cells ≤ mc) (hs : slots ≤ ms) :
    vx_W p l e R s m args below meth c H1 locs1 cells slots (h_Q G A post px w0 below args s mc ms) (F0 m pc ls rest) q :=
  vx_out (fun x hx => (hnt x hx).elim) C.2.2.2.2.2.2.2.1 hc1 hc2 hc3 (fun t ht ha => ⟨hx, by rw [ht]; exact hP, hS.F ht⟩) hS.2.2 hc hs
/-- calls in a method without a table: what a callee throws goes on to the caller -/
theorem g_callV (C : h_C p l s m args meth c G A cc nL own) (hnt : ∀ x ∈ c.exceptionTable.toList, False) {y : MethodName} {bytes : ByteArray} {maxL index ci a : Nat} {ret : Option FieldType} {rm : Room} {As : List Value} (rest : List Value) {fs : List Value} {T : u_T} {N : Nat} {pst : Option Value → hW → Prop} {pxx : String → Prop}
    (hd : decode cc pc = .ok (.invokevirtual index, 3)) (hM : h_Met l y (Cond.code y bytes maxL ret) rm G (.ref a :: As) w pst pxx) (h1 : Cond.methodLink own index y ∈ hAll) (h2 : Cond.instanceMethod y ∈ hAll) (h3 : Cond.selects y.cls y y ∈ hAll) (h4 : Cond.initialized y.cls ∈ hAll) (h5 : Cond.code y bytes maxL ret ∈ hAll)
    (hy : y.cls ≠ "java/lang/invoke/MethodHandle" ∧ y.cls ≠ "java/lang/invoke/VarHandle" ∧ (parseMethodDescriptor y.desc).map (fun d => d.parameters.length) = some As.length) (hR : rm.frames + 1 ≤ R.frames ∧ 8 + (maxL + 11) + rm.locals ≤ R.locals) (hcell : w a = some (eO ci fs)) (hci : vwCl[ci]? = some (y.cls, T, N)) (hst : st = As.reverse ++ .ref a :: rest) (hrs : (rest.map fun v => v.category).sum ≤ 8) (hf : cells + rm.cells ≤ R.cells ∧ slots + rm.slots ≤ R.slots) (hm : cells + rm.cells ≤ mc ∧ slots + rm.slots ≤ ms)
    (hx : ∀ E, pxx E → px E ∧ w = w0)
    (k : ∀ (v : Option Value) (w1 : hW), pst v w1 → h_G p l e R s m args below meth c G A nL (h_Q G A post px w0 below args s mc ms) w1 (cells + rm.cells) (slots + rm.slots) (pc + 3) lv (v.toList ++ rest)) : h_G p l e R s m args below meth c G A nL (h_Q G A post px w0 below args s mc ms) w cells slots pc lv st :=
  g_callVg C hd hM h1 h2 h3 h4 h5 hy hR hcell hci hst hrs hf (fun E q ce H1 locs1 ls hp hP1 _ hS1 _ _ hc1 hc2 hc3 => h_pass C hnt (hx E hp).1 (by rw [← (hx E hp).2]; exact hP1) hS1 hc1 hc2 hc3 hm.1 hm.2) k
theorem g_callS (C : h_C p l s m args meth c G A cc nL own) (hnt : ∀ x ∈ c.exceptionTable.toList, False) {y : MethodName} {bytes : ByteArray} {maxL index : Nat} {ret : Option FieldType} {rm : Room} {As : List Value} (rest : List Value) {pst : Option Value → hW → Prop} {pxx : String → Prop}
    (hd : decode cc pc = .ok (.invokestatic index, 3)) (hM : h_Met l y (Cond.code y bytes maxL ret) rm G As w pst pxx) (h1 : Cond.methodLink own index y ∈ hAll) (h2 : Cond.static y ∈ hAll) (h4 : Cond.initialized y.cls ∈ hAll) (h5 : Cond.code y bytes maxL ret ∈ hAll)
    (hy : y.cls ≠ "java/lang/invoke/MethodHandle" ∧ y.cls ≠ "java/lang/invoke/VarHandle" ∧ (parseMethodDescriptor y.desc).map (fun d => d.parameters.length) = some As.length) (hR : rm.frames + 1 ≤ R.frames ∧ 8 + (maxL + 11) + rm.locals ≤ R.locals) (hst : st = As.reverse ++ rest) (hrs : (rest.map fun v => v.category).sum ≤ 8) (hf : cells + rm.cells ≤ R.cells ∧ slots + rm.slots ≤ R.slots) (hm : cells + rm.cells ≤ mc ∧ slots + rm.slots ≤ ms)
    (hx : ∀ E, pxx E → px E ∧ w = w0)
    (k : ∀ (v : Option Value) (w1 : hW), pst v w1 → h_G p l e R s m args below meth c G A nL (h_Q G A post px w0 below args s mc ms) w1 (cells + rm.cells) (slots + rm.slots) (pc + 3) lv (v.toList ++ rest)) : h_G p l e R s m args below meth c G A nL (h_Q G A post px w0 below args s mc ms) w cells slots pc lv st :=
  g_callSg C hd hM h1 h2 h4 h5 hy hR hst hrs hf (fun E q ce H1 locs1 ls hp hP1 _ hS1 _ _ hc1 hc2 hc3 => h_pass C hnt (hx E hp).1 (by rw [← (hx E hp).2]; exact hP1) hS1 hc1 hc2 hc3 hm.1 hm.2) k
/-- calls of methods that never throw, in any method -/
theorem g_callVn (C : h_C p l s m args meth c G A cc nL own) {y : MethodName} {bytes : ByteArray} {maxL index ci a : Nat} {ret : Option FieldType} {rm : Room} {As : List Value} (rest : List Value) {fs : List Value} {T : u_T} {N : Nat} {pst : Option Value → hW → Prop}
    (hd : decode cc pc = .ok (.invokevirtual index, 3)) (hM : h_Met l y (Cond.code y bytes maxL ret) rm G (.ref a :: As) w pst noX) (h1 : Cond.methodLink own index y ∈ hAll) (h2 : Cond.instanceMethod y ∈ hAll) (h3 : Cond.selects y.cls y y ∈ hAll) (h4 : Cond.initialized y.cls ∈ hAll) (h5 : Cond.code y bytes maxL ret ∈ hAll)
    (hy : y.cls ≠ "java/lang/invoke/MethodHandle" ∧ y.cls ≠ "java/lang/invoke/VarHandle" ∧ (parseMethodDescriptor y.desc).map (fun d => d.parameters.length) = some As.length) (hR : rm.frames + 1 ≤ R.frames ∧ 8 + (maxL + 11) + rm.locals ≤ R.locals) (hcell : w a = some (eO ci fs)) (hci : vwCl[ci]? = some (y.cls, T, N)) (hst : st = As.reverse ++ .ref a :: rest) (hrs : (rest.map fun v => v.category).sum ≤ 8) (hf : cells + rm.cells ≤ R.cells ∧ slots + rm.slots ≤ R.slots)
    (k : ∀ (v : Option Value) (w1 : hW), pst v w1 → h_G p l e R s m args below meth c G A nL Q w1 (cells + rm.cells) (slots + rm.slots) (pc + 3) lv (v.toList ++ rest)) : h_G p l e R s m args below meth c G A nL Q w cells slots pc lv st :=
  g_callVg C hd hM h1 h2 h3 h4 h5 hy hR hcell hci hst hrs hf (fun E q ce H1 locs1 ls hp _ _ _ _ _ _ _ _ => hp.elim) k
theorem g_callSn (C : h_C p l s m args meth c G A cc nL own) {y : MethodName} {bytes : ByteArray} {maxL index : Nat} {ret : Option FieldType} {rm : Room} {As : List Value} (rest : List Value) {pst : Option Value → hW → Prop}
    (hd : decode cc pc = .ok (.invokestatic index, 3)) (hM : h_Met l y (Cond.code y bytes maxL ret) rm G As w pst noX) (h1 : Cond.methodLink own index y ∈ hAll) (h2 : Cond.static y ∈ hAll) (h4 : Cond.initialized y.cls ∈ hAll) (h5 : Cond.code y bytes maxL ret ∈ hAll)
    (hy : y.cls ≠ "java/lang/invoke/MethodHandle" ∧ y.cls ≠ "java/lang/invoke/VarHandle" ∧ (parseMethodDescriptor y.desc).map (fun d => d.parameters.length) = some As.length) (hR : rm.frames + 1 ≤ R.frames ∧ 8 + (maxL + 11) + rm.locals ≤ R.locals) (hst : st = As.reverse ++ rest) (hrs : (rest.map fun v => v.category).sum ≤ 8) (hf : cells + rm.cells ≤ R.cells ∧ slots + rm.slots ≤ R.slots)
    (k : ∀ (v : Option Value) (w1 : hW), pst v w1 → h_G p l e R s m args below meth c G A nL Q w1 (cells + rm.cells) (slots + rm.slots) (pc + 3) lv (v.toList ++ rest)) : h_G p l e R s m args below meth c G A nL Q w cells slots pc lv st :=
  g_callSg C hd hM h1 h2 h4 h5 hy hR hst hrs hf (fun E q ce H1 locs1 ls hp _ _ _ _ _ _ _ _ => hp.elim) k
/-- a contract without throws, as the kit has it -/
theorem h_met_n {y : MethodName} {cd : Cond} {rm : Room} {av : List Value} {pst : Option Value → hW → Prop} (hM : h_Met l y cd rm G av w pst noX) (A : Nat → Prop) : Met l y (cd :: hAll) rm (va_Pc av (h_Ok l G A w)) (h_Qc G A pst) rm.cells rm.slots A :=
  (hM A).mono (fun _ _ h => h) (fun _ _ _ _ _ h => h) (fun a st o t _ h => by
    rcases h with h | ⟨q, -, E, ce, L, ⟨hx, -⟩, -⟩
    · exact h
    · exact hx.elim)
/-- a constructor -/
theorem g_callI (C : h_C p l s m args meth c G A cc nL own) {y : MethodName} {bytes : ByteArray} {maxL index a : Nat} {rm : Room} {As : List Value} (rest : List Value) {pst : Option Value → hW → Prop}
    (hd : decode cc pc = .ok (.invokespecial index, 3)) (hM : h_Met l y (Cond.code y bytes maxL none) rm G (.ref a :: As) w pst noX) (h1 : Cond.methodLink own index y ∈ hAll) (h2 : Cond.instanceMethod y ∈ hAll) (h4 : Cond.initialized y.cls ∈ hAll) (h5 : Cond.code y bytes maxL none ∈ hAll) (hnm : y.name = "<init>")
    (hy : y.cls ≠ "java/lang/invoke/MethodHandle" ∧ y.cls ≠ "java/lang/invoke/VarHandle" ∧ (parseMethodDescriptor y.desc).map (fun d => d.parameters.length) = some As.length) (hR : rm.frames + 1 ≤ R.frames ∧ 8 + (maxL + 11) + rm.locals ≤ R.locals) (hst : st = As.reverse ++ .ref a :: rest) (hrs : (rest.map fun v => v.category).sum ≤ 8) (hf : cells + rm.cells ≤ R.cells ∧ slots + rm.slots ≤ R.slots)
    (k : ∀ (v : Option Value) (w1 : hW), pst v w1 → h_G p l e R s m args below meth c G A nL Q w1 (cells + rm.cells) (slots + rm.slots) (pc + 3) lv (v.toList ++ rest)) : h_G p l e R s m args below meth c G A nL Q w cells slots pc lv st := by
  intro H locs ls hP hA hS hl hl1
  have hts := C.2.2.2.2.1
  have hr := va_runI (p := p) (e := e) (below := below) (meth := meth) (R := R) (H := H) (locs := locs) (cells := cells) (slots := slots) (b := a) (As := As) (rest := rest) (g := F0 m pc ls st) ⟨C.1, C.2.1, C.2.2.1, C.2.2.2.1, hts⟩ (h_met_n hM A) ⟨h_cb hts h1 h4 h5 hy hR, hnm, hts _ h2⟩ ⟨h_pre_blind, fun U hU hW => ⟨rfl, h_callPre C hP hA hS hU hW⟩⟩ rfl rfl hl.1 hst (lv_room hrs) hd hf
  intro T hT X
  obtain ⟨v, st₀, t, T', L, h0, X', hL, e1, e2, ⟨⟨v', w1, hv, hp, hP', hA'⟩, hF⟩, go⟩ := hr T hT X
  cases hv
  obtain ⟨k1, k2, k3⟩ := vx_keep h0 e1 hS (fun q _ h => h) (fun q h => h) hL hF
  obtain ⟨t2, a1, b1⟩ := k v w1 hp T'.heap (locs ++ L) ls (by rw [e1]; exact hP') hA' k3 hl hl1 T' rfl X'
  exact ⟨t2, go t2 a1, b1⟩
/-- a static call of a method with a table that lets nothing out -/
theorem g_callSW (C : h_C p l s m args meth c G A cc nL own) {y : MethodName} {bytes : ByteArray} {maxL index : Nat} {ret : Option FieldType} {hh : List (Nat × Nat × Nat × Nat)} {rm : Room} {As : List Value} (rest : List Value) {pst : Option Value → hW → Prop}
    (hd : decode cc pc = .ok (.invokestatic index, 3)) (hM : h_Met l y (Cond.codeWith y bytes maxL ret hh) rm G As w pst noX) (h1 : Cond.methodLink own index y ∈ hAll) (h2 : Cond.static y ∈ hAll) (h4 : Cond.initialized y.cls ∈ hAll) (h5 : Cond.codeWith y bytes maxL ret hh ∈ hAll)
    (hy : y.cls ≠ "java/lang/invoke/MethodHandle" ∧ y.cls ≠ "java/lang/invoke/VarHandle" ∧ (parseMethodDescriptor y.desc).map (fun d => d.parameters.length) = some As.length) (hR : rm.frames + 1 ≤ R.frames ∧ 8 + (maxL + 11) + rm.locals ≤ R.locals) (hst : st = As.reverse ++ rest) (hrs : (rest.map fun v => v.category).sum ≤ 8) (hf : cells + rm.cells ≤ R.cells ∧ slots + rm.slots ≤ R.slots)
    (k : ∀ (v : Option Value) (w1 : hW), pst v w1 → h_G p l e R s m args below meth c G A nL Q w1 (cells + rm.cells) (slots + rm.slots) (pc + 3) lv (v.toList ++ rest)) : h_G p l e R s m args below meth c G A nL Q w cells slots pc lv st := by
  intro H locs ls hP hA hS hl hl1
  have hts := C.2.2.2.2.1
  have hG : GoodIn hAll (va_wsS own index y (Cond.codeWith y bytes maxL ret hh :: hAll)) := by
    intro x hx
    have hm : x ∈ hAll := by
      unfold va_wsS at hx
      rcases List.mem_append.mp hx with h | h
      · simp only [List.mem_cons, List.mem_nil_iff, or_false] at h
        rcases h with rfl | rfl | rfl
        · exact h1
        · exact h2
        · exact h4
      · rcases List.mem_cons.mp h with rfl | h
        · exact h5
        · exact h
    exact ⟨hm, good_of_word (List.mem_filter.mp hm).2⟩
  have hr := vx_runSW (p := p) (e := e) (below := below) (meth := meth) (R := R) (H := H) (locs := locs) (cells := cells) (slots := slots) (As := As) (rest := rest) (g := F0 m pc ls st) ⟨C.1, C.2.1, C.2.2.1, C.2.2.2.1, hts⟩ (h_met_n hM A) (vx_cwSW As.length hts hG rfl rfl rfl hy hR) ⟨h_pre_blind, fun U hU hW => ⟨rfl, h_callPre C hP hA hS hU hW⟩⟩ rfl rfl hl.1 hst (lv_room hrs) hd hf
  intro T hT X
  obtain ⟨v, st₀, t, T', L, h0, X', hL, e1, e2, ⟨⟨v', w1, hv, hp, hP', hA'⟩, hF⟩, go⟩ := hr T hT X
  cases hv
  obtain ⟨k1, k2, k3⟩ := vx_keep h0 e1 hS (fun q _ h => h) (fun q h => h) hL hF
  obtain ⟨t2, a1, b1⟩ := k v w1 hp T'.heap (locs ++ L) ls (by rw [e1]; exact hP') hA' k3 hl hl1 T' rfl X'
  exact ⟨t2, go t2 a1, b1⟩
abbrev hNames : List String := ["java/lang/RuntimeException", "java/lang/Exception"]
/-- throw new E("text"), not caught here -/
theorem g_throw (C : h_C p l s m args meth c G A cc nL own) (hnt : ∀ x ∈ c.exceptionTable.toList, False) (ho : own = RX2) {cls text : String} {ik is ic : Nat} (d0 : decode cc pc = .ok (.new ik, 3)) (d3 : decode cc (pc + 3) = .ok (.dup, 1)) (d4 : decode cc (pc + 4) = .ok (.ldc is, 2)) (d6 : decode cc (pc + 6) = .ok (.invokespecial ic, 3)) (d9 : decode cc (pc + 9) = .ok (.athrow, 1))
    (hcls : Bundle.fit cls = true) (hk : Cond.classLink RX2 ik cls ∈ hAll) (hini : Cond.initialized cls ∈ hAll) (hstr : (is, text) ∈ hStr) (hat1 : ∀ x ∈ (vx_atS RX2 ic cls hNames).filter goodWord, x ∈ hAll) (hat2 : ∀ x ∈ (vx_atS RX2 ic cls hNames).filter (fun x => !goodWord x), x ∈ hDcl.map Cond.declares ++ hExc.map (fun x => Cond.castable x x)) (hgood : ∀ x ∈ Cond.classLink RX2 ik cls :: Cond.initialized cls :: vx_atS RX2 ic cls hNames, vx_ot x = true)
    (hfr : 5 < R.frames) (hlo : (st.map fun v => v.category).sum + 82 ≤ R.locals) (hcl : cells + 1 ≤ R.cells) (hsl : slots + 6 ≤ R.slots) (hc : cells + 1 ≤ mc) (hs : slots + 6 ≤ ms) (hx : px cls) (hw : w = w0) : h_G p l e R s m args below meth c G A nL (h_Q G A post px w0 below args s mc ms) w cells slots pc lv st := by
  intro H locs ls hP hA hS hl hl1
  subst ho
  subst hw
  have hts := C.2.2.2.2.1
  obtain ⟨t1, t2, t3, t4, t5, t6, t7, t8⟩ := C.2.2.2.2.2.2.2.2
  obtain ⟨sa, hsa⟩ := t4 _ hstr
  have hat : ∀ x ∈ vx_atS RX2 ic cls hNames, x.before args s = true := vx_hat (fun x hx => hts x (hat1 x hx)) hat2 (fun x hx => by
    rcases List.mem_append.mp hx with h | h
    · obtain ⟨y, hy, rfl⟩ := List.mem_map.mp h
      exact va_Nw.use rfl (t5 y hy)
    · obtain ⟨y, hy, rfl⟩ := List.mem_map.mp h
      exact va_Nw.use rfl (t6 y hy))
  exact vx_throwS (names := hNames) C.1 C.2.1 t1 C.2.2.2.1 hcls (by decide +kernel) (hts _ hk) (hts _ hini) hsa hat hgood t2 t3 hS (hl.1.trans C.2.2.1.symm) d0 d3 d4 d6 d9 (fun x hx => (hnt x hx).elim) hfr hlo hcl hsl C.2.2.2.2.2.2.2.1
    (fun t ha hz hq => ⟨hx, hP.kept (fun a e he => hq a (hP.lt he)), Nat.le_trans hS.1 hz, fun q h1 h2 => (hq q (Nat.lt_of_lt_of_le h1 hS.1)).trans (hS.2.1 q h1 h2)⟩) hS.2.2 hc hs
end HR
