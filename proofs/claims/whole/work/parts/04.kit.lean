/-! ===== the world as a function from addresses; the judgement h_G: its rows follow the kit's own rows, one by one ===== -/
abbrev hW : Type := Nat → Option va_E
def h_up (w : hW) (a : Nat) (e : va_E) : hW := fun q => if q = a then some e else w q
theorem h_up_s (w : hW) (a : Nat) (e : va_E) : h_up w a e a = some e := if_pos rfl
theorem h_up_n {w : hW} {a b : Nat} {e : va_E} (h : b ≠ a) : h_up w a e b = w b := if_neg h
/-- the dictionary: classes and their slots; the array classes of int, boolean, long, Telling -/
abbrev hD : Type := va_G × ClassId × ClassId × ClassId × ClassId
abbrev hTy (G : hD) : List (ClassId × FieldType) := [(G.2.1, .int), (G.2.2.1, .boolean), (G.2.2.2.1, .long), (G.2.2.2.2, .object RX1)]
abbrev eI (G : hD) (n : Nat) (f : Nat → Int32) : va_E := .inl (G.2.1, n, .inl f)
abbrev eZ (G : hD) (n : Nat) (f : Nat → Int32) : va_E := .inl (G.2.2.1, n, .inl f)
abbrev eJ (G : hD) (n : Nat) (f : Nat → Int64) : va_E := .inl (G.2.2.2.1, n, .inr (.inl f))
abbrev eT (G : hD) (n : Nat) (f : Nat → Option Nat) : va_E := .inl (G.2.2.2.2, n, .inr (.inr (.inr (.inr f))))
abbrev eO (ci : Nat) (fs : List Value) : va_E := .inr (ci, fs)
def h_P (D : va_G) (w : hW) (H : Heap) : Prop := ∀ (a : Nat) (e : va_E), w a = some e → va_at D vwCl (a, e) H
theorem h_P.kept {D : va_G} {w : hW} {H H1 : Heap} (h : h_P D w H) (hq : ∀ (a : Nat) (e : va_E), w a = some e → H1[a]? = H[a]?) : h_P D w H1 := fun a e he => (h a e he).kept (hq a e he)
theorem h_P.lt {D : va_G} {w : hW} {H : Heap} (h : h_P D w H) {a : Nat} {e : va_E} (he : w a = some e) : a < H.size := (h a e he).lt
theorem h_P.put {D : va_G} {w : hW} {a : Nat} {e : va_E} {H H1 : Heap} (h : h_P D w H) (he : va_at D vwCl (a, e) H1) (oq : ∀ q : Nat, q ≠ a → H1[q]? = H[q]?) : h_P D (h_up w a e) H1 := by
  intro b f hb
  by_cases hba : b = a
  · subst hba
    rw [h_up_s] at hb
    cases hb
    exact he
  · rw [h_up_n hba] at hb
    exact (h b f hb).kept (oq b hba)
theorem h_P.one {D : va_G} {w : hW} {H : Heap} (h : h_P D w H) {a : Nat} {e : va_E} (he : w a = some e) : va_P D vwCl [(a, e)] H := by
  intro k q hk
  have hz : k < 1 := (List.getElem?_eq_some_iff.mp hk).1
  rw [show k = 0 by omega] at hk
  cases hk
  exact h a e he
def h_in_A (A : Nat → Prop) (w : hW) : Prop := ∀ (a : Nat) (e : va_E), w a = some e → A a
theorem h_in_A.up {A : Nat → Prop} {w : hW} {a : Nat} {e : va_E} (h : h_in_A A w) (ha : A a) : h_in_A A (h_up w a e) := by
  intro b f hb
  by_cases hba : b = a
  · rw [hba]; exact ha
  · rw [h_up_n hba] at hb
    exact h b f hb
/-! locals: a list by slots, all of one word -/
def lvG : List (Nat × Value) → Nat → Option Value
  | [], _ => none
  | q :: r, i => cond (Nat.beq q.1 i) (some q.2) (lvG r i)
def lvF : List (Nat × Value) → Nat → List (Nat × Value)
  | [], _ => []
  | q :: r, i => cond (Nat.beq q.1 i) (lvF r i) (q :: lvF r i)
def lvS : List (Nat × Value) → Nat → Value → List (Nat × Value)
  | [], i, v => [(i, v)]
  | q :: r, i, v => cond (Nat.beq q.1 i) ((i, v) :: lvF r i) (q :: lvS r i v)
def lvA : Nat → List Value → List (Nat × Value)
  | _, [] => []
  | i, v :: vs => (i, v) :: lvA (i + 1) vs
def lv1 (lv : List (Nat × Value)) : Prop := ∀ q ∈ lv, q.2.category = 1
theorem lvG_mem : ∀ (lv : List (Nat × Value)) (i : Nat) (v : Value), lvG lv i = some v → (i, v) ∈ lv
  | [], _, _, h => by cases h
  | q :: r, i, v, h => by
    unfold lvG at h
    cases hb : Nat.beq q.1 i with
    | true =>
      rw [hb] at h
      have h1 : q.1 = i := Nat.eq_of_beq_eq_true hb
      have h2 : q.2 = v := Option.some.inj h
      rw [← h1, ← h2]
      exact List.mem_cons_self
    | false =>
      rw [hb] at h
      exact List.mem_cons_of_mem _ (lvG_mem r i v h)
theorem lvF_mem : ∀ (lv : List (Nat × Value)) (i : Nat) (q : Nat × Value), q ∈ lvF lv i → q ∈ lv ∧ q.1 ≠ i
  | [], _, _, h => by cases h
  | x :: r, i, q, h => by
    unfold lvF at h
    cases hb : Nat.beq x.1 i with
    | true =>
      rw [hb] at h
      have h1 := lvF_mem r i q h
      exact ⟨List.mem_cons_of_mem _ h1.1, h1.2⟩
    | false =>
      rw [hb] at h
      have hx : x.1 ≠ i := Nat.ne_of_beq_eq_false hb
      rcases List.mem_cons.mp h with rfl | h2
      · exact ⟨List.mem_cons_self, hx⟩
      · have h1 := lvF_mem r i q h2
        exact ⟨List.mem_cons_of_mem _ h1.1, h1.2⟩
theorem lvS_mem : ∀ (lv : List (Nat × Value)) (i : Nat) (v : Value) (q : Nat × Value), q ∈ lvS lv i v → q = (i, v) ∨ (q ∈ lv ∧ q.1 ≠ i)
  | [], i, v, q, h => by
    rcases List.mem_cons.mp h with rfl | h
    · exact Or.inl rfl
    · cases h
  | x :: r, i, v, q, h => by
    unfold lvS at h
    cases hb : Nat.beq x.1 i with
    | true =>
      rw [hb] at h
      rcases List.mem_cons.mp h with rfl | h2
      · exact Or.inl rfl
      · have h1 := lvF_mem r i q h2
        exact Or.inr ⟨List.mem_cons_of_mem _ h1.1, h1.2⟩
    | false =>
      rw [hb] at h
      have hx : x.1 ≠ i := Nat.ne_of_beq_eq_false hb
      rcases List.mem_cons.mp h with rfl | h2
      · exact Or.inr ⟨List.mem_cons_self, hx⟩
      · rcases lvS_mem r i v q h2 with h3 | h3
        · exact Or.inl h3
        · exact Or.inr ⟨List.mem_cons_of_mem _ h3.1, h3.2⟩
theorem lvG_has {ls : Array Slot} {nL : Nat} {lv : List (Nat × Value)} {i : Nat} {v : Value} (h : lv_has ls nL lv) (hg : lvG lv i = some v) : ls[i]? = some (.val v) := h.2.2 (i, v) (lvG_mem lv i v hg)
theorem lvS_1 {lv : List (Nat × Value)} {i : Nat} {v : Value} (h : lv1 lv) (hv : v.category = 1) : lv1 (lvS lv i v) := by
  intro q hq
  rcases lvS_mem lv i v q hq with rfl | h1
  · exact hv
  · exact h q h1.1
theorem lvS_has {ls : Array Slot} {nL : Nat} {lv : List (Nat × Value)} {i : Nat} {v : Value} (h : lv_has ls nL ((i, v) :: lv.filter (fun q => !(q.1 == i) && !(q.1 + 1 == i && q.2.category == 2)))) (h1 : lv1 lv) : lv_has ls nL (lvS lv i v) := by
  refine ⟨h.1, h.2.1, fun q hq => h.2.2 q ?_⟩
  rcases lvS_mem lv i v q hq with rfl | h2
  · exact List.mem_cons_self
  · refine List.mem_cons_of_mem _ (List.mem_filter.mpr ⟨h2.1, ?_⟩)
    have h3 := h1 q h2.1
    simp [h2.2, h3]
theorem lvA_eq : ∀ (vs : List Value) (i : Nat), (∀ v ∈ vs, v.category = 1) → lv_args i vs = lvA i vs
  | [], _, _ => rfl
  | v :: vs, i, h => by
    have h1 : v.category = 1 := h v List.mem_cons_self
    show (i, v) :: lv_args (if v.category = 2 then i + 2 else i + 1) vs = (i, v) :: lvA (i + 1) vs
    rw [if_neg (by omega), lvA_eq vs (i + 1) (fun x hx => h x (List.mem_cons_of_mem _ hx))]
theorem lvA_1 : ∀ (vs : List Value) (i : Nat), (∀ v ∈ vs, v.category = 1) → lv1 (lvA i vs)
  | [], _, _ => fun q hq => by cases hq
  | v :: vs, i, h => fun q hq => by
    rcases List.mem_cons.mp hq with rfl | h1
    · exact h v List.mem_cons_self
    · exact lvA_1 vs (i + 1) (fun x hx => h x (List.mem_cons_of_mem _ hx)) q h1
theorem rf_cat (r : Option Nat) : (va_rf r).category = 1 := by cases r <;> rfl

/-! what a throw stands on: statics of Throwable, the texts, words that a call keeps by laws of their own -/
def hStr : List (Nat × String) := [(165, "there is no such desk"), (168, "there is no such thing"), (170, "there is no such field"), (176, "the value is out of its range"), (182, "no more tellings can be made"), (178, "there is no such telling"), (180, "the desk does not know the telling"), (70, "the telling is no place of this row"), (195, "the telling is of another sort"), (172, "there is no such context"), (86, "a context is not above itself"), (100, "the desk has given all numbers of its block"), (174, "places are counted from 0"), (152, "nothing of this kind is told about a telling"), (161, "nothing of this kind is counted")]
def hDcl : List MethodName := [Bundle.initS "java/lang/RuntimeException", Bundle.initS "java/lang/Exception", Bundle.initS "java/lang/Throwable"]
abbrev nNS : String := "java/util/NoSuchElementException"
abbrev nIA : String := "java/lang/IllegalArgumentException"
abbrev nIS : String := "java/lang/IllegalStateException"
def hExc : List String := [nNS, nIA, nIS]
def hNcs : List (String × String) := [(nIA, nNS), (nIS, nNS), (nIS, nIA), (nNS, nIA), (nNS, nIS), (nIA, nIS)]
def h_T (l : Launch) (A : Nat → Prop) (U : State) (H : Heap) : Prop :=
  l.stackTraces = false ∧ vx_Zq Bundle.tN "UNASSIGNED_STACK" Bundle.steD A U H ∧ vx_Zq Bundle.tN "SUPPRESSED_SENTINEL" Bundle.listD A U H ∧ (∀ q ∈ hStr, ∃ sa, vk_R RX2 q.1 q.2 sa U) ∧ (∀ x ∈ hDcl, va_Nw (.declares x) U) ∧ (∀ x ∈ hExc, va_Nw (.castable x x) U) ∧ (∀ q ∈ hNcs, va_Nc q.1 q.2 U) ∧ va_AO RX1 U
theorem h_T.go {l : Launch} {A : Nat → Prop} {s U : State} (h : h_T l A s s.heap) (hW : s.WarmedH U.vm) (hq : ∀ a : Nat, a < s.heap.size → ¬ A a → U.heap[a]? = s.heap[a]?) : h_T l A U U.heap := by
  obtain ⟨h1, h2, h3, h4, h5, h6, h7, h8⟩ := h
  refine ⟨h1, vx_Zq.moved hW.alike (h2.kept hq), vx_Zq.moved hW.alike (h3.kept hq), fun q hq => ?_, fun x hx => va_Nw.warmD hW (h5 x hx), fun x hx => va_Nw.warmC hW (h6 x hx), fun q hq => va_Nc.moved hW.alike (h7 q hq), va_AO.moved hW.alike h8⟩
  obtain ⟨sa, hs⟩ := h4 q hq
  exact ⟨sa, vk_R.warm hW hs⟩
theorem h_T.same {l : Launch} {A : Nat → Prop} {u U : State} {H : Heap} (h : h_T l A u H) (hv : U.vm = u.vm) : h_T l A U H := by
  have ha : u.vm.Alike U.vm := by rw [hv]; exact Vm.Alike.refl _
  obtain ⟨h1, h2, h3, h4, h5, h6, h7, h8⟩ := h
  refine ⟨h1, vx_Zq.moved ha h2, vx_Zq.moved ha h3, fun q hq => ?_, fun x hx => va_Nw.same rfl hv.symm (h5 x hx), fun x hx => va_Nw.same rfl hv.symm (h6 x hx), fun q hq => va_Nc.moved ha (h7 q hq), va_AO.moved ha h8⟩
  obtain ⟨sa, hs⟩ := h4 q hq
  exact ⟨sa, vk_R.same hv hs⟩
/-- what holds all through a method's body -/
def h_C (p : Program) (l : Launch) (s : State) (m : MethodId) (args : Array Value) (meth : Method) (c : Code) (G : hD) (A : Nat → Prop) (cc : ByteArray) (nL : Nat) (own : String) : Prop :=
  p.tables.exec = Jvm.exec ∧ c.code = cc ∧ c.maxLocals = nL ∧ s.vm.findClass own = some m.cls ∧ (∀ w ∈ hAll, w.before args s = true) ∧ va_K G.1 vwCl (hTy G) s ∧ (∀ q, s.heap.size ≤ q → A q) ∧ meth.locks = false ∧ h_T l A s s.heap
/-- from here, with the world w, the machine comes to a state with Q -/
def h_G (p : Program) (l : Launch) (e : Env) (R : Room) (s : State) (m : MethodId) (args : Array Value) (below : List Frame) (meth : Method) (c : Code) (G : hD) (A : Nat → Prop) (nL : Nat) (Q : State → Prop) (w : hW) (cells slots pc : Nat) (lv : List (Nat × Value)) (st : List Value) : Prop :=
  ∀ (H : Heap) (locs : List Loc) (ls : Array Slot), h_P G.1 w H → h_in_A A w → va_S A s.heap H locs → lv_has ls nL lv → lv1 lv → W p l e R s m args below meth c H locs cells slots Q (F0 m pc ls st)
section HK
variable {p : Program} {l : Launch} {e : Env} {R : Room} {s : State} {m : MethodId} {args : Array Value} {below : List Frame} {meth : Method} {c : Code} {Q : State → Prop}
variable {G : hD} {A : Nat → Prop} {nL : Nat} {w : hW} {cells slots pc : Nat} {lv : List (Nat × Value)} {st : List Value} {cc : ByteArray} {own : String}

theorem g_iconst (C : h_C p l s m args meth c G A cc nL own) {n : Int} {v : Int32} (hd : decode cc pc = .ok (.iconst n, 1)) (hv : Int32.ofInt n = v) (k : h_G p l e R s m args below meth c G A nL Q w cells slots (pc + 1) lv (.int v :: st)) : h_G p l e R s m args below meth c G A nL Q w cells slots pc lv st :=
  fun H locs ls hP hA hS hl h1 => lv_iconst C.1 C.2.1 hd hv (k H locs ls hP hA hS hl h1)
theorem g_bipush (C : h_C p l s m args meth c G A cc nL own) {n : Int} {v : Int32} (hd : decode cc pc = .ok (.bipush n, 2)) (hv : (Int8.ofInt n).toInt32 = v) (k : h_G p l e R s m args below meth c G A nL Q w cells slots (pc + 2) lv (.int v :: st)) : h_G p l e R s m args below meth c G A nL Q w cells slots pc lv st :=
  fun H locs ls hP hA hS hl h1 => lv_bipush C.1 C.2.1 hd hv (k H locs ls hP hA hS hl h1)
theorem g_sipush (C : h_C p l s m args meth c G A cc nL own) {n : Int} {v : Int32} (hd : decode cc pc = .ok (.sipush n, 3)) (hv : (Int16.ofInt n).toInt32 = v) (k : h_G p l e R s m args below meth c G A nL Q w cells slots (pc + 3) lv (.int v :: st)) : h_G p l e R s m args below meth c G A nL Q w cells slots pc lv st :=
  fun H locs ls hP hA hS hl h1 => lv_sipush C.1 C.2.1 hd hv (k H locs ls hP hA hS hl h1)
theorem g_lconst (C : h_C p l s m args meth c G A cc nL own) {n : Fin 2} {v : Int64} (hd : decode cc pc = .ok (.lconst n, 1)) (hv : Int64.ofNat (n : Nat) = v) (k : h_G p l e R s m args below meth c G A nL Q w cells slots (pc + 1) lv (.long v :: st)) : h_G p l e R s m args below meth c G A nL Q w cells slots pc lv st :=
  fun H locs ls hP hA hS hl h1 => lv_lconst C.1 C.2.1 hd hv (k H locs ls hP hA hS hl h1)
theorem g_null (C : h_C p l s m args meth c G A cc nL own)  (hd : decode cc pc = .ok (.aconst_null, 1))  (k : h_G p l e R s m args below meth c G A nL Q w cells slots (pc + 1) lv (.null :: st)) : h_G p l e R s m args below meth c G A nL Q w cells slots pc lv st :=
  fun H locs ls hP hA hS hl h1 => lv_null C.1 C.2.1 hd (k H locs ls hP hA hS hl h1)
theorem g_iload_n (C : h_C p l s m args meth c G A cc nL own) {k0 : Fin 4} {i : Nat} {x : Int32} (hd : decode cc pc = .ok (.iload_n k0, 1)) (hi : (k0 : Nat) = i) (hg : lvG lv i = some (.int x)) (k : h_G p l e R s m args below meth c G A nL Q w cells slots (pc + 1) lv (.int x :: st)) : h_G p l e R s m args below meth c G A nL Q w cells slots pc lv st :=
  fun H locs ls hP hA hS hl h1 => lv_iload_n C.1 C.2.1 hd hi (lvG_has hl hg) (k H locs ls hP hA hS hl h1)
theorem g_iload (C : h_C p l s m args meth c G A cc nL own) {i : Nat} {x : Int32} (hd : decode cc pc = .ok (.iload i, 2)) (hg : lvG lv i = some (.int x)) (k : h_G p l e R s m args below meth c G A nL Q w cells slots (pc + 2) lv (.int x :: st)) : h_G p l e R s m args below meth c G A nL Q w cells slots pc lv st :=
  fun H locs ls hP hA hS hl h1 => lv_iload C.1 C.2.1 hd (lvG_has hl hg) (k H locs ls hP hA hS hl h1)
theorem g_aload_n (C : h_C p l s m args meth c G A cc nL own) {k0 : Fin 4} {i : Nat} {x : Nat} (hd : decode cc pc = .ok (.aload_n k0, 1)) (hi : (k0 : Nat) = i) (hg : lvG lv i = some (.ref x)) (k : h_G p l e R s m args below meth c G A nL Q w cells slots (pc + 1) lv (.ref x :: st)) : h_G p l e R s m args below meth c G A nL Q w cells slots pc lv st :=
  fun H locs ls hP hA hS hl h1 => lv_aload_n C.1 C.2.1 hd hi (lvG_has hl hg) (k H locs ls hP hA hS hl h1)
theorem g_aload (C : h_C p l s m args meth c G A cc nL own) {i : Nat} {x : Nat} (hd : decode cc pc = .ok (.aload i, 2)) (hg : lvG lv i = some (.ref x)) (k : h_G p l e R s m args below meth c G A nL Q w cells slots (pc + 2) lv (.ref x :: st)) : h_G p l e R s m args below meth c G A nL Q w cells slots pc lv st :=
  fun H locs ls hP hA hS hl h1 => lv_aload C.1 C.2.1 hd (lvG_has hl hg) (k H locs ls hP hA hS hl h1)
theorem g_aload_nq (C : h_C p l s m args meth c G A cc nL own) {k0 : Fin 4} {i : Nat} {r : Option Nat} (hd : decode cc pc = .ok (.aload_n k0, 1)) (hi : (k0 : Nat) = i) (hg : lvG lv i = some (va_rf r)) (k : h_G p l e R s m args below meth c G A nL Q w cells slots (pc + 1) lv (va_rf r :: st)) : h_G p l e R s m args below meth c G A nL Q w cells slots pc lv st := by
  cases r with
  | none => exact fun H locs ls hP hA hS hl h1 => lv_aload_nN C.1 C.2.1 hd hi (lvG_has hl hg) (k H locs ls hP hA hS hl h1)
  | some a => exact fun H locs ls hP hA hS hl h1 => lv_aload_n C.1 C.2.1 hd hi (lvG_has hl hg) (k H locs ls hP hA hS hl h1)
theorem g_aloadq (C : h_C p l s m args meth c G A cc nL own) {i : Nat} {r : Option Nat} (hd : decode cc pc = .ok (.aload i, 2)) (hg : lvG lv i = some (va_rf r)) (k : h_G p l e R s m args below meth c G A nL Q w cells slots (pc + 2) lv (va_rf r :: st)) : h_G p l e R s m args below meth c G A nL Q w cells slots pc lv st := by
  cases r with
  | none => exact fun H locs ls hP hA hS hl h1 => lv_aloadN C.1 C.2.1 hd (lvG_has hl hg) (k H locs ls hP hA hS hl h1)
  | some a => exact fun H locs ls hP hA hS hl h1 => lv_aload C.1 C.2.1 hd (lvG_has hl hg) (k H locs ls hP hA hS hl h1)
theorem g_iadd (C : h_C p l s m args meth c G A cc nL own) {x y : Int32} (hd : decode cc pc = .ok (.iadd, 1))  (k : h_G p l e R s m args below meth c G A nL Q w cells slots (pc + 1) lv (.int (x + y) :: st)) : h_G p l e R s m args below meth c G A nL Q w cells slots pc lv (.int y :: .int x :: st) :=
  fun H locs ls hP hA hS hl h1 => lv_iadd C.1 C.2.1 hd (k H locs ls hP hA hS hl h1)
theorem g_isub (C : h_C p l s m args meth c G A cc nL own) {x y : Int32} (hd : decode cc pc = .ok (.isub, 1))  (k : h_G p l e R s m args below meth c G A nL Q w cells slots (pc + 1) lv (.int (x - y) :: st)) : h_G p l e R s m args below meth c G A nL Q w cells slots pc lv (.int y :: .int x :: st) :=
  fun H locs ls hP hA hS hl h1 => lv_isub C.1 C.2.1 hd (k H locs ls hP hA hS hl h1)
theorem g_imul (C : h_C p l s m args meth c G A cc nL own) {x y : Int32} (hd : decode cc pc = .ok (.imul, 1))  (k : h_G p l e R s m args below meth c G A nL Q w cells slots (pc + 1) lv (.int (x * y) :: st)) : h_G p l e R s m args below meth c G A nL Q w cells slots pc lv (.int y :: .int x :: st) :=
  fun H locs ls hP hA hS hl h1 => lv_imul C.1 C.2.1 hd (k H locs ls hP hA hS hl h1)
theorem g_iand (C : h_C p l s m args meth c G A cc nL own) {x y : Int32} (hd : decode cc pc = .ok (.iand, 1))  (k : h_G p l e R s m args below meth c G A nL Q w cells slots (pc + 1) lv (.int (x &&& y) :: st)) : h_G p l e R s m args below meth c G A nL Q w cells slots pc lv (.int y :: .int x :: st) :=
  fun H locs ls hP hA hS hl h1 => lv_iand C.1 C.2.1 hd (k H locs ls hP hA hS hl h1)
theorem g_ior (C : h_C p l s m args meth c G A cc nL own) {x y : Int32} (hd : decode cc pc = .ok (.ior, 1))  (k : h_G p l e R s m args below meth c G A nL Q w cells slots (pc + 1) lv (.int (x ||| y) :: st)) : h_G p l e R s m args below meth c G A nL Q w cells slots pc lv (.int y :: .int x :: st) :=
  fun H locs ls hP hA hS hl h1 => lv_ior C.1 C.2.1 hd (k H locs ls hP hA hS hl h1)
theorem g_ishl (C : h_C p l s m args meth c G A cc nL own) {x y : Int32} (hd : decode cc pc = .ok (.ishl, 1))  (k : h_G p l e R s m args below meth c G A nL Q w cells slots (pc + 1) lv (.int (x <<< (y &&& 31)) :: st)) : h_G p l e R s m args below meth c G A nL Q w cells slots pc lv (.int y :: .int x :: st) :=
  fun H locs ls hP hA hS hl h1 => lv_ishl C.1 C.2.1 hd (k H locs ls hP hA hS hl h1)
theorem g_ishr (C : h_C p l s m args meth c G A cc nL own) {x y : Int32} (hd : decode cc pc = .ok (.ishr, 1))  (k : h_G p l e R s m args below meth c G A nL Q w cells slots (pc + 1) lv (.int (x >>> (y &&& 31)) :: st)) : h_G p l e R s m args below meth c G A nL Q w cells slots pc lv (.int y :: .int x :: st) :=
  fun H locs ls hP hA hS hl h1 => lv_ishr C.1 C.2.1 hd (k H locs ls hP hA hS hl h1)
theorem g_iushr (C : h_C p l s m args meth c G A cc nL own) {x y v : Int32} (hd : decode cc pc = .ok (.iushr, 1)) (hv : (x.toUInt32 >>> (y.toUInt32 &&& Int32.toUInt32 31)).toInt32 = v) (k : h_G p l e R s m args below meth c G A nL Q w cells slots (pc + 1) lv (.int v :: st)) : h_G p l e R s m args below meth c G A nL Q w cells slots pc lv (.int y :: .int x :: st) :=
  fun H locs ls hP hA hS hl h1 => lv_iushr C.1 C.2.1 hd hv (k H locs ls hP hA hS hl h1)
theorem g_idiv (C : h_C p l s m args meth c G A cc nL own) {x y : Int32} (hd : decode cc pc = .ok (.idiv, 1)) (hne : ¬ y = 0) (k : h_G p l e R s m args below meth c G A nL Q w cells slots (pc + 1) lv (.int (x / y) :: st)) : h_G p l e R s m args below meth c G A nL Q w cells slots pc lv (.int y :: .int x :: st) :=
  fun H locs ls hP hA hS hl h1 => lv_idiv C.1 C.2.1 hd hne (k H locs ls hP hA hS hl h1)
theorem g_irem (C : h_C p l s m args meth c G A cc nL own) {x y : Int32} (hd : decode cc pc = .ok (.irem, 1)) (hne : ¬ y = 0) (k : h_G p l e R s m args below meth c G A nL Q w cells slots (pc + 1) lv (.int (x - x / y * y) :: st)) : h_G p l e R s m args below meth c G A nL Q w cells slots pc lv (.int y :: .int x :: st) :=
  fun H locs ls hP hA hS hl h1 => lv_irem C.1 C.2.1 hd hne (k H locs ls hP hA hS hl h1)
theorem g_i2l (C : h_C p l s m args meth c G A cc nL own) {x : Int32} {v : Int64} (hd : decode cc pc = .ok (.i2l, 1)) (hv : x.toInt64 = v) (k : h_G p l e R s m args below meth c G A nL Q w cells slots (pc + 1) lv (.long v :: st)) : h_G p l e R s m args below meth c G A nL Q w cells slots pc lv (.int x :: st) :=
  fun H locs ls hP hA hS hl h1 => lv_i2l C.1 C.2.1 hd hv (k H locs ls hP hA hS hl h1)
theorem g_lcmp (C : h_C p l s m args meth c G A cc nL own) {x y : Int64} (hd : decode cc pc = .ok (.lcmp, 1))  (k : h_G p l e R s m args below meth c G A nL Q w cells slots (pc + 1) lv (.int (lg_cmp x y) :: st)) : h_G p l e R s m args below meth c G A nL Q w cells slots pc lv (.long y :: .long x :: st) :=
  fun H locs ls hP hA hS hl h1 => W.lcmp C.1 C.2.1 hd (k H locs ls hP hA hS hl h1)
theorem g_dup (C : h_C p l s m args meth c G A cc nL own) {va : Value} (hd : decode cc pc = .ok (.dup, 1)) (hva : va.category = 1) (k : h_G p l e R s m args below meth c G A nL Q w cells slots (pc + 1) lv (va :: va :: st)) : h_G p l e R s m args below meth c G A nL Q w cells slots pc lv (va :: st) :=
  fun H locs ls hP hA hS hl h1 => lv_dup C.1 C.2.1 hd hva (k H locs ls hP hA hS hl h1)
theorem g_dup2 (C : h_C p l s m args meth c G A cc nL own) {va vb : Value} (hd : decode cc pc = .ok (.dup2, 1)) (hva : va.category = 1) (hvb : vb.category = 1) (k : h_G p l e R s m args below meth c G A nL Q w cells slots (pc + 1) lv (va :: vb :: va :: vb :: st)) : h_G p l e R s m args below meth c G A nL Q w cells slots pc lv (va :: vb :: st) :=
  fun H locs ls hP hA hS hl h1 => lv_dup2_11 C.1 C.2.1 hd hva hvb (k H locs ls hP hA hS hl h1)
theorem g_pop (C : h_C p l s m args meth c G A cc nL own) {va : Value} (hd : decode cc pc = .ok (.pop, 1)) (hva : va.category = 1) (k : h_G p l e R s m args below meth c G A nL Q w cells slots (pc + 1) lv st) : h_G p l e R s m args below meth c G A nL Q w cells slots pc lv (va :: st) :=
  fun H locs ls hP hA hS hl h1 => lv_pop C.1 C.2.1 hd hva (k H locs ls hP hA hS hl h1)
theorem g_top {x : Int32} (k : ∀ y : Int32, y = x → h_G p l e R s m args below meth c G A nL Q w cells slots pc lv (.int y :: st)) : h_G p l e R s m args below meth c G A nL Q w cells slots pc lv (.int x :: st) := k x rfl
theorem g_eq {x y : Int32} (h : x = y) (k : h_G p l e R s m args below meth c G A nL Q w cells slots pc lv (.int y :: st)) : h_G p l e R s m args below meth c G A nL Q w cells slots pc lv (.int x :: st) := h ▸ k
theorem g_istore_n (C : h_C p l s m args meth c G A cc nL own) {k0 : Fin 4} {i : Nat} {x : Int32} (hd : decode cc pc = .ok (.istore_n k0, 1)) (hi : (k0 : Nat) = i) (hn : i < nL) (k : h_G p l e R s m args below meth c G A nL Q w cells slots (pc + 1) (lvS lv i (.int x)) st) : h_G p l e R s m args below meth c G A nL Q w cells slots pc lv (.int x :: st) :=
  fun H locs ls hP hA hS hl h1 => lv_istore_n C.1 C.2.1 hd hi hl hn rfl fun ls' hl' => k H locs ls' hP hA hS (lvS_has hl' h1) (lvS_1 h1 rfl)
theorem g_istore (C : h_C p l s m args meth c G A cc nL own) {i : Nat} {x : Int32} (hd : decode cc pc = .ok (.istore i, 2)) (hn : i < nL) (k : h_G p l e R s m args below meth c G A nL Q w cells slots (pc + 2) (lvS lv i (.int x)) st) : h_G p l e R s m args below meth c G A nL Q w cells slots pc lv (.int x :: st) :=
  fun H locs ls hP hA hS hl h1 => lv_istore C.1 C.2.1 hd hl hn rfl fun ls' hl' => k H locs ls' hP hA hS (lvS_has hl' h1) (lvS_1 h1 rfl)
theorem g_astore_n (C : h_C p l s m args meth c G A cc nL own) {k0 : Fin 4} {i : Nat} {x : Nat} (hd : decode cc pc = .ok (.astore_n k0, 1)) (hi : (k0 : Nat) = i) (hn : i < nL) (k : h_G p l e R s m args below meth c G A nL Q w cells slots (pc + 1) (lvS lv i (.ref x)) st) : h_G p l e R s m args below meth c G A nL Q w cells slots pc lv (.ref x :: st) :=
  fun H locs ls hP hA hS hl h1 => lv_astore_n C.1 C.2.1 hd hi hl hn rfl fun ls' hl' => k H locs ls' hP hA hS (lvS_has hl' h1) (lvS_1 h1 rfl)
theorem g_astore (C : h_C p l s m args meth c G A cc nL own) {i : Nat} {x : Nat} (hd : decode cc pc = .ok (.astore i, 2)) (hn : i < nL) (k : h_G p l e R s m args below meth c G A nL Q w cells slots (pc + 2) (lvS lv i (.ref x)) st) : h_G p l e R s m args below meth c G A nL Q w cells slots pc lv (.ref x :: st) :=
  fun H locs ls hP hA hS hl h1 => lv_astore C.1 C.2.1 hd hl hn rfl fun ls' hl' => k H locs ls' hP hA hS (lvS_has hl' h1) (lvS_1 h1 rfl)
theorem g_astore_nq (C : h_C p l s m args meth c G A cc nL own) {k0 : Fin 4} {i : Nat} {r : Option Nat} (hd : decode cc pc = .ok (.astore_n k0, 1)) (hi : (k0 : Nat) = i) (hn : i < nL) (k : h_G p l e R s m args below meth c G A nL Q w cells slots (pc + 1) (lvS lv i (va_rf r)) st) : h_G p l e R s m args below meth c G A nL Q w cells slots pc lv (va_rf r :: st) := by
  cases r with
  | none => exact fun H locs ls hP hA hS hl h1 => lv_astore_nN C.1 C.2.1 hd hi hl hn rfl fun ls' hl' => k H locs ls' hP hA hS (lvS_has hl' h1) (lvS_1 h1 rfl)
  | some a => exact fun H locs ls hP hA hS hl h1 => lv_astore_n C.1 C.2.1 hd hi hl hn rfl fun ls' hl' => k H locs ls' hP hA hS (lvS_has hl' h1) (lvS_1 h1 rfl)
theorem g_astoreq (C : h_C p l s m args meth c G A cc nL own) {i : Nat} {r : Option Nat} (hd : decode cc pc = .ok (.astore i, 2)) (hn : i < nL) (k : h_G p l e R s m args below meth c G A nL Q w cells slots (pc + 2) (lvS lv i (va_rf r)) st) : h_G p l e R s m args below meth c G A nL Q w cells slots pc lv (va_rf r :: st) := by
  cases r with
  | none => exact fun H locs ls hP hA hS hl h1 => lv_astoreN C.1 C.2.1 hd hl hn rfl fun ls' hl' => k H locs ls' hP hA hS (lvS_has hl' h1) (lvS_1 h1 rfl)
  | some a => exact fun H locs ls hP hA hS hl h1 => lv_astore C.1 C.2.1 hd hl hn rfl fun ls' hl' => k H locs ls' hP hA hS (lvS_has hl' h1) (lvS_1 h1 rfl)
theorem g_iinc (C : h_C p l s m args meth c G A cc nL own) {i : Nat} {n : Int} {x v : Int32} (hd : decode cc pc = .ok (.iinc i n, 3)) (hg : lvG lv i = some (.int x)) (hv : x + Int32.ofInt n = v) (hn : i < nL) (k : h_G p l e R s m args below meth c G A nL Q w cells slots (pc + 3) (lvS lv i (.int v)) st) : h_G p l e R s m args below meth c G A nL Q w cells slots pc lv st := by
  intro H locs ls hP hA hS hl h1
  obtain ⟨j, hj⟩ := List.getElem?_of_mem (lvG_mem lv i _ hg)
  exact lv_iinc C.1 C.2.1 hd hl (k := j) hj hv hn rfl fun ls' hl' => k H locs ls' hP hA hS (lvS_has hl' h1) (lvS_1 h1 rfl)
theorem g_if_eq (C : h_C p l s m args meth c G A cc nL own) {x : Int32} {off : Int} (tgt : Nat) (hd : decode cc pc = .ok (.ifCond .eq off, 3)) (ht : (pc : Int) + off = (tgt : Int)) (kt : x = 0 → h_G p l e R s m args below meth c G A nL Q w cells slots tgt lv st) (kf : ¬ (x = 0) → h_G p l e R s m args below meth c G A nL Q w cells slots (pc + 3) lv st) : h_G p l e R s m args below meth c G A nL Q w cells slots pc lv (.int x :: st) :=
  fun H locs ls hP hA hS hl h1 => lv_if_eq C.1 C.2.1 hd ht (fun q => kt q H locs ls hP hA hS hl h1) (fun q => kf q H locs ls hP hA hS hl h1)
theorem g_if_ne (C : h_C p l s m args meth c G A cc nL own) {x : Int32} {off : Int} (tgt : Nat) (hd : decode cc pc = .ok (.ifCond .ne off, 3)) (ht : (pc : Int) + off = (tgt : Int)) (kt : ¬ x = 0 → h_G p l e R s m args below meth c G A nL Q w cells slots tgt lv st) (kf : x = 0 → h_G p l e R s m args below meth c G A nL Q w cells slots (pc + 3) lv st) : h_G p l e R s m args below meth c G A nL Q w cells slots pc lv (.int x :: st) :=
  fun H locs ls hP hA hS hl h1 => lv_if_ne C.1 C.2.1 hd ht (fun q => kt q H locs ls hP hA hS hl h1) (fun q => kf q H locs ls hP hA hS hl h1)
theorem g_if_lt (C : h_C p l s m args meth c G A cc nL own) {x : Int32} {off : Int} (tgt : Nat) (hd : decode cc pc = .ok (.ifCond .lt off, 3)) (ht : (pc : Int) + off = (tgt : Int)) (kt : x < 0 → h_G p l e R s m args below meth c G A nL Q w cells slots tgt lv st) (kf : ¬ (x < 0) → h_G p l e R s m args below meth c G A nL Q w cells slots (pc + 3) lv st) : h_G p l e R s m args below meth c G A nL Q w cells slots pc lv (.int x :: st) :=
  fun H locs ls hP hA hS hl h1 => lv_if_lt C.1 C.2.1 hd ht (fun q => kt q H locs ls hP hA hS hl h1) (fun q => kf q H locs ls hP hA hS hl h1)
theorem g_if_ge (C : h_C p l s m args meth c G A cc nL own) {x : Int32} {off : Int} (tgt : Nat) (hd : decode cc pc = .ok (.ifCond .ge off, 3)) (ht : (pc : Int) + off = (tgt : Int)) (kt : 0 ≤ x → h_G p l e R s m args below meth c G A nL Q w cells slots tgt lv st) (kf : ¬ (0 ≤ x) → h_G p l e R s m args below meth c G A nL Q w cells slots (pc + 3) lv st) : h_G p l e R s m args below meth c G A nL Q w cells slots pc lv (.int x :: st) :=
  fun H locs ls hP hA hS hl h1 => lv_if_ge C.1 C.2.1 hd ht (fun q => kt q H locs ls hP hA hS hl h1) (fun q => kf q H locs ls hP hA hS hl h1)
theorem g_if_gt (C : h_C p l s m args meth c G A cc nL own) {x : Int32} {off : Int} (tgt : Nat) (hd : decode cc pc = .ok (.ifCond .gt off, 3)) (ht : (pc : Int) + off = (tgt : Int)) (kt : 0 < x → h_G p l e R s m args below meth c G A nL Q w cells slots tgt lv st) (kf : ¬ (0 < x) → h_G p l e R s m args below meth c G A nL Q w cells slots (pc + 3) lv st) : h_G p l e R s m args below meth c G A nL Q w cells slots pc lv (.int x :: st) :=
  fun H locs ls hP hA hS hl h1 => lv_if_gt C.1 C.2.1 hd ht (fun q => kt q H locs ls hP hA hS hl h1) (fun q => kf q H locs ls hP hA hS hl h1)
theorem g_if_le (C : h_C p l s m args meth c G A cc nL own) {x : Int32} {off : Int} (tgt : Nat) (hd : decode cc pc = .ok (.ifCond .le off, 3)) (ht : (pc : Int) + off = (tgt : Int)) (kt : x ≤ 0 → h_G p l e R s m args below meth c G A nL Q w cells slots tgt lv st) (kf : ¬ (x ≤ 0) → h_G p l e R s m args below meth c G A nL Q w cells slots (pc + 3) lv st) : h_G p l e R s m args below meth c G A nL Q w cells slots pc lv (.int x :: st) :=
  fun H locs ls hP hA hS hl h1 => lv_if_le C.1 C.2.1 hd ht (fun q => kt q H locs ls hP hA hS hl h1) (fun q => kf q H locs ls hP hA hS hl h1)
theorem g_icmp_eq (C : h_C p l s m args meth c G A cc nL own) {x y : Int32} {off : Int} (tgt : Nat) (hd : decode cc pc = .ok (.if_icmp .eq off, 3)) (ht : (pc : Int) + off = (tgt : Int)) (kt : x = y → h_G p l e R s m args below meth c G A nL Q w cells slots tgt lv st) (kf : ¬ (x = y) → h_G p l e R s m args below meth c G A nL Q w cells slots (pc + 3) lv st) : h_G p l e R s m args below meth c G A nL Q w cells slots pc lv (.int y :: .int x :: st) :=
  fun H locs ls hP hA hS hl h1 => lv_icmp_eq C.1 C.2.1 hd ht (fun q => kt q H locs ls hP hA hS hl h1) (fun q => kf q H locs ls hP hA hS hl h1)
theorem g_icmp_ne (C : h_C p l s m args meth c G A cc nL own) {x y : Int32} {off : Int} (tgt : Nat) (hd : decode cc pc = .ok (.if_icmp .ne off, 3)) (ht : (pc : Int) + off = (tgt : Int)) (kt : ¬ x = y → h_G p l e R s m args below meth c G A nL Q w cells slots tgt lv st) (kf : x = y → h_G p l e R s m args below meth c G A nL Q w cells slots (pc + 3) lv st) : h_G p l e R s m args below meth c G A nL Q w cells slots pc lv (.int y :: .int x :: st) :=
  fun H locs ls hP hA hS hl h1 => lv_icmp_ne C.1 C.2.1 hd ht (fun q => kt q H locs ls hP hA hS hl h1) (fun q => kf q H locs ls hP hA hS hl h1)
theorem g_icmp_lt (C : h_C p l s m args meth c G A cc nL own) {x y : Int32} {off : Int} (tgt : Nat) (hd : decode cc pc = .ok (.if_icmp .lt off, 3)) (ht : (pc : Int) + off = (tgt : Int)) (kt : x < y → h_G p l e R s m args below meth c G A nL Q w cells slots tgt lv st) (kf : ¬ (x < y) → h_G p l e R s m args below meth c G A nL Q w cells slots (pc + 3) lv st) : h_G p l e R s m args below meth c G A nL Q w cells slots pc lv (.int y :: .int x :: st) :=
  fun H locs ls hP hA hS hl h1 => lv_icmp_lt C.1 C.2.1 hd ht (fun q => kt q H locs ls hP hA hS hl h1) (fun q => kf q H locs ls hP hA hS hl h1)
theorem g_icmp_ge (C : h_C p l s m args meth c G A cc nL own) {x y : Int32} {off : Int} (tgt : Nat) (hd : decode cc pc = .ok (.if_icmp .ge off, 3)) (ht : (pc : Int) + off = (tgt : Int)) (kt : y ≤ x → h_G p l e R s m args below meth c G A nL Q w cells slots tgt lv st) (kf : ¬ (y ≤ x) → h_G p l e R s m args below meth c G A nL Q w cells slots (pc + 3) lv st) : h_G p l e R s m args below meth c G A nL Q w cells slots pc lv (.int y :: .int x :: st) :=
  fun H locs ls hP hA hS hl h1 => lv_icmp_ge C.1 C.2.1 hd ht (fun q => kt q H locs ls hP hA hS hl h1) (fun q => kf q H locs ls hP hA hS hl h1)
theorem g_icmp_gt (C : h_C p l s m args meth c G A cc nL own) {x y : Int32} {off : Int} (tgt : Nat) (hd : decode cc pc = .ok (.if_icmp .gt off, 3)) (ht : (pc : Int) + off = (tgt : Int)) (kt : y < x → h_G p l e R s m args below meth c G A nL Q w cells slots tgt lv st) (kf : ¬ (y < x) → h_G p l e R s m args below meth c G A nL Q w cells slots (pc + 3) lv st) : h_G p l e R s m args below meth c G A nL Q w cells slots pc lv (.int y :: .int x :: st) :=
  fun H locs ls hP hA hS hl h1 => lv_icmp_gt C.1 C.2.1 hd ht (fun q => kt q H locs ls hP hA hS hl h1) (fun q => kf q H locs ls hP hA hS hl h1)
theorem g_icmp_le (C : h_C p l s m args meth c G A cc nL own) {x y : Int32} {off : Int} (tgt : Nat) (hd : decode cc pc = .ok (.if_icmp .le off, 3)) (ht : (pc : Int) + off = (tgt : Int)) (kt : x ≤ y → h_G p l e R s m args below meth c G A nL Q w cells slots tgt lv st) (kf : ¬ (x ≤ y) → h_G p l e R s m args below meth c G A nL Q w cells slots (pc + 3) lv st) : h_G p l e R s m args below meth c G A nL Q w cells slots pc lv (.int y :: .int x :: st) :=
  fun H locs ls hP hA hS hl h1 => lv_icmp_le C.1 C.2.1 hd ht (fun q => kt q H locs ls hP hA hS hl h1) (fun q => kf q H locs ls hP hA hS hl h1)
theorem g_goto (C : h_C p l s m args meth c G A cc nL own) {off : Int} (tgt : Nat) (hd : decode cc pc = .ok (.goto off, 3)) (ht : (pc : Int) + off = (tgt : Int)) (k : h_G p l e R s m args below meth c G A nL Q w cells slots tgt lv st) : h_G p l e R s m args below meth c G A nL Q w cells slots pc lv st :=
  fun H locs ls hP hA hS hl h1 => lv_goto C.1 C.2.1 hd ht (k H locs ls hP hA hS hl h1)
theorem g_ifnull (C : h_C p l s m args meth c G A cc nL own) {r : Option Nat} {off : Int} (tgt : Nat) (hd : decode cc pc = .ok (.ifnull off, 3)) (ht : (pc : Int) + off = (tgt : Int)) (kt : r = none → h_G p l e R s m args below meth c G A nL Q w cells slots tgt lv st) (kf : ∀ a, r = some a → h_G p l e R s m args below meth c G A nL Q w cells slots (pc + 3) lv st) : h_G p l e R s m args below meth c G A nL Q w cells slots pc lv (va_rf r :: st) := by
  cases r with
  | none => exact fun H locs ls hP hA hS hl h1 => lv_ifnullN C.1 C.2.1 hd ht (kt rfl H locs ls hP hA hS hl h1)
  | some a => exact fun H locs ls hP hA hS hl h1 => lv_ifnull C.1 C.2.1 hd (kf a rfl H locs ls hP hA hS hl h1)
theorem g_ifnonnull (C : h_C p l s m args meth c G A cc nL own) {r : Option Nat} {off : Int} (tgt : Nat) (hd : decode cc pc = .ok (.ifnonnull off, 3)) (ht : (pc : Int) + off = (tgt : Int)) (kt : ∀ a, r = some a → h_G p l e R s m args below meth c G A nL Q w cells slots tgt lv st) (kf : r = none → h_G p l e R s m args below meth c G A nL Q w cells slots (pc + 3) lv st) : h_G p l e R s m args below meth c G A nL Q w cells slots pc lv (va_rf r :: st) := by
  cases r with
  | none => exact fun H locs ls hP hA hS hl h1 => lv_ifnonnullN C.1 C.2.1 hd (kf rfl H locs ls hP hA hS hl h1)
  | some a => exact fun H locs ls hP hA hS hl h1 => lv_ifnonnull C.1 C.2.1 hd ht (kt a rfl H locs ls hP hA hS hl h1)
theorem g_tableIn (C : h_C p l s m args meth c G A cc nL own) {dflt lo hi : Int} {offs : Array Int} {len : Nat} {x : Int32} {off : Int} (tgt : Nat) (hd : decode cc pc = .ok (.tableswitch dflt lo hi offs, len)) (q1 : ¬ x.toInt < lo) (q2 : ¬ hi < x.toInt) (ho : offs[(x.toInt - lo).toNat]? = some off) (ht : (pc : Int) + off = (tgt : Int)) (k : h_G p l e R s m args below meth c G A nL Q w cells slots tgt lv st) : h_G p l e R s m args below meth c G A nL Q w cells slots pc lv (.int x :: st) :=
  fun H locs ls hP hA hS hl h1 => lv_tableIn C.1 C.2.1 hd q1 q2 ho ht (k H locs ls hP hA hS hl h1)
theorem g_tableOut (C : h_C p l s m args meth c G A cc nL own) {dflt lo hi : Int} {offs : Array Int} {len : Nat} {x : Int32} (tgt : Nat) (hd : decode cc pc = .ok (.tableswitch dflt lo hi offs, len)) (q1 : x.toInt < lo ∨ hi < x.toInt) (ht : (pc : Int) + dflt = (tgt : Int)) (k : h_G p l e R s m args below meth c G A nL Q w cells slots tgt lv st) : h_G p l e R s m args below meth c G A nL Q w cells slots pc lv (.int x :: st) :=
  fun H locs ls hP hA hS hl h1 => lv_tableOut C.1 C.2.1 hd q1 ht (k H locs ls hP hA hS hl h1)
theorem g_widen {k n : Nat} (q1 : cells ≤ k) (q2 : slots ≤ n) (kk : h_G p l e R s m args below meth c G A nL Q w k n pc lv st) : h_G p l e R s m args below meth c G A nL Q w cells slots pc lv st := fun H locs ls hP hA hS hl h1 => W.widen q1 q2 (kk H locs ls hP hA hS hl h1)
theorem g_get (C : h_C p l s m args meth c G A cc nL own) {ref Cn : String} {T : u_T} {N ci index a : Nat} {fs : List Value} {v : Value} (hd : decode cc pc = .ok (.getfield index, 3)) (hw : w a = some (eO ci fs)) (hc : vwCl[ci]? = some (Cn, T, N)) (hin : ∀ x ∈ u_ws Cn T N, x ∈ hAll) (k0 : Nat) (hk : k0 < N) (hlk : Cond.fieldLink own index ref (T k0).2.1 (T k0).2.2.1 ∈ hAll) (href : (T k0).1 = ref) (hv : fs[k0]? = some v) (k : h_G p l e R s m args below meth c G A nL Q w cells slots (pc + 3) lv (v :: st)) : h_G p l e R s m args below meth c G A nL Q w cells slots pc lv (.ref a :: st) :=
  fun H locs ls hP hA hS hl h1 => va_get (fs := fs) C.1 C.2.1 C.2.2.2.2.1 hin C.2.2.2.1 C.2.2.2.2.2.1 (hP.one hw) 0 rfl hc k0 hk (C.2.2.2.2.1 _ hlk) (fun x hx => by rw [← href]; exact hx) hv hd (k H locs ls hP hA hS hl h1)
theorem g_put (C : h_C p l s m args meth c G A cc nL own) {ref Cn : String} {T : u_T} {N ci index a : Nat} {fs : List Value} {v : Value} (hd : decode cc pc = .ok (.putfield index, 3)) (hw : w a = some (eO ci fs)) (hc : vwCl[ci]? = some (Cn, T, N)) (hin : ∀ x ∈ u_ws Cn T N, x ∈ hAll) (ty0 : Nat → FieldType) (hty : ∀ k, k < N → parseFieldDescriptor (T k).2.2.1 = some (ty0 k)) (hnm : ∀ a, a < N → ∀ b, b < N → a ≠ b → (T a).2.1 ≠ (T b).2.1) (k0 : Nat) (hk : k0 < N) (hlk : Cond.fieldLink own index ref (T k0).2.1 (T k0).2.2.1 ∈ hAll) (href : (T k0).1 = ref) (hfin : (T k0).2.2.2 = false)  (hn : narrow (ty0 k0) v = v) (hfit : fits (ty0 k0) v = true) (hlen : k0 < fs.length) (k : h_G p l e R s m args below meth c G A nL Q (h_up w a (eO ci (fs.set k0 v))) cells slots (pc + 3) lv st) : h_G p l e R s m args below meth c G A nL Q w cells slots pc lv (v :: .ref a :: st) := by
  intro H locs ls hP hA hS hl h1
  have hap := va_apart (own := own) (tys := hTy G) C.2.2.2.2.1 hin ty0 hty hnm C.2.2.2.2.2.1 hc
  obtain ⟨r, hr1, cell, q1, q2, q3, q4⟩ := hP a _ hw
  have hr : r = (Cn, T, N) := Option.some.inj (hr1.symm.trans hc)
  subst hr
  obtain ⟨hSl, hfc, kC, hkC, hkind⟩ := C.2.2.2.2.2.1.1 ci _ hc
  obtain ⟨cf, kf, fi, f, hi, hsl⟩ := hSl k0 hk
  have hlay := C.2.2.2.2.1 _ (hin _ (u_in_lay hk))
  unfold u_lay at hlay
  rw [if_neg (by rw [hfin]; decide)] at hlay
  have hst := (u_facts hfc hkC (u_lays C.2.2.2.2.1 hin hk) hi).1
  have h6 := u_store hfc hkC hkind hlay hi (hty k0 hk) hn hfit
  refine W.putK C.1 C.2.1 (f := f) (own := own) (ref := ref) ⟨C.2.2.2.1, C.2.2.2.2.1 _ hlk, ⟨_, _, _, by rw [← href]; exact hi⟩, hst⟩ (by rw [q2]; exact h6) q1 q3 (by rw [hsl]; exact k2_hasslot (q4 k0 hk)) rfl rfl hd fun H' e1 e2 e3 => ?_
  rw [hsl] at e1 ⊢
  have ha : A a := hA a _ hw
  exact k H' _ ls (hP.put ⟨_, hc, t_OB.to (V := updV (vp_V fs) k0 v) ⟨_, e1, q2, q3, t_set q4 hap hk v⟩ (fun j _ => vp_updV_set hlen v j)⟩ e3) (hA.up ha) (hS.put e2 e3 ha) hl h1
theorem g_putF (C : h_C p l s m args meth c G A cc nL own) {ref Cn : String} {T : u_T} {N ci index a : Nat} {fs : List Value} {v : Value} (hd : decode cc pc = .ok (.putfield index, 3)) (hw : w a = some (eO ci fs)) (hc : vwCl[ci]? = some (Cn, T, N)) (hin : ∀ x ∈ u_ws Cn T N, x ∈ hAll) (ty0 : Nat → FieldType) (hty : ∀ k, k < N → parseFieldDescriptor (T k).2.2.1 = some (ty0 k)) (hnm : ∀ a, a < N → ∀ b, b < N → a ≠ b → (T a).2.1 ≠ (T b).2.1) (k0 : Nat) (hk : k0 < N) (hlk : Cond.fieldLink own index ref (T k0).2.1 (T k0).2.2.1 ∈ hAll) (href : (T k0).1 = ref) (hfin : (T k0).2.2.2 = true) (hin2 : meth.name = "<init>") (hdecl : (T k0).1 = own) (hn : narrow (ty0 k0) v = v) (hfit : fits (ty0 k0) v = true) (hlen : k0 < fs.length) (k : h_G p l e R s m args below meth c G A nL Q (h_up w a (eO ci (fs.set k0 v))) cells slots (pc + 3) lv st) : h_G p l e R s m args below meth c G A nL Q w cells slots pc lv (v :: .ref a :: st) := by
  intro H locs ls hP hA hS hl h1
  have hap := va_apart (own := own) (tys := hTy G) C.2.2.2.2.1 hin ty0 hty hnm C.2.2.2.2.2.1 hc
  obtain ⟨r, hr1, cell, q1, q2, q3, q4⟩ := hP a _ hw
  have hr : r = (Cn, T, N) := Option.some.inj (hr1.symm.trans hc)
  subst hr
  obtain ⟨hSl, hfc, kC, hkC, hkind⟩ := C.2.2.2.2.2.1.1 ci _ hc
  obtain ⟨cf, kf, fi, f, hi, hsl⟩ := hSl k0 hk
  have hlay := C.2.2.2.2.1 _ (hin _ (u_in_lay hk))
  unfold u_lay at hlay
  rw [if_pos hfin] at hlay
  have hst := (u_facts hfc hkC (u_lays C.2.2.2.2.1 hin hk) hi).1
  have hcf : m.cls = cf := by
    obtain ⟨_, _, c', _, _, _, -, -, hf', -, -, -, hown2, -⟩ := Cond.laysFinal_spec hlay
    have e1 : c' = cf := by have := hi.symm.trans hf'; simp at this; exact this.1.symm
    rw [hdecl] at hown2
    rw [← e1]; exact Option.some.inj (C.2.2.2.1.symm.trans hown2)
  have h6 := u_fits hfc hkC hkind (Or.inr hlay) hi (hty k0 hk) hn hfit
  refine W.putFinK C.1 C.2.1 C.2.2.2.1 (C.2.2.2.2.1 _ hlk) (by rw [← href]; exact hi) hst hcf hin2 (by rw [q2]; exact h6) q1 q3 (by rw [hsl]; exact k2_hasslot (q4 k0 hk)) rfl rfl hd fun H' e1 e2 e3 => ?_
  rw [hsl] at e1 ⊢
  have ha : A a := hA a _ hw
  exact k H' _ ls (hP.put ⟨_, hc, t_OB.to (V := updV (vp_V fs) k0 v) ⟨_, e1, q2, q3, t_set q4 hap hk v⟩ (fun j _ => vp_updV_set hlen v j)⟩ e3) (hA.up ha) (hS.put e2 e3 ha) hl h1
theorem g_iald (C : h_C p l s m args meth c G A cc nL own) {a n : Nat} {f : Nat → Int32} {i : Int32} (hd : decode cc pc = .ok (.iaload, 1)) (hw : w a = some (eI G n f)) (hi : vp_in i n) (k : h_G p l e R s m args below meth c G A nL Q w cells slots (pc + 1) lv (.int (f i.toNatClampNeg) :: st)) : h_G p l e R s m args below meth c G A nL Q w cells slots pc lv (.int i :: .ref a :: st) :=
  fun H locs ls hP hA hS hl h1 => va_iald C.1 C.2.1 C.2.2.2.2.2.1 (hP.one hw) 0 0 rfl rfl hi hd (k H locs ls hP hA hS hl h1)
theorem g_zald (C : h_C p l s m args meth c G A cc nL own) {a n : Nat} {f : Nat → Int32} {i : Int32} (hd : decode cc pc = .ok (.baload, 1)) (hw : w a = some (eZ G n f)) (hi : vp_in i n) (k : h_G p l e R s m args below meth c G A nL Q w cells slots (pc + 1) lv (.int (f i.toNatClampNeg) :: st)) : h_G p l e R s m args below meth c G A nL Q w cells slots pc lv (.int i :: .ref a :: st) :=
  fun H locs ls hP hA hS hl h1 => va_zald C.1 C.2.1 C.2.2.2.2.2.1 (hP.one hw) 0 1 rfl rfl hi hd (k H locs ls hP hA hS hl h1)
theorem g_lald (C : h_C p l s m args meth c G A cc nL own) {a n : Nat} {f : Nat → Int64} {i : Int32} (hd : decode cc pc = .ok (.laload, 1)) (hw : w a = some (eJ G n f)) (hi : vp_in i n) (k : h_G p l e R s m args below meth c G A nL Q w cells slots (pc + 1) lv (.long (f i.toNatClampNeg) :: st)) : h_G p l e R s m args below meth c G A nL Q w cells slots pc lv (.int i :: .ref a :: st) :=
  fun H locs ls hP hA hS hl h1 => va_lald C.1 C.2.1 C.2.2.2.2.2.1 (hP.one hw) 0 2 rfl rfl hi hd (k H locs ls hP hA hS hl h1)
theorem g_aldq (C : h_C p l s m args meth c G A cc nL own) {a n : Nat} {f : Nat → Option Nat} {i : Int32} (hd : decode cc pc = .ok (.aaload, 1)) (hw : w a = some (eT G n f)) (hi : vp_in i n) (k : h_G p l e R s m args below meth c G A nL Q w cells slots (pc + 1) lv (va_rf (f i.toNatClampNeg) :: st)) : h_G p l e R s m args below meth c G A nL Q w cells slots pc lv (.int i :: .ref a :: st) :=
  fun H locs ls hP hA hS hl h1 => va_aldq C.1 C.2.1 C.2.2.2.2.2.1 (hP.one hw) 0 3 rfl rfl hi hd (k H locs ls hP hA hS hl h1)
theorem g_alen (C : h_C p l s m args meth c G A cc nL own) {a : Nat} {x : vp_A} {cA : ClassId} {ty : FieldType} {v : Int32} (t0 : Nat) (hd : decode cc pc = .ok (.arraylength, 1)) (hw : w a = some (.inl (cA, x))) (ht : (hTy G)[t0]? = some (cA, ty)) (hv : Int32.ofNat x.1 = v) (k : h_G p l e R s m args below meth c G A nL Q w cells slots (pc + 1) lv (.int v :: st)) : h_G p l e R s m args below meth c G A nL Q w cells slots pc lv (.ref a :: st) :=
  fun H locs ls hP hA hS hl h1 => va_alen C.1 C.2.1 C.2.2.2.2.2.1 (hP.one hw) 0 t0 rfl ht hv hd (k H locs ls hP hA hS hl h1)
theorem g_iast (C : h_C p l s m args meth c G A cc nL own) {a n : Nat} {f : Nat → Int32} {i : Int32} {x : Int32} (hd : decode cc pc = .ok (.iastore, 1)) (hw : w a = some (eI G n f)) (hi : vp_in i n) (k : h_G p l e R s m args below meth c G A nL Q (h_up w a (eI G n (upd f i.toNatClampNeg x))) cells slots (pc + 1) lv st) : h_G p l e R s m args below meth c G A nL Q w cells slots pc lv (.int x :: .int i :: .ref a :: st) := by
  intro H locs ls hP hA hS hl h1
  refine W.iast C.1 C.2.1 (hP a _ hw) ((C.2.2.2.2.2.1.2 0 _ rfl).1 n (fun j => .int (f j))) (fun q => by cases q) (by show ¬ (i < 0 ∨ (arrV _ _ _).slots.size ≤ _); rw [arrV_size]; exact hi) rfl rfl hd fun H1 e z oq => ?_
  have ha : A a := hA a _ hw
  refine k H1 _ ls (hP.put ?_ oq) (hA.up ha) (hS.put z oq ha) hl h1
  show H1[a]? = some (vp_cell _ _)
  rw [e]
  rw [vp_cell_i, vp_cell_i, arrV_store]
  congr 2
  funext q
  by_cases hq : q = i.toNatClampNeg
  · subst hq
    simp [updV, upd]
  · simp [updV, upd, hq]
theorem g_zast (C : h_C p l s m args meth c G A cc nL own) {a n : Nat} {f : Nat → Int32} {i : Int32} {x : Int32} (hd : decode cc pc = .ok (.bastore, 1)) (hw : w a = some (eZ G n f)) (hi : vp_in i n) (k : h_G p l e R s m args below meth c G A nL Q (h_up w a (eZ G n (upd f i.toNatClampNeg (vp_nar .boolean x)))) cells slots (pc + 1) lv st) : h_G p l e R s m args below meth c G A nL Q w cells slots pc lv (.int x :: .int i :: .ref a :: st) := by
  intro H locs ls hP hA hS hl h1
  refine W.zast C.1 C.2.1 (hP a _ hw) ((C.2.2.2.2.2.1.2 1 _ rfl).1 n (fun j => .int (f j))) (fun q => by cases q) (by show ¬ (i < 0 ∨ (arrV _ _ _).slots.size ≤ _); rw [arrV_size]; exact hi) rfl rfl hd fun H1 e z oq => ?_
  have ha : A a := hA a _ hw
  refine k H1 _ ls (hP.put ?_ oq) (hA.up ha) (hS.put z oq ha) hl h1
  show H1[a]? = some (vp_cell _ _)
  rw [e]
  rw [vp_cell_i, vp_cell_i, arrV_store]
  congr 2
  funext q
  by_cases hq : q = i.toNatClampNeg
  · subst hq
    simp [updV, upd, vp_nar]
    try rfl
  · simp [updV, upd, hq]
theorem g_last (C : h_C p l s m args meth c G A cc nL own) {a n : Nat} {f : Nat → Int64} {i : Int32} {x : Int64} (hd : decode cc pc = .ok (.lastore, 1)) (hw : w a = some (eJ G n f)) (hi : vp_in i n) (k : h_G p l e R s m args below meth c G A nL Q (h_up w a (eJ G n (vp_updL f i.toNatClampNeg x))) cells slots (pc + 1) lv st) : h_G p l e R s m args below meth c G A nL Q w cells slots pc lv (.long x :: .int i :: .ref a :: st) := by
  intro H locs ls hP hA hS hl h1
  refine W.last C.1 C.2.1 (hP a _ hw) ((C.2.2.2.2.2.1.2 2 _ rfl).1 n (fun j => .long (f j))) (fun q => by cases q) (by show ¬ (i < 0 ∨ (arrV _ _ _).slots.size ≤ _); rw [arrV_size]; exact hi) rfl rfl hd fun H1 e z oq => ?_
  have ha : A a := hA a _ hw
  refine k H1 _ ls (hP.put ?_ oq) (hA.up ha) (hS.put z oq ha) hl h1
  show H1[a]? = some (vp_cell _ _)
  rw [e]
  rw [vp_cell_l, vp_cell_l, arrV_store]
  congr 2
  funext q
  by_cases hq : q = i.toNatClampNeg
  · subst hq
    simp [updV, vp_updL]
  · simp [updV, vp_updL, hq]
theorem g_astq (C : h_C p l s m args meth c G A cc nL own) {a n v ci : Nat} {T : u_T} {N : Nat} {vs : List Value} {f : Nat → Option Nat} {i : Int32} (hd : decode cc pc = .ok (.aastore, 1)) (hw : w a = some (eT G n f)) (hv : w v = some (eO ci vs)) (hc : vwCl[ci]? = some (RX1, T, N)) (hi : vp_in i n) (k : h_G p l e R s m args below meth c G A nL Q (h_up w a (eT G n (va_up f i.toNatClampNeg (some v)))) cells slots (pc + 1) lv st) : h_G p l e R s m args below meth c G A nL Q w cells slots pc lv (.ref v :: .int i :: .ref a :: st) := by
  intro H locs ls hP hA hS hl h1
  have hlt : i.toNatClampNeg < n := Nat.not_le.mp fun q => hi (Or.inr q)
  have h0 : ¬ i < 0 := fun q => hi (Or.inl q)
  obtain ⟨r', hr', cellV, g1, g2, g3, -⟩ := hP v _ hv
  have hcls := (C.2.2.2.2.2.1.1 ci _ hc).2
  obtain ⟨kA, comp, k1, k2, k3, -⟩ := (C.2.2.2.2.2.1.2 3 _ rfl).2
  have hcomp : comp = G.1.1 ci := Option.some.inj (k3.symm.trans hcls.1)
  subst hcomp
  obtain ⟨kC, hkC, -⟩ := hcls.2
  refine W.aast C.1 C.2.1 (hP a _ hw) (fun q h => by cases h) (fun h => by cases h) k1 k2 rfl hkC ⟨h0, by show _ < (arrV _ _ _).slots.size; rw [arrV_size]; exact hlt⟩ g1 (fun q h => by rw [g3] at h; cases h) (by rw [g2]; exact hkC) (by rw [g2]; exact va_assign hcls) rfl rfl hd fun H1 e z oq => ?_
  have ha : A a := hA a _ hw
  refine k H1 _ ls (hP.put ?_ oq) (hA.up ha) (hS.put z oq ha) hl h1
  show H1[a]? = some (vp_cell _ _)
  rw [e]
  rw [vp_cell_q, vp_cell_q, arrV_store]
  congr 2
  funext q
  by_cases hq : q = i.toNatClampNeg
  · subst hq
    simp [updV, va_up, va_rf]
  · simp [updV, va_up, hq]
theorem g_new (C : h_C p l s m args meth c G A cc nL own) {Cn : String} {T : u_T} {N ci index : Nat} {fs : List Value} (hd : decode cc pc = .ok (.new index, 3)) (hc : vwCl[ci]? = some (Cn, T, N)) (hin : ∀ x ∈ u_ws Cn T N, x ∈ hAll) (ty : Nat → FieldType) (hty : ∀ k, k < N → parseFieldDescriptor (T k).2.2.1 = some (ty k)) (hcl : Cond.classLink own index Cn ∈ hAll) (hinst : Cond.instantiable Cn N ∈ hAll) (hini : Cond.initialized Cn ∈ hAll) (hfs : ∀ j, j < N → defaultValue (ty j) = vp_V fs j) (hcells : cells + 1 ≤ R.cells) (hslots : slots + N ≤ R.slots)
    (k : ∀ q : Nat, w q = none → h_G p l e R s m args below meth c G A nL Q (h_up w q (eO ci fs)) (cells + 1) (slots + N) (pc + 3) lv (.ref q :: st)) : h_G p l e R s m args below meth c G A nL Q w cells slots pc lv st := by
  intro H locs ls hP hA hS hl h1
  have hts := C.2.2.2.2.1
  have hKn := C.2.2.2.2.2.1.1 ci _ hc
  refine W.newcK C.1 C.2.1 C.2.2.2.1 (hts _ hcl) (hts _ hinst) (hts _ hini) rfl hd hcells hslots hKn.2.1 rfl fun H1 kC hkC e1 z1 o1 => ?_
  have hf : w H.size = none := by
    cases hx : w H.size with
    | none => rfl
    | some e => exact absurd (hP.lt hx) (Nat.lt_irrefl _)
  have hAz : A H.size := C.2.2.2.2.2.2.1 _ hS.1
  refine k H.size hf H1 locs ls ?_ (hA.up hAz) ⟨Nat.le_trans hS.1 (by omega), fun x h2 h3 => (o1 x (Nat.lt_of_lt_of_le h2 hS.1)).trans (hS.2.1 x h2 h3), hS.2.2⟩ hl h1
  intro b f hb
  by_cases hba : b = H.size
  · subst hba
    rw [h_up_s] at hb
    cases hb
    exact ⟨_, hc, (u_born ty hts hin hKn hkC e1 hty).to hfs⟩
  · rw [h_up_n hba] at hb
    exact (hP b f hb).kept (o1 b (hP.lt hb))
theorem g_newI (C : h_C p l s m args meth c G A cc nL own) {n : Int32} {N : Nat} (hd : decode cc pc = .ok (.newarray .int, 2)) (harr : Cond.arrayClass .int ∈ hAll) (hn : ¬ n < 0) (hN : n.toNatClampNeg = N) (hb9 : N * 8 ≤ 536870912) (hcells : cells + 1 ≤ R.cells) (hslots : slots + N ≤ R.slots)
    (k : ∀ q : Nat, w q = none → h_G p l e R s m args below meth c G A nL Q (h_up w q (eI G N (fun _ => 0))) (cells + 1) (slots + N) (pc + 2) lv (.ref q :: st)) : h_G p l e R s m args below meth c G A nL Q w cells slots pc lv (.int n :: st) := by
  intro H locs ls hP hA hS hl h1
  refine va_newaK (atype := .int) C.1 C.2.1 (C.2.2.2.2.1 _ harr) rfl hd rfl hn hN (Nat.le_trans (Nat.mul_le_mul_left N (by decide)) hb9) hcells hslots rfl fun H1 cA e1 z1 o1 hAr hNm => ?_
  have hcA : cA = G.2.1 := by
    have h9 := (C.2.2.2.2.2.1.2 0 _ rfl).2
    exact Option.some.inj (hNm.symm.trans h9)
  subst hcA
  have hf : w H.size = none := by
    cases hx : w H.size with
    | none => rfl
    | some e => exact absurd (hP.lt hx) (Nat.lt_irrefl _)
  have hAz : A H.size := C.2.2.2.2.2.2.1 _ hS.1
  refine k H.size hf H1 locs ls ?_ (hA.up hAz) ⟨Nat.le_trans hS.1 (by omega), fun x h2 h3 => (o1 x (Nat.lt_of_lt_of_le h2 hS.1)).trans (hS.2.1 x h2 h3), hS.2.2⟩ hl h1
  intro b f hb
  by_cases hba : b = H.size
  · subst hba
    rw [h_up_s] at hb
    cases hb
    exact e1
  · rw [h_up_n hba] at hb
    exact (hP b f hb).kept (o1 b (hP.lt hb))
theorem g_newZ (C : h_C p l s m args meth c G A cc nL own) {n : Int32} {N : Nat} (hd : decode cc pc = .ok (.newarray .boolean, 2)) (harr : Cond.arrayClass .boolean ∈ hAll) (hn : ¬ n < 0) (hN : n.toNatClampNeg = N) (hb9 : N * 8 ≤ 536870912) (hcells : cells + 1 ≤ R.cells) (hslots : slots + N ≤ R.slots)
    (k : ∀ q : Nat, w q = none → h_G p l e R s m args below meth c G A nL Q (h_up w q (eZ G N (fun _ => 0))) (cells + 1) (slots + N) (pc + 2) lv (.ref q :: st)) : h_G p l e R s m args below meth c G A nL Q w cells slots pc lv (.int n :: st) := by
  intro H locs ls hP hA hS hl h1
  refine va_newaK (atype := .boolean) C.1 C.2.1 (C.2.2.2.2.1 _ harr) rfl hd rfl hn hN (Nat.le_trans (Nat.mul_le_mul_left N (by decide)) hb9) hcells hslots rfl fun H1 cA e1 z1 o1 hAr hNm => ?_
  have hcA : cA = G.2.2.1 := by
    have h9 := (C.2.2.2.2.2.1.2 1 _ rfl).2
    exact Option.some.inj (hNm.symm.trans h9)
  subst hcA
  have hf : w H.size = none := by
    cases hx : w H.size with
    | none => rfl
    | some e => exact absurd (hP.lt hx) (Nat.lt_irrefl _)
  have hAz : A H.size := C.2.2.2.2.2.2.1 _ hS.1
  refine k H.size hf H1 locs ls ?_ (hA.up hAz) ⟨Nat.le_trans hS.1 (by omega), fun x h2 h3 => (o1 x (Nat.lt_of_lt_of_le h2 hS.1)).trans (hS.2.1 x h2 h3), hS.2.2⟩ hl h1
  intro b f hb
  by_cases hba : b = H.size
  · subst hba
    rw [h_up_s] at hb
    cases hb
    exact e1
  · rw [h_up_n hba] at hb
    exact (hP b f hb).kept (o1 b (hP.lt hb))
theorem g_newJ (C : h_C p l s m args meth c G A cc nL own) {n : Int32} {N : Nat} (hd : decode cc pc = .ok (.newarray .long, 2)) (harr : Cond.arrayClass .long ∈ hAll) (hn : ¬ n < 0) (hN : n.toNatClampNeg = N) (hb9 : N * 8 ≤ 536870912) (hcells : cells + 1 ≤ R.cells) (hslots : slots + N ≤ R.slots)
    (k : ∀ q : Nat, w q = none → h_G p l e R s m args below meth c G A nL Q (h_up w q (eJ G N (fun _ => 0))) (cells + 1) (slots + N) (pc + 2) lv (.ref q :: st)) : h_G p l e R s m args below meth c G A nL Q w cells slots pc lv (.int n :: st) := by
  intro H locs ls hP hA hS hl h1
  refine va_newaK (atype := .long) C.1 C.2.1 (C.2.2.2.2.1 _ harr) rfl hd rfl hn hN (Nat.le_trans (Nat.mul_le_mul_left N (by decide)) hb9) hcells hslots rfl fun H1 cA e1 z1 o1 hAr hNm => ?_
  have hcA : cA = G.2.2.2.1 := by
    have h9 := (C.2.2.2.2.2.1.2 2 _ rfl).2
    exact Option.some.inj (hNm.symm.trans h9)
  subst hcA
  have hf : w H.size = none := by
    cases hx : w H.size with
    | none => rfl
    | some e => exact absurd (hP.lt hx) (Nat.lt_irrefl _)
  have hAz : A H.size := C.2.2.2.2.2.2.1 _ hS.1
  refine k H.size hf H1 locs ls ?_ (hA.up hAz) ⟨Nat.le_trans hS.1 (by omega), fun x h2 h3 => (o1 x (Nat.lt_of_lt_of_le h2 hS.1)).trans (hS.2.1 x h2 h3), hS.2.2⟩ hl h1
  intro b f hb
  by_cases hba : b = H.size
  · subst hba
    rw [h_up_s] at hb
    cases hb
    exact e1
  · rw [h_up_n hba] at hb
    exact (hP b f hb).kept (o1 b (hP.lt hb))
theorem g_newT (C : h_C p l s m args meth c G A cc nL own) {n : Int32} {N index : Nat} (hd : decode cc pc = .ok (.anewarray index, 3)) (hcl : Cond.classLink own index RX1 ∈ hAll) (hov : va_AO RX1 s) (hn : ¬ n < 0) (hN : n.toNatClampNeg = N) (hb9 : N * 4 ≤ 536870912) (hcells : cells + 1 ≤ R.cells) (hslots : slots + N ≤ R.slots)
    (k : ∀ q : Nat, w q = none → h_G p l e R s m args below meth c G A nL Q (h_up w q (eT G N (fun _ => none))) (cells + 1) (slots + N) (pc + 3) lv (.ref q :: st)) : h_G p l e R s m args below meth c G A nL Q w cells slots pc lv (.int n :: st) := by
  intro H locs ls hP hA hS hl h1
  subst hN
  refine W.anew C.1 C.2.1 C.2.2.2.1 (C.2.2.2.2.1 _ hcl) (va_AO.use hov) rfl hd rfl hn hb9 hcells hslots fun cA kA comp f1 f2 f3 f4 => ?_
  have hcA : cA = G.2.2.2.2 := by
    obtain ⟨_, _, _, _, _, h9⟩ := (C.2.2.2.2.2.1.2 3 _ rfl).2
    exact Option.some.inj (f1.symm.trans h9)
  subst hcA
  generalize hH1 : H.push ({ cls := G.2.2.2.2, slots := Array.replicate n.toNatClampNeg .null, vm := .none } : Cell) = H1
  have z1 : H1.size = H.size + 1 := by rw [← hH1, Array.size_push]
  have e1 : H1[H.size]? = some (arrV G.2.2.2.2 n.toNatClampNeg (fun _ => .null)) := by rw [← hH1, Array.getElem?_push_size, ← arrV_new]
  have o1 : ∀ q : Nat, q < H.size → H1[q]? = H[q]? := fun q hq => by rw [← hH1, Array.getElem?_push, if_neg (Nat.ne_of_lt hq)]
  have hf : w H.size = none := by
    cases hx : w H.size with
    | none => rfl
    | some e => exact absurd (hP.lt hx) (Nat.lt_irrefl _)
  have hAz : A H.size := C.2.2.2.2.2.2.1 _ hS.1
  refine k H.size hf H1 locs ls ?_ (hA.up hAz) ⟨Nat.le_trans hS.1 (by omega), fun x h2 h3 => (o1 x (Nat.lt_of_lt_of_le h2 hS.1)).trans (hS.2.1 x h2 h3), hS.2.2⟩ hl h1
  intro b f hb
  by_cases hba : b = H.size
  · subst hba
    rw [h_up_s] at hb
    cases hb
    show H1[H.size]? = some (vp_cell _ _)
    rw [vp_cell_q]
    exact e1
  · rw [h_up_n hba] at hb
    exact (hP b f hb).kept (o1 b (hP.lt hb))
theorem g_objInit (C : h_C p l s m args meth c G A cc nL own) {idx a : Nat} (hd : decode cc pc = .ok (.invokespecial idx, 3)) (hlk : Cond.methodLink own idx objectInit ∈ hAll) (hfr : 1 ≤ R.frames) (hlo : (st.map fun v => v.category).sum + 12 ≤ R.locals) (k : h_G p l e R s m args below meth c G A nL Q w cells slots (pc + 3) lv st) : h_G p l e R s m args below meth c G A nL Q w cells slots pc lv (.ref a :: st) := by
  intro H locs ls hP hA hS hl h1
  have hts := C.2.2.2.2.1
  refine W.objInit C.1 C.2.1 C.2.2.2.1 (hts _ hlk) (hts _ ki_object) (hts _ kc_object) rfl (hl.1.trans C.2.2.1.symm) rfl hd hfr ?_ (k H locs ls hP hA hS hl h1)
  have hm : (F0 m pc ls (.ref a :: st)).monitorRoom = 0 := rfl
  rw [hm]
  omega
end HK
