/-! ===== loops; array rows whose place is a number ===== -/
section HL
variable {p : Program} {l : Launch} {e : Env} {R : Room} {s : State} {m : MethodId} {args : Array Value} {below : List Frame} {meth : Method} {c : Code} {Q : State → Prop}
variable {G : hD} {A : Nat → Prop} {nL : Nat} {w : hW} {cells slots pc : Nat} {lv : List (Nat × Value)} {st : List Value} {cc : ByteArray} {own : String}
/-- a loop by a measure: W and L are the world and the locals at its head -/
theorem g_loop {σ : Type} (I : σ → Prop) (μ : σ → Nat) (Wf : σ → hW) (Lf : σ → List (Nat × Value)) (step : ∀ x, I x → (∀ x', I x' → μ x' < μ x → h_G p l e R s m args below meth c G A nL Q (Wf x') cells slots pc (Lf x') st) → h_G p l e R s m args below meth c G A nL Q (Wf x) cells slots pc (Lf x) st) (x : σ) (hI : I x) : h_G p l e R s m args below meth c G A nL Q (Wf x) cells slots pc (Lf x) st := by
  have key : ∀ (n : Nat) (x : σ), μ x < n → I x → h_G p l e R s m args below meth c G A nL Q (Wf x) cells slots pc (Lf x) st := by
    intro n
    induction n with
    | zero => intro x h; omega
    | succ n ih => exact fun x h hI => step x hI (fun x' hI' hm => ih x' (by omega) hI')
  exact key _ x (Nat.lt_succ_self _) hI
theorem g_w {w1 : hW} (h : w1 = w) (k : h_G p l e R s m args below meth c G A nL Q w1 cells slots pc lv st) : h_G p l e R s m args below meth c G A nL Q w cells slots pc lv st := h ▸ k
theorem g_lv {lv1 : List (Nat × Value)} (h : lv1 = lv) (k : h_G p l e R s m args below meth c G A nL Q w cells slots pc lv1 st) : h_G p l e R s m args below meth c G A nL Q w cells slots pc lv st := h ▸ k
theorem g_ialdN (C : h_C p l s m args meth c G A cc nL own) {a n k0 : Nat} {f : Nat → Int32} (hd : decode cc pc = .ok (.iaload, 1)) (hw : w a = some (eI G n f)) (hk : k0 < n) (hn : n < 2 ^ 31) (k : h_G p l e R s m args below meth c G A nL Q w cells slots (pc + 1) lv (.int (f k0) :: st)) : h_G p l e R s m args below meth c G A nL Q w cells slots pc lv (.int (nI k0) :: .ref a :: st) := by
  refine g_iald C hd hw (vp_in_nI hk hn) ?_
  rw [nI_clamp (by omega)]
  exact k
theorem g_zaldN (C : h_C p l s m args meth c G A cc nL own) {a n k0 : Nat} {f : Nat → Int32} (hd : decode cc pc = .ok (.baload, 1)) (hw : w a = some (eZ G n f)) (hk : k0 < n) (hn : n < 2 ^ 31) (k : h_G p l e R s m args below meth c G A nL Q w cells slots (pc + 1) lv (.int (f k0) :: st)) : h_G p l e R s m args below meth c G A nL Q w cells slots pc lv (.int (nI k0) :: .ref a :: st) := by
  refine g_zald C hd hw (vp_in_nI hk hn) ?_
  rw [nI_clamp (by omega)]
  exact k
theorem g_laldN (C : h_C p l s m args meth c G A cc nL own) {a n k0 : Nat} {f : Nat → Int64} (hd : decode cc pc = .ok (.laload, 1)) (hw : w a = some (eJ G n f)) (hk : k0 < n) (hn : n < 2 ^ 31) (k : h_G p l e R s m args below meth c G A nL Q w cells slots (pc + 1) lv (.long (f k0) :: st)) : h_G p l e R s m args below meth c G A nL Q w cells slots pc lv (.int (nI k0) :: .ref a :: st) := by
  refine g_lald C hd hw (vp_in_nI hk hn) ?_
  rw [nI_clamp (by omega)]
  exact k
theorem g_aldqN (C : h_C p l s m args meth c G A cc nL own) {a n k0 : Nat} {f : Nat → Option Nat} (hd : decode cc pc = .ok (.aaload, 1)) (hw : w a = some (eT G n f)) (hk : k0 < n) (hn : n < 2 ^ 31) (k : h_G p l e R s m args below meth c G A nL Q w cells slots (pc + 1) lv (va_rf (f k0) :: st)) : h_G p l e R s m args below meth c G A nL Q w cells slots pc lv (.int (nI k0) :: .ref a :: st) := by
  refine g_aldq C hd hw (vp_in_nI hk hn) ?_
  rw [nI_clamp (by omega)]
  exact k
theorem g_iastN (C : h_C p l s m args meth c G A cc nL own) {a n k0 : Nat} {f : Nat → Int32} {x : Int32} (hd : decode cc pc = .ok (.iastore, 1)) (hw : w a = some (eI G n f)) (hk : k0 < n) (hn : n < 2 ^ 31) (k : h_G p l e R s m args below meth c G A nL Q (h_up w a (eI G n (upd f k0 x))) cells slots (pc + 1) lv st) : h_G p l e R s m args below meth c G A nL Q w cells slots pc lv (.int x :: .int (nI k0) :: .ref a :: st) := by
  refine g_iast C hd hw (vp_in_nI hk hn) ?_
  rw [nI_clamp (by omega)]
  exact k
theorem g_lastN (C : h_C p l s m args meth c G A cc nL own) {a n k0 : Nat} {f : Nat → Int64} {x : Int64} (hd : decode cc pc = .ok (.lastore, 1)) (hw : w a = some (eJ G n f)) (hk : k0 < n) (hn : n < 2 ^ 31) (k : h_G p l e R s m args below meth c G A nL Q (h_up w a (eJ G n (vp_updL f k0 x))) cells slots (pc + 1) lv st) : h_G p l e R s m args below meth c G A nL Q w cells slots pc lv (.long x :: .int (nI k0) :: .ref a :: st) := by
  refine g_last C hd hw (vp_in_nI hk hn) ?_
  rw [nI_clamp (by omega)]
  exact k
theorem nar_bI (b : Bool) : vp_nar .boolean (cond b 1 0) = cond b 1 0 := by cases b <;> rfl
theorem g_zastN (C : h_C p l s m args meth c G A cc nL own) {a n k0 : Nat} {f : Nat → Int32} {b : Bool} (hd : decode cc pc = .ok (.bastore, 1)) (hw : w a = some (eZ G n f)) (hk : k0 < n) (hn : n < 2 ^ 31) (k : h_G p l e R s m args below meth c G A nL Q (h_up w a (eZ G n (upd f k0 (cond b 1 0)))) cells slots (pc + 1) lv st) : h_G p l e R s m args below meth c G A nL Q w cells slots pc lv (.int (cond b 1 0) :: .int (nI k0) :: .ref a :: st) := by
  refine g_zast C hd hw (vp_in_nI hk hn) ?_
  rw [nI_clamp (by omega), nar_bI]
  exact k
theorem g_ifnullR (C : h_C p l s m args meth c G A cc nL own) {x : Nat} {off : Int} (hd : decode cc pc = .ok (.ifnull off, 3)) (k : h_G p l e R s m args below meth c G A nL Q w cells slots (pc + 3) lv st) : h_G p l e R s m args below meth c G A nL Q w cells slots pc lv (.ref x :: st) :=
  fun H locs ls hP hA hS hl h1 => lv_ifnull C.1 C.2.1 hd (k H locs ls hP hA hS hl h1)
theorem g_ifnullN (C : h_C p l s m args meth c G A cc nL own) {off : Int} (tgt : Nat) (hd : decode cc pc = .ok (.ifnull off, 3)) (ht : (pc : Int) + off = (tgt : Int)) (k : h_G p l e R s m args below meth c G A nL Q w cells slots tgt lv st) : h_G p l e R s m args below meth c G A nL Q w cells slots pc lv (.null :: st) :=
  fun H locs ls hP hA hS hl h1 => lv_ifnullN C.1 C.2.1 hd ht (k H locs ls hP hA hS hl h1)
theorem g_ifnonnullR (C : h_C p l s m args meth c G A cc nL own) {x : Nat} {off : Int} (tgt : Nat) (hd : decode cc pc = .ok (.ifnonnull off, 3)) (ht : (pc : Int) + off = (tgt : Int)) (k : h_G p l e R s m args below meth c G A nL Q w cells slots tgt lv st) : h_G p l e R s m args below meth c G A nL Q w cells slots pc lv (.ref x :: st) :=
  fun H locs ls hP hA hS hl h1 => lv_ifnonnull C.1 C.2.1 hd ht (k H locs ls hP hA hS hl h1)
theorem g_ifnonnullN (C : h_C p l s m args meth c G A cc nL own) {off : Int} (hd : decode cc pc = .ok (.ifnonnull off, 3)) (k : h_G p l e R s m args below meth c G A nL Q w cells slots (pc + 3) lv st) : h_G p l e R s m args below meth c G A nL Q w cells slots pc lv (.null :: st) :=
  fun H locs ls hP hA hS hl h1 => lv_ifnonnullN C.1 C.2.1 hd (k H locs ls hP hA hS hl h1)
theorem g_aload_nN (C : h_C p l s m args meth c G A cc nL own) {k0 : Fin 4} {i : Nat} (hd : decode cc pc = .ok (.aload_n k0, 1)) (hi : (k0 : Nat) = i) (hg : lvG lv i = some .null) (k : h_G p l e R s m args below meth c G A nL Q w cells slots (pc + 1) lv (.null :: st)) : h_G p l e R s m args below meth c G A nL Q w cells slots pc lv st :=
  fun H locs ls hP hA hS hl h1 => lv_aload_nN C.1 C.2.1 hd hi (lvG_has hl hg) (k H locs ls hP hA hS hl h1)
theorem g_aloadN (C : h_C p l s m args meth c G A cc nL own) {i : Nat} (hd : decode cc pc = .ok (.aload i, 2)) (hg : lvG lv i = some .null) (k : h_G p l e R s m args below meth c G A nL Q w cells slots (pc + 2) lv (.null :: st)) : h_G p l e R s m args below meth c G A nL Q w cells slots pc lv st :=
  fun H locs ls hP hA hS hl h1 => lv_aloadN C.1 C.2.1 hd (lvG_has hl hg) (k H locs ls hP hA hS hl h1)
theorem g_astore_nN (C : h_C p l s m args meth c G A cc nL own) {k0 : Fin 4} {i : Nat} (hd : decode cc pc = .ok (.astore_n k0, 1)) (hi : (k0 : Nat) = i) (hn : i < nL) (k : h_G p l e R s m args below meth c G A nL Q w cells slots (pc + 1) (lvS lv i .null) st) : h_G p l e R s m args below meth c G A nL Q w cells slots pc lv (.null :: st) :=
  fun H locs ls hP hA hS hl h1 => lv_astore_nN C.1 C.2.1 hd hi hl hn rfl fun ls' hl' => k H locs ls' hP hA hS (lvS_has hl' h1) (lvS_1 h1 rfl)
theorem g_astoreN (C : h_C p l s m args meth c G A cc nL own) {i : Nat} (hd : decode cc pc = .ok (.astore i, 2)) (hn : i < nL) (k : h_G p l e R s m args below meth c G A nL Q w cells slots (pc + 2) (lvS lv i .null) st) : h_G p l e R s m args below meth c G A nL Q w cells slots pc lv (.null :: st) :=
  fun H locs ls hP hA hS hl h1 => lv_astoreN C.1 C.2.1 hd hl hn rfl fun ls' hl' => k H locs ls' hP hA hS (lvS_has hl' h1) (lvS_1 h1 rfl)
/-- locals that are not used any more -/
theorem g_drop (l1 l2 : List (Nat × Value)) (h : l1 ++ l2 = lv) (k : h_G p l e R s m args below meth c G A nL Q w cells slots pc l1 st) : h_G p l e R s m args below meth c G A nL Q w cells slots pc lv st := fun H locs ls hP hA hS hl h1 => k H locs ls hP hA hS ⟨hl.1, hl.2.1, fun q hq => hl.2.2 q (by rw [← h]; exact List.mem_append_left _ hq)⟩ (fun q hq => h1 q (by rw [← h]; exact List.mem_append_left _ hq))
end HL
theorem hy_X0_init : yX0_init.cls ≠ "java/lang/invoke/MethodHandle" ∧ yX0_init.cls ≠ "java/lang/invoke/VarHandle" ∧ (parseMethodDescriptor yX0_init.desc).map (fun d => d.parameters.length) = some 0 := by decide +kernel
theorem hy_X0_clear : yX0_clear.cls ≠ "java/lang/invoke/MethodHandle" ∧ yX0_clear.cls ≠ "java/lang/invoke/VarHandle" ∧ (parseMethodDescriptor yX0_clear.desc).map (fun d => d.parameters.length) = some 0 := by decide +kernel
theorem hy_X0_isOver : yX0_isOver.cls ≠ "java/lang/invoke/MethodHandle" ∧ yX0_isOver.cls ≠ "java/lang/invoke/VarHandle" ∧ (parseMethodDescriptor yX0_isOver.desc).map (fun d => d.parameters.length) = some 2 := by decide +kernel
theorem hy_X0_take : yX0_take.cls ≠ "java/lang/invoke/MethodHandle" ∧ yX0_take.cls ≠ "java/lang/invoke/VarHandle" ∧ (parseMethodDescriptor yX0_take.desc).map (fun d => d.parameters.length) = some 2 := by decide +kernel
theorem hy_X0_isContext : yX0_isContext.cls ≠ "java/lang/invoke/MethodHandle" ∧ yX0_isContext.cls ≠ "java/lang/invoke/VarHandle" ∧ (parseMethodDescriptor yX0_isContext.desc).map (fun d => d.parameters.length) = some 1 := by decide +kernel
theorem hy_X1_init : yX1_init.cls ≠ "java/lang/invoke/MethodHandle" ∧ yX1_init.cls ≠ "java/lang/invoke/VarHandle" ∧ (parseMethodDescriptor yX1_init.desc).map (fun d => d.parameters.length) = some 6 := by decide +kernel
theorem hy_X1_isLaterThan : yX1_isLaterThan.cls ≠ "java/lang/invoke/MethodHandle" ∧ yX1_isLaterThan.cls ≠ "java/lang/invoke/VarHandle" ∧ (parseMethodDescriptor yX1_isLaterThan.desc).map (fun d => d.parameters.length) = some 1 := by decide +kernel
theorem hy_X1_isOfField : yX1_isOfField.cls ≠ "java/lang/invoke/MethodHandle" ∧ yX1_isOfField.cls ≠ "java/lang/invoke/VarHandle" ∧ (parseMethodDescriptor yX1_isOfField.desc).map (fun d => d.parameters.length) = some 2 := by decide +kernel
theorem hy_X1_isKnownAt : yX1_isKnownAt.cls ≠ "java/lang/invoke/MethodHandle" ∧ yX1_isKnownAt.cls ≠ "java/lang/invoke/VarHandle" ∧ (parseMethodDescriptor yX1_isKnownAt.desc).map (fun d => d.parameters.length) = some 1 := by decide +kernel
theorem hy_X1_isEndedAt : yX1_isEndedAt.cls ≠ "java/lang/invoke/MethodHandle" ∧ yX1_isEndedAt.cls ≠ "java/lang/invoke/VarHandle" ∧ (parseMethodDescriptor yX1_isEndedAt.desc).map (fun d => d.parameters.length) = some 1 := by decide +kernel
theorem hy_X1_endAt : yX1_endAt.cls ≠ "java/lang/invoke/MethodHandle" ∧ yX1_endAt.cls ≠ "java/lang/invoke/VarHandle" ∧ (parseMethodDescriptor yX1_endAt.desc).map (fun d => d.parameters.length) = some 1 := by decide +kernel
theorem hy_X1_pass : yX1_pass.cls ≠ "java/lang/invoke/MethodHandle" ∧ yX1_pass.cls ≠ "java/lang/invoke/VarHandle" ∧ (parseMethodDescriptor yX1_pass.desc).map (fun d => d.parameters.length) = some 2 := by decide +kernel
theorem hy_X1_isForgotten : yX1_isForgotten.cls ≠ "java/lang/invoke/MethodHandle" ∧ yX1_isForgotten.cls ≠ "java/lang/invoke/VarHandle" ∧ (parseMethodDescriptor yX1_isForgotten.desc).map (fun d => d.parameters.length) = some 0 := by decide +kernel
theorem hy_X1_forget : yX1_forget.cls ≠ "java/lang/invoke/MethodHandle" ∧ yX1_forget.cls ≠ "java/lang/invoke/VarHandle" ∧ (parseMethodDescriptor yX1_forget.desc).map (fun d => d.parameters.length) = some 0 := by decide +kernel
theorem hy_X2_init : yX2_init.cls ≠ "java/lang/invoke/MethodHandle" ∧ yX2_init.cls ≠ "java/lang/invoke/VarHandle" ∧ (parseMethodDescriptor yX2_init.desc).map (fun d => d.parameters.length) = some 0 := by decide +kernel
theorem hy_X2_tell : yX2_tell.cls ≠ "java/lang/invoke/MethodHandle" ∧ yX2_tell.cls ≠ "java/lang/invoke/VarHandle" ∧ (parseMethodDescriptor yX2_tell.desc).map (fun d => d.parameters.length) = some 4 := by decide +kernel
theorem hy_X2_insert : yX2_insert.cls ≠ "java/lang/invoke/MethodHandle" ∧ yX2_insert.cls ≠ "java/lang/invoke/VarHandle" ∧ (parseMethodDescriptor yX2_insert.desc).map (fun d => d.parameters.length) = some 4 := by decide +kernel
theorem hy_X2_remove : yX2_remove.cls ≠ "java/lang/invoke/MethodHandle" ∧ yX2_remove.cls ≠ "java/lang/invoke/VarHandle" ∧ (parseMethodDescriptor yX2_remove.desc).map (fun d => d.parameters.length) = some 2 := by decide +kernel
theorem hy_X2_relate : yX2_relate.cls ≠ "java/lang/invoke/MethodHandle" ∧ yX2_relate.cls ≠ "java/lang/invoke/VarHandle" ∧ (parseMethodDescriptor yX2_relate.desc).map (fun d => d.parameters.length) = some 3 := by decide +kernel
theorem hy_X2_drop : yX2_drop.cls ≠ "java/lang/invoke/MethodHandle" ∧ yX2_drop.cls ≠ "java/lang/invoke/VarHandle" ∧ (parseMethodDescriptor yX2_drop.desc).map (fun d => d.parameters.length) = some 2 := by decide +kernel
theorem hy_X2_join : yX2_join.cls ≠ "java/lang/invoke/MethodHandle" ∧ yX2_join.cls ≠ "java/lang/invoke/VarHandle" ∧ (parseMethodDescriptor yX2_join.desc).map (fun d => d.parameters.length) = some 2 := by decide +kernel
theorem hy_X2_number : yX2_number.cls ≠ "java/lang/invoke/MethodHandle" ∧ yX2_number.cls ≠ "java/lang/invoke/VarHandle" ∧ (parseMethodDescriptor yX2_number.desc).map (fun d => d.parameters.length) = some 1 := by decide +kernel
theorem hy_X2_at : yX2_at.cls ≠ "java/lang/invoke/MethodHandle" ∧ yX2_at.cls ≠ "java/lang/invoke/VarHandle" ∧ (parseMethodDescriptor yX2_at.desc).map (fun d => d.parameters.length) = some 4 := by decide +kernel
theorem hy_X2_place : yX2_place.cls ≠ "java/lang/invoke/MethodHandle" ∧ yX2_place.cls ≠ "java/lang/invoke/VarHandle" ∧ (parseMethodDescriptor yX2_place.desc).map (fun d => d.parameters.length) = some 3 := by decide +kernel
theorem hy_X2_order : yX2_order.cls ≠ "java/lang/invoke/MethodHandle" ∧ yX2_order.cls ≠ "java/lang/invoke/VarHandle" ∧ (parseMethodDescriptor yX2_order.desc).map (fun d => d.parameters.length) = some 3 := by decide +kernel
theorem hy_X2_open : yX2_open.cls ≠ "java/lang/invoke/MethodHandle" ∧ yX2_open.cls ≠ "java/lang/invoke/VarHandle" ∧ (parseMethodDescriptor yX2_open.desc).map (fun d => d.parameters.length) = some 2 := by decide +kernel
theorem hy_X2_knows : yX2_knows.cls ≠ "java/lang/invoke/MethodHandle" ∧ yX2_knows.cls ≠ "java/lang/invoke/VarHandle" ∧ (parseMethodDescriptor yX2_knows.desc).map (fun d => d.parameters.length) = some 2 := by decide +kernel
theorem hy_X2_equal : yX2_equal.cls ≠ "java/lang/invoke/MethodHandle" ∧ yX2_equal.cls ≠ "java/lang/invoke/VarHandle" ∧ (parseMethodDescriptor yX2_equal.desc).map (fun d => d.parameters.length) = some 2 := by decide +kernel
theorem hy_X2_compact : yX2_compact.cls ≠ "java/lang/invoke/MethodHandle" ∧ yX2_compact.cls ≠ "java/lang/invoke/VarHandle" ∧ (parseMethodDescriptor yX2_compact.desc).map (fun d => d.parameters.length) = some 0 := by decide +kernel
theorem hy_X2_about : yX2_about.cls ≠ "java/lang/invoke/MethodHandle" ∧ yX2_about.cls ≠ "java/lang/invoke/VarHandle" ∧ (parseMethodDescriptor yX2_about.desc).map (fun d => d.parameters.length) = some 3 := by decide +kernel
theorem hy_X2_count : yX2_count.cls ≠ "java/lang/invoke/MethodHandle" ∧ yX2_count.cls ≠ "java/lang/invoke/VarHandle" ∧ (parseMethodDescriptor yX2_count.desc).map (fun d => d.parameters.length) = some 1 := by decide +kernel
theorem hy_X2_requireDesk : yX2_requireDesk.cls ≠ "java/lang/invoke/MethodHandle" ∧ yX2_requireDesk.cls ≠ "java/lang/invoke/VarHandle" ∧ (parseMethodDescriptor yX2_requireDesk.desc).map (fun d => d.parameters.length) = some 1 := by decide +kernel
theorem hy_X2_requireThing : yX2_requireThing.cls ≠ "java/lang/invoke/MethodHandle" ∧ yX2_requireThing.cls ≠ "java/lang/invoke/VarHandle" ∧ (parseMethodDescriptor yX2_requireThing.desc).map (fun d => d.parameters.length) = some 1 := by decide +kernel
theorem hy_X2_requireField : yX2_requireField.cls ≠ "java/lang/invoke/MethodHandle" ∧ yX2_requireField.cls ≠ "java/lang/invoke/VarHandle" ∧ (parseMethodDescriptor yX2_requireField.desc).map (fun d => d.parameters.length) = some 2 := by decide +kernel
theorem hy_X2_requireContext : yX2_requireContext.cls ≠ "java/lang/invoke/MethodHandle" ∧ yX2_requireContext.cls ≠ "java/lang/invoke/VarHandle" ∧ (parseMethodDescriptor yX2_requireContext.desc).map (fun d => d.parameters.length) = some 1 := by decide +kernel
theorem hy_X2_requireOrdinal : yX2_requireOrdinal.cls ≠ "java/lang/invoke/MethodHandle" ∧ yX2_requireOrdinal.cls ≠ "java/lang/invoke/VarHandle" ∧ (parseMethodDescriptor yX2_requireOrdinal.desc).map (fun d => d.parameters.length) = some 1 := by decide +kernel
theorem hy_X2_requireValue : yX2_requireValue.cls ≠ "java/lang/invoke/MethodHandle" ∧ yX2_requireValue.cls ≠ "java/lang/invoke/VarHandle" ∧ (parseMethodDescriptor yX2_requireValue.desc).map (fun d => d.parameters.length) = some 2 := by decide +kernel
theorem hy_X2_findMade : yX2_findMade.cls ≠ "java/lang/invoke/MethodHandle" ∧ yX2_findMade.cls ≠ "java/lang/invoke/VarHandle" ∧ (parseMethodDescriptor yX2_findMade.desc).map (fun d => d.parameters.length) = some 1 := by decide +kernel
theorem hy_X2_findKnown : yX2_findKnown.cls ≠ "java/lang/invoke/MethodHandle" ∧ yX2_findKnown.cls ≠ "java/lang/invoke/VarHandle" ∧ (parseMethodDescriptor yX2_findKnown.desc).map (fun d => d.parameters.length) = some 2 := by decide +kernel
theorem hy_X2_enter : yX2_enter.cls ≠ "java/lang/invoke/MethodHandle" ∧ yX2_enter.cls ≠ "java/lang/invoke/VarHandle" ∧ (parseMethodDescriptor yX2_enter.desc).map (fun d => d.parameters.length) = some 4 := by decide +kernel
theorem hy_X2_end : yX2_end.cls ≠ "java/lang/invoke/MethodHandle" ∧ yX2_end.cls ≠ "java/lang/invoke/VarHandle" ∧ (parseMethodDescriptor yX2_end.desc).map (fun d => d.parameters.length) = some 4 := by decide +kernel
theorem hy_X2_greatestStamp : yX2_greatestStamp.cls ≠ "java/lang/invoke/MethodHandle" ∧ yX2_greatestStamp.cls ≠ "java/lang/invoke/VarHandle" ∧ (parseMethodDescriptor yX2_greatestStamp.desc).map (fun d => d.parameters.length) = some 1 := by decide +kernel
theorem hy_X2_putByRank : yX2_putByRank.cls ≠ "java/lang/invoke/MethodHandle" ∧ yX2_putByRank.cls ≠ "java/lang/invoke/VarHandle" ∧ (parseMethodDescriptor yX2_putByRank.desc).map (fun d => d.parameters.length) = some 1 := by decide +kernel
theorem hy_X2_putInRow : yX2_putInRow.cls ≠ "java/lang/invoke/MethodHandle" ∧ yX2_putInRow.cls ≠ "java/lang/invoke/VarHandle" ∧ (parseMethodDescriptor yX2_putInRow.desc).map (fun d => d.parameters.length) = some 3 := by decide +kernel
theorem hy_X2_findInRow : yX2_findInRow.cls ≠ "java/lang/invoke/MethodHandle" ∧ yX2_findInRow.cls ≠ "java/lang/invoke/VarHandle" ∧ (parseMethodDescriptor yX2_findInRow.desc).map (fun d => d.parameters.length) = some 3 := by decide +kernel
theorem hy_X2_latestValue : yX2_latestValue.cls ≠ "java/lang/invoke/MethodHandle" ∧ yX2_latestValue.cls ≠ "java/lang/invoke/VarHandle" ∧ (parseMethodDescriptor yX2_latestValue.desc).map (fun d => d.parameters.length) = some 2 := by decide +kernel
theorem hy_X2_sumOfValues : yX2_sumOfValues.cls ≠ "java/lang/invoke/MethodHandle" ∧ yX2_sumOfValues.cls ≠ "java/lang/invoke/VarHandle" ∧ (parseMethodDescriptor yX2_sumOfValues.desc).map (fun d => d.parameters.length) = some 2 := by decide +kernel
theorem hy_X2_memberOfUnion : yX2_memberOfUnion.cls ≠ "java/lang/invoke/MethodHandle" ∧ yX2_memberOfUnion.cls ≠ "java/lang/invoke/VarHandle" ∧ (parseMethodDescriptor yX2_memberOfUnion.desc).map (fun d => d.parameters.length) = some 3 := by decide +kernel
theorem hy_X2_takeRelations : yX2_takeRelations.cls ≠ "java/lang/invoke/MethodHandle" ∧ yX2_takeRelations.cls ≠ "java/lang/invoke/VarHandle" ∧ (parseMethodDescriptor yX2_takeRelations.desc).map (fun d => d.parameters.length) = some 1 := by decide +kernel
theorem hy_X2_isOutdone : yX2_isOutdone.cls ≠ "java/lang/invoke/MethodHandle" ∧ yX2_isOutdone.cls ≠ "java/lang/invoke/VarHandle" ∧ (parseMethodDescriptor yX2_isOutdone.desc).map (fun d => d.parameters.length) = some 1 := by decide +kernel
theorem hy_X2_isSharedLatest : yX2_isSharedLatest.cls ≠ "java/lang/invoke/MethodHandle" ∧ yX2_isSharedLatest.cls ≠ "java/lang/invoke/VarHandle" ∧ (parseMethodDescriptor yX2_isSharedLatest.desc).map (fun d => d.parameters.length) = some 1 := by decide +kernel
theorem hy_X2_countForgotten : yX2_countForgotten.cls ≠ "java/lang/invoke/MethodHandle" ∧ yX2_countForgotten.cls ≠ "java/lang/invoke/VarHandle" ∧ (parseMethodDescriptor yX2_countForgotten.desc).map (fun d => d.parameters.length) = some 0 := by decide +kernel
theorem hy_X2_countUnshared : yX2_countUnshared.cls ≠ "java/lang/invoke/MethodHandle" ∧ yX2_countUnshared.cls ≠ "java/lang/invoke/VarHandle" ∧ (parseMethodDescriptor yX2_countUnshared.desc).map (fun d => d.parameters.length) = some 0 := by decide +kernel
theorem hy_X3_init : yX3_init.cls ≠ "java/lang/invoke/MethodHandle" ∧ yX3_init.cls ≠ "java/lang/invoke/VarHandle" ∧ (parseMethodDescriptor yX3_init.desc).map (fun d => d.parameters.length) = some 0 := by decide +kernel
theorem hy_X3_thrown : yX3_thrown.cls ≠ "java/lang/invoke/MethodHandle" ∧ yX3_thrown.cls ≠ "java/lang/invoke/VarHandle" ∧ (parseMethodDescriptor yX3_thrown.desc).map (fun d => d.parameters.length) = some 0 := by decide +kernel
theorem hy_X3_goes : yX3_goes.cls ≠ "java/lang/invoke/MethodHandle" ∧ yX3_goes.cls ≠ "java/lang/invoke/VarHandle" ∧ (parseMethodDescriptor yX3_goes.desc).map (fun d => d.parameters.length) = some 3 := by decide +kernel
theorem hy_X3_within : yX3_within.cls ≠ "java/lang/invoke/MethodHandle" ∧ yX3_within.cls ≠ "java/lang/invoke/VarHandle" ∧ (parseMethodDescriptor yX3_within.desc).map (fun d => d.parameters.length) = some 3 := by decide +kernel
theorem hy_X3_isDesk : yX3_isDesk.cls ≠ "java/lang/invoke/MethodHandle" ∧ yX3_isDesk.cls ≠ "java/lang/invoke/VarHandle" ∧ (parseMethodDescriptor yX3_isDesk.desc).map (fun d => d.parameters.length) = some 1 := by decide +kernel
theorem hy_X3_isThing : yX3_isThing.cls ≠ "java/lang/invoke/MethodHandle" ∧ yX3_isThing.cls ≠ "java/lang/invoke/VarHandle" ∧ (parseMethodDescriptor yX3_isThing.desc).map (fun d => d.parameters.length) = some 1 := by decide +kernel
theorem hy_X3_knowsOf : yX3_knowsOf.cls ≠ "java/lang/invoke/MethodHandle" ∧ yX3_knowsOf.cls ≠ "java/lang/invoke/VarHandle" ∧ (parseMethodDescriptor yX3_knowsOf.desc).map (fun d => d.parameters.length) = some 2 := by decide +kernel
theorem hy_X3_earlier : yX3_earlier.cls ≠ "java/lang/invoke/MethodHandle" ∧ yX3_earlier.cls ≠ "java/lang/invoke/VarHandle" ∧ (parseMethodDescriptor yX3_earlier.desc).map (fun d => d.parameters.length) = some 2 := by decide +kernel
theorem hy_X3_make : yX3_make.cls ≠ "java/lang/invoke/MethodHandle" ∧ yX3_make.cls ≠ "java/lang/invoke/VarHandle" ∧ (parseMethodDescriptor yX3_make.desc).map (fun d => d.parameters.length) = some 5 := by decide +kernel
theorem hy_X3_tell : yX3_tell.cls ≠ "java/lang/invoke/MethodHandle" ∧ yX3_tell.cls ≠ "java/lang/invoke/VarHandle" ∧ (parseMethodDescriptor yX3_tell.desc).map (fun d => d.parameters.length) = some 4 := by decide +kernel
theorem hy_X3_insert : yX3_insert.cls ≠ "java/lang/invoke/MethodHandle" ∧ yX3_insert.cls ≠ "java/lang/invoke/VarHandle" ∧ (parseMethodDescriptor yX3_insert.desc).map (fun d => d.parameters.length) = some 4 := by decide +kernel
theorem hy_X3_remove : yX3_remove.cls ≠ "java/lang/invoke/MethodHandle" ∧ yX3_remove.cls ≠ "java/lang/invoke/VarHandle" ∧ (parseMethodDescriptor yX3_remove.desc).map (fun d => d.parameters.length) = some 2 := by decide +kernel
theorem hy_X3_relate : yX3_relate.cls ≠ "java/lang/invoke/MethodHandle" ∧ yX3_relate.cls ≠ "java/lang/invoke/VarHandle" ∧ (parseMethodDescriptor yX3_relate.desc).map (fun d => d.parameters.length) = some 3 := by decide +kernel
theorem hy_X3_drop : yX3_drop.cls ≠ "java/lang/invoke/MethodHandle" ∧ yX3_drop.cls ≠ "java/lang/invoke/VarHandle" ∧ (parseMethodDescriptor yX3_drop.desc).map (fun d => d.parameters.length) = some 2 := by decide +kernel
theorem hy_X3_join : yX3_join.cls ≠ "java/lang/invoke/MethodHandle" ∧ yX3_join.cls ≠ "java/lang/invoke/VarHandle" ∧ (parseMethodDescriptor yX3_join.desc).map (fun d => d.parameters.length) = some 2 := by decide +kernel
theorem hy_X3_number : yX3_number.cls ≠ "java/lang/invoke/MethodHandle" ∧ yX3_number.cls ≠ "java/lang/invoke/VarHandle" ∧ (parseMethodDescriptor yX3_number.desc).map (fun d => d.parameters.length) = some 1 := by decide +kernel
theorem hy_X3_isOf : yX3_isOf.cls ≠ "java/lang/invoke/MethodHandle" ∧ yX3_isOf.cls ≠ "java/lang/invoke/VarHandle" ∧ (parseMethodDescriptor yX3_isOf.desc).map (fun d => d.parameters.length) = some 4 := by decide +kernel
theorem hy_X3_latest : yX3_latest.cls ≠ "java/lang/invoke/MethodHandle" ∧ yX3_latest.cls ≠ "java/lang/invoke/VarHandle" ∧ (parseMethodDescriptor yX3_latest.desc).map (fun d => d.parameters.length) = some 2 := by decide +kernel
theorem hy_X3_sum : yX3_sum.cls ≠ "java/lang/invoke/MethodHandle" ∧ yX3_sum.cls ≠ "java/lang/invoke/VarHandle" ∧ (parseMethodDescriptor yX3_sum.desc).map (fun d => d.parameters.length) = some 2 := by decide +kernel
theorem hy_X3_union : yX3_union.cls ≠ "java/lang/invoke/MethodHandle" ∧ yX3_union.cls ≠ "java/lang/invoke/VarHandle" ∧ (parseMethodDescriptor yX3_union.desc).map (fun d => d.parameters.length) = some 3 := by decide +kernel
theorem hy_X3_line : yX3_line.cls ≠ "java/lang/invoke/MethodHandle" ∧ yX3_line.cls ≠ "java/lang/invoke/VarHandle" ∧ (parseMethodDescriptor yX3_line.desc).map (fun d => d.parameters.length) = some 2 := by decide +kernel
theorem hy_X3_isRemoved : yX3_isRemoved.cls ≠ "java/lang/invoke/MethodHandle" ∧ yX3_isRemoved.cls ≠ "java/lang/invoke/VarHandle" ∧ (parseMethodDescriptor yX3_isRemoved.desc).map (fun d => d.parameters.length) = some 2 := by decide +kernel
theorem hy_X3_standing : yX3_standing.cls ≠ "java/lang/invoke/MethodHandle" ∧ yX3_standing.cls ≠ "java/lang/invoke/VarHandle" ∧ (parseMethodDescriptor yX3_standing.desc).map (fun d => d.parameters.length) = some 3 := by decide +kernel
theorem hy_X3_at : yX3_at.cls ≠ "java/lang/invoke/MethodHandle" ∧ yX3_at.cls ≠ "java/lang/invoke/VarHandle" ∧ (parseMethodDescriptor yX3_at.desc).map (fun d => d.parameters.length) = some 4 := by decide +kernel
theorem hy_X3_place : yX3_place.cls ≠ "java/lang/invoke/MethodHandle" ∧ yX3_place.cls ≠ "java/lang/invoke/VarHandle" ∧ (parseMethodDescriptor yX3_place.desc).map (fun d => d.parameters.length) = some 3 := by decide +kernel
theorem hy_X3_isDropped : yX3_isDropped.cls ≠ "java/lang/invoke/MethodHandle" ∧ yX3_isDropped.cls ≠ "java/lang/invoke/VarHandle" ∧ (parseMethodDescriptor yX3_isDropped.desc).map (fun d => d.parameters.length) = some 2 := by decide +kernel
theorem hy_X3_settle : yX3_settle.cls ≠ "java/lang/invoke/MethodHandle" ∧ yX3_settle.cls ≠ "java/lang/invoke/VarHandle" ∧ (parseMethodDescriptor yX3_settle.desc).map (fun d => d.parameters.length) = some 1 := by decide +kernel
theorem hy_X3_take : yX3_take.cls ≠ "java/lang/invoke/MethodHandle" ∧ yX3_take.cls ≠ "java/lang/invoke/VarHandle" ∧ (parseMethodDescriptor yX3_take.desc).map (fun d => d.parameters.length) = some 1 := by decide +kernel
theorem hy_X3_order : yX3_order.cls ≠ "java/lang/invoke/MethodHandle" ∧ yX3_order.cls ≠ "java/lang/invoke/VarHandle" ∧ (parseMethodDescriptor yX3_order.desc).map (fun d => d.parameters.length) = some 3 := by decide +kernel
theorem hy_X3_open : yX3_open.cls ≠ "java/lang/invoke/MethodHandle" ∧ yX3_open.cls ≠ "java/lang/invoke/VarHandle" ∧ (parseMethodDescriptor yX3_open.desc).map (fun d => d.parameters.length) = some 2 := by decide +kernel
theorem hy_X3_knows : yX3_knows.cls ≠ "java/lang/invoke/MethodHandle" ∧ yX3_knows.cls ≠ "java/lang/invoke/VarHandle" ∧ (parseMethodDescriptor yX3_knows.desc).map (fun d => d.parameters.length) = some 2 := by decide +kernel
theorem hy_X3_equal : yX3_equal.cls ≠ "java/lang/invoke/MethodHandle" ∧ yX3_equal.cls ≠ "java/lang/invoke/VarHandle" ∧ (parseMethodDescriptor yX3_equal.desc).map (fun d => d.parameters.length) = some 2 := by decide +kernel
theorem hy_X3_isCommon : yX3_isCommon.cls ≠ "java/lang/invoke/MethodHandle" ∧ yX3_isCommon.cls ≠ "java/lang/invoke/VarHandle" ∧ (parseMethodDescriptor yX3_isCommon.desc).map (fun d => d.parameters.length) = some 1 := by decide +kernel
theorem hy_X3_isPast : yX3_isPast.cls ≠ "java/lang/invoke/MethodHandle" ∧ yX3_isPast.cls ≠ "java/lang/invoke/VarHandle" ∧ (parseMethodDescriptor yX3_isPast.desc).map (fun d => d.parameters.length) = some 1 := by decide +kernel
theorem hy_X3_compact : yX3_compact.cls ≠ "java/lang/invoke/MethodHandle" ∧ yX3_compact.cls ≠ "java/lang/invoke/VarHandle" ∧ (parseMethodDescriptor yX3_compact.desc).map (fun d => d.parameters.length) = some 0 := by decide +kernel
theorem hy_X3_about : yX3_about.cls ≠ "java/lang/invoke/MethodHandle" ∧ yX3_about.cls ≠ "java/lang/invoke/VarHandle" ∧ (parseMethodDescriptor yX3_about.desc).map (fun d => d.parameters.length) = some 3 := by decide +kernel
theorem hy_X3_count : yX3_count.cls ≠ "java/lang/invoke/MethodHandle" ∧ yX3_count.cls ≠ "java/lang/invoke/VarHandle" ∧ (parseMethodDescriptor yX3_count.desc).map (fun d => d.parameters.length) = some 1 := by decide +kernel
theorem hy_L_tell : yL_tell.cls ≠ "java/lang/invoke/MethodHandle" ∧ yL_tell.cls ≠ "java/lang/invoke/VarHandle" ∧ (parseMethodDescriptor yL_tell.desc).map (fun d => d.parameters.length) = some 6 := by decide +kernel
theorem hy_L_insert : yL_insert.cls ≠ "java/lang/invoke/MethodHandle" ∧ yL_insert.cls ≠ "java/lang/invoke/VarHandle" ∧ (parseMethodDescriptor yL_insert.desc).map (fun d => d.parameters.length) = some 6 := by decide +kernel
theorem hy_L_remove : yL_remove.cls ≠ "java/lang/invoke/MethodHandle" ∧ yL_remove.cls ≠ "java/lang/invoke/VarHandle" ∧ (parseMethodDescriptor yL_remove.desc).map (fun d => d.parameters.length) = some 4 := by decide +kernel
theorem hy_L_relate : yL_relate.cls ≠ "java/lang/invoke/MethodHandle" ∧ yL_relate.cls ≠ "java/lang/invoke/VarHandle" ∧ (parseMethodDescriptor yL_relate.desc).map (fun d => d.parameters.length) = some 5 := by decide +kernel
theorem hy_L_drop : yL_drop.cls ≠ "java/lang/invoke/MethodHandle" ∧ yL_drop.cls ≠ "java/lang/invoke/VarHandle" ∧ (parseMethodDescriptor yL_drop.desc).map (fun d => d.parameters.length) = some 4 := by decide +kernel
theorem hy_L_join : yL_join.cls ≠ "java/lang/invoke/MethodHandle" ∧ yL_join.cls ≠ "java/lang/invoke/VarHandle" ∧ (parseMethodDescriptor yL_join.desc).map (fun d => d.parameters.length) = some 4 := by decide +kernel
theorem hy_L_number : yL_number.cls ≠ "java/lang/invoke/MethodHandle" ∧ yL_number.cls ≠ "java/lang/invoke/VarHandle" ∧ (parseMethodDescriptor yL_number.desc).map (fun d => d.parameters.length) = some 3 := by decide +kernel
theorem hy_L_at : yL_at.cls ≠ "java/lang/invoke/MethodHandle" ∧ yL_at.cls ≠ "java/lang/invoke/VarHandle" ∧ (parseMethodDescriptor yL_at.desc).map (fun d => d.parameters.length) = some 6 := by decide +kernel
theorem hy_L_place : yL_place.cls ≠ "java/lang/invoke/MethodHandle" ∧ yL_place.cls ≠ "java/lang/invoke/VarHandle" ∧ (parseMethodDescriptor yL_place.desc).map (fun d => d.parameters.length) = some 5 := by decide +kernel
theorem hy_L_order : yL_order.cls ≠ "java/lang/invoke/MethodHandle" ∧ yL_order.cls ≠ "java/lang/invoke/VarHandle" ∧ (parseMethodDescriptor yL_order.desc).map (fun d => d.parameters.length) = some 5 := by decide +kernel
theorem hy_L_open : yL_open.cls ≠ "java/lang/invoke/MethodHandle" ∧ yL_open.cls ≠ "java/lang/invoke/VarHandle" ∧ (parseMethodDescriptor yL_open.desc).map (fun d => d.parameters.length) = some 4 := by decide +kernel
theorem hy_L_knows : yL_knows.cls ≠ "java/lang/invoke/MethodHandle" ∧ yL_knows.cls ≠ "java/lang/invoke/VarHandle" ∧ (parseMethodDescriptor yL_knows.desc).map (fun d => d.parameters.length) = some 4 := by decide +kernel
theorem hy_L_equal : yL_equal.cls ≠ "java/lang/invoke/MethodHandle" ∧ yL_equal.cls ≠ "java/lang/invoke/VarHandle" ∧ (parseMethodDescriptor yL_equal.desc).map (fun d => d.parameters.length) = some 4 := by decide +kernel
theorem hy_L_about : yL_about.cls ≠ "java/lang/invoke/MethodHandle" ∧ yL_about.cls ≠ "java/lang/invoke/VarHandle" ∧ (parseMethodDescriptor yL_about.desc).map (fun d => d.parameters.length) = some 5 := by decide +kernel
theorem hy_L_count : yL_count.cls ≠ "java/lang/invoke/MethodHandle" ∧ yL_count.cls ≠ "java/lang/invoke/VarHandle" ∧ (parseMethodDescriptor yL_count.desc).map (fun d => d.parameters.length) = some 3 := by decide +kernel
theorem hy_L_law : yL_law.cls ≠ "java/lang/invoke/MethodHandle" ∧ yL_law.cls ≠ "java/lang/invoke/VarHandle" ∧ (parseMethodDescriptor yL_law.desc).map (fun d => d.parameters.length) = some 1 := by decide +kernel
