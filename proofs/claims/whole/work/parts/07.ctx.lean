/-! ===== Contexts: which contexts are over which, a mask a context ===== -/
theorem bI_z {b : Bool} : bI b = 0 ↔ b = false := by cases b <;> simp [bI]
theorem bI_nz {b : Bool} : ¬ bI b = 0 ↔ b = true := by cases b <;> simp [bI]
theorem h_up_self {w : hW} {a : Nat} {e : va_E} (h : w a = some e) : h_up w a e = w := by
  funext q
  by_cases hq : q = a
  · rw [hq, h_up_s, h]
  · exact h_up_n hq
def isCtx (d : Int32) : Bool := !decide (d < 0) && decide (d < 16)
theorem isCtx_nI {x : Nat} (h : x < 16) : isCtx (nI x) = true := by
  have h1 : ¬ nI x < 0 := nI_pos (by omega)
  have h2 : nI x < nI 16 := nI_lt h (by omega)
  have h3 : nI x < 16 := h2
  simp [isCtx, h1, h3]
theorem isCtx_in {d : Int32} (h : isCtx d = true) : vp_in d 16 := by
  simp only [isCtx, Bool.and_eq_true, Bool.not_eq_true', decide_eq_false_iff_not, decide_eq_true_eq] at h
  rw [vp_in_iff]
  have h1 := h.1
  have h2 := h.2
  rw [Int32.lt_iff_toInt_lt] at h1 h2
  simp at h1 h2
  omega
abbrev hCx (G : hD) (cx un : Nat) (f : Nat → Int32) (w : hW) : Prop := w cx = some (eO 0 [.ref un]) ∧ w un = some (eI G 16 f)

set_option maxHeartbeats 4000000 in
set_option maxRecDepth 100000 in
theorem c_X0_isContext (l : Launch) (G : hD) (w : hW) (d : Int32) : h_Met l yX0_isContext (Cond.code yX0_isContext cX0_isContext 1 (some .boolean)) { frames := 0, cells := 0, slots := 0, locals := 0 } G [.int d] w (fun v w' => v = some (.int (bI (isCtx d))) ∧ w' = w) noX := by
  refine h_met RX0 rfl (by decide) (Nat.le_of_ble_eq_true rfl) (cat_c (by first | rfl | exact rf_cat _) cat_n) ?_
  intro p e s m below meth c A C hnt hr hnm
  refine g_iload_n C dX0_isContext_0 rfl rfl ?_
  refine g_if_lt C 14 dX0_isContext_1 (by decide) (fun c1 => ?_) (fun c1 => ?_)
  · refine g_iconst C (v := 0) dX0_isContext_14 (by decide) ?_
    exact g_zret C hr rfl dX0_isContext_15 (by decide) (by decide) ⟨by simp [isCtx, bI, c1], rfl⟩
  · refine g_iload_n C dX0_isContext_4 rfl rfl ?_
    refine g_bipush C (v := 16) dX0_isContext_5 (by decide) ?_
    refine g_icmp_ge C 14 dX0_isContext_7 (by decide) (fun c7 => ?_) (fun c7 => ?_)
    · have c7 := Int32.not_lt.mpr c7
      refine g_iconst C (v := 0) dX0_isContext_14 (by decide) ?_
      exact g_zret C hr rfl dX0_isContext_15 (by decide) (by decide) ⟨by simp [isCtx, bI, c1, c7], rfl⟩
    · have c7 := Int32.not_le.mp c7
      refine g_iconst C (v := 1) dX0_isContext_10 (by decide) ?_
      refine g_goto C 15 dX0_isContext_11 (by decide) ?_
      exact g_zret C hr rfl dX0_isContext_15 (by decide) (by decide) ⟨by simp [isCtx, bI, c1, c7], rfl⟩

set_option maxHeartbeats 4000000 in
set_option maxRecDepth 100000 in
theorem c_X0_isOver (l : Launch) (G : hD) (w : hW) (cx un : Nat) (f : Nat → Int32) (hcx : w cx = some (eO 0 [.ref un])) (hun : w un = some (eI G 16 f)) (x y : Int32) : h_Met l yX0_isOver (Cond.code yX0_isOver cX0_isOver 3 (some .boolean)) { frames := 1, cells := 0, slots := 0, locals := 20 } G [.ref cx, .int x, .int y] w (fun v w' => v = some (.int (bI (isCtx x && kb (f x.toNatClampNeg) y))) ∧ w' = w) noX := by
  refine h_met RX0 rfl (by decide) (Nat.le_of_ble_eq_true rfl) (cat_c (by first | rfl | exact rf_cat _) (cat_c (by first | rfl | exact rf_cat _) (cat_c (by first | rfl | exact rf_cat _) cat_n))) ?_
  intro p e s m below meth c A C hnt hr hnm
  refine g_iload_n C dX0_isOver_0 rfl rfl ?_
  refine g_callSn C _ dX0_isOver_1 (c_X0_isContext l G _ _) kmX0_15 ks_X0_isContext kn_X0 kc_X0_isContext hy_X0_isContext ⟨by decide, by decide⟩ rfl (Nat.le_of_ble_eq_true rfl) ⟨by decide, by decide⟩ (fun v w1 hp => ?_)
  obtain ⟨rfl, hw1⟩ := hp
  have hw1 := hw1.symm
  subst hw1
  refine g_if_eq C 25 dX0_isOver_4 (by decide) (fun c4 => ?_) (fun c4 => ?_)
  · have c4 := bI_z.mp c4
    refine g_iconst C (v := 0) dX0_isOver_25 (by decide) ?_
    exact g_zret C hr rfl dX0_isOver_26 (by decide) (by decide) ⟨by simp [kb, bI, c4], rfl⟩
  · have c4 := bI_nz.mp c4
    first | refine g_aload_n C dX0_isOver_7 rfl rfl ?_ | refine g_aload_nN C dX0_isOver_7 rfl rfl ?_ | refine g_aload_nq C dX0_isOver_7 rfl rfl ?_
    refine g_get C dX0_isOver_8 hcx rfl kw_X0 0 (by decide) kfX0_9 rfl rfl ?_
    refine g_iload_n C dX0_isOver_11 rfl rfl ?_
    refine g_iald C dX0_isOver_12 hun (isCtx_in c4) ?_
    refine g_iload_n C dX0_isOver_13 rfl rfl ?_
    refine g_ishr C dX0_isOver_14 ?_
    refine g_iconst C (v := 1) dX0_isOver_15 (by decide) ?_
    refine g_iand C dX0_isOver_16 ?_
    refine g_iconst C (v := 1) dX0_isOver_17 (by decide) ?_
    refine g_icmp_ne C 25 dX0_isOver_18 (by decide) (fun c18 => ?_) (fun c18 => ?_)
    · refine g_iconst C (v := 0) dX0_isOver_25 (by decide) ?_
      exact g_zret C hr rfl dX0_isOver_26 (by decide) (by decide) ⟨by simp [kb, bI, c4, c18], rfl⟩
    · refine g_iconst C (v := 1) dX0_isOver_21 (by decide) ?_
      refine g_goto C 26 dX0_isOver_22 (by decide) ?_
      exact g_zret C hr rfl dX0_isOver_26 (by decide) (by decide) ⟨by simp [kb, bI, c4, c18], rfl⟩

set_option maxHeartbeats 4000000 in
set_option maxRecDepth 100000 in
theorem c_X0_clear (l : Launch) (G : hD) (w : hW) (cx un : Nat) (f : Nat → Int32) (hcx : w cx = some (eO 0 [.ref un])) (hun : w un = some (eI G 16 f)) : h_Met l yX0_clear (Cond.code yX0_clear cX0_clear 2 none) { frames := 0, cells := 0, slots := 0, locals := 0 } G [.ref cx] w (fun v w' => v = none ∧ ∃ g : Nat → Int32, (∀ j, j < 16 → g j = 0) ∧ w' = h_up w un (eI G 16 g)) noX := by
  refine h_met RX0 rfl (by decide) (Nat.le_of_ble_eq_true rfl) (cat_c (by first | rfl | exact rf_cat _) cat_n) ?_
  intro p e s m below meth c A C hnt hr hnm
  have hne : cx ≠ un := fun h => by rw [h, hun] at hcx; cases hcx
  refine g_iconst C (v := 0) dX0_clear_0 (by decide) ?_
  refine g_istore_n C dX0_clear_1 rfl (by decide) ?_
  refine g_w (h_up_self hun) ?_
  refine g_loop (σ := Nat × (Nat → Int32)) (fun x => x.1 ≤ 16 ∧ ∀ j, j < x.1 → x.2 j = 0) (fun x => 16 - x.1) (fun x => h_up w un (eI G 16 x.2)) (fun x => [(0, .ref cx), (1, .int (nI x.1))]) ?_ (0, f) ⟨Nat.zero_le _, fun j hj => absurd hj (Nat.not_lt_zero j)⟩
  rintro ⟨k, g⟩ ⟨hk, hg⟩ ih
  dsimp only at hk hg ih ⊢
  have hcx' : h_up w un (eI G 16 g) cx = some (eO 0 [.ref un]) := (h_up_n hne).trans hcx
  refine g_iload_n C dX0_clear_2 rfl rfl ?_
  first | refine g_aload_n C dX0_clear_3 rfl rfl ?_ | refine g_aload_nN C dX0_clear_3 rfl rfl ?_ | refine g_aload_nq C dX0_clear_3 rfl rfl ?_
  refine g_get C dX0_clear_4 hcx' rfl kw_X0 0 (by decide) kfX0_9 rfl rfl ?_
  refine g_alen C 0 dX0_clear_7 (h_up_s _ _ _) rfl rfl ?_
  refine g_icmp_ge C 24 dX0_clear_8 (by decide) (fun c8 => ?_) (fun c8 => ?_)
  · have hge : 16 ≤ k := (nI_leI (by omega) (by omega)).mp c8
    exact g_vret C hr dX0_clear_24 (by decide) (by decide) ⟨rfl, g, fun j hj => hg j (by omega), rfl⟩
  · have hlt : k < 16 := by
      have := mt (nI_leI (a := 16) (b := k) (by omega) (by omega)).mpr c8
      omega
    first | refine g_aload_n C dX0_clear_11 rfl rfl ?_ | refine g_aload_nN C dX0_clear_11 rfl rfl ?_ | refine g_aload_nq C dX0_clear_11 rfl rfl ?_
    refine g_get C dX0_clear_12 hcx' rfl kw_X0 0 (by decide) kfX0_9 rfl rfl ?_
    refine g_iload_n C dX0_clear_15 rfl rfl ?_
    refine g_iconst C (v := 0) dX0_clear_16 (by decide) ?_
    refine g_iastN C dX0_clear_17 (h_up_s _ _ _) hlt (by decide) ?_
    refine g_iinc C (v := nI (k + 1)) dX0_clear_18 rfl (nI_1 k) (by decide) ?_
    refine g_goto C 2 dX0_clear_21 (by decide) ?_
    rw [h_up_up]
    exact ih (k + 1, upd g k 0) ⟨by omega, fun j hj => by
        by_cases hjk : j = k
        · subst hjk; exact pk_us
        · show upd g k 0 j = 0
          rw [pk_un hjk]; exact hg j (Nat.lt_of_le_of_ne (Nat.le_of_lt_succ hj) hjk)⟩ (by omega)

/-- the masks behind a relation taken, up to place k -/
def tkF (f : Nat → Int32) (x : Nat) (g : Int32) (k : Nat) : Nat → Int32 := fun j => cond (decide (j < k) && (decide (j = x) || kb (f j) (nI x))) (f j ||| g) (f j)
theorem tkF_0 (f : Nat → Int32) (x : Nat) (g : Int32) : tkF f x g 0 = f := by funext j; simp [tkF]
theorem tkF_y {f : Nat → Int32} {x : Nat} {g : Int32} {k : Nat} (h : (decide (k = x) || kb (f k) (nI x)) = true) : upd (tkF f x g k) k (tkF f x g k k ||| g) = tkF f x g (k + 1) := by
  funext j
  by_cases hj : j = k
  · subst hj
    rw [pk_us]
    simp only [tkF, Nat.lt_irrefl, decide_false, Bool.false_and, cond_false, Nat.lt_succ_self, decide_true, Bool.true_and, h, cond_true]
  · rw [pk_un hj]
    have e : decide (j < k + 1) = decide (j < k) := by
      rw [decide_eq_decide]; omega
    simp only [tkF, e]
theorem tkF_n {f : Nat → Int32} {x : Nat} {g : Int32} {k : Nat} (h : (decide (k = x) || kb (f k) (nI x)) = false) : tkF f x g k = tkF f x g (k + 1) := by
  funext j
  by_cases hj : j = k
  · subst hj
    simp [tkF, h]
  · have e : decide (j < k + 1) = decide (j < k) := by
      rw [decide_eq_decide]; omega
    simp only [tkF, e]

theorem tkF_k (f : Nat → Int32) (x : Nat) (g : Int32) (k : Nat) : tkF f x g k k = f k := by simp [tkF]
theorem nI_nge {a b : Nat} (h : ¬ nI b ≤ nI a) (ha : a < 2 ^ 31) (hb : b < 2 ^ 31) : a < b := by
  have := mt (nI_leI (a := b) (b := a) hb ha).mpr h
  omega
set_option maxHeartbeats 4000000 in
set_option maxRecDepth 100000 in
theorem c_X0_take (l : Launch) (G : hD) (w : hW) (cx un : Nat) (f : Nat → Int32) (hcx : w cx = some (eO 0 [.ref un])) (hun : w un = some (eI G 16 f)) (x y : Nat) (hx : x < 16) (hy : y < 16) (hxy : x ≠ y) : h_Met l yX0_take (Cond.code yX0_take cX0_take 5 (some .boolean)) { frames := 2, cells := 0, slots := 0, locals := 42 } G [.ref cx, .int (nI x), .int (nI y)] w (fun v w' => (kb (f y) (nI x) = true ∧ v = some (.int 0) ∧ w' = w) ∨ (kb (f y) (nI x) = false ∧ v = some (.int 1) ∧ w' = h_up w un (eI G 16 (tkF f x (f y ||| ((1 : Int32) <<< (nI y &&& 31))) 16)))) noX := by
  refine h_met RX0 rfl (by decide) (Nat.le_of_ble_eq_true rfl) (cat_c (by first | rfl | exact rf_cat _) (cat_c (by first | rfl | exact rf_cat _) (cat_c (by first | rfl | exact rf_cat _) cat_n))) ?_
  intro p e s m below meth c A C hnt hr hnm
  have hne : cx ≠ un := fun h => by rw [h, hun] at hcx; cases hcx
  refine g_iload_n C dX0_take_0 rfl rfl ?_
  refine g_callSn C _ dX0_take_1 (c_X0_isContext l G _ _) kmX0_15 ks_X0_isContext kn_X0 kc_X0_isContext hy_X0_isContext ⟨by decide, by decide⟩ rfl (Nat.le_of_ble_eq_true rfl) ⟨by decide, by decide⟩ (fun v w1 hp => ?_)
  obtain ⟨rfl, hw1⟩ := hp
  have hw1 := hw1.symm
  subst hw1
  refine g_if_eq C 28 dX0_take_4 (by decide) (fun c4 => ?_) (fun c4 => ?_)
  · have c4 := bI_z.mp c4
    refine g_iconst C (v := 0) dX0_take_28 (by decide) ?_
    exact absurd c4 (by simp [isCtx_nI hx])
  · have c4 := bI_nz.mp c4
    refine g_iload_n C dX0_take_7 rfl rfl ?_
    refine g_callSn C _ dX0_take_8 (c_X0_isContext l G _ _) kmX0_15 ks_X0_isContext kn_X0 kc_X0_isContext hy_X0_isContext ⟨by decide, by decide⟩ rfl (Nat.le_of_ble_eq_true rfl) ⟨by decide, by decide⟩ (fun v w1 hp => ?_)
    obtain ⟨rfl, hw1⟩ := hp
    have hw1 := hw1.symm
    subst hw1
    refine g_if_eq C 28 dX0_take_11 (by decide) (fun c11 => ?_) (fun c11 => ?_)
    · have c11 := bI_z.mp c11
      refine g_iconst C (v := 0) dX0_take_28 (by decide) ?_
      exact absurd c11 (by simp [isCtx_nI hy])
    · have c11 := bI_nz.mp c11
      refine g_iload_n C dX0_take_14 rfl rfl ?_
      refine g_iload_n C dX0_take_15 rfl rfl ?_
      refine g_icmp_eq C 28 dX0_take_16 (by decide) (fun c16 => ?_) (fun c16 => ?_)
      · refine g_iconst C (v := 0) dX0_take_28 (by decide) ?_
        exact absurd ((nI_eq (by omega) (by omega)).mp c16) hxy
      · first | refine g_aload_n C dX0_take_19 rfl rfl ?_ | refine g_aload_nN C dX0_take_19 rfl rfl ?_ | refine g_aload_nq C dX0_take_19 rfl rfl ?_
        refine g_iload_n C dX0_take_20 rfl rfl ?_
        refine g_iload_n C dX0_take_21 rfl rfl ?_
        refine g_callVn C _ dX0_take_22 (c_X0_isOver l G _ _ _ _ hcx hun _ _) kmX0_19 ki_X0_isOver kv_X0_isOver kn_X0 kc_X0_isOver hy_X0_isOver ⟨by decide, by decide⟩ hcx rfl rfl (Nat.le_of_ble_eq_true rfl) ⟨by decide, by decide⟩ (fun v w1 hp => ?_)
        obtain ⟨rfl, hw1⟩ := hp
        have hw1 := hw1.symm
        subst hw1
        refine g_if_eq C 30 dX0_take_25 (by decide) (fun c25 => ?_) (fun c25 => ?_)
        · have c25 := bI_z.mp c25
          first | refine g_aload_n C dX0_take_30 rfl rfl ?_ | refine g_aload_nN C dX0_take_30 rfl rfl ?_ | refine g_aload_nq C dX0_take_30 rfl rfl ?_
          refine g_get C dX0_take_31 hcx rfl kw_X0 0 (by decide) kfX0_9 rfl rfl ?_
          refine g_iload_n C dX0_take_34 rfl rfl ?_
          refine g_ialdN C dX0_take_35 hun hy (by decide) ?_
          refine g_iconst C (v := 1) dX0_take_36 (by decide) ?_
          refine g_iload_n C dX0_take_37 rfl rfl ?_
          refine g_ishl C dX0_take_38 ?_
          refine g_ior C dX0_take_39 ?_
          refine g_istore_n C dX0_take_40 rfl (by decide) ?_
          refine g_iconst C (v := 0) dX0_take_41 (by decide) ?_
          refine g_istore C dX0_take_42 (by decide) ?_
          have hno : kb (f y) (nI x) = false := by simpa [isCtx_nI hy, nI_clamp (n := y) (by omega)] using c25
          refine g_w ((congrArg (fun z => h_up w un (eI G 16 z)) (tkF_0 f x (f y ||| ((1 : Int32) <<< (nI y &&& 31))))).trans (h_up_self hun)) ?_
          refine g_loop (σ := Nat) (fun k => k ≤ 16) (fun k => 16 - k) (fun k => h_up w un (eI G 16 (tkF f x (f y ||| ((1 : Int32) <<< (nI y &&& 31))) k))) (fun k => [(0, .ref cx), (1, .int (nI x)), (2, .int (nI y)), (3, .int (f y ||| ((1 : Int32) <<< (nI y &&& 31)))), (4, .int (nI k))]) ?_ 0 (Nat.zero_le _)
          intro k hk ih
          have hcx' : h_up w un (eI G 16 (tkF f x (f y ||| ((1 : Int32) <<< (nI y &&& 31))) k)) cx = some (eO 0 [.ref un]) := (h_up_n hne).trans hcx
          refine g_iload C dX0_take_44 rfl ?_
          first | refine g_aload_n C dX0_take_46 rfl rfl ?_ | refine g_aload_nN C dX0_take_46 rfl rfl ?_ | refine g_aload_nq C dX0_take_46 rfl rfl ?_
          refine g_get C dX0_take_47 hcx' rfl kw_X0 0 (by decide) kfX0_9 rfl rfl ?_
          refine g_alen C 0 dX0_take_50 (h_up_s _ _ _) rfl rfl ?_
          refine g_icmp_ge C 87 dX0_take_51 (by decide) (fun c51 => ?_) (fun c51 => ?_)
          · have hge : 16 ≤ k := (nI_leI (by omega) (by omega)).mp c51
            refine g_iconst C (v := 1) dX0_take_87 (by decide) ?_
            exact g_zret C hr rfl dX0_take_88 (by decide) (by decide) (Or.inr ⟨hno, rfl, by rw [show k = 16 by omega]⟩)
          · have hlt : k < 16 := nI_nge c51 (by omega) (by omega)
            refine g_iload C dX0_take_54 rfl ?_
            refine g_iload_n C dX0_take_56 rfl rfl ?_
            refine g_icmp_eq C 70 dX0_take_57 (by decide) (fun c57 => ?_) (fun c57 => ?_)
            · have c57 := (nI_eq (by omega) (by omega)).mp c57
              first | refine g_aload_n C dX0_take_70 rfl rfl ?_ | refine g_aload_nN C dX0_take_70 rfl rfl ?_ | refine g_aload_nq C dX0_take_70 rfl rfl ?_
              refine g_get C dX0_take_71 hcx' rfl kw_X0 0 (by decide) kfX0_9 rfl rfl ?_
              refine g_iload C dX0_take_74 rfl ?_
              refine g_dup2 C dX0_take_76 rfl rfl ?_
              refine g_ialdN C dX0_take_77 (h_up_s _ _ _) hlt (by decide) ?_
              refine g_iload_n C dX0_take_78 rfl rfl ?_
              refine g_ior C dX0_take_79 ?_
              refine g_iastN C dX0_take_80 (h_up_s _ _ _) hlt (by decide) ?_
              refine g_iinc C (v := nI (k + 1)) dX0_take_81 rfl (nI_1 k) (by decide) ?_
              refine g_goto C 44 dX0_take_84 (by decide) ?_
              rw [h_up_up, tkF_y (by simp [c57])]
              exact ih (k + 1) hlt (by omega)
            · have c57 := mt (nI_eq (a := k) (b := x) (by omega) (by omega)).mpr c57
              first | refine g_aload_n C dX0_take_60 rfl rfl ?_ | refine g_aload_nN C dX0_take_60 rfl rfl ?_ | refine g_aload_nq C dX0_take_60 rfl rfl ?_
              refine g_iload C dX0_take_61 rfl ?_
              refine g_iload_n C dX0_take_63 rfl rfl ?_
              refine g_callVn C _ dX0_take_64 (c_X0_isOver l G _ _ _ _ hcx' (h_up_s _ _ _) _ _) kmX0_19 ki_X0_isOver kv_X0_isOver kn_X0 kc_X0_isOver hy_X0_isOver ⟨by decide, by decide⟩ hcx' rfl rfl (Nat.le_of_ble_eq_true rfl) ⟨by decide, by decide⟩ (fun v w1 hp => ?_)
              obtain ⟨rfl, hw1⟩ := hp
              have hw1 := hw1.symm
              subst hw1
              refine g_if_eq C 81 dX0_take_67 (by decide) (fun c67 => ?_) (fun c67 => ?_)
              · have c67 := bI_z.mp c67
                refine g_iinc C (v := nI (k + 1)) dX0_take_81 rfl (nI_1 k) (by decide) ?_
                refine g_goto C 44 dX0_take_84 (by decide) ?_
                have h9 : kb (f k) (nI x) = false := by simpa [isCtx_nI hlt, nI_clamp (n := k) (by omega), tkF_k] using c67
                refine g_w (congrArg (fun z => h_up w un (eI G 16 z)) (tkF_n (by simp [h9, c57])).symm) ?_
                exact ih (k + 1) hlt (by omega)
              · have c67 := bI_nz.mp c67
                first | refine g_aload_n C dX0_take_70 rfl rfl ?_ | refine g_aload_nN C dX0_take_70 rfl rfl ?_ | refine g_aload_nq C dX0_take_70 rfl rfl ?_
                refine g_get C dX0_take_71 hcx' rfl kw_X0 0 (by decide) kfX0_9 rfl rfl ?_
                refine g_iload C dX0_take_74 rfl ?_
                refine g_dup2 C dX0_take_76 rfl rfl ?_
                refine g_ialdN C dX0_take_77 (h_up_s _ _ _) hlt (by decide) ?_
                refine g_iload_n C dX0_take_78 rfl rfl ?_
                refine g_ior C dX0_take_79 ?_
                refine g_iastN C dX0_take_80 (h_up_s _ _ _) hlt (by decide) ?_
                refine g_iinc C (v := nI (k + 1)) dX0_take_81 rfl (nI_1 k) (by decide) ?_
                refine g_goto C 44 dX0_take_84 (by decide) ?_
                have h9 : kb (f k) (nI x) = true := by simpa [isCtx_nI hlt, nI_clamp (n := k) (by omega), tkF_k] using c67
                rw [h_up_up, tkF_y (by simp [h9])]
                exact ih (k + 1) hlt (by omega)
        · have c25 := bI_nz.mp c25
          refine g_iconst C (v := 0) dX0_take_28 (by decide) ?_
          exact g_zret C hr rfl dX0_take_29 (by decide) (by decide) (Or.inl ⟨by simpa [isCtx_nI hy, nI_clamp (n := y) (by omega)] using c25, rfl, rfl⟩)

set_option maxHeartbeats 4000000 in
set_option maxRecDepth 100000 in
theorem c_X0_init (l : Launch) (G : hD) (w : hW) (cx : Nat) (o : Option Nat) (hcx : w cx = some (eO 0 [va_rf o])) : h_Met l yX0_init (Cond.code yX0_init cX0_init 1 none) { frames := 1, cells := 1, slots := 16, locals := 12 } G [.ref cx] w (fun v w' => v = none ∧ ∃ un, w un = none ∧ w' = h_up (h_up w un (eI G 16 (fun _ => 0))) cx (eO 0 [.ref un])) noX := by
  refine h_met RX0 rfl (by decide) (Nat.le_of_ble_eq_true rfl) (cat_c (by first | rfl | exact rf_cat _) cat_n) ?_
  intro p e s m below meth c A C hnt hr hnm
  first | refine g_aload_n C dX0_init_0 rfl rfl ?_ | refine g_aload_nN C dX0_init_0 rfl rfl ?_ | refine g_aload_nq C dX0_init_0 rfl rfl ?_
  refine g_objInit C dX0_init_1 kmX0_3 (by decide) (Nat.le_of_ble_eq_true rfl) ?_
  first | refine g_aload_n C dX0_init_4 rfl rfl ?_ | refine g_aload_nN C dX0_init_4 rfl rfl ?_ | refine g_aload_nq C dX0_init_4 rfl rfl ?_
  refine g_bipush C (v := 16) dX0_init_5 (by decide) ?_
  refine g_newI C (N := 16) dX0_init_7 ka_int (by decide) (by decide) (by decide) (by decide) (by decide) (fun un hun => ?_)
  have hne : cx ≠ un := fun h => by rw [h, hun] at hcx; cases hcx
  have hcx' : h_up w un (eI G 16 (fun _ => 0)) cx = some (eO 0 [va_rf o]) := (h_up_n hne).trans hcx
  refine g_putF C dX0_init_9 hcx' rfl kw_X0 tyX0 tyX0_ok nmX0 0 (by decide) kfX0_9 rfl rfl hnm rfl rfl rfl (Nat.le_of_ble_eq_true rfl) ?_
  exact g_vret C hr dX0_init_12 (by decide) (by decide) ⟨rfl, un, hun, rfl⟩

