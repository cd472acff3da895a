/-! ===== the model's reading loops ===== -/
def lsS (I : Nat → Nat → Int32) (B : Nat → Nat → Bool) (d : Nat) (th : Int32) (acc : Option Nat) (t : Nat) : Option Nat := cond (isOfB I B d t th 0 && (match acc with | none => true | some b => earlB I b t)) (some t) acc
theorem lsS_lt {I : Nat → Nat → Int32} {B : Nat → Nat → Bool} {d : Nat} {th : Int32} : ∀ {k b : Nat}, iter (lsS I B d th) none k = some b → b < k
  | 0, b, h => by cases h
  | k + 1, b, h => by
    have h : cond (isOfB I B d k th 0 && (match iter (lsS I B d th) none k with | none => true | some b => earlB I b k)) (some k) (iter (lsS I B d th) none k) = some b := h
    cases hc : (isOfB I B d k th 0 && (match iter (lsS I B d th) none k with | none => true | some b => earlB I b k)) with
    | true => rw [hc] at h; cases h; exact Nat.lt_succ_self _
    | false => rw [hc] at h; exact Nat.lt_succ_of_lt (lsS_lt h)
def lsV (I : Nat → Nat → Int32) : Option Nat → Int32
  | none => -1
  | some b => I 4 b
def msS (I : Nat → Nat → Int32) (B : Nat → Nat → Bool) (d : Nat) (th : Int32) (acc : Int32) (t : Nat) : Int32 := cond (isOfB I B d t th 1) (acc + I 4 t) acc
def enS (I : Nat → Nat → Int32) (B : Nat → Nat → Bool) (d : Nat) (so x : Int32) (acc : Bool) (t : Nat) : Bool := acc || (B 7 (120 * d + t) && (decide (I 2 t = so) && decide (I 4 t = x)))
def cmS (B : Nat → Nat → Bool) (t : Nat) (acc : Bool) (d : Nat) : Bool := acc && B 7 (120 * d + t)
def cmB (B : Nat → Nat → Bool) (t : Nat) : Bool := iter (cmS B t) true 6
def paS (I : Nat → Nat → Int32) (B : Nat → Nat → Bool) (t : Nat) (acc : Bool) (k : Nat) : Bool := acc || (isOfB I B 0 k (I 3 t) 0 && (earlB I t k && cmB B k))
def paB (I : Nat → Nat → Int32) (B : Nat → Nat → Bool) (n t : Nat) : Bool := iter (paS I B t) false n && cmB B t
def hsS (I : Nat → Nat → Int32) (B : Nat → Nat → Bool) (d : Nat) (th : Int32) (v : Nat) (acc : Bool) (t : Nat) : Bool := acc || (isOfB I B d t th 2 && decide (I 4 t = nI v))
def hsB (I : Nat → Nat → Int32) (B : Nat → Nat → Bool) (n d : Nat) (th : Int32) (v : Nat) : Bool := iter (hsS I B d th v) false n
/-- the k-th value that P has, from v on, with m left -/
def unG (P : Nat → Bool) (k : Int32) : Nat → Nat → Int32 → Int32
  | 0, _, _ => -1
  | m + 1, v, b => cond (P v && decide (b = k)) (nI v) (unG P k m (v + 1) (cond (P v) (b + 1) b))

set_option maxHeartbeats 4000000 in
set_option maxRecDepth 100000 in
theorem c_X3_latest (l : Launch) (G : hD) (w : hW) (mo : Nat) (M : Nat → Nat) (n : Nat) (I : Nat → Nat → Int32) (B : Nat → Nat → Bool) (thr ord mny : Int32) (hR : MR G mo M n I B thr ord mny w) (d : Nat) (th : Int32) (hd : d < 6) : h_Met l yX3_latest (Cond.code yX3_latest cX3_latest 5 (some .int)) { frames := 1, cells := 0, slots := 0, locals := 24 } G [.ref mo, .int (nI d), .int th] w (fun v w' => v = some (.int (lsV I (iter (lsS I B d th) none n))) ∧ w' = w) noX := by
  refine h_met RX3 rfl (by decide) (Nat.le_of_ble_eq_true rfl) (cat_c (by first | rfl | exact rf_cat _) (cat_c (by first | rfl | exact rf_cat _) (cat_c (by first | rfl | exact rf_cat _) cat_n))) ?_
  intro p e s m below meth c A C hnt hr hnm
  obtain ⟨hm, r0, r1, r2, r3, r4, r5, r6, r7, r8, r9, r10, r11, r12, hinj, hn⟩ := id hR
  refine g_iconst C (v := (-1)) dX3_latest_0 (by decide) ?_
  refine g_istore_n C dX3_latest_1 rfl (by decide) ?_
  refine g_iconst C (v := 0) dX3_latest_2 (by decide) ?_
  refine g_istore C dX3_latest_3 (by decide) ?_
  refine g_loop (σ := Nat) (fun k => k ≤ n) (fun k => n - k) (fun k => w) (fun k => [(0, .ref mo), (1, .int (nI d)), (2, .int th), (3, .int (oI (iter (lsS I B d th) none k))), (4, .int (nI k))]) ?_ 0 (Nat.zero_le _)
  intro k hkk ihk
  (try dsimp only at ihk ⊢)
  cases hac : iter (lsS I B d th) none k with
  | none =>
    refine g_iload C dX3_latest_5 rfl ?_
    first | refine g_aload_n C dX3_latest_7 rfl rfl ?_ | refine g_aload_nN C dX3_latest_7 rfl rfl ?_ | refine g_aload_nq C dX3_latest_7 rfl rfl ?_
    refine g_get C dX3_latest_8 hm rfl kw_X3 1 (by decide) kfX3_58 rfl rfl ?_
    refine g_icmp_ge C 54 dX3_latest_11 (by decide) (fun c11 => ?_) (fun c11 => ?_)
    · have hkn : n = k := by have := (nI_leI (a := n) (b := k) (by omega) (by omega)).mp c11; omega
      subst hkn
      refine g_iload_n C dX3_latest_54 rfl rfl ?_
      refine g_iconst C (v := (-1)) dX3_latest_55 (by decide) ?_
      refine g_icmp_ne C 63 dX3_latest_56 (by decide) (fun c56 => absurd (rfl) c56) (fun _ => ?_)
      refine g_iconst C (v := (-1)) dX3_latest_59 (by decide) ?_
      refine g_goto C 69 dX3_latest_60 (by decide) ?_
      exact g_iret C hr dX3_latest_69 (by decide) (by decide) ⟨by rw [hac]; rfl, rfl⟩
    · have hlt : k < n := nI_nge c11 (by omega) (by omega)
      first | refine g_aload_n C dX3_latest_14 rfl rfl ?_ | refine g_aload_nN C dX3_latest_14 rfl rfl ?_ | refine g_aload_nq C dX3_latest_14 rfl rfl ?_
      refine g_iload_n C dX3_latest_15 rfl rfl ?_
      refine g_iload C dX3_latest_16 rfl ?_
      refine g_iload_n C dX3_latest_18 rfl rfl ?_
      refine g_iconst C (v := 0) dX3_latest_19 (by decide) ?_
      refine g_callVn C _ dX3_latest_20 (c_X3_isOf l G _ _ _ _ _ _ _ _ _ hR _ k _ _ (by omega) (by omega)) kmX3_79 ki_X3_isOf kv_X3_isOf kn_X3 kc_X3_isOf hy_X3_isOf ⟨by decide, by decide⟩ hm rfl rfl (Nat.le_of_ble_eq_true rfl) ⟨by decide, by decide⟩ (fun v w1 hp => ?_)
      obtain ⟨rfl, hw1⟩ := hp
      have hw1 := hw1.symm
      subst hw1
      refine g_if_eq C 46 dX3_latest_23 (by decide) (fun c23 => ?_) (fun c23 => ?_)
      · have c23 := bI_z.mp c23
        refine g_iload_n C dX3_latest_46 rfl rfl ?_
        refine g_istore_n C dX3_latest_47 rfl (by decide) ?_
        refine g_iinc C (v := nI (k + 1)) dX3_latest_48 rfl (nI_1 k) (by decide) ?_
        refine g_goto C 5 dX3_latest_51 (by decide) ?_
        have hs := ihk (k + 1) hlt (by omega)
        (try dsimp only at hs)
        have e9 : iter (lsS I B d th) none (k + 1) = none := by show (lsS I B d th) (iter (lsS I B d th) none k) k = _; rw [hac]; simp [lsS, c11, c23]
        rw [e9] at hs
        exact hs
      · have c23 := bI_nz.mp c23
        refine g_iload_n C dX3_latest_26 rfl rfl ?_
        refine g_iconst C (v := (-1)) dX3_latest_27 (by decide) ?_
        refine g_icmp_eq C 41 dX3_latest_28 (by decide) (fun _ => ?_) (fun c28 => absurd (rfl) c28)
        refine g_iload C dX3_latest_41 rfl ?_
        refine g_goto C 47 dX3_latest_43 (by decide) ?_
        refine g_istore_n C dX3_latest_47 rfl (by decide) ?_
        refine g_iinc C (v := nI (k + 1)) dX3_latest_48 rfl (nI_1 k) (by decide) ?_
        refine g_goto C 5 dX3_latest_51 (by decide) ?_
        have hs := ihk (k + 1) hlt (by omega)
        (try dsimp only at hs)
        have e9 : iter (lsS I B d th) none (k + 1) = (some k) := by show (lsS I B d th) (iter (lsS I B d th) none k) k = _; rw [hac]; simp [lsS, c11, c23]
        rw [e9] at hs
        exact hs
  | some b =>
    have hbk : b < k := lsS_lt hac
    have hb1 : ¬ nI b = -1 := oI_some (by omega)
    refine g_iload C dX3_latest_5 rfl ?_
    first | refine g_aload_n C dX3_latest_7 rfl rfl ?_ | refine g_aload_nN C dX3_latest_7 rfl rfl ?_ | refine g_aload_nq C dX3_latest_7 rfl rfl ?_
    refine g_get C dX3_latest_8 hm rfl kw_X3 1 (by decide) kfX3_58 rfl rfl ?_
    refine g_icmp_ge C 54 dX3_latest_11 (by decide) (fun c11 => ?_) (fun c11 => ?_)
    · have hkn : n = k := by have := (nI_leI (a := n) (b := k) (by omega) (by omega)).mp c11; omega
      subst hkn
      refine g_iload_n C dX3_latest_54 rfl rfl ?_
      refine g_iconst C (v := (-1)) dX3_latest_55 (by decide) ?_
      refine g_icmp_ne C 63 dX3_latest_56 (by decide) (fun _ => ?_) (fun c56 => absurd c56 (hb1))
      first | refine g_aload_n C dX3_latest_63 rfl rfl ?_ | refine g_aload_nN C dX3_latest_63 rfl rfl ?_ | refine g_aload_nq C dX3_latest_63 rfl rfl ?_
      refine g_get C dX3_latest_64 hm rfl kw_X3 6 (by decide) kfX3_22 rfl rfl ?_
      refine g_iload_n C dX3_latest_67 rfl rfl ?_
      refine g_ialdN C dX3_latest_68 r4 (by omega) (by decide) ?_
      exact g_iret C hr dX3_latest_69 (by decide) (by decide) ⟨by rw [hac]; rfl, rfl⟩
    · have hlt : k < n := nI_nge c11 (by omega) (by omega)
      first | refine g_aload_n C dX3_latest_14 rfl rfl ?_ | refine g_aload_nN C dX3_latest_14 rfl rfl ?_ | refine g_aload_nq C dX3_latest_14 rfl rfl ?_
      refine g_iload_n C dX3_latest_15 rfl rfl ?_
      refine g_iload C dX3_latest_16 rfl ?_
      refine g_iload_n C dX3_latest_18 rfl rfl ?_
      refine g_iconst C (v := 0) dX3_latest_19 (by decide) ?_
      refine g_callVn C _ dX3_latest_20 (c_X3_isOf l G _ _ _ _ _ _ _ _ _ hR _ k _ _ (by omega) (by omega)) kmX3_79 ki_X3_isOf kv_X3_isOf kn_X3 kc_X3_isOf hy_X3_isOf ⟨by decide, by decide⟩ hm rfl rfl (Nat.le_of_ble_eq_true rfl) ⟨by decide, by decide⟩ (fun v w1 hp => ?_)
      obtain ⟨rfl, hw1⟩ := hp
      have hw1 := hw1.symm
      subst hw1
      refine g_if_eq C 46 dX3_latest_23 (by decide) (fun c23 => ?_) (fun c23 => ?_)
      · have c23 := bI_z.mp c23
        refine g_iload_n C dX3_latest_46 rfl rfl ?_
        refine g_istore_n C dX3_latest_47 rfl (by decide) ?_
        refine g_iinc C (v := nI (k + 1)) dX3_latest_48 rfl (nI_1 k) (by decide) ?_
        refine g_goto C 5 dX3_latest_51 (by decide) ?_
        have hs := ihk (k + 1) hlt (by omega)
        (try dsimp only at hs)
        have e9 : iter (lsS I B d th) none (k + 1) = (some b) := by show (lsS I B d th) (iter (lsS I B d th) none k) k = _; rw [hac]; simp [lsS, c11, c23]
        rw [e9] at hs
        exact hs
      · have c23 := bI_nz.mp c23
        refine g_iload_n C dX3_latest_26 rfl rfl ?_
        refine g_iconst C (v := (-1)) dX3_latest_27 (by decide) ?_
        refine g_icmp_eq C 41 dX3_latest_28 (by decide) (fun c28 => absurd c28 (hb1)) (fun _ => ?_)
        first | refine g_aload_n C dX3_latest_31 rfl rfl ?_ | refine g_aload_nN C dX3_latest_31 rfl rfl ?_ | refine g_aload_nq C dX3_latest_31 rfl rfl ?_
        refine g_iload_n C dX3_latest_32 rfl rfl ?_
        refine g_iload C dX3_latest_33 rfl ?_
        refine g_callVn C _ dX3_latest_35 (c_X3_earlier l G _ _ _ _ _ _ _ _ _ hR b k (by omega) (by omega)) kmX3_83 ki_X3_earlier kv_X3_earlier kn_X3 kc_X3_earlier hy_X3_earlier ⟨by decide, by decide⟩ hm rfl rfl (Nat.le_of_ble_eq_true rfl) ⟨by decide, by decide⟩ (fun v w1 hp => ?_)
        obtain ⟨rfl, hw1⟩ := hp
        have hw1 := hw1.symm
        subst hw1
        refine g_if_eq C 46 dX3_latest_38 (by decide) (fun c38 => ?_) (fun c38 => ?_)
        · have c38 := bI_z.mp c38
          refine g_iload_n C dX3_latest_46 rfl rfl ?_
          refine g_istore_n C dX3_latest_47 rfl (by decide) ?_
          refine g_iinc C (v := nI (k + 1)) dX3_latest_48 rfl (nI_1 k) (by decide) ?_
          refine g_goto C 5 dX3_latest_51 (by decide) ?_
          have hs := ihk (k + 1) hlt (by omega)
          (try dsimp only at hs)
          have e9 : iter (lsS I B d th) none (k + 1) = (some b) := by show (lsS I B d th) (iter (lsS I B d th) none k) k = _; rw [hac]; simp [lsS, c11, c23, c38]
          rw [e9] at hs
          exact hs
        · have c38 := bI_nz.mp c38
          refine g_iload C dX3_latest_41 rfl ?_
          refine g_goto C 47 dX3_latest_43 (by decide) ?_
          refine g_istore_n C dX3_latest_47 rfl (by decide) ?_
          refine g_iinc C (v := nI (k + 1)) dX3_latest_48 rfl (nI_1 k) (by decide) ?_
          refine g_goto C 5 dX3_latest_51 (by decide) ?_
          have hs := ihk (k + 1) hlt (by omega)
          (try dsimp only at hs)
          have e9 : iter (lsS I B d th) none (k + 1) = (some k) := by show (lsS I B d th) (iter (lsS I B d th) none k) k = _; rw [hac]; simp [lsS, c11, c23, c38]
          rw [e9] at hs
          exact hs

set_option maxHeartbeats 4000000 in
set_option maxRecDepth 100000 in
theorem c_X3_sum (l : Launch) (G : hD) (w : hW) (mo : Nat) (M : Nat → Nat) (n : Nat) (I : Nat → Nat → Int32) (B : Nat → Nat → Bool) (thr ord mny : Int32) (hR : MR G mo M n I B thr ord mny w) (d : Nat) (th : Int32) (hd : d < 6) : h_Met l yX3_sum (Cond.code yX3_sum cX3_sum 5 (some .int)) { frames := 1, cells := 0, slots := 0, locals := 24 } G [.ref mo, .int (nI d), .int th] w (fun v w' => v = some (.int (iter (msS I B d th) 0 n)) ∧ w' = w) noX := by
  refine h_met RX3 rfl (by decide) (Nat.le_of_ble_eq_true rfl) (cat_c (by first | rfl | exact rf_cat _) (cat_c (by first | rfl | exact rf_cat _) (cat_c (by first | rfl | exact rf_cat _) cat_n))) ?_
  intro p e s m below meth c A C hnt hr hnm
  obtain ⟨hm, r0, r1, r2, r3, r4, r5, r6, r7, r8, r9, r10, r11, r12, hinj, hn⟩ := id hR
  refine g_iconst C (v := 0) dX3_sum_0 (by decide) ?_
  refine g_istore_n C dX3_sum_1 rfl (by decide) ?_
  refine g_iconst C (v := 0) dX3_sum_2 (by decide) ?_
  refine g_istore C dX3_sum_3 (by decide) ?_
  refine g_loop (σ := Nat) (fun k => k ≤ n) (fun k => n - k) (fun k => w) (fun k => [(0, .ref mo), (1, .int (nI d)), (2, .int th), (3, .int (iter (msS I B d th) 0 k)), (4, .int (nI k))]) ?_ 0 (Nat.zero_le _)
  intro k hkk ihk
  (try dsimp only at ihk ⊢)
  refine g_iload C dX3_sum_5 rfl ?_
  first | refine g_aload_n C dX3_sum_7 rfl rfl ?_ | refine g_aload_nN C dX3_sum_7 rfl rfl ?_ | refine g_aload_nq C dX3_sum_7 rfl rfl ?_
  refine g_get C dX3_sum_8 hm rfl kw_X3 1 (by decide) kfX3_58 rfl rfl ?_
  refine g_icmp_ge C 46 dX3_sum_11 (by decide) (fun c11 => ?_) (fun c11 => ?_)
  · have hkn : n = k := by have := (nI_leI (a := n) (b := k) (by omega) (by omega)).mp c11; omega
    subst hkn
    refine g_iload_n C dX3_sum_46 rfl rfl ?_
    exact g_iret C hr dX3_sum_47 (by decide) (by decide) ⟨rfl, rfl⟩
  · have hlt : k < n := nI_nge c11 (by omega) (by omega)
    first | refine g_aload_n C dX3_sum_14 rfl rfl ?_ | refine g_aload_nN C dX3_sum_14 rfl rfl ?_ | refine g_aload_nq C dX3_sum_14 rfl rfl ?_
    refine g_iload_n C dX3_sum_15 rfl rfl ?_
    refine g_iload C dX3_sum_16 rfl ?_
    refine g_iload_n C dX3_sum_18 rfl rfl ?_
    refine g_iconst C (v := 1) dX3_sum_19 (by decide) ?_
    refine g_callVn C _ dX3_sum_20 (c_X3_isOf l G _ _ _ _ _ _ _ _ _ hR _ k _ _ (by omega) (by omega)) kmX3_79 ki_X3_isOf kv_X3_isOf kn_X3 kc_X3_isOf hy_X3_isOf ⟨by decide, by decide⟩ hm rfl rfl (Nat.le_of_ble_eq_true rfl) ⟨by decide, by decide⟩ (fun v w1 hp => ?_)
    obtain ⟨rfl, hw1⟩ := hp
    have hw1 := hw1.symm
    subst hw1
    refine g_if_eq C 38 dX3_sum_23 (by decide) (fun c23 => ?_) (fun c23 => ?_)
    · have c23 := bI_z.mp c23
      refine g_iload_n C dX3_sum_38 rfl rfl ?_
      refine g_istore_n C dX3_sum_39 rfl (by decide) ?_
      refine g_iinc C (v := nI (k + 1)) dX3_sum_40 rfl (nI_1 k) (by decide) ?_
      refine g_goto C 5 dX3_sum_43 (by decide) ?_
      have hs := ihk (k + 1) hlt (by omega)
      (try dsimp only at hs)
      have e9 : iter (msS I B d th) 0 (k + 1) = (iter (msS I B d th) 0 k) := by show (msS I B d th) (iter (msS I B d th) 0 k) k = _; simp [msS, c11, c23]
      rw [e9] at hs
      exact hs
    · have c23 := bI_nz.mp c23
      refine g_iload_n C dX3_sum_26 rfl rfl ?_
      first | refine g_aload_n C dX3_sum_27 rfl rfl ?_ | refine g_aload_nN C dX3_sum_27 rfl rfl ?_ | refine g_aload_nq C dX3_sum_27 rfl rfl ?_
      refine g_get C dX3_sum_28 hm rfl kw_X3 6 (by decide) kfX3_22 rfl rfl ?_
      refine g_iload C dX3_sum_31 rfl ?_
      refine g_ialdN C dX3_sum_33 r4 (by omega) (by decide) ?_
      refine g_iadd C dX3_sum_34 ?_
      refine g_goto C 39 dX3_sum_35 (by decide) ?_
      refine g_istore_n C dX3_sum_39 rfl (by decide) ?_
      refine g_iinc C (v := nI (k + 1)) dX3_sum_40 rfl (nI_1 k) (by decide) ?_
      refine g_goto C 5 dX3_sum_43 (by decide) ?_
      have hs := ihk (k + 1) hlt (by omega)
      (try dsimp only at hs)
      have e9 : iter (msS I B d th) 0 (k + 1) = (iter (msS I B d th) 0 k + I 4 k) := by show (msS I B d th) (iter (msS I B d th) 0 k) k = _; simp [msS, c11, c23]
      rw [e9] at hs
      exact hs

set_option maxHeartbeats 4000000 in
set_option maxRecDepth 100000 in
theorem c_X3_isRemoved (l : Launch) (G : hD) (w : hW) (mo : Nat) (M : Nat → Nat) (n : Nat) (I : Nat → Nat → Int32) (B : Nat → Nat → Bool) (thr ord mny : Int32) (hR : MR G mo M n I B thr ord mny w) (d x : Nat) (hd : d < 6) : h_Met l yX3_isRemoved (Cond.code yX3_isRemoved cX3_isRemoved 5 (some .boolean)) { frames := 0, cells := 0, slots := 0, locals := 0 } G [.ref mo, .int (nI d), .int (nI x)] w (fun v w' => v = some (.int (bI (iter (enS I B d 4 (nI x)) false n))) ∧ w' = w) noX := by
  refine h_met RX3 rfl (by decide) (Nat.le_of_ble_eq_true rfl) (cat_c (by first | rfl | exact rf_cat _) (cat_c (by first | rfl | exact rf_cat _) (cat_c (by first | rfl | exact rf_cat _) cat_n))) ?_
  intro p e s m below meth c A C hnt hr hnm
  obtain ⟨hm, r0, r1, r2, r3, r4, r5, r6, r7, r8, r9, r10, r11, r12, hinj, hn⟩ := id hR
  refine g_iconst C (v := 0) dX3_isRemoved_0 (by decide) ?_
  refine g_istore_n C dX3_isRemoved_1 rfl (by decide) ?_
  refine g_iconst C (v := 0) dX3_isRemoved_2 (by decide) ?_
  refine g_istore C dX3_isRemoved_3 (by decide) ?_
  refine g_loop (σ := Nat) (fun k => k ≤ n) (fun k => n - k) (fun k => w) (fun k => [(0, .ref mo), (1, .int (nI d)), (2, .int (nI x)), (3, .int (bI (iter (enS I B d 4 (nI x)) false k))), (4, .int (nI k))]) ?_ 0 (Nat.zero_le _)
  intro k hkk ihk
  (try dsimp only at ihk ⊢)
  cases hac : iter (enS I B d 4 (nI x)) false k with
  | true =>
    refine g_iload C dX3_isRemoved_5 rfl ?_
    first | refine g_aload_n C dX3_isRemoved_7 rfl rfl ?_ | refine g_aload_nN C dX3_isRemoved_7 rfl rfl ?_ | refine g_aload_nq C dX3_isRemoved_7 rfl rfl ?_
    refine g_get C dX3_isRemoved_8 hm rfl kw_X3 1 (by decide) kfX3_58 rfl rfl ?_
    refine g_icmp_ge C 67 dX3_isRemoved_11 (by decide) (fun c11 => ?_) (fun c11 => ?_)
    · have hkn : n = k := by have := (nI_leI (a := n) (b := k) (by omega) (by omega)).mp c11; omega
      subst hkn
      refine g_iload_n C dX3_isRemoved_67 rfl rfl ?_
      exact g_zret C hr rfl dX3_isRemoved_68 (by decide) (by decide) ⟨by rw [hac], rfl⟩
    · have hlt : k < n := nI_nge c11 (by omega) (by omega)
      refine g_iload_n C dX3_isRemoved_14 rfl rfl ?_
      refine g_if_ne C 55 dX3_isRemoved_15 (by decide) (fun _ => ?_) (fun c15 => absurd c15 (by decide))
      refine g_iconst C (v := 1) dX3_isRemoved_55 (by decide) ?_
      refine g_goto C 60 dX3_isRemoved_56 (by decide) ?_
      refine g_istore_n C dX3_isRemoved_60 rfl (by decide) ?_
      refine g_iinc C (v := nI (k + 1)) dX3_isRemoved_61 rfl (nI_1 k) (by decide) ?_
      refine g_goto C 5 dX3_isRemoved_64 (by decide) ?_
      have hs := ihk (k + 1) hlt (by omega)
      (try dsimp only at hs)
      have e9 : iter (enS I B d 4 (nI x)) false (k + 1) = true := by show (enS I B d 4 (nI x)) (iter (enS I B d 4 (nI x)) false k) k = _; rw [hac]; simp [enS, c11]
      rw [e9] at hs
      exact hs
  | false =>
    refine g_iload C dX3_isRemoved_5 rfl ?_
    first | refine g_aload_n C dX3_isRemoved_7 rfl rfl ?_ | refine g_aload_nN C dX3_isRemoved_7 rfl rfl ?_ | refine g_aload_nq C dX3_isRemoved_7 rfl rfl ?_
    refine g_get C dX3_isRemoved_8 hm rfl kw_X3 1 (by decide) kfX3_58 rfl rfl ?_
    refine g_icmp_ge C 67 dX3_isRemoved_11 (by decide) (fun c11 => ?_) (fun c11 => ?_)
    · have hkn : n = k := by have := (nI_leI (a := n) (b := k) (by omega) (by omega)).mp c11; omega
      subst hkn
      refine g_iload_n C dX3_isRemoved_67 rfl rfl ?_
      exact g_zret C hr rfl dX3_isRemoved_68 (by decide) (by decide) ⟨by rw [hac], rfl⟩
    · have hlt : k < n := nI_nge c11 (by omega) (by omega)
      refine g_iload_n C dX3_isRemoved_14 rfl rfl ?_
      refine g_if_ne C 55 dX3_isRemoved_15 (by decide) (fun c15 => absurd (rfl) c15) (fun _ => ?_)
      first | refine g_aload_n C dX3_isRemoved_18 rfl rfl ?_ | refine g_aload_nN C dX3_isRemoved_18 rfl rfl ?_ | refine g_aload_nq C dX3_isRemoved_18 rfl rfl ?_
      refine g_get C dX3_isRemoved_19 hm rfl kw_X3 9 (by decide) kfX3_32 rfl rfl ?_
      refine g_bipush C (v := 120) dX3_isRemoved_22 (by decide) ?_
      refine g_iload_n C dX3_isRemoved_24 rfl rfl ?_
      refine g_imul C dX3_isRemoved_25 ?_
      refine g_iload C dX3_isRemoved_26 rfl ?_
      refine g_iadd C dX3_isRemoved_28 ?_
      refine g_eq (ix120 d k) ?_
      refine g_zaldN C dX3_isRemoved_29 r7 (by omega) (by decide) ?_
      refine g_if_eq C 59 dX3_isRemoved_30 (by decide) (fun c30 => ?_) (fun c30 => ?_)
      · have c30 := bI_z.mp c30
        refine g_iconst C (v := 0) dX3_isRemoved_59 (by decide) ?_
        refine g_istore_n C dX3_isRemoved_60 rfl (by decide) ?_
        refine g_iinc C (v := nI (k + 1)) dX3_isRemoved_61 rfl (nI_1 k) (by decide) ?_
        refine g_goto C 5 dX3_isRemoved_64 (by decide) ?_
        have hs := ihk (k + 1) hlt (by omega)
        (try dsimp only at hs)
        have e9 : iter (enS I B d 4 (nI x)) false (k + 1) = false := by show (enS I B d 4 (nI x)) (iter (enS I B d 4 (nI x)) false k) k = _; rw [hac]; simp [enS, c11, c30]
        rw [e9] at hs
        exact hs
      · have c30 := bI_nz.mp c30
        first | refine g_aload_n C dX3_isRemoved_33 rfl rfl ?_ | refine g_aload_nN C dX3_isRemoved_33 rfl rfl ?_ | refine g_aload_nq C dX3_isRemoved_33 rfl rfl ?_
        refine g_get C dX3_isRemoved_34 hm rfl kw_X3 4 (by decide) kfX3_16 rfl rfl ?_
        refine g_iload C dX3_isRemoved_37 rfl ?_
        refine g_ialdN C dX3_isRemoved_39 r2 (by omega) (by decide) ?_
        refine g_iconst C (v := 4) dX3_isRemoved_40 (by decide) ?_
        refine g_icmp_ne C 59 dX3_isRemoved_41 (by decide) (fun c41 => ?_) (fun c41 => ?_)
        · refine g_iconst C (v := 0) dX3_isRemoved_59 (by decide) ?_
          refine g_istore_n C dX3_isRemoved_60 rfl (by decide) ?_
          refine g_iinc C (v := nI (k + 1)) dX3_isRemoved_61 rfl (nI_1 k) (by decide) ?_
          refine g_goto C 5 dX3_isRemoved_64 (by decide) ?_
          have hs := ihk (k + 1) hlt (by omega)
          (try dsimp only at hs)
          have e9 : iter (enS I B d 4 (nI x)) false (k + 1) = false := by show (enS I B d 4 (nI x)) (iter (enS I B d 4 (nI x)) false k) k = _; rw [hac]; simp [enS, c11, c30, c41]
          rw [e9] at hs
          exact hs
        · first | refine g_aload_n C dX3_isRemoved_44 rfl rfl ?_ | refine g_aload_nN C dX3_isRemoved_44 rfl rfl ?_ | refine g_aload_nq C dX3_isRemoved_44 rfl rfl ?_
          refine g_get C dX3_isRemoved_45 hm rfl kw_X3 6 (by decide) kfX3_22 rfl rfl ?_
          refine g_iload C dX3_isRemoved_48 rfl ?_
          refine g_ialdN C dX3_isRemoved_50 r4 (by omega) (by decide) ?_
          refine g_iload_n C dX3_isRemoved_51 rfl rfl ?_
          refine g_icmp_ne C 59 dX3_isRemoved_52 (by decide) (fun c52 => ?_) (fun c52 => ?_)
          · refine g_iconst C (v := 0) dX3_isRemoved_59 (by decide) ?_
            refine g_istore_n C dX3_isRemoved_60 rfl (by decide) ?_
            refine g_iinc C (v := nI (k + 1)) dX3_isRemoved_61 rfl (nI_1 k) (by decide) ?_
            refine g_goto C 5 dX3_isRemoved_64 (by decide) ?_
            have hs := ihk (k + 1) hlt (by omega)
            (try dsimp only at hs)
            have e9 : iter (enS I B d 4 (nI x)) false (k + 1) = false := by show (enS I B d 4 (nI x)) (iter (enS I B d 4 (nI x)) false k) k = _; rw [hac]; simp [enS, c11, c30, c41, c52]
            rw [e9] at hs
            exact hs
          · refine g_iconst C (v := 1) dX3_isRemoved_55 (by decide) ?_
            refine g_goto C 60 dX3_isRemoved_56 (by decide) ?_
            refine g_istore_n C dX3_isRemoved_60 rfl (by decide) ?_
            refine g_iinc C (v := nI (k + 1)) dX3_isRemoved_61 rfl (nI_1 k) (by decide) ?_
            refine g_goto C 5 dX3_isRemoved_64 (by decide) ?_
            have hs := ihk (k + 1) hlt (by omega)
            (try dsimp only at hs)
            have e9 : iter (enS I B d 4 (nI x)) false (k + 1) = true := by show (enS I B d 4 (nI x)) (iter (enS I B d 4 (nI x)) false k) k = _; rw [hac]; simp [enS, c11, c30, c41, c52]
            rw [e9] at hs
            exact hs

set_option maxHeartbeats 4000000 in
set_option maxRecDepth 100000 in
theorem c_X3_isDropped (l : Launch) (G : hD) (w : hW) (mo : Nat) (M : Nat → Nat) (n : Nat) (I : Nat → Nat → Int32) (B : Nat → Nat → Bool) (thr ord mny : Int32) (hR : MR G mo M n I B thr ord mny w) (d x : Nat) (hd : d < 6) : h_Met l yX3_isDropped (Cond.code yX3_isDropped cX3_isDropped 5 (some .boolean)) { frames := 0, cells := 0, slots := 0, locals := 0 } G [.ref mo, .int (nI d), .int (nI x)] w (fun v w' => v = some (.int (bI (iter (enS I B d 6 (nI x)) false n))) ∧ w' = w) noX := by
  refine h_met RX3 rfl (by decide) (Nat.le_of_ble_eq_true rfl) (cat_c (by first | rfl | exact rf_cat _) (cat_c (by first | rfl | exact rf_cat _) (cat_c (by first | rfl | exact rf_cat _) cat_n))) ?_
  intro p e s m below meth c A C hnt hr hnm
  obtain ⟨hm, r0, r1, r2, r3, r4, r5, r6, r7, r8, r9, r10, r11, r12, hinj, hn⟩ := id hR
  refine g_iconst C (v := 0) dX3_isDropped_0 (by decide) ?_
  refine g_istore_n C dX3_isDropped_1 rfl (by decide) ?_
  refine g_iconst C (v := 0) dX3_isDropped_2 (by decide) ?_
  refine g_istore C dX3_isDropped_3 (by decide) ?_
  refine g_loop (σ := Nat) (fun k => k ≤ n) (fun k => n - k) (fun k => w) (fun k => [(0, .ref mo), (1, .int (nI d)), (2, .int (nI x)), (3, .int (bI (iter (enS I B d 6 (nI x)) false k))), (4, .int (nI k))]) ?_ 0 (Nat.zero_le _)
  intro k hkk ihk
  (try dsimp only at ihk ⊢)
  cases hac : iter (enS I B d 6 (nI x)) false k with
  | true =>
    refine g_iload C dX3_isDropped_5 rfl ?_
    first | refine g_aload_n C dX3_isDropped_7 rfl rfl ?_ | refine g_aload_nN C dX3_isDropped_7 rfl rfl ?_ | refine g_aload_nq C dX3_isDropped_7 rfl rfl ?_
    refine g_get C dX3_isDropped_8 hm rfl kw_X3 1 (by decide) kfX3_58 rfl rfl ?_
    refine g_icmp_ge C 68 dX3_isDropped_11 (by decide) (fun c11 => ?_) (fun c11 => ?_)
    · have hkn : n = k := by have := (nI_leI (a := n) (b := k) (by omega) (by omega)).mp c11; omega
      subst hkn
      refine g_iload_n C dX3_isDropped_68 rfl rfl ?_
      exact g_zret C hr rfl dX3_isDropped_69 (by decide) (by decide) ⟨by rw [hac], rfl⟩
    · have hlt : k < n := nI_nge c11 (by omega) (by omega)
      refine g_iload_n C dX3_isDropped_14 rfl rfl ?_
      refine g_if_ne C 56 dX3_isDropped_15 (by decide) (fun _ => ?_) (fun c15 => absurd c15 (by decide))
      refine g_iconst C (v := 1) dX3_isDropped_56 (by decide) ?_
      refine g_goto C 61 dX3_isDropped_57 (by decide) ?_
      refine g_istore_n C dX3_isDropped_61 rfl (by decide) ?_
      refine g_iinc C (v := nI (k + 1)) dX3_isDropped_62 rfl (nI_1 k) (by decide) ?_
      refine g_goto C 5 dX3_isDropped_65 (by decide) ?_
      have hs := ihk (k + 1) hlt (by omega)
      (try dsimp only at hs)
      have e9 : iter (enS I B d 6 (nI x)) false (k + 1) = true := by show (enS I B d 6 (nI x)) (iter (enS I B d 6 (nI x)) false k) k = _; rw [hac]; simp [enS, c11]
      rw [e9] at hs
      exact hs
  | false =>
    refine g_iload C dX3_isDropped_5 rfl ?_
    first | refine g_aload_n C dX3_isDropped_7 rfl rfl ?_ | refine g_aload_nN C dX3_isDropped_7 rfl rfl ?_ | refine g_aload_nq C dX3_isDropped_7 rfl rfl ?_
    refine g_get C dX3_isDropped_8 hm rfl kw_X3 1 (by decide) kfX3_58 rfl rfl ?_
    refine g_icmp_ge C 68 dX3_isDropped_11 (by decide) (fun c11 => ?_) (fun c11 => ?_)
    · have hkn : n = k := by have := (nI_leI (a := n) (b := k) (by omega) (by omega)).mp c11; omega
      subst hkn
      refine g_iload_n C dX3_isDropped_68 rfl rfl ?_
      exact g_zret C hr rfl dX3_isDropped_69 (by decide) (by decide) ⟨by rw [hac], rfl⟩
    · have hlt : k < n := nI_nge c11 (by omega) (by omega)
      refine g_iload_n C dX3_isDropped_14 rfl rfl ?_
      refine g_if_ne C 56 dX3_isDropped_15 (by decide) (fun c15 => absurd (rfl) c15) (fun _ => ?_)
      first | refine g_aload_n C dX3_isDropped_18 rfl rfl ?_ | refine g_aload_nN C dX3_isDropped_18 rfl rfl ?_ | refine g_aload_nq C dX3_isDropped_18 rfl rfl ?_
      refine g_get C dX3_isDropped_19 hm rfl kw_X3 9 (by decide) kfX3_32 rfl rfl ?_
      refine g_bipush C (v := 120) dX3_isDropped_22 (by decide) ?_
      refine g_iload_n C dX3_isDropped_24 rfl rfl ?_
      refine g_imul C dX3_isDropped_25 ?_
      refine g_iload C dX3_isDropped_26 rfl ?_
      refine g_iadd C dX3_isDropped_28 ?_
      refine g_eq (ix120 d k) ?_
      refine g_zaldN C dX3_isDropped_29 r7 (by omega) (by decide) ?_
      refine g_if_eq C 60 dX3_isDropped_30 (by decide) (fun c30 => ?_) (fun c30 => ?_)
      · have c30 := bI_z.mp c30
        refine g_iconst C (v := 0) dX3_isDropped_60 (by decide) ?_
        refine g_istore_n C dX3_isDropped_61 rfl (by decide) ?_
        refine g_iinc C (v := nI (k + 1)) dX3_isDropped_62 rfl (nI_1 k) (by decide) ?_
        refine g_goto C 5 dX3_isDropped_65 (by decide) ?_
        have hs := ihk (k + 1) hlt (by omega)
        (try dsimp only at hs)
        have e9 : iter (enS I B d 6 (nI x)) false (k + 1) = false := by show (enS I B d 6 (nI x)) (iter (enS I B d 6 (nI x)) false k) k = _; rw [hac]; simp [enS, c11, c30]
        rw [e9] at hs
        exact hs
      · have c30 := bI_nz.mp c30
        first | refine g_aload_n C dX3_isDropped_33 rfl rfl ?_ | refine g_aload_nN C dX3_isDropped_33 rfl rfl ?_ | refine g_aload_nq C dX3_isDropped_33 rfl rfl ?_
        refine g_get C dX3_isDropped_34 hm rfl kw_X3 4 (by decide) kfX3_16 rfl rfl ?_
        refine g_iload C dX3_isDropped_37 rfl ?_
        refine g_ialdN C dX3_isDropped_39 r2 (by omega) (by decide) ?_
        refine g_bipush C (v := 6) dX3_isDropped_40 (by decide) ?_
        refine g_icmp_ne C 60 dX3_isDropped_42 (by decide) (fun c42 => ?_) (fun c42 => ?_)
        · refine g_iconst C (v := 0) dX3_isDropped_60 (by decide) ?_
          refine g_istore_n C dX3_isDropped_61 rfl (by decide) ?_
          refine g_iinc C (v := nI (k + 1)) dX3_isDropped_62 rfl (nI_1 k) (by decide) ?_
          refine g_goto C 5 dX3_isDropped_65 (by decide) ?_
          have hs := ihk (k + 1) hlt (by omega)
          (try dsimp only at hs)
          have e9 : iter (enS I B d 6 (nI x)) false (k + 1) = false := by show (enS I B d 6 (nI x)) (iter (enS I B d 6 (nI x)) false k) k = _; rw [hac]; simp [enS, c11, c30, c42]
          rw [e9] at hs
          exact hs
        · first | refine g_aload_n C dX3_isDropped_45 rfl rfl ?_ | refine g_aload_nN C dX3_isDropped_45 rfl rfl ?_ | refine g_aload_nq C dX3_isDropped_45 rfl rfl ?_
          refine g_get C dX3_isDropped_46 hm rfl kw_X3 6 (by decide) kfX3_22 rfl rfl ?_
          refine g_iload C dX3_isDropped_49 rfl ?_
          refine g_ialdN C dX3_isDropped_51 r4 (by omega) (by decide) ?_
          refine g_iload_n C dX3_isDropped_52 rfl rfl ?_
          refine g_icmp_ne C 60 dX3_isDropped_53 (by decide) (fun c53 => ?_) (fun c53 => ?_)
          · refine g_iconst C (v := 0) dX3_isDropped_60 (by decide) ?_
            refine g_istore_n C dX3_isDropped_61 rfl (by decide) ?_
            refine g_iinc C (v := nI (k + 1)) dX3_isDropped_62 rfl (nI_1 k) (by decide) ?_
            refine g_goto C 5 dX3_isDropped_65 (by decide) ?_
            have hs := ihk (k + 1) hlt (by omega)
            (try dsimp only at hs)
            have e9 : iter (enS I B d 6 (nI x)) false (k + 1) = false := by show (enS I B d 6 (nI x)) (iter (enS I B d 6 (nI x)) false k) k = _; rw [hac]; simp [enS, c11, c30, c42, c53]
            rw [e9] at hs
            exact hs
          · refine g_iconst C (v := 1) dX3_isDropped_56 (by decide) ?_
            refine g_goto C 61 dX3_isDropped_57 (by decide) ?_
            refine g_istore_n C dX3_isDropped_61 rfl (by decide) ?_
            refine g_iinc C (v := nI (k + 1)) dX3_isDropped_62 rfl (nI_1 k) (by decide) ?_
            refine g_goto C 5 dX3_isDropped_65 (by decide) ?_
            have hs := ihk (k + 1) hlt (by omega)
            (try dsimp only at hs)
            have e9 : iter (enS I B d 6 (nI x)) false (k + 1) = true := by show (enS I B d 6 (nI x)) (iter (enS I B d 6 (nI x)) false k) k = _; rw [hac]; simp [enS, c11, c30, c42, c53]
            rw [e9] at hs
            exact hs

set_option maxHeartbeats 4000000 in
set_option maxRecDepth 100000 in
theorem c_X3_isCommon (l : Launch) (G : hD) (w : hW) (mo : Nat) (M : Nat → Nat) (n : Nat) (I : Nat → Nat → Int32) (B : Nat → Nat → Bool) (thr ord mny : Int32) (hR : MR G mo M n I B thr ord mny w) (t : Nat) (ht : t < 120) : h_Met l yX3_isCommon (Cond.code yX3_isCommon cX3_isCommon 4 (some .boolean)) { frames := 0, cells := 0, slots := 0, locals := 0 } G [.ref mo, .int (nI t)] w (fun v w' => v = some (.int (bI (cmB B t))) ∧ w' = w) noX := by
  refine h_met RX3 rfl (by decide) (Nat.le_of_ble_eq_true rfl) (cat_c (by first | rfl | exact rf_cat _) (cat_c (by first | rfl | exact rf_cat _) cat_n)) ?_
  intro p e s m below meth c A C hnt hr hnm
  obtain ⟨hm, r0, r1, r2, r3, r4, r5, r6, r7, r8, r9, r10, r11, r12, hinj, hn⟩ := id hR
  refine g_iconst C (v := 1) dX3_isCommon_0 (by decide) ?_
  refine g_istore_n C dX3_isCommon_1 rfl (by decide) ?_
  refine g_iconst C (v := 0) dX3_isCommon_2 (by decide) ?_
  refine g_istore_n C dX3_isCommon_3 rfl (by decide) ?_
  refine g_loop (σ := Nat) (fun k => k ≤ 6) (fun k => 6 - k) (fun k => w) (fun k => [(0, .ref mo), (1, .int (nI t)), (2, .int (bI (iter (cmS B t) true k))), (3, .int (nI k))]) ?_ 0 (Nat.zero_le _)
  intro k hkk ihk
  (try dsimp only at ihk ⊢)
  cases hac : iter (cmS B t) true k with
  | true =>
    refine g_iload_n C dX3_isCommon_4 rfl rfl ?_
    refine g_bipush C (v := 6) dX3_isCommon_5 (by decide) ?_
    refine g_icmp_ge C 40 dX3_isCommon_7 (by decide) (fun c7 => ?_) (fun c7 => ?_)
    · obtain rfl : k = 6 := by have := (nI_leI (a := 6) (b := k) (by decide) (by omega)).mp c7; omega
      refine g_iload_n C dX3_isCommon_40 rfl rfl ?_
      exact g_zret C hr rfl dX3_isCommon_41 (by decide) (by decide) ⟨by rw [cmB, hac], rfl⟩
    · have hlt : k < 6 := nI_nge c7 (by omega) (by decide)
      refine g_iload_n C dX3_isCommon_10 rfl rfl ?_
      refine g_if_eq C 32 dX3_isCommon_11 (by decide) (fun c11 => absurd c11 (by decide)) (fun _ => ?_)
      first | refine g_aload_n C dX3_isCommon_14 rfl rfl ?_ | refine g_aload_nN C dX3_isCommon_14 rfl rfl ?_ | refine g_aload_nq C dX3_isCommon_14 rfl rfl ?_
      refine g_get C dX3_isCommon_15 hm rfl kw_X3 9 (by decide) kfX3_32 rfl rfl ?_
      refine g_bipush C (v := 120) dX3_isCommon_18 (by decide) ?_
      refine g_iload_n C dX3_isCommon_20 rfl rfl ?_
      refine g_imul C dX3_isCommon_21 ?_
      refine g_iload_n C dX3_isCommon_22 rfl rfl ?_
      refine g_iadd C dX3_isCommon_23 ?_
      refine g_eq (ix120 k t) ?_
      refine g_zaldN C dX3_isCommon_24 r7 (by omega) (by decide) ?_
      refine g_if_eq C 32 dX3_isCommon_25 (by decide) (fun c25 => ?_) (fun c25 => ?_)
      · have c25 := bI_z.mp c25
        refine g_iconst C (v := 0) dX3_isCommon_32 (by decide) ?_
        refine g_istore_n C dX3_isCommon_33 rfl (by decide) ?_
        refine g_iinc C (v := nI (k + 1)) dX3_isCommon_34 rfl (nI_1 k) (by decide) ?_
        refine g_goto C 4 dX3_isCommon_37 (by decide) ?_
        have hs := ihk (k + 1) hlt (by omega)
        (try dsimp only at hs)
        have e9 : iter (cmS B t) true (k + 1) = false := by show (cmS B t) (iter (cmS B t) true k) k = _; rw [hac]; simp [cmS, c7, c25]
        rw [e9] at hs
        exact hs
      · have c25 := bI_nz.mp c25
        refine g_iconst C (v := 1) dX3_isCommon_28 (by decide) ?_
        refine g_goto C 33 dX3_isCommon_29 (by decide) ?_
        refine g_istore_n C dX3_isCommon_33 rfl (by decide) ?_
        refine g_iinc C (v := nI (k + 1)) dX3_isCommon_34 rfl (nI_1 k) (by decide) ?_
        refine g_goto C 4 dX3_isCommon_37 (by decide) ?_
        have hs := ihk (k + 1) hlt (by omega)
        (try dsimp only at hs)
        have e9 : iter (cmS B t) true (k + 1) = true := by show (cmS B t) (iter (cmS B t) true k) k = _; rw [hac]; simp [cmS, c7, c25]
        rw [e9] at hs
        exact hs
  | false =>
    refine g_iload_n C dX3_isCommon_4 rfl rfl ?_
    refine g_bipush C (v := 6) dX3_isCommon_5 (by decide) ?_
    refine g_icmp_ge C 40 dX3_isCommon_7 (by decide) (fun c7 => ?_) (fun c7 => ?_)
    · obtain rfl : k = 6 := by have := (nI_leI (a := 6) (b := k) (by decide) (by omega)).mp c7; omega
      refine g_iload_n C dX3_isCommon_40 rfl rfl ?_
      exact g_zret C hr rfl dX3_isCommon_41 (by decide) (by decide) ⟨by rw [cmB, hac], rfl⟩
    · have hlt : k < 6 := nI_nge c7 (by omega) (by decide)
      refine g_iload_n C dX3_isCommon_10 rfl rfl ?_
      refine g_if_eq C 32 dX3_isCommon_11 (by decide) (fun _ => ?_) (fun c11 => absurd (rfl) c11)
      refine g_iconst C (v := 0) dX3_isCommon_32 (by decide) ?_
      refine g_istore_n C dX3_isCommon_33 rfl (by decide) ?_
      refine g_iinc C (v := nI (k + 1)) dX3_isCommon_34 rfl (nI_1 k) (by decide) ?_
      refine g_goto C 4 dX3_isCommon_37 (by decide) ?_
      have hs := ihk (k + 1) hlt (by omega)
      (try dsimp only at hs)
      have e9 : iter (cmS B t) true (k + 1) = false := by show (cmS B t) (iter (cmS B t) true k) k = _; rw [hac]; simp [cmS, c7]
      rw [e9] at hs
      exact hs

set_option maxHeartbeats 4000000 in
set_option maxRecDepth 100000 in
theorem c_X3_isPast (l : Launch) (G : hD) (w : hW) (mo : Nat) (M : Nat → Nat) (n : Nat) (I : Nat → Nat → Int32) (B : Nat → Nat → Bool) (thr ord mny : Int32) (hR : MR G mo M n I B thr ord mny w) (t : Nat) (ht : t < 120) : h_Met l yX3_isPast (Cond.code yX3_isPast cX3_isPast 4 (some .boolean)) { frames := 1, cells := 0, slots := 0, locals := 24 } G [.ref mo, .int (nI t)] w (fun v w' => v = some (.int (bI (paB I B n t))) ∧ w' = w) noX := by
  refine h_met RX3 rfl (by decide) (Nat.le_of_ble_eq_true rfl) (cat_c (by first | rfl | exact rf_cat _) (cat_c (by first | rfl | exact rf_cat _) cat_n)) ?_
  intro p e s m below meth c A C hnt hr hnm
  obtain ⟨hm, r0, r1, r2, r3, r4, r5, r6, r7, r8, r9, r10, r11, r12, hinj, hn⟩ := id hR
  refine g_iconst C (v := 0) dX3_isPast_0 (by decide) ?_
  refine g_istore_n C dX3_isPast_1 rfl (by decide) ?_
  refine g_iconst C (v := 0) dX3_isPast_2 (by decide) ?_
  refine g_istore_n C dX3_isPast_3 rfl (by decide) ?_
  refine g_loop (σ := Nat) (fun k => k ≤ n) (fun k => n - k) (fun k => w) (fun k => [(0, .ref mo), (1, .int (nI t)), (2, .int (bI (iter (paS I B t) false k))), (3, .int (nI k))]) ?_ 0 (Nat.zero_le _)
  intro k hkk ihk
  (try dsimp only at ihk ⊢)
  cases hac : iter (paS I B t) false k with
  | true =>
    refine g_iload_n C dX3_isPast_4 rfl rfl ?_
    first | refine g_aload_n C dX3_isPast_5 rfl rfl ?_ | refine g_aload_nN C dX3_isPast_5 rfl rfl ?_ | refine g_aload_nq C dX3_isPast_5 rfl rfl ?_
    refine g_get C dX3_isPast_6 hm rfl kw_X3 1 (by decide) kfX3_58 rfl rfl ?_
    refine g_icmp_ge C 61 dX3_isPast_9 (by decide) (fun c9 => ?_) (fun c9 => ?_)
    · have hkn : n = k := by have := (nI_leI (a := n) (b := k) (by omega) (by omega)).mp c9; omega
      subst hkn
      refine g_iload_n C dX3_isPast_61 rfl rfl ?_
      refine g_if_eq C 77 dX3_isPast_62 (by decide) (fun c62 => absurd c62 (by decide)) (fun _ => ?_)
      first | refine g_aload_n C dX3_isPast_65 rfl rfl ?_ | refine g_aload_nN C dX3_isPast_65 rfl rfl ?_ | refine g_aload_nq C dX3_isPast_65 rfl rfl ?_
      refine g_iload_n C dX3_isPast_66 rfl rfl ?_
      refine g_callVn C _ dX3_isPast_67 (c_X3_isCommon l G _ _ _ _ _ _ _ _ _ hR t (by omega)) kmX3_123 ki_X3_isCommon kv_X3_isCommon kn_X3 kc_X3_isCommon hy_X3_isCommon ⟨by decide, by decide⟩ hm rfl rfl (Nat.le_of_ble_eq_true rfl) ⟨by decide, by decide⟩ (fun v w1 hp => ?_)
      obtain ⟨rfl, hw1⟩ := hp
      have hw1 := hw1.symm
      subst hw1
      refine g_if_eq C 77 dX3_isPast_70 (by decide) (fun c70 => ?_) (fun c70 => ?_)
      · have c70 := bI_z.mp c70
        refine g_iconst C (v := 0) dX3_isPast_77 (by decide) ?_
        exact g_zret C hr rfl dX3_isPast_78 (by decide) (by decide) ⟨by simp [paB, hac, bI, c9, c70], rfl⟩
      · have c70 := bI_nz.mp c70
        refine g_iconst C (v := 1) dX3_isPast_73 (by decide) ?_
        refine g_goto C 78 dX3_isPast_74 (by decide) ?_
        exact g_zret C hr rfl dX3_isPast_78 (by decide) (by decide) ⟨by simp [paB, hac, bI, c9, c70], rfl⟩
    · have hlt : k < n := nI_nge c9 (by omega) (by omega)
      refine g_iload_n C dX3_isPast_12 rfl rfl ?_
      refine g_if_ne C 49 dX3_isPast_13 (by decide) (fun _ => ?_) (fun c13 => absurd c13 (by decide))
      refine g_iconst C (v := 1) dX3_isPast_49 (by decide) ?_
      refine g_goto C 54 dX3_isPast_50 (by decide) ?_
      refine g_istore_n C dX3_isPast_54 rfl (by decide) ?_
      refine g_iinc C (v := nI (k + 1)) dX3_isPast_55 rfl (nI_1 k) (by decide) ?_
      refine g_goto C 4 dX3_isPast_58 (by decide) ?_
      have hs := ihk (k + 1) hlt (by omega)
      (try dsimp only at hs)
      have e9 : iter (paS I B t) false (k + 1) = true := by show (paS I B t) (iter (paS I B t) false k) k = _; rw [hac]; simp [paS, c9]
      rw [e9] at hs
      exact hs
  | false =>
    refine g_iload_n C dX3_isPast_4 rfl rfl ?_
    first | refine g_aload_n C dX3_isPast_5 rfl rfl ?_ | refine g_aload_nN C dX3_isPast_5 rfl rfl ?_ | refine g_aload_nq C dX3_isPast_5 rfl rfl ?_
    refine g_get C dX3_isPast_6 hm rfl kw_X3 1 (by decide) kfX3_58 rfl rfl ?_
    refine g_icmp_ge C 61 dX3_isPast_9 (by decide) (fun c9 => ?_) (fun c9 => ?_)
    · have hkn : n = k := by have := (nI_leI (a := n) (b := k) (by omega) (by omega)).mp c9; omega
      subst hkn
      refine g_iload_n C dX3_isPast_61 rfl rfl ?_
      refine g_if_eq C 77 dX3_isPast_62 (by decide) (fun _ => ?_) (fun c62 => absurd (rfl) c62)
      refine g_iconst C (v := 0) dX3_isPast_77 (by decide) ?_
      exact g_zret C hr rfl dX3_isPast_78 (by decide) (by decide) ⟨by simp [paB, hac, bI, c9], rfl⟩
    · have hlt : k < n := nI_nge c9 (by omega) (by omega)
      refine g_iload_n C dX3_isPast_12 rfl rfl ?_
      refine g_if_ne C 49 dX3_isPast_13 (by decide) (fun c13 => absurd (rfl) c13) (fun _ => ?_)
      first | refine g_aload_n C dX3_isPast_16 rfl rfl ?_ | refine g_aload_nN C dX3_isPast_16 rfl rfl ?_ | refine g_aload_nq C dX3_isPast_16 rfl rfl ?_
      refine g_iconst C (v := 0) dX3_isPast_17 (by decide) ?_
      refine g_iload_n C dX3_isPast_18 rfl rfl ?_
      first | refine g_aload_n C dX3_isPast_19 rfl rfl ?_ | refine g_aload_nN C dX3_isPast_19 rfl rfl ?_ | refine g_aload_nq C dX3_isPast_19 rfl rfl ?_
      refine g_get C dX3_isPast_20 hm rfl kw_X3 5 (by decide) kfX3_19 rfl rfl ?_
      refine g_iload_n C dX3_isPast_23 rfl rfl ?_
      refine g_ialdN C dX3_isPast_24 r3 ht (by decide) ?_
      refine g_iconst C (v := 0) dX3_isPast_25 (by decide) ?_
      refine g_callVn C _ dX3_isPast_26 (c_X3_isOf l G _ _ _ _ _ _ _ _ _ hR 0 k _ _ (by omega) (by omega)) kmX3_79 ki_X3_isOf kv_X3_isOf kn_X3 kc_X3_isOf hy_X3_isOf ⟨by decide, by decide⟩ hm rfl rfl (Nat.le_of_ble_eq_true rfl) ⟨by decide, by decide⟩ (fun v w1 hp => ?_)
      obtain ⟨rfl, hw1⟩ := hp
      have hw1 := hw1.symm
      subst hw1
      refine g_if_eq C 53 dX3_isPast_29 (by decide) (fun c29 => ?_) (fun c29 => ?_)
      · have c29 := bI_z.mp c29
        refine g_iconst C (v := 0) dX3_isPast_53 (by decide) ?_
        refine g_istore_n C dX3_isPast_54 rfl (by decide) ?_
        refine g_iinc C (v := nI (k + 1)) dX3_isPast_55 rfl (nI_1 k) (by decide) ?_
        refine g_goto C 4 dX3_isPast_58 (by decide) ?_
        have hs := ihk (k + 1) hlt (by omega)
        (try dsimp only at hs)
        have e9 : iter (paS I B t) false (k + 1) = false := by show (paS I B t) (iter (paS I B t) false k) k = _; rw [hac]; simp [paS, c9, c29]
        rw [e9] at hs
        exact hs
      · have c29 := bI_nz.mp c29
        first | refine g_aload_n C dX3_isPast_32 rfl rfl ?_ | refine g_aload_nN C dX3_isPast_32 rfl rfl ?_ | refine g_aload_nq C dX3_isPast_32 rfl rfl ?_
        refine g_iload_n C dX3_isPast_33 rfl rfl ?_
        refine g_iload_n C dX3_isPast_34 rfl rfl ?_
        refine g_callVn C _ dX3_isPast_35 (c_X3_earlier l G _ _ _ _ _ _ _ _ _ hR t k (by omega) (by omega)) kmX3_83 ki_X3_earlier kv_X3_earlier kn_X3 kc_X3_earlier hy_X3_earlier ⟨by decide, by decide⟩ hm rfl rfl (Nat.le_of_ble_eq_true rfl) ⟨by decide, by decide⟩ (fun v w1 hp => ?_)
        obtain ⟨rfl, hw1⟩ := hp
        have hw1 := hw1.symm
        subst hw1
        refine g_if_eq C 53 dX3_isPast_38 (by decide) (fun c38 => ?_) (fun c38 => ?_)
        · have c38 := bI_z.mp c38
          refine g_iconst C (v := 0) dX3_isPast_53 (by decide) ?_
          refine g_istore_n C dX3_isPast_54 rfl (by decide) ?_
          refine g_iinc C (v := nI (k + 1)) dX3_isPast_55 rfl (nI_1 k) (by decide) ?_
          refine g_goto C 4 dX3_isPast_58 (by decide) ?_
          have hs := ihk (k + 1) hlt (by omega)
          (try dsimp only at hs)
          have e9 : iter (paS I B t) false (k + 1) = false := by show (paS I B t) (iter (paS I B t) false k) k = _; rw [hac]; simp [paS, c9, c29, c38]
          rw [e9] at hs
          exact hs
        · have c38 := bI_nz.mp c38
          first | refine g_aload_n C dX3_isPast_41 rfl rfl ?_ | refine g_aload_nN C dX3_isPast_41 rfl rfl ?_ | refine g_aload_nq C dX3_isPast_41 rfl rfl ?_
          refine g_iload_n C dX3_isPast_42 rfl rfl ?_
          refine g_callVn C _ dX3_isPast_43 (c_X3_isCommon l G _ _ _ _ _ _ _ _ _ hR k (by omega)) kmX3_123 ki_X3_isCommon kv_X3_isCommon kn_X3 kc_X3_isCommon hy_X3_isCommon ⟨by decide, by decide⟩ hm rfl rfl (Nat.le_of_ble_eq_true rfl) ⟨by decide, by decide⟩ (fun v w1 hp => ?_)
          obtain ⟨rfl, hw1⟩ := hp
          have hw1 := hw1.symm
          subst hw1
          refine g_if_eq C 53 dX3_isPast_46 (by decide) (fun c46 => ?_) (fun c46 => ?_)
          · have c46 := bI_z.mp c46
            refine g_iconst C (v := 0) dX3_isPast_53 (by decide) ?_
            refine g_istore_n C dX3_isPast_54 rfl (by decide) ?_
            refine g_iinc C (v := nI (k + 1)) dX3_isPast_55 rfl (nI_1 k) (by decide) ?_
            refine g_goto C 4 dX3_isPast_58 (by decide) ?_
            have hs := ihk (k + 1) hlt (by omega)
            (try dsimp only at hs)
            have e9 : iter (paS I B t) false (k + 1) = false := by show (paS I B t) (iter (paS I B t) false k) k = _; rw [hac]; simp [paS, c9, c29, c38, c46]
            rw [e9] at hs
            exact hs
          · have c46 := bI_nz.mp c46
            refine g_iconst C (v := 1) dX3_isPast_49 (by decide) ?_
            refine g_goto C 54 dX3_isPast_50 (by decide) ?_
            refine g_istore_n C dX3_isPast_54 rfl (by decide) ?_
            refine g_iinc C (v := nI (k + 1)) dX3_isPast_55 rfl (nI_1 k) (by decide) ?_
            refine g_goto C 4 dX3_isPast_58 (by decide) ?_
            have hs := ihk (k + 1) hlt (by omega)
            (try dsimp only at hs)
            have e9 : iter (paS I B t) false (k + 1) = true := by show (paS I B t) (iter (paS I B t) false k) k = _; rw [hac]; simp [paS, c9, c29, c38, c46]
            rw [e9] at hs
            exact hs

