/-! ===== the model: equal, count, join, compact ===== -/
def eqS (B : Nat → Nat → Bool) (d1 d2 : Nat) (acc : Bool) (t : Nat) : Bool := acc && (B 7 (120 * d1 + t) == B 7 (120 * d2 + t))
def dtS (B : Nat → Nat → Bool) (t : Nat) (acc : Int32) (d : Nat) : Int32 := cond (B 7 (120 * d + t)) (acc + 1) acc
def coS (B : Nat → Nat → Bool) (q : Int32) (acc : Int32) (t : Nat) : Int32 := cond (cond (decide (q = 1)) (B 6 t) (decide (0 < iter (dtS B t) 0 6) && decide (iter (dtS B t) 0 6 < 6))) (acc + 1) acc
def jmS (B : Nat → Nat → Bool) (d1 d2 : Nat) (acc : Int32) (t : Nat) : Int32 := cond (B 7 (120 * d2 + t) && !B 7 (120 * d1 + t)) (acc + 1) acc
def cpM (I : Nat → Nat → Int32) (B : Nat → Nat → Bool) (n t : Nat) : Bool := decide (I 2 t = 0) && paB I B n t
def cmpS (I : Nat → Nat → Int32) (B : Nat → Nat → Bool) (n : Nat) (acc : Int32) (t : Nat) : Int32 := cond (cpM I B n t) (acc + 1) acc

set_option maxHeartbeats 4000000 in
set_option maxRecDepth 100000 in
theorem c_X3_equal (l : Launch) (G : hD) (w : hW) (mo : Nat) (M : Nat → Nat) (n : Nat) (I : Nat → Nat → Int32) (B : Nat → Nat → Bool) (thr ord mny : Int32) (hR : MR G mo M n I B thr ord mny w) (x9 y9 : Int32) : h_Met l yX3_equal (Cond.code yX3_equal cX3_equal 5 (some .boolean)) { frames := 2, cells := 0, slots := 0, locals := 60 } G [.ref mo, .int x9, .int y9] w (mP G mo M n I B ord mny w (isDk x9 && isDk y9) (true) (true) (fun x w' => ∃ x' y', x' < 6 ∧ y' < 6 ∧ x9 = nI x' ∧ y9 = nI y' ∧ mS G mo M n I B ord mny w (bI (iter (eqS B x' y') true n)) x w')) noX := by
  refine h_met RX3 rfl (by decide) (Nat.le_of_ble_eq_true rfl) (cat_c (by first | rfl | exact rf_cat _) (cat_c (by first | rfl | exact rf_cat _) (cat_c (by first | rfl | exact rf_cat _) cat_n))) ?_
  intro p e s m below meth c A C hnt hr hnm
  obtain ⟨hm, r0, r1, r2, r3, r4, r5, r6, r7, r8, r9, r10, r11, r12, hinj, hn⟩ := id hR
  first | refine g_aload_n C dX3_equal_0 rfl rfl ?_ | refine g_aload_nN C dX3_equal_0 rfl rfl ?_ | refine g_aload_nq C dX3_equal_0 rfl rfl ?_
  refine g_iload_n C dX3_equal_1 rfl rfl ?_
  refine g_callSn C _ dX3_equal_2 (c_X3_isDesk l G _ _) kmX3_54 ks_X3_isDesk kn_X3 kc_X3_isDesk hy_X3_isDesk ⟨by decide, by decide⟩ rfl (Nat.le_of_ble_eq_true rfl) ⟨by decide, by decide⟩ (fun v w1 hp => ?_)
  obtain ⟨rfl, hw1⟩ := hp
  have hw1 := hw1.symm
  subst hw1
  refine g_if_eq C 19 dX3_equal_5 (by decide) (fun c5 => ?_) (fun c5 => ?_)
  · have c5 := bI_z.mp c5
    refine g_iconst C (v := 0) dX3_equal_19 (by decide) ?_
    refine g_iconst C (v := 1) dX3_equal_20 (by decide) ?_
    refine g_iconst C (v := 1) dX3_equal_21 (by decide) ?_
    refine g_callVn C _ dX3_equal_22 (c_X3_goes l G _ _ _ _ _ _ _ _ _ hR (false) (true) (true)) kmX3_68 ki_X3_goes kv_X3_goes kn_X3 kc_X3_goes hy_X3_goes ⟨by decide, by decide⟩ hm rfl rfl (Nat.le_of_ble_eq_true rfl) ⟨by decide, by decide⟩ (fun v w1 hp => ?_)
    obtain ⟨rfl, hw1⟩ := hp
    have hw1 := hw1.symm
    subst hw1
    have hR := hR.upM (thC (false) (true) (true)) ord mny hn
    obtain ⟨hm, r0, r1, r2, r3, r4, r5, r6, r7, r8, r9, r10, r11, r12, hinj, hn⟩ := id hR
    have hf1 : fr (MD mo M) w _ := fr.rf.up (b := mo) (e := cellM M (thC (false) (true) (true)) n ord mny) MD.m
    refine g_if_ne C 30 dX3_equal_25 (by decide) (fun c25 => absurd (by simp [bI]) c25) (fun _ => ?_)
    refine g_iconst C (v := 0) dX3_equal_28 (by decide) ?_
    have hp1 : (isDk x9 && isDk y9) = (false) := by first | rfl | simp [c5]
    have hp2 : (true) = (true) := by first | rfl | simp []
    have hp3 : (true) = (true) := by first | rfl | simp []
    refine g_zret C hr rfl dX3_equal_29 (by decide) (by decide) ?_
    rw [hp3, hp2, hp1]
    exact Or.inl ⟨by simp, rfl, hR, hf1⟩
  · have c5 := bI_nz.mp c5
    refine g_iload_n C dX3_equal_8 rfl rfl ?_
    refine g_callSn C _ dX3_equal_9 (c_X3_isDesk l G _ _) kmX3_54 ks_X3_isDesk kn_X3 kc_X3_isDesk hy_X3_isDesk ⟨by decide, by decide⟩ rfl (Nat.le_of_ble_eq_true rfl) ⟨by decide, by decide⟩ (fun v w1 hp => ?_)
    obtain ⟨rfl, hw1⟩ := hp
    have hw1 := hw1.symm
    subst hw1
    refine g_if_eq C 19 dX3_equal_12 (by decide) (fun c12 => ?_) (fun c12 => ?_)
    · have c12 := bI_z.mp c12
      refine g_iconst C (v := 0) dX3_equal_19 (by decide) ?_
      refine g_iconst C (v := 1) dX3_equal_20 (by decide) ?_
      refine g_iconst C (v := 1) dX3_equal_21 (by decide) ?_
      refine g_callVn C _ dX3_equal_22 (c_X3_goes l G _ _ _ _ _ _ _ _ _ hR (false) (true) (true)) kmX3_68 ki_X3_goes kv_X3_goes kn_X3 kc_X3_goes hy_X3_goes ⟨by decide, by decide⟩ hm rfl rfl (Nat.le_of_ble_eq_true rfl) ⟨by decide, by decide⟩ (fun v w1 hp => ?_)
      obtain ⟨rfl, hw1⟩ := hp
      have hw1 := hw1.symm
      subst hw1
      have hR := hR.upM (thC (false) (true) (true)) ord mny hn
      obtain ⟨hm, r0, r1, r2, r3, r4, r5, r6, r7, r8, r9, r10, r11, r12, hinj, hn⟩ := id hR
      have hf1 : fr (MD mo M) w _ := fr.rf.up (b := mo) (e := cellM M (thC (false) (true) (true)) n ord mny) MD.m
      refine g_if_ne C 30 dX3_equal_25 (by decide) (fun c25 => absurd (by simp [bI]) c25) (fun _ => ?_)
      refine g_iconst C (v := 0) dX3_equal_28 (by decide) ?_
      have hp1 : (isDk x9 && isDk y9) = (false) := by first | rfl | simp [c5, c12]
      have hp2 : (true) = (true) := by first | rfl | simp []
      have hp3 : (true) = (true) := by first | rfl | simp []
      refine g_zret C hr rfl dX3_equal_29 (by decide) (by decide) ?_
      rw [hp3, hp2, hp1]
      exact Or.inl ⟨by simp, rfl, hR, hf1⟩
    · have c12 := bI_nz.mp c12
      refine g_iconst C (v := 1) dX3_equal_15 (by decide) ?_
      refine g_goto C 20 dX3_equal_16 (by decide) ?_
      refine g_iconst C (v := 1) dX3_equal_20 (by decide) ?_
      refine g_iconst C (v := 1) dX3_equal_21 (by decide) ?_
      refine g_callVn C _ dX3_equal_22 (c_X3_goes l G _ _ _ _ _ _ _ _ _ hR (true) (true) (true)) kmX3_68 ki_X3_goes kv_X3_goes kn_X3 kc_X3_goes hy_X3_goes ⟨by decide, by decide⟩ hm rfl rfl (Nat.le_of_ble_eq_true rfl) ⟨by decide, by decide⟩ (fun v w1 hp => ?_)
      obtain ⟨rfl, hw1⟩ := hp
      have hw1 := hw1.symm
      subst hw1
      have hR := hR.upM (thC (true) (true) (true)) ord mny hn
      obtain ⟨hm, r0, r1, r2, r3, r4, r5, r6, r7, r8, r9, r10, r11, r12, hinj, hn⟩ := id hR
      have hf1 : fr (MD mo M) w _ := fr.rf.up (b := mo) (e := cellM M (thC (true) (true) (true)) n ord mny) MD.m
      refine g_if_ne C 30 dX3_equal_25 (by decide) (fun _ => ?_) (fun c25 => absurd c25 (by simp [bI]))
      obtain ⟨x', hx', rfl⟩ := isDk_nI c5
      obtain ⟨y', hy', rfl⟩ := isDk_nI c12
      refine g_iconst C (v := 1) dX3_equal_30 (by decide) ?_
      refine g_istore_n C dX3_equal_31 rfl (by decide) ?_
      refine g_iconst C (v := 0) dX3_equal_32 (by decide) ?_
      refine g_istore C dX3_equal_33 (by decide) ?_
      refine g_loop (σ := Nat) (fun k => k ≤ n) (fun k => n - k) (fun k => (h_up w mo (cellM M (thC (true) (true) (true)) n ord mny))) (fun k => [(0, .ref mo), (1, .int (nI x')), (2, .int (nI y')), (3, .int (bI (iter (eqS B x' y') true k))), (4, .int (nI k))]) ?_ 0 (Nat.zero_le _)
      intro k hkk ihk
      (try dsimp only at ihk ⊢)
      cases hac : iter (eqS B x' y') true k with
      | true =>
        refine g_iload C dX3_equal_35 rfl ?_
        first | refine g_aload_n C dX3_equal_37 rfl rfl ?_ | refine g_aload_nN C dX3_equal_37 rfl rfl ?_ | refine g_aload_nq C dX3_equal_37 rfl rfl ?_
        refine g_get C dX3_equal_38 hm rfl kw_X3 1 (by decide) kfX3_58 rfl rfl ?_
        refine g_icmp_ge C 87 dX3_equal_41 (by decide) (fun c41 => ?_) (fun c41 => ?_)
        · have hkn : n = k := by have := (nI_leI (a := n) (b := k) (by omega) (by omega)).mp c41; omega
          subst hkn
          refine g_iload_n C dX3_equal_87 rfl rfl ?_
          have hp1 : (isDk (nI x') && isDk (nI y')) = (true) := by first | rfl | simp [c5, c12]
          have hp2 : (true) = (true) := by first | rfl | simp []
          have hp3 : (true) = (true) := by first | rfl | simp []
          have hth := thC_t (rfl : (true && (true && true)) = true)
          refine g_zret C hr rfl dX3_equal_88 (by decide) (by decide) ?_
          rw [hp3, hp2, hp1]
          exact Or.inr ⟨(rfl : (true && (true && true)) = true), _, rfl, _, _, hx', hy', rfl, rfl, by rw [hac], hR.th hth, hf1⟩
        · have hlt : k < n := nI_nge c41 (by omega) (by omega)
          refine g_iload_n C dX3_equal_44 rfl rfl ?_
          refine g_if_eq C 79 dX3_equal_45 (by decide) (fun c45 => absurd c45 (by decide)) (fun _ => ?_)
          first | refine g_aload_n C dX3_equal_48 rfl rfl ?_ | refine g_aload_nN C dX3_equal_48 rfl rfl ?_ | refine g_aload_nq C dX3_equal_48 rfl rfl ?_
          refine g_get C dX3_equal_49 hm rfl kw_X3 9 (by decide) kfX3_32 rfl rfl ?_
          refine g_bipush C (v := 120) dX3_equal_52 (by decide) ?_
          refine g_iload_n C dX3_equal_54 rfl rfl ?_
          refine g_imul C dX3_equal_55 ?_
          refine g_iload C dX3_equal_56 rfl ?_
          refine g_iadd C dX3_equal_58 ?_
          refine g_eq (ix120 x' k) ?_
          refine g_zaldN C dX3_equal_59 r7 (by omega) (by decide) ?_
          first | refine g_aload_n C dX3_equal_60 rfl rfl ?_ | refine g_aload_nN C dX3_equal_60 rfl rfl ?_ | refine g_aload_nq C dX3_equal_60 rfl rfl ?_
          refine g_get C dX3_equal_61 hm rfl kw_X3 9 (by decide) kfX3_32 rfl rfl ?_
          refine g_bipush C (v := 120) dX3_equal_64 (by decide) ?_
          refine g_iload_n C dX3_equal_66 rfl rfl ?_
          refine g_imul C dX3_equal_67 ?_
          refine g_iload C dX3_equal_68 rfl ?_
          refine g_iadd C dX3_equal_70 ?_
          refine g_eq (ix120 y' k) ?_
          refine g_zaldN C dX3_equal_71 r7 (by omega) (by decide) ?_
          refine g_icmp_ne C 79 dX3_equal_72 (by decide) (fun c72 => ?_) (fun c72 => ?_)
          · have c72 := mt bI_inj.mpr c72
            refine g_iconst C (v := 0) dX3_equal_79 (by decide) ?_
            refine g_istore_n C dX3_equal_80 rfl (by decide) ?_
            refine g_iinc C (v := nI (k + 1)) dX3_equal_81 rfl (nI_1 k) (by decide) ?_
            refine g_goto C 35 dX3_equal_84 (by decide) ?_
            have hs := ihk (k + 1) hlt (by omega)
            (try dsimp only at hs)
            have e9 : iter (eqS B x' y') true (k + 1) = false := by show (eqS B x' y') (iter (eqS B x' y') true k) k = _; rw [hac]; simp [eqS, c41, c72]
            rw [e9] at hs
            exact hs
          · have c72 := bI_inj.mp c72
            refine g_iconst C (v := 1) dX3_equal_75 (by decide) ?_
            refine g_goto C 80 dX3_equal_76 (by decide) ?_
            refine g_istore_n C dX3_equal_80 rfl (by decide) ?_
            refine g_iinc C (v := nI (k + 1)) dX3_equal_81 rfl (nI_1 k) (by decide) ?_
            refine g_goto C 35 dX3_equal_84 (by decide) ?_
            have hs := ihk (k + 1) hlt (by omega)
            (try dsimp only at hs)
            have e9 : iter (eqS B x' y') true (k + 1) = true := by show (eqS B x' y') (iter (eqS B x' y') true k) k = _; rw [hac]; simp [eqS, c41, c72]
            rw [e9] at hs
            exact hs
      | false =>
        refine g_iload C dX3_equal_35 rfl ?_
        first | refine g_aload_n C dX3_equal_37 rfl rfl ?_ | refine g_aload_nN C dX3_equal_37 rfl rfl ?_ | refine g_aload_nq C dX3_equal_37 rfl rfl ?_
        refine g_get C dX3_equal_38 hm rfl kw_X3 1 (by decide) kfX3_58 rfl rfl ?_
        refine g_icmp_ge C 87 dX3_equal_41 (by decide) (fun c41 => ?_) (fun c41 => ?_)
        · have hkn : n = k := by have := (nI_leI (a := n) (b := k) (by omega) (by omega)).mp c41; omega
          subst hkn
          refine g_iload_n C dX3_equal_87 rfl rfl ?_
          have hp1 : (isDk (nI x') && isDk (nI y')) = (true) := by first | rfl | simp [c5, c12]
          have hp2 : (true) = (true) := by first | rfl | simp []
          have hp3 : (true) = (true) := by first | rfl | simp []
          have hth := thC_t (rfl : (true && (true && true)) = true)
          refine g_zret C hr rfl dX3_equal_88 (by decide) (by decide) ?_
          rw [hp3, hp2, hp1]
          exact Or.inr ⟨(rfl : (true && (true && true)) = true), _, rfl, _, _, hx', hy', rfl, rfl, by rw [hac], hR.th hth, hf1⟩
        · have hlt : k < n := nI_nge c41 (by omega) (by omega)
          refine g_iload_n C dX3_equal_44 rfl rfl ?_
          refine g_if_eq C 79 dX3_equal_45 (by decide) (fun _ => ?_) (fun c45 => absurd (rfl) c45)
          refine g_iconst C (v := 0) dX3_equal_79 (by decide) ?_
          refine g_istore_n C dX3_equal_80 rfl (by decide) ?_
          refine g_iinc C (v := nI (k + 1)) dX3_equal_81 rfl (nI_1 k) (by decide) ?_
          refine g_goto C 35 dX3_equal_84 (by decide) ?_
          have hs := ihk (k + 1) hlt (by omega)
          (try dsimp only at hs)
          have e9 : iter (eqS B x' y') true (k + 1) = false := by show (eqS B x' y') (iter (eqS B x' y') true k) k = _; rw [hac]; simp [eqS, c41]
          rw [e9] at hs
          exact hs

set_option maxHeartbeats 4000000 in
set_option maxRecDepth 100000 in
theorem c_X3_count (l : Launch) (G : hD) (w : hW) (mo : Nat) (M : Nat → Nat) (n : Nat) (I : Nat → Nat → Int32) (B : Nat → Nat → Bool) (thr ord mny : Int32) (hR : MR G mo M n I B thr ord mny w) (q : Int32) : h_Met l yX3_count (Cond.code yX3_count cX3_count 6 (some .int)) { frames := 2, cells := 0, slots := 0, locals := 60 } G [.ref mo, .int q] w (mP G mo M n I B ord mny w (wiB q 0 2) (true) (true) (fun x w' => mS G mo M n I B ord mny w (if q = 0 then nI n else iter (coS B q) 0 n) x w')) noX := by
  refine h_met RX3 rfl (by decide) (Nat.le_of_ble_eq_true rfl) (cat_c (by first | rfl | exact rf_cat _) (cat_c (by first | rfl | exact rf_cat _) cat_n)) ?_
  intro p e s m below meth c A C hnt hr hnm
  obtain ⟨hm, r0, r1, r2, r3, r4, r5, r6, r7, r8, r9, r10, r11, r12, hinj, hn⟩ := id hR
  first | refine g_aload_n C dX3_count_0 rfl rfl ?_ | refine g_aload_nN C dX3_count_0 rfl rfl ?_ | refine g_aload_nq C dX3_count_0 rfl rfl ?_
  refine g_iload_n C dX3_count_1 rfl rfl ?_
  refine g_iconst C (v := 0) dX3_count_2 (by decide) ?_
  refine g_iconst C (v := 2) dX3_count_3 (by decide) ?_
  refine g_callSn C _ dX3_count_4 (c_X3_within l G _ _ _ _) kmX3_64 ks_X3_within kn_X3 kc_X3_within hy_X3_within ⟨by decide, by decide⟩ rfl (Nat.le_of_ble_eq_true rfl) ⟨by decide, by decide⟩ (fun v w1 hp => ?_)
  obtain ⟨rfl, hw1⟩ := hp
  have hw1 := hw1.symm
  subst hw1
  refine g_iconst C (v := 1) dX3_count_7 (by decide) ?_
  refine g_iconst C (v := 1) dX3_count_8 (by decide) ?_
  refine g_callVn C _ dX3_count_9 (c_X3_goes l G _ _ _ _ _ _ _ _ _ hR (wiB q 0 2) (true) (true)) kmX3_68 ki_X3_goes kv_X3_goes kn_X3 kc_X3_goes hy_X3_goes ⟨by decide, by decide⟩ hm rfl rfl (Nat.le_of_ble_eq_true rfl) ⟨by decide, by decide⟩ (fun v w1 hp => ?_)
  obtain ⟨rfl, hw1⟩ := hp
  have hw1 := hw1.symm
  subst hw1
  have hR := hR.upM (thC (wiB q 0 2) (true) (true)) ord mny hn
  obtain ⟨hm, r0, r1, r2, r3, r4, r5, r6, r7, r8, r9, r10, r11, r12, hinj, hn⟩ := id hR
  have hf1 : fr (MD mo M) w _ := fr.rf.up (b := mo) (e := cellM M (thC (wiB q 0 2) (true) (true)) n ord mny) MD.m
  refine g_if_ne C 17 dX3_count_12 (by decide) (fun c12 => ?_) (fun c12 => ?_)
  · have c12 := bI_nz.mp c12
    refine g_iconst C (v := 0) dX3_count_17 (by decide) ?_
    refine g_istore_n C dX3_count_18 rfl (by decide) ?_
    refine g_iconst C (v := 0) dX3_count_19 (by decide) ?_
    refine g_istore_n C dX3_count_20 rfl (by decide) ?_
    refine g_loop (σ := Nat) (fun k => k ≤ n) (fun k => n - k) (fun k => (h_up w mo (cellM M (thC (wiB q 0 2) (true) (true)) n ord mny))) (fun k => [(0, .ref mo), (1, .int q), (2, .int (iter (coS B q) 0 k)), (3, .int (nI k))]) ?_ 0 (Nat.zero_le _)
    intro k hkk ihk
    (try dsimp only at ihk ⊢)
    refine g_iload_n C dX3_count_21 rfl rfl ?_
    first | refine g_aload_n C dX3_count_22 rfl rfl ?_ | refine g_aload_nN C dX3_count_22 rfl rfl ?_ | refine g_aload_nq C dX3_count_22 rfl rfl ?_
    refine g_get C dX3_count_23 hm rfl kw_X3 1 (by decide) kfX3_58 rfl rfl ?_
    refine g_icmp_ge C 124 dX3_count_26 (by decide) (fun c26 => ?_) (fun c26 => ?_)
    · have hkn : n = k := by have := (nI_leI (a := n) (b := k) (by omega) (by omega)).mp c26; omega
      subst hkn
      refine g_iload_n C dX3_count_124 rfl rfl ?_
      refine g_if_ne C 135 dX3_count_125 (by decide) (fun c125 => ?_) (fun c125 => ?_)
      · refine g_iload_n C dX3_count_135 rfl rfl ?_
        have hp1 : (wiB q 0 2) = (wiB q 0 2) := by first | rfl | simp []
        have hp2 : (true) = (true) := by first | rfl | simp []
        have hp3 : (true) = (true) := by first | rfl | simp []
        have hth := thC_t c12
        refine g_iret C hr dX3_count_136 (by decide) (by decide) ?_
        rw [hp3, hp2, hp1]
        exact Or.inr ⟨c12, _, rfl, by simp [c125], hR.th hth, hf1⟩
      · first | refine g_aload_n C dX3_count_128 rfl rfl ?_ | refine g_aload_nN C dX3_count_128 rfl rfl ?_ | refine g_aload_nq C dX3_count_128 rfl rfl ?_
        refine g_get C dX3_count_129 hm rfl kw_X3 1 (by decide) kfX3_58 rfl rfl ?_
        refine g_goto C 136 dX3_count_132 (by decide) ?_
        have hp1 : (wiB q 0 2) = (wiB q 0 2) := by first | rfl | simp []
        have hp2 : (true) = (true) := by first | rfl | simp []
        have hp3 : (true) = (true) := by first | rfl | simp []
        have hth := thC_t c12
        refine g_iret C hr dX3_count_136 (by decide) (by decide) ?_
        rw [hp3, hp2, hp1]
        exact Or.inr ⟨c12, _, rfl, by simp [c125], hR.th hth, hf1⟩
    · have hlt : k < n := nI_nge c26 (by omega) (by omega)
      refine g_iconst C (v := 0) dX3_count_29 (by decide) ?_
      refine g_istore C dX3_count_30 (by decide) ?_
      refine g_iconst C (v := 0) dX3_count_32 (by decide) ?_
      refine g_istore C dX3_count_33 (by decide) ?_
      refine g_loop (σ := Nat) (fun j => j ≤ 6) (fun j => 6 - j) (fun j => (h_up w mo (cellM M (thC (wiB q 0 2) (true) (true)) n ord mny))) (fun j => [(0, .ref mo), (1, .int q), (2, .int (iter (coS B q) 0 k)), (3, .int (nI k)), (4, .int (iter (dtS B k) 0 j)), (5, .int (nI j))]) ?_ 0 (Nat.zero_le _)
      intro j hkj ihj
      (try dsimp only at ihj ⊢)
      refine g_iload C dX3_count_35 rfl ?_
      refine g_bipush C (v := 6) dX3_count_37 (by decide) ?_
      refine g_icmp_ge C 74 dX3_count_39 (by decide) (fun c39 => ?_) (fun c39 => ?_)
      · obtain rfl : j = 6 := by have := (nI_leI (a := 6) (b := j) (by decide) (by omega)).mp c39; omega
        refine g_iload_n C dX3_count_74 rfl rfl ?_
        refine g_iconst C (v := 1) dX3_count_75 (by decide) ?_
        refine g_icmp_ne C 98 dX3_count_76 (by decide) (fun c76 => ?_) (fun c76 => ?_)
        · refine g_iload C dX3_count_98 rfl ?_
          refine g_if_le C 116 dX3_count_100 (by decide) (fun c100 => ?_) (fun c100 => ?_)
          · have c100 := Int32.not_lt.mpr c100
            refine g_iload_n C dX3_count_116 rfl rfl ?_
            refine g_istore_n C dX3_count_117 rfl (by decide) ?_
            refine g_iinc C (v := nI (k + 1)) dX3_count_118 rfl (nI_1 k) (by decide) ?_
            refine g_goto C 21 dX3_count_121 (by decide) ?_
            refine g_drop [(0, .ref mo), (1, .int q), (2, .int (iter (coS B q) 0 k)), (3, .int (nI (k + 1)))] _ rfl ?_
            have hs := ihk (k + 1) hlt (by omega)
            (try dsimp only at hs)
            have e9 : iter (coS B q) 0 (k + 1) = (iter (coS B q) 0 k) := by show (coS B q) (iter (coS B q) 0 k) k = _; simp [coS, c39, c76, c100]
            rw [e9] at hs
            exact hs
          · have c100 := Int32.not_le.mp c100
            refine g_iload C dX3_count_103 rfl ?_
            refine g_bipush C (v := 6) dX3_count_105 (by decide) ?_
            refine g_icmp_ge C 116 dX3_count_107 (by decide) (fun c107 => ?_) (fun c107 => ?_)
            · have c107 := Int32.not_lt.mpr c107
              refine g_iload_n C dX3_count_116 rfl rfl ?_
              refine g_istore_n C dX3_count_117 rfl (by decide) ?_
              refine g_iinc C (v := nI (k + 1)) dX3_count_118 rfl (nI_1 k) (by decide) ?_
              refine g_goto C 21 dX3_count_121 (by decide) ?_
              refine g_drop [(0, .ref mo), (1, .int q), (2, .int (iter (coS B q) 0 k)), (3, .int (nI (k + 1)))] _ rfl ?_
              have hs := ihk (k + 1) hlt (by omega)
              (try dsimp only at hs)
              have e9 : iter (coS B q) 0 (k + 1) = (iter (coS B q) 0 k) := by show (coS B q) (iter (coS B q) 0 k) k = _; simp [coS, c39, c76, c100, c107]
              rw [e9] at hs
              exact hs
            · have c107 := Int32.not_le.mp c107
              refine g_iload_n C dX3_count_110 rfl rfl ?_
              refine g_iconst C (v := 1) dX3_count_111 (by decide) ?_
              refine g_iadd C dX3_count_112 ?_
              refine g_goto C 117 dX3_count_113 (by decide) ?_
              refine g_istore_n C dX3_count_117 rfl (by decide) ?_
              refine g_iinc C (v := nI (k + 1)) dX3_count_118 rfl (nI_1 k) (by decide) ?_
              refine g_goto C 21 dX3_count_121 (by decide) ?_
              refine g_drop [(0, .ref mo), (1, .int q), (2, .int (iter (coS B q) 0 k + 1)), (3, .int (nI (k + 1)))] _ rfl ?_
              have hs := ihk (k + 1) hlt (by omega)
              (try dsimp only at hs)
              have e9 : iter (coS B q) 0 (k + 1) = (iter (coS B q) 0 k + 1) := by show (coS B q) (iter (coS B q) 0 k) k = _; simp [coS, c39, c76, c100, c107]
              rw [e9] at hs
              exact hs
        · first | refine g_aload_n C dX3_count_79 rfl rfl ?_ | refine g_aload_nN C dX3_count_79 rfl rfl ?_ | refine g_aload_nq C dX3_count_79 rfl rfl ?_
          refine g_get C dX3_count_80 hm rfl kw_X3 8 (by decide) kfX3_28 rfl rfl ?_
          refine g_iload_n C dX3_count_83 rfl rfl ?_
          refine g_zaldN C dX3_count_84 r6 (by omega) (by decide) ?_
          refine g_if_eq C 94 dX3_count_85 (by decide) (fun c85 => ?_) (fun c85 => ?_)
          · have c85 := bI_z.mp c85
            refine g_iload_n C dX3_count_94 rfl rfl ?_
            refine g_goto C 117 dX3_count_95 (by decide) ?_
            refine g_istore_n C dX3_count_117 rfl (by decide) ?_
            refine g_iinc C (v := nI (k + 1)) dX3_count_118 rfl (nI_1 k) (by decide) ?_
            refine g_goto C 21 dX3_count_121 (by decide) ?_
            refine g_drop [(0, .ref mo), (1, .int q), (2, .int (iter (coS B q) 0 k)), (3, .int (nI (k + 1)))] _ rfl ?_
            have hs := ihk (k + 1) hlt (by omega)
            (try dsimp only at hs)
            have e9 : iter (coS B q) 0 (k + 1) = (iter (coS B q) 0 k) := by show (coS B q) (iter (coS B q) 0 k) k = _; simp [coS, c39, c76, c85]
            rw [e9] at hs
            exact hs
          · have c85 := bI_nz.mp c85
            refine g_iload_n C dX3_count_88 rfl rfl ?_
            refine g_iconst C (v := 1) dX3_count_89 (by decide) ?_
            refine g_iadd C dX3_count_90 ?_
            refine g_goto C 117 dX3_count_91 (by decide) ?_
            refine g_istore_n C dX3_count_117 rfl (by decide) ?_
            refine g_iinc C (v := nI (k + 1)) dX3_count_118 rfl (nI_1 k) (by decide) ?_
            refine g_goto C 21 dX3_count_121 (by decide) ?_
            refine g_drop [(0, .ref mo), (1, .int q), (2, .int (iter (coS B q) 0 k + 1)), (3, .int (nI (k + 1)))] _ rfl ?_
            have hs := ihk (k + 1) hlt (by omega)
            (try dsimp only at hs)
            have e9 : iter (coS B q) 0 (k + 1) = (iter (coS B q) 0 k + 1) := by show (coS B q) (iter (coS B q) 0 k) k = _; simp [coS, c39, c76, c85]
            rw [e9] at hs
            exact hs
      · have hltj : j < 6 := nI_nge c39 (by omega) (by decide)
        first | refine g_aload_n C dX3_count_42 rfl rfl ?_ | refine g_aload_nN C dX3_count_42 rfl rfl ?_ | refine g_aload_nq C dX3_count_42 rfl rfl ?_
        refine g_get C dX3_count_43 hm rfl kw_X3 9 (by decide) kfX3_32 rfl rfl ?_
        refine g_bipush C (v := 120) dX3_count_46 (by decide) ?_
        refine g_iload C dX3_count_48 rfl ?_
        refine g_imul C dX3_count_50 ?_
        refine g_iload_n C dX3_count_51 rfl rfl ?_
        refine g_iadd C dX3_count_52 ?_
        refine g_eq (ix120 j k) ?_
        refine g_zaldN C dX3_count_53 r7 (by omega) (by decide) ?_
        refine g_if_eq C 64 dX3_count_54 (by decide) (fun c54 => ?_) (fun c54 => ?_)
        · have c54 := bI_z.mp c54
          refine g_iload C dX3_count_64 rfl ?_
          refine g_istore C dX3_count_66 (by decide) ?_
          refine g_iinc C (v := nI (j + 1)) dX3_count_68 rfl (nI_1 j) (by decide) ?_
          refine g_goto C 35 dX3_count_71 (by decide) ?_
          have hs := ihj (j + 1) hltj (by omega)
          (try dsimp only at hs)
          have e9 : iter (dtS B k) 0 (j + 1) = (iter (dtS B k) 0 j) := by show (dtS B k) (iter (dtS B k) 0 j) j = _; simp [dtS, c39, c54]
          rw [e9] at hs
          exact hs
        · have c54 := bI_nz.mp c54
          refine g_iload C dX3_count_57 rfl ?_
          refine g_iconst C (v := 1) dX3_count_59 (by decide) ?_
          refine g_iadd C dX3_count_60 ?_
          refine g_goto C 66 dX3_count_61 (by decide) ?_
          refine g_istore C dX3_count_66 (by decide) ?_
          refine g_iinc C (v := nI (j + 1)) dX3_count_68 rfl (nI_1 j) (by decide) ?_
          refine g_goto C 35 dX3_count_71 (by decide) ?_
          have hs := ihj (j + 1) hltj (by omega)
          (try dsimp only at hs)
          have e9 : iter (dtS B k) 0 (j + 1) = (iter (dtS B k) 0 j + 1) := by show (dtS B k) (iter (dtS B k) 0 j) j = _; simp [dtS, c39, c54]
          rw [e9] at hs
          exact hs
  · have c12 := bI_z.mp c12
    refine g_iconst C (v := 0) dX3_count_15 (by decide) ?_
    have hp1 : (wiB q 0 2) = (wiB q 0 2) := by first | rfl | simp []
    have hp2 : (true) = (true) := by first | rfl | simp []
    have hp3 : (true) = (true) := by first | rfl | simp []
    refine g_iret C hr dX3_count_16 (by decide) (by decide) ?_
    rw [hp3, hp2, hp1]
    exact Or.inl ⟨c12, rfl, hR, hf1⟩

theorem up_eta {α : Type} (B : Nat → α) (k : Nat) : va_up B k (B k) = B := by
  funext j
  by_cases h : j = k
  · subst h; rw [va_up_self]
  · rw [va_up_ne _ _ h]
theorem up_up {α : Type} (B : Nat → α) (k : Nat) (x y : α) : va_up (va_up B k x) k y = va_up B k y := by
  funext j
  by_cases h : j = k
  · subst h; rw [va_up_self, va_up_self]
  · rw [va_up_ne _ _ h, va_up_ne _ _ h, va_up_ne _ _ h]
set_option maxHeartbeats 4000000 in
set_option maxRecDepth 100000 in
theorem c_X3_join (l : Launch) (G : hD) (w : hW) (mo : Nat) (M : Nat → Nat) (n : Nat) (I : Nat → Nat → Int32) (B : Nat → Nat → Bool) (thr ord mny : Int32) (hR : MR G mo M n I B thr ord mny w) (x9 y9 : Int32) : h_Met l yX3_join (Cond.code yX3_join cX3_join 6 (some .int)) { frames := 2, cells := 0, slots := 0, locals := 60 } G [.ref mo, .int x9, .int y9] w (mP G mo M n I B ord mny w (isDk x9 && isDk y9) (true) (true) (fun x w' => ∃ x' y', x' < 6 ∧ y' < 6 ∧ x9 = nI x' ∧ y9 = nI y' ∧ x = iter (jmS B x' y') 0 n ∧ ∃ K : Nat → Bool, MR G mo M n I (va_up B 7 K) 0 ord mny w' ∧ fr (MD mo M) w w' ∧ (∀ t, t < n → K (120 * x' + t) = (B 7 (120 * x' + t) || B 7 (120 * y' + t))) ∧ (∀ j, (∀ t, t < n → j ≠ 120 * x' + t) → K j = B 7 j))) noX := by
  refine h_met RX3 rfl (by decide) (Nat.le_of_ble_eq_true rfl) (cat_c (by first | rfl | exact rf_cat _) (cat_c (by first | rfl | exact rf_cat _) (cat_c (by first | rfl | exact rf_cat _) cat_n))) ?_
  intro p e s m below meth c A C hnt hr hnm
  obtain ⟨hm, r0, r1, r2, r3, r4, r5, r6, r7, r8, r9, r10, r11, r12, hinj, hn⟩ := id hR
  first | refine g_aload_n C dX3_join_0 rfl rfl ?_ | refine g_aload_nN C dX3_join_0 rfl rfl ?_ | refine g_aload_nq C dX3_join_0 rfl rfl ?_
  refine g_iload_n C dX3_join_1 rfl rfl ?_
  refine g_callSn C _ dX3_join_2 (c_X3_isDesk l G _ _) kmX3_54 ks_X3_isDesk kn_X3 kc_X3_isDesk hy_X3_isDesk ⟨by decide, by decide⟩ rfl (Nat.le_of_ble_eq_true rfl) ⟨by decide, by decide⟩ (fun v w1 hp => ?_)
  obtain ⟨rfl, hw1⟩ := hp
  have hw1 := hw1.symm
  subst hw1
  refine g_if_eq C 19 dX3_join_5 (by decide) (fun c5 => ?_) (fun c5 => ?_)
  · have c5 := bI_z.mp c5
    refine g_iconst C (v := 0) dX3_join_19 (by decide) ?_
    refine g_iconst C (v := 1) dX3_join_20 (by decide) ?_
    refine g_iconst C (v := 1) dX3_join_21 (by decide) ?_
    refine g_callVn C _ dX3_join_22 (c_X3_goes l G _ _ _ _ _ _ _ _ _ hR (false) (true) (true)) kmX3_68 ki_X3_goes kv_X3_goes kn_X3 kc_X3_goes hy_X3_goes ⟨by decide, by decide⟩ hm rfl rfl (Nat.le_of_ble_eq_true rfl) ⟨by decide, by decide⟩ (fun v w1 hp => ?_)
    obtain ⟨rfl, hw1⟩ := hp
    have hw1 := hw1.symm
    subst hw1
    have hR := hR.upM (thC (false) (true) (true)) ord mny hn
    obtain ⟨hm, r0, r1, r2, r3, r4, r5, r6, r7, r8, r9, r10, r11, r12, hinj, hn⟩ := id hR
    have hf1 : fr (MD mo M) w _ := fr.rf.up (b := mo) (e := cellM M (thC (false) (true) (true)) n ord mny) MD.m
    refine g_if_ne C 30 dX3_join_25 (by decide) (fun c25 => absurd (by simp [bI]) c25) (fun _ => ?_)
    refine g_iconst C (v := 0) dX3_join_28 (by decide) ?_
    have hp1 : (isDk x9 && isDk y9) = (false) := by first | rfl | simp [c5]
    have hp2 : (true) = (true) := by first | rfl | simp []
    have hp3 : (true) = (true) := by first | rfl | simp []
    refine g_iret C hr dX3_join_29 (by decide) (by decide) ?_
    rw [hp3, hp2, hp1]
    exact Or.inl ⟨by simp, rfl, hR, hf1⟩
  · have c5 := bI_nz.mp c5
    refine g_iload_n C dX3_join_8 rfl rfl ?_
    refine g_callSn C _ dX3_join_9 (c_X3_isDesk l G _ _) kmX3_54 ks_X3_isDesk kn_X3 kc_X3_isDesk hy_X3_isDesk ⟨by decide, by decide⟩ rfl (Nat.le_of_ble_eq_true rfl) ⟨by decide, by decide⟩ (fun v w1 hp => ?_)
    obtain ⟨rfl, hw1⟩ := hp
    have hw1 := hw1.symm
    subst hw1
    refine g_if_eq C 19 dX3_join_12 (by decide) (fun c12 => ?_) (fun c12 => ?_)
    · have c12 := bI_z.mp c12
      refine g_iconst C (v := 0) dX3_join_19 (by decide) ?_
      refine g_iconst C (v := 1) dX3_join_20 (by decide) ?_
      refine g_iconst C (v := 1) dX3_join_21 (by decide) ?_
      refine g_callVn C _ dX3_join_22 (c_X3_goes l G _ _ _ _ _ _ _ _ _ hR (false) (true) (true)) kmX3_68 ki_X3_goes kv_X3_goes kn_X3 kc_X3_goes hy_X3_goes ⟨by decide, by decide⟩ hm rfl rfl (Nat.le_of_ble_eq_true rfl) ⟨by decide, by decide⟩ (fun v w1 hp => ?_)
      obtain ⟨rfl, hw1⟩ := hp
      have hw1 := hw1.symm
      subst hw1
      have hR := hR.upM (thC (false) (true) (true)) ord mny hn
      obtain ⟨hm, r0, r1, r2, r3, r4, r5, r6, r7, r8, r9, r10, r11, r12, hinj, hn⟩ := id hR
      have hf1 : fr (MD mo M) w _ := fr.rf.up (b := mo) (e := cellM M (thC (false) (true) (true)) n ord mny) MD.m
      refine g_if_ne C 30 dX3_join_25 (by decide) (fun c25 => absurd (by simp [bI]) c25) (fun _ => ?_)
      refine g_iconst C (v := 0) dX3_join_28 (by decide) ?_
      have hp1 : (isDk x9 && isDk y9) = (false) := by first | rfl | simp [c5, c12]
      have hp2 : (true) = (true) := by first | rfl | simp []
      have hp3 : (true) = (true) := by first | rfl | simp []
      refine g_iret C hr dX3_join_29 (by decide) (by decide) ?_
      rw [hp3, hp2, hp1]
      exact Or.inl ⟨by simp, rfl, hR, hf1⟩
    · have c12 := bI_nz.mp c12
      refine g_iconst C (v := 1) dX3_join_15 (by decide) ?_
      refine g_goto C 20 dX3_join_16 (by decide) ?_
      refine g_iconst C (v := 1) dX3_join_20 (by decide) ?_
      refine g_iconst C (v := 1) dX3_join_21 (by decide) ?_
      refine g_callVn C _ dX3_join_22 (c_X3_goes l G _ _ _ _ _ _ _ _ _ hR (true) (true) (true)) kmX3_68 ki_X3_goes kv_X3_goes kn_X3 kc_X3_goes hy_X3_goes ⟨by decide, by decide⟩ hm rfl rfl (Nat.le_of_ble_eq_true rfl) ⟨by decide, by decide⟩ (fun v w1 hp => ?_)
      obtain ⟨rfl, hw1⟩ := hp
      have hw1 := hw1.symm
      subst hw1
      have hR := hR.upM (thC (true) (true) (true)) ord mny hn
      obtain ⟨hm, r0, r1, r2, r3, r4, r5, r6, r7, r8, r9, r10, r11, r12, hinj, hn⟩ := id hR
      have hf1 : fr (MD mo M) w _ := fr.rf.up (b := mo) (e := cellM M (thC (true) (true) (true)) n ord mny) MD.m
      refine g_if_ne C 30 dX3_join_25 (by decide) (fun _ => ?_) (fun c25 => absurd c25 (by simp [bI]))
      obtain ⟨x', hx', rfl⟩ := isDk_nI c5
      obtain ⟨y', hy', rfl⟩ := isDk_nI c12
      have hR0 : MR G mo M n I (va_up B 7 (B 7)) 0 ord mny _ := (up_eta B 7).symm ▸ (hR.th (thC_t rfl))
      refine g_iconst C (v := 0) dX3_join_30 (by decide) ?_
      refine g_istore_n C dX3_join_31 rfl (by decide) ?_
      refine g_iconst C (v := 0) dX3_join_32 (by decide) ?_
      refine g_istore C dX3_join_33 (by decide) ?_
      refine g_loop (σ := Nat × (Nat → Bool) × hW) (fun s => s.1 ≤ n ∧ MR G mo M n I (va_up B 7 s.2.1) 0 ord mny s.2.2 ∧ fr (MD mo M) w s.2.2 ∧ (∀ t, t < s.1 → s.2.1 (120 * x' + t) = (B 7 (120 * x' + t) || B 7 (120 * y' + t))) ∧ (∀ j, (∀ t, t < s.1 → j ≠ 120 * x' + t) → s.2.1 j = B 7 j)) (fun s => n - s.1) (fun s => s.2.2) (fun s => [(0, .ref mo), (1, .int (nI x')), (2, .int (nI y')), (3, .int (iter (jmS B x' y') 0 s.1)), (4, .int (nI s.1))]) ?_ (0, B 7, _) ⟨Nat.zero_le _, hR0, hf1, (fun t ht => absurd ht (Nat.not_lt_zero _)), fun j _ => rfl⟩
      rintro ⟨k, K, wc⟩ ⟨hk, hR, hf, hK1, hK2⟩ ih
      dsimp only at hk hR hf ih ⊢
      obtain ⟨hm, r0, r1, r2, r3, r4, r5, r6, r7, r8, r9, r10, r11, r12, hinj, hn⟩ := id hR
      have r7 : wc (M 7) = some (eZ G 720 (fun j => bI (K j))) := r7
      refine g_iload C dX3_join_35 rfl ?_
      first | refine g_aload_n C dX3_join_37 rfl rfl ?_ | refine g_aload_nN C dX3_join_37 rfl rfl ?_ | refine g_aload_nq C dX3_join_37 rfl rfl ?_
      refine g_get C dX3_join_38 hm rfl kw_X3 1 (by decide) kfX3_58 rfl rfl ?_
      refine g_icmp_ge C 137 dX3_join_41 (by decide) (fun c41 => ?_) (fun c41 => ?_)
      · have hkn : n = k := by have := (nI_leI (a := n) (b := k) (by omega) (by omega)).mp c41; omega
        subst hkn
        refine g_iload_n C dX3_join_137 rfl rfl ?_
        have hp1 : (isDk (nI x') && isDk (nI y')) = (true) := by first | rfl | simp [c5, c12]
        have hp2 : (true) = (true) := by first | rfl | simp []
        have hp3 : (true) = (true) := by first | rfl | simp []
        have hth := thC_t (rfl : (true && (true && true)) = true)
        refine g_iret C hr dX3_join_138 (by decide) (by decide) ?_
        rw [hp3, hp2, hp1]
        exact Or.inr ⟨(rfl : (true && (true && true)) = true), _, rfl, _, _, hx', hy', rfl, rfl, rfl, K, hR, hf, hK1, hK2⟩
      · have hlt : k < n := nI_nge c41 (by omega) (by omega)
        have hk1 : K (120 * x' + k) = B 7 (120 * x' + k) := hK2 _ (fun t ht => by dsimp only at ht; omega)
        have hk2 : K (120 * y' + k) = B 7 (120 * y' + k) := hK2 _ (fun t ht => by dsimp only at ht; omega)
        first | refine g_aload_n C dX3_join_44 rfl rfl ?_ | refine g_aload_nN C dX3_join_44 rfl rfl ?_ | refine g_aload_nq C dX3_join_44 rfl rfl ?_
        refine g_get C dX3_join_45 hm rfl kw_X3 9 (by decide) kfX3_32 rfl rfl ?_
        refine g_bipush C (v := 120) dX3_join_48 (by decide) ?_
        refine g_iload_n C dX3_join_50 rfl rfl ?_
        refine g_imul C dX3_join_51 ?_
        refine g_iload C dX3_join_52 rfl ?_
        refine g_iadd C dX3_join_54 ?_
        refine g_eq (ix120 y' k) ?_
        refine g_zaldN C dX3_join_55 r7 (by omega) (by decide) ?_
        refine g_if_eq C 78 dX3_join_56 (by decide) (fun c56 => ?_) (fun c56 => ?_)
        · have c56 := bI_z.mp c56
          refine g_iconst C (v := 0) dX3_join_78 (by decide) ?_
          refine g_istore C dX3_join_79 (by decide) ?_
          refine g_iload C dX3_join_81 rfl ?_
          refine g_if_eq C 92 dX3_join_83 (by decide) (fun _ => ?_) (fun c83 => absurd (rfl) c83)
          refine g_iload_n C dX3_join_92 rfl rfl ?_
          refine g_istore_n C dX3_join_93 rfl (by decide) ?_
          first | refine g_aload_n C dX3_join_94 rfl rfl ?_ | refine g_aload_nN C dX3_join_94 rfl rfl ?_ | refine g_aload_nq C dX3_join_94 rfl rfl ?_
          refine g_get C dX3_join_95 hm rfl kw_X3 9 (by decide) kfX3_32 rfl rfl ?_
          refine g_bipush C (v := 120) dX3_join_98 (by decide) ?_
          refine g_iload_n C dX3_join_100 rfl rfl ?_
          refine g_imul C dX3_join_101 ?_
          refine g_iload C dX3_join_102 rfl ?_
          refine g_iadd C dX3_join_104 ?_
          refine g_eq (ix120 x' k) ?_
          first | refine g_aload_n C dX3_join_105 rfl rfl ?_ | refine g_aload_nN C dX3_join_105 rfl rfl ?_ | refine g_aload_nq C dX3_join_105 rfl rfl ?_
          refine g_get C dX3_join_106 hm rfl kw_X3 9 (by decide) kfX3_32 rfl rfl ?_
          refine g_bipush C (v := 120) dX3_join_109 (by decide) ?_
          refine g_iload_n C dX3_join_111 rfl rfl ?_
          refine g_imul C dX3_join_112 ?_
          refine g_iload C dX3_join_113 rfl ?_
          refine g_iadd C dX3_join_115 ?_
          refine g_eq (ix120 x' k) ?_
          refine g_zaldN C dX3_join_116 r7 (by omega) (by decide) ?_
          refine g_if_ne C 125 dX3_join_117 (by decide) (fun c117 => ?_) (fun c117 => ?_)
          · have c117 := bI_nz.mp c117
            refine g_iconst C (v := 1) dX3_join_125 (by decide) ?_
            refine g_goto C 130 dX3_join_126 (by decide) ?_
            refine g_zastB C (true) dX3_join_130 r7 (by omega) (by decide) (rfl) ?_
            refine g_iinc C (v := nI (k + 1)) dX3_join_131 rfl (nI_1 k) (by decide) ?_
            refine g_goto C 35 dX3_join_134 (by decide) ?_
            refine g_drop [(0, .ref mo), (1, .int (nI x')), (2, .int (nI y')), (3, .int (iter (jmS B x' y') 0 k)), (4, .int (nI (k + 1)))] _ rfl ?_
            have e9 : iter (jmS B x' y') 0 (k + 1) = (iter (jmS B x' y') 0 k) := by show (jmS B x' y') (iter (jmS B x' y') 0 k) k = _; simp [jmS, ← hk1, ← hk2, c56, c117]
            have hR9 := hR.up7 (va_up K (120 * x' + k) true)
            rw [up_up] at hR9
            have hA : ∀ t, t < k + 1 → va_up K (120 * x' + k) true (120 * x' + t) = (B 7 (120 * x' + t) || B 7 (120 * y' + t)) := by
              intro t ht
              by_cases e : t = k
              · subst e
                rw [va_up_self]
                simp [← hk1, ← hk2, c56, c117]
              · rw [va_up_ne _ _ (by omega)]
                exact hK1 t (by show t < k; omega)
            have hB : ∀ j, (∀ t, t < k + 1 → j ≠ 120 * x' + t) → va_up K (120 * x' + k) true j = B 7 j := by
              intro j hj
              rw [va_up_ne _ _ (hj k (Nat.lt_succ_self _))]
              exact hK2 j (fun t ht => hj t (Nat.lt_succ_of_lt ht))
            have hs := ih (k + 1, va_up K (120 * x' + k) true, h_up wc (M 7) (eZ G 720 (fun j => bI (va_up K (120 * x' + k) true j)))) ⟨hlt, hR9, hf.up (MD.a 7 (by decide)), hA, hB⟩ (by dsimp only; omega)
            dsimp only at hs
            rw [e9] at hs
            exact hs
          · have c117 := bI_z.mp c117
            refine g_iload C dX3_join_120 rfl ?_
            refine g_if_eq C 129 dX3_join_122 (by decide) (fun _ => ?_) (fun c122 => absurd (rfl) c122)
            refine g_iconst C (v := 0) dX3_join_129 (by decide) ?_
            refine g_zastB C (false) dX3_join_130 r7 (by omega) (by decide) (rfl) ?_
            refine g_iinc C (v := nI (k + 1)) dX3_join_131 rfl (nI_1 k) (by decide) ?_
            refine g_goto C 35 dX3_join_134 (by decide) ?_
            refine g_drop [(0, .ref mo), (1, .int (nI x')), (2, .int (nI y')), (3, .int (iter (jmS B x' y') 0 k)), (4, .int (nI (k + 1)))] _ rfl ?_
            have e9 : iter (jmS B x' y') 0 (k + 1) = (iter (jmS B x' y') 0 k) := by show (jmS B x' y') (iter (jmS B x' y') 0 k) k = _; simp [jmS, ← hk1, ← hk2, c56, c117]
            have hR9 := hR.up7 (va_up K (120 * x' + k) false)
            rw [up_up] at hR9
            have hA : ∀ t, t < k + 1 → va_up K (120 * x' + k) false (120 * x' + t) = (B 7 (120 * x' + t) || B 7 (120 * y' + t)) := by
              intro t ht
              by_cases e : t = k
              · subst e
                rw [va_up_self]
                simp [← hk1, ← hk2, c56, c117]
              · rw [va_up_ne _ _ (by omega)]
                exact hK1 t (by show t < k; omega)
            have hB : ∀ j, (∀ t, t < k + 1 → j ≠ 120 * x' + t) → va_up K (120 * x' + k) false j = B 7 j := by
              intro j hj
              rw [va_up_ne _ _ (hj k (Nat.lt_succ_self _))]
              exact hK2 j (fun t ht => hj t (Nat.lt_succ_of_lt ht))
            have hs := ih (k + 1, va_up K (120 * x' + k) false, h_up wc (M 7) (eZ G 720 (fun j => bI (va_up K (120 * x' + k) false j)))) ⟨hlt, hR9, hf.up (MD.a 7 (by decide)), hA, hB⟩ (by dsimp only; omega)
            dsimp only at hs
            rw [e9] at hs
            exact hs
        · have c56 := bI_nz.mp c56
          first | refine g_aload_n C dX3_join_59 rfl rfl ?_ | refine g_aload_nN C dX3_join_59 rfl rfl ?_ | refine g_aload_nq C dX3_join_59 rfl rfl ?_
          refine g_get C dX3_join_60 hm rfl kw_X3 9 (by decide) kfX3_32 rfl rfl ?_
          refine g_bipush C (v := 120) dX3_join_63 (by decide) ?_
          refine g_iload_n C dX3_join_65 rfl rfl ?_
          refine g_imul C dX3_join_66 ?_
          refine g_iload C dX3_join_67 rfl ?_
          refine g_iadd C dX3_join_69 ?_
          refine g_eq (ix120 x' k) ?_
          refine g_zaldN C dX3_join_70 r7 (by omega) (by decide) ?_
          refine g_if_ne C 78 dX3_join_71 (by decide) (fun c71 => ?_) (fun c71 => ?_)
          · have c71 := bI_nz.mp c71
            refine g_iconst C (v := 0) dX3_join_78 (by decide) ?_
            refine g_istore C dX3_join_79 (by decide) ?_
            refine g_iload C dX3_join_81 rfl ?_
            refine g_if_eq C 92 dX3_join_83 (by decide) (fun _ => ?_) (fun c83 => absurd (rfl) c83)
            refine g_iload_n C dX3_join_92 rfl rfl ?_
            refine g_istore_n C dX3_join_93 rfl (by decide) ?_
            first | refine g_aload_n C dX3_join_94 rfl rfl ?_ | refine g_aload_nN C dX3_join_94 rfl rfl ?_ | refine g_aload_nq C dX3_join_94 rfl rfl ?_
            refine g_get C dX3_join_95 hm rfl kw_X3 9 (by decide) kfX3_32 rfl rfl ?_
            refine g_bipush C (v := 120) dX3_join_98 (by decide) ?_
            refine g_iload_n C dX3_join_100 rfl rfl ?_
            refine g_imul C dX3_join_101 ?_
            refine g_iload C dX3_join_102 rfl ?_
            refine g_iadd C dX3_join_104 ?_
            refine g_eq (ix120 x' k) ?_
            first | refine g_aload_n C dX3_join_105 rfl rfl ?_ | refine g_aload_nN C dX3_join_105 rfl rfl ?_ | refine g_aload_nq C dX3_join_105 rfl rfl ?_
            refine g_get C dX3_join_106 hm rfl kw_X3 9 (by decide) kfX3_32 rfl rfl ?_
            refine g_bipush C (v := 120) dX3_join_109 (by decide) ?_
            refine g_iload_n C dX3_join_111 rfl rfl ?_
            refine g_imul C dX3_join_112 ?_
            refine g_iload C dX3_join_113 rfl ?_
            refine g_iadd C dX3_join_115 ?_
            refine g_eq (ix120 x' k) ?_
            refine g_zaldN C dX3_join_116 r7 (by omega) (by decide) ?_
            refine g_if_ne C 125 dX3_join_117 (by decide) (fun _ => ?_) (fun c117 => absurd c117 (bI_nz.mpr c71))
            refine g_iconst C (v := 1) dX3_join_125 (by decide) ?_
            refine g_goto C 130 dX3_join_126 (by decide) ?_
            refine g_zastB C (true) dX3_join_130 r7 (by omega) (by decide) (rfl) ?_
            refine g_iinc C (v := nI (k + 1)) dX3_join_131 rfl (nI_1 k) (by decide) ?_
            refine g_goto C 35 dX3_join_134 (by decide) ?_
            refine g_drop [(0, .ref mo), (1, .int (nI x')), (2, .int (nI y')), (3, .int (iter (jmS B x' y') 0 k)), (4, .int (nI (k + 1)))] _ rfl ?_
            have e9 : iter (jmS B x' y') 0 (k + 1) = (iter (jmS B x' y') 0 k) := by show (jmS B x' y') (iter (jmS B x' y') 0 k) k = _; simp [jmS, ← hk1, ← hk2, c56, c71]
            have hR9 := hR.up7 (va_up K (120 * x' + k) true)
            rw [up_up] at hR9
            have hA : ∀ t, t < k + 1 → va_up K (120 * x' + k) true (120 * x' + t) = (B 7 (120 * x' + t) || B 7 (120 * y' + t)) := by
              intro t ht
              by_cases e : t = k
              · subst e
                rw [va_up_self]
                simp [← hk1, ← hk2, c56, c71]
              · rw [va_up_ne _ _ (by omega)]
                exact hK1 t (by show t < k; omega)
            have hB : ∀ j, (∀ t, t < k + 1 → j ≠ 120 * x' + t) → va_up K (120 * x' + k) true j = B 7 j := by
              intro j hj
              rw [va_up_ne _ _ (hj k (Nat.lt_succ_self _))]
              exact hK2 j (fun t ht => hj t (Nat.lt_succ_of_lt ht))
            have hs := ih (k + 1, va_up K (120 * x' + k) true, h_up wc (M 7) (eZ G 720 (fun j => bI (va_up K (120 * x' + k) true j)))) ⟨hlt, hR9, hf.up (MD.a 7 (by decide)), hA, hB⟩ (by dsimp only; omega)
            dsimp only at hs
            rw [e9] at hs
            exact hs
          · have c71 := bI_z.mp c71
            refine g_iconst C (v := 1) dX3_join_74 (by decide) ?_
            refine g_goto C 79 dX3_join_75 (by decide) ?_
            refine g_istore C dX3_join_79 (by decide) ?_
            refine g_iload C dX3_join_81 rfl ?_
            refine g_if_eq C 92 dX3_join_83 (by decide) (fun c83 => absurd c83 (by decide)) (fun _ => ?_)
            refine g_iload_n C dX3_join_86 rfl rfl ?_
            refine g_iconst C (v := 1) dX3_join_87 (by decide) ?_
            refine g_iadd C dX3_join_88 ?_
            refine g_goto C 93 dX3_join_89 (by decide) ?_
            refine g_istore_n C dX3_join_93 rfl (by decide) ?_
            first | refine g_aload_n C dX3_join_94 rfl rfl ?_ | refine g_aload_nN C dX3_join_94 rfl rfl ?_ | refine g_aload_nq C dX3_join_94 rfl rfl ?_
            refine g_get C dX3_join_95 hm rfl kw_X3 9 (by decide) kfX3_32 rfl rfl ?_
            refine g_bipush C (v := 120) dX3_join_98 (by decide) ?_
            refine g_iload_n C dX3_join_100 rfl rfl ?_
            refine g_imul C dX3_join_101 ?_
            refine g_iload C dX3_join_102 rfl ?_
            refine g_iadd C dX3_join_104 ?_
            refine g_eq (ix120 x' k) ?_
            first | refine g_aload_n C dX3_join_105 rfl rfl ?_ | refine g_aload_nN C dX3_join_105 rfl rfl ?_ | refine g_aload_nq C dX3_join_105 rfl rfl ?_
            refine g_get C dX3_join_106 hm rfl kw_X3 9 (by decide) kfX3_32 rfl rfl ?_
            refine g_bipush C (v := 120) dX3_join_109 (by decide) ?_
            refine g_iload_n C dX3_join_111 rfl rfl ?_
            refine g_imul C dX3_join_112 ?_
            refine g_iload C dX3_join_113 rfl ?_
            refine g_iadd C dX3_join_115 ?_
            refine g_eq (ix120 x' k) ?_
            refine g_zaldN C dX3_join_116 r7 (by omega) (by decide) ?_
            refine g_if_ne C 125 dX3_join_117 (by decide) (fun c117 => absurd (bI_z.mpr c71) c117) (fun _ => ?_)
            refine g_iload C dX3_join_120 rfl ?_
            refine g_if_eq C 129 dX3_join_122 (by decide) (fun c122 => absurd c122 (by decide)) (fun _ => ?_)
            refine g_iconst C (v := 1) dX3_join_125 (by decide) ?_
            refine g_goto C 130 dX3_join_126 (by decide) ?_
            refine g_zastB C (true) dX3_join_130 r7 (by omega) (by decide) (rfl) ?_
            refine g_iinc C (v := nI (k + 1)) dX3_join_131 rfl (nI_1 k) (by decide) ?_
            refine g_goto C 35 dX3_join_134 (by decide) ?_
            refine g_drop [(0, .ref mo), (1, .int (nI x')), (2, .int (nI y')), (3, .int (iter (jmS B x' y') 0 k + 1)), (4, .int (nI (k + 1)))] _ rfl ?_
            have e9 : iter (jmS B x' y') 0 (k + 1) = (iter (jmS B x' y') 0 k + 1) := by show (jmS B x' y') (iter (jmS B x' y') 0 k) k = _; simp [jmS, ← hk1, ← hk2, c56, c71]
            have hR9 := hR.up7 (va_up K (120 * x' + k) true)
            rw [up_up] at hR9
            have hA : ∀ t, t < k + 1 → va_up K (120 * x' + k) true (120 * x' + t) = (B 7 (120 * x' + t) || B 7 (120 * y' + t)) := by
              intro t ht
              by_cases e : t = k
              · subst e
                rw [va_up_self]
                simp [← hk1, ← hk2, c56, c71]
              · rw [va_up_ne _ _ (by omega)]
                exact hK1 t (by show t < k; omega)
            have hB : ∀ j, (∀ t, t < k + 1 → j ≠ 120 * x' + t) → va_up K (120 * x' + k) true j = B 7 j := by
              intro j hj
              rw [va_up_ne _ _ (hj k (Nat.lt_succ_self _))]
              exact hK2 j (fun t ht => hj t (Nat.lt_succ_of_lt ht))
            have hs := ih (k + 1, va_up K (120 * x' + k) true, h_up wc (M 7) (eZ G 720 (fun j => bI (va_up K (120 * x' + k) true j)))) ⟨hlt, hR9, hf.up (MD.a 7 (by decide)), hA, hB⟩ (by dsimp only; omega)
            dsimp only at hs
            rw [e9] at hs
            exact hs

