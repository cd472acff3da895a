/-! ===== the model: at, place, order, the waiting ones ===== -/
/-- only scratch arrays differ -/
def scr (I I' : Nat → Nat → Int32) (B B' : Nat → Nat → Bool) : Prop := (∀ a, a ≠ 9 → a ≠ 11 → I' a = I a) ∧ (∀ a, a ≠ 10 → a ≠ 12 → B' a = B a)
theorem scr.rf {I : Nat → Nat → Int32} {B : Nat → Nat → Bool} : scr I I B B := ⟨fun _ _ _ => rfl, fun _ _ _ => rfl⟩
def mstG (I : Nat → Nat → Int32) (B : Nat → Nat → Bool) (n : Nat) (ch : List Nat) (d : Nat) (th k : Int32) : Option Nat := stG (fun t => iter (enS I B d 4 (nI t)) false n) k 0 (lineL I (ch.filter (lnP I B d th)))
def mrel (I : Nat → Nat → Int32) (B : Nat → Nat → Bool) (n : Nat) (ch : List Nat) (d : Nat) : (Nat → Nat → Bool) × List Nat := (ch.filter (rlP I B n d)).foldl (stS I) st0
def mvO (I : Nat → Nat → Int32) : Option Nat → Int32
  | none => -1
  | some t => I 4 t
def matV (I : Nat → Nat → Int32) (B : Nat → Nat → Bool) (n : Nat) (ch : List Nat) (d : Nat) (th fl k : Int32) : Int32 :=
  if 2 ≤ fl then (if fl = 2 then unG (hsB I B n d th) k 32 0 0 else mvO I (mstG I B n ch d th k)) else if 0 < k then -1 else if fl = 0 then lsV I (iter (lsS I B d th) none n) else iter (msS I B d th) 0 n
def morV (s : (Nat → Nat → Bool) × List Nat) (x y : Nat) : Int32 := cond (s.1 x y) 1 (cond (s.1 y x) (-1) 0)
theorem stG_mem {P : Nat → Bool} {k : Int32} : ∀ {r : List Nat} {b : Int32} {j : Nat}, stG P k b r = some j → j ∈ r
  | [], _, _, h => by cases h
  | y :: r, b, j, h => by
    simp only [stG] at h
    cases hP : P y with
    | true => rw [hP] at h; exact List.mem_cons_of_mem _ (stG_mem h)
    | false =>
      rw [hP] at h
      by_cases e : b = k
      · rw [decide_eq_true e] at h; cases h; exact List.mem_cons_self
      · rw [decide_eq_false e] at h; exact List.mem_cons_of_mem _ (stG_mem h)
theorem mstG_lt {I : Nat → Nat → Int32} {B : Nat → Nat → Bool} {n : Nat} {ch : List Nat} {d : Nat} {th k : Int32} {t : Nat} (hs : srt I n ch) (h : mstG I B n ch d th k = some t) : t < n := by
  have h1 := (lineL_mem I _ [] t).mp (stG_mem h)
  exact (hs.1 t).mp (List.mem_filter.mp (h1.elim id (fun h => by cases h))).1
/-- well, and but scratch and 'thrown' nothing has changed -/
def mT (G : hD) (mo : Nat) (M : Nat → Nat) (n : Nat) (I : Nat → Nat → Int32) (B : Nat → Nat → Bool) (w : hW) (z x : Int32) (w' : hW) : Prop := x = z ∧ ∃ I' B' ord' mny', scr I I' B B' ∧ MR G mo M n I' B' 0 ord' mny' w' ∧ fr (MD mo M) w w'

set_option maxHeartbeats 4000000 in
set_option maxRecDepth 100000 in
theorem c_X3_at (l : Launch) (G : hD) (w : hW) (mo : Nat) (M : Nat → Nat) (n : Nat) (I : Nat → Nat → Int32) (B : Nat → Nat → Bool) (thr ord mny : Int32) (hR : MR G mo M n I B thr ord mny w) (ch : List Nat) (hs : srt I n ch) (hcl : ch.length = n) (d th fl k : Int32) : h_Met l yX3_at (Cond.code yX3_at cX3_at 6 (some .int)) { frames := 4, cells := 0, slots := 0, locals := 130 } G [.ref mo, .int d, .int th, .int fl, .int k] w (mP G mo M n I B ord mny w (isDk d && (isTh th && (wiB fl 0 3 && !decide (k < 0)))) (true) (true) (fun x w' => ∃ d', d' < 6 ∧ d = nI d' ∧ mT G mo M n I B w (matV I B n ch d' th fl k) x w')) noX := by
  refine h_met RX3 rfl (by decide) (Nat.le_of_ble_eq_true rfl) (cat_c (by first | rfl | exact rf_cat _) (cat_c (by first | rfl | exact rf_cat _) (cat_c (by first | rfl | exact rf_cat _) (cat_c (by first | rfl | exact rf_cat _) (cat_c (by first | rfl | exact rf_cat _) cat_n))))) ?_
  intro p e s m below meth c A C hnt hr hnm
  obtain ⟨hm, r0, r1, r2, r3, r4, r5, r6, r7, r8, r9, r10, r11, r12, hinj, hn⟩ := id hR
  first | refine g_aload_n C dX3_at_0 rfl rfl ?_ | refine g_aload_nN C dX3_at_0 rfl rfl ?_ | refine g_aload_nq C dX3_at_0 rfl rfl ?_
  refine g_iload_n C dX3_at_1 rfl rfl ?_
  refine g_callSn C _ dX3_at_2 (c_X3_isDesk l G _ _) kmX3_54 ks_X3_isDesk kn_X3 kc_X3_isDesk hy_X3_isDesk ⟨by decide, by decide⟩ rfl (Nat.le_of_ble_eq_true rfl) ⟨by decide, by decide⟩ (fun v w1 hp => ?_)
  obtain ⟨rfl, hw1⟩ := hp
  have hw1 := hw1.symm
  subst hw1
  refine g_if_eq C 33 dX3_at_5 (by decide) (fun c5 => ?_) (fun c5 => ?_)
  · have c5 := bI_z.mp c5
    refine g_iconst C (v := 0) dX3_at_33 (by decide) ?_
    refine g_iconst C (v := 1) dX3_at_34 (by decide) ?_
    refine g_iconst C (v := 1) dX3_at_35 (by decide) ?_
    refine g_callVn C _ dX3_at_36 (c_X3_goes l G _ _ _ _ _ _ _ _ _ hR (false) (true) (true)) kmX3_68 ki_X3_goes kv_X3_goes kn_X3 kc_X3_goes hy_X3_goes ⟨by decide, by decide⟩ hm rfl rfl (Nat.le_of_ble_eq_true rfl) ⟨by decide, by decide⟩ (fun v w1 hp => ?_)
    obtain ⟨rfl, hw1⟩ := hp
    have hw1 := hw1.symm
    subst hw1
    have hR := hR.upM (thC (false) (true) (true)) ord mny hn
    obtain ⟨hm, r0, r1, r2, r3, r4, r5, r6, r7, r8, r9, r10, r11, r12, hinj, hn⟩ := id hR
    have hf1 : fr (MD mo M) w _ := fr.rf.up (b := mo) (e := cellM M (thC (false) (true) (true)) n ord mny) MD.m
    refine g_if_ne C 44 dX3_at_39 (by decide) (fun c39 => absurd (by simp [bI]) c39) (fun _ => ?_)
    refine g_iconst C (v := 0) dX3_at_42 (by decide) ?_
    have hp1 : (isDk d && (isTh th && (wiB fl 0 3 && !decide (k < 0)))) = (false) := by first | rfl | simp [c5]
    have hp2 : (true) = (true) := by first | rfl | simp []
    have hp3 : (true) = (true) := by first | rfl | simp []
    refine g_iret C hr dX3_at_43 (by decide) (by decide) ?_
    rw [hp3, hp2, hp1]
    exact Or.inl ⟨by simp, rfl, hR, hf1⟩
  · have c5 := bI_nz.mp c5
    refine g_iload_n C dX3_at_8 rfl rfl ?_
    refine g_callSn C _ dX3_at_9 (c_X3_isThing l G _ _) kmX3_61 ks_X3_isThing kn_X3 kc_X3_isThing hy_X3_isThing ⟨by decide, by decide⟩ rfl (Nat.le_of_ble_eq_true rfl) ⟨by decide, by decide⟩ (fun v w1 hp => ?_)
    obtain ⟨rfl, hw1⟩ := hp
    have hw1 := hw1.symm
    subst hw1
    refine g_if_eq C 33 dX3_at_12 (by decide) (fun c12 => ?_) (fun c12 => ?_)
    · have c12 := bI_z.mp c12
      refine g_iconst C (v := 0) dX3_at_33 (by decide) ?_
      refine g_iconst C (v := 1) dX3_at_34 (by decide) ?_
      refine g_iconst C (v := 1) dX3_at_35 (by decide) ?_
      refine g_callVn C _ dX3_at_36 (c_X3_goes l G _ _ _ _ _ _ _ _ _ hR (false) (true) (true)) kmX3_68 ki_X3_goes kv_X3_goes kn_X3 kc_X3_goes hy_X3_goes ⟨by decide, by decide⟩ hm rfl rfl (Nat.le_of_ble_eq_true rfl) ⟨by decide, by decide⟩ (fun v w1 hp => ?_)
      obtain ⟨rfl, hw1⟩ := hp
      have hw1 := hw1.symm
      subst hw1
      have hR := hR.upM (thC (false) (true) (true)) ord mny hn
      obtain ⟨hm, r0, r1, r2, r3, r4, r5, r6, r7, r8, r9, r10, r11, r12, hinj, hn⟩ := id hR
      have hf1 : fr (MD mo M) w _ := fr.rf.up (b := mo) (e := cellM M (thC (false) (true) (true)) n ord mny) MD.m
      refine g_if_ne C 44 dX3_at_39 (by decide) (fun c39 => absurd (by simp [bI]) c39) (fun _ => ?_)
      refine g_iconst C (v := 0) dX3_at_42 (by decide) ?_
      have hp1 : (isDk d && (isTh th && (wiB fl 0 3 && !decide (k < 0)))) = (false) := by first | rfl | simp [c5, c12]
      have hp2 : (true) = (true) := by first | rfl | simp []
      have hp3 : (true) = (true) := by first | rfl | simp []
      refine g_iret C hr dX3_at_43 (by decide) (by decide) ?_
      rw [hp3, hp2, hp1]
      exact Or.inl ⟨by simp, rfl, hR, hf1⟩
    · have c12 := bI_nz.mp c12
      refine g_iload_n C dX3_at_15 rfl rfl ?_
      refine g_iconst C (v := 0) dX3_at_16 (by decide) ?_
      refine g_iconst C (v := 3) dX3_at_17 (by decide) ?_
      refine g_callSn C _ dX3_at_18 (c_X3_within l G _ _ _ _) kmX3_64 ks_X3_within kn_X3 kc_X3_within hy_X3_within ⟨by decide, by decide⟩ rfl (Nat.le_of_ble_eq_true rfl) ⟨by decide, by decide⟩ (fun v w1 hp => ?_)
      obtain ⟨rfl, hw1⟩ := hp
      have hw1 := hw1.symm
      subst hw1
      refine g_if_eq C 33 dX3_at_21 (by decide) (fun c21 => ?_) (fun c21 => ?_)
      · have c21 := bI_z.mp c21
        refine g_iconst C (v := 0) dX3_at_33 (by decide) ?_
        refine g_iconst C (v := 1) dX3_at_34 (by decide) ?_
        refine g_iconst C (v := 1) dX3_at_35 (by decide) ?_
        refine g_callVn C _ dX3_at_36 (c_X3_goes l G _ _ _ _ _ _ _ _ _ hR (false) (true) (true)) kmX3_68 ki_X3_goes kv_X3_goes kn_X3 kc_X3_goes hy_X3_goes ⟨by decide, by decide⟩ hm rfl rfl (Nat.le_of_ble_eq_true rfl) ⟨by decide, by decide⟩ (fun v w1 hp => ?_)
        obtain ⟨rfl, hw1⟩ := hp
        have hw1 := hw1.symm
        subst hw1
        have hR := hR.upM (thC (false) (true) (true)) ord mny hn
        obtain ⟨hm, r0, r1, r2, r3, r4, r5, r6, r7, r8, r9, r10, r11, r12, hinj, hn⟩ := id hR
        have hf1 : fr (MD mo M) w _ := fr.rf.up (b := mo) (e := cellM M (thC (false) (true) (true)) n ord mny) MD.m
        refine g_if_ne C 44 dX3_at_39 (by decide) (fun c39 => absurd (by simp [bI]) c39) (fun _ => ?_)
        refine g_iconst C (v := 0) dX3_at_42 (by decide) ?_
        have hp1 : (isDk d && (isTh th && (wiB fl 0 3 && !decide (k < 0)))) = (false) := by first | rfl | simp [c5, c12, c21]
        have hp2 : (true) = (true) := by first | rfl | simp []
        have hp3 : (true) = (true) := by first | rfl | simp []
        refine g_iret C hr dX3_at_43 (by decide) (by decide) ?_
        rw [hp3, hp2, hp1]
        exact Or.inl ⟨by simp, rfl, hR, hf1⟩
      · have c21 := bI_nz.mp c21
        refine g_iload C dX3_at_24 rfl ?_
        refine g_if_lt C 33 dX3_at_26 (by decide) (fun c26 => ?_) (fun c26 => ?_)
        · refine g_iconst C (v := 0) dX3_at_33 (by decide) ?_
          refine g_iconst C (v := 1) dX3_at_34 (by decide) ?_
          refine g_iconst C (v := 1) dX3_at_35 (by decide) ?_
          refine g_callVn C _ dX3_at_36 (c_X3_goes l G _ _ _ _ _ _ _ _ _ hR (false) (true) (true)) kmX3_68 ki_X3_goes kv_X3_goes kn_X3 kc_X3_goes hy_X3_goes ⟨by decide, by decide⟩ hm rfl rfl (Nat.le_of_ble_eq_true rfl) ⟨by decide, by decide⟩ (fun v w1 hp => ?_)
          obtain ⟨rfl, hw1⟩ := hp
          have hw1 := hw1.symm
          subst hw1
          have hR := hR.upM (thC (false) (true) (true)) ord mny hn
          obtain ⟨hm, r0, r1, r2, r3, r4, r5, r6, r7, r8, r9, r10, r11, r12, hinj, hn⟩ := id hR
          have hf1 : fr (MD mo M) w _ := fr.rf.up (b := mo) (e := cellM M (thC (false) (true) (true)) n ord mny) MD.m
          refine g_if_ne C 44 dX3_at_39 (by decide) (fun c39 => absurd (by simp [bI]) c39) (fun _ => ?_)
          refine g_iconst C (v := 0) dX3_at_42 (by decide) ?_
          have hp1 : (isDk d && (isTh th && (wiB fl 0 3 && !decide (k < 0)))) = (false) := by first | rfl | simp [c5, c12, c21, c26]
          have hp2 : (true) = (true) := by first | rfl | simp []
          have hp3 : (true) = (true) := by first | rfl | simp []
          refine g_iret C hr dX3_at_43 (by decide) (by decide) ?_
          rw [hp3, hp2, hp1]
          exact Or.inl ⟨by simp, rfl, hR, hf1⟩
        · refine g_iconst C (v := 1) dX3_at_29 (by decide) ?_
          refine g_goto C 34 dX3_at_30 (by decide) ?_
          refine g_iconst C (v := 1) dX3_at_34 (by decide) ?_
          refine g_iconst C (v := 1) dX3_at_35 (by decide) ?_
          refine g_callVn C _ dX3_at_36 (c_X3_goes l G _ _ _ _ _ _ _ _ _ hR (true) (true) (true)) kmX3_68 ki_X3_goes kv_X3_goes kn_X3 kc_X3_goes hy_X3_goes ⟨by decide, by decide⟩ hm rfl rfl (Nat.le_of_ble_eq_true rfl) ⟨by decide, by decide⟩ (fun v w1 hp => ?_)
          obtain ⟨rfl, hw1⟩ := hp
          have hw1 := hw1.symm
          subst hw1
          have hR := hR.upM (thC (true) (true) (true)) ord mny hn
          obtain ⟨hm, r0, r1, r2, r3, r4, r5, r6, r7, r8, r9, r10, r11, r12, hinj, hn⟩ := id hR
          have hf1 : fr (MD mo M) w _ := fr.rf.up (b := mo) (e := cellM M (thC (true) (true) (true)) n ord mny) MD.m
          refine g_if_ne C 44 dX3_at_39 (by decide) (fun _ => ?_) (fun c39 => absurd c39 (by simp [bI]))
          obtain ⟨d', hd', rfl⟩ := isDk_nI c5
          refine g_iload_n C dX3_at_44 rfl rfl ?_
          refine g_iconst C (v := 2) dX3_at_45 (by decide) ?_
          refine g_icmp_ge C 78 dX3_at_46 (by decide) (fun c46 => ?_) (fun c46 => ?_)
          · refine g_iload_n C dX3_at_78 rfl rfl ?_
            refine g_iconst C (v := 2) dX3_at_79 (by decide) ?_
            refine g_icmp_ne C 92 dX3_at_80 (by decide) (fun c80 => ?_) (fun c80 => ?_)
            · first | refine g_aload_n C dX3_at_92 rfl rfl ?_ | refine g_aload_nN C dX3_at_92 rfl rfl ?_ | refine g_aload_nq C dX3_at_92 rfl rfl ?_
              refine g_iload_n C dX3_at_93 rfl rfl ?_
              refine g_iload_n C dX3_at_94 rfl rfl ?_
              refine g_iload C dX3_at_95 rfl ?_
              refine g_callVn C _ dX3_at_97 (c_X3_standing l G _ _ _ _ _ _ _ _ _ hR d' hd' th ch hs hcl k) kmX3_107 ki_X3_standing kv_X3_standing kn_X3 kc_X3_standing hy_X3_standing ⟨by decide, by decide⟩ hm rfl rfl (Nat.le_of_ble_eq_true rfl) ⟨by decide, by decide⟩ (fun v w1 hp => ?_)
              obtain ⟨rfl, I', B', hI', hB', hR2, hf2⟩ := hp
              have hgs : stG (fun t => iter (enS I B d' 4 (nI t)) false n) k 0 (lineL I (ch.filter (lnP I B d' th))) = mstG I B n ch d' th k := rfl
              rw [hgs]
              cases hst : mstG I B n ch d' th k with
              | none =>
                refine g_istore C dX3_at_100 (by decide) ?_
                refine g_iload C dX3_at_102 rfl ?_
                refine g_iconst C (v := (-1)) dX3_at_104 (by decide) ?_
                refine g_icmp_ne C 112 dX3_at_105 (by decide) (fun c105 => absurd (rfl) c105) (fun _ => ?_)
                refine g_iconst C (v := (-1)) dX3_at_108 (by decide) ?_
                refine g_goto C 119 dX3_at_109 (by decide) ?_
                have hp1 : (isDk (nI d') && (isTh th && (wiB fl 0 3 && !decide (k < 0)))) = (true) := by first | rfl | simp [c5, c12, c21, c26]
                have hp2 : (true) = (true) := by first | rfl | simp []
                have hp3 : (true) = (true) := by first | rfl | simp []
                have hth := thC_t (rfl : (true && (true && true)) = true)
                refine g_iret C hr dX3_at_119 (by decide) (by decide) ?_
                rw [hp3, hp2, hp1]
                exact Or.inr ⟨(rfl : (true && (true && true)) = true), _, rfl, _, hd', rfl, by simp [matV, c46, c80, hst, mvO], I', B', _, mny, ⟨fun a h9 _ => hI' a h9, fun a _ h12 => hB' a h12⟩, hR2.th hth, hf1.trans hf2⟩
              | some t9 =>
                have ht9 := mstG_lt hs hst
                obtain ⟨hm, r0, r1, r2, r3, r4, r5, r6, r7, r8, r9, r10, r11, r12, hinj, hn⟩ := id hR2
                rw [hI' 4 (by decide)] at r4
                refine g_istore C dX3_at_100 (by decide) ?_
                refine g_iload C dX3_at_102 rfl ?_
                refine g_iconst C (v := (-1)) dX3_at_104 (by decide) ?_
                refine g_icmp_ne C 112 dX3_at_105 (by decide) (fun _ => ?_) (fun c105 => absurd c105 (oI_some (by omega)))
                first | refine g_aload_n C dX3_at_112 rfl rfl ?_ | refine g_aload_nN C dX3_at_112 rfl rfl ?_ | refine g_aload_nq C dX3_at_112 rfl rfl ?_
                refine g_get C dX3_at_113 hm rfl kw_X3 6 (by decide) kfX3_22 rfl rfl ?_
                refine g_iload C dX3_at_116 rfl ?_
                refine g_ialdN C dX3_at_118 r4 (by omega) (by decide) ?_
                have hp1 : (isDk (nI d') && (isTh th && (wiB fl 0 3 && !decide (k < 0)))) = (true) := by first | rfl | simp [c5, c12, c21, c26]
                have hp2 : (true) = (true) := by first | rfl | simp []
                have hp3 : (true) = (true) := by first | rfl | simp []
                have hth := thC_t (rfl : (true && (true && true)) = true)
                refine g_iret C hr dX3_at_119 (by decide) (by decide) ?_
                rw [hp3, hp2, hp1]
                exact Or.inr ⟨(rfl : (true && (true && true)) = true), _, rfl, _, hd', rfl, by simp [matV, c46, c80, hst, mvO], I', B', _, mny, ⟨fun a h9 _ => hI' a h9, fun a _ h12 => hB' a h12⟩, hR2.th hth, hf1.trans hf2⟩
            · first | refine g_aload_n C dX3_at_83 rfl rfl ?_ | refine g_aload_nN C dX3_at_83 rfl rfl ?_ | refine g_aload_nq C dX3_at_83 rfl rfl ?_
              refine g_iload_n C dX3_at_84 rfl rfl ?_
              refine g_iload_n C dX3_at_85 rfl rfl ?_
              refine g_iload C dX3_at_86 rfl ?_
              refine g_callVn C _ dX3_at_88 (c_X3_union l G _ _ _ _ _ _ _ _ _ hR d' th k hd') kmX3_103 ki_X3_union kv_X3_union kn_X3 kc_X3_union hy_X3_union ⟨by decide, by decide⟩ hm rfl rfl (Nat.le_of_ble_eq_true rfl) ⟨by decide, by decide⟩ (fun v w1 hp => ?_)
              obtain ⟨rfl, hw1⟩ := hp
              have hw1 := hw1.symm
              subst hw1
              have hp1 : (isDk (nI d') && (isTh th && (wiB fl 0 3 && !decide (k < 0)))) = (true) := by first | rfl | simp [c5, c12, c21, c26]
              have hp2 : (true) = (true) := by first | rfl | simp []
              have hp3 : (true) = (true) := by first | rfl | simp []
              have hth := thC_t (rfl : (true && (true && true)) = true)
              refine g_iret C hr dX3_at_91 (by decide) (by decide) ?_
              rw [hp3, hp2, hp1]
              exact Or.inr ⟨(rfl : (true && (true && true)) = true), _, rfl, _, hd', rfl, by simp [matV, c46, c80], I, B, ord, mny, scr.rf, hR.th hth, hf1⟩
          · refine g_iload C dX3_at_49 rfl ?_
            refine g_if_le C 58 dX3_at_51 (by decide) (fun c51 => ?_) (fun c51 => ?_)
            · refine g_iload_n C dX3_at_58 rfl rfl ?_
              refine g_if_ne C 71 dX3_at_59 (by decide) (fun c59 => ?_) (fun c59 => ?_)
              · first | refine g_aload_n C dX3_at_71 rfl rfl ?_ | refine g_aload_nN C dX3_at_71 rfl rfl ?_ | refine g_aload_nq C dX3_at_71 rfl rfl ?_
                refine g_iload_n C dX3_at_72 rfl rfl ?_
                refine g_iload_n C dX3_at_73 rfl rfl ?_
                refine g_callVn C _ dX3_at_74 (c_X3_sum l G _ _ _ _ _ _ _ _ _ hR d' th hd') kmX3_100 ki_X3_sum kv_X3_sum kn_X3 kc_X3_sum hy_X3_sum ⟨by decide, by decide⟩ hm rfl rfl (Nat.le_of_ble_eq_true rfl) ⟨by decide, by decide⟩ (fun v w1 hp => ?_)
                obtain ⟨rfl, hw1⟩ := hp
                have hw1 := hw1.symm
                subst hw1
                have e51 : ¬ 0 < k := Int32.not_lt.mpr c51
                have hp1 : (isDk (nI d') && (isTh th && (wiB fl 0 3 && !decide (k < 0)))) = (true) := by first | rfl | simp [c5, c12, c21, c26]
                have hp2 : (true) = (true) := by first | rfl | simp []
                have hp3 : (true) = (true) := by first | rfl | simp []
                have hth := thC_t (rfl : (true && (true && true)) = true)
                refine g_iret C hr dX3_at_77 (by decide) (by decide) ?_
                rw [hp3, hp2, hp1]
                exact Or.inr ⟨(rfl : (true && (true && true)) = true), _, rfl, _, hd', rfl, by simp [matV, c46, e51, c59], I, B, ord, mny, scr.rf, hR.th hth, hf1⟩
              · first | refine g_aload_n C dX3_at_62 rfl rfl ?_ | refine g_aload_nN C dX3_at_62 rfl rfl ?_ | refine g_aload_nq C dX3_at_62 rfl rfl ?_
                refine g_iload_n C dX3_at_63 rfl rfl ?_
                refine g_iload_n C dX3_at_64 rfl rfl ?_
                refine g_callVn C _ dX3_at_65 (c_X3_latest l G _ _ _ _ _ _ _ _ _ hR d' th hd') kmX3_96 ki_X3_latest kv_X3_latest kn_X3 kc_X3_latest hy_X3_latest ⟨by decide, by decide⟩ hm rfl rfl (Nat.le_of_ble_eq_true rfl) ⟨by decide, by decide⟩ (fun v w1 hp => ?_)
                obtain ⟨rfl, hw1⟩ := hp
                have hw1 := hw1.symm
                subst hw1
                refine g_goto C 77 dX3_at_68 (by decide) ?_
                have e51 : ¬ 0 < k := Int32.not_lt.mpr c51
                have hp1 : (isDk (nI d') && (isTh th && (wiB fl 0 3 && !decide (k < 0)))) = (true) := by first | rfl | simp [c5, c12, c21, c26]
                have hp2 : (true) = (true) := by first | rfl | simp []
                have hp3 : (true) = (true) := by first | rfl | simp []
                have hth := thC_t (rfl : (true && (true && true)) = true)
                refine g_iret C hr dX3_at_77 (by decide) (by decide) ?_
                rw [hp3, hp2, hp1]
                exact Or.inr ⟨(rfl : (true && (true && true)) = true), _, rfl, _, hd', rfl, by simp [matV, c46, e51, c59], I, B, ord, mny, scr.rf, hR.th hth, hf1⟩
            · refine g_iconst C (v := (-1)) dX3_at_54 (by decide) ?_
              refine g_goto C 77 dX3_at_55 (by decide) ?_
              have e51 : 0 < k := Int32.not_le.mp c51
              have hp1 : (isDk (nI d') && (isTh th && (wiB fl 0 3 && !decide (k < 0)))) = (true) := by first | rfl | simp [c5, c12, c21, c26]
              have hp2 : (true) = (true) := by first | rfl | simp []
              have hp3 : (true) = (true) := by first | rfl | simp []
              have hth := thC_t (rfl : (true && (true && true)) = true)
              refine g_iret C hr dX3_at_77 (by decide) (by decide) ?_
              rw [hp3, hp2, hp1]
              exact Or.inr ⟨(rfl : (true && (true && true)) = true), _, rfl, _, hd', rfl, by simp [matV, c46, e51], I, B, ord, mny, scr.rf, hR.th hth, hf1⟩

set_option maxHeartbeats 4000000 in
set_option maxRecDepth 100000 in
theorem c_X3_place (l : Launch) (G : hD) (w : hW) (mo : Nat) (M : Nat → Nat) (n : Nat) (I : Nat → Nat → Int32) (B : Nat → Nat → Bool) (thr ord mny : Int32) (hR : MR G mo M n I B thr ord mny w) (ch : List Nat) (hs : srt I n ch) (hcl : ch.length = n) (d th k : Int32) : h_Met l yX3_place (Cond.code yX3_place cX3_place 4 (some .int)) { frames := 4, cells := 0, slots := 0, locals := 130 } G [.ref mo, .int d, .int th, .int k] w (mP G mo M n I B ord mny w (isDk d && (isTh th && !decide (k < 0))) (true) (true) (fun x w' => ∃ d', d' < 6 ∧ d = nI d' ∧ mT G mo M n I B w (oI (mstG I B n ch d' th k)) x w')) noX := by
  refine h_met RX3 rfl (by decide) (Nat.le_of_ble_eq_true rfl) (cat_c (by first | rfl | exact rf_cat _) (cat_c (by first | rfl | exact rf_cat _) (cat_c (by first | rfl | exact rf_cat _) (cat_c (by first | rfl | exact rf_cat _) cat_n)))) ?_
  intro p e s m below meth c A C hnt hr hnm
  obtain ⟨hm, r0, r1, r2, r3, r4, r5, r6, r7, r8, r9, r10, r11, r12, hinj, hn⟩ := id hR
  first | refine g_aload_n C dX3_place_0 rfl rfl ?_ | refine g_aload_nN C dX3_place_0 rfl rfl ?_ | refine g_aload_nq C dX3_place_0 rfl rfl ?_
  refine g_iload_n C dX3_place_1 rfl rfl ?_
  refine g_callSn C _ dX3_place_2 (c_X3_isDesk l G _ _) kmX3_54 ks_X3_isDesk kn_X3 kc_X3_isDesk hy_X3_isDesk ⟨by decide, by decide⟩ rfl (Nat.le_of_ble_eq_true rfl) ⟨by decide, by decide⟩ (fun v w1 hp => ?_)
  obtain ⟨rfl, hw1⟩ := hp
  have hw1 := hw1.symm
  subst hw1
  refine g_if_eq C 23 dX3_place_5 (by decide) (fun c5 => ?_) (fun c5 => ?_)
  · have c5 := bI_z.mp c5
    refine g_iconst C (v := 0) dX3_place_23 (by decide) ?_
    refine g_iconst C (v := 1) dX3_place_24 (by decide) ?_
    refine g_iconst C (v := 1) dX3_place_25 (by decide) ?_
    refine g_callVn C _ dX3_place_26 (c_X3_goes l G _ _ _ _ _ _ _ _ _ hR (false) (true) (true)) kmX3_68 ki_X3_goes kv_X3_goes kn_X3 kc_X3_goes hy_X3_goes ⟨by decide, by decide⟩ hm rfl rfl (Nat.le_of_ble_eq_true rfl) ⟨by decide, by decide⟩ (fun v w1 hp => ?_)
    obtain ⟨rfl, hw1⟩ := hp
    have hw1 := hw1.symm
    subst hw1
    have hR := hR.upM (thC (false) (true) (true)) ord mny hn
    obtain ⟨hm, r0, r1, r2, r3, r4, r5, r6, r7, r8, r9, r10, r11, r12, hinj, hn⟩ := id hR
    have hf1 : fr (MD mo M) w _ := fr.rf.up (b := mo) (e := cellM M (thC (false) (true) (true)) n ord mny) MD.m
    refine g_if_eq C 42 dX3_place_29 (by decide) (fun _ => ?_) (fun c29 => absurd (by simp [bI]) c29)
    refine g_iconst C (v := 0) dX3_place_42 (by decide) ?_
    have hp1 : (isDk d && (isTh th && !decide (k < 0))) = (false) := by first | rfl | simp [c5]
    have hp2 : (true) = (true) := by first | rfl | simp []
    have hp3 : (true) = (true) := by first | rfl | simp []
    refine g_iret C hr dX3_place_43 (by decide) (by decide) ?_
    rw [hp3, hp2, hp1]
    exact Or.inl ⟨by simp, rfl, hR, hf1⟩
  · have c5 := bI_nz.mp c5
    refine g_iload_n C dX3_place_8 rfl rfl ?_
    refine g_callSn C _ dX3_place_9 (c_X3_isThing l G _ _) kmX3_61 ks_X3_isThing kn_X3 kc_X3_isThing hy_X3_isThing ⟨by decide, by decide⟩ rfl (Nat.le_of_ble_eq_true rfl) ⟨by decide, by decide⟩ (fun v w1 hp => ?_)
    obtain ⟨rfl, hw1⟩ := hp
    have hw1 := hw1.symm
    subst hw1
    refine g_if_eq C 23 dX3_place_12 (by decide) (fun c12 => ?_) (fun c12 => ?_)
    · have c12 := bI_z.mp c12
      refine g_iconst C (v := 0) dX3_place_23 (by decide) ?_
      refine g_iconst C (v := 1) dX3_place_24 (by decide) ?_
      refine g_iconst C (v := 1) dX3_place_25 (by decide) ?_
      refine g_callVn C _ dX3_place_26 (c_X3_goes l G _ _ _ _ _ _ _ _ _ hR (false) (true) (true)) kmX3_68 ki_X3_goes kv_X3_goes kn_X3 kc_X3_goes hy_X3_goes ⟨by decide, by decide⟩ hm rfl rfl (Nat.le_of_ble_eq_true rfl) ⟨by decide, by decide⟩ (fun v w1 hp => ?_)
      obtain ⟨rfl, hw1⟩ := hp
      have hw1 := hw1.symm
      subst hw1
      have hR := hR.upM (thC (false) (true) (true)) ord mny hn
      obtain ⟨hm, r0, r1, r2, r3, r4, r5, r6, r7, r8, r9, r10, r11, r12, hinj, hn⟩ := id hR
      have hf1 : fr (MD mo M) w _ := fr.rf.up (b := mo) (e := cellM M (thC (false) (true) (true)) n ord mny) MD.m
      refine g_if_eq C 42 dX3_place_29 (by decide) (fun _ => ?_) (fun c29 => absurd (by simp [bI]) c29)
      refine g_iconst C (v := 0) dX3_place_42 (by decide) ?_
      have hp1 : (isDk d && (isTh th && !decide (k < 0))) = (false) := by first | rfl | simp [c5, c12]
      have hp2 : (true) = (true) := by first | rfl | simp []
      have hp3 : (true) = (true) := by first | rfl | simp []
      refine g_iret C hr dX3_place_43 (by decide) (by decide) ?_
      rw [hp3, hp2, hp1]
      exact Or.inl ⟨by simp, rfl, hR, hf1⟩
    · have c12 := bI_nz.mp c12
      refine g_iload_n C dX3_place_15 rfl rfl ?_
      refine g_if_lt C 23 dX3_place_16 (by decide) (fun c16 => ?_) (fun c16 => ?_)
      · refine g_iconst C (v := 0) dX3_place_23 (by decide) ?_
        refine g_iconst C (v := 1) dX3_place_24 (by decide) ?_
        refine g_iconst C (v := 1) dX3_place_25 (by decide) ?_
        refine g_callVn C _ dX3_place_26 (c_X3_goes l G _ _ _ _ _ _ _ _ _ hR (false) (true) (true)) kmX3_68 ki_X3_goes kv_X3_goes kn_X3 kc_X3_goes hy_X3_goes ⟨by decide, by decide⟩ hm rfl rfl (Nat.le_of_ble_eq_true rfl) ⟨by decide, by decide⟩ (fun v w1 hp => ?_)
        obtain ⟨rfl, hw1⟩ := hp
        have hw1 := hw1.symm
        subst hw1
        have hR := hR.upM (thC (false) (true) (true)) ord mny hn
        obtain ⟨hm, r0, r1, r2, r3, r4, r5, r6, r7, r8, r9, r10, r11, r12, hinj, hn⟩ := id hR
        have hf1 : fr (MD mo M) w _ := fr.rf.up (b := mo) (e := cellM M (thC (false) (true) (true)) n ord mny) MD.m
        refine g_if_eq C 42 dX3_place_29 (by decide) (fun _ => ?_) (fun c29 => absurd (by simp [bI]) c29)
        refine g_iconst C (v := 0) dX3_place_42 (by decide) ?_
        have hp1 : (isDk d && (isTh th && !decide (k < 0))) = (false) := by first | rfl | simp [c5, c12, c16]
        have hp2 : (true) = (true) := by first | rfl | simp []
        have hp3 : (true) = (true) := by first | rfl | simp []
        refine g_iret C hr dX3_place_43 (by decide) (by decide) ?_
        rw [hp3, hp2, hp1]
        exact Or.inl ⟨by simp, rfl, hR, hf1⟩
      · refine g_iconst C (v := 1) dX3_place_19 (by decide) ?_
        refine g_goto C 24 dX3_place_20 (by decide) ?_
        refine g_iconst C (v := 1) dX3_place_24 (by decide) ?_
        refine g_iconst C (v := 1) dX3_place_25 (by decide) ?_
        refine g_callVn C _ dX3_place_26 (c_X3_goes l G _ _ _ _ _ _ _ _ _ hR (true) (true) (true)) kmX3_68 ki_X3_goes kv_X3_goes kn_X3 kc_X3_goes hy_X3_goes ⟨by decide, by decide⟩ hm rfl rfl (Nat.le_of_ble_eq_true rfl) ⟨by decide, by decide⟩ (fun v w1 hp => ?_)
        obtain ⟨rfl, hw1⟩ := hp
        have hw1 := hw1.symm
        subst hw1
        have hR := hR.upM (thC (true) (true) (true)) ord mny hn
        obtain ⟨hm, r0, r1, r2, r3, r4, r5, r6, r7, r8, r9, r10, r11, r12, hinj, hn⟩ := id hR
        have hf1 : fr (MD mo M) w _ := fr.rf.up (b := mo) (e := cellM M (thC (true) (true) (true)) n ord mny) MD.m
        refine g_if_eq C 42 dX3_place_29 (by decide) (fun c29 => absurd c29 (by simp [bI])) (fun _ => ?_)
        obtain ⟨d', hd', rfl⟩ := isDk_nI c5
        first | refine g_aload_n C dX3_place_32 rfl rfl ?_ | refine g_aload_nN C dX3_place_32 rfl rfl ?_ | refine g_aload_nq C dX3_place_32 rfl rfl ?_
        refine g_iload_n C dX3_place_33 rfl rfl ?_
        refine g_iload_n C dX3_place_34 rfl rfl ?_
        refine g_iload_n C dX3_place_35 rfl rfl ?_
        refine g_callVn C _ dX3_place_36 (c_X3_standing l G _ _ _ _ _ _ _ _ _ hR d' hd' th ch hs hcl k) kmX3_107 ki_X3_standing kv_X3_standing kn_X3 kc_X3_standing hy_X3_standing ⟨by decide, by decide⟩ hm rfl rfl (Nat.le_of_ble_eq_true rfl) ⟨by decide, by decide⟩ (fun v w1 hp => ?_)
        obtain ⟨rfl, I', B', hI', hB', hR2, hf2⟩ := hp
        refine g_goto C 43 dX3_place_39 (by decide) ?_
        have hp1 : (isDk (nI d') && (isTh th && !decide (k < 0))) = (true) := by first | rfl | simp [c5, c12, c16]
        have hp2 : (true) = (true) := by first | rfl | simp []
        have hp3 : (true) = (true) := by first | rfl | simp []
        have hth := thC_t (rfl : (true && (true && true)) = true)
        refine g_iret C hr dX3_place_43 (by decide) (by decide) ?_
        rw [hp3, hp2, hp1]
        exact Or.inr ⟨(rfl : (true && (true && true)) = true), _, rfl, _, hd', rfl, rfl, I', B', _, mny, ⟨fun a h9 _ => hI' a h9, fun a _ h12 => hB' a h12⟩, hR2.th hth, hf1.trans hf2⟩

set_option maxHeartbeats 4000000 in
set_option maxRecDepth 100000 in
theorem c_X3_order (l : Launch) (G : hD) (w : hW) (mo : Nat) (M : Nat → Nat) (n : Nat) (I : Nat → Nat → Int32) (B : Nat → Nat → Bool) (thr ord mny : Int32) (hR : MR G mo M n I B thr ord mny w) (ch : List Nat) (hs : srt I n ch) (hcl : ch.length = n) (hrel : ∀ t, t < n → I 2 t = 5 → ∃ v, I 4 t = nI v ∧ v < 256 ∧ v / 16 ≠ v % 16) (d x9 y9 : Int32) : h_Met l yX3_order (Cond.code yX3_order cX3_order 4 (some .int)) { frames := 4, cells := 0, slots := 0, locals := 130 } G [.ref mo, .int d, .int x9, .int y9] w (mP G mo M n I B ord mny w (isDk d && (isTh x9 && isTh y9)) (true) (true) (fun x w' => ∃ d' x' y', d' < 6 ∧ x' < 16 ∧ y' < 16 ∧ d = nI d' ∧ x9 = nI x' ∧ y9 = nI y' ∧ mT G mo M n I B w (morV (mrel I B n ch d') x' y') x w')) noX := by
  refine h_met RX3 rfl (by decide) (Nat.le_of_ble_eq_true rfl) (cat_c (by first | rfl | exact rf_cat _) (cat_c (by first | rfl | exact rf_cat _) (cat_c (by first | rfl | exact rf_cat _) (cat_c (by first | rfl | exact rf_cat _) cat_n)))) ?_
  intro p e s m below meth c A C hnt hr hnm
  obtain ⟨hm, r0, r1, r2, r3, r4, r5, r6, r7, r8, r9, r10, r11, r12, hinj, hn⟩ := id hR
  first | refine g_aload_n C dX3_order_0 rfl rfl ?_ | refine g_aload_nN C dX3_order_0 rfl rfl ?_ | refine g_aload_nq C dX3_order_0 rfl rfl ?_
  refine g_iload_n C dX3_order_1 rfl rfl ?_
  refine g_callSn C _ dX3_order_2 (c_X3_isDesk l G _ _) kmX3_54 ks_X3_isDesk kn_X3 kc_X3_isDesk hy_X3_isDesk ⟨by decide, by decide⟩ rfl (Nat.le_of_ble_eq_true rfl) ⟨by decide, by decide⟩ (fun v w1 hp => ?_)
  obtain ⟨rfl, hw1⟩ := hp
  have hw1 := hw1.symm
  subst hw1
  refine g_if_eq C 26 dX3_order_5 (by decide) (fun c5 => ?_) (fun c5 => ?_)
  · have c5 := bI_z.mp c5
    refine g_iconst C (v := 0) dX3_order_26 (by decide) ?_
    refine g_iconst C (v := 1) dX3_order_27 (by decide) ?_
    refine g_iconst C (v := 1) dX3_order_28 (by decide) ?_
    refine g_callVn C _ dX3_order_29 (c_X3_goes l G _ _ _ _ _ _ _ _ _ hR (false) (true) (true)) kmX3_68 ki_X3_goes kv_X3_goes kn_X3 kc_X3_goes hy_X3_goes ⟨by decide, by decide⟩ hm rfl rfl (Nat.le_of_ble_eq_true rfl) ⟨by decide, by decide⟩ (fun v w1 hp => ?_)
    obtain ⟨rfl, hw1⟩ := hp
    have hw1 := hw1.symm
    subst hw1
    have hR := hR.upM (thC (false) (true) (true)) ord mny hn
    obtain ⟨hm, r0, r1, r2, r3, r4, r5, r6, r7, r8, r9, r10, r11, r12, hinj, hn⟩ := id hR
    have hf1 : fr (MD mo M) w _ := fr.rf.up (b := mo) (e := cellM M (thC (false) (true) (true)) n ord mny) MD.m
    refine g_if_ne C 37 dX3_order_32 (by decide) (fun c32 => absurd (by simp [bI]) c32) (fun _ => ?_)
    refine g_iconst C (v := 0) dX3_order_35 (by decide) ?_
    have hp1 : (isDk d && (isTh x9 && isTh y9)) = (false) := by first | rfl | simp [c5]
    have hp2 : (true) = (true) := by first | rfl | simp []
    have hp3 : (true) = (true) := by first | rfl | simp []
    refine g_iret C hr dX3_order_36 (by decide) (by decide) ?_
    rw [hp3, hp2, hp1]
    exact Or.inl ⟨by simp, rfl, hR, hf1⟩
  · have c5 := bI_nz.mp c5
    refine g_iload_n C dX3_order_8 rfl rfl ?_
    refine g_callSn C _ dX3_order_9 (c_X3_isThing l G _ _) kmX3_61 ks_X3_isThing kn_X3 kc_X3_isThing hy_X3_isThing ⟨by decide, by decide⟩ rfl (Nat.le_of_ble_eq_true rfl) ⟨by decide, by decide⟩ (fun v w1 hp => ?_)
    obtain ⟨rfl, hw1⟩ := hp
    have hw1 := hw1.symm
    subst hw1
    refine g_if_eq C 26 dX3_order_12 (by decide) (fun c12 => ?_) (fun c12 => ?_)
    · have c12 := bI_z.mp c12
      refine g_iconst C (v := 0) dX3_order_26 (by decide) ?_
      refine g_iconst C (v := 1) dX3_order_27 (by decide) ?_
      refine g_iconst C (v := 1) dX3_order_28 (by decide) ?_
      refine g_callVn C _ dX3_order_29 (c_X3_goes l G _ _ _ _ _ _ _ _ _ hR (false) (true) (true)) kmX3_68 ki_X3_goes kv_X3_goes kn_X3 kc_X3_goes hy_X3_goes ⟨by decide, by decide⟩ hm rfl rfl (Nat.le_of_ble_eq_true rfl) ⟨by decide, by decide⟩ (fun v w1 hp => ?_)
      obtain ⟨rfl, hw1⟩ := hp
      have hw1 := hw1.symm
      subst hw1
      have hR := hR.upM (thC (false) (true) (true)) ord mny hn
      obtain ⟨hm, r0, r1, r2, r3, r4, r5, r6, r7, r8, r9, r10, r11, r12, hinj, hn⟩ := id hR
      have hf1 : fr (MD mo M) w _ := fr.rf.up (b := mo) (e := cellM M (thC (false) (true) (true)) n ord mny) MD.m
      refine g_if_ne C 37 dX3_order_32 (by decide) (fun c32 => absurd (by simp [bI]) c32) (fun _ => ?_)
      refine g_iconst C (v := 0) dX3_order_35 (by decide) ?_
      have hp1 : (isDk d && (isTh x9 && isTh y9)) = (false) := by first | rfl | simp [c5, c12]
      have hp2 : (true) = (true) := by first | rfl | simp []
      have hp3 : (true) = (true) := by first | rfl | simp []
      refine g_iret C hr dX3_order_36 (by decide) (by decide) ?_
      rw [hp3, hp2, hp1]
      exact Or.inl ⟨by simp, rfl, hR, hf1⟩
    · have c12 := bI_nz.mp c12
      refine g_iload_n C dX3_order_15 rfl rfl ?_
      refine g_callSn C _ dX3_order_16 (c_X3_isThing l G _ _) kmX3_61 ks_X3_isThing kn_X3 kc_X3_isThing hy_X3_isThing ⟨by decide, by decide⟩ rfl (Nat.le_of_ble_eq_true rfl) ⟨by decide, by decide⟩ (fun v w1 hp => ?_)
      obtain ⟨rfl, hw1⟩ := hp
      have hw1 := hw1.symm
      subst hw1
      refine g_if_eq C 26 dX3_order_19 (by decide) (fun c19 => ?_) (fun c19 => ?_)
      · have c19 := bI_z.mp c19
        refine g_iconst C (v := 0) dX3_order_26 (by decide) ?_
        refine g_iconst C (v := 1) dX3_order_27 (by decide) ?_
        refine g_iconst C (v := 1) dX3_order_28 (by decide) ?_
        refine g_callVn C _ dX3_order_29 (c_X3_goes l G _ _ _ _ _ _ _ _ _ hR (false) (true) (true)) kmX3_68 ki_X3_goes kv_X3_goes kn_X3 kc_X3_goes hy_X3_goes ⟨by decide, by decide⟩ hm rfl rfl (Nat.le_of_ble_eq_true rfl) ⟨by decide, by decide⟩ (fun v w1 hp => ?_)
        obtain ⟨rfl, hw1⟩ := hp
        have hw1 := hw1.symm
        subst hw1
        have hR := hR.upM (thC (false) (true) (true)) ord mny hn
        obtain ⟨hm, r0, r1, r2, r3, r4, r5, r6, r7, r8, r9, r10, r11, r12, hinj, hn⟩ := id hR
        have hf1 : fr (MD mo M) w _ := fr.rf.up (b := mo) (e := cellM M (thC (false) (true) (true)) n ord mny) MD.m
        refine g_if_ne C 37 dX3_order_32 (by decide) (fun c32 => absurd (by simp [bI]) c32) (fun _ => ?_)
        refine g_iconst C (v := 0) dX3_order_35 (by decide) ?_
        have hp1 : (isDk d && (isTh x9 && isTh y9)) = (false) := by first | rfl | simp [c5, c12, c19]
        have hp2 : (true) = (true) := by first | rfl | simp []
        have hp3 : (true) = (true) := by first | rfl | simp []
        refine g_iret C hr dX3_order_36 (by decide) (by decide) ?_
        rw [hp3, hp2, hp1]
        exact Or.inl ⟨by simp, rfl, hR, hf1⟩
      · have c19 := bI_nz.mp c19
        refine g_iconst C (v := 1) dX3_order_22 (by decide) ?_
        refine g_goto C 27 dX3_order_23 (by decide) ?_
        refine g_iconst C (v := 1) dX3_order_27 (by decide) ?_
        refine g_iconst C (v := 1) dX3_order_28 (by decide) ?_
        refine g_callVn C _ dX3_order_29 (c_X3_goes l G _ _ _ _ _ _ _ _ _ hR (true) (true) (true)) kmX3_68 ki_X3_goes kv_X3_goes kn_X3 kc_X3_goes hy_X3_goes ⟨by decide, by decide⟩ hm rfl rfl (Nat.le_of_ble_eq_true rfl) ⟨by decide, by decide⟩ (fun v w1 hp => ?_)
        obtain ⟨rfl, hw1⟩ := hp
        have hw1 := hw1.symm
        subst hw1
        have hR := hR.upM (thC (true) (true) (true)) ord mny hn
        obtain ⟨hm, r0, r1, r2, r3, r4, r5, r6, r7, r8, r9, r10, r11, r12, hinj, hn⟩ := id hR
        have hf1 : fr (MD mo M) w _ := fr.rf.up (b := mo) (e := cellM M (thC (true) (true) (true)) n ord mny) MD.m
        refine g_if_ne C 37 dX3_order_32 (by decide) (fun _ => ?_) (fun c32 => absurd c32 (by simp [bI]))
        obtain ⟨d', hd', rfl⟩ := isDk_nI c5
        obtain ⟨x', hx', rfl⟩ := isTh_nI c12
        obtain ⟨y', hy', rfl⟩ := isTh_nI c19
        first | refine g_aload_n C dX3_order_37 rfl rfl ?_ | refine g_aload_nN C dX3_order_37 rfl rfl ?_ | refine g_aload_nq C dX3_order_37 rfl rfl ?_
        refine g_iload_n C dX3_order_38 rfl rfl ?_
        refine g_callVn C _ dX3_order_39 (c_X3_settle l G _ _ _ _ _ _ _ _ _ hR d' hd' ch hs hcl hrel) kmX3_120 ki_X3_settle kv_X3_settle kn_X3 kc_X3_settle hy_X3_settle ⟨by decide, by decide⟩ hm rfl rfl (Nat.le_of_ble_eq_true rfl) ⟨by decide, by decide⟩ (fun v w1 hp => ?_)
        obtain ⟨rfl, I', B', q', hR2, hf2, hI', hB', htd, hq'⟩ := hp
        obtain ⟨hm, r0, r1, r2, r3, r4, r5, r6, r7, r8, r9, r10, r11, r12, hinj, hn⟩ := id hR2
        first | refine g_aload_n C dX3_order_42 rfl rfl ?_ | refine g_aload_nN C dX3_order_42 rfl rfl ?_ | refine g_aload_nq C dX3_order_42 rfl rfl ?_
        refine g_get C dX3_order_43 hm rfl kw_X3 13 (by decide) kfX3_41 rfl rfl ?_
        refine g_bipush C (v := 16) dX3_order_46 (by decide) ?_
        refine g_iload_n C dX3_order_48 rfl rfl ?_
        refine g_imul C dX3_order_49 ?_
        refine g_iload_n C dX3_order_50 rfl rfl ?_
        refine g_iadd C dX3_order_51 ?_
        refine g_eq (ix16 x' y') ?_
        refine g_zaldN C dX3_order_52 r10 (by omega) (by decide) ?_
        refine g_if_eq C 60 dX3_order_53 (by decide) (fun c53 => ?_) (fun c53 => ?_)
        · have c53 := bI_z.mp c53
          first | refine g_aload_n C dX3_order_60 rfl rfl ?_ | refine g_aload_nN C dX3_order_60 rfl rfl ?_ | refine g_aload_nq C dX3_order_60 rfl rfl ?_
          refine g_get C dX3_order_61 hm rfl kw_X3 13 (by decide) kfX3_41 rfl rfl ?_
          refine g_bipush C (v := 16) dX3_order_64 (by decide) ?_
          refine g_iload_n C dX3_order_66 rfl rfl ?_
          refine g_imul C dX3_order_67 ?_
          refine g_iload_n C dX3_order_68 rfl rfl ?_
          refine g_iadd C dX3_order_69 ?_
          refine g_eq (ix16 y' x') ?_
          refine g_zaldN C dX3_order_70 r10 (by omega) (by decide) ?_
          refine g_if_eq C 78 dX3_order_71 (by decide) (fun c71 => ?_) (fun c71 => ?_)
          · have c71 := bI_z.mp c71
            refine g_iconst C (v := 0) dX3_order_78 (by decide) ?_
            have e53 : (mrel I B n ch d').1 x' y' = false := (htd.1 x' y' hx' hy').symm.trans c53
            have e71 : (mrel I B n ch d').1 y' x' = false := (htd.1 y' x' hy' hx').symm.trans c71
            have hp1 : (isDk (nI d') && (isTh (nI x') && isTh (nI y'))) = (true) := by first | rfl | simp [c5, c12, c19]
            have hp2 : (true) = (true) := by first | rfl | simp []
            have hp3 : (true) = (true) := by first | rfl | simp []
            have hth := thC_t (rfl : (true && (true && true)) = true)
            refine g_iret C hr dX3_order_79 (by decide) (by decide) ?_
            rw [hp3, hp2, hp1]
            exact Or.inr ⟨(rfl : (true && (true && true)) = true), _, rfl, _, x', y', hd', hx', hy', rfl, rfl, rfl, by simp [morV, e53, e71], I', B', ord, _, ⟨fun a _ h11 => hI' a h11, fun a h10 h12 => hB' a h10 h12⟩, hR2.th hth, hf1.trans hf2⟩
          · have c71 := bI_nz.mp c71
            refine g_iconst C (v := (-1)) dX3_order_74 (by decide) ?_
            refine g_goto C 79 dX3_order_75 (by decide) ?_
            have e53 : (mrel I B n ch d').1 x' y' = false := (htd.1 x' y' hx' hy').symm.trans c53
            have e71 : (mrel I B n ch d').1 y' x' = true := (htd.1 y' x' hy' hx').symm.trans c71
            have hp1 : (isDk (nI d') && (isTh (nI x') && isTh (nI y'))) = (true) := by first | rfl | simp [c5, c12, c19]
            have hp2 : (true) = (true) := by first | rfl | simp []
            have hp3 : (true) = (true) := by first | rfl | simp []
            have hth := thC_t (rfl : (true && (true && true)) = true)
            refine g_iret C hr dX3_order_79 (by decide) (by decide) ?_
            rw [hp3, hp2, hp1]
            exact Or.inr ⟨(rfl : (true && (true && true)) = true), _, rfl, _, x', y', hd', hx', hy', rfl, rfl, rfl, by simp [morV, e53, e71], I', B', ord, _, ⟨fun a _ h11 => hI' a h11, fun a h10 h12 => hB' a h10 h12⟩, hR2.th hth, hf1.trans hf2⟩
        · have c53 := bI_nz.mp c53
          refine g_iconst C (v := 1) dX3_order_56 (by decide) ?_
          refine g_goto C 79 dX3_order_57 (by decide) ?_
          have e53 : (mrel I B n ch d').1 x' y' = true := (htd.1 x' y' hx' hy').symm.trans c53
          have hp1 : (isDk (nI d') && (isTh (nI x') && isTh (nI y'))) = (true) := by first | rfl | simp [c5, c12, c19]
          have hp2 : (true) = (true) := by first | rfl | simp []
          have hp3 : (true) = (true) := by first | rfl | simp []
          have hth := thC_t (rfl : (true && (true && true)) = true)
          refine g_iret C hr dX3_order_79 (by decide) (by decide) ?_
          rw [hp3, hp2, hp1]
          exact Or.inr ⟨(rfl : (true && (true && true)) = true), _, rfl, _, x', y', hd', hx', hy', rfl, rfl, rfl, by simp [morV, e53], I', B', ord, _, ⟨fun a _ h11 => hI' a h11, fun a h10 h12 => hB' a h10 h12⟩, hR2.th hth, hf1.trans hf2⟩

set_option maxHeartbeats 4000000 in
set_option maxRecDepth 100000 in
theorem c_X3_open (l : Launch) (G : hD) (w : hW) (mo : Nat) (M : Nat → Nat) (n : Nat) (I : Nat → Nat → Int32) (B : Nat → Nat → Bool) (thr ord mny : Int32) (hR : MR G mo M n I B thr ord mny w) (ch : List Nat) (hs : srt I n ch) (hcl : ch.length = n) (hrel : ∀ t, t < n → I 2 t = 5 → ∃ v, I 4 t = nI v ∧ v < 256 ∧ v / 16 ≠ v % 16) (d k : Int32) : h_Met l yX3_open (Cond.code yX3_open cX3_open 3 (some .int)) { frames := 4, cells := 0, slots := 0, locals := 130 } G [.ref mo, .int d, .int k] w (mP G mo M n I B ord mny w (isDk d && !decide (k < 0)) (true) (true) (fun x w' => ∃ d', d' < 6 ∧ d = nI d' ∧ mT G mo M n I B w (oI ((mrel I B n ch d').2[k.toNatClampNeg]?)) x w')) noX := by
  refine h_met RX3 rfl (by decide) (Nat.le_of_ble_eq_true rfl) (cat_c (by first | rfl | exact rf_cat _) (cat_c (by first | rfl | exact rf_cat _) (cat_c (by first | rfl | exact rf_cat _) cat_n))) ?_
  intro p e s m below meth c A C hnt hr hnm
  obtain ⟨hm, r0, r1, r2, r3, r4, r5, r6, r7, r8, r9, r10, r11, r12, hinj, hn⟩ := id hR
  first | refine g_aload_n C dX3_open_0 rfl rfl ?_ | refine g_aload_nN C dX3_open_0 rfl rfl ?_ | refine g_aload_nq C dX3_open_0 rfl rfl ?_
  refine g_iload_n C dX3_open_1 rfl rfl ?_
  refine g_callSn C _ dX3_open_2 (c_X3_isDesk l G _ _) kmX3_54 ks_X3_isDesk kn_X3 kc_X3_isDesk hy_X3_isDesk ⟨by decide, by decide⟩ rfl (Nat.le_of_ble_eq_true rfl) ⟨by decide, by decide⟩ (fun v w1 hp => ?_)
  obtain ⟨rfl, hw1⟩ := hp
  have hw1 := hw1.symm
  subst hw1
  refine g_if_eq C 16 dX3_open_5 (by decide) (fun c5 => ?_) (fun c5 => ?_)
  · have c5 := bI_z.mp c5
    refine g_iconst C (v := 0) dX3_open_16 (by decide) ?_
    refine g_iconst C (v := 1) dX3_open_17 (by decide) ?_
    refine g_iconst C (v := 1) dX3_open_18 (by decide) ?_
    refine g_callVn C _ dX3_open_19 (c_X3_goes l G _ _ _ _ _ _ _ _ _ hR (false) (true) (true)) kmX3_68 ki_X3_goes kv_X3_goes kn_X3 kc_X3_goes hy_X3_goes ⟨by decide, by decide⟩ hm rfl rfl (Nat.le_of_ble_eq_true rfl) ⟨by decide, by decide⟩ (fun v w1 hp => ?_)
    obtain ⟨rfl, hw1⟩ := hp
    have hw1 := hw1.symm
    subst hw1
    have hR := hR.upM (thC (false) (true) (true)) ord mny hn
    obtain ⟨hm, r0, r1, r2, r3, r4, r5, r6, r7, r8, r9, r10, r11, r12, hinj, hn⟩ := id hR
    have hf1 : fr (MD mo M) w _ := fr.rf.up (b := mo) (e := cellM M (thC (false) (true) (true)) n ord mny) MD.m
    refine g_if_ne C 27 dX3_open_22 (by decide) (fun c22 => absurd (by simp [bI]) c22) (fun _ => ?_)
    refine g_iconst C (v := 0) dX3_open_25 (by decide) ?_
    have hp1 : (isDk d && !decide (k < 0)) = (false) := by first | rfl | simp [c5]
    have hp2 : (true) = (true) := by first | rfl | simp []
    have hp3 : (true) = (true) := by first | rfl | simp []
    refine g_iret C hr dX3_open_26 (by decide) (by decide) ?_
    rw [hp3, hp2, hp1]
    exact Or.inl ⟨by simp, rfl, hR, hf1⟩
  · have c5 := bI_nz.mp c5
    refine g_iload_n C dX3_open_8 rfl rfl ?_
    refine g_if_lt C 16 dX3_open_9 (by decide) (fun c9 => ?_) (fun c9 => ?_)
    · refine g_iconst C (v := 0) dX3_open_16 (by decide) ?_
      refine g_iconst C (v := 1) dX3_open_17 (by decide) ?_
      refine g_iconst C (v := 1) dX3_open_18 (by decide) ?_
      refine g_callVn C _ dX3_open_19 (c_X3_goes l G _ _ _ _ _ _ _ _ _ hR (false) (true) (true)) kmX3_68 ki_X3_goes kv_X3_goes kn_X3 kc_X3_goes hy_X3_goes ⟨by decide, by decide⟩ hm rfl rfl (Nat.le_of_ble_eq_true rfl) ⟨by decide, by decide⟩ (fun v w1 hp => ?_)
      obtain ⟨rfl, hw1⟩ := hp
      have hw1 := hw1.symm
      subst hw1
      have hR := hR.upM (thC (false) (true) (true)) ord mny hn
      obtain ⟨hm, r0, r1, r2, r3, r4, r5, r6, r7, r8, r9, r10, r11, r12, hinj, hn⟩ := id hR
      have hf1 : fr (MD mo M) w _ := fr.rf.up (b := mo) (e := cellM M (thC (false) (true) (true)) n ord mny) MD.m
      refine g_if_ne C 27 dX3_open_22 (by decide) (fun c22 => absurd (by simp [bI]) c22) (fun _ => ?_)
      refine g_iconst C (v := 0) dX3_open_25 (by decide) ?_
      have hp1 : (isDk d && !decide (k < 0)) = (false) := by first | rfl | simp [c5, c9]
      have hp2 : (true) = (true) := by first | rfl | simp []
      have hp3 : (true) = (true) := by first | rfl | simp []
      refine g_iret C hr dX3_open_26 (by decide) (by decide) ?_
      rw [hp3, hp2, hp1]
      exact Or.inl ⟨by simp, rfl, hR, hf1⟩
    · refine g_iconst C (v := 1) dX3_open_12 (by decide) ?_
      refine g_goto C 17 dX3_open_13 (by decide) ?_
      refine g_iconst C (v := 1) dX3_open_17 (by decide) ?_
      refine g_iconst C (v := 1) dX3_open_18 (by decide) ?_
      refine g_callVn C _ dX3_open_19 (c_X3_goes l G _ _ _ _ _ _ _ _ _ hR (true) (true) (true)) kmX3_68 ki_X3_goes kv_X3_goes kn_X3 kc_X3_goes hy_X3_goes ⟨by decide, by decide⟩ hm rfl rfl (Nat.le_of_ble_eq_true rfl) ⟨by decide, by decide⟩ (fun v w1 hp => ?_)
      obtain ⟨rfl, hw1⟩ := hp
      have hw1 := hw1.symm
      subst hw1
      have hR := hR.upM (thC (true) (true) (true)) ord mny hn
      obtain ⟨hm, r0, r1, r2, r3, r4, r5, r6, r7, r8, r9, r10, r11, r12, hinj, hn⟩ := id hR
      have hf1 : fr (MD mo M) w _ := fr.rf.up (b := mo) (e := cellM M (thC (true) (true) (true)) n ord mny) MD.m
      refine g_if_ne C 27 dX3_open_22 (by decide) (fun _ => ?_) (fun c22 => absurd c22 (by simp [bI]))
      obtain ⟨d', hd', rfl⟩ := isDk_nI c5
      first | refine g_aload_n C dX3_open_27 rfl rfl ?_ | refine g_aload_nN C dX3_open_27 rfl rfl ?_ | refine g_aload_nq C dX3_open_27 rfl rfl ?_
      refine g_iload_n C dX3_open_28 rfl rfl ?_
      refine g_callVn C _ dX3_open_29 (c_X3_settle l G _ _ _ _ _ _ _ _ _ hR d' hd' ch hs hcl hrel) kmX3_120 ki_X3_settle kv_X3_settle kn_X3 kc_X3_settle hy_X3_settle ⟨by decide, by decide⟩ hm rfl rfl (Nat.le_of_ble_eq_true rfl) ⟨by decide, by decide⟩ (fun v w1 hp => ?_)
      obtain ⟨rfl, I', B', q', hR2, hf2, hI', hB', htd, hq'⟩ := hp
      obtain ⟨hm, r0, r1, r2, r3, r4, r5, r6, r7, r8, r9, r10, r11, r12, hinj, hn⟩ := id hR2
      refine g_iload_n C dX3_open_32 rfl rfl ?_
      first | refine g_aload_n C dX3_open_33 rfl rfl ?_ | refine g_aload_nN C dX3_open_33 rfl rfl ?_ | refine g_aload_nq C dX3_open_33 rfl rfl ?_
      refine g_get C dX3_open_34 hm rfl kw_X3 15 (by decide) kfX3_110 rfl rfl ?_
      refine g_icmp_ge C 49 dX3_open_37 (by decide) (fun c37 => ?_) (fun c37 => ?_)
      · refine g_iconst C (v := (-1)) dX3_open_49 (by decide) ?_
        have e50 : (-1 : Int32) = oI ((mrel I B n ch d').2[k.toNatClampNeg]?) := by
          obtain ⟨k', hk', rfl⟩ := nI_of c9
          have h9 := (nI_leI (a := q') (b := k') (by omega) hk').mp c37
          rw [nI_clamp hk', List.getElem?_eq_none (by have := htd.2.2; unfold mrel; omega)]; rfl
        have hp1 : (isDk (nI d') && !decide (k < 0)) = (true) := by first | rfl | simp [c5, c9]
        have hp2 : (true) = (true) := by first | rfl | simp []
        have hp3 : (true) = (true) := by first | rfl | simp []
        have hth := thC_t (rfl : (true && (true && true)) = true)
        refine g_iret C hr dX3_open_50 (by decide) (by decide) ?_
        rw [hp3, hp2, hp1]
        exact Or.inr ⟨(rfl : (true && (true && true)) = true), _, rfl, _, hd', rfl, e50, I', B', ord, _, ⟨fun a _ h11 => hI' a h11, fun a h10 h12 => hB' a h10 h12⟩, hR2.th hth, hf1.trans hf2⟩
      · obtain ⟨k', hk9, rfl⟩ := nI_of c9
        have hk' : k' < q' := nI_nge c37 hk9 (by omega)
        first | refine g_aload_n C dX3_open_40 rfl rfl ?_ | refine g_aload_nN C dX3_open_40 rfl rfl ?_ | refine g_aload_nq C dX3_open_40 rfl rfl ?_
        refine g_get C dX3_open_41 hm rfl kw_X3 14 (by decide) kfX3_44 rfl rfl ?_
        refine g_iload_n C dX3_open_44 rfl rfl ?_
        refine g_ialdN C dX3_open_45 r11 (by omega) (by decide) ?_
        refine g_goto C 50 dX3_open_46 (by decide) ?_
        have e50 : I' 11 k' = oI ((mrel I B n ch d').2[(nI k').toNatClampNeg]?) := by
          have h9 : k' < (mrel I B n ch d').2.length := by have := htd.2.2; unfold mrel; omega
          rw [nI_clamp (by omega), List.getElem?_eq_getElem h9]
          exact htd.2.1 k' _ (List.getElem?_eq_getElem h9)
        have hp1 : (isDk (nI d') && !decide (nI k' < 0)) = (true) := by first | rfl | simp [c5, c9]
        have hp2 : (true) = (true) := by first | rfl | simp []
        have hp3 : (true) = (true) := by first | rfl | simp []
        have hth := thC_t (rfl : (true && (true && true)) = true)
        refine g_iret C hr dX3_open_50 (by decide) (by decide) ?_
        rw [hp3, hp2, hp1]
        exact Or.inr ⟨(rfl : (true && (true && true)) = true), _, rfl, _, hd', rfl, e50, I', B', ord, _, ⟨fun a _ h11 => hI' a h11, fun a h10 h12 => hB' a h10 h12⟩, hR2.th hth, hf1.trans hf2⟩

theorem g_abs {p : Program} {l : Launch} {e : Env} {R : Room} {s : State} {m : MethodId} {args : Array Value} {below : List Frame} {meth : Method} {c : Code} {Q : State → Prop} {G : hD} {A : Nat → Prop} {nL : Nat} {w : hW} {cells slots pc : Nat} {lv : List (Nat × Value)} {st : List Value} (P : hW → Prop) (h : P w) (k : ∀ w', P w' → h_G p l e R s m args below meth c G A nL Q w' cells slots pc lv st) : h_G p l e R s m args below meth c G A nL Q w cells slots pc lv st := k w h
theorem sm_step {u : hW} {l : List Nat} {q mo : Nat} {E F : va_E} (h : ∀ x ∈ l, ∃ e, u x = some e) : ∀ x ∈ q :: l, ∃ e, h_up (h_up u q E) mo F x = some e := by
  intro x hx
  by_cases e : x = mo
  · exact ⟨F, by rw [e]; exact h_up_s _ _ _⟩
  · by_cases e2 : x = q
    · exact ⟨E, (h_up_n e).trans (by rw [e2]; exact h_up_s _ _ _)⟩
    · obtain ⟨e3, h3⟩ := h x ((List.mem_cons.mp hx).elim (fun h => absurd h e2) id)
      exact ⟨e3, (h_up_n e).trans ((h_up_n e2).trans h3)⟩
theorem nd_step {u : hW} {l : List Nat} {q : Nat} (h : ∀ x ∈ l, ∃ e, u x = some e) (hq : u q = none) (hnd : l.Nodup) : (q :: l).Nodup := List.nodup_cons.mpr ⟨fun hm => (h q hm).elim (fun e he => by rw [hq] at he; cases he), hnd⟩
theorem fr_step {w u : hW} {q mo : Nat} {E F : va_E} (hq : u q = none) (hfr : ∀ q e, q ≠ mo → w q = some e → u q = some e) : ∀ b e, b ≠ mo → w b = some e → h_up (h_up u q E) mo F b = some e := fun b e hb hw => (h_up_n hb).trans ((h_up_n (fun e9 : b = q => by have h9 := hfr b e hb hw; rw [e9, hq] at h9; cases h9)).trans (hfr b e hb hw))
theorem nw_step {w u : hW} {l : List Nat} {q mo : Nat} (hq : u q = none) (hne : q ≠ mo) (hfr : ∀ q e, q ≠ mo → w q = some e → u q = some e) (h : ∀ x ∈ l, w x = none) : ∀ x ∈ q :: l, w x = none := by
  intro x hx
  rcases List.mem_cons.mp hx with e | hx
  · subst e
    cases hw : w x with
    | none => rfl
    | some e => rw [hfr x e hne hw] at hq; cases hq
  · exact h x hx
theorem getD_mem {l : List Nat} {i : Nat} (h : i < l.length) : l.getD i 0 ∈ l := by
  rw [List.getD_eq_getElem?_getD, List.getElem?_eq_getElem h]
  exact List.getElem_mem h
theorem nd_inj {l : List Nat} (h : l.Nodup) {i j : Nat} (hi : i < l.length) (hj : j < l.length) (e : l.getD i 0 = l.getD j 0) : i = j := by
  rw [List.getD_eq_getElem?_getD, List.getD_eq_getElem?_getD, List.getElem?_eq_getElem hi, List.getElem?_eq_getElem hj] at e
  exact (List.getElem_inj h).mp e
set_option maxHeartbeats 4000000 in
set_option maxRecDepth 100000 in
theorem c_X3_init (l : Launch) (G : hD) (w : hW) (mo : Nat) (hx : w mo = some (eO 3 [.int 0, .int 0, .null, .null, .null, .null, .null, .null, .null, .null, .null, .null, .int 0, .null, .null, .int 0, .null])) : h_Met l yX3_init (Cond.code yX3_init cX3_init 1 none) { frames := 1, cells := 13, slots := 2182, locals := 20 } G [.ref mo] w (fun v w' => v = none ∧ ∃ M, MR G mo M 0 (fun _ _ => 0) (fun _ _ => false) 0 0 0 w' ∧ (∀ q e, q ≠ mo → w q = some e → w' q = some e) ∧ ∀ k, k < 13 → w (M k) = none) noX := by
  refine h_met RX3 rfl (by decide) (Nat.le_of_ble_eq_true rfl) (cat_c (by first | rfl | exact rf_cat _) cat_n) ?_
  intro p e s m below meth c A C hnt hr hnm
  first | refine g_aload_n C dX3_init_0 rfl rfl ?_ | refine g_aload_nN C dX3_init_0 rfl rfl ?_ | refine g_aload_nq C dX3_init_0 rfl rfl ?_
  refine g_objInit C dX3_init_1 kmX3_1 (by decide) (Nat.le_of_ble_eq_true rfl) ?_
  first | refine g_aload_n C dX3_init_4 rfl rfl ?_ | refine g_aload_nN C dX3_init_4 rfl rfl ?_ | refine g_aload_nq C dX3_init_4 rfl rfl ?_
  refine g_bipush C (v := 120) dX3_init_5 (by decide) ?_
  refine g_abs (fun u => u mo = some (eO 3 [.int 0, .int 0, .null, .null, .null, .null, .null, .null, .null, .null, .null, .null, .int 0, .null, .null, .int 0, .null]) ∧ (∀ q e, q ≠ mo → w q = some e → u q = some e) ∧ ([] : List Nat).Nodup ∧ (∀ q ∈ ([] : List Nat), ∃ e, u q = some e) ∧ (∀ q ∈ ([] : List Nat), w q = none)) ⟨hx, fun _ _ _ h => h, List.nodup_nil, (fun _ h => by cases h), fun _ h => by cases h⟩ ?_
  rintro u0 ⟨hmo, hfr, hnd, hsm, hnw⟩
  refine g_newI C (N := 120) dX3_init_7 ka_int (by decide) (by decide) (by decide) (by decide) (by decide) (fun m0 hq => ?_)
  have nmo : mo ≠ m0 := fun e => by rw [e, hq] at hmo; cases hmo
  refine g_putF C dX3_init_9 ((h_up_n nmo).trans hmo) rfl kw_X3 tyX3 tyX3_ok nmX3 2 (by decide) kfX3_7 rfl rfl hnm rfl rfl rfl (Nat.le_of_ble_eq_true rfl) ?_
  refine g_abs (fun u => u mo = some (eO 3 [.int 0, .int 0, .ref m0, .null, .null, .null, .null, .null, .null, .null, .null, .null, .int 0, .null, .null, .int 0, .null]) ∧ u m0 = some (eI G 120 (fun _ => 0)) ∧ (∀ q e, q ≠ mo → w q = some e → u q = some e) ∧ ([m0] : List Nat).Nodup ∧ (∀ q ∈ ([m0] : List Nat), ∃ e, u q = some e) ∧ (∀ q ∈ ([m0] : List Nat), w q = none)) ⟨(h_up_s _ _ _), ((h_up_n (Ne.symm nmo)).trans (h_up_s _ _ _)), (fr_step hq hfr), (nd_step hsm hq hnd), (sm_step hsm), (nw_step hq (Ne.symm nmo) hfr hnw)⟩ ?_
  clear nmo hq hmo hfr hnd hsm hnw
  rintro u1 ⟨hmo, h0, hfr, hnd, hsm, hnw⟩
  first | refine g_aload_n C dX3_init_12 rfl rfl ?_ | refine g_aload_nN C dX3_init_12 rfl rfl ?_ | refine g_aload_nq C dX3_init_12 rfl rfl ?_
  refine g_bipush C (v := 120) dX3_init_13 (by decide) ?_
  refine g_newI C (N := 120) dX3_init_15 ka_int (by decide) (by decide) (by decide) (by decide) (by decide) (fun m1 hq => ?_)
  have nmo : mo ≠ m1 := fun e => by rw [e, hq] at hmo; cases hmo
  refine g_putF C dX3_init_17 ((h_up_n nmo).trans hmo) rfl kw_X3 tyX3 tyX3_ok nmX3 3 (by decide) kfX3_13 rfl rfl hnm rfl rfl rfl (Nat.le_of_ble_eq_true rfl) ?_
  refine g_abs (fun u => u mo = some (eO 3 [.int 0, .int 0, .ref m0, .ref m1, .null, .null, .null, .null, .null, .null, .null, .null, .int 0, .null, .null, .int 0, .null]) ∧ u m0 = some (eI G 120 (fun _ => 0)) ∧ u m1 = some (eI G 120 (fun _ => 0)) ∧ (∀ q e, q ≠ mo → w q = some e → u q = some e) ∧ ([m1, m0] : List Nat).Nodup ∧ (∀ q ∈ ([m1, m0] : List Nat), ∃ e, u q = some e) ∧ (∀ q ∈ ([m1, m0] : List Nat), w q = none)) ⟨(h_up_s _ _ _), ((h_up_n (fun e => by rw [e, hmo] at h0; cases h0)).trans ((h_up_n (fun e => by rw [e, hq] at h0; cases h0)).trans h0)), ((h_up_n (Ne.symm nmo)).trans (h_up_s _ _ _)), (fr_step hq hfr), (nd_step hsm hq hnd), (sm_step hsm), (nw_step hq (Ne.symm nmo) hfr hnw)⟩ ?_
  clear nmo hq hmo h0 hfr hnd hsm hnw
  rintro u2 ⟨hmo, h0, h1, hfr, hnd, hsm, hnw⟩
  first | refine g_aload_n C dX3_init_20 rfl rfl ?_ | refine g_aload_nN C dX3_init_20 rfl rfl ?_ | refine g_aload_nq C dX3_init_20 rfl rfl ?_
  refine g_bipush C (v := 120) dX3_init_21 (by decide) ?_
  refine g_newI C (N := 120) dX3_init_23 ka_int (by decide) (by decide) (by decide) (by decide) (by decide) (fun m2 hq => ?_)
  have nmo : mo ≠ m2 := fun e => by rw [e, hq] at hmo; cases hmo
  refine g_putF C dX3_init_25 ((h_up_n nmo).trans hmo) rfl kw_X3 tyX3 tyX3_ok nmX3 4 (by decide) kfX3_16 rfl rfl hnm rfl rfl rfl (Nat.le_of_ble_eq_true rfl) ?_
  refine g_abs (fun u => u mo = some (eO 3 [.int 0, .int 0, .ref m0, .ref m1, .ref m2, .null, .null, .null, .null, .null, .null, .null, .int 0, .null, .null, .int 0, .null]) ∧ u m0 = some (eI G 120 (fun _ => 0)) ∧ u m1 = some (eI G 120 (fun _ => 0)) ∧ u m2 = some (eI G 120 (fun _ => 0)) ∧ (∀ q e, q ≠ mo → w q = some e → u q = some e) ∧ ([m2, m1, m0] : List Nat).Nodup ∧ (∀ q ∈ ([m2, m1, m0] : List Nat), ∃ e, u q = some e) ∧ (∀ q ∈ ([m2, m1, m0] : List Nat), w q = none)) ⟨(h_up_s _ _ _), ((h_up_n (fun e => by rw [e, hmo] at h0; cases h0)).trans ((h_up_n (fun e => by rw [e, hq] at h0; cases h0)).trans h0)), ((h_up_n (fun e => by rw [e, hmo] at h1; cases h1)).trans ((h_up_n (fun e => by rw [e, hq] at h1; cases h1)).trans h1)), ((h_up_n (Ne.symm nmo)).trans (h_up_s _ _ _)), (fr_step hq hfr), (nd_step hsm hq hnd), (sm_step hsm), (nw_step hq (Ne.symm nmo) hfr hnw)⟩ ?_
  clear nmo hq hmo h0 h1 hfr hnd hsm hnw
  rintro u3 ⟨hmo, h0, h1, h2, hfr, hnd, hsm, hnw⟩
  first | refine g_aload_n C dX3_init_28 rfl rfl ?_ | refine g_aload_nN C dX3_init_28 rfl rfl ?_ | refine g_aload_nq C dX3_init_28 rfl rfl ?_
  refine g_bipush C (v := 120) dX3_init_29 (by decide) ?_
  refine g_newI C (N := 120) dX3_init_31 ka_int (by decide) (by decide) (by decide) (by decide) (by decide) (fun m3 hq => ?_)
  have nmo : mo ≠ m3 := fun e => by rw [e, hq] at hmo; cases hmo
  refine g_putF C dX3_init_33 ((h_up_n nmo).trans hmo) rfl kw_X3 tyX3 tyX3_ok nmX3 5 (by decide) kfX3_19 rfl rfl hnm rfl rfl rfl (Nat.le_of_ble_eq_true rfl) ?_
  refine g_abs (fun u => u mo = some (eO 3 [.int 0, .int 0, .ref m0, .ref m1, .ref m2, .ref m3, .null, .null, .null, .null, .null, .null, .int 0, .null, .null, .int 0, .null]) ∧ u m0 = some (eI G 120 (fun _ => 0)) ∧ u m1 = some (eI G 120 (fun _ => 0)) ∧ u m2 = some (eI G 120 (fun _ => 0)) ∧ u m3 = some (eI G 120 (fun _ => 0)) ∧ (∀ q e, q ≠ mo → w q = some e → u q = some e) ∧ ([m3, m2, m1, m0] : List Nat).Nodup ∧ (∀ q ∈ ([m3, m2, m1, m0] : List Nat), ∃ e, u q = some e) ∧ (∀ q ∈ ([m3, m2, m1, m0] : List Nat), w q = none)) ⟨(h_up_s _ _ _), ((h_up_n (fun e => by rw [e, hmo] at h0; cases h0)).trans ((h_up_n (fun e => by rw [e, hq] at h0; cases h0)).trans h0)), ((h_up_n (fun e => by rw [e, hmo] at h1; cases h1)).trans ((h_up_n (fun e => by rw [e, hq] at h1; cases h1)).trans h1)), ((h_up_n (fun e => by rw [e, hmo] at h2; cases h2)).trans ((h_up_n (fun e => by rw [e, hq] at h2; cases h2)).trans h2)), ((h_up_n (Ne.symm nmo)).trans (h_up_s _ _ _)), (fr_step hq hfr), (nd_step hsm hq hnd), (sm_step hsm), (nw_step hq (Ne.symm nmo) hfr hnw)⟩ ?_
  clear nmo hq hmo h0 h1 h2 hfr hnd hsm hnw
  rintro u4 ⟨hmo, h0, h1, h2, h3, hfr, hnd, hsm, hnw⟩
  first | refine g_aload_n C dX3_init_36 rfl rfl ?_ | refine g_aload_nN C dX3_init_36 rfl rfl ?_ | refine g_aload_nq C dX3_init_36 rfl rfl ?_
  refine g_bipush C (v := 120) dX3_init_37 (by decide) ?_
  refine g_newI C (N := 120) dX3_init_39 ka_int (by decide) (by decide) (by decide) (by decide) (by decide) (fun m4 hq => ?_)
  have nmo : mo ≠ m4 := fun e => by rw [e, hq] at hmo; cases hmo
  refine g_putF C dX3_init_41 ((h_up_n nmo).trans hmo) rfl kw_X3 tyX3 tyX3_ok nmX3 6 (by decide) kfX3_22 rfl rfl hnm rfl rfl rfl (Nat.le_of_ble_eq_true rfl) ?_
  refine g_abs (fun u => u mo = some (eO 3 [.int 0, .int 0, .ref m0, .ref m1, .ref m2, .ref m3, .ref m4, .null, .null, .null, .null, .null, .int 0, .null, .null, .int 0, .null]) ∧ u m0 = some (eI G 120 (fun _ => 0)) ∧ u m1 = some (eI G 120 (fun _ => 0)) ∧ u m2 = some (eI G 120 (fun _ => 0)) ∧ u m3 = some (eI G 120 (fun _ => 0)) ∧ u m4 = some (eI G 120 (fun _ => 0)) ∧ (∀ q e, q ≠ mo → w q = some e → u q = some e) ∧ ([m4, m3, m2, m1, m0] : List Nat).Nodup ∧ (∀ q ∈ ([m4, m3, m2, m1, m0] : List Nat), ∃ e, u q = some e) ∧ (∀ q ∈ ([m4, m3, m2, m1, m0] : List Nat), w q = none)) ⟨(h_up_s _ _ _), ((h_up_n (fun e => by rw [e, hmo] at h0; cases h0)).trans ((h_up_n (fun e => by rw [e, hq] at h0; cases h0)).trans h0)), ((h_up_n (fun e => by rw [e, hmo] at h1; cases h1)).trans ((h_up_n (fun e => by rw [e, hq] at h1; cases h1)).trans h1)), ((h_up_n (fun e => by rw [e, hmo] at h2; cases h2)).trans ((h_up_n (fun e => by rw [e, hq] at h2; cases h2)).trans h2)), ((h_up_n (fun e => by rw [e, hmo] at h3; cases h3)).trans ((h_up_n (fun e => by rw [e, hq] at h3; cases h3)).trans h3)), ((h_up_n (Ne.symm nmo)).trans (h_up_s _ _ _)), (fr_step hq hfr), (nd_step hsm hq hnd), (sm_step hsm), (nw_step hq (Ne.symm nmo) hfr hnw)⟩ ?_
  clear nmo hq hmo h0 h1 h2 h3 hfr hnd hsm hnw
  rintro u5 ⟨hmo, h0, h1, h2, h3, h4, hfr, hnd, hsm, hnw⟩
  first | refine g_aload_n C dX3_init_44 rfl rfl ?_ | refine g_aload_nN C dX3_init_44 rfl rfl ?_ | refine g_aload_nq C dX3_init_44 rfl rfl ?_
  refine g_bipush C (v := 120) dX3_init_45 (by decide) ?_
  refine g_newI C (N := 120) dX3_init_47 ka_int (by decide) (by decide) (by decide) (by decide) (by decide) (fun m5 hq => ?_)
  have nmo : mo ≠ m5 := fun e => by rw [e, hq] at hmo; cases hmo
  refine g_putF C dX3_init_49 ((h_up_n nmo).trans hmo) rfl kw_X3 tyX3 tyX3_ok nmX3 7 (by decide) kfX3_25 rfl rfl hnm rfl rfl rfl (Nat.le_of_ble_eq_true rfl) ?_
  refine g_abs (fun u => u mo = some (eO 3 [.int 0, .int 0, .ref m0, .ref m1, .ref m2, .ref m3, .ref m4, .ref m5, .null, .null, .null, .null, .int 0, .null, .null, .int 0, .null]) ∧ u m0 = some (eI G 120 (fun _ => 0)) ∧ u m1 = some (eI G 120 (fun _ => 0)) ∧ u m2 = some (eI G 120 (fun _ => 0)) ∧ u m3 = some (eI G 120 (fun _ => 0)) ∧ u m4 = some (eI G 120 (fun _ => 0)) ∧ u m5 = some (eI G 120 (fun _ => 0)) ∧ (∀ q e, q ≠ mo → w q = some e → u q = some e) ∧ ([m5, m4, m3, m2, m1, m0] : List Nat).Nodup ∧ (∀ q ∈ ([m5, m4, m3, m2, m1, m0] : List Nat), ∃ e, u q = some e) ∧ (∀ q ∈ ([m5, m4, m3, m2, m1, m0] : List Nat), w q = none)) ⟨(h_up_s _ _ _), ((h_up_n (fun e => by rw [e, hmo] at h0; cases h0)).trans ((h_up_n (fun e => by rw [e, hq] at h0; cases h0)).trans h0)), ((h_up_n (fun e => by rw [e, hmo] at h1; cases h1)).trans ((h_up_n (fun e => by rw [e, hq] at h1; cases h1)).trans h1)), ((h_up_n (fun e => by rw [e, hmo] at h2; cases h2)).trans ((h_up_n (fun e => by rw [e, hq] at h2; cases h2)).trans h2)), ((h_up_n (fun e => by rw [e, hmo] at h3; cases h3)).trans ((h_up_n (fun e => by rw [e, hq] at h3; cases h3)).trans h3)), ((h_up_n (fun e => by rw [e, hmo] at h4; cases h4)).trans ((h_up_n (fun e => by rw [e, hq] at h4; cases h4)).trans h4)), ((h_up_n (Ne.symm nmo)).trans (h_up_s _ _ _)), (fr_step hq hfr), (nd_step hsm hq hnd), (sm_step hsm), (nw_step hq (Ne.symm nmo) hfr hnw)⟩ ?_
  clear nmo hq hmo h0 h1 h2 h3 h4 hfr hnd hsm hnw
  rintro u6 ⟨hmo, h0, h1, h2, h3, h4, h5, hfr, hnd, hsm, hnw⟩
  first | refine g_aload_n C dX3_init_52 rfl rfl ?_ | refine g_aload_nN C dX3_init_52 rfl rfl ?_ | refine g_aload_nq C dX3_init_52 rfl rfl ?_
  refine g_bipush C (v := 120) dX3_init_53 (by decide) ?_
  refine g_newZ C (N := 120) dX3_init_55 ka_boolean (by decide) (by decide) (by decide) (by decide) (by decide) (fun m6 hq => ?_)
  have nmo : mo ≠ m6 := fun e => by rw [e, hq] at hmo; cases hmo
  refine g_putF C dX3_init_57 ((h_up_n nmo).trans hmo) rfl kw_X3 tyX3 tyX3_ok nmX3 8 (by decide) kfX3_28 rfl rfl hnm rfl rfl rfl (Nat.le_of_ble_eq_true rfl) ?_
  refine g_abs (fun u => u mo = some (eO 3 [.int 0, .int 0, .ref m0, .ref m1, .ref m2, .ref m3, .ref m4, .ref m5, .ref m6, .null, .null, .null, .int 0, .null, .null, .int 0, .null]) ∧ u m0 = some (eI G 120 (fun _ => 0)) ∧ u m1 = some (eI G 120 (fun _ => 0)) ∧ u m2 = some (eI G 120 (fun _ => 0)) ∧ u m3 = some (eI G 120 (fun _ => 0)) ∧ u m4 = some (eI G 120 (fun _ => 0)) ∧ u m5 = some (eI G 120 (fun _ => 0)) ∧ u m6 = some (eZ G 120 (fun _ => 0)) ∧ (∀ q e, q ≠ mo → w q = some e → u q = some e) ∧ ([m6, m5, m4, m3, m2, m1, m0] : List Nat).Nodup ∧ (∀ q ∈ ([m6, m5, m4, m3, m2, m1, m0] : List Nat), ∃ e, u q = some e) ∧ (∀ q ∈ ([m6, m5, m4, m3, m2, m1, m0] : List Nat), w q = none)) ⟨(h_up_s _ _ _), ((h_up_n (fun e => by rw [e, hmo] at h0; cases h0)).trans ((h_up_n (fun e => by rw [e, hq] at h0; cases h0)).trans h0)), ((h_up_n (fun e => by rw [e, hmo] at h1; cases h1)).trans ((h_up_n (fun e => by rw [e, hq] at h1; cases h1)).trans h1)), ((h_up_n (fun e => by rw [e, hmo] at h2; cases h2)).trans ((h_up_n (fun e => by rw [e, hq] at h2; cases h2)).trans h2)), ((h_up_n (fun e => by rw [e, hmo] at h3; cases h3)).trans ((h_up_n (fun e => by rw [e, hq] at h3; cases h3)).trans h3)), ((h_up_n (fun e => by rw [e, hmo] at h4; cases h4)).trans ((h_up_n (fun e => by rw [e, hq] at h4; cases h4)).trans h4)), ((h_up_n (fun e => by rw [e, hmo] at h5; cases h5)).trans ((h_up_n (fun e => by rw [e, hq] at h5; cases h5)).trans h5)), ((h_up_n (Ne.symm nmo)).trans (h_up_s _ _ _)), (fr_step hq hfr), (nd_step hsm hq hnd), (sm_step hsm), (nw_step hq (Ne.symm nmo) hfr hnw)⟩ ?_
  clear nmo hq hmo h0 h1 h2 h3 h4 h5 hfr hnd hsm hnw
  rintro u7 ⟨hmo, h0, h1, h2, h3, h4, h5, h6, hfr, hnd, hsm, hnw⟩
  first | refine g_aload_n C dX3_init_60 rfl rfl ?_ | refine g_aload_nN C dX3_init_60 rfl rfl ?_ | refine g_aload_nq C dX3_init_60 rfl rfl ?_
  refine g_sipush C (v := 720) dX3_init_61 (by decide) ?_
  refine g_newZ C (N := 720) dX3_init_64 ka_boolean (by decide) (by decide) (by decide) (by decide) (by decide) (fun m7 hq => ?_)
  have nmo : mo ≠ m7 := fun e => by rw [e, hq] at hmo; cases hmo
  refine g_putF C dX3_init_66 ((h_up_n nmo).trans hmo) rfl kw_X3 tyX3 tyX3_ok nmX3 9 (by decide) kfX3_32 rfl rfl hnm rfl rfl rfl (Nat.le_of_ble_eq_true rfl) ?_
  refine g_abs (fun u => u mo = some (eO 3 [.int 0, .int 0, .ref m0, .ref m1, .ref m2, .ref m3, .ref m4, .ref m5, .ref m6, .ref m7, .null, .null, .int 0, .null, .null, .int 0, .null]) ∧ u m0 = some (eI G 120 (fun _ => 0)) ∧ u m1 = some (eI G 120 (fun _ => 0)) ∧ u m2 = some (eI G 120 (fun _ => 0)) ∧ u m3 = some (eI G 120 (fun _ => 0)) ∧ u m4 = some (eI G 120 (fun _ => 0)) ∧ u m5 = some (eI G 120 (fun _ => 0)) ∧ u m6 = some (eZ G 120 (fun _ => 0)) ∧ u m7 = some (eZ G 720 (fun _ => 0)) ∧ (∀ q e, q ≠ mo → w q = some e → u q = some e) ∧ ([m7, m6, m5, m4, m3, m2, m1, m0] : List Nat).Nodup ∧ (∀ q ∈ ([m7, m6, m5, m4, m3, m2, m1, m0] : List Nat), ∃ e, u q = some e) ∧ (∀ q ∈ ([m7, m6, m5, m4, m3, m2, m1, m0] : List Nat), w q = none)) ⟨(h_up_s _ _ _), ((h_up_n (fun e => by rw [e, hmo] at h0; cases h0)).trans ((h_up_n (fun e => by rw [e, hq] at h0; cases h0)).trans h0)), ((h_up_n (fun e => by rw [e, hmo] at h1; cases h1)).trans ((h_up_n (fun e => by rw [e, hq] at h1; cases h1)).trans h1)), ((h_up_n (fun e => by rw [e, hmo] at h2; cases h2)).trans ((h_up_n (fun e => by rw [e, hq] at h2; cases h2)).trans h2)), ((h_up_n (fun e => by rw [e, hmo] at h3; cases h3)).trans ((h_up_n (fun e => by rw [e, hq] at h3; cases h3)).trans h3)), ((h_up_n (fun e => by rw [e, hmo] at h4; cases h4)).trans ((h_up_n (fun e => by rw [e, hq] at h4; cases h4)).trans h4)), ((h_up_n (fun e => by rw [e, hmo] at h5; cases h5)).trans ((h_up_n (fun e => by rw [e, hq] at h5; cases h5)).trans h5)), ((h_up_n (fun e => by rw [e, hmo] at h6; cases h6)).trans ((h_up_n (fun e => by rw [e, hq] at h6; cases h6)).trans h6)), ((h_up_n (Ne.symm nmo)).trans (h_up_s _ _ _)), (fr_step hq hfr), (nd_step hsm hq hnd), (sm_step hsm), (nw_step hq (Ne.symm nmo) hfr hnw)⟩ ?_
  clear nmo hq hmo h0 h1 h2 h3 h4 h5 h6 hfr hnd hsm hnw
  rintro u8 ⟨hmo, h0, h1, h2, h3, h4, h5, h6, h7, hfr, hnd, hsm, hnw⟩
  first | refine g_aload_n C dX3_init_69 rfl rfl ?_ | refine g_aload_nN C dX3_init_69 rfl rfl ?_ | refine g_aload_nq C dX3_init_69 rfl rfl ?_
  refine g_bipush C (v := 6) dX3_init_70 (by decide) ?_
  refine g_newI C (N := 6) dX3_init_72 ka_int (by decide) (by decide) (by decide) (by decide) (by decide) (fun m8 hq => ?_)
  have nmo : mo ≠ m8 := fun e => by rw [e, hq] at hmo; cases hmo
  refine g_putF C dX3_init_74 ((h_up_n nmo).trans hmo) rfl kw_X3 tyX3 tyX3_ok nmX3 10 (by decide) kfX3_35 rfl rfl hnm rfl rfl rfl (Nat.le_of_ble_eq_true rfl) ?_
  refine g_abs (fun u => u mo = some (eO 3 [.int 0, .int 0, .ref m0, .ref m1, .ref m2, .ref m3, .ref m4, .ref m5, .ref m6, .ref m7, .ref m8, .null, .int 0, .null, .null, .int 0, .null]) ∧ u m0 = some (eI G 120 (fun _ => 0)) ∧ u m1 = some (eI G 120 (fun _ => 0)) ∧ u m2 = some (eI G 120 (fun _ => 0)) ∧ u m3 = some (eI G 120 (fun _ => 0)) ∧ u m4 = some (eI G 120 (fun _ => 0)) ∧ u m5 = some (eI G 120 (fun _ => 0)) ∧ u m6 = some (eZ G 120 (fun _ => 0)) ∧ u m7 = some (eZ G 720 (fun _ => 0)) ∧ u m8 = some (eI G 6 (fun _ => 0)) ∧ (∀ q e, q ≠ mo → w q = some e → u q = some e) ∧ ([m8, m7, m6, m5, m4, m3, m2, m1, m0] : List Nat).Nodup ∧ (∀ q ∈ ([m8, m7, m6, m5, m4, m3, m2, m1, m0] : List Nat), ∃ e, u q = some e) ∧ (∀ q ∈ ([m8, m7, m6, m5, m4, m3, m2, m1, m0] : List Nat), w q = none)) ⟨(h_up_s _ _ _), ((h_up_n (fun e => by rw [e, hmo] at h0; cases h0)).trans ((h_up_n (fun e => by rw [e, hq] at h0; cases h0)).trans h0)), ((h_up_n (fun e => by rw [e, hmo] at h1; cases h1)).trans ((h_up_n (fun e => by rw [e, hq] at h1; cases h1)).trans h1)), ((h_up_n (fun e => by rw [e, hmo] at h2; cases h2)).trans ((h_up_n (fun e => by rw [e, hq] at h2; cases h2)).trans h2)), ((h_up_n (fun e => by rw [e, hmo] at h3; cases h3)).trans ((h_up_n (fun e => by rw [e, hq] at h3; cases h3)).trans h3)), ((h_up_n (fun e => by rw [e, hmo] at h4; cases h4)).trans ((h_up_n (fun e => by rw [e, hq] at h4; cases h4)).trans h4)), ((h_up_n (fun e => by rw [e, hmo] at h5; cases h5)).trans ((h_up_n (fun e => by rw [e, hq] at h5; cases h5)).trans h5)), ((h_up_n (fun e => by rw [e, hmo] at h6; cases h6)).trans ((h_up_n (fun e => by rw [e, hq] at h6; cases h6)).trans h6)), ((h_up_n (fun e => by rw [e, hmo] at h7; cases h7)).trans ((h_up_n (fun e => by rw [e, hq] at h7; cases h7)).trans h7)), ((h_up_n (Ne.symm nmo)).trans (h_up_s _ _ _)), (fr_step hq hfr), (nd_step hsm hq hnd), (sm_step hsm), (nw_step hq (Ne.symm nmo) hfr hnw)⟩ ?_
  clear nmo hq hmo h0 h1 h2 h3 h4 h5 h6 h7 hfr hnd hsm hnw
  rintro u9 ⟨hmo, h0, h1, h2, h3, h4, h5, h6, h7, h8, hfr, hnd, hsm, hnw⟩
  first | refine g_aload_n C dX3_init_77 rfl rfl ?_ | refine g_aload_nN C dX3_init_77 rfl rfl ?_ | refine g_aload_nq C dX3_init_77 rfl rfl ?_
  refine g_bipush C (v := 120) dX3_init_78 (by decide) ?_
  refine g_newI C (N := 120) dX3_init_80 ka_int (by decide) (by decide) (by decide) (by decide) (by decide) (fun m9 hq => ?_)
  have nmo : mo ≠ m9 := fun e => by rw [e, hq] at hmo; cases hmo
  refine g_putF C dX3_init_82 ((h_up_n nmo).trans hmo) rfl kw_X3 tyX3 tyX3_ok nmX3 11 (by decide) kfX3_38 rfl rfl hnm rfl rfl rfl (Nat.le_of_ble_eq_true rfl) ?_
  refine g_abs (fun u => u mo = some (eO 3 [.int 0, .int 0, .ref m0, .ref m1, .ref m2, .ref m3, .ref m4, .ref m5, .ref m6, .ref m7, .ref m8, .ref m9, .int 0, .null, .null, .int 0, .null]) ∧ u m0 = some (eI G 120 (fun _ => 0)) ∧ u m1 = some (eI G 120 (fun _ => 0)) ∧ u m2 = some (eI G 120 (fun _ => 0)) ∧ u m3 = some (eI G 120 (fun _ => 0)) ∧ u m4 = some (eI G 120 (fun _ => 0)) ∧ u m5 = some (eI G 120 (fun _ => 0)) ∧ u m6 = some (eZ G 120 (fun _ => 0)) ∧ u m7 = some (eZ G 720 (fun _ => 0)) ∧ u m8 = some (eI G 6 (fun _ => 0)) ∧ u m9 = some (eI G 120 (fun _ => 0)) ∧ (∀ q e, q ≠ mo → w q = some e → u q = some e) ∧ ([m9, m8, m7, m6, m5, m4, m3, m2, m1, m0] : List Nat).Nodup ∧ (∀ q ∈ ([m9, m8, m7, m6, m5, m4, m3, m2, m1, m0] : List Nat), ∃ e, u q = some e) ∧ (∀ q ∈ ([m9, m8, m7, m6, m5, m4, m3, m2, m1, m0] : List Nat), w q = none)) ⟨(h_up_s _ _ _), ((h_up_n (fun e => by rw [e, hmo] at h0; cases h0)).trans ((h_up_n (fun e => by rw [e, hq] at h0; cases h0)).trans h0)), ((h_up_n (fun e => by rw [e, hmo] at h1; cases h1)).trans ((h_up_n (fun e => by rw [e, hq] at h1; cases h1)).trans h1)), ((h_up_n (fun e => by rw [e, hmo] at h2; cases h2)).trans ((h_up_n (fun e => by rw [e, hq] at h2; cases h2)).trans h2)), ((h_up_n (fun e => by rw [e, hmo] at h3; cases h3)).trans ((h_up_n (fun e => by rw [e, hq] at h3; cases h3)).trans h3)), ((h_up_n (fun e => by rw [e, hmo] at h4; cases h4)).trans ((h_up_n (fun e => by rw [e, hq] at h4; cases h4)).trans h4)), ((h_up_n (fun e => by rw [e, hmo] at h5; cases h5)).trans ((h_up_n (fun e => by rw [e, hq] at h5; cases h5)).trans h5)), ((h_up_n (fun e => by rw [e, hmo] at h6; cases h6)).trans ((h_up_n (fun e => by rw [e, hq] at h6; cases h6)).trans h6)), ((h_up_n (fun e => by rw [e, hmo] at h7; cases h7)).trans ((h_up_n (fun e => by rw [e, hq] at h7; cases h7)).trans h7)), ((h_up_n (fun e => by rw [e, hmo] at h8; cases h8)).trans ((h_up_n (fun e => by rw [e, hq] at h8; cases h8)).trans h8)), ((h_up_n (Ne.symm nmo)).trans (h_up_s _ _ _)), (fr_step hq hfr), (nd_step hsm hq hnd), (sm_step hsm), (nw_step hq (Ne.symm nmo) hfr hnw)⟩ ?_
  clear nmo hq hmo h0 h1 h2 h3 h4 h5 h6 h7 h8 hfr hnd hsm hnw
  rintro u10 ⟨hmo, h0, h1, h2, h3, h4, h5, h6, h7, h8, h9, hfr, hnd, hsm, hnw⟩
  first | refine g_aload_n C dX3_init_85 rfl rfl ?_ | refine g_aload_nN C dX3_init_85 rfl rfl ?_ | refine g_aload_nq C dX3_init_85 rfl rfl ?_
  refine g_sipush C (v := 256) dX3_init_86 (by decide) ?_
  refine g_newZ C (N := 256) dX3_init_89 ka_boolean (by decide) (by decide) (by decide) (by decide) (by decide) (fun m10 hq => ?_)
  have nmo : mo ≠ m10 := fun e => by rw [e, hq] at hmo; cases hmo
  refine g_putF C dX3_init_91 ((h_up_n nmo).trans hmo) rfl kw_X3 tyX3 tyX3_ok nmX3 13 (by decide) kfX3_41 rfl rfl hnm rfl rfl rfl (Nat.le_of_ble_eq_true rfl) ?_
  refine g_abs (fun u => u mo = some (eO 3 [.int 0, .int 0, .ref m0, .ref m1, .ref m2, .ref m3, .ref m4, .ref m5, .ref m6, .ref m7, .ref m8, .ref m9, .int 0, .ref m10, .null, .int 0, .null]) ∧ u m0 = some (eI G 120 (fun _ => 0)) ∧ u m1 = some (eI G 120 (fun _ => 0)) ∧ u m2 = some (eI G 120 (fun _ => 0)) ∧ u m3 = some (eI G 120 (fun _ => 0)) ∧ u m4 = some (eI G 120 (fun _ => 0)) ∧ u m5 = some (eI G 120 (fun _ => 0)) ∧ u m6 = some (eZ G 120 (fun _ => 0)) ∧ u m7 = some (eZ G 720 (fun _ => 0)) ∧ u m8 = some (eI G 6 (fun _ => 0)) ∧ u m9 = some (eI G 120 (fun _ => 0)) ∧ u m10 = some (eZ G 256 (fun _ => 0)) ∧ (∀ q e, q ≠ mo → w q = some e → u q = some e) ∧ ([m10, m9, m8, m7, m6, m5, m4, m3, m2, m1, m0] : List Nat).Nodup ∧ (∀ q ∈ ([m10, m9, m8, m7, m6, m5, m4, m3, m2, m1, m0] : List Nat), ∃ e, u q = some e) ∧ (∀ q ∈ ([m10, m9, m8, m7, m6, m5, m4, m3, m2, m1, m0] : List Nat), w q = none)) ⟨(h_up_s _ _ _), ((h_up_n (fun e => by rw [e, hmo] at h0; cases h0)).trans ((h_up_n (fun e => by rw [e, hq] at h0; cases h0)).trans h0)), ((h_up_n (fun e => by rw [e, hmo] at h1; cases h1)).trans ((h_up_n (fun e => by rw [e, hq] at h1; cases h1)).trans h1)), ((h_up_n (fun e => by rw [e, hmo] at h2; cases h2)).trans ((h_up_n (fun e => by rw [e, hq] at h2; cases h2)).trans h2)), ((h_up_n (fun e => by rw [e, hmo] at h3; cases h3)).trans ((h_up_n (fun e => by rw [e, hq] at h3; cases h3)).trans h3)), ((h_up_n (fun e => by rw [e, hmo] at h4; cases h4)).trans ((h_up_n (fun e => by rw [e, hq] at h4; cases h4)).trans h4)), ((h_up_n (fun e => by rw [e, hmo] at h5; cases h5)).trans ((h_up_n (fun e => by rw [e, hq] at h5; cases h5)).trans h5)), ((h_up_n (fun e => by rw [e, hmo] at h6; cases h6)).trans ((h_up_n (fun e => by rw [e, hq] at h6; cases h6)).trans h6)), ((h_up_n (fun e => by rw [e, hmo] at h7; cases h7)).trans ((h_up_n (fun e => by rw [e, hq] at h7; cases h7)).trans h7)), ((h_up_n (fun e => by rw [e, hmo] at h8; cases h8)).trans ((h_up_n (fun e => by rw [e, hq] at h8; cases h8)).trans h8)), ((h_up_n (fun e => by rw [e, hmo] at h9; cases h9)).trans ((h_up_n (fun e => by rw [e, hq] at h9; cases h9)).trans h9)), ((h_up_n (Ne.symm nmo)).trans (h_up_s _ _ _)), (fr_step hq hfr), (nd_step hsm hq hnd), (sm_step hsm), (nw_step hq (Ne.symm nmo) hfr hnw)⟩ ?_
  clear nmo hq hmo h0 h1 h2 h3 h4 h5 h6 h7 h8 h9 hfr hnd hsm hnw
  rintro u11 ⟨hmo, h0, h1, h2, h3, h4, h5, h6, h7, h8, h9, h10, hfr, hnd, hsm, hnw⟩
  first | refine g_aload_n C dX3_init_94 rfl rfl ?_ | refine g_aload_nN C dX3_init_94 rfl rfl ?_ | refine g_aload_nq C dX3_init_94 rfl rfl ?_
  refine g_bipush C (v := 120) dX3_init_95 (by decide) ?_
  refine g_newI C (N := 120) dX3_init_97 ka_int (by decide) (by decide) (by decide) (by decide) (by decide) (fun m11 hq => ?_)
  have nmo : mo ≠ m11 := fun e => by rw [e, hq] at hmo; cases hmo
  refine g_putF C dX3_init_99 ((h_up_n nmo).trans hmo) rfl kw_X3 tyX3 tyX3_ok nmX3 14 (by decide) kfX3_44 rfl rfl hnm rfl rfl rfl (Nat.le_of_ble_eq_true rfl) ?_
  refine g_abs (fun u => u mo = some (eO 3 [.int 0, .int 0, .ref m0, .ref m1, .ref m2, .ref m3, .ref m4, .ref m5, .ref m6, .ref m7, .ref m8, .ref m9, .int 0, .ref m10, .ref m11, .int 0, .null]) ∧ u m0 = some (eI G 120 (fun _ => 0)) ∧ u m1 = some (eI G 120 (fun _ => 0)) ∧ u m2 = some (eI G 120 (fun _ => 0)) ∧ u m3 = some (eI G 120 (fun _ => 0)) ∧ u m4 = some (eI G 120 (fun _ => 0)) ∧ u m5 = some (eI G 120 (fun _ => 0)) ∧ u m6 = some (eZ G 120 (fun _ => 0)) ∧ u m7 = some (eZ G 720 (fun _ => 0)) ∧ u m8 = some (eI G 6 (fun _ => 0)) ∧ u m9 = some (eI G 120 (fun _ => 0)) ∧ u m10 = some (eZ G 256 (fun _ => 0)) ∧ u m11 = some (eI G 120 (fun _ => 0)) ∧ (∀ q e, q ≠ mo → w q = some e → u q = some e) ∧ ([m11, m10, m9, m8, m7, m6, m5, m4, m3, m2, m1, m0] : List Nat).Nodup ∧ (∀ q ∈ ([m11, m10, m9, m8, m7, m6, m5, m4, m3, m2, m1, m0] : List Nat), ∃ e, u q = some e) ∧ (∀ q ∈ ([m11, m10, m9, m8, m7, m6, m5, m4, m3, m2, m1, m0] : List Nat), w q = none)) ⟨(h_up_s _ _ _), ((h_up_n (fun e => by rw [e, hmo] at h0; cases h0)).trans ((h_up_n (fun e => by rw [e, hq] at h0; cases h0)).trans h0)), ((h_up_n (fun e => by rw [e, hmo] at h1; cases h1)).trans ((h_up_n (fun e => by rw [e, hq] at h1; cases h1)).trans h1)), ((h_up_n (fun e => by rw [e, hmo] at h2; cases h2)).trans ((h_up_n (fun e => by rw [e, hq] at h2; cases h2)).trans h2)), ((h_up_n (fun e => by rw [e, hmo] at h3; cases h3)).trans ((h_up_n (fun e => by rw [e, hq] at h3; cases h3)).trans h3)), ((h_up_n (fun e => by rw [e, hmo] at h4; cases h4)).trans ((h_up_n (fun e => by rw [e, hq] at h4; cases h4)).trans h4)), ((h_up_n (fun e => by rw [e, hmo] at h5; cases h5)).trans ((h_up_n (fun e => by rw [e, hq] at h5; cases h5)).trans h5)), ((h_up_n (fun e => by rw [e, hmo] at h6; cases h6)).trans ((h_up_n (fun e => by rw [e, hq] at h6; cases h6)).trans h6)), ((h_up_n (fun e => by rw [e, hmo] at h7; cases h7)).trans ((h_up_n (fun e => by rw [e, hq] at h7; cases h7)).trans h7)), ((h_up_n (fun e => by rw [e, hmo] at h8; cases h8)).trans ((h_up_n (fun e => by rw [e, hq] at h8; cases h8)).trans h8)), ((h_up_n (fun e => by rw [e, hmo] at h9; cases h9)).trans ((h_up_n (fun e => by rw [e, hq] at h9; cases h9)).trans h9)), ((h_up_n (fun e => by rw [e, hmo] at h10; cases h10)).trans ((h_up_n (fun e => by rw [e, hq] at h10; cases h10)).trans h10)), ((h_up_n (Ne.symm nmo)).trans (h_up_s _ _ _)), (fr_step hq hfr), (nd_step hsm hq hnd), (sm_step hsm), (nw_step hq (Ne.symm nmo) hfr hnw)⟩ ?_
  clear nmo hq hmo h0 h1 h2 h3 h4 h5 h6 h7 h8 h9 h10 hfr hnd hsm hnw
  rintro u12 ⟨hmo, h0, h1, h2, h3, h4, h5, h6, h7, h8, h9, h10, h11, hfr, hnd, hsm, hnw⟩
  first | refine g_aload_n C dX3_init_102 rfl rfl ?_ | refine g_aload_nN C dX3_init_102 rfl rfl ?_ | refine g_aload_nq C dX3_init_102 rfl rfl ?_
  refine g_bipush C (v := 120) dX3_init_103 (by decide) ?_
  refine g_newZ C (N := 120) dX3_init_105 ka_boolean (by decide) (by decide) (by decide) (by decide) (by decide) (fun m12 hq => ?_)
  have nmo : mo ≠ m12 := fun e => by rw [e, hq] at hmo; cases hmo
  refine g_putF C dX3_init_107 ((h_up_n nmo).trans hmo) rfl kw_X3 tyX3 tyX3_ok nmX3 16 (by decide) kfX3_47 rfl rfl hnm rfl rfl rfl (Nat.le_of_ble_eq_true rfl) ?_
  refine g_abs (fun u => u mo = some (eO 3 [.int 0, .int 0, .ref m0, .ref m1, .ref m2, .ref m3, .ref m4, .ref m5, .ref m6, .ref m7, .ref m8, .ref m9, .int 0, .ref m10, .ref m11, .int 0, .ref m12]) ∧ u m0 = some (eI G 120 (fun _ => 0)) ∧ u m1 = some (eI G 120 (fun _ => 0)) ∧ u m2 = some (eI G 120 (fun _ => 0)) ∧ u m3 = some (eI G 120 (fun _ => 0)) ∧ u m4 = some (eI G 120 (fun _ => 0)) ∧ u m5 = some (eI G 120 (fun _ => 0)) ∧ u m6 = some (eZ G 120 (fun _ => 0)) ∧ u m7 = some (eZ G 720 (fun _ => 0)) ∧ u m8 = some (eI G 6 (fun _ => 0)) ∧ u m9 = some (eI G 120 (fun _ => 0)) ∧ u m10 = some (eZ G 256 (fun _ => 0)) ∧ u m11 = some (eI G 120 (fun _ => 0)) ∧ u m12 = some (eZ G 120 (fun _ => 0)) ∧ (∀ q e, q ≠ mo → w q = some e → u q = some e) ∧ ([m12, m11, m10, m9, m8, m7, m6, m5, m4, m3, m2, m1, m0] : List Nat).Nodup ∧ (∀ q ∈ ([m12, m11, m10, m9, m8, m7, m6, m5, m4, m3, m2, m1, m0] : List Nat), ∃ e, u q = some e) ∧ (∀ q ∈ ([m12, m11, m10, m9, m8, m7, m6, m5, m4, m3, m2, m1, m0] : List Nat), w q = none)) ⟨(h_up_s _ _ _), ((h_up_n (fun e => by rw [e, hmo] at h0; cases h0)).trans ((h_up_n (fun e => by rw [e, hq] at h0; cases h0)).trans h0)), ((h_up_n (fun e => by rw [e, hmo] at h1; cases h1)).trans ((h_up_n (fun e => by rw [e, hq] at h1; cases h1)).trans h1)), ((h_up_n (fun e => by rw [e, hmo] at h2; cases h2)).trans ((h_up_n (fun e => by rw [e, hq] at h2; cases h2)).trans h2)), ((h_up_n (fun e => by rw [e, hmo] at h3; cases h3)).trans ((h_up_n (fun e => by rw [e, hq] at h3; cases h3)).trans h3)), ((h_up_n (fun e => by rw [e, hmo] at h4; cases h4)).trans ((h_up_n (fun e => by rw [e, hq] at h4; cases h4)).trans h4)), ((h_up_n (fun e => by rw [e, hmo] at h5; cases h5)).trans ((h_up_n (fun e => by rw [e, hq] at h5; cases h5)).trans h5)), ((h_up_n (fun e => by rw [e, hmo] at h6; cases h6)).trans ((h_up_n (fun e => by rw [e, hq] at h6; cases h6)).trans h6)), ((h_up_n (fun e => by rw [e, hmo] at h7; cases h7)).trans ((h_up_n (fun e => by rw [e, hq] at h7; cases h7)).trans h7)), ((h_up_n (fun e => by rw [e, hmo] at h8; cases h8)).trans ((h_up_n (fun e => by rw [e, hq] at h8; cases h8)).trans h8)), ((h_up_n (fun e => by rw [e, hmo] at h9; cases h9)).trans ((h_up_n (fun e => by rw [e, hq] at h9; cases h9)).trans h9)), ((h_up_n (fun e => by rw [e, hmo] at h10; cases h10)).trans ((h_up_n (fun e => by rw [e, hq] at h10; cases h10)).trans h10)), ((h_up_n (fun e => by rw [e, hmo] at h11; cases h11)).trans ((h_up_n (fun e => by rw [e, hq] at h11; cases h11)).trans h11)), ((h_up_n (Ne.symm nmo)).trans (h_up_s _ _ _)), (fr_step hq hfr), (nd_step hsm hq hnd), (sm_step hsm), (nw_step hq (Ne.symm nmo) hfr hnw)⟩ ?_
  clear nmo hq hmo h0 h1 h2 h3 h4 h5 h6 h7 h8 h9 h10 h11 hfr hnd hsm hnw
  rintro u13 ⟨hmo, h0, h1, h2, h3, h4, h5, h6, h7, h8, h9, h10, h11, h12, hfr, hnd, hsm, hnw⟩
  exact g_vret C hr dX3_init_110 (by decide) (by decide) ⟨rfl, fun k => ([m12, m11, m10, m9, m8, m7, m6, m5, m4, m3, m2, m1, m0] : List Nat).getD (12 - k) 0, ⟨hmo, h0, h1, h2, h3, h4, h5, h6, h7, h8, h9, h10, h11, h12, (fun i j hi hj e => by have h9 := nd_inj hnd (i := 12 - i) (j := 12 - j) (by simp only [List.length_cons, List.length_nil]; omega) (by simp only [List.length_cons, List.length_nil]; omega) e; omega), Nat.zero_le _⟩, hfr, fun k hk => hnw _ (getD_mem (by simp only [List.length_cons, List.length_nil]; omega))⟩

