/-! ===== what is only read: finding tellings, rows, the answers that change nothing ===== -/
theorem sw_of {x : Int32} {k : Nat} (hk : k < 2 ^ 31) (h : x.toInt = k) : x = nI k := by
  apply Int32.toInt_inj.mp
  rw [h, nI_toInt hk]
theorem sw3 (x : Int32) : x = 0 ∨ x = 1 ∨ x = 2 ∨ (x.toInt < 0 ∨ 2 < x.toInt) := by
  by_cases h : x.toInt < 0 ∨ 2 < x.toInt
  · exact Or.inr (Or.inr (Or.inr h))
  · rcases (show x.toInt = ((0 : Nat) : Int) ∨ x.toInt = ((1 : Nat) : Int) ∨ x.toInt = ((2 : Nat) : Int) by omega) with h | h | h
    · exact Or.inl (sw_of (by decide) h)
    · exact Or.inr (Or.inl (sw_of (by decide) h))
    · exact Or.inr (Or.inr (Or.inl (sw_of (by decide) h)))
theorem sw4 (x : Int32) : x = 0 ∨ x = 1 ∨ x = 2 ∨ x = 3 ∨ (x.toInt < 0 ∨ 3 < x.toInt) := by
  by_cases h : x.toInt < 0 ∨ 3 < x.toInt
  · exact Or.inr (Or.inr (Or.inr (Or.inr h)))
  · rcases (show x.toInt = ((0 : Nat) : Int) ∨ x.toInt = ((1 : Nat) : Int) ∨ x.toInt = ((2 : Nat) : Int) ∨ x.toInt = ((3 : Nat) : Int) by omega) with h | h | h | h
    · exact Or.inl (sw_of (by decide) h)
    · exact Or.inr (Or.inl (sw_of (by decide) h))
    · exact Or.inr (Or.inr (Or.inl (sw_of (by decide) h)))
    · exact Or.inr (Or.inr (Or.inr (Or.inl (sw_of (by decide) h))))
def okD (d : Int32) : Prop := ¬ d < 0 ∧ d < 6
def okT (d : Int32) : Prop := ¬ d < 0 ∧ d < 16
/-- a telling's number, and the telling is made -/
def isM (n : Nat) (t : Int32) : Prop := ∃ j, j < n ∧ t = nI j
/-- .. and the desk knows it -/
def isK (ti : Nat → TI) (n : Nat) (d t : Int32) : Prop := ∃ j, j < n ∧ t = nI j ∧ kb (ti j).kn d = true
theorem isM_of {n : Nat} (hn : n < 2 ^ 31) {t : Int32} (h0 : ¬ t < 0) (h1 : t < nI n) : isM n t := by
  obtain ⟨j, hj, rfl⟩ := nI_of h0
  exact ⟨j, (nI_ltI hj hn).mp h1, rfl⟩
theorem isM_in {n : Nat} (hn : n < 2 ^ 31) {t : Int32} (h : isM n t) : ¬ t < 0 ∧ t < nI n := by
  obtain ⟨j, hj, rfl⟩ := h
  exact ⟨nI_pos (by omega), nI_lt hj hn⟩
def exc1 (P1 : Prop) (E : String) : Prop := E = nNS ∧ ¬ P1
def shL (t : TI) : Bool := decide (nI t.so = 0) && decide (t.kn = 63)
def odF (ti : Nat → TI) (th : Int32) (i : Nat) : Bool := shL (ti i) && decide ((ti i).th = th)
def frG (ti : Nat → TI) (d k : Int32) : Int32 → List Nat → Option Nat
  | _, [] => none
  | b, i :: r => cond (kb (ti i).kn d && !kb (ti i).en d) (cond (decide (b = k)) (some i) (frG ti d k (b + 1) r)) (frG ti d k b r)
def ub (u : Int32) (m : Nat) : Bool := decide (((u.toUInt32 >>> ((nI m).toUInt32 &&& Int32.toUInt32 31)).toInt32 &&& 1) = 1)
def muG (u k : Int32) : Nat → Nat → Int32 → Int32
  | 0, _, _ => -1
  | n + 1, m, b => cond (ub u m) (cond (decide (b = k)) (nI m) (muG u k n (m + 1) (b + 1))) (muG u k n (m + 1) b)

set_option maxHeartbeats 4000000 in
set_option maxRecDepth 100000 in
theorem c_X2_isSharedLatest (l : Launch) (G : hD) (w : hW) (ad : Nat → Nat) (i : Nat) (t : TI) (hc : w (ad i) = some (cellT ad i t)) : h_Met l yX2_isSharedLatest (Cond.code yX2_isSharedLatest cX2_isSharedLatest 1 (some .boolean)) { frames := 0, cells := 0, slots := 0, locals := 0 } G [.ref (ad i)] w (fun v w' => v = some (.int (bI (shL t))) ∧ w' = w) noX := by
  refine h_met RX2 rfl (by decide) (Nat.le_of_ble_eq_true rfl) (cat_c (by first | rfl | exact rf_cat _) cat_n) ?_
  intro p e s m below meth c A C hnt hr hnm
  first | refine g_aload_n C dX2_isSharedLatest_0 rfl rfl ?_ | refine g_aload_nN C dX2_isSharedLatest_0 rfl rfl ?_ | refine g_aload_nq C dX2_isSharedLatest_0 rfl rfl ?_
  refine g_get C dX2_isSharedLatest_1 hc rfl kw_X1 3 (by decide) kfX2_62 rfl rfl ?_
  refine g_if_ne C 20 dX2_isSharedLatest_4 (by decide) (fun c4 => ?_) (fun c4 => ?_)
  · refine g_iconst C (v := 0) dX2_isSharedLatest_20 (by decide) ?_
    exact g_zret C hr rfl dX2_isSharedLatest_21 (by decide) (by decide) ⟨by simp [shL, bI, c4], rfl⟩
  · first | refine g_aload_n C dX2_isSharedLatest_7 rfl rfl ?_ | refine g_aload_nN C dX2_isSharedLatest_7 rfl rfl ?_ | refine g_aload_nq C dX2_isSharedLatest_7 rfl rfl ?_
    refine g_get C dX2_isSharedLatest_8 hc rfl kw_X1 6 (by decide) kfX2_221 rfl rfl ?_
    refine g_bipush C (v := 63) dX2_isSharedLatest_11 (by decide) ?_
    refine g_icmp_ne C 20 dX2_isSharedLatest_13 (by decide) (fun c13 => ?_) (fun c13 => ?_)
    · refine g_iconst C (v := 0) dX2_isSharedLatest_20 (by decide) ?_
      exact g_zret C hr rfl dX2_isSharedLatest_21 (by decide) (by decide) ⟨by simp [shL, bI, c4, c13], rfl⟩
    · refine g_iconst C (v := 1) dX2_isSharedLatest_16 (by decide) ?_
      refine g_goto C 21 dX2_isSharedLatest_17 (by decide) ?_
      exact g_zret C hr rfl dX2_isSharedLatest_21 (by decide) (by decide) ⟨by simp [shL, bI, c4, c13], rfl⟩

set_option maxHeartbeats 4000000 in
set_option maxRecDepth 100000 in
theorem c_X2_isOutdone (l : Launch) (G : hD) (w : hW) (ad : Nat → Nat) (n : Nat) (ti : Nat → TI) (hT : tIn w ad n ti) (ch : List Nat) (i0 : Nat) (hi0 : i0 < n) (hch : ∀ i ∈ ch, i < n) (hlk : lk (fun i => (ti i).la) (ti i0).la ch) : h_Met l yX2_isOutdone (Cond.code yX2_isOutdone cX2_isOutdone 2 (some .boolean)) { frames := 1, cells := 0, slots := 0, locals := 20 } G [.ref (ad i0)] w (fun v w' => v = some (.int (bI (shL (ti i0) && ch.any (odF ti (ti i0).th)))) ∧ w' = w) noX := by
  refine h_met RX2 rfl (by decide) (Nat.le_of_ble_eq_true rfl) (cat_c (by first | rfl | exact rf_cat _) cat_n) ?_
  intro p e s m below meth c A C hnt hr hnm
  have hc0 := hT i0 hi0
  have hla0 : (ti i0).la = ch.head? := lk_hd hlk
  first | refine g_aload_n C dX2_isOutdone_0 rfl rfl ?_ | refine g_aload_nN C dX2_isOutdone_0 rfl rfl ?_ | refine g_aload_nq C dX2_isOutdone_0 rfl rfl ?_
  refine g_callSn C _ dX2_isOutdone_1 (c_X2_isSharedLatest l G _ ad _ _ hc0) kmX2_218 ks_X2_isSharedLatest kn_X2 kc_X2_isSharedLatest hy_X2_isSharedLatest ⟨by decide, by decide⟩ rfl (Nat.le_of_ble_eq_true rfl) ⟨by decide, by decide⟩ (fun v w1 hp => ?_)
  obtain ⟨rfl, hw1⟩ := hp
  have hw1 := hw1.symm
  subst hw1
  refine g_if_ne C 9 dX2_isOutdone_4 (by decide) (fun c4 => ?_) (fun c4 => ?_)
  · have c4 := bI_nz.mp c4
    first | refine g_aload_n C dX2_isOutdone_9 rfl rfl ?_ | refine g_aload_nN C dX2_isOutdone_9 rfl rfl ?_ | refine g_aload_nq C dX2_isOutdone_9 rfl rfl ?_
    refine g_get C dX2_isOutdone_10 hc0 rfl kw_X1 9 (by decide) kfX2_95 rfl rfl ?_
    first | refine g_astore_n C dX2_isOutdone_13 rfl (by decide) ?_ | refine g_astore_nN C dX2_isOutdone_13 rfl (by decide) ?_ | refine g_astore_nq C dX2_isOutdone_13 rfl (by decide) ?_
    rw [hla0]
    refine g_loop (σ := List Nat) (fun z => lk (fun i => (ti i).la) z.head? z ∧ (∀ i ∈ z, i < n) ∧ z.any (odF ti (ti i0).th) = ch.any (odF ti (ti i0).th)) (fun z => z.length) (fun _ => w) (fun z => [(0, .ref (ad i0)), (1, va_rf (z.head?.map ad))]) ?_ ch ⟨by rw [← hla0]; exact hlk, hch, rfl⟩
    intro r hI ih
    obtain ⟨hr1, hr2, hinv⟩ := hI
    cases r with
    | nil =>
      first | refine g_aload_n C dX2_isOutdone_14 rfl rfl ?_ | refine g_aload_nN C dX2_isOutdone_14 rfl rfl ?_ | refine g_aload_nq C dX2_isOutdone_14 rfl rfl ?_
      refine g_ifnullN C 46 dX2_isOutdone_15 (by decide) ?_
      refine g_iconst C (v := 0) dX2_isOutdone_46 (by decide) ?_
      exact g_zret C hr rfl dX2_isOutdone_47 (by decide) (by decide) ⟨by rw [← hinv]; simp [bI, c4], rfl⟩
    | cons i r =>
      have hi : i < n := hr2 i List.mem_cons_self
      have hc := hT i hi
      have hla : (ti i).la = r.head? := lk_hd hr1.2
      have hlk' : lk (fun i => (ti i).la) r.head? r := by rw [← hla]; exact hr1.2
      first | refine g_aload_n C dX2_isOutdone_14 rfl rfl ?_ | refine g_aload_nN C dX2_isOutdone_14 rfl rfl ?_ | refine g_aload_nq C dX2_isOutdone_14 rfl rfl ?_
      refine g_ifnullR C dX2_isOutdone_15 ?_
      first | refine g_aload_n C dX2_isOutdone_18 rfl rfl ?_ | refine g_aload_nN C dX2_isOutdone_18 rfl rfl ?_ | refine g_aload_nq C dX2_isOutdone_18 rfl rfl ?_
      refine g_callSn C _ dX2_isOutdone_19 (c_X2_isSharedLatest l G _ ad _ _ hc) kmX2_218 ks_X2_isSharedLatest kn_X2 kc_X2_isSharedLatest hy_X2_isSharedLatest ⟨by decide, by decide⟩ rfl (Nat.le_of_ble_eq_true rfl) ⟨by decide, by decide⟩ (fun v w1 hp => ?_)
      obtain ⟨rfl, hw1⟩ := hp
      have hw1 := hw1.symm
      subst hw1
      refine g_if_eq C 38 dX2_isOutdone_22 (by decide) (fun c22 => ?_) (fun c22 => ?_)
      · have c22 := bI_z.mp c22
        first | refine g_aload_n C dX2_isOutdone_38 rfl rfl ?_ | refine g_aload_nN C dX2_isOutdone_38 rfl rfl ?_ | refine g_aload_nq C dX2_isOutdone_38 rfl rfl ?_
        refine g_get C dX2_isOutdone_39 hc rfl kw_X1 9 (by decide) kfX2_95 rfl rfl ?_
        first | refine g_astore_n C dX2_isOutdone_42 rfl (by decide) ?_ | refine g_astore_nN C dX2_isOutdone_42 rfl (by decide) ?_ | refine g_astore_nq C dX2_isOutdone_42 rfl (by decide) ?_
        refine g_goto C 14 dX2_isOutdone_43 (by decide) ?_
        rw [hla]
        exact ih r ⟨hlk', fun j hj => hr2 j (List.mem_cons_of_mem _ hj), by rw [← hinv]; simp [odF, c22]⟩ (Nat.lt_succ_self _)
      · have c22 := bI_nz.mp c22
        first | refine g_aload_n C dX2_isOutdone_25 rfl rfl ?_ | refine g_aload_nN C dX2_isOutdone_25 rfl rfl ?_ | refine g_aload_nq C dX2_isOutdone_25 rfl rfl ?_
        refine g_get C dX2_isOutdone_26 hc rfl kw_X1 4 (by decide) kfX2_65 rfl rfl ?_
        first | refine g_aload_n C dX2_isOutdone_29 rfl rfl ?_ | refine g_aload_nN C dX2_isOutdone_29 rfl rfl ?_ | refine g_aload_nq C dX2_isOutdone_29 rfl rfl ?_
        refine g_get C dX2_isOutdone_30 hc0 rfl kw_X1 4 (by decide) kfX2_65 rfl rfl ?_
        refine g_icmp_ne C 38 dX2_isOutdone_33 (by decide) (fun c33 => ?_) (fun c33 => ?_)
        · first | refine g_aload_n C dX2_isOutdone_38 rfl rfl ?_ | refine g_aload_nN C dX2_isOutdone_38 rfl rfl ?_ | refine g_aload_nq C dX2_isOutdone_38 rfl rfl ?_
          refine g_get C dX2_isOutdone_39 hc rfl kw_X1 9 (by decide) kfX2_95 rfl rfl ?_
          first | refine g_astore_n C dX2_isOutdone_42 rfl (by decide) ?_ | refine g_astore_nN C dX2_isOutdone_42 rfl (by decide) ?_ | refine g_astore_nq C dX2_isOutdone_42 rfl (by decide) ?_
          refine g_goto C 14 dX2_isOutdone_43 (by decide) ?_
          rw [hla]
          exact ih r ⟨hlk', fun j hj => hr2 j (List.mem_cons_of_mem _ hj), by rw [← hinv]; simp [odF, c22, c33]⟩ (Nat.lt_succ_self _)
        · refine g_iconst C (v := 1) dX2_isOutdone_36 (by decide) ?_
          exact g_zret C hr rfl dX2_isOutdone_37 (by decide) (by decide) ⟨by rw [← hinv]; simp [bI, odF, c4, c22, c33], rfl⟩
  · have c4 := bI_z.mp c4
    refine g_iconst C (v := 0) dX2_isOutdone_7 (by decide) ?_
    exact g_zret C hr rfl dX2_isOutdone_8 (by decide) (by decide) ⟨by simp [bI, c4], rfl⟩

set_option maxHeartbeats 4000000 in
set_option maxRecDepth 100000 in
theorem c_X2_findInRow (l : Launch) (G : hD) (w : hW) (x tl rw ng cx : Nat) (ad : Nat → Nat) (er : Option Nat) (n : Nat) (ti : Nat → TI) (rf : Nat → Option Nat) (rh : Option Nat) (rl : List Nat) (t : Nat) (hx : w x = some (cellX ad tl rw ng cx er n)) (hT : tIn w ad n ti) (hrw : w rw = some (eT G 16 rf)) (ht : t < 16) (hrf : rf t = rh.map ad) (hrl : ∀ i ∈ rl, i < n) (hlk : lk (fun i => (ti i).ne) rh rl) (d k : Int32) : h_Met l yX2_findInRow (Cond.code yX2_findInRow cX2_findInRow 6 (some (.object "TrenchMerge$Telling"))) { frames := 1, cells := 0, slots := 0, locals := 21 } G [.ref x, .int d, .int (nI t), .int k] w (fun v w' => v = some (va_rf ((frG ti d k 0 rl).map ad)) ∧ w' = w) noX := by
  refine h_met RX2 rfl (by decide) (Nat.le_of_ble_eq_true rfl) (cat_c (by first | rfl | exact rf_cat _) (cat_c (by first | rfl | exact rf_cat _) (cat_c (by first | rfl | exact rf_cat _) (cat_c (by first | rfl | exact rf_cat _) cat_n)))) ?_
  intro p e s m below meth c A C hnt hr hnm
  have hh0 : rh = rl.head? := lk_hd hlk
  refine g_iconst C (v := 0) dX2_findInRow_0 (by decide) ?_
  refine g_istore C dX2_findInRow_1 (by decide) ?_
  first | refine g_aload_n C dX2_findInRow_3 rfl rfl ?_ | refine g_aload_nN C dX2_findInRow_3 rfl rfl ?_ | refine g_aload_nq C dX2_findInRow_3 rfl rfl ?_
  refine g_get C dX2_findInRow_4 hx rfl kw_X2 1 (by decide) kfX2_15 rfl rfl ?_
  refine g_iload_n C dX2_findInRow_7 rfl rfl ?_
  refine g_aldqN C dX2_findInRow_8 hrw ht (by decide) ?_
  first | refine g_astore C dX2_findInRow_9 (by decide) ?_ | refine g_astoreN C dX2_findInRow_9 (by decide) ?_ | refine g_astoreq C dX2_findInRow_9 (by decide) ?_
  rw [hrf, hh0]
  refine g_loop (σ := List Nat × Int32) (fun z => lk (fun i => (ti i).ne) z.1.head? z.1 ∧ (∀ i ∈ z.1, i < n) ∧ frG ti d k z.2 z.1 = frG ti d k 0 rl) (fun z => z.1.length) (fun _ => w) (fun z => [(0, .ref x), (1, .int d), (2, .int (nI t)), (3, .int k), (4, .int z.2), (5, va_rf (z.1.head?.map ad))]) ?_ (rl, 0) ⟨by rw [← hh0]; exact hlk, hrl, rfl⟩
  rintro ⟨r, b⟩ ⟨hr1, hr2, hinv⟩ ih
  dsimp only at hr1 hr2 hinv ih ⊢
  cases r with
  | nil =>
    first | refine g_aload C dX2_findInRow_11 rfl ?_ | refine g_aloadN C dX2_findInRow_11 rfl ?_ | refine g_aloadq C dX2_findInRow_11 rfl ?_
    refine g_ifnullN C 56 dX2_findInRow_13 (by decide) ?_
    refine g_null C dX2_findInRow_56 ?_
    exact g_aret C (r := none) hr dX2_findInRow_57 (by decide) (by decide) ⟨by rw [← hinv]; rfl, rfl⟩
  | cons i r =>
    have hi : i < n := hr2 i List.mem_cons_self
    have hc := hT i hi
    have hla : (ti i).ne = r.head? := lk_hd hr1.2
    have hlk' : lk (fun i => (ti i).ne) r.head? r := by rw [← hla]; exact hr1.2
    first | refine g_aload C dX2_findInRow_11 rfl ?_ | refine g_aloadN C dX2_findInRow_11 rfl ?_ | refine g_aloadq C dX2_findInRow_11 rfl ?_
    refine g_ifnullR C dX2_findInRow_13 ?_
    first | refine g_aload C dX2_findInRow_16 rfl ?_ | refine g_aloadN C dX2_findInRow_16 rfl ?_ | refine g_aloadq C dX2_findInRow_16 rfl ?_
    refine g_iload_n C dX2_findInRow_18 rfl rfl ?_
    refine g_callVn C _ dX2_findInRow_19 (c_X1_isKnownAt l G _ _ _ _ _ _ _ _ _ _ _ _ _ _ hc) kmX2_88 ki_X1_isKnownAt kv_X1_isKnownAt kn_X1 kc_X1_isKnownAt hy_X1_isKnownAt ⟨by decide, by decide⟩ hc rfl rfl (Nat.le_of_ble_eq_true rfl) ⟨by decide, by decide⟩ (fun v w1 hp => ?_)
    obtain ⟨rfl, hw1⟩ := hp
    have hw1 := hw1.symm
    subst hw1
    refine g_if_eq C 46 dX2_findInRow_22 (by decide) (fun c22 => ?_) (fun c22 => ?_)
    · have c22 := bI_z.mp c22
      first | refine g_aload C dX2_findInRow_46 rfl ?_ | refine g_aloadN C dX2_findInRow_46 rfl ?_ | refine g_aloadq C dX2_findInRow_46 rfl ?_
      refine g_get C dX2_findInRow_48 hc rfl kw_X1 10 (by decide) kfX2_203 rfl rfl ?_
      first | refine g_astore C dX2_findInRow_51 (by decide) ?_ | refine g_astoreN C dX2_findInRow_51 (by decide) ?_ | refine g_astoreq C dX2_findInRow_51 (by decide) ?_
      refine g_goto C 11 dX2_findInRow_53 (by decide) ?_
      rw [hla]
      exact ih (r, b) ⟨hlk', fun j hj => hr2 j (List.mem_cons_of_mem _ hj), by rw [← hinv]; simp [frG, c22]⟩ (Nat.lt_succ_self _)
    · have c22 := bI_nz.mp c22
      first | refine g_aload C dX2_findInRow_25 rfl ?_ | refine g_aloadN C dX2_findInRow_25 rfl ?_ | refine g_aloadq C dX2_findInRow_25 rfl ?_
      refine g_iload_n C dX2_findInRow_27 rfl rfl ?_
      refine g_callVn C _ dX2_findInRow_28 (c_X1_isEndedAt l G _ _ _ _ _ _ _ _ _ _ _ _ _ _ hc) kmX2_206 ki_X1_isEndedAt kv_X1_isEndedAt kn_X1 kc_X1_isEndedAt hy_X1_isEndedAt ⟨by decide, by decide⟩ hc rfl rfl (Nat.le_of_ble_eq_true rfl) ⟨by decide, by decide⟩ (fun v w1 hp => ?_)
      obtain ⟨rfl, hw1⟩ := hp
      have hw1 := hw1.symm
      subst hw1
      refine g_if_ne C 46 dX2_findInRow_31 (by decide) (fun c31 => ?_) (fun c31 => ?_)
      · have c31 := bI_nz.mp c31
        first | refine g_aload C dX2_findInRow_46 rfl ?_ | refine g_aloadN C dX2_findInRow_46 rfl ?_ | refine g_aloadq C dX2_findInRow_46 rfl ?_
        refine g_get C dX2_findInRow_48 hc rfl kw_X1 10 (by decide) kfX2_203 rfl rfl ?_
        first | refine g_astore C dX2_findInRow_51 (by decide) ?_ | refine g_astoreN C dX2_findInRow_51 (by decide) ?_ | refine g_astoreq C dX2_findInRow_51 (by decide) ?_
        refine g_goto C 11 dX2_findInRow_53 (by decide) ?_
        rw [hla]
        exact ih (r, b) ⟨hlk', fun j hj => hr2 j (List.mem_cons_of_mem _ hj), by rw [← hinv]; simp [frG, c22, c31]⟩ (Nat.lt_succ_self _)
      · have c31 := bI_z.mp c31
        refine g_iload C dX2_findInRow_34 rfl ?_
        refine g_iload_n C dX2_findInRow_36 rfl rfl ?_
        refine g_icmp_ne C 43 dX2_findInRow_37 (by decide) (fun c37 => ?_) (fun c37 => ?_)
        · refine g_iinc C (v := (b + 1)) dX2_findInRow_43 rfl (rfl) (by decide) ?_
          first | refine g_aload C dX2_findInRow_46 rfl ?_ | refine g_aloadN C dX2_findInRow_46 rfl ?_ | refine g_aloadq C dX2_findInRow_46 rfl ?_
          refine g_get C dX2_findInRow_48 hc rfl kw_X1 10 (by decide) kfX2_203 rfl rfl ?_
          first | refine g_astore C dX2_findInRow_51 (by decide) ?_ | refine g_astoreN C dX2_findInRow_51 (by decide) ?_ | refine g_astoreq C dX2_findInRow_51 (by decide) ?_
          refine g_goto C 11 dX2_findInRow_53 (by decide) ?_
          rw [hla]
          exact ih (r, b + 1) ⟨hlk', fun j hj => hr2 j (List.mem_cons_of_mem _ hj), by rw [← hinv]; simp [frG, c22, c31, c37]⟩ (Nat.lt_succ_self _)
        · first | refine g_aload C dX2_findInRow_40 rfl ?_ | refine g_aloadN C dX2_findInRow_40 rfl ?_ | refine g_aloadq C dX2_findInRow_40 rfl ?_
          exact g_aret C (r := some (ad i)) hr dX2_findInRow_42 (by decide) (by decide) ⟨by rw [← hinv]; simp [frG, c22, c31, c37, va_rf], rfl⟩

set_option maxHeartbeats 4000000 in
set_option maxRecDepth 100000 in
theorem c_X2_memberOfUnion (l : Launch) (G : hD) (w : hW) (x tl rw ng cx : Nat) (ad : Nat → Nat) (er : Option Nat) (n : Nat) (ti : Nat → TI) (ch : List Nat) (hx : w x = some (cellX ad tl rw ng cx er n)) (hT : tIn w ad n ti) (hch : ∀ i ∈ ch, i < n) (hlk : lk (fun i => (ti i).la) er ch) (d th k : Int32) : h_Met l yX2_memberOfUnion (Cond.code yX2_memberOfUnion cX2_memberOfUnion 7 (some .int)) { frames := 1, cells := 0, slots := 0, locals := 22 } G [.ref x, .int d, .int th, .int k] w (fun v w' => v = some (.int (muG (ch.foldl (unS ti d th) 0) k 32 0 0)) ∧ w' = w) noX := by
  refine h_met RX2 rfl (by decide) (Nat.le_of_ble_eq_true rfl) (cat_c (by first | rfl | exact rf_cat _) (cat_c (by first | rfl | exact rf_cat _) (cat_c (by first | rfl | exact rf_cat _) (cat_c (by first | rfl | exact rf_cat _) cat_n)))) ?_
  intro p e s m below meth c A C hnt hr hnm
  have her : er = ch.head? := lk_hd hlk
  refine g_iconst C (v := 0) dX2_memberOfUnion_0 (by decide) ?_
  refine g_istore C dX2_memberOfUnion_1 (by decide) ?_
  first | refine g_aload_n C dX2_memberOfUnion_3 rfl rfl ?_ | refine g_aload_nN C dX2_memberOfUnion_3 rfl rfl ?_ | refine g_aload_nq C dX2_memberOfUnion_3 rfl rfl ?_
  refine g_get C dX2_memberOfUnion_4 hx rfl kw_X2 4 (by decide) kfX2_29 rfl rfl ?_
  first | refine g_astore C dX2_memberOfUnion_7 (by decide) ?_ | refine g_astoreN C dX2_memberOfUnion_7 (by decide) ?_ | refine g_astoreq C dX2_memberOfUnion_7 (by decide) ?_
  rw [her]
  refine g_loop (σ := List Nat × Int32) (fun z => lk (fun i => (ti i).la) z.1.head? z.1 ∧ (∀ i ∈ z.1, i < n) ∧ z.1.foldl (unS ti d th) z.2 = ch.foldl (unS ti d th) 0) (fun z => z.1.length) (fun _ => w) (fun z => [(0, .ref x), (1, .int d), (2, .int th), (3, .int k), (4, .int z.2), (5, va_rf (z.1.head?.map ad))]) ?_ (ch, 0) ⟨by rw [← lk_hd hlk]; exact hlk, hch, rfl⟩
  rintro ⟨r, acc⟩ ⟨hr1, hr2, hinv⟩ ih
  dsimp only at hr1 hr2 hinv ih ⊢
  cases r with
  | nil =>
    have hacc : acc = ch.foldl (unS ti d th) 0 := hinv
    subst hacc
    first | refine g_aload C dX2_memberOfUnion_9 rfl ?_ | refine g_aloadN C dX2_memberOfUnion_9 rfl ?_ | refine g_aloadq C dX2_memberOfUnion_9 rfl ?_
    refine g_ifnullN C 55 dX2_memberOfUnion_11 (by decide) ?_
    refine g_iconst C (v := 0) dX2_memberOfUnion_55 (by decide) ?_
    refine g_istore C dX2_memberOfUnion_56 (by decide) ?_
    refine g_iconst C (v := 0) dX2_memberOfUnion_58 (by decide) ?_
    refine g_istore C dX2_memberOfUnion_59 (by decide) ?_
    refine g_loop (σ := Nat × Int32) (fun z => z.1 ≤ 32 ∧ muG (ch.foldl (unS ti d th) 0) k (32 - z.1) z.1 z.2 = muG (ch.foldl (unS ti d th) 0) k 32 0 0) (fun z => 32 - z.1) (fun _ => w) (fun z => [(0, .ref x), (1, .int d), (2, .int th), (3, .int k), (4, .int (ch.foldl (unS ti d th) 0)), (5, .int z.2), (6, .int (nI z.1))]) ?_ (0, 0) ⟨Nat.zero_le _, rfl⟩
    rintro ⟨mm, b⟩ ⟨hm, hinv⟩ ih
    dsimp only at hm hinv ih ⊢
    refine g_iload C dX2_memberOfUnion_61 rfl ?_
    refine g_bipush C (v := 32) dX2_memberOfUnion_63 (by decide) ?_
    refine g_icmp_ge C 97 dX2_memberOfUnion_65 (by decide) (fun c65 => ?_) (fun c65 => ?_)
    · have hge : 32 ≤ mm := (nI_leI (by decide) (by omega)).mp c65
      refine g_iconst C (v := (-1)) dX2_memberOfUnion_97 (by decide) ?_
      exact g_iret C hr dX2_memberOfUnion_98 (by decide) (by decide) ⟨by rw [← hinv, show 32 - mm = 0 by omega]; rfl, rfl⟩
    · have hlt : mm < 32 := nI_nge c65 (by omega) (by decide)
      rw [show 32 - mm = (32 - (mm + 1)) + 1 by omega] at hinv
      refine g_iload C dX2_memberOfUnion_68 rfl ?_
      refine g_iload C dX2_memberOfUnion_70 rfl ?_
      refine g_iushr C dX2_memberOfUnion_72 rfl ?_
      refine g_iconst C (v := 1) dX2_memberOfUnion_73 (by decide) ?_
      refine g_iand C dX2_memberOfUnion_74 ?_
      refine g_iconst C (v := 1) dX2_memberOfUnion_75 (by decide) ?_
      refine g_icmp_ne C 91 dX2_memberOfUnion_76 (by decide) (fun c76 => ?_) (fun c76 => ?_)
      · refine g_iinc C (v := nI (mm + 1)) dX2_memberOfUnion_91 rfl (nI_1 mm) (by decide) ?_
        refine g_goto C 61 dX2_memberOfUnion_94 (by decide) ?_
        exact ih (mm + 1, b) ⟨hlt, by rw [← hinv]; simp [muG, ub, c76]⟩ (by dsimp only; omega)
      · refine g_iload C dX2_memberOfUnion_79 rfl ?_
        refine g_iload_n C dX2_memberOfUnion_81 rfl rfl ?_
        refine g_icmp_ne C 88 dX2_memberOfUnion_82 (by decide) (fun c82 => ?_) (fun c82 => ?_)
        · refine g_iinc C (v := (b + 1)) dX2_memberOfUnion_88 rfl (rfl) (by decide) ?_
          refine g_iinc C (v := nI (mm + 1)) dX2_memberOfUnion_91 rfl (nI_1 mm) (by decide) ?_
          refine g_goto C 61 dX2_memberOfUnion_94 (by decide) ?_
          exact ih (mm + 1, b + 1) ⟨hlt, by rw [← hinv]; simp [muG, ub, c76, c82]⟩ (by dsimp only; omega)
        · refine g_iload C dX2_memberOfUnion_85 rfl ?_
          exact g_iret C hr dX2_memberOfUnion_87 (by decide) (by decide) ⟨by rw [← hinv]; simp [muG, ub, c76, c82], rfl⟩
  | cons i r =>
    have hi : i < n := hr2 i List.mem_cons_self
    have hc := hT i hi
    have hla : (ti i).la = r.head? := lk_hd hr1.2
    have hlk' : lk (fun i => (ti i).la) r.head? r := by rw [← hla]; exact hr1.2
    first | refine g_aload C dX2_memberOfUnion_9 rfl ?_ | refine g_aloadN C dX2_memberOfUnion_9 rfl ?_ | refine g_aloadq C dX2_memberOfUnion_9 rfl ?_
    refine g_ifnullR C dX2_memberOfUnion_11 ?_
    first | refine g_aload C dX2_memberOfUnion_14 rfl ?_ | refine g_aloadN C dX2_memberOfUnion_14 rfl ?_ | refine g_aloadq C dX2_memberOfUnion_14 rfl ?_
    refine g_iload_n C dX2_memberOfUnion_16 rfl rfl ?_
    refine g_iconst C (v := 2) dX2_memberOfUnion_17 (by decide) ?_
    refine g_callVn C _ dX2_memberOfUnion_18 (c_X1_isOfField l G _ _ _ _ _ _ _ _ _ _ _ _ _ _ _ hc) kmX2_209 ki_X1_isOfField kv_X1_isOfField kn_X1 kc_X1_isOfField hy_X1_isOfField ⟨by decide, by decide⟩ hc rfl rfl (Nat.le_of_ble_eq_true rfl) ⟨by decide, by decide⟩ (fun v w1 hp => ?_)
    obtain ⟨rfl, hw1⟩ := hp
    have hw1 := hw1.symm
    subst hw1
    refine g_if_eq C 45 dX2_memberOfUnion_21 (by decide) (fun c21 => ?_) (fun c21 => ?_)
    · have c21 := bI_z.mp c21
      first | refine g_aload C dX2_memberOfUnion_45 rfl ?_ | refine g_aloadN C dX2_memberOfUnion_45 rfl ?_ | refine g_aloadq C dX2_memberOfUnion_45 rfl ?_
      refine g_get C dX2_memberOfUnion_47 hc rfl kw_X1 9 (by decide) kfX2_95 rfl rfl ?_
      first | refine g_astore C dX2_memberOfUnion_50 (by decide) ?_ | refine g_astoreN C dX2_memberOfUnion_50 (by decide) ?_ | refine g_astoreq C dX2_memberOfUnion_50 (by decide) ?_
      refine g_goto C 9 dX2_memberOfUnion_52 (by decide) ?_
      have e9 : unS ti d th acc i = acc := by simp [unS, c21]
      rw [hla]
      exact ih (r, acc) ⟨hlk', fun j hj => hr2 j (List.mem_cons_of_mem _ hj), (congrArg (fun q => List.foldl (unS ti d th) q r) e9.symm).trans hinv⟩ (Nat.lt_succ_self _)
    · have c21 := bI_nz.mp c21
      first | refine g_aload C dX2_memberOfUnion_24 rfl ?_ | refine g_aloadN C dX2_memberOfUnion_24 rfl ?_ | refine g_aloadq C dX2_memberOfUnion_24 rfl ?_
      refine g_iload_n C dX2_memberOfUnion_26 rfl rfl ?_
      refine g_callVn C _ dX2_memberOfUnion_27 (c_X1_isKnownAt l G _ _ _ _ _ _ _ _ _ _ _ _ _ _ hc) kmX2_88 ki_X1_isKnownAt kv_X1_isKnownAt kn_X1 kc_X1_isKnownAt hy_X1_isKnownAt ⟨by decide, by decide⟩ hc rfl rfl (Nat.le_of_ble_eq_true rfl) ⟨by decide, by decide⟩ (fun v w1 hp => ?_)
      obtain ⟨rfl, hw1⟩ := hp
      have hw1 := hw1.symm
      subst hw1
      refine g_if_eq C 45 dX2_memberOfUnion_30 (by decide) (fun c30 => ?_) (fun c30 => ?_)
      · have c30 := bI_z.mp c30
        first | refine g_aload C dX2_memberOfUnion_45 rfl ?_ | refine g_aloadN C dX2_memberOfUnion_45 rfl ?_ | refine g_aloadq C dX2_memberOfUnion_45 rfl ?_
        refine g_get C dX2_memberOfUnion_47 hc rfl kw_X1 9 (by decide) kfX2_95 rfl rfl ?_
        first | refine g_astore C dX2_memberOfUnion_50 (by decide) ?_ | refine g_astoreN C dX2_memberOfUnion_50 (by decide) ?_ | refine g_astoreq C dX2_memberOfUnion_50 (by decide) ?_
        refine g_goto C 9 dX2_memberOfUnion_52 (by decide) ?_
        have e9 : unS ti d th acc i = acc := by simp [unS, c21, c30]
        rw [hla]
        exact ih (r, acc) ⟨hlk', fun j hj => hr2 j (List.mem_cons_of_mem _ hj), (congrArg (fun q => List.foldl (unS ti d th) q r) e9.symm).trans hinv⟩ (Nat.lt_succ_self _)
      · have c30 := bI_nz.mp c30
        refine g_iload C dX2_memberOfUnion_33 rfl ?_
        refine g_iconst C (v := 1) dX2_memberOfUnion_35 (by decide) ?_
        first | refine g_aload C dX2_memberOfUnion_36 rfl ?_ | refine g_aloadN C dX2_memberOfUnion_36 rfl ?_ | refine g_aloadq C dX2_memberOfUnion_36 rfl ?_
        refine g_get C dX2_memberOfUnion_38 hc rfl kw_X1 5 (by decide) kfX2_121 rfl rfl ?_
        refine g_ishl C dX2_memberOfUnion_41 ?_
        refine g_ior C dX2_memberOfUnion_42 ?_
        refine g_istore C dX2_memberOfUnion_43 (by decide) ?_
        first | refine g_aload C dX2_memberOfUnion_45 rfl ?_ | refine g_aloadN C dX2_memberOfUnion_45 rfl ?_ | refine g_aloadq C dX2_memberOfUnion_45 rfl ?_
        refine g_get C dX2_memberOfUnion_47 hc rfl kw_X1 9 (by decide) kfX2_95 rfl rfl ?_
        first | refine g_astore C dX2_memberOfUnion_50 (by decide) ?_ | refine g_astoreN C dX2_memberOfUnion_50 (by decide) ?_ | refine g_astoreq C dX2_memberOfUnion_50 (by decide) ?_
        refine g_goto C 9 dX2_memberOfUnion_52 (by decide) ?_
        have e9 : unS ti d th acc i = (acc ||| ((1 : Int32) <<< (nI (ti i).va &&& 31))) := by simp [unS, c21, c30]
        rw [hla]
        exact ih (r, (acc ||| ((1 : Int32) <<< (nI (ti i).va &&& 31)))) ⟨hlk', fun j hj => hr2 j (List.mem_cons_of_mem _ hj), (congrArg (fun q => List.foldl (unS ti d th) q r) e9.symm).trans hinv⟩ (Nat.lt_succ_self _)

