/-! ===== the whole state of the class, and its answers that change nothing ===== -/
def TM (G : hD) (x tl rw ng cx un : Nat) (ad : Nat → Nat) (n : Nat) (ti : Nat → TI) (ch : List Nat) (rl : Nat → List Nat) (gv : Nat → Nat) (f : Nat → Int32) (w : hW) : Prop :=
  w x = some (cellX ad tl rw ng cx ch.head? n) ∧ (∃ tf, w tl = some (eT G 120 tf) ∧ ∀ i, i < n → tf i = some (ad i)) ∧ (∃ rf, w rw = some (eT G 16 rf) ∧ ∀ t, t < 16 → rf t = (rl t).head?.map ad) ∧ (∃ gf, w ng = some (eI G 6 gf) ∧ ∀ d, d < 6 → gf d = nI (gv d)) ∧ w cx = some (eO 0 [.ref un]) ∧ w un = some (eI G 16 f) ∧ tIn w ad n ti ∧ n ≤ 120 ∧ (∀ i ∈ ch, i < n) ∧ lk (fun i => (ti i).la) ch.head? ch ∧ (∀ t, t < 16 → (∀ i ∈ rl t, i < n) ∧ lk (fun i => (ti i).ne) (rl t).head? (rl t))
theorem ok_nI {d : Int32} {N : Nat} (hN : N < 2 ^ 31) (h0 : ¬ d < 0) (h1 : d < nI N) : ∃ j, j < N ∧ d = nI j := isM_of hN h0 h1
def frV (ti : Nat → TI) : Option Nat → Int32
  | none => -1
  | some i => nI (ti i).va
def frI : Option Nat → Int32
  | none => -1
  | some i => nI i
def atV (ti : Nat → TI) (ch : List Nat) (rl : Nat → List Nat) (d th fl k : Int32) : Int32 :=
  if fl = 0 then cond (decide (k = 0)) (ch.foldl (lvSt ti d th) (-1)) (-1) else if fl = 1 then cond (decide (k = 0)) (ch.foldl (smS ti d th) 0) (-1) else if fl = 2 then muG (ch.foldl (unS ti d th) 0) k 32 0 0 else frV ti (frG ti d k 0 (rl th.toNatClampNeg))
def abV (t : TI) (q : Int32) : Int32 := if q = 0 then nI t.st else if q = 1 then nI t.dk else if q = 2 then nI t.so else nI t.va
theorem nI_3 {fl : Int32} (h1 : ¬ 3 < fl) (h2 : fl.toInt < 0 ∨ 2 < fl.toInt) (h0 : ¬ fl < 0) : fl = 3 := by
  rw [Int32.lt_iff_toInt_lt] at h0 h1
  have e0 : (0 : Int32).toInt = 0 := by decide
  have e3 : (3 : Int32).toInt = 3 := by decide
  rw [e0] at h0
  rw [e3] at h1
  exact sw_of (k := 3) (by decide) (by omega)

set_option maxHeartbeats 4000000 in
set_option maxRecDepth 100000 in
theorem c_X2_findMade (l : Launch) (G : hD) (w : hW) (x tl rw ng cx un : Nat) (ad : Nat → Nat) (n : Nat) (ti : Nat → TI) (ch : List Nat) (rl : Nat → List Nat) (gv : Nat → Nat) (f : Nat → Int32) (hM : TM G x tl rw ng cx un ad n ti ch rl gv f w) (t : Int32) : h_Met l yX2_findMade (Cond.code yX2_findMade cX2_findMade 3 (some (.object "TrenchMerge$Telling"))) { frames := 6, cells := 1, slots := 6, locals := 82 } G [.ref x, .int t] w (fun v w' => ∃ j, j < n ∧ t = nI j ∧ v = some (.ref (ad j)) ∧ w' = w) (exc1 (isM n t)) := by
  refine h_met RX2 rfl (by decide) (Nat.le_of_ble_eq_true rfl) (cat_c (by first | rfl | exact rf_cat _) (cat_c (by first | rfl | exact rf_cat _) cat_n)) ?_
  intro p e s m below meth c A C hnt hr hnm
  obtain ⟨hx, ⟨tf, htl, htf⟩, ⟨rf, hrw, hrf⟩, ⟨gf, hng, hgf⟩, hcx, hun, hT, hn, hch, hlk, hrl⟩ := id hM
  refine g_iload_n C dX2_findMade_0 rfl rfl ?_
  refine g_if_lt C 12 dX2_findMade_1 (by decide) (fun c1 => ?_) (fun c1 => ?_)
  · refine g_null C dX2_findMade_12 ?_
    refine g_goto C 22 dX2_findMade_13 (by decide) ?_
    have hno : ¬ isM n t := fun h => (isM_in (by omega) h).1 c1
    first | refine g_astore_n C dX2_findMade_22 rfl (by decide) ?_ | refine g_astore_nN C dX2_findMade_22 rfl (by decide) ?_ | refine g_astore_nq C dX2_findMade_22 rfl (by decide) ?_
    first | refine g_aload_n C dX2_findMade_23 rfl rfl ?_ | refine g_aload_nN C dX2_findMade_23 rfl rfl ?_ | refine g_aload_nq C dX2_findMade_23 rfl rfl ?_
    refine g_ifnonnullN C dX2_findMade_24 ?_
    exact g_throwNS C hnt rfl dX2_findMade_27 dX2_findMade_30 dX2_findMade_31 dX2_findMade_33 dX2_findMade_36 (List.mem_of_getElem? (i := 5) rfl) (by decide) (by decide) (by decide) (by decide) (by decide) (by decide) (⟨rfl, hno⟩) rfl
  · refine g_iload_n C dX2_findMade_4 rfl rfl ?_
    first | refine g_aload_n C dX2_findMade_5 rfl rfl ?_ | refine g_aload_nN C dX2_findMade_5 rfl rfl ?_ | refine g_aload_nq C dX2_findMade_5 rfl rfl ?_
    refine g_get C dX2_findMade_6 hx rfl kw_X2 5 (by decide) kfX2_33 rfl rfl ?_
    refine g_icmp_lt C 16 dX2_findMade_9 (by decide) (fun c9 => ?_) (fun c9 => ?_)
    · obtain ⟨j, hj, rfl⟩ := isM_of (by omega) c1 c9
      first | refine g_aload_n C dX2_findMade_16 rfl rfl ?_ | refine g_aload_nN C dX2_findMade_16 rfl rfl ?_ | refine g_aload_nq C dX2_findMade_16 rfl rfl ?_
      refine g_get C dX2_findMade_17 hx rfl kw_X2 0 (by decide) kfX2_11 rfl rfl ?_
      refine g_iload_n C dX2_findMade_20 rfl rfl ?_
      refine g_aldqN C dX2_findMade_21 htl (Nat.lt_of_lt_of_le hj hn) (by decide) ?_
      rw [htf j hj]
      first | refine g_astore_n C dX2_findMade_22 rfl (by decide) ?_ | refine g_astore_nN C dX2_findMade_22 rfl (by decide) ?_ | refine g_astore_nq C dX2_findMade_22 rfl (by decide) ?_
      first | refine g_aload_n C dX2_findMade_23 rfl rfl ?_ | refine g_aload_nN C dX2_findMade_23 rfl rfl ?_ | refine g_aload_nq C dX2_findMade_23 rfl rfl ?_
      refine g_ifnonnullR C 37 dX2_findMade_24 (by decide) ?_
      first | refine g_aload_n C dX2_findMade_37 rfl rfl ?_ | refine g_aload_nN C dX2_findMade_37 rfl rfl ?_ | refine g_aload_nq C dX2_findMade_37 rfl rfl ?_
      exact g_aret C (r := some (ad j)) hr dX2_findMade_38 (by decide) (by decide) ⟨j, hj, rfl, rfl, rfl⟩
    · refine g_null C dX2_findMade_12 ?_
      refine g_goto C 22 dX2_findMade_13 (by decide) ?_
      have hno : ¬ isM n t := fun h => c9 (isM_in (by omega) h).2
      first | refine g_astore_n C dX2_findMade_22 rfl (by decide) ?_ | refine g_astore_nN C dX2_findMade_22 rfl (by decide) ?_ | refine g_astore_nq C dX2_findMade_22 rfl (by decide) ?_
      first | refine g_aload_n C dX2_findMade_23 rfl rfl ?_ | refine g_aload_nN C dX2_findMade_23 rfl rfl ?_ | refine g_aload_nq C dX2_findMade_23 rfl rfl ?_
      refine g_ifnonnullN C dX2_findMade_24 ?_
      exact g_throwNS C hnt rfl dX2_findMade_27 dX2_findMade_30 dX2_findMade_31 dX2_findMade_33 dX2_findMade_36 (List.mem_of_getElem? (i := 5) rfl) (by decide) (by decide) (by decide) (by decide) (by decide) (by decide) (⟨rfl, hno⟩) rfl

set_option maxHeartbeats 4000000 in
set_option maxRecDepth 100000 in
theorem c_X2_findKnown (l : Launch) (G : hD) (w : hW) (x tl rw ng cx un : Nat) (ad : Nat → Nat) (n : Nat) (ti : Nat → TI) (ch : List Nat) (rl : Nat → List Nat) (gv : Nat → Nat) (f : Nat → Int32) (hM : TM G x tl rw ng cx un ad n ti ch rl gv f w) (d t : Int32) : h_Met l yX2_findKnown (Cond.code yX2_findKnown cX2_findKnown 4 (some (.object "TrenchMerge$Telling"))) { frames := 7, cells := 2, slots := 12, locals := 104 } G [.ref x, .int d, .int t] w (fun v w' => ∃ j, j < n ∧ t = nI j ∧ kb (ti j).kn d = true ∧ v = some (.ref (ad j)) ∧ w' = w) (exc1 (isK ti n d t)) := by
  refine h_met RX2 rfl (by decide) (Nat.le_of_ble_eq_true rfl) (cat_c (by first | rfl | exact rf_cat _) (cat_c (by first | rfl | exact rf_cat _) (cat_c (by first | rfl | exact rf_cat _) cat_n))) ?_
  intro p e s m below meth c A C hnt hr hnm
  obtain ⟨hx, ⟨tf, htl, htf⟩, ⟨rf, hrw, hrf⟩, ⟨gf, hng, hgf⟩, hcx, hun, hT, hn, hch, hlk, hrl⟩ := id hM
  first | refine g_aload_n C dX2_findKnown_0 rfl rfl ?_ | refine g_aload_nN C dX2_findKnown_0 rfl rfl ?_ | refine g_aload_nq C dX2_findKnown_0 rfl rfl ?_
  refine g_iload_n C dX2_findKnown_1 rfl rfl ?_
  refine g_callV C hnt _ dX2_findKnown_2 (c_X2_findMade l G _ _ _ _ _ _ _ _ _ _ _ _ _ _ hM _) kmX2_135 ki_X2_findMade kv_X2_findMade kn_X2 kc_X2_findMade hy_X2_findMade ⟨by decide, by decide⟩ hx rfl rfl (Nat.le_of_ble_eq_true rfl) ⟨by decide, by decide⟩ ⟨by decide, by decide⟩ (fun E hE => ⟨⟨hE.1, fun h => hE.2 (by obtain ⟨j, h1, h2, -⟩ := h; exact ⟨j, h1, h2⟩)⟩, rfl⟩) (fun v w1 hp => ?_)
  obtain ⟨j, hj, rfl, rfl, hw1⟩ := hp
  have hw1 := hw1.symm
  subst hw1
  have hc := hT j hj
  first | refine g_astore_n C dX2_findKnown_5 rfl (by decide) ?_ | refine g_astore_nN C dX2_findKnown_5 rfl (by decide) ?_ | refine g_astore_nq C dX2_findKnown_5 rfl (by decide) ?_
  first | refine g_aload_n C dX2_findKnown_6 rfl rfl ?_ | refine g_aload_nN C dX2_findKnown_6 rfl rfl ?_ | refine g_aload_nq C dX2_findKnown_6 rfl rfl ?_
  refine g_iload_n C dX2_findKnown_7 rfl rfl ?_
  refine g_callVn C _ dX2_findKnown_8 (c_X1_isKnownAt l G _ _ _ _ _ _ _ _ _ _ _ _ _ _ hc) kmX2_88 ki_X1_isKnownAt kv_X1_isKnownAt kn_X1 kc_X1_isKnownAt hy_X1_isKnownAt ⟨by decide, by decide⟩ hc rfl rfl (Nat.le_of_ble_eq_true rfl) ⟨by decide, by decide⟩ (fun v w1 hp => ?_)
  obtain ⟨rfl, hw1⟩ := hp
  have hw1 := hw1.symm
  subst hw1
  refine g_if_ne C 24 dX2_findKnown_11 (by decide) (fun c11 => ?_) (fun c11 => ?_)
  · have c11 := bI_nz.mp c11
    first | refine g_aload_n C dX2_findKnown_24 rfl rfl ?_ | refine g_aload_nN C dX2_findKnown_24 rfl rfl ?_ | refine g_aload_nq C dX2_findKnown_24 rfl rfl ?_
    exact g_aret C (r := some (ad j)) hr dX2_findKnown_25 (by decide) (by decide) ⟨j, hj, rfl, c11, rfl, rfl⟩
  · have c11 := bI_z.mp c11
    exact g_throwNS C hnt rfl dX2_findKnown_14 dX2_findKnown_17 dX2_findKnown_18 dX2_findKnown_20 dX2_findKnown_23 (List.mem_of_getElem? (i := 6) rfl) (by decide) (by decide) (by decide) (by decide) (by decide) (by decide) (⟨rfl, fun h => by obtain ⟨j2, h1, h2, h3⟩ := h; rw [← (nI_eq (by omega) (by omega)).mp h2, c11] at h3; cases h3⟩) rfl

set_option maxHeartbeats 4000000 in
set_option maxRecDepth 100000 in
theorem c_X2_knows (l : Launch) (G : hD) (w : hW) (x tl rw ng cx un : Nat) (ad : Nat → Nat) (n : Nat) (ti : Nat → TI) (ch : List Nat) (rl : Nat → List Nat) (gv : Nat → Nat) (f : Nat → Int32) (hM : TM G x tl rw ng cx un ad n ti ch rl gv f w) (d t : Int32) : h_Met l yX2_knows (Cond.code yX2_knows cX2_knows 3 (some .boolean)) { frames := 7, cells := 2, slots := 12, locals := 104 } G [.ref x, .int d, .int t] w (fun v w' => okD d ∧ (∃ j, j < n ∧ t = nI j ∧ v = some (.int (bI (kb (ti j).kn d)))) ∧ w' = w) (exc1 (okD d ∧ isM n t)) := by
  refine h_met RX2 rfl (by decide) (Nat.le_of_ble_eq_true rfl) (cat_c (by first | rfl | exact rf_cat _) (cat_c (by first | rfl | exact rf_cat _) (cat_c (by first | rfl | exact rf_cat _) cat_n))) ?_
  intro p e s m below meth c A C hnt hr hnm
  obtain ⟨hx, ⟨tf, htl, htf⟩, ⟨rf, hrw, hrf⟩, ⟨gf, hng, hgf⟩, hcx, hun, hT, hn, hch, hlk, hrl⟩ := id hM
  refine g_iload_n C dX2_knows_0 rfl rfl ?_
  refine g_callS C hnt _ dX2_knows_1 (c_X2_requireDesk l G _ _) kmX2_37 ks_X2_requireDesk kn_X2 kc_X2_requireDesk hy_X2_requireDesk ⟨by decide, by decide⟩ rfl (Nat.le_of_ble_eq_true rfl) ⟨by decide, by decide⟩ ⟨by decide, by decide⟩ (fun E hE => ⟨⟨hE.1, fun h => hE.2 h.1⟩, rfl⟩) (fun v w1 hp => ?_)
  obtain ⟨rfl, hw1, hok0⟩ := hp
  have hw1 := hw1.symm
  subst hw1
  first | refine g_aload_n C dX2_knows_4 rfl rfl ?_ | refine g_aload_nN C dX2_knows_4 rfl rfl ?_ | refine g_aload_nq C dX2_knows_4 rfl rfl ?_
  refine g_iload_n C dX2_knows_5 rfl rfl ?_
  refine g_callV C hnt _ dX2_knows_6 (c_X2_findMade l G _ _ _ _ _ _ _ _ _ _ _ _ _ _ hM _) kmX2_135 ki_X2_findMade kv_X2_findMade kn_X2 kc_X2_findMade hy_X2_findMade ⟨by decide, by decide⟩ hx rfl rfl (Nat.le_of_ble_eq_true rfl) ⟨by decide, by decide⟩ ⟨by decide, by decide⟩ (fun E hE => ⟨⟨hE.1, fun h => hE.2 h.2⟩, rfl⟩) (fun v w1 hp => ?_)
  obtain ⟨j, hj, rfl, rfl, hw1⟩ := hp
  have hw1 := hw1.symm
  subst hw1
  have hc := hT j hj
  refine g_iload_n C dX2_knows_9 rfl rfl ?_
  refine g_callVn C _ dX2_knows_10 (c_X1_isKnownAt l G _ _ _ _ _ _ _ _ _ _ _ _ _ _ hc) kmX2_88 ki_X1_isKnownAt kv_X1_isKnownAt kn_X1 kc_X1_isKnownAt hy_X1_isKnownAt ⟨by decide, by decide⟩ hc rfl rfl (Nat.le_of_ble_eq_true rfl) ⟨by decide, by decide⟩ (fun v w1 hp => ?_)
  obtain ⟨rfl, hw1⟩ := hp
  have hw1 := hw1.symm
  subst hw1
  exact g_zret C hr (by cases kb (ti j).kn d <;> rfl) dX2_knows_13 (by decide) (by decide) ⟨hok0, ⟨j, hj, rfl, rfl⟩, rfl⟩

def eqF (ti : Nat → TI) (d1 d2 : Int32) (i : Nat) : Bool := kb (ti i).kn d1 == kb (ti i).kn d2
theorem bI_inj {p q : Bool} : bI p = bI q ↔ p = q := by cases p <;> cases q <;> simp [bI]
set_option maxHeartbeats 4000000 in
set_option maxRecDepth 100000 in
theorem c_X2_equal (l : Launch) (G : hD) (w : hW) (x tl rw ng cx un : Nat) (ad : Nat → Nat) (n : Nat) (ti : Nat → TI) (ch : List Nat) (rl : Nat → List Nat) (gv : Nat → Nat) (f : Nat → Int32) (hM : TM G x tl rw ng cx un ad n ti ch rl gv f w) (d1 d2 : Int32) : h_Met l yX2_equal (Cond.code yX2_equal cX2_equal 4 (some .boolean)) { frames := 7, cells := 2, slots := 12, locals := 102 } G [.ref x, .int d1, .int d2] w (fun v w' => okD d1 ∧ okD d2 ∧ v = some (.int (bI (ch.all (eqF ti d1 d2)))) ∧ w' = w) (exc1 (okD d1 ∧ okD d2)) := by
  refine h_met RX2 rfl (by decide) (Nat.le_of_ble_eq_true rfl) (cat_c (by first | rfl | exact rf_cat _) (cat_c (by first | rfl | exact rf_cat _) (cat_c (by first | rfl | exact rf_cat _) cat_n))) ?_
  intro p e s m below meth c A C hnt hr hnm
  obtain ⟨hx, ⟨tf, htl, htf⟩, ⟨rf, hrw, hrf⟩, ⟨gf, hng, hgf⟩, hcx, hun, hT, hn, hch, hlk, hrl⟩ := id hM
  refine g_iload_n C dX2_equal_0 rfl rfl ?_
  refine g_callS C hnt _ dX2_equal_1 (c_X2_requireDesk l G _ _) kmX2_37 ks_X2_requireDesk kn_X2 kc_X2_requireDesk hy_X2_requireDesk ⟨by decide, by decide⟩ rfl (Nat.le_of_ble_eq_true rfl) ⟨by decide, by decide⟩ ⟨by decide, by decide⟩ (fun E hE => ⟨⟨hE.1, fun h => hE.2 h.1⟩, rfl⟩) (fun v w1 hp => ?_)
  obtain ⟨rfl, hw1, hok0⟩ := hp
  have hw1 := hw1.symm
  subst hw1
  refine g_iload_n C dX2_equal_4 rfl rfl ?_
  refine g_callS C hnt _ dX2_equal_5 (c_X2_requireDesk l G _ _) kmX2_37 ks_X2_requireDesk kn_X2 kc_X2_requireDesk hy_X2_requireDesk ⟨by decide, by decide⟩ rfl (Nat.le_of_ble_eq_true rfl) ⟨by decide, by decide⟩ ⟨by decide, by decide⟩ (fun E hE => ⟨⟨hE.1, fun h => hE.2 h.2⟩, rfl⟩) (fun v w1 hp => ?_)
  obtain ⟨rfl, hw1, hok1⟩ := hp
  have hw1 := hw1.symm
  subst hw1
  first | refine g_aload_n C dX2_equal_8 rfl rfl ?_ | refine g_aload_nN C dX2_equal_8 rfl rfl ?_ | refine g_aload_nq C dX2_equal_8 rfl rfl ?_
  refine g_get C dX2_equal_9 hx rfl kw_X2 4 (by decide) kfX2_29 rfl rfl ?_
  first | refine g_astore_n C dX2_equal_12 rfl (by decide) ?_ | refine g_astore_nN C dX2_equal_12 rfl (by decide) ?_ | refine g_astore_nq C dX2_equal_12 rfl (by decide) ?_
  refine g_loop (σ := List Nat) (fun z => lk (fun i => (ti i).la) z.head? z ∧ (∀ i ∈ z, i < n) ∧ z.all (eqF ti d1 d2) = ch.all (eqF ti d1 d2)) (fun z => z.length) (fun _ => w) (fun z => [(0, .ref x), (1, .int d1), (2, .int d2), (3, va_rf (z.head?.map ad))]) ?_ ch ⟨hlk, hch, rfl⟩
  intro r hI ih
  obtain ⟨hr1, hr2, hinv⟩ := hI
  cases r with
  | nil =>
    first | refine g_aload_n C dX2_equal_13 rfl rfl ?_ | refine g_aload_nN C dX2_equal_13 rfl rfl ?_ | refine g_aload_nq C dX2_equal_13 rfl rfl ?_
    refine g_ifnullN C 40 dX2_equal_14 (by decide) ?_
    refine g_iconst C (v := 1) dX2_equal_40 (by decide) ?_
    exact g_zret C hr rfl dX2_equal_41 (by decide) (by decide) ⟨hok0, hok1, by rw [← hinv]; rfl, rfl⟩
  | cons i r =>
    have hi : i < n := hr2 i List.mem_cons_self
    have hc := hT i hi
    have hla : (ti i).la = r.head? := lk_hd hr1.2
    have hlk' : lk (fun i => (ti i).la) r.head? r := by rw [← hla]; exact hr1.2
    first | refine g_aload_n C dX2_equal_13 rfl rfl ?_ | refine g_aload_nN C dX2_equal_13 rfl rfl ?_ | refine g_aload_nq C dX2_equal_13 rfl rfl ?_
    refine g_ifnullR C dX2_equal_14 ?_
    first | refine g_aload_n C dX2_equal_17 rfl rfl ?_ | refine g_aload_nN C dX2_equal_17 rfl rfl ?_ | refine g_aload_nq C dX2_equal_17 rfl rfl ?_
    refine g_iload_n C dX2_equal_18 rfl rfl ?_
    refine g_callVn C _ dX2_equal_19 (c_X1_isKnownAt l G _ _ _ _ _ _ _ _ _ _ _ _ _ _ hc) kmX2_88 ki_X1_isKnownAt kv_X1_isKnownAt kn_X1 kc_X1_isKnownAt hy_X1_isKnownAt ⟨by decide, by decide⟩ hc rfl rfl (Nat.le_of_ble_eq_true rfl) ⟨by decide, by decide⟩ (fun v w1 hp => ?_)
    obtain ⟨rfl, hw1⟩ := hp
    have hw1 := hw1.symm
    subst hw1
    first | refine g_aload_n C dX2_equal_22 rfl rfl ?_ | refine g_aload_nN C dX2_equal_22 rfl rfl ?_ | refine g_aload_nq C dX2_equal_22 rfl rfl ?_
    refine g_iload_n C dX2_equal_23 rfl rfl ?_
    refine g_callVn C _ dX2_equal_24 (c_X1_isKnownAt l G _ _ _ _ _ _ _ _ _ _ _ _ _ _ hc) kmX2_88 ki_X1_isKnownAt kv_X1_isKnownAt kn_X1 kc_X1_isKnownAt hy_X1_isKnownAt ⟨by decide, by decide⟩ hc rfl rfl (Nat.le_of_ble_eq_true rfl) ⟨by decide, by decide⟩ (fun v w1 hp => ?_)
    obtain ⟨rfl, hw1⟩ := hp
    have hw1 := hw1.symm
    subst hw1
    refine g_icmp_eq C 32 dX2_equal_27 (by decide) (fun c27 => ?_) (fun c27 => ?_)
    · have c27 := bI_inj.mp c27
      first | refine g_aload_n C dX2_equal_32 rfl rfl ?_ | refine g_aload_nN C dX2_equal_32 rfl rfl ?_ | refine g_aload_nq C dX2_equal_32 rfl rfl ?_
      refine g_get C dX2_equal_33 hc rfl kw_X1 9 (by decide) kfX2_95 rfl rfl ?_
      first | refine g_astore_n C dX2_equal_36 rfl (by decide) ?_ | refine g_astore_nN C dX2_equal_36 rfl (by decide) ?_ | refine g_astore_nq C dX2_equal_36 rfl (by decide) ?_
      refine g_goto C 13 dX2_equal_37 (by decide) ?_
      rw [hla]
      exact ih r ⟨hlk', fun j hj => hr2 j (List.mem_cons_of_mem _ hj), by rw [← hinv]; simp [eqF, c27]⟩ (Nat.lt_succ_self _)
    · have c27 := mt bI_inj.mpr c27
      refine g_iconst C (v := 0) dX2_equal_30 (by decide) ?_
      exact g_zret C hr rfl dX2_equal_31 (by decide) (by decide) ⟨hok0, hok1, by rw [← hinv]; have h9 : (kb (ti i).kn d1 == kb (ti i).kn d2) = false := beq_eq_false_iff_ne.mpr c27; simp [eqF, h9, bI], rfl⟩

def exc2 (P1 P2 : Prop) (E : String) : Prop := (E = nNS ∧ ¬ P1) ∨ (E = nIA ∧ P1 ∧ ¬ P2)
theorem nI_03 {q : Int32} (h : q.toInt < 0 ∨ 3 < q.toInt) : ¬ (¬ q < 0 ∧ ¬ 3 < q) := by
  rw [Int32.lt_iff_toInt_lt, Int32.lt_iff_toInt_lt]
  have e0 : (0 : Int32).toInt = 0 := by decide
  have e3 : (3 : Int32).toInt = 3 := by decide
  rw [e0, e3]
  omega
set_option maxHeartbeats 4000000 in
set_option maxRecDepth 100000 in
theorem c_X2_about (l : Launch) (G : hD) (w : hW) (x tl rw ng cx un : Nat) (ad : Nat → Nat) (n : Nat) (ti : Nat → TI) (ch : List Nat) (rl : Nat → List Nat) (gv : Nat → Nat) (f : Nat → Int32) (hM : TM G x tl rw ng cx un ad n ti ch rl gv f w) (d t q : Int32) : h_Met l yX2_about (Cond.code yX2_about cX2_about 5 (some .int)) { frames := 8, cells := 4, slots := 24, locals := 127 } G [.ref x, .int d, .int t, .int q] w (fun v w' => okD d ∧ (¬ q < 0 ∧ ¬ 3 < q) ∧ (∃ j, j < n ∧ t = nI j ∧ kb (ti j).kn d = true ∧ v = some (.int (abV (ti j) q))) ∧ w' = w) (exc2 (okD d ∧ isK ti n d t) (¬ q < 0 ∧ ¬ 3 < q)) := by
  refine h_met RX2 rfl (by decide) (Nat.le_of_ble_eq_true rfl) (cat_c (by first | rfl | exact rf_cat _) (cat_c (by first | rfl | exact rf_cat _) (cat_c (by first | rfl | exact rf_cat _) (cat_c (by first | rfl | exact rf_cat _) cat_n)))) ?_
  intro p e s m below meth c A C hnt hr hnm
  obtain ⟨hx, ⟨tf, htl, htf⟩, ⟨rf, hrw, hrf⟩, ⟨gf, hng, hgf⟩, hcx, hun, hT, hn, hch, hlk, hrl⟩ := id hM
  refine g_iload_n C dX2_about_0 rfl rfl ?_
  refine g_callS C hnt _ dX2_about_1 (c_X2_requireDesk l G _ _) kmX2_37 ks_X2_requireDesk kn_X2 kc_X2_requireDesk hy_X2_requireDesk ⟨by decide, by decide⟩ rfl (Nat.le_of_ble_eq_true rfl) ⟨by decide, by decide⟩ ⟨by decide, by decide⟩ (fun E hE => ⟨Or.inl ⟨hE.1, fun h => hE.2 h.1⟩, rfl⟩) (fun v w1 hp => ?_)
  obtain ⟨rfl, hw1, hok0⟩ := hp
  have hw1 := hw1.symm
  subst hw1
  first | refine g_aload_n C dX2_about_4 rfl rfl ?_ | refine g_aload_nN C dX2_about_4 rfl rfl ?_ | refine g_aload_nq C dX2_about_4 rfl rfl ?_
  refine g_iload_n C dX2_about_5 rfl rfl ?_
  refine g_iload_n C dX2_about_6 rfl rfl ?_
  refine g_callV C hnt _ dX2_about_7 (c_X2_findKnown l G _ _ _ _ _ _ _ _ _ _ _ _ _ _ hM _ _) kmX2_58 ki_X2_findKnown kv_X2_findKnown kn_X2 kc_X2_findKnown hy_X2_findKnown ⟨by decide, by decide⟩ hx rfl rfl (Nat.le_of_ble_eq_true rfl) ⟨by decide, by decide⟩ ⟨by decide, by decide⟩ (fun E hE => ⟨Or.inl ⟨hE.1, fun h => hE.2 h.2⟩, rfl⟩) (fun v w1 hp => ?_)
  obtain ⟨j, hj, rfl, hkj, rfl, hw1⟩ := hp
  have hw1 := hw1.symm
  subst hw1
  have hc := hT j hj
  first | refine g_astore C dX2_about_10 (by decide) ?_ | refine g_astoreN C dX2_about_10 (by decide) ?_ | refine g_astoreq C dX2_about_10 (by decide) ?_
  refine g_iload_n C dX2_about_12 rfl rfl ?_
  rcases sw4 q with rfl | rfl | rfl | rfl | c13
  · refine g_tableIn C 44 dX2_about_13 (by decide) (by decide) rfl (by decide) ?_
    first | refine g_aload C dX2_about_44 rfl ?_ | refine g_aloadN C dX2_about_44 rfl ?_ | refine g_aloadq C dX2_about_44 rfl ?_
    refine g_get C dX2_about_46 hc rfl kw_X1 2 (by decide) kfX2_146 rfl rfl ?_
    exact g_iret C hr dX2_about_49 (by decide) (by decide) ⟨hok0, by decide, ⟨j, hj, rfl, hkj, rfl⟩, rfl⟩
  · refine g_tableIn C 50 dX2_about_13 (by decide) (by decide) rfl (by decide) ?_
    first | refine g_aload C dX2_about_50 rfl ?_ | refine g_aloadN C dX2_about_50 rfl ?_ | refine g_aloadq C dX2_about_50 rfl ?_
    refine g_get C dX2_about_52 hc rfl kw_X1 1 (by decide) kfX2_149 rfl rfl ?_
    exact g_iret C hr dX2_about_55 (by decide) (by decide) ⟨hok0, by decide, ⟨j, hj, rfl, hkj, rfl⟩, rfl⟩
  · refine g_tableIn C 56 dX2_about_13 (by decide) (by decide) rfl (by decide) ?_
    first | refine g_aload C dX2_about_56 rfl ?_ | refine g_aloadN C dX2_about_56 rfl ?_ | refine g_aloadq C dX2_about_56 rfl ?_
    refine g_get C dX2_about_58 hc rfl kw_X1 3 (by decide) kfX2_62 rfl rfl ?_
    exact g_iret C hr dX2_about_61 (by decide) (by decide) ⟨hok0, by decide, ⟨j, hj, rfl, hkj, rfl⟩, rfl⟩
  · refine g_tableIn C 62 dX2_about_13 (by decide) (by decide) rfl (by decide) ?_
    first | refine g_aload C dX2_about_62 rfl ?_ | refine g_aloadN C dX2_about_62 rfl ?_ | refine g_aloadq C dX2_about_62 rfl ?_
    refine g_get C dX2_about_64 hc rfl kw_X1 5 (by decide) kfX2_121 rfl rfl ?_
    exact g_iret C hr dX2_about_67 (by decide) (by decide) ⟨hok0, by decide, ⟨j, hj, rfl, hkj, rfl⟩, rfl⟩
  · refine g_tableOut C 68 dX2_about_13 c13 (by decide) ?_
    exact g_throw C hnt rfl dX2_about_68 dX2_about_71 dX2_about_72 dX2_about_74 dX2_about_77 (by decide +kernel) klX2_68 kn_IllegalArgumentException (List.mem_of_getElem? (i := 13) rfl) ht_IA1 ht_IA2 ht_IA3 (by decide) (by decide) (by decide) (by decide) (by decide) (by decide) (Or.inr ⟨rfl, ⟨hok0, ⟨j, hj, rfl, hkj⟩⟩, nI_03 c13⟩) rfl

def ctV (n : Nat) (ti : Nat → TI) (ch : List Nat) (q : Int32) : Int32 := if q = 0 then nI n else if q = 1 then ch.foldl (cfS ti) 0 else ch.foldl (cuS ti) 0
def exc9 (P2 : Prop) (E : String) : Prop := E = nIA ∧ ¬ P2
theorem nI_02 {q : Int32} (h : q.toInt < 0 ∨ 2 < q.toInt) : ¬ (¬ q < 0 ∧ ¬ 2 < q) := by
  rw [Int32.lt_iff_toInt_lt, Int32.lt_iff_toInt_lt]
  have e0 : (0 : Int32).toInt = 0 := by decide
  have e3 : (2 : Int32).toInt = 2 := by decide
  rw [e0, e3]
  omega
set_option maxHeartbeats 4000000 in
set_option maxRecDepth 100000 in
theorem c_X2_count (l : Launch) (G : hD) (w : hW) (x tl rw ng cx un : Nat) (ad : Nat → Nat) (n : Nat) (ti : Nat → TI) (ch : List Nat) (rl : Nat → List Nat) (gv : Nat → Nat) (f : Nat → Int32) (hM : TM G x tl rw ng cx un ad n ti ch rl gv f w) (q : Int32) : h_Met l yX2_count (Cond.code yX2_count cX2_count 2 (some .int)) { frames := 6, cells := 1, slots := 6, locals := 82 } G [.ref x, .int q] w (fun v w' => (¬ q < 0 ∧ ¬ 2 < q) ∧ v = some (.int (ctV n ti ch q)) ∧ w' = w) (exc9 (¬ q < 0 ∧ ¬ 2 < q)) := by
  refine h_met RX2 rfl (by decide) (Nat.le_of_ble_eq_true rfl) (cat_c (by first | rfl | exact rf_cat _) (cat_c (by first | rfl | exact rf_cat _) cat_n)) ?_
  intro p e s m below meth c A C hnt hr hnm
  obtain ⟨hx, ⟨tf, htl, htf⟩, ⟨rf, hrw, hrf⟩, ⟨gf, hng, hgf⟩, hcx, hun, hT, hn, hch, hlk, hrl⟩ := id hM
  refine g_iload_n C dX2_count_0 rfl rfl ?_
  rcases sw3 q with rfl | rfl | rfl | c1
  · refine g_tableIn C 28 dX2_count_1 (by decide) (by decide) rfl (by decide) ?_
    first | refine g_aload_n C dX2_count_28 rfl rfl ?_ | refine g_aload_nN C dX2_count_28 rfl rfl ?_ | refine g_aload_nq C dX2_count_28 rfl rfl ?_
    refine g_get C dX2_count_29 hx rfl kw_X2 5 (by decide) kfX2_33 rfl rfl ?_
    exact g_iret C hr dX2_count_32 (by decide) (by decide) ⟨by decide, rfl, rfl⟩
  · refine g_tableIn C 33 dX2_count_1 (by decide) (by decide) rfl (by decide) ?_
    first | refine g_aload_n C dX2_count_33 rfl rfl ?_ | refine g_aload_nN C dX2_count_33 rfl rfl ?_ | refine g_aload_nq C dX2_count_33 rfl rfl ?_
    refine g_callVn C _ dX2_count_34 (c_X2_countForgotten l G _ _ _ _ _ _ _ _ _ _ _ hx hT hch hlk) kmX2_154 ki_X2_countForgotten kv_X2_countForgotten kn_X2 kc_X2_countForgotten hy_X2_countForgotten ⟨by decide, by decide⟩ hx rfl rfl (Nat.le_of_ble_eq_true rfl) ⟨by decide, by decide⟩ (fun v w1 hp => ?_)
    obtain ⟨rfl, hw1⟩ := hp
    have hw1 := hw1.symm
    subst hw1
    exact g_iret C hr dX2_count_37 (by decide) (by decide) ⟨by decide, rfl, rfl⟩
  · refine g_tableIn C 38 dX2_count_1 (by decide) (by decide) rfl (by decide) ?_
    first | refine g_aload_n C dX2_count_38 rfl rfl ?_ | refine g_aload_nN C dX2_count_38 rfl rfl ?_ | refine g_aload_nq C dX2_count_38 rfl rfl ?_
    refine g_callVn C _ dX2_count_39 (c_X2_countUnshared l G _ _ _ _ _ _ _ _ _ _ _ hx hT hch hlk) kmX2_158 ki_X2_countUnshared kv_X2_countUnshared kn_X2 kc_X2_countUnshared hy_X2_countUnshared ⟨by decide, by decide⟩ hx rfl rfl (Nat.le_of_ble_eq_true rfl) ⟨by decide, by decide⟩ (fun v w1 hp => ?_)
    obtain ⟨rfl, hw1⟩ := hp
    have hw1 := hw1.symm
    subst hw1
    exact g_iret C hr dX2_count_42 (by decide) (by decide) ⟨by decide, rfl, rfl⟩
  · refine g_tableOut C 43 dX2_count_1 c1 (by decide) ?_
    exact g_throw C hnt rfl dX2_count_43 dX2_count_46 dX2_count_47 dX2_count_49 dX2_count_52 (by decide +kernel) klX2_68 kn_IllegalArgumentException (List.mem_of_getElem? (i := 14) rfl) ht_IA1 ht_IA2 ht_IA3 (by decide) (by decide) (by decide) (by decide) (by decide) (by decide) (⟨rfl, nI_02 c1⟩) rfl

theorem frG_mem {ti : Nat → TI} {d k : Int32} : ∀ {r : List Nat} {b : Int32} {j : Nat}, frG ti d k b r = some j → j ∈ r
  | [], _, _, h => by cases h
  | i :: r, b, j, h => by
    unfold frG at h
    cases h1 : (kb (ti i).kn d && !kb (ti i).en d) with
    | false => rw [h1] at h; exact List.mem_cons_of_mem _ (frG_mem h)
    | true =>
      rw [h1] at h
      cases h2 : decide (b = k) with
      | false => rw [h2] at h; exact List.mem_cons_of_mem _ (frG_mem h)
      | true => rw [h2] at h; cases h; exact List.mem_cons_self
set_option maxHeartbeats 4000000 in
set_option maxRecDepth 100000 in
theorem c_X2_place (l : Launch) (G : hD) (w : hW) (x tl rw ng cx un : Nat) (ad : Nat → Nat) (n : Nat) (ti : Nat → TI) (ch : List Nat) (rl : Nat → List Nat) (gv : Nat → Nat) (f : Nat → Int32) (hM : TM G x tl rw ng cx un ad n ti ch rl gv f w) (d th k : Int32) : h_Met l yX2_place (Cond.code yX2_place cX2_place 5 (some .int)) { frames := 7, cells := 3, slots := 18, locals := 102 } G [.ref x, .int d, .int th, .int k] w (fun v w' => okD d ∧ okT th ∧ ¬ k < 0 ∧ v = some (.int (frI (frG ti d k 0 (rl th.toNatClampNeg)))) ∧ w' = w) (exc1 (okD d ∧ okT th ∧ ¬ k < 0)) := by
  refine h_met RX2 rfl (by decide) (Nat.le_of_ble_eq_true rfl) (cat_c (by first | rfl | exact rf_cat _) (cat_c (by first | rfl | exact rf_cat _) (cat_c (by first | rfl | exact rf_cat _) (cat_c (by first | rfl | exact rf_cat _) cat_n)))) ?_
  intro p e s m below meth c A C hnt hr hnm
  obtain ⟨hx, ⟨tf, htl, htf⟩, ⟨rf, hrw, hrf⟩, ⟨gf, hng, hgf⟩, hcx, hun, hT, hn, hch, hlk, hrl⟩ := id hM
  refine g_iload_n C dX2_place_0 rfl rfl ?_
  refine g_callS C hnt _ dX2_place_1 (c_X2_requireDesk l G _ _) kmX2_37 ks_X2_requireDesk kn_X2 kc_X2_requireDesk hy_X2_requireDesk ⟨by decide, by decide⟩ rfl (Nat.le_of_ble_eq_true rfl) ⟨by decide, by decide⟩ ⟨by decide, by decide⟩ (fun E hE => ⟨⟨hE.1, fun h => hE.2 h.1⟩, rfl⟩) (fun v w1 hp => ?_)
  obtain ⟨rfl, hw1, hok0⟩ := hp
  have hw1 := hw1.symm
  subst hw1
  refine g_iload_n C dX2_place_4 rfl rfl ?_
  refine g_callS C hnt _ dX2_place_5 (c_X2_requireThing l G _ _) kmX2_41 ks_X2_requireThing kn_X2 kc_X2_requireThing hy_X2_requireThing ⟨by decide, by decide⟩ rfl (Nat.le_of_ble_eq_true rfl) ⟨by decide, by decide⟩ ⟨by decide, by decide⟩ (fun E hE => ⟨⟨hE.1, fun h => hE.2 h.2.1⟩, rfl⟩) (fun v w1 hp => ?_)
  obtain ⟨rfl, hw1, hok1⟩ := hp
  have hw1 := hw1.symm
  subst hw1
  refine g_iload_n C dX2_place_8 rfl rfl ?_
  refine g_callS C hnt _ dX2_place_9 (c_X2_requireOrdinal l G _ _) kmX2_103 ks_X2_requireOrdinal kn_X2 kc_X2_requireOrdinal hy_X2_requireOrdinal ⟨by decide, by decide⟩ rfl (Nat.le_of_ble_eq_true rfl) ⟨by decide, by decide⟩ ⟨by decide, by decide⟩ (fun E hE => ⟨⟨hE.1, fun h => hE.2 h.2.2⟩, rfl⟩) (fun v w1 hp => ?_)
  obtain ⟨rfl, hw1, hok2⟩ := hp
  have hw1 := hw1.symm
  subst hw1
  obtain ⟨t, ht, rfl⟩ := ok_nI (N := 16) (by decide) hok1.1 hok1.2
  first | refine g_aload_n C dX2_place_12 rfl rfl ?_ | refine g_aload_nN C dX2_place_12 rfl rfl ?_ | refine g_aload_nq C dX2_place_12 rfl rfl ?_
  refine g_iload_n C dX2_place_13 rfl rfl ?_
  refine g_iload_n C dX2_place_14 rfl rfl ?_
  refine g_iload_n C dX2_place_15 rfl rfl ?_
  refine g_callVn C _ dX2_place_16 (c_X2_findInRow l G _ _ _ _ _ _ _ _ _ _ _ _ (rl t) t hx hT hrw ht (hrf t ht) (hrl t ht).1 (hrl t ht).2 _ _) kmX2_117 ki_X2_findInRow kv_X2_findInRow kn_X2 kc_X2_findInRow hy_X2_findInRow ⟨by decide, by decide⟩ hx rfl rfl (Nat.le_of_ble_eq_true rfl) ⟨by decide, by decide⟩ (fun v w1 hp => ?_)
  obtain ⟨rfl, hw1⟩ := hp
  have hw1 := hw1.symm
  subst hw1
  cases hfr : frG ti d k 0 (rl t) with
  | none =>
    first | refine g_astore C dX2_place_19 (by decide) ?_ | refine g_astoreN C dX2_place_19 (by decide) ?_ | refine g_astoreq C dX2_place_19 (by decide) ?_
    first | refine g_aload C dX2_place_21 rfl ?_ | refine g_aloadN C dX2_place_21 rfl ?_ | refine g_aloadq C dX2_place_21 rfl ?_
    refine g_ifnonnullN C dX2_place_23 ?_
    refine g_iconst C (v := (-1)) dX2_place_26 (by decide) ?_
    refine g_goto C 35 dX2_place_27 (by decide) ?_
    exact g_iret C hr dX2_place_35 (by decide) (by decide) ⟨hok0, hok1, hok2, by rw [nI_clamp (by omega), hfr]; rfl, rfl⟩
  | some j =>
    have hj : j < n := (hrl t ht).1 j (frG_mem hfr)
    have hc := hT j hj
    first | refine g_astore C dX2_place_19 (by decide) ?_ | refine g_astoreN C dX2_place_19 (by decide) ?_ | refine g_astoreq C dX2_place_19 (by decide) ?_
    first | refine g_aload C dX2_place_21 rfl ?_ | refine g_aloadN C dX2_place_21 rfl ?_ | refine g_aloadq C dX2_place_21 rfl ?_
    refine g_ifnonnullR C 30 dX2_place_23 (by decide) ?_
    first | refine g_aload C dX2_place_30 rfl ?_ | refine g_aloadN C dX2_place_30 rfl ?_ | refine g_aloadq C dX2_place_30 rfl ?_
    refine g_get C dX2_place_32 hc rfl kw_X1 0 (by decide) kfX2_55 rfl rfl ?_
    exact g_iret C hr dX2_place_35 (by decide) (by decide) ⟨hok0, hok1, hok2, by rw [nI_clamp (by omega), hfr]; rfl, rfl⟩

set_option maxHeartbeats 4000000 in
set_option maxRecDepth 100000 in
theorem c_X2_at (l : Launch) (G : hD) (w : hW) (x tl rw ng cx un : Nat) (ad : Nat → Nat) (n : Nat) (ti : Nat → TI) (ch : List Nat) (rl : Nat → List Nat) (gv : Nat → Nat) (f : Nat → Int32) (hM : TM G x tl rw ng cx un ad n ti ch rl gv f w) (d th fl k : Int32) : h_Met l yX2_at (Cond.code yX2_at cX2_at 6 (some .int)) { frames := 7, cells := 4, slots := 24, locals := 103 } G [.ref x, .int d, .int th, .int fl, .int k] w (fun v w' => (okD d ∧ okT th ∧ (¬ fl < 0 ∧ ¬ 3 < fl) ∧ ¬ k < 0) ∧ v = some (.int (atV ti ch rl d th fl k)) ∧ w' = w) (exc1 (okD d ∧ okT th ∧ (¬ fl < 0 ∧ ¬ 3 < fl) ∧ ¬ k < 0)) := by
  refine h_met RX2 rfl (by decide) (Nat.le_of_ble_eq_true rfl) (cat_c (by first | rfl | exact rf_cat _) (cat_c (by first | rfl | exact rf_cat _) (cat_c (by first | rfl | exact rf_cat _) (cat_c (by first | rfl | exact rf_cat _) (cat_c (by first | rfl | exact rf_cat _) cat_n))))) ?_
  intro p e s m below meth c A C hnt hr hnm
  obtain ⟨hx, ⟨tf, htl, htf⟩, ⟨rf, hrw, hrf⟩, ⟨gf, hng, hgf⟩, hcx, hun, hT, hn, hch, hlk, hrl⟩ := id hM
  refine g_iload_n C dX2_at_0 rfl rfl ?_
  refine g_callS C hnt _ dX2_at_1 (c_X2_requireDesk l G _ _) kmX2_37 ks_X2_requireDesk kn_X2 kc_X2_requireDesk hy_X2_requireDesk ⟨by decide, by decide⟩ rfl (Nat.le_of_ble_eq_true rfl) ⟨by decide, by decide⟩ ⟨by decide, by decide⟩ (fun E hE => ⟨⟨hE.1, fun h => hE.2 h.1⟩, rfl⟩) (fun v w1 hp => ?_)
  obtain ⟨rfl, hw1, hok0⟩ := hp
  have hw1 := hw1.symm
  subst hw1
  refine g_iload_n C dX2_at_4 rfl rfl ?_
  refine g_callS C hnt _ dX2_at_5 (c_X2_requireThing l G _ _) kmX2_41 ks_X2_requireThing kn_X2 kc_X2_requireThing hy_X2_requireThing ⟨by decide, by decide⟩ rfl (Nat.le_of_ble_eq_true rfl) ⟨by decide, by decide⟩ ⟨by decide, by decide⟩ (fun E hE => ⟨⟨hE.1, fun h => hE.2 h.2.1⟩, rfl⟩) (fun v w1 hp => ?_)
  obtain ⟨rfl, hw1, hok1⟩ := hp
  have hw1 := hw1.symm
  subst hw1
  refine g_iload_n C dX2_at_8 rfl rfl ?_
  refine g_iconst C (v := 3) dX2_at_9 (by decide) ?_
  refine g_callS C hnt _ dX2_at_10 (c_X2_requireField l G _ _ _) kmX2_44 ks_X2_requireField kn_X2 kc_X2_requireField hy_X2_requireField ⟨by decide, by decide⟩ rfl (Nat.le_of_ble_eq_true rfl) ⟨by decide, by decide⟩ ⟨by decide, by decide⟩ (fun E hE => ⟨⟨hE.1, fun h => hE.2 h.2.2.1⟩, rfl⟩) (fun v w1 hp => ?_)
  obtain ⟨rfl, hw1, hok2⟩ := hp
  have hw1 := hw1.symm
  subst hw1
  refine g_iload C dX2_at_13 rfl ?_
  refine g_callS C hnt _ dX2_at_15 (c_X2_requireOrdinal l G _ _) kmX2_103 ks_X2_requireOrdinal kn_X2 kc_X2_requireOrdinal hy_X2_requireOrdinal ⟨by decide, by decide⟩ rfl (Nat.le_of_ble_eq_true rfl) ⟨by decide, by decide⟩ ⟨by decide, by decide⟩ (fun E hE => ⟨⟨hE.1, fun h => hE.2 h.2.2.2⟩, rfl⟩) (fun v w1 hp => ?_)
  obtain ⟨rfl, hw1, hok3⟩ := hp
  have hw1 := hw1.symm
  subst hw1
  refine g_iload_n C dX2_at_18 rfl rfl ?_
  rcases sw3 fl with rfl | rfl | rfl | c19
  · refine g_tableIn C 44 dX2_at_19 (by decide) (by decide) rfl (by decide) ?_
    refine g_iload C dX2_at_44 rfl ?_
    refine g_if_ne C 58 dX2_at_46 (by decide) (fun c46 => ?_) (fun c46 => ?_)
    · refine g_iconst C (v := (-1)) dX2_at_58 (by decide) ?_
      exact g_iret C hr dX2_at_59 (by decide) (by decide) ⟨⟨hok0, hok1, hok2, hok3⟩, by simp [atV, c46], rfl⟩
    · first | refine g_aload_n C dX2_at_49 rfl rfl ?_ | refine g_aload_nN C dX2_at_49 rfl rfl ?_ | refine g_aload_nq C dX2_at_49 rfl rfl ?_
      refine g_iload_n C dX2_at_50 rfl rfl ?_
      refine g_iload_n C dX2_at_51 rfl rfl ?_
      refine g_callVn C _ dX2_at_52 (c_X2_latestValue l G _ _ _ _ _ _ _ _ _ _ _ hx hT hch hlk _ _) kmX2_106 ki_X2_latestValue kv_X2_latestValue kn_X2 kc_X2_latestValue hy_X2_latestValue ⟨by decide, by decide⟩ hx rfl rfl (Nat.le_of_ble_eq_true rfl) ⟨by decide, by decide⟩ (fun v w1 hp => ?_)
      obtain ⟨rfl, hw1⟩ := hp
      have hw1 := hw1.symm
      subst hw1
      refine g_goto C 59 dX2_at_55 (by decide) ?_
      exact g_iret C hr dX2_at_59 (by decide) (by decide) ⟨⟨hok0, hok1, hok2, hok3⟩, by simp [atV, c46], rfl⟩
  · refine g_tableIn C 60 dX2_at_19 (by decide) (by decide) rfl (by decide) ?_
    refine g_iload C dX2_at_60 rfl ?_
    refine g_if_ne C 74 dX2_at_62 (by decide) (fun c62 => ?_) (fun c62 => ?_)
    · refine g_iconst C (v := (-1)) dX2_at_74 (by decide) ?_
      exact g_iret C hr dX2_at_75 (by decide) (by decide) ⟨⟨hok0, hok1, hok2, hok3⟩, by simp [atV, c62], rfl⟩
    · first | refine g_aload_n C dX2_at_65 rfl rfl ?_ | refine g_aload_nN C dX2_at_65 rfl rfl ?_ | refine g_aload_nq C dX2_at_65 rfl rfl ?_
      refine g_iload_n C dX2_at_66 rfl rfl ?_
      refine g_iload_n C dX2_at_67 rfl rfl ?_
      refine g_callVn C _ dX2_at_68 (c_X2_sumOfValues l G _ _ _ _ _ _ _ _ _ _ _ hx hT hch hlk _ _) kmX2_110 ki_X2_sumOfValues kv_X2_sumOfValues kn_X2 kc_X2_sumOfValues hy_X2_sumOfValues ⟨by decide, by decide⟩ hx rfl rfl (Nat.le_of_ble_eq_true rfl) ⟨by decide, by decide⟩ (fun v w1 hp => ?_)
      obtain ⟨rfl, hw1⟩ := hp
      have hw1 := hw1.symm
      subst hw1
      refine g_goto C 75 dX2_at_71 (by decide) ?_
      exact g_iret C hr dX2_at_75 (by decide) (by decide) ⟨⟨hok0, hok1, hok2, hok3⟩, by simp [atV, c62], rfl⟩
  · refine g_tableIn C 76 dX2_at_19 (by decide) (by decide) rfl (by decide) ?_
    first | refine g_aload_n C dX2_at_76 rfl rfl ?_ | refine g_aload_nN C dX2_at_76 rfl rfl ?_ | refine g_aload_nq C dX2_at_76 rfl rfl ?_
    refine g_iload_n C dX2_at_77 rfl rfl ?_
    refine g_iload_n C dX2_at_78 rfl rfl ?_
    refine g_iload C dX2_at_79 rfl ?_
    refine g_callVn C _ dX2_at_81 (c_X2_memberOfUnion l G _ _ _ _ _ _ _ _ _ _ _ hx hT hch hlk _ _ _) kmX2_113 ki_X2_memberOfUnion kv_X2_memberOfUnion kn_X2 kc_X2_memberOfUnion hy_X2_memberOfUnion ⟨by decide, by decide⟩ hx rfl rfl (Nat.le_of_ble_eq_true rfl) ⟨by decide, by decide⟩ (fun v w1 hp => ?_)
    obtain ⟨rfl, hw1⟩ := hp
    have hw1 := hw1.symm
    subst hw1
    exact g_iret C hr dX2_at_84 (by decide) (by decide) ⟨⟨hok0, hok1, hok2, hok3⟩, by simp [atV, ], rfl⟩
  · refine g_tableOut C 85 dX2_at_19 c19 (by decide) ?_
    have hf3 := nI_3 hok2.2 c19 hok2.1
    subst hf3
    obtain ⟨t, ht, rfl⟩ := ok_nI (N := 16) (by decide) hok1.1 hok1.2
    first | refine g_aload_n C dX2_at_85 rfl rfl ?_ | refine g_aload_nN C dX2_at_85 rfl rfl ?_ | refine g_aload_nq C dX2_at_85 rfl rfl ?_
    refine g_iload_n C dX2_at_86 rfl rfl ?_
    refine g_iload_n C dX2_at_87 rfl rfl ?_
    refine g_iload C dX2_at_88 rfl ?_
    refine g_callVn C _ dX2_at_90 (c_X2_findInRow l G _ _ _ _ _ _ _ _ _ _ _ _ (rl t) t hx hT hrw ht (hrf t ht) (hrl t ht).1 (hrl t ht).2 _ _) kmX2_117 ki_X2_findInRow kv_X2_findInRow kn_X2 kc_X2_findInRow hy_X2_findInRow ⟨by decide, by decide⟩ hx rfl rfl (Nat.le_of_ble_eq_true rfl) ⟨by decide, by decide⟩ (fun v w1 hp => ?_)
    obtain ⟨rfl, hw1⟩ := hp
    have hw1 := hw1.symm
    subst hw1
    cases hfr : frG ti d k 0 (rl t) with
    | none =>
      first | refine g_astore C dX2_at_93 (by decide) ?_ | refine g_astoreN C dX2_at_93 (by decide) ?_ | refine g_astoreq C dX2_at_93 (by decide) ?_
      first | refine g_aload C dX2_at_95 rfl ?_ | refine g_aloadN C dX2_at_95 rfl ?_ | refine g_aloadq C dX2_at_95 rfl ?_
      refine g_ifnonnullN C dX2_at_97 ?_
      refine g_iconst C (v := (-1)) dX2_at_100 (by decide) ?_
      refine g_goto C 109 dX2_at_101 (by decide) ?_
      exact g_iret C hr dX2_at_109 (by decide) (by decide) ⟨⟨hok0, hok1, hok2, hok3⟩, by simp only [atV]; rw [if_neg (by decide), if_neg (by decide), if_neg (by decide), nI_clamp (by omega), hfr]; rfl, rfl⟩
    | some j =>
      have hj : j < n := (hrl t ht).1 j (frG_mem hfr)
      have hc := hT j hj
      first | refine g_astore C dX2_at_93 (by decide) ?_ | refine g_astoreN C dX2_at_93 (by decide) ?_ | refine g_astoreq C dX2_at_93 (by decide) ?_
      first | refine g_aload C dX2_at_95 rfl ?_ | refine g_aloadN C dX2_at_95 rfl ?_ | refine g_aloadq C dX2_at_95 rfl ?_
      refine g_ifnonnullR C 104 dX2_at_97 (by decide) ?_
      first | refine g_aload C dX2_at_104 rfl ?_ | refine g_aloadN C dX2_at_104 rfl ?_ | refine g_aloadq C dX2_at_104 rfl ?_
      refine g_get C dX2_at_106 hc rfl kw_X1 5 (by decide) kfX2_121 rfl rfl ?_
      exact g_iret C hr dX2_at_109 (by decide) (by decide) ⟨⟨hok0, hok1, hok2, hok3⟩, by simp only [atV]; rw [if_neg (by decide), if_neg (by decide), if_neg (by decide), nI_clamp (by omega), hfr]; rfl, rfl⟩

