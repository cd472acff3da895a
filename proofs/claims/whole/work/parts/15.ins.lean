/-! ===== ends, places, the new object ===== -/
def enT (t : TI) (d : Int32) : TI := (t.dk, t.st, t.so, t.th, t.va, t.kn, kor t.en d, t.op, t.la, t.ne)
/-- the tellings with a fresh one -/
def T3 (ti : Nat → TI) (n : Nat) (t : TI) (lf : Nat → Option Nat) : Nat → TI := fun i => laT (va_up ti n t i) (lf i)

set_option maxHeartbeats 4000000 in
set_option maxRecDepth 100000 in
theorem c_X2_end (l : Launch) (G : hD) (w : hW) (x tl rw ng cx un : Nat) (ad : Nat → Nat) (n : Nat) (ti : Nat → TI) (ch : List Nat) (rl : Nat → List Nat) (gv : Nat → Nat) (f : Nat → Int32) (hM : TM G x tl rw ng cx un ad n ti ch rl gv f w) (hlb : lnkB n ti) (hnd : ch.Nodup) (hso : ∀ i, i < n → (ti i).so ≤ 6) (d t : Int32) (s1 s2 : Nat) (hs1 : s1 ≤ 6) : h_Met l yX2_end (Cond.code yX2_end cX2_end 7 (some .int)) { frames := 8, cells := 4, slots := 35, locals := 127 } G [.ref x, .int d, .int t, .int (nI s1), .int (nI s2)] w (fun r w' => okD d ∧ ∃ j d', j < n ∧ d' < 6 ∧ t = nI j ∧ d = nI d' ∧ kb (ti j).kn d = true ∧ (ti j).so = s1 ∧ n < 120 ∧ r = some (.int (nI n)) ∧ ∃ q lf, w q = none ∧ TM G x tl rw ng cx un (va_up ad n q) (n + 1) (va_up (T3 ti n (frT d' (gsN ti (nI d') ch 0 + 1) s2 (-1) j) lf) j (enT (T3 ti n (frT d' (gsN ti (nI d') ch 0 + 1) s2 (-1) j) lf j) (nI d'))) (insR (va_up ti n (frT d' (gsN ti (nI d') ch 0 + 1) s2 (-1) j)) n ch) rl gv f w' ∧ fr (CD x tl rw ng cx un ad n) w w') (exc3 (okD d ∧ isK ti n d t) (∀ j, t = nI j → j < n → (ti j).so = s1) (n < 120)) := by
  refine h_met RX2 rfl (by decide) (Nat.le_of_ble_eq_true rfl) (cat_c (by first | rfl | exact rf_cat _) (cat_c (by first | rfl | exact rf_cat _) (cat_c (by first | rfl | exact rf_cat _) (cat_c (by first | rfl | exact rf_cat _) (cat_c (by first | rfl | exact rf_cat _) cat_n))))) ?_
  intro p e s m below meth c A C hnt hr hnm
  obtain ⟨hx, ⟨tf, htl, htf⟩, ⟨rf, hrw, hrf⟩, ⟨gf, hng, hgf⟩, hcx, hun, hT, hn, hch, hlk, hrl⟩ := id hM
  refine g_iload_n C dX2_end_0 rfl rfl ?_
  refine g_callS C hnt _ dX2_end_1 (c_X2_requireDesk l G _ _) kmX2_37 ks_X2_requireDesk kn_X2 kc_X2_requireDesk hy_X2_requireDesk ⟨by decide, by decide⟩ rfl (Nat.le_of_ble_eq_true rfl) ⟨by decide, by decide⟩ ⟨by decide, by decide⟩ (fun E hE => ⟨Or.inl ⟨hE.1, fun h => hE.2 h.1⟩, rfl⟩) (fun v w1 hp => ?_)
  obtain ⟨rfl, hw1, hok0⟩ := hp
  have hw1 := hw1.symm
  subst hw1
  first | refine g_aload_n C dX2_end_4 rfl rfl ?_ | refine g_aload_nN C dX2_end_4 rfl rfl ?_ | refine g_aload_nq C dX2_end_4 rfl rfl ?_
  refine g_iload_n C dX2_end_5 rfl rfl ?_
  refine g_iload_n C dX2_end_6 rfl rfl ?_
  refine g_callV C hnt _ dX2_end_7 (c_X2_findKnown l G _ _ _ _ _ _ _ _ _ _ _ _ _ _ hM _ _) kmX2_58 ki_X2_findKnown kv_X2_findKnown kn_X2 kc_X2_findKnown hy_X2_findKnown ⟨by decide, by decide⟩ hx rfl rfl (Nat.le_of_ble_eq_true rfl) ⟨by decide, by decide⟩ ⟨by decide, by decide⟩ (fun E hE => ⟨Or.inl ⟨hE.1, fun h => hE.2 h.2⟩, rfl⟩) (fun v w1 hp => ?_)
  obtain ⟨j, hj, rfl, hkj, rfl, hw1⟩ := hp
  have hw1 := hw1.symm
  subst hw1
  have hc := hT j hj
  first | refine g_astore C dX2_end_10 (by decide) ?_ | refine g_astoreN C dX2_end_10 (by decide) ?_ | refine g_astoreq C dX2_end_10 (by decide) ?_
  first | refine g_aload C dX2_end_12 rfl ?_ | refine g_aloadN C dX2_end_12 rfl ?_ | refine g_aloadq C dX2_end_12 rfl ?_
  refine g_get C dX2_end_14 hc rfl kw_X1 3 (by decide) kfX2_62 rfl rfl ?_
  refine g_iload_n C dX2_end_17 rfl rfl ?_
  refine g_icmp_eq C 31 dX2_end_18 (by decide) (fun c18 => ?_) (fun c18 => ?_)
  · have c18 := (nI_eq (by have := hso j hj; omega) (by omega)).mp c18
    have hso9 : ∀ k, nI j = nI k → k < n → (ti k).so = s1 := fun k hk hkn => by rw [← (nI_eq (by omega) (by omega)).mp hk]; exact c18
    obtain ⟨d', hd', rfl⟩ := ok_nI (N := 6) (by decide) hok0.1 hok0.2
    first | refine g_aload_n C dX2_end_31 rfl rfl ?_ | refine g_aload_nN C dX2_end_31 rfl rfl ?_ | refine g_aload_nq C dX2_end_31 rfl rfl ?_
    refine g_iload_n C dX2_end_32 rfl rfl ?_
    refine g_iload C dX2_end_33 rfl ?_
    refine g_iconst C (v := (-1)) dX2_end_35 (by decide) ?_
    first | refine g_aload C dX2_end_36 rfl ?_ | refine g_aloadN C dX2_end_36 rfl ?_ | refine g_aloadq C dX2_end_36 rfl ?_
    refine g_get C dX2_end_38 hc rfl kw_X1 0 (by decide) kfX2_55 rfl rfl ?_
    refine g_callV C hnt _ dX2_end_41 (c_X2_enter l G _ _ _ _ _ _ _ _ _ _ _ _ _ _ hM d' s2 j (-1) hlb hnd) kmX2_51 ki_X2_enter kv_X2_enter kn_X2 kc_X2_enter hy_X2_enter ⟨by decide, by decide⟩ hx rfl rfl (Nat.le_of_ble_eq_true rfl) ⟨by decide, by decide⟩ ⟨by decide, by decide⟩ (fun E hE => ⟨Or.inr (Or.inr ⟨hE.1, ⟨hok0, ⟨j, hj, rfl, hkj⟩⟩, hso9, hE.2⟩), rfl⟩) (fun v w1 hp => ?_)
    obtain ⟨hn9, q, lf, rfl, hq, hM3, hfr⟩ := hp
    have hcq : w1 q = some (cellT (va_up ad n q) n (laT (va_up ti n (frT d' (gsN ti (nI d') ch 0 + 1) s2 (-1) j) n) (lf n))) := by have h9 := hM3.2.2.2.2.2.2.1 n (Nat.lt_succ_self n); rw [va_up_self] at h9; exact h9
    have hjn : j ≠ n := fun e => absurd hj (by omega)
    have hcj : w1 (ad j) = some (cellT (va_up ad n q) j (T3 ti n (frT d' (gsN ti (nI d') ch 0 + 1) s2 (-1) j) lf j)) := by have h9 := hM3.2.2.2.2.2.2.1 j (Nat.lt_succ_of_lt hj); rw [va_up_ne _ _ hjn] at h9; exact h9
    first | refine g_astore C dX2_end_44 (by decide) ?_ | refine g_astoreN C dX2_end_44 (by decide) ?_ | refine g_astoreq C dX2_end_44 (by decide) ?_
    first | refine g_aload C dX2_end_46 rfl ?_ | refine g_aloadN C dX2_end_46 rfl ?_ | refine g_aloadq C dX2_end_46 rfl ?_
    refine g_iload_n C dX2_end_48 rfl rfl ?_
    refine g_callVn C _ dX2_end_49 (c_X1_endAt l G _ _ _ _ _ _ _ _ _ _ _ _ _ _ hcj) kmX2_197 ki_X1_endAt kv_X1_endAt kn_X1 kc_X1_endAt hy_X1_endAt ⟨by decide, by decide⟩ hcj rfl rfl (Nat.le_of_ble_eq_true rfl) ⟨by decide, by decide⟩ (fun v w1 hp => ?_)
    obtain ⟨rfl, rfl⟩ := hp
    have hqj : q ≠ ad j := fun e => by have h9 := hT j hj; rw [← e, hq] at h9; cases h9
    have hcq2 := (h_up_n (w := w1) (a := ad j) (e := cellT (va_up ad n q) j (enT (T3 ti n (frT d' (gsN ti (nI d') ch 0 + 1) s2 (-1) j) lf j) (nI d'))) hqj).trans hcq
    have hT9 : tIn (h_up w1 (ad j) (cellT (va_up ad n q) j (enT (T3 ti n (frT d' (gsN ti (nI d') ch 0 + 1) s2 (-1) j) lf j) (nI d')))) (va_up ad n q) (n + 1) (va_up (T3 ti n (frT d' (gsN ti (nI d') ch 0 + 1) s2 (-1) j) lf) j (enT (T3 ti n (frT d' (gsN ti (nI d') ch 0 + 1) s2 (-1) j) lf j) (nI d'))) := by have h9 := tIn_up (i := j) hM3.2.2.2.2.2.2.1 (by omega) (Nat.lt_succ_of_lt hj) (enT (T3 ti n (frT d' (gsN ti (nI d') ch 0 + 1) s2 (-1) j) lf j) (nI d')); rw [va_up_ne _ _ hjn] at h9; exact h9
    have hM4 := hM3.chg0 hT9 (fun z hz => h_up_n (by have h9 := hz j (Nat.lt_succ_of_lt hj); rw [va_up_ne _ _ hjn] at h9; exact h9)) (fun i hi => by by_cases e : i = j <;> first | (rw [va_up_ne _ _ e]; rfl) | (rw [e, va_up_self]; rfl)) (fun i hi => by by_cases e : i = j <;> first | (rw [va_up_ne _ _ e]; rfl) | (rw [e, va_up_self]; rfl))
    first | refine g_aload C dX2_end_52 rfl ?_ | refine g_aloadN C dX2_end_52 rfl ?_ | refine g_aloadq C dX2_end_52 rfl ?_
    refine g_get C dX2_end_54 hcq2 rfl kw_X1 0 (by decide) kfX2_55 rfl rfl ?_
    exact g_iret C hr dX2_end_57 (by decide) (by decide) ⟨hok0, j, d', hj, hd', rfl, rfl, hkj, c18, hn9, rfl, q, lf, hq, hM4, fr.up hfr (Or.inr (Or.inr (Or.inr (Or.inr (Or.inr (Or.inr ⟨j, hj, rfl⟩))))))⟩
  · have c18 := mt (nI_eq (a := (ti j).so) (b := s1) (by have := hso j hj; omega) (by omega)).mpr c18
    exact g_throw C hnt rfl dX2_end_21 dX2_end_24 dX2_end_25 dX2_end_27 dX2_end_30 (by decide +kernel) klX2_68 kn_IllegalArgumentException (List.mem_of_getElem? (i := 8) rfl) ht_IA1 ht_IA2 ht_IA3 (by decide) (by decide) (by decide) (by decide) (by decide) (by decide) (Or.inr (Or.inl ⟨rfl, ⟨hok0, ⟨j, hj, rfl, hkj⟩⟩, fun h => c18 (h j rfl hj)⟩)) rfl

set_option maxHeartbeats 4000000 in
set_option maxRecDepth 100000 in
theorem c_X2_remove (l : Launch) (G : hD) (w : hW) (x tl rw ng cx un : Nat) (ad : Nat → Nat) (n : Nat) (ti : Nat → TI) (ch : List Nat) (rl : Nat → List Nat) (gv : Nat → Nat) (f : Nat → Int32) (hM : TM G x tl rw ng cx un ad n ti ch rl gv f w) (hlb : lnkB n ti) (hnd : ch.Nodup) (hso : ∀ i, i < n → (ti i).so ≤ 6) (d t : Int32) : h_Met l yX2_remove (Cond.code yX2_remove cX2_remove 3 (some .int)) { frames := 9, cells := 4, slots := 35, locals := 153 } G [.ref x, .int d, .int t] w (fun r w' => okD d ∧ ∃ j d', j < n ∧ d' < 6 ∧ t = nI j ∧ d = nI d' ∧ kb (ti j).kn d = true ∧ (ti j).so = 3 ∧ n < 120 ∧ r = some (.int (nI n)) ∧ ∃ q lf, w q = none ∧ TM G x tl rw ng cx un (va_up ad n q) (n + 1) (va_up (T3 ti n (frT d' (gsN ti (nI d') ch 0 + 1) 4 (-1) j) lf) j (enT (T3 ti n (frT d' (gsN ti (nI d') ch 0 + 1) 4 (-1) j) lf j) (nI d'))) (insR (va_up ti n (frT d' (gsN ti (nI d') ch 0 + 1) 4 (-1) j)) n ch) rl gv f w' ∧ fr (CD x tl rw ng cx un ad n) w w') (exc3 (okD d ∧ isK ti n d t) (∀ j, t = nI j → j < n → (ti j).so = 3) (n < 120)) := by
  refine h_met RX2 rfl (by decide) (Nat.le_of_ble_eq_true rfl) (cat_c (by first | rfl | exact rf_cat _) (cat_c (by first | rfl | exact rf_cat _) (cat_c (by first | rfl | exact rf_cat _) cat_n))) ?_
  intro p e s m below meth c A C hnt hr hnm
  obtain ⟨hx, ⟨tf, htl, htf⟩, ⟨rf, hrw, hrf⟩, ⟨gf, hng, hgf⟩, hcx, hun, hT, hn, hch, hlk, hrl⟩ := id hM
  first | refine g_aload_n C dX2_remove_0 rfl rfl ?_ | refine g_aload_nN C dX2_remove_0 rfl rfl ?_ | refine g_aload_nq C dX2_remove_0 rfl rfl ?_
  refine g_iload_n C dX2_remove_1 rfl rfl ?_
  refine g_iload_n C dX2_remove_2 rfl rfl ?_
  refine g_iconst C (v := 3) dX2_remove_3 (by decide) ?_
  refine g_iconst C (v := 4) dX2_remove_4 (by decide) ?_
  refine g_callV C hnt _ dX2_remove_5 (c_X2_end l G _ _ _ _ _ _ _ _ _ _ _ _ _ _ hM hlb hnd hso _ _ 3 4 (by decide)) kmX2_79 ki_X2_end kv_X2_end kn_X2 kc_X2_end hy_X2_end ⟨by decide, by decide⟩ hx rfl rfl (Nat.le_of_ble_eq_true rfl) ⟨by decide, by decide⟩ ⟨by decide, by decide⟩ (fun E hE => ⟨hE, rfl⟩) (fun v w1 hp => ?_)
  obtain ⟨hp0, j, d', hj, hd', rfl, rfl, hkj, hs9, hn9, rfl, hrest⟩ := hp
  exact g_iret C hr dX2_remove_8 (by decide) (by decide) ⟨hp0, j, d', hj, hd', rfl, rfl, hkj, hs9, hn9, rfl, hrest⟩

set_option maxHeartbeats 4000000 in
set_option maxRecDepth 100000 in
theorem c_X2_drop (l : Launch) (G : hD) (w : hW) (x tl rw ng cx un : Nat) (ad : Nat → Nat) (n : Nat) (ti : Nat → TI) (ch : List Nat) (rl : Nat → List Nat) (gv : Nat → Nat) (f : Nat → Int32) (hM : TM G x tl rw ng cx un ad n ti ch rl gv f w) (hlb : lnkB n ti) (hnd : ch.Nodup) (hso : ∀ i, i < n → (ti i).so ≤ 6) (d t : Int32) : h_Met l yX2_drop (Cond.code yX2_drop cX2_drop 3 (some .int)) { frames := 9, cells := 4, slots := 35, locals := 153 } G [.ref x, .int d, .int t] w (fun r w' => okD d ∧ ∃ j d', j < n ∧ d' < 6 ∧ t = nI j ∧ d = nI d' ∧ kb (ti j).kn d = true ∧ (ti j).so = 5 ∧ n < 120 ∧ r = some (.int (nI n)) ∧ ∃ q lf, w q = none ∧ TM G x tl rw ng cx un (va_up ad n q) (n + 1) (va_up (T3 ti n (frT d' (gsN ti (nI d') ch 0 + 1) 6 (-1) j) lf) j (enT (T3 ti n (frT d' (gsN ti (nI d') ch 0 + 1) 6 (-1) j) lf j) (nI d'))) (insR (va_up ti n (frT d' (gsN ti (nI d') ch 0 + 1) 6 (-1) j)) n ch) rl gv f w' ∧ fr (CD x tl rw ng cx un ad n) w w') (exc3 (okD d ∧ isK ti n d t) (∀ j, t = nI j → j < n → (ti j).so = 5) (n < 120)) := by
  refine h_met RX2 rfl (by decide) (Nat.le_of_ble_eq_true rfl) (cat_c (by first | rfl | exact rf_cat _) (cat_c (by first | rfl | exact rf_cat _) (cat_c (by first | rfl | exact rf_cat _) cat_n))) ?_
  intro p e s m below meth c A C hnt hr hnm
  obtain ⟨hx, ⟨tf, htl, htf⟩, ⟨rf, hrw, hrf⟩, ⟨gf, hng, hgf⟩, hcx, hun, hT, hn, hch, hlk, hrl⟩ := id hM
  first | refine g_aload_n C dX2_drop_0 rfl rfl ?_ | refine g_aload_nN C dX2_drop_0 rfl rfl ?_ | refine g_aload_nq C dX2_drop_0 rfl rfl ?_
  refine g_iload_n C dX2_drop_1 rfl rfl ?_
  refine g_iload_n C dX2_drop_2 rfl rfl ?_
  refine g_iconst C (v := 5) dX2_drop_3 (by decide) ?_
  refine g_bipush C (v := 6) dX2_drop_4 (by decide) ?_
  refine g_callV C hnt _ dX2_drop_6 (c_X2_end l G _ _ _ _ _ _ _ _ _ _ _ _ _ _ hM hlb hnd hso _ _ 5 6 (by decide)) kmX2_79 ki_X2_end kv_X2_end kn_X2 kc_X2_end hy_X2_end ⟨by decide, by decide⟩ hx rfl rfl (Nat.le_of_ble_eq_true rfl) ⟨by decide, by decide⟩ ⟨by decide, by decide⟩ (fun E hE => ⟨hE, rfl⟩) (fun v w1 hp => ?_)
  obtain ⟨hp0, j, d', hj, hd', rfl, rfl, hkj, hs9, hn9, rfl, hrest⟩ := hp
  exact g_iret C hr dX2_drop_9 (by decide) (by decide) ⟨hp0, j, d', hj, hd', rfl, rfl, hkj, hs9, hn9, rfl, hrest⟩

set_option maxHeartbeats 4000000 in
set_option maxRecDepth 100000 in
theorem c_X2_insert (l : Launch) (G : hD) (w : hW) (x tl rw ng cx un : Nat) (ad : Nat → Nat) (n : Nat) (ti : Nat → TI) (ch : List Nat) (rl : Nat → List Nat) (gv : Nat → Nat) (f : Nat → Int32) (hM : TM G x tl rw ng cx un ad n ti ch rl gv f w) (hlb : lnkB n ti) (hnd : ch.Nodup) (hso : ∀ i, i < n → (ti i).so ≤ 6) (hro : rowsOk rl) (hpl : ∀ i, i < n → (ti i).so = 3 → ∀ t, t < 16 → (ti i).th = nI t → i ∈ rl t) (d th be v : Int32) : h_Met l yX2_insert (Cond.code yX2_insert cX2_insert 7 (some .int)) { frames := 8, cells := 6, slots := 41, locals := 127 } G [.ref x, .int d, .int th, .int be, .int v] w (fun r w' => (okD d ∧ okT th ∧ (be = -1 ∨ isK ti n d be)) ∧ ((be = -1 ∨ ∀ j, be = nI j → j < n → (ti j).so = 3 ∧ (ti j).th = th) ∧ ¬ v < 0 ∧ v < 1000) ∧ n < 120 ∧ r = some (.int (nI n)) ∧ ∃ d' t' v', d' < 6 ∧ t' < 16 ∧ v' < 2 ^ 31 ∧ d = nI d' ∧ th = nI t' ∧ v = nI v' ∧ ∃ (q : Nat) (lf lf2 : Nat → Option Nat) (pre0 r0 : List Nat), w q = none ∧ rl t' = pre0 ++ r0 ∧ ((be = -1 ∧ pre0 = []) ∨ ∃ b p1, b < n ∧ be = nI b ∧ kb (ti b).kn d = true ∧ pre0 = p1 ++ [b]) ∧ (∀ i k, lf2 i = some k → (va_up ti n (frT d' (gsN ti (nI d') ch 0 + 1) 3 (nI t') v') i).ne = some k ∨ k < n + 1) ∧ TM G x tl rw ng cx un (va_up ad n q) (n + 1) (fun i => neT (T3 ti n (frT d' (gsN ti (nI d') ch 0 + 1) 3 (nI t') v') lf i) (lf2 i)) (insR (va_up ti n (frT d' (gsN ti (nI d') ch 0 + 1) 3 (nI t') v')) n ch) (va_up rl t' (pre0 ++ skR (T3 ti n (frT d' (gsN ti (nI d') ch 0 + 1) 3 (nI t') v') lf) n r0)) gv f w' ∧ fr (CD x tl rw ng cx un ad n) w w') (exc3 (okD d ∧ okT th ∧ (be = -1 ∨ isK ti n d be)) ((be = -1 ∨ ∀ j, be = nI j → j < n → (ti j).so = 3 ∧ (ti j).th = th) ∧ ¬ v < 0 ∧ v < 1000) (n < 120)) := by
  refine h_met RX2 rfl (by decide) (Nat.le_of_ble_eq_true rfl) (cat_c (by first | rfl | exact rf_cat _) (cat_c (by first | rfl | exact rf_cat _) (cat_c (by first | rfl | exact rf_cat _) (cat_c (by first | rfl | exact rf_cat _) (cat_c (by first | rfl | exact rf_cat _) cat_n))))) ?_
  intro p e s m below meth c A C hnt hr hnm
  obtain ⟨hx, ⟨tf, htl, htf⟩, ⟨rf, hrw, hrf⟩, ⟨gf, hng, hgf⟩, hcx, hun, hT, hn, hch, hlk, hrl⟩ := id hM
  refine g_iload_n C dX2_insert_0 rfl rfl ?_
  refine g_callS C hnt _ dX2_insert_1 (c_X2_requireDesk l G _ _) kmX2_37 ks_X2_requireDesk kn_X2 kc_X2_requireDesk hy_X2_requireDesk ⟨by decide, by decide⟩ rfl (Nat.le_of_ble_eq_true rfl) ⟨by decide, by decide⟩ ⟨by decide, by decide⟩ (fun E hE => ⟨Or.inl ⟨hE.1, fun h => hE.2 h.1⟩, rfl⟩) (fun v w1 hp => ?_)
  obtain ⟨rfl, hw1, hok0⟩ := hp
  have hw1 := hw1.symm
  subst hw1
  refine g_iload_n C dX2_insert_4 rfl rfl ?_
  refine g_callS C hnt _ dX2_insert_5 (c_X2_requireThing l G _ _) kmX2_41 ks_X2_requireThing kn_X2 kc_X2_requireThing hy_X2_requireThing ⟨by decide, by decide⟩ rfl (Nat.le_of_ble_eq_true rfl) ⟨by decide, by decide⟩ ⟨by decide, by decide⟩ (fun E hE => ⟨Or.inl ⟨hE.1, fun h => hE.2 h.2.1⟩, rfl⟩) (fun v w1 hp => ?_)
  obtain ⟨rfl, hw1, hok1⟩ := hp
  have hw1 := hw1.symm
  subst hw1
  obtain ⟨d', hd', rfl⟩ := ok_nI (N := 6) (by decide) hok0.1 hok0.2
  obtain ⟨t', ht', rfl⟩ := ok_nI (N := 16) (by decide) hok1.1 hok1.2
  refine g_iload_n C dX2_insert_8 rfl rfl ?_
  refine g_iconst C (v := (-1)) dX2_insert_9 (by decide) ?_
  refine g_icmp_ne C 17 dX2_insert_10 (by decide) (fun c10 => ?_) (fun c10 => ?_)
  · first | refine g_aload_n C dX2_insert_17 rfl rfl ?_ | refine g_aload_nN C dX2_insert_17 rfl rfl ?_ | refine g_aload_nq C dX2_insert_17 rfl rfl ?_
    refine g_iload_n C dX2_insert_18 rfl rfl ?_
    refine g_iload_n C dX2_insert_19 rfl rfl ?_
    refine g_callV C hnt _ dX2_insert_20 (c_X2_findKnown l G _ _ _ _ _ _ _ _ _ _ _ _ _ _ hM _ _) kmX2_58 ki_X2_findKnown kv_X2_findKnown kn_X2 kc_X2_findKnown hy_X2_findKnown ⟨by decide, by decide⟩ hx rfl rfl (Nat.le_of_ble_eq_true rfl) ⟨by decide, by decide⟩ ⟨by decide, by decide⟩ (fun E hE => ⟨Or.inl ⟨hE.1, fun h => hE.2 (h.2.2.resolve_left c10)⟩, rfl⟩) (fun v w1 hp => ?_)
    obtain ⟨b, hb, rfl, hkb, rfl, hw1⟩ := hp
    have hw1 := hw1.symm
    subst hw1
    have hc := hT b hb
    first | refine g_astore C dX2_insert_23 (by decide) ?_ | refine g_astoreN C dX2_insert_23 (by decide) ?_ | refine g_astoreq C dX2_insert_23 (by decide) ?_
    first | refine g_aload C dX2_insert_25 rfl ?_ | refine g_aloadN C dX2_insert_25 rfl ?_ | refine g_aloadq C dX2_insert_25 rfl ?_
    refine g_ifnullR C dX2_insert_27 ?_
    first | refine g_aload C dX2_insert_30 rfl ?_ | refine g_aloadN C dX2_insert_30 rfl ?_ | refine g_aloadq C dX2_insert_30 rfl ?_
    refine g_get C dX2_insert_32 hc rfl kw_X1 3 (by decide) kfX2_62 rfl rfl ?_
    refine g_iconst C (v := 3) dX2_insert_35 (by decide) ?_
    refine g_icmp_ne C 48 dX2_insert_36 (by decide) (fun c36 => ?_) (fun c36 => ?_)
    · have c36 := mt (nI_eq (a := (ti b).so) (b := 3) (by have := hso b hb; omega) (by decide)).mpr c36
      exact g_throw C hnt rfl dX2_insert_48 dX2_insert_51 dX2_insert_52 dX2_insert_54 dX2_insert_57 (by decide +kernel) klX2_68 kn_IllegalArgumentException (List.mem_of_getElem? (i := 7) rfl) ht_IA1 ht_IA2 ht_IA3 (by decide) (by decide) (by decide) (by decide) (by decide) (by decide) (Or.inr (Or.inl ⟨rfl, ⟨hok0, hok1, Or.inr ⟨b, hb, rfl, hkb⟩⟩, fun h => by
            rcases h.1 with h9 | h9
            · exact c10 h9
            · exact c36 (h9 b rfl hb).1⟩)) rfl
    · have c36 := (nI_eq (b := 3) (by have := hso b hb; omega) (by decide)).mp c36
      first | refine g_aload C dX2_insert_39 rfl ?_ | refine g_aloadN C dX2_insert_39 rfl ?_ | refine g_aloadq C dX2_insert_39 rfl ?_
      refine g_get C dX2_insert_41 hc rfl kw_X1 4 (by decide) kfX2_65 rfl rfl ?_
      refine g_iload_n C dX2_insert_44 rfl rfl ?_
      refine g_icmp_eq C 58 dX2_insert_45 (by decide) (fun c45 => ?_) (fun c45 => ?_)
      · refine g_iload C dX2_insert_58 rfl ?_
        refine g_sipush C (v := 1000) dX2_insert_60 (by decide) ?_
        refine g_callS C hnt _ dX2_insert_63 (c_X2_requireValue l G _ _ _) kmX2_48 ks_X2_requireValue kn_X2 kc_X2_requireValue hy_X2_requireValue ⟨by decide, by decide⟩ rfl (Nat.le_of_ble_eq_true rfl) ⟨by decide, by decide⟩ ⟨by decide, by decide⟩ (fun E hE => ⟨Or.inr (Or.inl ⟨hE.1, ⟨hok0, hok1, Or.inr ⟨b, hb, rfl, hkb⟩⟩, fun h => hE.2 h.2⟩), rfl⟩) (fun v w1 hp => ?_)
        obtain ⟨rfl, hw1, hok3⟩ := hp
        have hw1 := hw1.symm
        subst hw1
        obtain ⟨v', hv9, rfl⟩ := nI_of hok3.1
        first | refine g_aload_n C dX2_insert_66 rfl rfl ?_ | refine g_aload_nN C dX2_insert_66 rfl rfl ?_ | refine g_aload_nq C dX2_insert_66 rfl rfl ?_
        refine g_iload_n C dX2_insert_67 rfl rfl ?_
        refine g_iconst C (v := 3) dX2_insert_68 (by decide) ?_
        refine g_iload_n C dX2_insert_69 rfl rfl ?_
        refine g_iload C dX2_insert_70 rfl ?_
        refine g_callV C hnt _ dX2_insert_72 (c_X2_enter l G _ _ _ _ _ _ _ _ _ _ _ _ _ _ hM d' 3 v' (nI t') hlb hnd) kmX2_51 ki_X2_enter kv_X2_enter kn_X2 kc_X2_enter hy_X2_enter ⟨by decide, by decide⟩ hx rfl rfl (Nat.le_of_ble_eq_true rfl) ⟨by decide, by decide⟩ ⟨by decide, by decide⟩ (fun E hE => ⟨Or.inr (Or.inr ⟨hE.1, ⟨hok0, hok1, Or.inr ⟨b, hb, rfl, hkb⟩⟩, ⟨Or.inr (fun k hk hkn => by rw [← (nI_eq (by omega) (by omega)).mp hk]; exact ⟨c36, c45⟩), hok3⟩, hE.2⟩), rfl⟩) (fun v w1 hp => ?_)
        obtain ⟨hn9, q, lf, rfl, hq, hM3, hfr⟩ := hp
        have hcq : w1 q = some (cellT (va_up ad n q) n (laT (va_up ti n (frT d' (gsN ti (nI d') ch 0 + 1) 3 (nI t') v') n) (lf n))) := by have h9 := hM3.2.2.2.2.2.2.1 n (Nat.lt_succ_self n); rw [va_up_self] at h9; exact h9
        have hjr9 : ∀ t, t < 16 → n ∉ rl t := fun t ht hm => absurd ((hrl t ht).1 n hm) (Nat.lt_irrefl n)
        obtain ⟨p1, r0, hsp⟩ := List.append_of_mem (hpl b hb c36 t' ht' c45)
        have hPR := c_X2_putInRow l G _ _ _ _ _ _ _ (va_up ad n q) _ _ _ _ _ _ hM3 t' (p1 ++ [b]) r0 n ht' (Nat.lt_succ_self n) hjr9 hro (by rw [hsp]; simp)
        rw [last_app, va_up_self, show Option.map (va_up ad n q) (some b) = some (ad b) from congrArg some (va_up_ne _ _ (fun e => absurd hb (by omega)))] at hPR
        first | refine g_astore C dX2_insert_75 (by decide) ?_ | refine g_astoreN C dX2_insert_75 (by decide) ?_ | refine g_astoreq C dX2_insert_75 (by decide) ?_
        first | refine g_aload_n C dX2_insert_77 rfl rfl ?_ | refine g_aload_nN C dX2_insert_77 rfl rfl ?_ | refine g_aload_nq C dX2_insert_77 rfl rfl ?_
        refine g_iload_n C dX2_insert_78 rfl rfl ?_
        first | refine g_aload C dX2_insert_79 rfl ?_ | refine g_aloadN C dX2_insert_79 rfl ?_ | refine g_aloadq C dX2_insert_79 rfl ?_
        first | refine g_aload C dX2_insert_81 rfl ?_ | refine g_aloadN C dX2_insert_81 rfl ?_ | refine g_aloadq C dX2_insert_81 rfl ?_
        refine g_callVn C _ dX2_insert_83 (hPR) kmX2_75 ki_X2_putInRow kv_X2_putInRow kn_X2 kc_X2_putInRow hy_X2_putInRow ⟨by decide, by decide⟩ hM3.1 rfl rfl (Nat.le_of_ble_eq_true rfl) ⟨by decide, by decide⟩ (fun v w1 hp => ?_)
        obtain ⟨rfl, lf2, hlf2, hM5, hfr2⟩ := hp
        have hcq5 : w1 q = some (cellT (va_up ad n q) n (neT (T3 ti n (frT d' (gsN ti (nI d') ch 0 + 1) 3 (nI t') v') lf n) (lf2 n))) := by have h9 := hM5.2.2.2.2.2.2.1 n (Nat.lt_succ_self n); rw [va_up_self] at h9; exact h9
        first | refine g_aload C dX2_insert_86 rfl ?_ | refine g_aloadN C dX2_insert_86 rfl ?_ | refine g_aloadq C dX2_insert_86 rfl ?_
        refine g_get C dX2_insert_88 hcq5 rfl kw_X1 0 (by decide) kfX2_55 rfl rfl ?_
        exact g_iret C hr dX2_insert_91 (by decide) (by decide) ⟨⟨hok0, hok1, Or.inr ⟨b, hb, rfl, hkb⟩⟩, ⟨Or.inr (fun k hk hkn => by rw [← (nI_eq (by omega) (by omega)).mp hk]; exact ⟨c36, c45⟩), hok3⟩, hn9, rfl, d', t', v', hd', ht', hv9, rfl, rfl, rfl, q, lf, lf2, p1 ++ [b], r0, hq, by rw [hsp]; simp, Or.inr ⟨b, p1, hb, rfl, hkb, rfl⟩, hlf2, hM5, (fun z e hz hw => hfr2 z e (fun hcd => by
          rcases hcd with h9 | h9 | h9 | h9 | h9 | h9 | ⟨i, hi, h9⟩
          · exact hz (Or.inl h9)
          · exact hz (Or.inr (Or.inl h9))
          · exact hz (Or.inr (Or.inr (Or.inl h9)))
          · exact hz (Or.inr (Or.inr (Or.inr (Or.inl h9))))
          · exact hz (Or.inr (Or.inr (Or.inr (Or.inr (Or.inl h9)))))
          · exact hz (Or.inr (Or.inr (Or.inr (Or.inr (Or.inr (Or.inl h9))))))
          · by_cases hin : i = n
            · subst hin; rw [va_up_self] at h9; rw [h9, hq] at hw; cases hw
            · rw [va_up_ne _ _ hin] at h9; exact hz (Or.inr (Or.inr (Or.inr (Or.inr (Or.inr (Or.inr ⟨i, by omega, h9⟩))))))) (hfr z e hz hw))⟩
      · exact g_throw C hnt rfl dX2_insert_48 dX2_insert_51 dX2_insert_52 dX2_insert_54 dX2_insert_57 (by decide +kernel) klX2_68 kn_IllegalArgumentException (List.mem_of_getElem? (i := 7) rfl) ht_IA1 ht_IA2 ht_IA3 (by decide) (by decide) (by decide) (by decide) (by decide) (by decide) (Or.inr (Or.inl ⟨rfl, ⟨hok0, hok1, Or.inr ⟨b, hb, rfl, hkb⟩⟩, fun h => by
            rcases h.1 with h9 | h9
            · exact c10 h9
            · exact c45 (h9 b rfl hb).2⟩)) rfl
  · refine g_null C dX2_insert_13 ?_
    refine g_goto C 23 dX2_insert_14 (by decide) ?_
    subst c10
    first | refine g_astore C dX2_insert_23 (by decide) ?_ | refine g_astoreN C dX2_insert_23 (by decide) ?_ | refine g_astoreq C dX2_insert_23 (by decide) ?_
    first | refine g_aload C dX2_insert_25 rfl ?_ | refine g_aloadN C dX2_insert_25 rfl ?_ | refine g_aloadq C dX2_insert_25 rfl ?_
    refine g_ifnullN C 58 dX2_insert_27 (by decide) ?_
    refine g_iload C dX2_insert_58 rfl ?_
    refine g_sipush C (v := 1000) dX2_insert_60 (by decide) ?_
    refine g_callS C hnt _ dX2_insert_63 (c_X2_requireValue l G _ _ _) kmX2_48 ks_X2_requireValue kn_X2 kc_X2_requireValue hy_X2_requireValue ⟨by decide, by decide⟩ rfl (Nat.le_of_ble_eq_true rfl) ⟨by decide, by decide⟩ ⟨by decide, by decide⟩ (fun E hE => ⟨Or.inr (Or.inl ⟨hE.1, ⟨hok0, hok1, Or.inl rfl⟩, fun h => hE.2 h.2⟩), rfl⟩) (fun v w1 hp => ?_)
    obtain ⟨rfl, hw1, hok3⟩ := hp
    have hw1 := hw1.symm
    subst hw1
    obtain ⟨v', hv9, rfl⟩ := nI_of hok3.1
    first | refine g_aload_n C dX2_insert_66 rfl rfl ?_ | refine g_aload_nN C dX2_insert_66 rfl rfl ?_ | refine g_aload_nq C dX2_insert_66 rfl rfl ?_
    refine g_iload_n C dX2_insert_67 rfl rfl ?_
    refine g_iconst C (v := 3) dX2_insert_68 (by decide) ?_
    refine g_iload_n C dX2_insert_69 rfl rfl ?_
    refine g_iload C dX2_insert_70 rfl ?_
    refine g_callV C hnt _ dX2_insert_72 (c_X2_enter l G _ _ _ _ _ _ _ _ _ _ _ _ _ _ hM d' 3 v' (nI t') hlb hnd) kmX2_51 ki_X2_enter kv_X2_enter kn_X2 kc_X2_enter hy_X2_enter ⟨by decide, by decide⟩ hx rfl rfl (Nat.le_of_ble_eq_true rfl) ⟨by decide, by decide⟩ ⟨by decide, by decide⟩ (fun E hE => ⟨Or.inr (Or.inr ⟨hE.1, ⟨hok0, hok1, Or.inl rfl⟩, ⟨Or.inl rfl, hok3⟩, hE.2⟩), rfl⟩) (fun v w1 hp => ?_)
    obtain ⟨hn9, q, lf, rfl, hq, hM3, hfr⟩ := hp
    have hcq : w1 q = some (cellT (va_up ad n q) n (laT (va_up ti n (frT d' (gsN ti (nI d') ch 0 + 1) 3 (nI t') v') n) (lf n))) := by have h9 := hM3.2.2.2.2.2.2.1 n (Nat.lt_succ_self n); rw [va_up_self] at h9; exact h9
    have hjr9 : ∀ t, t < 16 → n ∉ rl t := fun t ht hm => absurd ((hrl t ht).1 n hm) (Nat.lt_irrefl n)
    have hPR := c_X2_putInRow l G _ _ _ _ _ _ _ (va_up ad n q) _ _ _ _ _ _ hM3 t' [] (rl t') n ht' (Nat.lt_succ_self n) hjr9 hro rfl
    rw [va_up_self] at hPR
    first | refine g_astore C dX2_insert_75 (by decide) ?_ | refine g_astoreN C dX2_insert_75 (by decide) ?_ | refine g_astoreq C dX2_insert_75 (by decide) ?_
    first | refine g_aload_n C dX2_insert_77 rfl rfl ?_ | refine g_aload_nN C dX2_insert_77 rfl rfl ?_ | refine g_aload_nq C dX2_insert_77 rfl rfl ?_
    refine g_iload_n C dX2_insert_78 rfl rfl ?_
    first | refine g_aload C dX2_insert_79 rfl ?_ | refine g_aloadN C dX2_insert_79 rfl ?_ | refine g_aloadq C dX2_insert_79 rfl ?_
    first | refine g_aload C dX2_insert_81 rfl ?_ | refine g_aloadN C dX2_insert_81 rfl ?_ | refine g_aloadq C dX2_insert_81 rfl ?_
    refine g_callVn C _ dX2_insert_83 (hPR) kmX2_75 ki_X2_putInRow kv_X2_putInRow kn_X2 kc_X2_putInRow hy_X2_putInRow ⟨by decide, by decide⟩ hM3.1 rfl rfl (Nat.le_of_ble_eq_true rfl) ⟨by decide, by decide⟩ (fun v w1 hp => ?_)
    obtain ⟨rfl, lf2, hlf2, hM5, hfr2⟩ := hp
    have hcq5 : w1 q = some (cellT (va_up ad n q) n (neT (T3 ti n (frT d' (gsN ti (nI d') ch 0 + 1) 3 (nI t') v') lf n) (lf2 n))) := by have h9 := hM5.2.2.2.2.2.2.1 n (Nat.lt_succ_self n); rw [va_up_self] at h9; exact h9
    first | refine g_aload C dX2_insert_86 rfl ?_ | refine g_aloadN C dX2_insert_86 rfl ?_ | refine g_aloadq C dX2_insert_86 rfl ?_
    refine g_get C dX2_insert_88 hcq5 rfl kw_X1 0 (by decide) kfX2_55 rfl rfl ?_
    exact g_iret C hr dX2_insert_91 (by decide) (by decide) ⟨⟨hok0, hok1, Or.inl rfl⟩, ⟨Or.inl rfl, hok3⟩, hn9, rfl, d', t', v', hd', ht', hv9, rfl, rfl, rfl, q, lf, lf2, [], rl t', hq, rfl, Or.inl ⟨rfl, rfl⟩, hlf2, hM5, (fun z e hz hw => hfr2 z e (fun hcd => by
          rcases hcd with h9 | h9 | h9 | h9 | h9 | h9 | ⟨i, hi, h9⟩
          · exact hz (Or.inl h9)
          · exact hz (Or.inr (Or.inl h9))
          · exact hz (Or.inr (Or.inr (Or.inl h9)))
          · exact hz (Or.inr (Or.inr (Or.inr (Or.inl h9))))
          · exact hz (Or.inr (Or.inr (Or.inr (Or.inr (Or.inl h9)))))
          · exact hz (Or.inr (Or.inr (Or.inr (Or.inr (Or.inr (Or.inl h9))))))
          · by_cases hin : i = n
            · subst hin; rw [va_up_self] at h9; rw [h9, hq] at hw; cases hw
            · rw [va_up_ne _ _ hin] at h9; exact hz (Or.inr (Or.inr (Or.inr (Or.inr (Or.inr (Or.inr ⟨i, by omega, h9⟩))))))) (hfr z e hz hw))⟩

def ti0 : Nat → TI := fun _ => (0, 0, 0, 0, 0, 0, 0, 0, none, none)
theorem up_none {w : hW} {a q : Nat} {e : va_E} (h : h_up w a e q = none) : q ≠ a ∧ w q = none := by
  by_cases hq : q = a
  · rw [hq, h_up_s] at h; cases h
  · exact ⟨hq, by rw [h_up_n hq] at h; exact h⟩
set_option maxHeartbeats 4000000 in
set_option maxRecDepth 100000 in
theorem c_X2_init (l : Launch) (G : hD) (w : hW) (x : Nat) (hx : w x = some (eO 2 [.null, .null, .null, .null, .null, .int 0])) : h_Met l yX2_init (Cond.code yX2_init cX2_init 1 none) { frames := 2, cells := 5, slots := 159, locals := 32 } G [.ref x] w (fun v w' => v = none ∧ ∃ tl rw ng cx un, w tl = none ∧ w rw = none ∧ w ng = none ∧ w cx = none ∧ w un = none ∧ TM G x tl rw ng cx un (fun _ => 0) 0 ti0 [] (fun _ => []) (fun _ => 0) (fun _ => 0) w' ∧ ∀ q e, q ≠ x → w q = some e → w' q = some e) noX := by
  refine h_met RX2 rfl (by decide) (Nat.le_of_ble_eq_true rfl) (cat_c (by first | rfl | exact rf_cat _) cat_n) ?_
  intro p e s m below meth c A C hnt hr hnm
  first | refine g_aload_n C dX2_init_0 rfl rfl ?_ | refine g_aload_nN C dX2_init_0 rfl rfl ?_ | refine g_aload_nq C dX2_init_0 rfl rfl ?_
  refine g_objInit C dX2_init_1 kmX2_3 (by decide) (Nat.le_of_ble_eq_true rfl) ?_
  first | refine g_aload_n C dX2_init_4 rfl rfl ?_ | refine g_aload_nN C dX2_init_4 rfl rfl ?_ | refine g_aload_nq C dX2_init_4 rfl rfl ?_
  refine g_bipush C (v := 120) dX2_init_5 (by decide) ?_
  refine g_newT C (N := 120) dX2_init_7 klX2_9 C.2.2.2.2.2.2.2.2.2.2.2.2.2.2.2 (by decide) (by decide) (by decide) (by decide) (by decide) (fun tl htl => ?_)
  have n1 : tl ≠ x := fun e => by rw [← e, htl] at hx; cases hx
  refine g_putF C dX2_init_10 ((h_up_n (Ne.symm n1)).trans hx) rfl kw_X2 tyX2 tyX2_ok nmX2 0 (by decide) kfX2_11 rfl rfl hnm rfl rfl rfl (Nat.le_of_ble_eq_true rfl) ?_
  first | refine g_aload_n C dX2_init_13 rfl rfl ?_ | refine g_aload_nN C dX2_init_13 rfl rfl ?_ | refine g_aload_nq C dX2_init_13 rfl rfl ?_
  refine g_bipush C (v := 16) dX2_init_14 (by decide) ?_
  refine g_newT C (N := 16) dX2_init_16 klX2_9 C.2.2.2.2.2.2.2.2.2.2.2.2.2.2.2 (by decide) (by decide) (by decide) (by decide) (by decide) (fun rw hrw => ?_)
  have y1 := up_none hrw
  have y2 := up_none y1.2
  have hrw2 := y2.2
  have n2 : rw ≠ x := y1.1
  have n6 : rw ≠ tl := y2.1
  refine g_putF C dX2_init_19 ((h_up_n (Ne.symm n2)).trans (h_up_s _ _ _)) rfl kw_X2 tyX2 tyX2_ok nmX2 1 (by decide) kfX2_15 rfl rfl hnm rfl rfl rfl (Nat.le_of_ble_eq_true rfl) ?_
  first | refine g_aload_n C dX2_init_22 rfl rfl ?_ | refine g_aload_nN C dX2_init_22 rfl rfl ?_ | refine g_aload_nq C dX2_init_22 rfl rfl ?_
  refine g_bipush C (v := 6) dX2_init_23 (by decide) ?_
  refine g_newI C (N := 6) dX2_init_25 ka_int (by decide) (by decide) (by decide) (by decide) (by decide) (fun ng hng => ?_)
  have w1 := up_none hng
  have w2 := up_none w1.2
  have w3 := up_none w2.2
  have w4 := up_none w3.2
  have hng4 := w4.2
  have n3 : ng ≠ x := w1.1
  have n7 : ng ≠ tl := w4.1
  have n10 : ng ≠ rw := w2.1
  refine g_putF C dX2_init_27 ((h_up_n (Ne.symm n3)).trans (h_up_s _ _ _)) rfl kw_X2 tyX2 tyX2_ok nmX2 2 (by decide) kfX2_18 rfl rfl hnm rfl rfl rfl (Nat.le_of_ble_eq_true rfl) ?_
  first | refine g_aload_n C dX2_init_30 rfl rfl ?_ | refine g_aload_nN C dX2_init_30 rfl rfl ?_ | refine g_aload_nq C dX2_init_30 rfl rfl ?_
  refine g_new C (ci := 0) (fs := [.null]) dX2_init_31 rfl kw_X0 tyX0 tyX0_ok klX2_22 kt_X0 kn_X0 (by decide +kernel) (by decide) (by decide) (fun cx hcx => ?_)
  have v1 := up_none hcx
  have v2 := up_none v1.2
  have v3 := up_none v2.2
  have v4 := up_none v3.2
  have v5 := up_none v4.2
  have v6 := up_none v5.2
  have hcx6 := v6.2
  have n4 : cx ≠ x := v1.1
  have n8 : cx ≠ tl := v6.1
  have n11 : cx ≠ rw := v4.1
  have n13 : cx ≠ ng := v2.1
  refine g_dup C dX2_init_34 rfl ?_
  refine g_callI C _ dX2_init_35 (c_X0_init l G _ _ none (h_up_s _ _ _)) kmX2_24 ki_X0_init kn_X0 kc_X0_init rfl hy_X0_init ⟨by decide, by decide⟩ rfl (Nat.le_of_ble_eq_true rfl) ⟨by decide, by decide⟩ (fun v w1 hp => ?_)
  obtain ⟨rfl, un, hun, rfl⟩ := hp
  have u1 := up_none hun
  have u2 := up_none u1.2
  have u3 := up_none u2.2
  have u4 := up_none u3.2
  have u5 := up_none u4.2
  have u6 := up_none u5.2
  have u7 := up_none u6.2
  have hun7 := u7.2
  have n5 : un ≠ x := u2.1
  have n9 : un ≠ tl := u7.1
  have n12 : un ≠ rw := u5.1
  have n14 : un ≠ ng := u3.1
  have n15 : un ≠ cx := u1.1
  refine g_putF C dX2_init_38 ((h_up_n (Ne.symm n4)).trans ((h_up_n (Ne.symm n5)).trans ((h_up_n (Ne.symm n4)).trans (h_up_s _ _ _)))) rfl kw_X2 tyX2 tyX2_ok nmX2 3 (by decide) kfX2_25 rfl rfl hnm rfl rfl rfl (Nat.le_of_ble_eq_true rfl) ?_
  first | refine g_aload_n C dX2_init_41 rfl rfl ?_ | refine g_aload_nN C dX2_init_41 rfl rfl ?_ | refine g_aload_nq C dX2_init_41 rfl rfl ?_
  refine g_null C dX2_init_42 ?_
  refine g_put C dX2_init_43 (h_up_s _ _ _) rfl kw_X2 tyX2 tyX2_ok nmX2 4 (by decide) kfX2_29 rfl rfl rfl rfl (Nat.le_of_ble_eq_true rfl) ?_
  first | refine g_aload_n C dX2_init_46 rfl rfl ?_ | refine g_aload_nN C dX2_init_46 rfl rfl ?_ | refine g_aload_nq C dX2_init_46 rfl rfl ?_
  refine g_iconst C (v := 0) dX2_init_47 (by decide) ?_
  refine g_put C dX2_init_48 (h_up_s _ _ _) rfl kw_X2 tyX2 tyX2_ok nmX2 5 (by decide) kfX2_33 rfl rfl rfl rfl (Nat.le_of_ble_eq_true rfl) ?_
  refine g_vret C hr dX2_init_51 (by decide) (by decide) ⟨rfl, tl, rw, ng, cx, un, htl, hrw2, hng4, hcx6, hun7, ?_, ?_⟩
  · refine ⟨h_up_s _ _ _, ⟨fun _ => none, (by simp [h_up, n1, Ne.symm n1, n2, Ne.symm n2, n3, Ne.symm n3, n4, Ne.symm n4, n5, Ne.symm n5, n6, Ne.symm n6, n7, Ne.symm n7, n8, Ne.symm n8, n9, Ne.symm n9, n10, Ne.symm n10, n11, Ne.symm n11, n12, Ne.symm n12, n13, Ne.symm n13, n14, Ne.symm n14, n15, Ne.symm n15]), fun i hi => absurd hi (Nat.not_lt_zero i)⟩, ⟨fun _ => none, (by simp [h_up, n1, Ne.symm n1, n2, Ne.symm n2, n3, Ne.symm n3, n4, Ne.symm n4, n5, Ne.symm n5, n6, Ne.symm n6, n7, Ne.symm n7, n8, Ne.symm n8, n9, Ne.symm n9, n10, Ne.symm n10, n11, Ne.symm n11, n12, Ne.symm n12, n13, Ne.symm n13, n14, Ne.symm n14, n15, Ne.symm n15]), fun _ _ => rfl⟩, ⟨fun _ => 0, (by simp [h_up, n1, Ne.symm n1, n2, Ne.symm n2, n3, Ne.symm n3, n4, Ne.symm n4, n5, Ne.symm n5, n6, Ne.symm n6, n7, Ne.symm n7, n8, Ne.symm n8, n9, Ne.symm n9, n10, Ne.symm n10, n11, Ne.symm n11, n12, Ne.symm n12, n13, Ne.symm n13, n14, Ne.symm n14, n15, Ne.symm n15]), fun _ _ => rfl⟩, (by simp [h_up, n1, Ne.symm n1, n2, Ne.symm n2, n3, Ne.symm n3, n4, Ne.symm n4, n5, Ne.symm n5, n6, Ne.symm n6, n7, Ne.symm n7, n8, Ne.symm n8, n9, Ne.symm n9, n10, Ne.symm n10, n11, Ne.symm n11, n12, Ne.symm n12, n13, Ne.symm n13, n14, Ne.symm n14, n15, Ne.symm n15]), (by simp [h_up, n1, Ne.symm n1, n2, Ne.symm n2, n3, Ne.symm n3, n4, Ne.symm n4, n5, Ne.symm n5, n6, Ne.symm n6, n7, Ne.symm n7, n8, Ne.symm n8, n9, Ne.symm n9, n10, Ne.symm n10, n11, Ne.symm n11, n12, Ne.symm n12, n13, Ne.symm n13, n14, Ne.symm n14, n15, Ne.symm n15]), fun i hi => absurd hi (Nat.not_lt_zero i), Nat.zero_le _, fun i hi => (by cases hi), rfl, fun t ht => ⟨fun i hi => (by cases hi), rfl⟩⟩
  · intro q e hq hw
    have z : ∀ {b : Nat}, w b = none → q ≠ b := fun hb e9 => by rw [e9, hb] at hw; cases hw
    simp [h_up, hq, z htl, z hrw2, z hng4, z hcx6, z hun7, hw]

