/-! ===== relations: taken one behind the other by rank ===== -/
def opT (t : TI) (b : Bool) : TI := (t.dk, t.st, t.so, t.th, t.va, t.kn, t.en, bI b, t.la, t.ne)
def cnt (ti : Nat → TI) (d : Int32) (i : Nat) : Bool := decide (nI (ti i).so = 5) && (kb (ti i).kn d && !kb (ti i).en d)
/-- the relation would close a ring -/
def trO (ti : Nat → TI) (d : Int32) (f : Nat → Int32) (i : Nat) : Bool := cnt ti d i && kb (f ((ti i).va % 16)) (nI ((ti i).va / 16))
def trN (ti : Nat → TI) (d : Int32) (f : Nat → Int32) (i : Nat) : Nat → Int32 := cond (cnt ti d i && !kb (f ((ti i).va % 16)) (nI ((ti i).va / 16))) (tkF f ((ti i).va / 16) (f ((ti i).va % 16) ||| ((1 : Int32) <<< (nI ((ti i).va % 16) &&& 31))) 16) f
def opB (ti : Nat → TI) (d : Int32) : (Nat → Int32) → List Nat → Nat → Bool
  | _, [], _ => false
  | f, j :: r, i => cond (decide (i = j)) (trO ti d f j) (opB ti d (trN ti d f j) r i)
theorem opB_hd (ti : Nat → TI) (d : Int32) (f : Nat → Int32) (i : Nat) (r : List Nat) : opB ti d f (i :: r) i = trO ti d f i := by simp [opB]
theorem opB_tl {ti : Nat → TI} {d : Int32} {f : Nat → Int32} {i j : Nat} {r : List Nat} (h : j ≠ i) : opB ti d f (i :: r) j = opB ti d (trN ti d f i) r j := by simp [opB, h]
/-- relations tell of two contexts; sorts are small -/
def relOk (n : Nat) (ti : Nat → TI) : Prop := ∀ i, i < n → (ti i).so ≤ 6 ∧ ((ti i).so = 5 → (ti i).va < 256 ∧ (ti i).va / 16 ≠ (ti i).va % 16)

set_option maxHeartbeats 4000000 in
set_option maxRecDepth 100000 in
theorem c_X2_takeRelations (l : Launch) (G : hD) (w : hW) (x tl rw ng cx un : Nat) (ad : Nat → Nat) (n : Nat) (ti : Nat → TI) (ch : List Nat) (rl : Nat → List Nat) (gv : Nat → Nat) (f : Nat → Int32) (hM : TM G x tl rw ng cx un ad n ti ch rl gv f w) (hall : ∀ i, i < n → i ∈ ch) (hnd : ch.Nodup) (hrel : relOk n ti) (d : Int32) : h_Met l yX2_takeRelations (Cond.code yX2_takeRelations cX2_takeRelations 4 none) { frames := 3, cells := 0, slots := 0, locals := 66 } G [.ref x, .int d] w (fun v w' => v = none ∧ ∃ f0 : Nat → Int32, (∀ j, j < 16 → f0 j = 0) ∧ TM G x tl rw ng cx un ad n (fun i => opT (ti i) (opB ti d f0 ch i)) ch rl gv (ch.foldl (trN ti d) f0) w' ∧ fr (CD x tl rw ng cx un ad n) w w') noX := by
  refine h_met RX2 rfl (by decide) (Nat.le_of_ble_eq_true rfl) (cat_c (by first | rfl | exact rf_cat _) (cat_c (by first | rfl | exact rf_cat _) cat_n)) ?_
  intro p e s m below meth c A C hnt hr hnm
  obtain ⟨hx, ⟨tf, htl, htf⟩, ⟨rf, hrw, hrf⟩, ⟨gf, hng, hgf⟩, hcx, hun, hT, hn, hch, hlk, hrl⟩ := id hM
  have ap := hM.apart
  obtain ⟨b1, b2, b3, b4, b5, b6, b7, b8, b9, b10, b11⟩ := hM.apart2
  first | refine g_aload_n C dX2_takeRelations_0 rfl rfl ?_ | refine g_aload_nN C dX2_takeRelations_0 rfl rfl ?_ | refine g_aload_nq C dX2_takeRelations_0 rfl rfl ?_
  refine g_get C dX2_takeRelations_1 hx rfl kw_X2 3 (by decide) kfX2_25 rfl rfl ?_
  refine g_callVn C _ dX2_takeRelations_4 (c_X0_clear l G _ _ _ _ hcx hun) kmX2_212 ki_X0_clear kv_X0_clear kn_X0 kc_X0_clear hy_X0_clear ⟨by decide, by decide⟩ hcx rfl rfl (Nat.le_of_ble_eq_true rfl) ⟨by decide, by decide⟩ (fun v w1 hp => ?_)
  obtain ⟨rfl, f0, hf0, rfl⟩ := hp
  have hx0 : h_up w un (eI G 16 f0) x = some (cellX ad tl rw ng cx ch.head? n) := (h_up_n b5).trans hx
  have hT0 : tIn (h_up w un (eI G 16 f0)) ad n ti := tIn_off hT (fun i hi => (ap i hi).2.2.2.2.2)
  first | refine g_aload_n C dX2_takeRelations_7 rfl rfl ?_ | refine g_aload_nN C dX2_takeRelations_7 rfl rfl ?_ | refine g_aload_nq C dX2_takeRelations_7 rfl rfl ?_
  refine g_get C dX2_takeRelations_8 hx0 rfl kw_X2 4 (by decide) kfX2_29 rfl rfl ?_
  first | refine g_astore_n C dX2_takeRelations_11 rfl (by decide) ?_ | refine g_astore_nN C dX2_takeRelations_11 rfl (by decide) ?_ | refine g_astore_nq C dX2_takeRelations_11 rfl (by decide) ?_
  refine g_loop (σ := List Nat × (Nat → Int32) × hW × (Nat → TI)) (fun z => lk (fun i => (ti i).la) z.1.head? z.1 ∧ (∀ i ∈ z.1, i < n) ∧ LI (h_up w un (eI G 16 z.2.1)) ad n ti (fun i => opT (ti i) (opB ti d f0 ch i)) z.1 z.2.2.1 z.2.2.2 ∧ z.1.foldl (trN ti d) z.2.1 = ch.foldl (trN ti d) f0 ∧ ∀ i ∈ z.1, opB ti d z.2.1 z.1 i = opB ti d f0 ch i) (fun z => z.1.length) (fun z => z.2.2.1) (fun z => [(0, .ref x), (1, .int d), (2, va_rf (z.1.head?.map ad))]) ?_ (ch, f0, h_up w un (eI G 16 f0), ti) ⟨hlk, hch, LI.start hT0 hall hnd, rfl, fun _ _ => rfl⟩
  rintro ⟨r, f, wa, t1⟩ ⟨hr1, hr2, hli, hf, hop⟩ ih
  dsimp only at hr1 hr2 hli hf hop ih ⊢
  cases r with
  | nil =>
    first | refine g_aload_n C dX2_takeRelations_12 rfl rfl ?_ | refine g_aload_nN C dX2_takeRelations_12 rfl rfl ?_ | refine g_aload_nq C dX2_takeRelations_12 rfl rfl ?_
    refine g_ifnullN C 91 dX2_takeRelations_13 (by decide) ?_
    exact g_vret C hr dX2_takeRelations_91 (by decide) (by decide) ⟨rfl, f0, hf0, hM.chg hli.fin (fun q hq => by rw [hli.2.1 q hq, show f = ch.foldl (trN ti d) f0 from hf]) (fun _ _ => rfl) (fun _ _ => rfl), fr_off hli.2.1⟩
  | cons i r =>
    have hi : i < n := hr2 i List.mem_cons_self
    have hc := hli.cell hi
    have hla : (ti i).la = r.head? := lk_hd hr1.2
    have hlk' : lk (fun i => (ti i).la) r.head? r := by rw [← hla]; exact hr1.2
    have hni : i ∉ r := (List.nodup_cons.mp hli.2.2.2.2).1
    have hopi := hop i List.mem_cons_self
    have hx' : wa x = some (cellX ad tl rw ng cx ch.head? n) := by rw [hli.2.1 x (fun j hj => (ap j hj).1), h_up_n b5]; exact hx
    have hcx' : wa cx = some (eO 0 [.ref un]) := by rw [hli.2.1 cx (fun j hj => (ap j hj).2.2.2.2.1), h_up_n b11]; exact hcx
    have hun' : wa un = some (eI G 16 f) := by rw [hli.2.1 un (fun j hj => (ap j hj).2.2.2.2.2), h_up_s]
    first | refine g_aload_n C dX2_takeRelations_12 rfl rfl ?_ | refine g_aload_nN C dX2_takeRelations_12 rfl rfl ?_ | refine g_aload_nq C dX2_takeRelations_12 rfl rfl ?_
    refine g_ifnullR C dX2_takeRelations_13 ?_
    first | refine g_aload_n C dX2_takeRelations_16 rfl rfl ?_ | refine g_aload_nN C dX2_takeRelations_16 rfl rfl ?_ | refine g_aload_nq C dX2_takeRelations_16 rfl rfl ?_
    refine g_get C dX2_takeRelations_17 hc rfl kw_X1 3 (by decide) kfX2_62 rfl rfl ?_
    refine g_iconst C (v := 5) dX2_takeRelations_20 (by decide) ?_
    refine g_icmp_ne C 44 dX2_takeRelations_21 (by decide) (fun c21 => ?_) (fun c21 => ?_)
    · refine g_iconst C (v := 0) dX2_takeRelations_44 (by decide) ?_
      refine g_istore_n C dX2_takeRelations_45 rfl (by decide) ?_
      first | refine g_aload_n C dX2_takeRelations_46 rfl rfl ?_ | refine g_aload_nq C dX2_takeRelations_46 rfl rfl ?_
      refine g_iload_n C dX2_takeRelations_47 rfl rfl ?_
      have hcn : cnt ti d i = false := by simp [cnt, c21]
      have hto : trO ti d f i = false := by simp [trO, hcn]
      have htn : trN ti d f i = f := by simp [trN, hcn]
      refine g_if_eq C 79 dX2_takeRelations_48 (by decide) (fun _ => ?_) (fun c48 => absurd rfl c48)
      refine g_iconst C (v := 0) dX2_takeRelations_79 (by decide) ?_
      refine g_put C dX2_takeRelations_80 hc rfl kw_X1 tyX1 tyX1_ok nmX1 8 (by decide) kfX2_131 rfl rfl rfl rfl (Nat.le_of_ble_eq_true rfl) ?_
      first | refine g_aload_n C dX2_takeRelations_83 rfl rfl ?_ | refine g_aload_nN C dX2_takeRelations_83 rfl rfl ?_ | refine g_aload_nq C dX2_takeRelations_83 rfl rfl ?_
      refine g_get C dX2_takeRelations_84 (h_up_s _ _ _) rfl kw_X1 9 (by decide) kfX2_95 rfl rfl ?_
      first | refine g_astore_n C dX2_takeRelations_87 rfl (by decide) ?_ | refine g_astore_nN C dX2_takeRelations_87 rfl (by decide) ?_ | refine g_astore_nq C dX2_takeRelations_87 rfl (by decide) ?_
      refine g_goto C 12 dX2_takeRelations_88 (by decide) ?_
      refine g_drop [(0, .ref x), (1, .int d), (2, va_rf ((ti i).la.map ad))] _ rfl ?_
      have hFi : opT (ti i) (opB ti d f0 ch i) = opT (ti i) false := by rw [← hopi, opB_hd, hto]
      have hs := ih (r, f, h_up wa (ad i) (cellT ad i (opT (ti i) false)), va_up t1 i (opT (ti i) false)) ⟨hlk', fun j hj => hr2 j (List.mem_cons_of_mem _ hj), by have h9 := hli.step hn hi; rw [hFi] at h9; exact h9, by rw [← hf]; simp only [List.foldl_cons, htn], fun j hj => by rw [← hop j (List.mem_cons_of_mem _ hj), opB_tl (fun e : j = i => hni (by rw [← e]; exact hj)), htn]⟩ (Nat.lt_succ_self _)
      dsimp only at hs
      rw [← hla] at hs
      exact hs
    · first | refine g_aload_n C dX2_takeRelations_24 rfl rfl ?_ | refine g_aload_nN C dX2_takeRelations_24 rfl rfl ?_ | refine g_aload_nq C dX2_takeRelations_24 rfl rfl ?_
      refine g_iload_n C dX2_takeRelations_25 rfl rfl ?_
      refine g_callVn C _ dX2_takeRelations_26 (c_X1_isKnownAt l G _ _ _ _ _ _ _ _ _ _ _ _ _ _ hc) kmX2_88 ki_X1_isKnownAt kv_X1_isKnownAt kn_X1 kc_X1_isKnownAt hy_X1_isKnownAt ⟨by decide, by decide⟩ hc rfl rfl (Nat.le_of_ble_eq_true rfl) ⟨by decide, by decide⟩ (fun v w1 hp => ?_)
      obtain ⟨rfl, hw1⟩ := hp
      have hw1 := hw1.symm
      subst hw1
      refine g_if_eq C 44 dX2_takeRelations_29 (by decide) (fun c29 => ?_) (fun c29 => ?_)
      · have c29 := bI_z.mp c29
        refine g_iconst C (v := 0) dX2_takeRelations_44 (by decide) ?_
        refine g_istore_n C dX2_takeRelations_45 rfl (by decide) ?_
        first | refine g_aload_n C dX2_takeRelations_46 rfl rfl ?_ | refine g_aload_nq C dX2_takeRelations_46 rfl rfl ?_
        refine g_iload_n C dX2_takeRelations_47 rfl rfl ?_
        have hcn : cnt ti d i = false := by simp [cnt, c29]
        have hto : trO ti d f i = false := by simp [trO, hcn]
        have htn : trN ti d f i = f := by simp [trN, hcn]
        refine g_if_eq C 79 dX2_takeRelations_48 (by decide) (fun _ => ?_) (fun c48 => absurd rfl c48)
        refine g_iconst C (v := 0) dX2_takeRelations_79 (by decide) ?_
        refine g_put C dX2_takeRelations_80 hc rfl kw_X1 tyX1 tyX1_ok nmX1 8 (by decide) kfX2_131 rfl rfl rfl rfl (Nat.le_of_ble_eq_true rfl) ?_
        first | refine g_aload_n C dX2_takeRelations_83 rfl rfl ?_ | refine g_aload_nN C dX2_takeRelations_83 rfl rfl ?_ | refine g_aload_nq C dX2_takeRelations_83 rfl rfl ?_
        refine g_get C dX2_takeRelations_84 (h_up_s _ _ _) rfl kw_X1 9 (by decide) kfX2_95 rfl rfl ?_
        first | refine g_astore_n C dX2_takeRelations_87 rfl (by decide) ?_ | refine g_astore_nN C dX2_takeRelations_87 rfl (by decide) ?_ | refine g_astore_nq C dX2_takeRelations_87 rfl (by decide) ?_
        refine g_goto C 12 dX2_takeRelations_88 (by decide) ?_
        refine g_drop [(0, .ref x), (1, .int d), (2, va_rf ((ti i).la.map ad))] _ rfl ?_
        have hFi : opT (ti i) (opB ti d f0 ch i) = opT (ti i) false := by rw [← hopi, opB_hd, hto]
        have hs := ih (r, f, h_up wa (ad i) (cellT ad i (opT (ti i) false)), va_up t1 i (opT (ti i) false)) ⟨hlk', fun j hj => hr2 j (List.mem_cons_of_mem _ hj), by have h9 := hli.step hn hi; rw [hFi] at h9; exact h9, by rw [← hf]; simp only [List.foldl_cons, htn], fun j hj => by rw [← hop j (List.mem_cons_of_mem _ hj), opB_tl (fun e : j = i => hni (by rw [← e]; exact hj)), htn]⟩ (Nat.lt_succ_self _)
        dsimp only at hs
        rw [← hla] at hs
        exact hs
      · have c29 := bI_nz.mp c29
        first | refine g_aload_n C dX2_takeRelations_32 rfl rfl ?_ | refine g_aload_nN C dX2_takeRelations_32 rfl rfl ?_ | refine g_aload_nq C dX2_takeRelations_32 rfl rfl ?_
        refine g_iload_n C dX2_takeRelations_33 rfl rfl ?_
        refine g_callVn C _ dX2_takeRelations_34 (c_X1_isEndedAt l G _ _ _ _ _ _ _ _ _ _ _ _ _ _ hc) kmX2_206 ki_X1_isEndedAt kv_X1_isEndedAt kn_X1 kc_X1_isEndedAt hy_X1_isEndedAt ⟨by decide, by decide⟩ hc rfl rfl (Nat.le_of_ble_eq_true rfl) ⟨by decide, by decide⟩ (fun v w1 hp => ?_)
        obtain ⟨rfl, hw1⟩ := hp
        have hw1 := hw1.symm
        subst hw1
        refine g_if_ne C 44 dX2_takeRelations_37 (by decide) (fun c37 => ?_) (fun c37 => ?_)
        · have c37 := bI_nz.mp c37
          refine g_iconst C (v := 0) dX2_takeRelations_44 (by decide) ?_
          refine g_istore_n C dX2_takeRelations_45 rfl (by decide) ?_
          first | refine g_aload_n C dX2_takeRelations_46 rfl rfl ?_ | refine g_aload_nq C dX2_takeRelations_46 rfl rfl ?_
          refine g_iload_n C dX2_takeRelations_47 rfl rfl ?_
          have hcn : cnt ti d i = false := by simp [cnt, c37]
          have hto : trO ti d f i = false := by simp [trO, hcn]
          have htn : trN ti d f i = f := by simp [trN, hcn]
          refine g_if_eq C 79 dX2_takeRelations_48 (by decide) (fun _ => ?_) (fun c48 => absurd rfl c48)
          refine g_iconst C (v := 0) dX2_takeRelations_79 (by decide) ?_
          refine g_put C dX2_takeRelations_80 hc rfl kw_X1 tyX1 tyX1_ok nmX1 8 (by decide) kfX2_131 rfl rfl rfl rfl (Nat.le_of_ble_eq_true rfl) ?_
          first | refine g_aload_n C dX2_takeRelations_83 rfl rfl ?_ | refine g_aload_nN C dX2_takeRelations_83 rfl rfl ?_ | refine g_aload_nq C dX2_takeRelations_83 rfl rfl ?_
          refine g_get C dX2_takeRelations_84 (h_up_s _ _ _) rfl kw_X1 9 (by decide) kfX2_95 rfl rfl ?_
          first | refine g_astore_n C dX2_takeRelations_87 rfl (by decide) ?_ | refine g_astore_nN C dX2_takeRelations_87 rfl (by decide) ?_ | refine g_astore_nq C dX2_takeRelations_87 rfl (by decide) ?_
          refine g_goto C 12 dX2_takeRelations_88 (by decide) ?_
          refine g_drop [(0, .ref x), (1, .int d), (2, va_rf ((ti i).la.map ad))] _ rfl ?_
          have hFi : opT (ti i) (opB ti d f0 ch i) = opT (ti i) false := by rw [← hopi, opB_hd, hto]
          have hs := ih (r, f, h_up wa (ad i) (cellT ad i (opT (ti i) false)), va_up t1 i (opT (ti i) false)) ⟨hlk', fun j hj => hr2 j (List.mem_cons_of_mem _ hj), by have h9 := hli.step hn hi; rw [hFi] at h9; exact h9, by rw [← hf]; simp only [List.foldl_cons, htn], fun j hj => by rw [← hop j (List.mem_cons_of_mem _ hj), opB_tl (fun e : j = i => hni (by rw [← e]; exact hj)), htn]⟩ (Nat.lt_succ_self _)
          dsimp only at hs
          rw [← hla] at hs
          exact hs
        · have c37 := bI_z.mp c37
          refine g_iconst C (v := 1) dX2_takeRelations_40 (by decide) ?_
          refine g_goto C 45 dX2_takeRelations_41 (by decide) ?_
          refine g_istore_n C dX2_takeRelations_45 rfl (by decide) ?_
          first | refine g_aload_n C dX2_takeRelations_46 rfl rfl ?_ | refine g_aload_nq C dX2_takeRelations_46 rfl rfl ?_
          refine g_iload_n C dX2_takeRelations_47 rfl rfl ?_
          have hcn : cnt ti d i = true := by simp [cnt, c21, c29, c37]
          have hso : (ti i).so = 5 := (nI_eq (b := 5) (by have := (hrel i hi).1; omega) (by decide)).mp c21
          obtain ⟨hva, hab⟩ := (hrel i hi).2 hso
          refine g_if_eq C 79 dX2_takeRelations_48 (by decide) (fun c48 => absurd c48 (by decide)) (fun _ => ?_)
          first | refine g_aload_n C dX2_takeRelations_51 rfl rfl ?_ | refine g_aload_nN C dX2_takeRelations_51 rfl rfl ?_ | refine g_aload_nq C dX2_takeRelations_51 rfl rfl ?_
          refine g_get C dX2_takeRelations_52 hx' rfl kw_X2 3 (by decide) kfX2_25 rfl rfl ?_
          first | refine g_aload_n C dX2_takeRelations_55 rfl rfl ?_ | refine g_aload_nN C dX2_takeRelations_55 rfl rfl ?_ | refine g_aload_nq C dX2_takeRelations_55 rfl rfl ?_
          refine g_get C dX2_takeRelations_56 hc rfl kw_X1 5 (by decide) kfX2_121 rfl rfl ?_
          refine g_bipush C (v := 16) dX2_takeRelations_59 (by decide) ?_
          refine g_idiv C dX2_takeRelations_61 (by decide) ?_
          refine g_eq (y := nI ((ti i).va / 16)) (pk_div (by omega) (by decide) (by decide)) ?_
          first | refine g_aload_n C dX2_takeRelations_62 rfl rfl ?_ | refine g_aload_nN C dX2_takeRelations_62 rfl rfl ?_ | refine g_aload_nq C dX2_takeRelations_62 rfl rfl ?_
          refine g_get C dX2_takeRelations_63 hc rfl kw_X1 5 (by decide) kfX2_121 rfl rfl ?_
          refine g_bipush C (v := 16) dX2_takeRelations_66 (by decide) ?_
          refine g_irem C dX2_takeRelations_68 (by decide) ?_
          refine g_eq (y := nI ((ti i).va % 16)) (pk_rem (by omega) (by decide) (by decide)) ?_
          refine g_callVn C _ dX2_takeRelations_69 (c_X0_take l G _ _ _ _ hcx' hun' _ _ (by omega) (by omega) hab) kmX2_215 ki_X0_take kv_X0_take kn_X0 kc_X0_take hy_X0_take ⟨by decide, by decide⟩ hcx' rfl rfl (Nat.le_of_ble_eq_true rfl) ⟨by decide, by decide⟩ (fun v w1 hp => ?_)
          rcases hp with ⟨ht, rfl, hw1⟩ | ⟨ht, rfl, rfl⟩
          · have hw1 := hw1.symm
            subst hw1
            have hto : trO ti d f i = true := by simp [trO, hcn, ht]
            have htn : trN ti d f i = f := by simp [trN, ht]
            refine g_if_ne C 79 dX2_takeRelations_72 (by decide) (fun c72 => absurd rfl c72) (fun _ => ?_)
            refine g_iconst C (v := 1) dX2_takeRelations_75 (by decide) ?_
            refine g_goto C 80 dX2_takeRelations_76 (by decide) ?_
            refine g_put C dX2_takeRelations_80 hc rfl kw_X1 tyX1 tyX1_ok nmX1 8 (by decide) kfX2_131 rfl rfl rfl rfl (Nat.le_of_ble_eq_true rfl) ?_
            first | refine g_aload_n C dX2_takeRelations_83 rfl rfl ?_ | refine g_aload_nN C dX2_takeRelations_83 rfl rfl ?_ | refine g_aload_nq C dX2_takeRelations_83 rfl rfl ?_
            refine g_get C dX2_takeRelations_84 (h_up_s _ _ _) rfl kw_X1 9 (by decide) kfX2_95 rfl rfl ?_
            first | refine g_astore_n C dX2_takeRelations_87 rfl (by decide) ?_ | refine g_astore_nN C dX2_takeRelations_87 rfl (by decide) ?_ | refine g_astore_nq C dX2_takeRelations_87 rfl (by decide) ?_
            refine g_goto C 12 dX2_takeRelations_88 (by decide) ?_
            refine g_drop [(0, .ref x), (1, .int d), (2, va_rf ((ti i).la.map ad))] _ rfl ?_
            have hFi : opT (ti i) (opB ti d f0 ch i) = opT (ti i) true := by rw [← hopi, opB_hd, hto]
            have hs := ih (r, f, h_up wa (ad i) (cellT ad i (opT (ti i) true)), va_up t1 i (opT (ti i) true)) ⟨hlk', fun j hj => hr2 j (List.mem_cons_of_mem _ hj), by have h9 := hli.step hn hi; rw [hFi] at h9; exact h9, by rw [← hf]; simp only [List.foldl_cons, htn], fun j hj => by rw [← hop j (List.mem_cons_of_mem _ hj), opB_tl (fun e : j = i => hni (by rw [← e]; exact hj)), htn]⟩ (Nat.lt_succ_self _)
            dsimp only at hs
            rw [← hla] at hs
            exact hs
          · have hto : trO ti d f i = false := by simp [trO, ht]
            have htn : trN ti d f i = (tkF f ((ti i).va / 16) (f ((ti i).va % 16) ||| ((1 : Int32) <<< (nI ((ti i).va % 16) &&& 31))) 16) := by simp [trN, hcn, ht]
            have hc2 : h_up wa un (eI G 16 (tkF f ((ti i).va / 16) (f ((ti i).va % 16) ||| ((1 : Int32) <<< (nI ((ti i).va % 16) &&& 31))) 16)) (ad i) = some (cellT ad i (ti i)) := (h_up_n (Ne.symm (ap i hi).2.2.2.2.2)).trans hc
            have hli2 : LI (h_up w un (eI G 16 (tkF f ((ti i).va / 16) (f ((ti i).va % 16) ||| ((1 : Int32) <<< (nI ((ti i).va % 16) &&& 31))) 16))) ad n ti (fun i => opT (ti i) (opB ti d f0 ch i)) (i :: r) (h_up wa un (eI G 16 (tkF f ((ti i).va / 16) (f ((ti i).va % 16) ||| ((1 : Int32) <<< (nI ((ti i).va % 16) &&& 31))) 16))) t1 := by have h9 := hli.other (eI G 16 (tkF f ((ti i).va / 16) (f ((ti i).va % 16) ||| ((1 : Int32) <<< (nI ((ti i).va % 16) &&& 31))) 16)) (b := un) (fun j hj => (ap j hj).2.2.2.2.2); rw [h_up_up] at h9; exact h9
            refine g_if_ne C 79 dX2_takeRelations_72 (by decide) (fun _ => ?_) (fun c72 => absurd c72 (by decide))
            refine g_iconst C (v := 0) dX2_takeRelations_79 (by decide) ?_
            refine g_put C dX2_takeRelations_80 hc2 rfl kw_X1 tyX1 tyX1_ok nmX1 8 (by decide) kfX2_131 rfl rfl rfl rfl (Nat.le_of_ble_eq_true rfl) ?_
            first | refine g_aload_n C dX2_takeRelations_83 rfl rfl ?_ | refine g_aload_nN C dX2_takeRelations_83 rfl rfl ?_ | refine g_aload_nq C dX2_takeRelations_83 rfl rfl ?_
            refine g_get C dX2_takeRelations_84 (h_up_s _ _ _) rfl kw_X1 9 (by decide) kfX2_95 rfl rfl ?_
            first | refine g_astore_n C dX2_takeRelations_87 rfl (by decide) ?_ | refine g_astore_nN C dX2_takeRelations_87 rfl (by decide) ?_ | refine g_astore_nq C dX2_takeRelations_87 rfl (by decide) ?_
            refine g_goto C 12 dX2_takeRelations_88 (by decide) ?_
            refine g_drop [(0, .ref x), (1, .int d), (2, va_rf ((ti i).la.map ad))] _ rfl ?_
            have hFi : opT (ti i) (opB ti d f0 ch i) = opT (ti i) false := by rw [← hopi, opB_hd, hto]
            have hs := ih (r, (tkF f ((ti i).va / 16) (f ((ti i).va % 16) ||| ((1 : Int32) <<< (nI ((ti i).va % 16) &&& 31))) 16), h_up (h_up wa un (eI G 16 (tkF f ((ti i).va / 16) (f ((ti i).va % 16) ||| ((1 : Int32) <<< (nI ((ti i).va % 16) &&& 31))) 16))) (ad i) (cellT ad i (opT (ti i) false)), va_up t1 i (opT (ti i) false)) ⟨hlk', fun j hj => hr2 j (List.mem_cons_of_mem _ hj), by have h9 := hli2.step hn hi; rw [hFi] at h9; exact h9, by rw [← hf]; simp only [List.foldl_cons, htn], fun j hj => by rw [← hop j (List.mem_cons_of_mem _ hj), opB_tl (fun e : j = i => hni (by rw [← e]; exact hj)), htn]⟩ (Nat.lt_succ_self _)
            dsimp only at hs
            rw [← hla] at hs
            exact hs

/-- the number of the k-th that stands open -/
def opG (P : Nat → Bool) (k : Int32) : Int32 → List Nat → Int32
  | _, [] => -1
  | b, i :: r => cond (P i) (cond (decide (b = k)) (nI i) (opG P k (b + 1) r)) (opG P k b r)
def orV (f : Nat → Int32) (p q : Nat) : Int32 := cond (kb (f p) (nI q)) 1 (cond (kb (f q) (nI p)) (-1) 0)
set_option maxHeartbeats 4000000 in
set_option maxRecDepth 100000 in
theorem c_X2_order (l : Launch) (G : hD) (w : hW) (x tl rw ng cx un : Nat) (ad : Nat → Nat) (n : Nat) (ti : Nat → TI) (ch : List Nat) (rl : Nat → List Nat) (gv : Nat → Nat) (f : Nat → Int32) (hM : TM G x tl rw ng cx un ad n ti ch rl gv f w) (hall : ∀ i, i < n → i ∈ ch) (hnd : ch.Nodup) (hrel : relOk n ti) (d p9 q9 : Int32) : h_Met l yX2_order (Cond.code yX2_order cX2_order 4 (some .int)) { frames := 7, cells := 3, slots := 18, locals := 102 } G [.ref x, .int d, .int p9, .int q9] w (fun v w' => okD d ∧ ∃ pa qa, pa < 16 ∧ qa < 16 ∧ p9 = nI pa ∧ q9 = nI qa ∧ ∃ f0 : Nat → Int32, (∀ j, j < 16 → f0 j = 0) ∧ v = some (.int (orV (ch.foldl (trN ti d) f0) pa qa)) ∧ TM G x tl rw ng cx un ad n (fun i => opT (ti i) (opB ti d f0 ch i)) ch rl gv (ch.foldl (trN ti d) f0) w' ∧ fr (CD x tl rw ng cx un ad n) w w') (exc1 (okD d ∧ okT p9 ∧ okT q9)) := by
  refine h_met RX2 rfl (by decide) (Nat.le_of_ble_eq_true rfl) (cat_c (by first | rfl | exact rf_cat _) (cat_c (by first | rfl | exact rf_cat _) (cat_c (by first | rfl | exact rf_cat _) (cat_c (by first | rfl | exact rf_cat _) cat_n)))) ?_
  intro p e s m below meth c A C hnt hr hnm
  obtain ⟨hx, ⟨tf, htl, htf⟩, ⟨rf, hrw, hrf⟩, ⟨gf, hng, hgf⟩, hcx, hun, hT, hn, hch, hlk, hrl⟩ := id hM
  refine g_iload_n C dX2_order_0 rfl rfl ?_
  refine g_callS C hnt _ dX2_order_1 (c_X2_requireDesk l G _ _) kmX2_37 ks_X2_requireDesk kn_X2 kc_X2_requireDesk hy_X2_requireDesk ⟨by decide, by decide⟩ rfl (Nat.le_of_ble_eq_true rfl) ⟨by decide, by decide⟩ ⟨by decide, by decide⟩ (fun E hE => ⟨⟨hE.1, fun h => hE.2 h.1⟩, rfl⟩) (fun v w1 hp => ?_)
  obtain ⟨rfl, hw1, hok0⟩ := hp
  have hw1 := hw1.symm
  subst hw1
  refine g_iload_n C dX2_order_4 rfl rfl ?_
  refine g_callS C hnt _ dX2_order_5 (c_X2_requireContext l G _ _) kmX2_83 ks_X2_requireContext kn_X2 kc_X2_requireContext hy_X2_requireContext ⟨by decide, by decide⟩ rfl (Nat.le_of_ble_eq_true rfl) ⟨by decide, by decide⟩ ⟨by decide, by decide⟩ (fun E hE => ⟨⟨hE.1, fun h => hE.2 h.2.1⟩, rfl⟩) (fun v w1 hp => ?_)
  obtain ⟨rfl, hw1, hok1⟩ := hp
  have hw1 := hw1.symm
  subst hw1
  refine g_iload_n C dX2_order_8 rfl rfl ?_
  refine g_callS C hnt _ dX2_order_9 (c_X2_requireContext l G _ _) kmX2_83 ks_X2_requireContext kn_X2 kc_X2_requireContext hy_X2_requireContext ⟨by decide, by decide⟩ rfl (Nat.le_of_ble_eq_true rfl) ⟨by decide, by decide⟩ ⟨by decide, by decide⟩ (fun E hE => ⟨⟨hE.1, fun h => hE.2 h.2.2⟩, rfl⟩) (fun v w1 hp => ?_)
  obtain ⟨rfl, hw1, hok2⟩ := hp
  have hw1 := hw1.symm
  subst hw1
  obtain ⟨pa, hpa, rfl⟩ := ok_nI (N := 16) (by decide) hok1.1 hok1.2
  obtain ⟨qa, hqa, rfl⟩ := ok_nI (N := 16) (by decide) hok2.1 hok2.2
  first | refine g_aload_n C dX2_order_12 rfl rfl ?_ | refine g_aload_nN C dX2_order_12 rfl rfl ?_ | refine g_aload_nq C dX2_order_12 rfl rfl ?_
  refine g_iload_n C dX2_order_13 rfl rfl ?_
  refine g_callVn C _ dX2_order_14 (c_X2_takeRelations l G _ _ _ _ _ _ _ _ _ _ _ _ _ _ hM hall hnd hrel _) kmX2_124 ki_X2_takeRelations kv_X2_takeRelations kn_X2 kc_X2_takeRelations hy_X2_takeRelations ⟨by decide, by decide⟩ hx rfl rfl (Nat.le_of_ble_eq_true rfl) ⟨by decide, by decide⟩ (fun v w1 hp => ?_)
  obtain ⟨rfl, f0, hf0, hM', hfr⟩ := hp
  obtain ⟨hx', -, -, -, hcx', hun', hT', -, hch', hlk', -⟩ := id hM'
  first | refine g_aload_n C dX2_order_17 rfl rfl ?_ | refine g_aload_nN C dX2_order_17 rfl rfl ?_ | refine g_aload_nq C dX2_order_17 rfl rfl ?_
  refine g_get C dX2_order_18 hx' rfl kw_X2 3 (by decide) kfX2_25 rfl rfl ?_
  refine g_iload_n C dX2_order_21 rfl rfl ?_
  refine g_iload_n C dX2_order_22 rfl rfl ?_
  refine g_callVn C _ dX2_order_23 (c_X0_isOver l G _ _ _ _ hcx' hun' _ _) kmX2_127 ki_X0_isOver kv_X0_isOver kn_X0 kc_X0_isOver hy_X0_isOver ⟨by decide, by decide⟩ hcx' rfl rfl (Nat.le_of_ble_eq_true rfl) ⟨by decide, by decide⟩ (fun v w1 hp => ?_)
  obtain ⟨rfl, hw1⟩ := hp
  have hw1 := hw1.symm
  subst hw1
  refine g_if_eq C 31 dX2_order_26 (by decide) (fun c26 => ?_) (fun c26 => ?_)
  · have c26 := bI_z.mp c26; rw [isCtx_nI hpa, Bool.true_and, nI_clamp (by omega)] at c26
    first | refine g_aload_n C dX2_order_31 rfl rfl ?_ | refine g_aload_nN C dX2_order_31 rfl rfl ?_ | refine g_aload_nq C dX2_order_31 rfl rfl ?_
    refine g_get C dX2_order_32 hx' rfl kw_X2 3 (by decide) kfX2_25 rfl rfl ?_
    refine g_iload_n C dX2_order_35 rfl rfl ?_
    refine g_iload_n C dX2_order_36 rfl rfl ?_
    refine g_callVn C _ dX2_order_37 (c_X0_isOver l G _ _ _ _ hcx' hun' _ _) kmX2_127 ki_X0_isOver kv_X0_isOver kn_X0 kc_X0_isOver hy_X0_isOver ⟨by decide, by decide⟩ hcx' rfl rfl (Nat.le_of_ble_eq_true rfl) ⟨by decide, by decide⟩ (fun v w1 hp => ?_)
    obtain ⟨rfl, hw1⟩ := hp
    have hw1 := hw1.symm
    subst hw1
    refine g_if_eq C 47 dX2_order_40 (by decide) (fun c40 => ?_) (fun c40 => ?_)
    · have c40 := bI_z.mp c40; rw [isCtx_nI hqa, Bool.true_and, nI_clamp (by omega)] at c40
      refine g_iconst C (v := 0) dX2_order_47 (by decide) ?_
      exact g_iret C hr dX2_order_48 (by decide) (by decide) ⟨hok0, pa, qa, hpa, hqa, rfl, rfl, f0, hf0, by simp [orV, c26, c40], hM', hfr⟩
    · have c40 := bI_nz.mp c40; rw [isCtx_nI hqa, Bool.true_and, nI_clamp (by omega)] at c40
      refine g_iconst C (v := (-1)) dX2_order_43 (by decide) ?_
      refine g_goto C 48 dX2_order_44 (by decide) ?_
      exact g_iret C hr dX2_order_48 (by decide) (by decide) ⟨hok0, pa, qa, hpa, hqa, rfl, rfl, f0, hf0, by simp [orV, c26, c40], hM', hfr⟩
  · have c26 := bI_nz.mp c26; rw [isCtx_nI hpa, Bool.true_and, nI_clamp (by omega)] at c26
    refine g_iconst C (v := 1) dX2_order_29 (by decide) ?_
    exact g_iret C hr dX2_order_30 (by decide) (by decide) ⟨hok0, pa, qa, hpa, hqa, rfl, rfl, f0, hf0, by simp [orV, c26], hM', hfr⟩

set_option maxHeartbeats 4000000 in
set_option maxRecDepth 100000 in
theorem c_X2_open (l : Launch) (G : hD) (w : hW) (x tl rw ng cx un : Nat) (ad : Nat → Nat) (n : Nat) (ti : Nat → TI) (ch : List Nat) (rl : Nat → List Nat) (gv : Nat → Nat) (f : Nat → Int32) (hM : TM G x tl rw ng cx un ad n ti ch rl gv f w) (hall : ∀ i, i < n → i ∈ ch) (hnd : ch.Nodup) (hrel : relOk n ti) (d k : Int32) : h_Met l yX2_open (Cond.code yX2_open cX2_open 5 (some .int)) { frames := 7, cells := 2, slots := 12, locals := 102 } G [.ref x, .int d, .int k] w (fun v w' => okD d ∧ ¬ k < 0 ∧ ∃ f0 : Nat → Int32, (∀ j, j < 16 → f0 j = 0) ∧ v = some (.int (opG (opB ti d f0 ch) k 0 ch)) ∧ TM G x tl rw ng cx un ad n (fun i => opT (ti i) (opB ti d f0 ch i)) ch rl gv (ch.foldl (trN ti d) f0) w' ∧ fr (CD x tl rw ng cx un ad n) w w') (exc1 (okD d ∧ ¬ k < 0)) := by
  refine h_met RX2 rfl (by decide) (Nat.le_of_ble_eq_true rfl) (cat_c (by first | rfl | exact rf_cat _) (cat_c (by first | rfl | exact rf_cat _) (cat_c (by first | rfl | exact rf_cat _) cat_n))) ?_
  intro p e s m below meth c A C hnt hr hnm
  obtain ⟨hx, ⟨tf, htl, htf⟩, ⟨rf, hrw, hrf⟩, ⟨gf, hng, hgf⟩, hcx, hun, hT, hn, hch, hlk, hrl⟩ := id hM
  refine g_iload_n C dX2_open_0 rfl rfl ?_
  refine g_callS C hnt _ dX2_open_1 (c_X2_requireDesk l G _ _) kmX2_37 ks_X2_requireDesk kn_X2 kc_X2_requireDesk hy_X2_requireDesk ⟨by decide, by decide⟩ rfl (Nat.le_of_ble_eq_true rfl) ⟨by decide, by decide⟩ ⟨by decide, by decide⟩ (fun E hE => ⟨⟨hE.1, fun h => hE.2 h.1⟩, rfl⟩) (fun v w1 hp => ?_)
  obtain ⟨rfl, hw1, hok0⟩ := hp
  have hw1 := hw1.symm
  subst hw1
  refine g_iload_n C dX2_open_4 rfl rfl ?_
  refine g_callS C hnt _ dX2_open_5 (c_X2_requireOrdinal l G _ _) kmX2_103 ks_X2_requireOrdinal kn_X2 kc_X2_requireOrdinal hy_X2_requireOrdinal ⟨by decide, by decide⟩ rfl (Nat.le_of_ble_eq_true rfl) ⟨by decide, by decide⟩ ⟨by decide, by decide⟩ (fun E hE => ⟨⟨hE.1, fun h => hE.2 h.2⟩, rfl⟩) (fun v w1 hp => ?_)
  obtain ⟨rfl, hw1, hok1⟩ := hp
  have hw1 := hw1.symm
  subst hw1
  first | refine g_aload_n C dX2_open_8 rfl rfl ?_ | refine g_aload_nN C dX2_open_8 rfl rfl ?_ | refine g_aload_nq C dX2_open_8 rfl rfl ?_
  refine g_iload_n C dX2_open_9 rfl rfl ?_
  refine g_callVn C _ dX2_open_10 (c_X2_takeRelations l G _ _ _ _ _ _ _ _ _ _ _ _ _ _ hM hall hnd hrel _) kmX2_124 ki_X2_takeRelations kv_X2_takeRelations kn_X2 kc_X2_takeRelations hy_X2_takeRelations ⟨by decide, by decide⟩ hx rfl rfl (Nat.le_of_ble_eq_true rfl) ⟨by decide, by decide⟩ (fun v w1 hp => ?_)
  obtain ⟨rfl, f0, hf0, hM', hfr⟩ := hp
  obtain ⟨hx', -, -, -, hcx', hun', hT', -, hch', hlk', -⟩ := id hM'
  refine g_iconst C (v := 0) dX2_open_13 (by decide) ?_
  refine g_istore_n C dX2_open_14 rfl (by decide) ?_
  first | refine g_aload_n C dX2_open_15 rfl rfl ?_ | refine g_aload_nN C dX2_open_15 rfl rfl ?_ | refine g_aload_nq C dX2_open_15 rfl rfl ?_
  refine g_get C dX2_open_16 hx' rfl kw_X2 4 (by decide) kfX2_29 rfl rfl ?_
  first | refine g_astore C dX2_open_19 (by decide) ?_ | refine g_astoreN C dX2_open_19 (by decide) ?_ | refine g_astoreq C dX2_open_19 (by decide) ?_
  refine g_loop (σ := List Nat × Int32) (fun z => lk (fun i => (ti i).la) z.1.head? z.1 ∧ (∀ i ∈ z.1, i < n) ∧ opG (opB ti d f0 ch) k z.2 z.1 = opG (opB ti d f0 ch) k 0 ch) (fun z => z.1.length) (fun _ => w1) (fun z => [(0, .ref x), (1, .int d), (2, .int k), (3, .int z.2), (4, va_rf (z.1.head?.map ad))]) ?_ (ch, 0) ⟨hlk, hch, rfl⟩
  rintro ⟨r, b⟩ ⟨hr1, hr2, hinv⟩ ih
  dsimp only at hr1 hr2 hinv ih ⊢
  cases r with
  | nil =>
    first | refine g_aload C dX2_open_21 rfl ?_ | refine g_aloadN C dX2_open_21 rfl ?_ | refine g_aloadq C dX2_open_21 rfl ?_
    refine g_ifnullN C 58 dX2_open_23 (by decide) ?_
    refine g_iconst C (v := (-1)) dX2_open_58 (by decide) ?_
    exact g_iret C hr dX2_open_59 (by decide) (by decide) ⟨hok0, hok1, f0, hf0, by rw [← hinv]; rfl, hM', hfr⟩
  | cons i r =>
    have hi : i < n := hr2 i List.mem_cons_self
    have hc := hT' i hi
    have hla : (ti i).la = r.head? := lk_hd hr1.2
    have hlk9 : lk (fun i => (ti i).la) r.head? r := by rw [← hla]; exact hr1.2
    first | refine g_aload C dX2_open_21 rfl ?_ | refine g_aloadN C dX2_open_21 rfl ?_ | refine g_aloadq C dX2_open_21 rfl ?_
    refine g_ifnullR C dX2_open_23 ?_
    first | refine g_aload C dX2_open_26 rfl ?_ | refine g_aloadN C dX2_open_26 rfl ?_ | refine g_aloadq C dX2_open_26 rfl ?_
    refine g_get C dX2_open_28 hc rfl kw_X1 8 (by decide) kfX2_131 rfl rfl ?_
    refine g_if_eq C 48 dX2_open_31 (by decide) (fun c31 => ?_) (fun c31 => ?_)
    · have c31 := bI_z.mp c31
      first | refine g_aload C dX2_open_48 rfl ?_ | refine g_aloadN C dX2_open_48 rfl ?_ | refine g_aloadq C dX2_open_48 rfl ?_
      refine g_get C dX2_open_50 hc rfl kw_X1 9 (by decide) kfX2_95 rfl rfl ?_
      first | refine g_astore C dX2_open_53 (by decide) ?_ | refine g_astoreN C dX2_open_53 (by decide) ?_ | refine g_astoreq C dX2_open_53 (by decide) ?_
      refine g_goto C 21 dX2_open_55 (by decide) ?_
      have hs := ih (r, b) ⟨hlk9, fun j hj => hr2 j (List.mem_cons_of_mem _ hj), by rw [← hinv]; simp [opG, c31]⟩ (Nat.lt_succ_self _)
      dsimp only at hs
      rw [← hla] at hs
      exact hs
    · have c31 := bI_nz.mp c31
      refine g_iload_n C dX2_open_34 rfl rfl ?_
      refine g_iload_n C dX2_open_35 rfl rfl ?_
      refine g_icmp_ne C 45 dX2_open_36 (by decide) (fun c36 => ?_) (fun c36 => ?_)
      · refine g_iinc C (v := (b + 1)) dX2_open_45 rfl (rfl) (by decide) ?_
        first | refine g_aload C dX2_open_48 rfl ?_ | refine g_aloadN C dX2_open_48 rfl ?_ | refine g_aloadq C dX2_open_48 rfl ?_
        refine g_get C dX2_open_50 hc rfl kw_X1 9 (by decide) kfX2_95 rfl rfl ?_
        first | refine g_astore C dX2_open_53 (by decide) ?_ | refine g_astoreN C dX2_open_53 (by decide) ?_ | refine g_astoreq C dX2_open_53 (by decide) ?_
        refine g_goto C 21 dX2_open_55 (by decide) ?_
        have hs := ih (r, b + 1) ⟨hlk9, fun j hj => hr2 j (List.mem_cons_of_mem _ hj), by rw [← hinv]; simp [opG, c31, c36]⟩ (Nat.lt_succ_self _)
        dsimp only at hs
        rw [← hla] at hs
        exact hs
      · first | refine g_aload C dX2_open_39 rfl ?_ | refine g_aloadN C dX2_open_39 rfl ?_ | refine g_aloadq C dX2_open_39 rfl ?_
        refine g_get C dX2_open_41 hc rfl kw_X1 0 (by decide) kfX2_55 rfl rfl ?_
        exact g_iret C hr dX2_open_44 (by decide) (by decide) ⟨hok0, hok1, f0, hf0, by rw [← hinv]; simp [opG, c31, c36], hM', hfr⟩

