/-! ===== the class's state: tellings by their numbers, the chain by rank, the rows ===== -/
/-- a telling: desk, stamp, sort, thing, value; the desks that know it, that know its end; open; the next by rank, in its row -/
abbrev TI : Type := Nat × Nat × Nat × Int32 × Nat × Int32 × Int32 × Int32 × Option Nat × Option Nat
abbrev TI.dk (t : TI) : Nat := t.1
abbrev TI.st (t : TI) : Nat := t.2.1
abbrev TI.so (t : TI) : Nat := t.2.2.1
abbrev TI.th (t : TI) : Int32 := t.2.2.2.1
abbrev TI.va (t : TI) : Nat := t.2.2.2.2.1
abbrev TI.kn (t : TI) : Int32 := t.2.2.2.2.2.1
abbrev TI.en (t : TI) : Int32 := t.2.2.2.2.2.2.1
abbrev TI.op (t : TI) : Int32 := t.2.2.2.2.2.2.2.1
abbrev TI.la (t : TI) : Option Nat := t.2.2.2.2.2.2.2.2.1
abbrev TI.ne (t : TI) : Option Nat := t.2.2.2.2.2.2.2.2.2
abbrev cellT (ad : Nat → Nat) (i : Nat) (t : TI) : va_E := tC (nI i) (nI t.dk) (nI t.st) (nI t.so) t.th (nI t.va) t.kn t.en t.op (t.la.map ad) (t.ne.map ad)
abbrev cellX (ad : Nat → Nat) (tl rw ng cx : Nat) (er : Option Nat) (n : Nat) : va_E := eO 2 [.ref tl, .ref rw, .ref ng, .ref cx, va_rf (er.map ad), .int (nI n)]
/-- linked, from h on, through the list -/
def lk (nx : Nat → Option Nat) : Option Nat → List Nat → Prop
  | h, [] => h = none
  | h, i :: r => h = some i ∧ lk nx (nx i) r
theorem lk_hd {nx : Nat → Option Nat} {h : Option Nat} {r : List Nat} (hl : lk nx h r) : h = r.head? := by
  cases r with
  | nil => exact hl
  | cons i r => exact hl.1
def tIn (w : hW) (ad : Nat → Nat) (n : Nat) (ti : Nat → TI) : Prop := ∀ i, i < n → w (ad i) = some (cellT ad i (ti i))
abbrev isF (t : TI) (th so : Int32) : Bool := decide (t.th = th) && decide (nI t.so = so)
def gsS (ti : Nat → TI) (d : Int32) (g : Int32) (i : Nat) : Int32 := cond (kb (ti i).kn d) (nI (ti i).st) g
def lvSt (ti : Nat → TI) (d th : Int32) (g : Int32) (i : Nat) : Int32 := cond (isF (ti i) th 0 && kb (ti i).kn d) (nI (ti i).va) g
def smS (ti : Nat → TI) (d th : Int32) (g : Int32) (i : Nat) : Int32 := cond (isF (ti i) th 1 && kb (ti i).kn d) (g + nI (ti i).va) g
def unS (ti : Nat → TI) (d th : Int32) (g : Int32) (i : Nat) : Int32 := cond (isF (ti i) th 2 && kb (ti i).kn d) (g ||| ((1 : Int32) <<< (nI (ti i).va &&& 31))) g
def cfS (ti : Nat → TI) (g : Int32) (i : Nat) : Int32 := cond (decide ((ti i).kn = 0)) (g + 1) g
def cuS (ti : Nat → TI) (g : Int32) (i : Nat) : Int32 := cond (!decide ((ti i).kn = 0) && !decide ((ti i).kn = 63)) (g + 1) g

set_option maxHeartbeats 4000000 in
set_option maxRecDepth 100000 in
theorem c_X2_greatestStamp (l : Launch) (G : hD) (w : hW) (x tl rw ng cx : Nat) (ad : Nat → Nat) (er : Option Nat) (n : Nat) (ti : Nat → TI) (ch : List Nat) (hx : w x = some (cellX ad tl rw ng cx er n)) (hT : tIn w ad n ti) (hch : ∀ i ∈ ch, i < n) (hlk : lk (fun i => (ti i).la) er ch) (d : Int32) : h_Met l yX2_greatestStamp (Cond.code yX2_greatestStamp cX2_greatestStamp 4 (some .int)) { frames := 1, cells := 0, slots := 0, locals := 21 } G [.ref x, .int d] w (fun v w' => v = some (.int (ch.foldl (gsS ti d) 0)) ∧ w' = w) noX := by
  refine h_met RX2 rfl (by decide) (Nat.le_of_ble_eq_true rfl) (cat_c (by first | rfl | exact rf_cat _) (cat_c (by first | rfl | exact rf_cat _) cat_n)) ?_
  intro p e s m below meth c A C hnt hr hnm
  have her : er = ch.head? := lk_hd hlk
  refine g_iconst C (v := 0) dX2_greatestStamp_0 (by decide) ?_
  refine g_istore_n C dX2_greatestStamp_1 rfl (by decide) ?_
  first | refine g_aload_n C dX2_greatestStamp_2 rfl rfl ?_ | refine g_aload_nN C dX2_greatestStamp_2 rfl rfl ?_ | refine g_aload_nq C dX2_greatestStamp_2 rfl rfl ?_
  refine g_get C dX2_greatestStamp_3 hx rfl kw_X2 4 (by decide) kfX2_29 rfl rfl ?_
  first | refine g_astore_n C dX2_greatestStamp_6 rfl (by decide) ?_ | refine g_astore_nN C dX2_greatestStamp_6 rfl (by decide) ?_ | refine g_astore_nq C dX2_greatestStamp_6 rfl (by decide) ?_
  rw [her]
  refine g_loop (σ := List Nat × Int32) (fun z => lk (fun i => (ti i).la) z.1.head? z.1 ∧ (∀ i ∈ z.1, i < n) ∧ z.1.foldl (gsS ti d) z.2 = ch.foldl (gsS ti d) 0) (fun z => z.1.length) (fun _ => w) (fun z => [(0, .ref x), (1, .int d), (2, .int z.2), (3, va_rf (z.1.head?.map ad))]) ?_ (ch, 0) ⟨by rw [← lk_hd hlk]; exact hlk, hch, rfl⟩
  rintro ⟨r, acc⟩ ⟨hr1, hr2, hinv⟩ ih
  dsimp only at hr1 hr2 hinv ih ⊢
  cases r with
  | nil =>
    first | refine g_aload_n C dX2_greatestStamp_7 rfl rfl ?_ | refine g_aload_nN C dX2_greatestStamp_7 rfl rfl ?_ | refine g_aload_nq C dX2_greatestStamp_7 rfl rfl ?_
    refine g_ifnullN C 32 dX2_greatestStamp_8 (by decide) ?_
    refine g_iload_n C dX2_greatestStamp_32 rfl rfl ?_
    exact g_iret C hr dX2_greatestStamp_33 (by decide) (by decide) ⟨by rw [← hinv]; rfl, rfl⟩
  | cons i r =>
    have hi : i < n := hr2 i List.mem_cons_self
    have hc := hT i hi
    have hla : (ti i).la = r.head? := lk_hd hr1.2
    have hlk' : lk (fun i => (ti i).la) r.head? r := by rw [← hla]; exact hr1.2
    first | refine g_aload_n C dX2_greatestStamp_7 rfl rfl ?_ | refine g_aload_nN C dX2_greatestStamp_7 rfl rfl ?_ | refine g_aload_nq C dX2_greatestStamp_7 rfl rfl ?_
    refine g_ifnullR C dX2_greatestStamp_8 ?_
    first | refine g_aload_n C dX2_greatestStamp_11 rfl rfl ?_ | refine g_aload_nN C dX2_greatestStamp_11 rfl rfl ?_ | refine g_aload_nq C dX2_greatestStamp_11 rfl rfl ?_
    refine g_iload_n C dX2_greatestStamp_12 rfl rfl ?_
    refine g_callVn C _ dX2_greatestStamp_13 (c_X1_isKnownAt l G _ _ _ _ _ _ _ _ _ _ _ _ _ _ hc) kmX2_88 ki_X1_isKnownAt kv_X1_isKnownAt kn_X1 kc_X1_isKnownAt hy_X1_isKnownAt ⟨by decide, by decide⟩ hc rfl rfl (Nat.le_of_ble_eq_true rfl) ⟨by decide, by decide⟩ (fun v w1 hp => ?_)
    obtain ⟨rfl, hw1⟩ := hp
    have hw1 := hw1.symm
    subst hw1
    refine g_if_eq C 24 dX2_greatestStamp_16 (by decide) (fun c16 => ?_) (fun c16 => ?_)
    · have c16 := bI_z.mp c16
      first | refine g_aload_n C dX2_greatestStamp_24 rfl rfl ?_ | refine g_aload_nN C dX2_greatestStamp_24 rfl rfl ?_ | refine g_aload_nq C dX2_greatestStamp_24 rfl rfl ?_
      refine g_get C dX2_greatestStamp_25 hc rfl kw_X1 9 (by decide) kfX2_95 rfl rfl ?_
      first | refine g_astore_n C dX2_greatestStamp_28 rfl (by decide) ?_ | refine g_astore_nN C dX2_greatestStamp_28 rfl (by decide) ?_ | refine g_astore_nq C dX2_greatestStamp_28 rfl (by decide) ?_
      refine g_goto C 7 dX2_greatestStamp_29 (by decide) ?_
      have e9 : gsS ti d acc i = acc := by simp [gsS, c16]
      rw [hla]
      exact ih (r, acc) ⟨hlk', fun j hj => hr2 j (List.mem_cons_of_mem _ hj), (congrArg (fun q => List.foldl (gsS ti d) q r) e9.symm).trans hinv⟩ (Nat.lt_succ_self _)
    · have c16 := bI_nz.mp c16
      first | refine g_aload_n C dX2_greatestStamp_19 rfl rfl ?_ | refine g_aload_nN C dX2_greatestStamp_19 rfl rfl ?_ | refine g_aload_nq C dX2_greatestStamp_19 rfl rfl ?_
      refine g_get C dX2_greatestStamp_20 hc rfl kw_X1 2 (by decide) kfX2_146 rfl rfl ?_
      refine g_istore_n C dX2_greatestStamp_23 rfl (by decide) ?_
      first | refine g_aload_n C dX2_greatestStamp_24 rfl rfl ?_ | refine g_aload_nN C dX2_greatestStamp_24 rfl rfl ?_ | refine g_aload_nq C dX2_greatestStamp_24 rfl rfl ?_
      refine g_get C dX2_greatestStamp_25 hc rfl kw_X1 9 (by decide) kfX2_95 rfl rfl ?_
      first | refine g_astore_n C dX2_greatestStamp_28 rfl (by decide) ?_ | refine g_astore_nN C dX2_greatestStamp_28 rfl (by decide) ?_ | refine g_astore_nq C dX2_greatestStamp_28 rfl (by decide) ?_
      refine g_goto C 7 dX2_greatestStamp_29 (by decide) ?_
      have e9 : gsS ti d acc i = (nI (ti i).st) := by simp [gsS, c16]
      rw [hla]
      exact ih (r, (nI (ti i).st)) ⟨hlk', fun j hj => hr2 j (List.mem_cons_of_mem _ hj), (congrArg (fun q => List.foldl (gsS ti d) q r) e9.symm).trans hinv⟩ (Nat.lt_succ_self _)

set_option maxHeartbeats 4000000 in
set_option maxRecDepth 100000 in
theorem c_X2_latestValue (l : Launch) (G : hD) (w : hW) (x tl rw ng cx : Nat) (ad : Nat → Nat) (er : Option Nat) (n : Nat) (ti : Nat → TI) (ch : List Nat) (hx : w x = some (cellX ad tl rw ng cx er n)) (hT : tIn w ad n ti) (hch : ∀ i ∈ ch, i < n) (hlk : lk (fun i => (ti i).la) er ch) (d th : Int32) : h_Met l yX2_latestValue (Cond.code yX2_latestValue cX2_latestValue 5 (some .int)) { frames := 1, cells := 0, slots := 0, locals := 22 } G [.ref x, .int d, .int th] w (fun v w' => v = some (.int (ch.foldl (lvSt ti d th) (-1))) ∧ w' = w) noX := by
  refine h_met RX2 rfl (by decide) (Nat.le_of_ble_eq_true rfl) (cat_c (by first | rfl | exact rf_cat _) (cat_c (by first | rfl | exact rf_cat _) (cat_c (by first | rfl | exact rf_cat _) cat_n))) ?_
  intro p e s m below meth c A C hnt hr hnm
  have her : er = ch.head? := lk_hd hlk
  refine g_iconst C (v := (-1)) dX2_latestValue_0 (by decide) ?_
  refine g_istore_n C dX2_latestValue_1 rfl (by decide) ?_
  first | refine g_aload_n C dX2_latestValue_2 rfl rfl ?_ | refine g_aload_nN C dX2_latestValue_2 rfl rfl ?_ | refine g_aload_nq C dX2_latestValue_2 rfl rfl ?_
  refine g_get C dX2_latestValue_3 hx rfl kw_X2 4 (by decide) kfX2_29 rfl rfl ?_
  first | refine g_astore C dX2_latestValue_6 (by decide) ?_ | refine g_astoreN C dX2_latestValue_6 (by decide) ?_ | refine g_astoreq C dX2_latestValue_6 (by decide) ?_
  rw [her]
  refine g_loop (σ := List Nat × Int32) (fun z => lk (fun i => (ti i).la) z.1.head? z.1 ∧ (∀ i ∈ z.1, i < n) ∧ z.1.foldl (lvSt ti d th) z.2 = ch.foldl (lvSt ti d th) (-1)) (fun z => z.1.length) (fun _ => w) (fun z => [(0, .ref x), (1, .int d), (2, .int th), (3, .int z.2), (4, va_rf (z.1.head?.map ad))]) ?_ (ch, (-1)) ⟨by rw [← lk_hd hlk]; exact hlk, hch, rfl⟩
  rintro ⟨r, acc⟩ ⟨hr1, hr2, hinv⟩ ih
  dsimp only at hr1 hr2 hinv ih ⊢
  cases r with
  | nil =>
    first | refine g_aload C dX2_latestValue_8 rfl ?_ | refine g_aloadN C dX2_latestValue_8 rfl ?_ | refine g_aloadq C dX2_latestValue_8 rfl ?_
    refine g_ifnullN C 48 dX2_latestValue_10 (by decide) ?_
    refine g_iload_n C dX2_latestValue_48 rfl rfl ?_
    exact g_iret C hr dX2_latestValue_49 (by decide) (by decide) ⟨by rw [← hinv]; rfl, rfl⟩
  | cons i r =>
    have hi : i < n := hr2 i List.mem_cons_self
    have hc := hT i hi
    have hla : (ti i).la = r.head? := lk_hd hr1.2
    have hlk' : lk (fun i => (ti i).la) r.head? r := by rw [← hla]; exact hr1.2
    first | refine g_aload C dX2_latestValue_8 rfl ?_ | refine g_aloadN C dX2_latestValue_8 rfl ?_ | refine g_aloadq C dX2_latestValue_8 rfl ?_
    refine g_ifnullR C dX2_latestValue_10 ?_
    first | refine g_aload C dX2_latestValue_13 rfl ?_ | refine g_aloadN C dX2_latestValue_13 rfl ?_ | refine g_aloadq C dX2_latestValue_13 rfl ?_
    refine g_iload_n C dX2_latestValue_15 rfl rfl ?_
    refine g_iconst C (v := 0) dX2_latestValue_16 (by decide) ?_
    refine g_callVn C _ dX2_latestValue_17 (c_X1_isOfField l G _ _ _ _ _ _ _ _ _ _ _ _ _ _ _ hc) kmX2_209 ki_X1_isOfField kv_X1_isOfField kn_X1 kc_X1_isOfField hy_X1_isOfField ⟨by decide, by decide⟩ hc rfl rfl (Nat.le_of_ble_eq_true rfl) ⟨by decide, by decide⟩ (fun v w1 hp => ?_)
    obtain ⟨rfl, hw1⟩ := hp
    have hw1 := hw1.symm
    subst hw1
    refine g_if_eq C 38 dX2_latestValue_20 (by decide) (fun c20 => ?_) (fun c20 => ?_)
    · have c20 := bI_z.mp c20
      first | refine g_aload C dX2_latestValue_38 rfl ?_ | refine g_aloadN C dX2_latestValue_38 rfl ?_ | refine g_aloadq C dX2_latestValue_38 rfl ?_
      refine g_get C dX2_latestValue_40 hc rfl kw_X1 9 (by decide) kfX2_95 rfl rfl ?_
      first | refine g_astore C dX2_latestValue_43 (by decide) ?_ | refine g_astoreN C dX2_latestValue_43 (by decide) ?_ | refine g_astoreq C dX2_latestValue_43 (by decide) ?_
      refine g_goto C 8 dX2_latestValue_45 (by decide) ?_
      have e9 : lvSt ti d th acc i = acc := by simp [lvSt, c20]
      rw [hla]
      exact ih (r, acc) ⟨hlk', fun j hj => hr2 j (List.mem_cons_of_mem _ hj), (congrArg (fun q => List.foldl (lvSt ti d th) q r) e9.symm).trans hinv⟩ (Nat.lt_succ_self _)
    · have c20 := bI_nz.mp c20
      first | refine g_aload C dX2_latestValue_23 rfl ?_ | refine g_aloadN C dX2_latestValue_23 rfl ?_ | refine g_aloadq C dX2_latestValue_23 rfl ?_
      refine g_iload_n C dX2_latestValue_25 rfl rfl ?_
      refine g_callVn C _ dX2_latestValue_26 (c_X1_isKnownAt l G _ _ _ _ _ _ _ _ _ _ _ _ _ _ hc) kmX2_88 ki_X1_isKnownAt kv_X1_isKnownAt kn_X1 kc_X1_isKnownAt hy_X1_isKnownAt ⟨by decide, by decide⟩ hc rfl rfl (Nat.le_of_ble_eq_true rfl) ⟨by decide, by decide⟩ (fun v w1 hp => ?_)
      obtain ⟨rfl, hw1⟩ := hp
      have hw1 := hw1.symm
      subst hw1
      refine g_if_eq C 38 dX2_latestValue_29 (by decide) (fun c29 => ?_) (fun c29 => ?_)
      · have c29 := bI_z.mp c29
        first | refine g_aload C dX2_latestValue_38 rfl ?_ | refine g_aloadN C dX2_latestValue_38 rfl ?_ | refine g_aloadq C dX2_latestValue_38 rfl ?_
        refine g_get C dX2_latestValue_40 hc rfl kw_X1 9 (by decide) kfX2_95 rfl rfl ?_
        first | refine g_astore C dX2_latestValue_43 (by decide) ?_ | refine g_astoreN C dX2_latestValue_43 (by decide) ?_ | refine g_astoreq C dX2_latestValue_43 (by decide) ?_
        refine g_goto C 8 dX2_latestValue_45 (by decide) ?_
        have e9 : lvSt ti d th acc i = acc := by simp [lvSt, c20, c29]
        rw [hla]
        exact ih (r, acc) ⟨hlk', fun j hj => hr2 j (List.mem_cons_of_mem _ hj), (congrArg (fun q => List.foldl (lvSt ti d th) q r) e9.symm).trans hinv⟩ (Nat.lt_succ_self _)
      · have c29 := bI_nz.mp c29
        first | refine g_aload C dX2_latestValue_32 rfl ?_ | refine g_aloadN C dX2_latestValue_32 rfl ?_ | refine g_aloadq C dX2_latestValue_32 rfl ?_
        refine g_get C dX2_latestValue_34 hc rfl kw_X1 5 (by decide) kfX2_121 rfl rfl ?_
        refine g_istore_n C dX2_latestValue_37 rfl (by decide) ?_
        first | refine g_aload C dX2_latestValue_38 rfl ?_ | refine g_aloadN C dX2_latestValue_38 rfl ?_ | refine g_aloadq C dX2_latestValue_38 rfl ?_
        refine g_get C dX2_latestValue_40 hc rfl kw_X1 9 (by decide) kfX2_95 rfl rfl ?_
        first | refine g_astore C dX2_latestValue_43 (by decide) ?_ | refine g_astoreN C dX2_latestValue_43 (by decide) ?_ | refine g_astoreq C dX2_latestValue_43 (by decide) ?_
        refine g_goto C 8 dX2_latestValue_45 (by decide) ?_
        have e9 : lvSt ti d th acc i = (nI (ti i).va) := by simp [lvSt, c20, c29]
        rw [hla]
        exact ih (r, (nI (ti i).va)) ⟨hlk', fun j hj => hr2 j (List.mem_cons_of_mem _ hj), (congrArg (fun q => List.foldl (lvSt ti d th) q r) e9.symm).trans hinv⟩ (Nat.lt_succ_self _)

set_option maxHeartbeats 4000000 in
set_option maxRecDepth 100000 in
theorem c_X2_sumOfValues (l : Launch) (G : hD) (w : hW) (x tl rw ng cx : Nat) (ad : Nat → Nat) (er : Option Nat) (n : Nat) (ti : Nat → TI) (ch : List Nat) (hx : w x = some (cellX ad tl rw ng cx er n)) (hT : tIn w ad n ti) (hch : ∀ i ∈ ch, i < n) (hlk : lk (fun i => (ti i).la) er ch) (d th : Int32) : h_Met l yX2_sumOfValues (Cond.code yX2_sumOfValues cX2_sumOfValues 5 (some .int)) { frames := 1, cells := 0, slots := 0, locals := 22 } G [.ref x, .int d, .int th] w (fun v w' => v = some (.int (ch.foldl (smS ti d th) 0)) ∧ w' = w) noX := by
  refine h_met RX2 rfl (by decide) (Nat.le_of_ble_eq_true rfl) (cat_c (by first | rfl | exact rf_cat _) (cat_c (by first | rfl | exact rf_cat _) (cat_c (by first | rfl | exact rf_cat _) cat_n))) ?_
  intro p e s m below meth c A C hnt hr hnm
  have her : er = ch.head? := lk_hd hlk
  refine g_iconst C (v := 0) dX2_sumOfValues_0 (by decide) ?_
  refine g_istore_n C dX2_sumOfValues_1 rfl (by decide) ?_
  first | refine g_aload_n C dX2_sumOfValues_2 rfl rfl ?_ | refine g_aload_nN C dX2_sumOfValues_2 rfl rfl ?_ | refine g_aload_nq C dX2_sumOfValues_2 rfl rfl ?_
  refine g_get C dX2_sumOfValues_3 hx rfl kw_X2 4 (by decide) kfX2_29 rfl rfl ?_
  first | refine g_astore C dX2_sumOfValues_6 (by decide) ?_ | refine g_astoreN C dX2_sumOfValues_6 (by decide) ?_ | refine g_astoreq C dX2_sumOfValues_6 (by decide) ?_
  rw [her]
  refine g_loop (σ := List Nat × Int32) (fun z => lk (fun i => (ti i).la) z.1.head? z.1 ∧ (∀ i ∈ z.1, i < n) ∧ z.1.foldl (smS ti d th) z.2 = ch.foldl (smS ti d th) 0) (fun z => z.1.length) (fun _ => w) (fun z => [(0, .ref x), (1, .int d), (2, .int th), (3, .int z.2), (4, va_rf (z.1.head?.map ad))]) ?_ (ch, 0) ⟨by rw [← lk_hd hlk]; exact hlk, hch, rfl⟩
  rintro ⟨r, acc⟩ ⟨hr1, hr2, hinv⟩ ih
  dsimp only at hr1 hr2 hinv ih ⊢
  cases r with
  | nil =>
    first | refine g_aload C dX2_sumOfValues_8 rfl ?_ | refine g_aloadN C dX2_sumOfValues_8 rfl ?_ | refine g_aloadq C dX2_sumOfValues_8 rfl ?_
    refine g_ifnullN C 50 dX2_sumOfValues_10 (by decide) ?_
    refine g_iload_n C dX2_sumOfValues_50 rfl rfl ?_
    exact g_iret C hr dX2_sumOfValues_51 (by decide) (by decide) ⟨by rw [← hinv]; rfl, rfl⟩
  | cons i r =>
    have hi : i < n := hr2 i List.mem_cons_self
    have hc := hT i hi
    have hla : (ti i).la = r.head? := lk_hd hr1.2
    have hlk' : lk (fun i => (ti i).la) r.head? r := by rw [← hla]; exact hr1.2
    first | refine g_aload C dX2_sumOfValues_8 rfl ?_ | refine g_aloadN C dX2_sumOfValues_8 rfl ?_ | refine g_aloadq C dX2_sumOfValues_8 rfl ?_
    refine g_ifnullR C dX2_sumOfValues_10 ?_
    first | refine g_aload C dX2_sumOfValues_13 rfl ?_ | refine g_aloadN C dX2_sumOfValues_13 rfl ?_ | refine g_aloadq C dX2_sumOfValues_13 rfl ?_
    refine g_iload_n C dX2_sumOfValues_15 rfl rfl ?_
    refine g_iconst C (v := 1) dX2_sumOfValues_16 (by decide) ?_
    refine g_callVn C _ dX2_sumOfValues_17 (c_X1_isOfField l G _ _ _ _ _ _ _ _ _ _ _ _ _ _ _ hc) kmX2_209 ki_X1_isOfField kv_X1_isOfField kn_X1 kc_X1_isOfField hy_X1_isOfField ⟨by decide, by decide⟩ hc rfl rfl (Nat.le_of_ble_eq_true rfl) ⟨by decide, by decide⟩ (fun v w1 hp => ?_)
    obtain ⟨rfl, hw1⟩ := hp
    have hw1 := hw1.symm
    subst hw1
    refine g_if_eq C 40 dX2_sumOfValues_20 (by decide) (fun c20 => ?_) (fun c20 => ?_)
    · have c20 := bI_z.mp c20
      first | refine g_aload C dX2_sumOfValues_40 rfl ?_ | refine g_aloadN C dX2_sumOfValues_40 rfl ?_ | refine g_aloadq C dX2_sumOfValues_40 rfl ?_
      refine g_get C dX2_sumOfValues_42 hc rfl kw_X1 9 (by decide) kfX2_95 rfl rfl ?_
      first | refine g_astore C dX2_sumOfValues_45 (by decide) ?_ | refine g_astoreN C dX2_sumOfValues_45 (by decide) ?_ | refine g_astoreq C dX2_sumOfValues_45 (by decide) ?_
      refine g_goto C 8 dX2_sumOfValues_47 (by decide) ?_
      have e9 : smS ti d th acc i = acc := by simp [smS, c20]
      rw [hla]
      exact ih (r, acc) ⟨hlk', fun j hj => hr2 j (List.mem_cons_of_mem _ hj), (congrArg (fun q => List.foldl (smS ti d th) q r) e9.symm).trans hinv⟩ (Nat.lt_succ_self _)
    · have c20 := bI_nz.mp c20
      first | refine g_aload C dX2_sumOfValues_23 rfl ?_ | refine g_aloadN C dX2_sumOfValues_23 rfl ?_ | refine g_aloadq C dX2_sumOfValues_23 rfl ?_
      refine g_iload_n C dX2_sumOfValues_25 rfl rfl ?_
      refine g_callVn C _ dX2_sumOfValues_26 (c_X1_isKnownAt l G _ _ _ _ _ _ _ _ _ _ _ _ _ _ hc) kmX2_88 ki_X1_isKnownAt kv_X1_isKnownAt kn_X1 kc_X1_isKnownAt hy_X1_isKnownAt ⟨by decide, by decide⟩ hc rfl rfl (Nat.le_of_ble_eq_true rfl) ⟨by decide, by decide⟩ (fun v w1 hp => ?_)
      obtain ⟨rfl, hw1⟩ := hp
      have hw1 := hw1.symm
      subst hw1
      refine g_if_eq C 40 dX2_sumOfValues_29 (by decide) (fun c29 => ?_) (fun c29 => ?_)
      · have c29 := bI_z.mp c29
        first | refine g_aload C dX2_sumOfValues_40 rfl ?_ | refine g_aloadN C dX2_sumOfValues_40 rfl ?_ | refine g_aloadq C dX2_sumOfValues_40 rfl ?_
        refine g_get C dX2_sumOfValues_42 hc rfl kw_X1 9 (by decide) kfX2_95 rfl rfl ?_
        first | refine g_astore C dX2_sumOfValues_45 (by decide) ?_ | refine g_astoreN C dX2_sumOfValues_45 (by decide) ?_ | refine g_astoreq C dX2_sumOfValues_45 (by decide) ?_
        refine g_goto C 8 dX2_sumOfValues_47 (by decide) ?_
        have e9 : smS ti d th acc i = acc := by simp [smS, c20, c29]
        rw [hla]
        exact ih (r, acc) ⟨hlk', fun j hj => hr2 j (List.mem_cons_of_mem _ hj), (congrArg (fun q => List.foldl (smS ti d th) q r) e9.symm).trans hinv⟩ (Nat.lt_succ_self _)
      · have c29 := bI_nz.mp c29
        refine g_iload_n C dX2_sumOfValues_32 rfl rfl ?_
        first | refine g_aload C dX2_sumOfValues_33 rfl ?_ | refine g_aloadN C dX2_sumOfValues_33 rfl ?_ | refine g_aloadq C dX2_sumOfValues_33 rfl ?_
        refine g_get C dX2_sumOfValues_35 hc rfl kw_X1 5 (by decide) kfX2_121 rfl rfl ?_
        refine g_iadd C dX2_sumOfValues_38 ?_
        refine g_istore_n C dX2_sumOfValues_39 rfl (by decide) ?_
        first | refine g_aload C dX2_sumOfValues_40 rfl ?_ | refine g_aloadN C dX2_sumOfValues_40 rfl ?_ | refine g_aloadq C dX2_sumOfValues_40 rfl ?_
        refine g_get C dX2_sumOfValues_42 hc rfl kw_X1 9 (by decide) kfX2_95 rfl rfl ?_
        first | refine g_astore C dX2_sumOfValues_45 (by decide) ?_ | refine g_astoreN C dX2_sumOfValues_45 (by decide) ?_ | refine g_astoreq C dX2_sumOfValues_45 (by decide) ?_
        refine g_goto C 8 dX2_sumOfValues_47 (by decide) ?_
        have e9 : smS ti d th acc i = (acc + nI (ti i).va) := by simp [smS, c20, c29]
        rw [hla]
        exact ih (r, (acc + nI (ti i).va)) ⟨hlk', fun j hj => hr2 j (List.mem_cons_of_mem _ hj), (congrArg (fun q => List.foldl (smS ti d th) q r) e9.symm).trans hinv⟩ (Nat.lt_succ_self _)

set_option maxHeartbeats 4000000 in
set_option maxRecDepth 100000 in
theorem c_X2_countForgotten (l : Launch) (G : hD) (w : hW) (x tl rw ng cx : Nat) (ad : Nat → Nat) (er : Option Nat) (n : Nat) (ti : Nat → TI) (ch : List Nat) (hx : w x = some (cellX ad tl rw ng cx er n)) (hT : tIn w ad n ti) (hch : ∀ i ∈ ch, i < n) (hlk : lk (fun i => (ti i).la) er ch) : h_Met l yX2_countForgotten (Cond.code yX2_countForgotten cX2_countForgotten 3 (some .int)) { frames := 1, cells := 0, slots := 0, locals := 20 } G [.ref x] w (fun v w' => v = some (.int (ch.foldl (cfS ti) 0)) ∧ w' = w) noX := by
  refine h_met RX2 rfl (by decide) (Nat.le_of_ble_eq_true rfl) (cat_c (by first | rfl | exact rf_cat _) cat_n) ?_
  intro p e s m below meth c A C hnt hr hnm
  have her : er = ch.head? := lk_hd hlk
  refine g_iconst C (v := 0) dX2_countForgotten_0 (by decide) ?_
  refine g_istore_n C dX2_countForgotten_1 rfl (by decide) ?_
  first | refine g_aload_n C dX2_countForgotten_2 rfl rfl ?_ | refine g_aload_nN C dX2_countForgotten_2 rfl rfl ?_ | refine g_aload_nq C dX2_countForgotten_2 rfl rfl ?_
  refine g_get C dX2_countForgotten_3 hx rfl kw_X2 4 (by decide) kfX2_29 rfl rfl ?_
  first | refine g_astore_n C dX2_countForgotten_6 rfl (by decide) ?_ | refine g_astore_nN C dX2_countForgotten_6 rfl (by decide) ?_ | refine g_astore_nq C dX2_countForgotten_6 rfl (by decide) ?_
  rw [her]
  refine g_loop (σ := List Nat × Int32) (fun z => lk (fun i => (ti i).la) z.1.head? z.1 ∧ (∀ i ∈ z.1, i < n) ∧ z.1.foldl (cfS ti) z.2 = ch.foldl (cfS ti) 0) (fun z => z.1.length) (fun _ => w) (fun z => [(0, .ref x), (1, .int z.2), (2, va_rf (z.1.head?.map ad))]) ?_ (ch, 0) ⟨by rw [← lk_hd hlk]; exact hlk, hch, rfl⟩
  rintro ⟨r, acc⟩ ⟨hr1, hr2, hinv⟩ ih
  dsimp only at hr1 hr2 hinv ih ⊢
  cases r with
  | nil =>
    first | refine g_aload_n C dX2_countForgotten_7 rfl rfl ?_ | refine g_aload_nN C dX2_countForgotten_7 rfl rfl ?_ | refine g_aload_nq C dX2_countForgotten_7 rfl rfl ?_
    refine g_ifnullN C 29 dX2_countForgotten_8 (by decide) ?_
    refine g_iload_n C dX2_countForgotten_29 rfl rfl ?_
    exact g_iret C hr dX2_countForgotten_30 (by decide) (by decide) ⟨by rw [← hinv]; rfl, rfl⟩
  | cons i r =>
    have hi : i < n := hr2 i List.mem_cons_self
    have hc := hT i hi
    have hla : (ti i).la = r.head? := lk_hd hr1.2
    have hlk' : lk (fun i => (ti i).la) r.head? r := by rw [← hla]; exact hr1.2
    first | refine g_aload_n C dX2_countForgotten_7 rfl rfl ?_ | refine g_aload_nN C dX2_countForgotten_7 rfl rfl ?_ | refine g_aload_nq C dX2_countForgotten_7 rfl rfl ?_
    refine g_ifnullR C dX2_countForgotten_8 ?_
    first | refine g_aload_n C dX2_countForgotten_11 rfl rfl ?_ | refine g_aload_nN C dX2_countForgotten_11 rfl rfl ?_ | refine g_aload_nq C dX2_countForgotten_11 rfl rfl ?_
    refine g_callVn C _ dX2_countForgotten_12 (c_X1_isForgotten l G _ _ _ _ _ _ _ _ _ _ _ _ _ hc) kmX2_224 ki_X1_isForgotten kv_X1_isForgotten kn_X1 kc_X1_isForgotten hy_X1_isForgotten ⟨by decide, by decide⟩ hc rfl rfl (Nat.le_of_ble_eq_true rfl) ⟨by decide, by decide⟩ (fun v w1 hp => ?_)
    obtain ⟨rfl, hw1⟩ := hp
    have hw1 := hw1.symm
    subst hw1
    refine g_if_eq C 21 dX2_countForgotten_15 (by decide) (fun c15 => ?_) (fun c15 => ?_)
    · have c15 := bI_z.mp c15
      first | refine g_aload_n C dX2_countForgotten_21 rfl rfl ?_ | refine g_aload_nN C dX2_countForgotten_21 rfl rfl ?_ | refine g_aload_nq C dX2_countForgotten_21 rfl rfl ?_
      refine g_get C dX2_countForgotten_22 hc rfl kw_X1 9 (by decide) kfX2_95 rfl rfl ?_
      first | refine g_astore_n C dX2_countForgotten_25 rfl (by decide) ?_ | refine g_astore_nN C dX2_countForgotten_25 rfl (by decide) ?_ | refine g_astore_nq C dX2_countForgotten_25 rfl (by decide) ?_
      refine g_goto C 7 dX2_countForgotten_26 (by decide) ?_
      have e9 : cfS ti acc i = acc := by simp [cfS, c15]
      rw [hla]
      exact ih (r, acc) ⟨hlk', fun j hj => hr2 j (List.mem_cons_of_mem _ hj), (congrArg (fun q => List.foldl (cfS ti) q r) e9.symm).trans hinv⟩ (Nat.lt_succ_self _)
    · have c15 := bI_nz.mp c15
      refine g_iinc C (v := (acc + 1)) dX2_countForgotten_18 rfl (rfl) (by decide) ?_
      first | refine g_aload_n C dX2_countForgotten_21 rfl rfl ?_ | refine g_aload_nN C dX2_countForgotten_21 rfl rfl ?_ | refine g_aload_nq C dX2_countForgotten_21 rfl rfl ?_
      refine g_get C dX2_countForgotten_22 hc rfl kw_X1 9 (by decide) kfX2_95 rfl rfl ?_
      first | refine g_astore_n C dX2_countForgotten_25 rfl (by decide) ?_ | refine g_astore_nN C dX2_countForgotten_25 rfl (by decide) ?_ | refine g_astore_nq C dX2_countForgotten_25 rfl (by decide) ?_
      refine g_goto C 7 dX2_countForgotten_26 (by decide) ?_
      have e9 : cfS ti acc i = (acc + 1) := by simp [cfS, c15]
      rw [hla]
      exact ih (r, (acc + 1)) ⟨hlk', fun j hj => hr2 j (List.mem_cons_of_mem _ hj), (congrArg (fun q => List.foldl (cfS ti) q r) e9.symm).trans hinv⟩ (Nat.lt_succ_self _)

set_option maxHeartbeats 4000000 in
set_option maxRecDepth 100000 in
theorem c_X2_countUnshared (l : Launch) (G : hD) (w : hW) (x tl rw ng cx : Nat) (ad : Nat → Nat) (er : Option Nat) (n : Nat) (ti : Nat → TI) (ch : List Nat) (hx : w x = some (cellX ad tl rw ng cx er n)) (hT : tIn w ad n ti) (hch : ∀ i ∈ ch, i < n) (hlk : lk (fun i => (ti i).la) er ch) : h_Met l yX2_countUnshared (Cond.code yX2_countUnshared cX2_countUnshared 3 (some .int)) { frames := 1, cells := 0, slots := 0, locals := 20 } G [.ref x] w (fun v w' => v = some (.int (ch.foldl (cuS ti) 0)) ∧ w' = w) noX := by
  refine h_met RX2 rfl (by decide) (Nat.le_of_ble_eq_true rfl) (cat_c (by first | rfl | exact rf_cat _) cat_n) ?_
  intro p e s m below meth c A C hnt hr hnm
  have her : er = ch.head? := lk_hd hlk
  refine g_iconst C (v := 0) dX2_countUnshared_0 (by decide) ?_
  refine g_istore_n C dX2_countUnshared_1 rfl (by decide) ?_
  first | refine g_aload_n C dX2_countUnshared_2 rfl rfl ?_ | refine g_aload_nN C dX2_countUnshared_2 rfl rfl ?_ | refine g_aload_nq C dX2_countUnshared_2 rfl rfl ?_
  refine g_get C dX2_countUnshared_3 hx rfl kw_X2 4 (by decide) kfX2_29 rfl rfl ?_
  first | refine g_astore_n C dX2_countUnshared_6 rfl (by decide) ?_ | refine g_astore_nN C dX2_countUnshared_6 rfl (by decide) ?_ | refine g_astore_nq C dX2_countUnshared_6 rfl (by decide) ?_
  rw [her]
  refine g_loop (σ := List Nat × Int32) (fun z => lk (fun i => (ti i).la) z.1.head? z.1 ∧ (∀ i ∈ z.1, i < n) ∧ z.1.foldl (cuS ti) z.2 = ch.foldl (cuS ti) 0) (fun z => z.1.length) (fun _ => w) (fun z => [(0, .ref x), (1, .int z.2), (2, va_rf (z.1.head?.map ad))]) ?_ (ch, 0) ⟨by rw [← lk_hd hlk]; exact hlk, hch, rfl⟩
  rintro ⟨r, acc⟩ ⟨hr1, hr2, hinv⟩ ih
  dsimp only at hr1 hr2 hinv ih ⊢
  cases r with
  | nil =>
    first | refine g_aload_n C dX2_countUnshared_7 rfl rfl ?_ | refine g_aload_nN C dX2_countUnshared_7 rfl rfl ?_ | refine g_aload_nq C dX2_countUnshared_7 rfl rfl ?_
    refine g_ifnullN C 38 dX2_countUnshared_8 (by decide) ?_
    refine g_iload_n C dX2_countUnshared_38 rfl rfl ?_
    exact g_iret C hr dX2_countUnshared_39 (by decide) (by decide) ⟨by rw [← hinv]; rfl, rfl⟩
  | cons i r =>
    have hi : i < n := hr2 i List.mem_cons_self
    have hc := hT i hi
    have hla : (ti i).la = r.head? := lk_hd hr1.2
    have hlk' : lk (fun i => (ti i).la) r.head? r := by rw [← hla]; exact hr1.2
    first | refine g_aload_n C dX2_countUnshared_7 rfl rfl ?_ | refine g_aload_nN C dX2_countUnshared_7 rfl rfl ?_ | refine g_aload_nq C dX2_countUnshared_7 rfl rfl ?_
    refine g_ifnullR C dX2_countUnshared_8 ?_
    first | refine g_aload_n C dX2_countUnshared_11 rfl rfl ?_ | refine g_aload_nN C dX2_countUnshared_11 rfl rfl ?_ | refine g_aload_nq C dX2_countUnshared_11 rfl rfl ?_
    refine g_callVn C _ dX2_countUnshared_12 (c_X1_isForgotten l G _ _ _ _ _ _ _ _ _ _ _ _ _ hc) kmX2_224 ki_X1_isForgotten kv_X1_isForgotten kn_X1 kc_X1_isForgotten hy_X1_isForgotten ⟨by decide, by decide⟩ hc rfl rfl (Nat.le_of_ble_eq_true rfl) ⟨by decide, by decide⟩ (fun v w1 hp => ?_)
    obtain ⟨rfl, hw1⟩ := hp
    have hw1 := hw1.symm
    subst hw1
    refine g_if_ne C 30 dX2_countUnshared_15 (by decide) (fun c15 => ?_) (fun c15 => ?_)
    · have c15 := bI_nz.mp c15
      first | refine g_aload_n C dX2_countUnshared_30 rfl rfl ?_ | refine g_aload_nN C dX2_countUnshared_30 rfl rfl ?_ | refine g_aload_nq C dX2_countUnshared_30 rfl rfl ?_
      refine g_get C dX2_countUnshared_31 hc rfl kw_X1 9 (by decide) kfX2_95 rfl rfl ?_
      first | refine g_astore_n C dX2_countUnshared_34 rfl (by decide) ?_ | refine g_astore_nN C dX2_countUnshared_34 rfl (by decide) ?_ | refine g_astore_nq C dX2_countUnshared_34 rfl (by decide) ?_
      refine g_goto C 7 dX2_countUnshared_35 (by decide) ?_
      have e9 : cuS ti acc i = acc := by simp [cuS, c15]
      rw [hla]
      exact ih (r, acc) ⟨hlk', fun j hj => hr2 j (List.mem_cons_of_mem _ hj), (congrArg (fun q => List.foldl (cuS ti) q r) e9.symm).trans hinv⟩ (Nat.lt_succ_self _)
    · have c15 := bI_z.mp c15
      first | refine g_aload_n C dX2_countUnshared_18 rfl rfl ?_ | refine g_aload_nN C dX2_countUnshared_18 rfl rfl ?_ | refine g_aload_nq C dX2_countUnshared_18 rfl rfl ?_
      refine g_get C dX2_countUnshared_19 hc rfl kw_X1 6 (by decide) kfX2_221 rfl rfl ?_
      refine g_bipush C (v := 63) dX2_countUnshared_22 (by decide) ?_
      refine g_icmp_eq C 30 dX2_countUnshared_24 (by decide) (fun c24 => ?_) (fun c24 => ?_)
      · first | refine g_aload_n C dX2_countUnshared_30 rfl rfl ?_ | refine g_aload_nN C dX2_countUnshared_30 rfl rfl ?_ | refine g_aload_nq C dX2_countUnshared_30 rfl rfl ?_
        refine g_get C dX2_countUnshared_31 hc rfl kw_X1 9 (by decide) kfX2_95 rfl rfl ?_
        first | refine g_astore_n C dX2_countUnshared_34 rfl (by decide) ?_ | refine g_astore_nN C dX2_countUnshared_34 rfl (by decide) ?_ | refine g_astore_nq C dX2_countUnshared_34 rfl (by decide) ?_
        refine g_goto C 7 dX2_countUnshared_35 (by decide) ?_
        have e9 : cuS ti acc i = acc := by simp [cuS, c15, c24]
        rw [hla]
        exact ih (r, acc) ⟨hlk', fun j hj => hr2 j (List.mem_cons_of_mem _ hj), (congrArg (fun q => List.foldl (cuS ti) q r) e9.symm).trans hinv⟩ (Nat.lt_succ_self _)
      · refine g_iinc C (v := (acc + 1)) dX2_countUnshared_27 rfl (rfl) (by decide) ?_
        first | refine g_aload_n C dX2_countUnshared_30 rfl rfl ?_ | refine g_aload_nN C dX2_countUnshared_30 rfl rfl ?_ | refine g_aload_nq C dX2_countUnshared_30 rfl rfl ?_
        refine g_get C dX2_countUnshared_31 hc rfl kw_X1 9 (by decide) kfX2_95 rfl rfl ?_
        first | refine g_astore_n C dX2_countUnshared_34 rfl (by decide) ?_ | refine g_astore_nN C dX2_countUnshared_34 rfl (by decide) ?_ | refine g_astore_nq C dX2_countUnshared_34 rfl (by decide) ?_
        refine g_goto C 7 dX2_countUnshared_35 (by decide) ?_
        have e9 : cuS ti acc i = (acc + 1) := by simp [cuS, c15, c24]
        rw [hla]
        exact ih (r, (acc + 1)) ⟨hlk', fun j hj => hr2 j (List.mem_cons_of_mem _ hj), (congrArg (fun q => List.foldl (cuS ti) q r) e9.symm).trans hinv⟩ (Nat.lt_succ_self _)

