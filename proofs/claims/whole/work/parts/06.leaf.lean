/-! ===== leaves: the cells of a telling; what its own methods answer ===== -/
theorem cat_n : ∀ v ∈ ([] : List Value), v.category = 1 := fun _ h => by cases h
theorem cat_c {x : Value} {l : List Value} (h : x.category = 1) (t : ∀ v ∈ l, v.category = 1) : ∀ v ∈ x :: l, v.category = 1 := fun v hv => (List.mem_cons.mp hv).elim (fun e => e ▸ h) (t v)
def bI (b : Bool) : Int32 := cond b 1 0
theorem bI_t {b : Bool} (h : b = true) : (1 : Int32) = bI b := by rw [h]; rfl
theorem bI_f {b : Bool} (h : b = false) : (0 : Int32) = bI b := by rw [h]; rfl
theorem bI_1 {P : Prop} [Decidable P] (h : P) : (1 : Int32) = bI (decide P) := bI_t (decide_eq_true h)
theorem bI_0 {P : Prop} [Decidable P] (h : ¬ P) : (0 : Int32) = bI (decide P) := bI_f (decide_eq_false h)
/-- a telling's cell -/
abbrev tC (id dk st so th va kn en op : Int32) (la ne : Option Nat) : va_E := eO 1 [.int id, .int dk, .int st, .int so, .int th, .int va, .int kn, .int en, .int op, va_rf la, va_rf ne]
/-- the bit of a desk in a mask -/
def kb (k d : Int32) : Bool := decide ((k >>> (d &&& 31)) &&& 1 = 1)
theorem ht_IA1 : ∀ x ∈ (vx_atS RX2 72 nIA hNames).filter goodWord, x ∈ hAll := fun x hx => List.mem_filter.mpr ⟨(by revert x; decide +kernel : x ∈ lw_tbl), (List.mem_filter.mp hx).2⟩
theorem ht_IA2 : ∀ x ∈ (vx_atS RX2 72 nIA hNames).filter (fun x => !goodWord x), x ∈ hDcl.map Cond.declares ++ hExc.map (fun x => Cond.castable x x) := by decide +kernel
theorem ht_IA3 : ∀ x ∈ Cond.classLink RX2 68 nIA :: Cond.initialized nIA :: vx_atS RX2 72 nIA hNames, vx_ot x = true := by decide +kernel
theorem ht_IS1 : ∀ x ∈ (vx_atS RX2 102 nIS hNames).filter goodWord, x ∈ hAll := fun x hx => List.mem_filter.mpr ⟨(by revert x; decide +kernel : x ∈ lw_tbl), (List.mem_filter.mp hx).2⟩
theorem ht_IS2 : ∀ x ∈ (vx_atS RX2 102 nIS hNames).filter (fun x => !goodWord x), x ∈ hDcl.map Cond.declares ++ hExc.map (fun x => Cond.castable x x) := by decide +kernel
theorem ht_IS3 : ∀ x ∈ Cond.classLink RX2 98 nIS :: Cond.initialized nIS :: vx_atS RX2 102 nIS hNames, vx_ot x = true := by decide +kernel

set_option maxHeartbeats 4000000 in
set_option maxRecDepth 100000 in
theorem c_X1_isKnownAt (l : Launch) (G : hD) (w : hW) (a : Nat) (id dk st so th va kn en op : Int32) (la ne : Option Nat) (d : Int32) (hc : w a = some (tC id dk st so th va kn en op la ne)) : h_Met l yX1_isKnownAt (Cond.code yX1_isKnownAt cX1_isKnownAt 2 (some .boolean)) { frames := 0, cells := 0, slots := 0, locals := 0 } G [.ref a, .int d] w (fun v w' => v = some (.int (bI (kb kn d))) ∧ w' = w) noX := by
  refine h_met RX1 rfl (by decide) (Nat.le_of_ble_eq_true rfl) (cat_c (by first | rfl | exact rf_cat _) (cat_c (by first | rfl | exact rf_cat _) cat_n)) ?_
  intro p e s m below meth c A C hnt hr hnm
  first | refine g_aload_n C dX1_isKnownAt_0 rfl rfl ?_ | refine g_aload_nN C dX1_isKnownAt_0 rfl rfl ?_ | refine g_aload_nq C dX1_isKnownAt_0 rfl rfl ?_
  refine g_get C dX1_isKnownAt_1 hc rfl kw_X1 6 (by decide) kfX1_28 rfl rfl ?_
  refine g_iload_n C dX1_isKnownAt_4 rfl rfl ?_
  refine g_ishr C dX1_isKnownAt_5 ?_
  refine g_iconst C (v := 1) dX1_isKnownAt_6 (by decide) ?_
  refine g_iand C dX1_isKnownAt_7 ?_
  refine g_iconst C (v := 1) dX1_isKnownAt_8 (by decide) ?_
  refine g_icmp_ne C 16 dX1_isKnownAt_9 (by decide) (fun c9 => ?_) (fun c9 => ?_)
  · refine g_iconst C (v := 0) dX1_isKnownAt_16 (by decide) ?_
    exact g_zret C hr rfl dX1_isKnownAt_17 (by decide) (by decide) ⟨by simp [kb, bI, c9], rfl⟩
  · refine g_iconst C (v := 1) dX1_isKnownAt_12 (by decide) ?_
    refine g_goto C 17 dX1_isKnownAt_13 (by decide) ?_
    exact g_zret C hr rfl dX1_isKnownAt_17 (by decide) (by decide) ⟨by simp [kb, bI, c9], rfl⟩

set_option maxHeartbeats 4000000 in
set_option maxRecDepth 100000 in
theorem c_X1_isEndedAt (l : Launch) (G : hD) (w : hW) (a : Nat) (id dk st so th va kn en op : Int32) (la ne : Option Nat) (d : Int32) (hc : w a = some (tC id dk st so th va kn en op la ne)) : h_Met l yX1_isEndedAt (Cond.code yX1_isEndedAt cX1_isEndedAt 2 (some .boolean)) { frames := 0, cells := 0, slots := 0, locals := 0 } G [.ref a, .int d] w (fun v w' => v = some (.int (bI (kb en d))) ∧ w' = w) noX := by
  refine h_met RX1 rfl (by decide) (Nat.le_of_ble_eq_true rfl) (cat_c (by first | rfl | exact rf_cat _) (cat_c (by first | rfl | exact rf_cat _) cat_n)) ?_
  intro p e s m below meth c A C hnt hr hnm
  first | refine g_aload_n C dX1_isEndedAt_0 rfl rfl ?_ | refine g_aload_nN C dX1_isEndedAt_0 rfl rfl ?_ | refine g_aload_nq C dX1_isEndedAt_0 rfl rfl ?_
  refine g_get C dX1_isEndedAt_1 hc rfl kw_X1 7 (by decide) kfX1_31 rfl rfl ?_
  refine g_iload_n C dX1_isEndedAt_4 rfl rfl ?_
  refine g_ishr C dX1_isEndedAt_5 ?_
  refine g_iconst C (v := 1) dX1_isEndedAt_6 (by decide) ?_
  refine g_iand C dX1_isEndedAt_7 ?_
  refine g_iconst C (v := 1) dX1_isEndedAt_8 (by decide) ?_
  refine g_icmp_ne C 16 dX1_isEndedAt_9 (by decide) (fun c9 => ?_) (fun c9 => ?_)
  · refine g_iconst C (v := 0) dX1_isEndedAt_16 (by decide) ?_
    exact g_zret C hr rfl dX1_isEndedAt_17 (by decide) (by decide) ⟨by simp [kb, bI, c9], rfl⟩
  · refine g_iconst C (v := 1) dX1_isEndedAt_12 (by decide) ?_
    refine g_goto C 17 dX1_isEndedAt_13 (by decide) ?_
    exact g_zret C hr rfl dX1_isEndedAt_17 (by decide) (by decide) ⟨by simp [kb, bI, c9], rfl⟩

/-- by stamp, then by desk -/
def later2 (s1 d1 s2 d2 : Int32) : Bool := cond (decide (s1 = s2)) (!decide (d1 ≤ d2)) (!decide (s1 ≤ s2))
set_option maxHeartbeats 4000000 in
set_option maxRecDepth 100000 in
theorem c_X1_isLaterThan (l : Launch) (G : hD) (w : hW) (a : Nat) (id dk st so th va kn en op : Int32) (la ne : Option Nat) (b : Nat) (id2 dk2 st2 so2 th2 va2 kn2 en2 op2 : Int32) (la2 ne2 : Option Nat)(hc : w a = some (tC id dk st so th va kn en op la ne)) (hc2 : w b = some (tC id2 dk2 st2 so2 th2 va2 kn2 en2 op2 la2 ne2)) : h_Met l yX1_isLaterThan (Cond.code yX1_isLaterThan cX1_isLaterThan 2 (some .boolean)) { frames := 0, cells := 0, slots := 0, locals := 0 } G [.ref a, .ref b] w (fun v w' => v = some (.int (bI (later2 st dk st2 dk2))) ∧ w' = w) noX := by
  refine h_met RX1 rfl (by decide) (Nat.le_of_ble_eq_true rfl) (cat_c (by first | rfl | exact rf_cat _) (cat_c (by first | rfl | exact rf_cat _) cat_n)) ?_
  intro p e s m below meth c A C hnt hr hnm
  first | refine g_aload_n C dX1_isLaterThan_0 rfl rfl ?_ | refine g_aload_nN C dX1_isLaterThan_0 rfl rfl ?_ | refine g_aload_nq C dX1_isLaterThan_0 rfl rfl ?_
  refine g_get C dX1_isLaterThan_1 hc rfl kw_X1 2 (by decide) kfX1_16 rfl rfl ?_
  first | refine g_aload_n C dX1_isLaterThan_4 rfl rfl ?_ | refine g_aload_nN C dX1_isLaterThan_4 rfl rfl ?_ | refine g_aload_nq C dX1_isLaterThan_4 rfl rfl ?_
  refine g_get C dX1_isLaterThan_5 hc2 rfl kw_X1 2 (by decide) kfX1_16 rfl rfl ?_
  refine g_icmp_eq C 30 dX1_isLaterThan_8 (by decide) (fun c8 => ?_) (fun c8 => ?_)
  · first | refine g_aload_n C dX1_isLaterThan_30 rfl rfl ?_ | refine g_aload_nN C dX1_isLaterThan_30 rfl rfl ?_ | refine g_aload_nq C dX1_isLaterThan_30 rfl rfl ?_
    refine g_get C dX1_isLaterThan_31 hc rfl kw_X1 1 (by decide) kfX1_13 rfl rfl ?_
    first | refine g_aload_n C dX1_isLaterThan_34 rfl rfl ?_ | refine g_aload_nN C dX1_isLaterThan_34 rfl rfl ?_ | refine g_aload_nq C dX1_isLaterThan_34 rfl rfl ?_
    refine g_get C dX1_isLaterThan_35 hc2 rfl kw_X1 1 (by decide) kfX1_13 rfl rfl ?_
    refine g_icmp_le C 45 dX1_isLaterThan_38 (by decide) (fun c38 => ?_) (fun c38 => ?_)
    · refine g_iconst C (v := 0) dX1_isLaterThan_45 (by decide) ?_
      exact g_zret C hr rfl dX1_isLaterThan_46 (by decide) (by decide) ⟨by simp [later2, bI, c8, c38], rfl⟩
    · refine g_iconst C (v := 1) dX1_isLaterThan_41 (by decide) ?_
      refine g_goto C 46 dX1_isLaterThan_42 (by decide) ?_
      exact g_zret C hr rfl dX1_isLaterThan_46 (by decide) (by decide) ⟨by simp [later2, bI, c8, c38], rfl⟩
  · first | refine g_aload_n C dX1_isLaterThan_11 rfl rfl ?_ | refine g_aload_nN C dX1_isLaterThan_11 rfl rfl ?_ | refine g_aload_nq C dX1_isLaterThan_11 rfl rfl ?_
    refine g_get C dX1_isLaterThan_12 hc rfl kw_X1 2 (by decide) kfX1_16 rfl rfl ?_
    first | refine g_aload_n C dX1_isLaterThan_15 rfl rfl ?_ | refine g_aload_nN C dX1_isLaterThan_15 rfl rfl ?_ | refine g_aload_nq C dX1_isLaterThan_15 rfl rfl ?_
    refine g_get C dX1_isLaterThan_16 hc2 rfl kw_X1 2 (by decide) kfX1_16 rfl rfl ?_
    refine g_icmp_le C 26 dX1_isLaterThan_19 (by decide) (fun c19 => ?_) (fun c19 => ?_)
    · refine g_iconst C (v := 0) dX1_isLaterThan_26 (by decide) ?_
      refine g_goto C 46 dX1_isLaterThan_27 (by decide) ?_
      exact g_zret C hr rfl dX1_isLaterThan_46 (by decide) (by decide) ⟨by simp [later2, bI, c8, c19], rfl⟩
    · refine g_iconst C (v := 1) dX1_isLaterThan_22 (by decide) ?_
      refine g_goto C 46 dX1_isLaterThan_23 (by decide) ?_
      exact g_zret C hr rfl dX1_isLaterThan_46 (by decide) (by decide) ⟨by simp [later2, bI, c8, c19], rfl⟩

set_option maxHeartbeats 4000000 in
set_option maxRecDepth 100000 in
theorem c_X1_isOfField (l : Launch) (G : hD) (w : hW) (a : Nat) (id dk st so th va kn en op : Int32) (la ne : Option Nat) (x y : Int32) (hc : w a = some (tC id dk st so th va kn en op la ne)) : h_Met l yX1_isOfField (Cond.code yX1_isOfField cX1_isOfField 3 (some .boolean)) { frames := 0, cells := 0, slots := 0, locals := 0 } G [.ref a, .int x, .int y] w (fun v w' => v = some (.int (bI (decide (th = x) && decide (so = y)))) ∧ w' = w) noX := by
  refine h_met RX1 rfl (by decide) (Nat.le_of_ble_eq_true rfl) (cat_c (by first | rfl | exact rf_cat _) (cat_c (by first | rfl | exact rf_cat _) (cat_c (by first | rfl | exact rf_cat _) cat_n))) ?_
  intro p e s m below meth c A C hnt hr hnm
  first | refine g_aload_n C dX1_isOfField_0 rfl rfl ?_ | refine g_aload_nN C dX1_isOfField_0 rfl rfl ?_ | refine g_aload_nq C dX1_isOfField_0 rfl rfl ?_
  refine g_get C dX1_isOfField_1 hc rfl kw_X1 4 (by decide) kfX1_22 rfl rfl ?_
  refine g_iload_n C dX1_isOfField_4 rfl rfl ?_
  refine g_icmp_ne C 20 dX1_isOfField_5 (by decide) (fun c5 => ?_) (fun c5 => ?_)
  · refine g_iconst C (v := 0) dX1_isOfField_20 (by decide) ?_
    exact g_zret C hr rfl dX1_isOfField_21 (by decide) (by decide) ⟨by simp [bI, c5], rfl⟩
  · first | refine g_aload_n C dX1_isOfField_8 rfl rfl ?_ | refine g_aload_nN C dX1_isOfField_8 rfl rfl ?_ | refine g_aload_nq C dX1_isOfField_8 rfl rfl ?_
    refine g_get C dX1_isOfField_9 hc rfl kw_X1 3 (by decide) kfX1_19 rfl rfl ?_
    refine g_iload_n C dX1_isOfField_12 rfl rfl ?_
    refine g_icmp_ne C 20 dX1_isOfField_13 (by decide) (fun c13 => ?_) (fun c13 => ?_)
    · refine g_iconst C (v := 0) dX1_isOfField_20 (by decide) ?_
      exact g_zret C hr rfl dX1_isOfField_21 (by decide) (by decide) ⟨by simp [bI, c5, c13], rfl⟩
    · refine g_iconst C (v := 1) dX1_isOfField_16 (by decide) ?_
      refine g_goto C 21 dX1_isOfField_17 (by decide) ?_
      exact g_zret C hr rfl dX1_isOfField_21 (by decide) (by decide) ⟨by simp [bI, c5, c13], rfl⟩

set_option maxHeartbeats 4000000 in
set_option maxRecDepth 100000 in
theorem c_X1_isForgotten (l : Launch) (G : hD) (w : hW) (a : Nat) (id dk st so th va kn en op : Int32) (la ne : Option Nat)(hc : w a = some (tC id dk st so th va kn en op la ne)) : h_Met l yX1_isForgotten (Cond.code yX1_isForgotten cX1_isForgotten 1 (some .boolean)) { frames := 0, cells := 0, slots := 0, locals := 0 } G [.ref a] w (fun v w' => v = some (.int (bI (decide (kn = 0)))) ∧ w' = w) noX := by
  refine h_met RX1 rfl (by decide) (Nat.le_of_ble_eq_true rfl) (cat_c (by first | rfl | exact rf_cat _) cat_n) ?_
  intro p e s m below meth c A C hnt hr hnm
  first | refine g_aload_n C dX1_isForgotten_0 rfl rfl ?_ | refine g_aload_nN C dX1_isForgotten_0 rfl rfl ?_ | refine g_aload_nq C dX1_isForgotten_0 rfl rfl ?_
  refine g_get C dX1_isForgotten_1 hc rfl kw_X1 6 (by decide) kfX1_28 rfl rfl ?_
  refine g_if_ne C 11 dX1_isForgotten_4 (by decide) (fun c4 => ?_) (fun c4 => ?_)
  · refine g_iconst C (v := 0) dX1_isForgotten_11 (by decide) ?_
    exact g_zret C hr rfl dX1_isForgotten_12 (by decide) (by decide) ⟨by simp [bI, c4], rfl⟩
  · refine g_iconst C (v := 1) dX1_isForgotten_7 (by decide) ?_
    refine g_goto C 12 dX1_isForgotten_8 (by decide) ?_
    exact g_zret C hr rfl dX1_isForgotten_12 (by decide) (by decide) ⟨by simp [bI, c4], rfl⟩

set_option maxHeartbeats 4000000 in
set_option maxRecDepth 100000 in
theorem c_X1_forget (l : Launch) (G : hD) (w : hW) (a : Nat) (id dk st so th va kn en op : Int32) (la ne : Option Nat)(hc : w a = some (tC id dk st so th va kn en op la ne)) : h_Met l yX1_forget (Cond.code yX1_forget cX1_forget 1 none) { frames := 0, cells := 0, slots := 0, locals := 0 } G [.ref a] w (fun v w' => v = none ∧ w' = h_up w a (tC id dk st so th va 0 en op la ne)) noX := by
  refine h_met RX1 rfl (by decide) (Nat.le_of_ble_eq_true rfl) (cat_c (by first | rfl | exact rf_cat _) cat_n) ?_
  intro p e s m below meth c A C hnt hr hnm
  first | refine g_aload_n C dX1_forget_0 rfl rfl ?_ | refine g_aload_nN C dX1_forget_0 rfl rfl ?_ | refine g_aload_nq C dX1_forget_0 rfl rfl ?_
  refine g_iconst C (v := 0) dX1_forget_1 (by decide) ?_
  refine g_put C dX1_forget_2 hc rfl kw_X1 tyX1 tyX1_ok nmX1 6 (by decide) kfX1_28 rfl rfl rfl rfl (Nat.le_of_ble_eq_true rfl) ?_
  exact g_vret C hr dX1_forget_5 (by decide) (by decide) ⟨rfl, rfl⟩

/-- a mask with one more desk -/
def kor (k d : Int32) : Int32 := k ||| ((1 : Int32) <<< (d &&& 31))
set_option maxHeartbeats 4000000 in
set_option maxRecDepth 100000 in
theorem c_X1_endAt (l : Launch) (G : hD) (w : hW) (a : Nat) (id dk st so th va kn en op : Int32) (la ne : Option Nat) (d : Int32) (hc : w a = some (tC id dk st so th va kn en op la ne)) : h_Met l yX1_endAt (Cond.code yX1_endAt cX1_endAt 2 none) { frames := 0, cells := 0, slots := 0, locals := 0 } G [.ref a, .int d] w (fun v w' => v = none ∧ w' = h_up w a (tC id dk st so th va kn (kor en d) op la ne)) noX := by
  refine h_met RX1 rfl (by decide) (Nat.le_of_ble_eq_true rfl) (cat_c (by first | rfl | exact rf_cat _) (cat_c (by first | rfl | exact rf_cat _) cat_n)) ?_
  intro p e s m below meth c A C hnt hr hnm
  first | refine g_aload_n C dX1_endAt_0 rfl rfl ?_ | refine g_aload_nN C dX1_endAt_0 rfl rfl ?_ | refine g_aload_nq C dX1_endAt_0 rfl rfl ?_
  refine g_dup C dX1_endAt_1 rfl ?_
  refine g_get C dX1_endAt_2 hc rfl kw_X1 7 (by decide) kfX1_31 rfl rfl ?_
  refine g_iconst C (v := 1) dX1_endAt_5 (by decide) ?_
  refine g_iload_n C dX1_endAt_6 rfl rfl ?_
  refine g_ishl C dX1_endAt_7 ?_
  refine g_ior C dX1_endAt_8 ?_
  refine g_put C dX1_endAt_9 hc rfl kw_X1 tyX1 tyX1_ok nmX1 7 (by decide) kfX1_31 rfl rfl rfl rfl (Nat.le_of_ble_eq_true rfl) ?_
  exact g_vret C hr dX1_endAt_12 (by decide) (by decide) ⟨rfl, rfl⟩

/-- a mask with what stands at one desk passed to another -/
def kpass (k f t : Int32) : Int32 := k ||| (((k >>> (f &&& 31)) &&& 1) <<< (t &&& 31))
theorem h_up_up (w : hW) (a : Nat) (e f : va_E) : h_up (h_up w a e) a f = h_up w a f := by
  funext q
  unfold h_up
  split <;> rfl
set_option maxHeartbeats 4000000 in
set_option maxRecDepth 100000 in
theorem c_X1_pass (l : Launch) (G : hD) (w : hW) (a : Nat) (id dk st so th va kn en op : Int32) (la ne : Option Nat) (d1 d2 : Int32) (hc : w a = some (tC id dk st so th va kn en op la ne)) : h_Met l yX1_pass (Cond.code yX1_pass cX1_pass 3 none) { frames := 0, cells := 0, slots := 0, locals := 0 } G [.ref a, .int d1, .int d2] w (fun v w' => v = none ∧ w' = h_up w a (tC id dk st so th va (kpass kn d1 d2) (kpass en d1 d2) op la ne)) noX := by
  refine h_met RX1 rfl (by decide) (Nat.le_of_ble_eq_true rfl) (cat_c (by first | rfl | exact rf_cat _) (cat_c (by first | rfl | exact rf_cat _) (cat_c (by first | rfl | exact rf_cat _) cat_n))) ?_
  intro p e s m below meth c A C hnt hr hnm
  first | refine g_aload_n C dX1_pass_0 rfl rfl ?_ | refine g_aload_nN C dX1_pass_0 rfl rfl ?_ | refine g_aload_nq C dX1_pass_0 rfl rfl ?_
  refine g_dup C dX1_pass_1 rfl ?_
  refine g_get C dX1_pass_2 hc rfl kw_X1 6 (by decide) kfX1_28 rfl rfl ?_
  first | refine g_aload_n C dX1_pass_5 rfl rfl ?_ | refine g_aload_nN C dX1_pass_5 rfl rfl ?_ | refine g_aload_nq C dX1_pass_5 rfl rfl ?_
  refine g_get C dX1_pass_6 hc rfl kw_X1 6 (by decide) kfX1_28 rfl rfl ?_
  refine g_iload_n C dX1_pass_9 rfl rfl ?_
  refine g_ishr C dX1_pass_10 ?_
  refine g_iconst C (v := 1) dX1_pass_11 (by decide) ?_
  refine g_iand C dX1_pass_12 ?_
  refine g_iload_n C dX1_pass_13 rfl rfl ?_
  refine g_ishl C dX1_pass_14 ?_
  refine g_ior C dX1_pass_15 ?_
  refine g_put C dX1_pass_16 hc rfl kw_X1 tyX1 tyX1_ok nmX1 6 (by decide) kfX1_28 rfl rfl rfl rfl (Nat.le_of_ble_eq_true rfl) ?_
  first | refine g_aload_n C dX1_pass_19 rfl rfl ?_ | refine g_aload_nN C dX1_pass_19 rfl rfl ?_ | refine g_aload_nq C dX1_pass_19 rfl rfl ?_
  refine g_dup C dX1_pass_20 rfl ?_
  refine g_get C dX1_pass_21 (h_up_s _ _ _) rfl kw_X1 7 (by decide) kfX1_31 rfl rfl ?_
  first | refine g_aload_n C dX1_pass_24 rfl rfl ?_ | refine g_aload_nN C dX1_pass_24 rfl rfl ?_ | refine g_aload_nq C dX1_pass_24 rfl rfl ?_
  refine g_get C dX1_pass_25 (h_up_s _ _ _) rfl kw_X1 7 (by decide) kfX1_31 rfl rfl ?_
  refine g_iload_n C dX1_pass_28 rfl rfl ?_
  refine g_ishr C dX1_pass_29 ?_
  refine g_iconst C (v := 1) dX1_pass_30 (by decide) ?_
  refine g_iand C dX1_pass_31 ?_
  refine g_iload_n C dX1_pass_32 rfl rfl ?_
  refine g_ishl C dX1_pass_33 ?_
  refine g_ior C dX1_pass_34 ?_
  refine g_put C dX1_pass_35 (h_up_s _ _ _) rfl kw_X1 tyX1 tyX1_ok nmX1 7 (by decide) kfX1_31 rfl rfl rfl rfl (Nat.le_of_ble_eq_true rfl) ?_
  refine g_vret C hr dX1_pass_38 (by decide) (by decide) ⟨rfl, ?_⟩
  exact h_up_up _ _ _ _

set_option maxHeartbeats 4000000 in
set_option maxRecDepth 100000 in
theorem c_X1_init (l : Launch) (G : hD) (w : hW) (a : Nat) (id dk st so th va kn en op : Int32) (la ne : Option Nat) (id' dk' st' so' th' va' : Int32) (hc : w a = some (tC id dk st so th va kn en op la ne)) : h_Met l yX1_init (Cond.code yX1_init cX1_init 7 none) { frames := 1, cells := 0, slots := 0, locals := 12 } G [.ref a, .int id', .int dk', .int st', .int so', .int th', .int va'] w (fun v w' => v = none ∧ w' = h_up w a (tC id' dk' st' so' th' va' ((1 : Int32) <<< (dk' &&& 31)) 0 0 none none)) noX := by
  refine h_met RX1 rfl (by decide) (Nat.le_of_ble_eq_true rfl) (cat_c (by first | rfl | exact rf_cat _) (cat_c (by first | rfl | exact rf_cat _) (cat_c (by first | rfl | exact rf_cat _) (cat_c (by first | rfl | exact rf_cat _) (cat_c (by first | rfl | exact rf_cat _) (cat_c (by first | rfl | exact rf_cat _) (cat_c (by first | rfl | exact rf_cat _) cat_n))))))) ?_
  intro p e s m below meth c A C hnt hr hnm
  first | refine g_aload_n C dX1_init_0 rfl rfl ?_ | refine g_aload_nN C dX1_init_0 rfl rfl ?_ | refine g_aload_nq C dX1_init_0 rfl rfl ?_
  refine g_objInit C dX1_init_1 kmX1_1 (by decide) (Nat.le_of_ble_eq_true rfl) ?_
  first | refine g_aload_n C dX1_init_4 rfl rfl ?_ | refine g_aload_nN C dX1_init_4 rfl rfl ?_ | refine g_aload_nq C dX1_init_4 rfl rfl ?_
  refine g_iload_n C dX1_init_5 rfl rfl ?_
  refine g_putF C dX1_init_6 hc rfl kw_X1 tyX1 tyX1_ok nmX1 0 (by decide) kfX1_7 rfl rfl hnm rfl rfl rfl (Nat.le_of_ble_eq_true rfl) ?_
  first | refine g_aload_n C dX1_init_9 rfl rfl ?_ | refine g_aload_nN C dX1_init_9 rfl rfl ?_ | refine g_aload_nq C dX1_init_9 rfl rfl ?_
  refine g_iload_n C dX1_init_10 rfl rfl ?_
  refine g_putF C dX1_init_11 (h_up_s _ _ _) rfl kw_X1 tyX1 tyX1_ok nmX1 1 (by decide) kfX1_13 rfl rfl hnm rfl rfl rfl (Nat.le_of_ble_eq_true rfl) ?_
  first | refine g_aload_n C dX1_init_14 rfl rfl ?_ | refine g_aload_nN C dX1_init_14 rfl rfl ?_ | refine g_aload_nq C dX1_init_14 rfl rfl ?_
  refine g_iload_n C dX1_init_15 rfl rfl ?_
  refine g_putF C dX1_init_16 (h_up_s _ _ _) rfl kw_X1 tyX1 tyX1_ok nmX1 2 (by decide) kfX1_16 rfl rfl hnm rfl rfl rfl (Nat.le_of_ble_eq_true rfl) ?_
  first | refine g_aload_n C dX1_init_19 rfl rfl ?_ | refine g_aload_nN C dX1_init_19 rfl rfl ?_ | refine g_aload_nq C dX1_init_19 rfl rfl ?_
  refine g_iload C dX1_init_20 rfl ?_
  refine g_putF C dX1_init_22 (h_up_s _ _ _) rfl kw_X1 tyX1 tyX1_ok nmX1 3 (by decide) kfX1_19 rfl rfl hnm rfl rfl rfl (Nat.le_of_ble_eq_true rfl) ?_
  first | refine g_aload_n C dX1_init_25 rfl rfl ?_ | refine g_aload_nN C dX1_init_25 rfl rfl ?_ | refine g_aload_nq C dX1_init_25 rfl rfl ?_
  refine g_iload C dX1_init_26 rfl ?_
  refine g_putF C dX1_init_28 (h_up_s _ _ _) rfl kw_X1 tyX1 tyX1_ok nmX1 4 (by decide) kfX1_22 rfl rfl hnm rfl rfl rfl (Nat.le_of_ble_eq_true rfl) ?_
  first | refine g_aload_n C dX1_init_31 rfl rfl ?_ | refine g_aload_nN C dX1_init_31 rfl rfl ?_ | refine g_aload_nq C dX1_init_31 rfl rfl ?_
  refine g_iload C dX1_init_32 rfl ?_
  refine g_putF C dX1_init_34 (h_up_s _ _ _) rfl kw_X1 tyX1 tyX1_ok nmX1 5 (by decide) kfX1_25 rfl rfl hnm rfl rfl rfl (Nat.le_of_ble_eq_true rfl) ?_
  first | refine g_aload_n C dX1_init_37 rfl rfl ?_ | refine g_aload_nN C dX1_init_37 rfl rfl ?_ | refine g_aload_nq C dX1_init_37 rfl rfl ?_
  refine g_iconst C (v := 1) dX1_init_38 (by decide) ?_
  refine g_iload_n C dX1_init_39 rfl rfl ?_
  refine g_ishl C dX1_init_40 ?_
  refine g_put C dX1_init_41 (h_up_s _ _ _) rfl kw_X1 tyX1 tyX1_ok nmX1 6 (by decide) kfX1_28 rfl rfl rfl rfl (Nat.le_of_ble_eq_true rfl) ?_
  first | refine g_aload_n C dX1_init_44 rfl rfl ?_ | refine g_aload_nN C dX1_init_44 rfl rfl ?_ | refine g_aload_nq C dX1_init_44 rfl rfl ?_
  refine g_iconst C (v := 0) dX1_init_45 (by decide) ?_
  refine g_put C dX1_init_46 (h_up_s _ _ _) rfl kw_X1 tyX1 tyX1_ok nmX1 7 (by decide) kfX1_31 rfl rfl rfl rfl (Nat.le_of_ble_eq_true rfl) ?_
  first | refine g_aload_n C dX1_init_49 rfl rfl ?_ | refine g_aload_nN C dX1_init_49 rfl rfl ?_ | refine g_aload_nq C dX1_init_49 rfl rfl ?_
  refine g_iconst C (v := 0) dX1_init_50 (by decide) ?_
  refine g_put C dX1_init_51 (h_up_s _ _ _) rfl kw_X1 tyX1 tyX1_ok nmX1 8 (by decide) kfX1_34 rfl rfl rfl rfl (Nat.le_of_ble_eq_true rfl) ?_
  first | refine g_aload_n C dX1_init_54 rfl rfl ?_ | refine g_aload_nN C dX1_init_54 rfl rfl ?_ | refine g_aload_nq C dX1_init_54 rfl rfl ?_
  refine g_null C dX1_init_55 ?_
  refine g_put C dX1_init_56 (h_up_s _ _ _) rfl kw_X1 tyX1 tyX1_ok nmX1 9 (by decide) kfX1_38 rfl rfl rfl rfl (Nat.le_of_ble_eq_true rfl) ?_
  first | refine g_aload_n C dX1_init_59 rfl rfl ?_ | refine g_aload_nN C dX1_init_59 rfl rfl ?_ | refine g_aload_nq C dX1_init_59 rfl rfl ?_
  refine g_null C dX1_init_60 ?_
  refine g_put C dX1_init_61 (h_up_s _ _ _) rfl kw_X1 tyX1 tyX1_ok nmX1 10 (by decide) kfX1_42 rfl rfl rfl rfl (Nat.le_of_ble_eq_true rfl) ?_
  refine g_vret C hr dX1_init_64 (by decide) (by decide) ⟨rfl, ?_⟩
  simp only [h_up_up]
  rfl

set_option maxHeartbeats 4000000 in
set_option maxRecDepth 100000 in
theorem c_X2_requireDesk (l : Launch) (G : hD) (w : hW) (d : Int32) : h_Met l yX2_requireDesk (Cond.code yX2_requireDesk cX2_requireDesk 1 none) { frames := 6, cells := 1, slots := 6, locals := 82 } G [.int d] w (fun v w' => v = none ∧ w' = w ∧ ¬ d < 0 ∧ d < 6) (fun E => E = nNS ∧ ¬ (¬ d < 0 ∧ d < 6)) := by
  refine h_met RX2 rfl (by decide) (Nat.le_of_ble_eq_true rfl) (cat_c (by first | rfl | exact rf_cat _) cat_n) ?_
  intro p e s m below meth c A C hnt hr hnm
  refine g_iload_n C dX2_requireDesk_0 rfl rfl ?_
  refine g_if_lt C 10 dX2_requireDesk_1 (by decide) (fun c1 => ?_) (fun c1 => ?_)
  · exact g_throwNS C hnt rfl dX2_requireDesk_10 dX2_requireDesk_13 dX2_requireDesk_14 dX2_requireDesk_16 dX2_requireDesk_19 (List.mem_of_getElem? (i := 0) rfl) (by decide) (by decide) (by decide) (by decide) (by decide) (by decide) (⟨rfl, by simp [c1]⟩) rfl
  · refine g_iload_n C dX2_requireDesk_4 rfl rfl ?_
    refine g_bipush C (v := 6) dX2_requireDesk_5 (by decide) ?_
    refine g_icmp_lt C 20 dX2_requireDesk_7 (by decide) (fun c7 => ?_) (fun c7 => ?_)
    · exact g_vret C hr dX2_requireDesk_20 (by decide) (by decide) ⟨rfl, rfl, by simp [c1, c7]⟩
    · exact g_throwNS C hnt rfl dX2_requireDesk_10 dX2_requireDesk_13 dX2_requireDesk_14 dX2_requireDesk_16 dX2_requireDesk_19 (List.mem_of_getElem? (i := 0) rfl) (by decide) (by decide) (by decide) (by decide) (by decide) (by decide) (⟨rfl, by simp [c1, c7]⟩) rfl

set_option maxHeartbeats 4000000 in
set_option maxRecDepth 100000 in
theorem c_X2_requireThing (l : Launch) (G : hD) (w : hW) (d : Int32) : h_Met l yX2_requireThing (Cond.code yX2_requireThing cX2_requireThing 1 none) { frames := 6, cells := 1, slots := 6, locals := 82 } G [.int d] w (fun v w' => v = none ∧ w' = w ∧ ¬ d < 0 ∧ d < 16) (fun E => E = nNS ∧ ¬ (¬ d < 0 ∧ d < 16)) := by
  refine h_met RX2 rfl (by decide) (Nat.le_of_ble_eq_true rfl) (cat_c (by first | rfl | exact rf_cat _) cat_n) ?_
  intro p e s m below meth c A C hnt hr hnm
  refine g_iload_n C dX2_requireThing_0 rfl rfl ?_
  refine g_if_lt C 10 dX2_requireThing_1 (by decide) (fun c1 => ?_) (fun c1 => ?_)
  · exact g_throwNS C hnt rfl dX2_requireThing_10 dX2_requireThing_13 dX2_requireThing_14 dX2_requireThing_16 dX2_requireThing_19 (List.mem_of_getElem? (i := 1) rfl) (by decide) (by decide) (by decide) (by decide) (by decide) (by decide) (⟨rfl, by simp [c1]⟩) rfl
  · refine g_iload_n C dX2_requireThing_4 rfl rfl ?_
    refine g_bipush C (v := 16) dX2_requireThing_5 (by decide) ?_
    refine g_icmp_lt C 20 dX2_requireThing_7 (by decide) (fun c7 => ?_) (fun c7 => ?_)
    · exact g_vret C hr dX2_requireThing_20 (by decide) (by decide) ⟨rfl, rfl, by simp [c1, c7]⟩
    · exact g_throwNS C hnt rfl dX2_requireThing_10 dX2_requireThing_13 dX2_requireThing_14 dX2_requireThing_16 dX2_requireThing_19 (List.mem_of_getElem? (i := 1) rfl) (by decide) (by decide) (by decide) (by decide) (by decide) (by decide) (⟨rfl, by simp [c1, c7]⟩) rfl

set_option maxHeartbeats 4000000 in
set_option maxRecDepth 100000 in
theorem c_X2_requireContext (l : Launch) (G : hD) (w : hW) (d : Int32) : h_Met l yX2_requireContext (Cond.code yX2_requireContext cX2_requireContext 1 none) { frames := 6, cells := 1, slots := 6, locals := 82 } G [.int d] w (fun v w' => v = none ∧ w' = w ∧ ¬ d < 0 ∧ d < 16) (fun E => E = nNS ∧ ¬ (¬ d < 0 ∧ d < 16)) := by
  refine h_met RX2 rfl (by decide) (Nat.le_of_ble_eq_true rfl) (cat_c (by first | rfl | exact rf_cat _) cat_n) ?_
  intro p e s m below meth c A C hnt hr hnm
  refine g_iload_n C dX2_requireContext_0 rfl rfl ?_
  refine g_if_lt C 10 dX2_requireContext_1 (by decide) (fun c1 => ?_) (fun c1 => ?_)
  · exact g_throwNS C hnt rfl dX2_requireContext_10 dX2_requireContext_13 dX2_requireContext_14 dX2_requireContext_16 dX2_requireContext_19 (List.mem_of_getElem? (i := 9) rfl) (by decide) (by decide) (by decide) (by decide) (by decide) (by decide) (⟨rfl, by simp [c1]⟩) rfl
  · refine g_iload_n C dX2_requireContext_4 rfl rfl ?_
    refine g_bipush C (v := 16) dX2_requireContext_5 (by decide) ?_
    refine g_icmp_lt C 20 dX2_requireContext_7 (by decide) (fun c7 => ?_) (fun c7 => ?_)
    · exact g_vret C hr dX2_requireContext_20 (by decide) (by decide) ⟨rfl, rfl, by simp [c1, c7]⟩
    · exact g_throwNS C hnt rfl dX2_requireContext_10 dX2_requireContext_13 dX2_requireContext_14 dX2_requireContext_16 dX2_requireContext_19 (List.mem_of_getElem? (i := 9) rfl) (by decide) (by decide) (by decide) (by decide) (by decide) (by decide) (⟨rfl, by simp [c1, c7]⟩) rfl

set_option maxHeartbeats 4000000 in
set_option maxRecDepth 100000 in
theorem c_X2_requireOrdinal (l : Launch) (G : hD) (w : hW) (d : Int32) : h_Met l yX2_requireOrdinal (Cond.code yX2_requireOrdinal cX2_requireOrdinal 1 none) { frames := 6, cells := 1, slots := 6, locals := 82 } G [.int d] w (fun v w' => v = none ∧ w' = w ∧ ¬ d < 0) (fun E => E = nNS ∧ ¬ (¬ d < 0)) := by
  refine h_met RX2 rfl (by decide) (Nat.le_of_ble_eq_true rfl) (cat_c (by first | rfl | exact rf_cat _) cat_n) ?_
  intro p e s m below meth c A C hnt hr hnm
  refine g_iload_n C dX2_requireOrdinal_0 rfl rfl ?_
  refine g_if_ge C 14 dX2_requireOrdinal_1 (by decide) (fun c1 => ?_) (fun c1 => ?_)
  · exact g_vret C hr dX2_requireOrdinal_14 (by decide) (by decide) ⟨rfl, rfl, by simp [c1]⟩
  · exact g_throwNS C hnt rfl dX2_requireOrdinal_4 dX2_requireOrdinal_7 dX2_requireOrdinal_8 dX2_requireOrdinal_10 dX2_requireOrdinal_13 (List.mem_of_getElem? (i := 12) rfl) (by decide) (by decide) (by decide) (by decide) (by decide) (by decide) (⟨rfl, by simp [c1]⟩) rfl

set_option maxHeartbeats 4000000 in
set_option maxRecDepth 100000 in
theorem c_X2_requireField (l : Launch) (G : hD) (w : hW) (d x : Int32) : h_Met l yX2_requireField (Cond.code yX2_requireField cX2_requireField 2 none) { frames := 6, cells := 1, slots := 6, locals := 82 } G [.int d, .int x] w (fun v w' => v = none ∧ w' = w ∧ ¬ d < 0 ∧ ¬ x < d) (fun E => E = nNS ∧ ¬ (¬ d < 0 ∧ ¬ x < d)) := by
  refine h_met RX2 rfl (by decide) (Nat.le_of_ble_eq_true rfl) (cat_c (by first | rfl | exact rf_cat _) (cat_c (by first | rfl | exact rf_cat _) cat_n)) ?_
  intro p e s m below meth c A C hnt hr hnm
  refine g_iload_n C dX2_requireField_0 rfl rfl ?_
  refine g_if_lt C 9 dX2_requireField_1 (by decide) (fun c1 => ?_) (fun c1 => ?_)
  · exact g_throwNS C hnt rfl dX2_requireField_9 dX2_requireField_12 dX2_requireField_13 dX2_requireField_15 dX2_requireField_18 (List.mem_of_getElem? (i := 2) rfl) (by decide) (by decide) (by decide) (by decide) (by decide) (by decide) (⟨rfl, by simp [c1]⟩) rfl
  · refine g_iload_n C dX2_requireField_4 rfl rfl ?_
    refine g_iload_n C dX2_requireField_5 rfl rfl ?_
    refine g_icmp_le C 19 dX2_requireField_6 (by decide) (fun c6 => ?_) (fun c6 => ?_)
    · exact g_vret C hr dX2_requireField_19 (by decide) (by decide) ⟨rfl, rfl, by simp [c1, c6]⟩
    · exact g_throwNS C hnt rfl dX2_requireField_9 dX2_requireField_12 dX2_requireField_13 dX2_requireField_15 dX2_requireField_18 (List.mem_of_getElem? (i := 2) rfl) (by decide) (by decide) (by decide) (by decide) (by decide) (by decide) (⟨rfl, by simp [c1, c6]⟩) rfl

set_option maxHeartbeats 4000000 in
set_option maxRecDepth 100000 in
theorem c_X2_requireValue (l : Launch) (G : hD) (w : hW) (d x : Int32) : h_Met l yX2_requireValue (Cond.code yX2_requireValue cX2_requireValue 2 none) { frames := 6, cells := 1, slots := 6, locals := 82 } G [.int d, .int x] w (fun v w' => v = none ∧ w' = w ∧ ¬ d < 0 ∧ d < x) (fun E => E = nIA ∧ ¬ (¬ d < 0 ∧ d < x)) := by
  refine h_met RX2 rfl (by decide) (Nat.le_of_ble_eq_true rfl) (cat_c (by first | rfl | exact rf_cat _) (cat_c (by first | rfl | exact rf_cat _) cat_n)) ?_
  intro p e s m below meth c A C hnt hr hnm
  refine g_iload_n C dX2_requireValue_0 rfl rfl ?_
  refine g_if_lt C 9 dX2_requireValue_1 (by decide) (fun c1 => ?_) (fun c1 => ?_)
  · exact g_throw C hnt rfl dX2_requireValue_9 dX2_requireValue_12 dX2_requireValue_13 dX2_requireValue_15 dX2_requireValue_18 (by decide +kernel) klX2_68 kn_IllegalArgumentException (List.mem_of_getElem? (i := 3) rfl) ht_IA1 ht_IA2 ht_IA3 (by decide) (by decide) (by decide) (by decide) (by decide) (by decide) (⟨rfl, by simp [c1]⟩) rfl
  · refine g_iload_n C dX2_requireValue_4 rfl rfl ?_
    refine g_iload_n C dX2_requireValue_5 rfl rfl ?_
    refine g_icmp_lt C 19 dX2_requireValue_6 (by decide) (fun c6 => ?_) (fun c6 => ?_)
    · exact g_vret C hr dX2_requireValue_19 (by decide) (by decide) ⟨rfl, rfl, by simp [c1, c6]⟩
    · exact g_throw C hnt rfl dX2_requireValue_9 dX2_requireValue_12 dX2_requireValue_13 dX2_requireValue_15 dX2_requireValue_18 (by decide +kernel) klX2_68 kn_IllegalArgumentException (List.mem_of_getElem? (i := 3) rfl) ht_IA1 ht_IA2 ht_IA3 (by decide) (by decide) (by decide) (by decide) (by decide) (by decide) (⟨rfl, by simp [c1, c6]⟩) rfl

