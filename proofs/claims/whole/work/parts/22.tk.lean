/-! ===== the model: take, settle ===== -/
def tkK (K : Nat → Bool) (x1 y1 x y : Nat) : Bool := K (16 * x + y) || ((decide (x = x1) || K (16 * x + x1)) && (decide (y = y1) || K (16 * y1 + y)))
theorem tkK_col {K : Nat → Bool} {x1 y1 : Nat} (h : K (16 * y1 + x1) = false) (hne : x1 ≠ y1) (x : Nat) : tkK K x1 y1 x x1 = K (16 * x + x1) := by simp [tkK, h, hne]
theorem tkK_row {K : Nat → Bool} {x1 y1 : Nat} (h : K (16 * y1 + x1) = false) (hne : x1 ≠ y1) (y : Nat) : tkK K x1 y1 y1 y = K (16 * y1 + y) := by simp [tkK, h, Ne.symm hne]
/-- one relation is taken, or waits -/
def stS (I : Nat → Nat → Int32) (s : (Nat → Nat → Bool) × List Nat) (t : Nat) : (Nat → Nat → Bool) × List Nat :=
  let x1 := (I 4 t).toNatClampNeg / 16
  let y1 := (I 4 t).toNatClampNeg % 16
  cond (s.1 y1 x1) (s.1, s.2 ++ [t]) (fun x y => s.1 x y || ((decide (x = x1) || s.1 x x1) && (decide (y = y1) || s.1 y1 y)), s.2)
def tied (K : Nat → Bool) (O : Nat → Int32) (q : Nat) (s : (Nat → Nat → Bool) × List Nat) : Prop := (∀ x y, x < 16 → y < 16 → K (16 * x + y) = s.1 x y) ∧ held O s.2 ∧ q = s.2.length
theorem tied.opn {I : Nat → Nat → Int32} {K : Nat → Bool} {O : Nat → Int32} {q t v : Nat} {s : (Nat → Nat → Bool) × List Nat} (h : tied K O q s) (hv : I 4 t = nI v) (hv2 : v < 256) (hK : K (16 * (v % 16) + v / 16) = true) : tied K (upd O q (nI t)) (q + 1) (stS I s t) := by
  obtain ⟨h1, h2, h3⟩ := h
  have hc : (I 4 t).toNatClampNeg = v := by rw [hv]; exact nI_clamp (by omega)
  have h4 : s.1 (v % 16) (v / 16) = true := by rw [← h1 _ _ (by omega) (by omega)]; exact hK
  simp only [stS, hc, h4, cond_true]
  refine ⟨h1, fun k y hy => ?_, by rw [List.length_append, h3]; rfl⟩
  by_cases hk : k < s.2.length
  · rw [List.getElem?_append_left hk] at hy
    rw [pk_un (by omega)]; exact h2 k y hy
  · rw [List.getElem?_append_right (by omega)] at hy
    have : k - s.2.length = 0 := by
      rcases Nat.eq_zero_or_pos (k - s.2.length) with e | e
      · exact e
      · rw [List.getElem?_eq_none (by simp; omega)] at hy; cases hy
    rw [this] at hy
    cases hy
    rw [show k = q by omega, pk_us]
theorem tied.take {I : Nat → Nat → Int32} {K K' : Nat → Bool} {O : Nat → Int32} {q t v : Nat} {s : (Nat → Nat → Bool) × List Nat} (h : tied K O q s) (hv : I 4 t = nI v) (hv2 : v < 256) (hK : K (16 * (v % 16) + v / 16) = false) (hK' : ∀ x y, x < 16 → y < 16 → K' (16 * x + y) = tkK K (v / 16) (v % 16) x y) : tied K' O q (stS I s t) := by
  obtain ⟨h1, h2, h3⟩ := h
  have hc : (I 4 t).toNatClampNeg = v := by rw [hv]; exact nI_clamp (by omega)
  have h4 : s.1 (v % 16) (v / 16) = false := by rw [← h1 _ _ (by omega) (by omega)]; exact hK
  simp only [stS, hc, h4, cond_false]
  refine ⟨fun x y hx hy => ?_, h2, h3⟩
  rw [hK' x y hx hy, tkK, h1 x y hx hy, h1 x _ hx (by omega), h1 _ y (by omega) hy]

set_option maxHeartbeats 4000000 in
set_option maxRecDepth 100000 in
theorem c_X3_take (l : Launch) (G : hD) (w : hW) (mo : Nat) (M : Nat → Nat) (n : Nat) (I : Nat → Nat → Int32) (B : Nat → Nat → Bool) (thr ord : Int32) (q : Nat) (hR : MR G mo M n I B thr ord (nI q) w) (t v : Nat) (ht : t < 120) (hv : I 4 t = nI v) (hv2 : v < 256) (hne : v / 16 ≠ v % 16) (hq : q < 120) : h_Met l yX3_take (Cond.code yX3_take cX3_take 8 none) { frames := 0, cells := 0, slots := 0, locals := 0 } G [.ref mo, .int (nI t)] w (fun z w' => z = none ∧ ∃ I' B' q', MR G mo M n I' B' thr ord (nI q') w' ∧ fr (MD mo M) w w' ∧ (∀ a, a ≠ 11 → I' a = I a) ∧ (∀ a, a ≠ 10 → B' a = B a) ∧ q' ≤ q + 1 ∧ ∀ s, tied (B 10) (I 11) q s → tied (B' 10) (I' 11) q' (stS I s t)) noX := by
  refine h_met RX3 rfl (by decide) (Nat.le_of_ble_eq_true rfl) (cat_c (by first | rfl | exact rf_cat _) (cat_c (by first | rfl | exact rf_cat _) cat_n)) ?_
  intro p e s m below meth c A C hnt hr hnm
  obtain ⟨hm, r0, r1, r2, r3, r4, r5, r6, r7, r8, r9, r10, r11, r12, hinj, hn⟩ := id hR
  first | refine g_aload_n C dX3_take_0 rfl rfl ?_ | refine g_aload_nN C dX3_take_0 rfl rfl ?_ | refine g_aload_nq C dX3_take_0 rfl rfl ?_
  refine g_get C dX3_take_1 hm rfl kw_X3 6 (by decide) kfX3_22 rfl rfl ?_
  refine g_iload_n C dX3_take_4 rfl rfl ?_
  refine g_ialdN C dX3_take_5 r4 ht (by decide) ?_
  refine g_eq hv ?_
  refine g_bipush C (v := 16) dX3_take_6 (by decide) ?_
  refine g_idiv C dX3_take_8 (by decide) ?_
  refine g_eq (y := nI (v / 16)) (pk_div (by omega) (by decide) (by decide)) ?_
  refine g_istore_n C dX3_take_9 rfl (by decide) ?_
  first | refine g_aload_n C dX3_take_10 rfl rfl ?_ | refine g_aload_nN C dX3_take_10 rfl rfl ?_ | refine g_aload_nq C dX3_take_10 rfl rfl ?_
  refine g_get C dX3_take_11 hm rfl kw_X3 6 (by decide) kfX3_22 rfl rfl ?_
  refine g_iload_n C dX3_take_14 rfl rfl ?_
  refine g_ialdN C dX3_take_15 r4 ht (by decide) ?_
  refine g_eq hv ?_
  refine g_bipush C (v := 16) dX3_take_16 (by decide) ?_
  refine g_irem C dX3_take_18 (by decide) ?_
  refine g_eq (y := nI (v % 16)) (pk_rem (by omega) (by decide) (by decide)) ?_
  refine g_istore_n C dX3_take_19 rfl (by decide) ?_
  first | refine g_aload_n C dX3_take_20 rfl rfl ?_ | refine g_aload_nN C dX3_take_20 rfl rfl ?_ | refine g_aload_nq C dX3_take_20 rfl rfl ?_
  refine g_get C dX3_take_21 hm rfl kw_X3 13 (by decide) kfX3_41 rfl rfl ?_
  refine g_bipush C (v := 16) dX3_take_24 (by decide) ?_
  refine g_iload_n C dX3_take_26 rfl rfl ?_
  refine g_imul C dX3_take_27 ?_
  refine g_iload_n C dX3_take_28 rfl rfl ?_
  refine g_iadd C dX3_take_29 ?_
  refine g_eq (ix16 (v % 16) (v / 16)) ?_
  refine g_zaldN C dX3_take_30 r10 (by omega) (by decide) ?_
  refine g_if_eq C 55 dX3_take_31 (by decide) (fun c31 => ?_) (fun c31 => ?_)
  · have hK : B 10 (16 * (v % 16) + (v / 16)) = false := bI_z.mp c31
    refine g_iconst C (v := 0) dX3_take_55 (by decide) ?_
    refine g_istore C dX3_take_56 (by decide) ?_
    refine g_loop (σ := Nat × (Nat → Bool) × hW) (fun s => s.1 ≤ 16 ∧ MR G mo M n I (va_up B 10 s.2.1) thr ord (nI q) s.2.2 ∧ fr (MD mo M) w s.2.2 ∧ (∀ x' y', x' < 16 → y' < 16 → (x' < s.1 → s.2.1 (16 * x' + y') = tkK (B 10) (v / 16) (v % 16) x' y') ∧ (s.1 ≤ x' → s.2.1 (16 * x' + y') = B 10 (16 * x' + y')))) (fun s => 16 - s.1) (fun s => s.2.2) (fun s => [(0, .ref mo), (1, .int (nI t)), (2, .int (nI (v / 16))), (3, .int (nI (v % 16))), (4, .int (nI s.1))]) ?_ (0, B 10, w) ⟨Nat.zero_le _, (up_eta B 10).symm ▸ hR, fr.rf, fun x' y' hx' hy' => ⟨fun h => absurd h (Nat.not_lt_zero _), fun _ => rfl⟩⟩
    clear hR r0 r1 r2 r3 r4 r5 r6 r7 r8 r9 r10 r11 r12 hm
    rintro ⟨x, K, wc⟩ ⟨hx, hR, hf, hP⟩ ihx
    dsimp only at hx hR hf hP ihx ⊢
    obtain ⟨hm, r0, r1, r2, r3, r4, r5, r6, r7, r8, r9, r10, r11, r12, hinj, hn⟩ := id hR
    refine g_iload C dX3_take_58 rfl ?_
    refine g_bipush C (v := 16) dX3_take_60 (by decide) ?_
    refine g_icmp_ge C 187 dX3_take_62 (by decide) (fun c62 => ?_) (fun c62 => ?_)
    · obtain rfl : x = 16 := by have := (nI_leI (a := 16) (b := x) (by decide) (by omega)).mp c62; omega
      exact g_vret C hr dX3_take_187 (by decide) (by decide) ⟨rfl, I, va_up B 10 K, q, hR, hf, fun _ _ => rfl, fun a ha => va_up_ne _ _ ha, Nat.le_succ q, fun s hs => hs.take hv hv2 hK (fun x' y' hx' hy' => (hP x' y' hx' hy').1 (by omega))⟩
    · have hltx : x < 16 := nI_nge c62 (by omega) (by decide)
      refine g_iconst C (v := 0) dX3_take_65 (by decide) ?_
      refine g_istore C dX3_take_66 (by decide) ?_
      refine g_loop (σ := Nat × (Nat → Bool) × hW) (fun s => s.1 ≤ 16 ∧ MR G mo M n I (va_up B 10 s.2.1) thr ord (nI q) s.2.2 ∧ fr (MD mo M) w s.2.2 ∧ (∀ x' y', x' < 16 → y' < 16 → (x' < x ∨ (x' = x ∧ y' < s.1) → s.2.1 (16 * x' + y') = tkK (B 10) (v / 16) (v % 16) x' y') ∧ (x < x' ∨ (x' = x ∧ s.1 ≤ y') → s.2.1 (16 * x' + y') = B 10 (16 * x' + y')))) (fun s => 16 - s.1) (fun s => s.2.2) (fun s => [(0, .ref mo), (1, .int (nI t)), (2, .int (nI (v / 16))), (3, .int (nI (v % 16))), (4, .int (nI x)), (5, .int (nI s.1))]) ?_ (0, K, wc) ⟨Nat.zero_le _, hR, hf, fun x' y' hx' hy' => ⟨fun h => (hP x' y' hx' hy').1 (by dsimp only at h; omega), fun h => (hP x' y' hx' hy').2 (by dsimp only at h; omega)⟩⟩
      clear hR hf hP r0 r1 r2 r3 r4 r5 r6 r7 r8 r9 r10 r11 r12 hm K wc
      rintro ⟨y, K, wc⟩ ⟨hy, hR, hf, hP⟩ ihy
      dsimp only at hy hR hf hP ihy ⊢
      obtain ⟨hm, r0, r1, r2, r3, r4, r5, r6, r7, r8, r9, r10, r11, r12, hinj, hn⟩ := id hR
      have r10 : wc (M 10) = some (eZ G 256 (fun j => bI (K j))) := r10
      refine g_iload C dX3_take_68 rfl ?_
      refine g_bipush C (v := 16) dX3_take_70 (by decide) ?_
      refine g_icmp_ge C 181 dX3_take_72 (by decide) (fun c72 => ?_) (fun c72 => ?_)
      · obtain rfl : y = 16 := by have := (nI_leI (a := 16) (b := y) (by decide) (by omega)).mp c72; omega
        refine g_iinc C (v := nI (x + 1)) dX3_take_181 rfl (nI_1 x) (by decide) ?_
        refine g_goto C 58 dX3_take_184 (by decide) ?_
        have hA : (∀ x' y', x' < 16 → y' < 16 → (x' < (x + 1) → K (16 * x' + y') = tkK (B 10) (v / 16) (v % 16) x' y') ∧ ((x + 1) ≤ x' → K (16 * x' + y') = B 10 (16 * x' + y'))) := by
          intro x' y' hx' hy'
          exact ⟨fun h => (hP x' y' hx' hy').1 (by omega), fun h => (hP x' y' hx' hy').2 (by omega)⟩
        refine g_drop [(0, .ref mo), (1, .int (nI t)), (2, .int (nI (v / 16))), (3, .int (nI (v % 16))), (4, .int (nI (x + 1)))] _ rfl ?_
        exact ihx (x + 1, K, wc) ⟨hltx, hR, hf, hA⟩ (by dsimp only; omega)
      · have hlty : y < 16 := nI_nge c72 (by omega) (by decide)
        have hka : K (16 * x + (v / 16)) = B 10 (16 * x + (v / 16)) := by
          by_cases e : (v / 16) < y
          · rw [(hP x (v / 16) (by omega) (by omega)).1 (by omega)]; exact tkK_col hK hne x
          · exact (hP x (v / 16) (by omega) (by omega)).2 (by omega)
        have hkb : K (16 * (v % 16) + y) = B 10 (16 * (v % 16) + y) := by
          by_cases e : (v % 16) < x ∨ ((v % 16) = x ∧ y < y)
          · rw [(hP (v % 16) y (by omega) (by omega)).1 (by omega)]; exact tkK_row hK hne y
          · exact (hP (v % 16) y (by omega) (by omega)).2 (by omega)
        have hkc : K (16 * x + y) = B 10 (16 * x + y) := (hP x y (by omega) (by omega)).2 (by omega)
        refine g_iload C dX3_take_75 rfl ?_
        refine g_iload_n C dX3_take_77 rfl rfl ?_
        refine g_icmp_eq C 96 dX3_take_78 (by decide) (fun c78 => ?_) (fun c78 => ?_)
        · have c78 : x = (v / 16) := (nI_eq (by omega) (by omega)).mp c78
          refine g_iconst C (v := 1) dX3_take_96 (by decide) ?_
          refine g_goto C 101 dX3_take_97 (by decide) ?_
          refine g_istore C dX3_take_101 (by decide) ?_
          refine g_iload C dX3_take_103 rfl ?_
          refine g_iload_n C dX3_take_105 rfl rfl ?_
          refine g_icmp_eq C 124 dX3_take_106 (by decide) (fun c106 => ?_) (fun c106 => ?_)
          · have c106 : y = (v % 16) := (nI_eq (by omega) (by omega)).mp c106
            refine g_iconst C (v := 1) dX3_take_124 (by decide) ?_
            refine g_goto C 129 dX3_take_125 (by decide) ?_
            refine g_istore C dX3_take_129 (by decide) ?_
            first | refine g_aload_n C dX3_take_131 rfl rfl ?_ | refine g_aload_nN C dX3_take_131 rfl rfl ?_ | refine g_aload_nq C dX3_take_131 rfl rfl ?_
            refine g_get C dX3_take_132 hm rfl kw_X3 13 (by decide) kfX3_41 rfl rfl ?_
            refine g_bipush C (v := 16) dX3_take_135 (by decide) ?_
            refine g_iload C dX3_take_137 rfl ?_
            refine g_imul C dX3_take_139 ?_
            refine g_iload C dX3_take_140 rfl ?_
            refine g_iadd C dX3_take_142 ?_
            refine g_eq (ix16 x y) ?_
            first | refine g_aload_n C dX3_take_143 rfl rfl ?_ | refine g_aload_nN C dX3_take_143 rfl rfl ?_ | refine g_aload_nq C dX3_take_143 rfl rfl ?_
            refine g_get C dX3_take_144 hm rfl kw_X3 13 (by decide) kfX3_41 rfl rfl ?_
            refine g_bipush C (v := 16) dX3_take_147 (by decide) ?_
            refine g_iload C dX3_take_149 rfl ?_
            refine g_imul C dX3_take_151 ?_
            refine g_iload C dX3_take_152 rfl ?_
            refine g_iadd C dX3_take_154 ?_
            refine g_eq (ix16 x y) ?_
            refine g_zaldN C dX3_take_155 r10 (by omega) (by decide) ?_
            refine g_if_ne C 169 dX3_take_156 (by decide) (fun c156 => ?_) (fun c156 => ?_)
            · have c156 := bI_nz.mp c156
              refine g_iconst C (v := 1) dX3_take_169 (by decide) ?_
              refine g_goto C 174 dX3_take_170 (by decide) ?_
              refine g_zastB C (true) dX3_take_174 r10 (by omega) (by decide) (rfl) ?_
              refine g_iinc C (v := nI (y + 1)) dX3_take_175 rfl (nI_1 y) (by decide) ?_
              refine g_goto C 68 dX3_take_178 (by decide) ?_
              have e78 := decide_eq_true c78
              have e106 := decide_eq_true c106
              have e156 := hkc.symm.trans c156
              have hb9 : true = tkK (B 10) (v / 16) (v % 16) x y := by simp only [tkK, e78, e106, e156, Bool.true_or, Bool.or_true, Bool.false_or, Bool.true_and, Bool.and_true, Bool.false_and, Bool.and_false, Bool.or_false]
              have hA : (∀ x' y', x' < 16 → y' < 16 → (x' < x ∨ (x' = x ∧ y' < (y + 1)) → va_up K (16 * x + y) true (16 * x' + y') = tkK (B 10) (v / 16) (v % 16) x' y') ∧ (x < x' ∨ (x' = x ∧ (y + 1) ≤ y') → va_up K (16 * x + y) true (16 * x' + y') = B 10 (16 * x' + y'))) := by
                intro x' y' hx' hy'
                by_cases e : x' = x ∧ y' = y
                · obtain ⟨rfl, rfl⟩ := e
                  refine ⟨fun _ => ?_, fun h => by omega⟩
                  rw [va_up_self]; exact hb9
                · have hne : 16 * x' + y' ≠ 16 * x + y := by omega
                  rw [va_up_ne _ _ hne]
                  exact ⟨fun h => (hP x' y' hx' hy').1 (by omega), fun h => (hP x' y' hx' hy').2 (by omega)⟩
              have hR9 := hR.up10 (va_up K (16 * x + y) true)
              rw [up_up] at hR9
              refine g_drop [(0, .ref mo), (1, .int (nI t)), (2, .int (nI (v / 16))), (3, .int (nI (v % 16))), (4, .int (nI x)), (5, .int (nI (y + 1)))] _ rfl ?_
              exact ihy (y + 1, va_up K (16 * x + y) true, h_up wc (M 10) (eZ G 256 (fun j => bI (va_up K (16 * x + y) true j)))) ⟨hlty, hR9, hf.up (MD.a 10 (by decide)), hA⟩ (by dsimp only; omega)
            · have c156 := bI_z.mp c156
              refine g_iload C dX3_take_159 rfl ?_
              refine g_if_eq C 173 dX3_take_161 (by decide) (fun c161 => absurd c161 (by decide)) (fun _ => ?_)
              refine g_iload C dX3_take_164 rfl ?_
              refine g_if_eq C 173 dX3_take_166 (by decide) (fun c166 => absurd c166 (by decide)) (fun _ => ?_)
              refine g_iconst C (v := 1) dX3_take_169 (by decide) ?_
              refine g_goto C 174 dX3_take_170 (by decide) ?_
              refine g_zastB C (true) dX3_take_174 r10 (by omega) (by decide) (rfl) ?_
              refine g_iinc C (v := nI (y + 1)) dX3_take_175 rfl (nI_1 y) (by decide) ?_
              refine g_goto C 68 dX3_take_178 (by decide) ?_
              have e78 := decide_eq_true c78
              have e106 := decide_eq_true c106
              have e156 := hkc.symm.trans c156
              have hb9 : true = tkK (B 10) (v / 16) (v % 16) x y := by simp only [tkK, e78, e106, e156, Bool.true_or, Bool.or_true, Bool.false_or, Bool.true_and, Bool.and_true, Bool.false_and, Bool.and_false, Bool.or_false]
              have hA : (∀ x' y', x' < 16 → y' < 16 → (x' < x ∨ (x' = x ∧ y' < (y + 1)) → va_up K (16 * x + y) true (16 * x' + y') = tkK (B 10) (v / 16) (v % 16) x' y') ∧ (x < x' ∨ (x' = x ∧ (y + 1) ≤ y') → va_up K (16 * x + y) true (16 * x' + y') = B 10 (16 * x' + y'))) := by
                intro x' y' hx' hy'
                by_cases e : x' = x ∧ y' = y
                · obtain ⟨rfl, rfl⟩ := e
                  refine ⟨fun _ => ?_, fun h => by omega⟩
                  rw [va_up_self]; exact hb9
                · have hne : 16 * x' + y' ≠ 16 * x + y := by omega
                  rw [va_up_ne _ _ hne]
                  exact ⟨fun h => (hP x' y' hx' hy').1 (by omega), fun h => (hP x' y' hx' hy').2 (by omega)⟩
              have hR9 := hR.up10 (va_up K (16 * x + y) true)
              rw [up_up] at hR9
              refine g_drop [(0, .ref mo), (1, .int (nI t)), (2, .int (nI (v / 16))), (3, .int (nI (v % 16))), (4, .int (nI x)), (5, .int (nI (y + 1)))] _ rfl ?_
              exact ihy (y + 1, va_up K (16 * x + y) true, h_up wc (M 10) (eZ G 256 (fun j => bI (va_up K (16 * x + y) true j)))) ⟨hlty, hR9, hf.up (MD.a 10 (by decide)), hA⟩ (by dsimp only; omega)
          · have c106 : y ≠ (v % 16) := fun e => c106 (congrArg nI e)
            first | refine g_aload_n C dX3_take_109 rfl rfl ?_ | refine g_aload_nN C dX3_take_109 rfl rfl ?_ | refine g_aload_nq C dX3_take_109 rfl rfl ?_
            refine g_get C dX3_take_110 hm rfl kw_X3 13 (by decide) kfX3_41 rfl rfl ?_
            refine g_bipush C (v := 16) dX3_take_113 (by decide) ?_
            refine g_iload_n C dX3_take_115 rfl rfl ?_
            refine g_imul C dX3_take_116 ?_
            refine g_iload C dX3_take_117 rfl ?_
            refine g_iadd C dX3_take_119 ?_
            refine g_eq (ix16 (v % 16) y) ?_
            refine g_zaldN C dX3_take_120 r10 (by omega) (by decide) ?_
            refine g_if_eq C 128 dX3_take_121 (by decide) (fun c121 => ?_) (fun c121 => ?_)
            · have c121 := bI_z.mp c121
              refine g_iconst C (v := 0) dX3_take_128 (by decide) ?_
              refine g_istore C dX3_take_129 (by decide) ?_
              first | refine g_aload_n C dX3_take_131 rfl rfl ?_ | refine g_aload_nN C dX3_take_131 rfl rfl ?_ | refine g_aload_nq C dX3_take_131 rfl rfl ?_
              refine g_get C dX3_take_132 hm rfl kw_X3 13 (by decide) kfX3_41 rfl rfl ?_
              refine g_bipush C (v := 16) dX3_take_135 (by decide) ?_
              refine g_iload C dX3_take_137 rfl ?_
              refine g_imul C dX3_take_139 ?_
              refine g_iload C dX3_take_140 rfl ?_
              refine g_iadd C dX3_take_142 ?_
              refine g_eq (ix16 x y) ?_
              first | refine g_aload_n C dX3_take_143 rfl rfl ?_ | refine g_aload_nN C dX3_take_143 rfl rfl ?_ | refine g_aload_nq C dX3_take_143 rfl rfl ?_
              refine g_get C dX3_take_144 hm rfl kw_X3 13 (by decide) kfX3_41 rfl rfl ?_
              refine g_bipush C (v := 16) dX3_take_147 (by decide) ?_
              refine g_iload C dX3_take_149 rfl ?_
              refine g_imul C dX3_take_151 ?_
              refine g_iload C dX3_take_152 rfl ?_
              refine g_iadd C dX3_take_154 ?_
              refine g_eq (ix16 x y) ?_
              refine g_zaldN C dX3_take_155 r10 (by omega) (by decide) ?_
              refine g_if_ne C 169 dX3_take_156 (by decide) (fun c156 => ?_) (fun c156 => ?_)
              · have c156 := bI_nz.mp c156
                refine g_iconst C (v := 1) dX3_take_169 (by decide) ?_
                refine g_goto C 174 dX3_take_170 (by decide) ?_
                refine g_zastB C (true) dX3_take_174 r10 (by omega) (by decide) (rfl) ?_
                refine g_iinc C (v := nI (y + 1)) dX3_take_175 rfl (nI_1 y) (by decide) ?_
                refine g_goto C 68 dX3_take_178 (by decide) ?_
                have e78 := decide_eq_true c78
                have e106 := decide_eq_false c106
                have e156 := hkc.symm.trans c156
                have e121 := hkb.symm.trans c121
                have hb9 : true = tkK (B 10) (v / 16) (v % 16) x y := by simp only [tkK, e78, e106, e121, e156, Bool.true_or, Bool.or_true, Bool.false_or, Bool.true_and, Bool.and_true, Bool.false_and, Bool.and_false, Bool.or_false]
                have hA : (∀ x' y', x' < 16 → y' < 16 → (x' < x ∨ (x' = x ∧ y' < (y + 1)) → va_up K (16 * x + y) true (16 * x' + y') = tkK (B 10) (v / 16) (v % 16) x' y') ∧ (x < x' ∨ (x' = x ∧ (y + 1) ≤ y') → va_up K (16 * x + y) true (16 * x' + y') = B 10 (16 * x' + y'))) := by
                  intro x' y' hx' hy'
                  by_cases e : x' = x ∧ y' = y
                  · obtain ⟨rfl, rfl⟩ := e
                    refine ⟨fun _ => ?_, fun h => by omega⟩
                    rw [va_up_self]; exact hb9
                  · have hne : 16 * x' + y' ≠ 16 * x + y := by omega
                    rw [va_up_ne _ _ hne]
                    exact ⟨fun h => (hP x' y' hx' hy').1 (by omega), fun h => (hP x' y' hx' hy').2 (by omega)⟩
                have hR9 := hR.up10 (va_up K (16 * x + y) true)
                rw [up_up] at hR9
                refine g_drop [(0, .ref mo), (1, .int (nI t)), (2, .int (nI (v / 16))), (3, .int (nI (v % 16))), (4, .int (nI x)), (5, .int (nI (y + 1)))] _ rfl ?_
                exact ihy (y + 1, va_up K (16 * x + y) true, h_up wc (M 10) (eZ G 256 (fun j => bI (va_up K (16 * x + y) true j)))) ⟨hlty, hR9, hf.up (MD.a 10 (by decide)), hA⟩ (by dsimp only; omega)
              · have c156 := bI_z.mp c156
                refine g_iload C dX3_take_159 rfl ?_
                refine g_if_eq C 173 dX3_take_161 (by decide) (fun c161 => absurd c161 (by decide)) (fun _ => ?_)
                refine g_iload C dX3_take_164 rfl ?_
                refine g_if_eq C 173 dX3_take_166 (by decide) (fun _ => ?_) (fun c166 => absurd (by decide) c166)
                refine g_iconst C (v := 0) dX3_take_173 (by decide) ?_
                refine g_zastB C (false) dX3_take_174 r10 (by omega) (by decide) (rfl) ?_
                refine g_iinc C (v := nI (y + 1)) dX3_take_175 rfl (nI_1 y) (by decide) ?_
                refine g_goto C 68 dX3_take_178 (by decide) ?_
                have e78 := decide_eq_true c78
                have e106 := decide_eq_false c106
                have e156 := hkc.symm.trans c156
                have e121 := hkb.symm.trans c121
                have hb9 : false = tkK (B 10) (v / 16) (v % 16) x y := by simp only [tkK, e78, e106, e121, e156, Bool.true_or, Bool.or_true, Bool.false_or, Bool.true_and, Bool.and_true, Bool.false_and, Bool.and_false, Bool.or_false]
                have hA : (∀ x' y', x' < 16 → y' < 16 → (x' < x ∨ (x' = x ∧ y' < (y + 1)) → va_up K (16 * x + y) false (16 * x' + y') = tkK (B 10) (v / 16) (v % 16) x' y') ∧ (x < x' ∨ (x' = x ∧ (y + 1) ≤ y') → va_up K (16 * x + y) false (16 * x' + y') = B 10 (16 * x' + y'))) := by
                  intro x' y' hx' hy'
                  by_cases e : x' = x ∧ y' = y
                  · obtain ⟨rfl, rfl⟩ := e
                    refine ⟨fun _ => ?_, fun h => by omega⟩
                    rw [va_up_self]; exact hb9
                  · have hne : 16 * x' + y' ≠ 16 * x + y := by omega
                    rw [va_up_ne _ _ hne]
                    exact ⟨fun h => (hP x' y' hx' hy').1 (by omega), fun h => (hP x' y' hx' hy').2 (by omega)⟩
                have hR9 := hR.up10 (va_up K (16 * x + y) false)
                rw [up_up] at hR9
                refine g_drop [(0, .ref mo), (1, .int (nI t)), (2, .int (nI (v / 16))), (3, .int (nI (v % 16))), (4, .int (nI x)), (5, .int (nI (y + 1)))] _ rfl ?_
                exact ihy (y + 1, va_up K (16 * x + y) false, h_up wc (M 10) (eZ G 256 (fun j => bI (va_up K (16 * x + y) false j)))) ⟨hlty, hR9, hf.up (MD.a 10 (by decide)), hA⟩ (by dsimp only; omega)
            · have c121 := bI_nz.mp c121
              refine g_iconst C (v := 1) dX3_take_124 (by decide) ?_
              refine g_goto C 129 dX3_take_125 (by decide) ?_
              refine g_istore C dX3_take_129 (by decide) ?_
              first | refine g_aload_n C dX3_take_131 rfl rfl ?_ | refine g_aload_nN C dX3_take_131 rfl rfl ?_ | refine g_aload_nq C dX3_take_131 rfl rfl ?_
              refine g_get C dX3_take_132 hm rfl kw_X3 13 (by decide) kfX3_41 rfl rfl ?_
              refine g_bipush C (v := 16) dX3_take_135 (by decide) ?_
              refine g_iload C dX3_take_137 rfl ?_
              refine g_imul C dX3_take_139 ?_
              refine g_iload C dX3_take_140 rfl ?_
              refine g_iadd C dX3_take_142 ?_
              refine g_eq (ix16 x y) ?_
              first | refine g_aload_n C dX3_take_143 rfl rfl ?_ | refine g_aload_nN C dX3_take_143 rfl rfl ?_ | refine g_aload_nq C dX3_take_143 rfl rfl ?_
              refine g_get C dX3_take_144 hm rfl kw_X3 13 (by decide) kfX3_41 rfl rfl ?_
              refine g_bipush C (v := 16) dX3_take_147 (by decide) ?_
              refine g_iload C dX3_take_149 rfl ?_
              refine g_imul C dX3_take_151 ?_
              refine g_iload C dX3_take_152 rfl ?_
              refine g_iadd C dX3_take_154 ?_
              refine g_eq (ix16 x y) ?_
              refine g_zaldN C dX3_take_155 r10 (by omega) (by decide) ?_
              refine g_if_ne C 169 dX3_take_156 (by decide) (fun c156 => ?_) (fun c156 => ?_)
              · have c156 := bI_nz.mp c156
                refine g_iconst C (v := 1) dX3_take_169 (by decide) ?_
                refine g_goto C 174 dX3_take_170 (by decide) ?_
                refine g_zastB C (true) dX3_take_174 r10 (by omega) (by decide) (rfl) ?_
                refine g_iinc C (v := nI (y + 1)) dX3_take_175 rfl (nI_1 y) (by decide) ?_
                refine g_goto C 68 dX3_take_178 (by decide) ?_
                have e78 := decide_eq_true c78
                have e106 := decide_eq_false c106
                have e156 := hkc.symm.trans c156
                have e121 := hkb.symm.trans c121
                have hb9 : true = tkK (B 10) (v / 16) (v % 16) x y := by simp only [tkK, e78, e106, e121, e156, Bool.true_or, Bool.or_true, Bool.false_or, Bool.true_and, Bool.and_true, Bool.false_and, Bool.and_false, Bool.or_false]
                have hA : (∀ x' y', x' < 16 → y' < 16 → (x' < x ∨ (x' = x ∧ y' < (y + 1)) → va_up K (16 * x + y) true (16 * x' + y') = tkK (B 10) (v / 16) (v % 16) x' y') ∧ (x < x' ∨ (x' = x ∧ (y + 1) ≤ y') → va_up K (16 * x + y) true (16 * x' + y') = B 10 (16 * x' + y'))) := by
                  intro x' y' hx' hy'
                  by_cases e : x' = x ∧ y' = y
                  · obtain ⟨rfl, rfl⟩ := e
                    refine ⟨fun _ => ?_, fun h => by omega⟩
                    rw [va_up_self]; exact hb9
                  · have hne : 16 * x' + y' ≠ 16 * x + y := by omega
                    rw [va_up_ne _ _ hne]
                    exact ⟨fun h => (hP x' y' hx' hy').1 (by omega), fun h => (hP x' y' hx' hy').2 (by omega)⟩
                have hR9 := hR.up10 (va_up K (16 * x + y) true)
                rw [up_up] at hR9
                refine g_drop [(0, .ref mo), (1, .int (nI t)), (2, .int (nI (v / 16))), (3, .int (nI (v % 16))), (4, .int (nI x)), (5, .int (nI (y + 1)))] _ rfl ?_
                exact ihy (y + 1, va_up K (16 * x + y) true, h_up wc (M 10) (eZ G 256 (fun j => bI (va_up K (16 * x + y) true j)))) ⟨hlty, hR9, hf.up (MD.a 10 (by decide)), hA⟩ (by dsimp only; omega)
              · have c156 := bI_z.mp c156
                refine g_iload C dX3_take_159 rfl ?_
                refine g_if_eq C 173 dX3_take_161 (by decide) (fun c161 => absurd c161 (by decide)) (fun _ => ?_)
                refine g_iload C dX3_take_164 rfl ?_
                refine g_if_eq C 173 dX3_take_166 (by decide) (fun c166 => absurd c166 (by decide)) (fun _ => ?_)
                refine g_iconst C (v := 1) dX3_take_169 (by decide) ?_
                refine g_goto C 174 dX3_take_170 (by decide) ?_
                refine g_zastB C (true) dX3_take_174 r10 (by omega) (by decide) (rfl) ?_
                refine g_iinc C (v := nI (y + 1)) dX3_take_175 rfl (nI_1 y) (by decide) ?_
                refine g_goto C 68 dX3_take_178 (by decide) ?_
                have e78 := decide_eq_true c78
                have e106 := decide_eq_false c106
                have e156 := hkc.symm.trans c156
                have e121 := hkb.symm.trans c121
                have hb9 : true = tkK (B 10) (v / 16) (v % 16) x y := by simp only [tkK, e78, e106, e121, e156, Bool.true_or, Bool.or_true, Bool.false_or, Bool.true_and, Bool.and_true, Bool.false_and, Bool.and_false, Bool.or_false]
                have hA : (∀ x' y', x' < 16 → y' < 16 → (x' < x ∨ (x' = x ∧ y' < (y + 1)) → va_up K (16 * x + y) true (16 * x' + y') = tkK (B 10) (v / 16) (v % 16) x' y') ∧ (x < x' ∨ (x' = x ∧ (y + 1) ≤ y') → va_up K (16 * x + y) true (16 * x' + y') = B 10 (16 * x' + y'))) := by
                  intro x' y' hx' hy'
                  by_cases e : x' = x ∧ y' = y
                  · obtain ⟨rfl, rfl⟩ := e
                    refine ⟨fun _ => ?_, fun h => by omega⟩
                    rw [va_up_self]; exact hb9
                  · have hne : 16 * x' + y' ≠ 16 * x + y := by omega
                    rw [va_up_ne _ _ hne]
                    exact ⟨fun h => (hP x' y' hx' hy').1 (by omega), fun h => (hP x' y' hx' hy').2 (by omega)⟩
                have hR9 := hR.up10 (va_up K (16 * x + y) true)
                rw [up_up] at hR9
                refine g_drop [(0, .ref mo), (1, .int (nI t)), (2, .int (nI (v / 16))), (3, .int (nI (v % 16))), (4, .int (nI x)), (5, .int (nI (y + 1)))] _ rfl ?_
                exact ihy (y + 1, va_up K (16 * x + y) true, h_up wc (M 10) (eZ G 256 (fun j => bI (va_up K (16 * x + y) true j)))) ⟨hlty, hR9, hf.up (MD.a 10 (by decide)), hA⟩ (by dsimp only; omega)
        · have c78 : x ≠ (v / 16) := fun e => c78 (congrArg nI e)
          first | refine g_aload_n C dX3_take_81 rfl rfl ?_ | refine g_aload_nN C dX3_take_81 rfl rfl ?_ | refine g_aload_nq C dX3_take_81 rfl rfl ?_
          refine g_get C dX3_take_82 hm rfl kw_X3 13 (by decide) kfX3_41 rfl rfl ?_
          refine g_bipush C (v := 16) dX3_take_85 (by decide) ?_
          refine g_iload C dX3_take_87 rfl ?_
          refine g_imul C dX3_take_89 ?_
          refine g_iload_n C dX3_take_90 rfl rfl ?_
          refine g_iadd C dX3_take_91 ?_
          refine g_eq (ix16 x (v / 16)) ?_
          refine g_zaldN C dX3_take_92 r10 (by omega) (by decide) ?_
          refine g_if_eq C 100 dX3_take_93 (by decide) (fun c93 => ?_) (fun c93 => ?_)
          · have c93 := bI_z.mp c93
            refine g_iconst C (v := 0) dX3_take_100 (by decide) ?_
            refine g_istore C dX3_take_101 (by decide) ?_
            refine g_iload C dX3_take_103 rfl ?_
            refine g_iload_n C dX3_take_105 rfl rfl ?_
            refine g_icmp_eq C 124 dX3_take_106 (by decide) (fun c106 => ?_) (fun c106 => ?_)
            · have c106 : y = (v % 16) := (nI_eq (by omega) (by omega)).mp c106
              refine g_iconst C (v := 1) dX3_take_124 (by decide) ?_
              refine g_goto C 129 dX3_take_125 (by decide) ?_
              refine g_istore C dX3_take_129 (by decide) ?_
              first | refine g_aload_n C dX3_take_131 rfl rfl ?_ | refine g_aload_nN C dX3_take_131 rfl rfl ?_ | refine g_aload_nq C dX3_take_131 rfl rfl ?_
              refine g_get C dX3_take_132 hm rfl kw_X3 13 (by decide) kfX3_41 rfl rfl ?_
              refine g_bipush C (v := 16) dX3_take_135 (by decide) ?_
              refine g_iload C dX3_take_137 rfl ?_
              refine g_imul C dX3_take_139 ?_
              refine g_iload C dX3_take_140 rfl ?_
              refine g_iadd C dX3_take_142 ?_
              refine g_eq (ix16 x y) ?_
              first | refine g_aload_n C dX3_take_143 rfl rfl ?_ | refine g_aload_nN C dX3_take_143 rfl rfl ?_ | refine g_aload_nq C dX3_take_143 rfl rfl ?_
              refine g_get C dX3_take_144 hm rfl kw_X3 13 (by decide) kfX3_41 rfl rfl ?_
              refine g_bipush C (v := 16) dX3_take_147 (by decide) ?_
              refine g_iload C dX3_take_149 rfl ?_
              refine g_imul C dX3_take_151 ?_
              refine g_iload C dX3_take_152 rfl ?_
              refine g_iadd C dX3_take_154 ?_
              refine g_eq (ix16 x y) ?_
              refine g_zaldN C dX3_take_155 r10 (by omega) (by decide) ?_
              refine g_if_ne C 169 dX3_take_156 (by decide) (fun c156 => ?_) (fun c156 => ?_)
              · have c156 := bI_nz.mp c156
                refine g_iconst C (v := 1) dX3_take_169 (by decide) ?_
                refine g_goto C 174 dX3_take_170 (by decide) ?_
                refine g_zastB C (true) dX3_take_174 r10 (by omega) (by decide) (rfl) ?_
                refine g_iinc C (v := nI (y + 1)) dX3_take_175 rfl (nI_1 y) (by decide) ?_
                refine g_goto C 68 dX3_take_178 (by decide) ?_
                have e78 := decide_eq_false c78
                have e106 := decide_eq_true c106
                have e156 := hkc.symm.trans c156
                have e93 := hka.symm.trans c93
                have hb9 : true = tkK (B 10) (v / 16) (v % 16) x y := by simp only [tkK, e78, e93, e106, e156, Bool.true_or, Bool.or_true, Bool.false_or, Bool.true_and, Bool.and_true, Bool.false_and, Bool.and_false, Bool.or_false]
                have hA : (∀ x' y', x' < 16 → y' < 16 → (x' < x ∨ (x' = x ∧ y' < (y + 1)) → va_up K (16 * x + y) true (16 * x' + y') = tkK (B 10) (v / 16) (v % 16) x' y') ∧ (x < x' ∨ (x' = x ∧ (y + 1) ≤ y') → va_up K (16 * x + y) true (16 * x' + y') = B 10 (16 * x' + y'))) := by
                  intro x' y' hx' hy'
                  by_cases e : x' = x ∧ y' = y
                  · obtain ⟨rfl, rfl⟩ := e
                    refine ⟨fun _ => ?_, fun h => by omega⟩
                    rw [va_up_self]; exact hb9
                  · have hne : 16 * x' + y' ≠ 16 * x + y := by omega
                    rw [va_up_ne _ _ hne]
                    exact ⟨fun h => (hP x' y' hx' hy').1 (by omega), fun h => (hP x' y' hx' hy').2 (by omega)⟩
                have hR9 := hR.up10 (va_up K (16 * x + y) true)
                rw [up_up] at hR9
                refine g_drop [(0, .ref mo), (1, .int (nI t)), (2, .int (nI (v / 16))), (3, .int (nI (v % 16))), (4, .int (nI x)), (5, .int (nI (y + 1)))] _ rfl ?_
                exact ihy (y + 1, va_up K (16 * x + y) true, h_up wc (M 10) (eZ G 256 (fun j => bI (va_up K (16 * x + y) true j)))) ⟨hlty, hR9, hf.up (MD.a 10 (by decide)), hA⟩ (by dsimp only; omega)
              · have c156 := bI_z.mp c156
                refine g_iload C dX3_take_159 rfl ?_
                refine g_if_eq C 173 dX3_take_161 (by decide) (fun _ => ?_) (fun c161 => absurd (by decide) c161)
                refine g_iconst C (v := 0) dX3_take_173 (by decide) ?_
                refine g_zastB C (false) dX3_take_174 r10 (by omega) (by decide) (rfl) ?_
                refine g_iinc C (v := nI (y + 1)) dX3_take_175 rfl (nI_1 y) (by decide) ?_
                refine g_goto C 68 dX3_take_178 (by decide) ?_
                have e78 := decide_eq_false c78
                have e106 := decide_eq_true c106
                have e156 := hkc.symm.trans c156
                have e93 := hka.symm.trans c93
                have hb9 : false = tkK (B 10) (v / 16) (v % 16) x y := by simp only [tkK, e78, e93, e106, e156, Bool.true_or, Bool.or_true, Bool.false_or, Bool.true_and, Bool.and_true, Bool.false_and, Bool.and_false, Bool.or_false]
                have hA : (∀ x' y', x' < 16 → y' < 16 → (x' < x ∨ (x' = x ∧ y' < (y + 1)) → va_up K (16 * x + y) false (16 * x' + y') = tkK (B 10) (v / 16) (v % 16) x' y') ∧ (x < x' ∨ (x' = x ∧ (y + 1) ≤ y') → va_up K (16 * x + y) false (16 * x' + y') = B 10 (16 * x' + y'))) := by
                  intro x' y' hx' hy'
                  by_cases e : x' = x ∧ y' = y
                  · obtain ⟨rfl, rfl⟩ := e
                    refine ⟨fun _ => ?_, fun h => by omega⟩
                    rw [va_up_self]; exact hb9
                  · have hne : 16 * x' + y' ≠ 16 * x + y := by omega
                    rw [va_up_ne _ _ hne]
                    exact ⟨fun h => (hP x' y' hx' hy').1 (by omega), fun h => (hP x' y' hx' hy').2 (by omega)⟩
                have hR9 := hR.up10 (va_up K (16 * x + y) false)
                rw [up_up] at hR9
                refine g_drop [(0, .ref mo), (1, .int (nI t)), (2, .int (nI (v / 16))), (3, .int (nI (v % 16))), (4, .int (nI x)), (5, .int (nI (y + 1)))] _ rfl ?_
                exact ihy (y + 1, va_up K (16 * x + y) false, h_up wc (M 10) (eZ G 256 (fun j => bI (va_up K (16 * x + y) false j)))) ⟨hlty, hR9, hf.up (MD.a 10 (by decide)), hA⟩ (by dsimp only; omega)
            · have c106 : y ≠ (v % 16) := fun e => c106 (congrArg nI e)
              first | refine g_aload_n C dX3_take_109 rfl rfl ?_ | refine g_aload_nN C dX3_take_109 rfl rfl ?_ | refine g_aload_nq C dX3_take_109 rfl rfl ?_
              refine g_get C dX3_take_110 hm rfl kw_X3 13 (by decide) kfX3_41 rfl rfl ?_
              refine g_bipush C (v := 16) dX3_take_113 (by decide) ?_
              refine g_iload_n C dX3_take_115 rfl rfl ?_
              refine g_imul C dX3_take_116 ?_
              refine g_iload C dX3_take_117 rfl ?_
              refine g_iadd C dX3_take_119 ?_
              refine g_eq (ix16 (v % 16) y) ?_
              refine g_zaldN C dX3_take_120 r10 (by omega) (by decide) ?_
              refine g_if_eq C 128 dX3_take_121 (by decide) (fun c121 => ?_) (fun c121 => ?_)
              · have c121 := bI_z.mp c121
                refine g_iconst C (v := 0) dX3_take_128 (by decide) ?_
                refine g_istore C dX3_take_129 (by decide) ?_
                first | refine g_aload_n C dX3_take_131 rfl rfl ?_ | refine g_aload_nN C dX3_take_131 rfl rfl ?_ | refine g_aload_nq C dX3_take_131 rfl rfl ?_
                refine g_get C dX3_take_132 hm rfl kw_X3 13 (by decide) kfX3_41 rfl rfl ?_
                refine g_bipush C (v := 16) dX3_take_135 (by decide) ?_
                refine g_iload C dX3_take_137 rfl ?_
                refine g_imul C dX3_take_139 ?_
                refine g_iload C dX3_take_140 rfl ?_
                refine g_iadd C dX3_take_142 ?_
                refine g_eq (ix16 x y) ?_
                first | refine g_aload_n C dX3_take_143 rfl rfl ?_ | refine g_aload_nN C dX3_take_143 rfl rfl ?_ | refine g_aload_nq C dX3_take_143 rfl rfl ?_
                refine g_get C dX3_take_144 hm rfl kw_X3 13 (by decide) kfX3_41 rfl rfl ?_
                refine g_bipush C (v := 16) dX3_take_147 (by decide) ?_
                refine g_iload C dX3_take_149 rfl ?_
                refine g_imul C dX3_take_151 ?_
                refine g_iload C dX3_take_152 rfl ?_
                refine g_iadd C dX3_take_154 ?_
                refine g_eq (ix16 x y) ?_
                refine g_zaldN C dX3_take_155 r10 (by omega) (by decide) ?_
                refine g_if_ne C 169 dX3_take_156 (by decide) (fun c156 => ?_) (fun c156 => ?_)
                · have c156 := bI_nz.mp c156
                  refine g_iconst C (v := 1) dX3_take_169 (by decide) ?_
                  refine g_goto C 174 dX3_take_170 (by decide) ?_
                  refine g_zastB C (true) dX3_take_174 r10 (by omega) (by decide) (rfl) ?_
                  refine g_iinc C (v := nI (y + 1)) dX3_take_175 rfl (nI_1 y) (by decide) ?_
                  refine g_goto C 68 dX3_take_178 (by decide) ?_
                  have e78 := decide_eq_false c78
                  have e106 := decide_eq_false c106
                  have e156 := hkc.symm.trans c156
                  have e93 := hka.symm.trans c93
                  have e121 := hkb.symm.trans c121
                  have hb9 : true = tkK (B 10) (v / 16) (v % 16) x y := by simp only [tkK, e78, e93, e106, e121, e156, Bool.true_or, Bool.or_true, Bool.false_or, Bool.true_and, Bool.and_true, Bool.false_and, Bool.and_false, Bool.or_false]
                  have hA : (∀ x' y', x' < 16 → y' < 16 → (x' < x ∨ (x' = x ∧ y' < (y + 1)) → va_up K (16 * x + y) true (16 * x' + y') = tkK (B 10) (v / 16) (v % 16) x' y') ∧ (x < x' ∨ (x' = x ∧ (y + 1) ≤ y') → va_up K (16 * x + y) true (16 * x' + y') = B 10 (16 * x' + y'))) := by
                    intro x' y' hx' hy'
                    by_cases e : x' = x ∧ y' = y
                    · obtain ⟨rfl, rfl⟩ := e
                      refine ⟨fun _ => ?_, fun h => by omega⟩
                      rw [va_up_self]; exact hb9
                    · have hne : 16 * x' + y' ≠ 16 * x + y := by omega
                      rw [va_up_ne _ _ hne]
                      exact ⟨fun h => (hP x' y' hx' hy').1 (by omega), fun h => (hP x' y' hx' hy').2 (by omega)⟩
                  have hR9 := hR.up10 (va_up K (16 * x + y) true)
                  rw [up_up] at hR9
                  refine g_drop [(0, .ref mo), (1, .int (nI t)), (2, .int (nI (v / 16))), (3, .int (nI (v % 16))), (4, .int (nI x)), (5, .int (nI (y + 1)))] _ rfl ?_
                  exact ihy (y + 1, va_up K (16 * x + y) true, h_up wc (M 10) (eZ G 256 (fun j => bI (va_up K (16 * x + y) true j)))) ⟨hlty, hR9, hf.up (MD.a 10 (by decide)), hA⟩ (by dsimp only; omega)
                · have c156 := bI_z.mp c156
                  refine g_iload C dX3_take_159 rfl ?_
                  refine g_if_eq C 173 dX3_take_161 (by decide) (fun _ => ?_) (fun c161 => absurd (by decide) c161)
                  refine g_iconst C (v := 0) dX3_take_173 (by decide) ?_
                  refine g_zastB C (false) dX3_take_174 r10 (by omega) (by decide) (rfl) ?_
                  refine g_iinc C (v := nI (y + 1)) dX3_take_175 rfl (nI_1 y) (by decide) ?_
                  refine g_goto C 68 dX3_take_178 (by decide) ?_
                  have e78 := decide_eq_false c78
                  have e106 := decide_eq_false c106
                  have e156 := hkc.symm.trans c156
                  have e93 := hka.symm.trans c93
                  have e121 := hkb.symm.trans c121
                  have hb9 : false = tkK (B 10) (v / 16) (v % 16) x y := by simp only [tkK, e78, e93, e106, e121, e156, Bool.true_or, Bool.or_true, Bool.false_or, Bool.true_and, Bool.and_true, Bool.false_and, Bool.and_false, Bool.or_false]
                  have hA : (∀ x' y', x' < 16 → y' < 16 → (x' < x ∨ (x' = x ∧ y' < (y + 1)) → va_up K (16 * x + y) false (16 * x' + y') = tkK (B 10) (v / 16) (v % 16) x' y') ∧ (x < x' ∨ (x' = x ∧ (y + 1) ≤ y') → va_up K (16 * x + y) false (16 * x' + y') = B 10 (16 * x' + y'))) := by
                    intro x' y' hx' hy'
                    by_cases e : x' = x ∧ y' = y
                    · obtain ⟨rfl, rfl⟩ := e
                      refine ⟨fun _ => ?_, fun h => by omega⟩
                      rw [va_up_self]; exact hb9
                    · have hne : 16 * x' + y' ≠ 16 * x + y := by omega
                      rw [va_up_ne _ _ hne]
                      exact ⟨fun h => (hP x' y' hx' hy').1 (by omega), fun h => (hP x' y' hx' hy').2 (by omega)⟩
                  have hR9 := hR.up10 (va_up K (16 * x + y) false)
                  rw [up_up] at hR9
                  refine g_drop [(0, .ref mo), (1, .int (nI t)), (2, .int (nI (v / 16))), (3, .int (nI (v % 16))), (4, .int (nI x)), (5, .int (nI (y + 1)))] _ rfl ?_
                  exact ihy (y + 1, va_up K (16 * x + y) false, h_up wc (M 10) (eZ G 256 (fun j => bI (va_up K (16 * x + y) false j)))) ⟨hlty, hR9, hf.up (MD.a 10 (by decide)), hA⟩ (by dsimp only; omega)
              · have c121 := bI_nz.mp c121
                refine g_iconst C (v := 1) dX3_take_124 (by decide) ?_
                refine g_goto C 129 dX3_take_125 (by decide) ?_
                refine g_istore C dX3_take_129 (by decide) ?_
                first | refine g_aload_n C dX3_take_131 rfl rfl ?_ | refine g_aload_nN C dX3_take_131 rfl rfl ?_ | refine g_aload_nq C dX3_take_131 rfl rfl ?_
                refine g_get C dX3_take_132 hm rfl kw_X3 13 (by decide) kfX3_41 rfl rfl ?_
                refine g_bipush C (v := 16) dX3_take_135 (by decide) ?_
                refine g_iload C dX3_take_137 rfl ?_
                refine g_imul C dX3_take_139 ?_
                refine g_iload C dX3_take_140 rfl ?_
                refine g_iadd C dX3_take_142 ?_
                refine g_eq (ix16 x y) ?_
                first | refine g_aload_n C dX3_take_143 rfl rfl ?_ | refine g_aload_nN C dX3_take_143 rfl rfl ?_ | refine g_aload_nq C dX3_take_143 rfl rfl ?_
                refine g_get C dX3_take_144 hm rfl kw_X3 13 (by decide) kfX3_41 rfl rfl ?_
                refine g_bipush C (v := 16) dX3_take_147 (by decide) ?_
                refine g_iload C dX3_take_149 rfl ?_
                refine g_imul C dX3_take_151 ?_
                refine g_iload C dX3_take_152 rfl ?_
                refine g_iadd C dX3_take_154 ?_
                refine g_eq (ix16 x y) ?_
                refine g_zaldN C dX3_take_155 r10 (by omega) (by decide) ?_
                refine g_if_ne C 169 dX3_take_156 (by decide) (fun c156 => ?_) (fun c156 => ?_)
                · have c156 := bI_nz.mp c156
                  refine g_iconst C (v := 1) dX3_take_169 (by decide) ?_
                  refine g_goto C 174 dX3_take_170 (by decide) ?_
                  refine g_zastB C (true) dX3_take_174 r10 (by omega) (by decide) (rfl) ?_
                  refine g_iinc C (v := nI (y + 1)) dX3_take_175 rfl (nI_1 y) (by decide) ?_
                  refine g_goto C 68 dX3_take_178 (by decide) ?_
                  have e78 := decide_eq_false c78
                  have e106 := decide_eq_false c106
                  have e156 := hkc.symm.trans c156
                  have e93 := hka.symm.trans c93
                  have e121 := hkb.symm.trans c121
                  have hb9 : true = tkK (B 10) (v / 16) (v % 16) x y := by simp only [tkK, e78, e93, e106, e121, e156, Bool.true_or, Bool.or_true, Bool.false_or, Bool.true_and, Bool.and_true, Bool.false_and, Bool.and_false, Bool.or_false]
                  have hA : (∀ x' y', x' < 16 → y' < 16 → (x' < x ∨ (x' = x ∧ y' < (y + 1)) → va_up K (16 * x + y) true (16 * x' + y') = tkK (B 10) (v / 16) (v % 16) x' y') ∧ (x < x' ∨ (x' = x ∧ (y + 1) ≤ y') → va_up K (16 * x + y) true (16 * x' + y') = B 10 (16 * x' + y'))) := by
                    intro x' y' hx' hy'
                    by_cases e : x' = x ∧ y' = y
                    · obtain ⟨rfl, rfl⟩ := e
                      refine ⟨fun _ => ?_, fun h => by omega⟩
                      rw [va_up_self]; exact hb9
                    · have hne : 16 * x' + y' ≠ 16 * x + y := by omega
                      rw [va_up_ne _ _ hne]
                      exact ⟨fun h => (hP x' y' hx' hy').1 (by omega), fun h => (hP x' y' hx' hy').2 (by omega)⟩
                  have hR9 := hR.up10 (va_up K (16 * x + y) true)
                  rw [up_up] at hR9
                  refine g_drop [(0, .ref mo), (1, .int (nI t)), (2, .int (nI (v / 16))), (3, .int (nI (v % 16))), (4, .int (nI x)), (5, .int (nI (y + 1)))] _ rfl ?_
                  exact ihy (y + 1, va_up K (16 * x + y) true, h_up wc (M 10) (eZ G 256 (fun j => bI (va_up K (16 * x + y) true j)))) ⟨hlty, hR9, hf.up (MD.a 10 (by decide)), hA⟩ (by dsimp only; omega)
                · have c156 := bI_z.mp c156
                  refine g_iload C dX3_take_159 rfl ?_
                  refine g_if_eq C 173 dX3_take_161 (by decide) (fun _ => ?_) (fun c161 => absurd (by decide) c161)
                  refine g_iconst C (v := 0) dX3_take_173 (by decide) ?_
                  refine g_zastB C (false) dX3_take_174 r10 (by omega) (by decide) (rfl) ?_
                  refine g_iinc C (v := nI (y + 1)) dX3_take_175 rfl (nI_1 y) (by decide) ?_
                  refine g_goto C 68 dX3_take_178 (by decide) ?_
                  have e78 := decide_eq_false c78
                  have e106 := decide_eq_false c106
                  have e156 := hkc.symm.trans c156
                  have e93 := hka.symm.trans c93
                  have e121 := hkb.symm.trans c121
                  have hb9 : false = tkK (B 10) (v / 16) (v % 16) x y := by simp only [tkK, e78, e93, e106, e121, e156, Bool.true_or, Bool.or_true, Bool.false_or, Bool.true_and, Bool.and_true, Bool.false_and, Bool.and_false, Bool.or_false]
                  have hA : (∀ x' y', x' < 16 → y' < 16 → (x' < x ∨ (x' = x ∧ y' < (y + 1)) → va_up K (16 * x + y) false (16 * x' + y') = tkK (B 10) (v / 16) (v % 16) x' y') ∧ (x < x' ∨ (x' = x ∧ (y + 1) ≤ y') → va_up K (16 * x + y) false (16 * x' + y') = B 10 (16 * x' + y'))) := by
                    intro x' y' hx' hy'
                    by_cases e : x' = x ∧ y' = y
                    · obtain ⟨rfl, rfl⟩ := e
                      refine ⟨fun _ => ?_, fun h => by omega⟩
                      rw [va_up_self]; exact hb9
                    · have hne : 16 * x' + y' ≠ 16 * x + y := by omega
                      rw [va_up_ne _ _ hne]
                      exact ⟨fun h => (hP x' y' hx' hy').1 (by omega), fun h => (hP x' y' hx' hy').2 (by omega)⟩
                  have hR9 := hR.up10 (va_up K (16 * x + y) false)
                  rw [up_up] at hR9
                  refine g_drop [(0, .ref mo), (1, .int (nI t)), (2, .int (nI (v / 16))), (3, .int (nI (v % 16))), (4, .int (nI x)), (5, .int (nI (y + 1)))] _ rfl ?_
                  exact ihy (y + 1, va_up K (16 * x + y) false, h_up wc (M 10) (eZ G 256 (fun j => bI (va_up K (16 * x + y) false j)))) ⟨hlty, hR9, hf.up (MD.a 10 (by decide)), hA⟩ (by dsimp only; omega)
          · have c93 := bI_nz.mp c93
            refine g_iconst C (v := 1) dX3_take_96 (by decide) ?_
            refine g_goto C 101 dX3_take_97 (by decide) ?_
            refine g_istore C dX3_take_101 (by decide) ?_
            refine g_iload C dX3_take_103 rfl ?_
            refine g_iload_n C dX3_take_105 rfl rfl ?_
            refine g_icmp_eq C 124 dX3_take_106 (by decide) (fun c106 => ?_) (fun c106 => ?_)
            · have c106 : y = (v % 16) := (nI_eq (by omega) (by omega)).mp c106
              refine g_iconst C (v := 1) dX3_take_124 (by decide) ?_
              refine g_goto C 129 dX3_take_125 (by decide) ?_
              refine g_istore C dX3_take_129 (by decide) ?_
              first | refine g_aload_n C dX3_take_131 rfl rfl ?_ | refine g_aload_nN C dX3_take_131 rfl rfl ?_ | refine g_aload_nq C dX3_take_131 rfl rfl ?_
              refine g_get C dX3_take_132 hm rfl kw_X3 13 (by decide) kfX3_41 rfl rfl ?_
              refine g_bipush C (v := 16) dX3_take_135 (by decide) ?_
              refine g_iload C dX3_take_137 rfl ?_
              refine g_imul C dX3_take_139 ?_
              refine g_iload C dX3_take_140 rfl ?_
              refine g_iadd C dX3_take_142 ?_
              refine g_eq (ix16 x y) ?_
              first | refine g_aload_n C dX3_take_143 rfl rfl ?_ | refine g_aload_nN C dX3_take_143 rfl rfl ?_ | refine g_aload_nq C dX3_take_143 rfl rfl ?_
              refine g_get C dX3_take_144 hm rfl kw_X3 13 (by decide) kfX3_41 rfl rfl ?_
              refine g_bipush C (v := 16) dX3_take_147 (by decide) ?_
              refine g_iload C dX3_take_149 rfl ?_
              refine g_imul C dX3_take_151 ?_
              refine g_iload C dX3_take_152 rfl ?_
              refine g_iadd C dX3_take_154 ?_
              refine g_eq (ix16 x y) ?_
              refine g_zaldN C dX3_take_155 r10 (by omega) (by decide) ?_
              refine g_if_ne C 169 dX3_take_156 (by decide) (fun c156 => ?_) (fun c156 => ?_)
              · have c156 := bI_nz.mp c156
                refine g_iconst C (v := 1) dX3_take_169 (by decide) ?_
                refine g_goto C 174 dX3_take_170 (by decide) ?_
                refine g_zastB C (true) dX3_take_174 r10 (by omega) (by decide) (rfl) ?_
                refine g_iinc C (v := nI (y + 1)) dX3_take_175 rfl (nI_1 y) (by decide) ?_
                refine g_goto C 68 dX3_take_178 (by decide) ?_
                have e78 := decide_eq_false c78
                have e106 := decide_eq_true c106
                have e156 := hkc.symm.trans c156
                have e93 := hka.symm.trans c93
                have hb9 : true = tkK (B 10) (v / 16) (v % 16) x y := by simp only [tkK, e78, e93, e106, e156, Bool.true_or, Bool.or_true, Bool.false_or, Bool.true_and, Bool.and_true, Bool.false_and, Bool.and_false, Bool.or_false]
                have hA : (∀ x' y', x' < 16 → y' < 16 → (x' < x ∨ (x' = x ∧ y' < (y + 1)) → va_up K (16 * x + y) true (16 * x' + y') = tkK (B 10) (v / 16) (v % 16) x' y') ∧ (x < x' ∨ (x' = x ∧ (y + 1) ≤ y') → va_up K (16 * x + y) true (16 * x' + y') = B 10 (16 * x' + y'))) := by
                  intro x' y' hx' hy'
                  by_cases e : x' = x ∧ y' = y
                  · obtain ⟨rfl, rfl⟩ := e
                    refine ⟨fun _ => ?_, fun h => by omega⟩
                    rw [va_up_self]; exact hb9
                  · have hne : 16 * x' + y' ≠ 16 * x + y := by omega
                    rw [va_up_ne _ _ hne]
                    exact ⟨fun h => (hP x' y' hx' hy').1 (by omega), fun h => (hP x' y' hx' hy').2 (by omega)⟩
                have hR9 := hR.up10 (va_up K (16 * x + y) true)
                rw [up_up] at hR9
                refine g_drop [(0, .ref mo), (1, .int (nI t)), (2, .int (nI (v / 16))), (3, .int (nI (v % 16))), (4, .int (nI x)), (5, .int (nI (y + 1)))] _ rfl ?_
                exact ihy (y + 1, va_up K (16 * x + y) true, h_up wc (M 10) (eZ G 256 (fun j => bI (va_up K (16 * x + y) true j)))) ⟨hlty, hR9, hf.up (MD.a 10 (by decide)), hA⟩ (by dsimp only; omega)
              · have c156 := bI_z.mp c156
                refine g_iload C dX3_take_159 rfl ?_
                refine g_if_eq C 173 dX3_take_161 (by decide) (fun c161 => absurd c161 (by decide)) (fun _ => ?_)
                refine g_iload C dX3_take_164 rfl ?_
                refine g_if_eq C 173 dX3_take_166 (by decide) (fun c166 => absurd c166 (by decide)) (fun _ => ?_)
                refine g_iconst C (v := 1) dX3_take_169 (by decide) ?_
                refine g_goto C 174 dX3_take_170 (by decide) ?_
                refine g_zastB C (true) dX3_take_174 r10 (by omega) (by decide) (rfl) ?_
                refine g_iinc C (v := nI (y + 1)) dX3_take_175 rfl (nI_1 y) (by decide) ?_
                refine g_goto C 68 dX3_take_178 (by decide) ?_
                have e78 := decide_eq_false c78
                have e106 := decide_eq_true c106
                have e156 := hkc.symm.trans c156
                have e93 := hka.symm.trans c93
                have hb9 : true = tkK (B 10) (v / 16) (v % 16) x y := by simp only [tkK, e78, e93, e106, e156, Bool.true_or, Bool.or_true, Bool.false_or, Bool.true_and, Bool.and_true, Bool.false_and, Bool.and_false, Bool.or_false]
                have hA : (∀ x' y', x' < 16 → y' < 16 → (x' < x ∨ (x' = x ∧ y' < (y + 1)) → va_up K (16 * x + y) true (16 * x' + y') = tkK (B 10) (v / 16) (v % 16) x' y') ∧ (x < x' ∨ (x' = x ∧ (y + 1) ≤ y') → va_up K (16 * x + y) true (16 * x' + y') = B 10 (16 * x' + y'))) := by
                  intro x' y' hx' hy'
                  by_cases e : x' = x ∧ y' = y
                  · obtain ⟨rfl, rfl⟩ := e
                    refine ⟨fun _ => ?_, fun h => by omega⟩
                    rw [va_up_self]; exact hb9
                  · have hne : 16 * x' + y' ≠ 16 * x + y := by omega
                    rw [va_up_ne _ _ hne]
                    exact ⟨fun h => (hP x' y' hx' hy').1 (by omega), fun h => (hP x' y' hx' hy').2 (by omega)⟩
                have hR9 := hR.up10 (va_up K (16 * x + y) true)
                rw [up_up] at hR9
                refine g_drop [(0, .ref mo), (1, .int (nI t)), (2, .int (nI (v / 16))), (3, .int (nI (v % 16))), (4, .int (nI x)), (5, .int (nI (y + 1)))] _ rfl ?_
                exact ihy (y + 1, va_up K (16 * x + y) true, h_up wc (M 10) (eZ G 256 (fun j => bI (va_up K (16 * x + y) true j)))) ⟨hlty, hR9, hf.up (MD.a 10 (by decide)), hA⟩ (by dsimp only; omega)
            · have c106 : y ≠ (v % 16) := fun e => c106 (congrArg nI e)
              first | refine g_aload_n C dX3_take_109 rfl rfl ?_ | refine g_aload_nN C dX3_take_109 rfl rfl ?_ | refine g_aload_nq C dX3_take_109 rfl rfl ?_
              refine g_get C dX3_take_110 hm rfl kw_X3 13 (by decide) kfX3_41 rfl rfl ?_
              refine g_bipush C (v := 16) dX3_take_113 (by decide) ?_
              refine g_iload_n C dX3_take_115 rfl rfl ?_
              refine g_imul C dX3_take_116 ?_
              refine g_iload C dX3_take_117 rfl ?_
              refine g_iadd C dX3_take_119 ?_
              refine g_eq (ix16 (v % 16) y) ?_
              refine g_zaldN C dX3_take_120 r10 (by omega) (by decide) ?_
              refine g_if_eq C 128 dX3_take_121 (by decide) (fun c121 => ?_) (fun c121 => ?_)
              · have c121 := bI_z.mp c121
                refine g_iconst C (v := 0) dX3_take_128 (by decide) ?_
                refine g_istore C dX3_take_129 (by decide) ?_
                first | refine g_aload_n C dX3_take_131 rfl rfl ?_ | refine g_aload_nN C dX3_take_131 rfl rfl ?_ | refine g_aload_nq C dX3_take_131 rfl rfl ?_
                refine g_get C dX3_take_132 hm rfl kw_X3 13 (by decide) kfX3_41 rfl rfl ?_
                refine g_bipush C (v := 16) dX3_take_135 (by decide) ?_
                refine g_iload C dX3_take_137 rfl ?_
                refine g_imul C dX3_take_139 ?_
                refine g_iload C dX3_take_140 rfl ?_
                refine g_iadd C dX3_take_142 ?_
                refine g_eq (ix16 x y) ?_
                first | refine g_aload_n C dX3_take_143 rfl rfl ?_ | refine g_aload_nN C dX3_take_143 rfl rfl ?_ | refine g_aload_nq C dX3_take_143 rfl rfl ?_
                refine g_get C dX3_take_144 hm rfl kw_X3 13 (by decide) kfX3_41 rfl rfl ?_
                refine g_bipush C (v := 16) dX3_take_147 (by decide) ?_
                refine g_iload C dX3_take_149 rfl ?_
                refine g_imul C dX3_take_151 ?_
                refine g_iload C dX3_take_152 rfl ?_
                refine g_iadd C dX3_take_154 ?_
                refine g_eq (ix16 x y) ?_
                refine g_zaldN C dX3_take_155 r10 (by omega) (by decide) ?_
                refine g_if_ne C 169 dX3_take_156 (by decide) (fun c156 => ?_) (fun c156 => ?_)
                · have c156 := bI_nz.mp c156
                  refine g_iconst C (v := 1) dX3_take_169 (by decide) ?_
                  refine g_goto C 174 dX3_take_170 (by decide) ?_
                  refine g_zastB C (true) dX3_take_174 r10 (by omega) (by decide) (rfl) ?_
                  refine g_iinc C (v := nI (y + 1)) dX3_take_175 rfl (nI_1 y) (by decide) ?_
                  refine g_goto C 68 dX3_take_178 (by decide) ?_
                  have e78 := decide_eq_false c78
                  have e106 := decide_eq_false c106
                  have e156 := hkc.symm.trans c156
                  have e93 := hka.symm.trans c93
                  have e121 := hkb.symm.trans c121
                  have hb9 : true = tkK (B 10) (v / 16) (v % 16) x y := by simp only [tkK, e78, e93, e106, e121, e156, Bool.true_or, Bool.or_true, Bool.false_or, Bool.true_and, Bool.and_true, Bool.false_and, Bool.and_false, Bool.or_false]
                  have hA : (∀ x' y', x' < 16 → y' < 16 → (x' < x ∨ (x' = x ∧ y' < (y + 1)) → va_up K (16 * x + y) true (16 * x' + y') = tkK (B 10) (v / 16) (v % 16) x' y') ∧ (x < x' ∨ (x' = x ∧ (y + 1) ≤ y') → va_up K (16 * x + y) true (16 * x' + y') = B 10 (16 * x' + y'))) := by
                    intro x' y' hx' hy'
                    by_cases e : x' = x ∧ y' = y
                    · obtain ⟨rfl, rfl⟩ := e
                      refine ⟨fun _ => ?_, fun h => by omega⟩
                      rw [va_up_self]; exact hb9
                    · have hne : 16 * x' + y' ≠ 16 * x + y := by omega
                      rw [va_up_ne _ _ hne]
                      exact ⟨fun h => (hP x' y' hx' hy').1 (by omega), fun h => (hP x' y' hx' hy').2 (by omega)⟩
                  have hR9 := hR.up10 (va_up K (16 * x + y) true)
                  rw [up_up] at hR9
                  refine g_drop [(0, .ref mo), (1, .int (nI t)), (2, .int (nI (v / 16))), (3, .int (nI (v % 16))), (4, .int (nI x)), (5, .int (nI (y + 1)))] _ rfl ?_
                  exact ihy (y + 1, va_up K (16 * x + y) true, h_up wc (M 10) (eZ G 256 (fun j => bI (va_up K (16 * x + y) true j)))) ⟨hlty, hR9, hf.up (MD.a 10 (by decide)), hA⟩ (by dsimp only; omega)
                · have c156 := bI_z.mp c156
                  refine g_iload C dX3_take_159 rfl ?_
                  refine g_if_eq C 173 dX3_take_161 (by decide) (fun c161 => absurd c161 (by decide)) (fun _ => ?_)
                  refine g_iload C dX3_take_164 rfl ?_
                  refine g_if_eq C 173 dX3_take_166 (by decide) (fun _ => ?_) (fun c166 => absurd (by decide) c166)
                  refine g_iconst C (v := 0) dX3_take_173 (by decide) ?_
                  refine g_zastB C (false) dX3_take_174 r10 (by omega) (by decide) (rfl) ?_
                  refine g_iinc C (v := nI (y + 1)) dX3_take_175 rfl (nI_1 y) (by decide) ?_
                  refine g_goto C 68 dX3_take_178 (by decide) ?_
                  have e78 := decide_eq_false c78
                  have e106 := decide_eq_false c106
                  have e156 := hkc.symm.trans c156
                  have e93 := hka.symm.trans c93
                  have e121 := hkb.symm.trans c121
                  have hb9 : false = tkK (B 10) (v / 16) (v % 16) x y := by simp only [tkK, e78, e93, e106, e121, e156, Bool.true_or, Bool.or_true, Bool.false_or, Bool.true_and, Bool.and_true, Bool.false_and, Bool.and_false, Bool.or_false]
                  have hA : (∀ x' y', x' < 16 → y' < 16 → (x' < x ∨ (x' = x ∧ y' < (y + 1)) → va_up K (16 * x + y) false (16 * x' + y') = tkK (B 10) (v / 16) (v % 16) x' y') ∧ (x < x' ∨ (x' = x ∧ (y + 1) ≤ y') → va_up K (16 * x + y) false (16 * x' + y') = B 10 (16 * x' + y'))) := by
                    intro x' y' hx' hy'
                    by_cases e : x' = x ∧ y' = y
                    · obtain ⟨rfl, rfl⟩ := e
                      refine ⟨fun _ => ?_, fun h => by omega⟩
                      rw [va_up_self]; exact hb9
                    · have hne : 16 * x' + y' ≠ 16 * x + y := by omega
                      rw [va_up_ne _ _ hne]
                      exact ⟨fun h => (hP x' y' hx' hy').1 (by omega), fun h => (hP x' y' hx' hy').2 (by omega)⟩
                  have hR9 := hR.up10 (va_up K (16 * x + y) false)
                  rw [up_up] at hR9
                  refine g_drop [(0, .ref mo), (1, .int (nI t)), (2, .int (nI (v / 16))), (3, .int (nI (v % 16))), (4, .int (nI x)), (5, .int (nI (y + 1)))] _ rfl ?_
                  exact ihy (y + 1, va_up K (16 * x + y) false, h_up wc (M 10) (eZ G 256 (fun j => bI (va_up K (16 * x + y) false j)))) ⟨hlty, hR9, hf.up (MD.a 10 (by decide)), hA⟩ (by dsimp only; omega)
              · have c121 := bI_nz.mp c121
                refine g_iconst C (v := 1) dX3_take_124 (by decide) ?_
                refine g_goto C 129 dX3_take_125 (by decide) ?_
                refine g_istore C dX3_take_129 (by decide) ?_
                first | refine g_aload_n C dX3_take_131 rfl rfl ?_ | refine g_aload_nN C dX3_take_131 rfl rfl ?_ | refine g_aload_nq C dX3_take_131 rfl rfl ?_
                refine g_get C dX3_take_132 hm rfl kw_X3 13 (by decide) kfX3_41 rfl rfl ?_
                refine g_bipush C (v := 16) dX3_take_135 (by decide) ?_
                refine g_iload C dX3_take_137 rfl ?_
                refine g_imul C dX3_take_139 ?_
                refine g_iload C dX3_take_140 rfl ?_
                refine g_iadd C dX3_take_142 ?_
                refine g_eq (ix16 x y) ?_
                first | refine g_aload_n C dX3_take_143 rfl rfl ?_ | refine g_aload_nN C dX3_take_143 rfl rfl ?_ | refine g_aload_nq C dX3_take_143 rfl rfl ?_
                refine g_get C dX3_take_144 hm rfl kw_X3 13 (by decide) kfX3_41 rfl rfl ?_
                refine g_bipush C (v := 16) dX3_take_147 (by decide) ?_
                refine g_iload C dX3_take_149 rfl ?_
                refine g_imul C dX3_take_151 ?_
                refine g_iload C dX3_take_152 rfl ?_
                refine g_iadd C dX3_take_154 ?_
                refine g_eq (ix16 x y) ?_
                refine g_zaldN C dX3_take_155 r10 (by omega) (by decide) ?_
                refine g_if_ne C 169 dX3_take_156 (by decide) (fun c156 => ?_) (fun c156 => ?_)
                · have c156 := bI_nz.mp c156
                  refine g_iconst C (v := 1) dX3_take_169 (by decide) ?_
                  refine g_goto C 174 dX3_take_170 (by decide) ?_
                  refine g_zastB C (true) dX3_take_174 r10 (by omega) (by decide) (rfl) ?_
                  refine g_iinc C (v := nI (y + 1)) dX3_take_175 rfl (nI_1 y) (by decide) ?_
                  refine g_goto C 68 dX3_take_178 (by decide) ?_
                  have e78 := decide_eq_false c78
                  have e106 := decide_eq_false c106
                  have e156 := hkc.symm.trans c156
                  have e93 := hka.symm.trans c93
                  have e121 := hkb.symm.trans c121
                  have hb9 : true = tkK (B 10) (v / 16) (v % 16) x y := by simp only [tkK, e78, e93, e106, e121, e156, Bool.true_or, Bool.or_true, Bool.false_or, Bool.true_and, Bool.and_true, Bool.false_and, Bool.and_false, Bool.or_false]
                  have hA : (∀ x' y', x' < 16 → y' < 16 → (x' < x ∨ (x' = x ∧ y' < (y + 1)) → va_up K (16 * x + y) true (16 * x' + y') = tkK (B 10) (v / 16) (v % 16) x' y') ∧ (x < x' ∨ (x' = x ∧ (y + 1) ≤ y') → va_up K (16 * x + y) true (16 * x' + y') = B 10 (16 * x' + y'))) := by
                    intro x' y' hx' hy'
                    by_cases e : x' = x ∧ y' = y
                    · obtain ⟨rfl, rfl⟩ := e
                      refine ⟨fun _ => ?_, fun h => by omega⟩
                      rw [va_up_self]; exact hb9
                    · have hne : 16 * x' + y' ≠ 16 * x + y := by omega
                      rw [va_up_ne _ _ hne]
                      exact ⟨fun h => (hP x' y' hx' hy').1 (by omega), fun h => (hP x' y' hx' hy').2 (by omega)⟩
                  have hR9 := hR.up10 (va_up K (16 * x + y) true)
                  rw [up_up] at hR9
                  refine g_drop [(0, .ref mo), (1, .int (nI t)), (2, .int (nI (v / 16))), (3, .int (nI (v % 16))), (4, .int (nI x)), (5, .int (nI (y + 1)))] _ rfl ?_
                  exact ihy (y + 1, va_up K (16 * x + y) true, h_up wc (M 10) (eZ G 256 (fun j => bI (va_up K (16 * x + y) true j)))) ⟨hlty, hR9, hf.up (MD.a 10 (by decide)), hA⟩ (by dsimp only; omega)
                · have c156 := bI_z.mp c156
                  refine g_iload C dX3_take_159 rfl ?_
                  refine g_if_eq C 173 dX3_take_161 (by decide) (fun c161 => absurd c161 (by decide)) (fun _ => ?_)
                  refine g_iload C dX3_take_164 rfl ?_
                  refine g_if_eq C 173 dX3_take_166 (by decide) (fun c166 => absurd c166 (by decide)) (fun _ => ?_)
                  refine g_iconst C (v := 1) dX3_take_169 (by decide) ?_
                  refine g_goto C 174 dX3_take_170 (by decide) ?_
                  refine g_zastB C (true) dX3_take_174 r10 (by omega) (by decide) (rfl) ?_
                  refine g_iinc C (v := nI (y + 1)) dX3_take_175 rfl (nI_1 y) (by decide) ?_
                  refine g_goto C 68 dX3_take_178 (by decide) ?_
                  have e78 := decide_eq_false c78
                  have e106 := decide_eq_false c106
                  have e156 := hkc.symm.trans c156
                  have e93 := hka.symm.trans c93
                  have e121 := hkb.symm.trans c121
                  have hb9 : true = tkK (B 10) (v / 16) (v % 16) x y := by simp only [tkK, e78, e93, e106, e121, e156, Bool.true_or, Bool.or_true, Bool.false_or, Bool.true_and, Bool.and_true, Bool.false_and, Bool.and_false, Bool.or_false]
                  have hA : (∀ x' y', x' < 16 → y' < 16 → (x' < x ∨ (x' = x ∧ y' < (y + 1)) → va_up K (16 * x + y) true (16 * x' + y') = tkK (B 10) (v / 16) (v % 16) x' y') ∧ (x < x' ∨ (x' = x ∧ (y + 1) ≤ y') → va_up K (16 * x + y) true (16 * x' + y') = B 10 (16 * x' + y'))) := by
                    intro x' y' hx' hy'
                    by_cases e : x' = x ∧ y' = y
                    · obtain ⟨rfl, rfl⟩ := e
                      refine ⟨fun _ => ?_, fun h => by omega⟩
                      rw [va_up_self]; exact hb9
                    · have hne : 16 * x' + y' ≠ 16 * x + y := by omega
                      rw [va_up_ne _ _ hne]
                      exact ⟨fun h => (hP x' y' hx' hy').1 (by omega), fun h => (hP x' y' hx' hy').2 (by omega)⟩
                  have hR9 := hR.up10 (va_up K (16 * x + y) true)
                  rw [up_up] at hR9
                  refine g_drop [(0, .ref mo), (1, .int (nI t)), (2, .int (nI (v / 16))), (3, .int (nI (v % 16))), (4, .int (nI x)), (5, .int (nI (y + 1)))] _ rfl ?_
                  exact ihy (y + 1, va_up K (16 * x + y) true, h_up wc (M 10) (eZ G 256 (fun j => bI (va_up K (16 * x + y) true j)))) ⟨hlty, hR9, hf.up (MD.a 10 (by decide)), hA⟩ (by dsimp only; omega)
  · have hK : B 10 (16 * (v % 16) + (v / 16)) = true := bI_nz.mp c31
    first | refine g_aload_n C dX3_take_34 rfl rfl ?_ | refine g_aload_nN C dX3_take_34 rfl rfl ?_ | refine g_aload_nq C dX3_take_34 rfl rfl ?_
    refine g_get C dX3_take_35 hm rfl kw_X3 14 (by decide) kfX3_44 rfl rfl ?_
    first | refine g_aload_n C dX3_take_38 rfl rfl ?_ | refine g_aload_nN C dX3_take_38 rfl rfl ?_ | refine g_aload_nq C dX3_take_38 rfl rfl ?_
    refine g_get C dX3_take_39 hm rfl kw_X3 15 (by decide) kfX3_110 rfl rfl ?_
    refine g_iload_n C dX3_take_42 rfl rfl ?_
    refine g_iastN C dX3_take_43 r11 hq (by decide) ?_
    have hR := hR.up11 (upd (I 11) q (nI t))
    obtain ⟨hm, r0, r1, r2, r3, r4, r5, r6, r7, r8, r9, r10, r11, r12, hinj, hn⟩ := id hR
    first | refine g_aload_n C dX3_take_44 rfl rfl ?_ | refine g_aload_nN C dX3_take_44 rfl rfl ?_ | refine g_aload_nq C dX3_take_44 rfl rfl ?_
    refine g_dup C dX3_take_45 rfl ?_
    refine g_get C dX3_take_46 hm rfl kw_X3 15 (by decide) kfX3_110 rfl rfl ?_
    refine g_iconst C (v := 1) dX3_take_49 (by decide) ?_
    refine g_iadd C dX3_take_50 ?_
    refine g_eq (nI_1 q) ?_
    refine g_put C dX3_take_51 hm rfl kw_X3 tyX3 tyX3_ok nmX3 15 (by decide) kfX3_110 rfl rfl rfl rfl (Nat.le_of_ble_eq_true rfl) ?_
    have hR := hR.upM thr ord (nI (q + 1)) hn
    exact g_vret C hr dX3_take_54 (by decide) (by decide) ⟨rfl, va_up I 11 (upd (I 11) q (nI t)), B, q + 1, hR, (fr.rf.up (MD.a 11 (by decide))).up MD.m, fun a ha => va_up_ne _ _ ha, fun _ _ => rfl, Nat.le_refl _, fun s hs => hs.opn hv hv2 hK⟩

