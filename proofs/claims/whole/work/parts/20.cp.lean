/-! ===== the model: compact, take ===== -/
theorem cmB_c {B B' : Nat → Nat → Bool} (h : B' 7 = B 7) (t : Nat) : cmB B' t = cmB B t := by
  have h1 : cmS B' t = cmS B t := by funext x y; simp only [cmS, h]
  unfold cmB; rw [h1]
theorem paB_c {I : Nat → Nat → Int32} {B B' : Nat → Nat → Bool} (h : B' 7 = B 7) (n t : Nat) : paB I B' n t = paB I B n t := by
  have h1 : paS I B' t = paS I B t := by funext x y; simp only [paS, isOfB, h, cmB_c h]
  unfold paB; rw [h1, cmB_c h]
/-- what compact leaves -/
def cpOk (I : Nat → Nat → Int32) (B B' : Nat → Nat → Bool) (n : Nat) : Prop :=
  (∀ t, t < n → B' 6 t = (B 6 t || cpM I B n t)) ∧ (∀ t, n ≤ t → B' 6 t = B 6 t) ∧ (∀ d t, d < 6 → t < n → B' 7 (120 * d + t) = (B 7 (120 * d + t) && !(B 6 t || cpM I B n t))) ∧ (∀ d t, d < 6 → n ≤ t → t < 120 → B' 7 (120 * d + t) = B 7 (120 * d + t))

set_option maxHeartbeats 4000000 in
set_option maxRecDepth 100000 in
theorem c_X3_compact (l : Launch) (G : hD) (w : hW) (mo : Nat) (M : Nat → Nat) (n : Nat) (I : Nat → Nat → Int32) (B : Nat → Nat → Bool) (thr ord mny : Int32) (hR : MR G mo M n I B thr ord mny w) : h_Met l yX3_compact (Cond.code yX3_compact cX3_compact 4 (some .int)) { frames := 3, cells := 0, slots := 0, locals := 80 } G [.ref mo] w (fun v w' => v = some (.int (iter (cmpS I B n) 0 n)) ∧ ∃ B', MR G mo M n I B' 0 ord mny w' ∧ fr (MD mo M) w w' ∧ cpOk I B B' n) noX := by
  refine h_met RX3 rfl (by decide) (Nat.le_of_ble_eq_true rfl) (cat_c (by first | rfl | exact rf_cat _) cat_n) ?_
  intro p e s m below meth c A C hnt hr hnm
  obtain ⟨hm, r0, r1, r2, r3, r4, r5, r6, r7, r8, r9, r10, r11, r12, hinj, hn⟩ := id hR
  first | refine g_aload_n C dX3_compact_0 rfl rfl ?_ | refine g_aload_nN C dX3_compact_0 rfl rfl ?_ | refine g_aload_nq C dX3_compact_0 rfl rfl ?_
  refine g_iconst C (v := 0) dX3_compact_1 (by decide) ?_
  refine g_put C dX3_compact_2 hm rfl kw_X3 tyX3 tyX3_ok nmX3 0 (by decide) kfX3_50 rfl rfl rfl rfl (Nat.le_of_ble_eq_true rfl) ?_
  have hR := hR.upM 0 ord mny hn
  have hR0 : MR G mo M n I (va_up B 12 (B 12)) 0 ord mny _ := (up_eta B 12).symm ▸ hR
  obtain ⟨hm, r0, r1, r2, r3, r4, r5, r6, r7, r8, r9, r10, r11, r12, hinj, hn⟩ := id hR
  refine g_iconst C (v := 0) dX3_compact_5 (by decide) ?_
  refine g_istore_n C dX3_compact_6 rfl (by decide) ?_
  refine g_iconst C (v := 0) dX3_compact_7 (by decide) ?_
  refine g_istore_n C dX3_compact_8 rfl (by decide) ?_
  refine g_loop (σ := Nat × (Nat → Bool) × hW) (fun s => s.1 ≤ n ∧ MR G mo M n I (va_up B 12 s.2.1) 0 ord mny s.2.2 ∧ fr (MD mo M) w s.2.2 ∧ ∀ t, t < s.1 → s.2.1 t = cpM I B n t) (fun s => n - s.1) (fun s => s.2.2) (fun s => [(0, .ref mo), (1, .int (iter (cmpS I B n) 0 s.1)), (2, .int (nI s.1))]) ?_ (0, B 12, _) ⟨Nat.zero_le _, hR0, fr.rf.up (b := mo) (e := cellM M 0 n ord mny) MD.m, fun t ht => absurd ht (Nat.not_lt_zero _)⟩
  clear hR0 hR r0 r1 r2 r3 r4 r5 r6 r7 r8 r9 r10 r11 r12 hm
  rintro ⟨k, g, wc⟩ ⟨hk, hR, hf, hg⟩ ih1
  dsimp only at hk hR hf hg ih1 ⊢
  obtain ⟨hm, r0, r1, r2, r3, r4, r5, r6, r7, r8, r9, r10, r11, r12, hinj, hn⟩ := id hR
  refine g_iload_n C dX3_compact_9 rfl rfl ?_
  first | refine g_aload_n C dX3_compact_10 rfl rfl ?_ | refine g_aload_nN C dX3_compact_10 rfl rfl ?_ | refine g_aload_nq C dX3_compact_10 rfl rfl ?_
  refine g_get C dX3_compact_11 hm rfl kw_X3 1 (by decide) kfX3_58 rfl rfl ?_
  refine g_icmp_ge C 68 dX3_compact_14 (by decide) (fun c14 => ?_) (fun c14 => ?_)
  · have hkn : n = k := by have := (nI_leI (a := n) (b := k) (by omega) (by omega)).mp c14; omega
    subst hkn
    refine g_iconst C (v := 0) dX3_compact_68 (by decide) ?_
    refine g_istore_n C dX3_compact_69 rfl (by decide) ?_
    refine g_loop (σ := Nat × (Nat → Nat → Bool) × hW) (fun s => s.1 ≤ n ∧ MR G mo M n I s.2.1 0 ord mny s.2.2 ∧ fr (MD mo M) w s.2.2 ∧ (∀ t, t < n → s.2.1 12 t = cpM I B n t) ∧ (∀ t, t < s.1 → s.2.1 6 t = (B 6 t || cpM I B n t)) ∧ (∀ t, s.1 ≤ t → s.2.1 6 t = B 6 t) ∧ (∀ d t, d < 6 → t < s.1 → s.2.1 7 (120 * d + t) = (B 7 (120 * d + t) && !(B 6 t || cpM I B n t))) ∧ (∀ d t, d < 6 → s.1 ≤ t → t < 120 → s.2.1 7 (120 * d + t) = B 7 (120 * d + t))) (fun s => n - s.1) (fun s => s.2.2) (fun s => [(0, .ref mo), (1, .int (iter (cmpS I B n) 0 n)), (2, .int (nI s.1))]) ?_ (0, va_up B 12 g, wc) ⟨Nat.zero_le _, hR, hf, hg, (fun t ht => absurd ht (Nat.not_lt_zero _)), (fun t _ => rfl), (fun d t _ ht => absurd ht (Nat.not_lt_zero _)), fun d t _ _ _ => rfl⟩
    clear hR hf r0 r1 r2 r3 r4 r5 r6 r7 r8 r9 r10 r11 r12 hm
    rintro ⟨k, Bc, wc⟩ ⟨hk, hR, hf, h12, h6, h6b, h7, h7b⟩ ih2
    dsimp only at hk hR hf h12 h6 h6b h7 h7b ih2 ⊢
    obtain ⟨hm, r0, r1, r2, r3, r4, r5, r6, r7, r8, r9, r10, r11, r12, hinj, hn⟩ := id hR
    refine g_iload_n C dX3_compact_70 rfl rfl ?_
    first | refine g_aload_n C dX3_compact_71 rfl rfl ?_ | refine g_aload_nN C dX3_compact_71 rfl rfl ?_ | refine g_aload_nq C dX3_compact_71 rfl rfl ?_
    refine g_get C dX3_compact_72 hm rfl kw_X3 1 (by decide) kfX3_58 rfl rfl ?_
    refine g_icmp_ge C 166 dX3_compact_75 (by decide) (fun c75 => ?_) (fun c75 => ?_)
    · have hkn : n = k := by have := (nI_leI (a := n) (b := k) (by omega) (by omega)).mp c75; omega
      subst hkn
      refine g_iload_n C dX3_compact_166 rfl rfl ?_
      exact g_iret C hr dX3_compact_167 (by decide) (by decide) ⟨rfl, Bc, hR, hf, h6, h6b, h7, h7b⟩
    · have hlt : k < n := nI_nge c75 (by omega) (by omega)
      first | refine g_aload_n C dX3_compact_78 rfl rfl ?_ | refine g_aload_nN C dX3_compact_78 rfl rfl ?_ | refine g_aload_nq C dX3_compact_78 rfl rfl ?_
      refine g_get C dX3_compact_79 hm rfl kw_X3 8 (by decide) kfX3_28 rfl rfl ?_
      refine g_iload_n C dX3_compact_82 rfl rfl ?_
      first | refine g_aload_n C dX3_compact_83 rfl rfl ?_ | refine g_aload_nN C dX3_compact_83 rfl rfl ?_ | refine g_aload_nq C dX3_compact_83 rfl rfl ?_
      refine g_get C dX3_compact_84 hm rfl kw_X3 8 (by decide) kfX3_28 rfl rfl ?_
      refine g_iload_n C dX3_compact_87 rfl rfl ?_
      refine g_zaldN C dX3_compact_88 r6 (by omega) (by decide) ?_
      refine g_if_ne C 101 dX3_compact_89 (by decide) (fun c89 => ?_) (fun c89 => ?_)
      · have c89 := bI_nz.mp c89
        refine g_iconst C (v := 1) dX3_compact_101 (by decide) ?_
        refine g_goto C 106 dX3_compact_102 (by decide) ?_
        refine g_zastB C (true) dX3_compact_106 r6 (by omega) (by decide) (rfl) ?_
        have hR := hR.up6 (va_up (Bc 6) k true)
        obtain ⟨hm, r0, r1, r2, r3, r4, r5, r6, r7, r8, r9, r10, r11, r12, hinj, hn⟩ := id hR
        refine g_iconst C (v := 0) dX3_compact_107 (by decide) ?_
        refine g_istore_n C dX3_compact_108 rfl (by decide) ?_
        have hf6 : true = (B 6 k || cpM I B n k) := by rw [← h12 k hlt, ← h6b k (Nat.le_refl _)]; simp [c89]
        refine g_loop (σ := Nat × (Nat → Nat → Bool) × hW) (fun s => s.1 ≤ 6 ∧ MR G mo M n I s.2.1 0 ord mny s.2.2 ∧ fr (MD mo M) w s.2.2 ∧ s.2.1 12 = Bc 12 ∧ (s.2.1 6 k = (B 6 k || cpM I B n k) ∧ ∀ t, t ≠ k → s.2.1 6 t = Bc 6 t) ∧ (∀ d, d < s.1 → s.2.1 7 (120 * d + k) = (Bc 7 (120 * d + k) && !s.2.1 6 k)) ∧ (∀ i, (∀ d, d < s.1 → i ≠ 120 * d + k) → s.2.1 7 i = Bc 7 i)) (fun s => 6 - s.1) (fun s => s.2.2) (fun s => [(0, .ref mo), (1, .int (iter (cmpS I B n) 0 n)), (2, .int (nI k)), (3, .int (nI s.1))]) ?_ (0, va_up Bc 6 (va_up (Bc 6) k true), h_up wc (M 6) (eZ G 120 (fun j => bI (va_up (Bc 6) k true j)))) ⟨Nat.zero_le _, hR, hf.up (MD.a 6 (by decide)), rfl, ⟨(va_up_self _ _ _).trans hf6, fun t ht => va_up_ne _ _ ht⟩, (fun d hd => absurd hd (Nat.not_lt_zero _)), fun i _ => rfl⟩
        rintro ⟨j, Bj, wj⟩ ⟨hj, hR, hf, hj12, ⟨hj6c, hj6⟩, hj7, hj8⟩ ih3
        dsimp only at hj hR hf hj12 hj6 hj6c hj7 hj8 ih3 ⊢
        obtain ⟨hm, r0, r1, r2, r3, r4, r5, r6, r7, r8, r9, r10, r11, r12, hinj, hn⟩ := id hR
        refine g_iload_n C dX3_compact_109 rfl rfl ?_
        refine g_bipush C (v := 6) dX3_compact_110 (by decide) ?_
        refine g_icmp_ge C 160 dX3_compact_112 (by decide) (fun c112 => ?_) (fun c112 => ?_)
        · obtain rfl : j = 6 := by have := (nI_leI (a := 6) (b := j) (by decide) (by omega)).mp c112; omega
          have hj6k : Bj 6 k = (B 6 k || cpM I B n k) := hj6c
          refine g_iinc C (v := nI (k + 1)) dX3_compact_160 rfl (nI_1 k) (by decide) ?_
          refine g_goto C 70 dX3_compact_163 (by decide) ?_
          refine g_drop [(0, .ref mo), (1, .int (iter (cmpS I B n) 0 n)), (2, .int (nI (k + 1)))] _ rfl ?_
          have hA12 : ∀ t, t < n → Bj 12 t = cpM I B n t := fun t ht => by rw [hj12]; exact h12 t ht
          have hA6 : ∀ t, t < k + 1 → Bj 6 t = (B 6 t || cpM I B n t) := by
            intro t ht
            by_cases e : t = k
            · subst e; exact hj6k
            · rw [hj6 t e]; exact h6 t (by omega)
          have hA6b : ∀ t, k + 1 ≤ t → Bj 6 t = B 6 t := fun t ht => by rw [hj6 t (by omega)]; exact h6b t (by omega)
          have hA7 : ∀ d t, d < 6 → t < k + 1 → Bj 7 (120 * d + t) = (B 7 (120 * d + t) && !(B 6 t || cpM I B n t)) := by
            intro d t hd ht
            by_cases e : t = k
            · subst e; rw [hj7 d hd, hj6k, h7b d t hd (Nat.le_refl _) (by omega)]
            · rw [hj8 _ (fun d' hd' => by omega)]; exact h7 d t hd (by omega)
          have hA7b : ∀ d t, d < 6 → k + 1 ≤ t → t < 120 → Bj 7 (120 * d + t) = B 7 (120 * d + t) := by
            intro d t hd ht ht2
            rw [hj8 _ (fun d' hd' => by omega)]; exact h7b d t hd (by omega) ht2
          exact ih2 (k + 1, Bj, wj) ⟨hlt, hR, hf, hA12, hA6, hA6b, hA7, hA7b⟩ (by dsimp only; omega)
        · have hltj : j < 6 := nI_nge c112 (by omega) (by decide)
          have hj9 : Bj 7 (120 * j + k) = Bc 7 (120 * j + k) := hj8 _ (fun d hd => by omega)
          first | refine g_aload_n C dX3_compact_115 rfl rfl ?_ | refine g_aload_nN C dX3_compact_115 rfl rfl ?_ | refine g_aload_nq C dX3_compact_115 rfl rfl ?_
          refine g_get C dX3_compact_116 hm rfl kw_X3 9 (by decide) kfX3_32 rfl rfl ?_
          refine g_bipush C (v := 120) dX3_compact_119 (by decide) ?_
          refine g_iload_n C dX3_compact_121 rfl rfl ?_
          refine g_imul C dX3_compact_122 ?_
          refine g_iload_n C dX3_compact_123 rfl rfl ?_
          refine g_iadd C dX3_compact_124 ?_
          refine g_eq (ix120 j k) ?_
          first | refine g_aload_n C dX3_compact_125 rfl rfl ?_ | refine g_aload_nN C dX3_compact_125 rfl rfl ?_ | refine g_aload_nq C dX3_compact_125 rfl rfl ?_
          refine g_get C dX3_compact_126 hm rfl kw_X3 9 (by decide) kfX3_32 rfl rfl ?_
          refine g_bipush C (v := 120) dX3_compact_129 (by decide) ?_
          refine g_iload_n C dX3_compact_131 rfl rfl ?_
          refine g_imul C dX3_compact_132 ?_
          refine g_iload_n C dX3_compact_133 rfl rfl ?_
          refine g_iadd C dX3_compact_134 ?_
          refine g_eq (ix120 j k) ?_
          refine g_zaldN C dX3_compact_135 r7 (by omega) (by decide) ?_
          refine g_if_eq C 152 dX3_compact_136 (by decide) (fun c136 => ?_) (fun c136 => ?_)
          · have c136 := bI_z.mp c136
            refine g_iconst C (v := 0) dX3_compact_152 (by decide) ?_
            refine g_zastB C (false) dX3_compact_153 r7 (by omega) (by decide) (rfl) ?_
            refine g_iinc C (v := nI (j + 1)) dX3_compact_154 rfl (nI_1 j) (by decide) ?_
            refine g_goto C 109 dX3_compact_157 (by decide) ?_
            have hA : ∀ d, d < j + 1 → va_up (Bj 7) (120 * j + k) false (120 * d + k) = (Bc 7 (120 * d + k) && !Bj 6 k) := by
              intro d hd
              by_cases e : d = j
              · subst e
                rw [va_up_self]
                simp [← hj9, c136]
              · rw [va_up_ne _ _ (by omega)]
                exact hj7 d (by show d < j; omega)
            have hB : ∀ i, (∀ d, d < j + 1 → i ≠ 120 * d + k) → va_up (Bj 7) (120 * j + k) false i = Bc 7 i := by
              intro i hi
              rw [va_up_ne _ _ (hi j (Nat.lt_succ_self _))]
              exact hj8 i (fun d hd => hi d (Nat.lt_succ_of_lt hd))
            exact ih3 (j + 1, va_up Bj 7 (va_up (Bj 7) (120 * j + k) false), h_up wj (M 7) (eZ G 720 (fun i => bI (va_up (Bj 7) (120 * j + k) false i)))) ⟨hltj, hR.up7 (va_up (Bj 7) (120 * j + k) false), hf.up (MD.a 7 (by decide)), hj12, ⟨hj6c, hj6⟩, hA, hB⟩ (by dsimp only; omega)
          · have c136 := bI_nz.mp c136
            first | refine g_aload_n C dX3_compact_139 rfl rfl ?_ | refine g_aload_nN C dX3_compact_139 rfl rfl ?_ | refine g_aload_nq C dX3_compact_139 rfl rfl ?_
            refine g_get C dX3_compact_140 hm rfl kw_X3 8 (by decide) kfX3_28 rfl rfl ?_
            refine g_iload_n C dX3_compact_143 rfl rfl ?_
            refine g_zaldN C dX3_compact_144 r6 (by omega) (by decide) ?_
            refine g_if_ne C 152 dX3_compact_145 (by decide) (fun c145 => ?_) (fun c145 => ?_)
            · have c145 := bI_nz.mp c145
              refine g_iconst C (v := 0) dX3_compact_152 (by decide) ?_
              refine g_zastB C (false) dX3_compact_153 r7 (by omega) (by decide) (rfl) ?_
              refine g_iinc C (v := nI (j + 1)) dX3_compact_154 rfl (nI_1 j) (by decide) ?_
              refine g_goto C 109 dX3_compact_157 (by decide) ?_
              have hA : ∀ d, d < j + 1 → va_up (Bj 7) (120 * j + k) false (120 * d + k) = (Bc 7 (120 * d + k) && !Bj 6 k) := by
                intro d hd
                by_cases e : d = j
                · subst e
                  rw [va_up_self]
                  simp [← hj9, c136, c145]
                · rw [va_up_ne _ _ (by omega)]
                  exact hj7 d (by show d < j; omega)
              have hB : ∀ i, (∀ d, d < j + 1 → i ≠ 120 * d + k) → va_up (Bj 7) (120 * j + k) false i = Bc 7 i := by
                intro i hi
                rw [va_up_ne _ _ (hi j (Nat.lt_succ_self _))]
                exact hj8 i (fun d hd => hi d (Nat.lt_succ_of_lt hd))
              exact ih3 (j + 1, va_up Bj 7 (va_up (Bj 7) (120 * j + k) false), h_up wj (M 7) (eZ G 720 (fun i => bI (va_up (Bj 7) (120 * j + k) false i)))) ⟨hltj, hR.up7 (va_up (Bj 7) (120 * j + k) false), hf.up (MD.a 7 (by decide)), hj12, ⟨hj6c, hj6⟩, hA, hB⟩ (by dsimp only; omega)
            · have c145 := bI_z.mp c145
              refine g_iconst C (v := 1) dX3_compact_148 (by decide) ?_
              refine g_goto C 153 dX3_compact_149 (by decide) ?_
              refine g_zastB C (true) dX3_compact_153 r7 (by omega) (by decide) (rfl) ?_
              refine g_iinc C (v := nI (j + 1)) dX3_compact_154 rfl (nI_1 j) (by decide) ?_
              refine g_goto C 109 dX3_compact_157 (by decide) ?_
              have hA : ∀ d, d < j + 1 → va_up (Bj 7) (120 * j + k) true (120 * d + k) = (Bc 7 (120 * d + k) && !Bj 6 k) := by
                intro d hd
                by_cases e : d = j
                · subst e
                  rw [va_up_self]
                  simp [← hj9, c136, c145]
                · rw [va_up_ne _ _ (by omega)]
                  exact hj7 d (by show d < j; omega)
              have hB : ∀ i, (∀ d, d < j + 1 → i ≠ 120 * d + k) → va_up (Bj 7) (120 * j + k) true i = Bc 7 i := by
                intro i hi
                rw [va_up_ne _ _ (hi j (Nat.lt_succ_self _))]
                exact hj8 i (fun d hd => hi d (Nat.lt_succ_of_lt hd))
              exact ih3 (j + 1, va_up Bj 7 (va_up (Bj 7) (120 * j + k) true), h_up wj (M 7) (eZ G 720 (fun i => bI (va_up (Bj 7) (120 * j + k) true i)))) ⟨hltj, hR.up7 (va_up (Bj 7) (120 * j + k) true), hf.up (MD.a 7 (by decide)), hj12, ⟨hj6c, hj6⟩, hA, hB⟩ (by dsimp only; omega)
      · have c89 := bI_z.mp c89
        first | refine g_aload_n C dX3_compact_92 rfl rfl ?_ | refine g_aload_nN C dX3_compact_92 rfl rfl ?_ | refine g_aload_nq C dX3_compact_92 rfl rfl ?_
        refine g_get C dX3_compact_93 hm rfl kw_X3 16 (by decide) kfX3_47 rfl rfl ?_
        refine g_iload_n C dX3_compact_96 rfl rfl ?_
        refine g_zaldN C dX3_compact_97 r12 (by omega) (by decide) ?_
        refine g_if_eq C 105 dX3_compact_98 (by decide) (fun c98 => ?_) (fun c98 => ?_)
        · have c98 := bI_z.mp c98
          refine g_iconst C (v := 0) dX3_compact_105 (by decide) ?_
          refine g_zastB C (false) dX3_compact_106 r6 (by omega) (by decide) (rfl) ?_
          have hR := hR.up6 (va_up (Bc 6) k false)
          obtain ⟨hm, r0, r1, r2, r3, r4, r5, r6, r7, r8, r9, r10, r11, r12, hinj, hn⟩ := id hR
          refine g_iconst C (v := 0) dX3_compact_107 (by decide) ?_
          refine g_istore_n C dX3_compact_108 rfl (by decide) ?_
          have hf6 : false = (B 6 k || cpM I B n k) := by rw [← h12 k hlt, ← h6b k (Nat.le_refl _)]; simp [c89, c98]
          refine g_loop (σ := Nat × (Nat → Nat → Bool) × hW) (fun s => s.1 ≤ 6 ∧ MR G mo M n I s.2.1 0 ord mny s.2.2 ∧ fr (MD mo M) w s.2.2 ∧ s.2.1 12 = Bc 12 ∧ (s.2.1 6 k = (B 6 k || cpM I B n k) ∧ ∀ t, t ≠ k → s.2.1 6 t = Bc 6 t) ∧ (∀ d, d < s.1 → s.2.1 7 (120 * d + k) = (Bc 7 (120 * d + k) && !s.2.1 6 k)) ∧ (∀ i, (∀ d, d < s.1 → i ≠ 120 * d + k) → s.2.1 7 i = Bc 7 i)) (fun s => 6 - s.1) (fun s => s.2.2) (fun s => [(0, .ref mo), (1, .int (iter (cmpS I B n) 0 n)), (2, .int (nI k)), (3, .int (nI s.1))]) ?_ (0, va_up Bc 6 (va_up (Bc 6) k false), h_up wc (M 6) (eZ G 120 (fun j => bI (va_up (Bc 6) k false j)))) ⟨Nat.zero_le _, hR, hf.up (MD.a 6 (by decide)), rfl, ⟨(va_up_self _ _ _).trans hf6, fun t ht => va_up_ne _ _ ht⟩, (fun d hd => absurd hd (Nat.not_lt_zero _)), fun i _ => rfl⟩
          rintro ⟨j, Bj, wj⟩ ⟨hj, hR, hf, hj12, ⟨hj6c, hj6⟩, hj7, hj8⟩ ih3
          dsimp only at hj hR hf hj12 hj6 hj6c hj7 hj8 ih3 ⊢
          obtain ⟨hm, r0, r1, r2, r3, r4, r5, r6, r7, r8, r9, r10, r11, r12, hinj, hn⟩ := id hR
          refine g_iload_n C dX3_compact_109 rfl rfl ?_
          refine g_bipush C (v := 6) dX3_compact_110 (by decide) ?_
          refine g_icmp_ge C 160 dX3_compact_112 (by decide) (fun c112 => ?_) (fun c112 => ?_)
          · obtain rfl : j = 6 := by have := (nI_leI (a := 6) (b := j) (by decide) (by omega)).mp c112; omega
            have hj6k : Bj 6 k = (B 6 k || cpM I B n k) := hj6c
            refine g_iinc C (v := nI (k + 1)) dX3_compact_160 rfl (nI_1 k) (by decide) ?_
            refine g_goto C 70 dX3_compact_163 (by decide) ?_
            refine g_drop [(0, .ref mo), (1, .int (iter (cmpS I B n) 0 n)), (2, .int (nI (k + 1)))] _ rfl ?_
            have hA12 : ∀ t, t < n → Bj 12 t = cpM I B n t := fun t ht => by rw [hj12]; exact h12 t ht
            have hA6 : ∀ t, t < k + 1 → Bj 6 t = (B 6 t || cpM I B n t) := by
              intro t ht
              by_cases e : t = k
              · subst e; exact hj6k
              · rw [hj6 t e]; exact h6 t (by omega)
            have hA6b : ∀ t, k + 1 ≤ t → Bj 6 t = B 6 t := fun t ht => by rw [hj6 t (by omega)]; exact h6b t (by omega)
            have hA7 : ∀ d t, d < 6 → t < k + 1 → Bj 7 (120 * d + t) = (B 7 (120 * d + t) && !(B 6 t || cpM I B n t)) := by
              intro d t hd ht
              by_cases e : t = k
              · subst e; rw [hj7 d hd, hj6k, h7b d t hd (Nat.le_refl _) (by omega)]
              · rw [hj8 _ (fun d' hd' => by omega)]; exact h7 d t hd (by omega)
            have hA7b : ∀ d t, d < 6 → k + 1 ≤ t → t < 120 → Bj 7 (120 * d + t) = B 7 (120 * d + t) := by
              intro d t hd ht ht2
              rw [hj8 _ (fun d' hd' => by omega)]; exact h7b d t hd (by omega) ht2
            exact ih2 (k + 1, Bj, wj) ⟨hlt, hR, hf, hA12, hA6, hA6b, hA7, hA7b⟩ (by dsimp only; omega)
          · have hltj : j < 6 := nI_nge c112 (by omega) (by decide)
            have hj9 : Bj 7 (120 * j + k) = Bc 7 (120 * j + k) := hj8 _ (fun d hd => by omega)
            first | refine g_aload_n C dX3_compact_115 rfl rfl ?_ | refine g_aload_nN C dX3_compact_115 rfl rfl ?_ | refine g_aload_nq C dX3_compact_115 rfl rfl ?_
            refine g_get C dX3_compact_116 hm rfl kw_X3 9 (by decide) kfX3_32 rfl rfl ?_
            refine g_bipush C (v := 120) dX3_compact_119 (by decide) ?_
            refine g_iload_n C dX3_compact_121 rfl rfl ?_
            refine g_imul C dX3_compact_122 ?_
            refine g_iload_n C dX3_compact_123 rfl rfl ?_
            refine g_iadd C dX3_compact_124 ?_
            refine g_eq (ix120 j k) ?_
            first | refine g_aload_n C dX3_compact_125 rfl rfl ?_ | refine g_aload_nN C dX3_compact_125 rfl rfl ?_ | refine g_aload_nq C dX3_compact_125 rfl rfl ?_
            refine g_get C dX3_compact_126 hm rfl kw_X3 9 (by decide) kfX3_32 rfl rfl ?_
            refine g_bipush C (v := 120) dX3_compact_129 (by decide) ?_
            refine g_iload_n C dX3_compact_131 rfl rfl ?_
            refine g_imul C dX3_compact_132 ?_
            refine g_iload_n C dX3_compact_133 rfl rfl ?_
            refine g_iadd C dX3_compact_134 ?_
            refine g_eq (ix120 j k) ?_
            refine g_zaldN C dX3_compact_135 r7 (by omega) (by decide) ?_
            refine g_if_eq C 152 dX3_compact_136 (by decide) (fun c136 => ?_) (fun c136 => ?_)
            · have c136 := bI_z.mp c136
              refine g_iconst C (v := 0) dX3_compact_152 (by decide) ?_
              refine g_zastB C (false) dX3_compact_153 r7 (by omega) (by decide) (rfl) ?_
              refine g_iinc C (v := nI (j + 1)) dX3_compact_154 rfl (nI_1 j) (by decide) ?_
              refine g_goto C 109 dX3_compact_157 (by decide) ?_
              have hA : ∀ d, d < j + 1 → va_up (Bj 7) (120 * j + k) false (120 * d + k) = (Bc 7 (120 * d + k) && !Bj 6 k) := by
                intro d hd
                by_cases e : d = j
                · subst e
                  rw [va_up_self]
                  simp [← hj9, c136]
                · rw [va_up_ne _ _ (by omega)]
                  exact hj7 d (by show d < j; omega)
              have hB : ∀ i, (∀ d, d < j + 1 → i ≠ 120 * d + k) → va_up (Bj 7) (120 * j + k) false i = Bc 7 i := by
                intro i hi
                rw [va_up_ne _ _ (hi j (Nat.lt_succ_self _))]
                exact hj8 i (fun d hd => hi d (Nat.lt_succ_of_lt hd))
              exact ih3 (j + 1, va_up Bj 7 (va_up (Bj 7) (120 * j + k) false), h_up wj (M 7) (eZ G 720 (fun i => bI (va_up (Bj 7) (120 * j + k) false i)))) ⟨hltj, hR.up7 (va_up (Bj 7) (120 * j + k) false), hf.up (MD.a 7 (by decide)), hj12, ⟨hj6c, hj6⟩, hA, hB⟩ (by dsimp only; omega)
            · have c136 := bI_nz.mp c136
              first | refine g_aload_n C dX3_compact_139 rfl rfl ?_ | refine g_aload_nN C dX3_compact_139 rfl rfl ?_ | refine g_aload_nq C dX3_compact_139 rfl rfl ?_
              refine g_get C dX3_compact_140 hm rfl kw_X3 8 (by decide) kfX3_28 rfl rfl ?_
              refine g_iload_n C dX3_compact_143 rfl rfl ?_
              refine g_zaldN C dX3_compact_144 r6 (by omega) (by decide) ?_
              refine g_if_ne C 152 dX3_compact_145 (by decide) (fun c145 => ?_) (fun c145 => ?_)
              · have c145 := bI_nz.mp c145
                refine g_iconst C (v := 0) dX3_compact_152 (by decide) ?_
                refine g_zastB C (false) dX3_compact_153 r7 (by omega) (by decide) (rfl) ?_
                refine g_iinc C (v := nI (j + 1)) dX3_compact_154 rfl (nI_1 j) (by decide) ?_
                refine g_goto C 109 dX3_compact_157 (by decide) ?_
                have hA : ∀ d, d < j + 1 → va_up (Bj 7) (120 * j + k) false (120 * d + k) = (Bc 7 (120 * d + k) && !Bj 6 k) := by
                  intro d hd
                  by_cases e : d = j
                  · subst e
                    rw [va_up_self]
                    simp [← hj9, c136, c145]
                  · rw [va_up_ne _ _ (by omega)]
                    exact hj7 d (by show d < j; omega)
                have hB : ∀ i, (∀ d, d < j + 1 → i ≠ 120 * d + k) → va_up (Bj 7) (120 * j + k) false i = Bc 7 i := by
                  intro i hi
                  rw [va_up_ne _ _ (hi j (Nat.lt_succ_self _))]
                  exact hj8 i (fun d hd => hi d (Nat.lt_succ_of_lt hd))
                exact ih3 (j + 1, va_up Bj 7 (va_up (Bj 7) (120 * j + k) false), h_up wj (M 7) (eZ G 720 (fun i => bI (va_up (Bj 7) (120 * j + k) false i)))) ⟨hltj, hR.up7 (va_up (Bj 7) (120 * j + k) false), hf.up (MD.a 7 (by decide)), hj12, ⟨hj6c, hj6⟩, hA, hB⟩ (by dsimp only; omega)
              · have c145 := bI_z.mp c145
                refine g_iconst C (v := 1) dX3_compact_148 (by decide) ?_
                refine g_goto C 153 dX3_compact_149 (by decide) ?_
                refine g_zastB C (true) dX3_compact_153 r7 (by omega) (by decide) (rfl) ?_
                refine g_iinc C (v := nI (j + 1)) dX3_compact_154 rfl (nI_1 j) (by decide) ?_
                refine g_goto C 109 dX3_compact_157 (by decide) ?_
                have hA : ∀ d, d < j + 1 → va_up (Bj 7) (120 * j + k) true (120 * d + k) = (Bc 7 (120 * d + k) && !Bj 6 k) := by
                  intro d hd
                  by_cases e : d = j
                  · subst e
                    rw [va_up_self]
                    simp [← hj9, c136, c145]
                  · rw [va_up_ne _ _ (by omega)]
                    exact hj7 d (by show d < j; omega)
                have hB : ∀ i, (∀ d, d < j + 1 → i ≠ 120 * d + k) → va_up (Bj 7) (120 * j + k) true i = Bc 7 i := by
                  intro i hi
                  rw [va_up_ne _ _ (hi j (Nat.lt_succ_self _))]
                  exact hj8 i (fun d hd => hi d (Nat.lt_succ_of_lt hd))
                exact ih3 (j + 1, va_up Bj 7 (va_up (Bj 7) (120 * j + k) true), h_up wj (M 7) (eZ G 720 (fun i => bI (va_up (Bj 7) (120 * j + k) true i)))) ⟨hltj, hR.up7 (va_up (Bj 7) (120 * j + k) true), hf.up (MD.a 7 (by decide)), hj12, ⟨hj6c, hj6⟩, hA, hB⟩ (by dsimp only; omega)
        · have c98 := bI_nz.mp c98
          refine g_iconst C (v := 1) dX3_compact_101 (by decide) ?_
          refine g_goto C 106 dX3_compact_102 (by decide) ?_
          refine g_zastB C (true) dX3_compact_106 r6 (by omega) (by decide) (rfl) ?_
          have hR := hR.up6 (va_up (Bc 6) k true)
          obtain ⟨hm, r0, r1, r2, r3, r4, r5, r6, r7, r8, r9, r10, r11, r12, hinj, hn⟩ := id hR
          refine g_iconst C (v := 0) dX3_compact_107 (by decide) ?_
          refine g_istore_n C dX3_compact_108 rfl (by decide) ?_
          have hf6 : true = (B 6 k || cpM I B n k) := by rw [← h12 k hlt, ← h6b k (Nat.le_refl _)]; simp [c89, c98]
          refine g_loop (σ := Nat × (Nat → Nat → Bool) × hW) (fun s => s.1 ≤ 6 ∧ MR G mo M n I s.2.1 0 ord mny s.2.2 ∧ fr (MD mo M) w s.2.2 ∧ s.2.1 12 = Bc 12 ∧ (s.2.1 6 k = (B 6 k || cpM I B n k) ∧ ∀ t, t ≠ k → s.2.1 6 t = Bc 6 t) ∧ (∀ d, d < s.1 → s.2.1 7 (120 * d + k) = (Bc 7 (120 * d + k) && !s.2.1 6 k)) ∧ (∀ i, (∀ d, d < s.1 → i ≠ 120 * d + k) → s.2.1 7 i = Bc 7 i)) (fun s => 6 - s.1) (fun s => s.2.2) (fun s => [(0, .ref mo), (1, .int (iter (cmpS I B n) 0 n)), (2, .int (nI k)), (3, .int (nI s.1))]) ?_ (0, va_up Bc 6 (va_up (Bc 6) k true), h_up wc (M 6) (eZ G 120 (fun j => bI (va_up (Bc 6) k true j)))) ⟨Nat.zero_le _, hR, hf.up (MD.a 6 (by decide)), rfl, ⟨(va_up_self _ _ _).trans hf6, fun t ht => va_up_ne _ _ ht⟩, (fun d hd => absurd hd (Nat.not_lt_zero _)), fun i _ => rfl⟩
          rintro ⟨j, Bj, wj⟩ ⟨hj, hR, hf, hj12, ⟨hj6c, hj6⟩, hj7, hj8⟩ ih3
          dsimp only at hj hR hf hj12 hj6 hj6c hj7 hj8 ih3 ⊢
          obtain ⟨hm, r0, r1, r2, r3, r4, r5, r6, r7, r8, r9, r10, r11, r12, hinj, hn⟩ := id hR
          refine g_iload_n C dX3_compact_109 rfl rfl ?_
          refine g_bipush C (v := 6) dX3_compact_110 (by decide) ?_
          refine g_icmp_ge C 160 dX3_compact_112 (by decide) (fun c112 => ?_) (fun c112 => ?_)
          · obtain rfl : j = 6 := by have := (nI_leI (a := 6) (b := j) (by decide) (by omega)).mp c112; omega
            have hj6k : Bj 6 k = (B 6 k || cpM I B n k) := hj6c
            refine g_iinc C (v := nI (k + 1)) dX3_compact_160 rfl (nI_1 k) (by decide) ?_
            refine g_goto C 70 dX3_compact_163 (by decide) ?_
            refine g_drop [(0, .ref mo), (1, .int (iter (cmpS I B n) 0 n)), (2, .int (nI (k + 1)))] _ rfl ?_
            have hA12 : ∀ t, t < n → Bj 12 t = cpM I B n t := fun t ht => by rw [hj12]; exact h12 t ht
            have hA6 : ∀ t, t < k + 1 → Bj 6 t = (B 6 t || cpM I B n t) := by
              intro t ht
              by_cases e : t = k
              · subst e; exact hj6k
              · rw [hj6 t e]; exact h6 t (by omega)
            have hA6b : ∀ t, k + 1 ≤ t → Bj 6 t = B 6 t := fun t ht => by rw [hj6 t (by omega)]; exact h6b t (by omega)
            have hA7 : ∀ d t, d < 6 → t < k + 1 → Bj 7 (120 * d + t) = (B 7 (120 * d + t) && !(B 6 t || cpM I B n t)) := by
              intro d t hd ht
              by_cases e : t = k
              · subst e; rw [hj7 d hd, hj6k, h7b d t hd (Nat.le_refl _) (by omega)]
              · rw [hj8 _ (fun d' hd' => by omega)]; exact h7 d t hd (by omega)
            have hA7b : ∀ d t, d < 6 → k + 1 ≤ t → t < 120 → Bj 7 (120 * d + t) = B 7 (120 * d + t) := by
              intro d t hd ht ht2
              rw [hj8 _ (fun d' hd' => by omega)]; exact h7b d t hd (by omega) ht2
            exact ih2 (k + 1, Bj, wj) ⟨hlt, hR, hf, hA12, hA6, hA6b, hA7, hA7b⟩ (by dsimp only; omega)
          · have hltj : j < 6 := nI_nge c112 (by omega) (by decide)
            have hj9 : Bj 7 (120 * j + k) = Bc 7 (120 * j + k) := hj8 _ (fun d hd => by omega)
            first | refine g_aload_n C dX3_compact_115 rfl rfl ?_ | refine g_aload_nN C dX3_compact_115 rfl rfl ?_ | refine g_aload_nq C dX3_compact_115 rfl rfl ?_
            refine g_get C dX3_compact_116 hm rfl kw_X3 9 (by decide) kfX3_32 rfl rfl ?_
            refine g_bipush C (v := 120) dX3_compact_119 (by decide) ?_
            refine g_iload_n C dX3_compact_121 rfl rfl ?_
            refine g_imul C dX3_compact_122 ?_
            refine g_iload_n C dX3_compact_123 rfl rfl ?_
            refine g_iadd C dX3_compact_124 ?_
            refine g_eq (ix120 j k) ?_
            first | refine g_aload_n C dX3_compact_125 rfl rfl ?_ | refine g_aload_nN C dX3_compact_125 rfl rfl ?_ | refine g_aload_nq C dX3_compact_125 rfl rfl ?_
            refine g_get C dX3_compact_126 hm rfl kw_X3 9 (by decide) kfX3_32 rfl rfl ?_
            refine g_bipush C (v := 120) dX3_compact_129 (by decide) ?_
            refine g_iload_n C dX3_compact_131 rfl rfl ?_
            refine g_imul C dX3_compact_132 ?_
            refine g_iload_n C dX3_compact_133 rfl rfl ?_
            refine g_iadd C dX3_compact_134 ?_
            refine g_eq (ix120 j k) ?_
            refine g_zaldN C dX3_compact_135 r7 (by omega) (by decide) ?_
            refine g_if_eq C 152 dX3_compact_136 (by decide) (fun c136 => ?_) (fun c136 => ?_)
            · have c136 := bI_z.mp c136
              refine g_iconst C (v := 0) dX3_compact_152 (by decide) ?_
              refine g_zastB C (false) dX3_compact_153 r7 (by omega) (by decide) (rfl) ?_
              refine g_iinc C (v := nI (j + 1)) dX3_compact_154 rfl (nI_1 j) (by decide) ?_
              refine g_goto C 109 dX3_compact_157 (by decide) ?_
              have hA : ∀ d, d < j + 1 → va_up (Bj 7) (120 * j + k) false (120 * d + k) = (Bc 7 (120 * d + k) && !Bj 6 k) := by
                intro d hd
                by_cases e : d = j
                · subst e
                  rw [va_up_self]
                  simp [← hj9, c136]
                · rw [va_up_ne _ _ (by omega)]
                  exact hj7 d (by show d < j; omega)
              have hB : ∀ i, (∀ d, d < j + 1 → i ≠ 120 * d + k) → va_up (Bj 7) (120 * j + k) false i = Bc 7 i := by
                intro i hi
                rw [va_up_ne _ _ (hi j (Nat.lt_succ_self _))]
                exact hj8 i (fun d hd => hi d (Nat.lt_succ_of_lt hd))
              exact ih3 (j + 1, va_up Bj 7 (va_up (Bj 7) (120 * j + k) false), h_up wj (M 7) (eZ G 720 (fun i => bI (va_up (Bj 7) (120 * j + k) false i)))) ⟨hltj, hR.up7 (va_up (Bj 7) (120 * j + k) false), hf.up (MD.a 7 (by decide)), hj12, ⟨hj6c, hj6⟩, hA, hB⟩ (by dsimp only; omega)
            · have c136 := bI_nz.mp c136
              first | refine g_aload_n C dX3_compact_139 rfl rfl ?_ | refine g_aload_nN C dX3_compact_139 rfl rfl ?_ | refine g_aload_nq C dX3_compact_139 rfl rfl ?_
              refine g_get C dX3_compact_140 hm rfl kw_X3 8 (by decide) kfX3_28 rfl rfl ?_
              refine g_iload_n C dX3_compact_143 rfl rfl ?_
              refine g_zaldN C dX3_compact_144 r6 (by omega) (by decide) ?_
              refine g_if_ne C 152 dX3_compact_145 (by decide) (fun c145 => ?_) (fun c145 => ?_)
              · have c145 := bI_nz.mp c145
                refine g_iconst C (v := 0) dX3_compact_152 (by decide) ?_
                refine g_zastB C (false) dX3_compact_153 r7 (by omega) (by decide) (rfl) ?_
                refine g_iinc C (v := nI (j + 1)) dX3_compact_154 rfl (nI_1 j) (by decide) ?_
                refine g_goto C 109 dX3_compact_157 (by decide) ?_
                have hA : ∀ d, d < j + 1 → va_up (Bj 7) (120 * j + k) false (120 * d + k) = (Bc 7 (120 * d + k) && !Bj 6 k) := by
                  intro d hd
                  by_cases e : d = j
                  · subst e
                    rw [va_up_self]
                    simp [← hj9, c136, c145]
                  · rw [va_up_ne _ _ (by omega)]
                    exact hj7 d (by show d < j; omega)
                have hB : ∀ i, (∀ d, d < j + 1 → i ≠ 120 * d + k) → va_up (Bj 7) (120 * j + k) false i = Bc 7 i := by
                  intro i hi
                  rw [va_up_ne _ _ (hi j (Nat.lt_succ_self _))]
                  exact hj8 i (fun d hd => hi d (Nat.lt_succ_of_lt hd))
                exact ih3 (j + 1, va_up Bj 7 (va_up (Bj 7) (120 * j + k) false), h_up wj (M 7) (eZ G 720 (fun i => bI (va_up (Bj 7) (120 * j + k) false i)))) ⟨hltj, hR.up7 (va_up (Bj 7) (120 * j + k) false), hf.up (MD.a 7 (by decide)), hj12, ⟨hj6c, hj6⟩, hA, hB⟩ (by dsimp only; omega)
              · have c145 := bI_z.mp c145
                refine g_iconst C (v := 1) dX3_compact_148 (by decide) ?_
                refine g_goto C 153 dX3_compact_149 (by decide) ?_
                refine g_zastB C (true) dX3_compact_153 r7 (by omega) (by decide) (rfl) ?_
                refine g_iinc C (v := nI (j + 1)) dX3_compact_154 rfl (nI_1 j) (by decide) ?_
                refine g_goto C 109 dX3_compact_157 (by decide) ?_
                have hA : ∀ d, d < j + 1 → va_up (Bj 7) (120 * j + k) true (120 * d + k) = (Bc 7 (120 * d + k) && !Bj 6 k) := by
                  intro d hd
                  by_cases e : d = j
                  · subst e
                    rw [va_up_self]
                    simp [← hj9, c136, c145]
                  · rw [va_up_ne _ _ (by omega)]
                    exact hj7 d (by show d < j; omega)
                have hB : ∀ i, (∀ d, d < j + 1 → i ≠ 120 * d + k) → va_up (Bj 7) (120 * j + k) true i = Bc 7 i := by
                  intro i hi
                  rw [va_up_ne _ _ (hi j (Nat.lt_succ_self _))]
                  exact hj8 i (fun d hd => hi d (Nat.lt_succ_of_lt hd))
                exact ih3 (j + 1, va_up Bj 7 (va_up (Bj 7) (120 * j + k) true), h_up wj (M 7) (eZ G 720 (fun i => bI (va_up (Bj 7) (120 * j + k) true i)))) ⟨hltj, hR.up7 (va_up (Bj 7) (120 * j + k) true), hf.up (MD.a 7 (by decide)), hj12, ⟨hj6c, hj6⟩, hA, hB⟩ (by dsimp only; omega)
  · have hlt : k < n := nI_nge c14 (by omega) (by omega)
    first | refine g_aload_n C dX3_compact_17 rfl rfl ?_ | refine g_aload_nN C dX3_compact_17 rfl rfl ?_ | refine g_aload_nq C dX3_compact_17 rfl rfl ?_
    refine g_get C dX3_compact_18 hm rfl kw_X3 16 (by decide) kfX3_47 rfl rfl ?_
    refine g_iload_n C dX3_compact_21 rfl rfl ?_
    first | refine g_aload_n C dX3_compact_22 rfl rfl ?_ | refine g_aload_nN C dX3_compact_22 rfl rfl ?_ | refine g_aload_nq C dX3_compact_22 rfl rfl ?_
    refine g_get C dX3_compact_23 hm rfl kw_X3 4 (by decide) kfX3_16 rfl rfl ?_
    refine g_iload_n C dX3_compact_26 rfl rfl ?_
    refine g_ialdN C dX3_compact_27 r2 (by omega) (by decide) ?_
    refine g_if_ne C 43 dX3_compact_28 (by decide) (fun c28 => ?_) (fun c28 => ?_)
    · refine g_iconst C (v := 0) dX3_compact_43 (by decide) ?_
      refine g_zastB C (false) dX3_compact_44 r12 (by omega) (by decide) (rfl) ?_
      have hR := hR.up12 (va_up g k false)
      rw [up_up] at hR
      obtain ⟨hm, r0, r1, r2, r3, r4, r5, r6, r7, r8, r9, r10, r11, r12, hinj, hn⟩ := id hR
      first | refine g_aload_n C dX3_compact_45 rfl rfl ?_ | refine g_aload_nN C dX3_compact_45 rfl rfl ?_ | refine g_aload_nq C dX3_compact_45 rfl rfl ?_
      refine g_get C dX3_compact_46 hm rfl kw_X3 16 (by decide) kfX3_47 rfl rfl ?_
      refine g_iload_n C dX3_compact_49 rfl rfl ?_
      refine g_zaldN C dX3_compact_50 r12 (by omega) (by decide) ?_
      refine g_eq (congrArg bI (va_up_self _ _ _)) ?_
      refine g_if_eq C 60 dX3_compact_51 (by decide) (fun _ => ?_) (fun c51 => absurd (by decide) c51)
      refine g_iload_n C dX3_compact_60 rfl rfl ?_
      refine g_istore_n C dX3_compact_61 rfl (by decide) ?_
      refine g_iinc C (v := nI (k + 1)) dX3_compact_62 rfl (nI_1 k) (by decide) ?_
      refine g_goto C 9 dX3_compact_65 (by decide) ?_
      have hcp : cpM I B n k = false := by simp [cpM, c28]
      have e9 : iter (cmpS I B n) 0 (k + 1) = (iter (cmpS I B n) 0 k) := by show (cmpS I B n) (iter (cmpS I B n) 0 k) k = _; simp [cmpS, hcp]
      have hA : ∀ t, t < k + 1 → va_up g k false t = cpM I B n t := by
        intro t ht
        by_cases e : t = k
        · subst e
          rw [va_up_self, hcp]
        · rw [va_up_ne _ _ e]
          exact hg t (by show t < k; omega)
      have hs := ih1 (k + 1, va_up g k false, h_up wc (M 12) (eZ G 120 (fun j => bI (va_up g k false j)))) ⟨hlt, hR, hf.up (MD.a 12 (by decide)), hA⟩ (by dsimp only; omega)
      dsimp only at hs
      rw [e9] at hs
      exact hs
    · first | refine g_aload_n C dX3_compact_31 rfl rfl ?_ | refine g_aload_nN C dX3_compact_31 rfl rfl ?_ | refine g_aload_nq C dX3_compact_31 rfl rfl ?_
      refine g_iload_n C dX3_compact_32 rfl rfl ?_
      refine g_callVn C _ dX3_compact_33 (c_X3_isPast l G _ _ _ _ _ _ _ _ _ hR k (by omega)) kmX3_126 ki_X3_isPast kv_X3_isPast kn_X3 kc_X3_isPast hy_X3_isPast ⟨by decide, by decide⟩ hm rfl rfl (Nat.le_of_ble_eq_true rfl) ⟨by decide, by decide⟩ (fun v w1 hp => ?_)
      obtain ⟨rfl, hw1⟩ := hp
      have hw1 := hw1.symm
      subst hw1
      refine g_if_eq C 43 dX3_compact_36 (by decide) (fun c36 => ?_) (fun c36 => ?_)
      · have c36 := bI_z.mp c36
        rw [show paB I (va_up B 12 g) n k = paB I B n k from paB_c rfl n k] at c36
        refine g_iconst C (v := 0) dX3_compact_43 (by decide) ?_
        refine g_zastB C (false) dX3_compact_44 r12 (by omega) (by decide) (rfl) ?_
        have hR := hR.up12 (va_up g k false)
        rw [up_up] at hR
        obtain ⟨hm, r0, r1, r2, r3, r4, r5, r6, r7, r8, r9, r10, r11, r12, hinj, hn⟩ := id hR
        first | refine g_aload_n C dX3_compact_45 rfl rfl ?_ | refine g_aload_nN C dX3_compact_45 rfl rfl ?_ | refine g_aload_nq C dX3_compact_45 rfl rfl ?_
        refine g_get C dX3_compact_46 hm rfl kw_X3 16 (by decide) kfX3_47 rfl rfl ?_
        refine g_iload_n C dX3_compact_49 rfl rfl ?_
        refine g_zaldN C dX3_compact_50 r12 (by omega) (by decide) ?_
        refine g_eq (congrArg bI (va_up_self _ _ _)) ?_
        refine g_if_eq C 60 dX3_compact_51 (by decide) (fun _ => ?_) (fun c51 => absurd (by decide) c51)
        refine g_iload_n C dX3_compact_60 rfl rfl ?_
        refine g_istore_n C dX3_compact_61 rfl (by decide) ?_
        refine g_iinc C (v := nI (k + 1)) dX3_compact_62 rfl (nI_1 k) (by decide) ?_
        refine g_goto C 9 dX3_compact_65 (by decide) ?_
        have hcp : cpM I B n k = false := by simp [cpM, c28, c36]
        have e9 : iter (cmpS I B n) 0 (k + 1) = (iter (cmpS I B n) 0 k) := by show (cmpS I B n) (iter (cmpS I B n) 0 k) k = _; simp [cmpS, hcp]
        have hA : ∀ t, t < k + 1 → va_up g k false t = cpM I B n t := by
          intro t ht
          by_cases e : t = k
          · subst e
            rw [va_up_self, hcp]
          · rw [va_up_ne _ _ e]
            exact hg t (by show t < k; omega)
        have hs := ih1 (k + 1, va_up g k false, h_up wc (M 12) (eZ G 120 (fun j => bI (va_up g k false j)))) ⟨hlt, hR, hf.up (MD.a 12 (by decide)), hA⟩ (by dsimp only; omega)
        dsimp only at hs
        rw [e9] at hs
        exact hs
      · have c36 := bI_nz.mp c36
        rw [show paB I (va_up B 12 g) n k = paB I B n k from paB_c rfl n k] at c36
        refine g_iconst C (v := 1) dX3_compact_39 (by decide) ?_
        refine g_goto C 44 dX3_compact_40 (by decide) ?_
        refine g_zastB C (true) dX3_compact_44 r12 (by omega) (by decide) (rfl) ?_
        have hR := hR.up12 (va_up g k true)
        rw [up_up] at hR
        obtain ⟨hm, r0, r1, r2, r3, r4, r5, r6, r7, r8, r9, r10, r11, r12, hinj, hn⟩ := id hR
        first | refine g_aload_n C dX3_compact_45 rfl rfl ?_ | refine g_aload_nN C dX3_compact_45 rfl rfl ?_ | refine g_aload_nq C dX3_compact_45 rfl rfl ?_
        refine g_get C dX3_compact_46 hm rfl kw_X3 16 (by decide) kfX3_47 rfl rfl ?_
        refine g_iload_n C dX3_compact_49 rfl rfl ?_
        refine g_zaldN C dX3_compact_50 r12 (by omega) (by decide) ?_
        refine g_eq (congrArg bI (va_up_self _ _ _)) ?_
        refine g_if_eq C 60 dX3_compact_51 (by decide) (fun c51 => absurd c51 (by decide)) (fun _ => ?_)
        refine g_iload_n C dX3_compact_54 rfl rfl ?_
        refine g_iconst C (v := 1) dX3_compact_55 (by decide) ?_
        refine g_iadd C dX3_compact_56 ?_
        refine g_goto C 61 dX3_compact_57 (by decide) ?_
        refine g_istore_n C dX3_compact_61 rfl (by decide) ?_
        refine g_iinc C (v := nI (k + 1)) dX3_compact_62 rfl (nI_1 k) (by decide) ?_
        refine g_goto C 9 dX3_compact_65 (by decide) ?_
        have hcp : cpM I B n k = true := by simp [cpM, c28, c36]
        have e9 : iter (cmpS I B n) 0 (k + 1) = (iter (cmpS I B n) 0 k + 1) := by show (cmpS I B n) (iter (cmpS I B n) 0 k) k = _; simp [cmpS, hcp]
        have hA : ∀ t, t < k + 1 → va_up g k true t = cpM I B n t := by
          intro t ht
          by_cases e : t = k
          · subst e
            rw [va_up_self, hcp]
          · rw [va_up_ne _ _ e]
            exact hg t (by show t < k; omega)
        have hs := ih1 (k + 1, va_up g k true, h_up wc (M 12) (eZ G 120 (fun j => bI (va_up g k true j)))) ⟨hlt, hR, hf.up (MD.a 12 (by decide)), hA⟩ (by dsimp only; omega)
        dsimp only at hs
        rw [e9] at hs
        exact hs

