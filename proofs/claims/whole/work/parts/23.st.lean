/-! ===== the model: settle ===== -/
theorem enS_c {I : Nat → Nat → Int32} {B B' : Nat → Nat → Bool} (h : B' 7 = B 7) (d : Nat) (so x : Int32) (n : Nat) : iter (enS I B' d so x) false n = iter (enS I B d so x) false n := by
  have h1 : enS I B' d so x = enS I B d so x := by funext p q; simp only [enS, h]
  rw [h1]
theorem enS_ci {I I' : Nat → Nat → Int32} {B B' : Nat → Nat → Bool} (h : B' 7 = B 7) (h2 : I' 2 = I 2) (h4 : I' 4 = I 4) (d : Nat) (so x : Int32) (n : Nat) : iter (enS I' B' d so x) false n = iter (enS I B d so x) false n := by
  have h1 : enS I' B' d so x = enS I B d so x := by funext p q; simp only [enS, h, h2, h4]
  rw [h1]
theorem stS_c {I I' : Nat → Nat → Int32} (h : I' 4 = I 4) (s : (Nat → Nat → Bool) × List Nat) (t : Nat) : stS I' s t = stS I s t := by simp only [stS, h]
theorem earlB_c {I I' : Nat → Nat → Int32} (h0 : I' 0 = I 0) (h1 : I' 1 = I 1) (i j : Nat) : earlB I' i j = earlB I i j := by simp only [earlB, h0, h1]
theorem srt_c {I I' : Nat → Nat → Int32} (h0 : I' 0 = I 0) (h1 : I' 1 = I 1) {n : Nat} {ch : List Nat} (h : srt I n ch) : srt I' n ch := ⟨h.1, h.2.imp (fun {a b} hab => by rw [earlB_c h0 h1]; exact hab)⟩
def rlP (I : Nat → Nat → Int32) (B : Nat → Nat → Bool) (n d t : Nat) : Bool := B 7 (120 * d + t) && (decide (I 2 t = 5) && !iter (enS I B d 6 (nI t)) false n)
def st0 : (Nat → Nat → Bool) × List Nat := (fun _ _ => false, [])
/-- what is left to be chosen -/
theorem left_head {I : Nat → Nat → Int32} {n : Nat} {ch r pre : List Nat} {P g : Nat → Bool} (hs : srt I n ch) (hfl : ch.filter P = pre ++ r) (hg : ∀ t, t < n → g t = decide (t ∈ r)) : iter (selS I g) none n = r.head? := by
  rw [sel_head hs]
  have h1 : r.Sublist ch := (show r.Sublist (ch.filter P) by rw [hfl]; exact List.sublist_append_right pre r).trans List.filter_sublist
  rw [List.filter_congr (q := fun t => decide (t ∈ r)) (fun t ht => hg t ((hs.1 t).mp ht)), filter_mem h1 hs.nd]
theorem left_nd {ch r pre : List Nat} {P : Nat → Bool} (hs : ch.Nodup) (hfl : ch.filter P = pre ++ r) : (pre ++ r).Nodup := hfl ▸ hs.sublist List.filter_sublist
theorem left_len {ch r pre : List Nat} {P : Nat → Bool} {x : Nat} (hfl : ch.filter P = pre ++ x :: r) : pre.length < ch.length := by
  have h1 := List.length_filter_le P ch
  rw [hfl, List.length_append, List.length_cons] at h1
  omega
theorem left_mem {ch r pre : List Nat} {P : Nat → Bool} {x : Nat} (hfl : ch.filter P = pre ++ x :: r) : x ∈ ch ∧ P x = true := List.mem_filter.mp (by rw [hfl]; simp)
theorem left_g {r : List Nat} {x n : Nat} {g : Nat → Bool} (hnd : (x :: r).Nodup) (hg : ∀ t, t < n → g t = decide (t ∈ x :: r)) : ∀ t, t < n → va_up g x false t = decide (t ∈ r) := by
  intro t ht
  have h2 := List.nodup_cons.mp hnd
  by_cases e : t = x
  · subst e; rw [va_up_self]; exact (decide_eq_false h2.1).symm
  · rw [va_up_ne _ _ e, hg t ht]; simp [e]

set_option maxHeartbeats 4000000 in
set_option maxRecDepth 100000 in
theorem c_X3_settle (l : Launch) (G : hD) (w : hW) (mo : Nat) (M : Nat → Nat) (n : Nat) (I : Nat → Nat → Int32) (B : Nat → Nat → Bool) (thr ord mny : Int32) (hR : MR G mo M n I B thr ord mny w) (d : Nat) (hd : d < 6) (ch : List Nat) (hs : srt I n ch) (hcl : ch.length = n) (hrel : ∀ t, t < n → I 2 t = 5 → ∃ v, I 4 t = nI v ∧ v < 256 ∧ v / 16 ≠ v % 16) : h_Met l yX3_settle (Cond.code yX3_settle cX3_settle 5 none) { frames := 2, cells := 0, slots := 0, locals := 60 } G [.ref mo, .int (nI d)] w (fun v w' => v = none ∧ ∃ I' B' q', MR G mo M n I' B' thr ord (nI q') w' ∧ fr (MD mo M) w w' ∧ (∀ a, a ≠ 11 → I' a = I a) ∧ (∀ a, a ≠ 10 → a ≠ 12 → B' a = B a) ∧ tied (B' 10) (I' 11) q' ((ch.filter (rlP I B n d)).foldl (stS I) st0) ∧ q' ≤ 120) noX := by
  refine h_met RX3 rfl (by decide) (Nat.le_of_ble_eq_true rfl) (cat_c (by first | rfl | exact rf_cat _) (cat_c (by first | rfl | exact rf_cat _) cat_n)) ?_
  intro p e s m below meth c A C hnt hr hnm
  obtain ⟨hm, r0, r1, r2, r3, r4, r5, r6, r7, r8, r9, r10, r11, r12, hinj, hn⟩ := id hR
  first | refine g_aload_n C dX3_settle_0 rfl rfl ?_ | refine g_aload_nN C dX3_settle_0 rfl rfl ?_ | refine g_aload_nq C dX3_settle_0 rfl rfl ?_
  refine g_iconst C (v := 0) dX3_settle_1 (by decide) ?_
  refine g_put C dX3_settle_2 hm rfl kw_X3 tyX3 tyX3_ok nmX3 15 (by decide) kfX3_110 rfl rfl rfl rfl (Nat.le_of_ble_eq_true rfl) ?_
  have hR := hR.upM thr ord 0 hn
  have hR0 : MR G mo M n I (va_up B 10 (B 10)) thr ord 0 _ := (up_eta B 10).symm ▸ hR
  obtain ⟨hm, r0, r1, r2, r3, r4, r5, r6, r7, r8, r9, r10, r11, r12, hinj, hn⟩ := id hR
  refine g_iconst C (v := 0) dX3_settle_5 (by decide) ?_
  refine g_istore_n C dX3_settle_6 rfl (by decide) ?_
  refine g_loop (σ := Nat × (Nat → Bool) × hW) (fun s => s.1 ≤ 256 ∧ MR G mo M n I (va_up B 10 s.2.1) thr ord 0 s.2.2 ∧ fr (MD mo M) w s.2.2 ∧ ∀ j, j < s.1 → s.2.1 j = false) (fun s => 256 - s.1) (fun s => s.2.2) (fun s => [(0, .ref mo), (1, .int (nI d)), (2, .int (nI s.1))]) ?_ (0, B 10, _) ⟨Nat.zero_le _, hR0, fr.rf.up (b := mo) (e := cellM M thr n ord 0) MD.m, fun t ht => absurd ht (Nat.not_lt_zero _)⟩
  clear hR hR0 r0 r1 r2 r3 r4 r5 r6 r7 r8 r9 r10 r11 r12 hm
  rintro ⟨k, K, wc⟩ ⟨hk, hR, hf, hK⟩ iha
  dsimp only at hk hR hf hK iha ⊢
  obtain ⟨hm, r0, r1, r2, r3, r4, r5, r6, r7, r8, r9, r10, r11, r12, hinj, hn⟩ := id hR
  have r10 : wc (M 10) = some (eZ G 256 (fun j => bI (K j))) := r10
  refine g_iload_n C dX3_settle_7 rfl rfl ?_
  refine g_sipush C (v := 256) dX3_settle_8 (by decide) ?_
  refine g_icmp_ge C 27 dX3_settle_11 (by decide) (fun c11 => ?_) (fun c11 => ?_)
  · obtain rfl : k = 256 := by have := (nI_leI (a := 256) (b := k) (by decide) (by omega)).mp c11; omega
    refine g_iconst C (v := 0) dX3_settle_27 (by decide) ?_
    refine g_istore_n C dX3_settle_28 rfl (by decide) ?_
    refine g_loop (σ := Nat × (Nat → Nat → Bool) × hW) (fun s => s.1 ≤ n ∧ MR G mo M n I s.2.1 thr ord 0 s.2.2 ∧ fr (MD mo M) w s.2.2 ∧ (∀ a, a ≠ 10 → a ≠ 12 → s.2.1 a = B a) ∧ (∀ j, j < 256 → s.2.1 10 j = false) ∧ ∀ t, t < s.1 → s.2.1 12 t = rlP I B n d t) (fun s => n - s.1) (fun s => s.2.2) (fun s => [(0, .ref mo), (1, .int (nI d)), (2, .int (nI s.1))]) ?_ (0, va_up B 10 K, wc) ⟨Nat.zero_le _, hR, hf, (fun a ha _ => va_up_ne _ _ ha), hK, fun t ht => absurd ht (Nat.not_lt_zero _)⟩
    clear hR hf hK r0 r1 r2 r3 r4 r5 r6 r7 r8 r9 r10 r11 r12 hm
    rintro ⟨k, Bc, wc⟩ ⟨hk, hR, hf, hB, h10, h12⟩ ihb
    dsimp only at hk hR hf hB h10 h12 ihb ⊢
    obtain ⟨hm, r0, r1, r2, r3, r4, r5, r6, r7, r8, r9, r10, r11, r12, hinj, hn⟩ := id hR
    refine g_iload_n C dX3_settle_29 rfl rfl ?_
    first | refine g_aload_n C dX3_settle_30 rfl rfl ?_ | refine g_aload_nN C dX3_settle_30 rfl rfl ?_ | refine g_aload_nq C dX3_settle_30 rfl rfl ?_
    refine g_get C dX3_settle_31 hm rfl kw_X3 1 (by decide) kfX3_58 rfl rfl ?_
    refine g_icmp_ge C 87 dX3_settle_34 (by decide) (fun c34 => ?_) (fun c34 => ?_)
    · have hkn : n = k := by have := (nI_leI (a := n) (b := k) (by omega) (by omega)).mp c34; omega
      subst hkn
      refine g_iconst C (v := 1) dX3_settle_87 (by decide) ?_
      refine g_istore_n C dX3_settle_88 rfl (by decide) ?_
      refine g_loop (σ := List Nat × Bool × (Nat → Nat → Int32) × (Nat → Nat → Bool) × Nat × hW) (fun s => MR G mo M n s.2.2.1 s.2.2.2.1 thr ord (nI s.2.2.2.2.1) s.2.2.2.2.2 ∧ fr (MD mo M) w s.2.2.2.2.2 ∧ (∀ a, a ≠ 11 → s.2.2.1 a = I a) ∧ (∀ a, a ≠ 10 → a ≠ 12 → s.2.2.2.1 a = B a) ∧ (s.2.1 = false → s.1 = []) ∧ (∀ t, t < n → s.2.2.2.1 12 t = decide (t ∈ s.1)) ∧ ∃ pre, ch.filter (rlP I B n d) = pre ++ s.1 ∧ s.2.2.2.2.1 ≤ pre.length ∧ tied (s.2.2.2.1 10) (s.2.2.1 11) s.2.2.2.2.1 (pre.foldl (stS I) st0)) (fun s => 2 * s.1.length + cond s.2.1 1 0) (fun s => s.2.2.2.2.2) (fun s => [(0, .ref mo), (1, .int (nI d)), (2, .int (bI s.2.1))]) ?_ (ch.filter (rlP I B n d), true, I, Bc, 0, wc) ⟨hR, hf, fun _ _ => rfl, hB, (fun h => by cases h), ?_, [], rfl, Nat.le_refl _, (fun x y hx hy => h10 _ (by omega)), (fun k y hy => by cases hy), rfl⟩
      rotate_left 1
      · intro t ht
        show Bc 12 t = _
        rw [h12 t ht]
        have h9 : t ∈ ch := (hs.1 t).mpr ht
        cases hP : rlP I B n d t with
        | true => exact (decide_eq_true (List.mem_filter.mpr ⟨h9, hP⟩)).symm
        | false => exact (decide_eq_false (fun h => by rw [(List.mem_filter.mp h).2] at hP; cases hP)).symm
      clear hR hf hB h10 h12 r0 r1 r2 r3 r4 r5 r6 r7 r8 r9 r10 r11 r12 hm
      rintro ⟨r, b, Ic, Bc, q, wc⟩ ⟨hR, hf, hI, hB, hb, hg, pre, hfl, hqp, htd⟩ ihw
      dsimp only at hR hf hI hB hb hg hfl hqp htd ihw ⊢
      obtain ⟨hm, r0, r1, r2, r3, r4, r5, r6, r7, r8, r9, r10, r11, r12, hinj, hn⟩ := id hR
      refine g_iload_n C dX3_settle_89 rfl rfl ?_
      refine g_if_eq C 175 dX3_settle_90 (by decide) (fun c90 => ?_) (fun c90 => ?_)
      · have c90 := bI_z.mp c90
        subst c90
        have hr0 : r = [] := hb rfl
        subst hr0
        exact g_vret C hr dX3_settle_175 (by decide) (by decide) ⟨rfl, Ic, Bc, q, hR, hf, hI, hB, by rw [hfl, List.append_nil]; exact htd, by have h9 := List.length_filter_le (rlP I B n d) ch; rw [hfl, List.append_nil] at h9; omega⟩
      · have c90 := bI_nz.mp c90
        subst c90
        refine g_iconst C (v := (-1)) dX3_settle_93 (by decide) ?_
        refine g_istore_n C dX3_settle_94 rfl (by decide) ?_
        refine g_iconst C (v := 0) dX3_settle_95 (by decide) ?_
        refine g_istore C dX3_settle_96 (by decide) ?_
        refine g_loop (σ := Nat) (fun k => k ≤ n) (fun k => n - k) (fun k => wc) (fun k => [(0, .ref mo), (1, .int (nI d)), (2, .int (bI true)), (3, .int (oI (iter (selS Ic (Bc 12)) none k))), (4, .int (nI k))]) ?_ 0 (Nat.zero_le _)
        intro k hkk ihk
        (try dsimp only at ihk ⊢)
        cases hac : iter (selS Ic (Bc 12)) none k with
        | none =>
          refine g_iload C dX3_settle_98 rfl ?_
          first | refine g_aload_n C dX3_settle_100 rfl rfl ?_ | refine g_aload_nN C dX3_settle_100 rfl rfl ?_ | refine g_aload_nq C dX3_settle_100 rfl rfl ?_
          refine g_get C dX3_settle_101 hm rfl kw_X3 1 (by decide) kfX3_58 rfl rfl ?_
          refine g_icmp_ge C 145 dX3_settle_104 (by decide) (fun c104 => ?_) (fun c104 => ?_)
          · have hkn : n = k := by have := (nI_leI (a := n) (b := k) (by omega) (by omega)).mp c104; omega
            subst hkn
            refine g_iload_n C dX3_settle_145 rfl rfl ?_
            refine g_iconst C (v := (-1)) dX3_settle_146 (by decide) ?_
            refine g_icmp_eq C 154 dX3_settle_147 (by decide) (fun _ => ?_) (fun c147 => absurd (rfl) c147)
            refine g_iconst C (v := 0) dX3_settle_154 (by decide) ?_
            refine g_istore_n C dX3_settle_155 rfl (by decide) ?_
            refine g_iload_n C dX3_settle_156 rfl rfl ?_
            refine g_if_eq C 172 dX3_settle_157 (by decide) (fun _ => ?_) (fun c157 => absurd (rfl) c157)
            refine g_goto C 89 dX3_settle_172 (by decide) ?_
            refine g_drop [(0, .ref mo), (1, .int (nI d)), (2, .int (bI false))] _ rfl ?_
            have hr0 : r = [] := by
              have h9 := left_head (srt_c (hI 0 (by decide)) (hI 1 (by decide)) hs) hfl hg
              rw [hac] at h9
              cases r with
              | nil => rfl
              | cons y r => cases h9
            exact ihw (r, false, Ic, Bc, q, wc) ⟨hR, hf, hI, hB, fun _ => hr0, hg, pre, hfl, hqp, htd⟩ (by dsimp only [cond]; omega)
          · have hlt : k < n := nI_nge c104 (by omega) (by omega)
            first | refine g_aload_n C dX3_settle_107 rfl rfl ?_ | refine g_aload_nN C dX3_settle_107 rfl rfl ?_ | refine g_aload_nq C dX3_settle_107 rfl rfl ?_
            refine g_get C dX3_settle_108 hm rfl kw_X3 16 (by decide) kfX3_47 rfl rfl ?_
            refine g_iload C dX3_settle_111 rfl ?_
            refine g_zaldN C dX3_settle_113 r12 (by omega) (by decide) ?_
            refine g_if_eq C 137 dX3_settle_114 (by decide) (fun c114 => ?_) (fun c114 => ?_)
            · have c114 := bI_z.mp c114
              refine g_iload_n C dX3_settle_137 rfl rfl ?_
              refine g_istore_n C dX3_settle_138 rfl (by decide) ?_
              refine g_iinc C (v := nI (k + 1)) dX3_settle_139 rfl (nI_1 k) (by decide) ?_
              refine g_goto C 98 dX3_settle_142 (by decide) ?_
              have hs := ihk (k + 1) hlt (by omega)
              (try dsimp only at hs)
              have e9 : iter (selS Ic (Bc 12)) none (k + 1) = none := by show (selS Ic (Bc 12)) (iter (selS Ic (Bc 12)) none k) k = _; rw [hac]; simp [selS, c104, c114]
              rw [e9] at hs
              exact hs
            · have c114 := bI_nz.mp c114
              refine g_iload_n C dX3_settle_117 rfl rfl ?_
              refine g_iconst C (v := (-1)) dX3_settle_118 (by decide) ?_
              refine g_icmp_eq C 132 dX3_settle_119 (by decide) (fun _ => ?_) (fun c119 => absurd (rfl) c119)
              refine g_iload C dX3_settle_132 rfl ?_
              refine g_goto C 138 dX3_settle_134 (by decide) ?_
              refine g_istore_n C dX3_settle_138 rfl (by decide) ?_
              refine g_iinc C (v := nI (k + 1)) dX3_settle_139 rfl (nI_1 k) (by decide) ?_
              refine g_goto C 98 dX3_settle_142 (by decide) ?_
              have hs := ihk (k + 1) hlt (by omega)
              (try dsimp only at hs)
              have e9 : iter (selS Ic (Bc 12)) none (k + 1) = (some k) := by show (selS Ic (Bc 12)) (iter (selS Ic (Bc 12)) none k) k = _; rw [hac]; simp [selS, c104, c114]
              rw [e9] at hs
              exact hs
        | some b9 =>
          have hbk : b9 < k := selS_lt hac
          have hb1 : ¬ nI b9 = -1 := oI_some (by omega)
          refine g_iload C dX3_settle_98 rfl ?_
          first | refine g_aload_n C dX3_settle_100 rfl rfl ?_ | refine g_aload_nN C dX3_settle_100 rfl rfl ?_ | refine g_aload_nq C dX3_settle_100 rfl rfl ?_
          refine g_get C dX3_settle_101 hm rfl kw_X3 1 (by decide) kfX3_58 rfl rfl ?_
          refine g_icmp_ge C 145 dX3_settle_104 (by decide) (fun c104 => ?_) (fun c104 => ?_)
          · have hkn : n = k := by have := (nI_leI (a := n) (b := k) (by omega) (by omega)).mp c104; omega
            subst hkn
            refine g_iload_n C dX3_settle_145 rfl rfl ?_
            refine g_iconst C (v := (-1)) dX3_settle_146 (by decide) ?_
            refine g_icmp_eq C 154 dX3_settle_147 (by decide) (fun c147 => absurd c147 (hb1)) (fun _ => ?_)
            refine g_iconst C (v := 1) dX3_settle_150 (by decide) ?_
            refine g_goto C 155 dX3_settle_151 (by decide) ?_
            refine g_istore_n C dX3_settle_155 rfl (by decide) ?_
            refine g_iload_n C dX3_settle_156 rfl rfl ?_
            refine g_if_eq C 172 dX3_settle_157 (by decide) (fun c157 => absurd c157 (by decide)) (fun _ => ?_)
            obtain ⟨r', rfl⟩ : ∃ r', r = b9 :: r' := by
              have h9 := left_head (srt_c (hI 0 (by decide)) (hI 1 (by decide)) hs) hfl hg
              rw [hac] at h9
              cases r with
              | nil => cases h9
              | cons y r => cases h9; exact ⟨r, rfl⟩
            have hx := left_mem hfl
            have hxn : b9 < n := (hs.1 b9).mp hx.1
            have hql : pre.length < ch.length := left_len hfl
            have hxP : rlP I B n d b9 = true := hx.2
            simp only [rlP, Bool.and_eq_true, decide_eq_true_eq] at hxP
            obtain ⟨v9, hv9, hv92, hne9⟩ := hrel b9 hxn hxP.2.1
            first | refine g_aload_n C dX3_settle_160 rfl rfl ?_ | refine g_aload_nN C dX3_settle_160 rfl rfl ?_ | refine g_aload_nq C dX3_settle_160 rfl rfl ?_
            refine g_get C dX3_settle_161 hm rfl kw_X3 16 (by decide) kfX3_47 rfl rfl ?_
            refine g_iload_n C dX3_settle_164 rfl rfl ?_
            refine g_iconst C (v := 0) dX3_settle_165 (by decide) ?_
            refine g_zastB C (false) dX3_settle_166 r12 (by omega) (by decide) (rfl) ?_
            have hR := hR.up12 (va_up (Bc 12) b9 false)
            obtain ⟨hm, r0, r1, r2, r3, r4, r5, r6, r7, r8, r9, r10, r11, r12, hinj, hn⟩ := id hR
            first | refine g_aload_n C dX3_settle_167 rfl rfl ?_ | refine g_aload_nN C dX3_settle_167 rfl rfl ?_ | refine g_aload_nq C dX3_settle_167 rfl rfl ?_
            refine g_iload_n C dX3_settle_168 rfl rfl ?_
            refine g_callVn C _ dX3_settle_169 (c_X3_take l G _ _ _ _ _ _ _ _ _ hR b9 v9 (by omega) ((congrFun (hI 4 (by decide)) b9).trans hv9) hv92 hne9 (by omega)) kmX3_116 ki_X3_take kv_X3_take kn_X3 kc_X3_take hy_X3_take ⟨by decide, by decide⟩ hm rfl rfl (Nat.le_of_ble_eq_true rfl) ⟨by decide, by decide⟩ (fun v w1 hp => ?_)
            obtain ⟨rfl, I2, B2, q2, hR2, hf2, hI2, hB2, hq2, hst⟩ := hp
            refine g_goto C 89 dX3_settle_172 (by decide) ?_
            refine g_drop [(0, .ref mo), (1, .int (nI d)), (2, .int (bI true))] _ rfl ?_
            have hnd := left_nd hs.nd hfl
            have hnd2 : (b9 :: r').Nodup := (List.nodup_append.mp hnd).2.1
            have hg2 : ∀ t, t < n → B2 12 t = decide (t ∈ r') := fun t ht => by rw [hB2 12 (by decide)]; exact left_g hnd2 hg t ht
            have htd2 : tied (B2 10) (I2 11) q2 ((pre ++ [b9]).foldl (stS I) st0) := by rw [List.foldl_append]; have h9 := hst _ htd; rw [stS_c (hI 4 (by decide))] at h9; exact h9
            exact ihw (r', true, I2, B2, q2, w1) ⟨hR2, (hf.up (MD.a 12 (by decide))).trans hf2, fun a ha => (hI2 a ha).trans (hI a ha), fun a h10 h12 => (hB2 a h10).trans ((va_up_ne _ _ h12).trans (hB a h10 h12)), (fun h => by cases h), hg2, pre ++ [b9], by rw [hfl]; simp, by dsimp only; rw [List.length_append]; simp only [List.length_cons, List.length_nil]; omega, htd2⟩ (by dsimp only [cond, List.length_cons]; omega)
          · have hlt : k < n := nI_nge c104 (by omega) (by omega)
            first | refine g_aload_n C dX3_settle_107 rfl rfl ?_ | refine g_aload_nN C dX3_settle_107 rfl rfl ?_ | refine g_aload_nq C dX3_settle_107 rfl rfl ?_
            refine g_get C dX3_settle_108 hm rfl kw_X3 16 (by decide) kfX3_47 rfl rfl ?_
            refine g_iload C dX3_settle_111 rfl ?_
            refine g_zaldN C dX3_settle_113 r12 (by omega) (by decide) ?_
            refine g_if_eq C 137 dX3_settle_114 (by decide) (fun c114 => ?_) (fun c114 => ?_)
            · have c114 := bI_z.mp c114
              refine g_iload_n C dX3_settle_137 rfl rfl ?_
              refine g_istore_n C dX3_settle_138 rfl (by decide) ?_
              refine g_iinc C (v := nI (k + 1)) dX3_settle_139 rfl (nI_1 k) (by decide) ?_
              refine g_goto C 98 dX3_settle_142 (by decide) ?_
              have hs := ihk (k + 1) hlt (by omega)
              (try dsimp only at hs)
              have e9 : iter (selS Ic (Bc 12)) none (k + 1) = (some b9) := by show (selS Ic (Bc 12)) (iter (selS Ic (Bc 12)) none k) k = _; rw [hac]; simp [selS, c104, c114]
              rw [e9] at hs
              exact hs
            · have c114 := bI_nz.mp c114
              refine g_iload_n C dX3_settle_117 rfl rfl ?_
              refine g_iconst C (v := (-1)) dX3_settle_118 (by decide) ?_
              refine g_icmp_eq C 132 dX3_settle_119 (by decide) (fun c119 => absurd c119 (hb1)) (fun _ => ?_)
              first | refine g_aload_n C dX3_settle_122 rfl rfl ?_ | refine g_aload_nN C dX3_settle_122 rfl rfl ?_ | refine g_aload_nq C dX3_settle_122 rfl rfl ?_
              refine g_iload C dX3_settle_123 rfl ?_
              refine g_iload_n C dX3_settle_125 rfl rfl ?_
              refine g_callVn C _ dX3_settle_126 (c_X3_earlier l G _ _ _ _ _ _ _ _ _ hR k b9 (by omega) (by omega)) kmX3_83 ki_X3_earlier kv_X3_earlier kn_X3 kc_X3_earlier hy_X3_earlier ⟨by decide, by decide⟩ hm rfl rfl (Nat.le_of_ble_eq_true rfl) ⟨by decide, by decide⟩ (fun v w1 hp => ?_)
              obtain ⟨rfl, hw1⟩ := hp
              have hw1 := hw1.symm
              subst hw1
              refine g_if_eq C 137 dX3_settle_129 (by decide) (fun c129 => ?_) (fun c129 => ?_)
              · have c129 := bI_z.mp c129
                refine g_iload_n C dX3_settle_137 rfl rfl ?_
                refine g_istore_n C dX3_settle_138 rfl (by decide) ?_
                refine g_iinc C (v := nI (k + 1)) dX3_settle_139 rfl (nI_1 k) (by decide) ?_
                refine g_goto C 98 dX3_settle_142 (by decide) ?_
                have hs := ihk (k + 1) hlt (by omega)
                (try dsimp only at hs)
                have e9 : iter (selS Ic (Bc 12)) none (k + 1) = (some b9) := by show (selS Ic (Bc 12)) (iter (selS Ic (Bc 12)) none k) k = _; rw [hac]; simp [selS, c104, c114, c129]
                rw [e9] at hs
                exact hs
              · have c129 := bI_nz.mp c129
                refine g_iload C dX3_settle_132 rfl ?_
                refine g_goto C 138 dX3_settle_134 (by decide) ?_
                refine g_istore_n C dX3_settle_138 rfl (by decide) ?_
                refine g_iinc C (v := nI (k + 1)) dX3_settle_139 rfl (nI_1 k) (by decide) ?_
                refine g_goto C 98 dX3_settle_142 (by decide) ?_
                have hs := ihk (k + 1) hlt (by omega)
                (try dsimp only at hs)
                have e9 : iter (selS Ic (Bc 12)) none (k + 1) = (some k) := by show (selS Ic (Bc 12)) (iter (selS Ic (Bc 12)) none k) k = _; rw [hac]; simp [selS, c104, c114, c129]
                rw [e9] at hs
                exact hs
    · have hlt : k < n := nI_nge c34 (by omega) (by omega)
      first | refine g_aload_n C dX3_settle_37 rfl rfl ?_ | refine g_aload_nN C dX3_settle_37 rfl rfl ?_ | refine g_aload_nq C dX3_settle_37 rfl rfl ?_
      refine g_get C dX3_settle_38 hm rfl kw_X3 16 (by decide) kfX3_47 rfl rfl ?_
      refine g_iload_n C dX3_settle_41 rfl rfl ?_
      first | refine g_aload_n C dX3_settle_42 rfl rfl ?_ | refine g_aload_nN C dX3_settle_42 rfl rfl ?_ | refine g_aload_nq C dX3_settle_42 rfl rfl ?_
      refine g_get C dX3_settle_43 hm rfl kw_X3 9 (by decide) kfX3_32 rfl rfl ?_
      refine g_bipush C (v := 120) dX3_settle_46 (by decide) ?_
      refine g_iload_n C dX3_settle_48 rfl rfl ?_
      refine g_imul C dX3_settle_49 ?_
      refine g_iload_n C dX3_settle_50 rfl rfl ?_
      refine g_iadd C dX3_settle_51 ?_
      refine g_eq (ix120 d k) ?_
      refine g_zaldN C dX3_settle_52 r7 (by omega) (by decide) ?_
      refine g_if_eq C 79 dX3_settle_53 (by decide) (fun c53 => ?_) (fun c53 => ?_)
      · have c53 := bI_z.mp c53
        refine g_iconst C (v := 0) dX3_settle_79 (by decide) ?_
        refine g_zastB C (false) dX3_settle_80 r12 (by omega) (by decide) (rfl) ?_
        refine g_iinc C (v := nI (k + 1)) dX3_settle_81 rfl (nI_1 k) (by decide) ?_
        refine g_goto C 29 dX3_settle_84 (by decide) ?_
        have e53 := (congrFun (hB 7 (by decide) (by decide)) _).symm.trans c53
        have hP : rlP I B n d k = false := by simp [rlP, e53]
        have hA : ∀ t, t < k + 1 → va_up (Bc 12) k false t = rlP I B n d t := by
          intro t ht
          by_cases e : t = k
          · subst e; rw [va_up_self, hP]
          · rw [va_up_ne _ _ e]; exact h12 t (by omega)
        exact ihb (k + 1, va_up Bc 12 (va_up (Bc 12) k false), h_up wc (M 12) (eZ G 120 (fun j => bI (va_up (Bc 12) k false j)))) ⟨hlt, hR.up12 (va_up (Bc 12) k false), hf.up (MD.a 12 (by decide)), (fun a ha ha2 => (va_up_ne _ _ ha2).trans (hB a ha ha2)), h10, hA⟩ (by dsimp only; omega)
      · have c53 := bI_nz.mp c53
        first | refine g_aload_n C dX3_settle_56 rfl rfl ?_ | refine g_aload_nN C dX3_settle_56 rfl rfl ?_ | refine g_aload_nq C dX3_settle_56 rfl rfl ?_
        refine g_get C dX3_settle_57 hm rfl kw_X3 4 (by decide) kfX3_16 rfl rfl ?_
        refine g_iload_n C dX3_settle_60 rfl rfl ?_
        refine g_ialdN C dX3_settle_61 r2 (by omega) (by decide) ?_
        refine g_iconst C (v := 5) dX3_settle_62 (by decide) ?_
        refine g_icmp_ne C 79 dX3_settle_63 (by decide) (fun c63 => ?_) (fun c63 => ?_)
        · refine g_iconst C (v := 0) dX3_settle_79 (by decide) ?_
          refine g_zastB C (false) dX3_settle_80 r12 (by omega) (by decide) (rfl) ?_
          refine g_iinc C (v := nI (k + 1)) dX3_settle_81 rfl (nI_1 k) (by decide) ?_
          refine g_goto C 29 dX3_settle_84 (by decide) ?_
          have e53 := (congrFun (hB 7 (by decide) (by decide)) _).symm.trans c53
          have hP : rlP I B n d k = false := by simp [rlP, e53, c63]
          have hA : ∀ t, t < k + 1 → va_up (Bc 12) k false t = rlP I B n d t := by
            intro t ht
            by_cases e : t = k
            · subst e; rw [va_up_self, hP]
            · rw [va_up_ne _ _ e]; exact h12 t (by omega)
          exact ihb (k + 1, va_up Bc 12 (va_up (Bc 12) k false), h_up wc (M 12) (eZ G 120 (fun j => bI (va_up (Bc 12) k false j)))) ⟨hlt, hR.up12 (va_up (Bc 12) k false), hf.up (MD.a 12 (by decide)), (fun a ha ha2 => (va_up_ne _ _ ha2).trans (hB a ha ha2)), h10, hA⟩ (by dsimp only; omega)
        · first | refine g_aload_n C dX3_settle_66 rfl rfl ?_ | refine g_aload_nN C dX3_settle_66 rfl rfl ?_ | refine g_aload_nq C dX3_settle_66 rfl rfl ?_
          refine g_iload_n C dX3_settle_67 rfl rfl ?_
          refine g_iload_n C dX3_settle_68 rfl rfl ?_
          refine g_callVn C _ dX3_settle_69 (c_X3_isDropped l G _ _ _ _ _ _ _ _ _ hR d k hd) kmX3_113 ki_X3_isDropped kv_X3_isDropped kn_X3 kc_X3_isDropped hy_X3_isDropped ⟨by decide, by decide⟩ hm rfl rfl (Nat.le_of_ble_eq_true rfl) ⟨by decide, by decide⟩ (fun v w1 hp => ?_)
          obtain ⟨rfl, hw1⟩ := hp
          have hw1 := hw1.symm
          subst hw1
          refine g_if_ne C 79 dX3_settle_72 (by decide) (fun c72 => ?_) (fun c72 => ?_)
          · have c72 := bI_nz.mp c72
            refine g_iconst C (v := 0) dX3_settle_79 (by decide) ?_
            refine g_zastB C (false) dX3_settle_80 r12 (by omega) (by decide) (rfl) ?_
            refine g_iinc C (v := nI (k + 1)) dX3_settle_81 rfl (nI_1 k) (by decide) ?_
            refine g_goto C 29 dX3_settle_84 (by decide) ?_
            have e53 := (congrFun (hB 7 (by decide) (by decide)) _).symm.trans c53
            have e72 := (enS_c (I := I) (hB 7 (by decide) (by decide)) d 6 (nI k) n).symm.trans c72
            have hP : rlP I B n d k = false := by simp [rlP, e53, c63, e72]
            have hA : ∀ t, t < k + 1 → va_up (Bc 12) k false t = rlP I B n d t := by
              intro t ht
              by_cases e : t = k
              · subst e; rw [va_up_self, hP]
              · rw [va_up_ne _ _ e]; exact h12 t (by omega)
            exact ihb (k + 1, va_up Bc 12 (va_up (Bc 12) k false), h_up wc (M 12) (eZ G 120 (fun j => bI (va_up (Bc 12) k false j)))) ⟨hlt, hR.up12 (va_up (Bc 12) k false), hf.up (MD.a 12 (by decide)), (fun a ha ha2 => (va_up_ne _ _ ha2).trans (hB a ha ha2)), h10, hA⟩ (by dsimp only; omega)
          · have c72 := bI_z.mp c72
            refine g_iconst C (v := 1) dX3_settle_75 (by decide) ?_
            refine g_goto C 80 dX3_settle_76 (by decide) ?_
            refine g_zastB C (true) dX3_settle_80 r12 (by omega) (by decide) (rfl) ?_
            refine g_iinc C (v := nI (k + 1)) dX3_settle_81 rfl (nI_1 k) (by decide) ?_
            refine g_goto C 29 dX3_settle_84 (by decide) ?_
            have e53 := (congrFun (hB 7 (by decide) (by decide)) _).symm.trans c53
            have e72 := (enS_c (I := I) (hB 7 (by decide) (by decide)) d 6 (nI k) n).symm.trans c72
            have hP : rlP I B n d k = true := by simp [rlP, e53, c63, e72]
            have hA : ∀ t, t < k + 1 → va_up (Bc 12) k true t = rlP I B n d t := by
              intro t ht
              by_cases e : t = k
              · subst e; rw [va_up_self, hP]
              · rw [va_up_ne _ _ e]; exact h12 t (by omega)
            exact ihb (k + 1, va_up Bc 12 (va_up (Bc 12) k true), h_up wc (M 12) (eZ G 120 (fun j => bI (va_up (Bc 12) k true j)))) ⟨hlt, hR.up12 (va_up (Bc 12) k true), hf.up (MD.a 12 (by decide)), (fun a ha ha2 => (va_up_ne _ _ ha2).trans (hB a ha ha2)), h10, hA⟩ (by dsimp only; omega)
  · have hlt : k < 256 := nI_nge c11 (by omega) (by decide)
    first | refine g_aload_n C dX3_settle_14 rfl rfl ?_ | refine g_aload_nN C dX3_settle_14 rfl rfl ?_ | refine g_aload_nq C dX3_settle_14 rfl rfl ?_
    refine g_get C dX3_settle_15 hm rfl kw_X3 13 (by decide) kfX3_41 rfl rfl ?_
    refine g_iload_n C dX3_settle_18 rfl rfl ?_
    refine g_iconst C (v := 0) dX3_settle_19 (by decide) ?_
    refine g_zastB C (false) dX3_settle_20 r10 (by omega) (by decide) (rfl) ?_
    refine g_iinc C (v := nI (k + 1)) dX3_settle_21 rfl (nI_1 k) (by decide) ?_
    refine g_goto C 7 dX3_settle_24 (by decide) ?_
    have hR9 := hR.up10 (va_up K k false)
    rw [up_up] at hR9
    have hA : ∀ j, j < k + 1 → va_up K k false j = false := by
      intro j hj
      by_cases e : j = k
      · subst e; rw [va_up_self]
      · rw [va_up_ne _ _ e]; exact hK j (by omega)
    exact iha (k + 1, va_up K k false, h_up wc (M 10) (eZ G 256 (fun j => bI (va_up K k false j)))) ⟨hlt, hR9, hf.up (MD.a 10 (by decide)), hA⟩ (by dsimp only; omega)

