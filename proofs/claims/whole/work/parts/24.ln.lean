/-! ===== the model: line, standing ===== -/
def lnP (I : Nat → Nat → Int32) (B : Nat → Nat → Bool) (d : Nat) (th : Int32) (t : Nat) : Bool := isOfB I B d t th 3
theorem nI_d1 (k : Nat) : nI (k + 1) + Int32.ofInt (-1) = nI k := by
  have h : Int32.ofInt (-1) = -1 := rfl
  rw [h, ← nI_1, Int32.add_assoc]
  exact Int32.add_zero _
theorem lineL_snoc (I : Nat → Nat → Int32) (l : List Nat) (x : Nat) : lineL I (l ++ [x]) = insB (I 5 x) x (lineL I l) := by simp only [lineL, List.foldl_append, List.foldl_cons, List.foldl_nil]
theorem lineL_mem (I : Nat → Nat → Int32) : ∀ (l : List Nat) (L : List Nat) (i : Nat), i ∈ l.foldl (fun L x => insB (I 5 x) x L) L ↔ i ∈ l ∨ i ∈ L
  | [], L, i => by simp
  | x :: l, L, i => by rw [List.foldl_cons, lineL_mem I l, insB_mem, List.mem_cons]; exact ⟨fun h => h.elim (fun h => Or.inl (Or.inr h)) (fun h => h.elim (fun h => Or.inl (Or.inl h)) Or.inr), fun h => h.elim (fun h => h.elim (fun h => Or.inr (Or.inl h)) Or.inl) (fun h => Or.inr (Or.inr h))⟩
theorem lineL_len (I : Nat → Nat → Int32) : ∀ (l : List Nat) (L : List Nat), (l.foldl (fun L x => insB (I 5 x) x L) L).length = l.length + L.length
  | [], L => by simp
  | x :: l, L => by rw [List.foldl_cons, lineL_len I l, insB_len, List.length_cons]; omega
theorem lineL_nd (I : Nat → Nat → Int32) : ∀ (l : List Nat) (L : List Nat), (l ++ L).Nodup → (l.foldl (fun L x => insB (I 5 x) x L) L).Nodup
  | [], L, h => h
  | x :: l, L, h => by
    rw [List.cons_append] at h
    have h2 := List.nodup_cons.mp h
    rw [List.foldl_cons]
    refine lineL_nd I l _ ?_
    rw [List.nodup_append] at h2 ⊢
    obtain ⟨h3, h4, h5, h6⟩ := h2
    refine ⟨h4, insB_nd h5 (fun h => h3 (List.mem_append_right _ h)), fun y hy z hz => ?_⟩
    rcases insB_mem.mp hz with rfl | hz
    · exact fun e => h3 (List.mem_append_left _ (e ▸ hy))
    · exact h6 y hy z hz
/-- the k-th that P has not -/
def stG (P : Nat → Bool) (k : Int32) : Int32 → List Nat → Option Nat
  | _, [] => none
  | b, y :: l => cond (P y) (stG P k b l) (cond (decide (b = k)) (some y) (stG P k (b + 1) l))

set_option maxHeartbeats 4000000 in
set_option maxRecDepth 100000 in
theorem c_X3_line (l : Launch) (G : hD) (w : hW) (mo : Nat) (M : Nat → Nat) (n : Nat) (I : Nat → Nat → Int32) (B : Nat → Nat → Bool) (thr ord mny : Int32) (hR : MR G mo M n I B thr ord mny w) (d : Nat) (hd : d < 6) (th : Int32) (ch : List Nat) (hs : srt I n ch) (hcl : ch.length = n) : h_Met l yX3_line (Cond.code yX3_line cX3_line 7 none) { frames := 2, cells := 0, slots := 0, locals := 60 } G [.ref mo, .int (nI d), .int th] w (fun v w' => v = none ∧ ∃ I' B', (∀ a, a ≠ 9 → I' a = I a) ∧ (∀ a, a ≠ 12 → B' a = B a) ∧ held (I' 9) (lineL I (ch.filter (lnP I B d th))) ∧ MR G mo M n I' B' thr (nI (lineL I (ch.filter (lnP I B d th))).length) mny w' ∧ fr (MD mo M) w w') noX := by
  refine h_met RX3 rfl (by decide) (Nat.le_of_ble_eq_true rfl) (cat_c (by first | rfl | exact rf_cat _) (cat_c (by first | rfl | exact rf_cat _) (cat_c (by first | rfl | exact rf_cat _) cat_n))) ?_
  intro p e s m below meth c A C hnt hr hnm
  obtain ⟨hm, r0, r1, r2, r3, r4, r5, r6, r7, r8, r9, r10, r11, r12, hinj, hn⟩ := id hR
  first | refine g_aload_n C dX3_line_0 rfl rfl ?_ | refine g_aload_nN C dX3_line_0 rfl rfl ?_ | refine g_aload_nq C dX3_line_0 rfl rfl ?_
  refine g_iconst C (v := 0) dX3_line_1 (by decide) ?_
  refine g_put C dX3_line_2 hm rfl kw_X3 tyX3 tyX3_ok nmX3 12 (by decide) kfX3_86 rfl rfl rfl rfl (Nat.le_of_ble_eq_true rfl) ?_
  have hR := hR.upM thr 0 mny hn
  have hR0 : MR G mo M n I (va_up B 12 (B 12)) thr 0 mny _ := (up_eta B 12).symm ▸ hR
  obtain ⟨hm, r0, r1, r2, r3, r4, r5, r6, r7, r8, r9, r10, r11, r12, hinj, hn⟩ := id hR
  refine g_iconst C (v := 0) dX3_line_5 (by decide) ?_
  refine g_istore_n C dX3_line_6 rfl (by decide) ?_
  refine g_loop (σ := Nat × (Nat → Bool) × hW) (fun s => s.1 ≤ n ∧ MR G mo M n I (va_up B 12 s.2.1) thr 0 mny s.2.2 ∧ fr (MD mo M) w s.2.2 ∧ ∀ t, t < s.1 → s.2.1 t = lnP I B d th t) (fun s => n - s.1) (fun s => s.2.2) (fun s => [(0, .ref mo), (1, .int (nI d)), (2, .int th), (3, .int (nI s.1))]) ?_ (0, B 12, _) ⟨Nat.zero_le _, hR0, fr.rf.up (b := mo) (e := cellM M thr n 0 mny) MD.m, fun t ht => absurd ht (Nat.not_lt_zero _)⟩
  clear hR hR0 r0 r1 r2 r3 r4 r5 r6 r7 r8 r9 r10 r11 r12 hm
  rintro ⟨k, g, wc⟩ ⟨hk, hR, hf, h12⟩ ihf
  dsimp only at hk hR hf h12 ihf ⊢
  obtain ⟨hm, r0, r1, r2, r3, r4, r5, r6, r7, r8, r9, r10, r11, r12, hinj, hn⟩ := id hR
  have r12 : wc (M 12) = some (eZ G 120 (fun j => bI (g j))) := r12
  refine g_iload_n C dX3_line_7 rfl rfl ?_
  first | refine g_aload_n C dX3_line_8 rfl rfl ?_ | refine g_aload_nN C dX3_line_8 rfl rfl ?_ | refine g_aload_nq C dX3_line_8 rfl rfl ?_
  refine g_get C dX3_line_9 hm rfl kw_X3 1 (by decide) kfX3_58 rfl rfl ?_
  refine g_icmp_ge C 35 dX3_line_12 (by decide) (fun c12 => ?_) (fun c12 => ?_)
  · have hkn : n = k := by have := (nI_leI (a := n) (b := k) (by omega) (by omega)).mp c12; omega
    subst hkn
    refine g_iconst C (v := 1) dX3_line_35 (by decide) ?_
    refine g_istore_n C dX3_line_36 rfl (by decide) ?_
    refine g_loop (σ := List Nat × Bool × (Nat → Nat → Int32) × (Nat → Nat → Bool) × Nat × hW) (fun s => MR G mo M n s.2.2.1 s.2.2.2.1 thr (nI s.2.2.2.2.1) mny s.2.2.2.2.2 ∧ fr (MD mo M) w s.2.2.2.2.2 ∧ (∀ a, a ≠ 9 → s.2.2.1 a = I a) ∧ (∀ a, a ≠ 12 → s.2.2.2.1 a = B a) ∧ (s.2.1 = false → s.1 = []) ∧ (∀ t, t < n → s.2.2.2.1 12 t = decide (t ∈ s.1)) ∧ ∃ pre, ch.filter (lnP I B d th) = pre ++ s.1 ∧ s.2.2.2.2.1 = pre.length ∧ held (s.2.2.1 9) (lineL I pre)) (fun s => 2 * s.1.length + cond s.2.1 1 0) (fun s => s.2.2.2.2.2) (fun s => [(0, .ref mo), (1, .int (nI d)), (2, .int th), (3, .int (bI s.2.1))]) ?_ (ch.filter (lnP I B d th), true, I, va_up B 12 g, 0, wc) ⟨hR, hf, (fun _ _ => rfl), (fun a ha => va_up_ne _ _ ha), (fun h => by cases h), ?_, [], rfl, rfl, fun k y hy => by cases hy⟩
    rotate_left 1
    · intro t ht
      show g t = _
      rw [h12 t ht]
      have h9 : t ∈ ch := (hs.1 t).mpr ht
      cases hP : lnP I B d th t with
      | true => exact (decide_eq_true (List.mem_filter.mpr ⟨h9, hP⟩)).symm
      | false => exact (decide_eq_false (fun h => by rw [(List.mem_filter.mp h).2] at hP; cases hP)).symm
    clear hR hf h12 r0 r1 r2 r3 r4 r5 r6 r7 r8 r9 r10 r11 r12 hm
    rintro ⟨r, b, Ic, Bc, q, wc⟩ ⟨hR, hf, hI, hB, hb, hg, pre, hfl, hqp, hhd⟩ ihw
    dsimp only at hR hf hI hB hb hg hfl hqp hhd ihw ⊢
    obtain ⟨hm, r0, r1, r2, r3, r4, r5, r6, r7, r8, r9, r10, r11, r12, hinj, hn⟩ := id hR
    refine g_iload_n C dX3_line_37 rfl rfl ?_
    refine g_if_eq C 228 dX3_line_38 (by decide) (fun c38 => ?_) (fun c38 => ?_)
    · have c38 := bI_z.mp c38
      subst c38
      have hr0 : r = [] := hb rfl
      subst hr0
      exact g_vret C hr dX3_line_228 (by decide) (by decide) ⟨rfl, Ic, Bc, hI, hB, by rw [hfl, List.append_nil]; exact hhd, by rw [hfl, List.append_nil, lineL, lineL_len, ← hqp]; exact hR, hf⟩
    · have c38 := bI_nz.mp c38
      subst c38
      refine g_iconst C (v := (-1)) dX3_line_41 (by decide) ?_
      refine g_istore C dX3_line_42 (by decide) ?_
      refine g_iconst C (v := 0) dX3_line_44 (by decide) ?_
      refine g_istore C dX3_line_45 (by decide) ?_
      refine g_loop (σ := Nat) (fun k => k ≤ n) (fun k => n - k) (fun k => wc) (fun k => [(0, .ref mo), (1, .int (nI d)), (2, .int th), (3, .int (bI true)), (4, .int (oI (iter (selS Ic (Bc 12)) none k))), (5, .int (nI k))]) ?_ 0 (Nat.zero_le _)
      intro k hkk ihk
      (try dsimp only at ihk ⊢)
      cases hac : iter (selS Ic (Bc 12)) none k with
      | none =>
        refine g_iload C dX3_line_47 rfl ?_
        first | refine g_aload_n C dX3_line_49 rfl rfl ?_ | refine g_aload_nN C dX3_line_49 rfl rfl ?_ | refine g_aload_nq C dX3_line_49 rfl rfl ?_
        refine g_get C dX3_line_50 hm rfl kw_X3 1 (by decide) kfX3_58 rfl rfl ?_
        refine g_icmp_ge C 98 dX3_line_53 (by decide) (fun c53 => ?_) (fun c53 => ?_)
        · have hkn : n = k := by have := (nI_leI (a := n) (b := k) (by omega) (by omega)).mp c53; omega
          subst hkn
          refine g_iload C dX3_line_98 rfl ?_
          refine g_iconst C (v := (-1)) dX3_line_100 (by decide) ?_
          refine g_icmp_eq C 108 dX3_line_101 (by decide) (fun _ => ?_) (fun c101 => absurd (rfl) c101)
          refine g_iconst C (v := 0) dX3_line_108 (by decide) ?_
          refine g_istore_n C dX3_line_109 rfl (by decide) ?_
          refine g_iload_n C dX3_line_110 rfl rfl ?_
          refine g_if_eq C 225 dX3_line_111 (by decide) (fun _ => ?_) (fun c111 => absurd (rfl) c111)
          refine g_goto C 37 dX3_line_225 (by decide) ?_
          refine g_drop [(0, .ref mo), (1, .int (nI d)), (2, .int th), (3, .int (bI false))] _ rfl ?_
          have hr0 : r = [] := by
            have h9 := left_head (srt_c (hI 0 (by decide)) (hI 1 (by decide)) hs) hfl hg
            rw [hac] at h9
            cases r with
            | nil => rfl
            | cons y r => cases h9
          exact ihw (r, false, Ic, Bc, q, wc) ⟨hR, hf, hI, hB, fun _ => hr0, hg, pre, hfl, hqp, hhd⟩ (by dsimp only [cond]; omega)
        · have hlt : k < n := nI_nge c53 (by omega) (by omega)
          first | refine g_aload_n C dX3_line_56 rfl rfl ?_ | refine g_aload_nN C dX3_line_56 rfl rfl ?_ | refine g_aload_nq C dX3_line_56 rfl rfl ?_
          refine g_get C dX3_line_57 hm rfl kw_X3 16 (by decide) kfX3_47 rfl rfl ?_
          refine g_iload C dX3_line_60 rfl ?_
          refine g_zaldN C dX3_line_62 r12 (by omega) (by decide) ?_
          refine g_if_eq C 88 dX3_line_63 (by decide) (fun c63 => ?_) (fun c63 => ?_)
          · have c63 := bI_z.mp c63
            refine g_iload C dX3_line_88 rfl ?_
            refine g_istore C dX3_line_90 (by decide) ?_
            refine g_iinc C (v := nI (k + 1)) dX3_line_92 rfl (nI_1 k) (by decide) ?_
            refine g_goto C 47 dX3_line_95 (by decide) ?_
            have hs := ihk (k + 1) hlt (by omega)
            (try dsimp only at hs)
            have e9 : iter (selS Ic (Bc 12)) none (k + 1) = none := by show (selS Ic (Bc 12)) (iter (selS Ic (Bc 12)) none k) k = _; rw [hac]; simp [selS, c53, c63]
            rw [e9] at hs
            exact hs
          · have c63 := bI_nz.mp c63
            refine g_iload C dX3_line_66 rfl ?_
            refine g_iconst C (v := (-1)) dX3_line_68 (by decide) ?_
            refine g_icmp_eq C 83 dX3_line_69 (by decide) (fun _ => ?_) (fun c69 => absurd (rfl) c69)
            refine g_iload C dX3_line_83 rfl ?_
            refine g_goto C 90 dX3_line_85 (by decide) ?_
            refine g_istore C dX3_line_90 (by decide) ?_
            refine g_iinc C (v := nI (k + 1)) dX3_line_92 rfl (nI_1 k) (by decide) ?_
            refine g_goto C 47 dX3_line_95 (by decide) ?_
            have hs := ihk (k + 1) hlt (by omega)
            (try dsimp only at hs)
            have e9 : iter (selS Ic (Bc 12)) none (k + 1) = (some k) := by show (selS Ic (Bc 12)) (iter (selS Ic (Bc 12)) none k) k = _; rw [hac]; simp [selS, c53, c63]
            rw [e9] at hs
            exact hs
      | some b9 =>
        have hbk : b9 < k := selS_lt hac
        have hb1 : ¬ nI b9 = -1 := oI_some (by omega)
        refine g_iload C dX3_line_47 rfl ?_
        first | refine g_aload_n C dX3_line_49 rfl rfl ?_ | refine g_aload_nN C dX3_line_49 rfl rfl ?_ | refine g_aload_nq C dX3_line_49 rfl rfl ?_
        refine g_get C dX3_line_50 hm rfl kw_X3 1 (by decide) kfX3_58 rfl rfl ?_
        refine g_icmp_ge C 98 dX3_line_53 (by decide) (fun c53 => ?_) (fun c53 => ?_)
        · have hkn : n = k := by have := (nI_leI (a := n) (b := k) (by omega) (by omega)).mp c53; omega
          subst hkn
          refine g_iload C dX3_line_98 rfl ?_
          refine g_iconst C (v := (-1)) dX3_line_100 (by decide) ?_
          refine g_icmp_eq C 108 dX3_line_101 (by decide) (fun c101 => absurd c101 (hb1)) (fun _ => ?_)
          refine g_iconst C (v := 1) dX3_line_104 (by decide) ?_
          refine g_goto C 109 dX3_line_105 (by decide) ?_
          refine g_istore_n C dX3_line_109 rfl (by decide) ?_
          refine g_iload_n C dX3_line_110 rfl rfl ?_
          refine g_if_eq C 225 dX3_line_111 (by decide) (fun c111 => absurd c111 (by decide)) (fun _ => ?_)
          obtain ⟨r', rfl⟩ : ∃ r', r = b9 :: r' := by
            have h9 := left_head (srt_c (hI 0 (by decide)) (hI 1 (by decide)) hs) hfl hg
            rw [hac] at h9
            cases r with
            | nil => cases h9
            | cons y r => cases h9; exact ⟨r, rfl⟩
          have hx := left_mem hfl
          have hxn : b9 < n := (hs.1 b9).mp hx.1
          have hql : pre.length < ch.length := left_len hfl
          have hq120 : q < 120 := by omega
          first | refine g_aload_n C dX3_line_114 rfl rfl ?_ | refine g_aload_nN C dX3_line_114 rfl rfl ?_ | refine g_aload_nq C dX3_line_114 rfl rfl ?_
          refine g_get C dX3_line_115 hm rfl kw_X3 16 (by decide) kfX3_47 rfl rfl ?_
          refine g_iload C dX3_line_118 rfl ?_
          refine g_iconst C (v := 0) dX3_line_120 (by decide) ?_
          refine g_zastB C (false) dX3_line_121 r12 (by omega) (by decide) (rfl) ?_
          have hR := hR.up12 (va_up (Bc 12) b9 false)
          obtain ⟨hm, r0, r1, r2, r3, r4, r5, r6, r7, r8, r9, r10, r11, r12, hinj, hn⟩ := id hR
          refine g_iconst C (v := 0) dX3_line_122 (by decide) ?_
          refine g_istore C dX3_line_123 (by decide) ?_
          refine g_iconst C (v := 0) dX3_line_125 (by decide) ?_
          refine g_istore C dX3_line_126 (by decide) ?_
          refine g_loop (σ := Nat) (fun j => j ≤ q) (fun j => q - j) (fun j => (h_up wc (M 12) (eZ G 120 (fun j => bI (va_up (Bc 12) b9 false j))))) (fun j => [(0, .ref mo), (1, .int (nI d)), (2, .int th), (3, .int 1), (4, .int (nI b9)), (5, .int (nI (iter (atS (Ic 9) (Ic 5 b9)) 0 j))), (6, .int (nI j))]) ?_ 0 (Nat.zero_le _)
          intro j hkj ihj
          (try dsimp only at ihj ⊢)
          refine g_iload C dX3_line_128 rfl ?_
          first | refine g_aload_n C dX3_line_130 rfl rfl ?_ | refine g_aload_nN C dX3_line_130 rfl rfl ?_ | refine g_aload_nq C dX3_line_130 rfl rfl ?_
          refine g_get C dX3_line_131 hm rfl kw_X3 12 (by decide) kfX3_86 rfl rfl ?_
          refine g_icmp_ge C 171 dX3_line_134 (by decide) (fun c134 => ?_) (fun c134 => ?_)
          · have hkn : q = j := by have := (nI_leI (a := q) (b := j) (by omega) (by omega)).mp c134; omega
            subst hkn
            first | refine g_aload_n C dX3_line_171 rfl rfl ?_ | refine g_aload_nN C dX3_line_171 rfl rfl ?_ | refine g_aload_nq C dX3_line_171 rfl rfl ?_
            refine g_get C dX3_line_172 hm rfl kw_X3 12 (by decide) kfX3_86 rfl rfl ?_
            refine g_istore C dX3_line_175 (by decide) ?_
            have hatq : (iter (atS (Ic 9) (Ic 5 b9)) 0 q) ≤ q := atS_le _ _ _
            refine g_loop (σ := Nat × (Nat → Int32) × hW) (fun s => (iter (atS (Ic 9) (Ic 5 b9)) 0 q) ≤ s.1 ∧ s.1 ≤ q ∧ MR G mo M n (va_up Ic 9 s.2.1) (va_up Bc 12 (va_up (Bc 12) b9 false)) thr (nI q) mny s.2.2 ∧ fr (MD mo M) w s.2.2 ∧ (∀ j, j ≤ s.1 → s.2.1 j = Ic 9 j) ∧ (∀ j, s.1 < j → j ≤ q → s.2.1 j = Ic 9 (j - 1))) (fun s => s.1) (fun s => s.2.2) (fun s => [(0, .ref mo), (1, .int (nI d)), (2, .int th), (3, .int 1), (4, .int (nI b9)), (5, .int (nI (iter (atS (Ic 9) (Ic 5 b9)) 0 q))), (6, .int (nI s.1))]) ?_ (q, Ic 9, _) ⟨hatq, Nat.le_refl _, (up_eta Ic 9).symm ▸ hR, hf.up (b := M 12) (e := eZ G 120 (fun j => bI (va_up (Bc 12) b9 false j))) (MD.a 12 (by decide)), (fun j _ => rfl), fun j h1 h2 => by dsimp only at h1; omega⟩
            clear hR r0 r1 r2 r3 r4 r5 r6 r7 r8 r9 r10 r11 r12 hm
            rintro ⟨kk, Oc, ws⟩ ⟨hka, hkq, hR, hf3, hO1, hO2⟩ ihs
            dsimp only at hka hkq hR hf3 hO1 hO2 ihs ⊢
            obtain ⟨hm, r0, r1, r2, r3, r4, r5, r6, r7, r8, r9, r10, r11, r12, hinj, hn⟩ := id hR
            have r9 : ws (M 9) = some (eI G 120 Oc) := r9
            refine g_iload C dX3_line_177 rfl ?_
            refine g_iload C dX3_line_179 rfl ?_
            refine g_icmp_le C 206 dX3_line_181 (by decide) (fun c181 => ?_) (fun c181 => ?_)
            · have hkk : kk = (iter (atS (Ic 9) (Ic 5 b9)) 0 q) := by have := (nI_leI (a := kk) (b := (iter (atS (Ic 9) (Ic 5 b9)) 0 q)) (by omega) (by omega)).mp c181; omega
              rw [← hkk]
              first | refine g_aload_n C dX3_line_206 rfl rfl ?_ | refine g_aload_nN C dX3_line_206 rfl rfl ?_ | refine g_aload_nq C dX3_line_206 rfl rfl ?_
              refine g_get C dX3_line_207 hm rfl kw_X3 11 (by decide) kfX3_38 rfl rfl ?_
              refine g_iload C dX3_line_210 rfl ?_
              refine g_iload C dX3_line_212 rfl ?_
              refine g_iastN C dX3_line_214 r9 (by omega) (by decide) ?_
              have hR := hR.up9 (upd Oc kk (nI b9))
              obtain ⟨hm, r0, r1, r2, r3, r4, r5, r6, r7, r8, r9, r10, r11, r12, hinj, hn⟩ := id hR
              first | refine g_aload_n C dX3_line_215 rfl rfl ?_ | refine g_aload_nN C dX3_line_215 rfl rfl ?_ | refine g_aload_nq C dX3_line_215 rfl rfl ?_
              refine g_dup C dX3_line_216 rfl ?_
              refine g_get C dX3_line_217 hm rfl kw_X3 12 (by decide) kfX3_86 rfl rfl ?_
              refine g_iconst C (v := 1) dX3_line_220 (by decide) ?_
              refine g_iadd C dX3_line_221 ?_
              refine g_eq (nI_1 q) ?_
              refine g_put C dX3_line_222 hm rfl kw_X3 tyX3 tyX3_ok nmX3 12 (by decide) kfX3_86 rfl rfl rfl rfl (Nat.le_of_ble_eq_true rfl) ?_
              have hR := hR.upM (n' := n) thr (nI (q + 1)) mny hn
              refine g_goto C 37 dX3_line_225 (by decide) ?_
              have hnd := left_nd hs.nd hfl
              have hnd2 : (b9 :: r').Nodup := (List.nodup_append.mp hnd).2.1
              have hg2 : ∀ t, t < n → va_up (Bc 12) b9 false t = decide (t ∈ r') := left_g hnd2 hg
              have hln : (lineL I pre).length = q := by rw [lineL, lineL_len, hqp]; rfl
              have hnl : (lineL I pre).Nodup := lineL_nd I pre [] (by rw [List.append_nil]; exact (List.nodup_append.mp hnd).1)
              have hbl : ∀ y ∈ lineL I pre, y < 2 ^ 31 := by
                intro y hy
                have h9 : y ∈ pre := ((lineL_mem I pre [] y).mp hy).elim id (fun h => by cases h)
                have h8 : y ∈ ch := (List.mem_filter.mp (show y ∈ ch.filter (lnP I B d th) by rw [hfl]; exact List.mem_append_left _ h9)).1
                have h7 := (hs.1 y).mp h8
                omega
              have hh2 : held (upd Oc kk (nI b9)) (lineL I (pre ++ [b9])) := by
                rw [lineL_snoc, ← ins_at hhd hnl hbl, hln, ← show Ic 5 b9 = I 5 b9 from congrFun (hI 5 (by decide)) b9, ← hkk]
                refine held_ins hhd (by rw [hln]; exact hkq) (fun j hj => ?_) pk_us (fun j hj hj2 => ?_)
                · rw [pk_un (by omega)]; exact hO1 j (by omega)
                · rw [pk_un (by omega)]; rw [hln] at hj2; exact hO2 j hj hj2
              refine g_drop [(0, .ref mo), (1, .int (nI d)), (2, .int th), (3, .int (bI true))] _ rfl ?_
              exact ihw (r', true, va_up (va_up Ic 9 Oc) 9 (upd Oc kk (nI b9)), va_up Bc 12 (va_up (Bc 12) b9 false), q + 1, _) ⟨hR, (hf3.up (MD.a 9 (by decide))).up MD.m, (fun a ha => (va_up_ne _ _ ha).trans ((va_up_ne _ _ ha).trans (hI a ha))), (fun a ha => (va_up_ne _ _ ha).trans (hB a ha)), (fun h => by cases h), hg2, pre ++ [b9], by rw [hfl]; simp, by dsimp only; rw [List.length_append, hqp]; rfl, hh2⟩ (by dsimp only [cond, List.length_cons]; omega)
            · have hkl : (iter (atS (Ic 9) (Ic 5 b9)) 0 q) < kk := by have := mt (nI_leI (a := kk) (b := (iter (atS (Ic 9) (Ic 5 b9)) 0 q)) (by omega) (by omega)).mpr c181; omega
              obtain ⟨k', rfl⟩ : ∃ k', kk = k' + 1 := ⟨kk - 1, by omega⟩
              first | refine g_aload_n C dX3_line_184 rfl rfl ?_ | refine g_aload_nN C dX3_line_184 rfl rfl ?_ | refine g_aload_nq C dX3_line_184 rfl rfl ?_
              refine g_get C dX3_line_185 hm rfl kw_X3 11 (by decide) kfX3_38 rfl rfl ?_
              refine g_iload C dX3_line_188 rfl ?_
              first | refine g_aload_n C dX3_line_190 rfl rfl ?_ | refine g_aload_nN C dX3_line_190 rfl rfl ?_ | refine g_aload_nq C dX3_line_190 rfl rfl ?_
              refine g_get C dX3_line_191 hm rfl kw_X3 11 (by decide) kfX3_38 rfl rfl ?_
              refine g_iload C dX3_line_194 rfl ?_
              refine g_iconst C (v := 1) dX3_line_196 (by decide) ?_
              refine g_isub C dX3_line_197 ?_
              refine g_eq (nI_m1 k') ?_
              refine g_ialdN C dX3_line_198 r9 (by omega) (by decide) ?_
              refine g_iastN C dX3_line_199 r9 (by omega) (by decide) ?_
              refine g_iinc C (v := nI k') dX3_line_200 rfl (nI_d1 k') (by decide) ?_
              refine g_goto C 177 dX3_line_203 (by decide) ?_
              have hR9 := hR.up9 (upd Oc (k' + 1) (Oc k'))
              rw [up_up] at hR9
              have hA1 : ∀ j, j ≤ k' → upd Oc (k' + 1) (Oc k') j = Ic 9 j := fun j hj => by rw [pk_un (by omega)]; exact hO1 j (by omega)
              have hA2 : ∀ j, k' < j → j ≤ q → upd Oc (k' + 1) (Oc k') j = Ic 9 (j - 1) := by
                intro j hj hj2
                by_cases e : j = k' + 1
                · subst e; rw [pk_us]; exact hO1 k' (by omega)
                · rw [pk_un e]; exact hO2 j (by omega) hj2
              exact ihs (k', upd Oc (k' + 1) (Oc k'), h_up ws (M 9) (eI G 120 (upd Oc (k' + 1) (Oc k')))) ⟨by dsimp only; omega, by dsimp only; omega, hR9, hf3.up (MD.a 9 (by decide)), hA1, hA2⟩ (by dsimp only; omega)
          · have hltj : j < q := nI_nge c134 (by omega) (by omega)
            first | refine g_aload_n C dX3_line_137 rfl rfl ?_ | refine g_aload_nN C dX3_line_137 rfl rfl ?_ | refine g_aload_nq C dX3_line_137 rfl rfl ?_
            refine g_get C dX3_line_138 hm rfl kw_X3 11 (by decide) kfX3_38 rfl rfl ?_
            refine g_iload C dX3_line_141 rfl ?_
            refine g_ialdN C dX3_line_143 r9 (by omega) (by decide) ?_
            first | refine g_aload_n C dX3_line_144 rfl rfl ?_ | refine g_aload_nN C dX3_line_144 rfl rfl ?_ | refine g_aload_nq C dX3_line_144 rfl rfl ?_
            refine g_get C dX3_line_145 hm rfl kw_X3 7 (by decide) kfX3_25 rfl rfl ?_
            refine g_iload C dX3_line_148 rfl ?_
            refine g_ialdN C dX3_line_150 r5 (by omega) (by decide) ?_
            refine g_icmp_ne C 161 dX3_line_151 (by decide) (fun c151 => ?_) (fun c151 => ?_)
            · refine g_iload C dX3_line_161 rfl ?_
              refine g_istore C dX3_line_163 (by decide) ?_
              refine g_iinc C (v := nI (j + 1)) dX3_line_165 rfl (nI_1 j) (by decide) ?_
              refine g_goto C 128 dX3_line_168 (by decide) ?_
              have hs := ihj (j + 1) hltj (by omega)
              (try dsimp only at hs)
              have e9 : iter (atS (Ic 9) (Ic 5 b9)) 0 (j + 1) = (iter (atS (Ic 9) (Ic 5 b9)) 0 j) := by show (atS (Ic 9) (Ic 5 b9)) (iter (atS (Ic 9) (Ic 5 b9)) 0 j) j = _; simp [atS, c134, c151]
              rw [e9] at hs
              exact hs
            · refine g_iload C dX3_line_154 rfl ?_
              refine g_iconst C (v := 1) dX3_line_156 (by decide) ?_
              refine g_iadd C dX3_line_157 ?_
              refine g_eq (nI_1 j) ?_
              refine g_goto C 163 dX3_line_158 (by decide) ?_
              refine g_istore C dX3_line_163 (by decide) ?_
              refine g_iinc C (v := nI (j + 1)) dX3_line_165 rfl (nI_1 j) (by decide) ?_
              refine g_goto C 128 dX3_line_168 (by decide) ?_
              have hs := ihj (j + 1) hltj (by omega)
              (try dsimp only at hs)
              have e9 : iter (atS (Ic 9) (Ic 5 b9)) 0 (j + 1) = (j + 1) := by show (atS (Ic 9) (Ic 5 b9)) (iter (atS (Ic 9) (Ic 5 b9)) 0 j) j = _; simp [atS, c134, c151]
              rw [e9] at hs
              exact hs
        · have hlt : k < n := nI_nge c53 (by omega) (by omega)
          first | refine g_aload_n C dX3_line_56 rfl rfl ?_ | refine g_aload_nN C dX3_line_56 rfl rfl ?_ | refine g_aload_nq C dX3_line_56 rfl rfl ?_
          refine g_get C dX3_line_57 hm rfl kw_X3 16 (by decide) kfX3_47 rfl rfl ?_
          refine g_iload C dX3_line_60 rfl ?_
          refine g_zaldN C dX3_line_62 r12 (by omega) (by decide) ?_
          refine g_if_eq C 88 dX3_line_63 (by decide) (fun c63 => ?_) (fun c63 => ?_)
          · have c63 := bI_z.mp c63
            refine g_iload C dX3_line_88 rfl ?_
            refine g_istore C dX3_line_90 (by decide) ?_
            refine g_iinc C (v := nI (k + 1)) dX3_line_92 rfl (nI_1 k) (by decide) ?_
            refine g_goto C 47 dX3_line_95 (by decide) ?_
            have hs := ihk (k + 1) hlt (by omega)
            (try dsimp only at hs)
            have e9 : iter (selS Ic (Bc 12)) none (k + 1) = (some b9) := by show (selS Ic (Bc 12)) (iter (selS Ic (Bc 12)) none k) k = _; rw [hac]; simp [selS, c53, c63]
            rw [e9] at hs
            exact hs
          · have c63 := bI_nz.mp c63
            refine g_iload C dX3_line_66 rfl ?_
            refine g_iconst C (v := (-1)) dX3_line_68 (by decide) ?_
            refine g_icmp_eq C 83 dX3_line_69 (by decide) (fun c69 => absurd c69 (hb1)) (fun _ => ?_)
            first | refine g_aload_n C dX3_line_72 rfl rfl ?_ | refine g_aload_nN C dX3_line_72 rfl rfl ?_ | refine g_aload_nq C dX3_line_72 rfl rfl ?_
            refine g_iload C dX3_line_73 rfl ?_
            refine g_iload C dX3_line_75 rfl ?_
            refine g_callVn C _ dX3_line_77 (c_X3_earlier l G _ _ _ _ _ _ _ _ _ hR k b9 (by omega) (by omega)) kmX3_83 ki_X3_earlier kv_X3_earlier kn_X3 kc_X3_earlier hy_X3_earlier ⟨by decide, by decide⟩ hm rfl rfl (Nat.le_of_ble_eq_true rfl) ⟨by decide, by decide⟩ (fun v w1 hp => ?_)
            obtain ⟨rfl, hw1⟩ := hp
            have hw1 := hw1.symm
            subst hw1
            refine g_if_eq C 88 dX3_line_80 (by decide) (fun c80 => ?_) (fun c80 => ?_)
            · have c80 := bI_z.mp c80
              refine g_iload C dX3_line_88 rfl ?_
              refine g_istore C dX3_line_90 (by decide) ?_
              refine g_iinc C (v := nI (k + 1)) dX3_line_92 rfl (nI_1 k) (by decide) ?_
              refine g_goto C 47 dX3_line_95 (by decide) ?_
              have hs := ihk (k + 1) hlt (by omega)
              (try dsimp only at hs)
              have e9 : iter (selS Ic (Bc 12)) none (k + 1) = (some b9) := by show (selS Ic (Bc 12)) (iter (selS Ic (Bc 12)) none k) k = _; rw [hac]; simp [selS, c53, c63, c80]
              rw [e9] at hs
              exact hs
            · have c80 := bI_nz.mp c80
              refine g_iload C dX3_line_83 rfl ?_
              refine g_goto C 90 dX3_line_85 (by decide) ?_
              refine g_istore C dX3_line_90 (by decide) ?_
              refine g_iinc C (v := nI (k + 1)) dX3_line_92 rfl (nI_1 k) (by decide) ?_
              refine g_goto C 47 dX3_line_95 (by decide) ?_
              have hs := ihk (k + 1) hlt (by omega)
              (try dsimp only at hs)
              have e9 : iter (selS Ic (Bc 12)) none (k + 1) = (some k) := by show (selS Ic (Bc 12)) (iter (selS Ic (Bc 12)) none k) k = _; rw [hac]; simp [selS, c53, c63, c80]
              rw [e9] at hs
              exact hs
  · have hlt : k < n := nI_nge c12 (by omega) (by omega)
    first | refine g_aload_n C dX3_line_15 rfl rfl ?_ | refine g_aload_nN C dX3_line_15 rfl rfl ?_ | refine g_aload_nq C dX3_line_15 rfl rfl ?_
    refine g_get C dX3_line_16 hm rfl kw_X3 16 (by decide) kfX3_47 rfl rfl ?_
    refine g_iload_n C dX3_line_19 rfl rfl ?_
    first | refine g_aload_n C dX3_line_20 rfl rfl ?_ | refine g_aload_nN C dX3_line_20 rfl rfl ?_ | refine g_aload_nq C dX3_line_20 rfl rfl ?_
    refine g_iload_n C dX3_line_21 rfl rfl ?_
    refine g_iload_n C dX3_line_22 rfl rfl ?_
    refine g_iload_n C dX3_line_23 rfl rfl ?_
    refine g_iconst C (v := 3) dX3_line_24 (by decide) ?_
    refine g_callVn C _ dX3_line_25 (c_X3_isOf l G _ _ _ _ _ _ _ _ _ hR d k th 3 hd (by omega)) kmX3_79 ki_X3_isOf kv_X3_isOf kn_X3 kc_X3_isOf hy_X3_isOf ⟨by decide, by decide⟩ hm rfl rfl (Nat.le_of_ble_eq_true rfl) ⟨by decide, by decide⟩ (fun v w1 hp => ?_)
    obtain ⟨rfl, hw1⟩ := hp
    have hw1 := hw1.symm
    subst hw1
    refine g_zastB C (isOfB I (va_up B 12 g) d k th 3) dX3_line_28 r12 (by omega) (by decide) (rfl) ?_
    refine g_iinc C (v := nI (k + 1)) dX3_line_29 rfl (nI_1 k) (by decide) ?_
    refine g_goto C 7 dX3_line_32 (by decide) ?_
    have hA : ∀ t, t < k + 1 → va_up g k (isOfB I (va_up B 12 g) d k th 3) t = lnP I B d th t := by
      intro t ht
      by_cases e : t = k
      · subst e; rw [va_up_self]; rfl
      · rw [va_up_ne _ _ e]; exact h12 t (by omega)
    exact ihf (k + 1, va_up g k (isOfB I (va_up B 12 g) d k th 3), h_up wc (M 12) (eZ G 120 (fun j => bI (va_up g k (isOfB I (va_up B 12 g) d k th 3) j)))) ⟨hlt, by have h9 := hR.up12 (va_up g k (isOfB I (va_up B 12 g) d k th 3)); rw [up_up] at h9; exact h9, hf.up (MD.a 12 (by decide)), hA⟩ (by dsimp only; omega)

set_option maxHeartbeats 4000000 in
set_option maxRecDepth 100000 in
theorem c_X3_standing (l : Launch) (G : hD) (w : hW) (mo : Nat) (M : Nat → Nat) (n : Nat) (I : Nat → Nat → Int32) (B : Nat → Nat → Bool) (thr ord mny : Int32) (hR : MR G mo M n I B thr ord mny w) (d : Nat) (hd : d < 6) (th : Int32) (ch : List Nat) (hs : srt I n ch) (hcl : ch.length = n) (k : Int32) : h_Met l yX3_standing (Cond.code yX3_standing cX3_standing 6 (some .int)) { frames := 3, cells := 0, slots := 0, locals := 90 } G [.ref mo, .int (nI d), .int th, .int k] w (fun v w' => v = some (.int (oI (stG (fun t => iter (enS I B d 4 (nI t)) false n) k 0 (lineL I (ch.filter (lnP I B d th)))))) ∧ ∃ I' B', (∀ a, a ≠ 9 → I' a = I a) ∧ (∀ a, a ≠ 12 → B' a = B a) ∧  MR G mo M n I' B' thr (nI (lineL I (ch.filter (lnP I B d th))).length) mny w' ∧ fr (MD mo M) w w') noX := by
  refine h_met RX3 rfl (by decide) (Nat.le_of_ble_eq_true rfl) (cat_c (by first | rfl | exact rf_cat _) (cat_c (by first | rfl | exact rf_cat _) (cat_c (by first | rfl | exact rf_cat _) (cat_c (by first | rfl | exact rf_cat _) cat_n)))) ?_
  intro p e s m below meth c A C hnt hr hnm
  obtain ⟨hm, r0, r1, r2, r3, r4, r5, r6, r7, r8, r9, r10, r11, r12, hinj, hn⟩ := id hR
  first | refine g_aload_n C dX3_standing_0 rfl rfl ?_ | refine g_aload_nN C dX3_standing_0 rfl rfl ?_ | refine g_aload_nq C dX3_standing_0 rfl rfl ?_
  refine g_iload_n C dX3_standing_1 rfl rfl ?_
  refine g_iload_n C dX3_standing_2 rfl rfl ?_
  refine g_callVn C _ dX3_standing_3 (c_X3_line l G _ _ _ _ _ _ _ _ _ hR d hd th ch hs hcl) kmX3_89 ki_X3_line kv_X3_line kn_X3 kc_X3_line hy_X3_line ⟨by decide, by decide⟩ hm rfl rfl (Nat.le_of_ble_eq_true rfl) ⟨by decide, by decide⟩ (fun v w1 hp => ?_)
  obtain ⟨rfl, I', B', hI', hB', hhd, hR, hf2⟩ := hp
  obtain ⟨hm, r0, r1, r2, r3, r4, r5, r6, r7, r8, r9, r10, r11, r12, hinj, hn⟩ := id hR
  have hL120 : (lineL I (ch.filter (lnP I B d th))).length ≤ 120 := by rw [lineL, lineL_len]; have := List.length_filter_le (lnP I B d th) ch; simp only [List.length_nil]; omega
  refine g_iconst C (v := 0) dX3_standing_6 (by decide) ?_
  refine g_istore C dX3_standing_7 (by decide) ?_
  refine g_iconst C (v := 0) dX3_standing_9 (by decide) ?_
  refine g_istore C dX3_standing_10 (by decide) ?_
  refine g_loop (σ := List Nat × List Nat × Int32) (fun s => lineL I (ch.filter (lnP I B d th)) = s.1 ++ s.2.1 ∧ stG (fun t => iter (enS I B d 4 (nI t)) false n) k s.2.2 s.2.1 = stG (fun t => iter (enS I B d 4 (nI t)) false n) k 0 (lineL I (ch.filter (lnP I B d th)))) (fun s => s.2.1.length) (fun _ => w1) (fun s => [(0, .ref mo), (1, .int (nI d)), (2, .int th), (3, .int k), (4, .int s.2.2), (5, .int (nI s.1.length))]) ?_ ([], lineL I (ch.filter (lnP I B d th)), 0) ⟨rfl, rfl⟩
  rintro ⟨pre, r, b⟩ ⟨hL, hst⟩ ih
  dsimp only at hL hst ih ⊢
  have hlen : (lineL I (ch.filter (lnP I B d th))).length = pre.length + r.length := by rw [hL, List.length_append]
  refine g_iload C dX3_standing_12 rfl ?_
  first | refine g_aload_n C dX3_standing_14 rfl rfl ?_ | refine g_aload_nN C dX3_standing_14 rfl rfl ?_ | refine g_aload_nq C dX3_standing_14 rfl rfl ?_
  refine g_get C dX3_standing_15 hm rfl kw_X3 12 (by decide) kfX3_86 rfl rfl ?_
  refine g_icmp_ge C 59 dX3_standing_18 (by decide) (fun c18 => ?_) (fun c18 => ?_)
  · have hr0 : r = [] := List.eq_nil_of_length_eq_zero (by have := (nI_leI (by omega) (by omega)).mp c18; omega)
    subst hr0
    refine g_iconst C (v := (-1)) dX3_standing_59 (by decide) ?_
    exact g_iret C hr dX3_standing_60 (by decide) (by decide) ⟨by rw [← hst]; simp [stG, oI, ], I', B', hI', hB', hR, hf2⟩
  · have hlt := nI_nge c18 (by omega) (by omega)
    obtain ⟨y9, r', rfl⟩ : ∃ y9 r', r = y9 :: r' := by
      cases r with
      | nil => simp at hlen; omega
      | cons y r => exact ⟨y, r, rfl⟩
    first | refine g_aload_n C dX3_standing_21 rfl rfl ?_ | refine g_aload_nN C dX3_standing_21 rfl rfl ?_ | refine g_aload_nq C dX3_standing_21 rfl rfl ?_
    refine g_iload_n C dX3_standing_22 rfl rfl ?_
    first | refine g_aload_n C dX3_standing_23 rfl rfl ?_ | refine g_aload_nN C dX3_standing_23 rfl rfl ?_ | refine g_aload_nq C dX3_standing_23 rfl rfl ?_
    refine g_get C dX3_standing_24 hm rfl kw_X3 11 (by decide) kfX3_38 rfl rfl ?_
    refine g_iload C dX3_standing_27 rfl ?_
    refine g_ialdN C dX3_standing_29 r9 (by omega) (by decide) ?_
    refine g_eq (hhd pre.length y9 (by rw [hL]; simp)) ?_
    refine g_callVn C _ dX3_standing_30 (c_X3_isRemoved l G _ _ _ _ _ _ _ _ _ hR d y9 hd) kmX3_93 ki_X3_isRemoved kv_X3_isRemoved kn_X3 kc_X3_isRemoved hy_X3_isRemoved ⟨by decide, by decide⟩ hm rfl rfl (Nat.le_of_ble_eq_true rfl) ⟨by decide, by decide⟩ (fun v w1 hp => ?_)
    obtain ⟨rfl, hw1⟩ := hp
    have hw1 := hw1.symm
    subst hw1
    refine g_if_ne C 53 dX3_standing_33 (by decide) (fun c33 => ?_) (fun c33 => ?_)
    · have c33 := bI_nz.mp c33
      have e33 : iter (enS I B d 4 (nI y9)) false n = true := (enS_ci (hB' 7 (by decide)) (hI' 2 (by decide)) (hI' 4 (by decide)) d 4 (nI y9) n).symm.trans c33
      refine g_iinc C (v := nI (pre.length + 1)) dX3_standing_53 rfl (nI_1 pre.length) (by decide) ?_
      refine g_goto C 12 dX3_standing_56 (by decide) ?_
      have h9 := ih (pre ++ [y9], r', b) ⟨by rw [hL]; simp, by dsimp only; rw [← hst]; simp [stG, e33]⟩ (by dsimp only; simp)
      dsimp only at h9
      rw [List.length_append] at h9
      exact h9
    · have c33 := bI_z.mp c33
      have e33 : iter (enS I B d 4 (nI y9)) false n = false := (enS_ci (hB' 7 (by decide)) (hI' 2 (by decide)) (hI' 4 (by decide)) d 4 (nI y9) n).symm.trans c33
      refine g_iload C dX3_standing_36 rfl ?_
      refine g_iload_n C dX3_standing_38 rfl rfl ?_
      refine g_icmp_ne C 50 dX3_standing_39 (by decide) (fun c39 => ?_) (fun c39 => ?_)
      · refine g_iinc C dX3_standing_50 rfl rfl (by decide) ?_
        refine g_iinc C (v := nI (pre.length + 1)) dX3_standing_53 rfl (nI_1 pre.length) (by decide) ?_
        refine g_goto C 12 dX3_standing_56 (by decide) ?_
        have h9 := ih (pre ++ [y9], r', (b + 1)) ⟨by rw [hL]; simp, by dsimp only; rw [← hst]; simp [stG, e33, c39]⟩ (by dsimp only; simp)
        dsimp only at h9
        rw [List.length_append] at h9
        exact h9
      · first | refine g_aload_n C dX3_standing_42 rfl rfl ?_ | refine g_aload_nN C dX3_standing_42 rfl rfl ?_ | refine g_aload_nq C dX3_standing_42 rfl rfl ?_
        refine g_get C dX3_standing_43 hm rfl kw_X3 11 (by decide) kfX3_38 rfl rfl ?_
        refine g_iload C dX3_standing_46 rfl ?_
        refine g_ialdN C dX3_standing_48 r9 (by omega) (by decide) ?_
        refine g_eq (hhd pre.length y9 (by rw [hL]; simp)) ?_
        exact g_iret C hr dX3_standing_49 (by decide) (by decide) ⟨by rw [← hst]; simp [stG, oI, e33, c39], I', B', hI', hB', hR, hf2⟩

