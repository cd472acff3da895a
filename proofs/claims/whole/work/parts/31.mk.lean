/-! ===== a fresh telling: both sides alike ===== -/
section MK
variable {n : Nat} {ti : Nat → TI} {ch : List Nat} {rl : Nat → List Nat} {gv : Nat → Nat} {I : Nat → Nat → Int32} {B : Nat → Nat → Bool}
theorem mkI_old {st d so th va be : Int32} {a i : Nat} (h : i ≠ n) : mkI I n st d so th va be a i = I a i := by
  unfold mkI va_up
  repeat' split
  all_goals first | (subst_vars; exact pk_un h) | rfl
theorem mkI_0 {st d so th va be : Int32} : mkI I n st d so th va be 0 n = st := pk_us
theorem mkI_1 {st d so th va be : Int32} : mkI I n st d so th va be 1 n = d := pk_us
theorem mkI_2 {st d so th va be : Int32} : mkI I n st d so th va be 2 n = so := pk_us
theorem mkI_3 {st d so th va be : Int32} : mkI I n st d so th va be 3 n = th := pk_us
theorem mkI_4 {st d so th va be : Int32} : mkI I n st d so th va be 4 n = va := pk_us
theorem mkI_5 {st d so th va be : Int32} : mkI I n st d so th va be 5 n = be := pk_us
theorem mkI_8 {st d so th va be : Int32} : mkI I n st d so th va be 8 = I 8 := rfl
theorem mkB_6 {d : Nat} : mkB B n d 6 = B 6 := rfl
theorem mkB_7 {d j : Nat} : mkB B n d 7 j = (decide (j = 120 * d + n) || B 7 j) := by
  show va_up (B 7) (120 * d + n) true j = _
  by_cases e : j = 120 * d + n
  · rw [e, va_up_self]; simp
  · rw [va_up_ne _ _ e]; simp [e]
/-- the greatest stamp that is known -/
def isGr (n : Nat) (K : Nat → Bool) (st : Nat → Nat) (g : Nat) : Prop := (∀ k, k < n → K k = true → st k ≤ g) ∧ (g = 0 ∨ ∃ k, k < n ∧ K k = true ∧ st k = g)
theorem isGr_eq {K : Nat → Bool} {st : Nat → Nat} {g g' : Nat} (h : isGr n K st g) (h' : isGr n K st g') : g = g' := by
  rcases h.2 with e | ⟨k, k1, k2, k3⟩
  · rcases h'.2 with e' | ⟨k, k1, k2, k3⟩
    · omega
    · have := h.1 k k1 k2; omega
  · have := h'.1 k k1 k2
    rcases h'.2 with e' | ⟨k', k1', k2', k3'⟩
    · omega
    · have := h.1 k' k1' k2'; omega
theorem gm_gr {K : Nat → Bool} {st : Nat → Nat} : ∀ k, isGr k K st (iter (fun g t => cond (K t && decide (g < st t)) (st t) g) 0 k)
  | 0 => ⟨fun k hk => absurd hk (Nat.not_lt_zero _), Or.inl rfl⟩
  | k + 1 => by
    obtain ⟨h1, h2⟩ := gm_gr (K := K) (st := st) k
    show isGr (k + 1) K st (cond (K k && decide (iter (fun g t => cond (K t && decide (g < st t)) (st t) g) 0 k < st k)) (st k) (iter (fun g t => cond (K t && decide (g < st t)) (st t) g) 0 k))
    generalize iter (fun g t => cond (K t && decide (g < st t)) (st t) g) 0 k = g at *
    cases hc : (K k && decide (g < st k)) with
    | true =>
      rw [Bool.and_eq_true, decide_eq_true_eq] at hc
      refine ⟨fun t ht hK => ?_, Or.inr ⟨k, Nat.lt_succ_self _, hc.1, rfl⟩⟩
      by_cases e : t = k
      · rw [e]; exact Nat.le_refl _
      · have := h1 t (by omega) hK; show st t ≤ st k; omega
    | false =>
      refine ⟨fun t ht hK => ?_, ?_⟩
      · show st t ≤ g
        by_cases e : t = k
        · subst e
          rw [hK, Bool.true_and, decide_eq_false_iff_not] at hc
          omega
        · exact h1 t (by omega) hK
      · rcases h2 with e | ⟨t, t1, t2, t3⟩
        · exact Or.inl e
        · exact Or.inr ⟨t, by omega, t2, t3⟩
theorem CM.early (h : CM n ti ch rl gv I B) {i j : Nat} (hi : i < n) (hj : j < n) : earlB I i j = true ↔ (ti i).st < (ti j).st ∨ ((ti i).st = (ti j).st ∧ (ti i).dk < (ti j).dk) := by
  have fi := h.2.2.1 i hi
  have fj := h.2.2.1 j hj
  have hn := h.2.2.2.2.2.2.2.2.2.2.2
  rw [earlB_iff, fi.1, fj.1, fi.2.1, fj.2.1, nI_toInt (by have := fi.2.2.2.2.2.1; omega), nI_toInt (by have := fj.2.2.2.2.2.1; omega), nI_toInt (by have := fi.2.2.2.2.2.2.1; omega), nI_toInt (by have := fj.2.2.2.2.2.2.1; omega)]
  omega
theorem CM.gsGr (h : CM n ti ch rl gv I B) {d : Nat} (hd : d < 6) : isGr n (fun k => B 7 (120 * d + k)) (fun k => (ti k).st) (gsN ti (nI d) ch 0) := by
  have h1 : ∀ (l : List Nat) (g : Nat), l.foldl (fun g i => cond (kb (ti i).kn (nI d)) (ti i).st g) g = g ∧ (∀ i ∈ l, kb (ti i).kn (nI d) = false) ∨ ∃ p b q, l = p ++ b :: q ∧ kb (ti b).kn (nI d) = true ∧ (∀ i ∈ q, kb (ti i).kn (nI d) = false) ∧ l.foldl (fun g i => cond (kb (ti i).kn (nI d)) (ti i).st g) g = (ti b).st := by
    intro l
    induction l with
    | nil => exact fun g => Or.inl ⟨rfl, fun _ h => by cases h⟩
    | cons i l ih =>
      intro g
      rcases ih (cond (kb (ti i).kn (nI d)) (ti i).st g) with ⟨a, b⟩ | ⟨p, b, q, a1, a2, a3, a4⟩
      · cases hk : kb (ti i).kn (nI d) with
        | false => exact Or.inl ⟨by rw [List.foldl_cons, a, hk]; rfl, fun j hj => (List.mem_cons.mp hj).elim (fun e => e ▸ hk) (b j)⟩
        | true => exact Or.inr ⟨[], i, l, rfl, hk, b, by rw [List.foldl_cons, a, hk]; rfl⟩
      · exact Or.inr ⟨i :: p, b, q, by rw [a1]; rfl, a2, a3, a4⟩
  have hB : ∀ k, k < n → kb (ti k).kn (nI d) = B 7 (120 * d + k) := fun k hk => (h.2.2.2.1 k hk).2.2.1 d hd
  rcases h1 ch 0 with ⟨a, b⟩ | ⟨p, b, q, a1, a2, a3, a4⟩
  · refine ⟨fun k hk hK => ?_, Or.inl a⟩
    have := b k ((h.1.1 k).mpr hk)
    exact absurd (this.symm.trans ((hB k hk).trans hK)) (by decide)
  · have hbn : b < n := (h.1.1 b).mp (by rw [a1]; simp)
    have e : gsN ti (nI d) ch 0 = (ti b).st := a4
    rw [e]
    refine ⟨fun k hk hK => ?_, Or.inr ⟨b, hbn, (hB b hbn).symm.trans a2, rfl⟩⟩
    have hkc : k ∈ p ++ b :: q := by rw [← a1]; exact (h.1.1 k).mpr hk
    have hpw := h.1.2
    rw [a1, List.pairwise_append] at hpw
    rcases List.mem_append.mp hkc with hk2 | hk2
    · have := (h.early hk hbn).mp (hpw.2.2 k hk2 b List.mem_cons_self)
      show (ti k).st ≤ (ti b).st
      omega
    · rcases List.mem_cons.mp hk2 with hk2 | hk2
      · rw [hk2]; exact Nat.le_refl _
      · have := a3 k hk2
        exact absurd (this.symm.trans ((hB k hk).trans hK)) (by decide)
theorem CM.gmEq (h : CM n ti ch rl gv I B) {d : Nat} (hd : d < 6) : iter (gmS I B d) 0 n = nI (gsN ti (nI d) ch 0) := by
  have hn := h.2.2.2.2.2.2.2.2.2.2.2
  have h1 : ∀ k, k ≤ n → iter (gmS I B d) 0 k = nI (iter (fun g t => cond (B 7 (120 * d + t) && decide (g < (ti t).st)) (ti t).st g) 0 k) ∧ iter (fun g t => cond (B 7 (120 * d + t) && decide (g < (ti t).st)) (ti t).st g) 0 k ≤ n := by
    intro k
    induction k with
    | zero => exact fun _ => ⟨rfl, Nat.zero_le _⟩
    | succ k ih =>
      intro hk
      obtain ⟨a, b⟩ := ih (by omega)
      have f := h.2.2.1 k (by omega)
      have hs := f.2.2.2.2.2.1
      show gmS I B d (iter (gmS I B d) 0 k) k = nI (cond (B 7 (120 * d + k) && decide (iter (fun g t => cond (B 7 (120 * d + t) && decide (g < (ti t).st)) (ti t).st g) 0 k < (ti k).st)) (ti k).st (iter (fun g t => cond (B 7 (120 * d + t) && decide (g < (ti t).st)) (ti t).st g) 0 k)) ∧ cond (B 7 (120 * d + k) && decide (iter (fun g t => cond (B 7 (120 * d + t) && decide (g < (ti t).st)) (ti t).st g) 0 k < (ti k).st)) (ti k).st (iter (fun g t => cond (B 7 (120 * d + t) && decide (g < (ti t).st)) (ti t).st g) 0 k) ≤ n
      rw [a]
      generalize iter (fun g t => cond (B 7 (120 * d + t) && decide (g < (ti t).st)) (ti t).st g) 0 k = g at *
      have e : decide (nI g < I 0 k) = decide (g < (ti k).st) := by rw [f.1]; exact decide_eq_decide.mpr (nI_ltI (by omega) (by omega))
      unfold gmS
      rw [e, f.1]
      cases (B 7 (120 * d + k) && decide (g < (ti k).st)) with
      | true => exact ⟨rfl, hs⟩
      | false => exact ⟨rfl, b⟩
  rw [(h1 n (Nat.le_refl _)).1, isGr_eq (gm_gr (K := fun t => B 7 (120 * d + t)) (st := fun t => (ti t).st) n) (h.gsGr hd)]
theorem CM.gsLe (h : CM n ti ch rl gv I B) {d : Nat} (hd : d < 6) : gsN ti (nI d) ch 0 ≤ n := by
  rcases (h.gsGr hd).2 with e | ⟨k, k1, k2, k3⟩
  · omega
  · have := (h.2.2.1 k k1).2.2.2.2.2.1
    have : (ti k).st = gsN ti (nI d) ch 0 := k3
    omega
theorem ltT_iff {t1 t2 : TI} (h1 : t1.st < 2 ^ 31) (h2 : t2.st < 2 ^ 31) (d1 : t1.dk < 2 ^ 31) (d2 : t2.dk < 2 ^ 31) : ltT t1 t2 = true ↔ t2.st < t1.st ∨ (t2.st = t1.st ∧ t2.dk < t1.dk) := by
  unfold ltT later2
  by_cases e : t1.st = t2.st
  · rw [decide_eq_true (by rw [e]), cond_true, Bool.not_eq_true', decide_eq_false_iff_not, nI_leI d1 d2]; omega
  · rw [decide_eq_false (mt (nI_eq h1 h2).mp e), cond_false, Bool.not_eq_true', decide_eq_false_iff_not, nI_leI h1 h2]; omega
/-- what the fresh telling does to the chain -/
theorem CM.chain (h : CM n ti ch rl gv I B) (hn : n < 120) {d so va : Nat} {th be : Int32} (hd : d < 6) (t9 : TI) (ht9 : t9 = frT d (gsN ti (nI d) ch 0 + 1) so th va) : ∃ c1 c2, ch = c1 ++ c2 ∧ insR (va_up ti n t9) n ch = c1 ++ n :: c2 ∧ (∀ i ∈ c1, (ti i).st < gsN ti (nI d) ch 0 + 1 ∨ ((ti i).st = gsN ti (nI d) ch 0 + 1 ∧ (ti i).dk < d)) ∧ (∀ i ∈ c2, gsN ti (nI d) ch 0 + 1 < (ti i).st ∨ (gsN ti (nI d) ch 0 + 1 = (ti i).st ∧ d < (ti i).dk)) := by
  obtain ⟨c1, c2, e1, e2, e3, e4⟩ := insR_split (va_up ti n t9) n ch
  have hlt : ∀ i ∈ ch, i < n := fun i hi => (h.1.1 i).mp hi
  have hst : (va_up ti n t9 n).st = gsN ti (nI d) ch 0 + 1 ∧ (va_up ti n t9 n).dk = d := by rw [va_up_self, ht9]; exact ⟨rfl, rfl⟩
  have hgs := h.gsLe hd
  have hiff : ∀ i, i < n → (ltT (va_up ti n t9 n) (va_up ti n t9 i) = true ↔ (ti i).st < gsN ti (nI d) ch 0 + 1 ∨ ((ti i).st = gsN ti (nI d) ch 0 + 1 ∧ (ti i).dk < d)) := by
    intro i hi
    have f := h.2.2.1 i hi
    have f5 := f.2.2.2.2.2.1
    have f6 := f.2.2.2.2.2.2.1
    rw [va_up_ne _ _ (by omega : i ≠ n), ltT_iff (by rw [hst.1]; omega) (by omega) (by rw [hst.2]; omega) (by omega), hst.1, hst.2]
  have hne : ∀ i, i < n → ¬ ((ti i).st = gsN ti (nI d) ch 0 + 1 ∧ (ti i).dk = d) := by
    rintro i hi ⟨a, b⟩
    obtain ⟨k, k1, k2, k3⟩ := h.2.2.2.2.2.2.2.2.1 i hi
    rw [b] at k2
    have := (h.gsGr hd).1 k k1 k2
    have : (ti k).st ≤ gsN ti (nI d) ch 0 := this
    omega
  refine ⟨c1, c2, e1, e2, fun i hi => (hiff i (hlt i (by rw [e1]; exact List.mem_append_left _ hi))).mp (e3 i hi), ?_⟩
  cases c2 with
  | nil => exact fun i hi => by cases hi
  | cons z c2 =>
    have hz : z < n := hlt z (by rw [e1]; simp)
    have hzl := e4 z rfl
    have hz2 : gsN ti (nI d) ch 0 + 1 < (ti z).st ∨ (gsN ti (nI d) ch 0 + 1 = (ti z).st ∧ d < (ti z).dk) := by
      have a := mt (hiff z hz).mpr (by rw [hzl]; decide)
      have b := hne z hz
      omega
    intro i hi
    rcases List.mem_cons.mp hi with e | hi
    · rw [e]; exact hz2
    · have hpw := h.1.2
      rw [e1, List.pairwise_append] at hpw
      have hin : i < n := hlt i (by rw [e1]; simp [hi])
      have := (h.early hz hin).mp ((List.pairwise_cons.mp hpw.2.1).1 i hi)
      omega
/-- the fresh telling, seen from both sides -/
theorem CM.make (h : CM n ti ch rl gv I B) (hn : n < 120) {d so va : Nat} {th be : Int32} (hd : d < 6) (hso : so ≤ 6) (hva : va < 1000)
    (t9 : TI) (ht9 : t9 = frT d (gsN ti (nI d) ch 0 + 1) so th va)
    (hV : (so = 4 → va < n ∧ (ti va).so = 3) ∧ (so = 6 → va < n ∧ (ti va).so = 5) ∧ (so = 5 → va < 256 ∧ va / 16 ≠ va % 16) ∧ (so = 3 → ∃ t, t < 16 ∧ th = nI t) ∧ (so = 2 → va < 32))
    (hpar : so = 3 → be = -1 ∨ ∃ p, p < n ∧ be = nI p ∧ (ti p).so = 3 ∧ (ti p).th = th ∧ B 7 (120 * d + p) = true)
    (rl' : Nat → List Nat) (hrl : ∀ t, t < 16 → rl' t = lineL (mkI I n (iter (gmS I B d) 0 n + 1) (nI d) (nI so) th (nI va) be) ((insR (va_up ti n t9) n ch).filter (rwQ (va_up ti n t9) t)))
    (ti' : Nat → TI) (hti : ∀ i, (ti' i).dk = (va_up ti n t9 i).dk ∧ (ti' i).st = (va_up ti n t9 i).st ∧ (ti' i).so = (va_up ti n t9 i).so ∧ (ti' i).th = (va_up ti n t9 i).th ∧ (ti' i).va = (va_up ti n t9 i).va ∧ (ti' i).kn = (va_up ti n t9 i).kn)
    (hen : ∀ i, i < n + 1 → b6 (ti' i).en ∧ ∀ y, y < 6 → (kb (ti' i).en (nI y) = true ↔ (i < n ∧ kb (ti i).en (nI y) = true) ∨ (y = d ∧ (so = 4 ∨ so = 6) ∧ va = i)))
    (hlk : lnkB (n + 1) ti') :
    CM (n + 1) ti' (insR (va_up ti n t9) n ch) rl' gv (mkI I n (iter (gmS I B d) 0 n + 1) (nI d) (nI so) th (nI va) be) (mkB B n d) := by
  obtain ⟨h1, h2, h3, h4, h5, h6, h7, h8, h9, h10, h11, h12⟩ := id h
  obtain ⟨c1, c2, e1, e2, e3, e4⟩ := h.chain hn (so := so) (va := va) (th := th) (be := be) hd t9 ht9
  have hgs := h.gsLe hd
  have hgr := (h.gsGr hd).1
  have hgm : iter (gmS I B d) 0 n + 1 = nI (gsN ti (nI d) ch 0 + 1) := by rw [h.gmEq hd, nI_1]
  generalize hG : gsN ti (nI d) ch 0 = g at *
  have hlt : ∀ i ∈ ch, i < n := fun i hi => (h1.1 i).mp hi
  have told : ∀ i, i < n → va_up ti n t9 i = ti i := fun i hi => va_up_ne _ _ (by omega)
  have tnew : va_up ti n t9 n = frT d (g + 1) so th va := by rw [va_up_self, ht9]
  have hb7 : ∀ y i, y < 6 → i < n → mkB B n d 7 (120 * y + i) = B 7 (120 * y + i) := fun y i hy hi => by rw [mkB_7, decide_eq_false (by omega), Bool.false_or]
  have hb7n : ∀ y, y < 6 → mkB B n d 7 (120 * y + n) = decide (y = d) := fun y hy => by
    rw [mkB_7, (h5 n (Nat.le_refl _) hn).2 y hy, Bool.or_false]
    exact decide_eq_decide.mpr (by omega)
  have hF : cmF (n + 1) ti' (mkI I n (iter (gmS I B d) 0 n + 1) (nI d) (nI so) th (nI va) be) := by
    intro i hi
    obtain ⟨a1, a2, a3, a4, a5, a6⟩ := hti i
    rw [a1, a2, a3, a4, a5]
    by_cases e : i = n
    · subst e
      rw [tnew, mkI_0, mkI_1, mkI_2, mkI_3, mkI_4, hgm]
      exact ⟨rfl, rfl, rfl, rfl, rfl, by show g + 1 ≤ i + 1; omega, hd, hso, hva⟩
    · rw [told i (by omega), mkI_old e, mkI_old e, mkI_old e, mkI_old e, mkI_old e]
      have f := h3 i (by omega)
      exact ⟨f.1, f.2.1, f.2.2.1, f.2.2.2.1, f.2.2.2.2.1, by have := f.2.2.2.2.2.1; omega, f.2.2.2.2.2.2⟩
  have her : ∀ i j, i < n + 1 → j < n + 1 → (earlB (mkI I n (iter (gmS I B d) 0 n + 1) (nI d) (nI so) th (nI va) be) i j = true ↔ (ti' i).st < (ti' j).st ∨ ((ti' i).st = (ti' j).st ∧ (ti' i).dk < (ti' j).dk)) := by
    intro i j hi hj
    have fi := hF i hi
    have fj := hF j hj
    rw [earlB_iff, fi.1, fj.1, fi.2.1, fj.2.1, nI_toInt (by have := fi.2.2.2.2.2.1; omega), nI_toInt (by have := fj.2.2.2.2.2.1; omega), nI_toInt (by have := fi.2.2.2.2.2.2.1; omega), nI_toInt (by have := fj.2.2.2.2.2.2.1; omega)]
    omega
  have htd : ∀ i, i < n → (ti' i).st = (ti i).st ∧ (ti' i).dk = (ti i).dk := fun i hi => ⟨by rw [(hti i).2.1, told i hi], by rw [(hti i).1, told i hi]⟩
  have htn : (ti' n).st = g + 1 ∧ (ti' n).dk = d := ⟨by rw [(hti n).2.1, tnew]; rfl, by rw [(hti n).1, tnew]; rfl⟩
  have heo : ∀ i j, i < n → j < n → (earlB (mkI I n (iter (gmS I B d) 0 n + 1) (nI d) (nI so) th (nI va) be) i j = true ↔ earlB I i j = true) := by
    intro i j hi hj
    rw [her i j (by omega) (by omega), h.early hi hj, (htd i hi).1, (htd i hi).2, (htd j hj).1, (htd j hj).2]
  have hS : srt (mkI I n (iter (gmS I B d) 0 n + 1) (nI d) (nI so) th (nI va) be) (n + 1) (insR (va_up ti n t9) n ch) := by
    refine ⟨fun i => ?_, ?_⟩
    · rw [insR_mem, h1.1 i]; omega
    · have hpw := h1.2
      rw [e1, List.pairwise_append] at hpw
      have hc1 : ∀ i ∈ c1, i < n := fun i hi => hlt i (by rw [e1]; exact List.mem_append_left _ hi)
      have hc2 : ∀ i ∈ c2, i < n := fun i hi => hlt i (by rw [e1]; exact List.mem_append_right _ hi)
      rw [e2, List.pairwise_append]
      refine ⟨hpw.1.imp_of_mem (fun {a b} ha hb hab => (heo a b (hc1 a ha) (hc1 b hb)).mpr hab), List.pairwise_cons.mpr ⟨fun i hi => ?_, hpw.2.1.imp_of_mem (fun {a b} ha hb hab => (heo a b (hc2 a ha) (hc2 b hb)).mpr hab)⟩, fun i hi j hj => ?_⟩
      · rw [her n i (by omega) (by have := hc2 i hi; omega), htn.1, htn.2, (htd i (hc2 i hi)).1, (htd i (hc2 i hi)).2]
        exact e4 i hi
      · rcases List.mem_cons.mp hj with e | hj
        · rw [e, her i n (by have := hc1 i hi; omega) (by omega), htn.1, htn.2, (htd i (hc1 i hi)).1, (htd i (hc1 i hi)).2]
          exact e3 i hi
        · exact (heo i j (hc1 i hi) (hc2 j hj)).mpr (hpw.2.2 i hi j hj)
  refine ⟨hS, ?_, hF, ?_, ?_, ?_, ?_, ⟨?_, ?_⟩, ?_, ?_, hlk, hn⟩
  · rw [e2, ← h2, e1]; simp only [List.length_append, List.length_cons]; omega
  · intro i hi
    rw [(hti i).2.2.2.2.2, mkB_6]
    by_cases e : i = n
    · subst e
      have hk : (va_up ti i t9 i).kn = (1 : Int32) <<< (nI d &&& 31) := by rw [tnew]; rfl
      rw [hk]
      refine ⟨b6_new d hd, (hen i hi).1, fun y hy => by rw [kb_one d (by omega) y (by omega), hb7n y hy], ?_⟩
      rw [(h5 i (Nat.le_refl _) hn).1]
      refine (decide_eq_false (fun e => ?_)).symm
      have := (b6_0 (b6_new d hd)).mp e d hd
      rw [kb_one d (by omega) d (by omega)] at this
      simp at this
    · have hin : i < n := by omega
      rw [told i hin]
      have k := h4 i hin
      exact ⟨k.1, (hen i hi).1, fun y hy => by rw [hb7 y i hy hin]; exact k.2.2.1 y hy, k.2.2.2⟩
  · intro i h13 h14
    rw [mkB_6]
    refine ⟨(h5 i (by omega) h14).1, fun y hy => ?_⟩
    rw [mkB_7, decide_eq_false (by omega), Bool.false_or]
    exact (h5 i (by omega) h14).2 y hy
  · intro i y hi hy
    rw [(hen i hi).2 y hy]
    constructor
    · rintro (⟨a, b⟩ | ⟨a, b, c⟩)
      · obtain ⟨k, k1, k2, k3, k4⟩ := (h6 i y a hy).mp b
        exact ⟨k, by omega, by rw [hb7 y k hy k1]; exact k2, by rw [(hti k).2.2.1, told k k1]; exact k3, by rw [(hti k).2.2.2.2.1, told k k1]; exact k4⟩
      · exact ⟨n, by omega, by rw [hb7n y hy, a]; simp, by rw [(hti n).2.2.1, tnew]; exact b, by rw [(hti n).2.2.2.2.1, tnew]; exact c⟩
    · rintro ⟨k, k1, k2, k3, k4⟩
      rw [(hti k).2.2.1] at k3
      rw [(hti k).2.2.2.2.1] at k4
      by_cases e : k = n
      · subst e
        rw [tnew] at k3 k4
        rw [hb7n y hy] at k2
        exact Or.inr ⟨of_decide_eq_true k2, k3, k4⟩
      · have hkn : k < n := by omega
        rw [told k hkn] at k3 k4
        rw [hb7 y k hy hkn] at k2
        have hin : i < n := by
          rw [← k4]
          rcases k3 with e3 | e3
          · exact ((h7 k hkn).1 e3).1
          · exact ((h7 k hkn).2.1 e3).1
        exact Or.inl ⟨hin, (h6 i y hin hy).mpr ⟨k, hkn, k2, k3, k4⟩⟩
  · intro k hk
    rw [(hti k).2.2.1, (hti k).2.2.2.1, (hti k).2.2.2.2.1]
    by_cases e : k = n
    · subst e
      rw [tnew]
      refine ⟨fun e4 => ?_, fun e6 => ?_, hV.2.2.1, hV.2.2.2.1, hV.2.2.2.2⟩
      · have := hV.1 e4
        exact ⟨by show va < k + 1; omega, by show (ti' va).so = 3; rw [(hti va).2.2.1, told va this.1]; exact this.2⟩
      · have := hV.2.1 e6
        exact ⟨by show va < k + 1; omega, by show (ti' va).so = 5; rw [(hti va).2.2.1, told va this.1]; exact this.2⟩
    · have hkn : k < n := by omega
      rw [told k hkn]
      have v := h7 k hkn
      refine ⟨fun e4 => ?_, fun e6 => ?_, v.2.2⟩
      · have := v.1 e4
        exact ⟨by omega, by rw [(hti _).2.2.1, told _ this.1]; exact this.2⟩
      · have := v.2.1 e6
        exact ⟨by omega, by rw [(hti _).2.2.1, told _ this.1]; exact this.2⟩
  · intro t ht
    rw [hrl t ht]
    congr 1
    refine List.filter_congr (fun i hi => ?_)
    unfold rwQ
    rw [(hti i).2.2.1, (hti i).2.2.2.1]
  · intro i hi hs
    by_cases e : i = n
    · subst e
      rw [(hti i).2.2.1, tnew] at hs
      rw [mkI_5]
      rcases hpar hs with e5 | ⟨p, p1, p2, p3, p4, p5⟩
      · exact Or.inl e5
      · refine Or.inr ⟨p, by omega, p2, by rw [(hti p).2.2.1, told p p1]; exact p3, by rw [(hti p).2.2.2.1, told p p1, (hti i).2.2.2.1, tnew]; exact p4, ?_, fun y hy hb => ?_⟩
        · rw [her p i (by omega) hi, htn.1, (htd p p1).1]
          have := hgr p p1 p5
          have : (ti p).st ≤ g := this
          exact Or.inl (by omega)
        · rw [hb7n y hy] at hb
          rw [hb7 y p hy p1, of_decide_eq_true hb]; exact p5
    · have hin : i < n := by omega
      rw [(hti i).2.2.1, told i hin] at hs
      rw [mkI_old e]
      rcases h8.2 i hin hs with e5 | ⟨p, p1, p2, p3, p4, p5, p6⟩
      · exact Or.inl e5
      · refine Or.inr ⟨p, by omega, p2, by rw [(hti p).2.2.1, told p p1]; exact p3, by rw [(hti p).2.2.2.1, told p p1, (hti i).2.2.2.1, told i hin]; exact p4, (heo p i p1 hin).mpr p5, fun y hy hb => ?_⟩
        rw [hb7 y i hy hin] at hb
        rw [hb7 y p hy p1]; exact p6 y hy hb
  · intro i hi
    by_cases e : i = n
    · subst e
      exact ⟨i, by omega, by rw [htn.2, hb7n d hd]; simp, Nat.le_refl _⟩
    · have hin : i < n := by omega
      obtain ⟨k, k1, k2, k3⟩ := h9 i hin
      refine ⟨k, by omega, ?_, by rw [(htd i hin).1, (htd k k1).1]; exact k3⟩
      rw [(htd i hin).2, hb7 _ k (h3 i hin).2.2.2.2.2.2.1 k1]; exact k2
  · intro y hy
    rw [mkI_8]; exact h10 y hy
/-- rows when the fresh telling is no place of them -/
theorem CM.rowOld (h : CM n ti ch rl gv I B) (hn : n < 120) {d so va : Nat} {th be : Int32} (hd : d < 6) (t9 : TI) (ht9 : t9 = frT d (gsN ti (nI d) ch 0 + 1) so th va) {t : Nat} (ht : t < 16) (hno : ¬ (so = 3 ∧ th = nI t)) (st x1 x2 x3 x4 : Int32) : rl t = lineL (mkI I n st x1 x2 x3 x4 be) ((insR (va_up ti n t9) n ch).filter (rwQ (va_up ti n t9) t)) := by
  obtain ⟨c1, c2, e1, e2, e3, e4⟩ := h.chain hn (so := so) (va := va) (th := th) (be := be) hd t9 ht9
  have hlt : ∀ i ∈ ch, i < n := fun i hi => (h.1.1 i).mp hi
  have hq : ∀ i, i < n → rwQ (va_up ti n t9) t i = rwQ ti t i := fun i hi => by unfold rwQ; rw [va_up_ne _ _ (by omega : i ≠ n)]
  have hqn : rwQ (va_up ti n t9) t n = false := by
    cases hc : rwQ (va_up ti n t9) t n with
    | false => rfl
    | true =>
      unfold rwQ at hc
      rw [va_up_self, ht9, Bool.and_eq_true, decide_eq_true_eq, decide_eq_true_eq] at hc
      exact absurd hc hno
  rw [h.2.2.2.2.2.2.2.1.1 t ht, e2, e1, List.filter_append, List.filter_append, List.filter_cons_of_neg (by rw [hqn]; decide)]
  rw [List.filter_congr (l := c1) (fun i hi => hq i (hlt i (by rw [e1]; exact List.mem_append_left _ hi))), List.filter_congr (l := c2) (fun i hi => hq i (hlt i (by rw [e1]; exact List.mem_append_right _ hi)))]
  rw [← List.filter_append, ← e1]
  refine (lineL_c _ [] (fun i hi => mkI_old ?_)).symm
  have := hlt i (List.mem_filter.mp hi).1
  omega
/-- the row of the fresh place -/
theorem CM.rowNew (h : CM n ti ch rl gv I B) (hn : n < 120) {d va : Nat} {be : Int32} (hd : d < 6) {t : Nat} (ht : t < 16) (t9 : TI) (ht9 : t9 = frT d (gsN ti (nI d) ch 0 + 1) 3 (nI t) va) {ti3 : Nat → TI} (ht3 : ∀ i, ltT (ti3 i) (ti3 n) = ltT (va_up ti n t9 i) (va_up ti n t9 n)) (hbe : be = -1 ∨ ∃ p, p < n ∧ be = nI p ∧ (ti p).so = 3 ∧ (ti p).th = nI t ∧ B 7 (120 * d + p) = true) {pre0 r0 : List Nat} (hrow : rl t = pre0 ++ r0) (hsh : shp be pre0) (st x1 x2 x3 x4 : Int32) : pre0 ++ skR ti3 n r0 = lineL (mkI I n st x1 x2 x3 x4 be) ((insR (va_up ti n t9) n ch).filter (rwQ (va_up ti n t9) t)) := by
  obtain ⟨c1, c2, e1, e2, e3, e4⟩ := h.chain hn (so := 3) (va := va) (th := nI t) (be := be) hd t9 ht9
  have hlt : ∀ i ∈ ch, i < n := fun i hi => (h.1.1 i).mp hi
  have hgs := h.gsLe hd
  have hq : ∀ i, i < n → rwQ (va_up ti n t9) t i = rwQ ti t i := fun i hi => by unfold rwQ; rw [va_up_ne _ _ (by omega : i ≠ n)]
  have hqn : rwQ (va_up ti n t9) t n = true := by unfold rwQ; rw [va_up_self, ht9]; simp [frT]
  have hc1 : ∀ i ∈ c1, i < n := fun i hi => hlt i (by rw [e1]; exact List.mem_append_left _ hi)
  have hc2 : ∀ i ∈ c2, i < n := fun i hi => hlt i (by rw [e1]; exact List.mem_append_right _ hi)
  have hl9 : ∀ i, i < n → (ltT (ti3 i) (ti3 n) = true ↔ gsN ti (nI d) ch 0 + 1 < (ti i).st ∨ (gsN ti (nI d) ch 0 + 1 = (ti i).st ∧ d < (ti i).dk)) := by
    intro i hi
    have f := h.2.2.1 i hi
    have f5 := f.2.2.2.2.2.1
    have f6 := f.2.2.2.2.2.2.1
    have hst : (va_up ti n t9 n).st = gsN ti (nI d) ch 0 + 1 ∧ (va_up ti n t9 n).dk = d := by rw [va_up_self, ht9]; exact ⟨rfl, rfl⟩
    rw [ht3 i, va_up_ne _ _ (by omega : i ≠ n), ltT_iff (by omega) (by rw [hst.1]; omega) (by omega) (by rw [hst.2]; omega), hst.1, hst.2]
  rw [e2, List.filter_append, List.filter_cons_of_pos hqn, List.filter_congr (l := c1) (fun i hi => hq i (hc1 i hi)), List.filter_congr (l := c2) (fun i hi => hq i (hc2 i hi)), skR_eq]
  have hrl : lineL I (c1.filter (rwQ ti t) ++ c2.filter (rwQ ti t)) = pre0 ++ r0 := by rw [← List.filter_append, ← e1, ← h.2.2.2.2.2.2.2.1.1 t ht]; exact hrow
  have hmem : ∀ i ∈ c1.filter (rwQ ti t) ++ c2.filter (rwQ ti t), i < n := fun i hi => (List.mem_append.mp hi).elim (fun h => hc1 i (List.mem_filter.mp h).1) (fun h => hc2 i (List.mem_filter.mp h).1)
  refine (row_ins (I := I) (x := n) (be := be) mkI_5 (fun i hi => mkI_old (by have := hmem i hi; omega)) (fun i hi => ?_) (fun i hi => ?_) (fun i hi => ?_) ?_ (fun i hi => by have := hmem i hi; omega) ?_ hrl hsh).symm
  · have hi1 := (List.mem_filter.mp hi).1
    cases hc : ltT (ti3 i) (ti3 n) with
    | false => rfl
    | true =>
      have a := (hl9 i (hc1 i hi1)).mp hc
      have b := e3 i hi1
      omega
  · have hi1 := (List.mem_filter.mp hi).1
    exact (hl9 i (hc2 i hi1)).mpr (e4 i hi1)
  · have hi1 := List.mem_filter.mp hi
    have hin := hc2 i hi1.1
    have hso : (ti i).so = 3 := by have := hi1.2; simp only [rwQ, Bool.and_eq_true, decide_eq_true_eq] at this; exact this.1
    intro e
    rcases h.2.2.2.2.2.2.2.1.2 i hin hso with e5 | ⟨p, p1, p2, _⟩
    · exact oI_some (by omega) (e.trans e5)
    · have := (nI_eq (by omega) (by omega)).mp (e.trans p2); omega
  · rcases hbe with e5 | ⟨p, p1, p2, p3, p4, p5⟩
    · exact Or.inl e5
    · refine Or.inr ⟨p, List.mem_filter.mpr ⟨?_, by unfold rwQ; rw [p3, p4]; simp⟩, p2⟩
      have hp : p ∈ c1 ++ c2 := by rw [← e1]; exact (h.1.1 p).mpr p1
      rcases List.mem_append.mp hp with hp | hp
      · exact hp
      · have a := e4 p hp
        have b : (ti p).st ≤ gsN ti (nI d) ch 0 := (h.gsGr hd).1 p p1 p5
        omega
  · rw [← List.filter_append, ← e1]; exact h.1.nd.sublist List.filter_sublist
end MK
