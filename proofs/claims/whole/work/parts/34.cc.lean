/-! ===== each call of the law ===== -/
theorem bI_01 (b : Bool) : bI b = 0 ∨ bI b = 1 := by cases b <;> simp [bI]
theorem exc3_E {P1 P2 P3 : Prop} {E : String} (h : exc3 P1 P2 P3 E) : E = nNS ∨ E = nIA ∨ E = nIS := h.elim (fun h => Or.inl h.1) (fun h => h.elim (fun h => Or.inr (Or.inl h.1)) (fun h => Or.inr (Or.inr h.1)))
theorem exc2_E {P1 P2 : Prop} {E : String} (h : exc2 P1 P2 E) : E = nNS ∨ E = nIA := h.elim (fun h => Or.inl h.1) (fun h => Or.inr h.1)
theorem excN_E {P1 P2 : Prop} {E : String} (h : excN P1 P2 E) : E = nNS ∨ E = nIS := h.elim (fun h => Or.inl h.1) (fun h => Or.inr h.1)
theorem and3_t {p q r : Bool} (h1 : p = true) (h2 : q = true) (h3 : r = true) : (p && (q && r)) = true := by rw [h1, h2, h3]; rfl
theorem CM.mk0 {n : Nat} {ti : Nat → TI} {ch : List Nat} {rl : Nat → List Nat} {gv : Nat → Nat} {I : Nat → Nat → Int32} {B : Nat → Nat → Bool} (h : CM n ti ch rl gv I B) (hn : n < 120) {d so va : Nat} {th be : Int32} (hd : d < 6) (hso : so ≤ 6) (hva : va < 1000)
    (t9 : TI) (ht9 : t9 = frT d (gsN ti (nI d) ch 0 + 1) so th va) (hno : so ≠ 4 ∧ so ≠ 6)
    (hV : (so = 5 → va < 256 ∧ va / 16 ≠ va % 16) ∧ (so = 3 → ∃ t, t < 16 ∧ th = nI t) ∧ (so = 2 → va < 32))
    (hpar : so = 3 → be = -1 ∨ ∃ p, p < n ∧ be = nI p ∧ (ti p).so = 3 ∧ (ti p).th = th ∧ B 7 (120 * d + p) = true)
    (rl' : Nat → List Nat) (hrl : ∀ t, t < 16 → rl' t = lineL (mkI I n (iter (gmS I B d) 0 n + 1) (nI d) (nI so) th (nI va) be) ((insR (va_up ti n t9) n ch).filter (rwQ (va_up ti n t9) t)))
    (ti' : Nat → TI) (hti : ∀ i, (ti' i).dk = (va_up ti n t9 i).dk ∧ (ti' i).st = (va_up ti n t9 i).st ∧ (ti' i).so = (va_up ti n t9 i).so ∧ (ti' i).th = (va_up ti n t9 i).th ∧ (ti' i).va = (va_up ti n t9 i).va ∧ (ti' i).kn = (va_up ti n t9 i).kn)
    (hen0 : ∀ i, (ti' i).en = (va_up ti n t9 i).en) (hlk : lnkB (n + 1) ti') :
    CM (n + 1) ti' (insR (va_up ti n t9) n ch) rl' gv (mkI I n (iter (gmS I B d) 0 n + 1) (nI d) (nI so) th (nI va) be) (mkB B n d) := by
  refine h.make hn hd hso hva t9 ht9 ⟨fun e => absurd e hno.1, fun e => absurd e hno.2, hV⟩ hpar rl' hrl ti' hti (fun i hi => ?_) hlk
  rw [hen0 i]
  by_cases e : i = n
  · subst e
    rw [va_up_self, ht9]
    refine ⟨⟨0, by decide, rfl⟩, fun y hy => ⟨fun hh => ?_, fun hh => ?_⟩⟩
    · have : kb 0 (nI y) = true := hh
      rw [kb_zero y (by omega)] at this; cases this
    · rcases hh with ⟨a, _⟩ | ⟨_, a, _⟩
      · exact absurd a (Nat.lt_irrefl _)
      · exact absurd a (fun a => a.elim hno.1 hno.2)
  · rw [va_up_ne _ _ e]
    refine ⟨(h.2.2.2.1 i (by omega)).2.1, fun y hy => ⟨fun hh => Or.inl ⟨by omega, hh⟩, fun hh => ?_⟩⟩
    rcases hh with ⟨_, a⟩ | ⟨_, a, _⟩
    · exact a
    · exact absurd a (fun a => a.elim hno.1 hno.2)
theorem ins_all {n : Nat} {ti t2 : Nat → TI} {ch : List Nat} {rl : Nat → List Nat} {gv : Nat → Nat} {I : Nat → Nat → Int32} {B : Nat → Nat → Bool} (h : CM n ti ch rl gv I B) : ∀ i, i < n + 1 → i ∈ insR t2 n ch := fun i hi => by
  rw [insR_mem]
  by_cases e : i = n
  · exact Or.inl e
  · exact Or.inr ((h.1.1 i).mpr (by omega))
theorem ne_new {n : Nat} {ti : Nat → TI} (h : lnkB n ti) {t : TI} (ht : t.ne = none) : ∀ i, i < n + 1 → ∀ k, (va_up ti n t i).ne = some k → k < n + 1 := by
  intro i hi k hk
  by_cases e : i = n
  · subst e; rw [va_up_self, ht] at hk; cases hk
  · rw [va_up_ne _ _ e] at hk; have := (h i (by omega)).2 k hk; omega
theorem nI_le2 {k c : Nat} (hk : k < 2 ^ 31) (hc : c < 2 ^ 31) (h : ¬ nI c < nI k) : k ≤ c := by
  rw [nI_ltI hc hk] at h; omega
theorem nI_lt2 {k c : Nat} (hk : k < 2 ^ 31) (hc : c < 2 ^ 31) (h : nI k < nI c) : k < c := (nI_ltI hk hc).mp h

set_option maxHeartbeats 4000000 in
set_option maxRecDepth 100000 in
theorem cc_tell (l : Launch) (G : hD) {x mo ou : Nat} {w : hW} (hI : LWI G x mo ou w) (d th fl v : Int32) : callOk l G x mo ou yL_tell (Cond.codeWith yL_tell cL_tell 7 (some .int) [(0, 14, 17, 13), (0, 14, 21, 15), (0, 14, 25, 17)]) { frames := 8, cells := 5, slots := 35, locals := 132 } [.ref x, .int d, .int th, .int fl, .int v, .ref ou] yX3_tell (Cond.code yX3_tell cX3_tell 5 (some .int)) { frames := 2, cells := 0, slots := 0, locals := 60 } [.ref mo, .int d, .int th, .int fl, .int v] (fun _ => True) w := by
  obtain ⟨tl, rw, ng, cx, un, ad, n, ti, ch, rl, gv, f, M, I, B, thr, ord, mny, ov, hT, hR, hC, hA, ho⟩ := hI
  have hn : n ≤ 120 := hC.2.2.2.2.2.2.2.2.2.2.2
  have hlb : lnkB n ti := hC.2.2.2.2.2.2.2.2.2.2.1
  have hnd : ch.Nodup := hC.1.nd
  have hall : ∀ i, i < n → i ∈ ch := fun i hi => (hC.1.1 i).mpr hi
  have hou9 : ¬ CD x tl rw ng cx un ad n ou := fun hq => (hA.1 ou hq).2 rfl
  have hso9 : ∀ i, i < n → (ti i).so ≤ 6 := fun i hi => (hC.2.2.1 i hi).2.2.2.2.2.2.2.1
  refine call_mk trivial (fun _ _ _ => trivial) cd3_ne hT hR hC hA ho (c_L_tell l G w x ou ov d th fl v hT.1 (c_X2_tell l G w x tl rw ng cx un ad n ti ch rl gv f hT hlb hnd d th fl v) (fun E h => exc3_E h) (fun v w1 h => by obtain ⟨_, _, _, _, _, e, _, _, _, _, _, _, _, _, _, _, _, _, _, _, _, _, hf⟩ := h; exact ⟨_, e, fr_use hf hou9 ho⟩)) (fun w1 h1 => c_X3_tell l G w1 mo M n I B thr ord mny h1 d th fl v) (fun E hE => exc3_th (and_congr okD_iff (and_congr okT_iff wi_iff) |>.trans (by simp only [Bool.and_eq_true])) (fun _ => vOk_iff) (decide_eq_true_iff).symm hE) ?_
  rintro v9 wa ⟨a1, a2, a3, a4, hn9, rfl, d', t', fl', v', hd, ht, hfl, hv, rfl, rfl, rfl, rfl, q, lf, hq, hT', hfr⟩
  refine ⟨nI n, _, _, _, _, _, _, _, rfl, hT', hfr, hA.new hR ho hq, and3_t (by rw [okD_iff.mp a1, okT_iff.mp a2, wi_iff.mp a3]; rfl) (vOk_iff.mp a4) (decide_eq_true hn9), ?_⟩
  rintro w1 xx w2 ⟨d2, hd2, e2, hx, hR2, hf2⟩
  obtain rfl : d' = d2 := (nI_eq (by omega) (by omega)).mp e2
  refine ⟨hx, _, _, _, _, hR2, hf2, ?_⟩
  have hf9 : fl' ≤ 2 := nI_le2 (c := 2) hfl (by decide) a3.2
  have hv9 : v' < 1000 ∧ (fl' = 2 → v' < 32) := by
    have h9 := a4.2
    by_cases e : fl' = 2
    · rw [if_pos (by rw [e]; rfl)] at h9
      have := nI_lt2 (c := 32) hv (by decide) h9
      exact ⟨by omega, fun _ => this⟩
    · rw [if_neg (show ¬ nI fl' = 2 from mt (nI_eq (b := 2) hfl (by decide)).mp e)] at h9
      exact ⟨nI_lt2 (c := 1000) hv (by decide) h9, fun e2 => absurd e2 e⟩
  exact hC.mk0 hn9 hd (by omega) hv9.1 _ rfl ⟨by omega, by omega⟩ ⟨fun e => by omega, fun e => by omega, hv9.2⟩ (fun e => by omega) rl (fun t ht => hC.rowOld hn9 hd _ rfl ht (fun e => by omega) _ _ _ _ _) _ (fun i => ⟨rfl, rfl, rfl, rfl, rfl, rfl⟩) (fun i => rfl) (hT'.lnk (ins_all hC) (ne_new hlb rfl))
set_option maxHeartbeats 4000000 in
set_option maxRecDepth 100000 in
theorem cc_relate (l : Launch) (G : hD) {x mo ou : Nat} {w : hW} (hI : LWI G x mo ou w) (d x9 y9 : Int32) : callOk l G x mo ou yL_relate (Cond.codeWith yL_relate cL_relate 6 (some .int) [(0, 12, 15, 13), (0, 12, 19, 15), (0, 12, 23, 17)]) { frames := 8, cells := 4, slots := 29, locals := 130 } [.ref x, .int d, .int x9, .int y9, .ref ou] yX3_relate (Cond.code yX3_relate cX3_relate 4 (some .int)) { frames := 2, cells := 0, slots := 0, locals := 60 } [.ref mo, .int d, .int x9, .int y9] (fun _ => True) w := by
  obtain ⟨tl, rw, ng, cx, un, ad, n, ti, ch, rl, gv, f, M, I, B, thr, ord, mny, ov, hT, hR, hC, hA, ho⟩ := hI
  have hn : n ≤ 120 := hC.2.2.2.2.2.2.2.2.2.2.2
  have hlb : lnkB n ti := hC.2.2.2.2.2.2.2.2.2.2.1
  have hnd : ch.Nodup := hC.1.nd
  have hall : ∀ i, i < n → i ∈ ch := fun i hi => (hC.1.1 i).mpr hi
  have hou9 : ¬ CD x tl rw ng cx un ad n ou := fun hq => (hA.1 ou hq).2 rfl
  have hso9 : ∀ i, i < n → (ti i).so ≤ 6 := fun i hi => (hC.2.2.1 i hi).2.2.2.2.2.2.2.1
  refine call_mk trivial (fun _ _ _ => trivial) cd3_ne hT hR hC hA ho (c_L_relate l G w x ou ov d x9 y9 hT.1 (c_X2_relate l G w x tl rw ng cx un ad n ti ch rl gv f hT hlb hnd d x9 y9) (fun E h => exc3_E h) (fun v w1 h => by obtain ⟨_, _, _, _, _, e, _, _, _, _, _, _, _, _, _, _, _, _, _, hf⟩ := h; exact ⟨_, e, fr_use hf hou9 ho⟩)) (fun w1 h1 => c_X3_relate l G w1 mo M n I B thr ord mny h1 d x9 y9) (fun E hE => exc3_th (and_congr okD_iff (and_congr okT_iff okT_iff) |>.trans (by simp only [Bool.and_eq_true])) (fun _ => by simp) (decide_eq_true_iff).symm hE) ?_
  rintro v9 wa ⟨a1, a2, a3, a4, hn9, rfl, d', a', b', hd, ha, hb, rfl, rfl, rfl, q, lf, hq, hT', hfr⟩
  refine ⟨nI n, _, _, _, _, _, _, _, rfl, hT', hfr, hA.new hR ho hq, and3_t (by rw [okD_iff.mp a1, okT_iff.mp a2, okT_iff.mp a3]; rfl) (by simp [a4]) (decide_eq_true hn9), ?_⟩
  rintro w1 xx w2 ⟨d2, hd2, e2, hx, hR2, hf2⟩
  obtain rfl : d' = d2 := (nI_eq (by omega) (by omega)).mp e2
  rw [ix16] at hR2
  have hab : a' ≠ b' := fun e => a4 (by rw [e])
  refine ⟨hx, _, _, _, _, hR2, hf2, ?_⟩
  exact hC.mk0 (so := 5) hn9 hd (by decide) (by omega) _ rfl ⟨by decide, by decide⟩ ⟨fun _ => ⟨by omega, by omega⟩, fun e => by omega, fun e => by omega⟩ (fun e => by omega) rl (fun t ht => hC.rowOld (so := 5) hn9 hd _ rfl ht (fun e => by omega) _ _ _ _ _) _ (fun i => ⟨rfl, rfl, rfl, rfl, rfl, rfl⟩) (fun i => rfl) (hT'.lnk (ins_all hC) (ne_new hlb rfl))
theorem CM.mkE {n : Nat} {ti : Nat → TI} {ch : List Nat} {rl : Nat → List Nat} {gv : Nat → Nat} {I : Nat → Nat → Int32} {B : Nat → Nat → Bool} (h : CM n ti ch rl gv I B) (hn : n < 120) {d so j : Nat} (hd : d < 6) (hj : j < n) (hso : (so = 4 ∧ (ti j).so = 3) ∨ (so = 6 ∧ (ti j).so = 5)) {lf : Nat → Option Nat} (t9 : TI) (ht9 : t9 = frT d (gsN ti (nI d) ch 0 + 1) so (-1) j)
    (hlk : lnkB (n + 1) (va_up (T3 ti n t9 lf) j (enT (T3 ti n t9 lf j) (nI d)))) :
    CM (n + 1) (va_up (T3 ti n t9 lf) j (enT (T3 ti n t9 lf j) (nI d))) (insR (va_up ti n t9) n ch) rl gv (mkI I n (iter (gmS I B d) 0 n + 1) (nI d) (nI so) (-1) (nI j) (-1)) (mkB B n d) := by
  have hn9 := h.2.2.2.2.2.2.2.2.2.2.2
  have hjn : j ≠ n := by omega
  have hs9 : so ≠ 3 ∧ so ≠ 5 ∧ so ≠ 2 ∧ so ≤ 6 := by omega
  refine h.make (so := so) hn hd hs9.2.2.2 (by omega) t9 ht9 ⟨fun e => ⟨hj, ?_⟩, fun e => ⟨hj, ?_⟩, fun e => absurd e hs9.2.1, fun e => absurd e hs9.1, fun e => absurd e hs9.2.2.1⟩ (fun e => absurd e hs9.1) rl (fun t ht => h.rowOld (so := so) hn hd _ ht9 ht (fun e => hs9.1 e.1) _ _ _ _ _) _ (fun i => ?_) (fun i hi => ?_) hlk
  · rcases hso with a | a
    · exact a.2
    · omega
  · rcases hso with a | a
    · omega
    · exact a.2
  · by_cases e : i = j
    · subst e; rw [va_up_self]; exact ⟨rfl, rfl, rfl, rfl, rfl, rfl⟩
    · rw [va_up_ne _ _ e]; exact ⟨rfl, rfl, rfl, rfl, rfl, rfl⟩
  · by_cases e : i = j
    · subst e
      have hk := (h.2.2.2.1 i hj).2.1
      have he : (va_up (T3 ti n t9 lf) i (enT (T3 ti n t9 lf i) (nI d)) i).en = kor (ti i).en (nI d) := by
        rw [va_up_self]
        show kor (va_up ti n t9 i).en (nI d) = _
        rw [va_up_ne _ _ hjn]
      rw [he]
      refine ⟨b6_or hk hd, fun y hy => ?_⟩
      rw [kb_kor _ hd hy, Bool.or_eq_true, decide_eq_true_eq]
      constructor
      · rintro (a | a)
        · exact Or.inl ⟨hj, a⟩
        · exact Or.inr ⟨a, by omega, rfl⟩
      · rintro (⟨_, a⟩ | ⟨a, _, _⟩)
        · exact Or.inl a
        · exact Or.inr a
    · have he : (va_up (T3 ti n t9 lf) j (enT (T3 ti n t9 lf j) (nI d)) i).en = (va_up ti n t9 i).en := by rw [va_up_ne _ _ e]; rfl
      rw [he]
      by_cases e2 : i = n
      · subst e2
        rw [va_up_self, ht9]
        refine ⟨⟨0, by decide, rfl⟩, fun y hy => ⟨fun hh => ?_, fun hh => ?_⟩⟩
        · have : kb 0 (nI y) = true := hh
          rw [kb_zero y (by omega)] at this; cases this
        · rcases hh with ⟨a, _⟩ | ⟨_, _, a⟩
          · exact absurd a (Nat.lt_irrefl _)
          · exact absurd a hjn
      · rw [va_up_ne _ _ e2]
        refine ⟨(h.2.2.2.1 i (by omega)).2.1, fun y hy => ⟨fun hh => Or.inl ⟨by omega, hh⟩, fun hh => ?_⟩⟩
        rcases hh with ⟨_, a⟩ | ⟨_, _, a⟩
        · exact a
        · exact absurd a.symm e
theorem so_iff {n : Nat} {ti : Nat → TI} {ch : List Nat} {rl : Nat → List Nat} {gv : Nat → Nat} {I : Nat → Nat → Int32} {B : Nat → Nat → Bool} (hC : CM n ti ch rl gv I B) {d t : Int32} (s1 : Nat) (hs1 : s1 ≤ 6) (hk : okD d ∧ isK ti n d t) : (∀ j, t = nI j → j < n → (ti j).so = s1) ↔ (kOf n B d t && decide (I 2 t.toNatClampNeg = nI s1)) = true := by
  have hn := hC.2.2.2.2.2.2.2.2.2.2.2
  rw [(kOf_iff hC).mp hk, Bool.true_and, decide_eq_true_eq]
  obtain ⟨_, j, hj, rfl, _⟩ := hk
  rw [nI_clamp (by omega), (hC.2.2.1 j hj).2.2.1, nI_eq (by have := (hC.2.2.1 j hj).2.2.2.2.2.2.2.1; omega) (by omega)]
  exact ⟨fun h => h j rfl hj, fun h k hk hkn => by rw [← (nI_eq (by omega) (by omega)).mp hk]; exact h⟩
theorem ne_end {n : Nat} {ti : Nat → TI} (h : lnkB n ti) {t : TI} (ht : t.ne = none) {lf : Nat → Option Nat} {j : Nat} {d : Int32} : ∀ i, i < n + 1 → ∀ k, (va_up (T3 ti n t lf) j (enT (T3 ti n t lf j) d) i).ne = some k → k < n + 1 := by
  intro i hi k hk
  refine ne_new h ht i hi k ?_
  by_cases e : i = j
  · subst e; rw [va_up_self] at hk; exact hk
  · rw [va_up_ne _ _ e] at hk; exact hk

set_option maxHeartbeats 4000000 in
set_option maxRecDepth 100000 in
theorem cc_remove (l : Launch) (G : hD) {x mo ou : Nat} {w : hW} (hI : LWI G x mo ou w) (d t : Int32) : callOk l G x mo ou yL_remove (Cond.codeWith yL_remove cL_remove 5 (some .int) [(0, 10, 13, 13), (0, 10, 17, 15), (0, 10, 21, 17)]) { frames := 10, cells := 4, slots := 35, locals := 175 } [.ref x, .int d, .int t, .ref ou] yX3_remove (Cond.code yX3_remove cX3_remove 4 (some .int)) { frames := 2, cells := 0, slots := 0, locals := 60 } [.ref mo, .int d, .int t] (fun _ => True) w := by
  obtain ⟨tl, rw, ng, cx, un, ad, n, ti, ch, rl, gv, f, M, I, B, thr, ord, mny, ov, hT, hR, hC, hA, ho⟩ := hI
  have hn : n ≤ 120 := hC.2.2.2.2.2.2.2.2.2.2.2
  have hlb : lnkB n ti := hC.2.2.2.2.2.2.2.2.2.2.1
  have hnd : ch.Nodup := hC.1.nd
  have hall : ∀ i, i < n → i ∈ ch := fun i hi => (hC.1.1 i).mpr hi
  have hou9 : ¬ CD x tl rw ng cx un ad n ou := fun hq => (hA.1 ou hq).2 rfl
  have hso9 : ∀ i, i < n → (ti i).so ≤ 6 := fun i hi => (hC.2.2.1 i hi).2.2.2.2.2.2.2.1
  refine call_mk trivial (fun _ _ _ => trivial) cd3_ne hT hR hC hA ho (c_L_remove l G w x ou ov d t hT.1 (c_X2_remove l G w x tl rw ng cx un ad n ti ch rl gv f hT hlb hnd hso9 d t) (fun E h => exc3_E h) (fun v w1 h => by obtain ⟨_, _, _, _, _, _, _, _, _, _, e, _, _, _, _, hf⟩ := h; exact ⟨_, e, fr_use hf hou9 ho⟩)) (fun w1 h1 => c_X3_remove l G w1 mo M n I B thr ord mny h1 d t) (fun E hE => exc3_th (kOf_iff hC) (fun hk => so_iff hC 3 (by decide) hk) (decide_eq_true_iff).symm hE) ?_
  rintro v9 wa ⟨a1, j, d', hj, hd, rfl, rfl, hk, hs, hn9, rfl, q, lf, hq, hT', hfr⟩
  have hkk : okD (nI d') ∧ isK ti n (nI d') (nI j) := ⟨a1, j, hj, rfl, hk⟩
  refine ⟨nI n, _, _, _, _, _, _, _, rfl, hT', hfr, hA.new hR ho hq, and3_t ((kOf_iff hC).mp hkk) ((so_iff hC 3 (by decide) hkk).mp (fun k hk hkn => by rw [← (nI_eq (by omega) (by omega)).mp hk]; exact hs)) (decide_eq_true hn9), ?_⟩
  rintro w1 xx w2 ⟨d2, hd2, e2, hx, hR2, hf2⟩
  obtain rfl : d' = d2 := (nI_eq (by omega) (by omega)).mp e2
  refine ⟨hx, _, _, _, _, hR2, hf2, ?_⟩
  exact hC.mkE (so := 4) hn9 hd hj (Or.inl ⟨rfl, hs⟩) _ rfl (hT'.lnk (ins_all hC) (ne_end hlb rfl))
set_option maxHeartbeats 4000000 in
set_option maxRecDepth 100000 in
theorem cc_drop (l : Launch) (G : hD) {x mo ou : Nat} {w : hW} (hI : LWI G x mo ou w) (d t : Int32) : callOk l G x mo ou yL_drop (Cond.codeWith yL_drop cL_drop 5 (some .int) [(0, 10, 13, 13), (0, 10, 17, 15), (0, 10, 21, 17)]) { frames := 10, cells := 4, slots := 35, locals := 175 } [.ref x, .int d, .int t, .ref ou] yX3_drop (Cond.code yX3_drop cX3_drop 4 (some .int)) { frames := 2, cells := 0, slots := 0, locals := 60 } [.ref mo, .int d, .int t] (fun _ => True) w := by
  obtain ⟨tl, rw, ng, cx, un, ad, n, ti, ch, rl, gv, f, M, I, B, thr, ord, mny, ov, hT, hR, hC, hA, ho⟩ := hI
  have hn : n ≤ 120 := hC.2.2.2.2.2.2.2.2.2.2.2
  have hlb : lnkB n ti := hC.2.2.2.2.2.2.2.2.2.2.1
  have hnd : ch.Nodup := hC.1.nd
  have hall : ∀ i, i < n → i ∈ ch := fun i hi => (hC.1.1 i).mpr hi
  have hou9 : ¬ CD x tl rw ng cx un ad n ou := fun hq => (hA.1 ou hq).2 rfl
  have hso9 : ∀ i, i < n → (ti i).so ≤ 6 := fun i hi => (hC.2.2.1 i hi).2.2.2.2.2.2.2.1
  refine call_mk trivial (fun _ _ _ => trivial) cd3_ne hT hR hC hA ho (c_L_drop l G w x ou ov d t hT.1 (c_X2_drop l G w x tl rw ng cx un ad n ti ch rl gv f hT hlb hnd hso9 d t) (fun E h => exc3_E h) (fun v w1 h => by obtain ⟨_, _, _, _, _, _, _, _, _, _, e, _, _, _, _, hf⟩ := h; exact ⟨_, e, fr_use hf hou9 ho⟩)) (fun w1 h1 => c_X3_drop l G w1 mo M n I B thr ord mny h1 d t) (fun E hE => exc3_th (kOf_iff hC) (fun hk => so_iff hC 5 (by decide) hk) (decide_eq_true_iff).symm hE) ?_
  rintro v9 wa ⟨a1, j, d', hj, hd, rfl, rfl, hk, hs, hn9, rfl, q, lf, hq, hT', hfr⟩
  have hkk : okD (nI d') ∧ isK ti n (nI d') (nI j) := ⟨a1, j, hj, rfl, hk⟩
  refine ⟨nI n, _, _, _, _, _, _, _, rfl, hT', hfr, hA.new hR ho hq, and3_t ((kOf_iff hC).mp hkk) ((so_iff hC 5 (by decide) hkk).mp (fun k hk hkn => by rw [← (nI_eq (by omega) (by omega)).mp hk]; exact hs)) (decide_eq_true hn9), ?_⟩
  rintro w1 xx w2 ⟨d2, hd2, e2, hx, hR2, hf2⟩
  obtain rfl : d' = d2 := (nI_eq (by omega) (by omega)).mp e2
  refine ⟨hx, _, _, _, _, hR2, hf2, ?_⟩
  exact hC.mkE (so := 6) hn9 hd hj (Or.inr ⟨rfl, hs⟩) _ rfl (hT'.lnk (ins_all hC) (ne_end hlb rfl))
theorem ins_iff {n : Nat} {ti : Nat → TI} {ch : List Nat} {rl : Nat → List Nat} {gv : Nat → Nat} {I : Nat → Nat → Int32} {B : Nat → Nat → Bool} (hC : CM n ti ch rl gv I B) {d th be : Int32} : (okD d ∧ okT th ∧ (be = -1 ∨ isK ti n d be)) ↔ (isDk d && (isTh th && (decide (be = -1) || kOf n B d be))) = true := by
  rw [Bool.and_eq_true, Bool.and_eq_true, Bool.or_eq_true, decide_eq_true_eq, ← okD_iff, ← okT_iff, ← kOf_iff hC]
  exact ⟨fun ⟨a, b, c⟩ => ⟨a, b, c.elim Or.inl (fun c => Or.inr ⟨a, c⟩)⟩, fun ⟨a, b, c⟩ => ⟨a, b, c.elim Or.inl (fun c => Or.inr c.2)⟩⟩
theorem ins_iff2 {n : Nat} {ti : Nat → TI} {ch : List Nat} {rl : Nat → List Nat} {gv : Nat → Nat} {I : Nat → Nat → Int32} {B : Nat → Nat → Bool} (hC : CM n ti ch rl gv I B) {d th be v : Int32} (h1 : okD d ∧ okT th ∧ (be = -1 ∨ isK ti n d be)) : ((be = -1 ∨ ∀ j, be = nI j → j < n → (ti j).so = 3 ∧ (ti j).th = th) ∧ ¬ v < 0 ∧ v < 1000) ↔ ((isDk d && (isTh th && (decide (be = -1) || kOf n B d be))) && ((decide (be = -1) || (decide (I 2 be.toNatClampNeg = 3) && decide (I 3 be.toNatClampNeg = th))) && wiB v 0 999)) = true := by
  have hn := hC.2.2.2.2.2.2.2.2.2.2.2
  rw [(ins_iff hC).mp h1, Bool.true_and, Bool.and_eq_true, Bool.or_eq_true, decide_eq_true_eq, ← wi_iff, lt_1000]
  refine and_congr_left' ?_
  rcases h1.2.2 with e | ⟨j, hj, rfl, _⟩
  · exact ⟨fun _ => Or.inl e, fun _ => Or.inl e⟩
  · have f := hC.2.2.1 j hj
    have hne : ¬ nI j = -1 := oI_some (by omega)
    rw [nI_clamp (by omega), f.2.2.1, f.2.2.2.1, Bool.and_eq_true, decide_eq_true_eq, decide_eq_true_eq]
    constructor
    · rintro (e | e)
      · exact Or.inl e
      · have := e j rfl hj; exact Or.inr ⟨by rw [this.1]; rfl, this.2⟩
    · rintro (e | ⟨e1, e2⟩)
      · exact Or.inl e
      · refine Or.inr (fun k hk hkn => ?_)
        rw [← (nI_eq (by omega) (by omega)).mp hk]
        exact ⟨(nI_eq (b := 3) (by have := f.2.2.2.2.2.2.2.1; omega) (by decide)).mp e1, e2⟩

set_option maxHeartbeats 4000000 in
set_option maxRecDepth 100000 in
theorem cc_insert (l : Launch) (G : hD) {x mo ou : Nat} {w : hW} (hI : LWI G x mo ou w) (d th be v : Int32) : callOk l G x mo ou yL_insert (Cond.codeWith yL_insert cL_insert 7 (some .int) [(0, 14, 17, 13), (0, 14, 21, 15), (0, 14, 25, 17)]) { frames := 9, cells := 6, slots := 41, locals := 153 } [.ref x, .int d, .int th, .int be, .int v, .ref ou] yX3_insert (Cond.code yX3_insert cX3_insert 7 (some .int)) { frames := 2, cells := 0, slots := 0, locals := 60 } [.ref mo, .int d, .int th, .int be, .int v] (fun _ => True) w := by
  obtain ⟨tl, rw, ng, cx, un, ad, n, ti, ch, rl, gv, f, M, I, B, thr, ord, mny, ov, hT, hR, hC, hA, ho⟩ := hI
  have hn : n ≤ 120 := hC.2.2.2.2.2.2.2.2.2.2.2
  have hlb : lnkB n ti := hC.2.2.2.2.2.2.2.2.2.2.1
  have hnd : ch.Nodup := hC.1.nd
  have hall : ∀ i, i < n → i ∈ ch := fun i hi => (hC.1.1 i).mpr hi
  have hou9 : ¬ CD x tl rw ng cx un ad n ou := fun hq => (hA.1 ou hq).2 rfl
  have hso9 : ∀ i, i < n → (ti i).so ≤ 6 := fun i hi => (hC.2.2.1 i hi).2.2.2.2.2.2.2.1
  refine call_mk trivial (fun _ _ _ => trivial) cd3_ne hT hR hC hA ho (c_L_insert l G w x ou ov d th be v hT.1 (c_X2_insert l G w x tl rw ng cx un ad n ti ch rl gv f hT hlb hnd hso9 hC.rowsOk (fun i hi hs t ht hth => (hC.memRow ht).mpr ⟨hi, hs, hth⟩) d th be v) (fun E h => exc3_E h) (fun v w1 h => by obtain ⟨_, _, _, e, _, _, _, _, _, _, _, _, _, _, _, _, _, _, _, _, _, _, _, hf⟩ := h; exact ⟨_, e, fr_use hf hou9 ho⟩)) (fun w1 h1 => c_X3_insert l G w1 mo M n I B thr ord mny h1 d th be v) (fun E hE => exc3_th (ins_iff hC) (fun hk => ins_iff2 hC hk) (decide_eq_true_iff).symm hE) ?_
  rintro v9 wa ⟨a1, a2, hn9, rfl, d', t', v', hd, ht, hv, rfl, rfl, rfl, q, lf, lf2, pre0, r0, hq, hrow, hshp, hlf2, hT', hfr⟩
  refine ⟨nI n, _, _, _, _, _, _, _, rfl, hT', hfr, hA.new hR ho hq, and3_t ((ins_iff hC).mp a1) ((ins_iff2 hC a1).mp a2) (decide_eq_true hn9), ?_⟩
  rintro w1 xx w2 ⟨d2, hd2, e2, hx, hR2, hf2⟩
  obtain rfl : d' = d2 := (nI_eq (by omega) (by omega)).mp e2
  refine ⟨hx, _, _, _, _, hR2, hf2, ?_⟩
  have hv9 : v' < 1000 := nI_lt2 (c := 1000) hv (by decide) a2.2.2
  have hpar : be = -1 ∨ ∃ p, p < n ∧ be = nI p ∧ (ti p).so = 3 ∧ (ti p).th = nI t' ∧ B 7 (120 * d' + p) = true := by
    rcases hshp with ⟨e, _⟩ | ⟨b, p1, hb, e, hk, _⟩
    · exact Or.inl e
    · rcases a2.1 with e9 | e9
      · exact Or.inl e9
      · have := e9 b e hb
        exact Or.inr ⟨b, hb, e, this.1, this.2, by rw [← (hC.2.2.2.1 b hb).2.2.1 d' hd]; exact hk⟩
  have hsh : shp be pre0 := by
    rcases hshp with ⟨e, e2⟩ | ⟨b, p1, hb, e, hk, e2⟩
    · exact Or.inl ⟨e, e2⟩
    · exact Or.inr ⟨b, p1, e, e2⟩
  exact hC.mk0 (so := 3) hn9 hd (by decide) hv9 _ rfl ⟨by decide, by decide⟩ ⟨fun e => by omega, fun _ => ⟨t', ht, rfl⟩, fun e => by omega⟩ (fun _ => hpar) _ (fun t ht9 => by
    by_cases e : t = t'
    · subst e
      rw [va_up_self]
      exact hC.rowNew (ti3 := T3 ti n (frT d' (gsN ti (nI d') ch 0 + 1) 3 (nI t) v') lf) hn9 hd ht _ rfl (fun i => rfl) hpar hrow hsh _ _ _ _ _
    · rw [va_up_ne _ _ e]
      exact hC.rowOld (so := 3) hn9 hd _ rfl ht9 (fun h => e ((nI_eq (by omega) (by omega)).mp h.2.symm)) _ _ _ _ _) _ (fun i => ⟨rfl, rfl, rfl, rfl, rfl, rfl⟩) (fun i => rfl) (hT'.lnk (ins_all hC) (fun i hi k hk => (hlf2 i k hk).elim (fun h => ne_new hlb rfl i hi k h) id))
set_option maxHeartbeats 4000000 in
set_option maxRecDepth 100000 in
theorem cc_join (l : Launch) (G : hD) {x mo ou : Nat} {w : hW} (hI : LWI G x mo ou w) (d o : Int32) : callOk l G x mo ou yL_join (Cond.codeWith yL_join cL_join 5 (some .int) [(0, 10, 13, 13)]) { frames := 8, cells := 2, slots := 12, locals := 126 } [.ref x, .int d, .int o, .ref ou] yX3_join (Cond.code yX3_join cX3_join 6 (some .int)) { frames := 2, cells := 0, slots := 0, locals := 60 } [.ref mo, .int d, .int o] (fun _ => True) w := by
  obtain ⟨tl, rw, ng, cx, un, ad, n, ti, ch, rl, gv, f, M, I, B, thr, ord, mny, ov, hT, hR, hC, hA, ho⟩ := hI
  have hn : n ≤ 120 := hC.2.2.2.2.2.2.2.2.2.2.2
  have hlb : lnkB n ti := hC.2.2.2.2.2.2.2.2.2.2.1
  have hnd : ch.Nodup := hC.1.nd
  have hall : ∀ i, i < n → i ∈ ch := fun i hi => (hC.1.1 i).mpr hi
  have hou9 : ¬ CD x tl rw ng cx un ad n ou := fun hq => (hA.1 ou hq).2 rfl
  have hso9 : ∀ i, i < n → (ti i).so ≤ 6 := fun i hi => (hC.2.2.1 i hi).2.2.2.2.2.2.2.1
  refine call_mk trivial (fun _ _ _ => trivial) cd1_ne hT hR hC hA ho (c_L_join l G w x ou ov d o hT.1 (c_X2_join l G w x tl rw ng cx un ad n ti ch rl gv f hT hall hnd d o) (fun E h => h.1) (fun v w1 h => by obtain ⟨_, _, e, _, hf⟩ := h; exact ⟨_, e, fr_use hf hou9 ho⟩)) (fun w1 h1 => c_X3_join l G w1 mo M n I B thr ord mny h1 d o) (fun E hE => exc1_th (and_congr okD_iff okD_iff |>.trans (by simp only [Bool.and_eq_true])) hE) ?_
  rintro v9 wa ⟨a1, a2, rfl, hT', hfr⟩
  obtain ⟨d', hd, rfl⟩ := ok_nI (N := 6) (by decide) a1.1 a1.2
  obtain ⟨o', ho', rfl⟩ := ok_nI (N := 6) (by decide) a2.1 a2.2
  refine ⟨_, _, _, _, _, _, _, _, rfl, hT', hfr, hA, and3_t (by rw [okD_iff.mp a1, okD_iff.mp a2]; rfl) rfl rfl, ?_⟩
  rintro w1 xx w2 ⟨d2, o2, hd2, ho2, e1, e2, hx, K, hR2, hf2, k1, k2⟩
  obtain rfl : d' = d2 := (nI_eq (by omega) (by omega)).mp e1
  obtain rfl : o' = o2 := (nI_eq (by omega) (by omega)).mp e2
  exact ⟨by rw [hx, hC.jcount hd ho'], _, _, _, _, hR2, hf2, hC.join hd ho' k1 k2⟩
theorem num_iff {n : Nat} {ti : Nat → TI} {ch : List Nat} {rl : Nat → List Nat} {gv : Nat → Nat} {I : Nat → Nat → Int32} {B : Nat → Nat → Bool} (hC : CM n ti ch rl gv I B) {d : Int32} (hd : okD d) : (∀ j, d = nI j → j < 6 → gv j < 1000) ↔ (isDk d && decide (I 8 d.toNatClampNeg < 1000)) = true := by
  rw [okD_iff.mp hd, Bool.true_and, decide_eq_true_eq]
  obtain ⟨j, hj, rfl⟩ := ok_nI (N := 6) (by decide) hd.1 hd.2
  have g := hC.2.2.2.2.2.2.2.2.2.1 j hj
  rw [nI_clamp (by omega), g.2, show (1000 : Int32) = nI 1000 from rfl, nI_ltI (by omega) (by decide)]
  exact ⟨fun h => h j rfl hj, fun h k hk hk6 => by rw [← (nI_eq (by omega) (by omega)).mp hk]; exact h⟩
theorem num_eq (d g : Nat) : 1000 * nI d + (nI g + 1) - 1 = nI (1000 * d + g) := by
  rw [show (1000 : Int32) = nI 1000 from rfl, pk_mul, nI_1, nI_add, ← Nat.add_assoc, nI_m1]
set_option maxHeartbeats 4000000 in
set_option maxRecDepth 100000 in
theorem cc_number (l : Launch) (G : hD) {x mo ou : Nat} {w : hW} (hI : LWI G x mo ou w) (d : Int32) : callOk l G x mo ou yL_number (Cond.codeWith yL_number cL_number 4 (some .int) [(0, 9, 12, 13), (0, 9, 15, 17)]) { frames := 8, cells := 2, slots := 12, locals := 124 } [.ref x, .int d, .ref ou] yX3_number (Cond.code yX3_number cX3_number 2 (some .int)) { frames := 2, cells := 0, slots := 0, locals := 60 } [.ref mo, .int d] (fun _ => True) w := by
  obtain ⟨tl, rw, ng, cx, un, ad, n, ti, ch, rl, gv, f, M, I, B, thr, ord, mny, ov, hT, hR, hC, hA, ho⟩ := hI
  have hn : n ≤ 120 := hC.2.2.2.2.2.2.2.2.2.2.2
  have hlb : lnkB n ti := hC.2.2.2.2.2.2.2.2.2.2.1
  have hnd : ch.Nodup := hC.1.nd
  have hall : ∀ i, i < n → i ∈ ch := fun i hi => (hC.1.1 i).mpr hi
  have hou9 : ¬ CD x tl rw ng cx un ad n ou := fun hq => (hA.1 ou hq).2 rfl
  have hso9 : ∀ i, i < n → (ti i).so ≤ 6 := fun i hi => (hC.2.2.1 i hi).2.2.2.2.2.2.2.1
  refine call_mk trivial (fun _ _ _ => trivial) cd2_ne hT hR hC hA ho (c_L_number l G w x ou ov d hT.1 (c_X2_number l G w x tl rw ng cx un ad n ti ch rl gv f hT d (fun j hj => (hC.2.2.2.2.2.2.2.2.2.1 j hj).1)) (fun E h => excN_E h) (fun v w1 h => by obtain ⟨_, _, _, _, e, _, hf⟩ := h; exact ⟨_, e, fr_use hf hou9 ho⟩)) (fun w1 h1 => c_X3_number l G w1 mo M n I B thr ord mny h1 d) (fun E hE => excN_th okD_iff (fun hd => num_iff hC hd) hE) ?_
  rintro v9 wa ⟨j, hj, rfl, hg, rfl, hT', hfr⟩
  have hok : okD (nI j) := ⟨nI_pos (by omega), nI_lt (b := 6) hj (by decide)⟩
  refine ⟨_, _, _, _, _, _, _, _, rfl, hT', hfr, hA, and3_t (okD_iff.mp hok) ((num_iff hC hok).mp (fun k hk hk6 => by rw [← (nI_eq (by omega) (by omega)).mp hk]; exact hg)) rfl, ?_⟩
  rintro w1 xx w2 ⟨d2, hd2, e2, hx, hR2, hf2⟩
  obtain rfl : j = d2 := (nI_eq (by omega) (by omega)).mp e2
  exact ⟨by rw [hx, (hC.2.2.2.2.2.2.2.2.2.1 j hj).2, num_eq], _, _, _, _, hR2, hf2, hC.number hj hg⟩
theorem CM.atEq {n : Nat} {ti : Nat → TI} {ch : List Nat} {rl : Nat → List Nat} {gv : Nat → Nat} {I : Nat → Nat → Int32} {B : Nat → Nat → Bool} (hC : CM n ti ch rl gv I B) {d : Nat} (hd : d < 6) {th fl k : Int32} (hth : okT th) (hfl : ¬ fl < 0 ∧ ¬ 3 < fl) (hk : ¬ k < 0) : matV I B n ch d th fl k = atV ti ch rl (nI d) th fl k := by
  obtain ⟨t, ht, rfl⟩ := ok_nI (N := 16) (by decide) hth.1 hth.2
  have hk2 : (decide (k = 0) = true ∧ ¬ 0 < k) ∨ (decide (k = 0) = false ∧ 0 < k) := by
    rw [Int32.lt_iff_toInt_lt, show (0 : Int32).toInt = 0 from rfl] at hk ⊢
    by_cases e : k = 0
    · exact Or.inl ⟨decide_eq_true e, by rw [e]; decide⟩
    · have : k.toInt ≠ 0 := fun e2 => e (Int32.toInt_inj.mp (by rw [e2]; rfl))
      exact Or.inr ⟨decide_eq_false e, by omega⟩
  unfold matV atV
  rcases sw4 fl with rfl | rfl | rfl | rfl | h
  · rw [if_neg (by decide), if_pos rfl, ← hC.latest hd]
    rcases hk2 with ⟨a, b⟩ | ⟨a, b⟩
    · rw [if_neg b, if_pos rfl, a]; rfl
    · rw [if_pos b, a]; rfl
  · rw [if_neg (show ¬ (2 : Int32) ≤ 1 by decide), ← hC.sum hd]
    have e10 : ¬ (1 : Int32) = 0 := by decide
    rcases hk2 with ⟨a, b⟩ | ⟨a, b⟩
    · simp only [if_neg b, if_neg e10, if_true, a, cond_true]
    · simp only [if_pos b, if_neg e10, if_true, a, cond_false]
  · rw [if_pos (by decide), if_pos rfl, if_neg (by decide), if_neg (by decide), if_pos rfl, hC.union hd]
  · rw [if_pos (by decide), if_neg (by decide), if_neg (by decide), if_neg (by decide), if_neg (by decide), nI_clamp (by omega), hC.row hd ht]
    cases hm : mstG I B n ch d (nI t) k with
    | none => rfl
    | some i => exact (hC.2.2.1 i (mstG_lt hC.1 hm)).2.2.2.2.1
  · exfalso
    rw [Int32.lt_iff_toInt_lt, Int32.lt_iff_toInt_lt, show (0 : Int32).toInt = 0 from rfl, show (3 : Int32).toInt = 3 from rfl] at hfl
    omega
theorem wi_iff2 {fl k : Int32} : ((¬ fl < 0 ∧ ¬ 3 < fl) ∧ ¬ k < 0) ↔ (wiB fl 0 3 && !decide (k < 0)) = true := by rw [Bool.and_eq_true, ← wi_iff]; simp
set_option maxHeartbeats 4000000 in
set_option maxRecDepth 100000 in
theorem cc_at (l : Launch) (G : hD) {x mo ou : Nat} {w : hW} (hI : LWI G x mo ou w) (d th fl k : Int32) : callOk l G x mo ou yL_at (Cond.codeWith yL_at cL_at 7 (some .int) [(0, 14, 17, 13)]) { frames := 8, cells := 4, slots := 24, locals := 128 } [.ref x, .int d, .int th, .int fl, .int k, .ref ou] yX3_at (Cond.code yX3_at cX3_at 6 (some .int)) { frames := 4, cells := 0, slots := 0, locals := 130 } [.ref mo, .int d, .int th, .int fl, .int k] (fun _ => True) w := by
  obtain ⟨tl, rw, ng, cx, un, ad, n, ti, ch, rl, gv, f, M, I, B, thr, ord, mny, ov, hT, hR, hC, hA, ho⟩ := hI
  have hn : n ≤ 120 := hC.2.2.2.2.2.2.2.2.2.2.2
  have hlb : lnkB n ti := hC.2.2.2.2.2.2.2.2.2.2.1
  have hnd : ch.Nodup := hC.1.nd
  have hall : ∀ i, i < n → i ∈ ch := fun i hi => (hC.1.1 i).mpr hi
  have hou9 : ¬ CD x tl rw ng cx un ad n ou := fun hq => (hA.1 ou hq).2 rfl
  have hso9 : ∀ i, i < n → (ti i).so ≤ 6 := fun i hi => (hC.2.2.1 i hi).2.2.2.2.2.2.2.1
  refine call_mk trivial (fun _ _ _ => trivial) cd1_ne hT hR hC hA ho (c_L_at l G w x ou ov d th fl k hT.1 (c_X2_at l G w x tl rw ng cx un ad n ti ch rl gv f hT d th fl k) (fun E h => h.1) (fun v w1 h => by obtain ⟨_, e, hw⟩ := h; exact ⟨_, e, by rw [hw]; exact ho⟩)) (fun w1 h1 => c_X3_at l G w1 mo M n I B thr ord mny h1 ch hC.1 hC.2.1 d th fl k) (fun E hE => exc1_th (and_congr okD_iff (and_congr okT_iff wi_iff2) |>.trans (by simp only [Bool.and_eq_true])) hE) ?_
  rintro v9 wa ⟨⟨a1, a2, a3, a4⟩, rfl, rfl⟩
  obtain ⟨d', hd, rfl⟩ := ok_nI (N := 6) (by decide) a1.1 a1.2
  refine ⟨_, _, _, _, _, _, _, _, rfl, hT, fr.rf, hA, and3_t (by rw [okD_iff.mp a1, okT_iff.mp a2, wi_iff2.mp ⟨a3, a4⟩]; rfl) rfl rfl, ?_⟩
  rintro w1 xx w2 ⟨d2, hd2, e1, hx, I', B', ord', mny', hs, hR2, hf2⟩
  obtain rfl : d' = d2 := (nI_eq (by omega) (by omega)).mp e1
  exact ⟨by rw [hx, hC.atEq hd a2 a3 a4], _, _, _, _, hR2, hf2, hC.scr hs⟩
theorem frI_oI (q : Option Nat) : frI q = oI q := by cases q <;> rfl
theorem neg_iff {k : Int32} : ¬ k < 0 ↔ (!decide (k < 0)) = true := by simp
set_option maxHeartbeats 4000000 in
set_option maxRecDepth 100000 in
theorem cc_place (l : Launch) (G : hD) {x mo ou : Nat} {w : hW} (hI : LWI G x mo ou w) (d th k : Int32) : callOk l G x mo ou yL_place (Cond.codeWith yL_place cL_place 6 (some .int) [(0, 12, 15, 13)]) { frames := 8, cells := 3, slots := 18, locals := 126 } [.ref x, .int d, .int th, .int k, .ref ou] yX3_place (Cond.code yX3_place cX3_place 4 (some .int)) { frames := 4, cells := 0, slots := 0, locals := 130 } [.ref mo, .int d, .int th, .int k] (fun _ => True) w := by
  obtain ⟨tl, rw, ng, cx, un, ad, n, ti, ch, rl, gv, f, M, I, B, thr, ord, mny, ov, hT, hR, hC, hA, ho⟩ := hI
  have hn : n ≤ 120 := hC.2.2.2.2.2.2.2.2.2.2.2
  have hlb : lnkB n ti := hC.2.2.2.2.2.2.2.2.2.2.1
  have hnd : ch.Nodup := hC.1.nd
  have hall : ∀ i, i < n → i ∈ ch := fun i hi => (hC.1.1 i).mpr hi
  have hou9 : ¬ CD x tl rw ng cx un ad n ou := fun hq => (hA.1 ou hq).2 rfl
  have hso9 : ∀ i, i < n → (ti i).so ≤ 6 := fun i hi => (hC.2.2.1 i hi).2.2.2.2.2.2.2.1
  refine call_mk trivial (fun _ _ _ => trivial) cd1_ne hT hR hC hA ho (c_L_place l G w x ou ov d th k hT.1 (c_X2_place l G w x tl rw ng cx un ad n ti ch rl gv f hT d th k) (fun E h => h.1) (fun v w1 h => by obtain ⟨_, _, _, e, hw⟩ := h; exact ⟨_, e, by rw [hw]; exact ho⟩)) (fun w1 h1 => c_X3_place l G w1 mo M n I B thr ord mny h1 ch hC.1 hC.2.1 d th k) (fun E hE => exc1_th (and_congr okD_iff (and_congr okT_iff neg_iff) |>.trans (by simp only [Bool.and_eq_true])) hE) ?_
  rintro v9 wa ⟨a1, a2, a4, rfl, rfl⟩
  obtain ⟨d', hd, rfl⟩ := ok_nI (N := 6) (by decide) a1.1 a1.2
  obtain ⟨t', ht, rfl⟩ := ok_nI (N := 16) (by decide) a2.1 a2.2
  refine ⟨_, _, _, _, _, _, _, _, rfl, hT, fr.rf, hA, and3_t (by rw [okD_iff.mp a1, okT_iff.mp a2, neg_iff.mp a4]; rfl) rfl rfl, ?_⟩
  rintro w1 xx w2 ⟨d2, hd2, e1, hx, I', B', ord', mny', hs, hR2, hf2⟩
  obtain rfl : d' = d2 := (nI_eq (by omega) (by omega)).mp e1
  exact ⟨by rw [hx, nI_clamp (by omega), hC.row hd ht, frI_oI], _, _, _, _, hR2, hf2, hC.scr hs⟩
theorem CM.opT {n : Nat} {ti : Nat → TI} {ch : List Nat} {rl : Nat → List Nat} {gv : Nat → Nat} {I : Nat → Nat → Int32} {B : Nat → Nat → Bool} (hC : CM n ti ch rl gv I B) (b : Nat → Bool) : CM n (fun i => opT (ti i) (b i)) ch rl gv I B := hC
set_option maxHeartbeats 4000000 in
set_option maxRecDepth 100000 in
theorem cc_order (l : Launch) (G : hD) {x mo ou : Nat} {w : hW} (hI : LWI G x mo ou w) (d p9 q9 : Int32) : callOk l G x mo ou yL_order (Cond.codeWith yL_order cL_order 6 (some .int) [(0, 12, 15, 13)]) { frames := 8, cells := 3, slots := 18, locals := 125 } [.ref x, .int d, .int p9, .int q9, .ref ou] yX3_order (Cond.code yX3_order cX3_order 4 (some .int)) { frames := 4, cells := 0, slots := 0, locals := 130 } [.ref mo, .int d, .int p9, .int q9] (fun _ => True) w := by
  obtain ⟨tl, rw, ng, cx, un, ad, n, ti, ch, rl, gv, f, M, I, B, thr, ord, mny, ov, hT, hR, hC, hA, ho⟩ := hI
  have hn : n ≤ 120 := hC.2.2.2.2.2.2.2.2.2.2.2
  have hlb : lnkB n ti := hC.2.2.2.2.2.2.2.2.2.2.1
  have hnd : ch.Nodup := hC.1.nd
  have hall : ∀ i, i < n → i ∈ ch := fun i hi => (hC.1.1 i).mpr hi
  have hou9 : ¬ CD x tl rw ng cx un ad n ou := fun hq => (hA.1 ou hq).2 rfl
  have hso9 : ∀ i, i < n → (ti i).so ≤ 6 := fun i hi => (hC.2.2.1 i hi).2.2.2.2.2.2.2.1
  refine call_mk trivial (fun _ _ _ => trivial) cd1_ne hT hR hC hA ho (c_L_order l G w x ou ov d p9 q9 hT.1 (c_X2_order l G w x tl rw ng cx un ad n ti ch rl gv f hT hall hnd hC.relOk d p9 q9) (fun E h => h.1) (fun v w1 h => by obtain ⟨_, _, _, _, _, _, _, _, _, e, _, hf⟩ := h; exact ⟨_, e, fr_use hf hou9 ho⟩)) (fun w1 h1 => c_X3_order l G w1 mo M n I B thr ord mny h1 ch hC.1 hC.2.1 hC.mrelOk d p9 q9) (fun E hE => exc1_th (and_congr okD_iff (and_congr okT_iff okT_iff) |>.trans (by simp only [Bool.and_eq_true])) hE) ?_
  rintro v9 wa ⟨a1, pa, qa, hp, hq, rfl, rfl, f0, hf0, rfl, hT', hfr⟩
  obtain ⟨d', hd, rfl⟩ := ok_nI (N := 6) (by decide) a1.1 a1.2
  have t1 : okT (nI pa) := ⟨nI_pos (by omega), nI_lt (b := 16) hp (by decide)⟩
  have t2 : okT (nI qa) := ⟨nI_pos (by omega), nI_lt (b := 16) hq (by decide)⟩
  refine ⟨_, _, _, _, _, _, _, _, rfl, hT', hfr, hA, and3_t (by rw [okD_iff.mp a1, okT_iff.mp t1, okT_iff.mp t2]; rfl) rfl rfl, ?_⟩
  rintro w1 xx w2 ⟨d2, x2, y2, hd2, hx2, hy2, e1, e2, e3, hx, I', B', ord', mny', hs, hR2, hf2⟩
  obtain rfl : d' = d2 := (nI_eq (by omega) (by omega)).mp e1
  obtain rfl : pa = x2 := (nI_eq (by omega) (by omega)).mp e2
  obtain rfl : qa = y2 := (nI_eq (by omega) (by omega)).mp e3
  exact ⟨by rw [hx, hC.order hd hp hq hf0], _, _, _, _, hR2, hf2, (hC.scr hs).opT _⟩
set_option maxHeartbeats 4000000 in
set_option maxRecDepth 100000 in
theorem cc_open (l : Launch) (G : hD) {x mo ou : Nat} {w : hW} (hI : LWI G x mo ou w) (d k : Int32) : callOk l G x mo ou yL_open (Cond.codeWith yL_open cL_open 5 (some .int) [(0, 10, 13, 13)]) { frames := 8, cells := 2, slots := 12, locals := 126 } [.ref x, .int d, .int k, .ref ou] yX3_open (Cond.code yX3_open cX3_open 3 (some .int)) { frames := 4, cells := 0, slots := 0, locals := 130 } [.ref mo, .int d, .int k] (fun _ => True) w := by
  obtain ⟨tl, rw, ng, cx, un, ad, n, ti, ch, rl, gv, f, M, I, B, thr, ord, mny, ov, hT, hR, hC, hA, ho⟩ := hI
  have hn : n ≤ 120 := hC.2.2.2.2.2.2.2.2.2.2.2
  have hlb : lnkB n ti := hC.2.2.2.2.2.2.2.2.2.2.1
  have hnd : ch.Nodup := hC.1.nd
  have hall : ∀ i, i < n → i ∈ ch := fun i hi => (hC.1.1 i).mpr hi
  have hou9 : ¬ CD x tl rw ng cx un ad n ou := fun hq => (hA.1 ou hq).2 rfl
  have hso9 : ∀ i, i < n → (ti i).so ≤ 6 := fun i hi => (hC.2.2.1 i hi).2.2.2.2.2.2.2.1
  refine call_mk trivial (fun _ _ _ => trivial) cd1_ne hT hR hC hA ho (c_L_open l G w x ou ov d k hT.1 (c_X2_open l G w x tl rw ng cx un ad n ti ch rl gv f hT hall hnd hC.relOk d k) (fun E h => h.1) (fun v w1 h => by obtain ⟨_, _, _, _, e, _, hf⟩ := h; exact ⟨_, e, fr_use hf hou9 ho⟩)) (fun w1 h1 => c_X3_open l G w1 mo M n I B thr ord mny h1 ch hC.1 hC.2.1 hC.mrelOk d k) (fun E hE => exc1_th (and_congr okD_iff neg_iff |>.trans (by simp only [Bool.and_eq_true])) hE) ?_
  rintro v9 wa ⟨a1, a2, f0, hf0, rfl, hT', hfr⟩
  obtain ⟨d', hd, rfl⟩ := ok_nI (N := 6) (by decide) a1.1 a1.2
  refine ⟨_, _, _, _, _, _, _, _, rfl, hT', hfr, hA, and3_t (by rw [okD_iff.mp a1, neg_iff.mp a2]; rfl) rfl rfl, ?_⟩
  rintro w1 xx w2 ⟨d2, hd2, e1, hx, I', B', ord', mny', hs, hR2, hf2⟩
  obtain rfl : d' = d2 := (nI_eq (by omega) (by omega)).mp e1
  exact ⟨by rw [hx, hC.opens hd a2 hf0], _, _, _, _, hR2, hf2, (hC.scr hs).opT _⟩
theorem isM_iff {n : Nat} (hn : n ≤ 120) {t : Int32} : isM n t ↔ (!decide (t < 0) && decide (t < nI n)) = true := by
  rw [Bool.and_eq_true, decide_eq_true_eq]
  exact ⟨fun h => by have := isM_in (by omega) h; exact ⟨by simp [this.1], this.2⟩, fun h => isM_of (by omega) (by simpa using h.1) h.2⟩
set_option maxHeartbeats 4000000 in
set_option maxRecDepth 100000 in
theorem cc_knows (l : Launch) (G : hD) {x mo ou : Nat} {w : hW} (hI : LWI G x mo ou w) (d t : Int32) : callOk l G x mo ou yL_knows (Cond.codeWith yL_knows cL_knows 5 (some .int) [(0, 17, 20, 13)]) { frames := 8, cells := 2, slots := 12, locals := 126 } [.ref x, .int d, .int t, .ref ou] yX3_knows (Cond.code yX3_knows cX3_knows 3 (some .boolean)) { frames := 2, cells := 0, slots := 0, locals := 60 } [.ref mo, .int d, .int t] (fun z => z = 0 ∨ z = 1) w := by
  obtain ⟨tl, rw, ng, cx, un, ad, n, ti, ch, rl, gv, f, M, I, B, thr, ord, mny, ov, hT, hR, hC, hA, ho⟩ := hI
  have hn : n ≤ 120 := hC.2.2.2.2.2.2.2.2.2.2.2
  have hlb : lnkB n ti := hC.2.2.2.2.2.2.2.2.2.2.1
  have hnd : ch.Nodup := hC.1.nd
  have hall : ∀ i, i < n → i ∈ ch := fun i hi => (hC.1.1 i).mpr hi
  have hou9 : ¬ CD x tl rw ng cx un ad n ou := fun hq => (hA.1 ou hq).2 rfl
  have hso9 : ∀ i, i < n → (ti i).so ≤ 6 := fun i hi => (hC.2.2.1 i hi).2.2.2.2.2.2.2.1
  refine call_mk (Or.inl rfl) (fun z wa h => by obtain ⟨_, ⟨_, _, _, e⟩, _⟩ := h; cases e; exact bI_01 _) cd1_ne hT hR hC hA ho (c_L_knows l G w x ou ov d t hT.1 (c_X2_knows l G w x tl rw ng cx un ad n ti ch rl gv f hT d t) (fun E h => h.1) (fun v w1 h => by obtain ⟨_, ⟨_, _, _, e⟩, hw⟩ := h; exact ⟨_, e, by rw [hw]; exact ho⟩)) (fun w1 h1 => c_X3_knows l G w1 mo M n I B thr ord mny h1 d t) (fun E hE => exc1_th (and_congr okD_iff (isM_iff hn) |>.trans (by simp only [Bool.and_eq_true])) hE) ?_
  rintro v9 wa ⟨a1, ⟨j, hj, rfl, rfl⟩, rfl⟩
  obtain ⟨d', hd, rfl⟩ := ok_nI (N := 6) (by decide) a1.1 a1.2
  refine ⟨_, _, _, _, _, _, _, _, rfl, hT, fr.rf, hA, and3_t (by rw [okD_iff.mp a1, (isM_iff hn).mp ⟨j, hj, rfl⟩]; rfl) rfl rfl, ?_⟩
  rintro w1 xx w2 ⟨d2, t2, hd2, ht2, e1, e2, hx, hR2, hf2⟩
  obtain rfl : d' = d2 := (nI_eq (by omega) (by omega)).mp e1
  obtain rfl : j = t2 := (nI_eq (by omega) (by omega)).mp e2
  exact ⟨by rw [hx, (hC.2.2.2.1 j hj).2.2.1 d' hd], _, _, _, _, hR2, hf2, hC⟩
set_option maxHeartbeats 4000000 in
set_option maxRecDepth 100000 in
theorem cc_equal (l : Launch) (G : hD) {x mo ou : Nat} {w : hW} (hI : LWI G x mo ou w) (d o : Int32) : callOk l G x mo ou yL_equal (Cond.codeWith yL_equal cL_equal 5 (some .int) [(0, 17, 20, 13)]) { frames := 8, cells := 2, slots := 12, locals := 125 } [.ref x, .int d, .int o, .ref ou] yX3_equal (Cond.code yX3_equal cX3_equal 5 (some .boolean)) { frames := 2, cells := 0, slots := 0, locals := 60 } [.ref mo, .int d, .int o] (fun z => z = 0 ∨ z = 1) w := by
  obtain ⟨tl, rw, ng, cx, un, ad, n, ti, ch, rl, gv, f, M, I, B, thr, ord, mny, ov, hT, hR, hC, hA, ho⟩ := hI
  have hn : n ≤ 120 := hC.2.2.2.2.2.2.2.2.2.2.2
  have hlb : lnkB n ti := hC.2.2.2.2.2.2.2.2.2.2.1
  have hnd : ch.Nodup := hC.1.nd
  have hall : ∀ i, i < n → i ∈ ch := fun i hi => (hC.1.1 i).mpr hi
  have hou9 : ¬ CD x tl rw ng cx un ad n ou := fun hq => (hA.1 ou hq).2 rfl
  have hso9 : ∀ i, i < n → (ti i).so ≤ 6 := fun i hi => (hC.2.2.1 i hi).2.2.2.2.2.2.2.1
  refine call_mk (Or.inl rfl) (fun z wa h => by obtain ⟨_, _, e, _⟩ := h; cases e; exact bI_01 _) cd1_ne hT hR hC hA ho (c_L_equal l G w x ou ov d o hT.1 (c_X2_equal l G w x tl rw ng cx un ad n ti ch rl gv f hT d o) (fun E h => h.1) (fun v w1 h => by obtain ⟨_, _, e, hw⟩ := h; exact ⟨_, e, by rw [hw]; exact ho⟩)) (fun w1 h1 => c_X3_equal l G w1 mo M n I B thr ord mny h1 d o) (fun E hE => exc1_th (and_congr okD_iff okD_iff |>.trans (by simp only [Bool.and_eq_true])) hE) ?_
  rintro v9 wa ⟨a1, a2, rfl, rfl⟩
  obtain ⟨d', hd, rfl⟩ := ok_nI (N := 6) (by decide) a1.1 a1.2
  obtain ⟨o', ho', rfl⟩ := ok_nI (N := 6) (by decide) a2.1 a2.2
  refine ⟨_, _, _, _, _, _, _, _, rfl, hT, fr.rf, hA, and3_t (by rw [okD_iff.mp a1, okD_iff.mp a2]; rfl) rfl rfl, ?_⟩
  rintro w1 xx w2 ⟨d2, o2, hd2, ho2, e1, e2, hx, hR2, hf2⟩
  obtain rfl : d' = d2 := (nI_eq (by omega) (by omega)).mp e1
  obtain rfl : o' = o2 := (nI_eq (by omega) (by omega)).mp e2
  exact ⟨by rw [hx, hC.equal hd ho'], _, _, _, _, hR2, hf2, hC⟩
set_option maxHeartbeats 4000000 in
set_option maxRecDepth 100000 in
theorem cc_about (l : Launch) (G : hD) {x mo ou : Nat} {w : hW} (hI : LWI G x mo ou w) (d t q : Int32) : callOk l G x mo ou yL_about (Cond.codeWith yL_about cL_about 6 (some .int) [(0, 12, 15, 13), (0, 12, 19, 15)]) { frames := 9, cells := 4, slots := 24, locals := 151 } [.ref x, .int d, .int t, .int q, .ref ou] yX3_about (Cond.code yX3_about cX3_about 4 (some .int)) { frames := 2, cells := 0, slots := 0, locals := 60 } [.ref mo, .int d, .int t, .int q] (fun _ => True) w := by
  obtain ⟨tl, rw, ng, cx, un, ad, n, ti, ch, rl, gv, f, M, I, B, thr, ord, mny, ov, hT, hR, hC, hA, ho⟩ := hI
  have hn : n ≤ 120 := hC.2.2.2.2.2.2.2.2.2.2.2
  have hlb : lnkB n ti := hC.2.2.2.2.2.2.2.2.2.2.1
  have hnd : ch.Nodup := hC.1.nd
  have hall : ∀ i, i < n → i ∈ ch := fun i hi => (hC.1.1 i).mpr hi
  have hou9 : ¬ CD x tl rw ng cx un ad n ou := fun hq => (hA.1 ou hq).2 rfl
  have hso9 : ∀ i, i < n → (ti i).so ≤ 6 := fun i hi => (hC.2.2.1 i hi).2.2.2.2.2.2.2.1
  refine call_mk trivial (fun _ _ _ => trivial) cd2_ne hT hR hC hA ho (c_L_about l G w x ou ov d t q hT.1 (c_X2_about l G w x tl rw ng cx un ad n ti ch rl gv f hT d t q) (fun E h => exc2_E h) (fun v w1 h => by obtain ⟨_, _, ⟨_, _, _, _, e⟩, hw⟩ := h; exact ⟨_, e, by rw [hw]; exact ho⟩)) (fun w1 h1 => c_X3_about l G w1 mo M n I B thr ord mny h1 d t q) (fun E hE => exc2_th (kOf_iff hC) wi_iff hE) ?_
  rintro v9 wa ⟨a1, a2, ⟨j, hj, rfl, hk, rfl⟩, rfl⟩
  refine ⟨_, _, _, _, _, _, _, _, rfl, hT, fr.rf, hA, and3_t ((kOf_iff hC).mp ⟨a1, j, hj, rfl, hk⟩) (wi_iff.mp a2) rfl, ?_⟩
  rintro w1 xx w2 ⟨d2, t2, hd2, ht2, e1, e2, hx, hR2, hf2⟩
  obtain rfl : j = t2 := (nI_eq (by omega) (by omega)).mp e2
  have g := hC.2.2.1 j hj
  refine ⟨?_, _, _, _, _, hR2, hf2, hC⟩
  rw [hx]; unfold maV abV; rw [g.1, g.2.1, g.2.2.1, g.2.2.2.2.1]
set_option maxHeartbeats 4000000 in
set_option maxRecDepth 100000 in
theorem cc_count (l : Launch) (G : hD) {x mo ou : Nat} {w : hW} (hI : LWI G x mo ou w) (q : Int32) : callOk l G x mo ou yL_count (Cond.codeWith yL_count cL_count 4 (some .int) [(0, 9, 12, 15)]) { frames := 7, cells := 1, slots := 6, locals := 103 } [.ref x, .int q, .ref ou] yX3_count (Cond.code yX3_count cX3_count 6 (some .int)) { frames := 2, cells := 0, slots := 0, locals := 60 } [.ref mo, .int q] (fun _ => True) w := by
  obtain ⟨tl, rw, ng, cx, un, ad, n, ti, ch, rl, gv, f, M, I, B, thr, ord, mny, ov, hT, hR, hC, hA, ho⟩ := hI
  have hn : n ≤ 120 := hC.2.2.2.2.2.2.2.2.2.2.2
  have hlb : lnkB n ti := hC.2.2.2.2.2.2.2.2.2.2.1
  have hnd : ch.Nodup := hC.1.nd
  have hall : ∀ i, i < n → i ∈ ch := fun i hi => (hC.1.1 i).mpr hi
  have hou9 : ¬ CD x tl rw ng cx un ad n ou := fun hq => (hA.1 ou hq).2 rfl
  have hso9 : ∀ i, i < n → (ti i).so ≤ 6 := fun i hi => (hC.2.2.1 i hi).2.2.2.2.2.2.2.1
  refine call_mk trivial (fun _ _ _ => trivial) cd1_ne hT hR hC hA ho (c_L_count l G w x ou ov q hT.1 (c_X2_count l G w x tl rw ng cx un ad n ti ch rl gv f hT q) (fun E h => h.1) (fun v w1 h => by obtain ⟨_, e, hw⟩ := h; exact ⟨_, e, by rw [hw]; exact ho⟩)) (fun w1 h1 => c_X3_count l G w1 mo M n I B thr ord mny h1 q) (fun E hE => exc9_th wi_iff hE) ?_
  rintro v9 wa ⟨a1, rfl, rfl⟩
  refine ⟨_, _, _, _, _, _, _, _, rfl, hT, fr.rf, hA, and3_t (wi_iff.mp a1) rfl rfl, ?_⟩
  rintro w1 xx w2 ⟨hx, hR2, hf2⟩
  refine ⟨?_, _, _, _, _, hR2, hf2, hC⟩
  rw [hx]; unfold ctV
  by_cases e : q = 0
  · rw [if_pos e, if_pos e]
  · rw [if_neg e, if_neg e]
    by_cases e1 : q = 1
    · rw [if_pos e1, hC.fcount, e1]
    · rw [if_neg e1, hC.ucount e1]
