/-! ===== a call of the law: the class and the model answer alike ===== -/
theorem MR.mv {G : hD} {mo : Nat} {M : Nat → Nat} {n : Nat} {I : Nat → Nat → Int32} {B : Nat → Nat → Bool} {thr ord mny : Int32} {w w' : hW} (h : MR G mo M n I B thr ord mny w) (hm : ∀ q e, MD mo M q → w q = some e → w' q = some e) : MR G mo M n I B thr ord mny w' := by
  obtain ⟨h0, r0, r1, r2, r3, r4, r5, r6, r7, r8, r9, r10, r11, r12, hinj, hn⟩ := h
  exact ⟨hm _ _ MD.m h0, hm _ _ (MD.a 0 (by decide)) r0, hm _ _ (MD.a 1 (by decide)) r1, hm _ _ (MD.a 2 (by decide)) r2, hm _ _ (MD.a 3 (by decide)) r3, hm _ _ (MD.a 4 (by decide)) r4, hm _ _ (MD.a 5 (by decide)) r5, hm _ _ (MD.a 6 (by decide)) r6, hm _ _ (MD.a 7 (by decide)) r7, hm _ _ (MD.a 8 (by decide)) r8, hm _ _ (MD.a 9 (by decide)) r9, hm _ _ (MD.a 10 (by decide)) r10, hm _ _ (MD.a 11 (by decide)) r11, hm _ _ (MD.a 12 (by decide)) r12, hinj, hn⟩
theorem MR.has {G : hD} {mo : Nat} {M : Nat → Nat} {n : Nat} {I : Nat → Nat → Int32} {B : Nat → Nat → Bool} {thr ord mny : Int32} {w : hW} (h : MR G mo M n I B thr ord mny w) {q : Nat} (hq : MD mo M q) : w q ≠ none := by
  obtain ⟨h0, r0, r1, r2, r3, r4, r5, r6, r7, r8, r9, r10, r11, r12, hinj, hn⟩ := h
  rcases hq with rfl | ⟨k, hk, rfl⟩
  · rw [h0]; exact fun h => by cases h
  · rcases (by omega : k = 0 ∨ k = 1 ∨ k = 2 ∨ k = 3 ∨ k = 4 ∨ k = 5 ∨ k = 6 ∨ k = 7 ∨ k = 8 ∨ k = 9 ∨ k = 10 ∨ k = 11 ∨ k = 12) with rfl | rfl | rfl | rfl | rfl | rfl | rfl | rfl | rfl | rfl | rfl | rfl | rfl
    · rw [r0]; exact fun h => by cases h
    · rw [r1]; exact fun h => by cases h
    · rw [r2]; exact fun h => by cases h
    · rw [r3]; exact fun h => by cases h
    · rw [r4]; exact fun h => by cases h
    · rw [r5]; exact fun h => by cases h
    · rw [r6]; exact fun h => by cases h
    · rw [r7]; exact fun h => by cases h
    · rw [r8]; exact fun h => by cases h
    · rw [r9]; exact fun h => by cases h
    · rw [r10]; exact fun h => by cases h
    · rw [r11]; exact fun h => by cases h
    · rw [r12]; exact fun h => by cases h
theorem TM.mv {G : hD} {x tl rw ng cx un : Nat} {ad : Nat → Nat} {n : Nat} {ti : Nat → TI} {ch : List Nat} {rl : Nat → List Nat} {gv : Nat → Nat} {f : Nat → Int32} {w w' : hW} (h : TM G x tl rw ng cx un ad n ti ch rl gv f w) (hm : ∀ q e, CD x tl rw ng cx un ad n q → w q = some e → w' q = some e) : TM G x tl rw ng cx un ad n ti ch rl gv f w' := by
  obtain ⟨h1, ⟨tf, h2, h2'⟩, ⟨rf, h3, h3'⟩, ⟨gf, h4, h4'⟩, h5, h6, h7, h8⟩ := h
  exact ⟨hm _ _ (Or.inl rfl) h1, ⟨tf, hm _ _ (Or.inr (Or.inl rfl)) h2, h2'⟩, ⟨rf, hm _ _ (Or.inr (Or.inr (Or.inl rfl))) h3, h3'⟩, ⟨gf, hm _ _ (Or.inr (Or.inr (Or.inr (Or.inl rfl)))) h4, h4'⟩, hm _ _ (Or.inr (Or.inr (Or.inr (Or.inr (Or.inl rfl))))) h5, hm _ _ (Or.inr (Or.inr (Or.inr (Or.inr (Or.inr (Or.inl rfl)))))) h6, fun i hi => hm _ _ (Or.inr (Or.inr (Or.inr (Or.inr (Or.inr (Or.inr ⟨i, hi, rfl⟩)))))) (h7 i hi), h8⟩
def AP (x tl rw ng cx un : Nat) (ad : Nat → Nat) (n mo : Nat) (M : Nat → Nat) (ou : Nat) : Prop := (∀ q, CD x tl rw ng cx un ad n q → ¬ MD mo M q ∧ q ≠ ou) ∧ ¬ MD mo M ou
/-- between two calls of the law -/
def LWI (G : hD) (x mo ou : Nat) (w : hW) : Prop := ∃ (tl rw ng cx un : Nat) (ad : Nat → Nat) (n : Nat) (ti : Nat → TI) (ch : List Nat) (rl : Nat → List Nat) (gv : Nat → Nat) (f : Nat → Int32) (M : Nat → Nat) (I : Nat → Nat → Int32) (B : Nat → Nat → Bool) (thr ord mny : Int32) (ov : Nat → Int64), TM G x tl rw ng cx un ad n ti ch rl gv f w ∧ MR G mo M n I B thr ord mny w ∧ CM n ti ch rl gv I B ∧ AP x tl rw ng cx un ad n mo M ou ∧ w ou = some (eJ G 1 ov)
/-- what the law needs of a call -/
def callOk (l : Launch) (G : hD) (x mo ou : Nat) (yL : MethodName) (cL : Cond) (rL : Room) (aL : List Value) (yM : MethodName) (cM : Cond) (rM : Room) (aM : List Value) (Z : Int32 → Prop) (w : hW) : Prop :=
  ∃ pst : Option Value → hW → Prop, h_Met l yL cL rL G aL w pst noX ∧ ∀ r w1, pst r w1 → ∃ k : Int32, r = some (.int k) ∧ (∃ fs, w1 mo = some (eO 3 fs)) ∧ ∃ pM : Option Value → hW → Prop, h_Met l yM cM rM G aM w1 pM noX ∧ ∀ b w2, pM b w2 → ∃ z : Int32, b = some (.int z) ∧ Z z ∧ (∃ M n I B ord mny, MR G mo M n I B k ord mny w2) ∧ LWI G x mo ou w2 ∧ ∃ ov : Nat → Int64, w2 ou = some (eJ G 1 ov) ∧ (k = 0 → ov 0 = z.toInt64)
section CO
variable {l : Launch} {G : hD} {x mo ou tl rw ng cx un : Nat} {ad : Nat → Nat} {n : Nat} {ti : Nat → TI} {ch : List Nat} {rl : Nat → List Nat} {gv : Nat → Nat} {f : Nat → Int32} {M : Nat → Nat} {I : Nat → Nat → Int32} {B : Nat → Nat → Bool} {thr ord mny : Int32} {ov : Nat → Int64} {w : hW}
theorem fr_use {D : Nat → Prop} {w w' : hW} (h : fr D w w') {q : Nat} {e : va_E} (hq : ¬ D q) (hw : w q = some e) : w' q = some e := h q e hq hw
theorem AP.new (h : AP x tl rw ng cx un ad n mo M ou) (hR : MR G mo M n I B thr ord mny w) (ho : w ou = some (eJ G 1 ov)) {q : Nat} (hq : w q = none) : AP x tl rw ng cx un (va_up ad n q) (n + 1) mo M ou := by
  have hq1 : ¬ MD mo M q := fun hm => hR.has hm hq
  have hq2 : q ≠ ou := fun e => by rw [e, ho] at hq; cases hq
  refine ⟨fun z hz => ?_, h.2⟩
  rcases hz with e | e | e | e | e | e | ⟨i, hi, e⟩
  · exact h.1 z (Or.inl e)
  · exact h.1 z (Or.inr (Or.inl e))
  · exact h.1 z (Or.inr (Or.inr (Or.inl e)))
  · exact h.1 z (Or.inr (Or.inr (Or.inr (Or.inl e))))
  · exact h.1 z (Or.inr (Or.inr (Or.inr (Or.inr (Or.inl e)))))
  · exact h.1 z (Or.inr (Or.inr (Or.inr (Or.inr (Or.inr (Or.inl e))))))
  · by_cases hin : i = n
    · subst hin; rw [va_up_self] at e; rw [e]; exact ⟨hq1, hq2⟩
    · rw [va_up_ne _ _ hin] at e; exact h.1 z (Or.inr (Or.inr (Or.inr (Or.inr (Or.inr (Or.inr ⟨i, by omega, e⟩))))))
theorem call_mk {yL : MethodName} {cL : Cond} {rL : Room} {aL : List Value} {yM : MethodName} {cM : Cond} {rM : Room} {aM : List Value} {cd : String → Int32} {px : String → Prop} {pX : Option Value → hW → Prop} {p1 p2 p3 : Bool} {K : hW → Int32 → hW → Prop} {Z : Int32 → Prop} (hZ0 : Z 0) (hZ : ∀ z wa, pX (some (.int z)) wa → Z z)
    (hcd : ∀ E, cd E ≠ 0) (hT : TM G x tl rw ng cx un ad n ti ch rl gv f w) (hR : MR G mo M n I B thr ord mny w) (hC : CM n ti ch rl gv I B) (hA : AP x tl rw ng cx un ad n mo M ou) (ho : w ou = some (eJ G 1 ov))
    (hH : h_Met l yL cL rL G aL w (lwP G cd px pX w ou ov) noX)
    (hM : ∀ w1, MR G mo M n I B thr ord mny w1 → h_Met l yM cM rM G aM w1 (mP G mo M n I B ord mny w1 p1 p2 p3 (K w1)) noX)
    (hE : ∀ E, px E → (p1 && (p2 && p3)) = false ∧ thC p1 p2 p3 = cd E)
    (hX : ∀ v wa, pX v wa → ∃ z ad' n' ti' ch' rl' gv' f', v = some (.int z) ∧ TM G x tl rw ng cx un ad' n' ti' ch' rl' gv' f' wa ∧ fr (CD x tl rw ng cx un ad n) w wa ∧ AP x tl rw ng cx un ad' n' mo M ou ∧ (p1 && (p2 && p3)) = true ∧ ∀ w1 xx w2, K w1 xx w2 → xx = z ∧ ∃ I' B' ord' mny', MR G mo M n' I' B' 0 ord' mny' w2 ∧ fr (MD mo M) w1 w2 ∧ CM n' ti' ch' rl' gv' I' B') :
    callOk l G x mo ou yL cL rL aL yM cM rM aM Z w := by
  refine ⟨_, hH, fun r w1 hr => ?_⟩
  rcases hr with ⟨E, hp, rfl, rfl⟩ | ⟨z, wa, hp, rfl, rfl⟩
  · refine ⟨_, rfl, ⟨_, hR.1⟩, _, hM w1 hR, fun b w2 hb => ?_⟩
    rcases hb with ⟨e1, rfl, hR2, hf2⟩ | ⟨e1, _⟩
    · rw [(hE E hp).2] at hR2
      refine ⟨0, rfl, hZ0, ⟨_, _, _, _, _, _, hR2⟩, ⟨tl, rw, ng, cx, un, ad, n, ti, ch, rl, gv, f, M, I, B, _, _, _, ov, hT.mv (fun q e hq hw => fr_use hf2 (hA.1 q hq).1 hw), hR2, hC, hA, fr_use hf2 hA.2 ho⟩, ov, fr_use hf2 hA.2 ho, fun e => absurd e (hcd E)⟩
    · rw [(hE E hp).1] at e1; cases e1
  · obtain ⟨z', ad', n', ti', ch', rl', gv', f', hv, hT', hf, hA', hp9, hK⟩ := hX _ wa hp
    cases hv
    have hou : wa ou = some (eJ G 1 ov) := fr_use hf (fun hq => (hA.1 ou hq).2 rfl) ho
    have hRa : MR G mo M n I B thr ord mny wa := hR.mv (fun q e hq hw => fr_use hf (fun hcd => (hA.1 q hcd).1 hq) hw)
    have hR1 : MR G mo M n I B thr ord mny (h_up wa ou (eJ G 1 (vp_updL ov 0 z.toInt64))) := hRa.mv (fun q e hq hw => (h_up_n (fun e9 : q = ou => hA.2 (e9 ▸ hq))).trans hw)
    have hT1 : TM G x tl rw ng cx un ad' n' ti' ch' rl' gv' f' (h_up wa ou (eJ G 1 (vp_updL ov 0 z.toInt64))) := hT'.mv (fun q e hq hw => (h_up_n (hA'.1 q hq).2).trans hw)
    refine ⟨0, rfl, ⟨_, hR1.1⟩, _, hM _ hR1, fun b w2 hb => ?_⟩
    rcases hb with ⟨e1, _⟩ | ⟨e1, xx, rfl, hk⟩
    · rw [hp9] at e1; cases e1
    · obtain ⟨e2, I', B', ord', mny', hR2, hf2, hC2⟩ := hK _ _ _ hk
      subst e2
      have ho2 := fr_use hf2 hA.2 (h_up_s wa ou (eJ G 1 (vp_updL ov 0 xx.toInt64)))
      refine ⟨xx, rfl, hZ _ _ hp, ⟨_, _, _, _, _, _, hR2⟩, ⟨tl, rw, ng, cx, un, ad', n', ti', ch', rl', gv', f', M, I', B', _, _, _, _, hT1.mv (fun q e hq hw => fr_use hf2 (hA'.1 q hq).1 hw), hR2, hC2, hA', ho2⟩, _, ho2, fun _ => ?_⟩
      simp [vp_updL]
end CO
/-! refusals -/
theorem exc3_th {P1 P2 P3 : Prop} {p1 p2 p3 : Bool} {E : String} (h1 : P1 ↔ p1 = true) (h2 : P1 → (P2 ↔ p2 = true)) (h3 : P3 ↔ p3 = true) (h : exc3 P1 P2 P3 E) : (p1 && (p2 && p3)) = false ∧ thC p1 p2 p3 = cd3 E := by
  rcases h with ⟨rfl, a⟩ | ⟨rfl, a, b⟩ | ⟨rfl, a, b, c⟩
  · have : p1 = false := by cases p1 <;> simp_all
    subst this; exact ⟨rfl, cd3_nNS.symm⟩
  · have e1 := h1.mp a
    have : p2 = false := by have := h2 a; cases p2 <;> simp_all
    subst e1; subst this; exact ⟨rfl, cd3_nIA.symm⟩
  · have e1 := h1.mp a
    have e2 := (h2 a).mp b
    have : p3 = false := by cases p3 <;> simp_all
    subst e1; subst e2; subst this; exact ⟨rfl, cd3_nIS.symm⟩
theorem exc1_th {P1 : Prop} {p1 : Bool} {E : String} (h1 : P1 ↔ p1 = true) (h : exc1 P1 E) : (p1 && (true && true)) = false ∧ thC p1 true true = cd1 E := by
  obtain ⟨rfl, a⟩ := h
  have : p1 = false := by cases p1 <;> simp_all
  subst this; exact ⟨rfl, rfl⟩
theorem exc2_th {P1 P2 : Prop} {p1 p2 : Bool} {E : String} (h1 : P1 ↔ p1 = true) (h2 : P2 ↔ p2 = true) (h : exc2 P1 P2 E) : (p1 && (p2 && true)) = false ∧ thC p1 p2 true = cd2 E := by
  rcases h with ⟨rfl, a⟩ | ⟨rfl, a, b⟩
  · have : p1 = false := by cases p1 <;> simp_all
    subst this; exact ⟨rfl, cd2_nNS.symm⟩
  · have e1 := h1.mp a
    have : p2 = false := by cases p2 <;> simp_all
    subst e1; subst this; exact ⟨rfl, cd2_nIA.symm⟩
theorem excN_th {P1 P2 : Prop} {p1 p2 : Bool} {E : String} (h1 : P1 ↔ p1 = true) (h2 : P1 → (P2 ↔ p2 = true)) (h : excN P1 P2 E) : (p1 && (p2 && true)) = false ∧ thC p1 p2 true = cd2 E := by
  rcases h with ⟨rfl, a⟩ | ⟨rfl, a, b⟩
  · have : p1 = false := by cases p1 <;> simp_all
    subst this; exact ⟨rfl, cd2_nNS.symm⟩
  · have e1 := h1.mp a
    have : p2 = false := by have := h2 a; cases p2 <;> simp_all
    subst e1; subst this; exact ⟨rfl, cd2_nIS.symm⟩
theorem exc9_th {P1 : Prop} {p1 : Bool} {E : String} (h1 : P1 ↔ p1 = true) (h : exc9 P1 E) : (p1 && (true && true)) = false ∧ thC p1 true true = cd1 E := by
  obtain ⟨rfl, a⟩ := h
  have : p1 = false := by cases p1 <;> simp_all
  subst this; exact ⟨rfl, rfl⟩
theorem cd3_ne (E : String) : cd3 E ≠ 0 := by unfold cd3; split; · decide
                                              · split <;> decide
theorem cd2_ne (E : String) : cd2 E ≠ 0 := by unfold cd2; split <;> decide
theorem cd1_ne (E : String) : cd1 E ≠ 0 := by unfold cd1; decide
theorem okD_iff {d : Int32} : okD d ↔ isDk d = true := by simp only [okD, isDk, Bool.and_eq_true, Bool.not_eq_true', decide_eq_false_iff_not, decide_eq_true_eq]
theorem okT_iff {d : Int32} : okT d ↔ isTh d = true := by simp only [okT, isTh, Bool.and_eq_true, Bool.not_eq_true', decide_eq_false_iff_not, decide_eq_true_eq]
theorem wi_iff {v hi : Int32} : (¬ v < 0 ∧ ¬ hi < v) ↔ wiB v 0 hi = true := by simp only [wiB, Bool.and_eq_true, decide_eq_true_eq, Int32.not_lt]
theorem lt_32 {v : Int32} : v < 32 ↔ ¬ 31 < v := by rw [Int32.lt_iff_toInt_lt, Int32.lt_iff_toInt_lt, show (32 : Int32).toInt = 32 from rfl, show (31 : Int32).toInt = 31 from rfl]; omega
theorem lt_1000 {v : Int32} : v < 1000 ↔ ¬ 999 < v := by rw [Int32.lt_iff_toInt_lt, Int32.lt_iff_toInt_lt, show (1000 : Int32).toInt = 1000 from rfl, show (999 : Int32).toInt = 999 from rfl]; omega
theorem vOk_iff {fl v : Int32} : vOk fl v ↔ wiB v 0 (if fl = 2 then 31 else 999) = true := by
  unfold vOk
  by_cases e : fl = 2
  · rw [if_pos e, if_pos e, lt_32]; exact wi_iff
  · rw [if_neg e, if_neg e, lt_1000]; exact wi_iff
theorem lk_bd {nx : Nat → Option Nat} {N : Nat} : ∀ {l : List Nat} {h : Option Nat}, lk nx h l → (∀ i ∈ l, i < N) → ∀ i ∈ l, ∀ k, nx i = some k → k < N
  | [], _, _, _, i, hi, _, _ => by cases hi
  | j :: l, h, hl, hb, i, hi, k, hk => by
    rcases List.mem_cons.mp hi with e | hi
    · subst e
      have h1 := lk_hd hl.2
      rw [hk] at h1
      exact hb k (List.mem_cons_of_mem _ (mem_hd h1.symm))
    · exact lk_bd hl.2 (fun z hz => hb z (List.mem_cons_of_mem _ hz)) i hi k hk
theorem TM.lnk {G : hD} {x tl rw ng cx un : Nat} {ad : Nat → Nat} {n : Nat} {ti : Nat → TI} {ch : List Nat} {rl : Nat → List Nat} {gv : Nat → Nat} {f : Nat → Int32} {w : hW} (h : TM G x tl rw ng cx un ad n ti ch rl gv f w) (hall : ∀ i, i < n → i ∈ ch) (hne : ∀ i, i < n → ∀ k, (ti i).ne = some k → k < n) : lnkB n ti :=
  fun i hi => ⟨fun k hk => lk_bd h.2.2.2.2.2.2.2.2.2.1 h.2.2.2.2.2.2.2.2.1 i (hall i hi) k hk, hne i hi⟩
theorem kOf_iff {n : Nat} {ti : Nat → TI} {ch : List Nat} {rl : Nat → List Nat} {gv : Nat → Nat} {I : Nat → Nat → Int32} {B : Nat → Nat → Bool} (hC : CM n ti ch rl gv I B) {d t : Int32} : (okD d ∧ isK ti n d t) ↔ kOf n B d t = true := by
  have hn := hC.2.2.2.2.2.2.2.2.2.2.2
  constructor
  · rintro ⟨a, j, hj, rfl, hk⟩
    obtain ⟨d', hd, rfl⟩ := ok_nI (N := 6) (by decide) a.1 a.2
    unfold kOf
    rw [okD_iff.mp a, decide_eq_false (nI_pos (by omega)), decide_eq_true (nI_lt hj (by omega)), nI_clamp (by omega), nI_clamp (by omega), ← (hC.2.2.2.1 j hj).2.2.1 d' hd, hk]
    rfl
  · intro h
    obtain ⟨d', t', hd, ht, rfl, rfl, hB⟩ := kOf_nI hn h
    refine ⟨okD_iff.mpr ?_, t', ht, rfl, by rw [(hC.2.2.2.1 t' ht).2.2.1 d' hd]; exact hB⟩
    unfold kOf at h
    exact (Bool.and_eq_true_iff.mp h).1
