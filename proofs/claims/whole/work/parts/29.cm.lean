/-! ===== one state, seen from both sides ===== -/
def cmF (n : Nat) (ti : Nat → TI) (I : Nat → Nat → Int32) : Prop := ∀ i, i < n → I 0 i = nI (ti i).st ∧ I 1 i = nI (ti i).dk ∧ I 2 i = nI (ti i).so ∧ I 3 i = (ti i).th ∧ I 4 i = nI (ti i).va ∧ (ti i).st ≤ n ∧ (ti i).dk < 6 ∧ (ti i).so ≤ 6 ∧ (ti i).va < 1000
def cmK (n : Nat) (ti : Nat → TI) (B : Nat → Nat → Bool) : Prop := ∀ i, i < n → b6 (ti i).kn ∧ b6 (ti i).en ∧ (∀ d, d < 6 → kb (ti i).kn (nI d) = B 7 (120 * d + i)) ∧ B 6 i = decide ((ti i).kn = 0)
def cmO (n : Nat) (B : Nat → Nat → Bool) : Prop := ∀ i, n ≤ i → i < 120 → B 6 i = false ∧ ∀ d, d < 6 → B 7 (120 * d + i) = false
def cmE (n : Nat) (ti : Nat → TI) (B : Nat → Nat → Bool) : Prop := ∀ i d, i < n → d < 6 → (kb (ti i).en (nI d) = true ↔ ∃ k, k < n ∧ B 7 (120 * d + k) = true ∧ ((ti k).so = 4 ∨ (ti k).so = 6) ∧ (ti k).va = i)
def cmV (n : Nat) (ti : Nat → TI) : Prop := ∀ k, k < n → ((ti k).so = 4 → (ti k).va < n ∧ (ti (ti k).va).so = 3) ∧ ((ti k).so = 6 → (ti k).va < n ∧ (ti (ti k).va).so = 5) ∧ ((ti k).so = 5 → (ti k).va < 256 ∧ (ti k).va / 16 ≠ (ti k).va % 16) ∧ ((ti k).so = 3 → ∃ t, t < 16 ∧ (ti k).th = nI t) ∧ ((ti k).so = 2 → (ti k).va < 32)
def rwQ (ti : Nat → TI) (t i : Nat) : Bool := decide ((ti i).so = 3) && decide ((ti i).th = nI t)
def cmR (n : Nat) (ti : Nat → TI) (ch : List Nat) (rl : Nat → List Nat) (I : Nat → Nat → Int32) (B : Nat → Nat → Bool) : Prop := (∀ t, t < 16 → rl t = lineL I (ch.filter (rwQ ti t))) ∧ ∀ i, i < n → (ti i).so = 3 → I 5 i = -1 ∨ ∃ p, p < n ∧ I 5 i = nI p ∧ (ti p).so = 3 ∧ (ti p).th = (ti i).th ∧ earlB I p i = true ∧ ∀ d, d < 6 → B 7 (120 * d + i) = true → B 7 (120 * d + p) = true
def cmSt (n : Nat) (ti : Nat → TI) (B : Nat → Nat → Bool) : Prop := ∀ i, i < n → ∃ k, k < n ∧ B 7 (120 * (ti i).dk + k) = true ∧ (ti i).st ≤ (ti k).st
def cmG (gv : Nat → Nat) (I : Nat → Nat → Int32) : Prop := ∀ d, d < 6 → gv d ≤ 1000 ∧ I 8 d = nI (gv d)
def CM (n : Nat) (ti : Nat → TI) (ch : List Nat) (rl : Nat → List Nat) (gv : Nat → Nat) (I : Nat → Nat → Int32) (B : Nat → Nat → Bool) : Prop :=
  srt I n ch ∧ ch.length = n ∧ cmF n ti I ∧ cmK n ti B ∧ cmO n B ∧ cmE n ti B ∧ cmV n ti ∧ cmR n ti ch rl I B ∧ cmSt n ti B ∧ cmG gv I ∧ lnkB n ti ∧ n ≤ 120
section CM
variable {n : Nat} {ti : Nat → TI} {ch : List Nat} {rl : Nat → List Nat} {gv : Nat → Nat} {I : Nat → Nat → Int32} {B : Nat → Nat → Bool}
theorem CM.scr (h : CM n ti ch rl gv I B) {I' : Nat → Nat → Int32} {B' : Nat → Nat → Bool} (hs : scr I I' B B') : CM n ti ch rl gv I' B' := by
  obtain ⟨hI, hB⟩ := hs
  have i0 := hI 0 (by decide) (by decide)
  have i1 := hI 1 (by decide) (by decide)
  have i2 := hI 2 (by decide) (by decide)
  have i3 := hI 3 (by decide) (by decide)
  have i4 := hI 4 (by decide) (by decide)
  have i5 := hI 5 (by decide) (by decide)
  have i8 := hI 8 (by decide) (by decide)
  have b6' := hB 6 (by decide) (by decide)
  have b7 := hB 7 (by decide) (by decide)
  obtain ⟨h1, h2, h3, h4, h5, h6, h7, h8, h9, h10, h11, h12⟩ := h
  refine ⟨srt_c i0 i1 h1, h2, ?_, ?_, ?_, ?_, h7, ⟨?_, ?_⟩, ?_, ?_, h11, h12⟩
  · unfold cmF; rw [i0, i1, i2, i3, i4]; exact h3
  · unfold cmK; rw [b6', b7]; exact h4
  · unfold cmO; rw [b6', b7]; exact h5
  · unfold cmE; rw [b7]; exact h6
  · intro t ht; rw [h8.1 t ht]; exact (lineL_c _ [] (fun i _ => by rw [i5])).symm
  · intro i hi hs; rw [i5, b7]
    rcases h8.2 i hi hs with e | ⟨p, e1, e2, e3, e4, e5, e6⟩
    · exact Or.inl e
    · exact Or.inr ⟨p, e1, e2, e3, e4, by rw [earlB_c i0 i1]; exact e5, e6⟩
  · unfold cmSt; rw [b7]; exact h9
  · unfold cmG; rw [i8]; exact h10
theorem CM.isOf (h : CM n ti ch rl gv I B) {d i : Nat} {th : Int32} {so : Nat} (hd : d < 6) (hi : i < n) (hso : so ≤ 6) : isOfB I B d i th (nI so) = (decide ((ti i).th = th) && decide (nI (ti i).so = nI so) && kb (ti i).kn (nI d)) := by
  obtain ⟨h1, h2, h3, h4, h5, h6, h7, h8, h9, h10, h11, h12⟩ := h
  obtain ⟨f0, f1, f2, f3, f4, f5, f6, f7, f8⟩ := h3 i hi
  simp only [isOfB, f2, f3, ← (h4 i hi).2.2.1 d hd]
  cases kb (ti i).kn (nI d) <;> cases decide ((ti i).th = th) <;> cases decide (nI (ti i).so = nI so) <;> rfl
theorem CM.latest (h : CM n ti ch rl gv I B) {d : Nat} (hd : d < 6) (th : Int32) : ch.foldl (lvSt ti (nI d) th) (-1) = lsV I (iter (lsS I B d th) none n) := by
  have h1 := h.1
  rw [fold_congr (g := fun x i => cond (isOfB I B d i th 0) (I 4 i) x) (fun x i hi => by
    have hi := (h1.1 i).mp hi
    rw [show (0 : Int32) = nI 0 from rfl, h.isOf hd hi (by decide), (h.2.2.1 i hi).2.2.2.2.1]; rfl), last_max h1]
  show _ = lsV I (iter (maxS I (fun t => isOfB I B d t th 0)) none n)
  cases iter (maxS I (fun t => isOfB I B d t th 0)) none n <;> rfl
theorem CM.sum (h : CM n ti ch rl gv I B) {d : Nat} (hd : d < 6) (th : Int32) : ch.foldl (smS ti (nI d) th) 0 = iter (msS I B d th) 0 n := by
  refine fold_iter h.1.an (fun i => cond (isOfB I B d i th 1) (I 4 i) 0) (fun x i hi => ?_) (fun x i hi => ?_)
  · rw [← cond_add, show (1 : Int32) = nI 1 from rfl, h.isOf hd hi (by decide), (h.2.2.1 i hi).2.2.2.2.1]; rfl
  · rw [← cond_add]; rfl
theorem un_fold {d th : Int32} {x : Nat} (hx : x < 32) : ∀ (l : List Nat) (u : Int32), (∀ i ∈ l, (ti i).so = 2 → (ti i).va < 32) → (∀ i ∈ l, (ti i).so ≤ 6) → ub (l.foldl (unS ti d th) u) x = (ub u x || l.any (fun i => (isF (ti i) th 2 && kb (ti i).kn d) && decide ((ti i).va = x)))
  | [], u, _, _ => by simp
  | i :: l, u, h, h2 => by
    rw [List.foldl_cons, un_fold hx l _ (fun j hj => h j (List.mem_cons_of_mem _ hj)) (fun j hj => h2 j (List.mem_cons_of_mem _ hj)), List.any_cons]
    cases hc : (isF (ti i) th 2 && kb (ti i).kn d) with
    | false => simp only [unS, hc, cond_false, Bool.false_and, Bool.false_or]
    | true =>
      simp only [unS, hc, cond_true, Bool.true_and]
      have hso : (ti i).so = 2 := by
        simp only [isF, Bool.and_eq_true, decide_eq_true_eq] at hc
        exact (nI_eq (b := 2) (by have := h2 i List.mem_cons_self; omega) (by decide)).mp hc.1.2
      have hv := h i List.mem_cons_self hso
      rw [ub_or _ _ hx, ub_one _ hv x hx, Bool.or_assoc]
      congr 2
      exact decide_eq_decide.mpr ⟨fun e => e.symm, fun e => e.symm⟩
theorem CM.union (h : CM n ti ch rl gv I B) {d : Nat} (hd : d < 6) (th k : Int32) : muG (ch.foldl (unS ti (nI d) th) 0) k 32 0 0 = unG (hsB I B n d th) k 32 0 0 := by
  refine mu_un k 32 0 0 (by decide) (fun x hx => ?_)
  obtain ⟨h1, h2, h3, h4, h5, h6, h7, h8, h9, h10, h11, h12⟩ := id h
  rw [un_fold hx ch 0 (fun i hi => (h7 i ((h1.1 i).mp hi)).2.2.2.2) (fun i hi => (h3 i ((h1.1 i).mp hi)).2.2.2.2.2.2.2.1), ub_zero x hx, Bool.false_or]
  refine bool_iff ?_
  rw [hsB_iff, List.any_eq_true]
  constructor
  · rintro ⟨i, hi, hc⟩
    have hi := (h1.1 i).mp hi
    obtain ⟨hc, hv⟩ := Bool.and_eq_true_iff.mp hc
    refine ⟨i, hi, ?_, ?_⟩
    · rw [show (2 : Int32) = nI 2 from rfl, h.isOf hd hi (by decide)]; exact hc
    · rw [(h3 i hi).2.2.2.2.1, of_decide_eq_true hv]
  · rintro ⟨i, hi, hc, hv⟩
    refine ⟨i, (h1.1 i).mpr hi, ?_⟩
    rw [show (2 : Int32) = nI 2 from rfl, h.isOf hd hi (by decide)] at hc
    rw [(h3 i hi).2.2.2.2.1] at hv
    rw [Bool.and_eq_true]
    exact ⟨hc, decide_eq_true ((nI_eq (by have := (h3 i hi).2.2.2.2.2.2.2.2; omega) (by omega)).mp hv)⟩
theorem CM.memRow (h : CM n ti ch rl gv I B) {t i : Nat} (ht : t < 16) : i ∈ rl t ↔ i < n ∧ (ti i).so = 3 ∧ (ti i).th = nI t := by
  obtain ⟨h1, h2, h3, h4, h5, h6, h7, h8, h9, h10, h11, h12⟩ := h
  rw [h8.1 t ht, lineL_mem', List.mem_filter, h1.1 i]
  simp only [rwQ, Bool.and_eq_true, decide_eq_true_eq]
theorem CM.rowsOk (h : CM n ti ch rl gv I B) : rowsOk rl := by
  refine ⟨fun t ht => ?_, fun t1 t2 h1 h2 hne i hi hi2 => ?_⟩
  · rw [h.2.2.2.2.2.2.2.1.1 t ht]
    exact lineL_nd I _ [] (by rw [List.append_nil]; exact h.1.nd.sublist List.filter_sublist)
  · have e1 := ((h.memRow h1).mp hi).2.2
    have e2 := ((h.memRow h2).mp hi2).2.2
    exact hne ((nI_eq (by omega) (by omega)).mp (e1.symm.trans e2))
theorem CM.ended (h : CM n ti ch rl gv I B) {d i : Nat} (hd : d < 6) (hi : i < n) (so so2 : Nat) (hso : (ti i).so = so) (hs : (so = 3 ∧ so2 = 4) ∨ (so = 5 ∧ so2 = 6)) : kb (ti i).en (nI d) = iter (enS I B d (nI so2) (nI i)) false n := by
  obtain ⟨h1, h2, h3, h4, h5, h6, h7, h8, h9, h10, h11, h12⟩ := h
  refine bool_iff ?_
  rw [h6 i d hi hd, enS_iff]
  constructor
  · rintro ⟨k, hk, hb, hk2, hk3⟩
    have hv := h7 k hk
    refine ⟨k, hk, hb, ?_, by rw [(h3 k hk).2.2.2.2.1, hk3]⟩
    rw [(h3 k hk).2.2.1]
    congr 1
    rcases hk2 with e | e
    · have e3 := (hv.1 e).2
      rw [hk3, hso] at e3
      rcases hs with ⟨a, b⟩ | ⟨a, b⟩
      · rw [e, b]
      · rw [a] at e3; cases e3
    · have e3 := (hv.2.1 e).2
      rw [hk3, hso] at e3
      rcases hs with ⟨a, b⟩ | ⟨a, b⟩
      · rw [a] at e3; cases e3
      · rw [e, b]
  · rintro ⟨k, hk, hb, hk2, hk3⟩
    have f := h3 k hk
    rw [f.2.2.1] at hk2
    rw [f.2.2.2.2.1] at hk3
    have e1 := (nI_eq (by omega) (by omega)).mp hk2
    have e2 := (nI_eq (by omega) (by omega)).mp hk3
    exact ⟨k, hk, hb, by omega, e2⟩
theorem CM.row (h : CM n ti ch rl gv I B) {d t : Nat} (hd : d < 6) (ht : t < 16) (k : Int32) : frG ti (nI d) k 0 (rl t) = mstG I B n ch d (nI t) k := by
  obtain ⟨h1, h2, h3, h4, h5, h6, h7, h8, h9, h10, h11, h12⟩ := id h
  rw [fr_st (P := fun t => iter (enS I B d 4 (nI t)) false n) (rl t) 0 (fun i hi => by
    have hm := (h.memRow ht).mp hi
    exact h.ended hd hm.1 3 4 hm.2.1 (Or.inl ⟨rfl, rfl⟩))]
  unfold mstG
  congr 1
  rw [h8.1 t ht, lineL_filter, List.filter_filter]
  · congr 1
    refine List.filter_congr (fun i hi => ?_)
    have hi := (h1.1 i).mp hi
    rw [lnP, show (3 : Int32) = nI 3 from rfl, h.isOf hd hi (by decide)]
    have e : decide (nI (ti i).so = nI 3) = decide ((ti i).so = 3) := decide_eq_decide.mpr (nI_eq (by have := (h3 i hi).2.2.2.2.2.2.2.1; omega) (by decide))
    rw [e, rwQ]
    cases kb (ti i).kn (nI d) <;> cases decide ((ti i).so = 3) <;> cases decide ((ti i).th = nI t) <;> rfl
  · intro x hx hP y hy e
    have hx' := List.mem_filter.mp hx
    have hxn := (h1.1 x).mp hx'.1
    have hyn := (h1.1 y).mp (List.mem_filter.mp hy).1
    have hso : (ti x).so = 3 := by have := hx'.2; simp only [rwQ, Bool.and_eq_true, decide_eq_true_eq] at this; exact this.1
    rcases h8.2 x hxn hso with e2 | ⟨p, p1, p2, p3, p4, p5, p6⟩
    · exact absurd (e.trans e2) (oI_some (by omega))
    · have : y = p := (nI_eq (by omega) (by omega)).mp (e.trans p2)
      subst this
      rw [(h4 y hyn).2.2.1 d hd]
      exact p6 d hd (by rw [← (h4 x hxn).2.2.1 d hd]; exact hP)
theorem CM.equal (h : CM n ti ch rl gv I B) {d1 d2 : Nat} (h1 : d1 < 6) (h2 : d2 < 6) : ch.all (eqF ti (nI d1) (nI d2)) = iter (eqS B d1 d2) true n := by
  refine bool_iff ?_
  rw [show iter (eqS B d1 d2) true n = iter (fun a t => a && (B 7 (120 * d1 + t) == B 7 (120 * d2 + t))) true n from rfl, iter_all, List.all_eq_true]
  constructor
  · intro hh t ht
    have := hh t ((h.1.1 t).mpr ht)
    rw [eqF, (h.2.2.2.1 t ht).2.2.1 d1 h1, (h.2.2.2.1 t ht).2.2.1 d2 h2] at this
    exact this
  · intro hh t ht
    have ht := (h.1.1 t).mp ht
    rw [eqF, (h.2.2.2.1 t ht).2.2.1 d1 h1, (h.2.2.2.1 t ht).2.2.1 d2 h2]
    exact hh t ht
theorem CM.jcount (h : CM n ti ch rl gv I B) {d1 d2 : Nat} (h1 : d1 < 6) (h2 : d2 < 6) : ch.foldl (jnS ti (nI d1) (nI d2)) 0 = iter (jmS B d1 d2) 0 n := by
  refine fold_iter h.1.an (fun i => cond (B 7 (120 * d2 + i) && !B 7 (120 * d1 + i)) 1 0) (fun x i hi => ?_) (fun x i hi => ?_)
  · rw [← cond_add, ← (h.2.2.2.1 i hi).2.2.1 d1 h1, ← (h.2.2.2.1 i hi).2.2.1 d2 h2]; rfl
  · rw [← cond_add]; rfl
theorem dt_cnt (p : Nat → Bool) : ((∀ y, y < 6 → p y = false) → iter (fun (a : Int32) d => cond (p d) (a + 1) a) 0 6 = 0) ∧ ((∀ y, y < 6 → p y = true) → iter (fun (a : Int32) d => cond (p d) (a + 1) a) 0 6 = 6) ∧ (¬ (∀ y, y < 6 → p y = false) → ¬ (∀ y, y < 6 → p y = true) → 0 < iter (fun (a : Int32) d => cond (p d) (a + 1) a) 0 6 ∧ iter (fun (a : Int32) d => cond (p d) (a + 1) a) 0 6 < 6) := by
  have e : iter (fun (a : Int32) d => cond (p d) (a + 1) a) 0 6 = cond (p 5) (cond (p 4) (cond (p 3) (cond (p 2) (cond (p 1) (cond (p 0) (0 + 1) 0 + 1) (cond (p 0) (0 + 1) 0) + 1) (cond (p 1) (cond (p 0) (0 + 1) 0 + 1) (cond (p 0) (0 + 1) 0)) + 1) (cond (p 2) (cond (p 1) (cond (p 0) (0 + 1) 0 + 1) (cond (p 0) (0 + 1) 0) + 1) (cond (p 1) (cond (p 0) (0 + 1) 0 + 1) (cond (p 0) (0 + 1) 0))) + 1) (cond (p 3) (cond (p 2) (cond (p 1) (cond (p 0) (0 + 1) 0 + 1) (cond (p 0) (0 + 1) 0) + 1) (cond (p 1) (cond (p 0) (0 + 1) 0 + 1) (cond (p 0) (0 + 1) 0)) + 1) (cond (p 2) (cond (p 1) (cond (p 0) (0 + 1) 0 + 1) (cond (p 0) (0 + 1) 0) + 1) (cond (p 1) (cond (p 0) (0 + 1) 0 + 1) (cond (p 0) (0 + 1) 0)))) + 1) (cond (p 4) (cond (p 3) (cond (p 2) (cond (p 1) (cond (p 0) (0 + 1) 0 + 1) (cond (p 0) (0 + 1) 0) + 1) (cond (p 1) (cond (p 0) (0 + 1) 0 + 1) (cond (p 0) (0 + 1) 0)) + 1) (cond (p 2) (cond (p 1) (cond (p 0) (0 + 1) 0 + 1) (cond (p 0) (0 + 1) 0) + 1) (cond (p 1) (cond (p 0) (0 + 1) 0 + 1) (cond (p 0) (0 + 1) 0))) + 1) (cond (p 3) (cond (p 2) (cond (p 1) (cond (p 0) (0 + 1) 0 + 1) (cond (p 0) (0 + 1) 0) + 1) (cond (p 1) (cond (p 0) (0 + 1) 0 + 1) (cond (p 0) (0 + 1) 0)) + 1) (cond (p 2) (cond (p 1) (cond (p 0) (0 + 1) 0 + 1) (cond (p 0) (0 + 1) 0) + 1) (cond (p 1) (cond (p 0) (0 + 1) 0 + 1) (cond (p 0) (0 + 1) 0))))) := rfl
  have a6 : ∀ (q : Bool), (∀ y, y < 6 → p y = q) ↔ (p 0 = q ∧ p 1 = q ∧ p 2 = q ∧ p 3 = q ∧ p 4 = q ∧ p 5 = q) := fun q => ⟨fun h => ⟨h 0 (by decide), h 1 (by decide), h 2 (by decide), h 3 (by decide), h 4 (by decide), h 5 (by decide)⟩, fun ⟨h0, h1, h2, h3, h4, h5⟩ y hy => by
    rcases (by omega : y = 0 ∨ y = 1 ∨ y = 2 ∨ y = 3 ∨ y = 4 ∨ y = 5) with rfl | rfl | rfl | rfl | rfl | rfl <;> assumption⟩
  rw [e, a6, a6]
  generalize p 0 = q0
  generalize p 1 = q1
  generalize p 2 = q2
  generalize p 3 = q3
  generalize p 4 = q4
  generalize p 5 = q5
  cases q0 <;> cases q1 <;> cases q2 <;> cases q3 <;> cases q4 <;> cases q5 <;> decide
theorem CM.fcount (h : CM n ti ch rl gv I B) : ch.foldl (cfS ti) 0 = iter (coS B 1) 0 n := by
  refine fold_iter h.1.an (fun i => cond (B 6 i) 1 0) (fun x i hi => ?_) (fun x i hi => ?_)
  · rw [← cond_add, (h.2.2.2.1 i hi).2.2.2]; rfl
  · rw [← cond_add]; rfl
theorem CM.ucount (h : CM n ti ch rl gv I B) {q : Int32} (hq : ¬ q = 1) : ch.foldl (cuS ti) 0 = iter (coS B q) 0 n := by
  refine fold_iter h.1.an (fun i => cond (!decide ((ti i).kn = 0) && !decide ((ti i).kn = 63)) 1 0) (fun x i hi => ?_) (fun x i hi => ?_)
  · rw [← cond_add]; rfl
  · rw [← cond_add]
    have hk := h.2.2.2.1 i hi
    have e0 := b6_0 hk.1
    have e63 := b6_63 hk.1
    have d0 := dt_cnt (fun d => B 7 (120 * d + i))
    have r0 : (∀ y, y < 6 → kb (ti i).kn (nI y) = false) ↔ ∀ y, y < 6 → B 7 (120 * y + i) = false := ⟨fun hh y hy => by rw [← hk.2.2.1 y hy]; exact hh y hy, fun hh y hy => by rw [hk.2.2.1 y hy]; exact hh y hy⟩
    have r1 : (∀ y, y < 6 → kb (ti i).kn (nI y) = true) ↔ ∀ y, y < 6 → B 7 (120 * y + i) = true := ⟨fun hh y hy => by rw [← hk.2.2.1 y hy]; exact hh y hy, fun hh y hy => by rw [hk.2.2.1 y hy]; exact hh y hy⟩
    have hd : iter (dtS B i) 0 6 = iter (fun (a : Int32) d => cond (B 7 (120 * d + i)) (a + 1) a) 0 6 := rfl
    simp only [coS, decide_eq_false hq, cond_false, hd]
    congr 1
    by_cases c0 : (ti i).kn = 0
    · rw [d0.1 (r0.mp (e0.mp c0))]; simp [c0]
    · by_cases c1 : (ti i).kn = 63
      · rw [d0.2.1 (r1.mp (e63.mp c1))]; simp [c1]
      · have := d0.2.2 (fun hh => c0 (e0.mpr (r0.mpr hh))) (fun hh => c1 (e63.mpr (r1.mpr hh)))
        simp [c0, c1, this.1, this.2]
end CM
