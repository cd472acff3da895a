/-! ===== relations, compacting, joining: both sides alike ===== -/
def tieF (f : Nat → Int32) (s : (Nat → Nat → Bool) × List Nat) : Prop := ∀ x y, x < 16 → y < 16 → kb (f x) (nI y) = s.1 x y
section RC
variable {n : Nat} {ti : Nat → TI} {ch : List Nat} {rl : Nat → List Nat} {gv : Nat → Nat} {I : Nat → Nat → Int32} {B : Nat → Nat → Bool}
theorem tie_take {f : Nat → Int32} {s : (Nat → Nat → Bool) × List Nat} (h : tieF f s) {x1 y1 : Nat} (hx1 : x1 < 16) (hy1 : y1 < 16) : ∀ x y, x < 16 → y < 16 → kb (tkF f x1 (f y1 ||| ((1 : Int32) <<< (nI y1 &&& 31))) 16 x) (nI y) = (s.1 x y || ((decide (x = x1) || s.1 x x1) && (decide (y = y1) || s.1 y1 y))) := by
  intro x y hx hy
  unfold tkF
  rw [decide_eq_true hx, Bool.true_and, h x x1 hx hx1]
  cases hc : (decide (x = x1) || s.1 x x1) with
  | false => simp only [cond_false, Bool.false_and, Bool.or_false]; exact h x y hx hy
  | true =>
    simp only [cond_true, Bool.true_and]
    rw [kb_or _ _ (by omega), kb_or _ _ (by omega), kb_one y1 (by omega) y (by omega), h x y hx hy, h y1 y hy1 hy]
    congr 1
    exact Bool.or_comm _ _
theorem rel_fold {d : Int32} {P : Nat → Bool} : ∀ (l : List Nat) (f : Nat → Int32) (s : (Nat → Nat → Bool) × List Nat), tieF f s → (∀ i ∈ l, cnt ti d i = P i) → (∀ i ∈ l, P i = true → I 4 i = nI (ti i).va ∧ (ti i).va < 256) → l.Nodup → tieF (l.foldl (trN ti d) f) ((l.filter P).foldl (stS I) s) ∧ ((l.filter P).foldl (stS I) s).2 = s.2 ++ l.filter (opB ti d f l)
  | [], f, s, h, _, _, _ => ⟨h, by simp⟩
  | i :: l, f, s, h, hP, hv, hnd => by
    have h2 := List.nodup_cons.mp hnd
    have hP' : ∀ j ∈ l, cnt ti d j = P j := fun j hj => hP j (List.mem_cons_of_mem _ hj)
    have hv' : ∀ j ∈ l, P j = true → I 4 j = nI (ti j).va ∧ (ti j).va < 256 := fun j hj => hv j (List.mem_cons_of_mem _ hj)
    have hfl : ∀ g : Nat → Int32, g = trN ti d f i → (i :: l).filter (opB ti d f (i :: l)) = cond (trO ti d f i) (i :: l.filter (opB ti d g l)) (l.filter (opB ti d g l)) := by
      intro g hg
      have h3 : l.filter (opB ti d f (i :: l)) = l.filter (opB ti d g l) := List.filter_congr (fun j hj => by rw [opB_tl (fun e : j = i => h2.1 (e ▸ hj)), hg])
      cases ht : trO ti d f i with
      | true => rw [List.filter_cons_of_pos (by rw [opB_hd]; exact ht), h3]; rfl
      | false => rw [List.filter_cons_of_neg (by rw [opB_hd, ht]; decide), h3]; rfl
    rw [List.foldl_cons]
    cases hp : P i with
    | false =>
      have hc : cnt ti d i = false := (hP i List.mem_cons_self).trans hp
      have hN : trN ti d f i = f := by simp only [trN, hc, Bool.false_and, cond_false]
      have hO : trO ti d f i = false := by simp only [trO, hc, Bool.false_and]
      rw [List.filter_cons_of_neg (by simp [hp]), hfl f hN.symm, hO, cond_false, hN]
      exact rel_fold l f s h hP' hv' h2.2
    | true =>
      have hc : cnt ti d i = true := (hP i List.mem_cons_self).trans hp
      obtain ⟨e4, hva⟩ := hv i List.mem_cons_self hp
      have hcl : (I 4 i).toNatClampNeg = (ti i).va := by rw [e4]; exact nI_clamp (by omega)
      have hk := h ((ti i).va % 16) ((ti i).va / 16) (by omega) (by omega)
      rw [List.filter_cons_of_pos hp, List.foldl_cons]
      cases hs : s.1 ((ti i).va % 16) ((ti i).va / 16) with
      | true =>
        rw [hs] at hk
        have hN : trN ti d f i = f := by simp only [trN, hc, hk, Bool.not_true, Bool.and_false, cond_false]
        have hO : trO ti d f i = true := by simp only [trO, hc, hk, Bool.and_true]
        have hS : stS I s i = (s.1, s.2 ++ [i]) := by simp only [stS, hcl, hs, cond_true]
        obtain ⟨g1, g2⟩ := rel_fold l f (s.1, s.2 ++ [i]) h hP' hv' h2.2
        rw [hfl f hN.symm, hO, cond_true, hN, hS]
        exact ⟨g1, by rw [g2]; simp⟩
      | false =>
        rw [hs] at hk
        have hN : trN ti d f i = tkF f ((ti i).va / 16) (f ((ti i).va % 16) ||| ((1 : Int32) <<< (nI ((ti i).va % 16) &&& 31))) 16 := by simp only [trN, hc, hk, Bool.not_false, Bool.and_true, cond_true]
        have hO : trO ti d f i = false := by simp only [trO, hc, hk, Bool.and_false]
        have hS : stS I s i = (fun x y => s.1 x y || ((decide (x = (ti i).va / 16) || s.1 x ((ti i).va / 16)) && (decide (y = (ti i).va % 16) || s.1 ((ti i).va % 16) y)), s.2) := by simp only [stS, hcl, hs, cond_false]
        have ht : tieF (trN ti d f i) (stS I s i) := by rw [hN, hS]; exact tie_take h (by omega) (by omega)
        obtain ⟨g1, g2⟩ := rel_fold l (trN ti d f i) (stS I s i) ht hP' hv' h2.2
        rw [hfl (trN ti d f i) rfl, hO, cond_false]
        exact ⟨g1, by rw [g2, hS]⟩
theorem CM.cntP (h : CM n ti ch rl gv I B) {d i : Nat} (hd : d < 6) (hi : i < n) : cnt ti (nI d) i = rlP I B n d i := by
  have f := h.2.2.1 i hi
  unfold cnt rlP
  rw [f.2.2.1, ← (h.2.2.2.1 i hi).2.2.1 d hd]
  by_cases e : (ti i).so = 5
  · rw [h.ended hd hi 5 6 e (Or.inr ⟨rfl, rfl⟩)]
    cases kb (ti i).kn (nI d) <;> cases decide (nI (ti i).so = 5) <;> rfl
  · have : decide (nI (ti i).so = 5) = false := decide_eq_false (mt (nI_eq (b := 5) (by have := f.2.2.2.2.2.2.2.1; omega) (by decide)).mp e)
    rw [this]; simp
theorem CM.rel (h : CM n ti ch rl gv I B) {d : Nat} (hd : d < 6) {f0 : Nat → Int32} (hf : ∀ j, j < 16 → f0 j = 0) : tieF (ch.foldl (trN ti (nI d)) f0) (mrel I B n ch d) ∧ (mrel I B n ch d).2 = ch.filter (opB ti (nI d) f0 ch) := by
  have h1 := rel_fold (I := I) (ti := ti) (d := nI d) (P := rlP I B n d) ch f0 st0 (fun x y hx hy => by rw [hf x hx, kb_zero y (by omega)]; rfl) (fun i hi => h.cntP hd ((h.1.1 i).mp hi)) (fun i hi hP => by
    have hi := (h.1.1 i).mp hi
    have f := h.2.2.1 i hi
    refine ⟨f.2.2.2.2.1, ((h.2.2.2.2.2.2.1 i hi).2.2.1 ?_).1⟩
    simp only [rlP, Bool.and_eq_true, decide_eq_true_eq, f.2.2.1] at hP
    exact (nI_eq (b := 5) (by have := f.2.2.2.2.2.2.2.1; omega) (by decide)).mp hP.2.1) h.1.nd
  exact ⟨h1.1, by rw [mrel, h1.2]; rfl⟩
theorem CM.order (h : CM n ti ch rl gv I B) {d x y : Nat} (hd : d < 6) (hx : x < 16) (hy : y < 16) {f0 : Nat → Int32} (hf : ∀ j, j < 16 → f0 j = 0) : orV (ch.foldl (trN ti (nI d)) f0) x y = morV (mrel I B n ch d) x y := by
  have h1 := (h.rel hd hf).1
  simp only [orV, morV, h1 x y hx hy, h1 y x hy hx]
theorem op_get {P : Nat → Bool} {kk : Nat} (hk : kk < 2 ^ 31) : ∀ (l : List Nat) (c : Nat), c ≤ kk → opG P (nI kk) (nI c) l = oI ((l.filter P)[kk - c]?)
  | [], c, _ => by simp [opG, oI]
  | i :: l, c, h => by
    cases hp : P i with
    | false =>
      rw [List.filter_cons_of_neg (by simp [hp])]
      simp only [opG, hp, cond_false]
      exact op_get hk l c h
    | true =>
      rw [List.filter_cons_of_pos hp]
      simp only [opG, hp, cond_true]
      by_cases e : c = kk
      · subst e; simp [oI]
      · rw [decide_eq_false (mt (nI_eq (by omega) hk).mp e), cond_false, nI_1, op_get hk l (c + 1) (by omega), show kk - c = (kk - (c + 1)) + 1 by omega, List.getElem?_cons_succ]
theorem CM.opens (h : CM n ti ch rl gv I B) {d : Nat} (hd : d < 6) {k : Int32} (hk : ¬ k < 0) {f0 : Nat → Int32} (hf : ∀ j, j < 16 → f0 j = 0) : opG (opB ti (nI d) f0 ch) k 0 ch = oI ((mrel I B n ch d).2[k.toNatClampNeg]?) := by
  obtain ⟨kk, hkk, rfl⟩ := nI_of hk
  rw [(h.rel hd hf).2, nI_clamp hkk]
  exact op_get hkk ch 0 (Nat.zero_le _)
theorem CM.relOk (h : CM n ti ch rl gv I B) : relOk n ti := fun i hi => ⟨(h.2.2.1 i hi).2.2.2.2.2.2.2.1, (h.2.2.2.2.2.2.1 i hi).2.2.1⟩
theorem CM.mrelOk (h : CM n ti ch rl gv I B) : ∀ t, t < n → I 2 t = 5 → ∃ v, I 4 t = nI v ∧ v < 256 ∧ v / 16 ≠ v % 16 := fun t ht e => by
  have f := h.2.2.1 t ht
  rw [f.2.2.1] at e
  have := (h.2.2.2.2.2.2.1 t ht).2.2.1 ((nI_eq (b := 5) (by have := f.2.2.2.2.2.2.2.1; omega) (by decide)).mp e)
  exact ⟨_, f.2.2.2.2.1, this.1, this.2⟩
/-! compact -/
theorem CM.isSh (h : CM n ti ch rl gv I B) {i : Nat} (hi : i < n) : shL (ti i) = true ↔ (ti i).so = 0 ∧ cmB B i = true := by
  have f := h.2.2.1 i hi
  have k := h.2.2.2.1 i hi
  unfold shL
  rw [Bool.and_eq_true, decide_eq_true_eq, decide_eq_true_eq, b6_63 k.1, cmB_iff]
  constructor
  · rintro ⟨a, b⟩
    exact ⟨(nI_eq (b := 0) (by have := f.2.2.2.2.2.2.2.1; omega) (by decide)).mp a, fun d hd => by rw [← k.2.2.1 d hd]; exact b d hd⟩
  · rintro ⟨a, b⟩
    exact ⟨by rw [a]; rfl, fun d hd => by rw [k.2.2.1 d hd]; exact b d hd⟩
theorem CM.cp (h : CM n ti ch rl gv I B) {i : Nat} (hi : i < n) : cpB ti ch i = cpM I B n i := by
  obtain ⟨pre, r, hch⟩ := List.append_of_mem ((h.1.1 i).mpr hi)
  have hpw := h.1.2
  rw [hch, List.pairwise_append] at hpw
  have hpw2 := List.pairwise_cons.mp hpw.2.1
  have f := h.2.2.1 i hi
  rw [hch, cpB_at (by rw [← hch]; exact h.1.nd)]
  refine bool_iff ?_
  unfold cpM
  rw [Bool.and_eq_true, Bool.and_eq_true, h.isSh hi, decide_eq_true_eq, paB_iff, List.any_eq_true]
  constructor
  · rintro ⟨⟨a, b⟩, k, hk, hk2⟩
    obtain ⟨c1, c2⟩ := Bool.and_eq_true_iff.mp hk2
    have hkn : k < n := (h.1.1 k).mp (by rw [hch]; exact List.mem_append_right _ (List.mem_cons_of_mem _ hk))
    have c3 := (h.isSh hkn).mp c1
    refine ⟨by rw [f.2.2.1, a]; rfl, ⟨k, hkn, ?_, hpw2.1 k hk, c3.2⟩, b⟩
    rw [show (0 : Int32) = nI 0 from rfl, h.isOf (by decide) hkn (by decide), f.2.2.2.1, c3.1, (h.2.2.2.1 k hkn).2.2.1 0 (by decide), cmB_iff.mp c3.2 0 (by decide), c2]
    simp
  · rintro ⟨a, ⟨k, hkn, b1, b2, b3⟩, b⟩
    rw [f.2.2.1] at a
    refine ⟨⟨(nI_eq (b := 0) (by have := f.2.2.2.2.2.2.2.1; omega) (by decide)).mp a, b⟩, k, ?_, ?_⟩
    · have hk : k ∈ pre ++ i :: r := by rw [← hch]; exact (h.1.1 k).mpr hkn
      rcases List.mem_append.mp hk with hk | hk
      · have := hpw.2.2 k hk i List.mem_cons_self
        rw [earlB_as b2] at this; cases this
      · rcases List.mem_cons.mp hk with e | hk
        · rw [e, earlB_irr] at b2; cases b2
        · exact hk
    · rw [show (0 : Int32) = nI 0 from rfl, h.isOf (by decide) hkn (by decide)] at b1
      simp only [Bool.and_eq_true, decide_eq_true_eq] at b1
      refine Bool.and_eq_true_iff.mpr ⟨(h.isSh hkn).mpr ⟨(nI_eq (by have := (h.2.2.1 k hkn).2.2.2.2.2.2.2.1; omega) (by decide)).mp b1.1.2, b3⟩, decide_eq_true (b1.1.1.trans f.2.2.2.1)⟩
theorem CM.cpcount (h : CM n ti ch rl gv I B) : ch.foldl (cpS ti ch) 0 = iter (cmpS I B n) 0 n := by
  refine fold_iter h.1.an (fun i => cond (cpM I B n i) 1 0) (fun x i hi => ?_) (fun x i hi => ?_)
  · rw [← cond_add, ← h.cp hi]; rfl
  · rw [← cond_add]; rfl
theorem last_any {p : Nat → Bool} : ∀ (l : List Nat), l.any p = true → ∃ a b c, l = a ++ b :: c ∧ p b = true ∧ c.any p = false
  | [], h => by cases h
  | i :: l, h => by
    cases hl : l.any p with
    | true =>
      obtain ⟨a, b, c, h1, h2, h3⟩ := last_any l hl
      exact ⟨i :: a, b, c, by rw [h1]; rfl, h2, h3⟩
    | false =>
      rw [List.any_cons, hl, Bool.or_false] at h
      exact ⟨[], i, l, rfl, h, hl⟩
/-- a forgotten one was outdone by one that stays -/
theorem CM.keep (h : CM n ti ch rl gv I B) {i : Nat} (hi : i < n) (hc : cpM I B n i = true) : ∃ k, k < n ∧ cmB B k = true ∧ cpM I B n k = false ∧ (ti i).st ≤ (ti k).st := by
  rw [← h.cp hi] at hc
  obtain ⟨pre, r, hch⟩ := List.append_of_mem ((h.1.1 i).mpr hi)
  have hpw := h.1.2
  rw [hch, List.pairwise_append] at hpw
  have hpw2 := List.pairwise_cons.mp hpw.2.1
  rw [hch, cpB_at (by rw [← hch]; exact h.1.nd), Bool.and_eq_true] at hc
  obtain ⟨a, k, c, h1, h2, h3⟩ := last_any r hc.2
  have hkr : k ∈ r := by rw [h1]; simp
  have hkn : k < n := (h.1.1 k).mp (by rw [hch]; exact List.mem_append_right _ (List.mem_cons_of_mem _ hkr))
  obtain ⟨h4, h5⟩ := Bool.and_eq_true_iff.mp h2
  have h5 := of_decide_eq_true h5
  refine ⟨k, hkn, ((h.isSh hkn).mp h4).2, ?_, ?_⟩
  · rw [← h.cp hkn]
    have hch2 : ch = (pre ++ i :: a) ++ k :: c := by rw [hch, h1]; simp
    rw [hch2, cpB_at (by rw [← hch2]; exact h.1.nd), h5, h3, Bool.and_false]
  · have he := earlB_iff.mp (hpw2.1 k hkr)
    have fi := h.2.2.1 i hi
    have fk := h.2.2.1 k hkn
    have hn := h.2.2.2.2.2.2.2.2.2.2.2
    rw [fi.1, fk.1, nI_toInt (by have := fi.2.2.2.2.2.1; omega), nI_toInt (by have := fk.2.2.2.2.2.1; omega)] at he
    omega
theorem fgT_kn (t : TI) : (fgT t).kn = 0 := rfl
theorem CM.compact (h : CM n ti ch rl gv I B) {B' : Nat → Nat → Bool} (hB : cpOk I B B' n) : CM n (cpT ti ch) ch rl gv I B' := by
  obtain ⟨h1, h2, h3, h4, h5, h6, h7, h8, h9, h10, h11, h12⟩ := id h
  obtain ⟨b1, b2, b3, b4⟩ := hB
  have hT : ∀ i, (cpT ti ch i).dk = (ti i).dk ∧ (cpT ti ch i).st = (ti i).st ∧ (cpT ti ch i).so = (ti i).so ∧ (cpT ti ch i).th = (ti i).th ∧ (cpT ti ch i).va = (ti i).va ∧ (cpT ti ch i).en = (ti i).en ∧ (cpT ti ch i).la = (ti i).la ∧ (cpT ti ch i).ne = (ti i).ne := by
    intro i
    unfold cpT
    cases cpB ti ch i <;> exact ⟨rfl, rfl, rfl, rfl, rfl, rfl, rfl, rfl⟩
  have hkn : ∀ i, i < n → (cpT ti ch i).kn = cond (cpM I B n i) 0 (ti i).kn := by
    intro i hi
    unfold cpT
    rw [h.cp hi]
    cases cpM I B n i <;> rfl
  have h67 : ∀ d i, d < 6 → i < n → B 7 (120 * d + i) = true → B 6 i = false := by
    intro d i hd hi hb
    rw [(h4 i hi).2.2.2]
    refine decide_eq_false (fun e => ?_)
    have := (b6_0 (h4 i hi).1).mp e d hd
    rw [(h4 i hi).2.2.1 d hd, hb] at this; cases this
  have hso : ∀ i, i < n → (ti i).so ≠ 0 → cpM I B n i = false := by
    intro i hi e
    unfold cpM
    rw [(h3 i hi).2.2.1]
    show (decide (nI (ti i).so = nI 0) && paB I B n i) = false
    rw [decide_eq_false (mt (nI_eq (b := 0) (by have := (h3 i hi).2.2.2.2.2.2.2.1; omega) (by decide)).mp e), Bool.false_and]
  have hkp : ∀ d i, d < 6 → i < n → B 7 (120 * d + i) = true → cpM I B n i = false → B' 7 (120 * d + i) = true := by
    intro d i hd hi hb hc
    rw [b3 d i hd hi, hb, h67 d i hd hi hb, hc]; rfl
  have hlt : ∀ d i, d < 6 → i < n → B' 7 (120 * d + i) = true → B 7 (120 * d + i) = true := by
    intro d i hd hi hb
    rw [b3 d i hd hi] at hb
    exact (Bool.and_eq_true_iff.mp hb).1
  refine ⟨h1, h2, ?_, ?_, ?_, ?_, ?_, ⟨?_, ?_⟩, ?_, h10, ?_, h12⟩
  · intro i hi
    obtain ⟨e1, e2, e3, e4, e5, e6, e7, e8⟩ := hT i
    rw [e1, e2, e3, e4, e5]; exact h3 i hi
  · intro i hi
    obtain ⟨e1, e2, e3, e4, e5, e6, e7, e8⟩ := hT i
    rw [e6, hkn i hi]
    cases hc : cpM I B n i with
    | true =>
      refine ⟨⟨0, by decide, rfl⟩, (h4 i hi).2.1, fun d hd => ?_, ?_⟩
      · rw [cond_true, kb_zero d (by omega), b3 d i hd hi, hc]; simp
      · rw [cond_true, b1 i hi, hc]; simp
    | false =>
      refine ⟨(h4 i hi).1, (h4 i hi).2.1, fun d hd => ?_, ?_⟩
      · rw [cond_false, b3 d i hd hi, hc, Bool.or_false, (h4 i hi).2.2.1 d hd]
        cases hb : B 7 (120 * d + i) with
        | false => rfl
        | true => rw [h67 d i hd hi hb]; rfl
      · rw [cond_false, b1 i hi, hc, Bool.or_false]; exact (h4 i hi).2.2.2
  · intro i h9 h10
    refine ⟨by rw [b2 i h9]; exact (h5 i h9 h10).1, fun d hd => by rw [b4 d i hd h9 h10]; exact (h5 i h9 h10).2 d hd⟩
  · intro i d hi hd
    obtain ⟨e1, e2, e3, e4, e5, e6, e7, e8⟩ := hT i
    rw [e6, h6 i d hi hd]
    constructor
    · rintro ⟨k, hk, k1, k2, k3⟩
      obtain ⟨f1, f2, f3, f4, f5, f6, f7, f8⟩ := hT k
      refine ⟨k, hk, hkp d k hd hk k1 (hso k hk ?_), by rw [f3]; exact k2, by rw [f5]; exact k3⟩
      rcases k2 with e | e <;> rw [e] <;> decide
    · rintro ⟨k, hk, k1, k2, k3⟩
      obtain ⟨f1, f2, f3, f4, f5, f6, f7, f8⟩ := hT k
      rw [f3] at k2
      rw [f5] at k3
      exact ⟨k, hk, hlt d k hd hk k1, k2, k3⟩
  · intro k hk
    obtain ⟨f1, f2, f3, f4, f5, f6, f7, f8⟩ := hT k
    rw [f3, f4, f5, (hT _).2.2.1]; exact h7 k hk
  · intro t ht
    rw [h8.1 t ht]
    congr 1
    refine List.filter_congr (fun i hi => ?_)
    unfold rwQ
    rw [(hT i).2.2.1, (hT i).2.2.2.1]
  · intro i hi hs
    rw [(hT i).2.2.1] at hs
    rcases h8.2 i hi hs with e | ⟨p, p1, p2, p3, p4, p5, p6⟩
    · exact Or.inl e
    · refine Or.inr ⟨p, p1, p2, by rw [(hT p).2.2.1]; exact p3, by rw [(hT p).2.2.2.1, (hT i).2.2.2.1]; exact p4, p5, fun d hd hb => ?_⟩
      exact hkp d p hd p1 (p6 d hd (hlt d i hd hi hb)) (hso p p1 (by rw [p3]; decide))
  · intro i hi
    rw [(hT i).1, (hT i).2.1]
    obtain ⟨k, hk, k1, k2⟩ := h9 i hi
    have hdk := (h3 i hi).2.2.2.2.2.2.1
    cases hc : cpM I B n k with
    | false => exact ⟨k, hk, hkp _ k hdk hk k1 hc, by rw [(hT k).2.1]; exact k2⟩
    | true =>
      obtain ⟨k', g1, g2, g3, g4⟩ := h.keep hk hc
      exact ⟨k', g1, hkp _ k' hdk g1 (cmB_iff.mp g2 _ hdk) g3, by rw [(hT k').2.1]; omega⟩
  · intro i hi
    rw [(hT i).2.2.2.2.2.2.1, (hT i).2.2.2.2.2.2.2]; exact h11 i hi
/-! join -/
theorem CM.join (h : CM n ti ch rl gv I B) {d o : Nat} (hd : d < 6) (ho : o < 6) {K : Nat → Bool} (k1 : ∀ t, t < n → K (120 * d + t) = (B 7 (120 * d + t) || B 7 (120 * o + t))) (k2 : ∀ j, (∀ t, t < n → j ≠ 120 * d + t) → K j = B 7 j) : CM n (fun i => psT (nI d) (nI o) (ti i)) ch rl gv I (va_up B 7 K) := by
  obtain ⟨h1, h2, h3, h4, h5, h6, h7, h8, h9, h10, h11, h12⟩ := id h
  have e7 : va_up B 7 K 7 = K := va_up_self _ _ _
  have e6 : va_up B 7 K 6 = B 6 := va_up_ne _ _ (by decide)
  have hK : ∀ y i, y < 6 → i < n → K (120 * y + i) = (B 7 (120 * y + i) || (decide (y = d) && B 7 (120 * o + i))) := by
    intro y i hy hi
    by_cases e : y = d
    · subst e; rw [k1 i hi]; simp
    · rw [k2 _ (fun t ht => by omega)]; simp [e]
  have hmono : ∀ y i, y < 6 → i < n → B 7 (120 * y + i) = true → K (120 * y + i) = true := fun y i hy hi hb => by rw [hK y i hy hi, hb]; rfl
  refine ⟨h1, h2, h3, ?_, ?_, ?_, h7, ⟨h8.1, ?_⟩, ?_, h10, h11, h12⟩
  · intro i hi
    have k := h4 i hi
    rw [e7, e6]
    refine ⟨b6_pass k.1 ho hd, b6_pass k.2.1 ho hd, fun y hy => ?_, ?_⟩
    · show kb (kpass (ti i).kn (nI o) (nI d)) (nI y) = _
      rw [kb_kpass k.1 ho hd hy, k.2.2.1 y hy, k.2.2.1 o ho, hK y i hy hi]
    · show _ = decide (kpass (ti i).kn (nI o) (nI d) = 0)
      rw [k.2.2.2]
      refine decide_eq_decide.mpr ?_
      rw [b6_0 k.1, b6_0 (b6_pass k.1 ho hd)]
      constructor
      · intro hh y hy; rw [kb_kpass k.1 ho hd hy, hh y hy, hh o ho]; simp
      · intro hh y hy
        have := hh y hy
        rw [kb_kpass k.1 ho hd hy, Bool.or_eq_false_iff] at this
        exact this.1
  · intro i h13 h14
    rw [e6, e7]
    exact ⟨(h5 i h13 h14).1, fun y hy => by rw [k2 _ (fun t ht => by omega)]; exact (h5 i h13 h14).2 y hy⟩
  · intro i y hi hy
    have k := h4 i hi
    show kb (kpass (ti i).en (nI o) (nI d)) (nI y) = true ↔ _
    rw [kb_kpass k.2.1 ho hd hy, Bool.or_eq_true, Bool.and_eq_true, decide_eq_true_eq, h6 i y hi hy, h6 i o hi ho, e7]
    constructor
    · rintro (⟨q, hq, a, b, c⟩ | ⟨e, q, hq, a, b, c⟩)
      · exact ⟨q, hq, hmono y q hy hq a, b, c⟩
      · exact ⟨q, hq, by rw [hK y q hy hq, a, decide_eq_true e]; simp, b, c⟩
    · rintro ⟨q, hq, a, b, c⟩
      rw [hK y q hy hq, Bool.or_eq_true, Bool.and_eq_true, decide_eq_true_eq] at a
      rcases a with a | ⟨e, a⟩
      · exact Or.inl ⟨q, hq, a, b, c⟩
      · exact Or.inr ⟨e, q, hq, a, b, c⟩
  · intro i hi hs
    rcases h8.2 i hi hs with e | ⟨p, p1, p2, p3, p4, p5, p6⟩
    · exact Or.inl e
    · refine Or.inr ⟨p, p1, p2, p3, p4, p5, fun y hy hb => ?_⟩
      rw [e7, hK y i hy hi, Bool.or_eq_true, Bool.and_eq_true, decide_eq_true_eq] at hb
      rw [e7, hK y p hy p1]
      rcases hb with hb | ⟨e, hb⟩
      · rw [p6 y hy hb]; rfl
      · rw [p6 o ho hb, decide_eq_true e]; simp
  · intro i hi
    obtain ⟨k, hk, a, b⟩ := h9 i hi
    exact ⟨k, hk, by rw [e7]; exact hmono _ k (h3 i hi).2.2.2.2.2.2.1 hk a, b⟩
theorem CM.number (h : CM n ti ch rl gv I B) {d : Nat} (hd : d < 6) (hg : gv d < 1000) : CM n ti ch rl (va_up gv d (gv d + 1)) (va_up I 8 (upd (I 8) d (I 8 d + 1))) B := by
  obtain ⟨h1, h2, h3, h4, h5, h6, h7, h8, h9, h10, h11, h12⟩ := id h
  refine ⟨srt_c rfl rfl h1, h2, h3, h4, h5, h6, h7, ⟨h8.1, h8.2⟩, h9, ?_, h11, h12⟩
  intro y hy
  show _ ∧ upd (I 8) d (I 8 d + 1) y = _
  by_cases e : y = d
  · subst e; rw [va_up_self, pk_us, (h10 y hy).2, nI_1]; exact ⟨by omega, rfl⟩
  · rw [va_up_ne _ _ e, pk_un e]; exact h10 y hy
end RC
