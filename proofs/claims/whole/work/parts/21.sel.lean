/-! ===== ranks, choosing the first or last, putting behind ===== -/
/-- ch holds all made tellings by rank -/
def srt (I : Nat → Nat → Int32) (n : Nat) (ch : List Nat) : Prop := (∀ i, i ∈ ch ↔ i < n) ∧ ch.Pairwise (fun i j => earlB I i j = true)
theorem earlB_iff {I : Nat → Nat → Int32} {i j : Nat} : earlB I i j = true ↔ (I 0 i).toInt < (I 0 j).toInt ∨ ((I 0 i).toInt = (I 0 j).toInt ∧ (I 1 i).toInt < (I 1 j).toInt) := by
  simp only [earlB, Bool.or_eq_true, Bool.and_eq_true, decide_eq_true_eq, Int32.lt_iff_toInt_lt, ← Int32.toInt_inj]
theorem earlB_tr {I : Nat → Nat → Int32} {i j k : Nat} (h1 : earlB I i j = true) (h2 : earlB I j k = true) : earlB I i k = true := by
  rw [earlB_iff] at *; omega
theorem earlB_irr {I : Nat → Nat → Int32} {i : Nat} : earlB I i i = false := by
  cases h : earlB I i i with
  | false => rfl
  | true => rw [earlB_iff] at h; omega
theorem earlB_as {I : Nat → Nat → Int32} {i j : Nat} (h1 : earlB I i j = true) : earlB I j i = false := by
  cases h : earlB I j i with
  | false => rfl
  | true => rw [earlB_iff] at *; omega
theorem pw_tot {R : Nat → Nat → Prop} : ∀ {l : List Nat}, l.Pairwise R → ∀ {i j : Nat}, i ∈ l → j ∈ l → i = j ∨ R i j ∨ R j i
  | [], _, _, _, h, _ => by cases h
  | x :: l, h, i, j, hi, hj => by
    have h2 := List.pairwise_cons.mp h
    rcases List.mem_cons.mp hi with e1 | hi2
    · rcases List.mem_cons.mp hj with e2 | hj2
      · exact Or.inl (e1.trans e2.symm)
      · exact Or.inr (Or.inl (e1 ▸ h2.1 j hj2))
    · rcases List.mem_cons.mp hj with e2 | hj2
      · exact Or.inr (Or.inr (e2 ▸ h2.1 i hi2))
      · exact pw_tot h2.2 hi2 hj2
theorem srt.tot {I : Nat → Nat → Int32} {n : Nat} {ch : List Nat} (h : srt I n ch) {i j : Nat} (hi : i < n) (hj : j < n) (hne : i ≠ j) (he : earlB I i j = false) : earlB I j i = true := by
  rcases pw_tot h.2 ((h.1 i).mpr hi) ((h.1 j).mpr hj) with e | e | e
  · exact absurd e hne
  · rw [he] at e; cases e
  · exact e
theorem srt.nd {I : Nat → Nat → Int32} {n : Nat} {ch : List Nat} (h : srt I n ch) : ch.Nodup := h.2.imp (fun {a b} hab e => by subst e; rw [earlB_irr] at hab; cases hab)
def selS (I : Nat → Nat → Int32) (g : Nat → Bool) (acc : Option Nat) (t : Nat) : Option Nat := cond (g t && (match acc with | none => true | some b => earlB I t b)) (some t) acc
theorem selS_lt {I : Nat → Nat → Int32} {g : Nat → Bool} : ∀ {k b : Nat}, iter (selS I g) none k = some b → b < k
  | 0, b, h => by cases h
  | k + 1, b, h => by
    have h : cond (g k && (match iter (selS I g) none k with | none => true | some b => earlB I k b)) (some k) (iter (selS I g) none k) = some b := h
    cases hc : (g k && (match iter (selS I g) none k with | none => true | some b => earlB I k b)) with
    | true => rw [hc] at h; cases h; exact Nat.lt_succ_self _
    | false => rw [hc] at h; exact Nat.lt_succ_of_lt (selS_lt h)
/-- b is the first of those before k that g has -/
def isMin (I : Nat → Nat → Int32) (g : Nat → Bool) (k : Nat) : Option Nat → Prop
  | none => ∀ t, t < k → g t = false
  | some b => b < k ∧ g b = true ∧ ∀ t, t < k → g t = true → t = b ∨ earlB I b t = true
theorem sel_min {I : Nat → Nat → Int32} {n : Nat} {ch : List Nat} (h : srt I n ch) (g : Nat → Bool) : ∀ k, k ≤ n → isMin I g k (iter (selS I g) none k)
  | 0, _ => fun t ht => absurd ht (Nat.not_lt_zero _)
  | k + 1, hk => by
    have ih := sel_min h g k (by omega)
    show isMin I g (k + 1) (selS I g (iter (selS I g) none k) k)
    cases ha : iter (selS I g) none k with
    | none =>
      rw [ha] at ih
      cases hg : g k with
      | false =>
        simp only [selS, hg, Bool.false_and, cond_false]
        intro t ht
        by_cases e : t = k
        · subst e; exact hg
        · exact ih t (by omega)
      | true =>
        simp only [selS, hg, Bool.and_true, cond_true]
        refine ⟨by omega, hg, fun t ht hgt => ?_⟩
        by_cases e : t = k
        · exact Or.inl e
        · rw [ih t (by omega)] at hgt; cases hgt
    | some b =>
      rw [ha] at ih
      obtain ⟨h1, h2, h3⟩ := ih
      cases hc : (g k && earlB I k b) with
      | true =>
        simp only [selS, hc, cond_true]
        obtain ⟨hg, he⟩ := Bool.and_eq_true_iff.mp hc
        refine ⟨by omega, hg, fun t ht hgt => ?_⟩
        by_cases e : t = k
        · exact Or.inl e
        · rcases h3 t (by omega) hgt with e2 | e2
          · subst e2; exact Or.inr he
          · exact Or.inr (earlB_tr he e2)
      | false =>
        simp only [selS, hc, cond_false]
        refine ⟨by omega, h2, fun t ht hgt => ?_⟩
        by_cases e : t = k
        · subst e
          rw [hgt, Bool.true_and] at hc
          exact Or.inr (h.tot (by omega) (by omega) (by omega) hc)
        · exact h3 t (by omega) hgt
theorem sel_head {I : Nat → Nat → Int32} {n : Nat} {ch : List Nat} (h : srt I n ch) (g : Nat → Bool) : iter (selS I g) none n = (ch.filter g).head? := by
  have hm := sel_min h g n (Nat.le_refl _)
  cases ha : iter (selS I g) none n with
  | none =>
    rw [ha] at hm
    have : ch.filter g = [] := List.filter_eq_nil_iff.mpr (fun t ht => by rw [hm t ((h.1 t).mp ht)]; decide)
    rw [this]; rfl
  | some b =>
    rw [ha] at hm
    obtain ⟨h1, h2, h3⟩ := hm
    cases hf : ch.filter g with
    | nil => exact absurd h2 (by rw [List.filter_eq_nil_iff] at hf; exact hf b ((h.1 b).mpr h1))
    | cons y r =>
      have hy : y ∈ ch.filter g := by rw [hf]; exact List.mem_cons_self
      have hb : b ∈ y :: r := by rw [← hf]; exact List.mem_filter.mpr ⟨(h.1 b).mpr h1, h2⟩
      have hp : (y :: r).Pairwise (fun i j => earlB I i j = true) := by rw [← hf]; exact h.2.sublist List.filter_sublist
      show some b = some y
      rcases h3 y ((h.1 y).mp (List.mem_filter.mp hy).1) (List.mem_filter.mp hy).2 with e | e
      · rw [e]
      · rcases List.mem_cons.mp hb with e2 | e2
        · rw [e2]
        · have := (List.pairwise_cons.mp hp).1 b e2
          rw [earlB_as e] at this; cases this
theorem filter_mem : ∀ {r ch : List Nat}, r.Sublist ch → ch.Nodup → ch.filter (fun t => decide (t ∈ r)) = r
  | _, _, .slnil, _ => rfl
  | r, _, .cons (l₂ := l) x hs, hnd => by
    have h2 := List.nodup_cons.mp hnd
    have : x ∉ r := fun h => h2.1 (hs.subset h)
    rw [List.filter_cons_of_neg (by simpa using this)]
    exact filter_mem hs h2.2
  | _, _, .cons₂ (l₁ := r) (l₂ := l) x hs, hnd => by
    have h2 := List.nodup_cons.mp hnd
    rw [List.filter_cons_of_pos (by simp)]
    congr 1
    rw [List.filter_congr (q := fun t => decide (t ∈ r)) (fun t ht => by
      have : t ≠ x := fun e => h2.1 (e ▸ ht)
      simp [this])]
    exact filter_mem hs h2.2
/-- x is put right behind the one that is be, or first -/
def insF (be : Int32) (x : Nat) : List Nat → Option (List Nat)
  | [] => none
  | y :: l => if nI y = be then some (y :: x :: l) else (insF be x l).map (y :: ·)
def insB (be : Int32) (x : Nat) (L : List Nat) : List Nat := (insF be x L).getD (x :: L)
theorem insF_none {be : Int32} {x : Nat} : ∀ {L : List Nat}, (∀ y ∈ L, nI y ≠ be) → insF be x L = none
  | [], _ => rfl
  | y :: l, h => by
    simp only [insF, if_neg (h y List.mem_cons_self), insF_none (fun z hz => h z (List.mem_cons_of_mem _ hz)), Option.map_none]
theorem insF_some {be : Int32} {x y : Nat} {q : List Nat} (hy : nI y = be) : ∀ {p : List Nat}, (∀ z ∈ p, nI z ≠ be) → insF be x (p ++ y :: q) = some (p ++ y :: x :: q)
  | [], _ => by simp only [List.nil_append, insF, if_pos hy]
  | z :: p, h => by
    simp only [List.cons_append, insF, if_neg (h z List.mem_cons_self), insF_some hy (fun z hz => h z (List.mem_cons_of_mem _ hz)), Option.map_some]
theorem insB_none {be : Int32} {x : Nat} {L : List Nat} (h : ∀ y ∈ L, nI y ≠ be) : insB be x L = x :: L := by rw [insB, insF_none h]; rfl
theorem insB_some {be : Int32} {x y : Nat} {p q : List Nat} (hy : nI y = be) (h : ∀ z ∈ p, nI z ≠ be) : insB be x (p ++ y :: q) = p ++ y :: x :: q := by rw [insB, insF_some hy h]; rfl
theorem ins_cases (be : Int32) : ∀ (L : List Nat), (∀ y ∈ L, nI y ≠ be) ∨ ∃ p y q, L = p ++ y :: q ∧ nI y = be ∧ ∀ z ∈ p, nI z ≠ be
  | [] => Or.inl (fun _ h => by cases h)
  | x :: L => by
    by_cases e : nI x = be
    · exact Or.inr ⟨[], x, L, rfl, e, fun _ h => by cases h⟩
    · rcases ins_cases be L with h | ⟨p, y, q, h1, h2, h3⟩
      · exact Or.inl (fun y hy => (List.mem_cons.mp hy).elim (fun h => h ▸ e) (h y))
      · exact Or.inr ⟨x :: p, y, q, by rw [h1]; rfl, h2, fun z hz => (List.mem_cons.mp hz).elim (fun h => h ▸ e) (h3 z)⟩
theorem insB_mem {be : Int32} {x i : Nat} {L : List Nat} : i ∈ insB be x L ↔ i = x ∨ i ∈ L := by
  rcases ins_cases be L with h | ⟨p, y, q, rfl, h2, h3⟩
  · rw [insB_none h]; exact List.mem_cons
  · rw [insB_some h2 h3]; simp only [List.mem_append, List.mem_cons]
    constructor
    · rintro (h | h | h | h)
      · exact Or.inr (Or.inl h)
      · exact Or.inr (Or.inr (Or.inl h))
      · exact Or.inl h
      · exact Or.inr (Or.inr (Or.inr h))
    · rintro (h | h | h | h)
      · exact Or.inr (Or.inr (Or.inl h))
      · exact Or.inl h
      · exact Or.inr (Or.inl h)
      · exact Or.inr (Or.inr (Or.inr h))
theorem insB_len {be : Int32} {x : Nat} {L : List Nat} : (insB be x L).length = L.length + 1 := by
  rcases ins_cases be L with h | ⟨p, y, q, rfl, h2, h3⟩
  · rw [insB_none h]; rfl
  · rw [insB_some h2 h3]; simp only [List.length_append, List.length_cons]; omega
theorem insB_nd {be : Int32} {x : Nat} {L : List Nat} (hL : L.Nodup) (hx : x ∉ L) : (insB be x L).Nodup := by
  rcases ins_cases be L with h | ⟨p, y, q, rfl, h2, h3⟩
  · rw [insB_none h]; exact List.nodup_cons.mpr ⟨hx, hL⟩
  · rw [insB_some h2 h3]
    rw [List.nodup_append] at hL ⊢
    obtain ⟨h4, h5, h6⟩ := hL
    have h7 := List.nodup_cons.mp h5
    have hxp : x ∉ p := fun h => hx (List.mem_append_left _ h)
    have hxy : x ≠ y := fun h => hx (List.mem_append_right _ (h ▸ List.mem_cons_self))
    have hxq : x ∉ q := fun h => hx (List.mem_append_right _ (List.mem_cons_of_mem _ h))
    refine ⟨h4, List.nodup_cons.mpr ⟨?_, List.nodup_cons.mpr ⟨hxq, h7.2⟩⟩, fun z hz u hu => ?_⟩
    · intro h; exact (List.mem_cons.mp h).elim (fun e => hxy e.symm) h7.1
    · rcases List.mem_cons.mp hu with e | hu
      · exact h6 z hz u (e ▸ List.mem_cons_self)
      · rcases List.mem_cons.mp hu with e | hu
        · intro e2; exact hxp (e ▸ e2 ▸ hz)
        · exact h6 z hz u (List.mem_cons_of_mem _ hu)
/-- where the model's loop finds the place -/
def atS (O : Nat → Int32) (be : Int32) (acc k : Nat) : Nat := cond (decide (O k = be)) (k + 1) acc
theorem atS_le (O : Nat → Int32) (be : Int32) : ∀ k, iter (atS O be) 0 k ≤ k
  | 0 => Nat.le_refl _
  | k + 1 => by
    show cond (decide (O k = be)) (k + 1) (iter (atS O be) 0 k) ≤ k + 1
    have := atS_le O be k
    cases decide (O k = be) <;> simp only [cond_true, cond_false] <;> omega
theorem atS_none {O : Nat → Int32} {be : Int32} : ∀ {k : Nat}, (∀ j, j < k → O j ≠ be) → iter (atS O be) 0 k = 0
  | 0, _ => rfl
  | k + 1, h => by
    show cond (decide (O k = be)) (k + 1) (iter (atS O be) 0 k) = 0
    rw [decide_eq_false (h k (Nat.lt_succ_self _)), cond_false, atS_none (fun j hj => h j (by omega))]
theorem atS_some {O : Nat → Int32} {be : Int32} {k0 : Nat} (h0 : O k0 = be) : ∀ {k : Nat}, k0 < k → (∀ j, j < k → O j = be → j = k0) → iter (atS O be) 0 k = k0 + 1
  | 0, h, _ => absurd h (Nat.not_lt_zero _)
  | k + 1, h, hu => by
    show cond (decide (O k = be)) (k + 1) (iter (atS O be) 0 k) = k0 + 1
    by_cases e : O k = be
    · rw [decide_eq_true e, cond_true, hu k (Nat.lt_succ_self _) e]
    · rw [decide_eq_false e, cond_false]
      have : k ≠ k0 := fun e2 => e (e2 ▸ h0)
      exact atS_some h0 (by omega) (fun j hj => hu j (by omega))
/-- the list that an array holds -/
def held (O : Nat → Int32) (L : List Nat) : Prop := ∀ k y, L[k]? = some y → O k = nI y
theorem ins_at {O : Nat → Int32} {L : List Nat} (hh : held O L) (hL : L.Nodup) (hb : ∀ y ∈ L, y < 2 ^ 31) (be : Int32) (x : Nat) : L.take (iter (atS O be) 0 L.length) ++ x :: L.drop (iter (atS O be) 0 L.length) = insB be x L := by
  rcases ins_cases be L with h | ⟨p, y, q, rfl, h2, h3⟩
  · rw [insB_none h, atS_none (fun j hj => by
      rw [hh j L[j] (List.getElem?_eq_getElem hj)]; exact h _ (List.getElem_mem hj))]
    simp
  · rw [insB_some h2 h3]
    have hy : (p ++ y :: q)[p.length]? = some y := by simp
    rw [atS_some (k0 := p.length) (by rw [hh _ _ hy]; exact h2) (by simp) (fun j hj e => by
      have h4 := hh j _ (List.getElem?_eq_getElem hj)
      rw [e, ← h2] at h4
      have h5 := (nI_eq (hb y (by simp)) (hb _ (List.getElem_mem hj))).mp h4
      have h6 : (p ++ y :: q)[j] = (p ++ y :: q)[p.length]'(by simp) := by rw [← h5]; simp
      exact (List.getElem_inj hL).mp h6)]
    rw [show p ++ y :: q = (p ++ [y]) ++ q by simp, List.take_left' (by simp), List.drop_left' (by simp)]
    simp
theorem held_ins {O O' : Nat → Int32} {L : List Nat} (hh : held O L) {at9 x : Nat} (ha : at9 ≤ L.length) (h1 : ∀ j, j < at9 → O' j = O j) (h2 : O' at9 = nI x) (h3 : ∀ j, at9 < j → j ≤ L.length → O' j = O (j - 1)) : held O' (L.take at9 ++ x :: L.drop at9) := by
  intro k y hy
  by_cases hk : k < at9
  · rw [List.getElem?_append_left (by rw [List.length_take]; omega), List.getElem?_take_of_lt hk] at hy
    rw [h1 k hk]; exact hh k y hy
  · rw [List.getElem?_append_right (by rw [List.length_take]; omega), List.length_take, Nat.min_eq_left ha] at hy
    by_cases e : k = at9
    · subst e
      rw [Nat.sub_self] at hy
      cases hy; exact h2
    · obtain ⟨u, hu⟩ : ∃ u, k - at9 = u + 1 := ⟨k - at9 - 1, by omega⟩
      rw [hu, List.getElem?_cons_succ, List.getElem?_drop] at hy
      have hl : at9 + u < L.length := by
        rcases Nat.lt_or_ge (at9 + u) L.length with h | h
        · exact h
        · rw [List.getElem?_eq_none h] at hy; cases hy
      rw [h3 k (by omega) (by omega), show k - 1 = at9 + u by omega]
      exact hh _ _ hy
/-- the model's row -/
def lineL (I : Nat → Nat → Int32) (l : List Nat) : List Nat := l.foldl (fun L x => insB (I 5 x) x L) []
