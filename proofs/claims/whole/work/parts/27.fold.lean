/-! ===== folds along the chain and loops over all that were made ===== -/
def allN (n : Nat) (ch : List Nat) : Prop := (∀ i, i ∈ ch ↔ i < n) ∧ ch.Nodup
theorem srt.an {I : Nat → Nat → Int32} {n : Nat} {ch : List Nat} (h : srt I n ch) : allN n ch := ⟨h.1, h.nd⟩
theorem fold_add (c : Nat → Int32) : ∀ (l : List Nat) (g : Int32), l.foldl (fun g i => g + c i) g = g + l.foldl (fun g i => g + c i) 0
  | [], g => by simp
  | i :: l, g => by rw [List.foldl_cons, List.foldl_cons, fold_add c l (g + c i), fold_add c l (0 + c i), Int32.zero_add, Int32.add_assoc]
theorem fold_sum (c : Nat → Int32) : ∀ (n : Nat) (ch : List Nat), allN n ch → ch.foldl (fun g i => g + c i) 0 = iter (fun a t => a + c t) 0 n
  | 0, ch, h => by
    cases ch with
    | nil => rfl
    | cons i r => exact absurd ((h.1 i).mp List.mem_cons_self) (Nat.not_lt_zero _)
  | n + 1, ch, h => by
    obtain ⟨c1, c2, rfl⟩ := List.append_of_mem ((h.1 n).mpr (Nat.lt_succ_self n))
    have hnd := h.2
    rw [List.nodup_append] at hnd
    obtain ⟨h1, h2, h3⟩ := hnd
    have h2' := List.nodup_cons.mp h2
    have h4 : allN n (c1 ++ c2) := by
      refine ⟨fun i => ⟨fun hi => ?_, fun hi => ?_⟩, ?_⟩
      · have h5 : i < n + 1 := (h.1 i).mp ((List.mem_append.mp hi).elim (fun h => List.mem_append_left _ h) (fun h => List.mem_append_right _ (List.mem_cons_of_mem _ h)))
        have h6 : i ≠ n := fun e => (List.mem_append.mp hi).elim (fun h => h3 i h n List.mem_cons_self e) (fun h => h2'.1 (e ▸ h))
        omega
      · have h5 := (h.1 i).mpr (Nat.lt_succ_of_lt hi)
        rcases List.mem_append.mp h5 with h | h
        · exact List.mem_append_left _ h
        · rcases List.mem_cons.mp h with h | h
          · omega
          · exact List.mem_append_right _ h
      · rw [List.nodup_append]
        exact ⟨h1, h2'.2, fun a ha b hb => h3 a ha b (List.mem_cons_of_mem _ hb)⟩
    have ih := fold_sum c n (c1 ++ c2) h4
    show _ = iter (fun a t => a + c t) 0 n + c n
    rw [← ih, List.foldl_append, List.foldl_append, List.foldl_cons, fold_add c c2 (_ + c n), fold_add c c2 (List.foldl _ 0 c1), Int32.add_assoc, Int32.add_assoc, Int32.add_comm (c n)]
theorem iter_congr {α : Type} {f g : α → Nat → α} : ∀ {n : Nat} {a : α}, (∀ x t, t < n → f x t = g x t) → iter f a n = iter g a n
  | 0, _, _ => rfl
  | n + 1, a, h => by
    show f (iter f a n) n = g (iter g a n) n
    rw [h _ n (Nat.lt_succ_self n), iter_congr (fun x t ht => h x t (by omega))]
theorem fold_congr {α : Type} {f g : α → Nat → α} : ∀ {l : List Nat} {a : α}, (∀ x t, t ∈ l → f x t = g x t) → l.foldl f a = l.foldl g a
  | [], _, _ => rfl
  | i :: l, a, h => by rw [List.foldl_cons, List.foldl_cons, h _ i List.mem_cons_self, fold_congr (fun x t ht => h x t (List.mem_cons_of_mem _ ht))]
/-- a count or sum along the chain is the loop's -/
theorem fold_iter {n : Nat} {ch : List Nat} (h : allN n ch) {f g : Int32 → Nat → Int32} (c : Nat → Int32) (hf : ∀ x i, i < n → f x i = x + c i) (hg : ∀ x i, i < n → g x i = x + c i) : ch.foldl f 0 = iter g 0 n := by
  rw [fold_congr (g := fun x i => x + c i) (fun x i hi => hf x i ((h.1 i).mp hi)), fold_sum c n ch h, iter_congr (f := g) (g := fun x i => x + c i) (fun x i hi => hg x i hi)]
theorem cond_add (b : Bool) (x y : Int32) : cond b (x + y) x = x + cond b y 0 := by cases b <;> simp
theorem iter_any {p : Nat → Bool} : ∀ {n : Nat}, iter (fun a t => a || p t) false n = true ↔ ∃ t, t < n ∧ p t = true
  | 0 => ⟨fun h => (by cases h), fun ⟨t, h, _⟩ => absurd h (Nat.not_lt_zero _)⟩
  | n + 1 => by
    show (iter (fun a t => a || p t) false n || p n) = true ↔ _
    rw [Bool.or_eq_true, iter_any]
    constructor
    · rintro (⟨t, h1, h2⟩ | h)
      · exact ⟨t, by omega, h2⟩
      · exact ⟨n, Nat.lt_succ_self _, h⟩
    · rintro ⟨t, h1, h2⟩
      by_cases e : t = n
      · exact Or.inr (e ▸ h2)
      · exact Or.inl ⟨t, by omega, h2⟩
theorem iter_all {p : Nat → Bool} : ∀ {n : Nat}, iter (fun a t => a && p t) true n = true ↔ ∀ t, t < n → p t = true
  | 0 => ⟨fun _ t h => absurd h (Nat.not_lt_zero _), fun _ => rfl⟩
  | n + 1 => by
    show (iter (fun a t => a && p t) true n && p n) = true ↔ _
    rw [Bool.and_eq_true, iter_all]
    constructor
    · rintro ⟨h1, h2⟩ t ht
      by_cases e : t = n
      · exact e ▸ h2
      · exact h1 t (by omega)
    · exact fun h => ⟨fun t ht => h t (by omega), h n (Nat.lt_succ_self _)⟩
theorem bool_iff {p q : Bool} (h : p = true ↔ q = true) : p = q := by cases p <;> cases q <;> simp_all
theorem enS_iff {I : Nat → Nat → Int32} {B : Nat → Nat → Bool} {d n : Nat} {so x : Int32} : iter (enS I B d so x) false n = true ↔ ∃ t, t < n ∧ B 7 (120 * d + t) = true ∧ I 2 t = so ∧ I 4 t = x := by
  rw [show iter (enS I B d so x) false n = iter (fun a t => a || (B 7 (120 * d + t) && (decide (I 2 t = so) && decide (I 4 t = x)))) false n from rfl, iter_any]
  simp only [Bool.and_eq_true, decide_eq_true_eq]
theorem cmB_iff {B : Nat → Nat → Bool} {t : Nat} : cmB B t = true ↔ ∀ d, d < 6 → B 7 (120 * d + t) = true := by
  rw [show cmB B t = iter (fun a d => a && B 7 (120 * d + t)) true 6 from rfl, iter_all]
theorem hsB_iff {I : Nat → Nat → Int32} {B : Nat → Nat → Bool} {n d v : Nat} {th : Int32} : hsB I B n d th v = true ↔ ∃ t, t < n ∧ isOfB I B d t th 2 = true ∧ I 4 t = nI v := by
  rw [show hsB I B n d th v = iter (fun a t => a || (isOfB I B d t th 2 && decide (I 4 t = nI v))) false n from rfl, iter_any]
  simp only [Bool.and_eq_true, decide_eq_true_eq]
theorem paB_iff {I : Nat → Nat → Int32} {B : Nat → Nat → Bool} {n t : Nat} : paB I B n t = true ↔ (∃ k, k < n ∧ isOfB I B 0 k (I 3 t) 0 = true ∧ earlB I t k = true ∧ cmB B k = true) ∧ cmB B t = true := by
  unfold paB
  rw [Bool.and_eq_true, show iter (paS I B t) false n = iter (fun a k => a || (isOfB I B 0 k (I 3 t) 0 && (earlB I t k && cmB B k))) false n from rfl, iter_any]
  simp only [Bool.and_eq_true]
/-- the latest -/
def isMax (I : Nat → Nat → Int32) (g : Nat → Bool) (k : Nat) : Option Nat → Prop
  | none => ∀ t, t < k → g t = false
  | some b => b < k ∧ g b = true ∧ ∀ t, t < k → g t = true → t = b ∨ earlB I t b = true
def maxS (I : Nat → Nat → Int32) (g : Nat → Bool) (acc : Option Nat) (t : Nat) : Option Nat := cond (g t && (match acc with | none => true | some b => earlB I b t)) (some t) acc
theorem max_is {I : Nat → Nat → Int32} {n : Nat} {ch : List Nat} (h : srt I n ch) (g : Nat → Bool) : ∀ k, k ≤ n → isMax I g k (iter (maxS I g) none k)
  | 0, _ => fun t ht => absurd ht (Nat.not_lt_zero _)
  | k + 1, hk => by
    have ih := max_is h g k (by omega)
    show isMax I g (k + 1) (maxS I g (iter (maxS I g) none k) k)
    cases ha : iter (maxS I g) none k with
    | none =>
      rw [ha] at ih
      cases hg : g k with
      | false =>
        simp only [maxS, hg, Bool.false_and, cond_false]
        intro t ht
        by_cases e : t = k
        · subst e; exact hg
        · exact ih t (by omega)
      | true =>
        simp only [maxS, hg, Bool.and_true, cond_true]
        refine ⟨by omega, hg, fun t ht hgt => ?_⟩
        by_cases e : t = k
        · exact Or.inl e
        · rw [ih t (by omega)] at hgt; cases hgt
    | some b =>
      rw [ha] at ih
      obtain ⟨h1, h2, h3⟩ := ih
      cases hc : (g k && earlB I b k) with
      | true =>
        simp only [maxS, hc, cond_true]
        obtain ⟨hg, he⟩ := Bool.and_eq_true_iff.mp hc
        refine ⟨by omega, hg, fun t ht hgt => ?_⟩
        by_cases e : t = k
        · exact Or.inl e
        · rcases h3 t (by omega) hgt with e2 | e2
          · subst e2; exact Or.inr he
          · exact Or.inr (earlB_tr e2 he)
      | false =>
        simp only [maxS, hc, cond_false]
        refine ⟨by omega, h2, fun t ht hgt => ?_⟩
        by_cases e : t = k
        · subst e
          rw [hgt, Bool.true_and] at hc
          exact Or.inr (h.tot (by omega) (by omega) (by omega) hc)
        · exact h3 t (by omega) hgt
/-- a fold that keeps the last -/
theorem fold_last {g : Nat → Bool} {v : Nat → Int32} : ∀ (l : List Nat) (a : Int32), (∀ i ∈ l, g i = false) ∧ l.foldl (fun x i => cond (g i) (v i) x) a = a ∨ ∃ p b q, l = p ++ b :: q ∧ g b = true ∧ (∀ i ∈ q, g i = false) ∧ l.foldl (fun x i => cond (g i) (v i) x) a = v b
  | [], a => Or.inl ⟨fun _ h => (by cases h), rfl⟩
  | i :: l, a => by
    rcases fold_last (g := g) (v := v) l (cond (g i) (v i) a) with ⟨h1, h2⟩ | ⟨p, b, q, h1, h2, h3, h4⟩
    · cases hg : g i with
      | false =>
        refine Or.inl ⟨fun j hj => (List.mem_cons.mp hj).elim (fun e => e ▸ hg) (h1 j), ?_⟩
        rw [List.foldl_cons, h2, hg]; rfl
      | true =>
        refine Or.inr ⟨[], i, l, rfl, hg, h1, ?_⟩
        rw [List.foldl_cons, h2, hg]; rfl
    · exact Or.inr ⟨i :: p, b, q, by rw [h1]; rfl, h2, h3, h4⟩
theorem last_max {I : Nat → Nat → Int32} {n : Nat} {ch : List Nat} (h : srt I n ch) {g : Nat → Bool} {v : Nat → Int32} {a : Int32} : ch.foldl (fun x i => cond (g i) (v i) x) a = (match iter (maxS I g) none n with | none => a | some b => v b) := by
  have hm := max_is h g n (Nat.le_refl _)
  rcases fold_last (g := g) (v := v) ch a with ⟨h1, h2⟩ | ⟨p, b, q, h1, h2, h3, h4⟩
  · rw [h2]
    cases ha : iter (maxS I g) none n with
    | none => rfl
    | some c =>
      rw [ha] at hm
      have := h1 c ((h.1 c).mpr hm.1)
      rw [hm.2.1] at this; cases this
  · rw [h4]
    have hb : b < n := (h.1 b).mp (by rw [h1]; simp)
    cases ha : iter (maxS I g) none n with
    | none =>
      rw [ha] at hm
      have := hm b hb
      rw [h2] at this; cases this
    | some c =>
      rw [ha] at hm
      show v b = v c
      rcases hm.2.2 b hb h2 with e | e
      · rw [e]
      · have hc : c ∈ p ++ b :: q := by rw [← h1]; exact (h.1 c).mpr hm.1
        have hp := h.2
        rw [h1, List.pairwise_append] at hp
        rcases List.mem_append.mp hc with hc | hc
        · have := hp.2.2 c hc b List.mem_cons_self
          rw [earlB_as e] at this; cases this
        · rcases List.mem_cons.mp hc with hc | hc
          · rw [hc]
          · have := h3 c hc
            rw [hm.2.1] at this; cases this
/-- members of a union, counted -/
theorem mu_un {u : Int32} {P : Nat → Bool} (k : Int32) : ∀ (m v : Nat) (b : Int32), v + m ≤ 32 → (∀ x, x < 32 → ub u x = P x) → muG u k m v b = unG P k m v b
  | 0, _, _, _, _ => rfl
  | m + 1, v, b, h, hu => by
    simp only [muG, unG, hu v (by omega)]
    cases P v with
    | false => simp only [Bool.false_and, cond_false]; exact mu_un k m (v + 1) b (by omega) hu
    | true =>
      simp only [Bool.true_and, cond_true]
      by_cases e : b = k
      · simp [e]
      · simp only [e, decide_false, cond_false]; exact mu_un k m (v + 1) (b + 1) (by omega) hu
