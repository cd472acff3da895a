/-! ===== rows: leaving out, putting in ===== -/
theorem filt_ins0 {P : Nat → Bool} {be : Int32} {x : Nat} (hx : P x = false) (L : List Nat) : (insB be x L).filter P = L.filter P := by
  rcases ins_cases be L with h | ⟨p, y, q, rfl, h2, h3⟩
  · rw [insB_none h, List.filter_cons_of_neg (by simp [hx])]
  · rw [insB_some h2 h3, List.filter_append, List.filter_append]
    congr 1
    cases hy : P y with
    | true => rw [List.filter_cons_of_pos hy, List.filter_cons_of_pos hy, List.filter_cons_of_neg (by simp [hx])]
    | false => simp [hy, hx]
theorem filt_ins1 {P : Nat → Bool} {be : Int32} {x : Nat} (hx : P x = true) {L : List Nat} (hp : ∀ y ∈ L, nI y = be → P y = true) : (insB be x L).filter P = insB be x (L.filter P) := by
  rcases ins_cases be L with h | ⟨p, y, q, rfl, h2, h3⟩
  · rw [insB_none h, List.filter_cons_of_pos hx, insB_none (fun y hy => h y (List.mem_filter.mp hy).1)]
  · have hy : P y = true := hp y (by simp) h2
    rw [insB_some h2 h3, List.filter_append, List.filter_append, List.filter_cons_of_pos hy, List.filter_cons_of_pos hx, List.filter_cons_of_pos hy, insB_some h2 (fun z hz => h3 z (List.mem_filter.mp hz).1)]
theorem filt_line {I : Nat → Nat → Int32} {P : Nat → Bool} : ∀ (l L : List Nat), (∀ x ∈ l, P x = true → ∀ y, (y ∈ l ∨ y ∈ L) → nI y = I 5 x → P y = true) → (l.foldl (fun L x => insB (I 5 x) x L) L).filter P = (l.filter P).foldl (fun L x => insB (I 5 x) x L) (L.filter P)
  | [], L, _ => rfl
  | x :: l, L, h => by
    rw [List.foldl_cons, filt_line l (insB (I 5 x) x L) (fun u hu hP y hy e => h u (List.mem_cons_of_mem _ hu) hP y (by
      rcases hy with hy | hy
      · exact Or.inl (List.mem_cons_of_mem _ hy)
      · rcases insB_mem.mp hy with e | hy
        · exact Or.inl (e ▸ List.mem_cons_self)
        · exact Or.inr hy) e)]
    cases hx : P x with
    | true => rw [List.filter_cons_of_pos hx, List.foldl_cons, filt_ins1 hx (fun y hy e => h x List.mem_cons_self hx y (Or.inr hy) e)]
    | false => rw [List.filter_cons_of_neg (by simp [hx]), filt_ins0 hx]
theorem lineL_filter {I : Nat → Nat → Int32} {P : Nat → Bool} {l : List Nat} (h : ∀ x ∈ l, P x = true → ∀ y ∈ l, nI y = I 5 x → P y = true) : (lineL I l).filter P = lineL I (l.filter P) :=
  filt_line l [] (fun x hx hP y hy e => h x hx hP y (hy.elim id (fun h => by cases h)) e)
/-- x is put before the first that is not later -/
def skI (lt : Nat → Bool) (x : Nat) : List Nat → List Nat
  | [] => [x]
  | i :: r => cond (lt i) (i :: skI lt x r) (x :: i :: r)
theorem skR_eq (ti : Nat → TI) (j : Nat) : ∀ l, skR ti j l = skI (fun i => ltT (ti i) (ti j)) j l
  | [] => rfl
  | i :: r => by simp only [skR, skI, skR_eq ti j r]
theorem skI_not {lt : Nat → Bool} {x : Nat} {l : List Nat} (h : ∀ i ∈ l, lt i = false) : skI lt x l = x :: l := by
  cases l with
  | nil => rfl
  | cons i r => simp only [skI, h i List.mem_cons_self, cond_false]
theorem skI_ins {lt : Nat → Bool} {x y c : Nat} {be : Int32} {q : List Nat} (hc : nI c = be) (hx : nI x ≠ be) (hy : lt y = true) : ∀ {p : List Nat}, (∀ z ∈ p, nI z ≠ be) → insF be y (skI lt x (p ++ c :: q)) = some (skI lt x (p ++ c :: y :: q))
  | [], _ => by
    cases hl : lt c with
    | true => simp only [List.nil_append, skI, hl, hy, cond_true, insF, if_pos hc]
    | false => simp only [List.nil_append, skI, hl, cond_false, insF, if_neg hx, if_pos hc, Option.map_some]
  | z :: p, h => by
    cases hl : lt z with
    | true => simp only [List.cons_append, skI, hl, cond_true, insF, if_neg (h z List.mem_cons_self), skI_ins hc hx hy (fun z hz => h z (List.mem_cons_of_mem _ hz)), Option.map_some]
    | false =>
      simp only [List.cons_append, skI, hl, cond_false]
      exact insF_some (p := x :: z :: p) hc (fun u hu => (List.mem_cons.mp hu).elim (fun e => e ▸ hx) (h u))
theorem skI_mem {lt : Nat → Bool} {x i : Nat} : ∀ {l : List Nat}, i ∈ skI lt x l ↔ i = x ∨ i ∈ l
  | [] => by simp [skI]
  | z :: l => by
    cases hl : lt z with
    | true => simp only [skI, hl, cond_true, List.mem_cons, skI_mem (l := l)]; exact ⟨fun h => h.elim (fun h => Or.inr (Or.inl h)) (fun h => h.elim Or.inl (fun h => Or.inr (Or.inr h))), fun h => h.elim (fun h => Or.inr (Or.inl h)) (fun h => h.elim Or.inl (fun h => Or.inr (Or.inr h)))⟩
    | false => simp only [skI, hl, cond_false, List.mem_cons]
def shp (be : Int32) (pre : List Nat) : Prop := (be = -1 ∧ pre = []) ∨ ∃ b p, be = nI b ∧ pre = p ++ [b]
def relB (lt : Nat → Bool) (x : Nat) (be : Int32) (L Lx : List Nat) : Prop := ∃ pre r, L = pre ++ r ∧ shp be pre ∧ Lx = pre ++ skI lt x r
theorem relB_step {lt : Nat → Bool} {x y : Nat} {be b2 : Int32} {L Lx : List Nat} (h : relB lt x be L Lx) (hx : nI x ≠ b2) (hy : lt y = true) : relB lt x be (insB b2 y L) (insB b2 y Lx) := by
  obtain ⟨pre, r, rfl, hs, rfl⟩ := h
  rcases ins_cases b2 pre with hn | ⟨p1, c, q1, rfl, hc, hp⟩
  · rcases ins_cases b2 r with hn2 | ⟨p1, c, q1, rfl, hc, hp⟩
    · rw [insB_none (fun z hz => (List.mem_append.mp hz).elim (hn z) (hn2 z)), insB_none (fun z hz => (List.mem_append.mp hz).elim (hn z) (fun h => (skI_mem.mp h).elim (fun e => e ▸ hx) (hn2 z)))]
      rcases hs with ⟨h1, rfl⟩ | ⟨b, p, h1, rfl⟩
      · exact ⟨[], y :: r, rfl, Or.inl ⟨h1, rfl⟩, by simp only [List.nil_append, skI, hy, cond_true]⟩
      · exact ⟨y :: (p ++ [b]), r, rfl, Or.inr ⟨b, y :: p, h1, rfl⟩, rfl⟩
    · have h1 : insB b2 y (pre ++ (p1 ++ c :: q1)) = pre ++ (p1 ++ c :: y :: q1) := by
        rw [← List.append_assoc, insB_some hc (fun z hz => (List.mem_append.mp hz).elim (hn z) (hp z)), List.append_assoc]
      have h2 : ∀ {m k : List Nat}, insF b2 y m = some k → ∀ {u : List Nat}, (∀ z ∈ u, nI z ≠ b2) → insF b2 y (u ++ m) = some (u ++ k) := by
        intro m k hmk u
        induction u with
        | nil => exact fun _ => hmk
        | cons z u ih => intro hu; simp only [List.cons_append, insF, if_neg (hu z List.mem_cons_self), ih (fun v hv => hu v (List.mem_cons_of_mem _ hv)), Option.map_some]
      refine ⟨pre, p1 ++ c :: y :: q1, h1, hs, ?_⟩
      rw [insB, h2 (skI_ins hc hx hy hp) hn]; rfl
  · have h1 : insB b2 y ((p1 ++ c :: q1) ++ r) = p1 ++ c :: y :: (q1 ++ r) := by
      rw [List.append_assoc, List.cons_append, insB_some hc hp]
    have h2 : insB b2 y ((p1 ++ c :: q1) ++ skI lt x r) = p1 ++ c :: y :: (q1 ++ skI lt x r) := by
      rw [List.append_assoc, List.cons_append, insB_some hc hp]
    rw [h1, h2]
    rcases hs with ⟨_, h3⟩ | ⟨b, p, h3, h4⟩
    · exact absurd h3 (by simp)
    · rcases snoc q1 with rfl | ⟨q2, b', rfl⟩
      · have h5 : p1 ++ [c] = p ++ [b] := h4
        refine ⟨p1 ++ [c], y :: r, by simp, Or.inr ⟨b, p, h3, h5⟩, ?_⟩
        simp only [skI, hy, cond_true, List.nil_append, List.append_assoc, List.singleton_append]
      · have h5 : (p1 ++ c :: q2) ++ [b'] = p ++ [b] := by rw [← h4]; simp
        have h6 := List.append_inj' h5 rfl
        have h7 : b' = b := by simpa using h6.2
        exact ⟨p1 ++ c :: y :: (q2 ++ [b']), r, by simp, Or.inr ⟨b, p1 ++ c :: y :: q2, h3, by rw [h7]; simp⟩, by simp⟩
theorem relB_fold {I : Nat → Nat → Int32} {lt : Nat → Bool} {x : Nat} {be : Int32} : ∀ (l : List Nat) {L Lx : List Nat}, relB lt x be L Lx → (∀ y ∈ l, lt y = true ∧ nI x ≠ I 5 y) → relB lt x be (l.foldl (fun L x => insB (I 5 x) x L) L) (l.foldl (fun L x => insB (I 5 x) x L) Lx)
  | [], _, _, h, _ => h
  | y :: l, L, Lx, h, hl => relB_fold l (relB_step h (hl y List.mem_cons_self).2 (hl y List.mem_cons_self).1) (fun z hz => hl z (List.mem_cons_of_mem _ hz))
theorem split_eq {b : Nat} : ∀ {p p0 r r0 : List Nat}, p ++ b :: r = p0 ++ b :: r0 → (p ++ b :: r).Nodup → p = p0 ∧ r = r0
  | [], [], r, r0, h, _ => ⟨rfl, by simpa using h⟩
  | [], z :: p0, r, r0, h, hnd => by
    simp only [List.nil_append, List.cons_append, List.cons.injEq] at h
    obtain ⟨rfl, h2⟩ := h
    exact absurd (by rw [h2]; simp) (List.nodup_cons.mp hnd).1
  | z :: p, [], r, r0, h, hnd => by
    simp only [List.nil_append, List.cons_append, List.cons.injEq] at h
    obtain ⟨rfl, h2⟩ := h
    exact absurd (by simp) (List.nodup_cons.mp hnd).1
  | z :: p, z0 :: p0, r, r0, h, hnd => by
    simp only [List.cons_append, List.cons.injEq] at h
    obtain ⟨rfl, h2⟩ := h
    obtain ⟨h3, h4⟩ := split_eq h2 (List.nodup_cons.mp hnd).2
    exact ⟨by rw [h3], h4⟩
theorem shp_eq {be : Int32} {p p0 r r0 : List Nat} (h : p ++ r = p0 ++ r0) (hnd : (p ++ r).Nodup) (hb : ∀ i ∈ p ++ r, i < 2 ^ 31) (h1 : shp be p) (h2 : shp be p0) : p = p0 ∧ r = r0 := by
  rcases h1 with ⟨e1, rfl⟩ | ⟨b, q, e1, rfl⟩
  · rcases h2 with ⟨e2, rfl⟩ | ⟨b, q, e2, rfl⟩
    · exact ⟨rfl, h⟩
    · exact absurd (e2.symm.trans e1) (oI_some (hb b (by rw [h]; simp)))
  · rcases h2 with ⟨e2, rfl⟩ | ⟨b', q', e2, rfl⟩
    · exact absurd (e1.symm.trans e2) (oI_some (hb b (by simp)))
    · have h3 : b = b' := (nI_eq (hb b (by simp)) (hb b' (by rw [h]; simp))).mp (e1.symm.trans e2)
      subst h3
      rw [List.append_assoc, List.append_assoc] at h
      have h4 := split_eq h (by rw [List.append_assoc] at hnd; exact hnd)
      exact ⟨by rw [h4.1], h4.2⟩
theorem lineL_app (I : Nat → Nat → Int32) (l m : List Nat) : lineL I (l ++ m) = m.foldl (fun L x => insB (I 5 x) x L) (lineL I l) := by simp only [lineL, List.foldl_append]
theorem lineL_c {I I' : Nat → Nat → Int32} : ∀ (l L : List Nat), (∀ i ∈ l, I' 5 i = I 5 i) → l.foldl (fun L x => insB (I' 5 x) x L) L = l.foldl (fun L x => insB (I 5 x) x L) L := fun l L h => fold_congr (fun x t ht => by rw [h t ht])
theorem lineL_mem' {I : Nat → Nat → Int32} {l : List Nat} {i : Nat} : i ∈ lineL I l ↔ i ∈ l := by rw [lineL, lineL_mem]; simp
theorem row_ins {I I' : Nat → Nat → Int32} {lt : Nat → Bool} {f1 f2 pre0 r0 : List Nat} {x : Nat} {be : Int32} (hx : I' 5 x = be) (hI : ∀ i ∈ f1 ++ f2, I' 5 i = I 5 i) (h1 : ∀ i ∈ f1, lt i = false) (h2 : ∀ i ∈ f2, lt i = true) (hpar : ∀ i ∈ f2, nI x ≠ I 5 i) (hb : be = -1 ∨ ∃ b ∈ f1, be = nI b) (hbd : ∀ i ∈ f1 ++ f2, i < 2 ^ 31) (hnd : (f1 ++ f2).Nodup) (hr : lineL I (f1 ++ f2) = pre0 ++ r0) (hsh : shp be pre0) : lineL I' (f1 ++ x :: f2) = pre0 ++ skI lt x r0 := by
  have hL : lineL I' (f1 ++ x :: f2) = f2.foldl (fun L x => insB (I 5 x) x L) (insB be x (lineL I f1)) := by
    rw [lineL_app, List.foldl_cons, hx, lineL_c f2 _ (fun i hi => hI i (List.mem_append_right _ hi))]
    congr 2
    exact lineL_c f1 [] (fun i hi => hI i (List.mem_append_left _ hi))
  have hbase : relB lt x be (lineL I f1) (insB be x (lineL I f1)) := by
    rcases hb with hb | ⟨b, hb1, hb2⟩
    · refine ⟨[], lineL I f1, rfl, Or.inl ⟨hb, rfl⟩, ?_⟩
      rw [insB_none (fun y hy => by rw [hb]; exact oI_some (hbd y (List.mem_append_left _ (lineL_mem'.mp hy)))), skI_not (fun i hi => h1 i (lineL_mem'.mp hi))]; rfl
    · obtain ⟨p, q, hpq⟩ := List.append_of_mem (lineL_mem'.mpr hb1 : b ∈ lineL I f1)
      have hndl : (lineL I f1).Nodup := lineL_nd I f1 [] (by rw [List.append_nil]; exact (List.nodup_append.mp hnd).1)
      refine ⟨p ++ [b], q, by rw [hpq]; simp, Or.inr ⟨b, p, hb2, rfl⟩, ?_⟩
      rw [hpq] at hndl ⊢
      have hnb : ∀ z ∈ p, nI z ≠ be := by
        intro z hz e
        have hzl : z ∈ lineL I f1 := by rw [hpq]; exact List.mem_append_left _ hz
        have h9 := (nI_eq (hbd z (List.mem_append_left _ (lineL_mem'.mp hzl))) (hbd b (List.mem_append_left _ hb1))).mp (e.trans hb2)
        exact (List.nodup_append.mp hndl).2.2 z hz b List.mem_cons_self h9
      rw [insB_some hb2.symm hnb, skI_not (fun i hi => h1 i (lineL_mem'.mp (by rw [hpq]; exact List.mem_append_right _ (List.mem_cons_of_mem _ hi))))]
      simp
  obtain ⟨pre, r, h3, h4, h5⟩ := relB_fold f2 hbase (fun y hy => ⟨h2 y hy, hpar y hy⟩)
  rw [hL, h5]
  rw [lineL_app] at hr
  have hndl : (lineL I (f1 ++ f2)).Nodup := lineL_nd I (f1 ++ f2) [] (by rw [List.append_nil]; exact hnd)
  rw [lineL_app, h3] at hndl
  have h6 := shp_eq (h3.symm.trans hr) hndl (fun i hi => hbd i (lineL_mem'.mp (by rw [lineL_app, h3]; exact hi))) h4 hsh
  rw [h6.1, h6.2]
theorem fr_st {ti : Nat → TI} {d k : Int32} {P : Nat → Bool} : ∀ (l : List Nat) (b : Int32), (∀ i ∈ l, kb (ti i).en d = P i) → frG ti d k b l = stG P k b (l.filter (fun i => kb (ti i).kn d))
  | [], _, _ => rfl
  | i :: l, b, h => by
    have h2 : ∀ j ∈ l, kb (ti j).en d = P j := fun j hj => h j (List.mem_cons_of_mem _ hj)
    cases hk : kb (ti i).kn d with
    | false =>
      rw [List.filter_cons_of_neg (by simp [hk])]
      simp only [frG, hk, Bool.false_and, cond_false]
      exact fr_st l b h2
    | true =>
      rw [List.filter_cons_of_pos (p := fun i => kb (ti i).kn d) hk]
      simp only [frG, stG, hk, Bool.true_and, h i List.mem_cons_self]
      cases P i with
      | true => simp only [Bool.not_true, cond_false, cond_true]; exact fr_st l b h2
      | false =>
        simp only [Bool.not_false, cond_true, cond_false]
        by_cases e : b = k
        · simp [e]
        · simp only [e, decide_false, cond_false]; exact fr_st l (b + 1) h2
theorem insR_split (ti : Nat → TI) (j : Nat) : ∀ (l : List Nat), ∃ c1 c2, l = c1 ++ c2 ∧ insR ti j l = c1 ++ j :: c2 ∧ (∀ i ∈ c1, ltT (ti j) (ti i) = true) ∧ ∀ i, c2.head? = some i → ltT (ti j) (ti i) = false
  | [] => ⟨[], [], rfl, rfl, fun _ h => (by cases h), fun _ h => by cases h⟩
  | i :: l => by
    cases hl : ltT (ti j) (ti i) with
    | false => exact ⟨[], i :: l, rfl, by simp only [insR, hl, cond_false, List.nil_append], fun _ h => (by cases h), fun z h => by cases h; exact hl⟩
    | true =>
      obtain ⟨c1, c2, h1, h2, h3, h4⟩ := insR_split ti j l
      exact ⟨i :: c1, c2, by rw [h1]; rfl, by simp only [insR, hl, cond_true, h2, List.cons_append], fun z hz => (List.mem_cons.mp hz).elim (fun e => e ▸ hl) (h3 z), h4⟩
