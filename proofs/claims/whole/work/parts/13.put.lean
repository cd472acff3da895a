/-! ===== a telling is put into the chain, a place into its row ===== -/
def laT (t : TI) (l : Option Nat) : TI := (t.dk, t.st, t.so, t.th, t.va, t.kn, t.en, t.op, l, t.ne)
def neT (t : TI) (l : Option Nat) : TI := (t.dk, t.st, t.so, t.th, t.va, t.kn, t.en, t.op, t.la, l)
def ltT (t1 t2 : TI) : Bool := later2 (nI t1.st) (nI t1.dk) (nI t2.st) (nI t2.dk)
def insR (ti : Nat → TI) (j : Nat) : List Nat → List Nat
  | [] => [j]
  | i :: r => cond (ltT (ti j) (ti i)) (i :: insR ti j r) (j :: i :: r)
def skR (ti : Nat → TI) (j : Nat) : List Nat → List Nat
  | [] => [j]
  | i :: r => cond (ltT (ti i) (ti j)) (i :: skR ti j r) (j :: i :: r)
theorem tIn_eq {w : hW} {ad : Nat → Nat} {n : Nat} {t1 t2 : Nat → TI} (h : tIn w ad n t1) (he : ∀ i, i < n → t1 i = t2 i) : tIn w ad n t2 := fun i hi => by rw [← he i hi]; exact h i hi
theorem lk_ins0 {nx : Nat → Option Nat} {j : Nat} {r : List Nat} (h : lk nx r.head? r) (hj : j ∉ r) : lk (va_up nx j r.head?) (some j) (j :: r) := ⟨rfl, by rw [va_up_self]; exact lk_congr h (fun i hi => va_up_ne _ _ (fun e => hj (e ▸ hi)))⟩
theorem lk_ins1 {nx : Nat → Option Nat} {b j : Nat} {r : List Nat} : ∀ {pre : List Nat} {h : Option Nat}, lk nx h (pre ++ b :: r) → (pre ++ b :: r).Nodup → j ∉ pre ++ b :: r → lk (va_up (va_up nx j r.head?) b (some j)) h (pre ++ b :: j :: r)
  | [], h, hl, hnd, hj => by
    have hb := List.nodup_cons.mp hnd
    have hjb : j ≠ b := fun e => hj (by rw [e]; exact List.mem_cons_self)
    have hjr : j ∉ r := fun e => hj (List.mem_cons_of_mem _ e)
    refine ⟨hl.1, ?_⟩
    rw [va_up_self]
    refine ⟨rfl, ?_⟩
    rw [va_up_ne _ _ hjb, va_up_self]
    have h2 : lk nx r.head? r := by rw [← lk_hd hl.2]; exact hl.2
    exact lk_congr h2 (fun i hi => by rw [va_up_ne _ _ (fun e : i = b => hb.1 (e ▸ hi)), va_up_ne _ _ (fun e : i = j => hjr (e ▸ hi))])
  | i :: pre, h, hl, hnd, hj => by
    have hi := List.nodup_cons.mp hnd
    have hib : i ≠ b := fun e => hi.1 (by rw [e]; simp)
    have hij : i ≠ j := fun e => hj (by rw [← e]; exact List.mem_cons_self)
    refine ⟨hl.1, ?_⟩
    show lk _ (va_up (va_up nx j r.head?) b (some j) i) _
    rw [va_up_ne _ _ hib, va_up_ne _ _ hij]
    exact lk_ins1 hl.2 hi.2 (fun e => hj (List.mem_cons_of_mem _ e))
theorem lk_mid {nx : Nat → Option Nat} {b : Nat} {r : List Nat} : ∀ {pre : List Nat} {h : Option Nat}, lk nx h (pre ++ b :: r) → nx b = r.head? ∧ lk nx r.head? r
  | [], h, hl => ⟨lk_hd hl.2, by rw [← lk_hd hl.2]; exact hl.2⟩
  | i :: pre, h, hl => lk_mid hl.2
theorem lk_suf {nx : Nat → Option Nat} {r : List Nat} : ∀ {pre : List Nat} {h : Option Nat}, lk nx h (pre ++ r) → lk nx r.head? r
  | [], h, hl => by have h1 : lk nx h r := hl; rw [← lk_hd h1]; exact h1
  | i :: pre, h, hl => lk_suf hl.2
theorem hd_app {α : Type} {b : α} (pre r q : List α) : (pre ++ b :: r).head? = (pre ++ b :: q).head? := by cases pre <;> rfl
section PB
variable {G : hD} {x tl rw ng cx un : Nat} {ad : Nat → Nat} {n : Nat} {ti : Nat → TI} {ch : List Nat} {rl : Nat → List Nat} {gv : Nat → Nat} {f : Nat → Int32} {w : hW}
/-- put at the chain's beginning -/
theorem TM.first (h : TM G x tl rw ng cx un ad n ti ch rl gv f w) {j : Nat} (hj : j < n) (hjc : j ∉ ch) : TM G x tl rw ng cx un ad n (fun i => laT (ti i) (va_up (fun i => (ti i).la) j ch.head? i)) (j :: ch) rl gv f (h_up (h_up w (ad j) (cellT ad j (laT (ti j) ch.head?))) x (cellX ad tl rw ng cx (some j) n)) := by
  have ap := h.apart
  obtain ⟨b1, b2, b3, b4, b5, b6, b7, b8, b9, b10, b11⟩ := h.apart2
  obtain ⟨hx, ⟨tf, htl, htf⟩, ⟨rf, hrw, hrf⟩, ⟨gf, hng, hgf⟩, hcx, hun, hT, hn, hch, hlk, hrl⟩ := h
  have q := ap j hj
  refine ⟨h_up_s _ _ _, ⟨tf, by rw [h_up_n (Ne.symm b1), h_up_n q.2.1]; exact htl, htf⟩, ⟨rf, by rw [h_up_n (Ne.symm b2), h_up_n q.2.2.1]; exact hrw, hrf⟩, ⟨gf, by rw [h_up_n (Ne.symm b3), h_up_n q.2.2.2.1]; exact hng, hgf⟩, by rw [h_up_n (Ne.symm b4), h_up_n q.2.2.2.2.1]; exact hcx, by rw [h_up_n (Ne.symm b5), h_up_n q.2.2.2.2.2]; exact hun, ?_, hn, ?_, ?_, ?_⟩
  · refine tIn_off (tIn_eq (tIn_up hT hn hj _) (fun i hi => ?_)) (fun i hi => (ap i hi).1)
    by_cases hij : i = j
    · subst hij; rw [va_up_self, va_up_self]
    · rw [va_up_ne _ _ hij, va_up_ne _ _ hij]; rfl
  · intro i hi
    rcases List.mem_cons.mp hi with rfl | hi
    · exact hj
    · exact hch i hi
  · exact lk_ins0 hlk hjc
  · exact fun t ht => ⟨(hrl t ht).1, (hrl t ht).2⟩
/-- put behind another one -/
theorem TM.behind {pre r : List Nat} {b : Nat} (h : TM G x tl rw ng cx un ad n ti (pre ++ b :: r) rl gv f w) {j : Nat} (hj : j < n) (hjc : j ∉ pre ++ b :: r) (hnd : (pre ++ b :: r).Nodup) : TM G x tl rw ng cx un ad n (fun i => laT (ti i) (va_up (va_up (fun i => (ti i).la) j r.head?) b (some j) i)) (pre ++ b :: j :: r) rl gv f (h_up (h_up w (ad j) (cellT ad j (laT (ti j) r.head?))) (ad b) (cellT ad b (laT (ti b) (some j)))) := by
  have ap := h.apart
  obtain ⟨hx, ⟨tf, htl, htf⟩, ⟨rf, hrw, hrf⟩, ⟨gf, hng, hgf⟩, hcx, hun, hT, hn, hch, hlk, hrl⟩ := h
  have hb : b < n := hch b (by simp)
  have q := ap j hj
  have q2 := ap b hb
  refine ⟨by rw [h_up_n q2.1, h_up_n q.1, hd_app pre (j :: r) r]; exact hx, ⟨tf, by rw [h_up_n q2.2.1, h_up_n q.2.1]; exact htl, htf⟩, ⟨rf, by rw [h_up_n q2.2.2.1, h_up_n q.2.2.1]; exact hrw, hrf⟩, ⟨gf, by rw [h_up_n q2.2.2.2.1, h_up_n q.2.2.2.1]; exact hng, hgf⟩, by rw [h_up_n q2.2.2.2.2.1, h_up_n q.2.2.2.2.1]; exact hcx, by rw [h_up_n q2.2.2.2.2.2, h_up_n q.2.2.2.2.2]; exact hun, ?_, hn, ?_, ?_, ?_⟩
  · have hjb : j ≠ b := fun e => hjc (by rw [e]; simp)
    refine tIn_eq (tIn_up (tIn_up hT hn hj _) hn hb _) (fun i hi => ?_)
    by_cases hib : i = b
    · subst hib; rw [va_up_self, va_up_self]
    · rw [va_up_ne _ _ hib, va_up_ne _ _ hib]
      by_cases hij : i = j
      · subst hij; rw [va_up_self, va_up_self]
      · rw [va_up_ne _ _ hij, va_up_ne _ _ hij]; rfl
  · intro i hi
    rcases List.mem_append.mp hi with hi | hi
    · exact hch i (by simp [hi])
    · rcases List.mem_cons.mp hi with rfl | hi
      · exact hb
      · rcases List.mem_cons.mp hi with rfl | hi
        · exact hj
        · exact hch i (by simp [hi])
  · rw [hd_app pre (j :: r) r]
    exact lk_ins1 hlk hnd hjc
  · exact fun t ht => ⟨(hrl t ht).1, (hrl t ht).2⟩
end PB
theorem g_st {p : Program} {l : Launch} {e : Env} {R : Room} {s : State} {m : MethodId} {args : Array Value} {below : List Frame} {meth : Method} {c : Code} {Q : State → Prop} {G : hD} {A : Nat → Prop} {nL : Nat} {w : hW} {cells slots pc : Nat} {lv : List (Nat × Value)} {st st1 : List Value} (h : st1 = st) (k : h_G p l e R s m args below meth c G A nL Q w cells slots pc lv st1) : h_G p l e R s m args below meth c G A nL Q w cells slots pc lv st := h ▸ k
theorem lg_len : ∀ (vs : List Value), (∀ v ∈ vs, v.category = 1) → (lg_sl vs).length = vs.length
  | [], _ => rfl
  | v :: vs, h => by
    have h1 : v.category = 1 := h v List.mem_cons_self
    have h2 := lg_len vs (fun x hx => h x (List.mem_cons_of_mem _ hx))
    simp only [lg_sl, List.flatMap_cons, List.length_append, List.length_cons] at h2 ⊢
    rw [h2]
    simp [h1]
    omega
theorem rf_nar (c : String) (o : Option Nat) : narrow (.object c) (va_rf o) = va_rf o := by cases o <;> rfl
theorem rf_fit (c : String) (o : Option Nat) : fits (.object c) (va_rf o) = true := by cases o <;> rfl
theorem snoc {α : Type} (l : List α) : l = [] ∨ ∃ p b, l = p ++ [b] := by
  rcases List.eq_nil_or_concat l with h | ⟨p, b, h⟩
  · exact Or.inl h
  · exact Or.inr ⟨p, b, by rw [h, List.concat_eq_append]⟩
theorem last_app {α : Type} (l : List α) (b : α) : (l ++ [b]).getLast? = some b := by simp
theorem last_none {ad : Nat → Nat} {l : List Nat} (h : l.getLast?.map ad = none) : l = [] := by
  rcases snoc l with h0 | ⟨p, b, h0⟩
  · exact h0
  · rw [h0, last_app] at h; cases h
theorem last_some {ad : Nat → Nat} {l : List Nat} {a : Nat} (h : l.getLast?.map ad = some a) : ∃ p b, l = p ++ [b] := by
  rcases snoc l with h0 | h0
  · rw [h0] at h; cases h
  · exact h0

set_option maxHeartbeats 4000000 in
set_option maxRecDepth 100000 in
theorem c_X2_putByRank (l : Launch) (G : hD) (w : hW) (x tl rw ng cx un : Nat) (ad : Nat → Nat) (n : Nat) (ti : Nat → TI) (ch : List Nat) (rl : Nat → List Nat) (gv : Nat → Nat) (f : Nat → Int32) (hM : TM G x tl rw ng cx un ad n ti ch rl gv f w) (j : Nat) (hj : j < n) (hjc : j ∉ ch) (hnd : ch.Nodup) : h_Met l yX2_putByRank (Cond.code yX2_putByRank cX2_putByRank 4 none) { frames := 1, cells := 0, slots := 0, locals := 21 } G [.ref x, .ref (ad j)] w (fun v w' => v = none ∧ ∃ lf : Nat → Option Nat, TM G x tl rw ng cx un ad n (fun i => laT (ti i) (lf i)) (insR ti j ch) rl gv f w' ∧ fr (CD x tl rw ng cx un ad n) w w') noX := by
  refine h_met RX2 rfl (by decide) (Nat.le_of_ble_eq_true rfl) (cat_c (by first | rfl | exact rf_cat _) (cat_c (by first | rfl | exact rf_cat _) cat_n)) ?_
  intro p e s m below meth c A C hnt hr hnm
  obtain ⟨hx, ⟨tf, htl, htf⟩, ⟨rf, hrw, hrf⟩, ⟨gf, hng, hgf⟩, hcx, hun, hT, hn, hch, hlk, hrl⟩ := id hM
  have ap := hM.apart
  have hcj := hT j hj
  have hfin : ∀ (pre r : List Nat), ch = pre ++ r → insR ti j ch = pre ++ j :: r → h_G p l e { frames := 1, cells := 0, slots := 0, locals := 21 } s m ([.ref x, .ref (ad j)] : List Value).toArray below meth c G A 4 (h_Q G A (fun v w' => v = none ∧ ∃ lf : Nat → Option Nat, TM G x tl rw ng cx un ad n (fun i => laT (ti i) (lf i)) (insR ti j ch) rl gv f w' ∧ fr (CD x tl rw ng cx un ad n) w w') noX w below ([.ref x, .ref (ad j)] : List Value).toArray s 0 0) w 0 0 29 [(0, .ref x), (1, .ref (ad j)), (2, va_rf (pre.getLast?.map ad)), (3, va_rf (r.head?.map ad))] [] := by
    intro pre r hpr hins
    have hx1 : h_up w (ad j) (cellT ad j (laT (ti j) r.head?)) x = some (cellX ad tl rw ng cx ch.head? n) := (h_up_n (ap j hj).1).trans hx
    rcases snoc pre with rfl | ⟨p1, b, rfl⟩
    · first | refine g_aload_n C dX2_putByRank_29 rfl rfl ?_ | refine g_aload_nN C dX2_putByRank_29 rfl rfl ?_ | refine g_aload_nq C dX2_putByRank_29 rfl rfl ?_
      first | refine g_aload_n C dX2_putByRank_30 rfl rfl ?_ | refine g_aload_nN C dX2_putByRank_30 rfl rfl ?_ | refine g_aload_nq C dX2_putByRank_30 rfl rfl ?_
      refine g_put C dX2_putByRank_31 hcj rfl kw_X1 tyX1 tyX1_ok nmX1 9 (by decide) kfX2_95 rfl rfl (rf_nar _ _) (rf_fit _ _) (Nat.le_of_ble_eq_true rfl) ?_
      first | refine g_aload_n C dX2_putByRank_34 rfl rfl ?_ | refine g_aload_nN C dX2_putByRank_34 rfl rfl ?_ | refine g_aload_nq C dX2_putByRank_34 rfl rfl ?_
      refine g_ifnonnullN C dX2_putByRank_35 ?_
      first | refine g_aload_n C dX2_putByRank_38 rfl rfl ?_ | refine g_aload_nN C dX2_putByRank_38 rfl rfl ?_ | refine g_aload_nq C dX2_putByRank_38 rfl rfl ?_
      first | refine g_aload_n C dX2_putByRank_39 rfl rfl ?_ | refine g_aload_nN C dX2_putByRank_39 rfl rfl ?_ | refine g_aload_nq C dX2_putByRank_39 rfl rfl ?_
      refine g_put C dX2_putByRank_40 hx1 rfl kw_X2 tyX2 tyX2_ok nmX2 4 (by decide) kfX2_29 rfl rfl rfl rfl (Nat.le_of_ble_eq_true rfl) ?_
      refine g_goto C 51 dX2_putByRank_43 (by decide) ?_
      refine g_vret C hr dX2_putByRank_51 (by decide) (by decide) ⟨rfl, va_up (fun i => (ti i).la) j r.head?, ?_, ?_⟩
      · have hch9 : ch = r := hpr
        subst hch9
        rw [hins]
        exact hM.first hj hjc
      · exact fr.up (fr.up fr.rf (Or.inr (Or.inr (Or.inr (Or.inr (Or.inr (Or.inr ⟨j, hj, rfl⟩))))))) (Or.inl rfl)
    · have hpr : ch = p1 ++ b :: r := by rw [hpr]; simp
      have hb : b < n := hch b (by rw [hpr]; simp)
      have hjb : j ≠ b := fun e => hjc (by rw [hpr, e]; simp)
      have hcb : h_up w (ad j) (cellT ad j (laT (ti j) r.head?)) (ad b) = some (cellT ad b (ti b)) := (h_up_n (fun e => hjb (tIn_inj hT hn hb hj e).symm)).trans (hT b hb)
      rw [last_app]
      first | refine g_aload_n C dX2_putByRank_29 rfl rfl ?_ | refine g_aload_nN C dX2_putByRank_29 rfl rfl ?_ | refine g_aload_nq C dX2_putByRank_29 rfl rfl ?_
      first | refine g_aload_n C dX2_putByRank_30 rfl rfl ?_ | refine g_aload_nN C dX2_putByRank_30 rfl rfl ?_ | refine g_aload_nq C dX2_putByRank_30 rfl rfl ?_
      refine g_put C dX2_putByRank_31 hcj rfl kw_X1 tyX1 tyX1_ok nmX1 9 (by decide) kfX2_95 rfl rfl (rf_nar _ _) (rf_fit _ _) (Nat.le_of_ble_eq_true rfl) ?_
      first | refine g_aload_n C dX2_putByRank_34 rfl rfl ?_ | refine g_aload_nN C dX2_putByRank_34 rfl rfl ?_ | refine g_aload_nq C dX2_putByRank_34 rfl rfl ?_
      refine g_ifnonnullR C 46 dX2_putByRank_35 (by decide) ?_
      first | refine g_aload_n C dX2_putByRank_46 rfl rfl ?_ | refine g_aload_nN C dX2_putByRank_46 rfl rfl ?_ | refine g_aload_nq C dX2_putByRank_46 rfl rfl ?_
      first | refine g_aload_n C dX2_putByRank_47 rfl rfl ?_ | refine g_aload_nN C dX2_putByRank_47 rfl rfl ?_ | refine g_aload_nq C dX2_putByRank_47 rfl rfl ?_
      refine g_put C dX2_putByRank_48 hcb rfl kw_X1 tyX1 tyX1_ok nmX1 9 (by decide) kfX2_95 rfl rfl rfl rfl (Nat.le_of_ble_eq_true rfl) ?_
      refine g_vret C hr dX2_putByRank_51 (by decide) (by decide) ⟨rfl, va_up (va_up (fun i => (ti i).la) j r.head?) b (some j), ?_, ?_⟩
      · rw [hins]
        have h9 := (hpr ▸ hM : TM G x tl rw ng cx un ad n ti (p1 ++ b :: r) rl gv f w).behind hj (by rw [← hpr]; exact hjc) (by rw [← hpr]; exact hnd)
        rw [List.append_assoc, List.singleton_append]
        exact h9
      · exact fr.up (fr.up fr.rf (Or.inr (Or.inr (Or.inr (Or.inr (Or.inr (Or.inr ⟨j, hj, rfl⟩))))))) (Or.inr (Or.inr (Or.inr (Or.inr (Or.inr (Or.inr ⟨b, hb, rfl⟩))))))
  refine g_null C dX2_putByRank_0 ?_
  first | refine g_astore_n C dX2_putByRank_1 rfl (by decide) ?_ | refine g_astore_nN C dX2_putByRank_1 rfl (by decide) ?_ | refine g_astore_nq C dX2_putByRank_1 rfl (by decide) ?_
  first | refine g_aload_n C dX2_putByRank_2 rfl rfl ?_ | refine g_aload_nN C dX2_putByRank_2 rfl rfl ?_ | refine g_aload_nq C dX2_putByRank_2 rfl rfl ?_
  refine g_get C dX2_putByRank_3 hx rfl kw_X2 4 (by decide) kfX2_29 rfl rfl ?_
  first | refine g_astore_n C dX2_putByRank_6 rfl (by decide) ?_ | refine g_astore_nN C dX2_putByRank_6 rfl (by decide) ?_ | refine g_astore_nq C dX2_putByRank_6 rfl (by decide) ?_
  refine g_loop (σ := List Nat × List Nat) (fun z => ch = z.1 ++ z.2 ∧ insR ti j ch = z.1 ++ insR ti j z.2) (fun z => z.2.length) (fun _ => w) (fun z => [(0, .ref x), (1, .ref (ad j)), (2, va_rf (z.1.getLast?.map ad)), (3, va_rf (z.2.head?.map ad))]) ?_ ([], ch) ⟨rfl, rfl⟩
  rintro ⟨pre, r⟩ ⟨hpr, hins⟩ ih
  dsimp only at hpr hins ih ⊢
  cases r with
  | nil =>
    first | refine g_aload_n C dX2_putByRank_7 rfl rfl ?_ | refine g_aload_nN C dX2_putByRank_7 rfl rfl ?_ | refine g_aload_nq C dX2_putByRank_7 rfl rfl ?_
    refine g_ifnullN C 29 dX2_putByRank_8 (by decide) ?_
    exact hfin pre [] hpr hins
  | cons i r =>
    have hi : i < n := hch i (by rw [hpr]; simp)
    have hc := hT i hi
    have hla : (ti i).la = r.head? := (lk_mid (by rw [← hpr]; exact hlk)).1
    first | refine g_aload_n C dX2_putByRank_7 rfl rfl ?_ | refine g_aload_nN C dX2_putByRank_7 rfl rfl ?_ | refine g_aload_nq C dX2_putByRank_7 rfl rfl ?_
    refine g_ifnullR C dX2_putByRank_8 ?_
    first | refine g_aload_n C dX2_putByRank_11 rfl rfl ?_ | refine g_aload_nN C dX2_putByRank_11 rfl rfl ?_ | refine g_aload_nq C dX2_putByRank_11 rfl rfl ?_
    first | refine g_aload_n C dX2_putByRank_12 rfl rfl ?_ | refine g_aload_nN C dX2_putByRank_12 rfl rfl ?_ | refine g_aload_nq C dX2_putByRank_12 rfl rfl ?_
    refine g_callVn C _ dX2_putByRank_13 (c_X1_isLaterThan l G _ _ _ _ _ _ _ _ _ _ _ _ _ _ _ _ _ _ _ _ _ _ _ _ _ hcj hc) kmX2_200 ki_X1_isLaterThan kv_X1_isLaterThan kn_X1 kc_X1_isLaterThan hy_X1_isLaterThan ⟨by decide, by decide⟩ hcj rfl rfl (Nat.le_of_ble_eq_true rfl) ⟨by decide, by decide⟩ (fun v w1 hp => ?_)
    obtain ⟨rfl, hw1⟩ := hp
    have hw1 := hw1.symm
    subst hw1
    refine g_if_eq C 29 dX2_putByRank_16 (by decide) (fun c16 => ?_) (fun c16 => ?_)
    · have c16 := bI_z.mp c16
      have hlt : ltT (ti j) (ti i) = false := c16
      exact hfin pre (i :: r) hpr (by rw [hins]; simp [insR, hlt])
    · have c16 := bI_nz.mp c16
      first | refine g_aload_n C dX2_putByRank_19 rfl rfl ?_ | refine g_aload_nN C dX2_putByRank_19 rfl rfl ?_ | refine g_aload_nq C dX2_putByRank_19 rfl rfl ?_
      first | refine g_astore_n C dX2_putByRank_20 rfl (by decide) ?_ | refine g_astore_nN C dX2_putByRank_20 rfl (by decide) ?_ | refine g_astore_nq C dX2_putByRank_20 rfl (by decide) ?_
      first | refine g_aload_n C dX2_putByRank_21 rfl rfl ?_ | refine g_aload_nN C dX2_putByRank_21 rfl rfl ?_ | refine g_aload_nq C dX2_putByRank_21 rfl rfl ?_
      refine g_get C dX2_putByRank_22 hc rfl kw_X1 9 (by decide) kfX2_95 rfl rfl ?_
      first | refine g_astore_n C dX2_putByRank_25 rfl (by decide) ?_ | refine g_astore_nN C dX2_putByRank_25 rfl (by decide) ?_ | refine g_astore_nq C dX2_putByRank_25 rfl (by decide) ?_
      refine g_goto C 7 dX2_putByRank_26 (by decide) ?_
      have hlt : ltT (ti j) (ti i) = true := c16
      have hs := ih (pre ++ [i], r) ⟨by rw [hpr]; simp, by rw [hins]; simp [insR, hlt]⟩ (Nat.lt_succ_self _)
      dsimp only at hs
      rw [← hla, last_app] at hs
      exact hs

/-- rows have no telling in common, none twice -/
def rowsOk (rl : Nat → List Nat) : Prop := (∀ t, t < 16 → (rl t).Nodup) ∧ ∀ t1 t2, t1 < 16 → t2 < 16 → t1 ≠ t2 → ∀ i ∈ rl t1, i ∉ rl t2
section PR
variable {G : hD} {x tl rw ng cx un : Nat} {ad : Nat → Nat} {n : Nat} {ti : Nat → TI} {ch : List Nat} {rl : Nat → List Nat} {gv : Nat → Nat} {f : Nat → Int32} {w : hW}
/-- put at a row's beginning -/
theorem TM.rfirst (h : TM G x tl rw ng cx un ad n ti ch rl gv f w) {j t : Nat} {rf : Nat → Option Nat} (ht : t < 16) (hj : j < n) (hjr : ∀ t, t < 16 → j ∉ rl t) (hrw : w rw = some (eT G 16 rf)) (hrf : ∀ t, t < 16 → rf t = (rl t).head?.map ad) : TM G x tl rw ng cx un ad n (fun i => neT (ti i) (va_up (fun i => (ti i).ne) j (rl t).head? i)) ch (va_up rl t (j :: rl t)) gv f (h_up (h_up w (ad j) (cellT ad j (neT (ti j) (rl t).head?))) rw (eT G 16 (va_up rf t (some (ad j))))) := by
  have ap := h.apart
  obtain ⟨b1, b2, b3, b4, b5, b6, b7, b8, b9, b10, b11⟩ := h.apart2
  obtain ⟨hx, ⟨tf, htl, htf⟩, -, ⟨gf, hng, hgf⟩, hcx, hun, hT, hn, hch, hlk, hrl⟩ := h
  have ngrw : ng ≠ rw := fun e => by rw [e, hrw] at hng; have h9 := Option.some.inj hng; simp at h9
  have unrw : un ≠ rw := fun e => by rw [e, hrw] at hun; have h9 := Option.some.inj hun; simp at h9
  have q := ap j hj
  refine ⟨by rw [h_up_n b2, h_up_n q.1]; exact hx, ⟨tf, by rw [h_up_n b6, h_up_n q.2.1]; exact htl, htf⟩, ⟨_, h_up_s _ _ _, fun t' ht' => ?_⟩, ⟨gf, by rw [h_up_n ngrw, h_up_n q.2.2.2.1]; exact hng, hgf⟩, by rw [h_up_n (Ne.symm b8), h_up_n q.2.2.2.2.1]; exact hcx, by rw [h_up_n unrw, h_up_n q.2.2.2.2.2]; exact hun, ?_, hn, hch, hlk, fun t' ht' => ?_⟩
  · by_cases e : t' = t
    · subst e; rw [va_up_self, va_up_self]; rfl
    · rw [va_up_ne _ _ e, va_up_ne _ _ e]; exact hrf t' ht'
  · refine tIn_off (tIn_eq (tIn_up hT hn hj _) (fun i hi => ?_)) (fun i hi => (ap i hi).2.2.1)
    by_cases hij : i = j
    · subst hij; rw [va_up_self, va_up_self]
    · rw [va_up_ne _ _ hij, va_up_ne _ _ hij]; rfl
  · by_cases e : t' = t
    · subst e
      rw [va_up_self]
      refine ⟨fun i hi => ?_, lk_ins0 (hrl t' ht').2 (hjr t' ht')⟩
      rcases List.mem_cons.mp hi with rfl | hi
      · exact hj
      · exact (hrl t' ht').1 i hi
    · rw [va_up_ne _ _ e]
      exact ⟨(hrl t' ht').1, lk_congr (hrl t' ht').2 (fun i hi => by
        show va_up (fun i => (ti i).ne) j (rl t).head? i = (ti i).ne
        rw [va_up_ne _ _ (fun z : i = j => hjr t' ht' (by rw [← z]; exact hi))])⟩
/-- put in a row behind another place -/
theorem TM.rbehind (h : TM G x tl rw ng cx un ad n ti ch rl gv f w) {j t b : Nat} {pre r : List Nat} (ht : t < 16) (hj : j < n) (hjr : ∀ t, t < 16 → j ∉ rl t) (hro : rowsOk rl) (hrow : rl t = pre ++ b :: r) : TM G x tl rw ng cx un ad n (fun i => neT (ti i) (va_up (va_up (fun i => (ti i).ne) j r.head?) b (some j) i)) ch (va_up rl t (pre ++ b :: j :: r)) gv f (h_up (h_up w (ad j) (cellT ad j (neT (ti j) r.head?))) (ad b) (cellT ad b (neT (ti b) (some j)))) := by
  have ap := h.apart
  obtain ⟨hx, ⟨tf, htl, htf⟩, ⟨rf, hrw, hrf⟩, ⟨gf, hng, hgf⟩, hcx, hun, hT, hn, hch, hlk, hrl⟩ := h
  have hbm : b ∈ rl t := by rw [hrow]; simp
  have hb : b < n := (hrl t ht).1 b hbm
  have hjt : j ∉ pre ++ b :: r := by rw [← hrow]; exact hjr t ht
  have q := ap j hj
  have q2 := ap b hb
  refine ⟨by rw [h_up_n q2.1, h_up_n q.1]; exact hx, ⟨tf, by rw [h_up_n q2.2.1, h_up_n q.2.1]; exact htl, htf⟩, ⟨rf, by rw [h_up_n q2.2.2.1, h_up_n q.2.2.1]; exact hrw, fun t' ht' => ?_⟩, ⟨gf, by rw [h_up_n q2.2.2.2.1, h_up_n q.2.2.2.1]; exact hng, hgf⟩, by rw [h_up_n q2.2.2.2.2.1, h_up_n q.2.2.2.2.1]; exact hcx, by rw [h_up_n q2.2.2.2.2.2, h_up_n q.2.2.2.2.2]; exact hun, ?_, hn, hch, hlk, fun t' ht' => ?_⟩
  · by_cases e : t' = t
    · subst e; rw [va_up_self, hd_app pre (j :: r) r, ← hrow]; exact hrf t' ht'
    · rw [va_up_ne _ _ e]; exact hrf t' ht'
  · refine tIn_eq (tIn_up (tIn_up hT hn hj _) hn hb _) (fun i hi => ?_)
    by_cases hib : i = b
    · subst hib; rw [va_up_self, va_up_self]
    · rw [va_up_ne _ _ hib, va_up_ne _ _ hib]
      by_cases hij : i = j
      · subst hij; rw [va_up_self, va_up_self]
      · rw [va_up_ne _ _ hij, va_up_ne _ _ hij]; rfl
  · by_cases e : t' = t
    · subst e
      rw [va_up_self]
      have h1 := hrl t' ht'
      rw [hrow] at h1
      refine ⟨fun i hi => ?_, by rw [hd_app pre (j :: r) r]; exact lk_ins1 h1.2 (by rw [← hrow]; exact hro.1 t' ht') hjt⟩
      rcases List.mem_append.mp hi with hi | hi
      · exact h1.1 i (by simp [hi])
      · rcases List.mem_cons.mp hi with rfl | hi
        · exact hb
        · rcases List.mem_cons.mp hi with rfl | hi
          · exact hj
          · exact h1.1 i (by simp [hi])
    · rw [va_up_ne _ _ e]
      exact ⟨(hrl t' ht').1, lk_congr (hrl t' ht').2 (fun i hi => by
        show va_up (va_up (fun i => (ti i).ne) j r.head?) b (some j) i = (ti i).ne
        rw [va_up_ne _ _ (fun z : i = b => hro.2 t t' ht ht' (Ne.symm e) b hbm (by rw [← z]; exact hi)), va_up_ne _ _ (fun z : i = j => hjr t' ht' (by rw [← z]; exact hi))])⟩
end PR

theorem mem_hd {l : List Nat} {k : Nat} (h : l.head? = some k) : k ∈ l := by cases l with | nil => cases h | cons i r => cases h; exact List.mem_cons_self
theorem lf_one {ne : Nat → Option Nat} {j n : Nat} {r : List Nat} (hr : ∀ k, r.head? = some k → k < n) : ∀ i k, va_up ne j r.head? i = some k → ne i = some k ∨ k < n := by
  intro i k h
  by_cases e : i = j
  · subst e; rw [va_up_self] at h; exact Or.inr (hr k h)
  · rw [va_up_ne _ _ e] at h; exact Or.inl h
theorem lf_two {ne : Nat → Option Nat} {j b n : Nat} {r : List Nat} (hr : ∀ k, r.head? = some k → k < n) (hj : j < n) : ∀ i k, va_up (va_up ne j r.head?) b (some j) i = some k → ne i = some k ∨ k < n := by
  intro i k h
  by_cases e : i = b
  · subst e; rw [va_up_self] at h; cases h; exact Or.inr hj
  · rw [va_up_ne _ _ e] at h; exact lf_one hr i k h
set_option maxHeartbeats 4000000 in
set_option maxRecDepth 100000 in
theorem c_X2_putInRow (l : Launch) (G : hD) (w : hW) (x tl rw ng cx un : Nat) (ad : Nat → Nat) (n : Nat) (ti : Nat → TI) (ch : List Nat) (rl : Nat → List Nat) (gv : Nat → Nat) (f : Nat → Int32) (hM : TM G x tl rw ng cx un ad n ti ch rl gv f w) (t : Nat) (pre0 r0 : List Nat) (j : Nat) (ht : t < 16) (hj : j < n) (hjr : ∀ t, t < 16 → j ∉ rl t) (hro : rowsOk rl) (hrow : rl t = pre0 ++ r0) : h_Met l yX2_putInRow (Cond.code yX2_putInRow cX2_putInRow 6 none) { frames := 1, cells := 0, slots := 0, locals := 21 } G [.ref x, .int (nI t), va_rf (pre0.getLast?.map ad), .ref (ad j)] w (fun v w' => v = none ∧ ∃ lf : Nat → Option Nat, (∀ i k, lf i = some k → (ti i).ne = some k ∨ k < n) ∧ TM G x tl rw ng cx un ad n (fun i => neT (ti i) (lf i)) ch (va_up rl t (pre0 ++ skR ti j r0)) gv f w' ∧ fr (CD x tl rw ng cx un ad n) w w') noX := by
  refine h_met RX2 rfl (by decide) (Nat.le_trans (Nat.le_of_eq (lg_len _ (cat_c (by first | rfl | exact rf_cat _) (cat_c (by first | rfl | exact rf_cat _) (cat_c (by first | rfl | exact rf_cat _) (cat_c (by first | rfl | exact rf_cat _) cat_n)))))) (Nat.le_of_ble_eq_true rfl)) (cat_c (by first | rfl | exact rf_cat _) (cat_c (by first | rfl | exact rf_cat _) (cat_c (by first | rfl | exact rf_cat _) (cat_c (by first | rfl | exact rf_cat _) cat_n)))) ?_
  intro p e s m below meth c A C hnt hr hnm
  obtain ⟨hx, ⟨tf, htl, htf⟩, ⟨rf, hrw, hrf⟩, ⟨gf, hng, hgf⟩, hcx, hun, hT, hn, hch, hlk, hrl⟩ := id hM
  have ap := hM.apart
  have hcj := hT j hj
  have hfin : ∀ (pre r : List Nat), rl t = pre ++ r → pre0 ++ skR ti j r0 = pre ++ j :: r → h_G p l e { frames := 1, cells := 0, slots := 0, locals := 21 } s m ([.ref x, .int (nI t), va_rf (pre0.getLast?.map ad), .ref (ad j)] : List Value).toArray below meth c G A 6 (h_Q G A (fun v w' => v = none ∧ ∃ lf : Nat → Option Nat, (∀ i k, lf i = some k → (ti i).ne = some k ∨ k < n) ∧ TM G x tl rw ng cx un ad n (fun i => neT (ti i) (lf i)) ch (va_up rl t (pre0 ++ skR ti j r0)) gv f w' ∧ fr (CD x tl rw ng cx un ad n) w w') noX w below ([.ref x, .int (nI t), va_rf (pre0.getLast?.map ad), .ref (ad j)] : List Value).toArray s 0 0) w 0 0 50 [(0, .ref x), (1, .int (nI t)), (2, va_rf (pre0.getLast?.map ad)), (3, .ref (ad j)), (4, va_rf (pre.getLast?.map ad)), (5, va_rf (r.head?.map ad))] [] := by
    intro pre r hpr hins
    have hx1 : h_up w (ad j) (cellT ad j (neT (ti j) r.head?)) x = some (cellX ad tl rw ng cx ch.head? n) := (h_up_n (ap j hj).1).trans hx
    have hrw1 : h_up w (ad j) (cellT ad j (neT (ti j) r.head?)) rw = some (eT G 16 rf) := (h_up_n (ap j hj).2.2.1).trans hrw
    rcases snoc pre with rfl | ⟨p1, b, rfl⟩
    · first | refine g_aload_n C dX2_putInRow_50 rfl rfl ?_ | refine g_aload_nN C dX2_putInRow_50 rfl rfl ?_ | refine g_aload_nq C dX2_putInRow_50 rfl rfl ?_
      first | refine g_aload C dX2_putInRow_51 rfl ?_ | refine g_aloadN C dX2_putInRow_51 rfl ?_ | refine g_aloadq C dX2_putInRow_51 rfl ?_
      refine g_put C dX2_putInRow_53 hcj rfl kw_X1 tyX1 tyX1_ok nmX1 10 (by decide) kfX2_203 rfl rfl (rf_nar _ _) (rf_fit _ _) (Nat.le_of_ble_eq_true rfl) ?_
      first | refine g_aload C dX2_putInRow_56 rfl ?_ | refine g_aloadN C dX2_putInRow_56 rfl ?_ | refine g_aloadq C dX2_putInRow_56 rfl ?_
      refine g_ifnonnullN C dX2_putInRow_58 ?_
      first | refine g_aload_n C dX2_putInRow_61 rfl rfl ?_ | refine g_aload_nN C dX2_putInRow_61 rfl rfl ?_ | refine g_aload_nq C dX2_putInRow_61 rfl rfl ?_
      refine g_get C dX2_putInRow_62 hx1 rfl kw_X2 1 (by decide) kfX2_15 rfl rfl ?_
      refine g_iload_n C dX2_putInRow_65 rfl rfl ?_
      first | refine g_aload_n C dX2_putInRow_66 rfl rfl ?_ | refine g_aload_nN C dX2_putInRow_66 rfl rfl ?_ | refine g_aload_nq C dX2_putInRow_66 rfl rfl ?_
      refine g_astq C dX2_putInRow_67 hrw1 (h_up_s _ _ _) rfl (vp_in_nI ht (by decide)) ?_
      rw [nI_clamp (by omega)]
      refine g_goto C 77 dX2_putInRow_68 (by decide) ?_
      refine g_vret C hr dX2_putInRow_77 (by decide) (by decide) ⟨rfl, va_up (fun i => (ti i).ne) j r.head?, lf_one (fun k hk => (hrl t ht).1 k (by rw [hpr]; exact mem_hd hk)), ?_, ?_⟩
      · rw [hins]
        have hr9 : rl t = r := hpr
        subst hr9
        exact hM.rfirst ht hj hjr hrw hrf
      · exact fr.up (fr.up fr.rf (Or.inr (Or.inr (Or.inr (Or.inr (Or.inr (Or.inr ⟨j, hj, rfl⟩))))))) (Or.inr (Or.inr (Or.inl rfl)))
    · have hpr : rl t = p1 ++ b :: r := by rw [hpr]; simp
      have hb : b < n := (hrl t ht).1 b (by rw [hpr]; simp)
      have hjb : j ≠ b := fun e => hjr t ht (by rw [hpr, e]; simp)
      have hcb : h_up w (ad j) (cellT ad j (neT (ti j) r.head?)) (ad b) = some (cellT ad b (ti b)) := (h_up_n (fun e => hjb (tIn_inj hT hn hb hj e).symm)).trans (hT b hb)
      rw [last_app]
      first | refine g_aload_n C dX2_putInRow_50 rfl rfl ?_ | refine g_aload_nN C dX2_putInRow_50 rfl rfl ?_ | refine g_aload_nq C dX2_putInRow_50 rfl rfl ?_
      first | refine g_aload C dX2_putInRow_51 rfl ?_ | refine g_aloadN C dX2_putInRow_51 rfl ?_ | refine g_aloadq C dX2_putInRow_51 rfl ?_
      refine g_put C dX2_putInRow_53 hcj rfl kw_X1 tyX1 tyX1_ok nmX1 10 (by decide) kfX2_203 rfl rfl (rf_nar _ _) (rf_fit _ _) (Nat.le_of_ble_eq_true rfl) ?_
      first | refine g_aload C dX2_putInRow_56 rfl ?_ | refine g_aloadN C dX2_putInRow_56 rfl ?_ | refine g_aloadq C dX2_putInRow_56 rfl ?_
      refine g_ifnonnullR C 71 dX2_putInRow_58 (by decide) ?_
      first | refine g_aload C dX2_putInRow_71 rfl ?_ | refine g_aloadN C dX2_putInRow_71 rfl ?_ | refine g_aloadq C dX2_putInRow_71 rfl ?_
      first | refine g_aload_n C dX2_putInRow_73 rfl rfl ?_ | refine g_aload_nN C dX2_putInRow_73 rfl rfl ?_ | refine g_aload_nq C dX2_putInRow_73 rfl rfl ?_
      refine g_put C dX2_putInRow_74 hcb rfl kw_X1 tyX1 tyX1_ok nmX1 10 (by decide) kfX2_203 rfl rfl rfl rfl (Nat.le_of_ble_eq_true rfl) ?_
      refine g_vret C hr dX2_putInRow_77 (by decide) (by decide) ⟨rfl, va_up (va_up (fun i => (ti i).ne) j r.head?) b (some j), lf_two (fun k hk => (hrl t ht).1 k (by rw [hpr]; exact List.mem_append_right _ (List.mem_cons_of_mem _ (mem_hd hk)))) hj, ?_, ?_⟩
      · rw [hins, List.append_assoc, List.singleton_append]
        exact hM.rbehind ht hj hjr hro hpr
      · exact fr.up (fr.up fr.rf (Or.inr (Or.inr (Or.inr (Or.inr (Or.inr (Or.inr ⟨j, hj, rfl⟩))))))) (Or.inr (Or.inr (Or.inr (Or.inr (Or.inr (Or.inr ⟨b, hb, rfl⟩))))))
  first | refine g_aload_n C dX2_putInRow_0 rfl rfl ?_ | refine g_aload_nN C dX2_putInRow_0 rfl rfl ?_ | refine g_aload_nq C dX2_putInRow_0 rfl rfl ?_
  first | refine g_astore C dX2_putInRow_1 (by decide) ?_ | refine g_astoreN C dX2_putInRow_1 (by decide) ?_ | refine g_astoreq C dX2_putInRow_1 (by decide) ?_
  first | refine g_aload_n C dX2_putInRow_3 rfl rfl ?_ | refine g_aload_nN C dX2_putInRow_3 rfl rfl ?_ | refine g_aload_nq C dX2_putInRow_3 rfl rfl ?_
  refine g_ifnonnull C 16 dX2_putInRow_4 (by decide) (fun a4 c4 => ?_) (fun c4 => ?_)
  · obtain ⟨p1, b, h0⟩ : ∃ p1 b, pre0 = p1 ++ [b] := last_some c4
    have hv0 : va_rf (pre0.getLast?.map ad) = .ref (ad b) := by rw [h0, last_app]; rfl
    have hr9 : rl t = p1 ++ b :: r0 := by rw [hrow, h0]; simp
    have hb : b < n := (hrl t ht).1 b (by rw [hr9]; simp)
    have hcb := hT b hb
    have hh0 : (ti b).ne = r0.head? := (lk_mid (by rw [← hr9]; exact (hrl t ht).2)).1
    first | refine g_aload_n C dX2_putInRow_16 rfl rfl ?_ | refine g_aload_nN C dX2_putInRow_16 rfl rfl ?_ | refine g_aload_nq C dX2_putInRow_16 rfl rfl ?_
    refine g_st (st1 := [.ref (ad b)]) (by rw [← hv0]) ?_
    refine g_get C dX2_putInRow_17 hcb rfl kw_X1 10 (by decide) kfX2_203 rfl rfl ?_
    first | refine g_astore C dX2_putInRow_20 (by decide) ?_ | refine g_astoreN C dX2_putInRow_20 (by decide) ?_ | refine g_astoreq C dX2_putInRow_20 (by decide) ?_
    rw [hh0]
    refine g_loop (σ := List Nat × List Nat) (fun z => rl t = z.1 ++ z.2 ∧ pre0 ++ skR ti j r0 = z.1 ++ skR ti j z.2) (fun z => z.2.length) (fun _ => w) (fun z => [(0, .ref x), (1, .int (nI t)), (2, va_rf (pre0.getLast?.map ad)), (3, .ref (ad j)), (4, va_rf (z.1.getLast?.map ad)), (5, va_rf (z.2.head?.map ad))]) ?_ (pre0, r0) ⟨hrow, rfl⟩
    rintro ⟨pre, r⟩ ⟨hpr, hins⟩ ih
    dsimp only at hpr hins ih ⊢
    cases r with
    | nil =>
      first | refine g_aload C dX2_putInRow_22 rfl ?_ | refine g_aloadN C dX2_putInRow_22 rfl ?_ | refine g_aloadq C dX2_putInRow_22 rfl ?_
      refine g_ifnullN C 50 dX2_putInRow_24 (by decide) ?_
      exact hfin pre [] hpr hins
    | cons i r =>
      have hi : i < n := (hrl t ht).1 i (by rw [hpr]; simp)
      have hc := hT i hi
      have hla : (ti i).ne = r.head? := (lk_mid (by rw [← hpr]; exact (hrl t ht).2)).1
      first | refine g_aload C dX2_putInRow_22 rfl ?_ | refine g_aloadN C dX2_putInRow_22 rfl ?_ | refine g_aloadq C dX2_putInRow_22 rfl ?_
      refine g_ifnullR C dX2_putInRow_24 ?_
      first | refine g_aload C dX2_putInRow_27 rfl ?_ | refine g_aloadN C dX2_putInRow_27 rfl ?_ | refine g_aloadq C dX2_putInRow_27 rfl ?_
      first | refine g_aload_n C dX2_putInRow_29 rfl rfl ?_ | refine g_aload_nN C dX2_putInRow_29 rfl rfl ?_ | refine g_aload_nq C dX2_putInRow_29 rfl rfl ?_
      refine g_callVn C _ dX2_putInRow_30 (c_X1_isLaterThan l G _ _ _ _ _ _ _ _ _ _ _ _ _ _ _ _ _ _ _ _ _ _ _ _ _ hc hcj) kmX2_200 ki_X1_isLaterThan kv_X1_isLaterThan kn_X1 kc_X1_isLaterThan hy_X1_isLaterThan ⟨by decide, by decide⟩ hc rfl rfl (Nat.le_of_ble_eq_true rfl) ⟨by decide, by decide⟩ (fun v w1 hp => ?_)
      obtain ⟨rfl, hw1⟩ := hp
      have hw1 := hw1.symm
      subst hw1
      refine g_if_eq C 50 dX2_putInRow_33 (by decide) (fun c33 => ?_) (fun c33 => ?_)
      · have c33 := bI_z.mp c33
        have hlt : ltT (ti i) (ti j) = false := c33
        exact hfin pre (i :: r) hpr (by rw [hins]; simp [skR, hlt])
      · have c33 := bI_nz.mp c33
        first | refine g_aload C dX2_putInRow_36 rfl ?_ | refine g_aloadN C dX2_putInRow_36 rfl ?_ | refine g_aloadq C dX2_putInRow_36 rfl ?_
        first | refine g_astore C dX2_putInRow_38 (by decide) ?_ | refine g_astoreN C dX2_putInRow_38 (by decide) ?_ | refine g_astoreq C dX2_putInRow_38 (by decide) ?_
        first | refine g_aload C dX2_putInRow_40 rfl ?_ | refine g_aloadN C dX2_putInRow_40 rfl ?_ | refine g_aloadq C dX2_putInRow_40 rfl ?_
        refine g_get C dX2_putInRow_42 hc rfl kw_X1 10 (by decide) kfX2_203 rfl rfl ?_
        first | refine g_astore C dX2_putInRow_45 (by decide) ?_ | refine g_astoreN C dX2_putInRow_45 (by decide) ?_ | refine g_astoreq C dX2_putInRow_45 (by decide) ?_
        refine g_goto C 22 dX2_putInRow_47 (by decide) ?_
        have hlt : ltT (ti i) (ti j) = true := c33
        have hs := ih (pre ++ [i], r) ⟨by rw [hpr]; simp, by rw [hins]; simp [skR, hlt]⟩ (Nat.lt_succ_self _)
        dsimp only at hs
        rw [← hla, last_app] at hs
        exact hs
  · have h0 : pre0 = [] := last_none c4
    have hh0 : rf t = r0.head?.map ad := by rw [hrf t ht, hrow, h0]; rfl
    first | refine g_aload_n C dX2_putInRow_7 rfl rfl ?_ | refine g_aload_nN C dX2_putInRow_7 rfl rfl ?_ | refine g_aload_nq C dX2_putInRow_7 rfl rfl ?_
    refine g_get C dX2_putInRow_8 hx rfl kw_X2 1 (by decide) kfX2_15 rfl rfl ?_
    refine g_iload_n C dX2_putInRow_11 rfl rfl ?_
    refine g_aldqN C dX2_putInRow_12 hrw ht (by decide) ?_
    refine g_goto C 20 dX2_putInRow_13 (by decide) ?_
    first | refine g_astore C dX2_putInRow_20 (by decide) ?_ | refine g_astoreN C dX2_putInRow_20 (by decide) ?_ | refine g_astoreq C dX2_putInRow_20 (by decide) ?_
    rw [hh0]
    refine g_loop (σ := List Nat × List Nat) (fun z => rl t = z.1 ++ z.2 ∧ pre0 ++ skR ti j r0 = z.1 ++ skR ti j z.2) (fun z => z.2.length) (fun _ => w) (fun z => [(0, .ref x), (1, .int (nI t)), (2, va_rf (pre0.getLast?.map ad)), (3, .ref (ad j)), (4, va_rf (z.1.getLast?.map ad)), (5, va_rf (z.2.head?.map ad))]) ?_ (pre0, r0) ⟨hrow, rfl⟩
    rintro ⟨pre, r⟩ ⟨hpr, hins⟩ ih
    dsimp only at hpr hins ih ⊢
    cases r with
    | nil =>
      first | refine g_aload C dX2_putInRow_22 rfl ?_ | refine g_aloadN C dX2_putInRow_22 rfl ?_ | refine g_aloadq C dX2_putInRow_22 rfl ?_
      refine g_ifnullN C 50 dX2_putInRow_24 (by decide) ?_
      exact hfin pre [] hpr hins
    | cons i r =>
      have hi : i < n := (hrl t ht).1 i (by rw [hpr]; simp)
      have hc := hT i hi
      have hla : (ti i).ne = r.head? := (lk_mid (by rw [← hpr]; exact (hrl t ht).2)).1
      first | refine g_aload C dX2_putInRow_22 rfl ?_ | refine g_aloadN C dX2_putInRow_22 rfl ?_ | refine g_aloadq C dX2_putInRow_22 rfl ?_
      refine g_ifnullR C dX2_putInRow_24 ?_
      first | refine g_aload C dX2_putInRow_27 rfl ?_ | refine g_aloadN C dX2_putInRow_27 rfl ?_ | refine g_aloadq C dX2_putInRow_27 rfl ?_
      first | refine g_aload_n C dX2_putInRow_29 rfl rfl ?_ | refine g_aload_nN C dX2_putInRow_29 rfl rfl ?_ | refine g_aload_nq C dX2_putInRow_29 rfl rfl ?_
      refine g_callVn C _ dX2_putInRow_30 (c_X1_isLaterThan l G _ _ _ _ _ _ _ _ _ _ _ _ _ _ _ _ _ _ _ _ _ _ _ _ _ hc hcj) kmX2_200 ki_X1_isLaterThan kv_X1_isLaterThan kn_X1 kc_X1_isLaterThan hy_X1_isLaterThan ⟨by decide, by decide⟩ hc rfl rfl (Nat.le_of_ble_eq_true rfl) ⟨by decide, by decide⟩ (fun v w1 hp => ?_)
      obtain ⟨rfl, hw1⟩ := hp
      have hw1 := hw1.symm
      subst hw1
      refine g_if_eq C 50 dX2_putInRow_33 (by decide) (fun c33 => ?_) (fun c33 => ?_)
      · have c33 := bI_z.mp c33
        have hlt : ltT (ti i) (ti j) = false := c33
        exact hfin pre (i :: r) hpr (by rw [hins]; simp [skR, hlt])
      · have c33 := bI_nz.mp c33
        first | refine g_aload C dX2_putInRow_36 rfl ?_ | refine g_aloadN C dX2_putInRow_36 rfl ?_ | refine g_aloadq C dX2_putInRow_36 rfl ?_
        first | refine g_astore C dX2_putInRow_38 (by decide) ?_ | refine g_astoreN C dX2_putInRow_38 (by decide) ?_ | refine g_astoreq C dX2_putInRow_38 (by decide) ?_
        first | refine g_aload C dX2_putInRow_40 rfl ?_ | refine g_aloadN C dX2_putInRow_40 rfl ?_ | refine g_aloadq C dX2_putInRow_40 rfl ?_
        refine g_get C dX2_putInRow_42 hc rfl kw_X1 10 (by decide) kfX2_203 rfl rfl ?_
        first | refine g_astore C dX2_putInRow_45 (by decide) ?_ | refine g_astoreN C dX2_putInRow_45 (by decide) ?_ | refine g_astoreq C dX2_putInRow_45 (by decide) ?_
        refine g_goto C 22 dX2_putInRow_47 (by decide) ?_
        have hlt : ltT (ti i) (ti j) = true := c33
        have hs := ih (pre ++ [i], r) ⟨by rw [hpr]; simp, by rw [hins]; simp [skR, hlt]⟩ (Nat.lt_succ_self _)
        dsimp only at hs
        rw [← hla, last_app] at hs
        exact hs

