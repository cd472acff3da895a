/-! ===== what changes: numbers, joins, compacting ===== -/
theorem lk_congr {nx ny : Nat → Option Nat} : ∀ {r : List Nat} {h : Option Nat}, lk nx h r → (∀ i ∈ r, ny i = nx i) → lk ny h r
  | [], _, hl, _ => hl
  | i :: r, _, hl, hc => ⟨hl.1, by rw [hc i List.mem_cons_self]; exact lk_congr hl.2 (fun j hj => hc j (List.mem_cons_of_mem _ hj))⟩
theorem any_congr {p q : Nat → Bool} : ∀ {l : List Nat}, (∀ i ∈ l, p i = q i) → l.any p = l.any q
  | [], _ => rfl
  | i :: l, h => by
    simp only [List.any_cons, h i List.mem_cons_self, any_congr (fun j hj => h j (List.mem_cons_of_mem _ hj))]
theorem tIn_inj {w : hW} {ad : Nat → Nat} {n : Nat} {ti : Nat → TI} (h : tIn w ad n ti) (hn : n ≤ 120) {i j : Nat} (hi : i < n) (hj : j < n) (e : ad i = ad j) : i = j := by
  have h1 := h i hi
  have h2 := h j hj
  rw [e, h2] at h1
  have h3 : nI j = nI i := by
    have h4 := Option.some.inj h1
    simp only [cellT, tC, eO, Sum.inr.injEq, Prod.mk.injEq, List.cons.injEq, Value.int.injEq] at h4
    exact h4.2.1
  exact ((nI_eq (by omega) (by omega)).mp h3).symm
theorem tIn_up {w : hW} {ad : Nat → Nat} {n : Nat} {ti : Nat → TI} (h : tIn w ad n ti) (hn : n ≤ 120) {i : Nat} (hi : i < n) (t : TI) : tIn (h_up w (ad i) (cellT ad i t)) ad n (va_up ti i t) := by
  intro j hj
  by_cases hji : j = i
  · subst hji
    rw [h_up_s, va_up_self]
  · rw [h_up_n (fun e => hji (tIn_inj h hn hj hi e)), va_up_ne _ _ hji]
    exact h j hj
theorem tIn_off {w : hW} {ad : Nat → Nat} {n : Nat} {ti : Nat → TI} (h : tIn w ad n ti) {b : Nat} {e : va_E} (hb : ∀ i, i < n → b ≠ ad i) : tIn (h_up w b e) ad n ti := fun i hi => (h_up_n (fun q => hb i hi q.symm)).trans (h i hi)
/-- a loop along the chain that changes tellings one by one to F -/
def LI (w : hW) (ad : Nat → Nat) (n : Nat) (ti F : Nat → TI) (r : List Nat) (wa : hW) (t1 : Nat → TI) : Prop :=
  tIn wa ad n t1 ∧ (∀ q, (∀ i, i < n → q ≠ ad i) → wa q = w q) ∧ (∀ i ∈ r, t1 i = ti i) ∧ (∀ i, i < n → i ∉ r → t1 i = F i) ∧ r.Nodup
section LI
variable {w wa : hW} {ad : Nat → Nat} {n : Nat} {ti F t1 : Nat → TI} {r : List Nat} {i : Nat}
theorem LI.start (hT : tIn w ad n ti) (hall : ∀ i, i < n → i ∈ r) (hnd : r.Nodup) : LI w ad n ti F r w ti := ⟨hT, fun _ _ => rfl, fun _ _ => rfl, fun i hi h => absurd (hall i hi) h, hnd⟩
theorem LI.cell (h : LI w ad n ti F (i :: r) wa t1) (hi : i < n) : wa (ad i) = some (cellT ad i (ti i)) := by
  rw [← h.2.2.1 i List.mem_cons_self]
  exact h.1 i hi
theorem LI.step (h : LI w ad n ti F (i :: r) wa t1) (hn : n ≤ 120) (hi : i < n) : LI w ad n ti F r (h_up wa (ad i) (cellT ad i (F i))) (va_up t1 i (F i)) := by
  obtain ⟨h1, h2, h3, h4, h5⟩ := h
  have hnd := List.nodup_cons.mp h5
  refine ⟨tIn_up h1 hn hi _, fun q hq => (h_up_n (hq i hi)).trans (h2 q hq), fun j hj => ?_, fun j hj hr => ?_, hnd.2⟩
  · rw [va_up_ne _ _ (fun e : j = i => hnd.1 (by rw [← e]; exact hj))]
    exact h3 j (List.mem_cons_of_mem _ hj)
  · by_cases hji : j = i
    · subst hji
      rw [va_up_self]
    · rw [va_up_ne _ _ hji]
      exact h4 j hj (fun h => (List.mem_cons.mp h).elim hji hr)
theorem LI.skip (h : LI w ad n ti F (i :: r) wa t1) (hF : F i = ti i) : LI w ad n ti F r wa t1 := by
  obtain ⟨h1, h2, h3, h4, h5⟩ := h
  refine ⟨h1, h2, fun j hj => h3 j (List.mem_cons_of_mem _ hj), fun j hj hr => ?_, (List.nodup_cons.mp h5).2⟩
  by_cases hji : j = i
  · subst hji
    rw [hF]
    exact h3 j List.mem_cons_self
  · exact h4 j hj (fun h => (List.mem_cons.mp h).elim hji hr)
theorem LI.fin (h : LI w ad n ti F [] wa t1) : tIn wa ad n F := fun j hj => by
  rw [← h.2.2.2.1 j hj List.not_mem_nil]
  exact h.1 j hj
theorem LI.other (h : LI w ad n ti F r wa t1) {b : Nat} (e : va_E) (hb : ∀ i, i < n → b ≠ ad i) : LI (h_up w b e) ad n ti F r (h_up wa b e) t1 := by
  obtain ⟨h1, h2, h3⟩ := h
  refine ⟨tIn_off h1 hb, fun q hq => ?_, h3⟩
  by_cases hqb : q = b
  · subst hqb
    rw [h_up_s, h_up_s]
  · rw [h_up_n hqb, h_up_n hqb]
    exact h2 q hq
end LI
/-- the class's cells -/
def CD (x tl rw ng cx un : Nat) (ad : Nat → Nat) (n q : Nat) : Prop := q = x ∨ q = tl ∨ q = rw ∨ q = ng ∨ q = cx ∨ q = un ∨ ∃ i, i < n ∧ q = ad i
/-- nothing else changed -/
def fr (D : Nat → Prop) (w w' : hW) : Prop := ∀ q e, ¬ D q → w q = some e → w' q = some e
theorem fr.rf {D : Nat → Prop} {w : hW} : fr D w w := fun _ _ _ h => h
theorem fr.up {D : Nat → Prop} {w w' : hW} {b : Nat} {e : va_E} (h : fr D w w') (hb : D b) : fr D w (h_up w' b e) := fun q f hq hw => (h_up_n (fun z : q = b => hq (by rw [z]; exact hb))).trans (h q f hq hw)
theorem fr.new {D : Nat → Prop} {w w' : hW} {b : Nat} {e : va_E} (h : fr D w w') (hb : w' b = none) : fr D w (h_up w' b e) := fun q f hq hw => (h_up_n (fun z : q = b => by subst z; rw [h q f hq hw] at hb; cases hb)).trans (h q f hq hw)
theorem fr.trans {D : Nat → Prop} {w1 w2 w3 : hW} (h : fr D w1 w2) (k : fr D w2 w3) : fr D w1 w3 := fun q e hq hw => k q e hq (h q e hq hw)
section TM
variable {G : hD} {x tl rw ng cx un : Nat} {ad : Nat → Nat} {n : Nat} {ti ti1 : Nat → TI} {ch : List Nat} {rl : Nat → List Nat} {gv : Nat → Nat} {f f1 : Nat → Int32} {w w1 : hW}
theorem TM.apart (h : TM G x tl rw ng cx un ad n ti ch rl gv f w) : ∀ i, i < n → x ≠ ad i ∧ tl ≠ ad i ∧ rw ≠ ad i ∧ ng ≠ ad i ∧ cx ≠ ad i ∧ un ≠ ad i := by
  obtain ⟨hx, ⟨tf, htl, htf⟩, ⟨rf, hrw, hrf⟩, ⟨gf, hng, hgf⟩, hcx, hun, hT, -⟩ := h
  intro i hi
  have hc := hT i hi
  refine ⟨?_, ?_, ?_, ?_, ?_, ?_⟩ <;> intro e
  · rw [e, hc] at hx; simp at hx
  · rw [e, hc] at htl; simp at htl
  · rw [e, hc] at hrw; simp at hrw
  · rw [e, hc] at hng; simp at hng
  · rw [e, hc] at hcx; simp at hcx
  · rw [e, hc] at hun; simp at hun
theorem TM.apart2 (h : TM G x tl rw ng cx un ad n ti ch rl gv f w) : x ≠ tl ∧ x ≠ rw ∧ x ≠ ng ∧ x ≠ cx ∧ x ≠ un ∧ tl ≠ rw ∧ tl ≠ cx ∧ rw ≠ cx ∧ ng ≠ cx ∧ ng ≠ un ∧ cx ≠ un := by
  obtain ⟨hx, ⟨tf, htl, htf⟩, ⟨rf, hrw, hrf⟩, ⟨gf, hng, hgf⟩, hcx, hun, -⟩ := h
  refine ⟨?_, ?_, ?_, ?_, ?_, ?_, ?_, ?_, ?_, ?_, ?_⟩ <;> intro e
  · rw [e, htl] at hx; simp at hx
  · rw [e, hrw] at hx; simp at hx
  · rw [e, hng] at hx; simp at hx
  · rw [e, hcx] at hx; simp at hx
  · rw [e, hun] at hx; simp at hx
  · rw [e, hrw] at htl; simp at htl
  · rw [e, hcx] at htl; simp at htl
  · rw [e, hcx] at hrw; simp at hrw
  · rw [e, hcx] at hng; simp at hng
  · rw [e, hun] at hng; simp at hng
  · rw [e, hun] at hcx; simp at hcx
/-- tellings changed, not their links; and the masks of contexts -/
theorem TM.chg (h : TM G x tl rw ng cx un ad n ti ch rl gv f w) (hT1 : tIn w1 ad n ti1) (ho : ∀ q, (∀ i, i < n → q ≠ ad i) → w1 q = h_up w un (eI G 16 f1) q) (hla : ∀ i, i < n → (ti1 i).la = (ti i).la) (hne : ∀ i, i < n → (ti1 i).ne = (ti i).ne) : TM G x tl rw ng cx un ad n ti1 ch rl gv f1 w1 := by
  have ap := h.apart
  obtain ⟨b1, b2, b3, b4, b5, b6, b7, b8, b9, b10, b11⟩ := h.apart2
  obtain ⟨hx, ⟨tf, htl, htf⟩, ⟨rf, hrw, hrf⟩, ⟨gf, hng, hgf⟩, hcx, hun, hT, hn, hch, hlk, hrl⟩ := h
  have tlun : tl ≠ un := fun e => by rw [e, hun] at htl; simp at htl
  have rwun : rw ≠ un := fun e => by rw [e, hun] at hrw; simp at hrw
  refine ⟨?_, ⟨tf, ?_, htf⟩, ⟨rf, ?_, hrf⟩, ⟨gf, ?_, hgf⟩, ?_, ?_, hT1, hn, hch, lk_congr hlk (fun i hi => hla i (hch i hi)), fun t ht => ⟨(hrl t ht).1, lk_congr (hrl t ht).2 (fun i hi => hne i ((hrl t ht).1 i hi))⟩⟩
  · rw [ho x (fun i hi => (ap i hi).1), h_up_n b5]; exact hx
  · rw [ho tl (fun i hi => (ap i hi).2.1), h_up_n tlun]; exact htl
  · rw [ho rw (fun i hi => (ap i hi).2.2.1), h_up_n rwun]; exact hrw
  · rw [ho ng (fun i hi => (ap i hi).2.2.2.1), h_up_n b10]; exact hng
  · rw [ho cx (fun i hi => (ap i hi).2.2.2.2.1), h_up_n b11]; exact hcx
  · rw [ho un (fun i hi => (ap i hi).2.2.2.2.2), h_up_s]
theorem TM.chg0 (h : TM G x tl rw ng cx un ad n ti ch rl gv f w) (hT1 : tIn w1 ad n ti1) (ho : ∀ q, (∀ i, i < n → q ≠ ad i) → w1 q = w q) (hla : ∀ i, i < n → (ti1 i).la = (ti i).la) (hne : ∀ i, i < n → (ti1 i).ne = (ti i).ne) : TM G x tl rw ng cx un ad n ti1 ch rl gv f w1 :=
  h.chg hT1 (fun q hq => by rw [h_up_self h.2.2.2.2.2.1]; exact ho q hq) hla hne
theorem fr_off (ho : ∀ q, (∀ i, i < n → q ≠ ad i) → w1 q = h_up w un (eI G 16 f1) q) : fr (CD x tl rw ng cx un ad n) w w1 := fun q e hq hw => by
  rw [ho q (fun i hi z => hq (Or.inr (Or.inr (Or.inr (Or.inr (Or.inr (Or.inr ⟨i, hi, z⟩))))))), h_up_n (fun z => hq (Or.inr (Or.inr (Or.inr (Or.inr (Or.inr (Or.inl z)))))))]
  exact hw
theorem fr_off0 (ho : ∀ q, (∀ i, i < n → q ≠ ad i) → w1 q = w q) : fr (CD x tl rw ng cx un ad n) w w1 := fun q e hq hw => (ho q (fun i hi z => hq (Or.inr (Or.inr (Or.inr (Or.inr (Or.inr (Or.inr ⟨i, hi, z⟩)))))))).trans hw
end TM
def psT (d o : Int32) (t : TI) : TI := (t.dk, t.st, t.so, t.th, t.va, kpass t.kn o d, kpass t.en o d, t.op, t.la, t.ne)
def jnS (ti : Nat → TI) (d o : Int32) (g : Int32) (i : Nat) : Int32 := cond (kb (ti i).kn o && !kb (ti i).kn d) (g + 1) g
def fgT (t : TI) : TI := (t.dk, t.st, t.so, t.th, t.va, 0, t.en, t.op, t.la, t.ne)
/-- outdone in the chain: shared, and a later shared one of the same thing -/
def cpB (ti : Nat → TI) : List Nat → Nat → Bool
  | [], _ => false
  | j :: r, i => cond (decide (i = j)) (shL (ti j) && r.any (odF ti (ti j).th)) (cpB ti r i)
theorem cpB_at {ti : Nat → TI} : ∀ {pre r : List Nat} {i : Nat}, (pre ++ i :: r).Nodup → cpB ti (pre ++ i :: r) i = (shL (ti i) && r.any (odF ti (ti i).th))
  | [], r, i, _ => by simp [cpB]
  | j :: pre, r, i, h => by
    have h1 := List.nodup_cons.mp h
    have hne : i ≠ j := fun e => h1.1 (by rw [← e]; simp)
    show cond (decide (i = j)) _ (cpB ti (pre ++ i :: r) i) = _
    rw [decide_eq_false hne]
    exact cpB_at h1.2
def cpS (ti : Nat → TI) (ch : List Nat) (g : Int32) (i : Nat) : Int32 := cond (cpB ti ch i) (g + 1) g
def cpT (ti : Nat → TI) (ch : List Nat) (i : Nat) : TI := cond (cpB ti ch i) (fgT (ti i)) (ti i)

def excN (P1 P3 : Prop) (E : String) : Prop := (E = nNS ∧ ¬ P1) ∨ (E = nIS ∧ P1 ∧ ¬ P3)
set_option maxHeartbeats 4000000 in
set_option maxRecDepth 100000 in
theorem c_X2_number (l : Launch) (G : hD) (w : hW) (x tl rw ng cx un : Nat) (ad : Nat → Nat) (n : Nat) (ti : Nat → TI) (ch : List Nat) (rl : Nat → List Nat) (gv : Nat → Nat) (f : Nat → Int32) (hM : TM G x tl rw ng cx un ad n ti ch rl gv f w) (d : Int32) (hgv : ∀ j, j < 6 → gv j ≤ 1000) : h_Met l yX2_number (Cond.code yX2_number cX2_number 3 (some .int)) { frames := 7, cells := 2, slots := 12, locals := 102 } G [.ref x, .int d] w (fun v w' => ∃ j, j < 6 ∧ d = nI j ∧ gv j < 1000 ∧ v = some (.int (nI (1000 * j + gv j))) ∧ TM G x tl rw ng cx un ad n ti ch rl (va_up gv j (gv j + 1)) f w' ∧ fr (CD x tl rw ng cx un ad n) w w') (excN (okD d) (∀ j, d = nI j → j < 6 → gv j < 1000)) := by
  refine h_met RX2 rfl (by decide) (Nat.le_of_ble_eq_true rfl) (cat_c (by first | rfl | exact rf_cat _) (cat_c (by first | rfl | exact rf_cat _) cat_n)) ?_
  intro p e s m below meth c A C hnt hr hnm
  obtain ⟨hx, ⟨tf, htl, htf⟩, ⟨rf, hrw, hrf⟩, ⟨gf, hng, hgf⟩, hcx, hun, hT, hn, hch, hlk, hrl⟩ := id hM
  refine g_iload_n C dX2_number_0 rfl rfl ?_
  refine g_callS C hnt _ dX2_number_1 (c_X2_requireDesk l G _ _) kmX2_37 ks_X2_requireDesk kn_X2 kc_X2_requireDesk hy_X2_requireDesk ⟨by decide, by decide⟩ rfl (Nat.le_of_ble_eq_true rfl) ⟨by decide, by decide⟩ ⟨by decide, by decide⟩ (fun E hE => ⟨Or.inl hE, rfl⟩) (fun v w1 hp => ?_)
  obtain ⟨rfl, hw1, hok0⟩ := hp
  have hw1 := hw1.symm
  subst hw1
  obtain ⟨j, hj, rfl⟩ := ok_nI (N := 6) (by decide) hok0.1 hok0.2
  first | refine g_aload_n C dX2_number_4 rfl rfl ?_ | refine g_aload_nN C dX2_number_4 rfl rfl ?_ | refine g_aload_nq C dX2_number_4 rfl rfl ?_
  refine g_get C dX2_number_5 hx rfl kw_X2 2 (by decide) kfX2_18 rfl rfl ?_
  refine g_iload_n C dX2_number_8 rfl rfl ?_
  refine g_ialdN C dX2_number_9 hng hj (by decide) ?_
  rw [hgf j hj]
  refine g_istore_n C dX2_number_10 rfl (by decide) ?_
  refine g_iload_n C dX2_number_11 rfl rfl ?_
  refine g_sipush C (v := 1000) dX2_number_12 (by decide) ?_
  refine g_icmp_lt C 28 dX2_number_15 (by decide) (fun c15 => ?_) (fun c15 => ?_)
  · have c15 : gv j < 1000 := (nI_ltI (b := 1000) (by have := hgv j hj; omega) (by decide)).mp c15
    first | refine g_aload_n C dX2_number_28 rfl rfl ?_ | refine g_aload_nN C dX2_number_28 rfl rfl ?_ | refine g_aload_nq C dX2_number_28 rfl rfl ?_
    refine g_get C dX2_number_29 hx rfl kw_X2 2 (by decide) kfX2_18 rfl rfl ?_
    refine g_iload_n C dX2_number_32 rfl rfl ?_
    refine g_iload_n C dX2_number_33 rfl rfl ?_
    refine g_iconst C (v := 1) dX2_number_34 (by decide) ?_
    refine g_iadd C dX2_number_35 ?_
    refine g_iastN C dX2_number_36 hng hj (by decide) ?_
    refine g_sipush C (v := 1000) dX2_number_37 (by decide) ?_
    refine g_iload_n C dX2_number_40 rfl rfl ?_
    refine g_imul C dX2_number_41 ?_
    refine g_iload_n C dX2_number_42 rfl rfl ?_
    refine g_iadd C dX2_number_43 ?_
    refine g_iret C hr dX2_number_44 (by decide) (by decide) ⟨j, hj, rfl, c15, ?_, ?_, ?_⟩
    · rw [show (1000 : Int32) = nI 1000 from rfl, pk_mul, nI_add]
    · obtain ⟨b1, b2, b3, b4, b5, b6, b7, b8, b9, b10, b11⟩ := hM.apart2
      have ap := hM.apart
      have tlng : tl ≠ ng := fun e => by rw [e, hng] at htl; have h9 := Option.some.inj htl; simp at h9
      have rwng : rw ≠ ng := fun e => by rw [e, hng] at hrw; have h9 := Option.some.inj hrw; simp at h9
      exact ⟨(h_up_n b3).trans hx, ⟨tf, (h_up_n tlng).trans htl, htf⟩, ⟨rf, (h_up_n rwng).trans hrw, hrf⟩, ⟨_, h_up_s _ _ _, fun q hq => by
        by_cases hqj : q = j
        · subst hqj; rw [pk_us, va_up_self, nI_1]
        · rw [pk_un hqj, va_up_ne _ _ hqj]; exact hgf q hq⟩, (h_up_n (Ne.symm b9)).trans hcx, (h_up_n (Ne.symm b10)).trans hun, tIn_off hT (fun i hi => (ap i hi).2.2.2.1), hn, hch, hlk, hrl⟩
    · exact fr.up fr.rf (Or.inr (Or.inr (Or.inr (Or.inl rfl))))
  · have c15 : ¬ gv j < 1000 := mt (nI_ltI (a := gv j) (b := 1000) (by have := hgv j hj; omega) (by decide)).mpr c15
    exact g_throw C hnt rfl dX2_number_18 dX2_number_21 dX2_number_22 dX2_number_24 dX2_number_27 (by decide +kernel) klX2_98 kn_IllegalStateException (List.mem_of_getElem? (i := 11) rfl) ht_IS1 ht_IS2 ht_IS3 (by decide) (by decide) (by decide) (by decide) (by decide) (by decide) (Or.inr ⟨rfl, hok0, fun h => c15 (h j rfl hj)⟩) rfl

set_option maxHeartbeats 4000000 in
set_option maxRecDepth 100000 in
theorem c_X2_join (l : Launch) (G : hD) (w : hW) (x tl rw ng cx un : Nat) (ad : Nat → Nat) (n : Nat) (ti : Nat → TI) (ch : List Nat) (rl : Nat → List Nat) (gv : Nat → Nat) (f : Nat → Int32) (hM : TM G x tl rw ng cx un ad n ti ch rl gv f w) (hall : ∀ i, i < n → i ∈ ch) (hnd : ch.Nodup) (d1 d2 : Int32) : h_Met l yX2_join (Cond.code yX2_join cX2_join 5 (some .int)) { frames := 7, cells := 2, slots := 12, locals := 102 } G [.ref x, .int d1, .int d2] w (fun v w' => okD d1 ∧ okD d2 ∧ v = some (.int (ch.foldl (jnS ti d1 d2) 0)) ∧ TM G x tl rw ng cx un ad n (fun i => psT d1 d2 (ti i)) ch rl gv f w' ∧ fr (CD x tl rw ng cx un ad n) w w') (exc1 (okD d1 ∧ okD d2)) := by
  refine h_met RX2 rfl (by decide) (Nat.le_of_ble_eq_true rfl) (cat_c (by first | rfl | exact rf_cat _) (cat_c (by first | rfl | exact rf_cat _) (cat_c (by first | rfl | exact rf_cat _) cat_n))) ?_
  intro p e s m below meth c A C hnt hr hnm
  obtain ⟨hx, ⟨tf, htl, htf⟩, ⟨rf, hrw, hrf⟩, ⟨gf, hng, hgf⟩, hcx, hun, hT, hn, hch, hlk, hrl⟩ := id hM
  refine g_iload_n C dX2_join_0 rfl rfl ?_
  refine g_callS C hnt _ dX2_join_1 (c_X2_requireDesk l G _ _) kmX2_37 ks_X2_requireDesk kn_X2 kc_X2_requireDesk hy_X2_requireDesk ⟨by decide, by decide⟩ rfl (Nat.le_of_ble_eq_true rfl) ⟨by decide, by decide⟩ ⟨by decide, by decide⟩ (fun E hE => ⟨⟨hE.1, fun h => hE.2 h.1⟩, rfl⟩) (fun v w1 hp => ?_)
  obtain ⟨rfl, hw1, hok0⟩ := hp
  have hw1 := hw1.symm
  subst hw1
  refine g_iload_n C dX2_join_4 rfl rfl ?_
  refine g_callS C hnt _ dX2_join_5 (c_X2_requireDesk l G _ _) kmX2_37 ks_X2_requireDesk kn_X2 kc_X2_requireDesk hy_X2_requireDesk ⟨by decide, by decide⟩ rfl (Nat.le_of_ble_eq_true rfl) ⟨by decide, by decide⟩ ⟨by decide, by decide⟩ (fun E hE => ⟨⟨hE.1, fun h => hE.2 h.2⟩, rfl⟩) (fun v w1 hp => ?_)
  obtain ⟨rfl, hw1, hok1⟩ := hp
  have hw1 := hw1.symm
  subst hw1
  refine g_iconst C (v := 0) dX2_join_8 (by decide) ?_
  refine g_istore_n C dX2_join_9 rfl (by decide) ?_
  first | refine g_aload_n C dX2_join_10 rfl rfl ?_ | refine g_aload_nN C dX2_join_10 rfl rfl ?_ | refine g_aload_nq C dX2_join_10 rfl rfl ?_
  refine g_get C dX2_join_11 hx rfl kw_X2 4 (by decide) kfX2_29 rfl rfl ?_
  first | refine g_astore C dX2_join_14 (by decide) ?_ | refine g_astoreN C dX2_join_14 (by decide) ?_ | refine g_astoreq C dX2_join_14 (by decide) ?_
  refine g_loop (σ := List Nat × Int32 × hW × (Nat → TI)) (fun z => lk (fun i => (ti i).la) z.1.head? z.1 ∧ (∀ i ∈ z.1, i < n) ∧ LI w ad n ti (fun i => psT d1 d2 (ti i)) z.1 z.2.2.1 z.2.2.2 ∧ z.1.foldl (jnS ti d1 d2) z.2.1 = ch.foldl (jnS ti d1 d2) 0) (fun z => z.1.length) (fun z => z.2.2.1) (fun z => [(0, .ref x), (1, .int d1), (2, .int d2), (3, .int z.2.1), (4, va_rf (z.1.head?.map ad))]) ?_ (ch, 0, w, ti) ⟨hlk, hch, LI.start hT hall hnd, rfl⟩
  rintro ⟨r, acc, wa, t1⟩ ⟨hr1, hr2, hli, hinv⟩ ih
  dsimp only at hr1 hr2 hli hinv ih ⊢
  cases r with
  | nil =>
    first | refine g_aload C dX2_join_16 rfl ?_ | refine g_aloadN C dX2_join_16 rfl ?_ | refine g_aloadq C dX2_join_16 rfl ?_
    refine g_ifnullN C 59 dX2_join_18 (by decide) ?_
    refine g_iload_n C dX2_join_59 rfl rfl ?_
    exact g_iret C hr dX2_join_60 (by decide) (by decide) ⟨hok0, hok1, by rw [← hinv]; rfl, hM.chg0 hli.fin hli.2.1 (fun _ _ => rfl) (fun _ _ => rfl), fr_off0 hli.2.1⟩
  | cons i r =>
    have hi : i < n := hr2 i List.mem_cons_self
    have hc := hli.cell hi
    have hla : (ti i).la = r.head? := lk_hd hr1.2
    have hlk' : lk (fun i => (ti i).la) r.head? r := by rw [← hla]; exact hr1.2
    first | refine g_aload C dX2_join_16 rfl ?_ | refine g_aloadN C dX2_join_16 rfl ?_ | refine g_aloadq C dX2_join_16 rfl ?_
    refine g_ifnullR C dX2_join_18 ?_
    first | refine g_aload C dX2_join_21 rfl ?_ | refine g_aloadN C dX2_join_21 rfl ?_ | refine g_aloadq C dX2_join_21 rfl ?_
    refine g_iload_n C dX2_join_23 rfl rfl ?_
    refine g_callVn C _ dX2_join_24 (c_X1_isKnownAt l G _ _ _ _ _ _ _ _ _ _ _ _ _ _ hc) kmX2_88 ki_X1_isKnownAt kv_X1_isKnownAt kn_X1 kc_X1_isKnownAt hy_X1_isKnownAt ⟨by decide, by decide⟩ hc rfl rfl (Nat.le_of_ble_eq_true rfl) ⟨by decide, by decide⟩ (fun v w1 hp => ?_)
    obtain ⟨rfl, hw1⟩ := hp
    have hw1 := hw1.symm
    subst hw1
    refine g_if_eq C 42 dX2_join_27 (by decide) (fun c27 => ?_) (fun c27 => ?_)
    · have c27 := bI_z.mp c27
      first | refine g_aload C dX2_join_42 rfl ?_ | refine g_aloadN C dX2_join_42 rfl ?_ | refine g_aloadq C dX2_join_42 rfl ?_
      refine g_iload_n C dX2_join_44 rfl rfl ?_
      refine g_iload_n C dX2_join_45 rfl rfl ?_
      refine g_callVn C _ dX2_join_46 (c_X1_pass l G _ _ _ _ _ _ _ _ _ _ _ _ _ _ _ hc) kmX2_92 ki_X1_pass kv_X1_pass kn_X1 kc_X1_pass hy_X1_pass ⟨by decide, by decide⟩ hc rfl rfl (Nat.le_of_ble_eq_true rfl) ⟨by decide, by decide⟩ (fun v w1 hp => ?_)
      obtain ⟨rfl, rfl⟩ := hp
      first | refine g_aload C dX2_join_49 rfl ?_ | refine g_aloadN C dX2_join_49 rfl ?_ | refine g_aloadq C dX2_join_49 rfl ?_
      refine g_get C dX2_join_51 (h_up_s _ _ _) rfl kw_X1 9 (by decide) kfX2_95 rfl rfl ?_
      first | refine g_astore C dX2_join_54 (by decide) ?_ | refine g_astoreN C dX2_join_54 (by decide) ?_ | refine g_astoreq C dX2_join_54 (by decide) ?_
      refine g_goto C 16 dX2_join_56 (by decide) ?_
      have e9 : jnS ti d1 d2 acc i = acc := by simp [jnS, c27]
      have hs := ih (r, acc, h_up wa (ad i) (cellT ad i (psT d1 d2 (ti i))), va_up t1 i (psT d1 d2 (ti i))) ⟨hlk', fun j hj => hr2 j (List.mem_cons_of_mem _ hj), hli.step hn hi, (congrArg (fun q => List.foldl (jnS ti d1 d2) q r) e9.symm).trans hinv⟩ (Nat.lt_succ_self _)
      dsimp only at hs
      rw [← hla] at hs
      exact hs
    · have c27 := bI_nz.mp c27
      first | refine g_aload C dX2_join_30 rfl ?_ | refine g_aloadN C dX2_join_30 rfl ?_ | refine g_aloadq C dX2_join_30 rfl ?_
      refine g_iload_n C dX2_join_32 rfl rfl ?_
      refine g_callVn C _ dX2_join_33 (c_X1_isKnownAt l G _ _ _ _ _ _ _ _ _ _ _ _ _ _ hc) kmX2_88 ki_X1_isKnownAt kv_X1_isKnownAt kn_X1 kc_X1_isKnownAt hy_X1_isKnownAt ⟨by decide, by decide⟩ hc rfl rfl (Nat.le_of_ble_eq_true rfl) ⟨by decide, by decide⟩ (fun v w1 hp => ?_)
      obtain ⟨rfl, hw1⟩ := hp
      have hw1 := hw1.symm
      subst hw1
      refine g_if_ne C 42 dX2_join_36 (by decide) (fun c36 => ?_) (fun c36 => ?_)
      · have c36 := bI_nz.mp c36
        first | refine g_aload C dX2_join_42 rfl ?_ | refine g_aloadN C dX2_join_42 rfl ?_ | refine g_aloadq C dX2_join_42 rfl ?_
        refine g_iload_n C dX2_join_44 rfl rfl ?_
        refine g_iload_n C dX2_join_45 rfl rfl ?_
        refine g_callVn C _ dX2_join_46 (c_X1_pass l G _ _ _ _ _ _ _ _ _ _ _ _ _ _ _ hc) kmX2_92 ki_X1_pass kv_X1_pass kn_X1 kc_X1_pass hy_X1_pass ⟨by decide, by decide⟩ hc rfl rfl (Nat.le_of_ble_eq_true rfl) ⟨by decide, by decide⟩ (fun v w1 hp => ?_)
        obtain ⟨rfl, rfl⟩ := hp
        first | refine g_aload C dX2_join_49 rfl ?_ | refine g_aloadN C dX2_join_49 rfl ?_ | refine g_aloadq C dX2_join_49 rfl ?_
        refine g_get C dX2_join_51 (h_up_s _ _ _) rfl kw_X1 9 (by decide) kfX2_95 rfl rfl ?_
        first | refine g_astore C dX2_join_54 (by decide) ?_ | refine g_astoreN C dX2_join_54 (by decide) ?_ | refine g_astoreq C dX2_join_54 (by decide) ?_
        refine g_goto C 16 dX2_join_56 (by decide) ?_
        have e9 : jnS ti d1 d2 acc i = acc := by simp [jnS, c27, c36]
        have hs := ih (r, acc, h_up wa (ad i) (cellT ad i (psT d1 d2 (ti i))), va_up t1 i (psT d1 d2 (ti i))) ⟨hlk', fun j hj => hr2 j (List.mem_cons_of_mem _ hj), hli.step hn hi, (congrArg (fun q => List.foldl (jnS ti d1 d2) q r) e9.symm).trans hinv⟩ (Nat.lt_succ_self _)
        dsimp only at hs
        rw [← hla] at hs
        exact hs
      · have c36 := bI_z.mp c36
        refine g_iinc C (v := (acc + 1)) dX2_join_39 rfl (rfl) (by decide) ?_
        first | refine g_aload C dX2_join_42 rfl ?_ | refine g_aloadN C dX2_join_42 rfl ?_ | refine g_aloadq C dX2_join_42 rfl ?_
        refine g_iload_n C dX2_join_44 rfl rfl ?_
        refine g_iload_n C dX2_join_45 rfl rfl ?_
        refine g_callVn C _ dX2_join_46 (c_X1_pass l G _ _ _ _ _ _ _ _ _ _ _ _ _ _ _ hc) kmX2_92 ki_X1_pass kv_X1_pass kn_X1 kc_X1_pass hy_X1_pass ⟨by decide, by decide⟩ hc rfl rfl (Nat.le_of_ble_eq_true rfl) ⟨by decide, by decide⟩ (fun v w1 hp => ?_)
        obtain ⟨rfl, rfl⟩ := hp
        first | refine g_aload C dX2_join_49 rfl ?_ | refine g_aloadN C dX2_join_49 rfl ?_ | refine g_aloadq C dX2_join_49 rfl ?_
        refine g_get C dX2_join_51 (h_up_s _ _ _) rfl kw_X1 9 (by decide) kfX2_95 rfl rfl ?_
        first | refine g_astore C dX2_join_54 (by decide) ?_ | refine g_astoreN C dX2_join_54 (by decide) ?_ | refine g_astoreq C dX2_join_54 (by decide) ?_
        refine g_goto C 16 dX2_join_56 (by decide) ?_
        have e9 : jnS ti d1 d2 acc i = (acc + 1) := by simp [jnS, c27, c36]
        have hs := ih (r, (acc + 1), h_up wa (ad i) (cellT ad i (psT d1 d2 (ti i))), va_up t1 i (psT d1 d2 (ti i))) ⟨hlk', fun j hj => hr2 j (List.mem_cons_of_mem _ hj), hli.step hn hi, (congrArg (fun q => List.foldl (jnS ti d1 d2) q r) e9.symm).trans hinv⟩ (Nat.lt_succ_self _)
        dsimp only at hs
        rw [← hla] at hs
        exact hs

set_option maxHeartbeats 4000000 in
set_option maxRecDepth 100000 in
theorem c_X2_compact (l : Launch) (G : hD) (w : hW) (x tl rw ng cx un : Nat) (ad : Nat → Nat) (n : Nat) (ti : Nat → TI) (ch : List Nat) (rl : Nat → List Nat) (gv : Nat → Nat) (f : Nat → Int32) (hM : TM G x tl rw ng cx un ad n ti ch rl gv f w) (hall : ∀ i, i < n → i ∈ ch) (hnd : ch.Nodup) : h_Met l yX2_compact (Cond.code yX2_compact cX2_compact 3 (some .int)) { frames := 2, cells := 0, slots := 0, locals := 41 } G [.ref x] w (fun v w' => v = some (.int (ch.foldl (cpS ti ch) 0)) ∧ TM G x tl rw ng cx un ad n (cpT ti ch) ch rl gv f w' ∧ fr (CD x tl rw ng cx un ad n) w w') noX := by
  refine h_met RX2 rfl (by decide) (Nat.le_of_ble_eq_true rfl) (cat_c (by first | rfl | exact rf_cat _) cat_n) ?_
  intro p e s m below meth c A C hnt hr hnm
  obtain ⟨hx, ⟨tf, htl, htf⟩, ⟨rf, hrw, hrf⟩, ⟨gf, hng, hgf⟩, hcx, hun, hT, hn, hch, hlk, hrl⟩ := id hM
  refine g_iconst C (v := 0) dX2_compact_0 (by decide) ?_
  refine g_istore_n C dX2_compact_1 rfl (by decide) ?_
  first | refine g_aload_n C dX2_compact_2 rfl rfl ?_ | refine g_aload_nN C dX2_compact_2 rfl rfl ?_ | refine g_aload_nq C dX2_compact_2 rfl rfl ?_
  refine g_get C dX2_compact_3 hx rfl kw_X2 4 (by decide) kfX2_29 rfl rfl ?_
  first | refine g_astore_n C dX2_compact_6 rfl (by decide) ?_ | refine g_astore_nN C dX2_compact_6 rfl (by decide) ?_ | refine g_astore_nq C dX2_compact_6 rfl (by decide) ?_
  refine g_loop (σ := List Nat × Int32 × hW × (Nat → TI)) (fun z => lk (fun i => (ti i).la) z.1.head? z.1 ∧ (∀ i ∈ z.1, i < n) ∧ LI w ad n ti (cpT ti ch) z.1 z.2.2.1 z.2.2.2 ∧ z.1.foldl (cpS ti ch) z.2.1 = ch.foldl (cpS ti ch) 0 ∧ ∃ pre, ch = pre ++ z.1) (fun z => z.1.length) (fun z => z.2.2.1) (fun z => [(0, .ref x), (1, .int z.2.1), (2, va_rf (z.1.head?.map ad))]) ?_ (ch, 0, w, ti) ⟨hlk, hch, LI.start hT hall hnd, rfl, [], rfl⟩
  rintro ⟨r, acc, wa, t1⟩ ⟨hr1, hr2, hli, hinv, pre, hpre⟩ ih
  dsimp only at hr1 hr2 hli hinv hpre ih ⊢
  cases r with
  | nil =>
    first | refine g_aload_n C dX2_compact_7 rfl rfl ?_ | refine g_aload_nN C dX2_compact_7 rfl rfl ?_ | refine g_aload_nq C dX2_compact_7 rfl rfl ?_
    refine g_ifnullN C 33 dX2_compact_8 (by decide) ?_
    refine g_iload_n C dX2_compact_33 rfl rfl ?_
    exact g_iret C hr dX2_compact_34 (by decide) (by decide) ⟨by rw [← hinv]; rfl, hM.chg0 hli.fin hli.2.1 (fun i _ => by unfold cpT; cases cpB ti ch i <;> rfl) (fun i _ => by unfold cpT; cases cpB ti ch i <;> rfl), fr_off0 hli.2.1⟩
  | cons i r =>
    have hi : i < n := hr2 i List.mem_cons_self
    have hc := hli.cell hi
    have hla : (ti i).la = r.head? := lk_hd hr1.2
    have hlk' : lk (fun i => (ti i).la) r.head? r := by rw [← hla]; exact hr1.2
    have hpre' : ∃ pre, ch = pre ++ r := ⟨pre ++ [i], by rw [hpre]; simp⟩
    have hti : t1 i = ti i := hli.2.2.1 i List.mem_cons_self
    have hlk1 : lk (fun i => (t1 i).la) (t1 i).la r := by rw [hti]; exact lk_congr hr1.2 (fun j hj => by rw [hli.2.2.1 j (List.mem_cons_of_mem _ hj)])
    have hod : (shL (t1 i) && r.any (odF t1 (t1 i).th)) = cpB ti ch i := by
      rw [hpre, cpB_at (by rw [← hpre]; exact hnd), hti]
      congr 1
      exact any_congr (fun j hj => by unfold odF; rw [hli.2.2.1 j (List.mem_cons_of_mem _ hj)])
    first | refine g_aload_n C dX2_compact_7 rfl rfl ?_ | refine g_aload_nN C dX2_compact_7 rfl rfl ?_ | refine g_aload_nq C dX2_compact_7 rfl rfl ?_
    refine g_ifnullR C dX2_compact_8 ?_
    first | refine g_aload_n C dX2_compact_11 rfl rfl ?_ | refine g_aload_nN C dX2_compact_11 rfl rfl ?_ | refine g_aload_nq C dX2_compact_11 rfl rfl ?_
    refine g_callSn C _ dX2_compact_12 (c_X2_isOutdone l G _ ad n t1 hli.1 r i hi (fun j hj => hr2 j (List.mem_cons_of_mem _ hj)) hlk1) kmX2_139 ks_X2_isOutdone kn_X2 kc_X2_isOutdone hy_X2_isOutdone ⟨by decide, by decide⟩ rfl (Nat.le_of_ble_eq_true rfl) ⟨by decide, by decide⟩ (fun v w1 hp => ?_)
    obtain ⟨rfl, hw1⟩ := hp
    have hw1 := hw1.symm
    subst hw1
    rw [hod]
    refine g_if_eq C 25 dX2_compact_15 (by decide) (fun c15 => ?_) (fun c15 => ?_)
    · have c15 := bI_z.mp c15
      have e9 : cpS ti ch acc i = acc := by simp [cpS, c15]
      have hF : cpT ti ch i = ti i := by simp [cpT, c15]
      first | refine g_aload_n C dX2_compact_25 rfl rfl ?_ | refine g_aload_nN C dX2_compact_25 rfl rfl ?_ | refine g_aload_nq C dX2_compact_25 rfl rfl ?_
      refine g_get C dX2_compact_26 hc rfl kw_X1 9 (by decide) kfX2_95 rfl rfl ?_
      first | refine g_astore_n C dX2_compact_29 rfl (by decide) ?_ | refine g_astore_nN C dX2_compact_29 rfl (by decide) ?_ | refine g_astore_nq C dX2_compact_29 rfl (by decide) ?_
      refine g_goto C 7 dX2_compact_30 (by decide) ?_
      have hs := ih (r, acc, wa, t1) ⟨hlk', fun j hj => hr2 j (List.mem_cons_of_mem _ hj), hli.skip hF, (congrArg (fun q => List.foldl (cpS ti ch) q r) e9.symm).trans hinv, hpre'⟩ (Nat.lt_succ_self _)
      dsimp only at hs
      rw [← hla] at hs
      exact hs
    · have c15 := bI_nz.mp c15
      first | refine g_aload_n C dX2_compact_18 rfl rfl ?_ | refine g_aload_nN C dX2_compact_18 rfl rfl ?_ | refine g_aload_nq C dX2_compact_18 rfl rfl ?_
      refine g_callVn C _ dX2_compact_19 (c_X1_forget l G _ _ _ _ _ _ _ _ _ _ _ _ _ hc) kmX2_143 ki_X1_forget kv_X1_forget kn_X1 kc_X1_forget hy_X1_forget ⟨by decide, by decide⟩ hc rfl rfl (Nat.le_of_ble_eq_true rfl) ⟨by decide, by decide⟩ (fun v w1 hp => ?_)
      obtain ⟨rfl, rfl⟩ := hp
      refine g_iinc C (v := (acc + 1)) dX2_compact_22 rfl (rfl) (by decide) ?_
      have e9 : cpS ti ch acc i = acc + 1 := by simp [cpS, c15]
      have hF : cpT ti ch i = fgT (ti i) := by simp [cpT, c15]
      first | refine g_aload_n C dX2_compact_25 rfl rfl ?_ | refine g_aload_nN C dX2_compact_25 rfl rfl ?_ | refine g_aload_nq C dX2_compact_25 rfl rfl ?_
      refine g_get C dX2_compact_26 (h_up_s _ _ _) rfl kw_X1 9 (by decide) kfX2_95 rfl rfl ?_
      first | refine g_astore_n C dX2_compact_29 rfl (by decide) ?_ | refine g_astore_nN C dX2_compact_29 rfl (by decide) ?_ | refine g_astore_nq C dX2_compact_29 rfl (by decide) ?_
      refine g_goto C 7 dX2_compact_30 (by decide) ?_
      have hs := ih (r, acc + 1, h_up wa (ad i) (cellT ad i (fgT (ti i))), va_up t1 i (fgT (ti i))) ⟨hlk', fun j hj => hr2 j (List.mem_cons_of_mem _ hj), by have h9 := hli.step hn hi; rw [hF] at h9; exact h9, (congrArg (fun q => List.foldl (cpS ti ch) q r) e9.symm).trans hinv, hpre'⟩ (Nat.lt_succ_self _)
      dsimp only at hs
      rw [← hla] at hs
      exact hs

