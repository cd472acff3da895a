/-! ===== tellings are made ===== -/
def gsN (ti : Nat → TI) (d : Int32) (l : List Nat) : Nat → Nat := fun g => l.foldl (fun g i => cond (kb (ti i).kn d) (ti i).st g) g
theorem gsN_eq (ti : Nat → TI) (d : Int32) : ∀ (l : List Nat) (g : Nat), l.foldl (gsS ti d) (nI g) = nI (gsN ti d l g)
  | [], _ => rfl
  | i :: l, g => by
    show l.foldl (gsS ti d) (gsS ti d (nI g) i) = nI (gsN ti d l (cond (kb (ti i).kn d) (ti i).st g))
    rw [← gsN_eq ti d l]
    congr 1
    unfold gsS
    cases kb (ti i).kn d <;> rfl
/-- a fresh telling -/
def frT (d st so : Nat) (th : Int32) (va : Nat) : TI := (d, st, so, th, va, (1 : Int32) <<< (nI d &&& 31), 0, 0, none, none)
/-- links stay among the tellings -/
def lnkB (n : Nat) (ti : Nat → TI) : Prop := ∀ i, i < n → (∀ k, (ti i).la = some k → k < n) ∧ ∀ k, (ti i).ne = some k → k < n
theorem map_ad {ad : Nat → Nat} {n q : Nat} {o : Option Nat} (h : ∀ k, o = some k → k < n) : o.map (va_up ad n q) = o.map ad := by
  cases o with
  | none => rfl
  | some k => show some (va_up ad n q k) = some (ad k); rw [va_up_ne _ _ (fun e => absurd (h k rfl) (by omega))]
theorem cellT_ad {ad : Nat → Nat} {n q i : Nat} {t : TI} (h : (∀ k, t.la = some k → k < n) ∧ ∀ k, t.ne = some k → k < n) : cellT (va_up ad n q) i t = cellT ad i t := by
  show tC _ _ _ _ _ _ _ _ _ _ _ = tC _ _ _ _ _ _ _ _ _ _ _
  rw [map_ad h.1, map_ad h.2]
theorem hd_lt {l : List Nat} {n : Nat} (h : ∀ i ∈ l, i < n) : ∀ k, l.head? = some k → k < n := fun k hk => h k (by cases l with | nil => cases hk | cons i r => cases hk; exact List.mem_cons_self)
theorem TM.grow {G : hD} {x tl rw ng cx un : Nat} {ad : Nat → Nat} {n : Nat} {ti : Nat → TI} {ch : List Nat} {rl : Nat → List Nat} {gv : Nat → Nat} {f : Nat → Int32} {w : hW} (h : TM G x tl rw ng cx un ad n ti ch rl gv f w) (hn : n < 120) (hlb : lnkB n ti) {q : Nat} (hq : w q = none) (t : TI) {tf : Nat → Option Nat} (htl : w tl = some (eT G 120 tf)) (htf : ∀ i, i < n → tf i = some (ad i)) (htla : t.la = none) (htne : t.ne = none) :
    TM G x tl rw ng cx un (va_up ad n q) (n + 1) (va_up ti n t) ch rl gv f (h_up (h_up (h_up w q (cellT ad n t)) tl (eT G 120 (va_up tf n (some q)))) x (cellX ad tl rw ng cx ch.head? (n + 1))) := by
  have ap := h.apart
  obtain ⟨b1, b2, b3, b4, b5, b6, b7, b8, b9, b10, b11⟩ := h.apart2
  obtain ⟨hx, -, ⟨rf, hrw, hrf⟩, ⟨gf, hng, hgf⟩, hcx, hun, hT, -, hch, hlk, hrl⟩ := h
  have ngtl : ng ≠ tl := fun e => by rw [e, htl] at hng; have h9 := Option.some.inj hng; simp at h9
  have untl : un ≠ tl := fun e => by rw [e, htl] at hun; have h9 := Option.some.inj hun; simp at h9
  have nq : ∀ {b : Nat} {e : va_E}, w b = some e → b ≠ q := fun hb e => by rw [e, hq] at hb; cases hb
  refine ⟨?_, ⟨va_up tf n (some q), ?_, fun i hi => ?_⟩, ⟨rf, ?_, fun t' ht' => ?_⟩, ⟨gf, ?_, hgf⟩, ?_, ?_, fun i hi => ?_, hn, fun i hi => Nat.lt_succ_of_lt (hch i hi), ?_, fun t' ht' => ⟨fun i hi => Nat.lt_succ_of_lt ((hrl t' ht').1 i hi), ?_⟩⟩
  · rw [h_up_s]
    show some (cellX ad tl rw ng cx ch.head? (n + 1)) = some (cellX (va_up ad n q) tl rw ng cx ch.head? (n + 1))
    unfold cellX
    rw [map_ad (hd_lt hch)]
  · rw [h_up_n (Ne.symm b1), h_up_s]
  · by_cases e : i = n
    · subst e; rw [va_up_self, va_up_self]
    · rw [va_up_ne _ _ e, va_up_ne _ _ e]; exact htf i (by omega)
  · rw [h_up_n (Ne.symm b2), h_up_n (Ne.symm b6), h_up_n (nq hrw)]; exact hrw
  · rw [map_ad (hd_lt (hrl t' ht').1)]; exact hrf t' ht'
  · rw [h_up_n (Ne.symm b3), h_up_n ngtl, h_up_n (nq hng)]; exact hng
  · rw [h_up_n (Ne.symm b4), h_up_n (Ne.symm b7), h_up_n (nq hcx)]; exact hcx
  · rw [h_up_n (Ne.symm b5), h_up_n untl, h_up_n (nq hun)]; exact hun
  · by_cases e : i = n
    · subst e
      rw [va_up_self, va_up_self, h_up_n (Ne.symm (nq hx)), h_up_n (Ne.symm (nq htl)), h_up_s, cellT_ad (t := t) ⟨fun k hk => (by rw [htla] at hk; cases hk), fun k hk => (by rw [htne] at hk; cases hk)⟩]
    · have hi' : i < n := by omega
      rw [va_up_ne _ _ e, va_up_ne _ _ e, h_up_n (Ne.symm (ap i hi').1), h_up_n (Ne.symm (ap i hi').2.1), h_up_n (nq (hT i hi')), cellT_ad (hlb i hi')]
      exact hT i hi'
  · exact lk_congr hlk (fun i hi => by rw [va_up_ne _ _ (fun e => absurd (hch i hi) (by omega))])
  · exact lk_congr (hrl t' ht').2 (fun i hi => by rw [va_up_ne _ _ (fun e => absurd ((hrl t' ht').1 i hi) (by omega))])
/-- behind the making of a telling -/
def EN (G : hD) (x tl rw ng cx un : Nat) (ad : Nat → Nat) (n : Nat) (ti : Nat → TI) (ch : List Nat) (rl : Nat → List Nat) (gv : Nat → Nat) (f : Nat → Int32) (w : hW) (t : TI) (q : Nat) (lf : Nat → Option Nat) (w' : hW) : Prop :=
  w q = none ∧ TM G x tl rw ng cx un (va_up ad n q) (n + 1) (fun i => laT (va_up ti n t i) (lf i)) (insR (va_up ti n t) n ch) rl gv f w' ∧ fr (CD x tl rw ng cx un ad n) w w'
def exc3 (P1 P2 P3 : Prop) (E : String) : Prop := (E = nNS ∧ ¬ P1) ∨ (E = nIA ∧ P1 ∧ ¬ P2) ∨ (E = nIS ∧ P1 ∧ P2 ∧ ¬ P3)
theorem insR_mem {ti : Nat → TI} {j : Nat} : ∀ {l : List Nat} {i : Nat}, i ∈ insR ti j l ↔ i = j ∨ i ∈ l
  | [], i => by simp [insR]
  | k :: l, i => by
    unfold insR
    cases ltT (ti j) (ti k)
    · simp
    · simp only [cond_true, List.mem_cons, insR_mem (l := l)]
      constructor
      · rintro (h | h | h)
        · exact Or.inr (Or.inl h)
        · exact Or.inl h
        · exact Or.inr (Or.inr h)
      · rintro (h | h | h)
        · exact Or.inr (Or.inl h)
        · exact Or.inl h
        · exact Or.inr (Or.inr h)

set_option maxHeartbeats 4000000 in
set_option maxRecDepth 100000 in
theorem c_X2_enter (l : Launch) (G : hD) (w : hW) (x tl rw ng cx un : Nat) (ad : Nat → Nat) (n : Nat) (ti : Nat → TI) (ch : List Nat) (rl : Nat → List Nat) (gv : Nat → Nat) (f : Nat → Int32) (hM : TM G x tl rw ng cx un ad n ti ch rl gv f w) (d so va : Nat) (th : Int32) (hlb : lnkB n ti) (hnd : ch.Nodup) : h_Met l yX2_enter (Cond.code yX2_enter cX2_enter 6 (some (.object "TrenchMerge$Telling"))) { frames := 6, cells := 1, slots := 11, locals := 82 } G [.ref x, .int (nI d), .int (nI so), .int th, .int (nI va)] w (fun v w' => n < 120 ∧ ∃ q lf, v = some (.ref q) ∧ EN G x tl rw ng cx un ad n ti ch rl gv f w (frT d (gsN ti (nI d) ch 0 + 1) so th va) q lf w') (fun E => E = nIS ∧ ¬ n < 120) := by
  refine h_met RX2 rfl (by decide) (Nat.le_of_ble_eq_true rfl) (cat_c (by first | rfl | exact rf_cat _) (cat_c (by first | rfl | exact rf_cat _) (cat_c (by first | rfl | exact rf_cat _) (cat_c (by first | rfl | exact rf_cat _) (cat_c (by first | rfl | exact rf_cat _) cat_n))))) ?_
  intro p e s m below meth c A C hnt hr hnm
  obtain ⟨hx, ⟨tf, htl, htf⟩, ⟨rf, hrw, hrf⟩, ⟨gf, hng, hgf⟩, hcx, hun, hT, hn, hch, hlk, hrl⟩ := id hM
  obtain ⟨b1, b2, b3, b4, b5, b6, b7, b8, b9, b10, b11⟩ := hM.apart2
  have hdefT : ∀ j, j < 11 → defaultValue (tyX1 j) = vp_V [.int 0, .int 0, .int 0, .int 0, .int 0, .int 0, .int 0, .int 0, .int 0, .null, .null] j := by decide +kernel
  first | refine g_aload_n C dX2_enter_0 rfl rfl ?_ | refine g_aload_nN C dX2_enter_0 rfl rfl ?_ | refine g_aload_nq C dX2_enter_0 rfl rfl ?_
  refine g_get C dX2_enter_1 hx rfl kw_X2 5 (by decide) kfX2_33 rfl rfl ?_
  refine g_bipush C (v := 120) dX2_enter_4 (by decide) ?_
  refine g_icmp_lt C 19 dX2_enter_6 (by decide) (fun c6 => ?_) (fun c6 => ?_)
  · have c6 : n < 120 := (nI_ltI (b := 120) (by omega) (by decide)).mp c6
    refine g_new C (ci := 1) (fs := [.int 0, .int 0, .int 0, .int 0, .int 0, .int 0, .int 0, .int 0, .int 0, .null, .null]) dX2_enter_19 rfl kw_X1 tyX1 tyX1_ok klX2_9 kt_X1 kn_X1 hdefT (by decide) (by decide) (fun q hq => ?_)
    have nq : ∀ {b : Nat} {e : va_E}, w b = some e → b ≠ q := fun hb e => by rw [e, hq] at hb; cases hb
    have hx1 : h_up w q (eO 1 [.int 0, .int 0, .int 0, .int 0, .int 0, .int 0, .int 0, .int 0, .int 0, .null, .null]) x = some (cellX ad tl rw ng cx ch.head? n) := (h_up_n (nq hx)).trans hx
    have hT1 : tIn (h_up w q (eO 1 [.int 0, .int 0, .int 0, .int 0, .int 0, .int 0, .int 0, .int 0, .int 0, .null, .null])) ad n ti := fun i hi => (h_up_n (nq (hT i hi))).trans (hT i hi)
    refine g_dup C dX2_enter_22 rfl ?_
    first | refine g_aload_n C dX2_enter_23 rfl rfl ?_ | refine g_aload_nN C dX2_enter_23 rfl rfl ?_ | refine g_aload_nq C dX2_enter_23 rfl rfl ?_
    refine g_get C dX2_enter_24 hx1 rfl kw_X2 5 (by decide) kfX2_33 rfl rfl ?_
    refine g_iload_n C dX2_enter_27 rfl rfl ?_
    first | refine g_aload_n C dX2_enter_28 rfl rfl ?_ | refine g_aload_nN C dX2_enter_28 rfl rfl ?_ | refine g_aload_nq C dX2_enter_28 rfl rfl ?_
    refine g_iload_n C dX2_enter_29 rfl rfl ?_
    refine g_callVn C _ dX2_enter_30 (c_X2_greatestStamp l G _ _ _ _ _ _ _ _ _ _ _ hx1 hT1 hch hlk _) kmX2_184 ki_X2_greatestStamp kv_X2_greatestStamp kn_X2 kc_X2_greatestStamp hy_X2_greatestStamp ⟨by decide, by decide⟩ hx1 rfl rfl (Nat.le_of_ble_eq_true rfl) ⟨by decide, by decide⟩ (fun v w1 hp => ?_)
    obtain ⟨rfl, hw1⟩ := hp
    have hw1 := hw1.symm
    subst hw1
    rw [show (0 : Int32) = nI 0 from rfl, gsN_eq]
    refine g_iconst C (v := 1) dX2_enter_33 (by decide) ?_
    refine g_iadd C dX2_enter_34 ?_
    refine g_eq (y := nI (gsN ti (nI d) ch 0 + 1)) (nI_1 _) ?_
    refine g_iload_n C dX2_enter_35 rfl rfl ?_
    refine g_iload_n C dX2_enter_36 rfl rfl ?_
    refine g_iload C dX2_enter_37 rfl ?_
    refine g_callI C _ dX2_enter_39 (c_X1_init l G _ _ 0 0 0 0 0 0 0 0 0 none none _ _ _ _ _ _ (h_up_s _ _ _)) kmX2_188 ki_X1_init kn_X1 kc_X1_init rfl hy_X1_init ⟨by decide, by decide⟩ rfl (Nat.le_of_ble_eq_true rfl) ⟨by decide, by decide⟩ (fun v w1 hp => ?_)
    obtain ⟨rfl, rfl⟩ := hp
    rw [h_up_up]
    have hx2 : h_up w q (cellT ad n (frT d (gsN ti (nI d) ch 0 + 1) so th va)) x = some (cellX ad tl rw ng cx ch.head? n) := (h_up_n (nq hx)).trans hx
    have htl2 : h_up w q (cellT ad n (frT d (gsN ti (nI d) ch 0 + 1) so th va)) tl = some (eT G 120 tf) := (h_up_n (nq htl)).trans htl
    first | refine g_astore C dX2_enter_42 (by decide) ?_ | refine g_astoreN C dX2_enter_42 (by decide) ?_ | refine g_astoreq C dX2_enter_42 (by decide) ?_
    first | refine g_aload_n C dX2_enter_44 rfl rfl ?_ | refine g_aload_nN C dX2_enter_44 rfl rfl ?_ | refine g_aload_nq C dX2_enter_44 rfl rfl ?_
    refine g_get C dX2_enter_45 hx2 rfl kw_X2 0 (by decide) kfX2_11 rfl rfl ?_
    first | refine g_aload_n C dX2_enter_48 rfl rfl ?_ | refine g_aload_nN C dX2_enter_48 rfl rfl ?_ | refine g_aload_nq C dX2_enter_48 rfl rfl ?_
    refine g_get C dX2_enter_49 hx2 rfl kw_X2 5 (by decide) kfX2_33 rfl rfl ?_
    first | refine g_aload C dX2_enter_52 rfl ?_ | refine g_aloadN C dX2_enter_52 rfl ?_ | refine g_aloadq C dX2_enter_52 rfl ?_
    refine g_astq C dX2_enter_54 htl2 (h_up_s _ _ _) rfl (vp_in_nI c6 (by decide)) ?_
    rw [nI_clamp (by omega)]
    have hx3 : h_up (h_up w q (cellT ad n (frT d (gsN ti (nI d) ch 0 + 1) so th va))) tl (eT G 120 (va_up tf n (some q))) x = some (cellX ad tl rw ng cx ch.head? n) := (h_up_n b1).trans hx2
    first | refine g_aload_n C dX2_enter_55 rfl rfl ?_ | refine g_aload_nN C dX2_enter_55 rfl rfl ?_ | refine g_aload_nq C dX2_enter_55 rfl rfl ?_
    refine g_dup C dX2_enter_56 rfl ?_
    refine g_get C dX2_enter_57 hx3 rfl kw_X2 5 (by decide) kfX2_33 rfl rfl ?_
    refine g_iconst C (v := 1) dX2_enter_60 (by decide) ?_
    refine g_iadd C dX2_enter_61 ?_
    refine g_eq (y := nI (n + 1)) (nI_1 n) ?_
    refine g_put C dX2_enter_62 hx3 rfl kw_X2 tyX2 tyX2_ok nmX2 5 (by decide) kfX2_33 rfl rfl rfl rfl (Nat.le_of_ble_eq_true rfl) ?_
    have hM2 := hM.grow c6 hlb hq (frT d (gsN ti (nI d) ch 0 + 1) so th va) htl htf rfl rfl
    have hPB := c_X2_putByRank l G _ _ _ _ _ _ _ (va_up ad n q) _ _ _ _ _ _ hM2 n (Nat.lt_succ_self n) (fun hh => absurd (hch n hh) (Nat.lt_irrefl n)) hnd
    rw [va_up_self] at hPB
    first | refine g_aload_n C dX2_enter_65 rfl rfl ?_ | refine g_aload_nN C dX2_enter_65 rfl rfl ?_ | refine g_aload_nq C dX2_enter_65 rfl rfl ?_
    first | refine g_aload C dX2_enter_66 rfl ?_ | refine g_aloadN C dX2_enter_66 rfl ?_ | refine g_aloadq C dX2_enter_66 rfl ?_
    refine g_callVn C _ dX2_enter_68 (hPB) kmX2_191 ki_X2_putByRank kv_X2_putByRank kn_X2 kc_X2_putByRank hy_X2_putByRank ⟨by decide, by decide⟩ hM2.1 rfl rfl (Nat.le_of_ble_eq_true rfl) ⟨by decide, by decide⟩ (fun v w1 hp => ?_)
    obtain ⟨rfl, lf, hM3, hfr⟩ := hp
    first | refine g_aload C dX2_enter_71 rfl ?_ | refine g_aloadN C dX2_enter_71 rfl ?_ | refine g_aloadq C dX2_enter_71 rfl ?_
    exact g_aret C (r := some q) hr dX2_enter_73 (by decide) (by decide) ⟨c6, q, lf, rfl, hq, hM3, (fun z e hz hw => hfr z e (fun hcd => by
          rcases hcd with h9 | h9 | h9 | h9 | h9 | h9 | ⟨i, hi, h9⟩
          · exact hz (Or.inl h9)
          · exact hz (Or.inr (Or.inl h9))
          · exact hz (Or.inr (Or.inr (Or.inl h9)))
          · exact hz (Or.inr (Or.inr (Or.inr (Or.inl h9))))
          · exact hz (Or.inr (Or.inr (Or.inr (Or.inr (Or.inl h9)))))
          · exact hz (Or.inr (Or.inr (Or.inr (Or.inr (Or.inr (Or.inl h9))))))
          · by_cases hin : i = n
            · subst hin; rw [va_up_self] at h9; exact nq hw h9
            · rw [va_up_ne _ _ hin] at h9; exact hz (Or.inr (Or.inr (Or.inr (Or.inr (Or.inr (Or.inr ⟨i, by omega, h9⟩))))))) ((fr.up (fr.up (fr.new fr.rf hq) (Or.inr (Or.inl rfl))) (Or.inl rfl) : fr (CD x tl rw ng cx un ad n) w _) z e hz hw))⟩
  · have c6 : ¬ n < 120 := mt (nI_ltI (a := n) (b := 120) (by omega) (by decide)).mpr c6
    exact g_throw C hnt rfl dX2_enter_9 dX2_enter_12 dX2_enter_13 dX2_enter_15 dX2_enter_18 (by decide +kernel) klX2_98 kn_IllegalStateException (List.mem_of_getElem? (i := 4) rfl) ht_IS1 ht_IS2 ht_IS3 (by decide) (by decide) (by decide) (by decide) (by decide) (by decide) (⟨rfl, c6⟩) rfl

def vOk (fl v : Int32) : Prop := ¬ v < 0 ∧ v < (if fl = 2 then 32 else 1000)
theorem nI_of9 {v : Int32} (h : ¬ v < 0) : ∃ j : Nat, v = nI j := by obtain ⟨j, -, rfl⟩ := nI_of h; exact ⟨j, rfl⟩
set_option maxHeartbeats 4000000 in
set_option maxRecDepth 100000 in
theorem c_X2_tell (l : Launch) (G : hD) (w : hW) (x tl rw ng cx un : Nat) (ad : Nat → Nat) (n : Nat) (ti : Nat → TI) (ch : List Nat) (rl : Nat → List Nat) (gv : Nat → Nat) (f : Nat → Int32) (hM : TM G x tl rw ng cx un ad n ti ch rl gv f w) (hlb : lnkB n ti) (hnd : ch.Nodup) (d th fl v : Int32) : h_Met l yX2_tell (Cond.code yX2_tell cX2_tell 5 (some .int)) { frames := 7, cells := 5, slots := 35, locals := 108 } G [.ref x, .int d, .int th, .int fl, .int v] w (fun r w' => okD d ∧ okT th ∧ (¬ fl < 0 ∧ ¬ 2 < fl) ∧ vOk fl v ∧ n < 120 ∧ r = some (.int (nI n)) ∧ ∃ d' t' fl' v', d' < 6 ∧ t' < 16 ∧ fl' < 2 ^ 31 ∧ v' < 2 ^ 31 ∧ d = nI d' ∧ th = nI t' ∧ fl = nI fl' ∧ v = nI v' ∧ ∃ q lf, EN G x tl rw ng cx un ad n ti ch rl gv f w (frT d' (gsN ti (nI d') ch 0 + 1) fl' (nI t') v') q lf w') (exc3 (okD d ∧ okT th ∧ (¬ fl < 0 ∧ ¬ 2 < fl)) (vOk fl v) (n < 120)) := by
  refine h_met RX2 rfl (by decide) (Nat.le_of_ble_eq_true rfl) (cat_c (by first | rfl | exact rf_cat _) (cat_c (by first | rfl | exact rf_cat _) (cat_c (by first | rfl | exact rf_cat _) (cat_c (by first | rfl | exact rf_cat _) (cat_c (by first | rfl | exact rf_cat _) cat_n))))) ?_
  intro p e s m below meth c A C hnt hr hnm
  obtain ⟨hx, ⟨tf, htl, htf⟩, ⟨rf, hrw, hrf⟩, ⟨gf, hng, hgf⟩, hcx, hun, hT, hn, hch, hlk, hrl⟩ := id hM
  refine g_iload_n C dX2_tell_0 rfl rfl ?_
  refine g_callS C hnt _ dX2_tell_1 (c_X2_requireDesk l G _ _) kmX2_37 ks_X2_requireDesk kn_X2 kc_X2_requireDesk hy_X2_requireDesk ⟨by decide, by decide⟩ rfl (Nat.le_of_ble_eq_true rfl) ⟨by decide, by decide⟩ ⟨by decide, by decide⟩ (fun E hE => ⟨Or.inl ⟨hE.1, fun h => hE.2 h.1⟩, rfl⟩) (fun v w1 hp => ?_)
  obtain ⟨rfl, hw1, hok0⟩ := hp
  have hw1 := hw1.symm
  subst hw1
  refine g_iload_n C dX2_tell_4 rfl rfl ?_
  refine g_callS C hnt _ dX2_tell_5 (c_X2_requireThing l G _ _) kmX2_41 ks_X2_requireThing kn_X2 kc_X2_requireThing hy_X2_requireThing ⟨by decide, by decide⟩ rfl (Nat.le_of_ble_eq_true rfl) ⟨by decide, by decide⟩ ⟨by decide, by decide⟩ (fun E hE => ⟨Or.inl ⟨hE.1, fun h => hE.2 h.2.1⟩, rfl⟩) (fun v w1 hp => ?_)
  obtain ⟨rfl, hw1, hok1⟩ := hp
  have hw1 := hw1.symm
  subst hw1
  refine g_iload_n C dX2_tell_8 rfl rfl ?_
  refine g_iconst C (v := 2) dX2_tell_9 (by decide) ?_
  refine g_callS C hnt _ dX2_tell_10 (c_X2_requireField l G _ _ _) kmX2_44 ks_X2_requireField kn_X2 kc_X2_requireField hy_X2_requireField ⟨by decide, by decide⟩ rfl (Nat.le_of_ble_eq_true rfl) ⟨by decide, by decide⟩ ⟨by decide, by decide⟩ (fun E hE => ⟨Or.inl ⟨hE.1, fun h => hE.2 h.2.2⟩, rfl⟩) (fun v w1 hp => ?_)
  obtain ⟨rfl, hw1, hok2⟩ := hp
  have hw1 := hw1.symm
  subst hw1
  refine g_iload C dX2_tell_13 rfl ?_
  refine g_iload_n C dX2_tell_15 rfl rfl ?_
  refine g_iconst C (v := 2) dX2_tell_16 (by decide) ?_
  refine g_icmp_ne C 25 dX2_tell_17 (by decide) (fun c17 => ?_) (fun c17 => ?_)
  · refine g_sipush C (v := 1000) dX2_tell_25 (by decide) ?_
    have c17 : ¬ fl = 2 := c17
    refine g_callS C hnt _ dX2_tell_28 (c_X2_requireValue l G _ _ _) kmX2_48 ks_X2_requireValue kn_X2 kc_X2_requireValue hy_X2_requireValue ⟨by decide, by decide⟩ rfl (Nat.le_of_ble_eq_true rfl) ⟨by decide, by decide⟩ ⟨by decide, by decide⟩ (fun E hE => ⟨Or.inr (Or.inl ⟨hE.1, ⟨hok0, hok1, hok2⟩, fun h => hE.2 (by rw [vOk, if_neg c17] at h; exact h)⟩), rfl⟩) (fun v w1 hp => ?_)
    obtain ⟨rfl, hw1, hok3⟩ := hp
    have hw1 := hw1.symm
    subst hw1
    have hok3 : vOk fl v := by rw [vOk, if_neg c17]; exact hok3
    obtain ⟨d', hd', rfl⟩ := ok_nI (N := 6) (by decide) hok0.1 hok0.2
    obtain ⟨t', ht', rfl⟩ := ok_nI (N := 16) (by decide) hok1.1 hok1.2
    obtain ⟨fl', hfl9, rfl⟩ := nI_of hok2.1
    obtain ⟨v', hv9, rfl⟩ := nI_of hok3.1
    first | refine g_aload_n C dX2_tell_31 rfl rfl ?_ | refine g_aload_nN C dX2_tell_31 rfl rfl ?_ | refine g_aload_nq C dX2_tell_31 rfl rfl ?_
    refine g_iload_n C dX2_tell_32 rfl rfl ?_
    refine g_iload_n C dX2_tell_33 rfl rfl ?_
    refine g_iload_n C dX2_tell_34 rfl rfl ?_
    refine g_iload C dX2_tell_35 rfl ?_
    refine g_callV C hnt _ dX2_tell_37 (c_X2_enter l G _ _ _ _ _ _ _ _ _ _ _ _ _ _ hM d' fl' v' (nI t') hlb hnd) kmX2_51 ki_X2_enter kv_X2_enter kn_X2 kc_X2_enter hy_X2_enter ⟨by decide, by decide⟩ hx rfl rfl (Nat.le_of_ble_eq_true rfl) ⟨by decide, by decide⟩ ⟨by decide, by decide⟩ (fun E hE => ⟨Or.inr (Or.inr ⟨hE.1, ⟨hok0, hok1, hok2⟩, hok3, hE.2⟩), rfl⟩) (fun v w1 hp => ?_)
    obtain ⟨hn9, q, lf, rfl, hq, hM3, hfr⟩ := hp
    have hcq : w1 q = some (cellT (va_up ad n q) n (laT (va_up ti n (frT d' (gsN ti (nI d') ch 0 + 1) fl' (nI t') v') n) (lf n))) := by have h9 := hM3.2.2.2.2.2.2.1 n (Nat.lt_succ_self n); rw [va_up_self] at h9; exact h9
    refine g_get C dX2_tell_40 hcq rfl kw_X1 0 (by decide) kfX2_55 rfl rfl ?_
    exact g_iret C hr dX2_tell_43 (by decide) (by decide) ⟨hok0, hok1, hok2, hok3, hn9, rfl, d', t', fl', v', hd', ht', hfl9, hv9, rfl, rfl, rfl, rfl, q, lf, hq, hM3, hfr⟩
  · refine g_bipush C (v := 32) dX2_tell_20 (by decide) ?_
    refine g_goto C 28 dX2_tell_22 (by decide) ?_
    have c17 : fl = 2 := c17
    refine g_callS C hnt _ dX2_tell_28 (c_X2_requireValue l G _ _ _) kmX2_48 ks_X2_requireValue kn_X2 kc_X2_requireValue hy_X2_requireValue ⟨by decide, by decide⟩ rfl (Nat.le_of_ble_eq_true rfl) ⟨by decide, by decide⟩ ⟨by decide, by decide⟩ (fun E hE => ⟨Or.inr (Or.inl ⟨hE.1, ⟨hok0, hok1, hok2⟩, fun h => hE.2 (by rw [vOk, if_pos c17] at h; exact h)⟩), rfl⟩) (fun v w1 hp => ?_)
    obtain ⟨rfl, hw1, hok3⟩ := hp
    have hw1 := hw1.symm
    subst hw1
    have hok3 : vOk fl v := by rw [vOk, if_pos c17]; exact hok3
    obtain ⟨d', hd', rfl⟩ := ok_nI (N := 6) (by decide) hok0.1 hok0.2
    obtain ⟨t', ht', rfl⟩ := ok_nI (N := 16) (by decide) hok1.1 hok1.2
    obtain ⟨fl', hfl9, rfl⟩ := nI_of hok2.1
    obtain ⟨v', hv9, rfl⟩ := nI_of hok3.1
    first | refine g_aload_n C dX2_tell_31 rfl rfl ?_ | refine g_aload_nN C dX2_tell_31 rfl rfl ?_ | refine g_aload_nq C dX2_tell_31 rfl rfl ?_
    refine g_iload_n C dX2_tell_32 rfl rfl ?_
    refine g_iload_n C dX2_tell_33 rfl rfl ?_
    refine g_iload_n C dX2_tell_34 rfl rfl ?_
    refine g_iload C dX2_tell_35 rfl ?_
    refine g_callV C hnt _ dX2_tell_37 (c_X2_enter l G _ _ _ _ _ _ _ _ _ _ _ _ _ _ hM d' fl' v' (nI t') hlb hnd) kmX2_51 ki_X2_enter kv_X2_enter kn_X2 kc_X2_enter hy_X2_enter ⟨by decide, by decide⟩ hx rfl rfl (Nat.le_of_ble_eq_true rfl) ⟨by decide, by decide⟩ ⟨by decide, by decide⟩ (fun E hE => ⟨Or.inr (Or.inr ⟨hE.1, ⟨hok0, hok1, hok2⟩, hok3, hE.2⟩), rfl⟩) (fun v w1 hp => ?_)
    obtain ⟨hn9, q, lf, rfl, hq, hM3, hfr⟩ := hp
    have hcq : w1 q = some (cellT (va_up ad n q) n (laT (va_up ti n (frT d' (gsN ti (nI d') ch 0 + 1) fl' (nI t') v') n) (lf n))) := by have h9 := hM3.2.2.2.2.2.2.1 n (Nat.lt_succ_self n); rw [va_up_self] at h9; exact h9
    refine g_get C dX2_tell_40 hcq rfl kw_X1 0 (by decide) kfX2_55 rfl rfl ?_
    exact g_iret C hr dX2_tell_43 (by decide) (by decide) ⟨hok0, hok1, hok2, hok3, hn9, rfl, d', t', fl', v', hd', ht', hfl9, hv9, rfl, rfl, rfl, rfl, q, lf, hq, hM3, hfr⟩

set_option maxHeartbeats 4000000 in
set_option maxRecDepth 100000 in
theorem c_X2_relate (l : Launch) (G : hD) (w : hW) (x tl rw ng cx un : Nat) (ad : Nat → Nat) (n : Nat) (ti : Nat → TI) (ch : List Nat) (rl : Nat → List Nat) (gv : Nat → Nat) (f : Nat → Int32) (hM : TM G x tl rw ng cx un ad n ti ch rl gv f w) (hlb : lnkB n ti) (hnd : ch.Nodup) (d p9 q9 : Int32) : h_Met l yX2_relate (Cond.code yX2_relate cX2_relate 4 (some .int)) { frames := 7, cells := 4, slots := 29, locals := 107 } G [.ref x, .int d, .int p9, .int q9] w (fun r w' => okD d ∧ okT p9 ∧ okT q9 ∧ ¬ p9 = q9 ∧ n < 120 ∧ r = some (.int (nI n)) ∧ ∃ d' a' b', d' < 6 ∧ a' < 16 ∧ b' < 16 ∧ d = nI d' ∧ p9 = nI a' ∧ q9 = nI b' ∧ ∃ q lf, EN G x tl rw ng cx un ad n ti ch rl gv f w (frT d' (gsN ti (nI d') ch 0 + 1) 5 (-1) (16 * a' + b')) q lf w') (exc3 (okD d ∧ okT p9 ∧ okT q9) (¬ p9 = q9) (n < 120)) := by
  refine h_met RX2 rfl (by decide) (Nat.le_of_ble_eq_true rfl) (cat_c (by first | rfl | exact rf_cat _) (cat_c (by first | rfl | exact rf_cat _) (cat_c (by first | rfl | exact rf_cat _) (cat_c (by first | rfl | exact rf_cat _) cat_n)))) ?_
  intro p e s m below meth c A C hnt hr hnm
  obtain ⟨hx, ⟨tf, htl, htf⟩, ⟨rf, hrw, hrf⟩, ⟨gf, hng, hgf⟩, hcx, hun, hT, hn, hch, hlk, hrl⟩ := id hM
  refine g_iload_n C dX2_relate_0 rfl rfl ?_
  refine g_callS C hnt _ dX2_relate_1 (c_X2_requireDesk l G _ _) kmX2_37 ks_X2_requireDesk kn_X2 kc_X2_requireDesk hy_X2_requireDesk ⟨by decide, by decide⟩ rfl (Nat.le_of_ble_eq_true rfl) ⟨by decide, by decide⟩ ⟨by decide, by decide⟩ (fun E hE => ⟨Or.inl ⟨hE.1, fun h => hE.2 h.1⟩, rfl⟩) (fun v w1 hp => ?_)
  obtain ⟨rfl, hw1, hok0⟩ := hp
  have hw1 := hw1.symm
  subst hw1
  refine g_iload_n C dX2_relate_4 rfl rfl ?_
  refine g_callS C hnt _ dX2_relate_5 (c_X2_requireContext l G _ _) kmX2_83 ks_X2_requireContext kn_X2 kc_X2_requireContext hy_X2_requireContext ⟨by decide, by decide⟩ rfl (Nat.le_of_ble_eq_true rfl) ⟨by decide, by decide⟩ ⟨by decide, by decide⟩ (fun E hE => ⟨Or.inl ⟨hE.1, fun h => hE.2 h.2.1⟩, rfl⟩) (fun v w1 hp => ?_)
  obtain ⟨rfl, hw1, hok1⟩ := hp
  have hw1 := hw1.symm
  subst hw1
  refine g_iload_n C dX2_relate_8 rfl rfl ?_
  refine g_callS C hnt _ dX2_relate_9 (c_X2_requireContext l G _ _) kmX2_83 ks_X2_requireContext kn_X2 kc_X2_requireContext hy_X2_requireContext ⟨by decide, by decide⟩ rfl (Nat.le_of_ble_eq_true rfl) ⟨by decide, by decide⟩ ⟨by decide, by decide⟩ (fun E hE => ⟨Or.inl ⟨hE.1, fun h => hE.2 h.2.2⟩, rfl⟩) (fun v w1 hp => ?_)
  obtain ⟨rfl, hw1, hok2⟩ := hp
  have hw1 := hw1.symm
  subst hw1
  refine g_iload_n C dX2_relate_12 rfl rfl ?_
  refine g_iload_n C dX2_relate_13 rfl rfl ?_
  refine g_icmp_ne C 27 dX2_relate_14 (by decide) (fun c14 => ?_) (fun c14 => ?_)
  · obtain ⟨d', hd', rfl⟩ := ok_nI (N := 6) (by decide) hok0.1 hok0.2
    obtain ⟨a', ha', rfl⟩ := ok_nI (N := 16) (by decide) hok1.1 hok1.2
    obtain ⟨b', hb', rfl⟩ := ok_nI (N := 16) (by decide) hok2.1 hok2.2
    first | refine g_aload_n C dX2_relate_27 rfl rfl ?_ | refine g_aload_nN C dX2_relate_27 rfl rfl ?_ | refine g_aload_nq C dX2_relate_27 rfl rfl ?_
    refine g_iload_n C dX2_relate_28 rfl rfl ?_
    refine g_iconst C (v := 5) dX2_relate_29 (by decide) ?_
    refine g_iconst C (v := (-1)) dX2_relate_30 (by decide) ?_
    refine g_bipush C (v := 16) dX2_relate_31 (by decide) ?_
    refine g_iload_n C dX2_relate_33 rfl rfl ?_
    refine g_imul C dX2_relate_34 ?_
    refine g_iload_n C dX2_relate_35 rfl rfl ?_
    refine g_iadd C dX2_relate_36 ?_
    refine g_eq (y := nI (16 * a' + b')) (by rw [show (16 : Int32) = nI 16 from rfl, pk_mul, nI_add]) ?_
    refine g_callV C hnt _ dX2_relate_37 (c_X2_enter l G _ _ _ _ _ _ _ _ _ _ _ _ _ _ hM d' 5 (16 * a' + b') (-1) hlb hnd) kmX2_51 ki_X2_enter kv_X2_enter kn_X2 kc_X2_enter hy_X2_enter ⟨by decide, by decide⟩ hx rfl rfl (Nat.le_of_ble_eq_true rfl) ⟨by decide, by decide⟩ ⟨by decide, by decide⟩ (fun E hE => ⟨Or.inr (Or.inr ⟨hE.1, ⟨hok0, hok1, hok2⟩, c14, hE.2⟩), rfl⟩) (fun v w1 hp => ?_)
    obtain ⟨hn9, q, lf, rfl, hq, hM3, hfr⟩ := hp
    have hcq : w1 q = some (cellT (va_up ad n q) n (laT (va_up ti n (frT d' (gsN ti (nI d') ch 0 + 1) 5 (-1) (16 * a' + b')) n) (lf n))) := by have h9 := hM3.2.2.2.2.2.2.1 n (Nat.lt_succ_self n); rw [va_up_self] at h9; exact h9
    refine g_get C dX2_relate_40 hcq rfl kw_X1 0 (by decide) kfX2_55 rfl rfl ?_
    exact g_iret C hr dX2_relate_43 (by decide) (by decide) ⟨hok0, hok1, hok2, c14, hn9, rfl, d', a', b', hd', ha', hb', rfl, rfl, rfl, q, lf, hq, hM3, hfr⟩
  · exact g_throw C hnt rfl dX2_relate_17 dX2_relate_20 dX2_relate_21 dX2_relate_23 dX2_relate_26 (by decide +kernel) klX2_68 kn_IllegalArgumentException (List.mem_of_getElem? (i := 10) rfl) ht_IA1 ht_IA2 ht_IA3 (by decide) (by decide) (by decide) (by decide) (by decide) (by decide) (Or.inr (Or.inl ⟨rfl, ⟨hok0, hok1, hok2⟩, fun h => h c14⟩)) rfl

