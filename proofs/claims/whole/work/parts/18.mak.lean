/-! ===== the model: what makes tellings, and short answers ===== -/
section gz
variable {p : Program} {l : Launch} {e : Env} {R : Room} {s : State} {m : MethodId} {args : Array Value} {below : List Frame} {meth : Method} {c : Code} {Q : State → Prop} {G : hD} {A : Nat → Prop} {cc : ByteArray} {nL : Nat} {own : String} {w : hW} {cells slots pc : Nat} {lv : List (Nat × Value)} {st : List Value}
theorem g_zastB (C : h_C p l s m args meth c G A cc nL own) (b : Bool) {a n k0 : Nat} {F : Nat → Bool} {x : Int32} (hd : decode cc pc = .ok (.bastore, 1)) (hw : w a = some (eZ G n (fun j => bI (F j)))) (hk : k0 < n) (hn : n < 2 ^ 31) (hx : bI b = x) (k : h_G p l e R s m args below meth c G A nL Q (h_up w a (eZ G n (fun j => bI (va_up F k0 b j)))) cells slots (pc + 1) lv st) : h_G p l e R s m args below meth c G A nL Q w cells slots pc lv (.int x :: .int (nI k0) :: .ref a :: st) := by
  subst hx
  refine g_zastN (b := b) C hd hw hk hn ?_
  rw [upd_bI]
  exact k
end gz
theorem nI_m1 (n : Nat) : nI (n + 1) - 1 = nI n := by rw [← nI_1, Int32.add_sub_cancel]
def gmS (I : Nat → Nat → Int32) (B : Nat → Nat → Bool) (d : Nat) (acc : Int32) (t : Nat) : Int32 := cond (B 7 (120 * d + t) && decide (acc < I 0 t)) (I 0 t) acc
def mkI (I : Nat → Nat → Int32) (n : Nat) (st d so th va be : Int32) : Nat → Nat → Int32 :=
  va_up (va_up (va_up (va_up (va_up (va_up I 0 (upd (I 0) n st)) 1 (upd (I 1) n d)) 2 (upd (I 2) n so)) 3 (upd (I 3) n th)) 4 (upd (I 4) n va)) 5 (upd (I 5) n be)
def mkB (B : Nat → Nat → Bool) (n d : Nat) : Nat → Nat → Bool := va_up B 7 (va_up (B 7) (120 * d + n) true)
/-- a public of the model ends: refused with a code and 0, or well -/
def mP (G : hD) (mo : Nat) (M : Nat → Nat) (n : Nat) (I : Nat → Nat → Int32) (B : Nat → Nat → Bool) (ord mny : Int32) (w : hW) (p1 p2 p3 : Bool) (K : Int32 → hW → Prop) (v : Option Value) (w' : hW) : Prop :=
  ((p1 && (p2 && p3)) = false ∧ v = some (.int 0) ∧ MR G mo M n I B (thC p1 p2 p3) ord mny w' ∧ fr (MD mo M) w w') ∨ ((p1 && (p2 && p3)) = true ∧ ∃ x, v = some (.int x) ∧ K x w')
/-- well, and nothing but 'thrown' has changed -/
def mS (G : hD) (mo : Nat) (M : Nat → Nat) (n : Nat) (I : Nat → Nat → Int32) (B : Nat → Nat → Bool) (ord mny : Int32) (w : hW) (z x : Int32) (w' : hW) : Prop := x = z ∧ MR G mo M n I B 0 ord mny w' ∧ fr (MD mo M) w w'
def mK (G : hD) (mo : Nat) (M : Nat → Nat) (n : Nat) (I : Nat → Nat → Int32) (B : Nat → Nat → Bool) (ord mny : Int32) (w : hW) (d : Nat) (so th va be x : Int32) (w' : hW) : Prop :=
  x = nI n ∧ MR G mo M (n + 1) (mkI I n (iter (gmS I B d) 0 n + 1) (nI d) so th va be) (mkB B n d) 0 ord mny w' ∧ fr (MD mo M) w w'
theorem MR.th {G : hD} {mo : Nat} {M : Nat → Nat} {n : Nat} {I : Nat → Nat → Int32} {B : Nat → Nat → Bool} {t1 t2 ord mny : Int32} {w : hW} (h : MR G mo M n I B t1 ord mny w) (e : t1 = t2) : MR G mo M n I B t2 ord mny w := e ▸ h
theorem thC_t {p q r : Bool} (h : (p && (q && r)) = true) : thC p q r = 0 := by cases p <;> cases q <;> cases r <;> simp_all [thC]

set_option maxHeartbeats 4000000 in
set_option maxRecDepth 100000 in
theorem c_X3_union (l : Launch) (G : hD) (w : hW) (mo : Nat) (M : Nat → Nat) (n : Nat) (I : Nat → Nat → Int32) (B : Nat → Nat → Bool) (thr ord mny : Int32) (hR : MR G mo M n I B thr ord mny w) (d : Nat) (th k : Int32) (hd : d < 6) : h_Met l yX3_union (Cond.code yX3_union cX3_union 8 (some .int)) { frames := 1, cells := 0, slots := 0, locals := 28 } G [.ref mo, .int (nI d), .int th, .int k] w (fun v w' => v = some (.int (unG (hsB I B n d th) k 32 0 0)) ∧ w' = w) noX := by
  refine h_met RX3 rfl (by decide) (Nat.le_of_ble_eq_true rfl) (cat_c (by first | rfl | exact rf_cat _) (cat_c (by first | rfl | exact rf_cat _) (cat_c (by first | rfl | exact rf_cat _) (cat_c (by first | rfl | exact rf_cat _) cat_n)))) ?_
  intro p e s m below meth c A C hnt hr hnm
  obtain ⟨hm, r0, r1, r2, r3, r4, r5, r6, r7, r8, r9, r10, r11, r12, hinj, hn⟩ := id hR
  refine g_iconst C (v := 0) dX3_union_0 (by decide) ?_
  refine g_istore C dX3_union_1 (by decide) ?_
  refine g_iconst C (v := 0) dX3_union_3 (by decide) ?_
  refine g_istore C dX3_union_4 (by decide) ?_
  refine g_loop (σ := Nat × Int32) (fun s => s.1 ≤ 32 ∧ unG (hsB I B n d th) k (32 - s.1) s.1 s.2 = unG (hsB I B n d th) k 32 0 0) (fun s => 32 - s.1) (fun _ => w) (fun s => [(0, .ref mo), (1, .int (nI d)), (2, .int th), (3, .int k), (4, .int s.2), (5, .int (nI s.1))]) ?_ (0, 0) ⟨by decide, rfl⟩
  rintro ⟨v, b⟩ ⟨hv, hun⟩ ih
  dsimp only at hv hun ih ⊢
  refine g_iload C dX3_union_6 rfl ?_
  refine g_bipush C (v := 32) dX3_union_8 (by decide) ?_
  refine g_icmp_ge C 106 dX3_union_10 (by decide) (fun c10 => ?_) (fun c10 => ?_)
  · obtain rfl : v = 32 := by have := (nI_leI (a := 32) (b := v) (by decide) (by omega)).mp c10; omega
    refine g_iconst C (v := (-1)) dX3_union_106 (by decide) ?_
    exact g_iret C hr dX3_union_107 (by decide) (by decide) ⟨by rw [← hun]; rfl, rfl⟩
  · have hv32 : v < 32 := nI_nge c10 (by omega) (by decide)
    refine g_iconst C (v := 0) dX3_union_13 (by decide) ?_
    refine g_istore C dX3_union_14 (by decide) ?_
    refine g_iconst C (v := 0) dX3_union_16 (by decide) ?_
    refine g_istore C dX3_union_17 (by decide) ?_
    refine g_loop (σ := Nat) (fun j => j ≤ n) (fun j => n - j) (fun j => w) (fun j => [(0, .ref mo), (1, .int (nI d)), (2, .int th), (3, .int k), (4, .int b), (5, .int (nI v)), (6, .int (bI (iter (hsS I B d th v) false j))), (7, .int (nI j))]) ?_ 0 (Nat.zero_le _)
    intro j hkj ihj
    (try dsimp only at ihj ⊢)
    cases hac : iter (hsS I B d th v) false j with
    | true =>
      refine g_iload C dX3_union_19 rfl ?_
      first | refine g_aload_n C dX3_union_21 rfl rfl ?_ | refine g_aload_nN C dX3_union_21 rfl rfl ?_ | refine g_aload_nq C dX3_union_21 rfl rfl ?_
      refine g_get C dX3_union_22 hm rfl kw_X3 1 (by decide) kfX3_58 rfl rfl ?_
      refine g_icmp_ge C 70 dX3_union_25 (by decide) (fun c25 => ?_) (fun c25 => ?_)
      · have hkn : n = j := by have := (nI_leI (a := n) (b := j) (by omega) (by omega)).mp c25; omega
        subst hkn
        have hac0 : (hsB I B n d th) v = _ := hac
        refine g_iload C dX3_union_70 rfl ?_
        refine g_if_eq C 84 dX3_union_72 (by decide) (fun c72 => absurd c72 (by decide)) (fun _ => ?_)
        refine g_iload C dX3_union_75 rfl ?_
        refine g_iload_n C dX3_union_77 rfl rfl ?_
        refine g_icmp_ne C 84 dX3_union_78 (by decide) (fun c78 => ?_) (fun c78 => ?_)
        · refine g_iload C dX3_union_84 rfl ?_
          refine g_if_eq C 96 dX3_union_86 (by decide) (fun c86 => absurd c86 (by decide)) (fun _ => ?_)
          refine g_iload C dX3_union_89 rfl ?_
          refine g_iconst C (v := 1) dX3_union_91 (by decide) ?_
          refine g_iadd C dX3_union_92 ?_
          refine g_goto C 98 dX3_union_93 (by decide) ?_
          refine g_istore C dX3_union_98 (by decide) ?_
          refine g_iinc C (v := nI (v + 1)) dX3_union_100 rfl (nI_1 v) (by decide) ?_
          refine g_goto C 6 dX3_union_103 (by decide) ?_
          refine g_drop [(0, .ref mo), (1, .int (nI d)), (2, .int th), (3, .int k), (4, .int (b + 1)), (5, .int (nI (v + 1)))] _ rfl ?_
          refine ih ((v + 1), (b + 1)) ⟨hv32, ?_⟩ (by dsimp only; omega)
          rw [← hun]
          obtain ⟨q9, hq9⟩ : ∃ q9, 32 - v = q9 + 1 := ⟨31 - v, by omega⟩
          dsimp only
          rw [hq9, show 32 - (v + 1) = q9 by omega]
          show _ = cond ((hsB I B n d th) v && decide (b = k)) (nI v) (unG (hsB I B n d th) k q9 (v + 1) (cond ((hsB I B n d th) v) (b + 1) b))
          simp [hac0, c78]
        · refine g_iload C dX3_union_81 rfl ?_
          obtain ⟨q9, hq9⟩ : ∃ q9, 32 - v = q9 + 1 := ⟨31 - v, by omega⟩
          rw [hq9] at hun
          have hun : cond ((hsB I B n d th) v && decide (b = k)) (nI v) (unG (hsB I B n d th) k q9 (v + 1) (cond ((hsB I B n d th) v) (b + 1) b)) = _ := hun
          exact g_iret C hr dX3_union_83 (by decide) (by decide) ⟨by rw [← hun]; simp [hac0, c78], rfl⟩
      · have hlt : j < n := nI_nge c25 (by omega) (by omega)
        refine g_iload C dX3_union_28 rfl ?_
        refine g_if_ne C 57 dX3_union_30 (by decide) (fun _ => ?_) (fun c30 => absurd c30 (by decide))
        refine g_iconst C (v := 1) dX3_union_57 (by decide) ?_
        refine g_goto C 62 dX3_union_58 (by decide) ?_
        refine g_istore C dX3_union_62 (by decide) ?_
        refine g_iinc C (v := nI (j + 1)) dX3_union_64 rfl (nI_1 j) (by decide) ?_
        refine g_goto C 19 dX3_union_67 (by decide) ?_
        have hs := ihj (j + 1) hlt (by omega)
        (try dsimp only at hs)
        have e9 : iter (hsS I B d th v) false (j + 1) = true := by show (hsS I B d th v) (iter (hsS I B d th v) false j) j = _; rw [hac]; simp [hsS, c25]
        rw [e9] at hs
        exact hs
    | false =>
      refine g_iload C dX3_union_19 rfl ?_
      first | refine g_aload_n C dX3_union_21 rfl rfl ?_ | refine g_aload_nN C dX3_union_21 rfl rfl ?_ | refine g_aload_nq C dX3_union_21 rfl rfl ?_
      refine g_get C dX3_union_22 hm rfl kw_X3 1 (by decide) kfX3_58 rfl rfl ?_
      refine g_icmp_ge C 70 dX3_union_25 (by decide) (fun c25 => ?_) (fun c25 => ?_)
      · have hkn : n = j := by have := (nI_leI (a := n) (b := j) (by omega) (by omega)).mp c25; omega
        subst hkn
        have hac0 : (hsB I B n d th) v = _ := hac
        refine g_iload C dX3_union_70 rfl ?_
        refine g_if_eq C 84 dX3_union_72 (by decide) (fun _ => ?_) (fun c72 => absurd (rfl) c72)
        refine g_iload C dX3_union_84 rfl ?_
        refine g_if_eq C 96 dX3_union_86 (by decide) (fun _ => ?_) (fun c86 => absurd (rfl) c86)
        refine g_iload C dX3_union_96 rfl ?_
        refine g_istore C dX3_union_98 (by decide) ?_
        refine g_iinc C (v := nI (v + 1)) dX3_union_100 rfl (nI_1 v) (by decide) ?_
        refine g_goto C 6 dX3_union_103 (by decide) ?_
        refine g_drop [(0, .ref mo), (1, .int (nI d)), (2, .int th), (3, .int k), (4, .int (b)), (5, .int (nI (v + 1)))] _ rfl ?_
        refine ih ((v + 1), (b)) ⟨hv32, ?_⟩ (by dsimp only; omega)
        rw [← hun]
        obtain ⟨q9, hq9⟩ : ∃ q9, 32 - v = q9 + 1 := ⟨31 - v, by omega⟩
        dsimp only
        rw [hq9, show 32 - (v + 1) = q9 by omega]
        show _ = cond ((hsB I B n d th) v && decide (b = k)) (nI v) (unG (hsB I B n d th) k q9 (v + 1) (cond ((hsB I B n d th) v) (b + 1) b))
        simp [hac0]
      · have hlt : j < n := nI_nge c25 (by omega) (by omega)
        refine g_iload C dX3_union_28 rfl ?_
        refine g_if_ne C 57 dX3_union_30 (by decide) (fun c30 => absurd (rfl) c30) (fun _ => ?_)
        first | refine g_aload_n C dX3_union_33 rfl rfl ?_ | refine g_aload_nN C dX3_union_33 rfl rfl ?_ | refine g_aload_nq C dX3_union_33 rfl rfl ?_
        refine g_iload_n C dX3_union_34 rfl rfl ?_
        refine g_iload C dX3_union_35 rfl ?_
        refine g_iload_n C dX3_union_37 rfl rfl ?_
        refine g_iconst C (v := 2) dX3_union_38 (by decide) ?_
        refine g_callVn C _ dX3_union_39 (c_X3_isOf l G _ _ _ _ _ _ _ _ _ hR _ j _ _ (by omega) (by omega)) kmX3_79 ki_X3_isOf kv_X3_isOf kn_X3 kc_X3_isOf hy_X3_isOf ⟨by decide, by decide⟩ hm rfl rfl (Nat.le_of_ble_eq_true rfl) ⟨by decide, by decide⟩ (fun v w1 hp => ?_)
        obtain ⟨rfl, hw1⟩ := hp
        have hw1 := hw1.symm
        subst hw1
        refine g_if_eq C 61 dX3_union_42 (by decide) (fun c42 => ?_) (fun c42 => ?_)
        · have c42 := bI_z.mp c42
          refine g_iconst C (v := 0) dX3_union_61 (by decide) ?_
          refine g_istore C dX3_union_62 (by decide) ?_
          refine g_iinc C (v := nI (j + 1)) dX3_union_64 rfl (nI_1 j) (by decide) ?_
          refine g_goto C 19 dX3_union_67 (by decide) ?_
          have hs := ihj (j + 1) hlt (by omega)
          (try dsimp only at hs)
          have e9 : iter (hsS I B d th v) false (j + 1) = false := by show (hsS I B d th v) (iter (hsS I B d th v) false j) j = _; rw [hac]; simp [hsS, c25, c42]
          rw [e9] at hs
          exact hs
        · have c42 := bI_nz.mp c42
          first | refine g_aload_n C dX3_union_45 rfl rfl ?_ | refine g_aload_nN C dX3_union_45 rfl rfl ?_ | refine g_aload_nq C dX3_union_45 rfl rfl ?_
          refine g_get C dX3_union_46 hm rfl kw_X3 6 (by decide) kfX3_22 rfl rfl ?_
          refine g_iload C dX3_union_49 rfl ?_
          refine g_ialdN C dX3_union_51 r4 (by omega) (by decide) ?_
          refine g_iload C dX3_union_52 rfl ?_
          refine g_icmp_ne C 61 dX3_union_54 (by decide) (fun c54 => ?_) (fun c54 => ?_)
          · refine g_iconst C (v := 0) dX3_union_61 (by decide) ?_
            refine g_istore C dX3_union_62 (by decide) ?_
            refine g_iinc C (v := nI (j + 1)) dX3_union_64 rfl (nI_1 j) (by decide) ?_
            refine g_goto C 19 dX3_union_67 (by decide) ?_
            have hs := ihj (j + 1) hlt (by omega)
            (try dsimp only at hs)
            have e9 : iter (hsS I B d th v) false (j + 1) = false := by show (hsS I B d th v) (iter (hsS I B d th v) false j) j = _; rw [hac]; simp [hsS, c25, c42, c54]
            rw [e9] at hs
            exact hs
          · refine g_iconst C (v := 1) dX3_union_57 (by decide) ?_
            refine g_goto C 62 dX3_union_58 (by decide) ?_
            refine g_istore C dX3_union_62 (by decide) ?_
            refine g_iinc C (v := nI (j + 1)) dX3_union_64 rfl (nI_1 j) (by decide) ?_
            refine g_goto C 19 dX3_union_67 (by decide) ?_
            have hs := ihj (j + 1) hlt (by omega)
            (try dsimp only at hs)
            have e9 : iter (hsS I B d th v) false (j + 1) = true := by show (hsS I B d th v) (iter (hsS I B d th v) false j) j = _; rw [hac]; simp [hsS, c25, c42, c54]
            rw [e9] at hs
            exact hs

set_option maxHeartbeats 4000000 in
set_option maxRecDepth 100000 in
theorem c_X3_make (l : Launch) (G : hD) (w : hW) (mo : Nat) (M : Nat → Nat) (n : Nat) (I : Nat → Nat → Int32) (B : Nat → Nat → Bool) (thr ord mny : Int32) (hR : MR G mo M n I B thr ord mny w) (d : Nat) (hd : d < 6) (so th va be : Int32) (hn1 : n + 1 ≤ 120) : h_Met l yX3_make (Cond.code yX3_make cX3_make 8 (some .int)) { frames := 0, cells := 0, slots := 0, locals := 0 } G [.ref mo, .int (nI d), .int so, .int th, .int va, .int be] w (fun v w' => v = some (.int (nI n)) ∧ MR G mo M (n + 1) (mkI I n (iter (gmS I B d) 0 n + 1) (nI d) so th va be) (mkB B n d) thr ord mny w' ∧ fr (MD mo M) w w') noX := by
  refine h_met RX3 rfl (by decide) (Nat.le_of_ble_eq_true rfl) (cat_c (by first | rfl | exact rf_cat _) (cat_c (by first | rfl | exact rf_cat _) (cat_c (by first | rfl | exact rf_cat _) (cat_c (by first | rfl | exact rf_cat _) (cat_c (by first | rfl | exact rf_cat _) (cat_c (by first | rfl | exact rf_cat _) cat_n)))))) ?_
  intro p e s m below meth c A C hnt hr hnm
  obtain ⟨hm, r0, r1, r2, r3, r4, r5, r6, r7, r8, r9, r10, r11, r12, hinj, hn⟩ := id hR
  refine g_iconst C (v := 0) dX3_make_0 (by decide) ?_
  refine g_istore C dX3_make_1 (by decide) ?_
  refine g_iconst C (v := 0) dX3_make_3 (by decide) ?_
  refine g_istore C dX3_make_4 (by decide) ?_
  refine g_loop (σ := Nat) (fun k => k ≤ n) (fun k => n - k) (fun k => w) (fun k => [(0, .ref mo), (1, .int (nI d)), (2, .int so), (3, .int th), (4, .int va), (5, .int be), (6, .int (iter (gmS I B d) 0 k)), (7, .int (nI k))]) ?_ 0 (Nat.zero_le _)
  intro k hkk ihk
  (try dsimp only at ihk ⊢)
  refine g_iload C dX3_make_6 rfl ?_
  first | refine g_aload_n C dX3_make_8 rfl rfl ?_ | refine g_aload_nN C dX3_make_8 rfl rfl ?_ | refine g_aload_nq C dX3_make_8 rfl rfl ?_
  refine g_get C dX3_make_9 hm rfl kw_X3 1 (by decide) kfX3_58 rfl rfl ?_
  refine g_icmp_ge C 62 dX3_make_12 (by decide) (fun c12 => ?_) (fun c12 => ?_)
  · have hkn : n = k := by have := (nI_leI (a := n) (b := k) (by omega) (by omega)).mp c12; omega
    subst hkn
    first | refine g_aload_n C dX3_make_62 rfl rfl ?_ | refine g_aload_nN C dX3_make_62 rfl rfl ?_ | refine g_aload_nq C dX3_make_62 rfl rfl ?_
    refine g_get C dX3_make_63 hm rfl kw_X3 2 (by decide) kfX3_7 rfl rfl ?_
    first | refine g_aload_n C dX3_make_66 rfl rfl ?_ | refine g_aload_nN C dX3_make_66 rfl rfl ?_ | refine g_aload_nq C dX3_make_66 rfl rfl ?_
    refine g_get C dX3_make_67 hm rfl kw_X3 1 (by decide) kfX3_58 rfl rfl ?_
    refine g_iload C dX3_make_70 rfl ?_
    refine g_iconst C (v := 1) dX3_make_72 (by decide) ?_
    refine g_iadd C dX3_make_73 ?_
    refine g_iastN C dX3_make_74 r0 (by omega) (by decide) ?_
    have hR := hR.up0 (upd (I 0) n (iter (gmS I B d) 0 n + 1))
    obtain ⟨hm, r0, r1, r2, r3, r4, r5, r6, r7, r8, r9, r10, r11, r12, hinj, hn⟩ := id hR
    first | refine g_aload_n C dX3_make_75 rfl rfl ?_ | refine g_aload_nN C dX3_make_75 rfl rfl ?_ | refine g_aload_nq C dX3_make_75 rfl rfl ?_
    refine g_get C dX3_make_76 hm rfl kw_X3 3 (by decide) kfX3_13 rfl rfl ?_
    first | refine g_aload_n C dX3_make_79 rfl rfl ?_ | refine g_aload_nN C dX3_make_79 rfl rfl ?_ | refine g_aload_nq C dX3_make_79 rfl rfl ?_
    refine g_get C dX3_make_80 hm rfl kw_X3 1 (by decide) kfX3_58 rfl rfl ?_
    refine g_iload_n C dX3_make_83 rfl rfl ?_
    refine g_iastN C dX3_make_84 r1 (by omega) (by decide) ?_
    have hR := hR.up1 (upd (I 1) n (nI d))
    obtain ⟨hm, r0, r1, r2, r3, r4, r5, r6, r7, r8, r9, r10, r11, r12, hinj, hn⟩ := id hR
    first | refine g_aload_n C dX3_make_85 rfl rfl ?_ | refine g_aload_nN C dX3_make_85 rfl rfl ?_ | refine g_aload_nq C dX3_make_85 rfl rfl ?_
    refine g_get C dX3_make_86 hm rfl kw_X3 4 (by decide) kfX3_16 rfl rfl ?_
    first | refine g_aload_n C dX3_make_89 rfl rfl ?_ | refine g_aload_nN C dX3_make_89 rfl rfl ?_ | refine g_aload_nq C dX3_make_89 rfl rfl ?_
    refine g_get C dX3_make_90 hm rfl kw_X3 1 (by decide) kfX3_58 rfl rfl ?_
    refine g_iload_n C dX3_make_93 rfl rfl ?_
    refine g_iastN C dX3_make_94 r2 (by omega) (by decide) ?_
    have hR := hR.up2 (upd (I 2) n (so))
    obtain ⟨hm, r0, r1, r2, r3, r4, r5, r6, r7, r8, r9, r10, r11, r12, hinj, hn⟩ := id hR
    first | refine g_aload_n C dX3_make_95 rfl rfl ?_ | refine g_aload_nN C dX3_make_95 rfl rfl ?_ | refine g_aload_nq C dX3_make_95 rfl rfl ?_
    refine g_get C dX3_make_96 hm rfl kw_X3 5 (by decide) kfX3_19 rfl rfl ?_
    first | refine g_aload_n C dX3_make_99 rfl rfl ?_ | refine g_aload_nN C dX3_make_99 rfl rfl ?_ | refine g_aload_nq C dX3_make_99 rfl rfl ?_
    refine g_get C dX3_make_100 hm rfl kw_X3 1 (by decide) kfX3_58 rfl rfl ?_
    refine g_iload_n C dX3_make_103 rfl rfl ?_
    refine g_iastN C dX3_make_104 r3 (by omega) (by decide) ?_
    have hR := hR.up3 (upd (I 3) n (th))
    obtain ⟨hm, r0, r1, r2, r3, r4, r5, r6, r7, r8, r9, r10, r11, r12, hinj, hn⟩ := id hR
    first | refine g_aload_n C dX3_make_105 rfl rfl ?_ | refine g_aload_nN C dX3_make_105 rfl rfl ?_ | refine g_aload_nq C dX3_make_105 rfl rfl ?_
    refine g_get C dX3_make_106 hm rfl kw_X3 6 (by decide) kfX3_22 rfl rfl ?_
    first | refine g_aload_n C dX3_make_109 rfl rfl ?_ | refine g_aload_nN C dX3_make_109 rfl rfl ?_ | refine g_aload_nq C dX3_make_109 rfl rfl ?_
    refine g_get C dX3_make_110 hm rfl kw_X3 1 (by decide) kfX3_58 rfl rfl ?_
    refine g_iload C dX3_make_113 rfl ?_
    refine g_iastN C dX3_make_115 r4 (by omega) (by decide) ?_
    have hR := hR.up4 (upd (I 4) n (va))
    obtain ⟨hm, r0, r1, r2, r3, r4, r5, r6, r7, r8, r9, r10, r11, r12, hinj, hn⟩ := id hR
    first | refine g_aload_n C dX3_make_116 rfl rfl ?_ | refine g_aload_nN C dX3_make_116 rfl rfl ?_ | refine g_aload_nq C dX3_make_116 rfl rfl ?_
    refine g_get C dX3_make_117 hm rfl kw_X3 7 (by decide) kfX3_25 rfl rfl ?_
    first | refine g_aload_n C dX3_make_120 rfl rfl ?_ | refine g_aload_nN C dX3_make_120 rfl rfl ?_ | refine g_aload_nq C dX3_make_120 rfl rfl ?_
    refine g_get C dX3_make_121 hm rfl kw_X3 1 (by decide) kfX3_58 rfl rfl ?_
    refine g_iload C dX3_make_124 rfl ?_
    refine g_iastN C dX3_make_126 r5 (by omega) (by decide) ?_
    have hR := hR.up5 (upd (I 5) n (be))
    obtain ⟨hm, r0, r1, r2, r3, r4, r5, r6, r7, r8, r9, r10, r11, r12, hinj, hn⟩ := id hR
    first | refine g_aload_n C dX3_make_127 rfl rfl ?_ | refine g_aload_nN C dX3_make_127 rfl rfl ?_ | refine g_aload_nq C dX3_make_127 rfl rfl ?_
    refine g_get C dX3_make_128 hm rfl kw_X3 9 (by decide) kfX3_32 rfl rfl ?_
    refine g_bipush C (v := 120) dX3_make_131 (by decide) ?_
    refine g_iload_n C dX3_make_133 rfl rfl ?_
    refine g_imul C dX3_make_134 ?_
    first | refine g_aload_n C dX3_make_135 rfl rfl ?_ | refine g_aload_nN C dX3_make_135 rfl rfl ?_ | refine g_aload_nq C dX3_make_135 rfl rfl ?_
    refine g_get C dX3_make_136 hm rfl kw_X3 1 (by decide) kfX3_58 rfl rfl ?_
    refine g_iadd C dX3_make_139 ?_
    refine g_eq (ix120 d n) ?_
    refine g_iconst C (v := 1) dX3_make_140 (by decide) ?_
    refine g_zastB C (true) dX3_make_141 r7 (by omega) (by decide) (rfl) ?_
    have hR := hR.up7 (va_up (B 7) (120 * d + n) true)
    obtain ⟨hm, r0, r1, r2, r3, r4, r5, r6, r7, r8, r9, r10, r11, r12, hinj, hn⟩ := id hR
    first | refine g_aload_n C dX3_make_142 rfl rfl ?_ | refine g_aload_nN C dX3_make_142 rfl rfl ?_ | refine g_aload_nq C dX3_make_142 rfl rfl ?_
    refine g_dup C dX3_make_143 rfl ?_
    refine g_get C dX3_make_144 hm rfl kw_X3 1 (by decide) kfX3_58 rfl rfl ?_
    refine g_iconst C (v := 1) dX3_make_147 (by decide) ?_
    refine g_iadd C dX3_make_148 ?_
    refine g_eq (nI_1 n) ?_
    refine g_put C dX3_make_149 hm rfl kw_X3 tyX3 tyX3_ok nmX3 1 (by decide) kfX3_58 rfl rfl rfl rfl (Nat.le_of_ble_eq_true rfl) ?_
    have hR := hR.upM (n' := n + 1) thr ord mny hn1
    obtain ⟨hm, r0, r1, r2, r3, r4, r5, r6, r7, r8, r9, r10, r11, r12, hinj, hn⟩ := id hR
    first | refine g_aload_n C dX3_make_152 rfl rfl ?_ | refine g_aload_nN C dX3_make_152 rfl rfl ?_ | refine g_aload_nq C dX3_make_152 rfl rfl ?_
    refine g_get C dX3_make_153 hm rfl kw_X3 1 (by decide) kfX3_58 rfl rfl ?_
    refine g_iconst C (v := 1) dX3_make_156 (by decide) ?_
    refine g_isub C dX3_make_157 ?_
    refine g_eq (nI_m1 n) ?_
    exact g_iret C hr dX3_make_158 (by decide) (by decide) ⟨rfl, hR, (((((((fr.rf.up (MD.a 0 (by decide))).up (MD.a 1 (by decide))).up (MD.a 2 (by decide))).up (MD.a 3 (by decide))).up (MD.a 4 (by decide))).up (MD.a 5 (by decide))).up (MD.a 7 (by decide))).up MD.m⟩
  · have hlt : k < n := nI_nge c12 (by omega) (by omega)
    first | refine g_aload_n C dX3_make_15 rfl rfl ?_ | refine g_aload_nN C dX3_make_15 rfl rfl ?_ | refine g_aload_nq C dX3_make_15 rfl rfl ?_
    refine g_get C dX3_make_16 hm rfl kw_X3 9 (by decide) kfX3_32 rfl rfl ?_
    refine g_bipush C (v := 120) dX3_make_19 (by decide) ?_
    refine g_iload_n C dX3_make_21 rfl rfl ?_
    refine g_imul C dX3_make_22 ?_
    refine g_iload C dX3_make_23 rfl ?_
    refine g_iadd C dX3_make_25 ?_
    refine g_eq (ix120 d k) ?_
    refine g_zaldN C dX3_make_26 r7 (by omega) (by decide) ?_
    refine g_if_eq C 52 dX3_make_27 (by decide) (fun c27 => ?_) (fun c27 => ?_)
    · have c27 := bI_z.mp c27
      refine g_iload C dX3_make_52 rfl ?_
      refine g_istore C dX3_make_54 (by decide) ?_
      refine g_iinc C (v := nI (k + 1)) dX3_make_56 rfl (nI_1 k) (by decide) ?_
      refine g_goto C 6 dX3_make_59 (by decide) ?_
      have hs := ihk (k + 1) hlt (by omega)
      (try dsimp only at hs)
      have e9 : iter (gmS I B d) 0 (k + 1) = (iter (gmS I B d) 0 k) := by show (gmS I B d) (iter (gmS I B d) 0 k) k = _; simp [gmS, c12, c27]
      rw [e9] at hs
      exact hs
    · have c27 := bI_nz.mp c27
      first | refine g_aload_n C dX3_make_30 rfl rfl ?_ | refine g_aload_nN C dX3_make_30 rfl rfl ?_ | refine g_aload_nq C dX3_make_30 rfl rfl ?_
      refine g_get C dX3_make_31 hm rfl kw_X3 2 (by decide) kfX3_7 rfl rfl ?_
      refine g_iload C dX3_make_34 rfl ?_
      refine g_ialdN C dX3_make_36 r0 (by omega) (by decide) ?_
      refine g_iload C dX3_make_37 rfl ?_
      refine g_icmp_le C 52 dX3_make_39 (by decide) (fun c39 => ?_) (fun c39 => ?_)
      · have c39 := Int32.not_lt.mpr c39
        refine g_iload C dX3_make_52 rfl ?_
        refine g_istore C dX3_make_54 (by decide) ?_
        refine g_iinc C (v := nI (k + 1)) dX3_make_56 rfl (nI_1 k) (by decide) ?_
        refine g_goto C 6 dX3_make_59 (by decide) ?_
        have hs := ihk (k + 1) hlt (by omega)
        (try dsimp only at hs)
        have e9 : iter (gmS I B d) 0 (k + 1) = (iter (gmS I B d) 0 k) := by show (gmS I B d) (iter (gmS I B d) 0 k) k = _; simp [gmS, c12, c27, c39]
        rw [e9] at hs
        exact hs
      · have c39 := Int32.not_le.mp c39
        first | refine g_aload_n C dX3_make_42 rfl rfl ?_ | refine g_aload_nN C dX3_make_42 rfl rfl ?_ | refine g_aload_nq C dX3_make_42 rfl rfl ?_
        refine g_get C dX3_make_43 hm rfl kw_X3 2 (by decide) kfX3_7 rfl rfl ?_
        refine g_iload C dX3_make_46 rfl ?_
        refine g_ialdN C dX3_make_48 r0 (by omega) (by decide) ?_
        refine g_goto C 54 dX3_make_49 (by decide) ?_
        refine g_istore C dX3_make_54 (by decide) ?_
        refine g_iinc C (v := nI (k + 1)) dX3_make_56 rfl (nI_1 k) (by decide) ?_
        refine g_goto C 6 dX3_make_59 (by decide) ?_
        have hs := ihk (k + 1) hlt (by omega)
        (try dsimp only at hs)
        have e9 : iter (gmS I B d) 0 (k + 1) = (I 0 k) := by show (gmS I B d) (iter (gmS I B d) 0 k) k = _; simp [gmS, c12, c27, c39]
        rw [e9] at hs
        exact hs

set_option maxHeartbeats 4000000 in
set_option maxRecDepth 100000 in
theorem c_X3_tell (l : Launch) (G : hD) (w : hW) (mo : Nat) (M : Nat → Nat) (n : Nat) (I : Nat → Nat → Int32) (B : Nat → Nat → Bool) (thr ord mny : Int32) (hR : MR G mo M n I B thr ord mny w) (d th fl v : Int32) : h_Met l yX3_tell (Cond.code yX3_tell cX3_tell 5 (some .int)) { frames := 2, cells := 0, slots := 0, locals := 60 } G [.ref mo, .int d, .int th, .int fl, .int v] w (mP G mo M n I B ord mny w (isDk d && (isTh th && wiB fl 0 2)) (wiB v 0 (if fl = 2 then 31 else 999)) (decide (n < 120)) (fun x w' => ∃ d', d' < 6 ∧ d = nI d' ∧ mK G mo M n I B ord mny w d' fl th v (-1) x w')) noX := by
  refine h_met RX3 rfl (by decide) (Nat.le_of_ble_eq_true rfl) (cat_c (by first | rfl | exact rf_cat _) (cat_c (by first | rfl | exact rf_cat _) (cat_c (by first | rfl | exact rf_cat _) (cat_c (by first | rfl | exact rf_cat _) (cat_c (by first | rfl | exact rf_cat _) cat_n))))) ?_
  intro p e s m below meth c A C hnt hr hnm
  obtain ⟨hm, r0, r1, r2, r3, r4, r5, r6, r7, r8, r9, r10, r11, r12, hinj, hn⟩ := id hR
  first | refine g_aload_n C dX3_tell_0 rfl rfl ?_ | refine g_aload_nN C dX3_tell_0 rfl rfl ?_ | refine g_aload_nq C dX3_tell_0 rfl rfl ?_
  refine g_iload_n C dX3_tell_1 rfl rfl ?_
  refine g_callSn C _ dX3_tell_2 (c_X3_isDesk l G _ _) kmX3_54 ks_X3_isDesk kn_X3 kc_X3_isDesk hy_X3_isDesk ⟨by decide, by decide⟩ rfl (Nat.le_of_ble_eq_true rfl) ⟨by decide, by decide⟩ (fun v w1 hp => ?_)
  obtain ⟨rfl, hw1⟩ := hp
  have hw1 := hw1.symm
  subst hw1
  refine g_if_eq C 28 dX3_tell_5 (by decide) (fun c5 => ?_) (fun c5 => ?_)
  · have c5 := bI_z.mp c5
    refine g_iconst C (v := 0) dX3_tell_28 (by decide) ?_
    refine g_iload C dX3_tell_29 rfl ?_
    refine g_iconst C (v := 0) dX3_tell_31 (by decide) ?_
    refine g_iload_n C dX3_tell_32 rfl rfl ?_
    refine g_iconst C (v := 2) dX3_tell_33 (by decide) ?_
    refine g_icmp_ne C 42 dX3_tell_34 (by decide) (fun c34 => ?_) (fun c34 => ?_)
    · refine g_sipush C (v := 999) dX3_tell_42 (by decide) ?_
      refine g_callSn C _ dX3_tell_45 (c_X3_within l G _ _ _ _) kmX3_64 ks_X3_within kn_X3 kc_X3_within hy_X3_within ⟨by decide, by decide⟩ rfl (Nat.le_of_ble_eq_true rfl) ⟨by decide, by decide⟩ (fun v w1 hp => ?_)
      obtain ⟨rfl, hw1⟩ := hp
      have hw1 := hw1.symm
      subst hw1
      first | refine g_aload_n C dX3_tell_48 rfl rfl ?_ | refine g_aload_nN C dX3_tell_48 rfl rfl ?_ | refine g_aload_nq C dX3_tell_48 rfl rfl ?_
      refine g_get C dX3_tell_49 hm rfl kw_X3 1 (by decide) kfX3_58 rfl rfl ?_
      refine g_bipush C (v := 120) dX3_tell_52 (by decide) ?_
      refine g_icmp_ge C 61 dX3_tell_54 (by decide) (fun c54 => ?_) (fun c54 => ?_)
      · have c54 : ¬ n < 120 := by have := (nI_leI (a := 120) (b := n) (by decide) (by omega)).mp c54; omega
        refine g_iconst C (v := 0) dX3_tell_61 (by decide) ?_
        refine g_callVn C _ dX3_tell_62 (c_X3_goes l G _ _ _ _ _ _ _ _ _ hR (false) (wiB v 0 999) (false)) kmX3_68 ki_X3_goes kv_X3_goes kn_X3 kc_X3_goes hy_X3_goes ⟨by decide, by decide⟩ hm rfl rfl (Nat.le_of_ble_eq_true rfl) ⟨by decide, by decide⟩ (fun v w1 hp => ?_)
        obtain ⟨rfl, hw1⟩ := hp
        have hw1 := hw1.symm
        subst hw1
        have hR := hR.upM (thC (false) (wiB v 0 999) (false)) ord mny hn
        obtain ⟨hm, r0, r1, r2, r3, r4, r5, r6, r7, r8, r9, r10, r11, r12, hinj, hn⟩ := id hR
        have hf1 : fr (MD mo M) w _ := fr.rf.up (b := mo) (e := cellM M (thC (false) (wiB v 0 999) (false)) n ord mny) MD.m
        refine g_if_ne C 70 dX3_tell_65 (by decide) (fun c65 => absurd (by simp [bI]) c65) (fun _ => ?_)
        refine g_iconst C (v := 0) dX3_tell_68 (by decide) ?_
        have hp1 : (isDk d && (isTh th && wiB fl 0 2)) = (false) := by first | rfl | simp [c5]
        have hp2 : (wiB v 0 (if fl = 2 then 31 else 999)) = (wiB v 0 999) := by first | rfl | simp [c34]
        have hp3 : (decide (n < 120)) = (false) := by first | rfl | simp [c54]
        refine g_iret C hr dX3_tell_69 (by decide) (by decide) ?_
        rw [hp3, hp2, hp1]
        exact Or.inl ⟨by simp, rfl, hR, hf1⟩
      · have c54 : n < 120 := nI_nge c54 (by omega) (by decide)
        refine g_iconst C (v := 1) dX3_tell_57 (by decide) ?_
        refine g_goto C 62 dX3_tell_58 (by decide) ?_
        refine g_callVn C _ dX3_tell_62 (c_X3_goes l G _ _ _ _ _ _ _ _ _ hR (false) (wiB v 0 999) (true)) kmX3_68 ki_X3_goes kv_X3_goes kn_X3 kc_X3_goes hy_X3_goes ⟨by decide, by decide⟩ hm rfl rfl (Nat.le_of_ble_eq_true rfl) ⟨by decide, by decide⟩ (fun v w1 hp => ?_)
        obtain ⟨rfl, hw1⟩ := hp
        have hw1 := hw1.symm
        subst hw1
        have hR := hR.upM (thC (false) (wiB v 0 999) (true)) ord mny hn
        obtain ⟨hm, r0, r1, r2, r3, r4, r5, r6, r7, r8, r9, r10, r11, r12, hinj, hn⟩ := id hR
        have hf1 : fr (MD mo M) w _ := fr.rf.up (b := mo) (e := cellM M (thC (false) (wiB v 0 999) (true)) n ord mny) MD.m
        refine g_if_ne C 70 dX3_tell_65 (by decide) (fun c65 => absurd (by simp [bI]) c65) (fun _ => ?_)
        refine g_iconst C (v := 0) dX3_tell_68 (by decide) ?_
        have hp1 : (isDk d && (isTh th && wiB fl 0 2)) = (false) := by first | rfl | simp [c5]
        have hp2 : (wiB v 0 (if fl = 2 then 31 else 999)) = (wiB v 0 999) := by first | rfl | simp [c34]
        have hp3 : (decide (n < 120)) = (true) := by first | rfl | simp [c54]
        refine g_iret C hr dX3_tell_69 (by decide) (by decide) ?_
        rw [hp3, hp2, hp1]
        exact Or.inl ⟨by simp, rfl, hR, hf1⟩
    · refine g_bipush C (v := 31) dX3_tell_37 (by decide) ?_
      refine g_goto C 45 dX3_tell_39 (by decide) ?_
      refine g_callSn C _ dX3_tell_45 (c_X3_within l G _ _ _ _) kmX3_64 ks_X3_within kn_X3 kc_X3_within hy_X3_within ⟨by decide, by decide⟩ rfl (Nat.le_of_ble_eq_true rfl) ⟨by decide, by decide⟩ (fun v w1 hp => ?_)
      obtain ⟨rfl, hw1⟩ := hp
      have hw1 := hw1.symm
      subst hw1
      first | refine g_aload_n C dX3_tell_48 rfl rfl ?_ | refine g_aload_nN C dX3_tell_48 rfl rfl ?_ | refine g_aload_nq C dX3_tell_48 rfl rfl ?_
      refine g_get C dX3_tell_49 hm rfl kw_X3 1 (by decide) kfX3_58 rfl rfl ?_
      refine g_bipush C (v := 120) dX3_tell_52 (by decide) ?_
      refine g_icmp_ge C 61 dX3_tell_54 (by decide) (fun c54 => ?_) (fun c54 => ?_)
      · have c54 : ¬ n < 120 := by have := (nI_leI (a := 120) (b := n) (by decide) (by omega)).mp c54; omega
        refine g_iconst C (v := 0) dX3_tell_61 (by decide) ?_
        refine g_callVn C _ dX3_tell_62 (c_X3_goes l G _ _ _ _ _ _ _ _ _ hR (false) (wiB v 0 31) (false)) kmX3_68 ki_X3_goes kv_X3_goes kn_X3 kc_X3_goes hy_X3_goes ⟨by decide, by decide⟩ hm rfl rfl (Nat.le_of_ble_eq_true rfl) ⟨by decide, by decide⟩ (fun v w1 hp => ?_)
        obtain ⟨rfl, hw1⟩ := hp
        have hw1 := hw1.symm
        subst hw1
        have hR := hR.upM (thC (false) (wiB v 0 31) (false)) ord mny hn
        obtain ⟨hm, r0, r1, r2, r3, r4, r5, r6, r7, r8, r9, r10, r11, r12, hinj, hn⟩ := id hR
        have hf1 : fr (MD mo M) w _ := fr.rf.up (b := mo) (e := cellM M (thC (false) (wiB v 0 31) (false)) n ord mny) MD.m
        refine g_if_ne C 70 dX3_tell_65 (by decide) (fun c65 => absurd (by simp [bI]) c65) (fun _ => ?_)
        refine g_iconst C (v := 0) dX3_tell_68 (by decide) ?_
        have hp1 : (isDk d && (isTh th && wiB fl 0 2)) = (false) := by first | rfl | simp [c5]
        have hp2 : (wiB v 0 (if fl = 2 then 31 else 999)) = (wiB v 0 31) := by first | rfl | simp [c34]
        have hp3 : (decide (n < 120)) = (false) := by first | rfl | simp [c54]
        refine g_iret C hr dX3_tell_69 (by decide) (by decide) ?_
        rw [hp3, hp2, hp1]
        exact Or.inl ⟨by simp, rfl, hR, hf1⟩
      · have c54 : n < 120 := nI_nge c54 (by omega) (by decide)
        refine g_iconst C (v := 1) dX3_tell_57 (by decide) ?_
        refine g_goto C 62 dX3_tell_58 (by decide) ?_
        refine g_callVn C _ dX3_tell_62 (c_X3_goes l G _ _ _ _ _ _ _ _ _ hR (false) (wiB v 0 31) (true)) kmX3_68 ki_X3_goes kv_X3_goes kn_X3 kc_X3_goes hy_X3_goes ⟨by decide, by decide⟩ hm rfl rfl (Nat.le_of_ble_eq_true rfl) ⟨by decide, by decide⟩ (fun v w1 hp => ?_)
        obtain ⟨rfl, hw1⟩ := hp
        have hw1 := hw1.symm
        subst hw1
        have hR := hR.upM (thC (false) (wiB v 0 31) (true)) ord mny hn
        obtain ⟨hm, r0, r1, r2, r3, r4, r5, r6, r7, r8, r9, r10, r11, r12, hinj, hn⟩ := id hR
        have hf1 : fr (MD mo M) w _ := fr.rf.up (b := mo) (e := cellM M (thC (false) (wiB v 0 31) (true)) n ord mny) MD.m
        refine g_if_ne C 70 dX3_tell_65 (by decide) (fun c65 => absurd (by simp [bI]) c65) (fun _ => ?_)
        refine g_iconst C (v := 0) dX3_tell_68 (by decide) ?_
        have hp1 : (isDk d && (isTh th && wiB fl 0 2)) = (false) := by first | rfl | simp [c5]
        have hp2 : (wiB v 0 (if fl = 2 then 31 else 999)) = (wiB v 0 31) := by first | rfl | simp [c34]
        have hp3 : (decide (n < 120)) = (true) := by first | rfl | simp [c54]
        refine g_iret C hr dX3_tell_69 (by decide) (by decide) ?_
        rw [hp3, hp2, hp1]
        exact Or.inl ⟨by simp, rfl, hR, hf1⟩
  · have c5 := bI_nz.mp c5
    refine g_iload_n C dX3_tell_8 rfl rfl ?_
    refine g_callSn C _ dX3_tell_9 (c_X3_isThing l G _ _) kmX3_61 ks_X3_isThing kn_X3 kc_X3_isThing hy_X3_isThing ⟨by decide, by decide⟩ rfl (Nat.le_of_ble_eq_true rfl) ⟨by decide, by decide⟩ (fun v w1 hp => ?_)
    obtain ⟨rfl, hw1⟩ := hp
    have hw1 := hw1.symm
    subst hw1
    refine g_if_eq C 28 dX3_tell_12 (by decide) (fun c12 => ?_) (fun c12 => ?_)
    · have c12 := bI_z.mp c12
      refine g_iconst C (v := 0) dX3_tell_28 (by decide) ?_
      refine g_iload C dX3_tell_29 rfl ?_
      refine g_iconst C (v := 0) dX3_tell_31 (by decide) ?_
      refine g_iload_n C dX3_tell_32 rfl rfl ?_
      refine g_iconst C (v := 2) dX3_tell_33 (by decide) ?_
      refine g_icmp_ne C 42 dX3_tell_34 (by decide) (fun c34 => ?_) (fun c34 => ?_)
      · refine g_sipush C (v := 999) dX3_tell_42 (by decide) ?_
        refine g_callSn C _ dX3_tell_45 (c_X3_within l G _ _ _ _) kmX3_64 ks_X3_within kn_X3 kc_X3_within hy_X3_within ⟨by decide, by decide⟩ rfl (Nat.le_of_ble_eq_true rfl) ⟨by decide, by decide⟩ (fun v w1 hp => ?_)
        obtain ⟨rfl, hw1⟩ := hp
        have hw1 := hw1.symm
        subst hw1
        first | refine g_aload_n C dX3_tell_48 rfl rfl ?_ | refine g_aload_nN C dX3_tell_48 rfl rfl ?_ | refine g_aload_nq C dX3_tell_48 rfl rfl ?_
        refine g_get C dX3_tell_49 hm rfl kw_X3 1 (by decide) kfX3_58 rfl rfl ?_
        refine g_bipush C (v := 120) dX3_tell_52 (by decide) ?_
        refine g_icmp_ge C 61 dX3_tell_54 (by decide) (fun c54 => ?_) (fun c54 => ?_)
        · have c54 : ¬ n < 120 := by have := (nI_leI (a := 120) (b := n) (by decide) (by omega)).mp c54; omega
          refine g_iconst C (v := 0) dX3_tell_61 (by decide) ?_
          refine g_callVn C _ dX3_tell_62 (c_X3_goes l G _ _ _ _ _ _ _ _ _ hR (false) (wiB v 0 999) (false)) kmX3_68 ki_X3_goes kv_X3_goes kn_X3 kc_X3_goes hy_X3_goes ⟨by decide, by decide⟩ hm rfl rfl (Nat.le_of_ble_eq_true rfl) ⟨by decide, by decide⟩ (fun v w1 hp => ?_)
          obtain ⟨rfl, hw1⟩ := hp
          have hw1 := hw1.symm
          subst hw1
          have hR := hR.upM (thC (false) (wiB v 0 999) (false)) ord mny hn
          obtain ⟨hm, r0, r1, r2, r3, r4, r5, r6, r7, r8, r9, r10, r11, r12, hinj, hn⟩ := id hR
          have hf1 : fr (MD mo M) w _ := fr.rf.up (b := mo) (e := cellM M (thC (false) (wiB v 0 999) (false)) n ord mny) MD.m
          refine g_if_ne C 70 dX3_tell_65 (by decide) (fun c65 => absurd (by simp [bI]) c65) (fun _ => ?_)
          refine g_iconst C (v := 0) dX3_tell_68 (by decide) ?_
          have hp1 : (isDk d && (isTh th && wiB fl 0 2)) = (false) := by first | rfl | simp [c5, c12]
          have hp2 : (wiB v 0 (if fl = 2 then 31 else 999)) = (wiB v 0 999) := by first | rfl | simp [c34]
          have hp3 : (decide (n < 120)) = (false) := by first | rfl | simp [c54]
          refine g_iret C hr dX3_tell_69 (by decide) (by decide) ?_
          rw [hp3, hp2, hp1]
          exact Or.inl ⟨by simp, rfl, hR, hf1⟩
        · have c54 : n < 120 := nI_nge c54 (by omega) (by decide)
          refine g_iconst C (v := 1) dX3_tell_57 (by decide) ?_
          refine g_goto C 62 dX3_tell_58 (by decide) ?_
          refine g_callVn C _ dX3_tell_62 (c_X3_goes l G _ _ _ _ _ _ _ _ _ hR (false) (wiB v 0 999) (true)) kmX3_68 ki_X3_goes kv_X3_goes kn_X3 kc_X3_goes hy_X3_goes ⟨by decide, by decide⟩ hm rfl rfl (Nat.le_of_ble_eq_true rfl) ⟨by decide, by decide⟩ (fun v w1 hp => ?_)
          obtain ⟨rfl, hw1⟩ := hp
          have hw1 := hw1.symm
          subst hw1
          have hR := hR.upM (thC (false) (wiB v 0 999) (true)) ord mny hn
          obtain ⟨hm, r0, r1, r2, r3, r4, r5, r6, r7, r8, r9, r10, r11, r12, hinj, hn⟩ := id hR
          have hf1 : fr (MD mo M) w _ := fr.rf.up (b := mo) (e := cellM M (thC (false) (wiB v 0 999) (true)) n ord mny) MD.m
          refine g_if_ne C 70 dX3_tell_65 (by decide) (fun c65 => absurd (by simp [bI]) c65) (fun _ => ?_)
          refine g_iconst C (v := 0) dX3_tell_68 (by decide) ?_
          have hp1 : (isDk d && (isTh th && wiB fl 0 2)) = (false) := by first | rfl | simp [c5, c12]
          have hp2 : (wiB v 0 (if fl = 2 then 31 else 999)) = (wiB v 0 999) := by first | rfl | simp [c34]
          have hp3 : (decide (n < 120)) = (true) := by first | rfl | simp [c54]
          refine g_iret C hr dX3_tell_69 (by decide) (by decide) ?_
          rw [hp3, hp2, hp1]
          exact Or.inl ⟨by simp, rfl, hR, hf1⟩
      · refine g_bipush C (v := 31) dX3_tell_37 (by decide) ?_
        refine g_goto C 45 dX3_tell_39 (by decide) ?_
        refine g_callSn C _ dX3_tell_45 (c_X3_within l G _ _ _ _) kmX3_64 ks_X3_within kn_X3 kc_X3_within hy_X3_within ⟨by decide, by decide⟩ rfl (Nat.le_of_ble_eq_true rfl) ⟨by decide, by decide⟩ (fun v w1 hp => ?_)
        obtain ⟨rfl, hw1⟩ := hp
        have hw1 := hw1.symm
        subst hw1
        first | refine g_aload_n C dX3_tell_48 rfl rfl ?_ | refine g_aload_nN C dX3_tell_48 rfl rfl ?_ | refine g_aload_nq C dX3_tell_48 rfl rfl ?_
        refine g_get C dX3_tell_49 hm rfl kw_X3 1 (by decide) kfX3_58 rfl rfl ?_
        refine g_bipush C (v := 120) dX3_tell_52 (by decide) ?_
        refine g_icmp_ge C 61 dX3_tell_54 (by decide) (fun c54 => ?_) (fun c54 => ?_)
        · have c54 : ¬ n < 120 := by have := (nI_leI (a := 120) (b := n) (by decide) (by omega)).mp c54; omega
          refine g_iconst C (v := 0) dX3_tell_61 (by decide) ?_
          refine g_callVn C _ dX3_tell_62 (c_X3_goes l G _ _ _ _ _ _ _ _ _ hR (false) (wiB v 0 31) (false)) kmX3_68 ki_X3_goes kv_X3_goes kn_X3 kc_X3_goes hy_X3_goes ⟨by decide, by decide⟩ hm rfl rfl (Nat.le_of_ble_eq_true rfl) ⟨by decide, by decide⟩ (fun v w1 hp => ?_)
          obtain ⟨rfl, hw1⟩ := hp
          have hw1 := hw1.symm
          subst hw1
          have hR := hR.upM (thC (false) (wiB v 0 31) (false)) ord mny hn
          obtain ⟨hm, r0, r1, r2, r3, r4, r5, r6, r7, r8, r9, r10, r11, r12, hinj, hn⟩ := id hR
          have hf1 : fr (MD mo M) w _ := fr.rf.up (b := mo) (e := cellM M (thC (false) (wiB v 0 31) (false)) n ord mny) MD.m
          refine g_if_ne C 70 dX3_tell_65 (by decide) (fun c65 => absurd (by simp [bI]) c65) (fun _ => ?_)
          refine g_iconst C (v := 0) dX3_tell_68 (by decide) ?_
          have hp1 : (isDk d && (isTh th && wiB fl 0 2)) = (false) := by first | rfl | simp [c5, c12]
          have hp2 : (wiB v 0 (if fl = 2 then 31 else 999)) = (wiB v 0 31) := by first | rfl | simp [c34]
          have hp3 : (decide (n < 120)) = (false) := by first | rfl | simp [c54]
          refine g_iret C hr dX3_tell_69 (by decide) (by decide) ?_
          rw [hp3, hp2, hp1]
          exact Or.inl ⟨by simp, rfl, hR, hf1⟩
        · have c54 : n < 120 := nI_nge c54 (by omega) (by decide)
          refine g_iconst C (v := 1) dX3_tell_57 (by decide) ?_
          refine g_goto C 62 dX3_tell_58 (by decide) ?_
          refine g_callVn C _ dX3_tell_62 (c_X3_goes l G _ _ _ _ _ _ _ _ _ hR (false) (wiB v 0 31) (true)) kmX3_68 ki_X3_goes kv_X3_goes kn_X3 kc_X3_goes hy_X3_goes ⟨by decide, by decide⟩ hm rfl rfl (Nat.le_of_ble_eq_true rfl) ⟨by decide, by decide⟩ (fun v w1 hp => ?_)
          obtain ⟨rfl, hw1⟩ := hp
          have hw1 := hw1.symm
          subst hw1
          have hR := hR.upM (thC (false) (wiB v 0 31) (true)) ord mny hn
          obtain ⟨hm, r0, r1, r2, r3, r4, r5, r6, r7, r8, r9, r10, r11, r12, hinj, hn⟩ := id hR
          have hf1 : fr (MD mo M) w _ := fr.rf.up (b := mo) (e := cellM M (thC (false) (wiB v 0 31) (true)) n ord mny) MD.m
          refine g_if_ne C 70 dX3_tell_65 (by decide) (fun c65 => absurd (by simp [bI]) c65) (fun _ => ?_)
          refine g_iconst C (v := 0) dX3_tell_68 (by decide) ?_
          have hp1 : (isDk d && (isTh th && wiB fl 0 2)) = (false) := by first | rfl | simp [c5, c12]
          have hp2 : (wiB v 0 (if fl = 2 then 31 else 999)) = (wiB v 0 31) := by first | rfl | simp [c34]
          have hp3 : (decide (n < 120)) = (true) := by first | rfl | simp [c54]
          refine g_iret C hr dX3_tell_69 (by decide) (by decide) ?_
          rw [hp3, hp2, hp1]
          exact Or.inl ⟨by simp, rfl, hR, hf1⟩
    · have c12 := bI_nz.mp c12
      refine g_iload_n C dX3_tell_15 rfl rfl ?_
      refine g_iconst C (v := 0) dX3_tell_16 (by decide) ?_
      refine g_iconst C (v := 2) dX3_tell_17 (by decide) ?_
      refine g_callSn C _ dX3_tell_18 (c_X3_within l G _ _ _ _) kmX3_64 ks_X3_within kn_X3 kc_X3_within hy_X3_within ⟨by decide, by decide⟩ rfl (Nat.le_of_ble_eq_true rfl) ⟨by decide, by decide⟩ (fun v w1 hp => ?_)
      obtain ⟨rfl, hw1⟩ := hp
      have hw1 := hw1.symm
      subst hw1
      refine g_if_eq C 28 dX3_tell_21 (by decide) (fun c21 => ?_) (fun c21 => ?_)
      · have c21 := bI_z.mp c21
        refine g_iconst C (v := 0) dX3_tell_28 (by decide) ?_
        refine g_iload C dX3_tell_29 rfl ?_
        refine g_iconst C (v := 0) dX3_tell_31 (by decide) ?_
        refine g_iload_n C dX3_tell_32 rfl rfl ?_
        refine g_iconst C (v := 2) dX3_tell_33 (by decide) ?_
        refine g_icmp_ne C 42 dX3_tell_34 (by decide) (fun c34 => ?_) (fun c34 => ?_)
        · refine g_sipush C (v := 999) dX3_tell_42 (by decide) ?_
          refine g_callSn C _ dX3_tell_45 (c_X3_within l G _ _ _ _) kmX3_64 ks_X3_within kn_X3 kc_X3_within hy_X3_within ⟨by decide, by decide⟩ rfl (Nat.le_of_ble_eq_true rfl) ⟨by decide, by decide⟩ (fun v w1 hp => ?_)
          obtain ⟨rfl, hw1⟩ := hp
          have hw1 := hw1.symm
          subst hw1
          first | refine g_aload_n C dX3_tell_48 rfl rfl ?_ | refine g_aload_nN C dX3_tell_48 rfl rfl ?_ | refine g_aload_nq C dX3_tell_48 rfl rfl ?_
          refine g_get C dX3_tell_49 hm rfl kw_X3 1 (by decide) kfX3_58 rfl rfl ?_
          refine g_bipush C (v := 120) dX3_tell_52 (by decide) ?_
          refine g_icmp_ge C 61 dX3_tell_54 (by decide) (fun c54 => ?_) (fun c54 => ?_)
          · have c54 : ¬ n < 120 := by have := (nI_leI (a := 120) (b := n) (by decide) (by omega)).mp c54; omega
            refine g_iconst C (v := 0) dX3_tell_61 (by decide) ?_
            refine g_callVn C _ dX3_tell_62 (c_X3_goes l G _ _ _ _ _ _ _ _ _ hR (false) (wiB v 0 999) (false)) kmX3_68 ki_X3_goes kv_X3_goes kn_X3 kc_X3_goes hy_X3_goes ⟨by decide, by decide⟩ hm rfl rfl (Nat.le_of_ble_eq_true rfl) ⟨by decide, by decide⟩ (fun v w1 hp => ?_)
            obtain ⟨rfl, hw1⟩ := hp
            have hw1 := hw1.symm
            subst hw1
            have hR := hR.upM (thC (false) (wiB v 0 999) (false)) ord mny hn
            obtain ⟨hm, r0, r1, r2, r3, r4, r5, r6, r7, r8, r9, r10, r11, r12, hinj, hn⟩ := id hR
            have hf1 : fr (MD mo M) w _ := fr.rf.up (b := mo) (e := cellM M (thC (false) (wiB v 0 999) (false)) n ord mny) MD.m
            refine g_if_ne C 70 dX3_tell_65 (by decide) (fun c65 => absurd (by simp [bI]) c65) (fun _ => ?_)
            refine g_iconst C (v := 0) dX3_tell_68 (by decide) ?_
            have hp1 : (isDk d && (isTh th && wiB fl 0 2)) = (false) := by first | rfl | simp [c5, c12, c21]
            have hp2 : (wiB v 0 (if fl = 2 then 31 else 999)) = (wiB v 0 999) := by first | rfl | simp [c34]
            have hp3 : (decide (n < 120)) = (false) := by first | rfl | simp [c54]
            refine g_iret C hr dX3_tell_69 (by decide) (by decide) ?_
            rw [hp3, hp2, hp1]
            exact Or.inl ⟨by simp, rfl, hR, hf1⟩
          · have c54 : n < 120 := nI_nge c54 (by omega) (by decide)
            refine g_iconst C (v := 1) dX3_tell_57 (by decide) ?_
            refine g_goto C 62 dX3_tell_58 (by decide) ?_
            refine g_callVn C _ dX3_tell_62 (c_X3_goes l G _ _ _ _ _ _ _ _ _ hR (false) (wiB v 0 999) (true)) kmX3_68 ki_X3_goes kv_X3_goes kn_X3 kc_X3_goes hy_X3_goes ⟨by decide, by decide⟩ hm rfl rfl (Nat.le_of_ble_eq_true rfl) ⟨by decide, by decide⟩ (fun v w1 hp => ?_)
            obtain ⟨rfl, hw1⟩ := hp
            have hw1 := hw1.symm
            subst hw1
            have hR := hR.upM (thC (false) (wiB v 0 999) (true)) ord mny hn
            obtain ⟨hm, r0, r1, r2, r3, r4, r5, r6, r7, r8, r9, r10, r11, r12, hinj, hn⟩ := id hR
            have hf1 : fr (MD mo M) w _ := fr.rf.up (b := mo) (e := cellM M (thC (false) (wiB v 0 999) (true)) n ord mny) MD.m
            refine g_if_ne C 70 dX3_tell_65 (by decide) (fun c65 => absurd (by simp [bI]) c65) (fun _ => ?_)
            refine g_iconst C (v := 0) dX3_tell_68 (by decide) ?_
            have hp1 : (isDk d && (isTh th && wiB fl 0 2)) = (false) := by first | rfl | simp [c5, c12, c21]
            have hp2 : (wiB v 0 (if fl = 2 then 31 else 999)) = (wiB v 0 999) := by first | rfl | simp [c34]
            have hp3 : (decide (n < 120)) = (true) := by first | rfl | simp [c54]
            refine g_iret C hr dX3_tell_69 (by decide) (by decide) ?_
            rw [hp3, hp2, hp1]
            exact Or.inl ⟨by simp, rfl, hR, hf1⟩
        · refine g_bipush C (v := 31) dX3_tell_37 (by decide) ?_
          refine g_goto C 45 dX3_tell_39 (by decide) ?_
          refine g_callSn C _ dX3_tell_45 (c_X3_within l G _ _ _ _) kmX3_64 ks_X3_within kn_X3 kc_X3_within hy_X3_within ⟨by decide, by decide⟩ rfl (Nat.le_of_ble_eq_true rfl) ⟨by decide, by decide⟩ (fun v w1 hp => ?_)
          obtain ⟨rfl, hw1⟩ := hp
          have hw1 := hw1.symm
          subst hw1
          first | refine g_aload_n C dX3_tell_48 rfl rfl ?_ | refine g_aload_nN C dX3_tell_48 rfl rfl ?_ | refine g_aload_nq C dX3_tell_48 rfl rfl ?_
          refine g_get C dX3_tell_49 hm rfl kw_X3 1 (by decide) kfX3_58 rfl rfl ?_
          refine g_bipush C (v := 120) dX3_tell_52 (by decide) ?_
          refine g_icmp_ge C 61 dX3_tell_54 (by decide) (fun c54 => ?_) (fun c54 => ?_)
          · have c54 : ¬ n < 120 := by have := (nI_leI (a := 120) (b := n) (by decide) (by omega)).mp c54; omega
            refine g_iconst C (v := 0) dX3_tell_61 (by decide) ?_
            refine g_callVn C _ dX3_tell_62 (c_X3_goes l G _ _ _ _ _ _ _ _ _ hR (false) (wiB v 0 31) (false)) kmX3_68 ki_X3_goes kv_X3_goes kn_X3 kc_X3_goes hy_X3_goes ⟨by decide, by decide⟩ hm rfl rfl (Nat.le_of_ble_eq_true rfl) ⟨by decide, by decide⟩ (fun v w1 hp => ?_)
            obtain ⟨rfl, hw1⟩ := hp
            have hw1 := hw1.symm
            subst hw1
            have hR := hR.upM (thC (false) (wiB v 0 31) (false)) ord mny hn
            obtain ⟨hm, r0, r1, r2, r3, r4, r5, r6, r7, r8, r9, r10, r11, r12, hinj, hn⟩ := id hR
            have hf1 : fr (MD mo M) w _ := fr.rf.up (b := mo) (e := cellM M (thC (false) (wiB v 0 31) (false)) n ord mny) MD.m
            refine g_if_ne C 70 dX3_tell_65 (by decide) (fun c65 => absurd (by simp [bI]) c65) (fun _ => ?_)
            refine g_iconst C (v := 0) dX3_tell_68 (by decide) ?_
            have hp1 : (isDk d && (isTh th && wiB fl 0 2)) = (false) := by first | rfl | simp [c5, c12, c21]
            have hp2 : (wiB v 0 (if fl = 2 then 31 else 999)) = (wiB v 0 31) := by first | rfl | simp [c34]
            have hp3 : (decide (n < 120)) = (false) := by first | rfl | simp [c54]
            refine g_iret C hr dX3_tell_69 (by decide) (by decide) ?_
            rw [hp3, hp2, hp1]
            exact Or.inl ⟨by simp, rfl, hR, hf1⟩
          · have c54 : n < 120 := nI_nge c54 (by omega) (by decide)
            refine g_iconst C (v := 1) dX3_tell_57 (by decide) ?_
            refine g_goto C 62 dX3_tell_58 (by decide) ?_
            refine g_callVn C _ dX3_tell_62 (c_X3_goes l G _ _ _ _ _ _ _ _ _ hR (false) (wiB v 0 31) (true)) kmX3_68 ki_X3_goes kv_X3_goes kn_X3 kc_X3_goes hy_X3_goes ⟨by decide, by decide⟩ hm rfl rfl (Nat.le_of_ble_eq_true rfl) ⟨by decide, by decide⟩ (fun v w1 hp => ?_)
            obtain ⟨rfl, hw1⟩ := hp
            have hw1 := hw1.symm
            subst hw1
            have hR := hR.upM (thC (false) (wiB v 0 31) (true)) ord mny hn
            obtain ⟨hm, r0, r1, r2, r3, r4, r5, r6, r7, r8, r9, r10, r11, r12, hinj, hn⟩ := id hR
            have hf1 : fr (MD mo M) w _ := fr.rf.up (b := mo) (e := cellM M (thC (false) (wiB v 0 31) (true)) n ord mny) MD.m
            refine g_if_ne C 70 dX3_tell_65 (by decide) (fun c65 => absurd (by simp [bI]) c65) (fun _ => ?_)
            refine g_iconst C (v := 0) dX3_tell_68 (by decide) ?_
            have hp1 : (isDk d && (isTh th && wiB fl 0 2)) = (false) := by first | rfl | simp [c5, c12, c21]
            have hp2 : (wiB v 0 (if fl = 2 then 31 else 999)) = (wiB v 0 31) := by first | rfl | simp [c34]
            have hp3 : (decide (n < 120)) = (true) := by first | rfl | simp [c54]
            refine g_iret C hr dX3_tell_69 (by decide) (by decide) ?_
            rw [hp3, hp2, hp1]
            exact Or.inl ⟨by simp, rfl, hR, hf1⟩
      · have c21 := bI_nz.mp c21
        refine g_iconst C (v := 1) dX3_tell_24 (by decide) ?_
        refine g_goto C 29 dX3_tell_25 (by decide) ?_
        refine g_iload C dX3_tell_29 rfl ?_
        refine g_iconst C (v := 0) dX3_tell_31 (by decide) ?_
        refine g_iload_n C dX3_tell_32 rfl rfl ?_
        refine g_iconst C (v := 2) dX3_tell_33 (by decide) ?_
        refine g_icmp_ne C 42 dX3_tell_34 (by decide) (fun c34 => ?_) (fun c34 => ?_)
        · refine g_sipush C (v := 999) dX3_tell_42 (by decide) ?_
          refine g_callSn C _ dX3_tell_45 (c_X3_within l G _ _ _ _) kmX3_64 ks_X3_within kn_X3 kc_X3_within hy_X3_within ⟨by decide, by decide⟩ rfl (Nat.le_of_ble_eq_true rfl) ⟨by decide, by decide⟩ (fun v w1 hp => ?_)
          obtain ⟨rfl, hw1⟩ := hp
          have hw1 := hw1.symm
          subst hw1
          first | refine g_aload_n C dX3_tell_48 rfl rfl ?_ | refine g_aload_nN C dX3_tell_48 rfl rfl ?_ | refine g_aload_nq C dX3_tell_48 rfl rfl ?_
          refine g_get C dX3_tell_49 hm rfl kw_X3 1 (by decide) kfX3_58 rfl rfl ?_
          refine g_bipush C (v := 120) dX3_tell_52 (by decide) ?_
          refine g_icmp_ge C 61 dX3_tell_54 (by decide) (fun c54 => ?_) (fun c54 => ?_)
          · have c54 : ¬ n < 120 := by have := (nI_leI (a := 120) (b := n) (by decide) (by omega)).mp c54; omega
            refine g_iconst C (v := 0) dX3_tell_61 (by decide) ?_
            refine g_callVn C _ dX3_tell_62 (c_X3_goes l G _ _ _ _ _ _ _ _ _ hR (true) (wiB v 0 999) (false)) kmX3_68 ki_X3_goes kv_X3_goes kn_X3 kc_X3_goes hy_X3_goes ⟨by decide, by decide⟩ hm rfl rfl (Nat.le_of_ble_eq_true rfl) ⟨by decide, by decide⟩ (fun v w1 hp => ?_)
            obtain ⟨rfl, hw1⟩ := hp
            have hw1 := hw1.symm
            subst hw1
            have hR := hR.upM (thC (true) (wiB v 0 999) (false)) ord mny hn
            obtain ⟨hm, r0, r1, r2, r3, r4, r5, r6, r7, r8, r9, r10, r11, r12, hinj, hn⟩ := id hR
            have hf1 : fr (MD mo M) w _ := fr.rf.up (b := mo) (e := cellM M (thC (true) (wiB v 0 999) (false)) n ord mny) MD.m
            refine g_if_ne C 70 dX3_tell_65 (by decide) (fun c65 => absurd (by simp [bI]) c65) (fun _ => ?_)
            refine g_iconst C (v := 0) dX3_tell_68 (by decide) ?_
            have hp1 : (isDk d && (isTh th && wiB fl 0 2)) = (true) := by first | rfl | simp [c5, c12, c21]
            have hp2 : (wiB v 0 (if fl = 2 then 31 else 999)) = (wiB v 0 999) := by first | rfl | simp [c34]
            have hp3 : (decide (n < 120)) = (false) := by first | rfl | simp [c54]
            refine g_iret C hr dX3_tell_69 (by decide) (by decide) ?_
            rw [hp3, hp2, hp1]
            exact Or.inl ⟨by simp, rfl, hR, hf1⟩
          · have c54 : n < 120 := nI_nge c54 (by omega) (by decide)
            refine g_iconst C (v := 1) dX3_tell_57 (by decide) ?_
            refine g_goto C 62 dX3_tell_58 (by decide) ?_
            refine g_callVn C _ dX3_tell_62 (c_X3_goes l G _ _ _ _ _ _ _ _ _ hR (true) (wiB v 0 999) (true)) kmX3_68 ki_X3_goes kv_X3_goes kn_X3 kc_X3_goes hy_X3_goes ⟨by decide, by decide⟩ hm rfl rfl (Nat.le_of_ble_eq_true rfl) ⟨by decide, by decide⟩ (fun v w1 hp => ?_)
            obtain ⟨rfl, hw1⟩ := hp
            have hw1 := hw1.symm
            subst hw1
            have hR := hR.upM (thC (true) (wiB v 0 999) (true)) ord mny hn
            obtain ⟨hm, r0, r1, r2, r3, r4, r5, r6, r7, r8, r9, r10, r11, r12, hinj, hn⟩ := id hR
            have hf1 : fr (MD mo M) w _ := fr.rf.up (b := mo) (e := cellM M (thC (true) (wiB v 0 999) (true)) n ord mny) MD.m
            refine g_if_ne C 70 dX3_tell_65 (by decide) (fun c65 => ?_) (fun c65 => ?_)
            · have c65 := bI_nz.mp c65
              obtain ⟨d', hd', rfl⟩ := isDk_nI c5
              first | refine g_aload_n C dX3_tell_70 rfl rfl ?_ | refine g_aload_nN C dX3_tell_70 rfl rfl ?_ | refine g_aload_nq C dX3_tell_70 rfl rfl ?_
              refine g_iload_n C dX3_tell_71 rfl rfl ?_
              refine g_iload_n C dX3_tell_72 rfl rfl ?_
              refine g_iload_n C dX3_tell_73 rfl rfl ?_
              refine g_iload C dX3_tell_74 rfl ?_
              refine g_iconst C (v := (-1)) dX3_tell_76 (by decide) ?_
              refine g_callVn C _ dX3_tell_77 (c_X3_make l G _ _ _ _ _ _ _ _ _ hR d' (by omega) _ _ _ _ (by omega)) kmX3_71 ki_X3_make kv_X3_make kn_X3 kc_X3_make hy_X3_make ⟨by decide, by decide⟩ hm rfl rfl (Nat.le_of_ble_eq_true rfl) ⟨by decide, by decide⟩ (fun v w1 hp => ?_)
              obtain ⟨rfl, hR2, hf2⟩ := hp
              have hp1 : (isDk (nI d') && (isTh th && wiB fl 0 2)) = (true) := by first | rfl | simp [c5, c12, c21]
              have hp2 : (wiB v 0 (if fl = 2 then 31 else 999)) = (wiB v 0 999) := by first | rfl | simp [c34]
              have hp3 : (decide (n < 120)) = (true) := by first | rfl | simp [c54]
              have hth := thC_t c65
              refine g_iret C hr dX3_tell_80 (by decide) (by decide) ?_
              rw [hp3, hp2, hp1]
              exact Or.inr ⟨c65, _, rfl, _, hd', rfl, rfl, hR2.th hth, hf1.trans hf2⟩
            · have c65 := bI_z.mp c65
              refine g_iconst C (v := 0) dX3_tell_68 (by decide) ?_
              have hp1 : (isDk d && (isTh th && wiB fl 0 2)) = (true) := by first | rfl | simp [c5, c12, c21]
              have hp2 : (wiB v 0 (if fl = 2 then 31 else 999)) = (wiB v 0 999) := by first | rfl | simp [c34]
              have hp3 : (decide (n < 120)) = (true) := by first | rfl | simp [c54]
              refine g_iret C hr dX3_tell_69 (by decide) (by decide) ?_
              rw [hp3, hp2, hp1]
              exact Or.inl ⟨c65, rfl, hR, hf1⟩
        · refine g_bipush C (v := 31) dX3_tell_37 (by decide) ?_
          refine g_goto C 45 dX3_tell_39 (by decide) ?_
          refine g_callSn C _ dX3_tell_45 (c_X3_within l G _ _ _ _) kmX3_64 ks_X3_within kn_X3 kc_X3_within hy_X3_within ⟨by decide, by decide⟩ rfl (Nat.le_of_ble_eq_true rfl) ⟨by decide, by decide⟩ (fun v w1 hp => ?_)
          obtain ⟨rfl, hw1⟩ := hp
          have hw1 := hw1.symm
          subst hw1
          first | refine g_aload_n C dX3_tell_48 rfl rfl ?_ | refine g_aload_nN C dX3_tell_48 rfl rfl ?_ | refine g_aload_nq C dX3_tell_48 rfl rfl ?_
          refine g_get C dX3_tell_49 hm rfl kw_X3 1 (by decide) kfX3_58 rfl rfl ?_
          refine g_bipush C (v := 120) dX3_tell_52 (by decide) ?_
          refine g_icmp_ge C 61 dX3_tell_54 (by decide) (fun c54 => ?_) (fun c54 => ?_)
          · have c54 : ¬ n < 120 := by have := (nI_leI (a := 120) (b := n) (by decide) (by omega)).mp c54; omega
            refine g_iconst C (v := 0) dX3_tell_61 (by decide) ?_
            refine g_callVn C _ dX3_tell_62 (c_X3_goes l G _ _ _ _ _ _ _ _ _ hR (true) (wiB v 0 31) (false)) kmX3_68 ki_X3_goes kv_X3_goes kn_X3 kc_X3_goes hy_X3_goes ⟨by decide, by decide⟩ hm rfl rfl (Nat.le_of_ble_eq_true rfl) ⟨by decide, by decide⟩ (fun v w1 hp => ?_)
            obtain ⟨rfl, hw1⟩ := hp
            have hw1 := hw1.symm
            subst hw1
            have hR := hR.upM (thC (true) (wiB v 0 31) (false)) ord mny hn
            obtain ⟨hm, r0, r1, r2, r3, r4, r5, r6, r7, r8, r9, r10, r11, r12, hinj, hn⟩ := id hR
            have hf1 : fr (MD mo M) w _ := fr.rf.up (b := mo) (e := cellM M (thC (true) (wiB v 0 31) (false)) n ord mny) MD.m
            refine g_if_ne C 70 dX3_tell_65 (by decide) (fun c65 => absurd (by simp [bI]) c65) (fun _ => ?_)
            refine g_iconst C (v := 0) dX3_tell_68 (by decide) ?_
            have hp1 : (isDk d && (isTh th && wiB fl 0 2)) = (true) := by first | rfl | simp [c5, c12, c21]
            have hp2 : (wiB v 0 (if fl = 2 then 31 else 999)) = (wiB v 0 31) := by first | rfl | simp [c34]
            have hp3 : (decide (n < 120)) = (false) := by first | rfl | simp [c54]
            refine g_iret C hr dX3_tell_69 (by decide) (by decide) ?_
            rw [hp3, hp2, hp1]
            exact Or.inl ⟨by simp, rfl, hR, hf1⟩
          · have c54 : n < 120 := nI_nge c54 (by omega) (by decide)
            refine g_iconst C (v := 1) dX3_tell_57 (by decide) ?_
            refine g_goto C 62 dX3_tell_58 (by decide) ?_
            refine g_callVn C _ dX3_tell_62 (c_X3_goes l G _ _ _ _ _ _ _ _ _ hR (true) (wiB v 0 31) (true)) kmX3_68 ki_X3_goes kv_X3_goes kn_X3 kc_X3_goes hy_X3_goes ⟨by decide, by decide⟩ hm rfl rfl (Nat.le_of_ble_eq_true rfl) ⟨by decide, by decide⟩ (fun v w1 hp => ?_)
            obtain ⟨rfl, hw1⟩ := hp
            have hw1 := hw1.symm
            subst hw1
            have hR := hR.upM (thC (true) (wiB v 0 31) (true)) ord mny hn
            obtain ⟨hm, r0, r1, r2, r3, r4, r5, r6, r7, r8, r9, r10, r11, r12, hinj, hn⟩ := id hR
            have hf1 : fr (MD mo M) w _ := fr.rf.up (b := mo) (e := cellM M (thC (true) (wiB v 0 31) (true)) n ord mny) MD.m
            refine g_if_ne C 70 dX3_tell_65 (by decide) (fun c65 => ?_) (fun c65 => ?_)
            · have c65 := bI_nz.mp c65
              obtain ⟨d', hd', rfl⟩ := isDk_nI c5
              first | refine g_aload_n C dX3_tell_70 rfl rfl ?_ | refine g_aload_nN C dX3_tell_70 rfl rfl ?_ | refine g_aload_nq C dX3_tell_70 rfl rfl ?_
              refine g_iload_n C dX3_tell_71 rfl rfl ?_
              refine g_iload_n C dX3_tell_72 rfl rfl ?_
              refine g_iload_n C dX3_tell_73 rfl rfl ?_
              refine g_iload C dX3_tell_74 rfl ?_
              refine g_iconst C (v := (-1)) dX3_tell_76 (by decide) ?_
              refine g_callVn C _ dX3_tell_77 (c_X3_make l G _ _ _ _ _ _ _ _ _ hR d' (by omega) _ _ _ _ (by omega)) kmX3_71 ki_X3_make kv_X3_make kn_X3 kc_X3_make hy_X3_make ⟨by decide, by decide⟩ hm rfl rfl (Nat.le_of_ble_eq_true rfl) ⟨by decide, by decide⟩ (fun v w1 hp => ?_)
              obtain ⟨rfl, hR2, hf2⟩ := hp
              have hp1 : (isDk (nI d') && (isTh th && wiB fl 0 2)) = (true) := by first | rfl | simp [c5, c12, c21]
              have hp2 : (wiB v 0 (if fl = 2 then 31 else 999)) = (wiB v 0 31) := by first | rfl | simp [c34]
              have hp3 : (decide (n < 120)) = (true) := by first | rfl | simp [c54]
              have hth := thC_t c65
              refine g_iret C hr dX3_tell_80 (by decide) (by decide) ?_
              rw [hp3, hp2, hp1]
              exact Or.inr ⟨c65, _, rfl, _, hd', rfl, rfl, hR2.th hth, hf1.trans hf2⟩
            · have c65 := bI_z.mp c65
              refine g_iconst C (v := 0) dX3_tell_68 (by decide) ?_
              have hp1 : (isDk d && (isTh th && wiB fl 0 2)) = (true) := by first | rfl | simp [c5, c12, c21]
              have hp2 : (wiB v 0 (if fl = 2 then 31 else 999)) = (wiB v 0 31) := by first | rfl | simp [c34]
              have hp3 : (decide (n < 120)) = (true) := by first | rfl | simp [c54]
              refine g_iret C hr dX3_tell_69 (by decide) (by decide) ?_
              rw [hp3, hp2, hp1]
              exact Or.inl ⟨c65, rfl, hR, hf1⟩

set_option maxHeartbeats 4000000 in
set_option maxRecDepth 100000 in
theorem c_X3_relate (l : Launch) (G : hD) (w : hW) (mo : Nat) (M : Nat → Nat) (n : Nat) (I : Nat → Nat → Int32) (B : Nat → Nat → Bool) (thr ord mny : Int32) (hR : MR G mo M n I B thr ord mny w) (d x9 y9 : Int32) : h_Met l yX3_relate (Cond.code yX3_relate cX3_relate 4 (some .int)) { frames := 2, cells := 0, slots := 0, locals := 60 } G [.ref mo, .int d, .int x9, .int y9] w (mP G mo M n I B ord mny w (isDk d && (isTh x9 && isTh y9)) (!decide (x9 = y9)) (decide (n < 120)) (fun x w' => ∃ d', d' < 6 ∧ d = nI d' ∧ mK G mo M n I B ord mny w d' 5 (-1) (16 * x9 + y9) (-1) x w')) noX := by
  refine h_met RX3 rfl (by decide) (Nat.le_of_ble_eq_true rfl) (cat_c (by first | rfl | exact rf_cat _) (cat_c (by first | rfl | exact rf_cat _) (cat_c (by first | rfl | exact rf_cat _) (cat_c (by first | rfl | exact rf_cat _) cat_n)))) ?_
  intro p e s m below meth c A C hnt hr hnm
  obtain ⟨hm, r0, r1, r2, r3, r4, r5, r6, r7, r8, r9, r10, r11, r12, hinj, hn⟩ := id hR
  first | refine g_aload_n C dX3_relate_0 rfl rfl ?_ | refine g_aload_nN C dX3_relate_0 rfl rfl ?_ | refine g_aload_nq C dX3_relate_0 rfl rfl ?_
  refine g_iload_n C dX3_relate_1 rfl rfl ?_
  refine g_callSn C _ dX3_relate_2 (c_X3_isDesk l G _ _) kmX3_54 ks_X3_isDesk kn_X3 kc_X3_isDesk hy_X3_isDesk ⟨by decide, by decide⟩ rfl (Nat.le_of_ble_eq_true rfl) ⟨by decide, by decide⟩ (fun v w1 hp => ?_)
  obtain ⟨rfl, hw1⟩ := hp
  have hw1 := hw1.symm
  subst hw1
  refine g_if_eq C 26 dX3_relate_5 (by decide) (fun c5 => ?_) (fun c5 => ?_)
  · have c5 := bI_z.mp c5
    refine g_iconst C (v := 0) dX3_relate_26 (by decide) ?_
    refine g_iload_n C dX3_relate_27 rfl rfl ?_
    refine g_iload_n C dX3_relate_28 rfl rfl ?_
    refine g_icmp_eq C 36 dX3_relate_29 (by decide) (fun c29 => ?_) (fun c29 => ?_)
    · refine g_iconst C (v := 0) dX3_relate_36 (by decide) ?_
      first | refine g_aload_n C dX3_relate_37 rfl rfl ?_ | refine g_aload_nN C dX3_relate_37 rfl rfl ?_ | refine g_aload_nq C dX3_relate_37 rfl rfl ?_
      refine g_get C dX3_relate_38 hm rfl kw_X3 1 (by decide) kfX3_58 rfl rfl ?_
      refine g_bipush C (v := 120) dX3_relate_41 (by decide) ?_
      refine g_icmp_ge C 50 dX3_relate_43 (by decide) (fun c43 => ?_) (fun c43 => ?_)
      · have c43 : ¬ n < 120 := by have := (nI_leI (a := 120) (b := n) (by decide) (by omega)).mp c43; omega
        refine g_iconst C (v := 0) dX3_relate_50 (by decide) ?_
        refine g_callVn C _ dX3_relate_51 (c_X3_goes l G _ _ _ _ _ _ _ _ _ hR (false) (false) (false)) kmX3_68 ki_X3_goes kv_X3_goes kn_X3 kc_X3_goes hy_X3_goes ⟨by decide, by decide⟩ hm rfl rfl (Nat.le_of_ble_eq_true rfl) ⟨by decide, by decide⟩ (fun v w1 hp => ?_)
        obtain ⟨rfl, hw1⟩ := hp
        have hw1 := hw1.symm
        subst hw1
        have hR := hR.upM (thC (false) (false) (false)) ord mny hn
        obtain ⟨hm, r0, r1, r2, r3, r4, r5, r6, r7, r8, r9, r10, r11, r12, hinj, hn⟩ := id hR
        have hf1 : fr (MD mo M) w _ := fr.rf.up (b := mo) (e := cellM M (thC (false) (false) (false)) n ord mny) MD.m
        refine g_if_ne C 59 dX3_relate_54 (by decide) (fun c54 => absurd (by simp [bI]) c54) (fun _ => ?_)
        refine g_iconst C (v := 0) dX3_relate_57 (by decide) ?_
        have hp1 : (isDk d && (isTh x9 && isTh y9)) = (false) := by first | rfl | simp [c5]
        have hp2 : (!decide (x9 = y9)) = (false) := by first | rfl | simp [c29]
        have hp3 : (decide (n < 120)) = (false) := by first | rfl | simp [c43]
        refine g_iret C hr dX3_relate_58 (by decide) (by decide) ?_
        rw [hp3, hp2, hp1]
        exact Or.inl ⟨by simp, rfl, hR, hf1⟩
      · have c43 : n < 120 := nI_nge c43 (by omega) (by decide)
        refine g_iconst C (v := 1) dX3_relate_46 (by decide) ?_
        refine g_goto C 51 dX3_relate_47 (by decide) ?_
        refine g_callVn C _ dX3_relate_51 (c_X3_goes l G _ _ _ _ _ _ _ _ _ hR (false) (false) (true)) kmX3_68 ki_X3_goes kv_X3_goes kn_X3 kc_X3_goes hy_X3_goes ⟨by decide, by decide⟩ hm rfl rfl (Nat.le_of_ble_eq_true rfl) ⟨by decide, by decide⟩ (fun v w1 hp => ?_)
        obtain ⟨rfl, hw1⟩ := hp
        have hw1 := hw1.symm
        subst hw1
        have hR := hR.upM (thC (false) (false) (true)) ord mny hn
        obtain ⟨hm, r0, r1, r2, r3, r4, r5, r6, r7, r8, r9, r10, r11, r12, hinj, hn⟩ := id hR
        have hf1 : fr (MD mo M) w _ := fr.rf.up (b := mo) (e := cellM M (thC (false) (false) (true)) n ord mny) MD.m
        refine g_if_ne C 59 dX3_relate_54 (by decide) (fun c54 => absurd (by simp [bI]) c54) (fun _ => ?_)
        refine g_iconst C (v := 0) dX3_relate_57 (by decide) ?_
        have hp1 : (isDk d && (isTh x9 && isTh y9)) = (false) := by first | rfl | simp [c5]
        have hp2 : (!decide (x9 = y9)) = (false) := by first | rfl | simp [c29]
        have hp3 : (decide (n < 120)) = (true) := by first | rfl | simp [c43]
        refine g_iret C hr dX3_relate_58 (by decide) (by decide) ?_
        rw [hp3, hp2, hp1]
        exact Or.inl ⟨by simp, rfl, hR, hf1⟩
    · refine g_iconst C (v := 1) dX3_relate_32 (by decide) ?_
      refine g_goto C 37 dX3_relate_33 (by decide) ?_
      first | refine g_aload_n C dX3_relate_37 rfl rfl ?_ | refine g_aload_nN C dX3_relate_37 rfl rfl ?_ | refine g_aload_nq C dX3_relate_37 rfl rfl ?_
      refine g_get C dX3_relate_38 hm rfl kw_X3 1 (by decide) kfX3_58 rfl rfl ?_
      refine g_bipush C (v := 120) dX3_relate_41 (by decide) ?_
      refine g_icmp_ge C 50 dX3_relate_43 (by decide) (fun c43 => ?_) (fun c43 => ?_)
      · have c43 : ¬ n < 120 := by have := (nI_leI (a := 120) (b := n) (by decide) (by omega)).mp c43; omega
        refine g_iconst C (v := 0) dX3_relate_50 (by decide) ?_
        refine g_callVn C _ dX3_relate_51 (c_X3_goes l G _ _ _ _ _ _ _ _ _ hR (false) (true) (false)) kmX3_68 ki_X3_goes kv_X3_goes kn_X3 kc_X3_goes hy_X3_goes ⟨by decide, by decide⟩ hm rfl rfl (Nat.le_of_ble_eq_true rfl) ⟨by decide, by decide⟩ (fun v w1 hp => ?_)
        obtain ⟨rfl, hw1⟩ := hp
        have hw1 := hw1.symm
        subst hw1
        have hR := hR.upM (thC (false) (true) (false)) ord mny hn
        obtain ⟨hm, r0, r1, r2, r3, r4, r5, r6, r7, r8, r9, r10, r11, r12, hinj, hn⟩ := id hR
        have hf1 : fr (MD mo M) w _ := fr.rf.up (b := mo) (e := cellM M (thC (false) (true) (false)) n ord mny) MD.m
        refine g_if_ne C 59 dX3_relate_54 (by decide) (fun c54 => absurd (by simp [bI]) c54) (fun _ => ?_)
        refine g_iconst C (v := 0) dX3_relate_57 (by decide) ?_
        have hp1 : (isDk d && (isTh x9 && isTh y9)) = (false) := by first | rfl | simp [c5]
        have hp2 : (!decide (x9 = y9)) = (true) := by first | rfl | simp [c29]
        have hp3 : (decide (n < 120)) = (false) := by first | rfl | simp [c43]
        refine g_iret C hr dX3_relate_58 (by decide) (by decide) ?_
        rw [hp3, hp2, hp1]
        exact Or.inl ⟨by simp, rfl, hR, hf1⟩
      · have c43 : n < 120 := nI_nge c43 (by omega) (by decide)
        refine g_iconst C (v := 1) dX3_relate_46 (by decide) ?_
        refine g_goto C 51 dX3_relate_47 (by decide) ?_
        refine g_callVn C _ dX3_relate_51 (c_X3_goes l G _ _ _ _ _ _ _ _ _ hR (false) (true) (true)) kmX3_68 ki_X3_goes kv_X3_goes kn_X3 kc_X3_goes hy_X3_goes ⟨by decide, by decide⟩ hm rfl rfl (Nat.le_of_ble_eq_true rfl) ⟨by decide, by decide⟩ (fun v w1 hp => ?_)
        obtain ⟨rfl, hw1⟩ := hp
        have hw1 := hw1.symm
        subst hw1
        have hR := hR.upM (thC (false) (true) (true)) ord mny hn
        obtain ⟨hm, r0, r1, r2, r3, r4, r5, r6, r7, r8, r9, r10, r11, r12, hinj, hn⟩ := id hR
        have hf1 : fr (MD mo M) w _ := fr.rf.up (b := mo) (e := cellM M (thC (false) (true) (true)) n ord mny) MD.m
        refine g_if_ne C 59 dX3_relate_54 (by decide) (fun c54 => absurd (by simp [bI]) c54) (fun _ => ?_)
        refine g_iconst C (v := 0) dX3_relate_57 (by decide) ?_
        have hp1 : (isDk d && (isTh x9 && isTh y9)) = (false) := by first | rfl | simp [c5]
        have hp2 : (!decide (x9 = y9)) = (true) := by first | rfl | simp [c29]
        have hp3 : (decide (n < 120)) = (true) := by first | rfl | simp [c43]
        refine g_iret C hr dX3_relate_58 (by decide) (by decide) ?_
        rw [hp3, hp2, hp1]
        exact Or.inl ⟨by simp, rfl, hR, hf1⟩
  · have c5 := bI_nz.mp c5
    refine g_iload_n C dX3_relate_8 rfl rfl ?_
    refine g_callSn C _ dX3_relate_9 (c_X3_isThing l G _ _) kmX3_61 ks_X3_isThing kn_X3 kc_X3_isThing hy_X3_isThing ⟨by decide, by decide⟩ rfl (Nat.le_of_ble_eq_true rfl) ⟨by decide, by decide⟩ (fun v w1 hp => ?_)
    obtain ⟨rfl, hw1⟩ := hp
    have hw1 := hw1.symm
    subst hw1
    refine g_if_eq C 26 dX3_relate_12 (by decide) (fun c12 => ?_) (fun c12 => ?_)
    · have c12 := bI_z.mp c12
      refine g_iconst C (v := 0) dX3_relate_26 (by decide) ?_
      refine g_iload_n C dX3_relate_27 rfl rfl ?_
      refine g_iload_n C dX3_relate_28 rfl rfl ?_
      refine g_icmp_eq C 36 dX3_relate_29 (by decide) (fun c29 => ?_) (fun c29 => ?_)
      · refine g_iconst C (v := 0) dX3_relate_36 (by decide) ?_
        first | refine g_aload_n C dX3_relate_37 rfl rfl ?_ | refine g_aload_nN C dX3_relate_37 rfl rfl ?_ | refine g_aload_nq C dX3_relate_37 rfl rfl ?_
        refine g_get C dX3_relate_38 hm rfl kw_X3 1 (by decide) kfX3_58 rfl rfl ?_
        refine g_bipush C (v := 120) dX3_relate_41 (by decide) ?_
        refine g_icmp_ge C 50 dX3_relate_43 (by decide) (fun c43 => ?_) (fun c43 => ?_)
        · have c43 : ¬ n < 120 := by have := (nI_leI (a := 120) (b := n) (by decide) (by omega)).mp c43; omega
          refine g_iconst C (v := 0) dX3_relate_50 (by decide) ?_
          refine g_callVn C _ dX3_relate_51 (c_X3_goes l G _ _ _ _ _ _ _ _ _ hR (false) (false) (false)) kmX3_68 ki_X3_goes kv_X3_goes kn_X3 kc_X3_goes hy_X3_goes ⟨by decide, by decide⟩ hm rfl rfl (Nat.le_of_ble_eq_true rfl) ⟨by decide, by decide⟩ (fun v w1 hp => ?_)
          obtain ⟨rfl, hw1⟩ := hp
          have hw1 := hw1.symm
          subst hw1
          have hR := hR.upM (thC (false) (false) (false)) ord mny hn
          obtain ⟨hm, r0, r1, r2, r3, r4, r5, r6, r7, r8, r9, r10, r11, r12, hinj, hn⟩ := id hR
          have hf1 : fr (MD mo M) w _ := fr.rf.up (b := mo) (e := cellM M (thC (false) (false) (false)) n ord mny) MD.m
          refine g_if_ne C 59 dX3_relate_54 (by decide) (fun c54 => absurd (by simp [bI]) c54) (fun _ => ?_)
          refine g_iconst C (v := 0) dX3_relate_57 (by decide) ?_
          have hp1 : (isDk d && (isTh x9 && isTh y9)) = (false) := by first | rfl | simp [c5, c12]
          have hp2 : (!decide (x9 = y9)) = (false) := by first | rfl | simp [c29]
          have hp3 : (decide (n < 120)) = (false) := by first | rfl | simp [c43]
          refine g_iret C hr dX3_relate_58 (by decide) (by decide) ?_
          rw [hp3, hp2, hp1]
          exact Or.inl ⟨by simp, rfl, hR, hf1⟩
        · have c43 : n < 120 := nI_nge c43 (by omega) (by decide)
          refine g_iconst C (v := 1) dX3_relate_46 (by decide) ?_
          refine g_goto C 51 dX3_relate_47 (by decide) ?_
          refine g_callVn C _ dX3_relate_51 (c_X3_goes l G _ _ _ _ _ _ _ _ _ hR (false) (false) (true)) kmX3_68 ki_X3_goes kv_X3_goes kn_X3 kc_X3_goes hy_X3_goes ⟨by decide, by decide⟩ hm rfl rfl (Nat.le_of_ble_eq_true rfl) ⟨by decide, by decide⟩ (fun v w1 hp => ?_)
          obtain ⟨rfl, hw1⟩ := hp
          have hw1 := hw1.symm
          subst hw1
          have hR := hR.upM (thC (false) (false) (true)) ord mny hn
          obtain ⟨hm, r0, r1, r2, r3, r4, r5, r6, r7, r8, r9, r10, r11, r12, hinj, hn⟩ := id hR
          have hf1 : fr (MD mo M) w _ := fr.rf.up (b := mo) (e := cellM M (thC (false) (false) (true)) n ord mny) MD.m
          refine g_if_ne C 59 dX3_relate_54 (by decide) (fun c54 => absurd (by simp [bI]) c54) (fun _ => ?_)
          refine g_iconst C (v := 0) dX3_relate_57 (by decide) ?_
          have hp1 : (isDk d && (isTh x9 && isTh y9)) = (false) := by first | rfl | simp [c5, c12]
          have hp2 : (!decide (x9 = y9)) = (false) := by first | rfl | simp [c29]
          have hp3 : (decide (n < 120)) = (true) := by first | rfl | simp [c43]
          refine g_iret C hr dX3_relate_58 (by decide) (by decide) ?_
          rw [hp3, hp2, hp1]
          exact Or.inl ⟨by simp, rfl, hR, hf1⟩
      · refine g_iconst C (v := 1) dX3_relate_32 (by decide) ?_
        refine g_goto C 37 dX3_relate_33 (by decide) ?_
        first | refine g_aload_n C dX3_relate_37 rfl rfl ?_ | refine g_aload_nN C dX3_relate_37 rfl rfl ?_ | refine g_aload_nq C dX3_relate_37 rfl rfl ?_
        refine g_get C dX3_relate_38 hm rfl kw_X3 1 (by decide) kfX3_58 rfl rfl ?_
        refine g_bipush C (v := 120) dX3_relate_41 (by decide) ?_
        refine g_icmp_ge C 50 dX3_relate_43 (by decide) (fun c43 => ?_) (fun c43 => ?_)
        · have c43 : ¬ n < 120 := by have := (nI_leI (a := 120) (b := n) (by decide) (by omega)).mp c43; omega
          refine g_iconst C (v := 0) dX3_relate_50 (by decide) ?_
          refine g_callVn C _ dX3_relate_51 (c_X3_goes l G _ _ _ _ _ _ _ _ _ hR (false) (true) (false)) kmX3_68 ki_X3_goes kv_X3_goes kn_X3 kc_X3_goes hy_X3_goes ⟨by decide, by decide⟩ hm rfl rfl (Nat.le_of_ble_eq_true rfl) ⟨by decide, by decide⟩ (fun v w1 hp => ?_)
          obtain ⟨rfl, hw1⟩ := hp
          have hw1 := hw1.symm
          subst hw1
          have hR := hR.upM (thC (false) (true) (false)) ord mny hn
          obtain ⟨hm, r0, r1, r2, r3, r4, r5, r6, r7, r8, r9, r10, r11, r12, hinj, hn⟩ := id hR
          have hf1 : fr (MD mo M) w _ := fr.rf.up (b := mo) (e := cellM M (thC (false) (true) (false)) n ord mny) MD.m
          refine g_if_ne C 59 dX3_relate_54 (by decide) (fun c54 => absurd (by simp [bI]) c54) (fun _ => ?_)
          refine g_iconst C (v := 0) dX3_relate_57 (by decide) ?_
          have hp1 : (isDk d && (isTh x9 && isTh y9)) = (false) := by first | rfl | simp [c5, c12]
          have hp2 : (!decide (x9 = y9)) = (true) := by first | rfl | simp [c29]
          have hp3 : (decide (n < 120)) = (false) := by first | rfl | simp [c43]
          refine g_iret C hr dX3_relate_58 (by decide) (by decide) ?_
          rw [hp3, hp2, hp1]
          exact Or.inl ⟨by simp, rfl, hR, hf1⟩
        · have c43 : n < 120 := nI_nge c43 (by omega) (by decide)
          refine g_iconst C (v := 1) dX3_relate_46 (by decide) ?_
          refine g_goto C 51 dX3_relate_47 (by decide) ?_
          refine g_callVn C _ dX3_relate_51 (c_X3_goes l G _ _ _ _ _ _ _ _ _ hR (false) (true) (true)) kmX3_68 ki_X3_goes kv_X3_goes kn_X3 kc_X3_goes hy_X3_goes ⟨by decide, by decide⟩ hm rfl rfl (Nat.le_of_ble_eq_true rfl) ⟨by decide, by decide⟩ (fun v w1 hp => ?_)
          obtain ⟨rfl, hw1⟩ := hp
          have hw1 := hw1.symm
          subst hw1
          have hR := hR.upM (thC (false) (true) (true)) ord mny hn
          obtain ⟨hm, r0, r1, r2, r3, r4, r5, r6, r7, r8, r9, r10, r11, r12, hinj, hn⟩ := id hR
          have hf1 : fr (MD mo M) w _ := fr.rf.up (b := mo) (e := cellM M (thC (false) (true) (true)) n ord mny) MD.m
          refine g_if_ne C 59 dX3_relate_54 (by decide) (fun c54 => absurd (by simp [bI]) c54) (fun _ => ?_)
          refine g_iconst C (v := 0) dX3_relate_57 (by decide) ?_
          have hp1 : (isDk d && (isTh x9 && isTh y9)) = (false) := by first | rfl | simp [c5, c12]
          have hp2 : (!decide (x9 = y9)) = (true) := by first | rfl | simp [c29]
          have hp3 : (decide (n < 120)) = (true) := by first | rfl | simp [c43]
          refine g_iret C hr dX3_relate_58 (by decide) (by decide) ?_
          rw [hp3, hp2, hp1]
          exact Or.inl ⟨by simp, rfl, hR, hf1⟩
    · have c12 := bI_nz.mp c12
      refine g_iload_n C dX3_relate_15 rfl rfl ?_
      refine g_callSn C _ dX3_relate_16 (c_X3_isThing l G _ _) kmX3_61 ks_X3_isThing kn_X3 kc_X3_isThing hy_X3_isThing ⟨by decide, by decide⟩ rfl (Nat.le_of_ble_eq_true rfl) ⟨by decide, by decide⟩ (fun v w1 hp => ?_)
      obtain ⟨rfl, hw1⟩ := hp
      have hw1 := hw1.symm
      subst hw1
      refine g_if_eq C 26 dX3_relate_19 (by decide) (fun c19 => ?_) (fun c19 => ?_)
      · have c19 := bI_z.mp c19
        refine g_iconst C (v := 0) dX3_relate_26 (by decide) ?_
        refine g_iload_n C dX3_relate_27 rfl rfl ?_
        refine g_iload_n C dX3_relate_28 rfl rfl ?_
        refine g_icmp_eq C 36 dX3_relate_29 (by decide) (fun c29 => ?_) (fun c29 => ?_)
        · refine g_iconst C (v := 0) dX3_relate_36 (by decide) ?_
          first | refine g_aload_n C dX3_relate_37 rfl rfl ?_ | refine g_aload_nN C dX3_relate_37 rfl rfl ?_ | refine g_aload_nq C dX3_relate_37 rfl rfl ?_
          refine g_get C dX3_relate_38 hm rfl kw_X3 1 (by decide) kfX3_58 rfl rfl ?_
          refine g_bipush C (v := 120) dX3_relate_41 (by decide) ?_
          refine g_icmp_ge C 50 dX3_relate_43 (by decide) (fun c43 => ?_) (fun c43 => ?_)
          · have c43 : ¬ n < 120 := by have := (nI_leI (a := 120) (b := n) (by decide) (by omega)).mp c43; omega
            refine g_iconst C (v := 0) dX3_relate_50 (by decide) ?_
            refine g_callVn C _ dX3_relate_51 (c_X3_goes l G _ _ _ _ _ _ _ _ _ hR (false) (false) (false)) kmX3_68 ki_X3_goes kv_X3_goes kn_X3 kc_X3_goes hy_X3_goes ⟨by decide, by decide⟩ hm rfl rfl (Nat.le_of_ble_eq_true rfl) ⟨by decide, by decide⟩ (fun v w1 hp => ?_)
            obtain ⟨rfl, hw1⟩ := hp
            have hw1 := hw1.symm
            subst hw1
            have hR := hR.upM (thC (false) (false) (false)) ord mny hn
            obtain ⟨hm, r0, r1, r2, r3, r4, r5, r6, r7, r8, r9, r10, r11, r12, hinj, hn⟩ := id hR
            have hf1 : fr (MD mo M) w _ := fr.rf.up (b := mo) (e := cellM M (thC (false) (false) (false)) n ord mny) MD.m
            refine g_if_ne C 59 dX3_relate_54 (by decide) (fun c54 => absurd (by simp [bI]) c54) (fun _ => ?_)
            refine g_iconst C (v := 0) dX3_relate_57 (by decide) ?_
            have hp1 : (isDk d && (isTh x9 && isTh y9)) = (false) := by first | rfl | simp [c5, c12, c19]
            have hp2 : (!decide (x9 = y9)) = (false) := by first | rfl | simp [c29]
            have hp3 : (decide (n < 120)) = (false) := by first | rfl | simp [c43]
            refine g_iret C hr dX3_relate_58 (by decide) (by decide) ?_
            rw [hp3, hp2, hp1]
            exact Or.inl ⟨by simp, rfl, hR, hf1⟩
          · have c43 : n < 120 := nI_nge c43 (by omega) (by decide)
            refine g_iconst C (v := 1) dX3_relate_46 (by decide) ?_
            refine g_goto C 51 dX3_relate_47 (by decide) ?_
            refine g_callVn C _ dX3_relate_51 (c_X3_goes l G _ _ _ _ _ _ _ _ _ hR (false) (false) (true)) kmX3_68 ki_X3_goes kv_X3_goes kn_X3 kc_X3_goes hy_X3_goes ⟨by decide, by decide⟩ hm rfl rfl (Nat.le_of_ble_eq_true rfl) ⟨by decide, by decide⟩ (fun v w1 hp => ?_)
            obtain ⟨rfl, hw1⟩ := hp
            have hw1 := hw1.symm
            subst hw1
            have hR := hR.upM (thC (false) (false) (true)) ord mny hn
            obtain ⟨hm, r0, r1, r2, r3, r4, r5, r6, r7, r8, r9, r10, r11, r12, hinj, hn⟩ := id hR
            have hf1 : fr (MD mo M) w _ := fr.rf.up (b := mo) (e := cellM M (thC (false) (false) (true)) n ord mny) MD.m
            refine g_if_ne C 59 dX3_relate_54 (by decide) (fun c54 => absurd (by simp [bI]) c54) (fun _ => ?_)
            refine g_iconst C (v := 0) dX3_relate_57 (by decide) ?_
            have hp1 : (isDk d && (isTh x9 && isTh y9)) = (false) := by first | rfl | simp [c5, c12, c19]
            have hp2 : (!decide (x9 = y9)) = (false) := by first | rfl | simp [c29]
            have hp3 : (decide (n < 120)) = (true) := by first | rfl | simp [c43]
            refine g_iret C hr dX3_relate_58 (by decide) (by decide) ?_
            rw [hp3, hp2, hp1]
            exact Or.inl ⟨by simp, rfl, hR, hf1⟩
        · refine g_iconst C (v := 1) dX3_relate_32 (by decide) ?_
          refine g_goto C 37 dX3_relate_33 (by decide) ?_
          first | refine g_aload_n C dX3_relate_37 rfl rfl ?_ | refine g_aload_nN C dX3_relate_37 rfl rfl ?_ | refine g_aload_nq C dX3_relate_37 rfl rfl ?_
          refine g_get C dX3_relate_38 hm rfl kw_X3 1 (by decide) kfX3_58 rfl rfl ?_
          refine g_bipush C (v := 120) dX3_relate_41 (by decide) ?_
          refine g_icmp_ge C 50 dX3_relate_43 (by decide) (fun c43 => ?_) (fun c43 => ?_)
          · have c43 : ¬ n < 120 := by have := (nI_leI (a := 120) (b := n) (by decide) (by omega)).mp c43; omega
            refine g_iconst C (v := 0) dX3_relate_50 (by decide) ?_
            refine g_callVn C _ dX3_relate_51 (c_X3_goes l G _ _ _ _ _ _ _ _ _ hR (false) (true) (false)) kmX3_68 ki_X3_goes kv_X3_goes kn_X3 kc_X3_goes hy_X3_goes ⟨by decide, by decide⟩ hm rfl rfl (Nat.le_of_ble_eq_true rfl) ⟨by decide, by decide⟩ (fun v w1 hp => ?_)
            obtain ⟨rfl, hw1⟩ := hp
            have hw1 := hw1.symm
            subst hw1
            have hR := hR.upM (thC (false) (true) (false)) ord mny hn
            obtain ⟨hm, r0, r1, r2, r3, r4, r5, r6, r7, r8, r9, r10, r11, r12, hinj, hn⟩ := id hR
            have hf1 : fr (MD mo M) w _ := fr.rf.up (b := mo) (e := cellM M (thC (false) (true) (false)) n ord mny) MD.m
            refine g_if_ne C 59 dX3_relate_54 (by decide) (fun c54 => absurd (by simp [bI]) c54) (fun _ => ?_)
            refine g_iconst C (v := 0) dX3_relate_57 (by decide) ?_
            have hp1 : (isDk d && (isTh x9 && isTh y9)) = (false) := by first | rfl | simp [c5, c12, c19]
            have hp2 : (!decide (x9 = y9)) = (true) := by first | rfl | simp [c29]
            have hp3 : (decide (n < 120)) = (false) := by first | rfl | simp [c43]
            refine g_iret C hr dX3_relate_58 (by decide) (by decide) ?_
            rw [hp3, hp2, hp1]
            exact Or.inl ⟨by simp, rfl, hR, hf1⟩
          · have c43 : n < 120 := nI_nge c43 (by omega) (by decide)
            refine g_iconst C (v := 1) dX3_relate_46 (by decide) ?_
            refine g_goto C 51 dX3_relate_47 (by decide) ?_
            refine g_callVn C _ dX3_relate_51 (c_X3_goes l G _ _ _ _ _ _ _ _ _ hR (false) (true) (true)) kmX3_68 ki_X3_goes kv_X3_goes kn_X3 kc_X3_goes hy_X3_goes ⟨by decide, by decide⟩ hm rfl rfl (Nat.le_of_ble_eq_true rfl) ⟨by decide, by decide⟩ (fun v w1 hp => ?_)
            obtain ⟨rfl, hw1⟩ := hp
            have hw1 := hw1.symm
            subst hw1
            have hR := hR.upM (thC (false) (true) (true)) ord mny hn
            obtain ⟨hm, r0, r1, r2, r3, r4, r5, r6, r7, r8, r9, r10, r11, r12, hinj, hn⟩ := id hR
            have hf1 : fr (MD mo M) w _ := fr.rf.up (b := mo) (e := cellM M (thC (false) (true) (true)) n ord mny) MD.m
            refine g_if_ne C 59 dX3_relate_54 (by decide) (fun c54 => absurd (by simp [bI]) c54) (fun _ => ?_)
            refine g_iconst C (v := 0) dX3_relate_57 (by decide) ?_
            have hp1 : (isDk d && (isTh x9 && isTh y9)) = (false) := by first | rfl | simp [c5, c12, c19]
            have hp2 : (!decide (x9 = y9)) = (true) := by first | rfl | simp [c29]
            have hp3 : (decide (n < 120)) = (true) := by first | rfl | simp [c43]
            refine g_iret C hr dX3_relate_58 (by decide) (by decide) ?_
            rw [hp3, hp2, hp1]
            exact Or.inl ⟨by simp, rfl, hR, hf1⟩
      · have c19 := bI_nz.mp c19
        refine g_iconst C (v := 1) dX3_relate_22 (by decide) ?_
        refine g_goto C 27 dX3_relate_23 (by decide) ?_
        refine g_iload_n C dX3_relate_27 rfl rfl ?_
        refine g_iload_n C dX3_relate_28 rfl rfl ?_
        refine g_icmp_eq C 36 dX3_relate_29 (by decide) (fun c29 => ?_) (fun c29 => ?_)
        · refine g_iconst C (v := 0) dX3_relate_36 (by decide) ?_
          first | refine g_aload_n C dX3_relate_37 rfl rfl ?_ | refine g_aload_nN C dX3_relate_37 rfl rfl ?_ | refine g_aload_nq C dX3_relate_37 rfl rfl ?_
          refine g_get C dX3_relate_38 hm rfl kw_X3 1 (by decide) kfX3_58 rfl rfl ?_
          refine g_bipush C (v := 120) dX3_relate_41 (by decide) ?_
          refine g_icmp_ge C 50 dX3_relate_43 (by decide) (fun c43 => ?_) (fun c43 => ?_)
          · have c43 : ¬ n < 120 := by have := (nI_leI (a := 120) (b := n) (by decide) (by omega)).mp c43; omega
            refine g_iconst C (v := 0) dX3_relate_50 (by decide) ?_
            refine g_callVn C _ dX3_relate_51 (c_X3_goes l G _ _ _ _ _ _ _ _ _ hR (true) (false) (false)) kmX3_68 ki_X3_goes kv_X3_goes kn_X3 kc_X3_goes hy_X3_goes ⟨by decide, by decide⟩ hm rfl rfl (Nat.le_of_ble_eq_true rfl) ⟨by decide, by decide⟩ (fun v w1 hp => ?_)
            obtain ⟨rfl, hw1⟩ := hp
            have hw1 := hw1.symm
            subst hw1
            have hR := hR.upM (thC (true) (false) (false)) ord mny hn
            obtain ⟨hm, r0, r1, r2, r3, r4, r5, r6, r7, r8, r9, r10, r11, r12, hinj, hn⟩ := id hR
            have hf1 : fr (MD mo M) w _ := fr.rf.up (b := mo) (e := cellM M (thC (true) (false) (false)) n ord mny) MD.m
            refine g_if_ne C 59 dX3_relate_54 (by decide) (fun c54 => absurd (by simp [bI]) c54) (fun _ => ?_)
            refine g_iconst C (v := 0) dX3_relate_57 (by decide) ?_
            have hp1 : (isDk d && (isTh x9 && isTh y9)) = (true) := by first | rfl | simp [c5, c12, c19]
            have hp2 : (!decide (x9 = y9)) = (false) := by first | rfl | simp [c29]
            have hp3 : (decide (n < 120)) = (false) := by first | rfl | simp [c43]
            refine g_iret C hr dX3_relate_58 (by decide) (by decide) ?_
            rw [hp3, hp2, hp1]
            exact Or.inl ⟨by simp, rfl, hR, hf1⟩
          · have c43 : n < 120 := nI_nge c43 (by omega) (by decide)
            refine g_iconst C (v := 1) dX3_relate_46 (by decide) ?_
            refine g_goto C 51 dX3_relate_47 (by decide) ?_
            refine g_callVn C _ dX3_relate_51 (c_X3_goes l G _ _ _ _ _ _ _ _ _ hR (true) (false) (true)) kmX3_68 ki_X3_goes kv_X3_goes kn_X3 kc_X3_goes hy_X3_goes ⟨by decide, by decide⟩ hm rfl rfl (Nat.le_of_ble_eq_true rfl) ⟨by decide, by decide⟩ (fun v w1 hp => ?_)
            obtain ⟨rfl, hw1⟩ := hp
            have hw1 := hw1.symm
            subst hw1
            have hR := hR.upM (thC (true) (false) (true)) ord mny hn
            obtain ⟨hm, r0, r1, r2, r3, r4, r5, r6, r7, r8, r9, r10, r11, r12, hinj, hn⟩ := id hR
            have hf1 : fr (MD mo M) w _ := fr.rf.up (b := mo) (e := cellM M (thC (true) (false) (true)) n ord mny) MD.m
            refine g_if_ne C 59 dX3_relate_54 (by decide) (fun c54 => absurd (by simp [bI]) c54) (fun _ => ?_)
            refine g_iconst C (v := 0) dX3_relate_57 (by decide) ?_
            have hp1 : (isDk d && (isTh x9 && isTh y9)) = (true) := by first | rfl | simp [c5, c12, c19]
            have hp2 : (!decide (x9 = y9)) = (false) := by first | rfl | simp [c29]
            have hp3 : (decide (n < 120)) = (true) := by first | rfl | simp [c43]
            refine g_iret C hr dX3_relate_58 (by decide) (by decide) ?_
            rw [hp3, hp2, hp1]
            exact Or.inl ⟨by simp, rfl, hR, hf1⟩
        · refine g_iconst C (v := 1) dX3_relate_32 (by decide) ?_
          refine g_goto C 37 dX3_relate_33 (by decide) ?_
          first | refine g_aload_n C dX3_relate_37 rfl rfl ?_ | refine g_aload_nN C dX3_relate_37 rfl rfl ?_ | refine g_aload_nq C dX3_relate_37 rfl rfl ?_
          refine g_get C dX3_relate_38 hm rfl kw_X3 1 (by decide) kfX3_58 rfl rfl ?_
          refine g_bipush C (v := 120) dX3_relate_41 (by decide) ?_
          refine g_icmp_ge C 50 dX3_relate_43 (by decide) (fun c43 => ?_) (fun c43 => ?_)
          · have c43 : ¬ n < 120 := by have := (nI_leI (a := 120) (b := n) (by decide) (by omega)).mp c43; omega
            refine g_iconst C (v := 0) dX3_relate_50 (by decide) ?_
            refine g_callVn C _ dX3_relate_51 (c_X3_goes l G _ _ _ _ _ _ _ _ _ hR (true) (true) (false)) kmX3_68 ki_X3_goes kv_X3_goes kn_X3 kc_X3_goes hy_X3_goes ⟨by decide, by decide⟩ hm rfl rfl (Nat.le_of_ble_eq_true rfl) ⟨by decide, by decide⟩ (fun v w1 hp => ?_)
            obtain ⟨rfl, hw1⟩ := hp
            have hw1 := hw1.symm
            subst hw1
            have hR := hR.upM (thC (true) (true) (false)) ord mny hn
            obtain ⟨hm, r0, r1, r2, r3, r4, r5, r6, r7, r8, r9, r10, r11, r12, hinj, hn⟩ := id hR
            have hf1 : fr (MD mo M) w _ := fr.rf.up (b := mo) (e := cellM M (thC (true) (true) (false)) n ord mny) MD.m
            refine g_if_ne C 59 dX3_relate_54 (by decide) (fun c54 => absurd (by simp [bI]) c54) (fun _ => ?_)
            refine g_iconst C (v := 0) dX3_relate_57 (by decide) ?_
            have hp1 : (isDk d && (isTh x9 && isTh y9)) = (true) := by first | rfl | simp [c5, c12, c19]
            have hp2 : (!decide (x9 = y9)) = (true) := by first | rfl | simp [c29]
            have hp3 : (decide (n < 120)) = (false) := by first | rfl | simp [c43]
            refine g_iret C hr dX3_relate_58 (by decide) (by decide) ?_
            rw [hp3, hp2, hp1]
            exact Or.inl ⟨by simp, rfl, hR, hf1⟩
          · have c43 : n < 120 := nI_nge c43 (by omega) (by decide)
            refine g_iconst C (v := 1) dX3_relate_46 (by decide) ?_
            refine g_goto C 51 dX3_relate_47 (by decide) ?_
            refine g_callVn C _ dX3_relate_51 (c_X3_goes l G _ _ _ _ _ _ _ _ _ hR (true) (true) (true)) kmX3_68 ki_X3_goes kv_X3_goes kn_X3 kc_X3_goes hy_X3_goes ⟨by decide, by decide⟩ hm rfl rfl (Nat.le_of_ble_eq_true rfl) ⟨by decide, by decide⟩ (fun v w1 hp => ?_)
            obtain ⟨rfl, hw1⟩ := hp
            have hw1 := hw1.symm
            subst hw1
            have hR := hR.upM (thC (true) (true) (true)) ord mny hn
            obtain ⟨hm, r0, r1, r2, r3, r4, r5, r6, r7, r8, r9, r10, r11, r12, hinj, hn⟩ := id hR
            have hf1 : fr (MD mo M) w _ := fr.rf.up (b := mo) (e := cellM M (thC (true) (true) (true)) n ord mny) MD.m
            refine g_if_ne C 59 dX3_relate_54 (by decide) (fun c54 => ?_) (fun c54 => ?_)
            · have c54 := bI_nz.mp c54
              obtain ⟨d', hd', rfl⟩ := isDk_nI c5
              first | refine g_aload_n C dX3_relate_59 rfl rfl ?_ | refine g_aload_nN C dX3_relate_59 rfl rfl ?_ | refine g_aload_nq C dX3_relate_59 rfl rfl ?_
              refine g_iload_n C dX3_relate_60 rfl rfl ?_
              refine g_iconst C (v := 5) dX3_relate_61 (by decide) ?_
              refine g_iconst C (v := (-1)) dX3_relate_62 (by decide) ?_
              refine g_bipush C (v := 16) dX3_relate_63 (by decide) ?_
              refine g_iload_n C dX3_relate_65 rfl rfl ?_
              refine g_imul C dX3_relate_66 ?_
              refine g_iload_n C dX3_relate_67 rfl rfl ?_
              refine g_iadd C dX3_relate_68 ?_
              refine g_iconst C (v := (-1)) dX3_relate_69 (by decide) ?_
              refine g_callVn C _ dX3_relate_70 (c_X3_make l G _ _ _ _ _ _ _ _ _ hR d' (by omega) _ _ _ _ (by omega)) kmX3_71 ki_X3_make kv_X3_make kn_X3 kc_X3_make hy_X3_make ⟨by decide, by decide⟩ hm rfl rfl (Nat.le_of_ble_eq_true rfl) ⟨by decide, by decide⟩ (fun v w1 hp => ?_)
              obtain ⟨rfl, hR2, hf2⟩ := hp
              have hp1 : (isDk (nI d') && (isTh x9 && isTh y9)) = (true) := by first | rfl | simp [c5, c12, c19]
              have hp2 : (!decide (x9 = y9)) = (true) := by first | rfl | simp [c29]
              have hp3 : (decide (n < 120)) = (true) := by first | rfl | simp [c43]
              have hth := thC_t c54
              refine g_iret C hr dX3_relate_73 (by decide) (by decide) ?_
              rw [hp3, hp2, hp1]
              exact Or.inr ⟨c54, _, rfl, _, hd', rfl, rfl, hR2.th hth, hf1.trans hf2⟩
            · have c54 := bI_z.mp c54
              refine g_iconst C (v := 0) dX3_relate_57 (by decide) ?_
              have hp1 : (isDk d && (isTh x9 && isTh y9)) = (true) := by first | rfl | simp [c5, c12, c19]
              have hp2 : (!decide (x9 = y9)) = (true) := by first | rfl | simp [c29]
              have hp3 : (decide (n < 120)) = (true) := by first | rfl | simp [c43]
              refine g_iret C hr dX3_relate_58 (by decide) (by decide) ?_
              rw [hp3, hp2, hp1]
              exact Or.inl ⟨c54, rfl, hR, hf1⟩

theorem kOf_nI {n : Nat} {B : Nat → Nat → Bool} {d t : Int32} (hn : n ≤ 120) (h : kOf n B d t = true) : ∃ d' t', d' < 6 ∧ t' < n ∧ d = nI d' ∧ t = nI t' ∧ B 7 (120 * d' + t') = true := by
  simp only [kOf, Bool.and_eq_true, Bool.not_eq_true', decide_eq_false_iff_not, decide_eq_true_eq] at h
  obtain ⟨h1, h2, h3, h4⟩ := h
  obtain ⟨d', hd, rfl⟩ := isDk_nI h1
  obtain ⟨t', ht, rfl⟩ := isM_of (by omega) h2 h3
  rw [nI_clamp (by omega), nI_clamp (by omega)] at h4
  exact ⟨d', t', hd, ht, rfl, rfl, h4⟩
set_option maxHeartbeats 4000000 in
set_option maxRecDepth 100000 in
theorem c_X3_remove (l : Launch) (G : hD) (w : hW) (mo : Nat) (M : Nat → Nat) (n : Nat) (I : Nat → Nat → Int32) (B : Nat → Nat → Bool) (thr ord mny : Int32) (hR : MR G mo M n I B thr ord mny w) (d t : Int32) : h_Met l yX3_remove (Cond.code yX3_remove cX3_remove 4 (some .int)) { frames := 2, cells := 0, slots := 0, locals := 60 } G [.ref mo, .int d, .int t] w (mP G mo M n I B ord mny w (kOf n B d t) (kOf n B d t && decide (I 2 t.toNatClampNeg = 3)) (decide (n < 120)) (fun x w' => ∃ d', d' < 6 ∧ d = nI d' ∧ mK G mo M n I B ord mny w d' 4 (-1) t (-1) x w')) noX := by
  refine h_met RX3 rfl (by decide) (Nat.le_of_ble_eq_true rfl) (cat_c (by first | rfl | exact rf_cat _) (cat_c (by first | rfl | exact rf_cat _) (cat_c (by first | rfl | exact rf_cat _) cat_n))) ?_
  intro p e s m below meth c A C hnt hr hnm
  obtain ⟨hm, r0, r1, r2, r3, r4, r5, r6, r7, r8, r9, r10, r11, r12, hinj, hn⟩ := id hR
  first | refine g_aload_n C dX3_remove_0 rfl rfl ?_ | refine g_aload_nN C dX3_remove_0 rfl rfl ?_ | refine g_aload_nq C dX3_remove_0 rfl rfl ?_
  refine g_iload_n C dX3_remove_1 rfl rfl ?_
  refine g_iload_n C dX3_remove_2 rfl rfl ?_
  refine g_callVn C _ dX3_remove_3 (c_X3_knowsOf l G _ _ _ _ _ _ _ _ _ hR _ _) kmX3_75 ki_X3_knowsOf kv_X3_knowsOf kn_X3 kc_X3_knowsOf hy_X3_knowsOf ⟨by decide, by decide⟩ hm rfl rfl (Nat.le_of_ble_eq_true rfl) ⟨by decide, by decide⟩ (fun v w1 hp => ?_)
  obtain ⟨rfl, hw1⟩ := hp
  have hw1 := hw1.symm
  subst hw1
  refine g_istore_n C dX3_remove_6 rfl (by decide) ?_
  first | refine g_aload_n C dX3_remove_7 rfl rfl ?_ | refine g_aload_nN C dX3_remove_7 rfl rfl ?_ | refine g_aload_nq C dX3_remove_7 rfl rfl ?_
  refine g_iload_n C dX3_remove_8 rfl rfl ?_
  refine g_iload_n C dX3_remove_9 rfl rfl ?_
  refine g_if_eq C 27 dX3_remove_10 (by decide) (fun c10 => ?_) (fun c10 => ?_)
  · have c10 := bI_z.mp c10
    refine g_iconst C (v := 0) dX3_remove_27 (by decide) ?_
    first | refine g_aload_n C dX3_remove_28 rfl rfl ?_ | refine g_aload_nN C dX3_remove_28 rfl rfl ?_ | refine g_aload_nq C dX3_remove_28 rfl rfl ?_
    refine g_get C dX3_remove_29 hm rfl kw_X3 1 (by decide) kfX3_58 rfl rfl ?_
    refine g_bipush C (v := 120) dX3_remove_32 (by decide) ?_
    refine g_icmp_ge C 41 dX3_remove_34 (by decide) (fun c34 => ?_) (fun c34 => ?_)
    · have c34 : ¬ n < 120 := by have := (nI_leI (a := 120) (b := n) (by decide) (by omega)).mp c34; omega
      refine g_iconst C (v := 0) dX3_remove_41 (by decide) ?_
      refine g_callVn C _ dX3_remove_42 (c_X3_goes l G _ _ _ _ _ _ _ _ _ hR (kOf n B d t) (false) (false)) kmX3_68 ki_X3_goes kv_X3_goes kn_X3 kc_X3_goes hy_X3_goes ⟨by decide, by decide⟩ hm rfl rfl (Nat.le_of_ble_eq_true rfl) ⟨by decide, by decide⟩ (fun v w1 hp => ?_)
      obtain ⟨rfl, hw1⟩ := hp
      have hw1 := hw1.symm
      subst hw1
      have hR := hR.upM (thC (kOf n B d t) (false) (false)) ord mny hn
      obtain ⟨hm, r0, r1, r2, r3, r4, r5, r6, r7, r8, r9, r10, r11, r12, hinj, hn⟩ := id hR
      have hf1 : fr (MD mo M) w _ := fr.rf.up (b := mo) (e := cellM M (thC (kOf n B d t) (false) (false)) n ord mny) MD.m
      refine g_if_ne C 50 dX3_remove_45 (by decide) (fun c45 => absurd (by simp [bI]) c45) (fun _ => ?_)
      refine g_iconst C (v := 0) dX3_remove_48 (by decide) ?_
      have hp1 : (kOf n B d t) = (kOf n B d t) := by first | rfl | simp [c10]
      have hp2 : (kOf n B d t && decide (I 2 t.toNatClampNeg = 3)) = (false) := by first | rfl | simp [c10]
      have hp3 : (decide (n < 120)) = (false) := by first | rfl | simp [c34]
      refine g_iret C hr dX3_remove_49 (by decide) (by decide) ?_
      rw [hp3, hp2, hp1]
      exact Or.inl ⟨by simp, rfl, hR, hf1⟩
    · have c34 : n < 120 := nI_nge c34 (by omega) (by decide)
      refine g_iconst C (v := 1) dX3_remove_37 (by decide) ?_
      refine g_goto C 42 dX3_remove_38 (by decide) ?_
      refine g_callVn C _ dX3_remove_42 (c_X3_goes l G _ _ _ _ _ _ _ _ _ hR (kOf n B d t) (false) (true)) kmX3_68 ki_X3_goes kv_X3_goes kn_X3 kc_X3_goes hy_X3_goes ⟨by decide, by decide⟩ hm rfl rfl (Nat.le_of_ble_eq_true rfl) ⟨by decide, by decide⟩ (fun v w1 hp => ?_)
      obtain ⟨rfl, hw1⟩ := hp
      have hw1 := hw1.symm
      subst hw1
      have hR := hR.upM (thC (kOf n B d t) (false) (true)) ord mny hn
      obtain ⟨hm, r0, r1, r2, r3, r4, r5, r6, r7, r8, r9, r10, r11, r12, hinj, hn⟩ := id hR
      have hf1 : fr (MD mo M) w _ := fr.rf.up (b := mo) (e := cellM M (thC (kOf n B d t) (false) (true)) n ord mny) MD.m
      refine g_if_ne C 50 dX3_remove_45 (by decide) (fun c45 => absurd (by simp [bI]) c45) (fun _ => ?_)
      refine g_iconst C (v := 0) dX3_remove_48 (by decide) ?_
      have hp1 : (kOf n B d t) = (kOf n B d t) := by first | rfl | simp [c10]
      have hp2 : (kOf n B d t && decide (I 2 t.toNatClampNeg = 3)) = (false) := by first | rfl | simp [c10]
      have hp3 : (decide (n < 120)) = (true) := by first | rfl | simp [c34]
      refine g_iret C hr dX3_remove_49 (by decide) (by decide) ?_
      rw [hp3, hp2, hp1]
      exact Or.inl ⟨by simp, rfl, hR, hf1⟩
  · have c10 := bI_nz.mp c10
    obtain ⟨d', t', hd', ht', rfl, rfl, hB⟩ := kOf_nI hn c10
    first | refine g_aload_n C dX3_remove_13 rfl rfl ?_ | refine g_aload_nN C dX3_remove_13 rfl rfl ?_ | refine g_aload_nq C dX3_remove_13 rfl rfl ?_
    refine g_get C dX3_remove_14 hm rfl kw_X3 4 (by decide) kfX3_16 rfl rfl ?_
    refine g_iload_n C dX3_remove_17 rfl rfl ?_
    refine g_ialdN C dX3_remove_18 r2 (by omega) (by decide) ?_
    refine g_iconst C (v := 3) dX3_remove_19 (by decide) ?_
    refine g_icmp_ne C 27 dX3_remove_20 (by decide) (fun c20 => ?_) (fun c20 => ?_)
    · refine g_iconst C (v := 0) dX3_remove_27 (by decide) ?_
      first | refine g_aload_n C dX3_remove_28 rfl rfl ?_ | refine g_aload_nN C dX3_remove_28 rfl rfl ?_ | refine g_aload_nq C dX3_remove_28 rfl rfl ?_
      refine g_get C dX3_remove_29 hm rfl kw_X3 1 (by decide) kfX3_58 rfl rfl ?_
      refine g_bipush C (v := 120) dX3_remove_32 (by decide) ?_
      refine g_icmp_ge C 41 dX3_remove_34 (by decide) (fun c34 => ?_) (fun c34 => ?_)
      · have c34 : ¬ n < 120 := by have := (nI_leI (a := 120) (b := n) (by decide) (by omega)).mp c34; omega
        refine g_iconst C (v := 0) dX3_remove_41 (by decide) ?_
        refine g_callVn C _ dX3_remove_42 (c_X3_goes l G _ _ _ _ _ _ _ _ _ hR (kOf n B (nI d') (nI t')) (false) (false)) kmX3_68 ki_X3_goes kv_X3_goes kn_X3 kc_X3_goes hy_X3_goes ⟨by decide, by decide⟩ hm rfl rfl (Nat.le_of_ble_eq_true rfl) ⟨by decide, by decide⟩ (fun v w1 hp => ?_)
        obtain ⟨rfl, hw1⟩ := hp
        have hw1 := hw1.symm
        subst hw1
        have hR := hR.upM (thC (kOf n B (nI d') (nI t')) (false) (false)) ord mny hn
        obtain ⟨hm, r0, r1, r2, r3, r4, r5, r6, r7, r8, r9, r10, r11, r12, hinj, hn⟩ := id hR
        have hf1 : fr (MD mo M) w _ := fr.rf.up (b := mo) (e := cellM M (thC (kOf n B (nI d') (nI t')) (false) (false)) n ord mny) MD.m
        refine g_if_ne C 50 dX3_remove_45 (by decide) (fun c45 => absurd (by simp [bI]) c45) (fun _ => ?_)
        refine g_iconst C (v := 0) dX3_remove_48 (by decide) ?_
        have c20 : I 2 (nI t').toNatClampNeg ≠ 3 := by rw [nI_clamp (by omega)]; exact c20
        have hp1 : (kOf n B (nI d') (nI t')) = (kOf n B (nI d') (nI t')) := by first | rfl | simp [c10]
        have hp2 : (kOf n B (nI d') (nI t') && decide (I 2 (nI t').toNatClampNeg = 3)) = (false) := by first | rfl | simp [c10, c20]
        have hp3 : (decide (n < 120)) = (false) := by first | rfl | simp [c34]
        refine g_iret C hr dX3_remove_49 (by decide) (by decide) ?_
        rw [hp3, hp2, hp1]
        exact Or.inl ⟨by simp, rfl, hR, hf1⟩
      · have c34 : n < 120 := nI_nge c34 (by omega) (by decide)
        refine g_iconst C (v := 1) dX3_remove_37 (by decide) ?_
        refine g_goto C 42 dX3_remove_38 (by decide) ?_
        refine g_callVn C _ dX3_remove_42 (c_X3_goes l G _ _ _ _ _ _ _ _ _ hR (kOf n B (nI d') (nI t')) (false) (true)) kmX3_68 ki_X3_goes kv_X3_goes kn_X3 kc_X3_goes hy_X3_goes ⟨by decide, by decide⟩ hm rfl rfl (Nat.le_of_ble_eq_true rfl) ⟨by decide, by decide⟩ (fun v w1 hp => ?_)
        obtain ⟨rfl, hw1⟩ := hp
        have hw1 := hw1.symm
        subst hw1
        have hR := hR.upM (thC (kOf n B (nI d') (nI t')) (false) (true)) ord mny hn
        obtain ⟨hm, r0, r1, r2, r3, r4, r5, r6, r7, r8, r9, r10, r11, r12, hinj, hn⟩ := id hR
        have hf1 : fr (MD mo M) w _ := fr.rf.up (b := mo) (e := cellM M (thC (kOf n B (nI d') (nI t')) (false) (true)) n ord mny) MD.m
        refine g_if_ne C 50 dX3_remove_45 (by decide) (fun c45 => absurd (by simp [bI]) c45) (fun _ => ?_)
        refine g_iconst C (v := 0) dX3_remove_48 (by decide) ?_
        have c20 : I 2 (nI t').toNatClampNeg ≠ 3 := by rw [nI_clamp (by omega)]; exact c20
        have hp1 : (kOf n B (nI d') (nI t')) = (kOf n B (nI d') (nI t')) := by first | rfl | simp [c10]
        have hp2 : (kOf n B (nI d') (nI t') && decide (I 2 (nI t').toNatClampNeg = 3)) = (false) := by first | rfl | simp [c10, c20]
        have hp3 : (decide (n < 120)) = (true) := by first | rfl | simp [c34]
        refine g_iret C hr dX3_remove_49 (by decide) (by decide) ?_
        rw [hp3, hp2, hp1]
        exact Or.inl ⟨by simp, rfl, hR, hf1⟩
    · refine g_iconst C (v := 1) dX3_remove_23 (by decide) ?_
      refine g_goto C 28 dX3_remove_24 (by decide) ?_
      first | refine g_aload_n C dX3_remove_28 rfl rfl ?_ | refine g_aload_nN C dX3_remove_28 rfl rfl ?_ | refine g_aload_nq C dX3_remove_28 rfl rfl ?_
      refine g_get C dX3_remove_29 hm rfl kw_X3 1 (by decide) kfX3_58 rfl rfl ?_
      refine g_bipush C (v := 120) dX3_remove_32 (by decide) ?_
      refine g_icmp_ge C 41 dX3_remove_34 (by decide) (fun c34 => ?_) (fun c34 => ?_)
      · have c34 : ¬ n < 120 := by have := (nI_leI (a := 120) (b := n) (by decide) (by omega)).mp c34; omega
        refine g_iconst C (v := 0) dX3_remove_41 (by decide) ?_
        refine g_callVn C _ dX3_remove_42 (c_X3_goes l G _ _ _ _ _ _ _ _ _ hR (kOf n B (nI d') (nI t')) (true) (false)) kmX3_68 ki_X3_goes kv_X3_goes kn_X3 kc_X3_goes hy_X3_goes ⟨by decide, by decide⟩ hm rfl rfl (Nat.le_of_ble_eq_true rfl) ⟨by decide, by decide⟩ (fun v w1 hp => ?_)
        obtain ⟨rfl, hw1⟩ := hp
        have hw1 := hw1.symm
        subst hw1
        have hR := hR.upM (thC (kOf n B (nI d') (nI t')) (true) (false)) ord mny hn
        obtain ⟨hm, r0, r1, r2, r3, r4, r5, r6, r7, r8, r9, r10, r11, r12, hinj, hn⟩ := id hR
        have hf1 : fr (MD mo M) w _ := fr.rf.up (b := mo) (e := cellM M (thC (kOf n B (nI d') (nI t')) (true) (false)) n ord mny) MD.m
        refine g_if_ne C 50 dX3_remove_45 (by decide) (fun c45 => absurd (by simp [bI]) c45) (fun _ => ?_)
        refine g_iconst C (v := 0) dX3_remove_48 (by decide) ?_
        have c20 : I 2 (nI t').toNatClampNeg = 3 := by rw [nI_clamp (by omega)]; exact c20
        have hp1 : (kOf n B (nI d') (nI t')) = (kOf n B (nI d') (nI t')) := by first | rfl | simp [c10]
        have hp2 : (kOf n B (nI d') (nI t') && decide (I 2 (nI t').toNatClampNeg = 3)) = (true) := by first | rfl | simp [c10, c20]
        have hp3 : (decide (n < 120)) = (false) := by first | rfl | simp [c34]
        refine g_iret C hr dX3_remove_49 (by decide) (by decide) ?_
        rw [hp3, hp2, hp1]
        exact Or.inl ⟨by simp, rfl, hR, hf1⟩
      · have c34 : n < 120 := nI_nge c34 (by omega) (by decide)
        refine g_iconst C (v := 1) dX3_remove_37 (by decide) ?_
        refine g_goto C 42 dX3_remove_38 (by decide) ?_
        refine g_callVn C _ dX3_remove_42 (c_X3_goes l G _ _ _ _ _ _ _ _ _ hR (kOf n B (nI d') (nI t')) (true) (true)) kmX3_68 ki_X3_goes kv_X3_goes kn_X3 kc_X3_goes hy_X3_goes ⟨by decide, by decide⟩ hm rfl rfl (Nat.le_of_ble_eq_true rfl) ⟨by decide, by decide⟩ (fun v w1 hp => ?_)
        obtain ⟨rfl, hw1⟩ := hp
        have hw1 := hw1.symm
        subst hw1
        have hR := hR.upM (thC (kOf n B (nI d') (nI t')) (true) (true)) ord mny hn
        obtain ⟨hm, r0, r1, r2, r3, r4, r5, r6, r7, r8, r9, r10, r11, r12, hinj, hn⟩ := id hR
        have hf1 : fr (MD mo M) w _ := fr.rf.up (b := mo) (e := cellM M (thC (kOf n B (nI d') (nI t')) (true) (true)) n ord mny) MD.m
        refine g_if_ne C 50 dX3_remove_45 (by decide) (fun c45 => ?_) (fun c45 => ?_)
        · have c45 := bI_nz.mp c45
          first | refine g_aload_n C dX3_remove_50 rfl rfl ?_ | refine g_aload_nN C dX3_remove_50 rfl rfl ?_ | refine g_aload_nq C dX3_remove_50 rfl rfl ?_
          refine g_iload_n C dX3_remove_51 rfl rfl ?_
          refine g_iconst C (v := 4) dX3_remove_52 (by decide) ?_
          refine g_iconst C (v := (-1)) dX3_remove_53 (by decide) ?_
          refine g_iload_n C dX3_remove_54 rfl rfl ?_
          refine g_iconst C (v := (-1)) dX3_remove_55 (by decide) ?_
          refine g_callVn C _ dX3_remove_56 (c_X3_make l G _ _ _ _ _ _ _ _ _ hR d' (by omega) _ _ _ _ (by omega)) kmX3_71 ki_X3_make kv_X3_make kn_X3 kc_X3_make hy_X3_make ⟨by decide, by decide⟩ hm rfl rfl (Nat.le_of_ble_eq_true rfl) ⟨by decide, by decide⟩ (fun v w1 hp => ?_)
          obtain ⟨rfl, hR2, hf2⟩ := hp
          have c20 : I 2 (nI t').toNatClampNeg = 3 := by rw [nI_clamp (by omega)]; exact c20
          have hp1 : (kOf n B (nI d') (nI t')) = (kOf n B (nI d') (nI t')) := by first | rfl | simp [c10]
          have hp2 : (kOf n B (nI d') (nI t') && decide (I 2 (nI t').toNatClampNeg = 3)) = (true) := by first | rfl | simp [c10, c20]
          have hp3 : (decide (n < 120)) = (true) := by first | rfl | simp [c34]
          have hth := thC_t c45
          refine g_iret C hr dX3_remove_59 (by decide) (by decide) ?_
          rw [hp3, hp2, hp1]
          exact Or.inr ⟨c45, _, rfl, _, hd', rfl, rfl, hR2.th hth, hf1.trans hf2⟩
        · have c45 := bI_z.mp c45
          refine g_iconst C (v := 0) dX3_remove_48 (by decide) ?_
          have c20 : I 2 (nI t').toNatClampNeg = 3 := by rw [nI_clamp (by omega)]; exact c20
          have hp1 : (kOf n B (nI d') (nI t')) = (kOf n B (nI d') (nI t')) := by first | rfl | simp [c10]
          have hp2 : (kOf n B (nI d') (nI t') && decide (I 2 (nI t').toNatClampNeg = 3)) = (true) := by first | rfl | simp [c10, c20]
          have hp3 : (decide (n < 120)) = (true) := by first | rfl | simp [c34]
          refine g_iret C hr dX3_remove_49 (by decide) (by decide) ?_
          rw [hp3, hp2, hp1]
          exact Or.inl ⟨c45, rfl, hR, hf1⟩

set_option maxHeartbeats 4000000 in
set_option maxRecDepth 100000 in
theorem c_X3_drop (l : Launch) (G : hD) (w : hW) (mo : Nat) (M : Nat → Nat) (n : Nat) (I : Nat → Nat → Int32) (B : Nat → Nat → Bool) (thr ord mny : Int32) (hR : MR G mo M n I B thr ord mny w) (d t : Int32) : h_Met l yX3_drop (Cond.code yX3_drop cX3_drop 4 (some .int)) { frames := 2, cells := 0, slots := 0, locals := 60 } G [.ref mo, .int d, .int t] w (mP G mo M n I B ord mny w (kOf n B d t) (kOf n B d t && decide (I 2 t.toNatClampNeg = 5)) (decide (n < 120)) (fun x w' => ∃ d', d' < 6 ∧ d = nI d' ∧ mK G mo M n I B ord mny w d' 6 (-1) t (-1) x w')) noX := by
  refine h_met RX3 rfl (by decide) (Nat.le_of_ble_eq_true rfl) (cat_c (by first | rfl | exact rf_cat _) (cat_c (by first | rfl | exact rf_cat _) (cat_c (by first | rfl | exact rf_cat _) cat_n))) ?_
  intro p e s m below meth c A C hnt hr hnm
  obtain ⟨hm, r0, r1, r2, r3, r4, r5, r6, r7, r8, r9, r10, r11, r12, hinj, hn⟩ := id hR
  first | refine g_aload_n C dX3_drop_0 rfl rfl ?_ | refine g_aload_nN C dX3_drop_0 rfl rfl ?_ | refine g_aload_nq C dX3_drop_0 rfl rfl ?_
  refine g_iload_n C dX3_drop_1 rfl rfl ?_
  refine g_iload_n C dX3_drop_2 rfl rfl ?_
  refine g_callVn C _ dX3_drop_3 (c_X3_knowsOf l G _ _ _ _ _ _ _ _ _ hR _ _) kmX3_75 ki_X3_knowsOf kv_X3_knowsOf kn_X3 kc_X3_knowsOf hy_X3_knowsOf ⟨by decide, by decide⟩ hm rfl rfl (Nat.le_of_ble_eq_true rfl) ⟨by decide, by decide⟩ (fun v w1 hp => ?_)
  obtain ⟨rfl, hw1⟩ := hp
  have hw1 := hw1.symm
  subst hw1
  refine g_istore_n C dX3_drop_6 rfl (by decide) ?_
  first | refine g_aload_n C dX3_drop_7 rfl rfl ?_ | refine g_aload_nN C dX3_drop_7 rfl rfl ?_ | refine g_aload_nq C dX3_drop_7 rfl rfl ?_
  refine g_iload_n C dX3_drop_8 rfl rfl ?_
  refine g_iload_n C dX3_drop_9 rfl rfl ?_
  refine g_if_eq C 27 dX3_drop_10 (by decide) (fun c10 => ?_) (fun c10 => ?_)
  · have c10 := bI_z.mp c10
    refine g_iconst C (v := 0) dX3_drop_27 (by decide) ?_
    first | refine g_aload_n C dX3_drop_28 rfl rfl ?_ | refine g_aload_nN C dX3_drop_28 rfl rfl ?_ | refine g_aload_nq C dX3_drop_28 rfl rfl ?_
    refine g_get C dX3_drop_29 hm rfl kw_X3 1 (by decide) kfX3_58 rfl rfl ?_
    refine g_bipush C (v := 120) dX3_drop_32 (by decide) ?_
    refine g_icmp_ge C 41 dX3_drop_34 (by decide) (fun c34 => ?_) (fun c34 => ?_)
    · have c34 : ¬ n < 120 := by have := (nI_leI (a := 120) (b := n) (by decide) (by omega)).mp c34; omega
      refine g_iconst C (v := 0) dX3_drop_41 (by decide) ?_
      refine g_callVn C _ dX3_drop_42 (c_X3_goes l G _ _ _ _ _ _ _ _ _ hR (kOf n B d t) (false) (false)) kmX3_68 ki_X3_goes kv_X3_goes kn_X3 kc_X3_goes hy_X3_goes ⟨by decide, by decide⟩ hm rfl rfl (Nat.le_of_ble_eq_true rfl) ⟨by decide, by decide⟩ (fun v w1 hp => ?_)
      obtain ⟨rfl, hw1⟩ := hp
      have hw1 := hw1.symm
      subst hw1
      have hR := hR.upM (thC (kOf n B d t) (false) (false)) ord mny hn
      obtain ⟨hm, r0, r1, r2, r3, r4, r5, r6, r7, r8, r9, r10, r11, r12, hinj, hn⟩ := id hR
      have hf1 : fr (MD mo M) w _ := fr.rf.up (b := mo) (e := cellM M (thC (kOf n B d t) (false) (false)) n ord mny) MD.m
      refine g_if_ne C 50 dX3_drop_45 (by decide) (fun c45 => absurd (by simp [bI]) c45) (fun _ => ?_)
      refine g_iconst C (v := 0) dX3_drop_48 (by decide) ?_
      have hp1 : (kOf n B d t) = (kOf n B d t) := by first | rfl | simp [c10]
      have hp2 : (kOf n B d t && decide (I 2 t.toNatClampNeg = 5)) = (false) := by first | rfl | simp [c10]
      have hp3 : (decide (n < 120)) = (false) := by first | rfl | simp [c34]
      refine g_iret C hr dX3_drop_49 (by decide) (by decide) ?_
      rw [hp3, hp2, hp1]
      exact Or.inl ⟨by simp, rfl, hR, hf1⟩
    · have c34 : n < 120 := nI_nge c34 (by omega) (by decide)
      refine g_iconst C (v := 1) dX3_drop_37 (by decide) ?_
      refine g_goto C 42 dX3_drop_38 (by decide) ?_
      refine g_callVn C _ dX3_drop_42 (c_X3_goes l G _ _ _ _ _ _ _ _ _ hR (kOf n B d t) (false) (true)) kmX3_68 ki_X3_goes kv_X3_goes kn_X3 kc_X3_goes hy_X3_goes ⟨by decide, by decide⟩ hm rfl rfl (Nat.le_of_ble_eq_true rfl) ⟨by decide, by decide⟩ (fun v w1 hp => ?_)
      obtain ⟨rfl, hw1⟩ := hp
      have hw1 := hw1.symm
      subst hw1
      have hR := hR.upM (thC (kOf n B d t) (false) (true)) ord mny hn
      obtain ⟨hm, r0, r1, r2, r3, r4, r5, r6, r7, r8, r9, r10, r11, r12, hinj, hn⟩ := id hR
      have hf1 : fr (MD mo M) w _ := fr.rf.up (b := mo) (e := cellM M (thC (kOf n B d t) (false) (true)) n ord mny) MD.m
      refine g_if_ne C 50 dX3_drop_45 (by decide) (fun c45 => absurd (by simp [bI]) c45) (fun _ => ?_)
      refine g_iconst C (v := 0) dX3_drop_48 (by decide) ?_
      have hp1 : (kOf n B d t) = (kOf n B d t) := by first | rfl | simp [c10]
      have hp2 : (kOf n B d t && decide (I 2 t.toNatClampNeg = 5)) = (false) := by first | rfl | simp [c10]
      have hp3 : (decide (n < 120)) = (true) := by first | rfl | simp [c34]
      refine g_iret C hr dX3_drop_49 (by decide) (by decide) ?_
      rw [hp3, hp2, hp1]
      exact Or.inl ⟨by simp, rfl, hR, hf1⟩
  · have c10 := bI_nz.mp c10
    obtain ⟨d', t', hd', ht', rfl, rfl, hB⟩ := kOf_nI hn c10
    first | refine g_aload_n C dX3_drop_13 rfl rfl ?_ | refine g_aload_nN C dX3_drop_13 rfl rfl ?_ | refine g_aload_nq C dX3_drop_13 rfl rfl ?_
    refine g_get C dX3_drop_14 hm rfl kw_X3 4 (by decide) kfX3_16 rfl rfl ?_
    refine g_iload_n C dX3_drop_17 rfl rfl ?_
    refine g_ialdN C dX3_drop_18 r2 (by omega) (by decide) ?_
    refine g_iconst C (v := 5) dX3_drop_19 (by decide) ?_
    refine g_icmp_ne C 27 dX3_drop_20 (by decide) (fun c20 => ?_) (fun c20 => ?_)
    · refine g_iconst C (v := 0) dX3_drop_27 (by decide) ?_
      first | refine g_aload_n C dX3_drop_28 rfl rfl ?_ | refine g_aload_nN C dX3_drop_28 rfl rfl ?_ | refine g_aload_nq C dX3_drop_28 rfl rfl ?_
      refine g_get C dX3_drop_29 hm rfl kw_X3 1 (by decide) kfX3_58 rfl rfl ?_
      refine g_bipush C (v := 120) dX3_drop_32 (by decide) ?_
      refine g_icmp_ge C 41 dX3_drop_34 (by decide) (fun c34 => ?_) (fun c34 => ?_)
      · have c34 : ¬ n < 120 := by have := (nI_leI (a := 120) (b := n) (by decide) (by omega)).mp c34; omega
        refine g_iconst C (v := 0) dX3_drop_41 (by decide) ?_
        refine g_callVn C _ dX3_drop_42 (c_X3_goes l G _ _ _ _ _ _ _ _ _ hR (kOf n B (nI d') (nI t')) (false) (false)) kmX3_68 ki_X3_goes kv_X3_goes kn_X3 kc_X3_goes hy_X3_goes ⟨by decide, by decide⟩ hm rfl rfl (Nat.le_of_ble_eq_true rfl) ⟨by decide, by decide⟩ (fun v w1 hp => ?_)
        obtain ⟨rfl, hw1⟩ := hp
        have hw1 := hw1.symm
        subst hw1
        have hR := hR.upM (thC (kOf n B (nI d') (nI t')) (false) (false)) ord mny hn
        obtain ⟨hm, r0, r1, r2, r3, r4, r5, r6, r7, r8, r9, r10, r11, r12, hinj, hn⟩ := id hR
        have hf1 : fr (MD mo M) w _ := fr.rf.up (b := mo) (e := cellM M (thC (kOf n B (nI d') (nI t')) (false) (false)) n ord mny) MD.m
        refine g_if_ne C 50 dX3_drop_45 (by decide) (fun c45 => absurd (by simp [bI]) c45) (fun _ => ?_)
        refine g_iconst C (v := 0) dX3_drop_48 (by decide) ?_
        have c20 : I 2 (nI t').toNatClampNeg ≠ 5 := by rw [nI_clamp (by omega)]; exact c20
        have hp1 : (kOf n B (nI d') (nI t')) = (kOf n B (nI d') (nI t')) := by first | rfl | simp [c10]
        have hp2 : (kOf n B (nI d') (nI t') && decide (I 2 (nI t').toNatClampNeg = 5)) = (false) := by first | rfl | simp [c10, c20]
        have hp3 : (decide (n < 120)) = (false) := by first | rfl | simp [c34]
        refine g_iret C hr dX3_drop_49 (by decide) (by decide) ?_
        rw [hp3, hp2, hp1]
        exact Or.inl ⟨by simp, rfl, hR, hf1⟩
      · have c34 : n < 120 := nI_nge c34 (by omega) (by decide)
        refine g_iconst C (v := 1) dX3_drop_37 (by decide) ?_
        refine g_goto C 42 dX3_drop_38 (by decide) ?_
        refine g_callVn C _ dX3_drop_42 (c_X3_goes l G _ _ _ _ _ _ _ _ _ hR (kOf n B (nI d') (nI t')) (false) (true)) kmX3_68 ki_X3_goes kv_X3_goes kn_X3 kc_X3_goes hy_X3_goes ⟨by decide, by decide⟩ hm rfl rfl (Nat.le_of_ble_eq_true rfl) ⟨by decide, by decide⟩ (fun v w1 hp => ?_)
        obtain ⟨rfl, hw1⟩ := hp
        have hw1 := hw1.symm
        subst hw1
        have hR := hR.upM (thC (kOf n B (nI d') (nI t')) (false) (true)) ord mny hn
        obtain ⟨hm, r0, r1, r2, r3, r4, r5, r6, r7, r8, r9, r10, r11, r12, hinj, hn⟩ := id hR
        have hf1 : fr (MD mo M) w _ := fr.rf.up (b := mo) (e := cellM M (thC (kOf n B (nI d') (nI t')) (false) (true)) n ord mny) MD.m
        refine g_if_ne C 50 dX3_drop_45 (by decide) (fun c45 => absurd (by simp [bI]) c45) (fun _ => ?_)
        refine g_iconst C (v := 0) dX3_drop_48 (by decide) ?_
        have c20 : I 2 (nI t').toNatClampNeg ≠ 5 := by rw [nI_clamp (by omega)]; exact c20
        have hp1 : (kOf n B (nI d') (nI t')) = (kOf n B (nI d') (nI t')) := by first | rfl | simp [c10]
        have hp2 : (kOf n B (nI d') (nI t') && decide (I 2 (nI t').toNatClampNeg = 5)) = (false) := by first | rfl | simp [c10, c20]
        have hp3 : (decide (n < 120)) = (true) := by first | rfl | simp [c34]
        refine g_iret C hr dX3_drop_49 (by decide) (by decide) ?_
        rw [hp3, hp2, hp1]
        exact Or.inl ⟨by simp, rfl, hR, hf1⟩
    · refine g_iconst C (v := 1) dX3_drop_23 (by decide) ?_
      refine g_goto C 28 dX3_drop_24 (by decide) ?_
      first | refine g_aload_n C dX3_drop_28 rfl rfl ?_ | refine g_aload_nN C dX3_drop_28 rfl rfl ?_ | refine g_aload_nq C dX3_drop_28 rfl rfl ?_
      refine g_get C dX3_drop_29 hm rfl kw_X3 1 (by decide) kfX3_58 rfl rfl ?_
      refine g_bipush C (v := 120) dX3_drop_32 (by decide) ?_
      refine g_icmp_ge C 41 dX3_drop_34 (by decide) (fun c34 => ?_) (fun c34 => ?_)
      · have c34 : ¬ n < 120 := by have := (nI_leI (a := 120) (b := n) (by decide) (by omega)).mp c34; omega
        refine g_iconst C (v := 0) dX3_drop_41 (by decide) ?_
        refine g_callVn C _ dX3_drop_42 (c_X3_goes l G _ _ _ _ _ _ _ _ _ hR (kOf n B (nI d') (nI t')) (true) (false)) kmX3_68 ki_X3_goes kv_X3_goes kn_X3 kc_X3_goes hy_X3_goes ⟨by decide, by decide⟩ hm rfl rfl (Nat.le_of_ble_eq_true rfl) ⟨by decide, by decide⟩ (fun v w1 hp => ?_)
        obtain ⟨rfl, hw1⟩ := hp
        have hw1 := hw1.symm
        subst hw1
        have hR := hR.upM (thC (kOf n B (nI d') (nI t')) (true) (false)) ord mny hn
        obtain ⟨hm, r0, r1, r2, r3, r4, r5, r6, r7, r8, r9, r10, r11, r12, hinj, hn⟩ := id hR
        have hf1 : fr (MD mo M) w _ := fr.rf.up (b := mo) (e := cellM M (thC (kOf n B (nI d') (nI t')) (true) (false)) n ord mny) MD.m
        refine g_if_ne C 50 dX3_drop_45 (by decide) (fun c45 => absurd (by simp [bI]) c45) (fun _ => ?_)
        refine g_iconst C (v := 0) dX3_drop_48 (by decide) ?_
        have c20 : I 2 (nI t').toNatClampNeg = 5 := by rw [nI_clamp (by omega)]; exact c20
        have hp1 : (kOf n B (nI d') (nI t')) = (kOf n B (nI d') (nI t')) := by first | rfl | simp [c10]
        have hp2 : (kOf n B (nI d') (nI t') && decide (I 2 (nI t').toNatClampNeg = 5)) = (true) := by first | rfl | simp [c10, c20]
        have hp3 : (decide (n < 120)) = (false) := by first | rfl | simp [c34]
        refine g_iret C hr dX3_drop_49 (by decide) (by decide) ?_
        rw [hp3, hp2, hp1]
        exact Or.inl ⟨by simp, rfl, hR, hf1⟩
      · have c34 : n < 120 := nI_nge c34 (by omega) (by decide)
        refine g_iconst C (v := 1) dX3_drop_37 (by decide) ?_
        refine g_goto C 42 dX3_drop_38 (by decide) ?_
        refine g_callVn C _ dX3_drop_42 (c_X3_goes l G _ _ _ _ _ _ _ _ _ hR (kOf n B (nI d') (nI t')) (true) (true)) kmX3_68 ki_X3_goes kv_X3_goes kn_X3 kc_X3_goes hy_X3_goes ⟨by decide, by decide⟩ hm rfl rfl (Nat.le_of_ble_eq_true rfl) ⟨by decide, by decide⟩ (fun v w1 hp => ?_)
        obtain ⟨rfl, hw1⟩ := hp
        have hw1 := hw1.symm
        subst hw1
        have hR := hR.upM (thC (kOf n B (nI d') (nI t')) (true) (true)) ord mny hn
        obtain ⟨hm, r0, r1, r2, r3, r4, r5, r6, r7, r8, r9, r10, r11, r12, hinj, hn⟩ := id hR
        have hf1 : fr (MD mo M) w _ := fr.rf.up (b := mo) (e := cellM M (thC (kOf n B (nI d') (nI t')) (true) (true)) n ord mny) MD.m
        refine g_if_ne C 50 dX3_drop_45 (by decide) (fun c45 => ?_) (fun c45 => ?_)
        · have c45 := bI_nz.mp c45
          first | refine g_aload_n C dX3_drop_50 rfl rfl ?_ | refine g_aload_nN C dX3_drop_50 rfl rfl ?_ | refine g_aload_nq C dX3_drop_50 rfl rfl ?_
          refine g_iload_n C dX3_drop_51 rfl rfl ?_
          refine g_bipush C (v := 6) dX3_drop_52 (by decide) ?_
          refine g_iconst C (v := (-1)) dX3_drop_54 (by decide) ?_
          refine g_iload_n C dX3_drop_55 rfl rfl ?_
          refine g_iconst C (v := (-1)) dX3_drop_56 (by decide) ?_
          refine g_callVn C _ dX3_drop_57 (c_X3_make l G _ _ _ _ _ _ _ _ _ hR d' (by omega) _ _ _ _ (by omega)) kmX3_71 ki_X3_make kv_X3_make kn_X3 kc_X3_make hy_X3_make ⟨by decide, by decide⟩ hm rfl rfl (Nat.le_of_ble_eq_true rfl) ⟨by decide, by decide⟩ (fun v w1 hp => ?_)
          obtain ⟨rfl, hR2, hf2⟩ := hp
          have c20 : I 2 (nI t').toNatClampNeg = 5 := by rw [nI_clamp (by omega)]; exact c20
          have hp1 : (kOf n B (nI d') (nI t')) = (kOf n B (nI d') (nI t')) := by first | rfl | simp [c10]
          have hp2 : (kOf n B (nI d') (nI t') && decide (I 2 (nI t').toNatClampNeg = 5)) = (true) := by first | rfl | simp [c10, c20]
          have hp3 : (decide (n < 120)) = (true) := by first | rfl | simp [c34]
          have hth := thC_t c45
          refine g_iret C hr dX3_drop_60 (by decide) (by decide) ?_
          rw [hp3, hp2, hp1]
          exact Or.inr ⟨c45, _, rfl, _, hd', rfl, rfl, hR2.th hth, hf1.trans hf2⟩
        · have c45 := bI_z.mp c45
          refine g_iconst C (v := 0) dX3_drop_48 (by decide) ?_
          have c20 : I 2 (nI t').toNatClampNeg = 5 := by rw [nI_clamp (by omega)]; exact c20
          have hp1 : (kOf n B (nI d') (nI t')) = (kOf n B (nI d') (nI t')) := by first | rfl | simp [c10]
          have hp2 : (kOf n B (nI d') (nI t') && decide (I 2 (nI t').toNatClampNeg = 5)) = (true) := by first | rfl | simp [c10, c20]
          have hp3 : (decide (n < 120)) = (true) := by first | rfl | simp [c34]
          refine g_iret C hr dX3_drop_49 (by decide) (by decide) ?_
          rw [hp3, hp2, hp1]
          exact Or.inl ⟨c45, rfl, hR, hf1⟩

set_option maxHeartbeats 4000000 in
set_option maxRecDepth 100000 in
theorem c_X3_insert (l : Launch) (G : hD) (w : hW) (mo : Nat) (M : Nat → Nat) (n : Nat) (I : Nat → Nat → Int32) (B : Nat → Nat → Bool) (thr ord mny : Int32) (hR : MR G mo M n I B thr ord mny w) (d th be v : Int32) : h_Met l yX3_insert (Cond.code yX3_insert cX3_insert 7 (some .int)) { frames := 2, cells := 0, slots := 0, locals := 60 } G [.ref mo, .int d, .int th, .int be, .int v] w (mP G mo M n I B ord mny w (isDk d && (isTh th && (decide (be = -1) || kOf n B d be))) ((isDk d && (isTh th && (decide (be = -1) || kOf n B d be))) && ((decide (be = -1) || (decide (I 2 be.toNatClampNeg = 3) && decide (I 3 be.toNatClampNeg = th))) && wiB v 0 999)) (decide (n < 120)) (fun x w' => ∃ d', d' < 6 ∧ d = nI d' ∧ mK G mo M n I B ord mny w d' 3 th v be x w')) noX := by
  refine h_met RX3 rfl (by decide) (Nat.le_of_ble_eq_true rfl) (cat_c (by first | rfl | exact rf_cat _) (cat_c (by first | rfl | exact rf_cat _) (cat_c (by first | rfl | exact rf_cat _) (cat_c (by first | rfl | exact rf_cat _) (cat_c (by first | rfl | exact rf_cat _) cat_n))))) ?_
  intro p e s m below meth c A C hnt hr hnm
  obtain ⟨hm, r0, r1, r2, r3, r4, r5, r6, r7, r8, r9, r10, r11, r12, hinj, hn⟩ := id hR
  refine g_iload_n C dX3_insert_0 rfl rfl ?_
  refine g_callSn C _ dX3_insert_1 (c_X3_isDesk l G _ _) kmX3_54 ks_X3_isDesk kn_X3 kc_X3_isDesk hy_X3_isDesk ⟨by decide, by decide⟩ rfl (Nat.le_of_ble_eq_true rfl) ⟨by decide, by decide⟩ (fun v w1 hp => ?_)
  obtain ⟨rfl, hw1⟩ := hp
  have hw1 := hw1.symm
  subst hw1
  refine g_if_eq C 32 dX3_insert_4 (by decide) (fun c4 => ?_) (fun c4 => ?_)
  · have c4 := bI_z.mp c4
    refine g_iconst C (v := 0) dX3_insert_32 (by decide) ?_
    refine g_istore C dX3_insert_33 (by decide) ?_
    refine g_iload C dX3_insert_35 rfl ?_
    refine g_if_eq C 69 dX3_insert_37 (by decide) (fun _ => ?_) (fun c37 => absurd (rfl) c37)
    refine g_iconst C (v := 0) dX3_insert_69 (by decide) ?_
    refine g_istore C dX3_insert_70 (by decide) ?_
    first | refine g_aload_n C dX3_insert_72 rfl rfl ?_ | refine g_aload_nN C dX3_insert_72 rfl rfl ?_ | refine g_aload_nq C dX3_insert_72 rfl rfl ?_
    refine g_iload C dX3_insert_73 rfl ?_
    refine g_iload C dX3_insert_75 rfl ?_
    refine g_if_eq C 96 dX3_insert_77 (by decide) (fun _ => ?_) (fun c77 => absurd (rfl) c77)
    refine g_iconst C (v := 0) dX3_insert_96 (by decide) ?_
    first | refine g_aload_n C dX3_insert_97 rfl rfl ?_ | refine g_aload_nN C dX3_insert_97 rfl rfl ?_ | refine g_aload_nq C dX3_insert_97 rfl rfl ?_
    refine g_get C dX3_insert_98 hm rfl kw_X3 1 (by decide) kfX3_58 rfl rfl ?_
    refine g_bipush C (v := 120) dX3_insert_101 (by decide) ?_
    refine g_icmp_ge C 110 dX3_insert_103 (by decide) (fun c103 => ?_) (fun c103 => ?_)
    · have c103 : ¬ n < 120 := by have := (nI_leI (a := 120) (b := n) (by decide) (by omega)).mp c103; omega
      refine g_iconst C (v := 0) dX3_insert_110 (by decide) ?_
      refine g_callVn C _ dX3_insert_111 (c_X3_goes l G _ _ _ _ _ _ _ _ _ hR (false) (false) (false)) kmX3_68 ki_X3_goes kv_X3_goes kn_X3 kc_X3_goes hy_X3_goes ⟨by decide, by decide⟩ hm rfl rfl (Nat.le_of_ble_eq_true rfl) ⟨by decide, by decide⟩ (fun v w1 hp => ?_)
      obtain ⟨rfl, hw1⟩ := hp
      have hw1 := hw1.symm
      subst hw1
      have hR := hR.upM (thC (false) (false) (false)) ord mny hn
      obtain ⟨hm, r0, r1, r2, r3, r4, r5, r6, r7, r8, r9, r10, r11, r12, hinj, hn⟩ := id hR
      have hf1 : fr (MD mo M) w _ := fr.rf.up (b := mo) (e := cellM M (thC (false) (false) (false)) n ord mny) MD.m
      refine g_if_ne C 119 dX3_insert_114 (by decide) (fun c114 => absurd (by simp [bI]) c114) (fun _ => ?_)
      refine g_iconst C (v := 0) dX3_insert_117 (by decide) ?_
      have htc := True.intro
      have hp1 : (isDk d && (isTh th && (decide (be = -1) || kOf n B d be))) = (false) := by first | rfl | simp [htc, c4]
      have hp2 : ((isDk d && (isTh th && (decide (be = -1) || kOf n B d be))) && ((decide (be = -1) || (decide (I 2 be.toNatClampNeg = 3) && decide (I 3 be.toNatClampNeg = th))) && wiB v 0 999)) = (false) := by first | rfl | simp [htc, c4]
      have hp3 : (decide (n < 120)) = (false) := by first | rfl | simp [htc, c103]
      refine g_iret C hr dX3_insert_118 (by decide) (by decide) ?_
      rw [hp3, hp2, hp1]
      exact Or.inl ⟨by simp, rfl, hR, hf1⟩
    · have c103 : n < 120 := nI_nge c103 (by omega) (by decide)
      refine g_iconst C (v := 1) dX3_insert_106 (by decide) ?_
      refine g_goto C 111 dX3_insert_107 (by decide) ?_
      refine g_callVn C _ dX3_insert_111 (c_X3_goes l G _ _ _ _ _ _ _ _ _ hR (false) (false) (true)) kmX3_68 ki_X3_goes kv_X3_goes kn_X3 kc_X3_goes hy_X3_goes ⟨by decide, by decide⟩ hm rfl rfl (Nat.le_of_ble_eq_true rfl) ⟨by decide, by decide⟩ (fun v w1 hp => ?_)
      obtain ⟨rfl, hw1⟩ := hp
      have hw1 := hw1.symm
      subst hw1
      have hR := hR.upM (thC (false) (false) (true)) ord mny hn
      obtain ⟨hm, r0, r1, r2, r3, r4, r5, r6, r7, r8, r9, r10, r11, r12, hinj, hn⟩ := id hR
      have hf1 : fr (MD mo M) w _ := fr.rf.up (b := mo) (e := cellM M (thC (false) (false) (true)) n ord mny) MD.m
      refine g_if_ne C 119 dX3_insert_114 (by decide) (fun c114 => absurd (by simp [bI]) c114) (fun _ => ?_)
      refine g_iconst C (v := 0) dX3_insert_117 (by decide) ?_
      have htc := True.intro
      have hp1 : (isDk d && (isTh th && (decide (be = -1) || kOf n B d be))) = (false) := by first | rfl | simp [htc, c4]
      have hp2 : ((isDk d && (isTh th && (decide (be = -1) || kOf n B d be))) && ((decide (be = -1) || (decide (I 2 be.toNatClampNeg = 3) && decide (I 3 be.toNatClampNeg = th))) && wiB v 0 999)) = (false) := by first | rfl | simp [htc, c4]
      have hp3 : (decide (n < 120)) = (true) := by first | rfl | simp [htc, c103]
      refine g_iret C hr dX3_insert_118 (by decide) (by decide) ?_
      rw [hp3, hp2, hp1]
      exact Or.inl ⟨by simp, rfl, hR, hf1⟩
  · have c4 := bI_nz.mp c4
    refine g_iload_n C dX3_insert_7 rfl rfl ?_
    refine g_callSn C _ dX3_insert_8 (c_X3_isThing l G _ _) kmX3_61 ks_X3_isThing kn_X3 kc_X3_isThing hy_X3_isThing ⟨by decide, by decide⟩ rfl (Nat.le_of_ble_eq_true rfl) ⟨by decide, by decide⟩ (fun v w1 hp => ?_)
    obtain ⟨rfl, hw1⟩ := hp
    have hw1 := hw1.symm
    subst hw1
    refine g_if_eq C 32 dX3_insert_11 (by decide) (fun c11 => ?_) (fun c11 => ?_)
    · have c11 := bI_z.mp c11
      refine g_iconst C (v := 0) dX3_insert_32 (by decide) ?_
      refine g_istore C dX3_insert_33 (by decide) ?_
      refine g_iload C dX3_insert_35 rfl ?_
      refine g_if_eq C 69 dX3_insert_37 (by decide) (fun _ => ?_) (fun c37 => absurd (rfl) c37)
      refine g_iconst C (v := 0) dX3_insert_69 (by decide) ?_
      refine g_istore C dX3_insert_70 (by decide) ?_
      first | refine g_aload_n C dX3_insert_72 rfl rfl ?_ | refine g_aload_nN C dX3_insert_72 rfl rfl ?_ | refine g_aload_nq C dX3_insert_72 rfl rfl ?_
      refine g_iload C dX3_insert_73 rfl ?_
      refine g_iload C dX3_insert_75 rfl ?_
      refine g_if_eq C 96 dX3_insert_77 (by decide) (fun _ => ?_) (fun c77 => absurd (rfl) c77)
      refine g_iconst C (v := 0) dX3_insert_96 (by decide) ?_
      first | refine g_aload_n C dX3_insert_97 rfl rfl ?_ | refine g_aload_nN C dX3_insert_97 rfl rfl ?_ | refine g_aload_nq C dX3_insert_97 rfl rfl ?_
      refine g_get C dX3_insert_98 hm rfl kw_X3 1 (by decide) kfX3_58 rfl rfl ?_
      refine g_bipush C (v := 120) dX3_insert_101 (by decide) ?_
      refine g_icmp_ge C 110 dX3_insert_103 (by decide) (fun c103 => ?_) (fun c103 => ?_)
      · have c103 : ¬ n < 120 := by have := (nI_leI (a := 120) (b := n) (by decide) (by omega)).mp c103; omega
        refine g_iconst C (v := 0) dX3_insert_110 (by decide) ?_
        refine g_callVn C _ dX3_insert_111 (c_X3_goes l G _ _ _ _ _ _ _ _ _ hR (false) (false) (false)) kmX3_68 ki_X3_goes kv_X3_goes kn_X3 kc_X3_goes hy_X3_goes ⟨by decide, by decide⟩ hm rfl rfl (Nat.le_of_ble_eq_true rfl) ⟨by decide, by decide⟩ (fun v w1 hp => ?_)
        obtain ⟨rfl, hw1⟩ := hp
        have hw1 := hw1.symm
        subst hw1
        have hR := hR.upM (thC (false) (false) (false)) ord mny hn
        obtain ⟨hm, r0, r1, r2, r3, r4, r5, r6, r7, r8, r9, r10, r11, r12, hinj, hn⟩ := id hR
        have hf1 : fr (MD mo M) w _ := fr.rf.up (b := mo) (e := cellM M (thC (false) (false) (false)) n ord mny) MD.m
        refine g_if_ne C 119 dX3_insert_114 (by decide) (fun c114 => absurd (by simp [bI]) c114) (fun _ => ?_)
        refine g_iconst C (v := 0) dX3_insert_117 (by decide) ?_
        have htc := True.intro
        have hp1 : (isDk d && (isTh th && (decide (be = -1) || kOf n B d be))) = (false) := by first | rfl | simp [htc, c4, c11]
        have hp2 : ((isDk d && (isTh th && (decide (be = -1) || kOf n B d be))) && ((decide (be = -1) || (decide (I 2 be.toNatClampNeg = 3) && decide (I 3 be.toNatClampNeg = th))) && wiB v 0 999)) = (false) := by first | rfl | simp [htc, c4, c11]
        have hp3 : (decide (n < 120)) = (false) := by first | rfl | simp [htc, c103]
        refine g_iret C hr dX3_insert_118 (by decide) (by decide) ?_
        rw [hp3, hp2, hp1]
        exact Or.inl ⟨by simp, rfl, hR, hf1⟩
      · have c103 : n < 120 := nI_nge c103 (by omega) (by decide)
        refine g_iconst C (v := 1) dX3_insert_106 (by decide) ?_
        refine g_goto C 111 dX3_insert_107 (by decide) ?_
        refine g_callVn C _ dX3_insert_111 (c_X3_goes l G _ _ _ _ _ _ _ _ _ hR (false) (false) (true)) kmX3_68 ki_X3_goes kv_X3_goes kn_X3 kc_X3_goes hy_X3_goes ⟨by decide, by decide⟩ hm rfl rfl (Nat.le_of_ble_eq_true rfl) ⟨by decide, by decide⟩ (fun v w1 hp => ?_)
        obtain ⟨rfl, hw1⟩ := hp
        have hw1 := hw1.symm
        subst hw1
        have hR := hR.upM (thC (false) (false) (true)) ord mny hn
        obtain ⟨hm, r0, r1, r2, r3, r4, r5, r6, r7, r8, r9, r10, r11, r12, hinj, hn⟩ := id hR
        have hf1 : fr (MD mo M) w _ := fr.rf.up (b := mo) (e := cellM M (thC (false) (false) (true)) n ord mny) MD.m
        refine g_if_ne C 119 dX3_insert_114 (by decide) (fun c114 => absurd (by simp [bI]) c114) (fun _ => ?_)
        refine g_iconst C (v := 0) dX3_insert_117 (by decide) ?_
        have htc := True.intro
        have hp1 : (isDk d && (isTh th && (decide (be = -1) || kOf n B d be))) = (false) := by first | rfl | simp [htc, c4, c11]
        have hp2 : ((isDk d && (isTh th && (decide (be = -1) || kOf n B d be))) && ((decide (be = -1) || (decide (I 2 be.toNatClampNeg = 3) && decide (I 3 be.toNatClampNeg = th))) && wiB v 0 999)) = (false) := by first | rfl | simp [htc, c4, c11]
        have hp3 : (decide (n < 120)) = (true) := by first | rfl | simp [htc, c103]
        refine g_iret C hr dX3_insert_118 (by decide) (by decide) ?_
        rw [hp3, hp2, hp1]
        exact Or.inl ⟨by simp, rfl, hR, hf1⟩
    · have c11 := bI_nz.mp c11
      refine g_iload_n C dX3_insert_14 rfl rfl ?_
      refine g_iconst C (v := (-1)) dX3_insert_15 (by decide) ?_
      refine g_icmp_eq C 28 dX3_insert_16 (by decide) (fun c16 => ?_) (fun c16 => ?_)
      · refine g_iconst C (v := 1) dX3_insert_28 (by decide) ?_
        refine g_goto C 33 dX3_insert_29 (by decide) ?_
        refine g_istore C dX3_insert_33 (by decide) ?_
        refine g_iload C dX3_insert_35 rfl ?_
        refine g_if_eq C 69 dX3_insert_37 (by decide) (fun c37 => absurd c37 (by decide)) (fun _ => ?_)
        refine g_iload_n C dX3_insert_40 rfl rfl ?_
        refine g_iconst C (v := (-1)) dX3_insert_41 (by decide) ?_
        refine g_icmp_eq C 65 dX3_insert_42 (by decide) (fun _ => ?_) (fun c42 => absurd (c16) c42)
        refine g_iconst C (v := 1) dX3_insert_65 (by decide) ?_
        refine g_goto C 70 dX3_insert_66 (by decide) ?_
        refine g_istore C dX3_insert_70 (by decide) ?_
        first | refine g_aload_n C dX3_insert_72 rfl rfl ?_ | refine g_aload_nN C dX3_insert_72 rfl rfl ?_ | refine g_aload_nq C dX3_insert_72 rfl rfl ?_
        refine g_iload C dX3_insert_73 rfl ?_
        refine g_iload C dX3_insert_75 rfl ?_
        refine g_if_eq C 96 dX3_insert_77 (by decide) (fun c77 => absurd c77 (by decide)) (fun _ => ?_)
        refine g_iload C dX3_insert_80 rfl ?_
        refine g_iconst C (v := 0) dX3_insert_82 (by decide) ?_
        refine g_sipush C (v := 999) dX3_insert_83 (by decide) ?_
        refine g_callSn C _ dX3_insert_86 (c_X3_within l G _ _ _ _) kmX3_64 ks_X3_within kn_X3 kc_X3_within hy_X3_within ⟨by decide, by decide⟩ rfl (Nat.le_of_ble_eq_true rfl) ⟨by decide, by decide⟩ (fun v w1 hp => ?_)
        obtain ⟨rfl, hw1⟩ := hp
        have hw1 := hw1.symm
        subst hw1
        refine g_if_eq C 96 dX3_insert_89 (by decide) (fun c89 => ?_) (fun c89 => ?_)
        · have c89 := bI_z.mp c89
          refine g_iconst C (v := 0) dX3_insert_96 (by decide) ?_
          first | refine g_aload_n C dX3_insert_97 rfl rfl ?_ | refine g_aload_nN C dX3_insert_97 rfl rfl ?_ | refine g_aload_nq C dX3_insert_97 rfl rfl ?_
          refine g_get C dX3_insert_98 hm rfl kw_X3 1 (by decide) kfX3_58 rfl rfl ?_
          refine g_bipush C (v := 120) dX3_insert_101 (by decide) ?_
          refine g_icmp_ge C 110 dX3_insert_103 (by decide) (fun c103 => ?_) (fun c103 => ?_)
          · have c103 : ¬ n < 120 := by have := (nI_leI (a := 120) (b := n) (by decide) (by omega)).mp c103; omega
            refine g_iconst C (v := 0) dX3_insert_110 (by decide) ?_
            refine g_callVn C _ dX3_insert_111 (c_X3_goes l G _ _ _ _ _ _ _ _ _ hR (true) (false) (false)) kmX3_68 ki_X3_goes kv_X3_goes kn_X3 kc_X3_goes hy_X3_goes ⟨by decide, by decide⟩ hm rfl rfl (Nat.le_of_ble_eq_true rfl) ⟨by decide, by decide⟩ (fun v w1 hp => ?_)
            obtain ⟨rfl, hw1⟩ := hp
            have hw1 := hw1.symm
            subst hw1
            have hR := hR.upM (thC (true) (false) (false)) ord mny hn
            obtain ⟨hm, r0, r1, r2, r3, r4, r5, r6, r7, r8, r9, r10, r11, r12, hinj, hn⟩ := id hR
            have hf1 : fr (MD mo M) w _ := fr.rf.up (b := mo) (e := cellM M (thC (true) (false) (false)) n ord mny) MD.m
            refine g_if_ne C 119 dX3_insert_114 (by decide) (fun c114 => absurd (by simp [bI]) c114) (fun _ => ?_)
            refine g_iconst C (v := 0) dX3_insert_117 (by decide) ?_
            have htc := True.intro
            have hp1 : (isDk d && (isTh th && (decide (be = -1) || kOf n B d be))) = (true) := by first | rfl | simp [htc, c4, c11, c16]
            have hp2 : ((isDk d && (isTh th && (decide (be = -1) || kOf n B d be))) && ((decide (be = -1) || (decide (I 2 be.toNatClampNeg = 3) && decide (I 3 be.toNatClampNeg = th))) && wiB v 0 999)) = (false) := by first | rfl | simp [htc, c4, c11, c16, c89]
            have hp3 : (decide (n < 120)) = (false) := by first | rfl | simp [htc, c103]
            refine g_iret C hr dX3_insert_118 (by decide) (by decide) ?_
            rw [hp3, hp2, hp1]
            exact Or.inl ⟨by simp, rfl, hR, hf1⟩
          · have c103 : n < 120 := nI_nge c103 (by omega) (by decide)
            refine g_iconst C (v := 1) dX3_insert_106 (by decide) ?_
            refine g_goto C 111 dX3_insert_107 (by decide) ?_
            refine g_callVn C _ dX3_insert_111 (c_X3_goes l G _ _ _ _ _ _ _ _ _ hR (true) (false) (true)) kmX3_68 ki_X3_goes kv_X3_goes kn_X3 kc_X3_goes hy_X3_goes ⟨by decide, by decide⟩ hm rfl rfl (Nat.le_of_ble_eq_true rfl) ⟨by decide, by decide⟩ (fun v w1 hp => ?_)
            obtain ⟨rfl, hw1⟩ := hp
            have hw1 := hw1.symm
            subst hw1
            have hR := hR.upM (thC (true) (false) (true)) ord mny hn
            obtain ⟨hm, r0, r1, r2, r3, r4, r5, r6, r7, r8, r9, r10, r11, r12, hinj, hn⟩ := id hR
            have hf1 : fr (MD mo M) w _ := fr.rf.up (b := mo) (e := cellM M (thC (true) (false) (true)) n ord mny) MD.m
            refine g_if_ne C 119 dX3_insert_114 (by decide) (fun c114 => absurd (by simp [bI]) c114) (fun _ => ?_)
            refine g_iconst C (v := 0) dX3_insert_117 (by decide) ?_
            have htc := True.intro
            have hp1 : (isDk d && (isTh th && (decide (be = -1) || kOf n B d be))) = (true) := by first | rfl | simp [htc, c4, c11, c16]
            have hp2 : ((isDk d && (isTh th && (decide (be = -1) || kOf n B d be))) && ((decide (be = -1) || (decide (I 2 be.toNatClampNeg = 3) && decide (I 3 be.toNatClampNeg = th))) && wiB v 0 999)) = (false) := by first | rfl | simp [htc, c4, c11, c16, c89]
            have hp3 : (decide (n < 120)) = (true) := by first | rfl | simp [htc, c103]
            refine g_iret C hr dX3_insert_118 (by decide) (by decide) ?_
            rw [hp3, hp2, hp1]
            exact Or.inl ⟨by simp, rfl, hR, hf1⟩
        · have c89 := bI_nz.mp c89
          refine g_iconst C (v := 1) dX3_insert_92 (by decide) ?_
          refine g_goto C 97 dX3_insert_93 (by decide) ?_
          first | refine g_aload_n C dX3_insert_97 rfl rfl ?_ | refine g_aload_nN C dX3_insert_97 rfl rfl ?_ | refine g_aload_nq C dX3_insert_97 rfl rfl ?_
          refine g_get C dX3_insert_98 hm rfl kw_X3 1 (by decide) kfX3_58 rfl rfl ?_
          refine g_bipush C (v := 120) dX3_insert_101 (by decide) ?_
          refine g_icmp_ge C 110 dX3_insert_103 (by decide) (fun c103 => ?_) (fun c103 => ?_)
          · have c103 : ¬ n < 120 := by have := (nI_leI (a := 120) (b := n) (by decide) (by omega)).mp c103; omega
            refine g_iconst C (v := 0) dX3_insert_110 (by decide) ?_
            refine g_callVn C _ dX3_insert_111 (c_X3_goes l G _ _ _ _ _ _ _ _ _ hR (true) (true) (false)) kmX3_68 ki_X3_goes kv_X3_goes kn_X3 kc_X3_goes hy_X3_goes ⟨by decide, by decide⟩ hm rfl rfl (Nat.le_of_ble_eq_true rfl) ⟨by decide, by decide⟩ (fun v w1 hp => ?_)
            obtain ⟨rfl, hw1⟩ := hp
            have hw1 := hw1.symm
            subst hw1
            have hR := hR.upM (thC (true) (true) (false)) ord mny hn
            obtain ⟨hm, r0, r1, r2, r3, r4, r5, r6, r7, r8, r9, r10, r11, r12, hinj, hn⟩ := id hR
            have hf1 : fr (MD mo M) w _ := fr.rf.up (b := mo) (e := cellM M (thC (true) (true) (false)) n ord mny) MD.m
            refine g_if_ne C 119 dX3_insert_114 (by decide) (fun c114 => absurd (by simp [bI]) c114) (fun _ => ?_)
            refine g_iconst C (v := 0) dX3_insert_117 (by decide) ?_
            have htc := True.intro
            have hp1 : (isDk d && (isTh th && (decide (be = -1) || kOf n B d be))) = (true) := by first | rfl | simp [htc, c4, c11, c16]
            have hp2 : ((isDk d && (isTh th && (decide (be = -1) || kOf n B d be))) && ((decide (be = -1) || (decide (I 2 be.toNatClampNeg = 3) && decide (I 3 be.toNatClampNeg = th))) && wiB v 0 999)) = (true) := by first | rfl | simp [htc, c4, c11, c16, c89]
            have hp3 : (decide (n < 120)) = (false) := by first | rfl | simp [htc, c103]
            refine g_iret C hr dX3_insert_118 (by decide) (by decide) ?_
            rw [hp3, hp2, hp1]
            exact Or.inl ⟨by simp, rfl, hR, hf1⟩
          · have c103 : n < 120 := nI_nge c103 (by omega) (by decide)
            refine g_iconst C (v := 1) dX3_insert_106 (by decide) ?_
            refine g_goto C 111 dX3_insert_107 (by decide) ?_
            refine g_callVn C _ dX3_insert_111 (c_X3_goes l G _ _ _ _ _ _ _ _ _ hR (true) (true) (true)) kmX3_68 ki_X3_goes kv_X3_goes kn_X3 kc_X3_goes hy_X3_goes ⟨by decide, by decide⟩ hm rfl rfl (Nat.le_of_ble_eq_true rfl) ⟨by decide, by decide⟩ (fun v w1 hp => ?_)
            obtain ⟨rfl, hw1⟩ := hp
            have hw1 := hw1.symm
            subst hw1
            have hR := hR.upM (thC (true) (true) (true)) ord mny hn
            obtain ⟨hm, r0, r1, r2, r3, r4, r5, r6, r7, r8, r9, r10, r11, r12, hinj, hn⟩ := id hR
            have hf1 : fr (MD mo M) w _ := fr.rf.up (b := mo) (e := cellM M (thC (true) (true) (true)) n ord mny) MD.m
            refine g_if_ne C 119 dX3_insert_114 (by decide) (fun c114 => ?_) (fun c114 => ?_)
            · have c114 := bI_nz.mp c114
              obtain ⟨d', hd', rfl⟩ := isDk_nI c4
              first | refine g_aload_n C dX3_insert_119 rfl rfl ?_ | refine g_aload_nN C dX3_insert_119 rfl rfl ?_ | refine g_aload_nq C dX3_insert_119 rfl rfl ?_
              refine g_iload_n C dX3_insert_120 rfl rfl ?_
              refine g_iconst C (v := 3) dX3_insert_121 (by decide) ?_
              refine g_iload_n C dX3_insert_122 rfl rfl ?_
              refine g_iload C dX3_insert_123 rfl ?_
              refine g_iload_n C dX3_insert_125 rfl rfl ?_
              refine g_callVn C _ dX3_insert_126 (c_X3_make l G _ _ _ _ _ _ _ _ _ hR d' (by omega) _ _ _ _ (by omega)) kmX3_71 ki_X3_make kv_X3_make kn_X3 kc_X3_make hy_X3_make ⟨by decide, by decide⟩ hm rfl rfl (Nat.le_of_ble_eq_true rfl) ⟨by decide, by decide⟩ (fun v w1 hp => ?_)
              obtain ⟨rfl, hR2, hf2⟩ := hp
              have htc := True.intro
              have hp1 : (isDk (nI d') && (isTh th && (decide (be = -1) || kOf n B (nI d') be))) = (true) := by first | rfl | simp [htc, c4, c11, c16]
              have hp2 : ((isDk (nI d') && (isTh th && (decide (be = -1) || kOf n B (nI d') be))) && ((decide (be = -1) || (decide (I 2 be.toNatClampNeg = 3) && decide (I 3 be.toNatClampNeg = th))) && wiB v 0 999)) = (true) := by first | rfl | simp [htc, c4, c11, c16, c89]
              have hp3 : (decide (n < 120)) = (true) := by first | rfl | simp [htc, c103]
              have hth := thC_t c114
              refine g_iret C hr dX3_insert_129 (by decide) (by decide) ?_
              rw [hp3, hp2, hp1]
              exact Or.inr ⟨c114, _, rfl, _, hd', rfl, rfl, hR2.th hth, hf1.trans hf2⟩
            · have c114 := bI_z.mp c114
              refine g_iconst C (v := 0) dX3_insert_117 (by decide) ?_
              have htc := True.intro
              have hp1 : (isDk d && (isTh th && (decide (be = -1) || kOf n B d be))) = (true) := by first | rfl | simp [htc, c4, c11, c16]
              have hp2 : ((isDk d && (isTh th && (decide (be = -1) || kOf n B d be))) && ((decide (be = -1) || (decide (I 2 be.toNatClampNeg = 3) && decide (I 3 be.toNatClampNeg = th))) && wiB v 0 999)) = (true) := by first | rfl | simp [htc, c4, c11, c16, c89]
              have hp3 : (decide (n < 120)) = (true) := by first | rfl | simp [htc, c103]
              refine g_iret C hr dX3_insert_118 (by decide) (by decide) ?_
              rw [hp3, hp2, hp1]
              exact Or.inl ⟨c114, rfl, hR, hf1⟩
      · first | refine g_aload_n C dX3_insert_19 rfl rfl ?_ | refine g_aload_nN C dX3_insert_19 rfl rfl ?_ | refine g_aload_nq C dX3_insert_19 rfl rfl ?_
        refine g_iload_n C dX3_insert_20 rfl rfl ?_
        refine g_iload_n C dX3_insert_21 rfl rfl ?_
        refine g_callVn C _ dX3_insert_22 (c_X3_knowsOf l G _ _ _ _ _ _ _ _ _ hR _ _) kmX3_75 ki_X3_knowsOf kv_X3_knowsOf kn_X3 kc_X3_knowsOf hy_X3_knowsOf ⟨by decide, by decide⟩ hm rfl rfl (Nat.le_of_ble_eq_true rfl) ⟨by decide, by decide⟩ (fun v w1 hp => ?_)
        obtain ⟨rfl, hw1⟩ := hp
        have hw1 := hw1.symm
        subst hw1
        refine g_if_eq C 32 dX3_insert_25 (by decide) (fun c25 => ?_) (fun c25 => ?_)
        · have c25 := bI_z.mp c25
          refine g_iconst C (v := 0) dX3_insert_32 (by decide) ?_
          refine g_istore C dX3_insert_33 (by decide) ?_
          refine g_iload C dX3_insert_35 rfl ?_
          refine g_if_eq C 69 dX3_insert_37 (by decide) (fun _ => ?_) (fun c37 => absurd (rfl) c37)
          refine g_iconst C (v := 0) dX3_insert_69 (by decide) ?_
          refine g_istore C dX3_insert_70 (by decide) ?_
          first | refine g_aload_n C dX3_insert_72 rfl rfl ?_ | refine g_aload_nN C dX3_insert_72 rfl rfl ?_ | refine g_aload_nq C dX3_insert_72 rfl rfl ?_
          refine g_iload C dX3_insert_73 rfl ?_
          refine g_iload C dX3_insert_75 rfl ?_
          refine g_if_eq C 96 dX3_insert_77 (by decide) (fun _ => ?_) (fun c77 => absurd (rfl) c77)
          refine g_iconst C (v := 0) dX3_insert_96 (by decide) ?_
          first | refine g_aload_n C dX3_insert_97 rfl rfl ?_ | refine g_aload_nN C dX3_insert_97 rfl rfl ?_ | refine g_aload_nq C dX3_insert_97 rfl rfl ?_
          refine g_get C dX3_insert_98 hm rfl kw_X3 1 (by decide) kfX3_58 rfl rfl ?_
          refine g_bipush C (v := 120) dX3_insert_101 (by decide) ?_
          refine g_icmp_ge C 110 dX3_insert_103 (by decide) (fun c103 => ?_) (fun c103 => ?_)
          · have c103 : ¬ n < 120 := by have := (nI_leI (a := 120) (b := n) (by decide) (by omega)).mp c103; omega
            refine g_iconst C (v := 0) dX3_insert_110 (by decide) ?_
            refine g_callVn C _ dX3_insert_111 (c_X3_goes l G _ _ _ _ _ _ _ _ _ hR (false) (false) (false)) kmX3_68 ki_X3_goes kv_X3_goes kn_X3 kc_X3_goes hy_X3_goes ⟨by decide, by decide⟩ hm rfl rfl (Nat.le_of_ble_eq_true rfl) ⟨by decide, by decide⟩ (fun v w1 hp => ?_)
            obtain ⟨rfl, hw1⟩ := hp
            have hw1 := hw1.symm
            subst hw1
            have hR := hR.upM (thC (false) (false) (false)) ord mny hn
            obtain ⟨hm, r0, r1, r2, r3, r4, r5, r6, r7, r8, r9, r10, r11, r12, hinj, hn⟩ := id hR
            have hf1 : fr (MD mo M) w _ := fr.rf.up (b := mo) (e := cellM M (thC (false) (false) (false)) n ord mny) MD.m
            refine g_if_ne C 119 dX3_insert_114 (by decide) (fun c114 => absurd (by simp [bI]) c114) (fun _ => ?_)
            refine g_iconst C (v := 0) dX3_insert_117 (by decide) ?_
            have htc := True.intro
            have hp1 : (isDk d && (isTh th && (decide (be = -1) || kOf n B d be))) = (false) := by first | rfl | simp [htc, c4, c11, c16, c25]
            have hp2 : ((isDk d && (isTh th && (decide (be = -1) || kOf n B d be))) && ((decide (be = -1) || (decide (I 2 be.toNatClampNeg = 3) && decide (I 3 be.toNatClampNeg = th))) && wiB v 0 999)) = (false) := by first | rfl | simp [htc, c4, c11, c16, c25]
            have hp3 : (decide (n < 120)) = (false) := by first | rfl | simp [htc, c103]
            refine g_iret C hr dX3_insert_118 (by decide) (by decide) ?_
            rw [hp3, hp2, hp1]
            exact Or.inl ⟨by simp, rfl, hR, hf1⟩
          · have c103 : n < 120 := nI_nge c103 (by omega) (by decide)
            refine g_iconst C (v := 1) dX3_insert_106 (by decide) ?_
            refine g_goto C 111 dX3_insert_107 (by decide) ?_
            refine g_callVn C _ dX3_insert_111 (c_X3_goes l G _ _ _ _ _ _ _ _ _ hR (false) (false) (true)) kmX3_68 ki_X3_goes kv_X3_goes kn_X3 kc_X3_goes hy_X3_goes ⟨by decide, by decide⟩ hm rfl rfl (Nat.le_of_ble_eq_true rfl) ⟨by decide, by decide⟩ (fun v w1 hp => ?_)
            obtain ⟨rfl, hw1⟩ := hp
            have hw1 := hw1.symm
            subst hw1
            have hR := hR.upM (thC (false) (false) (true)) ord mny hn
            obtain ⟨hm, r0, r1, r2, r3, r4, r5, r6, r7, r8, r9, r10, r11, r12, hinj, hn⟩ := id hR
            have hf1 : fr (MD mo M) w _ := fr.rf.up (b := mo) (e := cellM M (thC (false) (false) (true)) n ord mny) MD.m
            refine g_if_ne C 119 dX3_insert_114 (by decide) (fun c114 => absurd (by simp [bI]) c114) (fun _ => ?_)
            refine g_iconst C (v := 0) dX3_insert_117 (by decide) ?_
            have htc := True.intro
            have hp1 : (isDk d && (isTh th && (decide (be = -1) || kOf n B d be))) = (false) := by first | rfl | simp [htc, c4, c11, c16, c25]
            have hp2 : ((isDk d && (isTh th && (decide (be = -1) || kOf n B d be))) && ((decide (be = -1) || (decide (I 2 be.toNatClampNeg = 3) && decide (I 3 be.toNatClampNeg = th))) && wiB v 0 999)) = (false) := by first | rfl | simp [htc, c4, c11, c16, c25]
            have hp3 : (decide (n < 120)) = (true) := by first | rfl | simp [htc, c103]
            refine g_iret C hr dX3_insert_118 (by decide) (by decide) ?_
            rw [hp3, hp2, hp1]
            exact Or.inl ⟨by simp, rfl, hR, hf1⟩
        · have c25 := bI_nz.mp c25
          obtain ⟨d', t', hd', ht', rfl, rfl, hB⟩ := kOf_nI hn c25
          refine g_iconst C (v := 1) dX3_insert_28 (by decide) ?_
          refine g_goto C 33 dX3_insert_29 (by decide) ?_
          refine g_istore C dX3_insert_33 (by decide) ?_
          refine g_iload C dX3_insert_35 rfl ?_
          refine g_if_eq C 69 dX3_insert_37 (by decide) (fun c37 => absurd c37 (by decide)) (fun _ => ?_)
          refine g_iload_n C dX3_insert_40 rfl rfl ?_
          refine g_iconst C (v := (-1)) dX3_insert_41 (by decide) ?_
          refine g_icmp_eq C 65 dX3_insert_42 (by decide) (fun c42 => absurd c42 (oI_some (by omega))) (fun _ => ?_)
          first | refine g_aload_n C dX3_insert_45 rfl rfl ?_ | refine g_aload_nN C dX3_insert_45 rfl rfl ?_ | refine g_aload_nq C dX3_insert_45 rfl rfl ?_
          refine g_get C dX3_insert_46 hm rfl kw_X3 4 (by decide) kfX3_16 rfl rfl ?_
          refine g_iload_n C dX3_insert_49 rfl rfl ?_
          refine g_ialdN C dX3_insert_50 r2 (by omega) (by decide) ?_
          refine g_iconst C (v := 3) dX3_insert_51 (by decide) ?_
          refine g_icmp_ne C 69 dX3_insert_52 (by decide) (fun c52 => ?_) (fun c52 => ?_)
          · refine g_iconst C (v := 0) dX3_insert_69 (by decide) ?_
            refine g_istore C dX3_insert_70 (by decide) ?_
            first | refine g_aload_n C dX3_insert_72 rfl rfl ?_ | refine g_aload_nN C dX3_insert_72 rfl rfl ?_ | refine g_aload_nq C dX3_insert_72 rfl rfl ?_
            refine g_iload C dX3_insert_73 rfl ?_
            refine g_iload C dX3_insert_75 rfl ?_
            refine g_if_eq C 96 dX3_insert_77 (by decide) (fun _ => ?_) (fun c77 => absurd (rfl) c77)
            refine g_iconst C (v := 0) dX3_insert_96 (by decide) ?_
            first | refine g_aload_n C dX3_insert_97 rfl rfl ?_ | refine g_aload_nN C dX3_insert_97 rfl rfl ?_ | refine g_aload_nq C dX3_insert_97 rfl rfl ?_
            refine g_get C dX3_insert_98 hm rfl kw_X3 1 (by decide) kfX3_58 rfl rfl ?_
            refine g_bipush C (v := 120) dX3_insert_101 (by decide) ?_
            refine g_icmp_ge C 110 dX3_insert_103 (by decide) (fun c103 => ?_) (fun c103 => ?_)
            · have c103 : ¬ n < 120 := by have := (nI_leI (a := 120) (b := n) (by decide) (by omega)).mp c103; omega
              refine g_iconst C (v := 0) dX3_insert_110 (by decide) ?_
              refine g_callVn C _ dX3_insert_111 (c_X3_goes l G _ _ _ _ _ _ _ _ _ hR (true) (false) (false)) kmX3_68 ki_X3_goes kv_X3_goes kn_X3 kc_X3_goes hy_X3_goes ⟨by decide, by decide⟩ hm rfl rfl (Nat.le_of_ble_eq_true rfl) ⟨by decide, by decide⟩ (fun v w1 hp => ?_)
              obtain ⟨rfl, hw1⟩ := hp
              have hw1 := hw1.symm
              subst hw1
              have hR := hR.upM (thC (true) (false) (false)) ord mny hn
              obtain ⟨hm, r0, r1, r2, r3, r4, r5, r6, r7, r8, r9, r10, r11, r12, hinj, hn⟩ := id hR
              have hf1 : fr (MD mo M) w _ := fr.rf.up (b := mo) (e := cellM M (thC (true) (false) (false)) n ord mny) MD.m
              refine g_if_ne C 119 dX3_insert_114 (by decide) (fun c114 => absurd (by simp [bI]) c114) (fun _ => ?_)
              refine g_iconst C (v := 0) dX3_insert_117 (by decide) ?_
              have htc : (nI t').toNatClampNeg = t' := nI_clamp (by omega)
              have hp1 : (isDk (nI d') && (isTh th && (decide ((nI t') = -1) || kOf n B (nI d') (nI t')))) = (true) := by first | rfl | simp [htc, c4, c11, c16, c25]
              have hp2 : ((isDk (nI d') && (isTh th && (decide ((nI t') = -1) || kOf n B (nI d') (nI t')))) && ((decide ((nI t') = -1) || (decide (I 2 (nI t').toNatClampNeg = 3) && decide (I 3 (nI t').toNatClampNeg = th))) && wiB v 0 999)) = (false) := by first | rfl | simp [htc, c4, c11, c16, c25, c52]
              have hp3 : (decide (n < 120)) = (false) := by first | rfl | simp [htc, c103]
              refine g_iret C hr dX3_insert_118 (by decide) (by decide) ?_
              rw [hp3, hp2, hp1]
              exact Or.inl ⟨by simp, rfl, hR, hf1⟩
            · have c103 : n < 120 := nI_nge c103 (by omega) (by decide)
              refine g_iconst C (v := 1) dX3_insert_106 (by decide) ?_
              refine g_goto C 111 dX3_insert_107 (by decide) ?_
              refine g_callVn C _ dX3_insert_111 (c_X3_goes l G _ _ _ _ _ _ _ _ _ hR (true) (false) (true)) kmX3_68 ki_X3_goes kv_X3_goes kn_X3 kc_X3_goes hy_X3_goes ⟨by decide, by decide⟩ hm rfl rfl (Nat.le_of_ble_eq_true rfl) ⟨by decide, by decide⟩ (fun v w1 hp => ?_)
              obtain ⟨rfl, hw1⟩ := hp
              have hw1 := hw1.symm
              subst hw1
              have hR := hR.upM (thC (true) (false) (true)) ord mny hn
              obtain ⟨hm, r0, r1, r2, r3, r4, r5, r6, r7, r8, r9, r10, r11, r12, hinj, hn⟩ := id hR
              have hf1 : fr (MD mo M) w _ := fr.rf.up (b := mo) (e := cellM M (thC (true) (false) (true)) n ord mny) MD.m
              refine g_if_ne C 119 dX3_insert_114 (by decide) (fun c114 => absurd (by simp [bI]) c114) (fun _ => ?_)
              refine g_iconst C (v := 0) dX3_insert_117 (by decide) ?_
              have htc : (nI t').toNatClampNeg = t' := nI_clamp (by omega)
              have hp1 : (isDk (nI d') && (isTh th && (decide ((nI t') = -1) || kOf n B (nI d') (nI t')))) = (true) := by first | rfl | simp [htc, c4, c11, c16, c25]
              have hp2 : ((isDk (nI d') && (isTh th && (decide ((nI t') = -1) || kOf n B (nI d') (nI t')))) && ((decide ((nI t') = -1) || (decide (I 2 (nI t').toNatClampNeg = 3) && decide (I 3 (nI t').toNatClampNeg = th))) && wiB v 0 999)) = (false) := by first | rfl | simp [htc, c4, c11, c16, c25, c52]
              have hp3 : (decide (n < 120)) = (true) := by first | rfl | simp [htc, c103]
              refine g_iret C hr dX3_insert_118 (by decide) (by decide) ?_
              rw [hp3, hp2, hp1]
              exact Or.inl ⟨by simp, rfl, hR, hf1⟩
          · first | refine g_aload_n C dX3_insert_55 rfl rfl ?_ | refine g_aload_nN C dX3_insert_55 rfl rfl ?_ | refine g_aload_nq C dX3_insert_55 rfl rfl ?_
            refine g_get C dX3_insert_56 hm rfl kw_X3 5 (by decide) kfX3_19 rfl rfl ?_
            refine g_iload_n C dX3_insert_59 rfl rfl ?_
            refine g_ialdN C dX3_insert_60 r3 (by omega) (by decide) ?_
            refine g_iload_n C dX3_insert_61 rfl rfl ?_
            refine g_icmp_ne C 69 dX3_insert_62 (by decide) (fun c62 => ?_) (fun c62 => ?_)
            · refine g_iconst C (v := 0) dX3_insert_69 (by decide) ?_
              refine g_istore C dX3_insert_70 (by decide) ?_
              first | refine g_aload_n C dX3_insert_72 rfl rfl ?_ | refine g_aload_nN C dX3_insert_72 rfl rfl ?_ | refine g_aload_nq C dX3_insert_72 rfl rfl ?_
              refine g_iload C dX3_insert_73 rfl ?_
              refine g_iload C dX3_insert_75 rfl ?_
              refine g_if_eq C 96 dX3_insert_77 (by decide) (fun _ => ?_) (fun c77 => absurd (rfl) c77)
              refine g_iconst C (v := 0) dX3_insert_96 (by decide) ?_
              first | refine g_aload_n C dX3_insert_97 rfl rfl ?_ | refine g_aload_nN C dX3_insert_97 rfl rfl ?_ | refine g_aload_nq C dX3_insert_97 rfl rfl ?_
              refine g_get C dX3_insert_98 hm rfl kw_X3 1 (by decide) kfX3_58 rfl rfl ?_
              refine g_bipush C (v := 120) dX3_insert_101 (by decide) ?_
              refine g_icmp_ge C 110 dX3_insert_103 (by decide) (fun c103 => ?_) (fun c103 => ?_)
              · have c103 : ¬ n < 120 := by have := (nI_leI (a := 120) (b := n) (by decide) (by omega)).mp c103; omega
                refine g_iconst C (v := 0) dX3_insert_110 (by decide) ?_
                refine g_callVn C _ dX3_insert_111 (c_X3_goes l G _ _ _ _ _ _ _ _ _ hR (true) (false) (false)) kmX3_68 ki_X3_goes kv_X3_goes kn_X3 kc_X3_goes hy_X3_goes ⟨by decide, by decide⟩ hm rfl rfl (Nat.le_of_ble_eq_true rfl) ⟨by decide, by decide⟩ (fun v w1 hp => ?_)
                obtain ⟨rfl, hw1⟩ := hp
                have hw1 := hw1.symm
                subst hw1
                have hR := hR.upM (thC (true) (false) (false)) ord mny hn
                obtain ⟨hm, r0, r1, r2, r3, r4, r5, r6, r7, r8, r9, r10, r11, r12, hinj, hn⟩ := id hR
                have hf1 : fr (MD mo M) w _ := fr.rf.up (b := mo) (e := cellM M (thC (true) (false) (false)) n ord mny) MD.m
                refine g_if_ne C 119 dX3_insert_114 (by decide) (fun c114 => absurd (by simp [bI]) c114) (fun _ => ?_)
                refine g_iconst C (v := 0) dX3_insert_117 (by decide) ?_
                have htc : (nI t').toNatClampNeg = t' := nI_clamp (by omega)
                have hp1 : (isDk (nI d') && (isTh th && (decide ((nI t') = -1) || kOf n B (nI d') (nI t')))) = (true) := by first | rfl | simp [htc, c4, c11, c16, c25]
                have hp2 : ((isDk (nI d') && (isTh th && (decide ((nI t') = -1) || kOf n B (nI d') (nI t')))) && ((decide ((nI t') = -1) || (decide (I 2 (nI t').toNatClampNeg = 3) && decide (I 3 (nI t').toNatClampNeg = th))) && wiB v 0 999)) = (false) := by first | rfl | simp [htc, c4, c11, c16, c25, c52, c62]
                have hp3 : (decide (n < 120)) = (false) := by first | rfl | simp [htc, c103]
                refine g_iret C hr dX3_insert_118 (by decide) (by decide) ?_
                rw [hp3, hp2, hp1]
                exact Or.inl ⟨by simp, rfl, hR, hf1⟩
              · have c103 : n < 120 := nI_nge c103 (by omega) (by decide)
                refine g_iconst C (v := 1) dX3_insert_106 (by decide) ?_
                refine g_goto C 111 dX3_insert_107 (by decide) ?_
                refine g_callVn C _ dX3_insert_111 (c_X3_goes l G _ _ _ _ _ _ _ _ _ hR (true) (false) (true)) kmX3_68 ki_X3_goes kv_X3_goes kn_X3 kc_X3_goes hy_X3_goes ⟨by decide, by decide⟩ hm rfl rfl (Nat.le_of_ble_eq_true rfl) ⟨by decide, by decide⟩ (fun v w1 hp => ?_)
                obtain ⟨rfl, hw1⟩ := hp
                have hw1 := hw1.symm
                subst hw1
                have hR := hR.upM (thC (true) (false) (true)) ord mny hn
                obtain ⟨hm, r0, r1, r2, r3, r4, r5, r6, r7, r8, r9, r10, r11, r12, hinj, hn⟩ := id hR
                have hf1 : fr (MD mo M) w _ := fr.rf.up (b := mo) (e := cellM M (thC (true) (false) (true)) n ord mny) MD.m
                refine g_if_ne C 119 dX3_insert_114 (by decide) (fun c114 => absurd (by simp [bI]) c114) (fun _ => ?_)
                refine g_iconst C (v := 0) dX3_insert_117 (by decide) ?_
                have htc : (nI t').toNatClampNeg = t' := nI_clamp (by omega)
                have hp1 : (isDk (nI d') && (isTh th && (decide ((nI t') = -1) || kOf n B (nI d') (nI t')))) = (true) := by first | rfl | simp [htc, c4, c11, c16, c25]
                have hp2 : ((isDk (nI d') && (isTh th && (decide ((nI t') = -1) || kOf n B (nI d') (nI t')))) && ((decide ((nI t') = -1) || (decide (I 2 (nI t').toNatClampNeg = 3) && decide (I 3 (nI t').toNatClampNeg = th))) && wiB v 0 999)) = (false) := by first | rfl | simp [htc, c4, c11, c16, c25, c52, c62]
                have hp3 : (decide (n < 120)) = (true) := by first | rfl | simp [htc, c103]
                refine g_iret C hr dX3_insert_118 (by decide) (by decide) ?_
                rw [hp3, hp2, hp1]
                exact Or.inl ⟨by simp, rfl, hR, hf1⟩
            · refine g_iconst C (v := 1) dX3_insert_65 (by decide) ?_
              refine g_goto C 70 dX3_insert_66 (by decide) ?_
              refine g_istore C dX3_insert_70 (by decide) ?_
              first | refine g_aload_n C dX3_insert_72 rfl rfl ?_ | refine g_aload_nN C dX3_insert_72 rfl rfl ?_ | refine g_aload_nq C dX3_insert_72 rfl rfl ?_
              refine g_iload C dX3_insert_73 rfl ?_
              refine g_iload C dX3_insert_75 rfl ?_
              refine g_if_eq C 96 dX3_insert_77 (by decide) (fun c77 => absurd c77 (by decide)) (fun _ => ?_)
              refine g_iload C dX3_insert_80 rfl ?_
              refine g_iconst C (v := 0) dX3_insert_82 (by decide) ?_
              refine g_sipush C (v := 999) dX3_insert_83 (by decide) ?_
              refine g_callSn C _ dX3_insert_86 (c_X3_within l G _ _ _ _) kmX3_64 ks_X3_within kn_X3 kc_X3_within hy_X3_within ⟨by decide, by decide⟩ rfl (Nat.le_of_ble_eq_true rfl) ⟨by decide, by decide⟩ (fun v w1 hp => ?_)
              obtain ⟨rfl, hw1⟩ := hp
              have hw1 := hw1.symm
              subst hw1
              refine g_if_eq C 96 dX3_insert_89 (by decide) (fun c89 => ?_) (fun c89 => ?_)
              · have c89 := bI_z.mp c89
                refine g_iconst C (v := 0) dX3_insert_96 (by decide) ?_
                first | refine g_aload_n C dX3_insert_97 rfl rfl ?_ | refine g_aload_nN C dX3_insert_97 rfl rfl ?_ | refine g_aload_nq C dX3_insert_97 rfl rfl ?_
                refine g_get C dX3_insert_98 hm rfl kw_X3 1 (by decide) kfX3_58 rfl rfl ?_
                refine g_bipush C (v := 120) dX3_insert_101 (by decide) ?_
                refine g_icmp_ge C 110 dX3_insert_103 (by decide) (fun c103 => ?_) (fun c103 => ?_)
                · have c103 : ¬ n < 120 := by have := (nI_leI (a := 120) (b := n) (by decide) (by omega)).mp c103; omega
                  refine g_iconst C (v := 0) dX3_insert_110 (by decide) ?_
                  refine g_callVn C _ dX3_insert_111 (c_X3_goes l G _ _ _ _ _ _ _ _ _ hR (true) (false) (false)) kmX3_68 ki_X3_goes kv_X3_goes kn_X3 kc_X3_goes hy_X3_goes ⟨by decide, by decide⟩ hm rfl rfl (Nat.le_of_ble_eq_true rfl) ⟨by decide, by decide⟩ (fun v w1 hp => ?_)
                  obtain ⟨rfl, hw1⟩ := hp
                  have hw1 := hw1.symm
                  subst hw1
                  have hR := hR.upM (thC (true) (false) (false)) ord mny hn
                  obtain ⟨hm, r0, r1, r2, r3, r4, r5, r6, r7, r8, r9, r10, r11, r12, hinj, hn⟩ := id hR
                  have hf1 : fr (MD mo M) w _ := fr.rf.up (b := mo) (e := cellM M (thC (true) (false) (false)) n ord mny) MD.m
                  refine g_if_ne C 119 dX3_insert_114 (by decide) (fun c114 => absurd (by simp [bI]) c114) (fun _ => ?_)
                  refine g_iconst C (v := 0) dX3_insert_117 (by decide) ?_
                  have htc : (nI t').toNatClampNeg = t' := nI_clamp (by omega)
                  have hp1 : (isDk (nI d') && (isTh th && (decide ((nI t') = -1) || kOf n B (nI d') (nI t')))) = (true) := by first | rfl | simp [htc, c4, c11, c16, c25]
                  have hp2 : ((isDk (nI d') && (isTh th && (decide ((nI t') = -1) || kOf n B (nI d') (nI t')))) && ((decide ((nI t') = -1) || (decide (I 2 (nI t').toNatClampNeg = 3) && decide (I 3 (nI t').toNatClampNeg = th))) && wiB v 0 999)) = (false) := by first | rfl | simp [htc, c4, c11, c16, c25, c52, c62, c89]
                  have hp3 : (decide (n < 120)) = (false) := by first | rfl | simp [htc, c103]
                  refine g_iret C hr dX3_insert_118 (by decide) (by decide) ?_
                  rw [hp3, hp2, hp1]
                  exact Or.inl ⟨by simp, rfl, hR, hf1⟩
                · have c103 : n < 120 := nI_nge c103 (by omega) (by decide)
                  refine g_iconst C (v := 1) dX3_insert_106 (by decide) ?_
                  refine g_goto C 111 dX3_insert_107 (by decide) ?_
                  refine g_callVn C _ dX3_insert_111 (c_X3_goes l G _ _ _ _ _ _ _ _ _ hR (true) (false) (true)) kmX3_68 ki_X3_goes kv_X3_goes kn_X3 kc_X3_goes hy_X3_goes ⟨by decide, by decide⟩ hm rfl rfl (Nat.le_of_ble_eq_true rfl) ⟨by decide, by decide⟩ (fun v w1 hp => ?_)
                  obtain ⟨rfl, hw1⟩ := hp
                  have hw1 := hw1.symm
                  subst hw1
                  have hR := hR.upM (thC (true) (false) (true)) ord mny hn
                  obtain ⟨hm, r0, r1, r2, r3, r4, r5, r6, r7, r8, r9, r10, r11, r12, hinj, hn⟩ := id hR
                  have hf1 : fr (MD mo M) w _ := fr.rf.up (b := mo) (e := cellM M (thC (true) (false) (true)) n ord mny) MD.m
                  refine g_if_ne C 119 dX3_insert_114 (by decide) (fun c114 => absurd (by simp [bI]) c114) (fun _ => ?_)
                  refine g_iconst C (v := 0) dX3_insert_117 (by decide) ?_
                  have htc : (nI t').toNatClampNeg = t' := nI_clamp (by omega)
                  have hp1 : (isDk (nI d') && (isTh th && (decide ((nI t') = -1) || kOf n B (nI d') (nI t')))) = (true) := by first | rfl | simp [htc, c4, c11, c16, c25]
                  have hp2 : ((isDk (nI d') && (isTh th && (decide ((nI t') = -1) || kOf n B (nI d') (nI t')))) && ((decide ((nI t') = -1) || (decide (I 2 (nI t').toNatClampNeg = 3) && decide (I 3 (nI t').toNatClampNeg = th))) && wiB v 0 999)) = (false) := by first | rfl | simp [htc, c4, c11, c16, c25, c52, c62, c89]
                  have hp3 : (decide (n < 120)) = (true) := by first | rfl | simp [htc, c103]
                  refine g_iret C hr dX3_insert_118 (by decide) (by decide) ?_
                  rw [hp3, hp2, hp1]
                  exact Or.inl ⟨by simp, rfl, hR, hf1⟩
              · have c89 := bI_nz.mp c89
                refine g_iconst C (v := 1) dX3_insert_92 (by decide) ?_
                refine g_goto C 97 dX3_insert_93 (by decide) ?_
                first | refine g_aload_n C dX3_insert_97 rfl rfl ?_ | refine g_aload_nN C dX3_insert_97 rfl rfl ?_ | refine g_aload_nq C dX3_insert_97 rfl rfl ?_
                refine g_get C dX3_insert_98 hm rfl kw_X3 1 (by decide) kfX3_58 rfl rfl ?_
                refine g_bipush C (v := 120) dX3_insert_101 (by decide) ?_
                refine g_icmp_ge C 110 dX3_insert_103 (by decide) (fun c103 => ?_) (fun c103 => ?_)
                · have c103 : ¬ n < 120 := by have := (nI_leI (a := 120) (b := n) (by decide) (by omega)).mp c103; omega
                  refine g_iconst C (v := 0) dX3_insert_110 (by decide) ?_
                  refine g_callVn C _ dX3_insert_111 (c_X3_goes l G _ _ _ _ _ _ _ _ _ hR (true) (true) (false)) kmX3_68 ki_X3_goes kv_X3_goes kn_X3 kc_X3_goes hy_X3_goes ⟨by decide, by decide⟩ hm rfl rfl (Nat.le_of_ble_eq_true rfl) ⟨by decide, by decide⟩ (fun v w1 hp => ?_)
                  obtain ⟨rfl, hw1⟩ := hp
                  have hw1 := hw1.symm
                  subst hw1
                  have hR := hR.upM (thC (true) (true) (false)) ord mny hn
                  obtain ⟨hm, r0, r1, r2, r3, r4, r5, r6, r7, r8, r9, r10, r11, r12, hinj, hn⟩ := id hR
                  have hf1 : fr (MD mo M) w _ := fr.rf.up (b := mo) (e := cellM M (thC (true) (true) (false)) n ord mny) MD.m
                  refine g_if_ne C 119 dX3_insert_114 (by decide) (fun c114 => absurd (by simp [bI]) c114) (fun _ => ?_)
                  refine g_iconst C (v := 0) dX3_insert_117 (by decide) ?_
                  have htc : (nI t').toNatClampNeg = t' := nI_clamp (by omega)
                  have hp1 : (isDk (nI d') && (isTh th && (decide ((nI t') = -1) || kOf n B (nI d') (nI t')))) = (true) := by first | rfl | simp [htc, c4, c11, c16, c25]
                  have hp2 : ((isDk (nI d') && (isTh th && (decide ((nI t') = -1) || kOf n B (nI d') (nI t')))) && ((decide ((nI t') = -1) || (decide (I 2 (nI t').toNatClampNeg = 3) && decide (I 3 (nI t').toNatClampNeg = th))) && wiB v 0 999)) = (true) := by first | rfl | simp [htc, c4, c11, c16, c25, c52, c62, c89]
                  have hp3 : (decide (n < 120)) = (false) := by first | rfl | simp [htc, c103]
                  refine g_iret C hr dX3_insert_118 (by decide) (by decide) ?_
                  rw [hp3, hp2, hp1]
                  exact Or.inl ⟨by simp, rfl, hR, hf1⟩
                · have c103 : n < 120 := nI_nge c103 (by omega) (by decide)
                  refine g_iconst C (v := 1) dX3_insert_106 (by decide) ?_
                  refine g_goto C 111 dX3_insert_107 (by decide) ?_
                  refine g_callVn C _ dX3_insert_111 (c_X3_goes l G _ _ _ _ _ _ _ _ _ hR (true) (true) (true)) kmX3_68 ki_X3_goes kv_X3_goes kn_X3 kc_X3_goes hy_X3_goes ⟨by decide, by decide⟩ hm rfl rfl (Nat.le_of_ble_eq_true rfl) ⟨by decide, by decide⟩ (fun v w1 hp => ?_)
                  obtain ⟨rfl, hw1⟩ := hp
                  have hw1 := hw1.symm
                  subst hw1
                  have hR := hR.upM (thC (true) (true) (true)) ord mny hn
                  obtain ⟨hm, r0, r1, r2, r3, r4, r5, r6, r7, r8, r9, r10, r11, r12, hinj, hn⟩ := id hR
                  have hf1 : fr (MD mo M) w _ := fr.rf.up (b := mo) (e := cellM M (thC (true) (true) (true)) n ord mny) MD.m
                  refine g_if_ne C 119 dX3_insert_114 (by decide) (fun c114 => ?_) (fun c114 => ?_)
                  · have c114 := bI_nz.mp c114
                    first | refine g_aload_n C dX3_insert_119 rfl rfl ?_ | refine g_aload_nN C dX3_insert_119 rfl rfl ?_ | refine g_aload_nq C dX3_insert_119 rfl rfl ?_
                    refine g_iload_n C dX3_insert_120 rfl rfl ?_
                    refine g_iconst C (v := 3) dX3_insert_121 (by decide) ?_
                    refine g_iload_n C dX3_insert_122 rfl rfl ?_
                    refine g_iload C dX3_insert_123 rfl ?_
                    refine g_iload_n C dX3_insert_125 rfl rfl ?_
                    refine g_callVn C _ dX3_insert_126 (c_X3_make l G _ _ _ _ _ _ _ _ _ hR d' (by omega) _ _ _ _ (by omega)) kmX3_71 ki_X3_make kv_X3_make kn_X3 kc_X3_make hy_X3_make ⟨by decide, by decide⟩ hm rfl rfl (Nat.le_of_ble_eq_true rfl) ⟨by decide, by decide⟩ (fun v w1 hp => ?_)
                    obtain ⟨rfl, hR2, hf2⟩ := hp
                    have htc : (nI t').toNatClampNeg = t' := nI_clamp (by omega)
                    have hp1 : (isDk (nI d') && (isTh th && (decide ((nI t') = -1) || kOf n B (nI d') (nI t')))) = (true) := by first | rfl | simp [htc, c4, c11, c16, c25]
                    have hp2 : ((isDk (nI d') && (isTh th && (decide ((nI t') = -1) || kOf n B (nI d') (nI t')))) && ((decide ((nI t') = -1) || (decide (I 2 (nI t').toNatClampNeg = 3) && decide (I 3 (nI t').toNatClampNeg = th))) && wiB v 0 999)) = (true) := by first | rfl | simp [htc, c4, c11, c16, c25, c52, c62, c89]
                    have hp3 : (decide (n < 120)) = (true) := by first | rfl | simp [htc, c103]
                    have hth := thC_t c114
                    refine g_iret C hr dX3_insert_129 (by decide) (by decide) ?_
                    rw [hp3, hp2, hp1]
                    exact Or.inr ⟨c114, _, rfl, _, hd', rfl, rfl, hR2.th hth, hf1.trans hf2⟩
                  · have c114 := bI_z.mp c114
                    refine g_iconst C (v := 0) dX3_insert_117 (by decide) ?_
                    have htc : (nI t').toNatClampNeg = t' := nI_clamp (by omega)
                    have hp1 : (isDk (nI d') && (isTh th && (decide ((nI t') = -1) || kOf n B (nI d') (nI t')))) = (true) := by first | rfl | simp [htc, c4, c11, c16, c25]
                    have hp2 : ((isDk (nI d') && (isTh th && (decide ((nI t') = -1) || kOf n B (nI d') (nI t')))) && ((decide ((nI t') = -1) || (decide (I 2 (nI t').toNatClampNeg = 3) && decide (I 3 (nI t').toNatClampNeg = th))) && wiB v 0 999)) = (true) := by first | rfl | simp [htc, c4, c11, c16, c25, c52, c62, c89]
                    have hp3 : (decide (n < 120)) = (true) := by first | rfl | simp [htc, c103]
                    refine g_iret C hr dX3_insert_118 (by decide) (by decide) ?_
                    rw [hp3, hp2, hp1]
                    exact Or.inl ⟨c114, rfl, hR, hf1⟩

set_option maxHeartbeats 4000000 in
set_option maxRecDepth 100000 in
theorem c_X3_number (l : Launch) (G : hD) (w : hW) (mo : Nat) (M : Nat → Nat) (n : Nat) (I : Nat → Nat → Int32) (B : Nat → Nat → Bool) (thr ord mny : Int32) (hR : MR G mo M n I B thr ord mny w) (d : Int32) : h_Met l yX3_number (Cond.code yX3_number cX3_number 2 (some .int)) { frames := 2, cells := 0, slots := 0, locals := 60 } G [.ref mo, .int d] w (mP G mo M n I B ord mny w (isDk d) (isDk d && decide (I 8 d.toNatClampNeg < 1000)) (true) (fun x w' => ∃ d', d' < 6 ∧ d = nI d' ∧ x = 1000 * nI d' + (I 8 d' + 1) - 1 ∧ MR G mo M n (va_up I 8 (upd (I 8) d' (I 8 d' + 1))) B 0 ord mny w' ∧ fr (MD mo M) w w')) noX := by
  refine h_met RX3 rfl (by decide) (Nat.le_of_ble_eq_true rfl) (cat_c (by first | rfl | exact rf_cat _) (cat_c (by first | rfl | exact rf_cat _) cat_n)) ?_
  intro p e s m below meth c A C hnt hr hnm
  obtain ⟨hm, r0, r1, r2, r3, r4, r5, r6, r7, r8, r9, r10, r11, r12, hinj, hn⟩ := id hR
  first | refine g_aload_n C dX3_number_0 rfl rfl ?_ | refine g_aload_nN C dX3_number_0 rfl rfl ?_ | refine g_aload_nq C dX3_number_0 rfl rfl ?_
  refine g_iload_n C dX3_number_1 rfl rfl ?_
  refine g_callSn C _ dX3_number_2 (c_X3_isDesk l G _ _) kmX3_54 ks_X3_isDesk kn_X3 kc_X3_isDesk hy_X3_isDesk ⟨by decide, by decide⟩ rfl (Nat.le_of_ble_eq_true rfl) ⟨by decide, by decide⟩ (fun v w1 hp => ?_)
  obtain ⟨rfl, hw1⟩ := hp
  have hw1 := hw1.symm
  subst hw1
  refine g_iload_n C dX3_number_5 rfl rfl ?_
  refine g_callSn C _ dX3_number_6 (c_X3_isDesk l G _ _) kmX3_54 ks_X3_isDesk kn_X3 kc_X3_isDesk hy_X3_isDesk ⟨by decide, by decide⟩ rfl (Nat.le_of_ble_eq_true rfl) ⟨by decide, by decide⟩ (fun v w1 hp => ?_)
  obtain ⟨rfl, hw1⟩ := hp
  have hw1 := hw1.symm
  subst hw1
  refine g_if_eq C 28 dX3_number_9 (by decide) (fun c9 => ?_) (fun c9 => ?_)
  · have c9 := bI_z.mp c9
    refine g_iconst C (v := 0) dX3_number_28 (by decide) ?_
    refine g_iconst C (v := 1) dX3_number_29 (by decide) ?_
    refine g_callVn C _ dX3_number_30 (c_X3_goes l G _ _ _ _ _ _ _ _ _ hR (isDk d) (false) (true)) kmX3_68 ki_X3_goes kv_X3_goes kn_X3 kc_X3_goes hy_X3_goes ⟨by decide, by decide⟩ hm rfl rfl (Nat.le_of_ble_eq_true rfl) ⟨by decide, by decide⟩ (fun v w1 hp => ?_)
    obtain ⟨rfl, hw1⟩ := hp
    have hw1 := hw1.symm
    subst hw1
    have hR := hR.upM (thC (isDk d) (false) (true)) ord mny hn
    obtain ⟨hm, r0, r1, r2, r3, r4, r5, r6, r7, r8, r9, r10, r11, r12, hinj, hn⟩ := id hR
    have hf1 : fr (MD mo M) w _ := fr.rf.up (b := mo) (e := cellM M (thC (isDk d) (false) (true)) n ord mny) MD.m
    refine g_if_ne C 38 dX3_number_33 (by decide) (fun c33 => absurd (by simp [bI]) c33) (fun _ => ?_)
    refine g_iconst C (v := 0) dX3_number_36 (by decide) ?_
    have htc := True.intro
    have hp1 : (isDk d) = (isDk d) := by first | rfl | simp [htc, c9]
    have hp2 : (isDk d && decide (I 8 d.toNatClampNeg < 1000)) = (false) := by first | rfl | simp [htc, c9]
    have hp3 : (true) = (true) := by first | rfl | simp [htc, ]
    refine g_iret C hr dX3_number_37 (by decide) (by decide) ?_
    rw [hp3, hp2, hp1]
    exact Or.inl ⟨by simp, rfl, hR, hf1⟩
  · have c9 := bI_nz.mp c9
    obtain ⟨d', hd', rfl⟩ := isDk_nI c9
    first | refine g_aload_n C dX3_number_12 rfl rfl ?_ | refine g_aload_nN C dX3_number_12 rfl rfl ?_ | refine g_aload_nq C dX3_number_12 rfl rfl ?_
    refine g_get C dX3_number_13 hm rfl kw_X3 10 (by decide) kfX3_35 rfl rfl ?_
    refine g_iload_n C dX3_number_16 rfl rfl ?_
    refine g_ialdN C dX3_number_17 r8 (by omega) (by decide) ?_
    refine g_sipush C (v := 1000) dX3_number_18 (by decide) ?_
    refine g_icmp_ge C 28 dX3_number_21 (by decide) (fun c21 => ?_) (fun c21 => ?_)
    · have c21 := Int32.not_lt.mpr c21
      refine g_iconst C (v := 0) dX3_number_28 (by decide) ?_
      refine g_iconst C (v := 1) dX3_number_29 (by decide) ?_
      refine g_callVn C _ dX3_number_30 (c_X3_goes l G _ _ _ _ _ _ _ _ _ hR (isDk (nI d')) (false) (true)) kmX3_68 ki_X3_goes kv_X3_goes kn_X3 kc_X3_goes hy_X3_goes ⟨by decide, by decide⟩ hm rfl rfl (Nat.le_of_ble_eq_true rfl) ⟨by decide, by decide⟩ (fun v w1 hp => ?_)
      obtain ⟨rfl, hw1⟩ := hp
      have hw1 := hw1.symm
      subst hw1
      have hR := hR.upM (thC (isDk (nI d')) (false) (true)) ord mny hn
      obtain ⟨hm, r0, r1, r2, r3, r4, r5, r6, r7, r8, r9, r10, r11, r12, hinj, hn⟩ := id hR
      have hf1 : fr (MD mo M) w _ := fr.rf.up (b := mo) (e := cellM M (thC (isDk (nI d')) (false) (true)) n ord mny) MD.m
      refine g_if_ne C 38 dX3_number_33 (by decide) (fun c33 => absurd (by simp [bI]) c33) (fun _ => ?_)
      refine g_iconst C (v := 0) dX3_number_36 (by decide) ?_
      have htc : (nI d').toNatClampNeg = d' := nI_clamp (by omega)
      have hp1 : (isDk (nI d')) = (isDk (nI d')) := by first | rfl | simp [htc, c9]
      have hp2 : (isDk (nI d') && decide (I 8 (nI d').toNatClampNeg < 1000)) = (false) := by first | rfl | simp [htc, c9, c21]
      have hp3 : (true) = (true) := by first | rfl | simp [htc, ]
      refine g_iret C hr dX3_number_37 (by decide) (by decide) ?_
      rw [hp3, hp2, hp1]
      exact Or.inl ⟨by simp, rfl, hR, hf1⟩
    · have c21 := Int32.not_le.mp c21
      refine g_iconst C (v := 1) dX3_number_24 (by decide) ?_
      refine g_goto C 29 dX3_number_25 (by decide) ?_
      refine g_iconst C (v := 1) dX3_number_29 (by decide) ?_
      refine g_callVn C _ dX3_number_30 (c_X3_goes l G _ _ _ _ _ _ _ _ _ hR (isDk (nI d')) (true) (true)) kmX3_68 ki_X3_goes kv_X3_goes kn_X3 kc_X3_goes hy_X3_goes ⟨by decide, by decide⟩ hm rfl rfl (Nat.le_of_ble_eq_true rfl) ⟨by decide, by decide⟩ (fun v w1 hp => ?_)
      obtain ⟨rfl, hw1⟩ := hp
      have hw1 := hw1.symm
      subst hw1
      have hR := hR.upM (thC (isDk (nI d')) (true) (true)) ord mny hn
      obtain ⟨hm, r0, r1, r2, r3, r4, r5, r6, r7, r8, r9, r10, r11, r12, hinj, hn⟩ := id hR
      have hf1 : fr (MD mo M) w _ := fr.rf.up (b := mo) (e := cellM M (thC (isDk (nI d')) (true) (true)) n ord mny) MD.m
      refine g_if_ne C 38 dX3_number_33 (by decide) (fun c33 => ?_) (fun c33 => ?_)
      · have c33 := bI_nz.mp c33
        first | refine g_aload_n C dX3_number_38 rfl rfl ?_ | refine g_aload_nN C dX3_number_38 rfl rfl ?_ | refine g_aload_nq C dX3_number_38 rfl rfl ?_
        refine g_get C dX3_number_39 hm rfl kw_X3 10 (by decide) kfX3_35 rfl rfl ?_
        refine g_iload_n C dX3_number_42 rfl rfl ?_
        refine g_dup2 C dX3_number_43 rfl rfl ?_
        refine g_ialdN C dX3_number_44 r8 (by omega) (by decide) ?_
        refine g_iconst C (v := 1) dX3_number_45 (by decide) ?_
        refine g_iadd C dX3_number_46 ?_
        refine g_iastN C dX3_number_47 r8 (by omega) (by decide) ?_
        have hR := hR.up8 (upd (I 8) d' (I 8 d' + 1))
        obtain ⟨hm, r0, r1, r2, r3, r4, r5, r6, r7, r8, r9, r10, r11, r12, hinj, hn⟩ := id hR
        refine g_sipush C (v := 1000) dX3_number_48 (by decide) ?_
        refine g_iload_n C dX3_number_51 rfl rfl ?_
        refine g_imul C dX3_number_52 ?_
        first | refine g_aload_n C dX3_number_53 rfl rfl ?_ | refine g_aload_nN C dX3_number_53 rfl rfl ?_ | refine g_aload_nq C dX3_number_53 rfl rfl ?_
        refine g_get C dX3_number_54 hm rfl kw_X3 10 (by decide) kfX3_35 rfl rfl ?_
        refine g_iload_n C dX3_number_57 rfl rfl ?_
        refine g_ialdN C dX3_number_58 r8 (by omega) (by decide) ?_
        refine g_eq (show _ = I 8 d' + 1 from pk_us) ?_
        refine g_iadd C dX3_number_59 ?_
        refine g_iconst C (v := 1) dX3_number_60 (by decide) ?_
        refine g_isub C dX3_number_61 ?_
        have htc : (nI d').toNatClampNeg = d' := nI_clamp (by omega)
        have hp1 : (isDk (nI d')) = (isDk (nI d')) := by first | rfl | simp [htc, c9]
        have hp2 : (isDk (nI d') && decide (I 8 (nI d').toNatClampNeg < 1000)) = (true) := by first | rfl | simp [htc, c9, c21]
        have hp3 : (true) = (true) := by first | rfl | simp [htc, ]
        have hth := thC_t c33
        refine g_iret C hr dX3_number_62 (by decide) (by decide) ?_
        rw [hp3, hp2, hp1]
        exact Or.inr ⟨c33, _, rfl, _, hd', rfl, rfl, hR.th hth, hf1.up (MD.a 8 (by decide))⟩
      · have c33 := bI_z.mp c33
        refine g_iconst C (v := 0) dX3_number_36 (by decide) ?_
        have htc : (nI d').toNatClampNeg = d' := nI_clamp (by omega)
        have hp1 : (isDk (nI d')) = (isDk (nI d')) := by first | rfl | simp [htc, c9]
        have hp2 : (isDk (nI d') && decide (I 8 (nI d').toNatClampNeg < 1000)) = (true) := by first | rfl | simp [htc, c9, c21]
        have hp3 : (true) = (true) := by first | rfl | simp [htc, ]
        refine g_iret C hr dX3_number_37 (by decide) (by decide) ?_
        rw [hp3, hp2, hp1]
        exact Or.inl ⟨c33, rfl, hR, hf1⟩

set_option maxHeartbeats 4000000 in
set_option maxRecDepth 100000 in
theorem c_X3_knows (l : Launch) (G : hD) (w : hW) (mo : Nat) (M : Nat → Nat) (n : Nat) (I : Nat → Nat → Int32) (B : Nat → Nat → Bool) (thr ord mny : Int32) (hR : MR G mo M n I B thr ord mny w) (d t : Int32) : h_Met l yX3_knows (Cond.code yX3_knows cX3_knows 3 (some .boolean)) { frames := 2, cells := 0, slots := 0, locals := 60 } G [.ref mo, .int d, .int t] w (mP G mo M n I B ord mny w (isDk d && (!decide (t < 0) && decide (t < nI n))) true true (fun x w' => ∃ d' t', d' < 6 ∧ t' < n ∧ d = nI d' ∧ t = nI t' ∧ mS G mo M n I B ord mny w (bI (B 7 (120 * d' + t'))) x w')) noX := by
  refine h_met RX3 rfl (by decide) (Nat.le_of_ble_eq_true rfl) (cat_c (by first | rfl | exact rf_cat _) (cat_c (by first | rfl | exact rf_cat _) (cat_c (by first | rfl | exact rf_cat _) cat_n))) ?_
  intro p e s m below meth c A C hnt hr hnm
  obtain ⟨hm, r0, r1, r2, r3, r4, r5, r6, r7, r8, r9, r10, r11, r12, hinj, hn⟩ := id hR
  first | refine g_aload_n C dX3_knows_0 rfl rfl ?_ | refine g_aload_nN C dX3_knows_0 rfl rfl ?_ | refine g_aload_nq C dX3_knows_0 rfl rfl ?_
  refine g_iload_n C dX3_knows_1 rfl rfl ?_
  refine g_callSn C _ dX3_knows_2 (c_X3_isDesk l G _ _) kmX3_54 ks_X3_isDesk kn_X3 kc_X3_isDesk hy_X3_isDesk ⟨by decide, by decide⟩ rfl (Nat.le_of_ble_eq_true rfl) ⟨by decide, by decide⟩ (fun v w1 hp => ?_)
  obtain ⟨rfl, hw1⟩ := hp
  have hw1 := hw1.symm
  subst hw1
  refine g_if_eq C 24 dX3_knows_5 (by decide) (fun c5 => ?_) (fun c5 => ?_)
  · have c5 := bI_z.mp c5
    refine g_iconst C (v := 0) dX3_knows_24 (by decide) ?_
    refine g_iconst C (v := 1) dX3_knows_25 (by decide) ?_
    refine g_iconst C (v := 1) dX3_knows_26 (by decide) ?_
    refine g_callVn C _ dX3_knows_27 (c_X3_goes l G _ _ _ _ _ _ _ _ _ hR (false) (true) (true)) kmX3_68 ki_X3_goes kv_X3_goes kn_X3 kc_X3_goes hy_X3_goes ⟨by decide, by decide⟩ hm rfl rfl (Nat.le_of_ble_eq_true rfl) ⟨by decide, by decide⟩ (fun v w1 hp => ?_)
    obtain ⟨rfl, hw1⟩ := hp
    have hw1 := hw1.symm
    subst hw1
    have hR := hR.upM (thC (false) (true) (true)) ord mny hn
    obtain ⟨hm, r0, r1, r2, r3, r4, r5, r6, r7, r8, r9, r10, r11, r12, hinj, hn⟩ := id hR
    have hf1 : fr (MD mo M) w _ := fr.rf.up (b := mo) (e := cellM M (thC (false) (true) (true)) n ord mny) MD.m
    refine g_if_eq C 51 dX3_knows_30 (by decide) (fun _ => ?_) (fun c30 => absurd (by simp [bI]) c30)
    refine g_iconst C (v := 0) dX3_knows_51 (by decide) ?_
    have hp1 : (isDk d && (!decide (t < 0) && decide (t < nI n))) = (false) := by first | rfl | simp [c5]
    have hp2 : (true) = (true) := by first | rfl | simp []
    have hp3 : (true) = (true) := by first | rfl | simp []
    refine g_zret C hr rfl dX3_knows_52 (by decide) (by decide) ?_
    rw [hp3, hp2, hp1]
    exact Or.inl ⟨by simp, rfl, hR, hf1⟩
  · have c5 := bI_nz.mp c5
    refine g_iload_n C dX3_knows_8 rfl rfl ?_
    refine g_if_lt C 24 dX3_knows_9 (by decide) (fun c9 => ?_) (fun c9 => ?_)
    · refine g_iconst C (v := 0) dX3_knows_24 (by decide) ?_
      refine g_iconst C (v := 1) dX3_knows_25 (by decide) ?_
      refine g_iconst C (v := 1) dX3_knows_26 (by decide) ?_
      refine g_callVn C _ dX3_knows_27 (c_X3_goes l G _ _ _ _ _ _ _ _ _ hR (false) (true) (true)) kmX3_68 ki_X3_goes kv_X3_goes kn_X3 kc_X3_goes hy_X3_goes ⟨by decide, by decide⟩ hm rfl rfl (Nat.le_of_ble_eq_true rfl) ⟨by decide, by decide⟩ (fun v w1 hp => ?_)
      obtain ⟨rfl, hw1⟩ := hp
      have hw1 := hw1.symm
      subst hw1
      have hR := hR.upM (thC (false) (true) (true)) ord mny hn
      obtain ⟨hm, r0, r1, r2, r3, r4, r5, r6, r7, r8, r9, r10, r11, r12, hinj, hn⟩ := id hR
      have hf1 : fr (MD mo M) w _ := fr.rf.up (b := mo) (e := cellM M (thC (false) (true) (true)) n ord mny) MD.m
      refine g_if_eq C 51 dX3_knows_30 (by decide) (fun _ => ?_) (fun c30 => absurd (by simp [bI]) c30)
      refine g_iconst C (v := 0) dX3_knows_51 (by decide) ?_
      have hp1 : (isDk d && (!decide (t < 0) && decide (t < nI n))) = (false) := by first | rfl | simp [c5, c9]
      have hp2 : (true) = (true) := by first | rfl | simp []
      have hp3 : (true) = (true) := by first | rfl | simp []
      refine g_zret C hr rfl dX3_knows_52 (by decide) (by decide) ?_
      rw [hp3, hp2, hp1]
      exact Or.inl ⟨by simp, rfl, hR, hf1⟩
    · refine g_iload_n C dX3_knows_12 rfl rfl ?_
      first | refine g_aload_n C dX3_knows_13 rfl rfl ?_ | refine g_aload_nN C dX3_knows_13 rfl rfl ?_ | refine g_aload_nq C dX3_knows_13 rfl rfl ?_
      refine g_get C dX3_knows_14 hm rfl kw_X3 1 (by decide) kfX3_58 rfl rfl ?_
      refine g_icmp_ge C 24 dX3_knows_17 (by decide) (fun c17 => ?_) (fun c17 => ?_)
      · have c17 := Int32.not_lt.mpr c17
        refine g_iconst C (v := 0) dX3_knows_24 (by decide) ?_
        refine g_iconst C (v := 1) dX3_knows_25 (by decide) ?_
        refine g_iconst C (v := 1) dX3_knows_26 (by decide) ?_
        refine g_callVn C _ dX3_knows_27 (c_X3_goes l G _ _ _ _ _ _ _ _ _ hR (false) (true) (true)) kmX3_68 ki_X3_goes kv_X3_goes kn_X3 kc_X3_goes hy_X3_goes ⟨by decide, by decide⟩ hm rfl rfl (Nat.le_of_ble_eq_true rfl) ⟨by decide, by decide⟩ (fun v w1 hp => ?_)
        obtain ⟨rfl, hw1⟩ := hp
        have hw1 := hw1.symm
        subst hw1
        have hR := hR.upM (thC (false) (true) (true)) ord mny hn
        obtain ⟨hm, r0, r1, r2, r3, r4, r5, r6, r7, r8, r9, r10, r11, r12, hinj, hn⟩ := id hR
        have hf1 : fr (MD mo M) w _ := fr.rf.up (b := mo) (e := cellM M (thC (false) (true) (true)) n ord mny) MD.m
        refine g_if_eq C 51 dX3_knows_30 (by decide) (fun _ => ?_) (fun c30 => absurd (by simp [bI]) c30)
        refine g_iconst C (v := 0) dX3_knows_51 (by decide) ?_
        have hp1 : (isDk d && (!decide (t < 0) && decide (t < nI n))) = (false) := by first | rfl | simp [c5, c9, c17]
        have hp2 : (true) = (true) := by first | rfl | simp []
        have hp3 : (true) = (true) := by first | rfl | simp []
        refine g_zret C hr rfl dX3_knows_52 (by decide) (by decide) ?_
        rw [hp3, hp2, hp1]
        exact Or.inl ⟨by simp, rfl, hR, hf1⟩
      · have c17 := Int32.not_le.mp c17
        refine g_iconst C (v := 1) dX3_knows_20 (by decide) ?_
        refine g_goto C 25 dX3_knows_21 (by decide) ?_
        refine g_iconst C (v := 1) dX3_knows_25 (by decide) ?_
        refine g_iconst C (v := 1) dX3_knows_26 (by decide) ?_
        refine g_callVn C _ dX3_knows_27 (c_X3_goes l G _ _ _ _ _ _ _ _ _ hR (true) (true) (true)) kmX3_68 ki_X3_goes kv_X3_goes kn_X3 kc_X3_goes hy_X3_goes ⟨by decide, by decide⟩ hm rfl rfl (Nat.le_of_ble_eq_true rfl) ⟨by decide, by decide⟩ (fun v w1 hp => ?_)
        obtain ⟨rfl, hw1⟩ := hp
        have hw1 := hw1.symm
        subst hw1
        have hR := hR.upM (thC (true) (true) (true)) ord mny hn
        obtain ⟨hm, r0, r1, r2, r3, r4, r5, r6, r7, r8, r9, r10, r11, r12, hinj, hn⟩ := id hR
        have hf1 : fr (MD mo M) w _ := fr.rf.up (b := mo) (e := cellM M (thC (true) (true) (true)) n ord mny) MD.m
        refine g_if_eq C 51 dX3_knows_30 (by decide) (fun c30 => absurd c30 (by simp [bI])) (fun _ => ?_)
        obtain ⟨d', hd', rfl⟩ := isDk_nI c5
        obtain ⟨t', ht', rfl⟩ := isM_of (by omega) c9 c17
        first | refine g_aload_n C dX3_knows_33 rfl rfl ?_ | refine g_aload_nN C dX3_knows_33 rfl rfl ?_ | refine g_aload_nq C dX3_knows_33 rfl rfl ?_
        refine g_get C dX3_knows_34 hm rfl kw_X3 9 (by decide) kfX3_32 rfl rfl ?_
        refine g_bipush C (v := 120) dX3_knows_37 (by decide) ?_
        refine g_iload_n C dX3_knows_39 rfl rfl ?_
        refine g_imul C dX3_knows_40 ?_
        refine g_iload_n C dX3_knows_41 rfl rfl ?_
        refine g_iadd C dX3_knows_42 ?_
        refine g_eq (ix120 d' t') ?_
        refine g_zaldN C dX3_knows_43 r7 (by omega) (by decide) ?_
        refine g_if_eq C 51 dX3_knows_44 (by decide) (fun c44 => ?_) (fun c44 => ?_)
        · have c44 := bI_z.mp c44
          refine g_iconst C (v := 0) dX3_knows_51 (by decide) ?_
          have hp1 : (isDk (nI d') && (!decide ((nI t') < 0) && decide ((nI t') < nI n))) = (true) := by first | rfl | simp [c5, c9, c17]
          have hp2 : (true) = (true) := by first | rfl | simp []
          have hp3 : (true) = (true) := by first | rfl | simp []
          have hth := thC_t (rfl : (true && (true && true)) = true)
          refine g_zret C hr rfl dX3_knows_52 (by decide) (by decide) ?_
          rw [hp3, hp2, hp1]
          exact Or.inr ⟨(rfl : (true && (true && true)) = true), _, rfl, _, _, hd', ht', rfl, rfl, by simp [bI, c44], hR.th hth, hf1⟩
        · have c44 := bI_nz.mp c44
          refine g_iconst C (v := 1) dX3_knows_47 (by decide) ?_
          refine g_goto C 52 dX3_knows_48 (by decide) ?_
          have hp1 : (isDk (nI d') && (!decide ((nI t') < 0) && decide ((nI t') < nI n))) = (true) := by first | rfl | simp [c5, c9, c17]
          have hp2 : (true) = (true) := by first | rfl | simp []
          have hp3 : (true) = (true) := by first | rfl | simp []
          have hth := thC_t (rfl : (true && (true && true)) = true)
          refine g_zret C hr rfl dX3_knows_52 (by decide) (by decide) ?_
          rw [hp3, hp2, hp1]
          exact Or.inr ⟨(rfl : (true && (true && true)) = true), _, rfl, _, _, hd', ht', rfl, rfl, by simp [bI, c44], hR.th hth, hf1⟩

def maV (I : Nat → Nat → Int32) (t : Nat) (q : Int32) : Int32 := if q = 0 then I 0 t else if q = 1 then I 1 t else if q = 2 then I 2 t else I 4 t
set_option maxHeartbeats 4000000 in
set_option maxRecDepth 100000 in
theorem c_X3_about (l : Launch) (G : hD) (w : hW) (mo : Nat) (M : Nat → Nat) (n : Nat) (I : Nat → Nat → Int32) (B : Nat → Nat → Bool) (thr ord mny : Int32) (hR : MR G mo M n I B thr ord mny w) (d t q : Int32) : h_Met l yX3_about (Cond.code yX3_about cX3_about 4 (some .int)) { frames := 2, cells := 0, slots := 0, locals := 60 } G [.ref mo, .int d, .int t, .int q] w (mP G mo M n I B ord mny w (kOf n B d t) (wiB q 0 3) (true) (fun x w' => ∃ d' t', d' < 6 ∧ t' < n ∧ d = nI d' ∧ t = nI t' ∧ mS G mo M n I B ord mny w (maV I t' q) x w')) noX := by
  refine h_met RX3 rfl (by decide) (Nat.le_of_ble_eq_true rfl) (cat_c (by first | rfl | exact rf_cat _) (cat_c (by first | rfl | exact rf_cat _) (cat_c (by first | rfl | exact rf_cat _) (cat_c (by first | rfl | exact rf_cat _) cat_n)))) ?_
  intro p e s m below meth c A C hnt hr hnm
  obtain ⟨hm, r0, r1, r2, r3, r4, r5, r6, r7, r8, r9, r10, r11, r12, hinj, hn⟩ := id hR
  first | refine g_aload_n C dX3_about_0 rfl rfl ?_ | refine g_aload_nN C dX3_about_0 rfl rfl ?_ | refine g_aload_nq C dX3_about_0 rfl rfl ?_
  first | refine g_aload_n C dX3_about_1 rfl rfl ?_ | refine g_aload_nN C dX3_about_1 rfl rfl ?_ | refine g_aload_nq C dX3_about_1 rfl rfl ?_
  refine g_iload_n C dX3_about_2 rfl rfl ?_
  refine g_iload_n C dX3_about_3 rfl rfl ?_
  refine g_callVn C _ dX3_about_4 (c_X3_knowsOf l G _ _ _ _ _ _ _ _ _ hR _ _) kmX3_75 ki_X3_knowsOf kv_X3_knowsOf kn_X3 kc_X3_knowsOf hy_X3_knowsOf ⟨by decide, by decide⟩ hm rfl rfl (Nat.le_of_ble_eq_true rfl) ⟨by decide, by decide⟩ (fun v w1 hp => ?_)
  obtain ⟨rfl, hw1⟩ := hp
  have hw1 := hw1.symm
  subst hw1
  refine g_iload_n C dX3_about_7 rfl rfl ?_
  refine g_iconst C (v := 0) dX3_about_8 (by decide) ?_
  refine g_iconst C (v := 3) dX3_about_9 (by decide) ?_
  refine g_callSn C _ dX3_about_10 (c_X3_within l G _ _ _ _) kmX3_64 ks_X3_within kn_X3 kc_X3_within hy_X3_within ⟨by decide, by decide⟩ rfl (Nat.le_of_ble_eq_true rfl) ⟨by decide, by decide⟩ (fun v w1 hp => ?_)
  obtain ⟨rfl, hw1⟩ := hp
  have hw1 := hw1.symm
  subst hw1
  refine g_iconst C (v := 1) dX3_about_13 (by decide) ?_
  refine g_callVn C _ dX3_about_14 (c_X3_goes l G _ _ _ _ _ _ _ _ _ hR (kOf n B d t) (wiB q 0 3) (true)) kmX3_68 ki_X3_goes kv_X3_goes kn_X3 kc_X3_goes hy_X3_goes ⟨by decide, by decide⟩ hm rfl rfl (Nat.le_of_ble_eq_true rfl) ⟨by decide, by decide⟩ (fun v w1 hp => ?_)
  obtain ⟨rfl, hw1⟩ := hp
  have hw1 := hw1.symm
  subst hw1
  have hR := hR.upM (thC (kOf n B d t) (wiB q 0 3) (true)) ord mny hn
  obtain ⟨hm, r0, r1, r2, r3, r4, r5, r6, r7, r8, r9, r10, r11, r12, hinj, hn⟩ := id hR
  have hf1 : fr (MD mo M) w _ := fr.rf.up (b := mo) (e := cellM M (thC (kOf n B d t) (wiB q 0 3) (true)) n ord mny) MD.m
  refine g_if_ne C 22 dX3_about_17 (by decide) (fun c17 => ?_) (fun c17 => ?_)
  · have c17 := bI_nz.mp c17
    obtain ⟨d', t', hd', ht', rfl, rfl, hB⟩ := kOf_nI hn (Bool.and_eq_true_iff.mp c17).1
    refine g_iload_n C dX3_about_22 rfl rfl ?_
    refine g_if_ne C 35 dX3_about_23 (by decide) (fun c23 => ?_) (fun c23 => ?_)
    · refine g_iload_n C dX3_about_35 rfl rfl ?_
      refine g_iconst C (v := 1) dX3_about_36 (by decide) ?_
      refine g_icmp_ne C 49 dX3_about_37 (by decide) (fun c37 => ?_) (fun c37 => ?_)
      · refine g_iload_n C dX3_about_49 rfl rfl ?_
        refine g_iconst C (v := 2) dX3_about_50 (by decide) ?_
        refine g_icmp_ne C 63 dX3_about_51 (by decide) (fun c51 => ?_) (fun c51 => ?_)
        · first | refine g_aload_n C dX3_about_63 rfl rfl ?_ | refine g_aload_nN C dX3_about_63 rfl rfl ?_ | refine g_aload_nq C dX3_about_63 rfl rfl ?_
          refine g_get C dX3_about_64 hm rfl kw_X3 6 (by decide) kfX3_22 rfl rfl ?_
          refine g_iload_n C dX3_about_67 rfl rfl ?_
          refine g_ialdN C dX3_about_68 r4 (by omega) (by decide) ?_
          have hp1 : (kOf n B (nI d') (nI t')) = (kOf n B (nI d') (nI t')) := by first | rfl | simp []
          have hp2 : (wiB q 0 3) = (wiB q 0 3) := by first | rfl | simp []
          have hp3 : (true) = (true) := by first | rfl | simp []
          have hth := thC_t c17
          refine g_iret C hr dX3_about_69 (by decide) (by decide) ?_
          rw [hp3, hp2, hp1]
          exact Or.inr ⟨c17, _, rfl, _, _, hd', ht', rfl, rfl, by simp [maV, c23, c37, c51], hR.th hth, hf1⟩
        · first | refine g_aload_n C dX3_about_54 rfl rfl ?_ | refine g_aload_nN C dX3_about_54 rfl rfl ?_ | refine g_aload_nq C dX3_about_54 rfl rfl ?_
          refine g_get C dX3_about_55 hm rfl kw_X3 4 (by decide) kfX3_16 rfl rfl ?_
          refine g_iload_n C dX3_about_58 rfl rfl ?_
          refine g_ialdN C dX3_about_59 r2 (by omega) (by decide) ?_
          refine g_goto C 69 dX3_about_60 (by decide) ?_
          have hp1 : (kOf n B (nI d') (nI t')) = (kOf n B (nI d') (nI t')) := by first | rfl | simp []
          have hp2 : (wiB q 0 3) = (wiB q 0 3) := by first | rfl | simp []
          have hp3 : (true) = (true) := by first | rfl | simp []
          have hth := thC_t c17
          refine g_iret C hr dX3_about_69 (by decide) (by decide) ?_
          rw [hp3, hp2, hp1]
          exact Or.inr ⟨c17, _, rfl, _, _, hd', ht', rfl, rfl, by simp [maV, c23, c37, c51], hR.th hth, hf1⟩
      · first | refine g_aload_n C dX3_about_40 rfl rfl ?_ | refine g_aload_nN C dX3_about_40 rfl rfl ?_ | refine g_aload_nq C dX3_about_40 rfl rfl ?_
        refine g_get C dX3_about_41 hm rfl kw_X3 3 (by decide) kfX3_13 rfl rfl ?_
        refine g_iload_n C dX3_about_44 rfl rfl ?_
        refine g_ialdN C dX3_about_45 r1 (by omega) (by decide) ?_
        refine g_goto C 69 dX3_about_46 (by decide) ?_
        have hp1 : (kOf n B (nI d') (nI t')) = (kOf n B (nI d') (nI t')) := by first | rfl | simp []
        have hp2 : (wiB q 0 3) = (wiB q 0 3) := by first | rfl | simp []
        have hp3 : (true) = (true) := by first | rfl | simp []
        have hth := thC_t c17
        refine g_iret C hr dX3_about_69 (by decide) (by decide) ?_
        rw [hp3, hp2, hp1]
        exact Or.inr ⟨c17, _, rfl, _, _, hd', ht', rfl, rfl, by simp [maV, c23, c37], hR.th hth, hf1⟩
    · first | refine g_aload_n C dX3_about_26 rfl rfl ?_ | refine g_aload_nN C dX3_about_26 rfl rfl ?_ | refine g_aload_nq C dX3_about_26 rfl rfl ?_
      refine g_get C dX3_about_27 hm rfl kw_X3 2 (by decide) kfX3_7 rfl rfl ?_
      refine g_iload_n C dX3_about_30 rfl rfl ?_
      refine g_ialdN C dX3_about_31 r0 (by omega) (by decide) ?_
      refine g_goto C 69 dX3_about_32 (by decide) ?_
      have hp1 : (kOf n B (nI d') (nI t')) = (kOf n B (nI d') (nI t')) := by first | rfl | simp []
      have hp2 : (wiB q 0 3) = (wiB q 0 3) := by first | rfl | simp []
      have hp3 : (true) = (true) := by first | rfl | simp []
      have hth := thC_t c17
      refine g_iret C hr dX3_about_69 (by decide) (by decide) ?_
      rw [hp3, hp2, hp1]
      exact Or.inr ⟨c17, _, rfl, _, _, hd', ht', rfl, rfl, by simp [maV, c23], hR.th hth, hf1⟩
  · have c17 := bI_z.mp c17
    refine g_iconst C (v := 0) dX3_about_20 (by decide) ?_
    have hp1 : (kOf n B d t) = (kOf n B d t) := by first | rfl | simp []
    have hp2 : (wiB q 0 3) = (wiB q 0 3) := by first | rfl | simp []
    have hp3 : (true) = (true) := by first | rfl | simp []
    refine g_iret C hr dX3_about_21 (by decide) (by decide) ?_
    rw [hp3, hp2, hp1]
    exact Or.inl ⟨c17, rfl, hR, hf1⟩

