set_option maxHeartbeats 4000000 in
set_option maxRecDepth 100000 in
theorem law_loop {p : Program} {l : Launch} {e : Env} {s : State} {m : MethodId} {below : List Frame} {meth : Method} {c : Code} {b L : Nat} {xs : Nat → Int32} {G : hD} (C : h_C p l s m #[Value.ref b] meth c G (fun q : Nat => s.heap.size ≤ q) code 7 RL) (hX : va_X b L xs s s.heap) (hbl : b < s.heap.size) (hbA : ¬ s.heap.size ≤ b) (hL : L ≤ 2560) (hr : meth.sig.returnType = ret) {x mo ou : Nat} : ∀ (r i cells slots : Nat) (w : hW), LWI G x mo ou w → i ≤ L → L < i + 5 * r → cells + 6 * r ≤ 601024 → slots + 41 * r ≤ 7293034 → h_G p l e room_1 s m #[Value.ref b] below meth c G (fun q : Nat => s.heap.size ≤ q) 7 (lw_Z below #[Value.ref b] s) w cells slots 23 [(0, .ref b), (1, .ref x), (2, .ref mo), (3, .ref ou), (4, .int (nI i))] [] := by
  intro r
  induction r with
  | zero => intro i cells slots w hI hi h1; exact absurd h1 (by omega)
  | succ r ih =>
    intro i cells slots w hI hi h1 h2 h3
    have tail : ∀ w', LWI G x mo ou w' → i + 5 ≤ L → h_G p l e room_1 s m #[Value.ref b] below meth c G (fun q : Nat => s.heap.size ≤ q) 7 (lw_Z below #[Value.ref b] s) w' (cells + 6) (slots + 41) 1259 [(0, .ref b), (1, .ref x), (2, .ref mo), (3, .ref ou), (4, .int (nI i))] [] := by
      intro w' hI' hi9
      refine g_iinc C (v := nI (i + 5)) dL_law_1259 rfl (nI_add i 5) (by decide) ?_
      refine g_goto C 23 dL_law_1262 (by decide) ?_
      exact ih (i + 5) (cells + 6) (slots + 41) w' hI' (by omega) (by omega) (by omega) (by omega)
    refine g_iload C dL_law_23 rfl ?_
    first | refine g_aload_n C dL_law_25 rfl rfl ?_ | refine g_aload_nN C dL_law_25 rfl rfl ?_ | refine g_aload_nq C dL_law_25 rfl rfl ?_
    refine g_slen C hX hbl hbA dL_law_26 ?_
    refine g_iconst C (v := 5) dL_law_27 (by decide) ?_
    refine g_isub C dL_law_28 ?_
    refine g_icmp_gt C 1265 dL_law_29 (by decide) (fun c29 => ?_) (fun c29 => ?_)
    · refine g_iconst C (v := 1) dL_law_1265 (by decide) ?_
      exact g_lawret C hr dL_law_1266 (by omega) (by omega)
    · have hi5 : i + 5 ≤ L := by have := mt (sub5 hL hi).mpr c29; omega
      first | refine g_aload_n C dL_law_32 rfl rfl ?_ | refine g_aload_nN C dL_law_32 rfl rfl ?_ | refine g_aload_nq C dL_law_32 rfl rfl ?_
      refine g_iload C dL_law_33 rfl ?_
      refine g_sld C hX hbl hbA dL_law_35 rfl (by omega) (by omega) ?_
      refine g_bipush C (v := 15) dL_law_36 (by decide) ?_
      refine g_iand C dL_law_38 ?_
      obtain ⟨k, hk, ek⟩ := and15 (xs i)
      refine g_eq ek ?_
      rcases (by omega : k = 0 ∨ k = 1 ∨ k = 2 ∨ k = 3 ∨ k = 4 ∨ k = 5 ∨ k = 6 ∨ k = 7 ∨ k = 8 ∨ k = 9 ∨ k = 10 ∨ k = 11 ∨ k = 12 ∨ k = 13 ∨ k = 14 ∨ k = 15) with rfl | rfl | rfl | rfl | rfl | rfl | rfl | rfl | rfl | rfl | rfl | rfl | rfl | rfl | rfl | rfl
      · refine g_tableIn C 116 dL_law_39 (by decide) (by decide) rfl (by decide) ?_
        exact law_tell C hX hbl hbA hL hi5 (by omega) (by omega) hI (fun w' hI' => tail w' hI' hi5)
      · refine g_tableIn C 208 dL_law_39 (by decide) (by decide) rfl (by decide) ?_
        exact law_insert C hX hbl hbA hL hi5 (by omega) (by omega) hI (fun w' hI' => tail w' hI' hi5)
      · refine g_tableIn C 300 dL_law_39 (by decide) (by decide) rfl (by decide) ?_
        exact law_remove C hX hbl hbA hL hi5 (by omega) (by omega) hI (fun w' hI' => tail w' hI' hi5)
      · refine g_tableIn C 368 dL_law_39 (by decide) (by decide) rfl (by decide) ?_
        exact law_relate C hX hbl hbA hL hi5 (by omega) (by omega) hI (fun w' hI' => tail w' hI' hi5)
      · refine g_tableIn C 448 dL_law_39 (by decide) (by decide) rfl (by decide) ?_
        exact law_drop C hX hbl hbA hL hi5 (by omega) (by omega) hI (fun w' hI' => tail w' hI' hi5)
      · refine g_tableIn C 516 dL_law_39 (by decide) (by decide) rfl (by decide) ?_
        exact law_join C hX hbl hbA hL hi5 (by omega) (by omega) hI (fun w' hI' => tail w' hI' hi5)
      · refine g_tableIn C 584 dL_law_39 (by decide) (by decide) rfl (by decide) ?_
        exact law_number C hX hbl hbA hL hi5 (by omega) (by omega) hI (fun w' hI' => tail w' hI' hi5)
      · refine g_tableIn C 640 dL_law_39 (by decide) (by decide) rfl (by decide) ?_
        exact law_at C hX hbl hbA hL hi5 (by omega) (by omega) hI (fun w' hI' => tail w' hI' hi5)
      · refine g_tableIn C 732 dL_law_39 (by decide) (by decide) rfl (by decide) ?_
        exact law_place C hX hbl hbA hL hi5 (by omega) (by omega) hI (fun w' hI' => tail w' hI' hi5)
      · refine g_tableIn C 812 dL_law_39 (by decide) (by decide) rfl (by decide) ?_
        exact law_order C hX hbl hbA hL hi5 (by omega) (by omega) hI (fun w' hI' => tail w' hI' hi5)
      · refine g_tableIn C 892 dL_law_39 (by decide) (by decide) rfl (by decide) ?_
        exact law_open C hX hbl hbA hL hi5 (by omega) (by omega) hI (fun w' hI' => tail w' hI' hi5)
      · refine g_tableIn C 960 dL_law_39 (by decide) (by decide) rfl (by decide) ?_
        exact law_knows C hX hbl hbA hL hi5 (by omega) (by omega) hI (fun w' hI' => tail w' hI' hi5)
      · refine g_tableIn C 1035 dL_law_39 (by decide) (by decide) rfl (by decide) ?_
        exact law_equal C hX hbl hbA hL hi5 (by omega) (by omega) hI (fun w' hI' => tail w' hI' hi5)
      · refine g_tableIn C 1110 dL_law_39 (by decide) (by decide) rfl (by decide) ?_
        exact law_compact C hX hbl hbA hL hi5 (by omega) (by omega) hI (fun w' hI' => tail w' hI' hi5)
      · refine g_tableIn C 1123 dL_law_39 (by decide) (by decide) rfl (by decide) ?_
        exact law_about C hX hbl hbA hL hi5 (by omega) (by omega) hI (fun w' hI' => tail w' hI' hi5)
      · refine g_tableIn C 1203 dL_law_39 (by decide) (by decide) rfl (by decide) ?_
        exact law_count C hX hbl hbA hL hi5 (by omega) (by omega) hI (fun w' hI' => tail w' hI' hi5)
theorem TM.has {G : hD} {x tl rw ng cx un : Nat} {ad : Nat → Nat} {n : Nat} {ti : Nat → TI} {ch : List Nat} {rl : Nat → List Nat} {gv : Nat → Nat} {f : Nat → Int32} {w : hW} (h : TM G x tl rw ng cx un ad n ti ch rl gv f w) {q : Nat} (hq : CD x tl rw ng cx un ad n q) : ∃ e, w q = some e := by
  obtain ⟨h1, ⟨tf, h2, _⟩, ⟨rf, h3, _⟩, ⟨gf, h4, _⟩, h5, h6, h7, _⟩ := h
  rcases hq with rfl | rfl | rfl | rfl | rfl | rfl | ⟨i, hi, rfl⟩
  · exact ⟨_, h1⟩
  · exact ⟨_, h2⟩
  · exact ⟨_, h3⟩
  · exact ⟨_, h4⟩
  · exact ⟨_, h5⟩
  · exact ⟨_, h6⟩
  · exact ⟨_, h7 i hi⟩
theorem CM.start : CM 0 ti0 [] (fun _ => []) (fun _ => 0) (fun _ _ => 0) (fun _ _ => false) := by
  refine ⟨⟨fun i => by simp, List.Pairwise.nil⟩, rfl, fun i hi => absurd hi (Nat.not_lt_zero _), fun i hi => absurd hi (Nat.not_lt_zero _), fun i _ _ => ⟨rfl, fun _ _ => rfl⟩, fun i d hi => absurd hi (Nat.not_lt_zero _), fun i hi => absurd hi (Nat.not_lt_zero _), ⟨fun t _ => rfl, fun i hi => absurd hi (Nat.not_lt_zero _)⟩, fun i hi => absurd hi (Nat.not_lt_zero _), fun d _ => ⟨Nat.zero_le _, rfl⟩, fun i hi => absurd hi (Nat.not_lt_zero _), Nat.zero_le _⟩
theorem str_ref {own tx : String} {k : Nat} {A : Array Value} {s : State} (w : (Cond.stringRef own k tx).before A s = true) : ∃ a, vk_R own k tx a s := by
  cases hc : s.vm.findClass own with
  | none => simp [Cond.before, Cond.holds, Cond.value, hc] at w
  | some cc =>
    obtain ⟨k1, cf, i, a, hk, hcf, hp, -, hr, he⟩ := Cond.stringRef_spec hc w
    exact ⟨a, vk_R.of w he⟩
theorem str_in : ∀ q ∈ hStr, Cond.stringRef RX2 q.1 q.2 ∈ lw_tbl := by decide +kernel
theorem dcl_in : ∀ y ∈ hDcl, Cond.declares y ∈ lw_tbl := by decide +kernel
theorem exc_in : ∀ y ∈ hExc, Cond.castable y y ∈ lw_tbl := by decide +kernel
theorem h_dict {s : State} {args : Array Value} (hts : ∀ w ∈ lw_tbl, w.before args s = true) : ∃ G : hD, va_K G.1 vwCl (hTy G) s := by
  have ht : ∀ w ∈ hAll, w.before args s = true := fun w hw => hts w (List.mem_filter.mp hw).1
  obtain ⟨c0, i0, k0⟩ := u_known (C := RX0) (T := TX0) (N := 1) (n := 1) ht kw_X0 (ht _ kt_X0)
  obtain ⟨c1, i1, k1⟩ := u_known (C := RX1) (T := TX1) (N := 11) (n := 11) ht kw_X1 (ht _ kt_X1)
  obtain ⟨c2, i2, k2⟩ := u_known (C := RX2) (T := TX2) (N := 6) (n := 6) ht kw_X2 (ht _ kt_X2)
  obtain ⟨c3, i3, k3⟩ := u_known (C := RX3) (T := TX3) (N := 17) (n := 17) ht kw_X3 (ht _ kt_X3)
  obtain ⟨aI, kI, pI, hI1, hI2, hI3⟩ := Cond.arrayClass_spec (ht _ ka_int)
  obtain ⟨aZ, kZ, pZ, hZ1, hZ2, hZ3⟩ := Cond.arrayClass_spec (ht _ ka_boolean)
  obtain ⟨aJ, kJ, pJ, hJ1, hJ2, hJ3⟩ := Cond.arrayClass_spec (ht _ ka_long)
  obtain ⟨pT, aT, kT, hT0, hT1, hT2, hT3, hT4⟩ := Cond.arrayOver_spec (hts (Cond.arrayOver (.object RX1)) (by decide +kernel))
  refine ⟨((fun k => if k = 0 then c0 else if k = 1 then c1 else if k = 2 then c2 else c3, fun k => if k = 0 then i0 else if k = 1 then i1 else if k = 2 then i2 else i3), aI, aZ, aJ, aT), ?_, ?_⟩
  · intro k q hq
    match k, hq with
    | 0, hq => cases hq; exact k0
    | 1, hq => cases hq; exact k1
    | 2, hq => cases hq; exact k2
    | 3, hq => cases hq; exact k3
    | k + 4, hq => simp [vwCl] at hq
  · intro k q hq
    match k, hq with
    | 0, hq => cases hq; exact ⟨fun n z => ⟨fun k h => (by cases h), kI, hI2, pI, hI3⟩, hI1⟩
    | 1, hq => cases hq; exact ⟨fun n z => ⟨fun k h => (by cases h), kZ, hZ2, pZ, hZ3⟩, hZ1⟩
    | 2, hq => cases hq; exact ⟨fun n z => ⟨fun k h => (by cases h), kJ, hJ2, pJ, hJ3⟩, hJ1⟩
    | 3, hq => cases hq; exact ⟨fun n z => ⟨fun k h => (by cases h), kT, hT2, pT, hT3⟩, ⟨kT, pT, hT2, hT3, hT0, hT4⟩⟩
    | k + 4, hq => simp [hTy] at hq
theorem h_Tof {l : Launch} (hl : l.flags = flags0) {s : State} {b : Nat} (hts : ∀ w ∈ lw_tbl, w.before #[Value.ref b] s = true) (hgv : (Jvm.Cond.and given_1 narrow_1).before #[Value.ref b] s = true) : h_T l (fun q : Nat => s.heap.size ≤ q) s s.heap := by
  have hs := flat_of_before _ hgv
  have hA : ∀ a : Nat, a < s.heap.size → ¬ s.heap.size ≤ a := fun a h => Nat.not_le.mpr h
  refine ⟨?_, vx_Zqof (hts _ (by decide +kernel)) (hts (.initialized Bundle.tN) (by decide +kernel)) (hs _ (by decide +kernel)) hA, vx_Zqof (hts _ (by decide +kernel)) (hts (.initialized Bundle.tN) (by decide +kernel)) (hs _ (by decide +kernel)) hA, fun q hq => str_ref (hts _ (str_in q hq)), fun y hy => va_Nw.of rfl (hts _ (dcl_in y hy)), fun y hy => va_Nw.of rfl (hts _ (exc_in y hy)), ?_, va_AO.of (hts _ (by decide +kernel))⟩
  · unfold Launch.stackTraces; rw [hl]; decide
  · intro q hq
    simp only [hNcs, List.mem_cons, List.mem_nil_iff, or_false] at hq
    rcases hq with rfl | rfl | rfl | rfl | rfl | rfl
    · exact va_Nc.of (hs _ (by decide +kernel))
    · exact va_Nc.of (hs _ (by decide +kernel))
    · exact va_Nc.of (hs _ (by decide +kernel))
    · exact va_Nc.of (hs _ (by decide +kernel))
    · exact va_Nc.of (hs _ (by decide +kernel))
    · exact va_Nc.of (hs _ (by decide +kernel))

set_option maxHeartbeats 4000000 in
set_option maxRecDepth 100000 in
/-- from the entry, for every script of at most 2560 ints, the law comes to its end with true -/
theorem whole_start {p : Program} {e : Env} {s : State} {m : MethodId} {below : List Frame} {meth : Method} {c : Code} (l : Launch) (hl9 : l.flags = flags0) {b L : Nat} {xs : Nat → Int32} (hL : L ≤ 2560) (C0 : lw_At p s m meth c b L xs) : W p l e room_1 s m #[Value.ref b] below meth c s.heap [] 0 0 (lw_Z below #[Value.ref b] s) (entryFrame m ([Value.ref b] : List Value).toArray 7) := by
  obtain ⟨hx, hb, hr, hml, hown, hts, hX, hbl, hlocks, hgv⟩ := id C0
  have hbA : ¬ s.heap.size ≤ b := Nat.not_le.mpr hbl
  obtain ⟨G, hK⟩ := h_dict hts
  have C : h_C p l s m #[Value.ref b] meth c G (fun q : Nat => s.heap.size ≤ q) code 7 RL := ⟨hx, hb, hml, hown, fun w hw => hts w (List.mem_filter.mp hw).1, hK, fun q h => h, hlocks, h_Tof hl9 hts hgv⟩
  have body : h_G p l e room_1 s m #[Value.ref b] below meth c G (fun q : Nat => s.heap.size ≤ q) 7 (lw_Z below #[Value.ref b] s) (fun _ => none) 0 0 0 [(0, .ref b)] [] := by
    refine g_new C (ci := 2) (fs := [.null, .null, .null, .null, .null, .int 0]) dL_law_0 rfl kw_X2 tyX2 tyX2_ok klL_8 kt_X2 kn_X2 (by decide +kernel) (by decide) (by decide) (fun x hx0 => ?_)
    refine g_dup C dL_law_3 rfl ?_
    refine g_callI C [.ref x] dL_law_4 (c_X2_init l G _ x (h_up_s _ _ _)) kmL_65 ki_X2_init kn_X2 kc_X2_init rfl hy_X2_init ⟨by decide, by decide⟩ rfl (Nat.le_of_ble_eq_true rfl) ⟨by decide, by decide⟩ (fun v w1 hp => ?_)
    obtain ⟨rfl, tl, rw, ng, cx, un, ntl, nrw, nng, ncx, nun, hT, hf1⟩ := hp
    first | refine g_astore_n C dL_law_7 rfl (by decide) ?_ | refine g_astore_nN C dL_law_7 rfl (by decide) ?_ | refine g_astore_nq C dL_law_7 rfl (by decide) ?_
    refine g_new C (ci := 3) (fs := [.int 0, .int 0, .null, .null, .null, .null, .null, .null, .null, .null, .null, .null, .int 0, .null, .null, .int 0, .null]) dL_law_8 rfl kw_X3 tyX3 tyX3_ok klL_66 kt_X3 kn_X3 (by decide +kernel) (by decide) (by decide) (fun mo hmo => ?_)
    refine g_dup C dL_law_11 rfl ?_
    refine g_callI C [.ref mo] dL_law_12 (c_X3_init l G _ mo (h_up_s _ _ _)) kmL_68 ki_X3_init kn_X3 kc_X3_init rfl hy_X3_init ⟨by decide, by decide⟩ rfl (Nat.le_of_ble_eq_true rfl) ⟨by decide, by decide⟩ (fun v w1 hp => ?_)
    obtain ⟨rfl, M, hR, hf2, hM2⟩ := hp
    rename_i w2
    first | refine g_astore_n C dL_law_15 rfl (by decide) ?_ | refine g_astore_nN C dL_law_15 rfl (by decide) ?_ | refine g_astore_nq C dL_law_15 rfl (by decide) ?_
    refine g_iconst C (v := 1) dL_law_16 (by decide) ?_
    refine g_newJ C (N := 1) dL_law_17 ka_long (by decide) (by decide) (by decide) (by decide) (by decide) (fun ou hou => ?_)
    first | refine g_astore_n C dL_law_19 rfl (by decide) ?_ | refine g_astore_nN C dL_law_19 rfl (by decide) ?_ | refine g_astore_nq C dL_law_19 rfl (by decide) ?_
    refine g_iconst C (v := 0) dL_law_20 (by decide) ?_
    refine g_istore C dL_law_21 (by decide) ?_
    have hxm : ∀ q e, w2 q = some e → q ≠ mo := fun q e hq e9 => by rw [e9, hmo] at hq; cases hq
    have hTm : TM G x tl rw ng cx un (fun _ => 0) 0 ti0 [] (fun _ => []) (fun _ => 0) (fun _ => 0) w1 := hT.mv (fun q e _ hq => hf2 q e (hxm q e hq) ((h_up_n (hxm q e hq)).trans hq))
    have hno : ∀ q e, w1 q = some e → q ≠ ou := fun q e hq e9 => by rw [e9, hou] at hq; cases hq
    have hTf : TM G x tl rw ng cx un (fun _ => 0) 0 ti0 [] (fun _ => []) (fun _ => 0) (fun _ => 0) (h_up w1 ou (eJ G 1 (fun _ => 0))) := hTm.mv (fun q e _ hq => (h_up_n (hno q e hq)).trans hq)
    have hRf : MR G mo M 0 (fun _ _ => 0) (fun _ _ => false) 0 0 0 (h_up w1 ou (eJ G 1 (fun _ => 0))) := hR.mv (fun q e _ hq => (h_up_n (hno q e hq)).trans hq)
    have hAP : AP x tl rw ng cx un (fun _ => 0) 0 mo M ou := by
      refine ⟨fun q hq => ⟨fun hm => ?_, ?_⟩, fun hm => hR.has hm hou⟩
      · obtain ⟨e, he⟩ := hT.has hq
        rcases hm with e9 | ⟨k, hk, e9⟩
        · exact hxm q e he e9
        · have h9 := hM2 k hk
          rw [← e9, h_up_n (hxm q e he), he] at h9; cases h9
      · obtain ⟨e, he⟩ := hTm.has hq
        exact hno q e he
    refine g_widen (k := 21) (n := 2365) (by decide) (by decide) ?_
    exact law_loop C hX hbl hbA hL hr 513 0 21 2365 _ ⟨tl, rw, ng, cx, un, _, 0, ti0, [], _, _, _, M, _, _, 0, 0, 0, _, hTf, hRf, CM.start, hAP, h_up_s _ _ _⟩ (Nat.zero_le _) (by omega) (by decide) (by decide)
  have hl := lv_entry ([.ref b]) (n := 7) (Nat.le_of_ble_eq_true rfl)
  rw [lg_entry_eq]
  generalize (lg_sl ([.ref b]) ++ List.replicate (7 - (lg_sl ([.ref b])).length) Slot.unset).toArray = ls at hl ⊢
  exact body s.heap [] ls (fun a e h => by cases h) (fun a e h => by cases h) va_S.rf hl (fun q hq => by rcases List.mem_singleton.mp hq with rfl; rfl)
