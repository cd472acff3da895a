/-! ===== bits ===== -/
theorem and1 (x : BitVec 32) : (x &&& 1#32 = 1#32) ↔ x.getLsbD 0 = true := by
  rw [BitVec.and_one_eq_setWidth_ofBool_getLsbD]
  cases x.getLsbD 0 <;> decide
theorem sh_y : ∀ y, y < 32 → ((nI y &&& 31 : Int32).toBitVec.smod 32).toNat = y := by decide +kernel
theorem shu_y : ∀ y, y < 32 → (((nI y).toUInt32 &&& Int32.toUInt32 31).toBitVec % 32).toNat = y := by decide +kernel
theorem kb_bit (u : Int32) {y : Nat} (h : y < 32) : kb u (nI y) = u.toBitVec.getLsbD y := by
  have h1 : ((u >>> (nI y &&& 31)) &&& 1 = 1) ↔ u.toBitVec.getLsbD y = true := by
    rw [← Int32.toBitVec_inj, Int32.toBitVec_and, Int32.toBitVec_shiftRight]
    show (BitVec.sshiftRight u.toBitVec ((nI y &&& 31 : Int32).toBitVec.smod 32).toNat &&& 1#32 = 1#32) ↔ _
    rw [and1, sh_y y h, BitVec.getLsbD_sshiftRight]
    simp [h]
  unfold kb
  cases hb : u.toBitVec.getLsbD y with
  | true => exact decide_eq_true (h1.mpr hb)
  | false => exact decide_eq_false (fun e => by rw [h1.mp e] at hb; cases hb)
theorem ub_bit (u : Int32) {y : Nat} (h : y < 32) : ub u y = u.toBitVec.getLsbD y := by
  have h1 : (((u.toUInt32 >>> ((nI y).toUInt32 &&& Int32.toUInt32 31)).toInt32 &&& 1) = 1) ↔ u.toBitVec.getLsbD y = true := by
    rw [← Int32.toBitVec_inj, Int32.toBitVec_and]
    show (u.toBitVec >>> (((nI y).toUInt32 &&& Int32.toUInt32 31).toBitVec % 32) &&& 1#32 = 1#32) ↔ _
    rw [and1, BitVec.ushiftRight_eq', shu_y y h, BitVec.getLsbD_ushiftRight]
    simp
  unfold ub
  cases hb : u.toBitVec.getLsbD y with
  | true => exact decide_eq_true (h1.mpr hb)
  | false => exact decide_eq_false (fun e => by rw [h1.mp e] at hb; cases hb)
theorem kb_or (u v : Int32) {y : Nat} (h : y < 32) : kb (u ||| v) (nI y) = (kb u (nI y) || kb v (nI y)) := by
  rw [kb_bit _ h, kb_bit _ h, kb_bit _ h, Int32.toBitVec_or, BitVec.getLsbD_or]
theorem kb_one : ∀ b, b < 32 → ∀ y, y < 32 → kb ((1 : Int32) <<< (nI b &&& 31)) (nI y) = decide (y = b) := by decide +kernel
theorem kb_zero : ∀ y, y < 32 → kb 0 (nI y) = false := by decide +kernel
theorem ub_or (u v : Int32) {y : Nat} (h : y < 32) : ub (u ||| v) y = (ub u y || ub v y) := by
  rw [ub_bit _ h, ub_bit _ h, ub_bit _ h, Int32.toBitVec_or, BitVec.getLsbD_or]
theorem ub_one : ∀ b, b < 32 → ∀ y, y < 32 → ub ((1 : Int32) <<< (nI b &&& 31)) y = decide (y = b) := by decide +kernel
theorem ub_zero : ∀ y, y < 32 → ub 0 y = false := by decide +kernel
/-- a word of six bits -/
def b6 (k : Int32) : Prop := ∃ m, m < 64 ∧ k = nI m
theorem b6_all : ∀ m, m < 64 → (nI m = 0 ↔ ∀ y, y < 6 → kb (nI m) (nI y) = false) ∧ (nI m = 63 ↔ ∀ y, y < 6 → kb (nI m) (nI y) = true) := by decide +kernel
theorem b6_0 {k : Int32} (h : b6 k) : k = 0 ↔ ∀ y, y < 6 → kb k (nI y) = false := by obtain ⟨m, hm, rfl⟩ := h; exact (b6_all m hm).1
theorem b6_63 {k : Int32} (h : b6 k) : k = 63 ↔ ∀ y, y < 6 → kb k (nI y) = true := by obtain ⟨m, hm, rfl⟩ := h; exact (b6_all m hm).2
theorem b6_new : ∀ d, d < 6 → b6 ((1 : Int32) <<< (nI d &&& 31)) := by
  have h : ∀ d, d < 6 → ((1 : Int32) <<< (nI d &&& 31)).toNatClampNeg < 64 ∧ ((1 : Int32) <<< (nI d &&& 31)) = nI ((1 : Int32) <<< (nI d &&& 31)).toNatClampNeg := by decide +kernel
  exact fun d hd => ⟨_, (h d hd).1, (h d hd).2⟩
theorem b6_or {k : Int32} (h : b6 k) {d : Nat} (hd : d < 6) : b6 (kor k (nI d)) := by
  have h9 : ∀ m, m < 64 → ∀ d, d < 6 → (kor (nI m) (nI d)).toNatClampNeg < 64 ∧ kor (nI m) (nI d) = nI (kor (nI m) (nI d)).toNatClampNeg := by decide +kernel
  obtain ⟨m, hm, rfl⟩ := h
  exact ⟨_, (h9 m hm d hd).1, (h9 m hm d hd).2⟩
theorem b6_pass {k : Int32} (h : b6 k) {o d : Nat} (ho : o < 6) (hd : d < 6) : b6 (kpass k (nI o) (nI d)) := by
  have h9 : ∀ m, m < 64 → ∀ o, o < 6 → ∀ d, d < 6 → (kpass (nI m) (nI o) (nI d)).toNatClampNeg < 64 ∧ kpass (nI m) (nI o) (nI d) = nI (kpass (nI m) (nI o) (nI d)).toNatClampNeg := by decide +kernel
  obtain ⟨m, hm, rfl⟩ := h
  exact ⟨_, (h9 m hm o ho d hd).1, (h9 m hm o ho d hd).2⟩
theorem kb_kor (k : Int32) {d y : Nat} (hd : d < 6) (hy : y < 6) : kb (kor k (nI d)) (nI y) = (kb k (nI y) || decide (y = d)) := by
  unfold kor; rw [kb_or _ _ (by omega), kb_one d (by omega) y (by omega)]
theorem kb_kpass {k : Int32} (h : b6 k) {o d y : Nat} (ho : o < 6) (hd : d < 6) (hy : y < 6) : kb (kpass k (nI o) (nI d)) (nI y) = (kb k (nI y) || (decide (y = d) && kb k (nI o))) := by
  have h9 : ∀ m, m < 64 → ∀ o, o < 6 → ∀ d, d < 6 → ∀ y, y < 6 → kb (kpass (nI m) (nI o) (nI d)) (nI y) = (kb (nI m) (nI y) || (decide (y = d) && kb (nI m) (nI o))) := by decide +kernel
  obtain ⟨m, hm, rfl⟩ := h
  exact h9 m hm o ho d hd y hy
