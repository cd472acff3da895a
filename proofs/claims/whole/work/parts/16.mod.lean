/-! ===== the model: its object and its thirteen arrays ===== -/
abbrev cellM (M : Nat → Nat) (thr : Int32) (n : Nat) (ord mny : Int32) : va_E := eO 3 [.int thr, .int (nI n), .ref (M 0), .ref (M 1), .ref (M 2), .ref (M 3), .ref (M 4), .ref (M 5), .ref (M 6), .ref (M 7), .ref (M 8), .ref (M 9), .int ord, .ref (M 10), .ref (M 11), .int mny, .ref (M 12)]
def MR (G : hD) (mo : Nat) (M : Nat → Nat) (n : Nat) (I : Nat → Nat → Int32) (B : Nat → Nat → Bool) (thr ord mny : Int32) (w : hW) : Prop :=
  w mo = some (cellM M thr n ord mny) ∧ w (M 0) = some (eI G 120 (I 0)) ∧ w (M 1) = some (eI G 120 (I 1)) ∧ w (M 2) = some (eI G 120 (I 2)) ∧ w (M 3) = some (eI G 120 (I 3)) ∧ w (M 4) = some (eI G 120 (I 4)) ∧ w (M 5) = some (eI G 120 (I 5)) ∧ w (M 6) = some (eZ G 120 (fun j => bI (B 6 j))) ∧ w (M 7) = some (eZ G 720 (fun j => bI (B 7 j))) ∧ w (M 8) = some (eI G 6 (I 8)) ∧ w (M 9) = some (eI G 120 (I 9)) ∧ w (M 10) = some (eZ G 256 (fun j => bI (B 10 j))) ∧ w (M 11) = some (eI G 120 (I 11)) ∧ w (M 12) = some (eZ G 120 (fun j => bI (B 12 j))) ∧ (∀ i j, i < 13 → j < 13 → M i = M j → i = j) ∧ n ≤ 120
section MR
variable {G : hD} {mo : Nat} {M : Nat → Nat} {n : Nat} {I : Nat → Nat → Int32} {B : Nat → Nat → Bool} {thr ord mny : Int32} {w : hW}
theorem MR.up0 (h : MR G mo M n I B thr ord mny w) (f : Nat → Int32) : MR G mo M n (va_up I 0 f) B thr ord mny (h_up w (M 0) (eI G 120 f)) := by
  obtain ⟨hm, r0, r1, r2, r3, r4, r5, r6, r7, r8, r9, r10, r11, r12, hinj, hn⟩ := h
  exact ⟨(h_up_n (fun e => by rw [e, r0] at hm; simp at hm)).trans hm, (by rw [h_up_s, va_up_self]), (by rw [h_up_n (fun e => absurd (hinj 1 0 (by decide) (by decide) e) (by decide)), va_up_ne _ _ (by decide)]; exact r1), (by rw [h_up_n (fun e => absurd (hinj 2 0 (by decide) (by decide) e) (by decide)), va_up_ne _ _ (by decide)]; exact r2), (by rw [h_up_n (fun e => absurd (hinj 3 0 (by decide) (by decide) e) (by decide)), va_up_ne _ _ (by decide)]; exact r3), (by rw [h_up_n (fun e => absurd (hinj 4 0 (by decide) (by decide) e) (by decide)), va_up_ne _ _ (by decide)]; exact r4), (by rw [h_up_n (fun e => absurd (hinj 5 0 (by decide) (by decide) e) (by decide)), va_up_ne _ _ (by decide)]; exact r5), ((h_up_n (fun e => absurd (hinj 6 0 (by decide) (by decide) e) (by decide))).trans r6), ((h_up_n (fun e => absurd (hinj 7 0 (by decide) (by decide) e) (by decide))).trans r7), (by rw [h_up_n (fun e => absurd (hinj 8 0 (by decide) (by decide) e) (by decide)), va_up_ne _ _ (by decide)]; exact r8), (by rw [h_up_n (fun e => absurd (hinj 9 0 (by decide) (by decide) e) (by decide)), va_up_ne _ _ (by decide)]; exact r9), ((h_up_n (fun e => absurd (hinj 10 0 (by decide) (by decide) e) (by decide))).trans r10), (by rw [h_up_n (fun e => absurd (hinj 11 0 (by decide) (by decide) e) (by decide)), va_up_ne _ _ (by decide)]; exact r11), ((h_up_n (fun e => absurd (hinj 12 0 (by decide) (by decide) e) (by decide))).trans r12), hinj, hn⟩
theorem MR.up1 (h : MR G mo M n I B thr ord mny w) (f : Nat → Int32) : MR G mo M n (va_up I 1 f) B thr ord mny (h_up w (M 1) (eI G 120 f)) := by
  obtain ⟨hm, r0, r1, r2, r3, r4, r5, r6, r7, r8, r9, r10, r11, r12, hinj, hn⟩ := h
  exact ⟨(h_up_n (fun e => by rw [e, r1] at hm; simp at hm)).trans hm, (by rw [h_up_n (fun e => absurd (hinj 0 1 (by decide) (by decide) e) (by decide)), va_up_ne _ _ (by decide)]; exact r0), (by rw [h_up_s, va_up_self]), (by rw [h_up_n (fun e => absurd (hinj 2 1 (by decide) (by decide) e) (by decide)), va_up_ne _ _ (by decide)]; exact r2), (by rw [h_up_n (fun e => absurd (hinj 3 1 (by decide) (by decide) e) (by decide)), va_up_ne _ _ (by decide)]; exact r3), (by rw [h_up_n (fun e => absurd (hinj 4 1 (by decide) (by decide) e) (by decide)), va_up_ne _ _ (by decide)]; exact r4), (by rw [h_up_n (fun e => absurd (hinj 5 1 (by decide) (by decide) e) (by decide)), va_up_ne _ _ (by decide)]; exact r5), ((h_up_n (fun e => absurd (hinj 6 1 (by decide) (by decide) e) (by decide))).trans r6), ((h_up_n (fun e => absurd (hinj 7 1 (by decide) (by decide) e) (by decide))).trans r7), (by rw [h_up_n (fun e => absurd (hinj 8 1 (by decide) (by decide) e) (by decide)), va_up_ne _ _ (by decide)]; exact r8), (by rw [h_up_n (fun e => absurd (hinj 9 1 (by decide) (by decide) e) (by decide)), va_up_ne _ _ (by decide)]; exact r9), ((h_up_n (fun e => absurd (hinj 10 1 (by decide) (by decide) e) (by decide))).trans r10), (by rw [h_up_n (fun e => absurd (hinj 11 1 (by decide) (by decide) e) (by decide)), va_up_ne _ _ (by decide)]; exact r11), ((h_up_n (fun e => absurd (hinj 12 1 (by decide) (by decide) e) (by decide))).trans r12), hinj, hn⟩
theorem MR.up2 (h : MR G mo M n I B thr ord mny w) (f : Nat → Int32) : MR G mo M n (va_up I 2 f) B thr ord mny (h_up w (M 2) (eI G 120 f)) := by
  obtain ⟨hm, r0, r1, r2, r3, r4, r5, r6, r7, r8, r9, r10, r11, r12, hinj, hn⟩ := h
  exact ⟨(h_up_n (fun e => by rw [e, r2] at hm; simp at hm)).trans hm, (by rw [h_up_n (fun e => absurd (hinj 0 2 (by decide) (by decide) e) (by decide)), va_up_ne _ _ (by decide)]; exact r0), (by rw [h_up_n (fun e => absurd (hinj 1 2 (by decide) (by decide) e) (by decide)), va_up_ne _ _ (by decide)]; exact r1), (by rw [h_up_s, va_up_self]), (by rw [h_up_n (fun e => absurd (hinj 3 2 (by decide) (by decide) e) (by decide)), va_up_ne _ _ (by decide)]; exact r3), (by rw [h_up_n (fun e => absurd (hinj 4 2 (by decide) (by decide) e) (by decide)), va_up_ne _ _ (by decide)]; exact r4), (by rw [h_up_n (fun e => absurd (hinj 5 2 (by decide) (by decide) e) (by decide)), va_up_ne _ _ (by decide)]; exact r5), ((h_up_n (fun e => absurd (hinj 6 2 (by decide) (by decide) e) (by decide))).trans r6), ((h_up_n (fun e => absurd (hinj 7 2 (by decide) (by decide) e) (by decide))).trans r7), (by rw [h_up_n (fun e => absurd (hinj 8 2 (by decide) (by decide) e) (by decide)), va_up_ne _ _ (by decide)]; exact r8), (by rw [h_up_n (fun e => absurd (hinj 9 2 (by decide) (by decide) e) (by decide)), va_up_ne _ _ (by decide)]; exact r9), ((h_up_n (fun e => absurd (hinj 10 2 (by decide) (by decide) e) (by decide))).trans r10), (by rw [h_up_n (fun e => absurd (hinj 11 2 (by decide) (by decide) e) (by decide)), va_up_ne _ _ (by decide)]; exact r11), ((h_up_n (fun e => absurd (hinj 12 2 (by decide) (by decide) e) (by decide))).trans r12), hinj, hn⟩
theorem MR.up3 (h : MR G mo M n I B thr ord mny w) (f : Nat → Int32) : MR G mo M n (va_up I 3 f) B thr ord mny (h_up w (M 3) (eI G 120 f)) := by
  obtain ⟨hm, r0, r1, r2, r3, r4, r5, r6, r7, r8, r9, r10, r11, r12, hinj, hn⟩ := h
  exact ⟨(h_up_n (fun e => by rw [e, r3] at hm; simp at hm)).trans hm, (by rw [h_up_n (fun e => absurd (hinj 0 3 (by decide) (by decide) e) (by decide)), va_up_ne _ _ (by decide)]; exact r0), (by rw [h_up_n (fun e => absurd (hinj 1 3 (by decide) (by decide) e) (by decide)), va_up_ne _ _ (by decide)]; exact r1), (by rw [h_up_n (fun e => absurd (hinj 2 3 (by decide) (by decide) e) (by decide)), va_up_ne _ _ (by decide)]; exact r2), (by rw [h_up_s, va_up_self]), (by rw [h_up_n (fun e => absurd (hinj 4 3 (by decide) (by decide) e) (by decide)), va_up_ne _ _ (by decide)]; exact r4), (by rw [h_up_n (fun e => absurd (hinj 5 3 (by decide) (by decide) e) (by decide)), va_up_ne _ _ (by decide)]; exact r5), ((h_up_n (fun e => absurd (hinj 6 3 (by decide) (by decide) e) (by decide))).trans r6), ((h_up_n (fun e => absurd (hinj 7 3 (by decide) (by decide) e) (by decide))).trans r7), (by rw [h_up_n (fun e => absurd (hinj 8 3 (by decide) (by decide) e) (by decide)), va_up_ne _ _ (by decide)]; exact r8), (by rw [h_up_n (fun e => absurd (hinj 9 3 (by decide) (by decide) e) (by decide)), va_up_ne _ _ (by decide)]; exact r9), ((h_up_n (fun e => absurd (hinj 10 3 (by decide) (by decide) e) (by decide))).trans r10), (by rw [h_up_n (fun e => absurd (hinj 11 3 (by decide) (by decide) e) (by decide)), va_up_ne _ _ (by decide)]; exact r11), ((h_up_n (fun e => absurd (hinj 12 3 (by decide) (by decide) e) (by decide))).trans r12), hinj, hn⟩
theorem MR.up4 (h : MR G mo M n I B thr ord mny w) (f : Nat → Int32) : MR G mo M n (va_up I 4 f) B thr ord mny (h_up w (M 4) (eI G 120 f)) := by
  obtain ⟨hm, r0, r1, r2, r3, r4, r5, r6, r7, r8, r9, r10, r11, r12, hinj, hn⟩ := h
  exact ⟨(h_up_n (fun e => by rw [e, r4] at hm; simp at hm)).trans hm, (by rw [h_up_n (fun e => absurd (hinj 0 4 (by decide) (by decide) e) (by decide)), va_up_ne _ _ (by decide)]; exact r0), (by rw [h_up_n (fun e => absurd (hinj 1 4 (by decide) (by decide) e) (by decide)), va_up_ne _ _ (by decide)]; exact r1), (by rw [h_up_n (fun e => absurd (hinj 2 4 (by decide) (by decide) e) (by decide)), va_up_ne _ _ (by decide)]; exact r2), (by rw [h_up_n (fun e => absurd (hinj 3 4 (by decide) (by decide) e) (by decide)), va_up_ne _ _ (by decide)]; exact r3), (by rw [h_up_s, va_up_self]), (by rw [h_up_n (fun e => absurd (hinj 5 4 (by decide) (by decide) e) (by decide)), va_up_ne _ _ (by decide)]; exact r5), ((h_up_n (fun e => absurd (hinj 6 4 (by decide) (by decide) e) (by decide))).trans r6), ((h_up_n (fun e => absurd (hinj 7 4 (by decide) (by decide) e) (by decide))).trans r7), (by rw [h_up_n (fun e => absurd (hinj 8 4 (by decide) (by decide) e) (by decide)), va_up_ne _ _ (by decide)]; exact r8), (by rw [h_up_n (fun e => absurd (hinj 9 4 (by decide) (by decide) e) (by decide)), va_up_ne _ _ (by decide)]; exact r9), ((h_up_n (fun e => absurd (hinj 10 4 (by decide) (by decide) e) (by decide))).trans r10), (by rw [h_up_n (fun e => absurd (hinj 11 4 (by decide) (by decide) e) (by decide)), va_up_ne _ _ (by decide)]; exact r11), ((h_up_n (fun e => absurd (hinj 12 4 (by decide) (by decide) e) (by decide))).trans r12), hinj, hn⟩
theorem MR.up5 (h : MR G mo M n I B thr ord mny w) (f : Nat → Int32) : MR G mo M n (va_up I 5 f) B thr ord mny (h_up w (M 5) (eI G 120 f)) := by
  obtain ⟨hm, r0, r1, r2, r3, r4, r5, r6, r7, r8, r9, r10, r11, r12, hinj, hn⟩ := h
  exact ⟨(h_up_n (fun e => by rw [e, r5] at hm; simp at hm)).trans hm, (by rw [h_up_n (fun e => absurd (hinj 0 5 (by decide) (by decide) e) (by decide)), va_up_ne _ _ (by decide)]; exact r0), (by rw [h_up_n (fun e => absurd (hinj 1 5 (by decide) (by decide) e) (by decide)), va_up_ne _ _ (by decide)]; exact r1), (by rw [h_up_n (fun e => absurd (hinj 2 5 (by decide) (by decide) e) (by decide)), va_up_ne _ _ (by decide)]; exact r2), (by rw [h_up_n (fun e => absurd (hinj 3 5 (by decide) (by decide) e) (by decide)), va_up_ne _ _ (by decide)]; exact r3), (by rw [h_up_n (fun e => absurd (hinj 4 5 (by decide) (by decide) e) (by decide)), va_up_ne _ _ (by decide)]; exact r4), (by rw [h_up_s, va_up_self]), ((h_up_n (fun e => absurd (hinj 6 5 (by decide) (by decide) e) (by decide))).trans r6), ((h_up_n (fun e => absurd (hinj 7 5 (by decide) (by decide) e) (by decide))).trans r7), (by rw [h_up_n (fun e => absurd (hinj 8 5 (by decide) (by decide) e) (by decide)), va_up_ne _ _ (by decide)]; exact r8), (by rw [h_up_n (fun e => absurd (hinj 9 5 (by decide) (by decide) e) (by decide)), va_up_ne _ _ (by decide)]; exact r9), ((h_up_n (fun e => absurd (hinj 10 5 (by decide) (by decide) e) (by decide))).trans r10), (by rw [h_up_n (fun e => absurd (hinj 11 5 (by decide) (by decide) e) (by decide)), va_up_ne _ _ (by decide)]; exact r11), ((h_up_n (fun e => absurd (hinj 12 5 (by decide) (by decide) e) (by decide))).trans r12), hinj, hn⟩
theorem MR.up6 (h : MR G mo M n I B thr ord mny w) (f : Nat → Bool) : MR G mo M n I (va_up B 6 f) thr ord mny (h_up w (M 6) (eZ G 120 (fun j => bI (f j)))) := by
  obtain ⟨hm, r0, r1, r2, r3, r4, r5, r6, r7, r8, r9, r10, r11, r12, hinj, hn⟩ := h
  exact ⟨(h_up_n (fun e => by rw [e, r6] at hm; simp at hm)).trans hm, ((h_up_n (fun e => absurd (hinj 0 6 (by decide) (by decide) e) (by decide))).trans r0), ((h_up_n (fun e => absurd (hinj 1 6 (by decide) (by decide) e) (by decide))).trans r1), ((h_up_n (fun e => absurd (hinj 2 6 (by decide) (by decide) e) (by decide))).trans r2), ((h_up_n (fun e => absurd (hinj 3 6 (by decide) (by decide) e) (by decide))).trans r3), ((h_up_n (fun e => absurd (hinj 4 6 (by decide) (by decide) e) (by decide))).trans r4), ((h_up_n (fun e => absurd (hinj 5 6 (by decide) (by decide) e) (by decide))).trans r5), (by rw [h_up_s, va_up_self]), (by rw [h_up_n (fun e => absurd (hinj 7 6 (by decide) (by decide) e) (by decide)), va_up_ne _ _ (by decide)]; exact r7), ((h_up_n (fun e => absurd (hinj 8 6 (by decide) (by decide) e) (by decide))).trans r8), ((h_up_n (fun e => absurd (hinj 9 6 (by decide) (by decide) e) (by decide))).trans r9), (by rw [h_up_n (fun e => absurd (hinj 10 6 (by decide) (by decide) e) (by decide)), va_up_ne _ _ (by decide)]; exact r10), ((h_up_n (fun e => absurd (hinj 11 6 (by decide) (by decide) e) (by decide))).trans r11), (by rw [h_up_n (fun e => absurd (hinj 12 6 (by decide) (by decide) e) (by decide)), va_up_ne _ _ (by decide)]; exact r12), hinj, hn⟩
theorem MR.up7 (h : MR G mo M n I B thr ord mny w) (f : Nat → Bool) : MR G mo M n I (va_up B 7 f) thr ord mny (h_up w (M 7) (eZ G 720 (fun j => bI (f j)))) := by
  obtain ⟨hm, r0, r1, r2, r3, r4, r5, r6, r7, r8, r9, r10, r11, r12, hinj, hn⟩ := h
  exact ⟨(h_up_n (fun e => by rw [e, r7] at hm; simp at hm)).trans hm, ((h_up_n (fun e => absurd (hinj 0 7 (by decide) (by decide) e) (by decide))).trans r0), ((h_up_n (fun e => absurd (hinj 1 7 (by decide) (by decide) e) (by decide))).trans r1), ((h_up_n (fun e => absurd (hinj 2 7 (by decide) (by decide) e) (by decide))).trans r2), ((h_up_n (fun e => absurd (hinj 3 7 (by decide) (by decide) e) (by decide))).trans r3), ((h_up_n (fun e => absurd (hinj 4 7 (by decide) (by decide) e) (by decide))).trans r4), ((h_up_n (fun e => absurd (hinj 5 7 (by decide) (by decide) e) (by decide))).trans r5), (by rw [h_up_n (fun e => absurd (hinj 6 7 (by decide) (by decide) e) (by decide)), va_up_ne _ _ (by decide)]; exact r6), (by rw [h_up_s, va_up_self]), ((h_up_n (fun e => absurd (hinj 8 7 (by decide) (by decide) e) (by decide))).trans r8), ((h_up_n (fun e => absurd (hinj 9 7 (by decide) (by decide) e) (by decide))).trans r9), (by rw [h_up_n (fun e => absurd (hinj 10 7 (by decide) (by decide) e) (by decide)), va_up_ne _ _ (by decide)]; exact r10), ((h_up_n (fun e => absurd (hinj 11 7 (by decide) (by decide) e) (by decide))).trans r11), (by rw [h_up_n (fun e => absurd (hinj 12 7 (by decide) (by decide) e) (by decide)), va_up_ne _ _ (by decide)]; exact r12), hinj, hn⟩
theorem MR.up8 (h : MR G mo M n I B thr ord mny w) (f : Nat → Int32) : MR G mo M n (va_up I 8 f) B thr ord mny (h_up w (M 8) (eI G 6 f)) := by
  obtain ⟨hm, r0, r1, r2, r3, r4, r5, r6, r7, r8, r9, r10, r11, r12, hinj, hn⟩ := h
  exact ⟨(h_up_n (fun e => by rw [e, r8] at hm; simp at hm)).trans hm, (by rw [h_up_n (fun e => absurd (hinj 0 8 (by decide) (by decide) e) (by decide)), va_up_ne _ _ (by decide)]; exact r0), (by rw [h_up_n (fun e => absurd (hinj 1 8 (by decide) (by decide) e) (by decide)), va_up_ne _ _ (by decide)]; exact r1), (by rw [h_up_n (fun e => absurd (hinj 2 8 (by decide) (by decide) e) (by decide)), va_up_ne _ _ (by decide)]; exact r2), (by rw [h_up_n (fun e => absurd (hinj 3 8 (by decide) (by decide) e) (by decide)), va_up_ne _ _ (by decide)]; exact r3), (by rw [h_up_n (fun e => absurd (hinj 4 8 (by decide) (by decide) e) (by decide)), va_up_ne _ _ (by decide)]; exact r4), (by rw [h_up_n (fun e => absurd (hinj 5 8 (by decide) (by decide) e) (by decide)), va_up_ne _ _ (by decide)]; exact r5), ((h_up_n (fun e => absurd (hinj 6 8 (by decide) (by decide) e) (by decide))).trans r6), ((h_up_n (fun e => absurd (hinj 7 8 (by decide) (by decide) e) (by decide))).trans r7), (by rw [h_up_s, va_up_self]), (by rw [h_up_n (fun e => absurd (hinj 9 8 (by decide) (by decide) e) (by decide)), va_up_ne _ _ (by decide)]; exact r9), ((h_up_n (fun e => absurd (hinj 10 8 (by decide) (by decide) e) (by decide))).trans r10), (by rw [h_up_n (fun e => absurd (hinj 11 8 (by decide) (by decide) e) (by decide)), va_up_ne _ _ (by decide)]; exact r11), ((h_up_n (fun e => absurd (hinj 12 8 (by decide) (by decide) e) (by decide))).trans r12), hinj, hn⟩
theorem MR.up9 (h : MR G mo M n I B thr ord mny w) (f : Nat → Int32) : MR G mo M n (va_up I 9 f) B thr ord mny (h_up w (M 9) (eI G 120 f)) := by
  obtain ⟨hm, r0, r1, r2, r3, r4, r5, r6, r7, r8, r9, r10, r11, r12, hinj, hn⟩ := h
  exact ⟨(h_up_n (fun e => by rw [e, r9] at hm; simp at hm)).trans hm, (by rw [h_up_n (fun e => absurd (hinj 0 9 (by decide) (by decide) e) (by decide)), va_up_ne _ _ (by decide)]; exact r0), (by rw [h_up_n (fun e => absurd (hinj 1 9 (by decide) (by decide) e) (by decide)), va_up_ne _ _ (by decide)]; exact r1), (by rw [h_up_n (fun e => absurd (hinj 2 9 (by decide) (by decide) e) (by decide)), va_up_ne _ _ (by decide)]; exact r2), (by rw [h_up_n (fun e => absurd (hinj 3 9 (by decide) (by decide) e) (by decide)), va_up_ne _ _ (by decide)]; exact r3), (by rw [h_up_n (fun e => absurd (hinj 4 9 (by decide) (by decide) e) (by decide)), va_up_ne _ _ (by decide)]; exact r4), (by rw [h_up_n (fun e => absurd (hinj 5 9 (by decide) (by decide) e) (by decide)), va_up_ne _ _ (by decide)]; exact r5), ((h_up_n (fun e => absurd (hinj 6 9 (by decide) (by decide) e) (by decide))).trans r6), ((h_up_n (fun e => absurd (hinj 7 9 (by decide) (by decide) e) (by decide))).trans r7), (by rw [h_up_n (fun e => absurd (hinj 8 9 (by decide) (by decide) e) (by decide)), va_up_ne _ _ (by decide)]; exact r8), (by rw [h_up_s, va_up_self]), ((h_up_n (fun e => absurd (hinj 10 9 (by decide) (by decide) e) (by decide))).trans r10), (by rw [h_up_n (fun e => absurd (hinj 11 9 (by decide) (by decide) e) (by decide)), va_up_ne _ _ (by decide)]; exact r11), ((h_up_n (fun e => absurd (hinj 12 9 (by decide) (by decide) e) (by decide))).trans r12), hinj, hn⟩
theorem MR.up10 (h : MR G mo M n I B thr ord mny w) (f : Nat → Bool) : MR G mo M n I (va_up B 10 f) thr ord mny (h_up w (M 10) (eZ G 256 (fun j => bI (f j)))) := by
  obtain ⟨hm, r0, r1, r2, r3, r4, r5, r6, r7, r8, r9, r10, r11, r12, hinj, hn⟩ := h
  exact ⟨(h_up_n (fun e => by rw [e, r10] at hm; simp at hm)).trans hm, ((h_up_n (fun e => absurd (hinj 0 10 (by decide) (by decide) e) (by decide))).trans r0), ((h_up_n (fun e => absurd (hinj 1 10 (by decide) (by decide) e) (by decide))).trans r1), ((h_up_n (fun e => absurd (hinj 2 10 (by decide) (by decide) e) (by decide))).trans r2), ((h_up_n (fun e => absurd (hinj 3 10 (by decide) (by decide) e) (by decide))).trans r3), ((h_up_n (fun e => absurd (hinj 4 10 (by decide) (by decide) e) (by decide))).trans r4), ((h_up_n (fun e => absurd (hinj 5 10 (by decide) (by decide) e) (by decide))).trans r5), (by rw [h_up_n (fun e => absurd (hinj 6 10 (by decide) (by decide) e) (by decide)), va_up_ne _ _ (by decide)]; exact r6), (by rw [h_up_n (fun e => absurd (hinj 7 10 (by decide) (by decide) e) (by decide)), va_up_ne _ _ (by decide)]; exact r7), ((h_up_n (fun e => absurd (hinj 8 10 (by decide) (by decide) e) (by decide))).trans r8), ((h_up_n (fun e => absurd (hinj 9 10 (by decide) (by decide) e) (by decide))).trans r9), (by rw [h_up_s, va_up_self]), ((h_up_n (fun e => absurd (hinj 11 10 (by decide) (by decide) e) (by decide))).trans r11), (by rw [h_up_n (fun e => absurd (hinj 12 10 (by decide) (by decide) e) (by decide)), va_up_ne _ _ (by decide)]; exact r12), hinj, hn⟩
theorem MR.up11 (h : MR G mo M n I B thr ord mny w) (f : Nat → Int32) : MR G mo M n (va_up I 11 f) B thr ord mny (h_up w (M 11) (eI G 120 f)) := by
  obtain ⟨hm, r0, r1, r2, r3, r4, r5, r6, r7, r8, r9, r10, r11, r12, hinj, hn⟩ := h
  exact ⟨(h_up_n (fun e => by rw [e, r11] at hm; simp at hm)).trans hm, (by rw [h_up_n (fun e => absurd (hinj 0 11 (by decide) (by decide) e) (by decide)), va_up_ne _ _ (by decide)]; exact r0), (by rw [h_up_n (fun e => absurd (hinj 1 11 (by decide) (by decide) e) (by decide)), va_up_ne _ _ (by decide)]; exact r1), (by rw [h_up_n (fun e => absurd (hinj 2 11 (by decide) (by decide) e) (by decide)), va_up_ne _ _ (by decide)]; exact r2), (by rw [h_up_n (fun e => absurd (hinj 3 11 (by decide) (by decide) e) (by decide)), va_up_ne _ _ (by decide)]; exact r3), (by rw [h_up_n (fun e => absurd (hinj 4 11 (by decide) (by decide) e) (by decide)), va_up_ne _ _ (by decide)]; exact r4), (by rw [h_up_n (fun e => absurd (hinj 5 11 (by decide) (by decide) e) (by decide)), va_up_ne _ _ (by decide)]; exact r5), ((h_up_n (fun e => absurd (hinj 6 11 (by decide) (by decide) e) (by decide))).trans r6), ((h_up_n (fun e => absurd (hinj 7 11 (by decide) (by decide) e) (by decide))).trans r7), (by rw [h_up_n (fun e => absurd (hinj 8 11 (by decide) (by decide) e) (by decide)), va_up_ne _ _ (by decide)]; exact r8), (by rw [h_up_n (fun e => absurd (hinj 9 11 (by decide) (by decide) e) (by decide)), va_up_ne _ _ (by decide)]; exact r9), ((h_up_n (fun e => absurd (hinj 10 11 (by decide) (by decide) e) (by decide))).trans r10), (by rw [h_up_s, va_up_self]), ((h_up_n (fun e => absurd (hinj 12 11 (by decide) (by decide) e) (by decide))).trans r12), hinj, hn⟩
theorem MR.up12 (h : MR G mo M n I B thr ord mny w) (f : Nat → Bool) : MR G mo M n I (va_up B 12 f) thr ord mny (h_up w (M 12) (eZ G 120 (fun j => bI (f j)))) := by
  obtain ⟨hm, r0, r1, r2, r3, r4, r5, r6, r7, r8, r9, r10, r11, r12, hinj, hn⟩ := h
  exact ⟨(h_up_n (fun e => by rw [e, r12] at hm; simp at hm)).trans hm, ((h_up_n (fun e => absurd (hinj 0 12 (by decide) (by decide) e) (by decide))).trans r0), ((h_up_n (fun e => absurd (hinj 1 12 (by decide) (by decide) e) (by decide))).trans r1), ((h_up_n (fun e => absurd (hinj 2 12 (by decide) (by decide) e) (by decide))).trans r2), ((h_up_n (fun e => absurd (hinj 3 12 (by decide) (by decide) e) (by decide))).trans r3), ((h_up_n (fun e => absurd (hinj 4 12 (by decide) (by decide) e) (by decide))).trans r4), ((h_up_n (fun e => absurd (hinj 5 12 (by decide) (by decide) e) (by decide))).trans r5), (by rw [h_up_n (fun e => absurd (hinj 6 12 (by decide) (by decide) e) (by decide)), va_up_ne _ _ (by decide)]; exact r6), (by rw [h_up_n (fun e => absurd (hinj 7 12 (by decide) (by decide) e) (by decide)), va_up_ne _ _ (by decide)]; exact r7), ((h_up_n (fun e => absurd (hinj 8 12 (by decide) (by decide) e) (by decide))).trans r8), ((h_up_n (fun e => absurd (hinj 9 12 (by decide) (by decide) e) (by decide))).trans r9), (by rw [h_up_n (fun e => absurd (hinj 10 12 (by decide) (by decide) e) (by decide)), va_up_ne _ _ (by decide)]; exact r10), ((h_up_n (fun e => absurd (hinj 11 12 (by decide) (by decide) e) (by decide))).trans r11), (by rw [h_up_s, va_up_self]), hinj, hn⟩
theorem MR.upM (h : MR G mo M n I B thr ord mny w) (thr' ord' mny' : Int32) {n' : Nat} (hn' : n' ≤ 120) : MR G mo M n' I B thr' ord' mny' (h_up w mo (cellM M thr' n' ord' mny')) := by
  obtain ⟨hm, r0, r1, r2, r3, r4, r5, r6, r7, r8, r9, r10, r11, r12, hinj, hn⟩ := h
  exact ⟨h_up_s _ _ _, (h_up_n (fun e => by rw [e, hm] at r0; simp at r0)).trans r0, (h_up_n (fun e => by rw [e, hm] at r1; simp at r1)).trans r1, (h_up_n (fun e => by rw [e, hm] at r2; simp at r2)).trans r2, (h_up_n (fun e => by rw [e, hm] at r3; simp at r3)).trans r3, (h_up_n (fun e => by rw [e, hm] at r4; simp at r4)).trans r4, (h_up_n (fun e => by rw [e, hm] at r5; simp at r5)).trans r5, (h_up_n (fun e => by rw [e, hm] at r6; simp at r6)).trans r6, (h_up_n (fun e => by rw [e, hm] at r7; simp at r7)).trans r7, (h_up_n (fun e => by rw [e, hm] at r8; simp at r8)).trans r8, (h_up_n (fun e => by rw [e, hm] at r9; simp at r9)).trans r9, (h_up_n (fun e => by rw [e, hm] at r10; simp at r10)).trans r10, (h_up_n (fun e => by rw [e, hm] at r11; simp at r11)).trans r11, (h_up_n (fun e => by rw [e, hm] at r12; simp at r12)).trans r12, hinj, hn'⟩
end MR
/-- the model's cells -/
def MD (mo : Nat) (M : Nat → Nat) (q : Nat) : Prop := q = mo ∨ ∃ k, k < 13 ∧ q = M k
theorem MD.m {mo : Nat} {M : Nat → Nat} : MD mo M mo := Or.inl rfl
theorem MD.a {mo : Nat} {M : Nat → Nat} (k : Nat) (h : k < 13) : MD mo M (M k) := Or.inr ⟨k, h, rfl⟩
theorem upd_bI (f : Nat → Bool) (i : Nat) (b : Bool) : upd (fun j => bI (f j)) i (cond b 1 0) = fun j => bI (va_up f i b j) := by
  funext j
  by_cases h : j = i
  · subst h; rw [pk_us, va_up_self]; rfl
  · rw [pk_un h, va_up_ne _ _ h]
theorem upd_up (f : Nat → Int32) (i : Nat) (x : Int32) : upd f i x = va_up f i x := by
  funext j
  by_cases h : j = i
  · subst h; rw [pk_us, va_up_self]
  · rw [pk_un h, va_up_ne _ _ h]
theorem ix120 (d t : Nat) : (120 : Int32) * nI d + nI t = nI (120 * d + t) := by rw [show (120 : Int32) = nI 120 from rfl, pk_mul, nI_add]
theorem ix16 (d t : Nat) : (16 : Int32) * nI d + nI t = nI (16 * d + t) := by rw [show (16 : Int32) = nI 16 from rfl, pk_mul, nI_add]
/-- for t = 0, 1, .. -/
def iter {α : Type} (f : α → Nat → α) (a : α) : Nat → α
  | 0 => a
  | t + 1 => f (iter f a t) t
def isDk (d : Int32) : Bool := !decide (d < 0) && decide (d < 6)
def isTh (d : Int32) : Bool := !decide (d < 0) && decide (d < 16)
def wiB (v lo hi : Int32) : Bool := decide (lo ≤ v) && decide (v ≤ hi)
def thC (p q r : Bool) : Int32 := cond p (cond q (cond r 0 3) 2) 1
def earlB (I : Nat → Nat → Int32) (i j : Nat) : Bool := decide (I 0 i < I 0 j) || (decide (I 0 i = I 0 j) && decide (I 1 i < I 1 j))
def isOfB (I : Nat → Nat → Int32) (B : Nat → Nat → Bool) (d t : Nat) (th so : Int32) : Bool := B 7 (120 * d + t) && (decide (I 2 t = so) && decide (I 3 t = th))
def kOf (n : Nat) (B : Nat → Nat → Bool) (d t : Int32) : Bool := isDk d && (!decide (t < 0) && (decide (t < nI n) && B 7 (120 * d.toNatClampNeg + t.toNatClampNeg)))
def oI : Option Nat → Int32
  | none => -1
  | some i => nI i
theorem oI_some {i : Nat} (h : i < 2 ^ 31) : ¬ nI i = -1 := fun e => by have h1 : ¬ nI i < 0 := nI_pos h; rw [e] at h1; exact h1 (by decide)

set_option maxHeartbeats 4000000 in
set_option maxRecDepth 100000 in
theorem c_X3_thrown (l : Launch) (G : hD) (w : hW) (mo : Nat) (M : Nat → Nat) (n : Nat) (I : Nat → Nat → Int32) (B : Nat → Nat → Bool) (thr ord mny : Int32) (hR : MR G mo M n I B thr ord mny w) : h_Met l yX3_thrown (Cond.code yX3_thrown cX3_thrown 1 (some .int)) { frames := 0, cells := 0, slots := 0, locals := 0 } G [.ref mo] w (fun v w' => v = some (.int (thr)) ∧ w' = w) noX := by
  refine h_met RX3 rfl (by decide) (Nat.le_of_ble_eq_true rfl) (cat_c (by first | rfl | exact rf_cat _) cat_n) ?_
  intro p e s m below meth c A C hnt hr hnm
  obtain ⟨hm, r0, r1, r2, r3, r4, r5, r6, r7, r8, r9, r10, r11, r12, hinj, hn⟩ := id hR
  first | refine g_aload_n C dX3_thrown_0 rfl rfl ?_ | refine g_aload_nN C dX3_thrown_0 rfl rfl ?_ | refine g_aload_nq C dX3_thrown_0 rfl rfl ?_
  refine g_get C dX3_thrown_1 hm rfl kw_X3 0 (by decide) kfX3_50 rfl rfl ?_
  exact g_iret C hr dX3_thrown_4 (by decide) (by decide) ⟨rfl, rfl⟩

theorem cond_ne {b : Bool} : (¬ bI b = 0) ↔ b = true := bI_nz
set_option maxHeartbeats 4000000 in
set_option maxRecDepth 100000 in
theorem c_X3_goes (l : Launch) (G : hD) (w : hW) (mo : Nat) (M : Nat → Nat) (n : Nat) (I : Nat → Nat → Int32) (B : Nat → Nat → Bool) (thr ord mny : Int32) (hR : MR G mo M n I B thr ord mny w) (b1 b2 b3 : Bool) : h_Met l yX3_goes (Cond.code yX3_goes cX3_goes 4 (some .boolean)) { frames := 0, cells := 0, slots := 0, locals := 0 } G [.ref mo, .int (bI b1), .int (bI b2), .int (bI b3)] w (fun v w' => v = some (.int (bI (b1 && (b2 && b3)))) ∧ w' = h_up w mo (cellM M (thC b1 b2 b3) n ord mny)) noX := by
  refine h_met RX3 rfl (by decide) (Nat.le_of_ble_eq_true rfl) (cat_c (by first | rfl | exact rf_cat _) (cat_c (by first | rfl | exact rf_cat _) (cat_c (by first | rfl | exact rf_cat _) (cat_c (by first | rfl | exact rf_cat _) cat_n)))) ?_
  intro p e s m below meth c A C hnt hr hnm
  obtain ⟨hm, r0, r1, r2, r3, r4, r5, r6, r7, r8, r9, r10, r11, r12, hinj, hn⟩ := id hR
  first | refine g_aload_n C dX3_goes_0 rfl rfl ?_ | refine g_aload_nN C dX3_goes_0 rfl rfl ?_ | refine g_aload_nq C dX3_goes_0 rfl rfl ?_
  refine g_iload_n C dX3_goes_1 rfl rfl ?_
  refine g_if_ne C 9 dX3_goes_2 (by decide) (fun c2 => ?_) (fun c2 => ?_)
  · have c2 := bI_nz.mp c2
    refine g_iload_n C dX3_goes_9 rfl rfl ?_
    refine g_if_ne C 17 dX3_goes_10 (by decide) (fun c10 => ?_) (fun c10 => ?_)
    · have c10 := bI_nz.mp c10
      refine g_iload_n C dX3_goes_17 rfl rfl ?_
      refine g_if_ne C 25 dX3_goes_18 (by decide) (fun c18 => ?_) (fun c18 => ?_)
      · have c18 := bI_nz.mp c18
        refine g_iconst C (v := 0) dX3_goes_25 (by decide) ?_
        refine g_put C dX3_goes_26 hm rfl kw_X3 tyX3 tyX3_ok nmX3 0 (by decide) kfX3_50 rfl rfl rfl rfl (Nat.le_of_ble_eq_true rfl) ?_
        first | refine g_aload_n C dX3_goes_29 rfl rfl ?_ | refine g_aload_nN C dX3_goes_29 rfl rfl ?_ | refine g_aload_nq C dX3_goes_29 rfl rfl ?_
        refine g_get C dX3_goes_30 (h_up_s _ _ _) rfl kw_X3 0 (by decide) kfX3_50 rfl rfl ?_
        refine g_if_ne C 40 dX3_goes_33 (by decide) (fun c33 => absurd (rfl) c33) (fun _ => ?_)
        refine g_iconst C (v := 1) dX3_goes_36 (by decide) ?_
        refine g_goto C 41 dX3_goes_37 (by decide) ?_
        exact g_zret C hr rfl dX3_goes_41 (by decide) (by decide) ⟨by simp [bI, c2, c10, c18], by simp [thC, c2, c10, c18]⟩
      · have c18 := bI_z.mp c18
        refine g_iconst C (v := 3) dX3_goes_21 (by decide) ?_
        refine g_goto C 26 dX3_goes_22 (by decide) ?_
        refine g_put C dX3_goes_26 hm rfl kw_X3 tyX3 tyX3_ok nmX3 0 (by decide) kfX3_50 rfl rfl rfl rfl (Nat.le_of_ble_eq_true rfl) ?_
        first | refine g_aload_n C dX3_goes_29 rfl rfl ?_ | refine g_aload_nN C dX3_goes_29 rfl rfl ?_ | refine g_aload_nq C dX3_goes_29 rfl rfl ?_
        refine g_get C dX3_goes_30 (h_up_s _ _ _) rfl kw_X3 0 (by decide) kfX3_50 rfl rfl ?_
        refine g_if_ne C 40 dX3_goes_33 (by decide) (fun _ => ?_) (fun c33 => absurd c33 (by decide))
        refine g_iconst C (v := 0) dX3_goes_40 (by decide) ?_
        exact g_zret C hr rfl dX3_goes_41 (by decide) (by decide) ⟨by simp [bI, c2, c10, c18], by simp [thC, c2, c10, c18]⟩
    · have c10 := bI_z.mp c10
      refine g_iconst C (v := 2) dX3_goes_13 (by decide) ?_
      refine g_goto C 26 dX3_goes_14 (by decide) ?_
      refine g_put C dX3_goes_26 hm rfl kw_X3 tyX3 tyX3_ok nmX3 0 (by decide) kfX3_50 rfl rfl rfl rfl (Nat.le_of_ble_eq_true rfl) ?_
      first | refine g_aload_n C dX3_goes_29 rfl rfl ?_ | refine g_aload_nN C dX3_goes_29 rfl rfl ?_ | refine g_aload_nq C dX3_goes_29 rfl rfl ?_
      refine g_get C dX3_goes_30 (h_up_s _ _ _) rfl kw_X3 0 (by decide) kfX3_50 rfl rfl ?_
      refine g_if_ne C 40 dX3_goes_33 (by decide) (fun _ => ?_) (fun c33 => absurd c33 (by decide))
      refine g_iconst C (v := 0) dX3_goes_40 (by decide) ?_
      exact g_zret C hr rfl dX3_goes_41 (by decide) (by decide) ⟨by simp [bI, c2, c10], by simp [thC, c2, c10]⟩
  · have c2 := bI_z.mp c2
    refine g_iconst C (v := 1) dX3_goes_5 (by decide) ?_
    refine g_goto C 26 dX3_goes_6 (by decide) ?_
    refine g_put C dX3_goes_26 hm rfl kw_X3 tyX3 tyX3_ok nmX3 0 (by decide) kfX3_50 rfl rfl rfl rfl (Nat.le_of_ble_eq_true rfl) ?_
    first | refine g_aload_n C dX3_goes_29 rfl rfl ?_ | refine g_aload_nN C dX3_goes_29 rfl rfl ?_ | refine g_aload_nq C dX3_goes_29 rfl rfl ?_
    refine g_get C dX3_goes_30 (h_up_s _ _ _) rfl kw_X3 0 (by decide) kfX3_50 rfl rfl ?_
    refine g_if_ne C 40 dX3_goes_33 (by decide) (fun _ => ?_) (fun c33 => absurd c33 (by decide))
    refine g_iconst C (v := 0) dX3_goes_40 (by decide) ?_
    exact g_zret C hr rfl dX3_goes_41 (by decide) (by decide) ⟨by simp [bI, c2], by simp [thC, c2]⟩

set_option maxHeartbeats 4000000 in
set_option maxRecDepth 100000 in
theorem c_X3_within (l : Launch) (G : hD) (w : hW) (z lo hi : Int32) : h_Met l yX3_within (Cond.code yX3_within cX3_within 3 (some .boolean)) { frames := 0, cells := 0, slots := 0, locals := 0 } G [.int z, .int lo, .int hi] w (fun v w' => v = some (.int (bI (wiB z lo hi))) ∧ w' = w) noX := by
  refine h_met RX3 rfl (by decide) (Nat.le_of_ble_eq_true rfl) (cat_c (by first | rfl | exact rf_cat _) (cat_c (by first | rfl | exact rf_cat _) (cat_c (by first | rfl | exact rf_cat _) cat_n))) ?_
  intro p e s m below meth c A C hnt hr hnm
  refine g_iload_n C dX3_within_0 rfl rfl ?_
  refine g_iload_n C dX3_within_1 rfl rfl ?_
  refine g_icmp_lt C 14 dX3_within_2 (by decide) (fun c2 => ?_) (fun c2 => ?_)
  · have c2 := Int32.not_le.mpr c2
    refine g_iconst C (v := 0) dX3_within_14 (by decide) ?_
    exact g_zret C hr rfl dX3_within_15 (by decide) (by decide) ⟨by simp [wiB, bI, c2], rfl⟩
  · have c2 := Int32.not_lt.mp c2
    refine g_iload_n C dX3_within_5 rfl rfl ?_
    refine g_iload_n C dX3_within_6 rfl rfl ?_
    refine g_icmp_gt C 14 dX3_within_7 (by decide) (fun c7 => ?_) (fun c7 => ?_)
    · have c7 := Int32.not_le.mpr c7
      refine g_iconst C (v := 0) dX3_within_14 (by decide) ?_
      exact g_zret C hr rfl dX3_within_15 (by decide) (by decide) ⟨by simp [wiB, bI, c2, c7], rfl⟩
    · have c7 := Int32.not_lt.mp c7
      refine g_iconst C (v := 1) dX3_within_10 (by decide) ?_
      refine g_goto C 15 dX3_within_11 (by decide) ?_
      exact g_zret C hr rfl dX3_within_15 (by decide) (by decide) ⟨by simp [wiB, bI, c2, c7], rfl⟩

set_option maxHeartbeats 4000000 in
set_option maxRecDepth 100000 in
theorem c_X3_isDesk (l : Launch) (G : hD) (w : hW) (d : Int32) : h_Met l yX3_isDesk (Cond.code yX3_isDesk cX3_isDesk 1 (some .boolean)) { frames := 0, cells := 0, slots := 0, locals := 0 } G [.int d] w (fun v w' => v = some (.int (bI (isDk d))) ∧ w' = w) noX := by
  refine h_met RX3 rfl (by decide) (Nat.le_of_ble_eq_true rfl) (cat_c (by first | rfl | exact rf_cat _) cat_n) ?_
  intro p e s m below meth c A C hnt hr hnm
  refine g_iload_n C dX3_isDesk_0 rfl rfl ?_
  refine g_if_lt C 14 dX3_isDesk_1 (by decide) (fun c1 => ?_) (fun c1 => ?_)
  · refine g_iconst C (v := 0) dX3_isDesk_14 (by decide) ?_
    exact g_zret C hr rfl dX3_isDesk_15 (by decide) (by decide) ⟨by simp [isDk, bI, c1], rfl⟩
  · refine g_iload_n C dX3_isDesk_4 rfl rfl ?_
    refine g_bipush C (v := 6) dX3_isDesk_5 (by decide) ?_
    refine g_icmp_ge C 14 dX3_isDesk_7 (by decide) (fun c7 => ?_) (fun c7 => ?_)
    · have c7 := Int32.not_lt.mpr c7
      refine g_iconst C (v := 0) dX3_isDesk_14 (by decide) ?_
      exact g_zret C hr rfl dX3_isDesk_15 (by decide) (by decide) ⟨by simp [isDk, bI, c1, c7], rfl⟩
    · have c7 := Int32.not_le.mp c7
      refine g_iconst C (v := 1) dX3_isDesk_10 (by decide) ?_
      refine g_goto C 15 dX3_isDesk_11 (by decide) ?_
      exact g_zret C hr rfl dX3_isDesk_15 (by decide) (by decide) ⟨by simp [isDk, bI, c1, c7], rfl⟩

set_option maxHeartbeats 4000000 in
set_option maxRecDepth 100000 in
theorem c_X3_isThing (l : Launch) (G : hD) (w : hW) (d : Int32) : h_Met l yX3_isThing (Cond.code yX3_isThing cX3_isThing 1 (some .boolean)) { frames := 0, cells := 0, slots := 0, locals := 0 } G [.int d] w (fun v w' => v = some (.int (bI (isTh d))) ∧ w' = w) noX := by
  refine h_met RX3 rfl (by decide) (Nat.le_of_ble_eq_true rfl) (cat_c (by first | rfl | exact rf_cat _) cat_n) ?_
  intro p e s m below meth c A C hnt hr hnm
  refine g_iload_n C dX3_isThing_0 rfl rfl ?_
  refine g_if_lt C 14 dX3_isThing_1 (by decide) (fun c1 => ?_) (fun c1 => ?_)
  · refine g_iconst C (v := 0) dX3_isThing_14 (by decide) ?_
    exact g_zret C hr rfl dX3_isThing_15 (by decide) (by decide) ⟨by simp [isTh, bI, c1], rfl⟩
  · refine g_iload_n C dX3_isThing_4 rfl rfl ?_
    refine g_bipush C (v := 16) dX3_isThing_5 (by decide) ?_
    refine g_icmp_ge C 14 dX3_isThing_7 (by decide) (fun c7 => ?_) (fun c7 => ?_)
    · have c7 := Int32.not_lt.mpr c7
      refine g_iconst C (v := 0) dX3_isThing_14 (by decide) ?_
      exact g_zret C hr rfl dX3_isThing_15 (by decide) (by decide) ⟨by simp [isTh, bI, c1, c7], rfl⟩
    · have c7 := Int32.not_le.mp c7
      refine g_iconst C (v := 1) dX3_isThing_10 (by decide) ?_
      refine g_goto C 15 dX3_isThing_11 (by decide) ?_
      exact g_zret C hr rfl dX3_isThing_15 (by decide) (by decide) ⟨by simp [isTh, bI, c1, c7], rfl⟩

theorem isDk_nI {d : Int32} (h : isDk d = true) : ∃ j, j < 6 ∧ d = nI j := by
  simp only [isDk, Bool.and_eq_true, Bool.not_eq_true', decide_eq_false_iff_not, decide_eq_true_eq] at h
  exact ok_nI (N := 6) (by decide) h.1 h.2
theorem isTh_nI {d : Int32} (h : isTh d = true) : ∃ j, j < 16 ∧ d = nI j := by
  simp only [isTh, Bool.and_eq_true, Bool.not_eq_true', decide_eq_false_iff_not, decide_eq_true_eq] at h
  exact ok_nI (N := 16) (by decide) h.1 h.2
set_option maxHeartbeats 4000000 in
set_option maxRecDepth 100000 in
theorem c_X3_knowsOf (l : Launch) (G : hD) (w : hW) (mo : Nat) (M : Nat → Nat) (n : Nat) (I : Nat → Nat → Int32) (B : Nat → Nat → Bool) (thr ord mny : Int32) (hR : MR G mo M n I B thr ord mny w) (d t : Int32) : h_Met l yX3_knowsOf (Cond.code yX3_knowsOf cX3_knowsOf 3 (some .boolean)) { frames := 1, cells := 0, slots := 0, locals := 20 } G [.ref mo, .int d, .int t] w (fun v w' => v = some (.int (bI (kOf n B d t))) ∧ w' = w) noX := by
  refine h_met RX3 rfl (by decide) (Nat.le_of_ble_eq_true rfl) (cat_c (by first | rfl | exact rf_cat _) (cat_c (by first | rfl | exact rf_cat _) (cat_c (by first | rfl | exact rf_cat _) cat_n))) ?_
  intro p e s m below meth c A C hnt hr hnm
  obtain ⟨hm, r0, r1, r2, r3, r4, r5, r6, r7, r8, r9, r10, r11, r12, hinj, hn⟩ := id hR
  refine g_iload_n C dX3_knowsOf_0 rfl rfl ?_
  refine g_callSn C _ dX3_knowsOf_1 (c_X3_isDesk l G _ _) kmX3_54 ks_X3_isDesk kn_X3 kc_X3_isDesk hy_X3_isDesk ⟨by decide, by decide⟩ rfl (Nat.le_of_ble_eq_true rfl) ⟨by decide, by decide⟩ (fun v w1 hp => ?_)
  obtain ⟨rfl, hw1⟩ := hp
  have hw1 := hw1.symm
  subst hw1
  refine g_if_eq C 37 dX3_knowsOf_4 (by decide) (fun c4 => ?_) (fun c4 => ?_)
  · have c4 := bI_z.mp c4
    refine g_iconst C (v := 0) dX3_knowsOf_37 (by decide) ?_
    exact g_zret C hr rfl dX3_knowsOf_38 (by decide) (by decide) ⟨by simp [kOf, bI, c4], rfl⟩
  · have c4 := bI_nz.mp c4
    refine g_iload_n C dX3_knowsOf_7 rfl rfl ?_
    refine g_if_lt C 37 dX3_knowsOf_8 (by decide) (fun c8 => ?_) (fun c8 => ?_)
    · refine g_iconst C (v := 0) dX3_knowsOf_37 (by decide) ?_
      exact g_zret C hr rfl dX3_knowsOf_38 (by decide) (by decide) ⟨by simp [kOf, bI, c4, c8], rfl⟩
    · refine g_iload_n C dX3_knowsOf_11 rfl rfl ?_
      first | refine g_aload_n C dX3_knowsOf_12 rfl rfl ?_ | refine g_aload_nN C dX3_knowsOf_12 rfl rfl ?_ | refine g_aload_nq C dX3_knowsOf_12 rfl rfl ?_
      refine g_get C dX3_knowsOf_13 hm rfl kw_X3 1 (by decide) kfX3_58 rfl rfl ?_
      refine g_icmp_ge C 37 dX3_knowsOf_16 (by decide) (fun c16 => ?_) (fun c16 => ?_)
      · have c16 := Int32.not_lt.mpr c16
        refine g_iconst C (v := 0) dX3_knowsOf_37 (by decide) ?_
        exact g_zret C hr rfl dX3_knowsOf_38 (by decide) (by decide) ⟨by simp [kOf, bI, c4, c8, c16], rfl⟩
      · have c16 := Int32.not_le.mp c16
        obtain ⟨d', hd', rfl⟩ := isDk_nI c4
        obtain ⟨t', ht', rfl⟩ := isM_of (by omega) c8 c16
        first | refine g_aload_n C dX3_knowsOf_19 rfl rfl ?_ | refine g_aload_nN C dX3_knowsOf_19 rfl rfl ?_ | refine g_aload_nq C dX3_knowsOf_19 rfl rfl ?_
        refine g_get C dX3_knowsOf_20 hm rfl kw_X3 9 (by decide) kfX3_32 rfl rfl ?_
        refine g_bipush C (v := 120) dX3_knowsOf_23 (by decide) ?_
        refine g_iload_n C dX3_knowsOf_25 rfl rfl ?_
        refine g_imul C dX3_knowsOf_26 ?_
        refine g_iload_n C dX3_knowsOf_27 rfl rfl ?_
        refine g_iadd C dX3_knowsOf_28 ?_
        refine g_eq (ix120 d' t') ?_
        refine g_zaldN C dX3_knowsOf_29 r7 (by omega) (by decide) ?_
        refine g_if_eq C 37 dX3_knowsOf_30 (by decide) (fun c30 => ?_) (fun c30 => ?_)
        · have c30 := bI_z.mp c30
          refine g_iconst C (v := 0) dX3_knowsOf_37 (by decide) ?_
          exact g_zret C hr rfl dX3_knowsOf_38 (by decide) (by decide) ⟨by simp [kOf, nI_clamp (n := d') (by omega), nI_clamp (n := t') (by omega), bI, c4, c8, c16, c30], rfl⟩
        · have c30 := bI_nz.mp c30
          refine g_iconst C (v := 1) dX3_knowsOf_33 (by decide) ?_
          refine g_goto C 38 dX3_knowsOf_34 (by decide) ?_
          exact g_zret C hr rfl dX3_knowsOf_38 (by decide) (by decide) ⟨by simp [kOf, nI_clamp (n := d') (by omega), nI_clamp (n := t') (by omega), bI, c4, c8, c16, c30], rfl⟩

set_option maxHeartbeats 4000000 in
set_option maxRecDepth 100000 in
theorem c_X3_earlier (l : Launch) (G : hD) (w : hW) (mo : Nat) (M : Nat → Nat) (n : Nat) (I : Nat → Nat → Int32) (B : Nat → Nat → Bool) (thr ord mny : Int32) (hR : MR G mo M n I B thr ord mny w) (i j : Nat) (hi : i < 120) (hj : j < 120) : h_Met l yX3_earlier (Cond.code yX3_earlier cX3_earlier 3 (some .boolean)) { frames := 0, cells := 0, slots := 0, locals := 0 } G [.ref mo, .int (nI i), .int (nI j)] w (fun v w' => v = some (.int (bI (earlB I i j))) ∧ w' = w) noX := by
  refine h_met RX3 rfl (by decide) (Nat.le_of_ble_eq_true rfl) (cat_c (by first | rfl | exact rf_cat _) (cat_c (by first | rfl | exact rf_cat _) (cat_c (by first | rfl | exact rf_cat _) cat_n))) ?_
  intro p e s m below meth c A C hnt hr hnm
  obtain ⟨hm, r0, r1, r2, r3, r4, r5, r6, r7, r8, r9, r10, r11, r12, hinj, hn⟩ := id hR
  first | refine g_aload_n C dX3_earlier_0 rfl rfl ?_ | refine g_aload_nN C dX3_earlier_0 rfl rfl ?_ | refine g_aload_nq C dX3_earlier_0 rfl rfl ?_
  refine g_get C dX3_earlier_1 hm rfl kw_X3 2 (by decide) kfX3_7 rfl rfl ?_
  refine g_iload_n C dX3_earlier_4 rfl rfl ?_
  refine g_ialdN C dX3_earlier_5 r0 hi (by decide) ?_
  first | refine g_aload_n C dX3_earlier_6 rfl rfl ?_ | refine g_aload_nN C dX3_earlier_6 rfl rfl ?_ | refine g_aload_nq C dX3_earlier_6 rfl rfl ?_
  refine g_get C dX3_earlier_7 hm rfl kw_X3 2 (by decide) kfX3_7 rfl rfl ?_
  refine g_iload_n C dX3_earlier_10 rfl rfl ?_
  refine g_ialdN C dX3_earlier_11 r0 hj (by decide) ?_
  refine g_icmp_lt C 45 dX3_earlier_12 (by decide) (fun c12 => ?_) (fun c12 => ?_)
  · refine g_iconst C (v := 1) dX3_earlier_45 (by decide) ?_
    refine g_goto C 50 dX3_earlier_46 (by decide) ?_
    exact g_zret C hr rfl dX3_earlier_50 (by decide) (by decide) ⟨by simp [earlB, bI, c12], rfl⟩
  · first | refine g_aload_n C dX3_earlier_15 rfl rfl ?_ | refine g_aload_nN C dX3_earlier_15 rfl rfl ?_ | refine g_aload_nq C dX3_earlier_15 rfl rfl ?_
    refine g_get C dX3_earlier_16 hm rfl kw_X3 2 (by decide) kfX3_7 rfl rfl ?_
    refine g_iload_n C dX3_earlier_19 rfl rfl ?_
    refine g_ialdN C dX3_earlier_20 r0 hi (by decide) ?_
    first | refine g_aload_n C dX3_earlier_21 rfl rfl ?_ | refine g_aload_nN C dX3_earlier_21 rfl rfl ?_ | refine g_aload_nq C dX3_earlier_21 rfl rfl ?_
    refine g_get C dX3_earlier_22 hm rfl kw_X3 2 (by decide) kfX3_7 rfl rfl ?_
    refine g_iload_n C dX3_earlier_25 rfl rfl ?_
    refine g_ialdN C dX3_earlier_26 r0 hj (by decide) ?_
    refine g_icmp_ne C 49 dX3_earlier_27 (by decide) (fun c27 => ?_) (fun c27 => ?_)
    · refine g_iconst C (v := 0) dX3_earlier_49 (by decide) ?_
      exact g_zret C hr rfl dX3_earlier_50 (by decide) (by decide) ⟨by simp [earlB, bI, c12, c27], rfl⟩
    · first | refine g_aload_n C dX3_earlier_30 rfl rfl ?_ | refine g_aload_nN C dX3_earlier_30 rfl rfl ?_ | refine g_aload_nq C dX3_earlier_30 rfl rfl ?_
      refine g_get C dX3_earlier_31 hm rfl kw_X3 3 (by decide) kfX3_13 rfl rfl ?_
      refine g_iload_n C dX3_earlier_34 rfl rfl ?_
      refine g_ialdN C dX3_earlier_35 r1 hi (by decide) ?_
      first | refine g_aload_n C dX3_earlier_36 rfl rfl ?_ | refine g_aload_nN C dX3_earlier_36 rfl rfl ?_ | refine g_aload_nq C dX3_earlier_36 rfl rfl ?_
      refine g_get C dX3_earlier_37 hm rfl kw_X3 3 (by decide) kfX3_13 rfl rfl ?_
      refine g_iload_n C dX3_earlier_40 rfl rfl ?_
      refine g_ialdN C dX3_earlier_41 r1 hj (by decide) ?_
      refine g_icmp_ge C 49 dX3_earlier_42 (by decide) (fun c42 => ?_) (fun c42 => ?_)
      · have c42 := Int32.not_lt.mpr c42
        refine g_iconst C (v := 0) dX3_earlier_49 (by decide) ?_
        exact g_zret C hr rfl dX3_earlier_50 (by decide) (by decide) ⟨by simp [earlB, bI, c12, c27, c42], rfl⟩
      · have c42 := Int32.not_le.mp c42
        refine g_iconst C (v := 1) dX3_earlier_45 (by decide) ?_
        refine g_goto C 50 dX3_earlier_46 (by decide) ?_
        exact g_zret C hr rfl dX3_earlier_50 (by decide) (by decide) ⟨by simp [earlB, bI, c12, c27, c42], rfl⟩

set_option maxHeartbeats 4000000 in
set_option maxRecDepth 100000 in
theorem c_X3_isOf (l : Launch) (G : hD) (w : hW) (mo : Nat) (M : Nat → Nat) (n : Nat) (I : Nat → Nat → Int32) (B : Nat → Nat → Bool) (thr ord mny : Int32) (hR : MR G mo M n I B thr ord mny w) (d t : Nat) (th so : Int32) (hd : d < 6) (ht : t < 120) : h_Met l yX3_isOf (Cond.code yX3_isOf cX3_isOf 5 (some .boolean)) { frames := 0, cells := 0, slots := 0, locals := 0 } G [.ref mo, .int (nI d), .int (nI t), .int th, .int so] w (fun v w' => v = some (.int (bI (isOfB I B d t th so))) ∧ w' = w) noX := by
  refine h_met RX3 rfl (by decide) (Nat.le_of_ble_eq_true rfl) (cat_c (by first | rfl | exact rf_cat _) (cat_c (by first | rfl | exact rf_cat _) (cat_c (by first | rfl | exact rf_cat _) (cat_c (by first | rfl | exact rf_cat _) (cat_c (by first | rfl | exact rf_cat _) cat_n))))) ?_
  intro p e s m below meth c A C hnt hr hnm
  obtain ⟨hm, r0, r1, r2, r3, r4, r5, r6, r7, r8, r9, r10, r11, r12, hinj, hn⟩ := id hR
  first | refine g_aload_n C dX3_isOf_0 rfl rfl ?_ | refine g_aload_nN C dX3_isOf_0 rfl rfl ?_ | refine g_aload_nq C dX3_isOf_0 rfl rfl ?_
  refine g_get C dX3_isOf_1 hm rfl kw_X3 9 (by decide) kfX3_32 rfl rfl ?_
  refine g_bipush C (v := 120) dX3_isOf_4 (by decide) ?_
  refine g_iload_n C dX3_isOf_6 rfl rfl ?_
  refine g_imul C dX3_isOf_7 ?_
  refine g_iload_n C dX3_isOf_8 rfl rfl ?_
  refine g_iadd C dX3_isOf_9 ?_
  refine g_eq (ix120 d t) ?_
  refine g_zaldN C dX3_isOf_10 r7 (by omega) (by decide) ?_
  refine g_if_eq C 39 dX3_isOf_11 (by decide) (fun c11 => ?_) (fun c11 => ?_)
  · have c11 := bI_z.mp c11
    refine g_iconst C (v := 0) dX3_isOf_39 (by decide) ?_
    exact g_zret C hr rfl dX3_isOf_40 (by decide) (by decide) ⟨by simp [isOfB, bI, c11], rfl⟩
  · have c11 := bI_nz.mp c11
    first | refine g_aload_n C dX3_isOf_14 rfl rfl ?_ | refine g_aload_nN C dX3_isOf_14 rfl rfl ?_ | refine g_aload_nq C dX3_isOf_14 rfl rfl ?_
    refine g_get C dX3_isOf_15 hm rfl kw_X3 4 (by decide) kfX3_16 rfl rfl ?_
    refine g_iload_n C dX3_isOf_18 rfl rfl ?_
    refine g_ialdN C dX3_isOf_19 r2 ht (by decide) ?_
    refine g_iload C dX3_isOf_20 rfl ?_
    refine g_icmp_ne C 39 dX3_isOf_22 (by decide) (fun c22 => ?_) (fun c22 => ?_)
    · refine g_iconst C (v := 0) dX3_isOf_39 (by decide) ?_
      exact g_zret C hr rfl dX3_isOf_40 (by decide) (by decide) ⟨by simp [isOfB, bI, c11, c22], rfl⟩
    · first | refine g_aload_n C dX3_isOf_25 rfl rfl ?_ | refine g_aload_nN C dX3_isOf_25 rfl rfl ?_ | refine g_aload_nq C dX3_isOf_25 rfl rfl ?_
      refine g_get C dX3_isOf_26 hm rfl kw_X3 5 (by decide) kfX3_19 rfl rfl ?_
      refine g_iload_n C dX3_isOf_29 rfl rfl ?_
      refine g_ialdN C dX3_isOf_30 r3 ht (by decide) ?_
      refine g_iload_n C dX3_isOf_31 rfl rfl ?_
      refine g_icmp_ne C 39 dX3_isOf_32 (by decide) (fun c32 => ?_) (fun c32 => ?_)
      · refine g_iconst C (v := 0) dX3_isOf_39 (by decide) ?_
        exact g_zret C hr rfl dX3_isOf_40 (by decide) (by decide) ⟨by simp [isOfB, bI, c11, c22, c32], rfl⟩
      · refine g_iconst C (v := 1) dX3_isOf_35 (by decide) ?_
        refine g_goto C 40 dX3_isOf_36 (by decide) ?_
        exact g_zret C hr rfl dX3_isOf_40 (by decide) (by decide) ⟨by simp [isOfB, bI, c11, c22, c32], rfl⟩

