/-! small changes -/
def PC (s c a : Nat) : Prop := a = 1000 ∨ (s ≤ a ∧ a ≤ s + 22) ∨ (c ≤ a ∧ a ≤ c + 4) ∨ (1062 ≤ a ∧ a ≤ 1067) ∨ (1068 ≤ a ∧ a < 1298)
def FrC (s c : Nat) (μ μ1 : Mu) : Prop := Fr (PC s c) μ μ1 ∧ ∀ k, k ≠ 3 → k ≠ 4 → mI μ1 1000 k = mI μ 1000 k
def PM (a : Nat) : Prop := a = 1298 ∨ a = 1302 ∨ a = 1304 ∨ a = 1305 ∨ a = 1306 ∨ a = 1307
def FrM (μ μ1 : Mu) : Prop := Fr PM μ μ1 ∧ ∀ k, k ≠ 0 → k ≠ 8 → k ≠ 12 → k ≠ 13 → mI μ1 1298 k = mI μ 1298 k
theorem upd_s {f : Nat → Int32} {k : Nat} {x : Int32} : upd f k x k = x := if_pos rfl
theorem upd_n {f : Nat → Int32} {k j : Nat} {x : Int32} (h : j ≠ k) : upd f k x j = f j := if_neg h
def gOp (σ : Nat) : Nat := if σ ≤ 1 then 10000 else 16
section Small
variable {d : Nat} {Q : Po} {μ : Mu} {s c m n q i j k t z u σ : Nat} {x y g v w o : Int32} {r tn : Nat → Int32} {pr : Nat → Nat → Int32}
theorem s_157 (h : σ < 6) : Ev (d + 1) 157 [.int (nI σ)] μ Q = Q (some (some (.int (nI (gOp σ - 1))))) μ := by
  rw [in_157]
  rcases (by omega : σ = 0 ∨ σ = 1 ∨ σ = 2 ∨ σ = 3 ∨ σ = 4 ∨ σ = 5) with rfl | rfl | rfl | rfl | rfl | rfl <;> simp (disch := first | omega | rfl) only [e_157_0, e_157_1, e_157_4, e_157_5, e_157_6, e_157_9, e_157_12, e_157_15, e_157_17, ge1, ule_t, true_or, or_true, nI_add, nI_mul, nI_sub, nI_clamp, nI_lt_t, nI_lt_f, nI_le_t, nI_le_f, nI_eq_t, nI_eq_f, vp_nI, tI, fI, not_true, not_false_iff, true_and, and_true, Classical.not_not] <;> rfl
theorem gOp_le (σ : Nat) : gOp σ ≤ 10000 ∧ 16 ≤ gOp σ := by unfold gOp; split <;> omega
theorem c_140a (hW : ShR μ s c) (hB : RelB μ s r) (hO : okR r) (hx : bad x (nM r)) : Ev (d + 4) 140 [.ref 1000, .int x, .int y, .int v, .int w] μ Q = Q (some (some (.int (-1)))) μ := by
  have hW0 := hW
  obtain ⟨w0, w1, w2, w3, w4, w5, w6, w7, w8, w9, w10, w11, w12, w13, w14, w15⟩ := hW
  have hS0 := w12
  obtain ⟨q0, q1, q2, q3, q4, q5, q6, q7, q8, q9, q10, q11, q12, q13, q14, q15⟩ := w12
  have hB9 := hB
  obtain ⟨b1, b2, b3, b4, b5, b6, b7, b8⟩ := hB
  have hO0 := hO
  obtain ⟨o2, o6, o387, oT, o1708, oO, o1741, oF, o1, oq1, oq6, o0, ol1, ol40, oV, oN1, oP1, oF1⟩ := hO
  have hn : mI μ s 1 = nI (nM r) := b1.trans o2
  have hq9 : mI μ (s + 2) 1 = nI (nQ r) := b6.trans o1
  have hV := b7.ok' oV
  rw [in_140]
  simp (disch := first | omega | rfl) only [e_140_0, e_140_1, e_140_2, e_140_5, e_140_8, e_140_9, e_140_10, e_140_11, e_140_12, e_140_13, e_140_16, e_140_19, e_140_20, e_140_23, e_140_26, e_140_28, e_140_29, e_140_30, e_140_33, e_140_36, e_140_39, e_140_41, e_140_42, e_140_43, e_140_46, e_140_49, e_140_50, e_140_51, e_140_54, e_140_57, e_140_59, e_140_60, e_140_61, e_140_64, e_140_67, e_140_69, e_140_72, e_140_74, e_140_75, e_140_76, e_140_79, e_140_80, e_140_83, e_140_84, e_140_87, e_140_88, e_140_89, e_140_90, e_140_92, e_140_95, e_140_96, e_140_99, e_140_102, w0, w1, w2, w3, w4, w5, w6, w7, w8, w9, w10, q1, q2, q3, q4, q5, q6, q7, q8, q9, q10, q11, q12, q13, q14, q15, b1, b2, b3, b4, b5, b6, o2, o387, o1708, o1741, o1, o0, ge1, ule_t, true_or, or_true, nI_add, nI_mul, nI_sub, nI_clamp, nI_lt_t, nI_lt_f, nI_le_t, nI_le_f, nI_eq_t, nI_eq_f, vp_nI, tI, fI, not_true, not_false_iff, true_and, and_true, Classical.not_not, mS_uI, mS_uA, mS_uJ, mS_uR, mS_uX, mR_uI, mR_uA, mR_uJ, mR_uX, mX_uI, mX_uA, mX_uJ, mX_uR, mI_s, mI_n, mI_A, mI_An, mI_uJ, mI_uR, mI_uX, mJ_uI, mJ_uA, mJ_uR, mJ_uX, onR_s, kC_v, kC_n, kC_t, ul0, ula1, ula2, ula3, ula4, ulb2, ulb3, ulb4, ulc2, ulc3, ulc4, ule4, ulf3, ulf4, c_149f hW0 hB9 hO0 hx]
theorem c_140b (hW : ShR μ s c) (hB : RelB μ s r) (hO : okR r) (hm : m < nM r) (hx : bad x 6) : Ev (d + 4) 140 [.ref 1000, .int (nI m), .int x, .int v, .int w] μ Q = Q (some (some (.int (-2)))) μ := by
  have hW0 := hW
  obtain ⟨w0, w1, w2, w3, w4, w5, w6, w7, w8, w9, w10, w11, w12, w13, w14, w15⟩ := hW
  have hS0 := w12
  obtain ⟨q0, q1, q2, q3, q4, q5, q6, q7, q8, q9, q10, q11, q12, q13, q14, q15⟩ := w12
  have hB9 := hB
  obtain ⟨b1, b2, b3, b4, b5, b6, b7, b8⟩ := hB
  have hO0 := hO
  obtain ⟨o2, o6, o387, oT, o1708, oO, o1741, oF, o1, oq1, oq6, o0, ol1, ol40, oV, oN1, oP1, oF1⟩ := hO
  have hn : mI μ s 1 = nI (nM r) := b1.trans o2
  have hq9 : mI μ (s + 2) 1 = nI (nQ r) := b6.trans o1
  have hV := b7.ok' oV
  rw [in_140]
  simp (disch := first | omega | rfl) only [e_140_0, e_140_1, e_140_2, e_140_5, e_140_8, e_140_9, e_140_10, e_140_11, e_140_12, e_140_13, e_140_16, e_140_19, e_140_20, e_140_23, e_140_26, e_140_28, e_140_29, e_140_30, e_140_33, e_140_36, e_140_39, e_140_41, e_140_42, e_140_43, e_140_46, e_140_49, e_140_50, e_140_51, e_140_54, e_140_57, e_140_59, e_140_60, e_140_61, e_140_64, e_140_67, e_140_69, e_140_72, e_140_74, e_140_75, e_140_76, e_140_79, e_140_80, e_140_83, e_140_84, e_140_87, e_140_88, e_140_89, e_140_90, e_140_92, e_140_95, e_140_96, e_140_99, e_140_102, w0, w1, w2, w3, w4, w5, w6, w7, w8, w9, w10, q1, q2, q3, q4, q5, q6, q7, q8, q9, q10, q11, q12, q13, q14, q15, b1, b2, b3, b4, b5, b6, o2, o387, o1708, o1741, o1, o0, ge1, ule_t, true_or, or_true, nI_add, nI_mul, nI_sub, nI_clamp, nI_lt_t, nI_lt_f, nI_le_t, nI_le_f, nI_eq_t, nI_eq_f, vp_nI, tI, fI, not_true, not_false_iff, true_and, and_true, Classical.not_not, mS_uI, mS_uA, mS_uJ, mS_uR, mS_uX, mR_uI, mR_uA, mR_uJ, mR_uX, mX_uI, mX_uA, mX_uJ, mX_uR, mI_s, mI_n, mI_A, mI_An, mI_uJ, mI_uR, mI_uX, mJ_uI, mJ_uA, mJ_uR, mJ_uX, onR_s, kC_v, kC_n, kC_t, ul0, ula1, ula2, ula3, ula4, ulb2, ulb3, ulb4, ulc2, ulc3, ulc4, ule4, ulf3, ulf4, c_149t hW0 hB9 hO0 hm, s_155, bad_ik hx (show 6 = 5 + 1 by omega) (by omega), bI_F]
theorem c_140c (hW : ShR μ s c) (hB : RelB μ s r) (hO : okR r) (hm : m < nM r) (hσ : σ < 6) (hx : bad x 16) : Ev (d + 4) 140 [.ref 1000, .int (nI m), .int (nI σ), .int x, .int w] μ Q = Q (some (some (.int (-2)))) μ := by
  have hW0 := hW
  obtain ⟨w0, w1, w2, w3, w4, w5, w6, w7, w8, w9, w10, w11, w12, w13, w14, w15⟩ := hW
  have hS0 := w12
  obtain ⟨q0, q1, q2, q3, q4, q5, q6, q7, q8, q9, q10, q11, q12, q13, q14, q15⟩ := w12
  have hB9 := hB
  obtain ⟨b1, b2, b3, b4, b5, b6, b7, b8⟩ := hB
  have hO0 := hO
  obtain ⟨o2, o6, o387, oT, o1708, oO, o1741, oF, o1, oq1, oq6, o0, ol1, ol40, oV, oN1, oP1, oF1⟩ := hO
  have hn : mI μ s 1 = nI (nM r) := b1.trans o2
  have hq9 : mI μ (s + 2) 1 = nI (nQ r) := b6.trans o1
  have hV := b7.ok' oV
  rw [in_140]
  simp (disch := first | omega | rfl) only [e_140_0, e_140_1, e_140_2, e_140_5, e_140_8, e_140_9, e_140_10, e_140_11, e_140_12, e_140_13, e_140_16, e_140_19, e_140_20, e_140_23, e_140_26, e_140_28, e_140_29, e_140_30, e_140_33, e_140_36, e_140_39, e_140_41, e_140_42, e_140_43, e_140_46, e_140_49, e_140_50, e_140_51, e_140_54, e_140_57, e_140_59, e_140_60, e_140_61, e_140_64, e_140_67, e_140_69, e_140_72, e_140_74, e_140_75, e_140_76, e_140_79, e_140_80, e_140_83, e_140_84, e_140_87, e_140_88, e_140_89, e_140_90, e_140_92, e_140_95, e_140_96, e_140_99, e_140_102, w0, w1, w2, w3, w4, w5, w6, w7, w8, w9, w10, q1, q2, q3, q4, q5, q6, q7, q8, q9, q10, q11, q12, q13, q14, q15, b1, b2, b3, b4, b5, b6, o2, o387, o1708, o1741, o1, o0, ge1, ule_t, true_or, or_true, nI_add, nI_mul, nI_sub, nI_clamp, nI_lt_t, nI_lt_f, nI_le_t, nI_le_f, nI_eq_t, nI_eq_f, vp_nI, tI, fI, not_true, not_false_iff, true_and, and_true, Classical.not_not, mS_uI, mS_uA, mS_uJ, mS_uR, mS_uX, mR_uI, mR_uA, mR_uJ, mR_uX, mX_uI, mX_uA, mX_uJ, mX_uR, mI_s, mI_n, mI_A, mI_An, mI_uJ, mI_uR, mI_uX, mJ_uI, mJ_uA, mJ_uR, mJ_uX, onR_s, kC_v, kC_n, kC_t, ul0, ula1, ula2, ula3, ula4, ulb2, ulb3, ulb4, ulc2, ulc3, ulc4, ule4, ulf3, ulf4, c_149t hW0 hB9 hO0 hm, s_155, good_ik (show σ ≤ 5 by omega) (by omega), bI_T, s_153, bad_ik hx (show 16 = 15 + 1 by omega) (by omega), bI_F]
theorem c_140d (hW : ShR μ s c) (hB : RelB μ s r) (hO : okR r) (hm : m < nM r) (hσ : σ < 6) (hi : i < 16) (hx : bad x (gOp σ)) : Ev (d + 4) 140 [.ref 1000, .int (nI m), .int (nI σ), .int (nI i), .int x] μ Q = Q (some (some (.int (-2)))) μ := by
  have hW0 := hW
  obtain ⟨w0, w1, w2, w3, w4, w5, w6, w7, w8, w9, w10, w11, w12, w13, w14, w15⟩ := hW
  have hS0 := w12
  obtain ⟨q0, q1, q2, q3, q4, q5, q6, q7, q8, q9, q10, q11, q12, q13, q14, q15⟩ := w12
  have hB9 := hB
  obtain ⟨b1, b2, b3, b4, b5, b6, b7, b8⟩ := hB
  have hO0 := hO
  obtain ⟨o2, o6, o387, oT, o1708, oO, o1741, oF, o1, oq1, oq6, o0, ol1, ol40, oV, oN1, oP1, oF1⟩ := hO
  have hn : mI μ s 1 = nI (nM r) := b1.trans o2
  have hq9 : mI μ (s + 2) 1 = nI (nQ r) := b6.trans o1
  have hV := b7.ok' oV
  have hg := gOp_le σ
  rw [in_140]
  simp (disch := first | omega | rfl) only [e_140_0, e_140_1, e_140_2, e_140_5, e_140_8, e_140_9, e_140_10, e_140_11, e_140_12, e_140_13, e_140_16, e_140_19, e_140_20, e_140_23, e_140_26, e_140_28, e_140_29, e_140_30, e_140_33, e_140_36, e_140_39, e_140_41, e_140_42, e_140_43, e_140_46, e_140_49, e_140_50, e_140_51, e_140_54, e_140_57, e_140_59, e_140_60, e_140_61, e_140_64, e_140_67, e_140_69, e_140_72, e_140_74, e_140_75, e_140_76, e_140_79, e_140_80, e_140_83, e_140_84, e_140_87, e_140_88, e_140_89, e_140_90, e_140_92, e_140_95, e_140_96, e_140_99, e_140_102, w0, w1, w2, w3, w4, w5, w6, w7, w8, w9, w10, q1, q2, q3, q4, q5, q6, q7, q8, q9, q10, q11, q12, q13, q14, q15, b1, b2, b3, b4, b5, b6, o2, o387, o1708, o1741, o1, o0, ge1, ule_t, true_or, or_true, nI_add, nI_mul, nI_sub, nI_clamp, nI_lt_t, nI_lt_f, nI_le_t, nI_le_f, nI_eq_t, nI_eq_f, vp_nI, tI, fI, not_true, not_false_iff, true_and, and_true, Classical.not_not, mS_uI, mS_uA, mS_uJ, mS_uR, mS_uX, mR_uI, mR_uA, mR_uJ, mR_uX, mX_uI, mX_uA, mX_uJ, mX_uR, mI_s, mI_n, mI_A, mI_An, mI_uJ, mI_uR, mI_uX, mJ_uI, mJ_uA, mJ_uR, mJ_uX, onR_s, kC_v, kC_n, kC_t, ul0, ula1, ula2, ula3, ula4, ulb2, ulb3, ulb4, ulc2, ulc3, ulc4, ule4, ulf3, ulf4, c_149t hW0 hB9 hO0 hm, s_155, good_ik (show σ ≤ 5 by omega) (by omega), bI_T, s_153, good_ik (show i ≤ 15 by omega) (by omega), s_157 hσ, bad_ik hx (show gOp σ = gOp σ - 1 + 1 by omega) (by omega), bI_F]
theorem c_140e (hW : ShR μ s c) (hB : RelB μ s r) (hO : okR r) (hm : m < nM r) (hσ : σ < 6) (hi : i < 16) (hk : k < gOp σ) (ha : rW r m 2 = nI 0) : Ev (d + 4) 140 [.ref 1000, .int (nI m), .int (nI σ), .int (nI i), .int (nI k)] μ Q = Q (some (some (.int (-4)))) μ := by
  have hW0 := hW
  obtain ⟨w0, w1, w2, w3, w4, w5, w6, w7, w8, w9, w10, w11, w12, w13, w14, w15⟩ := hW
  have hS0 := w12
  obtain ⟨q0, q1, q2, q3, q4, q5, q6, q7, q8, q9, q10, q11, q12, q13, q14, q15⟩ := w12
  have hB9 := hB
  obtain ⟨b1, b2, b3, b4, b5, b6, b7, b8⟩ := hB
  have hO0 := hO
  obtain ⟨o2, o6, o387, oT, o1708, oO, o1741, oF, o1, oq1, oq6, o0, ol1, ol40, oV, oN1, oP1, oF1⟩ := hO
  have hn : mI μ s 1 = nI (nM r) := b1.trans o2
  have hq9 : mI μ (s + 2) 1 = nI (nQ r) := b6.trans o1
  have hV := b7.ok' oV
  have hg := gOp_le σ
  rw [in_140]
  simp (disch := first | omega | rfl) only [e_140_0, e_140_1, e_140_2, e_140_5, e_140_8, e_140_9, e_140_10, e_140_11, e_140_12, e_140_13, e_140_16, e_140_19, e_140_20, e_140_23, e_140_26, e_140_28, e_140_29, e_140_30, e_140_33, e_140_36, e_140_39, e_140_41, e_140_42, e_140_43, e_140_46, e_140_49, e_140_50, e_140_51, e_140_54, e_140_57, e_140_59, e_140_60, e_140_61, e_140_64, e_140_67, e_140_69, e_140_72, e_140_74, e_140_75, e_140_76, e_140_79, e_140_80, e_140_83, e_140_84, e_140_87, e_140_88, e_140_89, e_140_90, e_140_92, e_140_95, e_140_96, e_140_99, e_140_102, w0, w1, w2, w3, w4, w5, w6, w7, w8, w9, w10, q1, q2, q3, q4, q5, q6, q7, q8, q9, q10, q11, q12, q13, q14, q15, b1, b2, b3, b4, b5, b6, o2, o387, o1708, o1741, o1, o0, ge1, ule_t, true_or, or_true, nI_add, nI_mul, nI_sub, nI_clamp, nI_lt_t, nI_lt_f, nI_le_t, nI_le_f, nI_eq_t, nI_eq_f, vp_nI, tI, fI, not_true, not_false_iff, true_and, and_true, Classical.not_not, mS_uI, mS_uA, mS_uJ, mS_uR, mS_uX, mR_uI, mR_uA, mR_uJ, mR_uX, mX_uI, mX_uA, mX_uJ, mX_uR, mI_s, mI_n, mI_A, mI_An, mI_uJ, mI_uR, mI_uX, mJ_uI, mJ_uA, mJ_uR, mJ_uX, onR_s, kC_v, kC_n, kC_t, ul0, ula1, ula2, ula3, ula4, ulb2, ulb3, ulb4, ulc2, ulc3, ulc4, ule4, ulf3, ulf4, c_149t hW0 hB9 hO0 hm, s_155, good_ik (show σ ≤ 5 by omega) (by omega), bI_T, s_153, good_ik (show i ≤ 15 by omega) (by omega), s_157 hσ, good_ik (show k ≤ gOp σ - 1 by omega) (show gOp σ - 1 < 2147483648 by omega), cv0, cv1, cv2, cv3, cv4, cv5, cv6, cvrec, (b7 m hm).1 0 (by omega), (b7 m hm).1 1 (by omega), (b7 m hm).1 2 (by omega), (b7 m hm).1 3 (by omega), (b7 m hm).1 4 (by omega), (b7 m hm).1 5 (by omega), (b7 m hm).1 6 (by omega), ha]
theorem c_140f (hW : ShR μ s c) (hB : RelB μ s r) (hO : okR r) (hm : m < nM r) (hσ : σ < 6) (hi : i < 16) (hk : k < gOp σ) (ha : ¬ rW r m 2 = nI 0) (ho : nO r = 8) : Ev (d + 4) 140 [.ref 1000, .int (nI m), .int (nI σ), .int (nI i), .int (nI k)] μ Q = Q (some (some (.int (-3)))) μ := by
  have hW0 := hW
  obtain ⟨w0, w1, w2, w3, w4, w5, w6, w7, w8, w9, w10, w11, w12, w13, w14, w15⟩ := hW
  have hS0 := w12
  obtain ⟨q0, q1, q2, q3, q4, q5, q6, q7, q8, q9, q10, q11, q12, q13, q14, q15⟩ := w12
  have hB9 := hB
  obtain ⟨b1, b2, b3, b4, b5, b6, b7, b8⟩ := hB
  have hO0 := hO
  obtain ⟨o2, o6, o387, oT, o1708, oO, o1741, oF, o1, oq1, oq6, o0, ol1, ol40, oV, oN1, oP1, oF1⟩ := hO
  have hn : mI μ s 1 = nI (nM r) := b1.trans o2
  have hq9 : mI μ (s + 2) 1 = nI (nQ r) := b6.trans o1
  have hV := b7.ok' oV
  have hg := gOp_le σ
  rw [in_140]
  simp (disch := first | omega | rfl) only [e_140_0, e_140_1, e_140_2, e_140_5, e_140_8, e_140_9, e_140_10, e_140_11, e_140_12, e_140_13, e_140_16, e_140_19, e_140_20, e_140_23, e_140_26, e_140_28, e_140_29, e_140_30, e_140_33, e_140_36, e_140_39, e_140_41, e_140_42, e_140_43, e_140_46, e_140_49, e_140_50, e_140_51, e_140_54, e_140_57, e_140_59, e_140_60, e_140_61, e_140_64, e_140_67, e_140_69, e_140_72, e_140_74, e_140_75, e_140_76, e_140_79, e_140_80, e_140_83, e_140_84, e_140_87, e_140_88, e_140_89, e_140_90, e_140_92, e_140_95, e_140_96, e_140_99, e_140_102, w0, w1, w2, w3, w4, w5, w6, w7, w8, w9, w10, q1, q2, q3, q4, q5, q6, q7, q8, q9, q10, q11, q12, q13, q14, q15, b1, b2, b3, b4, b5, b6, o2, o387, o1708, o1741, o1, o0, ge1, ule_t, true_or, or_true, nI_add, nI_mul, nI_sub, nI_clamp, nI_lt_t, nI_lt_f, nI_le_t, nI_le_f, nI_eq_t, nI_eq_f, vp_nI, tI, fI, not_true, not_false_iff, true_and, and_true, Classical.not_not, mS_uI, mS_uA, mS_uJ, mS_uR, mS_uX, mR_uI, mR_uA, mR_uJ, mR_uX, mX_uI, mX_uA, mX_uJ, mX_uR, mI_s, mI_n, mI_A, mI_An, mI_uJ, mI_uR, mI_uX, mJ_uI, mJ_uA, mJ_uR, mJ_uX, onR_s, kC_v, kC_n, kC_t, ul0, ula1, ula2, ula3, ula4, ulb2, ulb3, ulb4, ulc2, ulc3, ulc4, ule4, ulf3, ulf4, c_149t hW0 hB9 hO0 hm, s_155, good_ik (show σ ≤ 5 by omega) (by omega), bI_T, s_153, good_ik (show i ≤ 15 by omega) (by omega), s_157 hσ, good_ik (show k ≤ gOp σ - 1 by omega) (show gOp σ - 1 < 2147483648 by omega), cv0, cv1, cv2, cv3, cv4, cv5, cv6, cvrec, (b7 m hm).1 0 (by omega), (b7 m hm).1 1 (by omega), (b7 m hm).1 2 (by omega), (b7 m hm).1 3 (by omega), (b7 m hm).1 4 (by omega), (b7 m hm).1 5 (by omega), (b7 m hm).1 6 (by omega), ha, ho]
theorem c_145a (hW : ShR μ s c) (hB : RelB μ s r) (hO : okR r) (hx : bad x (nM r)) : Ev (d + 4) 145 [.ref 1000, .int x, .int y, .int v, .int w] μ Q = Q (some (some (.int (-1)))) μ := by
  have hW0 := hW
  obtain ⟨w0, w1, w2, w3, w4, w5, w6, w7, w8, w9, w10, w11, w12, w13, w14, w15⟩ := hW
  have hS0 := w12
  obtain ⟨q0, q1, q2, q3, q4, q5, q6, q7, q8, q9, q10, q11, q12, q13, q14, q15⟩ := w12
  have hB9 := hB
  obtain ⟨b1, b2, b3, b4, b5, b6, b7, b8⟩ := hB
  have hO0 := hO
  obtain ⟨o2, o6, o387, oT, o1708, oO, o1741, oF, o1, oq1, oq6, o0, ol1, ol40, oV, oN1, oP1, oF1⟩ := hO
  have hn : mI μ s 1 = nI (nM r) := b1.trans o2
  have hq9 : mI μ (s + 2) 1 = nI (nQ r) := b6.trans o1
  have hV := b7.ok' oV
  rw [in_145]
  simp (disch := first | omega | rfl) only [e_145_0, e_145_1, e_145_2, e_145_5, e_145_8, e_145_9, e_145_10, e_145_11, e_145_12, e_145_14, e_145_17, e_145_20, e_145_21, e_145_24, e_145_27, e_145_29, e_145_30, e_145_33, e_145_36, e_145_39, e_145_41, e_145_42, e_145_43, e_145_46, e_145_49, e_145_50, e_145_51, e_145_54, e_145_57, e_145_58, e_145_59, e_145_62, e_145_65, e_145_66, e_145_67, e_145_70, e_145_73, e_145_75, e_145_76, e_145_77, e_145_80, e_145_83, e_145_86, e_145_88, e_145_91, e_145_93, e_145_94, e_145_95, e_145_98, e_145_99, e_145_102, e_145_105, e_145_106, e_145_107, e_145_108, e_145_110, e_145_113, e_145_114, e_145_117, e_145_120, e_145_123, w0, w1, w2, w3, w4, w5, w6, w7, w8, w9, w10, q1, q2, q3, q4, q5, q6, q7, q8, q9, q10, q11, q12, q13, q14, q15, b1, b2, b3, b4, b5, b6, o2, o387, o1708, o1741, o1, o0, ge1, ule_t, true_or, or_true, nI_add, nI_mul, nI_sub, nI_clamp, nI_lt_t, nI_lt_f, nI_le_t, nI_le_f, nI_eq_t, nI_eq_f, vp_nI, tI, fI, not_true, not_false_iff, true_and, and_true, Classical.not_not, mS_uI, mS_uA, mS_uJ, mS_uR, mS_uX, mR_uI, mR_uA, mR_uJ, mR_uX, mX_uI, mX_uA, mX_uJ, mX_uR, mI_s, mI_n, mI_A, mI_An, mI_uJ, mI_uR, mI_uX, mJ_uI, mJ_uA, mJ_uR, mJ_uX, onR_s, kC_v, kC_n, kC_t, ul0, ula1, ula2, ula3, ula4, ulb2, ulb3, ulb4, ulc2, ulc3, ulc4, ule4, ulf3, ulf4, c_149f hW0 hB9 hO0 hx]
theorem c_145b (hW : ShR μ s c) (hB : RelB μ s r) (hO : okR r) (hm : m < nM r) (hx : bad x 40) : Ev (d + 4) 145 [.ref 1000, .int (nI m), .int x, .int v, .int w] μ Q = Q (some (some (.int (-2)))) μ := by
  have hW0 := hW
  obtain ⟨w0, w1, w2, w3, w4, w5, w6, w7, w8, w9, w10, w11, w12, w13, w14, w15⟩ := hW
  have hS0 := w12
  obtain ⟨q0, q1, q2, q3, q4, q5, q6, q7, q8, q9, q10, q11, q12, q13, q14, q15⟩ := w12
  have hB9 := hB
  obtain ⟨b1, b2, b3, b4, b5, b6, b7, b8⟩ := hB
  have hO0 := hO
  obtain ⟨o2, o6, o387, oT, o1708, oO, o1741, oF, o1, oq1, oq6, o0, ol1, ol40, oV, oN1, oP1, oF1⟩ := hO
  have hn : mI μ s 1 = nI (nM r) := b1.trans o2
  have hq9 : mI μ (s + 2) 1 = nI (nQ r) := b6.trans o1
  have hV := b7.ok' oV
  rw [in_145]
  simp (disch := first | omega | rfl) only [e_145_0, e_145_1, e_145_2, e_145_5, e_145_8, e_145_9, e_145_10, e_145_11, e_145_12, e_145_14, e_145_17, e_145_20, e_145_21, e_145_24, e_145_27, e_145_29, e_145_30, e_145_33, e_145_36, e_145_39, e_145_41, e_145_42, e_145_43, e_145_46, e_145_49, e_145_50, e_145_51, e_145_54, e_145_57, e_145_58, e_145_59, e_145_62, e_145_65, e_145_66, e_145_67, e_145_70, e_145_73, e_145_75, e_145_76, e_145_77, e_145_80, e_145_83, e_145_86, e_145_88, e_145_91, e_145_93, e_145_94, e_145_95, e_145_98, e_145_99, e_145_102, e_145_105, e_145_106, e_145_107, e_145_108, e_145_110, e_145_113, e_145_114, e_145_117, e_145_120, e_145_123, w0, w1, w2, w3, w4, w5, w6, w7, w8, w9, w10, q1, q2, q3, q4, q5, q6, q7, q8, q9, q10, q11, q12, q13, q14, q15, b1, b2, b3, b4, b5, b6, o2, o387, o1708, o1741, o1, o0, ge1, ule_t, true_or, or_true, nI_add, nI_mul, nI_sub, nI_clamp, nI_lt_t, nI_lt_f, nI_le_t, nI_le_f, nI_eq_t, nI_eq_f, vp_nI, tI, fI, not_true, not_false_iff, true_and, and_true, Classical.not_not, mS_uI, mS_uA, mS_uJ, mS_uR, mS_uX, mR_uI, mR_uA, mR_uJ, mR_uX, mX_uI, mX_uA, mX_uJ, mX_uR, mI_s, mI_n, mI_A, mI_An, mI_uJ, mI_uR, mI_uX, mJ_uI, mJ_uA, mJ_uR, mJ_uX, onR_s, kC_v, kC_n, kC_t, ul0, ula1, ula2, ula3, ula4, ulb2, ulb3, ulb4, ulc2, ulc3, ulc4, ule4, ulf3, ulf4, c_149t hW0 hB9 hO0 hm, s_155, bad_ik hx (show 40 = 39 + 1 by omega) (by omega), bI_F]
theorem c_145c (hW : ShR μ s c) (hB : RelB μ s r) (hO : okR r) (hm : m < nM r) (ht : t < 40) (hx : bad x 16) : Ev (d + 4) 145 [.ref 1000, .int (nI m), .int (nI t), .int x, .int w] μ Q = Q (some (some (.int (-2)))) μ := by
  have hW0 := hW
  obtain ⟨w0, w1, w2, w3, w4, w5, w6, w7, w8, w9, w10, w11, w12, w13, w14, w15⟩ := hW
  have hS0 := w12
  obtain ⟨q0, q1, q2, q3, q4, q5, q6, q7, q8, q9, q10, q11, q12, q13, q14, q15⟩ := w12
  have hB9 := hB
  obtain ⟨b1, b2, b3, b4, b5, b6, b7, b8⟩ := hB
  have hO0 := hO
  obtain ⟨o2, o6, o387, oT, o1708, oO, o1741, oF, o1, oq1, oq6, o0, ol1, ol40, oV, oN1, oP1, oF1⟩ := hO
  have hn : mI μ s 1 = nI (nM r) := b1.trans o2
  have hq9 : mI μ (s + 2) 1 = nI (nQ r) := b6.trans o1
  have hV := b7.ok' oV
  rw [in_145]
  simp (disch := first | omega | rfl) only [e_145_0, e_145_1, e_145_2, e_145_5, e_145_8, e_145_9, e_145_10, e_145_11, e_145_12, e_145_14, e_145_17, e_145_20, e_145_21, e_145_24, e_145_27, e_145_29, e_145_30, e_145_33, e_145_36, e_145_39, e_145_41, e_145_42, e_145_43, e_145_46, e_145_49, e_145_50, e_145_51, e_145_54, e_145_57, e_145_58, e_145_59, e_145_62, e_145_65, e_145_66, e_145_67, e_145_70, e_145_73, e_145_75, e_145_76, e_145_77, e_145_80, e_145_83, e_145_86, e_145_88, e_145_91, e_145_93, e_145_94, e_145_95, e_145_98, e_145_99, e_145_102, e_145_105, e_145_106, e_145_107, e_145_108, e_145_110, e_145_113, e_145_114, e_145_117, e_145_120, e_145_123, w0, w1, w2, w3, w4, w5, w6, w7, w8, w9, w10, q1, q2, q3, q4, q5, q6, q7, q8, q9, q10, q11, q12, q13, q14, q15, b1, b2, b3, b4, b5, b6, o2, o387, o1708, o1741, o1, o0, ge1, ule_t, true_or, or_true, nI_add, nI_mul, nI_sub, nI_clamp, nI_lt_t, nI_lt_f, nI_le_t, nI_le_f, nI_eq_t, nI_eq_f, vp_nI, tI, fI, not_true, not_false_iff, true_and, and_true, Classical.not_not, mS_uI, mS_uA, mS_uJ, mS_uR, mS_uX, mR_uI, mR_uA, mR_uJ, mR_uX, mX_uI, mX_uA, mX_uJ, mX_uR, mI_s, mI_n, mI_A, mI_An, mI_uJ, mI_uR, mI_uX, mJ_uI, mJ_uA, mJ_uR, mJ_uX, onR_s, kC_v, kC_n, kC_t, ul0, ula1, ula2, ula3, ula4, ulb2, ulb3, ulb4, ulc2, ulc3, ulc4, ule4, ulf3, ulf4, c_149t hW0 hB9 hO0 hm, s_155, good_ik (show t ≤ 39 by omega) (by omega), bI_T, s_153, bad_ik hx (show 16 = 15 + 1 by omega) (by omega), bI_F]
theorem c_145d (hW : ShR μ s c) (hB : RelB μ s r) (hO : okR r) (hm : m < nM r) (ht : t < 40) (hi : i < 16) (hx : ¬ (nI 1 ≤ x ∧ x ≤ nI 9999)) : Ev (d + 4) 145 [.ref 1000, .int (nI m), .int (nI t), .int (nI i), .int x] μ Q = Q (some (some (.int (-2)))) μ := by
  have hW0 := hW
  obtain ⟨w0, w1, w2, w3, w4, w5, w6, w7, w8, w9, w10, w11, w12, w13, w14, w15⟩ := hW
  have hS0 := w12
  obtain ⟨q0, q1, q2, q3, q4, q5, q6, q7, q8, q9, q10, q11, q12, q13, q14, q15⟩ := w12
  have hB9 := hB
  obtain ⟨b1, b2, b3, b4, b5, b6, b7, b8⟩ := hB
  have hO0 := hO
  obtain ⟨o2, o6, o387, oT, o1708, oO, o1741, oF, o1, oq1, oq6, o0, ol1, ol40, oV, oN1, oP1, oF1⟩ := hO
  have hn : mI μ s 1 = nI (nM r) := b1.trans o2
  have hq9 : mI μ (s + 2) 1 = nI (nQ r) := b6.trans o1
  have hV := b7.ok' oV
  rw [in_145]
  simp (disch := first | omega | rfl) only [e_145_0, e_145_1, e_145_2, e_145_5, e_145_8, e_145_9, e_145_10, e_145_11, e_145_12, e_145_14, e_145_17, e_145_20, e_145_21, e_145_24, e_145_27, e_145_29, e_145_30, e_145_33, e_145_36, e_145_39, e_145_41, e_145_42, e_145_43, e_145_46, e_145_49, e_145_50, e_145_51, e_145_54, e_145_57, e_145_58, e_145_59, e_145_62, e_145_65, e_145_66, e_145_67, e_145_70, e_145_73, e_145_75, e_145_76, e_145_77, e_145_80, e_145_83, e_145_86, e_145_88, e_145_91, e_145_93, e_145_94, e_145_95, e_145_98, e_145_99, e_145_102, e_145_105, e_145_106, e_145_107, e_145_108, e_145_110, e_145_113, e_145_114, e_145_117, e_145_120, e_145_123, w0, w1, w2, w3, w4, w5, w6, w7, w8, w9, w10, q1, q2, q3, q4, q5, q6, q7, q8, q9, q10, q11, q12, q13, q14, q15, b1, b2, b3, b4, b5, b6, o2, o387, o1708, o1741, o1, o0, ge1, ule_t, true_or, or_true, nI_add, nI_mul, nI_sub, nI_clamp, nI_lt_t, nI_lt_f, nI_le_t, nI_le_f, nI_eq_t, nI_eq_f, vp_nI, tI, fI, not_true, not_false_iff, true_and, and_true, Classical.not_not, mS_uI, mS_uA, mS_uJ, mS_uR, mS_uX, mR_uI, mR_uA, mR_uJ, mR_uX, mX_uI, mX_uA, mX_uJ, mX_uR, mI_s, mI_n, mI_A, mI_An, mI_uJ, mI_uR, mI_uX, mJ_uI, mJ_uA, mJ_uR, mJ_uX, onR_s, kC_v, kC_n, kC_t, ul0, ula1, ula2, ula3, ula4, ulb2, ulb3, ulb4, ulc2, ulc3, ulc4, ule4, ulf3, ulf4, c_149t hW0 hB9 hO0 hm, s_155, good_ik (show t ≤ 39 by omega) (by omega), bI_T, s_153, good_ik (show i ≤ 15 by omega) (by omega), bI_fi hx]
theorem c_145e (hW : ShR μ s c) (hB : RelB μ s r) (hO : okR r) (hm : m < nM r) (ht : t < 40) (hi : i < 16) (hk1 : 1 ≤ k) (hk : k < 10000) (ha : rW r m 2 = nI 0) : Ev (d + 4) 145 [.ref 1000, .int (nI m), .int (nI t), .int (nI i), .int (nI k)] μ Q = Q (some (some (.int (-4)))) μ := by
  have hW0 := hW
  obtain ⟨w0, w1, w2, w3, w4, w5, w6, w7, w8, w9, w10, w11, w12, w13, w14, w15⟩ := hW
  have hS0 := w12
  obtain ⟨q0, q1, q2, q3, q4, q5, q6, q7, q8, q9, q10, q11, q12, q13, q14, q15⟩ := w12
  have hB9 := hB
  obtain ⟨b1, b2, b3, b4, b5, b6, b7, b8⟩ := hB
  have hO0 := hO
  obtain ⟨o2, o6, o387, oT, o1708, oO, o1741, oF, o1, oq1, oq6, o0, ol1, ol40, oV, oN1, oP1, oF1⟩ := hO
  have hn : mI μ s 1 = nI (nM r) := b1.trans o2
  have hq9 : mI μ (s + 2) 1 = nI (nQ r) := b6.trans o1
  have hV := b7.ok' oV
  have hg : nI 1 ≤ nI k ∧ nI k ≤ nI 9999 := ⟨nI_le hk1 (by omega), nI_le (by omega) (by omega)⟩
  have vE := okBE oV hm
  rw [in_145]
  simp (disch := first | omega | rfl) only [e_145_0, e_145_1, e_145_2, e_145_5, e_145_8, e_145_9, e_145_10, e_145_11, e_145_12, e_145_14, e_145_17, e_145_20, e_145_21, e_145_24, e_145_27, e_145_29, e_145_30, e_145_33, e_145_36, e_145_39, e_145_41, e_145_42, e_145_43, e_145_46, e_145_49, e_145_50, e_145_51, e_145_54, e_145_57, e_145_58, e_145_59, e_145_62, e_145_65, e_145_66, e_145_67, e_145_70, e_145_73, e_145_75, e_145_76, e_145_77, e_145_80, e_145_83, e_145_86, e_145_88, e_145_91, e_145_93, e_145_94, e_145_95, e_145_98, e_145_99, e_145_102, e_145_105, e_145_106, e_145_107, e_145_108, e_145_110, e_145_113, e_145_114, e_145_117, e_145_120, e_145_123, w0, w1, w2, w3, w4, w5, w6, w7, w8, w9, w10, q1, q2, q3, q4, q5, q6, q7, q8, q9, q10, q11, q12, q13, q14, q15, b1, b2, b3, b4, b5, b6, o2, o387, o1708, o1741, o1, o0, ge1, ule_t, true_or, or_true, nI_add, nI_mul, nI_sub, nI_clamp, nI_lt_t, nI_lt_f, nI_le_t, nI_le_f, nI_eq_t, nI_eq_f, vp_nI, tI, fI, not_true, not_false_iff, true_and, and_true, Classical.not_not, mS_uI, mS_uA, mS_uJ, mS_uR, mS_uX, mR_uI, mR_uA, mR_uJ, mR_uX, mX_uI, mX_uA, mX_uJ, mX_uR, mI_s, mI_n, mI_A, mI_An, mI_uJ, mI_uR, mI_uX, mJ_uI, mJ_uA, mJ_uR, mJ_uX, onR_s, kC_v, kC_n, kC_t, ul0, ula1, ula2, ula3, ula4, ulb2, ulb3, ulb4, ulc2, ulc3, ulc4, ule4, ulf3, ulf4, c_149t hW0 hB9 hO0 hm, s_155, good_ik (show t ≤ 39 by omega) (by omega), bI_T, s_153, good_ik (show i ≤ 15 by omega) (by omega), bI_ti hg, cv0, cv1, cv2, cv3, cv4, cv5, cv6, cvrec, (b7 m hm).1 0 (by omega), (b7 m hm).1 1 (by omega), (b7 m hm).1 2 (by omega), (b7 m hm).1 3 (by omega), (b7 m hm).1 4 (by omega), (b7 m hm).1 5 (by omega), (b7 m hm).1 6 (by omega), vE.2.1, ha]
theorem c_145g (hW : ShR μ s c) (hB : RelB μ s r) (hO : okR r) (hm : m < nM r) (ht : t < 40) (hi : i < 16) (hk1 : 1 ≤ k) (hk : k < 10000) (ha : ¬ rW r m 2 = nI 0) (he : t < nE (rW r) m) : Ev (d + 4) 145 [.ref 1000, .int (nI m), .int (nI t), .int (nI i), .int (nI k)] μ Q = Q (some (some (.int (-4)))) μ := by
  have hW0 := hW
  obtain ⟨w0, w1, w2, w3, w4, w5, w6, w7, w8, w9, w10, w11, w12, w13, w14, w15⟩ := hW
  have hS0 := w12
  obtain ⟨q0, q1, q2, q3, q4, q5, q6, q7, q8, q9, q10, q11, q12, q13, q14, q15⟩ := w12
  have hB9 := hB
  obtain ⟨b1, b2, b3, b4, b5, b6, b7, b8⟩ := hB
  have hO0 := hO
  obtain ⟨o2, o6, o387, oT, o1708, oO, o1741, oF, o1, oq1, oq6, o0, ol1, ol40, oV, oN1, oP1, oF1⟩ := hO
  have hn : mI μ s 1 = nI (nM r) := b1.trans o2
  have hq9 : mI μ (s + 2) 1 = nI (nQ r) := b6.trans o1
  have hV := b7.ok' oV
  have hg : nI 1 ≤ nI k ∧ nI k ≤ nI 9999 := ⟨nI_le hk1 (by omega), nI_le (by omega) (by omega)⟩
  have vE := okBE oV hm
  rw [in_145]
  simp (disch := first | omega | rfl) only [e_145_0, e_145_1, e_145_2, e_145_5, e_145_8, e_145_9, e_145_10, e_145_11, e_145_12, e_145_14, e_145_17, e_145_20, e_145_21, e_145_24, e_145_27, e_145_29, e_145_30, e_145_33, e_145_36, e_145_39, e_145_41, e_145_42, e_145_43, e_145_46, e_145_49, e_145_50, e_145_51, e_145_54, e_145_57, e_145_58, e_145_59, e_145_62, e_145_65, e_145_66, e_145_67, e_145_70, e_145_73, e_145_75, e_145_76, e_145_77, e_145_80, e_145_83, e_145_86, e_145_88, e_145_91, e_145_93, e_145_94, e_145_95, e_145_98, e_145_99, e_145_102, e_145_105, e_145_106, e_145_107, e_145_108, e_145_110, e_145_113, e_145_114, e_145_117, e_145_120, e_145_123, w0, w1, w2, w3, w4, w5, w6, w7, w8, w9, w10, q1, q2, q3, q4, q5, q6, q7, q8, q9, q10, q11, q12, q13, q14, q15, b1, b2, b3, b4, b5, b6, o2, o387, o1708, o1741, o1, o0, ge1, ule_t, true_or, or_true, nI_add, nI_mul, nI_sub, nI_clamp, nI_lt_t, nI_lt_f, nI_le_t, nI_le_f, nI_eq_t, nI_eq_f, vp_nI, tI, fI, not_true, not_false_iff, true_and, and_true, Classical.not_not, mS_uI, mS_uA, mS_uJ, mS_uR, mS_uX, mR_uI, mR_uA, mR_uJ, mR_uX, mX_uI, mX_uA, mX_uJ, mX_uR, mI_s, mI_n, mI_A, mI_An, mI_uJ, mI_uR, mI_uX, mJ_uI, mJ_uA, mJ_uR, mJ_uX, onR_s, kC_v, kC_n, kC_t, ul0, ula1, ula2, ula3, ula4, ulb2, ulb3, ulb4, ulc2, ulc3, ulc4, ule4, ulf3, ulf4, c_149t hW0 hB9 hO0 hm, s_155, good_ik (show t ≤ 39 by omega) (by omega), bI_T, s_153, good_ik (show i ≤ 15 by omega) (by omega), bI_ti hg, cv0, cv1, cv2, cv3, cv4, cv5, cv6, cvrec, (b7 m hm).1 0 (by omega), (b7 m hm).1 1 (by omega), (b7 m hm).1 2 (by omega), (b7 m hm).1 3 (by omega), (b7 m hm).1 4 (by omega), (b7 m hm).1 5 (by omega), (b7 m hm).1 6 (by omega), vE.2.1, ha]
theorem c_145f (hW : ShR μ s c) (hB : RelB μ s r) (hO : okR r) (hm : m < nM r) (ht : t < 40) (hi : i < 16) (hk1 : 1 ≤ k) (hk : k < 10000) (ha : ¬ rW r m 2 = nI 0) (he : nE (rW r) m ≤ t) (ho : nF r = 10) : Ev (d + 4) 145 [.ref 1000, .int (nI m), .int (nI t), .int (nI i), .int (nI k)] μ Q = Q (some (some (.int (-3)))) μ := by
  have hW0 := hW
  obtain ⟨w0, w1, w2, w3, w4, w5, w6, w7, w8, w9, w10, w11, w12, w13, w14, w15⟩ := hW
  have hS0 := w12
  obtain ⟨q0, q1, q2, q3, q4, q5, q6, q7, q8, q9, q10, q11, q12, q13, q14, q15⟩ := w12
  have hB9 := hB
  obtain ⟨b1, b2, b3, b4, b5, b6, b7, b8⟩ := hB
  have hO0 := hO
  obtain ⟨o2, o6, o387, oT, o1708, oO, o1741, oF, o1, oq1, oq6, o0, ol1, ol40, oV, oN1, oP1, oF1⟩ := hO
  have hn : mI μ s 1 = nI (nM r) := b1.trans o2
  have hq9 : mI μ (s + 2) 1 = nI (nQ r) := b6.trans o1
  have hV := b7.ok' oV
  have hg : nI 1 ≤ nI k ∧ nI k ≤ nI 9999 := ⟨nI_le hk1 (by omega), nI_le (by omega) (by omega)⟩
  have vE := okBE oV hm
  rw [in_145]
  simp (disch := first | omega | rfl) only [e_145_0, e_145_1, e_145_2, e_145_5, e_145_8, e_145_9, e_145_10, e_145_11, e_145_12, e_145_14, e_145_17, e_145_20, e_145_21, e_145_24, e_145_27, e_145_29, e_145_30, e_145_33, e_145_36, e_145_39, e_145_41, e_145_42, e_145_43, e_145_46, e_145_49, e_145_50, e_145_51, e_145_54, e_145_57, e_145_58, e_145_59, e_145_62, e_145_65, e_145_66, e_145_67, e_145_70, e_145_73, e_145_75, e_145_76, e_145_77, e_145_80, e_145_83, e_145_86, e_145_88, e_145_91, e_145_93, e_145_94, e_145_95, e_145_98, e_145_99, e_145_102, e_145_105, e_145_106, e_145_107, e_145_108, e_145_110, e_145_113, e_145_114, e_145_117, e_145_120, e_145_123, w0, w1, w2, w3, w4, w5, w6, w7, w8, w9, w10, q1, q2, q3, q4, q5, q6, q7, q8, q9, q10, q11, q12, q13, q14, q15, b1, b2, b3, b4, b5, b6, o2, o387, o1708, o1741, o1, o0, ge1, ule_t, true_or, or_true, nI_add, nI_mul, nI_sub, nI_clamp, nI_lt_t, nI_lt_f, nI_le_t, nI_le_f, nI_eq_t, nI_eq_f, vp_nI, tI, fI, not_true, not_false_iff, true_and, and_true, Classical.not_not, mS_uI, mS_uA, mS_uJ, mS_uR, mS_uX, mR_uI, mR_uA, mR_uJ, mR_uX, mX_uI, mX_uA, mX_uJ, mX_uR, mI_s, mI_n, mI_A, mI_An, mI_uJ, mI_uR, mI_uX, mJ_uI, mJ_uA, mJ_uR, mJ_uX, onR_s, kC_v, kC_n, kC_t, ul0, ula1, ula2, ula3, ula4, ulb2, ulb3, ulb4, ulc2, ulc3, ulc4, ule4, ulf3, ulf4, c_149t hW0 hB9 hO0 hm, s_155, good_ik (show t ≤ 39 by omega) (by omega), bI_T, s_153, good_ik (show i ≤ 15 by omega) (by omega), bI_ti hg, cv0, cv1, cv2, cv3, cv4, cv5, cv6, cvrec, (b7 m hm).1 0 (by omega), (b7 m hm).1 1 (by omega), (b7 m hm).1 2 (by omega), (b7 m hm).1 3 (by omega), (b7 m hm).1 4 (by omega), (b7 m hm).1 5 (by omega), (b7 m hm).1 6 (by omega), vE.2.1, ha, ho, q8]
def gSet (i : Nat) : Nat := if i = 0 then 40 else 6
theorem s_158 (h : i < 2) : Ev (d + 1) 158 [.int (nI i)] μ Q = Q (some (some (.int (nI (gSet i))))) μ := by
  rw [in_158]
  rcases (by omega : i = 0 ∨ i = 1) with rfl | rfl <;> simp (disch := first | omega | rfl) only [e_158_0, e_158_1, e_158_4, e_158_6, e_158_9, e_158_11, ge1, ule_t, true_or, or_true, nI_add, nI_mul, nI_sub, nI_clamp, nI_lt_t, nI_lt_f, nI_le_t, nI_le_f, nI_eq_t, nI_eq_f, vp_nI, tI, fI, not_true, not_false_iff, true_and, and_true, Classical.not_not] <;> rfl
theorem c_146a (hW : ShR μ s c) (hB : RelB μ s r) (hO : okR r) (hx : bad x 2) : Ev (d + 3) 146 [.ref 1000, .int x, .int y] μ Q = Q (some (some (.int (-2)))) μ := by
  have hW0 := hW
  obtain ⟨w0, w1, w2, w3, w4, w5, w6, w7, w8, w9, w10, w11, w12, w13, w14, w15⟩ := hW
  have hS0 := w12
  obtain ⟨q0, q1, q2, q3, q4, q5, q6, q7, q8, q9, q10, q11, q12, q13, q14, q15⟩ := w12
  have hB9 := hB
  obtain ⟨b1, b2, b3, b4, b5, b6, b7, b8⟩ := hB
  have hO0 := hO
  obtain ⟨o2, o6, o387, oT, o1708, oO, o1741, oF, o1, oq1, oq6, o0, ol1, ol40, oV, oN1, oP1, oF1⟩ := hO
  have hn : mI μ s 1 = nI (nM r) := b1.trans o2
  have hq9 : mI μ (s + 2) 1 = nI (nQ r) := b6.trans o1
  have hV := b7.ok' oV
  rw [in_146]
  simp (disch := first | omega | rfl) only [e_146_0, e_146_1, e_146_4, e_146_7, e_146_8, e_146_9, e_146_10, e_146_13, e_146_16, e_146_19, e_146_21, e_146_22, e_146_23, e_146_26, e_146_27, e_146_30, e_146_33, e_146_34, e_146_35, e_146_36, e_146_37, e_146_40, e_146_43, e_146_44, e_146_45, e_146_46, e_146_47, w0, w1, w2, w3, w4, w5, w6, w7, w8, w9, w10, q1, q2, q3, q4, q5, q6, q7, q8, q9, q10, q11, q12, q13, q14, q15, b1, b2, b3, b4, b5, b6, o2, o387, o1708, o1741, o1, o0, ge1, ule_t, true_or, or_true, nI_add, nI_mul, nI_sub, nI_clamp, nI_lt_t, nI_lt_f, nI_le_t, nI_le_f, nI_eq_t, nI_eq_f, vp_nI, tI, fI, not_true, not_false_iff, true_and, and_true, Classical.not_not, mS_uI, mS_uA, mS_uJ, mS_uR, mS_uX, mR_uI, mR_uA, mR_uJ, mR_uX, mX_uI, mX_uA, mX_uJ, mX_uR, mI_s, mI_n, mI_A, mI_An, mI_uJ, mI_uR, mI_uX, mJ_uI, mJ_uA, mJ_uR, mJ_uX, onR_s, kC_v, kC_n, kC_t, ul0, ula1, ula2, ula3, ula4, ulb2, ulb3, ulb4, ulc2, ulc3, ulc4, ule4, ulf3, ulf4, s_154, bad_ik hx (show 2 = 1 + 1 by omega) (by omega), bI_F]
theorem c_146b (hW : ShR μ s c) (hB : RelB μ s r) (hO : okR r) (hi : i < 2) (hx : ¬ (nI 1 ≤ y ∧ y ≤ nI (gSet i))) : Ev (d + 3) 146 [.ref 1000, .int (nI i), .int y] μ Q = Q (some (some (.int (-2)))) μ := by
  have hW0 := hW
  obtain ⟨w0, w1, w2, w3, w4, w5, w6, w7, w8, w9, w10, w11, w12, w13, w14, w15⟩ := hW
  have hS0 := w12
  obtain ⟨q0, q1, q2, q3, q4, q5, q6, q7, q8, q9, q10, q11, q12, q13, q14, q15⟩ := w12
  have hB9 := hB
  obtain ⟨b1, b2, b3, b4, b5, b6, b7, b8⟩ := hB
  have hO0 := hO
  obtain ⟨o2, o6, o387, oT, o1708, oO, o1741, oF, o1, oq1, oq6, o0, ol1, ol40, oV, oN1, oP1, oF1⟩ := hO
  have hn : mI μ s 1 = nI (nM r) := b1.trans o2
  have hq9 : mI μ (s + 2) 1 = nI (nQ r) := b6.trans o1
  have hV := b7.ok' oV
  rw [in_146]
  simp (disch := first | omega | rfl) only [e_146_0, e_146_1, e_146_4, e_146_7, e_146_8, e_146_9, e_146_10, e_146_13, e_146_16, e_146_19, e_146_21, e_146_22, e_146_23, e_146_26, e_146_27, e_146_30, e_146_33, e_146_34, e_146_35, e_146_36, e_146_37, e_146_40, e_146_43, e_146_44, e_146_45, e_146_46, e_146_47, w0, w1, w2, w3, w4, w5, w6, w7, w8, w9, w10, q1, q2, q3, q4, q5, q6, q7, q8, q9, q10, q11, q12, q13, q14, q15, b1, b2, b3, b4, b5, b6, o2, o387, o1708, o1741, o1, o0, ge1, ule_t, true_or, or_true, nI_add, nI_mul, nI_sub, nI_clamp, nI_lt_t, nI_lt_f, nI_le_t, nI_le_f, nI_eq_t, nI_eq_f, vp_nI, tI, fI, not_true, not_false_iff, true_and, and_true, Classical.not_not, mS_uI, mS_uA, mS_uJ, mS_uR, mS_uX, mR_uI, mR_uA, mR_uJ, mR_uX, mX_uI, mX_uA, mX_uJ, mX_uR, mI_s, mI_n, mI_A, mI_An, mI_uJ, mI_uR, mI_uX, mJ_uI, mJ_uA, mJ_uR, mJ_uX, onR_s, kC_v, kC_n, kC_t, ul0, ula1, ula2, ula3, ula4, ulb2, ulb3, ulb4, ulc2, ulc3, ulc4, ule4, ulf3, ulf4, s_154, good_ik (show i ≤ 1 by omega) (by omega), bI_T, s_158 hi, s_155, bI_fi hx]
end Small


