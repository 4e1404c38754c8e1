/-! the other readers -/
theorem mean_vf : ∀ a, a < 7 → ∀ s, s < 241 → 1 ≤ a → FP.ddiv (FP.i2d (nI s)) (FP.i2d (nI a)) &&& 0x7fffffffffffffff ≤ 0x7ff0000000000000 := by decide +kernel
def fSm (V : VW) : Nat → Nat
  | 0 => 0
  | n + 1 => fSm V n + (if V n 2 = nI 0 then 0 else nE V n)
theorem fSm_le {V : VW} {n : Nat} (hV : okV V n) : ∀ k, k ≤ n → fSm V k ≤ 40 * k
  | 0, _ => Nat.le_refl _
  | k + 1, hk => by
    have := fSm_le hV k (by omega)
    have vE := okBE hV (show k < n by omega)
    rw [fSm]
    split <;> omega
theorem fActs_le {V : VW} : ∀ k, fActs V k ≤ k
  | 0 => Nat.le_refl _
  | k + 1 => by
    have := fActs_le (V := V) k
    rw [fActs]
    split <;> omega
def fMean (r : Nat → Int32) : UInt64 := FP.ddiv (FP.i2d (nI (fSm (rW r) (nM r)))) (FP.i2d (nI (fActs (rW r) (nM r))))
theorem fMean_vf {r : Nat → Int32} (hO : okR r) (h : ¬ fActs (rW r) (nM r) = 0) : vf_n64 (fMean r) := by
  obtain ⟨o2, o6, o387, oT, o1708, oO, o1741, oF, o1, oq1, oq6, o0, ol1, ol40, oV, oN1, oP1, oF1⟩ := hO
  have h1 := fSm_le oV (nM r) (Nat.le_refl _)
  have h2 := fActs_le (V := rW r) (nM r)
  exact mean_vf _ (by omega) _ (by omega) (by omega)
def fNm (tn : Nat → Int32) (x : Int32) : Nat → Nat → Int32
  | 0, _ => -1
  | f + 1, k => if tn (16 + k) = x then nI k else fNm tn x f (k + 1)
section LeftC
variable {d : Nat} {Q : Po} {μ : Mu} {s c m n q i j k t z u w : Nat} {x y g v : Int32} {r tn : Nat → Int32} {pr : Nat → Nat → Int32} {l4 l5 : Option Value}
theorem l_78 (hS : StS μ s) (hn : mI μ s 1 = nI n) (h6 : n ≤ 6) (hN : ∀ m, m < n → mI μ (s + 5 + 3 * m) 0 = tn (16 + m)) : ∀ f k, k + f = n → EM 78 d 8 [some (.ref s), some (.int x), some (.int (nI k))] [] μ (0, 0) Q = Q (some (some (.int (fNm tn x f k)))) μ := by
  obtain ⟨q0, q1, q2, q3, q4, q5, q6, q7, q8, q9, q10, q11, q12, q13, q14, q15⟩ := hS
  intro f
  induction f with
  | zero =>
    intro k hk
    obtain rfl : k = n := by omega
    rw [e_78_8]
    simp (disch := first | omega | rfl) only [e_78_0, e_78_1, e_78_4, e_78_5, e_78_6, e_78_7, e_78_9, e_78_10, e_78_13, e_78_16, e_78_17, e_78_20, e_78_21, e_78_22, e_78_25, e_78_26, e_78_29, e_78_30, e_78_31, e_78_34, e_78_37, e_78_38, q1, q2, q3, q4, q5, q6, q7, q8, q9, q10, q11, q12, q13, q14, q15, ge1, ule_t, true_or, or_true, nI_add, nI_mul, nI_sub, nI_clamp, nI_lt_t, nI_lt_f, nI_le_t, nI_le_f, nI_eq_t, nI_eq_f, vp_nI, tI, fI, not_true, not_false_iff, true_and, and_true, Classical.not_not, mS_uI, mS_uA, mS_uJ, mS_uR, mS_uX, mR_uI, mR_uA, mR_uJ, mR_uX, mX_uI, mX_uA, mX_uJ, mX_uR, mI_s, mI_n, mI_A, mI_An, mI_uJ, mI_uR, mI_uX, mJ_uI, mJ_uA, mJ_uR, mJ_uX, onR_s, kC_v, kC_n, kC_t, hn, fNm]
  | succ f ih =>
    intro k hk
    rw [e_78_8]
    have h1 := hN k (by omega)
    rw [fNm]
    by_cases h : tn (16 + k) = x
    · rw [if_pos h]
      simp (disch := first | omega | rfl) only [e_78_0, e_78_1, e_78_4, e_78_5, e_78_6, e_78_7, e_78_9, e_78_10, e_78_13, e_78_16, e_78_17, e_78_20, e_78_21, e_78_22, e_78_25, e_78_26, e_78_29, e_78_30, e_78_31, e_78_34, e_78_37, e_78_38, q1, q2, q3, q4, q5, q6, q7, q8, q9, q10, q11, q12, q13, q14, q15, ge1, ule_t, true_or, or_true, nI_add, nI_mul, nI_sub, nI_clamp, nI_lt_t, nI_lt_f, nI_le_t, nI_le_f, nI_eq_t, nI_eq_f, vp_nI, tI, fI, not_true, not_false_iff, true_and, and_true, Classical.not_not, mS_uI, mS_uA, mS_uJ, mS_uR, mS_uX, mR_uI, mR_uA, mR_uJ, mR_uX, mX_uI, mX_uA, mX_uJ, mX_uR, mI_s, mI_n, mI_A, mI_An, mI_uJ, mI_uR, mI_uX, mJ_uI, mJ_uA, mJ_uR, mJ_uX, onR_s, kC_v, kC_n, kC_t, hn, h1, h]
    · rw [if_neg h]
      simp (disch := first | omega | rfl) only [e_78_0, e_78_1, e_78_4, e_78_5, e_78_6, e_78_7, e_78_9, e_78_10, e_78_13, e_78_16, e_78_17, e_78_20, e_78_21, e_78_22, e_78_25, e_78_26, e_78_29, e_78_30, e_78_31, e_78_34, e_78_37, e_78_38, q1, q2, q3, q4, q5, q6, q7, q8, q9, q10, q11, q12, q13, q14, q15, ge1, ule_t, true_or, or_true, nI_add, nI_mul, nI_sub, nI_clamp, nI_lt_t, nI_lt_f, nI_le_t, nI_le_f, nI_eq_t, nI_eq_f, vp_nI, tI, fI, not_true, not_false_iff, true_and, and_true, Classical.not_not, mS_uI, mS_uA, mS_uJ, mS_uR, mS_uX, mR_uI, mR_uA, mR_uJ, mR_uX, mX_uI, mX_uA, mX_uJ, mX_uR, mI_s, mI_n, mI_A, mI_An, mI_uJ, mI_uR, mI_uX, mJ_uI, mJ_uA, mJ_uR, mJ_uX, onR_s, kC_v, kC_n, kC_t, hn, h1, h]
      exact ih (k + 1) (by omega)
theorem c_104 (hW : ShR μ s c) (hB : RelB μ s r) (hO : okR r) (hC : RelC μ c r) (ht : t < nT r) : Ev (d + 3) 104 [.ref 1000, .int (nI t)] μ Q = Q (some (some (.int (r (388 + 33 * t))))) μ := by
  have h1 := (hC.1 t ht).1
  have hc := hW.2.2.2.2.2.2.2.2.2.2.2.2.2.1
  have hW0 := hW
  obtain ⟨w0, w1, w2, w3, w4, w5, w6, w7, w8, w9, w10, w11, w12, w13, w14, w15⟩ := hW
  have hS0 := w12
  obtain ⟨q0, q1, q2, q3, q4, q5, q6, q7, q8, q9, q10, q11, q12, q13, q14, q15⟩ := w12
  have hB9 := hB
  obtain ⟨b1, b2, b3, b4, b5, b6, b7, b8⟩ := hB
  have hO0 := hO
  obtain ⟨o2, o6, o387, oT, o1708, oO, o1741, oF, o1, oq1, oq6, o0, ol1, ol40, oV, oN1, oP1, oF1⟩ := hO
  have hn : mI μ s 1 = nI (nM r) := b1.trans o2
  have hq9 : mI μ (s + 2) 1 = nI (nQ r) := b6.trans o1
  have hV := b7.ok' oV
  obtain ⟨r0, r1, r2, r3, r4, r5, r6, r7, r8, r9⟩ := hc
  rw [in_104]
  simp (disch := first | omega | rfl) only [e_104_0, e_104_1, e_104_2, e_104_5, e_104_6, e_104_9, e_104_12, e_104_13, e_104_14, w0, w1, w2, w3, w4, w5, w6, w7, w8, w9, w10, q1, q2, q3, q4, q5, q6, q7, q8, q9, q10, q11, q12, q13, q14, q15, b1, b2, b3, b4, b5, b6, o2, o387, o1708, o1741, o1, o0, ge1, ule_t, true_or, or_true, nI_add, nI_mul, nI_sub, nI_clamp, nI_lt_t, nI_lt_f, nI_le_t, nI_le_f, nI_eq_t, nI_eq_f, vp_nI, tI, fI, not_true, not_false_iff, true_and, and_true, Classical.not_not, mS_uI, mS_uA, mS_uJ, mS_uR, mS_uX, mR_uI, mR_uA, mR_uJ, mR_uX, mX_uI, mX_uA, mX_uJ, mX_uR, mI_s, mI_n, mI_A, mI_An, mI_uJ, mI_uR, mI_uX, mJ_uI, mJ_uA, mJ_uR, mJ_uX, onR_s, kC_v, kC_n, kC_t, ul0, ula1, ula2, ula3, ula4, ulb2, ulb3, ulb4, ulc2, ulc3, ulc4, ule4, ulf3, ulf4, r1, r2, r3, r4, r5, r6, r7, r8, r9, c_151t hW0 hB9 hO0 ht, h1]
theorem c_104f (hW : ShR μ s c) (hB : RelB μ s r) (hO : okR r) (hx : bad x (nT r)) : Ev (d + 3) 104 [.ref 1000, .int x] μ Q = (∀ x, mX μ ≤ x → Q none (uX μ x)) := by
  have hW0 := hW
  obtain ⟨w0, w1, w2, w3, w4, w5, w6, w7, w8, w9, w10, w11, w12, w13, w14, w15⟩ := hW
  have hS0 := w12
  obtain ⟨q0, q1, q2, q3, q4, q5, q6, q7, q8, q9, q10, q11, q12, q13, q14, q15⟩ := w12
  have hB9 := hB
  obtain ⟨b1, b2, b3, b4, b5, b6, b7, b8⟩ := hB
  have hO0 := hO
  obtain ⟨o2, o6, o387, oT, o1708, oO, o1741, oF, o1, oq1, oq6, o0, ol1, ol40, oV, oN1, oP1, oF1⟩ := hO
  have hn : mI μ s 1 = nI (nM r) := b1.trans o2
  have hq9 : mI μ (s + 2) 1 = nI (nQ r) := b6.trans o1
  have hV := b7.ok' oV
  rw [in_104]
  simp (disch := first | omega | rfl) only [e_104_0, e_104_1, e_104_2, e_104_5, e_104_6, e_104_9, e_104_12, e_104_13, e_104_14, w0, w1, w2, w3, w4, w5, w6, w7, w8, w9, w10, q1, q2, q3, q4, q5, q6, q7, q8, q9, q10, q11, q12, q13, q14, q15, b1, b2, b3, b4, b5, b6, o2, o387, o1708, o1741, o1, o0, ge1, ule_t, true_or, or_true, nI_add, nI_mul, nI_sub, nI_clamp, nI_lt_t, nI_lt_f, nI_le_t, nI_le_f, nI_eq_t, nI_eq_f, vp_nI, tI, fI, not_true, not_false_iff, true_and, and_true, Classical.not_not, mS_uI, mS_uA, mS_uJ, mS_uR, mS_uX, mR_uI, mR_uA, mR_uJ, mR_uX, mX_uI, mX_uA, mX_uJ, mX_uR, mI_s, mI_n, mI_A, mI_An, mI_uJ, mI_uR, mI_uX, mJ_uI, mJ_uA, mJ_uR, mJ_uX, onR_s, kC_v, kC_n, kC_t, ul0, ula1, ula2, ula3, ula4, ulb2, ulb3, ulb4, ulc2, ulc3, ulc4, ule4, ulf3, ulf4, c_151f hW0 hB9 hO0 hx, TT_104]
theorem c_105 (hW : ShR μ s c) (hB : RelB μ s r) (hO : okR r) (hC : RelC μ c r) (ht : t < nT r) (hk : k < nZ r t) (hw : w < 4) : Ev (d + 3) 105 [.ref 1000, .int (nI t), .int (nI k), .int (nI w)] μ Q = Q (some (some (.int (mCmd r t k w)))) μ := by
  have h1 := (hC.1 t ht).1
  have hc := hW.2.2.2.2.2.2.2.2.2.2.2.2.2.1
  have hW0 := hW
  obtain ⟨w0, w1, w2, w3, w4, w5, w6, w7, w8, w9, w10, w11, w12, w13, w14, w15⟩ := hW
  have hS0 := w12
  obtain ⟨q0, q1, q2, q3, q4, q5, q6, q7, q8, q9, q10, q11, q12, q13, q14, q15⟩ := w12
  have hB9 := hB
  obtain ⟨b1, b2, b3, b4, b5, b6, b7, b8⟩ := hB
  have hO0 := hO
  obtain ⟨o2, o6, o387, oT, o1708, oO, o1741, oF, o1, oq1, oq6, o0, ol1, ol40, oV, oN1, oP1, oF1⟩ := hO
  have hn : mI μ s 1 = nI (nM r) := b1.trans o2
  have hq9 : mI μ (s + 2) 1 = nI (nQ r) := b6.trans o1
  have hV := b7.ok' oV
  have hc0 := hc
  obtain ⟨r0, r1, r2, r3, r4, r5, r6, r7, r8, r9⟩ := hc
  obtain ⟨z1, z2, z3⟩ := okP_z oP1 ht
  rw [in_105]
  simp (disch := first | omega | rfl) only [e_105_0, e_105_1, e_105_2, e_105_5, e_105_6, e_105_7, e_105_8, e_105_11, e_105_14, e_105_15, e_105_16, e_105_17, e_105_18, e_105_21, e_105_24, e_105_25, e_105_26, e_105_27, e_105_28, e_105_29, e_105_32, e_105_35, e_105_37, e_105_38, e_105_39, e_105_42, e_105_43, e_105_44, e_105_45, e_105_48, w0, w1, w2, w3, w4, w5, w6, w7, w8, w9, w10, q1, q2, q3, q4, q5, q6, q7, q8, q9, q10, q11, q12, q13, q14, q15, b1, b2, b3, b4, b5, b6, o2, o387, o1708, o1741, o1, o0, ge1, ule_t, true_or, or_true, nI_add, nI_mul, nI_sub, nI_clamp, nI_lt_t, nI_lt_f, nI_le_t, nI_le_f, nI_eq_t, nI_eq_f, vp_nI, tI, fI, not_true, not_false_iff, true_and, and_true, Classical.not_not, mS_uI, mS_uA, mS_uJ, mS_uR, mS_uX, mR_uI, mR_uA, mR_uJ, mR_uX, mX_uI, mX_uA, mX_uJ, mX_uR, mI_s, mI_n, mI_A, mI_An, mI_uJ, mI_uR, mI_uX, mJ_uI, mJ_uA, mJ_uR, mJ_uX, onR_s, kC_v, kC_n, kC_t, ul0, ula1, ula2, ula3, ula4, ulb2, ulb3, ulb4, ulc2, ulc3, ulc4, ule4, ulf3, ulf4, r1, r2, r3, r4, r5, r6, r7, r8, r9, c_151t hW0 hB9 hO0 ht, h1, z1, s_155, good_is hk (by omega), good_ik (show w ≤ 3 by omega) (by omega), bI_T, c_67 hc0 hC hO0 ht hk hw]
theorem c_105g (hW : ShR μ s c) (hB : RelB μ s r) (hO : okR r) (hC : RelC μ c r) (ht : t < nT r) (hk : k < nZ r t) (hx : bad x 4) : Ev (d + 3) 105 [.ref 1000, .int (nI t), .int (nI k), .int x] μ Q = Q (some (some (.int (-2)))) μ := by
  have h1 := (hC.1 t ht).1
  have hc := hW.2.2.2.2.2.2.2.2.2.2.2.2.2.1
  have hW0 := hW
  obtain ⟨w0, w1, w2, w3, w4, w5, w6, w7, w8, w9, w10, w11, w12, w13, w14, w15⟩ := hW
  have hS0 := w12
  obtain ⟨q0, q1, q2, q3, q4, q5, q6, q7, q8, q9, q10, q11, q12, q13, q14, q15⟩ := w12
  have hB9 := hB
  obtain ⟨b1, b2, b3, b4, b5, b6, b7, b8⟩ := hB
  have hO0 := hO
  obtain ⟨o2, o6, o387, oT, o1708, oO, o1741, oF, o1, oq1, oq6, o0, ol1, ol40, oV, oN1, oP1, oF1⟩ := hO
  have hn : mI μ s 1 = nI (nM r) := b1.trans o2
  have hq9 : mI μ (s + 2) 1 = nI (nQ r) := b6.trans o1
  have hV := b7.ok' oV
  have hc0 := hc
  obtain ⟨r0, r1, r2, r3, r4, r5, r6, r7, r8, r9⟩ := hc
  obtain ⟨z1, z2, z3⟩ := okP_z oP1 ht
  rw [in_105]
  simp (disch := first | omega | rfl) only [e_105_0, e_105_1, e_105_2, e_105_5, e_105_6, e_105_7, e_105_8, e_105_11, e_105_14, e_105_15, e_105_16, e_105_17, e_105_18, e_105_21, e_105_24, e_105_25, e_105_26, e_105_27, e_105_28, e_105_29, e_105_32, e_105_35, e_105_37, e_105_38, e_105_39, e_105_42, e_105_43, e_105_44, e_105_45, e_105_48, w0, w1, w2, w3, w4, w5, w6, w7, w8, w9, w10, q1, q2, q3, q4, q5, q6, q7, q8, q9, q10, q11, q12, q13, q14, q15, b1, b2, b3, b4, b5, b6, o2, o387, o1708, o1741, o1, o0, ge1, ule_t, true_or, or_true, nI_add, nI_mul, nI_sub, nI_clamp, nI_lt_t, nI_lt_f, nI_le_t, nI_le_f, nI_eq_t, nI_eq_f, vp_nI, tI, fI, not_true, not_false_iff, true_and, and_true, Classical.not_not, mS_uI, mS_uA, mS_uJ, mS_uR, mS_uX, mR_uI, mR_uA, mR_uJ, mR_uX, mX_uI, mX_uA, mX_uJ, mX_uR, mI_s, mI_n, mI_A, mI_An, mI_uJ, mI_uR, mI_uX, mJ_uI, mJ_uA, mJ_uR, mJ_uX, onR_s, kC_v, kC_n, kC_t, ul0, ula1, ula2, ula3, ula4, ulb2, ulb3, ulb4, ulc2, ulc3, ulc4, ule4, ulf3, ulf4, r1, r2, r3, r4, r5, r6, r7, r8, r9, c_151t hW0 hB9 hO0 ht, h1, z1, s_155, good_is hk (by omega), bad_ik hx rfl (by omega), bI_T, bI_F]
theorem c_105f (hW : ShR μ s c) (hB : RelB μ s r) (hO : okR r) (hC : RelC μ c r) (ht : t < nT r) (hx : bad x (nZ r t)) : Ev (d + 3) 105 [.ref 1000, .int (nI t), .int x, .int y] μ Q = Q (some (some (.int (-1)))) μ := by
  have h1 := (hC.1 t ht).1
  have hc := hW.2.2.2.2.2.2.2.2.2.2.2.2.2.1
  have hW0 := hW
  obtain ⟨w0, w1, w2, w3, w4, w5, w6, w7, w8, w9, w10, w11, w12, w13, w14, w15⟩ := hW
  have hS0 := w12
  obtain ⟨q0, q1, q2, q3, q4, q5, q6, q7, q8, q9, q10, q11, q12, q13, q14, q15⟩ := w12
  have hB9 := hB
  obtain ⟨b1, b2, b3, b4, b5, b6, b7, b8⟩ := hB
  have hO0 := hO
  obtain ⟨o2, o6, o387, oT, o1708, oO, o1741, oF, o1, oq1, oq6, o0, ol1, ol40, oV, oN1, oP1, oF1⟩ := hO
  have hn : mI μ s 1 = nI (nM r) := b1.trans o2
  have hq9 : mI μ (s + 2) 1 = nI (nQ r) := b6.trans o1
  have hV := b7.ok' oV
  have hc0 := hc
  obtain ⟨r0, r1, r2, r3, r4, r5, r6, r7, r8, r9⟩ := hc
  obtain ⟨z1, z2, z3⟩ := okP_z oP1 ht
  rw [in_105]
  simp (disch := first | omega | rfl) only [e_105_0, e_105_1, e_105_2, e_105_5, e_105_6, e_105_7, e_105_8, e_105_11, e_105_14, e_105_15, e_105_16, e_105_17, e_105_18, e_105_21, e_105_24, e_105_25, e_105_26, e_105_27, e_105_28, e_105_29, e_105_32, e_105_35, e_105_37, e_105_38, e_105_39, e_105_42, e_105_43, e_105_44, e_105_45, e_105_48, w0, w1, w2, w3, w4, w5, w6, w7, w8, w9, w10, q1, q2, q3, q4, q5, q6, q7, q8, q9, q10, q11, q12, q13, q14, q15, b1, b2, b3, b4, b5, b6, o2, o387, o1708, o1741, o1, o0, ge1, ule_t, true_or, or_true, nI_add, nI_mul, nI_sub, nI_clamp, nI_lt_t, nI_lt_f, nI_le_t, nI_le_f, nI_eq_t, nI_eq_f, vp_nI, tI, fI, not_true, not_false_iff, true_and, and_true, Classical.not_not, mS_uI, mS_uA, mS_uJ, mS_uR, mS_uX, mR_uI, mR_uA, mR_uJ, mR_uX, mX_uI, mX_uA, mX_uJ, mX_uR, mI_s, mI_n, mI_A, mI_An, mI_uJ, mI_uR, mI_uX, mJ_uI, mJ_uA, mJ_uR, mJ_uX, onR_s, kC_v, kC_n, kC_t, ul0, ula1, ula2, ula3, ula4, ulb2, ulb3, ulb4, ulc2, ulc3, ulc4, ule4, ulf3, ulf4, r1, r2, r3, r4, r5, r6, r7, r8, r9, c_151t hW0 hB9 hO0 ht, h1, z1, s_155, bad_is hx (by omega), bI_T, bI_F]
theorem c_105t (hW : ShR μ s c) (hB : RelB μ s r) (hO : okR r) (hx : bad x (nT r)) : Ev (d + 3) 105 [.ref 1000, .int x, .int y, .int g] μ Q = (∀ x, mX μ ≤ x → Q none (uX μ x)) := by
  have hW0 := hW
  obtain ⟨w0, w1, w2, w3, w4, w5, w6, w7, w8, w9, w10, w11, w12, w13, w14, w15⟩ := hW
  have hS0 := w12
  obtain ⟨q0, q1, q2, q3, q4, q5, q6, q7, q8, q9, q10, q11, q12, q13, q14, q15⟩ := w12
  have hB9 := hB
  obtain ⟨b1, b2, b3, b4, b5, b6, b7, b8⟩ := hB
  have hO0 := hO
  obtain ⟨o2, o6, o387, oT, o1708, oO, o1741, oF, o1, oq1, oq6, o0, ol1, ol40, oV, oN1, oP1, oF1⟩ := hO
  have hn : mI μ s 1 = nI (nM r) := b1.trans o2
  have hq9 : mI μ (s + 2) 1 = nI (nQ r) := b6.trans o1
  have hV := b7.ok' oV
  rw [in_105]
  simp (disch := first | omega | rfl) only [e_105_0, e_105_1, e_105_2, e_105_5, e_105_6, e_105_7, e_105_8, e_105_11, e_105_14, e_105_15, e_105_16, e_105_17, e_105_18, e_105_21, e_105_24, e_105_25, e_105_26, e_105_27, e_105_28, e_105_29, e_105_32, e_105_35, e_105_37, e_105_38, e_105_39, e_105_42, e_105_43, e_105_44, e_105_45, e_105_48, w0, w1, w2, w3, w4, w5, w6, w7, w8, w9, w10, q1, q2, q3, q4, q5, q6, q7, q8, q9, q10, q11, q12, q13, q14, q15, b1, b2, b3, b4, b5, b6, o2, o387, o1708, o1741, o1, o0, ge1, ule_t, true_or, or_true, nI_add, nI_mul, nI_sub, nI_clamp, nI_lt_t, nI_lt_f, nI_le_t, nI_le_f, nI_eq_t, nI_eq_f, vp_nI, tI, fI, not_true, not_false_iff, true_and, and_true, Classical.not_not, mS_uI, mS_uA, mS_uJ, mS_uR, mS_uX, mR_uI, mR_uA, mR_uJ, mR_uX, mX_uI, mX_uA, mX_uJ, mX_uR, mI_s, mI_n, mI_A, mI_An, mI_uJ, mI_uR, mI_uX, mJ_uI, mJ_uA, mJ_uR, mJ_uX, onR_s, kC_v, kC_n, kC_t, ul0, ula1, ula2, ula3, ula4, ulb2, ulb3, ulb4, ulc2, ulc3, ulc4, ule4, ulf3, ulf4, c_151f hW0 hB9 hO0 hx, TT_105]
end LeftC
section LeftM
variable {d : Nat} {Q : Po} {μ : Mu} {m n p i j k t u N dn w : Nat} {x y z : Int32} {r : Nat → Int32} {l1 l2 l3 l4 l5 : Option Value}
end LeftM


