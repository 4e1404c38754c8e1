/-! the other readers -/
theorem mean_vf : ∀ a, a < 7 → ∀ s, s < 241 → 1 ≤ a → FP.ddiv (FP.i2d (nI s)) (FP.i2d (nI a)) &&& 0x7fffffffffffffff ≤ 0x7ff0000000000000 := by decide +kernel
def fSm (V : VW) : Nat → Nat
  | 0 => 0
  | n + 1 => fSm V n + (if V n 2 = nI 0 then 0 else nE V n)
theorem fSm_le {V : VW} {n : Nat} (hV : okV V n) : ∀ k, k ≤ n → fSm V k ≤ 40 * k
  | 0, _ => Nat.le_refl _
  | k + 1, hk => by
    have := fSm_le hV k (by omega)
    have vE := okBE hV (show k < n by omega)
    rw [fSm]
    split <;> omega
theorem fActs_le {V : VW} : ∀ k, fActs V k ≤ k
  | 0 => Nat.le_refl _
  | k + 1 => by
    have := fActs_le (V := V) k
    rw [fActs]
    split <;> omega
def fMean (r : Nat → Int32) : UInt64 := FP.ddiv (FP.i2d (nI (fSm (rW r) (nM r)))) (FP.i2d (nI (fActs (rW r) (nM r))))
theorem fMean_vf {r : Nat → Int32} (hO : okR r) (h : ¬ fActs (rW r) (nM r) = 0) : vf_n64 (fMean r) := by
  obtain ⟨o2, o6, o387, oT, o1708, oO, o1741, oF, o1, oq1, oq6, o0, ol1, ol40, oV, oN1, oP1, oF1⟩ := hO
  have h1 := fSm_le oV (nM r) (Nat.le_refl _)
  have h2 := fActs_le (V := rW r) (nM r)
  exact mean_vf _ (by omega) _ (by omega) (by omega)
def fNm (tn : Nat → Int32) (x : Int32) : Nat → Nat → Int32
  | 0, _ => -1
  | f + 1, k => if tn (16 + k) = x then nI k else fNm tn x f (k + 1)
section LeftC
variable {d : Nat} {Q : Po} {μ : Mu} {s c m n q i j k t z u w : Nat} {x y g v : Int32} {r tn : Nat → Int32} {pr : Nat → Nat → Int32} {l4 l5 : Option Value}
theorem l_78 (hS : StS μ s) (hn : mI μ s 1 = nI n) (h6 : n ≤ 6) (hN : ∀ m, m < n → mI μ (s + 5 + 3 * m) 0 = tn (16 + m)) : ∀ f k, k + f = n → EM 78 d 8 [some (.ref s), some (.int x), some (.int (nI k))] [] μ (0, 0) Q = Q (some (some (.int (fNm tn x f k)))) μ := by
  obtain ⟨q0, q1, q2, q3, q4, q5, q6, q7, q8, q9, q10, q11, q12, q13, q14, q15⟩ := hS
  intro f
  induction f with
  | zero =>
    intro k hk
    obtain rfl : k = n := by omega
    rw [e_78_8]
    simp (disch := first | omega | rfl) only [e_78_0, e_78_1, e_78_4, e_78_5, e_78_6, e_78_7, e_78_9, e_78_10, e_78_13, e_78_16, e_78_17, e_78_20, e_78_21, e_78_22, e_78_25, e_78_26, e_78_29, e_78_30, e_78_31, e_78_34, e_78_37, e_78_38, q1, q2, q3, q4, q5, q6, q7, q8, q9, q10, q11, q12, q13, q14, q15, ge1, ule_t, true_or, or_true, nI_add, nI_mul, nI_sub, nI_clamp, nI_lt_t, nI_lt_f, nI_le_t, nI_le_f, nI_eq_t, nI_eq_f, vp_nI, tI, fI, not_true, not_false_iff, true_and, and_true, Classical.not_not, mS_uI, mS_uA, mS_uJ, mS_uR, mS_uX, mR_uI, mR_uA, mR_uJ, mR_uX, mX_uI, mX_uA, mX_uJ, mX_uR, mI_s, mI_n, mI_A, mI_An, mI_uJ, mI_uR, mI_uX, mJ_uI, mJ_uA, mJ_uR, mJ_uX, onR_s, kC_v, kC_n, kC_t, hn, fNm]
  | succ f ih =>
    intro k hk
    rw [e_78_8]
    have h1 := hN k (by omega)
    rw [fNm]
    by_cases h : tn (16 + k) = x
    · rw [if_pos h]
      simp (disch := first | omega | rfl) only [e_78_0, e_78_1, e_78_4, e_78_5, e_78_6, e_78_7, e_78_9, e_78_10, e_78_13, e_78_16, e_78_17, e_78_20, e_78_21, e_78_22, e_78_25, e_78_26, e_78_29, e_78_30, e_78_31, e_78_34, e_78_37, e_78_38, q1, q2, q3, q4, q5, q6, q7, q8, q9, q10, q11, q12, q13, q14, q15, ge1, ule_t, true_or, or_true, nI_add, nI_mul, nI_sub, nI_clamp, nI_lt_t, nI_lt_f, nI_le_t, nI_le_f, nI_eq_t, nI_eq_f, vp_nI, tI, fI, not_true, not_false_iff, true_and, and_true, Classical.not_not, mS_uI, mS_uA, mS_uJ, mS_uR, mS_uX, mR_uI, mR_uA, mR_uJ, mR_uX, mX_uI, mX_uA, mX_uJ, mX_uR, mI_s, mI_n, mI_A, mI_An, mI_uJ, mI_uR, mI_uX, mJ_uI, mJ_uA, mJ_uR, mJ_uX, onR_s, kC_v, kC_n, kC_t, hn, h1, h]
    · rw [if_neg h]
      simp (disch := first | omega | rfl) only [e_78_0, e_78_1, e_78_4, e_78_5, e_78_6, e_78_7, e_78_9, e_78_10, e_78_13, e_78_16, e_78_17, e_78_20, e_78_21, e_78_22, e_78_25, e_78_26, e_78_29, e_78_30, e_78_31, e_78_34, e_78_37, e_78_38, q1, q2, q3, q4, q5, q6, q7, q8, q9, q10, q11, q12, q13, q14, q15, ge1, ule_t, true_or, or_true, nI_add, nI_mul, nI_sub, nI_clamp, nI_lt_t, nI_lt_f, nI_le_t, nI_le_f, nI_eq_t, nI_eq_f, vp_nI, tI, fI, not_true, not_false_iff, true_and, and_true, Classical.not_not, mS_uI, mS_uA, mS_uJ, mS_uR, mS_uX, mR_uI, mR_uA, mR_uJ, mR_uX, mX_uI, mX_uA, mX_uJ, mX_uR, mI_s, mI_n, mI_A, mI_An, mI_uJ, mI_uR, mI_uX, mJ_uI, mJ_uA, mJ_uR, mJ_uX, onR_s, kC_v, kC_n, kC_t, hn, h1, h]
      exact ih (k + 1) (by omega)
theorem c_100 (hW : ShR μ s c) (hB : RelB μ s r) (hO : okR r) (hN : ∀ m, m < nM r → mI μ (s + 5 + 3 * m) 0 = tn (16 + m)) : Ev (d + 2) 100 [.ref 1000, .int x] μ Q = Q (some (some (.int (if x = nI 0 then -1 else fNm tn x (nM r) 0)))) μ := by
  have hW0 := hW
  obtain ⟨w0, w1, w2, w3, w4, w5, w6, w7, w8, w9, w10, w11, w12, w13, w14, w15⟩ := hW
  have hS0 := w12
  obtain ⟨q0, q1, q2, q3, q4, q5, q6, q7, q8, q9, q10, q11, q12, q13, q14, q15⟩ := w12
  have hB9 := hB
  obtain ⟨b1, b2, b3, b4, b5, b6, b7, b8⟩ := hB
  have hO0 := hO
  obtain ⟨o2, o6, o387, oT, o1708, oO, o1741, oF, o1, oq1, oq6, o0, ol1, ol40, oV, oN1, oP1, oF1⟩ := hO
  have hn : mI μ s 1 = nI (nM r) := b1.trans o2
  have hq9 : mI μ (s + 2) 1 = nI (nQ r) := b6.trans o1
  have hV := b7.ok' oV
  have h78 : ∀ (d : Nat) (Q : Po), Ev (d + 1) 78 [.ref s, .int x] μ Q = Q (some (some (.int (if x = nI 0 then -1 else fNm tn x (nM r) 0)))) μ := fun d Q => by
    rw [in_78]
    by_cases h : x = nI 0
    · rw [if_pos h]
      simp (disch := first | omega | rfl) only [e_78_0, e_78_1, e_78_4, e_78_5, e_78_6, e_78_7, e_78_9, e_78_10, e_78_13, e_78_16, e_78_17, e_78_20, e_78_21, e_78_22, e_78_25, e_78_26, e_78_29, e_78_30, e_78_31, e_78_34, e_78_37, e_78_38, h, ge1, ule_t, true_or, or_true, nI_add, nI_mul, nI_sub, nI_clamp, nI_lt_t, nI_lt_f, nI_le_t, nI_le_f, nI_eq_t, nI_eq_f, vp_nI, tI, fI, not_true, not_false_iff, true_and, and_true, Classical.not_not]
    · rw [if_neg h]
      simp (disch := first | omega | rfl) only [e_78_0, e_78_1, e_78_4, e_78_5, e_78_6, e_78_7, e_78_9, e_78_10, e_78_13, e_78_16, e_78_17, e_78_20, e_78_21, e_78_22, e_78_25, e_78_26, e_78_29, e_78_30, e_78_31, e_78_34, e_78_37, e_78_38, h, ge1, ule_t, true_or, or_true, nI_add, nI_mul, nI_sub, nI_clamp, nI_lt_t, nI_lt_f, nI_le_t, nI_le_f, nI_eq_t, nI_eq_f, vp_nI, tI, fI, not_true, not_false_iff, true_and, and_true, Classical.not_not]
      exact l_78 hS0 hn o6 hN (nM r) 0 (by omega)
  rw [in_100]
  simp (disch := first | omega | rfl) only [e_100_0, e_100_1, e_100_4, e_100_5, e_100_8, w0, w1, w2, w3, w4, w5, w6, w7, w8, w9, w10, q1, q2, q3, q4, q5, q6, q7, q8, q9, q10, q11, q12, q13, q14, q15, b1, b2, b3, b4, b5, b6, o2, o387, o1708, o1741, o1, o0, ge1, ule_t, true_or, or_true, nI_add, nI_mul, nI_sub, nI_clamp, nI_lt_t, nI_lt_f, nI_le_t, nI_le_f, nI_eq_t, nI_eq_f, vp_nI, tI, fI, not_true, not_false_iff, true_and, and_true, Classical.not_not, mS_uI, mS_uA, mS_uJ, mS_uR, mS_uX, mR_uI, mR_uA, mR_uJ, mR_uX, mX_uI, mX_uA, mX_uJ, mX_uR, mI_s, mI_n, mI_A, mI_An, mI_uJ, mI_uR, mI_uX, mJ_uI, mJ_uA, mJ_uR, mJ_uX, onR_s, kC_v, kC_n, kC_t, ul0, ula1, ula2, ula3, ula4, ulb2, ulb3, ulb4, ulc2, ulc3, ulc4, ule4, ulf3, ulf4, h78]
theorem c_104 (hW : ShR μ s c) (hB : RelB μ s r) (hO : okR r) (hC : RelC μ c r) (ht : t < nT r) : Ev (d + 3) 104 [.ref 1000, .int (nI t)] μ Q = Q (some (some (.int (r (388 + 33 * t))))) μ := by
  have h1 := (hC.1 t ht).1
  have hc := hW.2.2.2.2.2.2.2.2.2.2.2.2.2.1
  have hW0 := hW
  obtain ⟨w0, w1, w2, w3, w4, w5, w6, w7, w8, w9, w10, w11, w12, w13, w14, w15⟩ := hW
  have hS0 := w12
  obtain ⟨q0, q1, q2, q3, q4, q5, q6, q7, q8, q9, q10, q11, q12, q13, q14, q15⟩ := w12
  have hB9 := hB
  obtain ⟨b1, b2, b3, b4, b5, b6, b7, b8⟩ := hB
  have hO0 := hO
  obtain ⟨o2, o6, o387, oT, o1708, oO, o1741, oF, o1, oq1, oq6, o0, ol1, ol40, oV, oN1, oP1, oF1⟩ := hO
  have hn : mI μ s 1 = nI (nM r) := b1.trans o2
  have hq9 : mI μ (s + 2) 1 = nI (nQ r) := b6.trans o1
  have hV := b7.ok' oV
  obtain ⟨r0, r1, r2, r3, r4, r5, r6, r7, r8, r9⟩ := hc
  rw [in_104]
  simp (disch := first | omega | rfl) only [e_104_0, e_104_1, e_104_2, e_104_5, e_104_6, e_104_9, e_104_12, e_104_13, e_104_14, w0, w1, w2, w3, w4, w5, w6, w7, w8, w9, w10, q1, q2, q3, q4, q5, q6, q7, q8, q9, q10, q11, q12, q13, q14, q15, b1, b2, b3, b4, b5, b6, o2, o387, o1708, o1741, o1, o0, ge1, ule_t, true_or, or_true, nI_add, nI_mul, nI_sub, nI_clamp, nI_lt_t, nI_lt_f, nI_le_t, nI_le_f, nI_eq_t, nI_eq_f, vp_nI, tI, fI, not_true, not_false_iff, true_and, and_true, Classical.not_not, mS_uI, mS_uA, mS_uJ, mS_uR, mS_uX, mR_uI, mR_uA, mR_uJ, mR_uX, mX_uI, mX_uA, mX_uJ, mX_uR, mI_s, mI_n, mI_A, mI_An, mI_uJ, mI_uR, mI_uX, mJ_uI, mJ_uA, mJ_uR, mJ_uX, onR_s, kC_v, kC_n, kC_t, ul0, ula1, ula2, ula3, ula4, ulb2, ulb3, ulb4, ulc2, ulc3, ulc4, ule4, ulf3, ulf4, r1, r2, r3, r4, r5, r6, r7, r8, r9, c_151t hW0 hB9 hO0 ht, h1]
theorem c_104f (hW : ShR μ s c) (hB : RelB μ s r) (hO : okR r) (hx : bad x (nT r)) : Ev (d + 3) 104 [.ref 1000, .int x] μ Q = (∀ x, mX μ ≤ x → Q none (uX μ x)) := by
  have hW0 := hW
  obtain ⟨w0, w1, w2, w3, w4, w5, w6, w7, w8, w9, w10, w11, w12, w13, w14, w15⟩ := hW
  have hS0 := w12
  obtain ⟨q0, q1, q2, q3, q4, q5, q6, q7, q8, q9, q10, q11, q12, q13, q14, q15⟩ := w12
  have hB9 := hB
  obtain ⟨b1, b2, b3, b4, b5, b6, b7, b8⟩ := hB
  have hO0 := hO
  obtain ⟨o2, o6, o387, oT, o1708, oO, o1741, oF, o1, oq1, oq6, o0, ol1, ol40, oV, oN1, oP1, oF1⟩ := hO
  have hn : mI μ s 1 = nI (nM r) := b1.trans o2
  have hq9 : mI μ (s + 2) 1 = nI (nQ r) := b6.trans o1
  have hV := b7.ok' oV
  rw [in_104]
  simp (disch := first | omega | rfl) only [e_104_0, e_104_1, e_104_2, e_104_5, e_104_6, e_104_9, e_104_12, e_104_13, e_104_14, w0, w1, w2, w3, w4, w5, w6, w7, w8, w9, w10, q1, q2, q3, q4, q5, q6, q7, q8, q9, q10, q11, q12, q13, q14, q15, b1, b2, b3, b4, b5, b6, o2, o387, o1708, o1741, o1, o0, ge1, ule_t, true_or, or_true, nI_add, nI_mul, nI_sub, nI_clamp, nI_lt_t, nI_lt_f, nI_le_t, nI_le_f, nI_eq_t, nI_eq_f, vp_nI, tI, fI, not_true, not_false_iff, true_and, and_true, Classical.not_not, mS_uI, mS_uA, mS_uJ, mS_uR, mS_uX, mR_uI, mR_uA, mR_uJ, mR_uX, mX_uI, mX_uA, mX_uJ, mX_uR, mI_s, mI_n, mI_A, mI_An, mI_uJ, mI_uR, mI_uX, mJ_uI, mJ_uA, mJ_uR, mJ_uX, onR_s, kC_v, kC_n, kC_t, ul0, ula1, ula2, ula3, ula4, ulb2, ulb3, ulb4, ulc2, ulc3, ulc4, ule4, ulf3, ulf4, c_151f hW0 hB9 hO0 hx, TT_104]
theorem c_105 (hW : ShR μ s c) (hB : RelB μ s r) (hO : okR r) (hC : RelC μ c r) (ht : t < nT r) (hk : k < nZ r t) (hw : w < 4) : Ev (d + 3) 105 [.ref 1000, .int (nI t), .int (nI k), .int (nI w)] μ Q = Q (some (some (.int (mCmd r t k w)))) μ := by
  have h1 := (hC.1 t ht).1
  have hc := hW.2.2.2.2.2.2.2.2.2.2.2.2.2.1
  have hW0 := hW
  obtain ⟨w0, w1, w2, w3, w4, w5, w6, w7, w8, w9, w10, w11, w12, w13, w14, w15⟩ := hW
  have hS0 := w12
  obtain ⟨q0, q1, q2, q3, q4, q5, q6, q7, q8, q9, q10, q11, q12, q13, q14, q15⟩ := w12
  have hB9 := hB
  obtain ⟨b1, b2, b3, b4, b5, b6, b7, b8⟩ := hB
  have hO0 := hO
  obtain ⟨o2, o6, o387, oT, o1708, oO, o1741, oF, o1, oq1, oq6, o0, ol1, ol40, oV, oN1, oP1, oF1⟩ := hO
  have hn : mI μ s 1 = nI (nM r) := b1.trans o2
  have hq9 : mI μ (s + 2) 1 = nI (nQ r) := b6.trans o1
  have hV := b7.ok' oV
  have hc0 := hc
  obtain ⟨r0, r1, r2, r3, r4, r5, r6, r7, r8, r9⟩ := hc
  obtain ⟨z1, z2, z3⟩ := okP_z oP1 ht
  rw [in_105]
  simp (disch := first | omega | rfl) only [e_105_0, e_105_1, e_105_2, e_105_5, e_105_6, e_105_7, e_105_8, e_105_11, e_105_14, e_105_15, e_105_16, e_105_17, e_105_18, e_105_21, e_105_24, e_105_25, e_105_26, e_105_27, e_105_28, e_105_29, e_105_32, e_105_35, e_105_37, e_105_38, e_105_39, e_105_42, e_105_43, e_105_44, e_105_45, e_105_48, w0, w1, w2, w3, w4, w5, w6, w7, w8, w9, w10, q1, q2, q3, q4, q5, q6, q7, q8, q9, q10, q11, q12, q13, q14, q15, b1, b2, b3, b4, b5, b6, o2, o387, o1708, o1741, o1, o0, ge1, ule_t, true_or, or_true, nI_add, nI_mul, nI_sub, nI_clamp, nI_lt_t, nI_lt_f, nI_le_t, nI_le_f, nI_eq_t, nI_eq_f, vp_nI, tI, fI, not_true, not_false_iff, true_and, and_true, Classical.not_not, mS_uI, mS_uA, mS_uJ, mS_uR, mS_uX, mR_uI, mR_uA, mR_uJ, mR_uX, mX_uI, mX_uA, mX_uJ, mX_uR, mI_s, mI_n, mI_A, mI_An, mI_uJ, mI_uR, mI_uX, mJ_uI, mJ_uA, mJ_uR, mJ_uX, onR_s, kC_v, kC_n, kC_t, ul0, ula1, ula2, ula3, ula4, ulb2, ulb3, ulb4, ulc2, ulc3, ulc4, ule4, ulf3, ulf4, r1, r2, r3, r4, r5, r6, r7, r8, r9, c_151t hW0 hB9 hO0 ht, h1, z1, s_155, good_is hk (by omega), good_ik (show w ≤ 3 by omega) (by omega), bI_T, c_67 hc0 hC hO0 ht hk hw]
theorem c_105g (hW : ShR μ s c) (hB : RelB μ s r) (hO : okR r) (hC : RelC μ c r) (ht : t < nT r) (hk : k < nZ r t) (hx : bad x 4) : Ev (d + 3) 105 [.ref 1000, .int (nI t), .int (nI k), .int x] μ Q = Q (some (some (.int (-2)))) μ := by
  have h1 := (hC.1 t ht).1
  have hc := hW.2.2.2.2.2.2.2.2.2.2.2.2.2.1
  have hW0 := hW
  obtain ⟨w0, w1, w2, w3, w4, w5, w6, w7, w8, w9, w10, w11, w12, w13, w14, w15⟩ := hW
  have hS0 := w12
  obtain ⟨q0, q1, q2, q3, q4, q5, q6, q7, q8, q9, q10, q11, q12, q13, q14, q15⟩ := w12
  have hB9 := hB
  obtain ⟨b1, b2, b3, b4, b5, b6, b7, b8⟩ := hB
  have hO0 := hO
  obtain ⟨o2, o6, o387, oT, o1708, oO, o1741, oF, o1, oq1, oq6, o0, ol1, ol40, oV, oN1, oP1, oF1⟩ := hO
  have hn : mI μ s 1 = nI (nM r) := b1.trans o2
  have hq9 : mI μ (s + 2) 1 = nI (nQ r) := b6.trans o1
  have hV := b7.ok' oV
  have hc0 := hc
  obtain ⟨r0, r1, r2, r3, r4, r5, r6, r7, r8, r9⟩ := hc
  obtain ⟨z1, z2, z3⟩ := okP_z oP1 ht
  rw [in_105]
  simp (disch := first | omega | rfl) only [e_105_0, e_105_1, e_105_2, e_105_5, e_105_6, e_105_7, e_105_8, e_105_11, e_105_14, e_105_15, e_105_16, e_105_17, e_105_18, e_105_21, e_105_24, e_105_25, e_105_26, e_105_27, e_105_28, e_105_29, e_105_32, e_105_35, e_105_37, e_105_38, e_105_39, e_105_42, e_105_43, e_105_44, e_105_45, e_105_48, w0, w1, w2, w3, w4, w5, w6, w7, w8, w9, w10, q1, q2, q3, q4, q5, q6, q7, q8, q9, q10, q11, q12, q13, q14, q15, b1, b2, b3, b4, b5, b6, o2, o387, o1708, o1741, o1, o0, ge1, ule_t, true_or, or_true, nI_add, nI_mul, nI_sub, nI_clamp, nI_lt_t, nI_lt_f, nI_le_t, nI_le_f, nI_eq_t, nI_eq_f, vp_nI, tI, fI, not_true, not_false_iff, true_and, and_true, Classical.not_not, mS_uI, mS_uA, mS_uJ, mS_uR, mS_uX, mR_uI, mR_uA, mR_uJ, mR_uX, mX_uI, mX_uA, mX_uJ, mX_uR, mI_s, mI_n, mI_A, mI_An, mI_uJ, mI_uR, mI_uX, mJ_uI, mJ_uA, mJ_uR, mJ_uX, onR_s, kC_v, kC_n, kC_t, ul0, ula1, ula2, ula3, ula4, ulb2, ulb3, ulb4, ulc2, ulc3, ulc4, ule4, ulf3, ulf4, r1, r2, r3, r4, r5, r6, r7, r8, r9, c_151t hW0 hB9 hO0 ht, h1, z1, s_155, good_is hk (by omega), bad_ik hx rfl (by omega), bI_T, bI_F]
theorem c_105f (hW : ShR μ s c) (hB : RelB μ s r) (hO : okR r) (hC : RelC μ c r) (ht : t < nT r) (hx : bad x (nZ r t)) : Ev (d + 3) 105 [.ref 1000, .int (nI t), .int x, .int y] μ Q = Q (some (some (.int (-1)))) μ := by
  have h1 := (hC.1 t ht).1
  have hc := hW.2.2.2.2.2.2.2.2.2.2.2.2.2.1
  have hW0 := hW
  obtain ⟨w0, w1, w2, w3, w4, w5, w6, w7, w8, w9, w10, w11, w12, w13, w14, w15⟩ := hW
  have hS0 := w12
  obtain ⟨q0, q1, q2, q3, q4, q5, q6, q7, q8, q9, q10, q11, q12, q13, q14, q15⟩ := w12
  have hB9 := hB
  obtain ⟨b1, b2, b3, b4, b5, b6, b7, b8⟩ := hB
  have hO0 := hO
  obtain ⟨o2, o6, o387, oT, o1708, oO, o1741, oF, o1, oq1, oq6, o0, ol1, ol40, oV, oN1, oP1, oF1⟩ := hO
  have hn : mI μ s 1 = nI (nM r) := b1.trans o2
  have hq9 : mI μ (s + 2) 1 = nI (nQ r) := b6.trans o1
  have hV := b7.ok' oV
  have hc0 := hc
  obtain ⟨r0, r1, r2, r3, r4, r5, r6, r7, r8, r9⟩ := hc
  obtain ⟨z1, z2, z3⟩ := okP_z oP1 ht
  rw [in_105]
  simp (disch := first | omega | rfl) only [e_105_0, e_105_1, e_105_2, e_105_5, e_105_6, e_105_7, e_105_8, e_105_11, e_105_14, e_105_15, e_105_16, e_105_17, e_105_18, e_105_21, e_105_24, e_105_25, e_105_26, e_105_27, e_105_28, e_105_29, e_105_32, e_105_35, e_105_37, e_105_38, e_105_39, e_105_42, e_105_43, e_105_44, e_105_45, e_105_48, w0, w1, w2, w3, w4, w5, w6, w7, w8, w9, w10, q1, q2, q3, q4, q5, q6, q7, q8, q9, q10, q11, q12, q13, q14, q15, b1, b2, b3, b4, b5, b6, o2, o387, o1708, o1741, o1, o0, ge1, ule_t, true_or, or_true, nI_add, nI_mul, nI_sub, nI_clamp, nI_lt_t, nI_lt_f, nI_le_t, nI_le_f, nI_eq_t, nI_eq_f, vp_nI, tI, fI, not_true, not_false_iff, true_and, and_true, Classical.not_not, mS_uI, mS_uA, mS_uJ, mS_uR, mS_uX, mR_uI, mR_uA, mR_uJ, mR_uX, mX_uI, mX_uA, mX_uJ, mX_uR, mI_s, mI_n, mI_A, mI_An, mI_uJ, mI_uR, mI_uX, mJ_uI, mJ_uA, mJ_uR, mJ_uX, onR_s, kC_v, kC_n, kC_t, ul0, ula1, ula2, ula3, ula4, ulb2, ulb3, ulb4, ulc2, ulc3, ulc4, ule4, ulf3, ulf4, r1, r2, r3, r4, r5, r6, r7, r8, r9, c_151t hW0 hB9 hO0 ht, h1, z1, s_155, bad_is hx (by omega), bI_T, bI_F]
theorem c_105t (hW : ShR μ s c) (hB : RelB μ s r) (hO : okR r) (hx : bad x (nT r)) : Ev (d + 3) 105 [.ref 1000, .int x, .int y, .int g] μ Q = (∀ x, mX μ ≤ x → Q none (uX μ x)) := by
  have hW0 := hW
  obtain ⟨w0, w1, w2, w3, w4, w5, w6, w7, w8, w9, w10, w11, w12, w13, w14, w15⟩ := hW
  have hS0 := w12
  obtain ⟨q0, q1, q2, q3, q4, q5, q6, q7, q8, q9, q10, q11, q12, q13, q14, q15⟩ := w12
  have hB9 := hB
  obtain ⟨b1, b2, b3, b4, b5, b6, b7, b8⟩ := hB
  have hO0 := hO
  obtain ⟨o2, o6, o387, oT, o1708, oO, o1741, oF, o1, oq1, oq6, o0, ol1, ol40, oV, oN1, oP1, oF1⟩ := hO
  have hn : mI μ s 1 = nI (nM r) := b1.trans o2
  have hq9 : mI μ (s + 2) 1 = nI (nQ r) := b6.trans o1
  have hV := b7.ok' oV
  rw [in_105]
  simp (disch := first | omega | rfl) only [e_105_0, e_105_1, e_105_2, e_105_5, e_105_6, e_105_7, e_105_8, e_105_11, e_105_14, e_105_15, e_105_16, e_105_17, e_105_18, e_105_21, e_105_24, e_105_25, e_105_26, e_105_27, e_105_28, e_105_29, e_105_32, e_105_35, e_105_37, e_105_38, e_105_39, e_105_42, e_105_43, e_105_44, e_105_45, e_105_48, w0, w1, w2, w3, w4, w5, w6, w7, w8, w9, w10, q1, q2, q3, q4, q5, q6, q7, q8, q9, q10, q11, q12, q13, q14, q15, b1, b2, b3, b4, b5, b6, o2, o387, o1708, o1741, o1, o0, ge1, ule_t, true_or, or_true, nI_add, nI_mul, nI_sub, nI_clamp, nI_lt_t, nI_lt_f, nI_le_t, nI_le_f, nI_eq_t, nI_eq_f, vp_nI, tI, fI, not_true, not_false_iff, true_and, and_true, Classical.not_not, mS_uI, mS_uA, mS_uJ, mS_uR, mS_uX, mR_uI, mR_uA, mR_uJ, mR_uX, mX_uI, mX_uA, mX_uJ, mX_uR, mI_s, mI_n, mI_A, mI_An, mI_uJ, mI_uR, mI_uX, mJ_uI, mJ_uA, mJ_uR, mJ_uX, onR_s, kC_v, kC_n, kC_t, ul0, ula1, ula2, ula3, ula4, ulb2, ulb3, ulb4, ulc2, ulc3, ulc4, ule4, ulf3, ulf4, c_151f hW0 hB9 hO0 hx, TT_105]
theorem c_94 (hW : ShR μ s c) (hB : RelB μ s r) (hO : okR r) : Ev (d + 1) 94 [.ref 1000] μ Q = Q (some (some (.int (mI μ 1000 7)))) μ := by
  have hW0 := hW
  obtain ⟨w0, w1, w2, w3, w4, w5, w6, w7, w8, w9, w10, w11, w12, w13, w14, w15⟩ := hW
  have hS0 := w12
  obtain ⟨q0, q1, q2, q3, q4, q5, q6, q7, q8, q9, q10, q11, q12, q13, q14, q15⟩ := w12
  have hB9 := hB
  obtain ⟨b1, b2, b3, b4, b5, b6, b7, b8⟩ := hB
  have hO0 := hO
  obtain ⟨o2, o6, o387, oT, o1708, oO, o1741, oF, o1, oq1, oq6, o0, ol1, ol40, oV, oN1, oP1, oF1⟩ := hO
  have hn : mI μ s 1 = nI (nM r) := b1.trans o2
  have hq9 : mI μ (s + 2) 1 = nI (nQ r) := b6.trans o1
  have hV := b7.ok' oV
  rw [in_94]
  simp (disch := first | omega | rfl) only [e_94_0, e_94_1, e_94_4, w0, w1, w2, w3, w4, w5, w6, w7, w8, w9, w10, q1, q2, q3, q4, q5, q6, q7, q8, q9, q10, q11, q12, q13, q14, q15, b1, b2, b3, b4, b5, b6, o2, o387, o1708, o1741, o1, o0, ge1, ule_t, true_or, or_true, nI_add, nI_mul, nI_sub, nI_clamp, nI_lt_t, nI_lt_f, nI_le_t, nI_le_f, nI_eq_t, nI_eq_f, vp_nI, tI, fI, not_true, not_false_iff, true_and, and_true, Classical.not_not, mS_uI, mS_uA, mS_uJ, mS_uR, mS_uX, mR_uI, mR_uA, mR_uJ, mR_uX, mX_uI, mX_uA, mX_uJ, mX_uR, mI_s, mI_n, mI_A, mI_An, mI_uJ, mI_uR, mI_uX, mJ_uI, mJ_uA, mJ_uR, mJ_uX, onR_s, kC_v, kC_n, kC_t, ul0, ula1, ula2, ula3, ula4, ulb2, ulb3, ulb4, ulc2, ulc3, ulc4, ule4, ulf3, ulf4]
theorem c_99 (hW : ShR μ s c) (hB : RelB μ s r) (hO : okR r) : Ev (d + 1) 99 [.ref 1000] μ Q = Q (some (some (.int (mI μ 1000 4)))) μ := by
  have hW0 := hW
  obtain ⟨w0, w1, w2, w3, w4, w5, w6, w7, w8, w9, w10, w11, w12, w13, w14, w15⟩ := hW
  have hS0 := w12
  obtain ⟨q0, q1, q2, q3, q4, q5, q6, q7, q8, q9, q10, q11, q12, q13, q14, q15⟩ := w12
  have hB9 := hB
  obtain ⟨b1, b2, b3, b4, b5, b6, b7, b8⟩ := hB
  have hO0 := hO
  obtain ⟨o2, o6, o387, oT, o1708, oO, o1741, oF, o1, oq1, oq6, o0, ol1, ol40, oV, oN1, oP1, oF1⟩ := hO
  have hn : mI μ s 1 = nI (nM r) := b1.trans o2
  have hq9 : mI μ (s + 2) 1 = nI (nQ r) := b6.trans o1
  have hV := b7.ok' oV
  rw [in_99]
  simp (disch := first | omega | rfl) only [e_99_0, e_99_1, e_99_4, w0, w1, w2, w3, w4, w5, w6, w7, w8, w9, w10, q1, q2, q3, q4, q5, q6, q7, q8, q9, q10, q11, q12, q13, q14, q15, b1, b2, b3, b4, b5, b6, o2, o387, o1708, o1741, o1, o0, ge1, ule_t, true_or, or_true, nI_add, nI_mul, nI_sub, nI_clamp, nI_lt_t, nI_lt_f, nI_le_t, nI_le_f, nI_eq_t, nI_eq_f, vp_nI, tI, fI, not_true, not_false_iff, true_and, and_true, Classical.not_not, mS_uI, mS_uA, mS_uJ, mS_uR, mS_uX, mR_uI, mR_uA, mR_uJ, mR_uX, mX_uI, mX_uA, mX_uJ, mX_uR, mI_s, mI_n, mI_A, mI_An, mI_uJ, mI_uR, mI_uX, mJ_uI, mJ_uA, mJ_uR, mJ_uX, onR_s, kC_v, kC_n, kC_t, ul0, ula1, ula2, ula3, ula4, ulb2, ulb3, ulb4, ulc2, ulc3, ulc4, ule4, ulf3, ulf4]
theorem l_133 (hW : ShR μ s c) (hB : RelB μ s r) (hO : okR r) {a : Int32} (hv : vf_n64 (FP.ddiv (FP.i2d (nI (fSm (rW r) (nM r)))) (FP.i2d a))) : ∀ f k, k + f = nM r → EM 133 (d + 1) 18 [some (.ref 1000), some (.int a), some (.int (nI (fSm (rW r) k))), some (.int (nI k))] [] μ (0, 0) Q = Q (some (some (.double (FP.ddiv (FP.i2d (nI (fSm (rW r) (nM r)))) (FP.i2d a))))) μ := by
  have hV9 := hO.2.2.2.2.2.2.2.2.2.2.2.2.2.2.1
  have hW0 := hW
  obtain ⟨w0, w1, w2, w3, w4, w5, w6, w7, w8, w9, w10, w11, w12, w13, w14, w15⟩ := hW
  have hS0 := w12
  obtain ⟨q0, q1, q2, q3, q4, q5, q6, q7, q8, q9, q10, q11, q12, q13, q14, q15⟩ := w12
  have hB9 := hB
  obtain ⟨b1, b2, b3, b4, b5, b6, b7, b8⟩ := hB
  have hO0 := hO
  obtain ⟨o2, o6, o387, oT, o1708, oO, o1741, oF, o1, oq1, oq6, o0, ol1, ol40, oV, oN1, oP1, oF1⟩ := hO
  have hn : mI μ s 1 = nI (nM r) := b1.trans o2
  have hq9 : mI μ (s + 2) 1 = nI (nQ r) := b6.trans o1
  have hV := b7.ok' oV
  intro f
  induction f with
  | zero =>
    intro k hk
    obtain rfl : k = nM r := by omega
    rw [e_133_18]
    simp (disch := first | omega | rfl) only [e_133_0, e_133_1, e_133_4, e_133_7, e_133_8, e_133_9, e_133_12, e_133_13, e_133_14, e_133_15, e_133_16, e_133_17, e_133_19, e_133_20, e_133_23, e_133_26, e_133_29, e_133_30, e_133_33, e_133_36, e_133_37, e_133_38, e_133_41, e_133_44, e_133_45, e_133_46, e_133_49, e_133_52, e_133_53, e_133_54, e_133_57, e_133_58, e_133_59, e_133_62, e_133_65, e_133_66, e_133_67, e_133_68, e_133_69, e_133_70, w0, w1, w2, w3, w4, w5, w6, w7, w8, w9, w10, q1, q2, q3, q4, q5, q6, q7, q8, q9, q10, q11, q12, q13, q14, q15, b1, b2, b3, b4, b5, b6, o2, o387, o1708, o1741, o1, o0, ge1, ule_t, true_or, or_true, nI_add, nI_mul, nI_sub, nI_clamp, nI_lt_t, nI_lt_f, nI_le_t, nI_le_f, nI_eq_t, nI_eq_f, vp_nI, tI, fI, not_true, not_false_iff, true_and, and_true, Classical.not_not, mS_uI, mS_uA, mS_uJ, mS_uR, mS_uX, mR_uI, mR_uA, mR_uJ, mR_uX, mX_uI, mX_uA, mX_uJ, mX_uR, mI_s, mI_n, mI_A, mI_An, mI_uJ, mI_uR, mI_uX, mJ_uI, mJ_uA, mJ_uR, mJ_uX, onR_s, kC_v, kC_n, kC_t, ul0, ula1, ula2, ula3, ula4, ulb2, ulb3, ulb4, ulc2, ulc3, ulc4, ule4, ulf3, ulf4, hv]
  | succ f ih =>
    intro k hk
    rw [e_133_18]
    have hm : k < nM r := by omega
    have hi := ih (k + 1) (by omega)
    have hs := fSm_le oV k (by omega)
    have vE := okBE oV hm
    have hk1 := (b7 k hm).1 1 (by omega)
    have hk2 := (b7 k hm).1 2 (by omega)
    rw [vE.2.1] at hk1
    by_cases ha : rW r k 2 = nI 0
    · rw [fSm, if_pos ha, Nat.add_zero] at hi
      simp (disch := first | omega | rfl) only [e_133_0, e_133_1, e_133_4, e_133_7, e_133_8, e_133_9, e_133_12, e_133_13, e_133_14, e_133_15, e_133_16, e_133_17, e_133_19, e_133_20, e_133_23, e_133_26, e_133_29, e_133_30, e_133_33, e_133_36, e_133_37, e_133_38, e_133_41, e_133_44, e_133_45, e_133_46, e_133_49, e_133_52, e_133_53, e_133_54, e_133_57, e_133_58, e_133_59, e_133_62, e_133_65, e_133_66, e_133_67, e_133_68, e_133_69, e_133_70, w0, w1, w2, w3, w4, w5, w6, w7, w8, w9, w10, q1, q2, q3, q4, q5, q6, q7, q8, q9, q10, q11, q12, q13, q14, q15, b1, b2, b3, b4, b5, b6, o2, o387, o1708, o1741, o1, o0, ge1, ule_t, true_or, or_true, nI_add, nI_mul, nI_sub, nI_clamp, nI_lt_t, nI_lt_f, nI_le_t, nI_le_f, nI_eq_t, nI_eq_f, vp_nI, tI, fI, not_true, not_false_iff, true_and, and_true, Classical.not_not, mS_uI, mS_uA, mS_uJ, mS_uR, mS_uX, mR_uI, mR_uA, mR_uJ, mR_uX, mX_uI, mX_uA, mX_uJ, mX_uR, mI_s, mI_n, mI_A, mI_An, mI_uJ, mI_uR, mI_uX, mJ_uI, mJ_uA, mJ_uR, mJ_uX, onR_s, kC_v, kC_n, kC_t, ul0, ula1, ula2, ula3, ula4, ulb2, ulb3, ulb4, ulc2, ulc3, ulc4, ule4, ulf3, ulf4, cv0, cv1, cv2, cv3, cv4, cv5, cv6, cvrec, hk2, ha]
      exact hi
    · rw [fSm, if_neg ha] at hi
      simp (disch := first | omega | rfl) only [e_133_0, e_133_1, e_133_4, e_133_7, e_133_8, e_133_9, e_133_12, e_133_13, e_133_14, e_133_15, e_133_16, e_133_17, e_133_19, e_133_20, e_133_23, e_133_26, e_133_29, e_133_30, e_133_33, e_133_36, e_133_37, e_133_38, e_133_41, e_133_44, e_133_45, e_133_46, e_133_49, e_133_52, e_133_53, e_133_54, e_133_57, e_133_58, e_133_59, e_133_62, e_133_65, e_133_66, e_133_67, e_133_68, e_133_69, e_133_70, w0, w1, w2, w3, w4, w5, w6, w7, w8, w9, w10, q1, q2, q3, q4, q5, q6, q7, q8, q9, q10, q11, q12, q13, q14, q15, b1, b2, b3, b4, b5, b6, o2, o387, o1708, o1741, o1, o0, ge1, ule_t, true_or, or_true, nI_add, nI_mul, nI_sub, nI_clamp, nI_lt_t, nI_lt_f, nI_le_t, nI_le_f, nI_eq_t, nI_eq_f, vp_nI, tI, fI, not_true, not_false_iff, true_and, and_true, Classical.not_not, mS_uI, mS_uA, mS_uJ, mS_uR, mS_uX, mR_uI, mR_uA, mR_uJ, mR_uX, mX_uI, mX_uA, mX_uJ, mX_uR, mI_s, mI_n, mI_A, mI_An, mI_uJ, mI_uR, mI_uX, mJ_uI, mJ_uA, mJ_uR, mJ_uX, onR_s, kC_v, kC_n, kC_t, ul0, ula1, ula2, ula3, ula4, ulb2, ulb3, ulb4, ulc2, ulc3, ulc4, ule4, ulf3, ulf4, cv0, cv1, cv2, cv3, cv4, cv5, cv6, cvrec, hk1, hk2, ha]
      exact hi
theorem c_133z (hW : ShR μ s c) (hB : RelB μ s r) (hO : okR r) (h : fActs (rW r) (nM r) = 0) : Ev (d + 2) 133 [.ref 1000] μ Q = Q (some (some (.double FP.dconst0))) μ := by
  have h79 := fun (d : Nat) (Q : Po) => c_79 (d := d) (Q := Q) hW hB hO
  rw [h] at h79
  have hW0 := hW
  obtain ⟨w0, w1, w2, w3, w4, w5, w6, w7, w8, w9, w10, w11, w12, w13, w14, w15⟩ := hW
  have hS0 := w12
  obtain ⟨q0, q1, q2, q3, q4, q5, q6, q7, q8, q9, q10, q11, q12, q13, q14, q15⟩ := w12
  have hB9 := hB
  obtain ⟨b1, b2, b3, b4, b5, b6, b7, b8⟩ := hB
  have hO0 := hO
  obtain ⟨o2, o6, o387, oT, o1708, oO, o1741, oF, o1, oq1, oq6, o0, ol1, ol40, oV, oN1, oP1, oF1⟩ := hO
  have hn : mI μ s 1 = nI (nM r) := b1.trans o2
  have hq9 : mI μ (s + 2) 1 = nI (nQ r) := b6.trans o1
  have hV := b7.ok' oV
  rw [in_133]
  simp (disch := first | omega | rfl) only [e_133_0, e_133_1, e_133_4, e_133_7, e_133_8, e_133_9, e_133_12, e_133_13, e_133_14, e_133_15, e_133_16, e_133_17, e_133_19, e_133_20, e_133_23, e_133_26, e_133_29, e_133_30, e_133_33, e_133_36, e_133_37, e_133_38, e_133_41, e_133_44, e_133_45, e_133_46, e_133_49, e_133_52, e_133_53, e_133_54, e_133_57, e_133_58, e_133_59, e_133_62, e_133_65, e_133_66, e_133_67, e_133_68, e_133_69, e_133_70, w0, w1, w2, w3, w4, w5, w6, w7, w8, w9, w10, q1, q2, q3, q4, q5, q6, q7, q8, q9, q10, q11, q12, q13, q14, q15, b1, b2, b3, b4, b5, b6, o2, o387, o1708, o1741, o1, o0, ge1, ule_t, true_or, or_true, nI_add, nI_mul, nI_sub, nI_clamp, nI_lt_t, nI_lt_f, nI_le_t, nI_le_f, nI_eq_t, nI_eq_f, vp_nI, tI, fI, not_true, not_false_iff, true_and, and_true, Classical.not_not, mS_uI, mS_uA, mS_uJ, mS_uR, mS_uX, mR_uI, mR_uA, mR_uJ, mR_uX, mX_uI, mX_uA, mX_uJ, mX_uR, mI_s, mI_n, mI_A, mI_An, mI_uJ, mI_uR, mI_uX, mJ_uI, mJ_uA, mJ_uR, mJ_uX, onR_s, kC_v, kC_n, kC_t, ul0, ula1, ula2, ula3, ula4, ulb2, ulb3, ulb4, ulc2, ulc3, ulc4, ule4, ulf3, ulf4, h79]
theorem c_133 (hW : ShR μ s c) (hB : RelB μ s r) (hO : okR r) (h : ¬ fActs (rW r) (nM r) = 0) : Ev (d + 2) 133 [.ref 1000] μ Q = Q (some (some (.double (fMean r)))) μ := by
  have h79 := fun (d : Nat) (Q : Po) => c_79 (d := d) (Q := Q) hW hB hO
  have h2 := fActs_le (V := rW r) (nM r)
  have hl := l_133 (d := d) (Q := Q) hW hB hO (fMean_vf hO h) (nM r) 0 (by omega)
  have hW0 := hW
  obtain ⟨w0, w1, w2, w3, w4, w5, w6, w7, w8, w9, w10, w11, w12, w13, w14, w15⟩ := hW
  have hS0 := w12
  obtain ⟨q0, q1, q2, q3, q4, q5, q6, q7, q8, q9, q10, q11, q12, q13, q14, q15⟩ := w12
  have hB9 := hB
  obtain ⟨b1, b2, b3, b4, b5, b6, b7, b8⟩ := hB
  have hO0 := hO
  obtain ⟨o2, o6, o387, oT, o1708, oO, o1741, oF, o1, oq1, oq6, o0, ol1, ol40, oV, oN1, oP1, oF1⟩ := hO
  have hn : mI μ s 1 = nI (nM r) := b1.trans o2
  have hq9 : mI μ (s + 2) 1 = nI (nQ r) := b6.trans o1
  have hV := b7.ok' oV
  rw [in_133]
  simp (disch := first | omega | rfl) only [e_133_0, e_133_1, e_133_4, e_133_7, e_133_8, e_133_9, e_133_12, e_133_13, e_133_14, e_133_15, e_133_16, e_133_17, e_133_19, e_133_20, e_133_23, e_133_26, e_133_29, e_133_30, e_133_33, e_133_36, e_133_37, e_133_38, e_133_41, e_133_44, e_133_45, e_133_46, e_133_49, e_133_52, e_133_53, e_133_54, e_133_57, e_133_58, e_133_59, e_133_62, e_133_65, e_133_66, e_133_67, e_133_68, e_133_69, e_133_70, w0, w1, w2, w3, w4, w5, w6, w7, w8, w9, w10, q1, q2, q3, q4, q5, q6, q7, q8, q9, q10, q11, q12, q13, q14, q15, b1, b2, b3, b4, b5, b6, o2, o387, o1708, o1741, o1, o0, ge1, ule_t, true_or, or_true, nI_add, nI_mul, nI_sub, nI_clamp, nI_lt_t, nI_lt_f, nI_le_t, nI_le_f, nI_eq_t, nI_eq_f, vp_nI, tI, fI, not_true, not_false_iff, true_and, and_true, Classical.not_not, mS_uI, mS_uA, mS_uJ, mS_uR, mS_uX, mR_uI, mR_uA, mR_uJ, mR_uX, mX_uI, mX_uA, mX_uJ, mX_uR, mI_s, mI_n, mI_A, mI_An, mI_uJ, mI_uR, mI_uX, mJ_uI, mJ_uA, mJ_uR, mJ_uX, onR_s, kC_v, kC_n, kC_t, ul0, ula1, ula2, ula3, ula4, ulb2, ulb3, ulb4, ulc2, ulc3, ulc4, ule4, ulf3, ulf4, h79]
  exact hl
end LeftC
section LeftM
variable {d : Nat} {Q : Po} {μ : Mu} {m n p i j k t u N dn w : Nat} {x y z : Int32} {r : Nat → Int32} {l1 l2 l3 l4 l5 : Option Value}
theorem l_209 (hM : ShM μ) (hO : okR (mI μ 1302)) {xx : Int32} (h : ¬ x = nI 0) : ∀ f k, k + f = (nM (mI μ 1302)) → EM 209 (d + 2) 2 [some (.ref 1298), some (.int x), some (.int (nI k))] [] (uI μ 1298 0 xx) (0, 0) Q = Q (some (some (.int (fNm (mI μ 1300) x f k)))) (uI μ 1298 0 xx) := by
  have hM0 := hM
  obtain ⟨p1, p2, p3, p4, p5, p6, p7, p8, p9, p10, p11, p12, p13, p14, p15, p16, p17, p18, p19, p20, p21⟩ := hM
  have hO9 := hO
  obtain ⟨o2, o6, o387, oT, o1708, oO, o1741, oF, o1, oq1, oq6, o0, ol1, ol40, oV, oN1, oP1, oF1⟩ := hO
  intro f
  induction f with
  | zero =>
    intro k hk
    obtain rfl : k = (nM (mI μ 1302)) := by omega
    rw [e_209_2]
    simp (disch := first | omega | rfl) only [e_209_0, e_209_1, e_209_3, e_209_4, e_209_7, e_209_10, e_209_11, e_209_14, e_209_15, e_209_18, e_209_20, e_209_21, e_209_22, e_209_23, e_209_24, e_209_27, e_209_28, e_209_29, e_209_32, e_209_35, e_209_36, p1, p2, p3, p4, p5, p6, p7, p8, p9, p10, p11, p12, p13, p14, p15, p16, p17, p18, p19, p20, p21, o2, o387, o1708, o1741, o1, o0, ge1, ule_t, true_or, or_true, nI_add, nI_mul, nI_sub, nI_clamp, nI_lt_t, nI_lt_f, nI_le_t, nI_le_f, nI_eq_t, nI_eq_f, vp_nI, tI, fI, not_true, not_false_iff, true_and, and_true, Classical.not_not, mS_uI, mS_uA, mS_uJ, mS_uR, mS_uX, mR_uI, mR_uA, mR_uJ, mR_uX, mX_uI, mX_uA, mX_uJ, mX_uR, mI_s, mI_n, mI_A, mI_An, mI_uJ, mI_uR, mI_uX, mJ_uI, mJ_uA, mJ_uR, mJ_uX, onR_s, kC_v, kC_n, kC_t, mI_nf, mI_Anf, s_165 hM0, s_165 (ShM_u2 hM0), s_166 hM0, s_166 (ShM_u2 hM0), fNm]
  | succ f ih =>
    intro k hk
    rw [e_209_2]
    rw [fNm]
    by_cases h2 : mI μ 1300 (16 + k) = x
    · rw [if_pos h2]
      simp (disch := first | omega | rfl) only [e_209_0, e_209_1, e_209_3, e_209_4, e_209_7, e_209_10, e_209_11, e_209_14, e_209_15, e_209_18, e_209_20, e_209_21, e_209_22, e_209_23, e_209_24, e_209_27, e_209_28, e_209_29, e_209_32, e_209_35, e_209_36, p1, p2, p3, p4, p5, p6, p7, p8, p9, p10, p11, p12, p13, p14, p15, p16, p17, p18, p19, p20, p21, o2, o387, o1708, o1741, o1, o0, ge1, ule_t, true_or, or_true, nI_add, nI_mul, nI_sub, nI_clamp, nI_lt_t, nI_lt_f, nI_le_t, nI_le_f, nI_eq_t, nI_eq_f, vp_nI, tI, fI, not_true, not_false_iff, true_and, and_true, Classical.not_not, mS_uI, mS_uA, mS_uJ, mS_uR, mS_uX, mR_uI, mR_uA, mR_uJ, mR_uX, mX_uI, mX_uA, mX_uJ, mX_uR, mI_s, mI_n, mI_A, mI_An, mI_uJ, mI_uR, mI_uX, mJ_uI, mJ_uA, mJ_uR, mJ_uX, onR_s, kC_v, kC_n, kC_t, mI_nf, mI_Anf, s_165 hM0, s_165 (ShM_u2 hM0), s_166 hM0, s_166 (ShM_u2 hM0), h, h2]
    · rw [if_neg h2]
      simp (disch := first | omega | rfl) only [e_209_0, e_209_1, e_209_3, e_209_4, e_209_7, e_209_10, e_209_11, e_209_14, e_209_15, e_209_18, e_209_20, e_209_21, e_209_22, e_209_23, e_209_24, e_209_27, e_209_28, e_209_29, e_209_32, e_209_35, e_209_36, p1, p2, p3, p4, p5, p6, p7, p8, p9, p10, p11, p12, p13, p14, p15, p16, p17, p18, p19, p20, p21, o2, o387, o1708, o1741, o1, o0, ge1, ule_t, true_or, or_true, nI_add, nI_mul, nI_sub, nI_clamp, nI_lt_t, nI_lt_f, nI_le_t, nI_le_f, nI_eq_t, nI_eq_f, vp_nI, tI, fI, not_true, not_false_iff, true_and, and_true, Classical.not_not, mS_uI, mS_uA, mS_uJ, mS_uR, mS_uX, mR_uI, mR_uA, mR_uJ, mR_uX, mX_uI, mX_uA, mX_uJ, mX_uR, mI_s, mI_n, mI_A, mI_An, mI_uJ, mI_uR, mI_uX, mJ_uI, mJ_uA, mJ_uR, mJ_uX, onR_s, kC_v, kC_n, kC_t, mI_nf, mI_Anf, s_165 hM0, s_165 (ShM_u2 hM0), s_166 hM0, s_166 (ShM_u2 hM0), h, h2]
      exact ih (k + 1) (by omega)
theorem m_231 (hM : ShM μ) (hO : okR (mI μ 1302)) : Ev (d + 4) 231 [.ref 1298, .int x] μ Q = Q (some (some (.int (if x = nI 0 then -1 else fNm (mI μ 1300) x (nM (mI μ 1302)) 0)))) (uI μ 1298 0 (nI 0)) := by
  have hM0 := hM
  obtain ⟨p1, p2, p3, p4, p5, p6, p7, p8, p9, p10, p11, p12, p13, p14, p15, p16, p17, p18, p19, p20, p21⟩ := hM
  have hO9 := hO
  obtain ⟨o2, o6, o387, oT, o1708, oO, o1741, oF, o1, oq1, oq6, o0, ol1, ol40, oV, oN1, oP1, oF1⟩ := hO
  have h209 : ∀ (d : Nat) (Q : Po), Ev (d + 3) 209 [.ref 1298, .int x] (uI μ 1298 0 (nI 0)) Q = Q (some (some (.int (if x = nI 0 then -1 else fNm (mI μ 1300) x (nM (mI μ 1302)) 0)))) (uI μ 1298 0 (nI 0)) := fun d Q => by
    rw [in_209]
    by_cases h : x = nI 0
    · rw [if_pos h]
      rcases (by omega : (nM (mI μ 1302)) = 0 ∨ 0 < (nM (mI μ 1302))) with h0 | h0
      · rw [e_209_0, e_209_1, e_209_2]
        simp (disch := first | omega | rfl) only [e_209_0, e_209_1, e_209_3, e_209_4, e_209_7, e_209_10, e_209_11, e_209_14, e_209_15, e_209_18, e_209_20, e_209_21, e_209_22, e_209_23, e_209_24, e_209_27, e_209_28, e_209_29, e_209_32, e_209_35, e_209_36, p1, p2, p3, p4, p5, p6, p7, p8, p9, p10, p11, p12, p13, p14, p15, p16, p17, p18, p19, p20, p21, o2, o387, o1708, o1741, o1, o0, ge1, ule_t, true_or, or_true, nI_add, nI_mul, nI_sub, nI_clamp, nI_lt_t, nI_lt_f, nI_le_t, nI_le_f, nI_eq_t, nI_eq_f, vp_nI, tI, fI, not_true, not_false_iff, true_and, and_true, Classical.not_not, mS_uI, mS_uA, mS_uJ, mS_uR, mS_uX, mR_uI, mR_uA, mR_uJ, mR_uX, mX_uI, mX_uA, mX_uJ, mX_uR, mI_s, mI_n, mI_A, mI_An, mI_uJ, mI_uR, mI_uX, mJ_uI, mJ_uA, mJ_uR, mJ_uX, onR_s, kC_v, kC_n, kC_t, mI_nf, mI_Anf, s_165 hM0, s_165 (ShM_u2 hM0), s_166 hM0, s_166 (ShM_u2 hM0), h, h0]
      · rw [e_209_0, e_209_1, e_209_2]
        simp (disch := first | omega | rfl) only [e_209_0, e_209_1, e_209_3, e_209_4, e_209_7, e_209_10, e_209_11, e_209_14, e_209_15, e_209_18, e_209_20, e_209_21, e_209_22, e_209_23, e_209_24, e_209_27, e_209_28, e_209_29, e_209_32, e_209_35, e_209_36, p1, p2, p3, p4, p5, p6, p7, p8, p9, p10, p11, p12, p13, p14, p15, p16, p17, p18, p19, p20, p21, o2, o387, o1708, o1741, o1, o0, ge1, ule_t, true_or, or_true, nI_add, nI_mul, nI_sub, nI_clamp, nI_lt_t, nI_lt_f, nI_le_t, nI_le_f, nI_eq_t, nI_eq_f, vp_nI, tI, fI, not_true, not_false_iff, true_and, and_true, Classical.not_not, mS_uI, mS_uA, mS_uJ, mS_uR, mS_uX, mR_uI, mR_uA, mR_uJ, mR_uX, mX_uI, mX_uA, mX_uJ, mX_uR, mI_s, mI_n, mI_A, mI_An, mI_uJ, mI_uR, mI_uX, mJ_uI, mJ_uA, mJ_uR, mJ_uX, onR_s, kC_v, kC_n, kC_t, mI_nf, mI_Anf, s_165 hM0, s_165 (ShM_u2 hM0), s_166 hM0, s_166 (ShM_u2 hM0), h]
    · rw [if_neg h]
      simp (disch := first | omega | rfl) only [e_209_0, e_209_1, e_209_3, e_209_4, e_209_7, e_209_10, e_209_11, e_209_14, e_209_15, e_209_18, e_209_20, e_209_21, e_209_22, e_209_23, e_209_24, e_209_27, e_209_28, e_209_29, e_209_32, e_209_35, e_209_36, ge1, ule_t, true_or, or_true, nI_add, nI_mul, nI_sub, nI_clamp, nI_lt_t, nI_lt_f, nI_le_t, nI_le_f, nI_eq_t, nI_eq_f, vp_nI, tI, fI, not_true, not_false_iff, true_and, and_true, Classical.not_not]
      exact l_209 hM0 hO9 h (nM (mI μ 1302)) 0 (by omega)
  rw [in_231]
  simp (disch := first | omega | rfl) only [e_231_0, e_231_1, e_231_2, e_231_5, e_231_6, e_231_7, e_231_10, p1, p2, p3, p4, p5, p6, p7, p8, p9, p10, p11, p12, p13, p14, p15, p16, p17, p18, p19, p20, p21, o2, o387, o1708, o1741, o1, o0, ge1, ule_t, true_or, or_true, nI_add, nI_mul, nI_sub, nI_clamp, nI_lt_t, nI_lt_f, nI_le_t, nI_le_f, nI_eq_t, nI_eq_f, vp_nI, tI, fI, not_true, not_false_iff, true_and, and_true, Classical.not_not, mS_uI, mS_uA, mS_uJ, mS_uR, mS_uX, mR_uI, mR_uA, mR_uJ, mR_uX, mX_uI, mX_uA, mX_uJ, mX_uR, mI_s, mI_n, mI_A, mI_An, mI_uJ, mI_uR, mI_uX, mJ_uI, mJ_uA, mJ_uR, mJ_uX, onR_s, kC_v, kC_n, kC_t, mI_nf, mI_Anf, s_165 hM0, s_165 (ShM_u2 hM0), s_166 hM0, s_166 (ShM_u2 hM0), h209]
theorem m_222 (hM : ShM μ) (hO : okR (mI μ 1302)) : Ev (d + 1) 222 [.ref 1298] μ Q = Q (some (some (.int (mI μ 1298 21)))) (uI μ 1298 0 (nI 0)) := by
  have hM0 := hM
  obtain ⟨p1, p2, p3, p4, p5, p6, p7, p8, p9, p10, p11, p12, p13, p14, p15, p16, p17, p18, p19, p20, p21⟩ := hM
  have hO9 := hO
  obtain ⟨o2, o6, o387, oT, o1708, oO, o1741, oF, o1, oq1, oq6, o0, ol1, ol40, oV, oN1, oP1, oF1⟩ := hO
  rw [in_222]
  simp (disch := first | omega | rfl) only [e_222_0, e_222_1, e_222_2, e_222_5, e_222_6, e_222_9, p1, p2, p3, p4, p5, p6, p7, p8, p9, p10, p11, p12, p13, p14, p15, p16, p17, p18, p19, p20, p21, o2, o387, o1708, o1741, o1, o0, ge1, ule_t, true_or, or_true, nI_add, nI_mul, nI_sub, nI_clamp, nI_lt_t, nI_lt_f, nI_le_t, nI_le_f, nI_eq_t, nI_eq_f, vp_nI, tI, fI, not_true, not_false_iff, true_and, and_true, Classical.not_not, mS_uI, mS_uA, mS_uJ, mS_uR, mS_uX, mR_uI, mR_uA, mR_uJ, mR_uX, mX_uI, mX_uA, mX_uJ, mX_uR, mI_s, mI_n, mI_A, mI_An, mI_uJ, mI_uR, mI_uX, mJ_uI, mJ_uA, mJ_uR, mJ_uX, onR_s, kC_v, kC_n, kC_t, mI_nf, mI_Anf, s_165 hM0, s_165 (ShM_u2 hM0), s_166 hM0, s_166 (ShM_u2 hM0)]
theorem m_230 (hM : ShM μ) (hO : okR (mI μ 1302)) : Ev (d + 1) 230 [.ref 1298] μ Q = Q (some (some (.int (mI μ 1298 8)))) (uI μ 1298 0 (nI 0)) := by
  have hM0 := hM
  obtain ⟨p1, p2, p3, p4, p5, p6, p7, p8, p9, p10, p11, p12, p13, p14, p15, p16, p17, p18, p19, p20, p21⟩ := hM
  have hO9 := hO
  obtain ⟨o2, o6, o387, oT, o1708, oO, o1741, oF, o1, oq1, oq6, o0, ol1, ol40, oV, oN1, oP1, oF1⟩ := hO
  rw [in_230]
  simp (disch := first | omega | rfl) only [e_230_0, e_230_1, e_230_2, e_230_5, e_230_6, e_230_9, p1, p2, p3, p4, p5, p6, p7, p8, p9, p10, p11, p12, p13, p14, p15, p16, p17, p18, p19, p20, p21, o2, o387, o1708, o1741, o1, o0, ge1, ule_t, true_or, or_true, nI_add, nI_mul, nI_sub, nI_clamp, nI_lt_t, nI_lt_f, nI_le_t, nI_le_f, nI_eq_t, nI_eq_f, vp_nI, tI, fI, not_true, not_false_iff, true_and, and_true, Classical.not_not, mS_uI, mS_uA, mS_uJ, mS_uR, mS_uX, mR_uI, mR_uA, mR_uJ, mR_uX, mX_uI, mX_uA, mX_uJ, mX_uR, mI_s, mI_n, mI_A, mI_An, mI_uJ, mI_uR, mI_uX, mJ_uI, mJ_uA, mJ_uR, mJ_uX, onR_s, kC_v, kC_n, kC_t, mI_nf, mI_Anf, s_165 hM0, s_165 (ShM_u2 hM0), s_166 hM0, s_166 (ShM_u2 hM0)]
theorem l_259 (hM : ShM μ) (hO : okR (mI μ 1302)) : ∀ f k, k + f = (nM (mI μ 1302)) → EM 259 (d + 3) 11 [some (.ref 1298), some (.int (nI (fSm (rW (mI μ 1302)) k))), some (.int (nI (fActs (rW (mI μ 1302)) k))), some (.int (nI k))] [] μ (0, 0) Q = EM 259 (d + 3) 61 [some (.ref 1298), some (.int (nI (fSm (rW (mI μ 1302)) (nM (mI μ 1302))))), some (.int (nI (fActs (rW (mI μ 1302)) (nM (mI μ 1302))))), some (.int (nI (nM (mI μ 1302))))] [] μ (0, 0) Q := by
  have hM0 := hM
  obtain ⟨p1, p2, p3, p4, p5, p6, p7, p8, p9, p10, p11, p12, p13, p14, p15, p16, p17, p18, p19, p20, p21⟩ := hM
  have hO9 := hO
  obtain ⟨o2, o6, o387, oT, o1708, oO, o1741, oF, o1, oq1, oq6, o0, ol1, ol40, oV, oN1, oP1, oF1⟩ := hO
  intro f
  induction f with
  | zero =>
    intro k hk
    obtain rfl : k = (nM (mI μ 1302)) := by omega
    rw [e_259_11]
    simp (disch := first | omega | rfl) only [e_259_0, e_259_1, e_259_2, e_259_5, e_259_6, e_259_7, e_259_8, e_259_9, e_259_10, e_259_12, e_259_13, e_259_16, e_259_19, e_259_20, e_259_21, e_259_22, e_259_25, e_259_28, e_259_29, e_259_30, e_259_33, e_259_36, e_259_37, e_259_38, e_259_39, e_259_40, e_259_41, e_259_42, e_259_45, e_259_48, e_259_49, e_259_52, e_259_53, e_259_54, e_259_55, e_259_58, e_259_62, e_259_65, e_259_66, e_259_69, e_259_70, e_259_71, e_259_72, e_259_73, e_259_74, p1, p2, p3, p4, p5, p6, p7, p8, p9, p10, p11, p12, p13, p14, p15, p16, p17, p18, p19, p20, p21, o2, o387, o1708, o1741, o1, o0, ge1, ule_t, true_or, or_true, nI_add, nI_mul, nI_sub, nI_clamp, nI_lt_t, nI_lt_f, nI_le_t, nI_le_f, nI_eq_t, nI_eq_f, vp_nI, tI, fI, not_true, not_false_iff, true_and, and_true, Classical.not_not, mS_uI, mS_uA, mS_uJ, mS_uR, mS_uX, mR_uI, mR_uA, mR_uJ, mR_uX, mX_uI, mX_uA, mX_uJ, mX_uR, mI_s, mI_n, mI_A, mI_An, mI_uJ, mI_uR, mI_uX, mJ_uI, mJ_uA, mJ_uR, mJ_uX, onR_s, kC_v, kC_n, kC_t, mI_nf, mI_Anf, s_165 hM0, s_165 (ShM_u2 hM0), s_166 hM0, s_166 (ShM_u2 hM0)]
  | succ f ih =>
    intro k hk
    rw [e_259_11]
    have hm : k < (nM (mI μ 1302)) := by omega
    have hi := ih (k + 1) (by omega)
    have hs := fSm_le oV k (by omega)
    have ha2 := fActs_le (V := (rW (mI μ 1302))) k
    have vE := okBE oV hm
    have h168 := fun (d : Nat) (Q : Po) => s_168 (d := d) (Q := Q) hM0 (show k < 6 by omega) (okV_le oV (show k + 1 ≤ (nM (mI μ 1302)) by omega))
    have h169 := fun (d : Nat) (Q : Po) => s_169 (d := d) (Q := Q) hM0 (show k < 6 by omega)
    rw [vE.2.1] at h169
    by_cases ha : (rW (mI μ 1302)) k 2 = nI 0
    · simp only [bI_f (show ¬ vAct (rW (mI μ 1302)) k from fun z => z ha)] at h168
      rw [fSm, fActs, if_pos ha, if_pos ha, Nat.add_zero, Nat.add_zero] at hi
      simp (disch := first | omega | rfl) only [e_259_0, e_259_1, e_259_2, e_259_5, e_259_6, e_259_7, e_259_8, e_259_9, e_259_10, e_259_12, e_259_13, e_259_16, e_259_19, e_259_20, e_259_21, e_259_22, e_259_25, e_259_28, e_259_29, e_259_30, e_259_33, e_259_36, e_259_37, e_259_38, e_259_39, e_259_40, e_259_41, e_259_42, e_259_45, e_259_48, e_259_49, e_259_52, e_259_53, e_259_54, e_259_55, e_259_58, e_259_62, e_259_65, e_259_66, e_259_69, e_259_70, e_259_71, e_259_72, e_259_73, e_259_74, p1, p2, p3, p4, p5, p6, p7, p8, p9, p10, p11, p12, p13, p14, p15, p16, p17, p18, p19, p20, p21, o2, o387, o1708, o1741, o1, o0, ge1, ule_t, true_or, or_true, nI_add, nI_mul, nI_sub, nI_clamp, nI_lt_t, nI_lt_f, nI_le_t, nI_le_f, nI_eq_t, nI_eq_f, vp_nI, tI, fI, not_true, not_false_iff, true_and, and_true, Classical.not_not, mS_uI, mS_uA, mS_uJ, mS_uR, mS_uX, mR_uI, mR_uA, mR_uJ, mR_uX, mX_uI, mX_uA, mX_uJ, mX_uR, mI_s, mI_n, mI_A, mI_An, mI_uJ, mI_uR, mI_uX, mJ_uI, mJ_uA, mJ_uR, mJ_uX, onR_s, kC_v, kC_n, kC_t, mI_nf, mI_Anf, s_165 hM0, s_165 (ShM_u2 hM0), s_166 hM0, s_166 (ShM_u2 hM0), h168, Nat.add_zero]
      exact hi
    · simp only [bI_t (show vAct (rW (mI μ 1302)) k from ha)] at h168
      rw [fSm, fActs, if_neg ha, if_neg ha] at hi
      simp (disch := first | omega | rfl) only [e_259_0, e_259_1, e_259_2, e_259_5, e_259_6, e_259_7, e_259_8, e_259_9, e_259_10, e_259_12, e_259_13, e_259_16, e_259_19, e_259_20, e_259_21, e_259_22, e_259_25, e_259_28, e_259_29, e_259_30, e_259_33, e_259_36, e_259_37, e_259_38, e_259_39, e_259_40, e_259_41, e_259_42, e_259_45, e_259_48, e_259_49, e_259_52, e_259_53, e_259_54, e_259_55, e_259_58, e_259_62, e_259_65, e_259_66, e_259_69, e_259_70, e_259_71, e_259_72, e_259_73, e_259_74, p1, p2, p3, p4, p5, p6, p7, p8, p9, p10, p11, p12, p13, p14, p15, p16, p17, p18, p19, p20, p21, o2, o387, o1708, o1741, o1, o0, ge1, ule_t, true_or, or_true, nI_add, nI_mul, nI_sub, nI_clamp, nI_lt_t, nI_lt_f, nI_le_t, nI_le_f, nI_eq_t, nI_eq_f, vp_nI, tI, fI, not_true, not_false_iff, true_and, and_true, Classical.not_not, mS_uI, mS_uA, mS_uJ, mS_uR, mS_uX, mR_uI, mR_uA, mR_uJ, mR_uX, mX_uI, mX_uA, mX_uJ, mX_uR, mI_s, mI_n, mI_A, mI_An, mI_uJ, mI_uR, mI_uX, mJ_uI, mJ_uA, mJ_uR, mJ_uX, onR_s, kC_v, kC_n, kC_t, mI_nf, mI_Anf, s_165 hM0, s_165 (ShM_u2 hM0), s_166 hM0, s_166 (ShM_u2 hM0), h168, h169]
      exact hi
theorem m_259z (hM : ShM μ) (hO : okR (mI μ 1302)) (h : fActs (rW (mI μ 1302)) (nM (mI μ 1302)) = 0) : Ev (d + 4) 259 [.ref 1298] μ Q = Q (some (some (.double FP.dconst0))) (uI μ 1298 0 (nI 0)) := by
  have hl := l_259 (d := d) (Q := Q) (μ := (uI μ 1298 0 (nI 0))) (ShM_u2 hM) (by rw [mI_nf (by omega)]; exact hO) (nM (mI μ 1302)) 0 (by rw [mI_nf (by omega)]; omega)
  rw [mI_nf (by omega), h] at hl
  have hM0 := hM
  obtain ⟨p1, p2, p3, p4, p5, p6, p7, p8, p9, p10, p11, p12, p13, p14, p15, p16, p17, p18, p19, p20, p21⟩ := hM
  have hO9 := hO
  obtain ⟨o2, o6, o387, oT, o1708, oO, o1741, oF, o1, oq1, oq6, o0, ol1, ol40, oV, oN1, oP1, oF1⟩ := hO
  rw [in_259]
  simp (disch := first | omega | rfl) only [e_259_0, e_259_1, e_259_2, e_259_5, e_259_6, e_259_7, e_259_8, e_259_9, e_259_10, e_259_12, e_259_13, e_259_16, e_259_19, e_259_20, e_259_21, e_259_22, e_259_25, e_259_28, e_259_29, e_259_30, e_259_33, e_259_36, e_259_37, e_259_38, e_259_39, e_259_40, e_259_41, e_259_42, e_259_45, e_259_48, e_259_49, e_259_52, e_259_53, e_259_54, e_259_55, e_259_58, e_259_62, e_259_65, e_259_66, e_259_69, e_259_70, e_259_71, e_259_72, e_259_73, e_259_74, p1, p2, p3, p4, p5, p6, p7, p8, p9, p10, p11, p12, p13, p14, p15, p16, p17, p18, p19, p20, p21, o2, o387, o1708, o1741, o1, o0, ge1, ule_t, true_or, or_true, nI_add, nI_mul, nI_sub, nI_clamp, nI_lt_t, nI_lt_f, nI_le_t, nI_le_f, nI_eq_t, nI_eq_f, vp_nI, tI, fI, not_true, not_false_iff, true_and, and_true, Classical.not_not, mS_uI, mS_uA, mS_uJ, mS_uR, mS_uX, mR_uI, mR_uA, mR_uJ, mR_uX, mX_uI, mX_uA, mX_uJ, mX_uR, mI_s, mI_n, mI_A, mI_An, mI_uJ, mI_uR, mI_uX, mJ_uI, mJ_uA, mJ_uR, mJ_uX, onR_s, kC_v, kC_n, kC_t, mI_nf, mI_Anf, s_165 hM0, s_165 (ShM_u2 hM0), s_166 hM0, s_166 (ShM_u2 hM0)]
  refine Eq.trans hl ?_
  simp (disch := first | omega | rfl) only [e_259_0, e_259_1, e_259_2, e_259_5, e_259_6, e_259_7, e_259_8, e_259_9, e_259_10, e_259_12, e_259_13, e_259_16, e_259_19, e_259_20, e_259_21, e_259_22, e_259_25, e_259_28, e_259_29, e_259_30, e_259_33, e_259_36, e_259_37, e_259_38, e_259_39, e_259_40, e_259_41, e_259_42, e_259_45, e_259_48, e_259_49, e_259_52, e_259_53, e_259_54, e_259_55, e_259_58, e_259_61, e_259_62, e_259_65, e_259_66, e_259_69, e_259_70, e_259_71, e_259_72, e_259_73, e_259_74, ge1, ule_t, true_or, or_true, nI_add, nI_mul, nI_sub, nI_clamp, nI_lt_t, nI_lt_f, nI_le_t, nI_le_f, nI_eq_t, nI_eq_f, vp_nI, tI, fI, not_true, not_false_iff, true_and, and_true, Classical.not_not]
theorem m_259 (hM : ShM μ) (hO : okR (mI μ 1302)) (h : ¬ fActs (rW (mI μ 1302)) (nM (mI μ 1302)) = 0) : Ev (d + 4) 259 [.ref 1298] μ Q = Q (some (some (.double (fMean (mI μ 1302))))) (uI μ 1298 0 (nI 0)) := by
  have hl := l_259 (d := d) (Q := Q) (μ := (uI μ 1298 0 (nI 0))) (ShM_u2 hM) (by rw [mI_nf (by omega)]; exact hO) (nM (mI μ 1302)) 0 (by rw [mI_nf (by omega)]; omega)
  rw [mI_nf (by omega)] at hl
  have hv := fMean_vf hO h
  unfold fMean at hv
  have h2 := fActs_le (V := (rW (mI μ 1302))) (nM (mI μ 1302))
  have hM0 := hM
  obtain ⟨p1, p2, p3, p4, p5, p6, p7, p8, p9, p10, p11, p12, p13, p14, p15, p16, p17, p18, p19, p20, p21⟩ := hM
  have hO9 := hO
  obtain ⟨o2, o6, o387, oT, o1708, oO, o1741, oF, o1, oq1, oq6, o0, ol1, ol40, oV, oN1, oP1, oF1⟩ := hO
  rw [in_259]
  simp (disch := first | omega | rfl) only [e_259_0, e_259_1, e_259_2, e_259_5, e_259_6, e_259_7, e_259_8, e_259_9, e_259_10, e_259_12, e_259_13, e_259_16, e_259_19, e_259_20, e_259_21, e_259_22, e_259_25, e_259_28, e_259_29, e_259_30, e_259_33, e_259_36, e_259_37, e_259_38, e_259_39, e_259_40, e_259_41, e_259_42, e_259_45, e_259_48, e_259_49, e_259_52, e_259_53, e_259_54, e_259_55, e_259_58, e_259_62, e_259_65, e_259_66, e_259_69, e_259_70, e_259_71, e_259_72, e_259_73, e_259_74, p1, p2, p3, p4, p5, p6, p7, p8, p9, p10, p11, p12, p13, p14, p15, p16, p17, p18, p19, p20, p21, o2, o387, o1708, o1741, o1, o0, ge1, ule_t, true_or, or_true, nI_add, nI_mul, nI_sub, nI_clamp, nI_lt_t, nI_lt_f, nI_le_t, nI_le_f, nI_eq_t, nI_eq_f, vp_nI, tI, fI, not_true, not_false_iff, true_and, and_true, Classical.not_not, mS_uI, mS_uA, mS_uJ, mS_uR, mS_uX, mR_uI, mR_uA, mR_uJ, mR_uX, mX_uI, mX_uA, mX_uJ, mX_uR, mI_s, mI_n, mI_A, mI_An, mI_uJ, mI_uR, mI_uX, mJ_uI, mJ_uA, mJ_uR, mJ_uX, onR_s, kC_v, kC_n, kC_t, mI_nf, mI_Anf, s_165 hM0, s_165 (ShM_u2 hM0), s_166 hM0, s_166 (ShM_u2 hM0)]
  refine Eq.trans hl ?_
  simp (disch := first | omega | rfl) only [e_259_0, e_259_1, e_259_2, e_259_5, e_259_6, e_259_7, e_259_8, e_259_9, e_259_10, e_259_12, e_259_13, e_259_16, e_259_19, e_259_20, e_259_21, e_259_22, e_259_25, e_259_28, e_259_29, e_259_30, e_259_33, e_259_36, e_259_37, e_259_38, e_259_39, e_259_40, e_259_41, e_259_42, e_259_45, e_259_48, e_259_49, e_259_52, e_259_53, e_259_54, e_259_55, e_259_58, e_259_61, e_259_62, e_259_65, e_259_66, e_259_69, e_259_70, e_259_71, e_259_72, e_259_73, e_259_74, ge1, ule_t, true_or, or_true, nI_add, nI_mul, nI_sub, nI_clamp, nI_lt_t, nI_lt_f, nI_le_t, nI_le_f, nI_eq_t, nI_eq_f, vp_nI, tI, fI, not_true, not_false_iff, true_and, and_true, Classical.not_not, hv]
  rfl
end LeftM

