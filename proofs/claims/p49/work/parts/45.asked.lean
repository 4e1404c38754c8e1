/-! votes and healing: what is asked -/
section VotesC
variable {d : Nat} {Q : Po} {μ : Mu} {s c m n q i j k t z : Nat} {x y g tt root but : Int32} {r : Nat → Int32}
theorem c_79 (hW : ShR μ s c) (hB : RelB μ s r) (hO : okR r) : Ev (d + 1) 79 [.ref s] μ Q = Q (some (some (.int (nI (fActs (rW r) (nM r)))))) μ := by
  have hW0 := hW
  obtain ⟨w0, w1, w2, w3, w4, w5, w6, w7, w8, w9, w10, w11, w12, w13, w14, w15⟩ := hW
  have hS0 := w12
  obtain ⟨q0, q1, q2, q3, q4, q5, q6, q7, q8, q9, q10, q11, q12, q13, q14, q15⟩ := w12
  have hB9 := hB
  obtain ⟨b1, b2, b3, b4, b5, b6, b7, b8⟩ := hB
  have hO0 := hO
  obtain ⟨o2, o6, o387, oT, o1708, oO, o1741, oF, o1, oq1, oq6, o0, ol1, ol40, oV, oN1, oP1, oF1⟩ := hO
  have hn : mI μ s 1 = nI (nM r) := b1.trans o2
  have hq9 : mI μ (s + 2) 1 = nI (nQ r) := b6.trans o1
  have hV := b7.ok' oV
  rw [s_79 hS0 hn o6, b7.acts _ (Nat.le_refl _)]
theorem c_80 (hW : ShR μ s c) (hB : RelB μ s r) (hO : okR r) : Ev (d + 1) 80 [.ref s, .int g] μ Q = Q (some (some (.int (fExt (rW r) g (nM r))))) μ := by
  have hW0 := hW
  obtain ⟨w0, w1, w2, w3, w4, w5, w6, w7, w8, w9, w10, w11, w12, w13, w14, w15⟩ := hW
  have hS0 := w12
  obtain ⟨q0, q1, q2, q3, q4, q5, q6, q7, q8, q9, q10, q11, q12, q13, q14, q15⟩ := w12
  have hB9 := hB
  obtain ⟨b1, b2, b3, b4, b5, b6, b7, b8⟩ := hB
  have hO0 := hO
  obtain ⟨o2, o6, o387, oT, o1708, oO, o1741, oF, o1, oq1, oq6, o0, ol1, ol40, oV, oN1, oP1, oF1⟩ := hO
  have hn : mI μ s 1 = nI (nM r) := b1.trans o2
  have hq9 : mI μ (s + 2) 1 = nI (nQ r) := b6.trans o1
  have hV := b7.ok' oV
  rw [s_80 hS0 hn o6, b7.ext _ (Nat.le_refl _)]
theorem c_82 (hW : ShR μ s c) (hB : RelB μ s r) (hO : okR r) : Ev (d + 3) 82 [.ref s, .int tt, .int root] μ Q = Q (some (some (.int (nI (fGroup (rW r) tt root (nM r)))))) μ := by
  have hW0 := hW
  obtain ⟨w0, w1, w2, w3, w4, w5, w6, w7, w8, w9, w10, w11, w12, w13, w14, w15⟩ := hW
  have hS0 := w12
  obtain ⟨q0, q1, q2, q3, q4, q5, q6, q7, q8, q9, q10, q11, q12, q13, q14, q15⟩ := w12
  have hB9 := hB
  obtain ⟨b1, b2, b3, b4, b5, b6, b7, b8⟩ := hB
  have hO0 := hO
  obtain ⟨o2, o6, o387, oT, o1708, oO, o1741, oF, o1, oq1, oq6, o0, ol1, ol40, oV, oN1, oP1, oF1⟩ := hO
  have hn : mI μ s 1 = nI (nM r) := b1.trans o2
  have hq9 : mI μ (s + 2) 1 = nI (nQ r) := b6.trans o1
  have hV := b7.ok' oV
  rw [s_82 hS0 hn o6 hV, b7.group _ (Nat.le_refl _)]
theorem c_83 (hW : ShR μ s c) (hB : RelB μ s r) (hO : okR r) : Ev (d + 4) 83 [.ref s, .int tt] μ Q = Q (some (some (.int (oN (fWin (rW r) (nM r) (nQ r) tt))))) μ := by
  have hW0 := hW
  obtain ⟨w0, w1, w2, w3, w4, w5, w6, w7, w8, w9, w10, w11, w12, w13, w14, w15⟩ := hW
  have hS0 := w12
  obtain ⟨q0, q1, q2, q3, q4, q5, q6, q7, q8, q9, q10, q11, q12, q13, q14, q15⟩ := w12
  have hB9 := hB
  obtain ⟨b1, b2, b3, b4, b5, b6, b7, b8⟩ := hB
  have hO0 := hO
  obtain ⟨o2, o6, o387, oT, o1708, oO, o1741, oF, o1, oq1, oq6, o0, ol1, ol40, oV, oN1, oP1, oF1⟩ := hO
  have hn : mI μ s 1 = nI (nM r) := b1.trans o2
  have hq9 : mI μ (s + 2) 1 = nI (nQ r) := b6.trans o1
  have hV := b7.ok' oV
  rw [s_83 hS0 hn o6 hV hq9 oq1 oq6, b7.win]
theorem c_84 (hW : ShR μ s c) (hB : RelB μ s r) (hO : okR r) (hm : m < nM r) : Ev (d + 5) 84 [.ref s, .ref (s + 5 + 3 * m)] μ Q = Q (some (some (.int (bI (fOff (rW r) (nM r) (nQ r) m = true))))) μ := by
  have hW0 := hW
  obtain ⟨w0, w1, w2, w3, w4, w5, w6, w7, w8, w9, w10, w11, w12, w13, w14, w15⟩ := hW
  have hS0 := w12
  obtain ⟨q0, q1, q2, q3, q4, q5, q6, q7, q8, q9, q10, q11, q12, q13, q14, q15⟩ := w12
  have hB9 := hB
  obtain ⟨b1, b2, b3, b4, b5, b6, b7, b8⟩ := hB
  have hO0 := hO
  obtain ⟨o2, o6, o387, oT, o1708, oO, o1741, oF, o1, oq1, oq6, o0, ol1, ol40, oV, oN1, oP1, oF1⟩ := hO
  have hn : mI μ s 1 = nI (nM r) := b1.trans o2
  have hq9 : mI μ (s + 2) 1 = nI (nQ r) := b6.trans o1
  have hV := b7.ok' oV
  rw [s_84 hS0 hn o6 hV hq9 oq1 oq6 hm, b7.off hV hm]
theorem c_85 (hW : ShR μ s c) (hB : RelB μ s r) (hO : okR r) : Ev (d + 5) 85 [.ref s, .int tt, .int but] μ Q = Q (some (some (.int (oN (fGiv (rW r) (nM r) (nQ r) tt but))))) μ := by
  have hW0 := hW
  obtain ⟨w0, w1, w2, w3, w4, w5, w6, w7, w8, w9, w10, w11, w12, w13, w14, w15⟩ := hW
  have hS0 := w12
  obtain ⟨q0, q1, q2, q3, q4, q5, q6, q7, q8, q9, q10, q11, q12, q13, q14, q15⟩ := w12
  have hB9 := hB
  obtain ⟨b1, b2, b3, b4, b5, b6, b7, b8⟩ := hB
  have hO0 := hO
  obtain ⟨o2, o6, o387, oT, o1708, oO, o1741, oF, o1, oq1, oq6, o0, ol1, ol40, oV, oN1, oP1, oF1⟩ := hO
  have hn : mI μ s 1 = nI (nM r) := b1.trans o2
  have hq9 : mI μ (s + 2) 1 = nI (nQ r) := b6.trans o1
  have hV := b7.ok' oV
  rw [s_85 hS0 hn o6 hV hq9 oq1 oq6, b7.giv hV]
theorem c_108 (hW : ShR μ s c) (hB : RelB μ s r) (hO : okR r) (hm : m < nM r) (hh : vHas (rW r) m tt) : Ev (d + 4) 108 [.ref 1000, .int (nI m), .int tt] μ Q = Q (some (some (.int (vRec (rW r) m tt)))) μ := by
  have hW0 := hW
  obtain ⟨w0, w1, w2, w3, w4, w5, w6, w7, w8, w9, w10, w11, w12, w13, w14, w15⟩ := hW
  have hS0 := w12
  obtain ⟨q0, q1, q2, q3, q4, q5, q6, q7, q8, q9, q10, q11, q12, q13, q14, q15⟩ := w12
  have hB9 := hB
  obtain ⟨b1, b2, b3, b4, b5, b6, b7, b8⟩ := hB
  have hO0 := hO
  obtain ⟨o2, o6, o387, oT, o1708, oO, o1741, oF, o1, oq1, oq6, o0, ol1, ol40, oV, oN1, oP1, oF1⟩ := hO
  have hn : mI μ s 1 = nI (nM r) := b1.trans o2
  have hq9 : mI μ (s + 2) 1 = nI (nQ r) := b6.trans o1
  have hV := b7.ok' oV
  have h150 := fun (d : Nat) (Q : Po) => c_150t (d := d) (Q := Q) hW0 hB9 hO0 hm
  have h63 := fun (d : Nat) (Q : Po) => s_63 (d := d) (Q := Q) (x := tt) (q11 m (by omega))
  rw [cv6, cv1] at h63
  have hh' := (b7.has hm).mpr hh
  simp only [bI_t hh'] at h63
  obtain ⟨v1, v2, v3, v4⟩ := oV m hm
  have hv : vp_in tt 41 = True := vp41 (Int32.le_trans v2 hh.1) (Int32.le_trans hh.2 v4)
  rw [in_108]
  simp (disch := first | omega | rfl) only [e_108_0, e_108_1, e_108_2, e_108_5, e_108_6, e_108_7, e_108_8, e_108_11, e_108_14, e_108_15, e_108_18, e_108_19, e_108_20, e_108_23, e_108_24, w0, w1, w2, w3, w4, w5, w6, w7, w8, w9, w10, q1, q2, q3, q4, q5, q6, q7, q8, q9, q10, q11, q12, q13, q14, q15, b1, b2, b3, b4, b5, b6, o2, o387, o1708, o1741, o1, o0, ge1, ule_t, true_or, or_true, nI_add, nI_mul, nI_sub, nI_clamp, nI_lt_t, nI_lt_f, nI_le_t, nI_le_f, nI_eq_t, nI_eq_f, vp_nI, tI, fI, not_true, not_false_iff, true_and, and_true, Classical.not_not, mS_uI, mS_uA, mS_uJ, mS_uR, mS_uX, mR_uI, mR_uA, mR_uJ, mR_uX, mX_uI, mX_uA, mX_uJ, mX_uR, mI_s, mI_n, mI_A, mI_An, mI_uJ, mI_uR, mI_uX, mJ_uI, mJ_uA, mJ_uR, mJ_uX, onR_s, kC_v, kC_n, kC_t, ul0, ula1, ula2, ula3, ula4, ulb2, ulb3, ulb4, ulc2, ulc3, ulc4, ule4, ulf3, ulf4, h150, h63, hv, cvrec, (b7 m hm).2 _ hh']
theorem c_108n (hW : ShR μ s c) (hB : RelB μ s r) (hO : okR r) (hm : m < nM r) (hh : ¬ vHas (rW r) m tt) : Ev (d + 4) 108 [.ref 1000, .int (nI m), .int tt] μ Q = Q (some (some (.int (-1)))) μ := by
  have hW0 := hW
  obtain ⟨w0, w1, w2, w3, w4, w5, w6, w7, w8, w9, w10, w11, w12, w13, w14, w15⟩ := hW
  have hS0 := w12
  obtain ⟨q0, q1, q2, q3, q4, q5, q6, q7, q8, q9, q10, q11, q12, q13, q14, q15⟩ := w12
  have hB9 := hB
  obtain ⟨b1, b2, b3, b4, b5, b6, b7, b8⟩ := hB
  have hO0 := hO
  obtain ⟨o2, o6, o387, oT, o1708, oO, o1741, oF, o1, oq1, oq6, o0, ol1, ol40, oV, oN1, oP1, oF1⟩ := hO
  have hn : mI μ s 1 = nI (nM r) := b1.trans o2
  have hq9 : mI μ (s + 2) 1 = nI (nQ r) := b6.trans o1
  have hV := b7.ok' oV
  have h150 := fun (d : Nat) (Q : Po) => c_150t (d := d) (Q := Q) hW0 hB9 hO0 hm
  have h63 := fun (d : Nat) (Q : Po) => s_63 (d := d) (Q := Q) (x := tt) (q11 m (by omega))
  rw [cv6, cv1] at h63
  simp only [bI_f (fun z => hh ((b7.has hm).mp z))] at h63
  rw [in_108]
  simp (disch := first | omega | rfl) only [e_108_0, e_108_1, e_108_2, e_108_5, e_108_6, e_108_7, e_108_8, e_108_11, e_108_14, e_108_15, e_108_18, e_108_19, e_108_20, e_108_23, e_108_24, w0, w1, w2, w3, w4, w5, w6, w7, w8, w9, w10, q1, q2, q3, q4, q5, q6, q7, q8, q9, q10, q11, q12, q13, q14, q15, b1, b2, b3, b4, b5, b6, o2, o387, o1708, o1741, o1, o0, ge1, ule_t, true_or, or_true, nI_add, nI_mul, nI_sub, nI_clamp, nI_lt_t, nI_lt_f, nI_le_t, nI_le_f, nI_eq_t, nI_eq_f, vp_nI, tI, fI, not_true, not_false_iff, true_and, and_true, Classical.not_not, mS_uI, mS_uA, mS_uJ, mS_uR, mS_uX, mR_uI, mR_uA, mR_uJ, mR_uX, mX_uI, mX_uA, mX_uJ, mX_uR, mI_s, mI_n, mI_A, mI_An, mI_uJ, mI_uR, mI_uX, mJ_uI, mJ_uA, mJ_uR, mJ_uX, onR_s, kC_v, kC_n, kC_t, ul0, ula1, ula2, ula3, ula4, ulb2, ulb3, ulb4, ulc2, ulc3, ulc4, ule4, ulf3, ulf4, h150, h63]
theorem c_108t (hW : ShR μ s c) (hB : RelB μ s r) (hO : okR r) (hx : bad x (nM r)) : Ev (d + 4) 108 [.ref 1000, .int x, .int y] μ Q = (∀ x, mX μ ≤ x → Q none (uX μ x)) := by
  have hW0 := hW
  obtain ⟨w0, w1, w2, w3, w4, w5, w6, w7, w8, w9, w10, w11, w12, w13, w14, w15⟩ := hW
  have hS0 := w12
  obtain ⟨q0, q1, q2, q3, q4, q5, q6, q7, q8, q9, q10, q11, q12, q13, q14, q15⟩ := w12
  have hB9 := hB
  obtain ⟨b1, b2, b3, b4, b5, b6, b7, b8⟩ := hB
  have hO0 := hO
  obtain ⟨o2, o6, o387, oT, o1708, oO, o1741, oF, o1, oq1, oq6, o0, ol1, ol40, oV, oN1, oP1, oF1⟩ := hO
  have hn : mI μ s 1 = nI (nM r) := b1.trans o2
  have hq9 : mI μ (s + 2) 1 = nI (nQ r) := b6.trans o1
  have hV := b7.ok' oV
  rw [in_108]
  simp (disch := first | omega | rfl) only [e_108_0, e_108_1, e_108_2, e_108_5, e_108_6, e_108_7, e_108_8, e_108_11, e_108_14, e_108_15, e_108_18, e_108_19, e_108_20, e_108_23, e_108_24, w0, w1, w2, w3, w4, w5, w6, w7, w8, w9, w10, q1, q2, q3, q4, q5, q6, q7, q8, q9, q10, q11, q12, q13, q14, q15, b1, b2, b3, b4, b5, b6, o2, o387, o1708, o1741, o1, o0, ge1, ule_t, true_or, or_true, nI_add, nI_mul, nI_sub, nI_clamp, nI_lt_t, nI_lt_f, nI_le_t, nI_le_f, nI_eq_t, nI_eq_f, vp_nI, tI, fI, not_true, not_false_iff, true_and, and_true, Classical.not_not, mS_uI, mS_uA, mS_uJ, mS_uR, mS_uX, mR_uI, mR_uA, mR_uJ, mR_uX, mX_uI, mX_uA, mX_uJ, mX_uR, mI_s, mI_n, mI_A, mI_An, mI_uJ, mI_uR, mI_uX, mJ_uI, mJ_uA, mJ_uR, mJ_uX, onR_s, kC_v, kC_n, kC_t, ul0, ula1, ula2, ula3, ula4, ulb2, ulb3, ulb4, ulc2, ulc3, ulc4, ule4, ulf3, ulf4, c_150f hW0 hB9 hO0 hx, TT_108]
/-- a set of members -/
def fSet (P : Nat → Bool) : Nat → Nat
  | 0 => 0
  | n + 1 => fSet P n + (if P n = true then 2 ^ n else 0)
theorem fSet_lt (P : Nat → Bool) : ∀ n, fSet P n < 2 ^ n
  | 0 => by rw [fSet]; decide
  | n + 1 => by
    have := fSet_lt P n
    rw [fSet, Nat.pow_succ]
    split <;> omega
theorem c_122 (hW : ShR μ s c) (hB : RelB μ s r) (hO : okR r) (hm : m < nM r) : Ev (d + 6) 122 [.ref 1000, .int (nI m)] μ Q = Q (some (some (.int (nI (fStop (rW r) (nM r) (nQ r) m))))) μ := by
  have hW0 := hW
  obtain ⟨w0, w1, w2, w3, w4, w5, w6, w7, w8, w9, w10, w11, w12, w13, w14, w15⟩ := hW
  have hS0 := w12
  obtain ⟨q0, q1, q2, q3, q4, q5, q6, q7, q8, q9, q10, q11, q12, q13, q14, q15⟩ := w12
  have hB9 := hB
  obtain ⟨b1, b2, b3, b4, b5, b6, b7, b8⟩ := hB
  have hO0 := hO
  obtain ⟨o2, o6, o387, oT, o1708, oO, o1741, oF, o1, oq1, oq6, o0, ol1, ol40, oV, oN1, oP1, oF1⟩ := hO
  have hn : mI μ s 1 = nI (nM r) := b1.trans o2
  have hq9 : mI μ (s + 2) 1 = nI (nQ r) := b6.trans o1
  have hV := b7.ok' oV
  have h150 := fun (d : Nat) (Q : Po) => c_150t (d := d) (Q := Q) hW0 hB9 hO0 hm
  have h83 := fun (d : Nat) (Q : Po) (tt : Int32) => c_83 (d := d) (Q := Q) (tt := tt) hW0 hB9 hO0
  have h84 := fun (d : Nat) (Q : Po) => c_84 (d := d) (Q := Q) hW0 hB9 hO0 hm
  have h85 := fun (d : Nat) (Q : Po) (tt but : Int32) => c_85 (d := d) (Q := Q) (tt := tt) (but := but) hW0 hB9 hO0
  rw [in_122]
  unfold fStop
  by_cases ha : rW r m 2 = nI 0
  · rw [if_pos ha]
    simp (disch := first | omega | rfl) only [e_122_0, e_122_1, e_122_2, e_122_5, e_122_6, e_122_7, e_122_10, e_122_13, e_122_14, e_122_15, e_122_16, e_122_19, e_122_20, e_122_23, e_122_26, e_122_27, e_122_30, e_122_31, e_122_32, e_122_33, e_122_36, e_122_37, e_122_40, e_122_43, e_122_44, e_122_45, e_122_46, e_122_49, e_122_50, e_122_53, e_122_54, e_122_57, e_122_58, e_122_61, e_122_62, e_122_65, e_122_66, w0, w1, w2, w3, w4, w5, w6, w7, w8, w9, w10, q1, q2, q3, q4, q5, q6, q7, q8, q9, q10, q11, q12, q13, q14, q15, b1, b2, b3, b4, b5, b6, o2, o387, o1708, o1741, o1, o0, ge1, ule_t, true_or, or_true, nI_add, nI_mul, nI_sub, nI_clamp, nI_lt_t, nI_lt_f, nI_le_t, nI_le_f, nI_eq_t, nI_eq_f, vp_nI, tI, fI, not_true, not_false_iff, true_and, and_true, Classical.not_not, mS_uI, mS_uA, mS_uJ, mS_uR, mS_uX, mR_uI, mR_uA, mR_uJ, mR_uX, mX_uI, mX_uA, mX_uJ, mX_uR, mI_s, mI_n, mI_A, mI_An, mI_uJ, mI_uR, mI_uX, mJ_uI, mJ_uA, mJ_uR, mJ_uX, onR_s, kC_v, kC_n, kC_t, ul0, ula1, ula2, ula3, ula4, ulb2, ulb3, ulb4, ulc2, ulc3, ulc4, ule4, ulf3, ulf4, cv0, cv1, cv2, cv3, cv4, cv5, cv6, cvrec, (b7 m hm).1 0 (by omega), (b7 m hm).1 1 (by omega), (b7 m hm).1 2 (by omega), (b7 m hm).1 3 (by omega), (b7 m hm).1 4 (by omega), (b7 m hm).1 5 (by omega), (b7 m hm).1 6 (by omega), h150, ha]
  · rw [if_neg ha]
    cases hw : fWin (rW r) (nM r) (nQ r) (rW r m 1) with
    | none =>
      rw [if_pos rfl]
      simp (disch := first | omega | rfl) only [e_122_0, e_122_1, e_122_2, e_122_5, e_122_6, e_122_7, e_122_10, e_122_13, e_122_14, e_122_15, e_122_16, e_122_19, e_122_20, e_122_23, e_122_26, e_122_27, e_122_30, e_122_31, e_122_32, e_122_33, e_122_36, e_122_37, e_122_40, e_122_43, e_122_44, e_122_45, e_122_46, e_122_49, e_122_50, e_122_53, e_122_54, e_122_57, e_122_58, e_122_61, e_122_62, e_122_65, e_122_66, w0, w1, w2, w3, w4, w5, w6, w7, w8, w9, w10, q1, q2, q3, q4, q5, q6, q7, q8, q9, q10, q11, q12, q13, q14, q15, b1, b2, b3, b4, b5, b6, o2, o387, o1708, o1741, o1, o0, ge1, ule_t, true_or, or_true, nI_add, nI_mul, nI_sub, nI_clamp, nI_lt_t, nI_lt_f, nI_le_t, nI_le_f, nI_eq_t, nI_eq_f, vp_nI, tI, fI, not_true, not_false_iff, true_and, and_true, Classical.not_not, mS_uI, mS_uA, mS_uJ, mS_uR, mS_uX, mR_uI, mR_uA, mR_uJ, mR_uX, mX_uI, mX_uA, mX_uJ, mX_uR, mI_s, mI_n, mI_A, mI_An, mI_uJ, mI_uR, mI_uX, mJ_uI, mJ_uA, mJ_uR, mJ_uX, onR_s, kC_v, kC_n, kC_t, ul0, ula1, ula2, ula3, ula4, ulb2, ulb3, ulb4, ulc2, ulc3, ulc4, ule4, ulf3, ulf4, cv0, cv1, cv2, cv3, cv4, cv5, cv6, cvrec, (b7 m hm).1 0 (by omega), (b7 m hm).1 1 (by omega), (b7 m hm).1 2 (by omega), (b7 m hm).1 3 (by omega), (b7 m hm).1 4 (by omega), (b7 m hm).1 5 (by omega), (b7 m hm).1 6 (by omega), h150, ha, h83, hw, oN]
    | some w =>
      have hw1 := (fWin_some hw).1
      have hm1 : (nI w = -1) = False := nI_m1 (by omega)
      rw [if_neg (fun z => by cases z)]
      cases hf : fOff (rW r) (nM r) (nQ r) m with
      | false =>
        simp only [bI_f (show ¬ fOff (rW r) (nM r) (nQ r) m = true by rw [hf]; exact Bool.false_ne_true)] at h84
        rw [if_pos rfl]
        simp (disch := first | omega | rfl) only [e_122_0, e_122_1, e_122_2, e_122_5, e_122_6, e_122_7, e_122_10, e_122_13, e_122_14, e_122_15, e_122_16, e_122_19, e_122_20, e_122_23, e_122_26, e_122_27, e_122_30, e_122_31, e_122_32, e_122_33, e_122_36, e_122_37, e_122_40, e_122_43, e_122_44, e_122_45, e_122_46, e_122_49, e_122_50, e_122_53, e_122_54, e_122_57, e_122_58, e_122_61, e_122_62, e_122_65, e_122_66, w0, w1, w2, w3, w4, w5, w6, w7, w8, w9, w10, q1, q2, q3, q4, q5, q6, q7, q8, q9, q10, q11, q12, q13, q14, q15, b1, b2, b3, b4, b5, b6, o2, o387, o1708, o1741, o1, o0, ge1, ule_t, true_or, or_true, nI_add, nI_mul, nI_sub, nI_clamp, nI_lt_t, nI_lt_f, nI_le_t, nI_le_f, nI_eq_t, nI_eq_f, vp_nI, tI, fI, not_true, not_false_iff, true_and, and_true, Classical.not_not, mS_uI, mS_uA, mS_uJ, mS_uR, mS_uX, mR_uI, mR_uA, mR_uJ, mR_uX, mX_uI, mX_uA, mX_uJ, mX_uR, mI_s, mI_n, mI_A, mI_An, mI_uJ, mI_uR, mI_uX, mJ_uI, mJ_uA, mJ_uR, mJ_uX, onR_s, kC_v, kC_n, kC_t, ul0, ula1, ula2, ula3, ula4, ulb2, ulb3, ulb4, ulc2, ulc3, ulc4, ule4, ulf3, ulf4, cv0, cv1, cv2, cv3, cv4, cv5, cv6, cvrec, (b7 m hm).1 0 (by omega), (b7 m hm).1 1 (by omega), (b7 m hm).1 2 (by omega), (b7 m hm).1 3 (by omega), (b7 m hm).1 4 (by omega), (b7 m hm).1 5 (by omega), (b7 m hm).1 6 (by omega), h150, ha, h83, h84, hw, oN, hm1]
      | true =>
        simp only [bI_t hf] at h84
        rw [if_neg (by decide)]
        cases hg : fGiv (rW r) (nM r) (nQ r) (rW r m 1) (nI m) with
        | none =>
          rw [if_pos rfl]
          simp (disch := first | omega | rfl) only [e_122_0, e_122_1, e_122_2, e_122_5, e_122_6, e_122_7, e_122_10, e_122_13, e_122_14, e_122_15, e_122_16, e_122_19, e_122_20, e_122_23, e_122_26, e_122_27, e_122_30, e_122_31, e_122_32, e_122_33, e_122_36, e_122_37, e_122_40, e_122_43, e_122_44, e_122_45, e_122_46, e_122_49, e_122_50, e_122_53, e_122_54, e_122_57, e_122_58, e_122_61, e_122_62, e_122_65, e_122_66, w0, w1, w2, w3, w4, w5, w6, w7, w8, w9, w10, q1, q2, q3, q4, q5, q6, q7, q8, q9, q10, q11, q12, q13, q14, q15, b1, b2, b3, b4, b5, b6, o2, o387, o1708, o1741, o1, o0, ge1, ule_t, true_or, or_true, nI_add, nI_mul, nI_sub, nI_clamp, nI_lt_t, nI_lt_f, nI_le_t, nI_le_f, nI_eq_t, nI_eq_f, vp_nI, tI, fI, not_true, not_false_iff, true_and, and_true, Classical.not_not, mS_uI, mS_uA, mS_uJ, mS_uR, mS_uX, mR_uI, mR_uA, mR_uJ, mR_uX, mX_uI, mX_uA, mX_uJ, mX_uR, mI_s, mI_n, mI_A, mI_An, mI_uJ, mI_uR, mI_uX, mJ_uI, mJ_uA, mJ_uR, mJ_uX, onR_s, kC_v, kC_n, kC_t, ul0, ula1, ula2, ula3, ula4, ulb2, ulb3, ulb4, ulc2, ulc3, ulc4, ule4, ulf3, ulf4, cv0, cv1, cv2, cv3, cv4, cv5, cv6, cvrec, (b7 m hm).1 0 (by omega), (b7 m hm).1 1 (by omega), (b7 m hm).1 2 (by omega), (b7 m hm).1 3 (by omega), (b7 m hm).1 4 (by omega), (b7 m hm).1 5 (by omega), (b7 m hm).1 6 (by omega), h150, ha, h83, h84, h85, hw, hg, oN, hm1]
        | some j =>
          have hj := fGiv_lt hg
          have hm2 : (nI j = -1) = False := nI_m1 (by omega)
          rw [if_neg (fun z => by cases z)]
          simp (disch := first | omega | rfl) only [e_122_0, e_122_1, e_122_2, e_122_5, e_122_6, e_122_7, e_122_10, e_122_13, e_122_14, e_122_15, e_122_16, e_122_19, e_122_20, e_122_23, e_122_26, e_122_27, e_122_30, e_122_31, e_122_32, e_122_33, e_122_36, e_122_37, e_122_40, e_122_43, e_122_44, e_122_45, e_122_46, e_122_49, e_122_50, e_122_53, e_122_54, e_122_57, e_122_58, e_122_61, e_122_62, e_122_65, e_122_66, w0, w1, w2, w3, w4, w5, w6, w7, w8, w9, w10, q1, q2, q3, q4, q5, q6, q7, q8, q9, q10, q11, q12, q13, q14, q15, b1, b2, b3, b4, b5, b6, o2, o387, o1708, o1741, o1, o0, ge1, ule_t, true_or, or_true, nI_add, nI_mul, nI_sub, nI_clamp, nI_lt_t, nI_lt_f, nI_le_t, nI_le_f, nI_eq_t, nI_eq_f, vp_nI, tI, fI, not_true, not_false_iff, true_and, and_true, Classical.not_not, mS_uI, mS_uA, mS_uJ, mS_uR, mS_uX, mR_uI, mR_uA, mR_uJ, mR_uX, mX_uI, mX_uA, mX_uJ, mX_uR, mI_s, mI_n, mI_A, mI_An, mI_uJ, mI_uR, mI_uX, mJ_uI, mJ_uA, mJ_uR, mJ_uX, onR_s, kC_v, kC_n, kC_t, ul0, ula1, ula2, ula3, ula4, ulb2, ulb3, ulb4, ulc2, ulc3, ulc4, ule4, ulf3, ulf4, cv0, cv1, cv2, cv3, cv4, cv5, cv6, cvrec, (b7 m hm).1 0 (by omega), (b7 m hm).1 1 (by omega), (b7 m hm).1 2 (by omega), (b7 m hm).1 3 (by omega), (b7 m hm).1 4 (by omega), (b7 m hm).1 5 (by omega), (b7 m hm).1 6 (by omega), h150, ha, h83, h84, h85, hw, hg, oN, hm1, hm2]
theorem c_122t (hW : ShR μ s c) (hB : RelB μ s r) (hO : okR r) (hx : bad x (nM r)) : Ev (d + 6) 122 [.ref 1000, .int x] μ Q = (∀ x, mX μ ≤ x → Q none (uX μ x)) := by
  have hW0 := hW
  obtain ⟨w0, w1, w2, w3, w4, w5, w6, w7, w8, w9, w10, w11, w12, w13, w14, w15⟩ := hW
  have hS0 := w12
  obtain ⟨q0, q1, q2, q3, q4, q5, q6, q7, q8, q9, q10, q11, q12, q13, q14, q15⟩ := w12
  have hB9 := hB
  obtain ⟨b1, b2, b3, b4, b5, b6, b7, b8⟩ := hB
  have hO0 := hO
  obtain ⟨o2, o6, o387, oT, o1708, oO, o1741, oF, o1, oq1, oq6, o0, ol1, ol40, oV, oN1, oP1, oF1⟩ := hO
  have hn : mI μ s 1 = nI (nM r) := b1.trans o2
  have hq9 : mI μ (s + 2) 1 = nI (nQ r) := b6.trans o1
  have hV := b7.ok' oV
  rw [in_122]
  simp (disch := first | omega | rfl) only [e_122_0, e_122_1, e_122_2, e_122_5, e_122_6, e_122_7, e_122_10, e_122_13, e_122_14, e_122_15, e_122_16, e_122_19, e_122_20, e_122_23, e_122_26, e_122_27, e_122_30, e_122_31, e_122_32, e_122_33, e_122_36, e_122_37, e_122_40, e_122_43, e_122_44, e_122_45, e_122_46, e_122_49, e_122_50, e_122_53, e_122_54, e_122_57, e_122_58, e_122_61, e_122_62, e_122_65, e_122_66, w0, w1, w2, w3, w4, w5, w6, w7, w8, w9, w10, q1, q2, q3, q4, q5, q6, q7, q8, q9, q10, q11, q12, q13, q14, q15, b1, b2, b3, b4, b5, b6, o2, o387, o1708, o1741, o1, o0, ge1, ule_t, true_or, or_true, nI_add, nI_mul, nI_sub, nI_clamp, nI_lt_t, nI_lt_f, nI_le_t, nI_le_f, nI_eq_t, nI_eq_f, vp_nI, tI, fI, not_true, not_false_iff, true_and, and_true, Classical.not_not, mS_uI, mS_uA, mS_uJ, mS_uR, mS_uX, mR_uI, mR_uA, mR_uJ, mR_uX, mX_uI, mX_uA, mX_uJ, mX_uR, mI_s, mI_n, mI_A, mI_An, mI_uJ, mI_uR, mI_uX, mJ_uI, mJ_uA, mJ_uR, mJ_uX, onR_s, kC_v, kC_n, kC_t, ul0, ula1, ula2, ula3, ula4, ulb2, ulb3, ulb4, ulc2, ulc3, ulc4, ule4, ulf3, ulf4, c_150f hW0 hB9 hO0 hx, TT_122]
def aMin (x y : Int32) : Int32 := if y < x then y else x
def aMax (x y : Int32) : Int32 := if x < y then y else x
def fLast (r : Nat → Int32) : Int32 := aMin (r 387) (fExt (rW r) (nI 0) (nM r) + r 0)
theorem c_131 (hW : ShR μ s c) (hB : RelB μ s r) (hO : okR r) : Ev (d + 2) 131 [.ref 1000] μ Q = Q (some (some (.int (fLast r)))) μ := by
  have hW0 := hW
  obtain ⟨w0, w1, w2, w3, w4, w5, w6, w7, w8, w9, w10, w11, w12, w13, w14, w15⟩ := hW
  have hS0 := w12
  obtain ⟨q0, q1, q2, q3, q4, q5, q6, q7, q8, q9, q10, q11, q12, q13, q14, q15⟩ := w12
  have hB9 := hB
  obtain ⟨b1, b2, b3, b4, b5, b6, b7, b8⟩ := hB
  have hO0 := hO
  obtain ⟨o2, o6, o387, oT, o1708, oO, o1741, oF, o1, oq1, oq6, o0, ol1, ol40, oV, oN1, oP1, oF1⟩ := hO
  have hn : mI μ s 1 = nI (nM r) := b1.trans o2
  have hq9 : mI μ (s + 2) 1 = nI (nQ r) := b6.trans o1
  have hV := b7.ok' oV
  rw [in_131]
  simp (disch := first | omega | rfl) only [e_131_0, e_131_1, e_131_4, e_131_7, e_131_8, e_131_11, e_131_12, e_131_15, e_131_16, e_131_19, e_131_22, e_131_23, e_131_24, e_131_25, e_131_28, w0, w1, w2, w3, w4, w5, w6, w7, w8, w9, w10, q1, q2, q3, q4, q5, q6, q7, q8, q9, q10, q11, q12, q13, q14, q15, b1, b2, b3, b4, b5, b6, ge1, ule_t, true_or, or_true, nI_add, nI_mul, nI_sub, nI_clamp, nI_lt_t, nI_lt_f, nI_le_t, nI_le_f, nI_eq_t, nI_eq_f, vp_nI, tI, fI, not_true, not_false_iff, true_and, and_true, Classical.not_not, mS_uI, mS_uA, mS_uJ, mS_uR, mS_uX, mR_uI, mR_uA, mR_uJ, mR_uX, mX_uI, mX_uA, mX_uJ, mX_uR, mI_s, mI_n, mI_A, mI_An, mI_uJ, mI_uR, mI_uX, mJ_uI, mJ_uA, mJ_uR, mJ_uX, onR_s, kC_v, kC_n, kC_t, c_80 hW0 hB9 hO0]
  rfl
theorem s_132 {a : Nat} (ha : mS μ a = (7, 10)) : Ev (d + 1) 132 [.ref a, .int x] μ Q = Q (some (some (.int (aMax (nI 0) (x - mI μ a 3))))) μ := by
  rw [in_132]
  simp (disch := first | omega | rfl) only [e_132_0, e_132_1, e_132_2, e_132_3, e_132_6, e_132_7, e_132_10, ge1, ule_t, true_or, or_true, nI_add, nI_mul, nI_sub, nI_clamp, nI_lt_t, nI_lt_f, nI_le_t, nI_le_f, nI_eq_t, nI_eq_f, vp_nI, tI, fI, not_true, not_false_iff, true_and, and_true, Classical.not_not, mS_uI, mS_uA, mS_uJ, mS_uR, mS_uX, mR_uI, mR_uA, mR_uJ, mR_uX, mX_uI, mX_uA, mX_uJ, mX_uR, mI_s, mI_n, mI_A, mI_An, mI_uJ, mI_uR, mI_uX, mJ_uI, mJ_uA, mJ_uR, mJ_uX, onR_s, kC_v, kC_n, kC_t, ha]
  rfl
theorem c_130 (hW : ShR μ s c) (hB : RelB μ s r) (hO : okR r) (hm : m < nM r) (ha : vAct (rW r) m) : Ev (d + 4) 130 [.ref 1000, .int (nI m)] μ Q = Q (some (some (.int (aMax (nI 0) (fLast r - rW r m 1))))) μ := by
  have hW0 := hW
  obtain ⟨w0, w1, w2, w3, w4, w5, w6, w7, w8, w9, w10, w11, w12, w13, w14, w15⟩ := hW
  have hS0 := w12
  obtain ⟨q0, q1, q2, q3, q4, q5, q6, q7, q8, q9, q10, q11, q12, q13, q14, q15⟩ := w12
  have hB9 := hB
  obtain ⟨b1, b2, b3, b4, b5, b6, b7, b8⟩ := hB
  have hO0 := hO
  obtain ⟨o2, o6, o387, oT, o1708, oO, o1741, oF, o1, oq1, oq6, o0, ol1, ol40, oV, oN1, oP1, oF1⟩ := hO
  have hn : mI μ s 1 = nI (nM r) := b1.trans o2
  have hq9 : mI μ (s + 2) 1 = nI (nQ r) := b6.trans o1
  have hV := b7.ok' oV
  have ha' : ¬ rW r m 2 = nI 0 := ha
  rw [in_130]
  simp (disch := first | omega | rfl) only [e_130_0, e_130_1, e_130_2, e_130_5, e_130_6, e_130_7, e_130_10, e_130_13, e_130_14, e_130_15, e_130_18, e_130_21, e_130_24, e_130_25, w0, w1, w2, w3, w4, w5, w6, w7, w8, w9, w10, q1, q2, q3, q4, q5, q6, q7, q8, q9, q10, q11, q12, q13, q14, q15, b1, b2, b3, b4, b5, b6, o2, o387, o1708, o1741, o1, o0, ge1, ule_t, true_or, or_true, nI_add, nI_mul, nI_sub, nI_clamp, nI_lt_t, nI_lt_f, nI_le_t, nI_le_f, nI_eq_t, nI_eq_f, vp_nI, tI, fI, not_true, not_false_iff, true_and, and_true, Classical.not_not, mS_uI, mS_uA, mS_uJ, mS_uR, mS_uX, mR_uI, mR_uA, mR_uJ, mR_uX, mX_uI, mX_uA, mX_uJ, mX_uR, mI_s, mI_n, mI_A, mI_An, mI_uJ, mI_uR, mI_uX, mJ_uI, mJ_uA, mJ_uR, mJ_uX, onR_s, kC_v, kC_n, kC_t, ul0, ula1, ula2, ula3, ula4, ulb2, ulb3, ulb4, ulc2, ulc3, ulc4, ule4, ulf3, ulf4, cv0, cv1, cv2, cv3, cv4, cv5, cv6, cvrec, (b7 m hm).1 0 (by omega), (b7 m hm).1 1 (by omega), (b7 m hm).1 2 (by omega), (b7 m hm).1 3 (by omega), (b7 m hm).1 4 (by omega), (b7 m hm).1 5 (by omega), (b7 m hm).1 6 (by omega), c_150t hW0 hB9 hO0 hm, ha', c_131 hW0 hB9 hO0, s_132 (q11 m (by omega))]
theorem c_130n (hW : ShR μ s c) (hB : RelB μ s r) (hO : okR r) (hm : m < nM r) (ha : ¬ vAct (rW r) m) : Ev (d + 4) 130 [.ref 1000, .int (nI m)] μ Q = Q (some (some (.int (nI 0)))) μ := by
  have hW0 := hW
  obtain ⟨w0, w1, w2, w3, w4, w5, w6, w7, w8, w9, w10, w11, w12, w13, w14, w15⟩ := hW
  have hS0 := w12
  obtain ⟨q0, q1, q2, q3, q4, q5, q6, q7, q8, q9, q10, q11, q12, q13, q14, q15⟩ := w12
  have hB9 := hB
  obtain ⟨b1, b2, b3, b4, b5, b6, b7, b8⟩ := hB
  have hO0 := hO
  obtain ⟨o2, o6, o387, oT, o1708, oO, o1741, oF, o1, oq1, oq6, o0, ol1, ol40, oV, oN1, oP1, oF1⟩ := hO
  have hn : mI μ s 1 = nI (nM r) := b1.trans o2
  have hq9 : mI μ (s + 2) 1 = nI (nQ r) := b6.trans o1
  have hV := b7.ok' oV
  have ha' : rW r m 2 = nI 0 := Classical.not_not.mp ha
  rw [in_130]
  simp (disch := first | omega | rfl) only [e_130_0, e_130_1, e_130_2, e_130_5, e_130_6, e_130_7, e_130_10, e_130_13, e_130_14, e_130_15, e_130_18, e_130_21, e_130_24, e_130_25, w0, w1, w2, w3, w4, w5, w6, w7, w8, w9, w10, q1, q2, q3, q4, q5, q6, q7, q8, q9, q10, q11, q12, q13, q14, q15, b1, b2, b3, b4, b5, b6, o2, o387, o1708, o1741, o1, o0, ge1, ule_t, true_or, or_true, nI_add, nI_mul, nI_sub, nI_clamp, nI_lt_t, nI_lt_f, nI_le_t, nI_le_f, nI_eq_t, nI_eq_f, vp_nI, tI, fI, not_true, not_false_iff, true_and, and_true, Classical.not_not, mS_uI, mS_uA, mS_uJ, mS_uR, mS_uX, mR_uI, mR_uA, mR_uJ, mR_uX, mX_uI, mX_uA, mX_uJ, mX_uR, mI_s, mI_n, mI_A, mI_An, mI_uJ, mI_uR, mI_uX, mJ_uI, mJ_uA, mJ_uR, mJ_uX, onR_s, kC_v, kC_n, kC_t, ul0, ula1, ula2, ula3, ula4, ulb2, ulb3, ulb4, ulc2, ulc3, ulc4, ule4, ulf3, ulf4, cv0, cv1, cv2, cv3, cv4, cv5, cv6, cvrec, (b7 m hm).1 0 (by omega), (b7 m hm).1 1 (by omega), (b7 m hm).1 2 (by omega), (b7 m hm).1 3 (by omega), (b7 m hm).1 4 (by omega), (b7 m hm).1 5 (by omega), (b7 m hm).1 6 (by omega), c_150t hW0 hB9 hO0 hm, ha']
theorem c_130t (hW : ShR μ s c) (hB : RelB μ s r) (hO : okR r) (hx : bad x (nM r)) : Ev (d + 4) 130 [.ref 1000, .int x] μ Q = (∀ x, mX μ ≤ x → Q none (uX μ x)) := by
  have hW0 := hW
  obtain ⟨w0, w1, w2, w3, w4, w5, w6, w7, w8, w9, w10, w11, w12, w13, w14, w15⟩ := hW
  have hS0 := w12
  obtain ⟨q0, q1, q2, q3, q4, q5, q6, q7, q8, q9, q10, q11, q12, q13, q14, q15⟩ := w12
  have hB9 := hB
  obtain ⟨b1, b2, b3, b4, b5, b6, b7, b8⟩ := hB
  have hO0 := hO
  obtain ⟨o2, o6, o387, oT, o1708, oO, o1741, oF, o1, oq1, oq6, o0, ol1, ol40, oV, oN1, oP1, oF1⟩ := hO
  have hn : mI μ s 1 = nI (nM r) := b1.trans o2
  have hq9 : mI μ (s + 2) 1 = nI (nQ r) := b6.trans o1
  have hV := b7.ok' oV
  rw [in_130]
  simp (disch := first | omega | rfl) only [e_130_0, e_130_1, e_130_2, e_130_5, e_130_6, e_130_7, e_130_10, e_130_13, e_130_14, e_130_15, e_130_18, e_130_21, e_130_24, e_130_25, w0, w1, w2, w3, w4, w5, w6, w7, w8, w9, w10, q1, q2, q3, q4, q5, q6, q7, q8, q9, q10, q11, q12, q13, q14, q15, b1, b2, b3, b4, b5, b6, o2, o387, o1708, o1741, o1, o0, ge1, ule_t, true_or, or_true, nI_add, nI_mul, nI_sub, nI_clamp, nI_lt_t, nI_lt_f, nI_le_t, nI_le_f, nI_eq_t, nI_eq_f, vp_nI, tI, fI, not_true, not_false_iff, true_and, and_true, Classical.not_not, mS_uI, mS_uA, mS_uJ, mS_uR, mS_uX, mR_uI, mR_uA, mR_uJ, mR_uX, mX_uI, mX_uA, mX_uJ, mX_uR, mI_s, mI_n, mI_A, mI_An, mI_uJ, mI_uR, mI_uX, mJ_uI, mJ_uA, mJ_uR, mJ_uX, onR_s, kC_v, kC_n, kC_t, ul0, ula1, ula2, ula3, ula4, ulb2, ulb3, ulb4, ulc2, ulc3, ulc4, ule4, ulf3, ulf4, c_150f hW0 hB9 hO0 hx, TT_130]
end VotesC
section VotesM
variable {d : Nat} {Q : Po} {μ : Mu} {s c m n q i j k t z : Nat} {x y g tt root but : Int32}
end VotesM

/-! two records -/
def nB (V : VW) (m : Nat) : Nat := (V m 6).toNatClampNeg
def nE (V : VW) (m : Nat) : Nat := (V m 1).toNatClampNeg
theorem okBE {V : VW} {n m : Nat} (h : okV V n) (hm : m < n) : V m 6 = nI (nB V m) ∧ V m 1 = nI (nE V m) ∧ nB V m ≤ nE V m ∧ nE V m ≤ 40 := by
  obtain ⟨v1, v2, v3, v4⟩ := h m hm
  obtain ⟨b, hb, eb⟩ := t40 v2 (Int32.le_trans v3 v4)
  obtain ⟨e, he, ee⟩ := t40 (Int32.le_trans v2 v3) v4
  unfold nB nE
  have e1 : (V m 6).toNatClampNeg = b := by rw [eb, nI_clamp (by omega)]
  have e2 : (V m 1).toNatClampNeg = e := by rw [ee, nI_clamp (by omega)]
  rw [e1, e2]
  refine ⟨eb, ee, ?_, he⟩
  rw [eb, ee] at v3
  exact (nI_leI (a := b) (b := e) (by omega) (by omega)).mp v3
def dR (V : VW) (a b t : Nat) : Bool := !decide (V a (23 + t) = V b (23 + t))
def fLin (D : Nat → Bool) (hi : Nat) : Nat → Nat → Option Nat
  | 0, _ => none
  | f + 1, t => if hi < t then none else if D t = true then some t else fLin D hi f (t + 1)
def fHalf (D : Nat → Bool) : Nat → Nat → Nat → Nat
  | 0, lo, _ => lo
  | f + 1, lo, hi => if lo < hi then (if D ((lo + hi) / 2) = true then fHalf D f lo ((lo + hi) / 2) else fHalf D f ((lo + hi) / 2 + 1) hi) else lo
def rLo (V : VW) (a b : Nat) : Nat := if nB V a < nB V b then nB V b else nB V a
def rHi (V : VW) (a b : Nat) : Nat := if nE V b < nE V a then nE V b else nE V a
def aLin (V : VW) (a b : Nat) : Option Nat := fLin (dR V a b) (rHi V a b) 42 (rLo V a b)
def aHalf (V : VW) (a b : Nat) : Option Nat := if rHi V a b < rLo V a b ∨ dR V a b (rHi V a b) = false then none else some (fHalf (dR V a b) 41 (rLo V a b) (rHi V a b))
theorem aMax_nI {a b : Nat} (ha : a < 2147483648) (hb : b < 2147483648) : aMax (nI a) (nI b) = nI (if a < b then b else a) := by
  unfold aMax
  by_cases h : a < b
  · rw [if_pos h, if_pos (nI_lt h hb)]
  · rw [if_neg h, if_neg (nI_nlt (by omega) ha)]
theorem aMin_nI {a b : Nat} (ha : a < 2147483648) (hb : b < 2147483648) : aMin (nI a) (nI b) = nI (if b < a then b else a) := by
  unfold aMin
  by_cases h : b < a
  · rw [if_pos h, if_pos (nI_lt h ha)]
  · rw [if_neg h, if_neg (nI_nlt (by omega) hb)]
theorem fHalf_in (D : Nat → Bool) : ∀ f lo hi, lo ≤ hi → fHalf D f lo hi ≤ hi
  | 0, lo, hi, h => h
  | f + 1, lo, hi, h => by
    rw [fHalf]
    split
    · split
      · have := fHalf_in D f lo ((lo + hi) / 2) (by omega)
        omega
      · exact fHalf_in D f _ hi (by omega)
    · exact h
theorem aHalf_lt {V : VW} {a b t : Nat} (h : aHalf V a b = some t) : t ≤ rHi V a b := by
  unfold aHalf at h
  split at h
  · cases h
  · rename_i h2
    injection h with e
    rw [← e]
    exact fHalf_in _ _ _ _ (by omega)
theorem fLin_lt {D : Nat → Bool} {hi : Nat} : ∀ {f t u}, fLin D hi f t = some u → u ≤ hi
  | 0, t, u, h => by cases h
  | f + 1, t, u, h => by
    rw [fLin] at h
    split at h
    · cases h
    · split at h
      · injection h with e
        omega
      · exact fLin_lt h
section TurnsC
variable {d : Nat} {Q : Po} {μ : Mu} {s c m n q i j k t z a b : Nat} {x y g tt : Int32} {r : Nat → Int32} {l8 : Option Value}
theorem rHi_le {V : VW} {n a b : Nat} (h : okV V n) (ha : a < n) (hb : b < n) : rHi V a b ≤ 40 ∧ rLo V a b ≤ 40 := by
  have h1 := okBE h ha
  have h2 := okBE h hb
  unfold rHi rLo
  split <;> split <;> omega
theorem has_rg {V : VW} {n a b t : Nat} (h : okV V n) (ha : a < n) (hb : b < n) (h1 : rLo V a b ≤ t) (h2 : t ≤ rHi V a b) : vHas V a (nI t) ∧ vHas V b (nI t) := by
  obtain ⟨a1, a2, a3, a4⟩ := okBE h ha
  obtain ⟨b1, b2, b3, b4⟩ := okBE h hb
  unfold vHas
  rw [a1, a2, b1, b2]
  unfold rLo at h1
  unfold rHi at h2
  refine ⟨⟨?_, ?_⟩, ⟨?_, ?_⟩⟩ <;> (apply nI_le <;> (split at h1 <;> split at h2 <;> omega))
theorem c_roots (hW : ShR μ s c) (hB : RelB μ s r) (hO : okR r) (hm : m < nM r) (h : vHas (rW r) m (nI t)) (ht : t ≤ 40) : mI μ (s + 7 + 3 * m) t = rW r m (23 + t) := by
  have hW0 := hW
  obtain ⟨w0, w1, w2, w3, w4, w5, w6, w7, w8, w9, w10, w11, w12, w13, w14, w15⟩ := hW
  have hS0 := w12
  obtain ⟨q0, q1, q2, q3, q4, q5, q6, q7, q8, q9, q10, q11, q12, q13, q14, q15⟩ := w12
  have hB9 := hB
  obtain ⟨b1, b2, b3, b4, b5, b6, b7, b8⟩ := hB
  have hO0 := hO
  obtain ⟨o2, o6, o387, oT, o1708, oO, o1741, oF, o1, oq1, oq6, o0, ol1, ol40, oV, oN1, oP1, oF1⟩ := hO
  have hn : mI μ s 1 = nI (nM r) := b1.trans o2
  have hq9 : mI μ (s + 2) 1 = nI (nQ r) := b6.trans o1
  have hV := b7.ok' oV
  have := (b7 m hm).2 (nI t) ((b7.has hm).mpr h)
  unfold vRec at this
  rw [nI_clamp (by omega)] at this
  rw [cvr]
  exact this
theorem s_111 (hW : ShR μ s c) (hB : RelB μ s r) (hO : okR r) (ha : a < nM r) (hb : b < nM r) : Ev (d + 1) 111 [.ref (s + 5 + 3 * a), .ref (s + 5 + 3 * b)] μ Q = Q (some (some (.int (nI (rLo (rW r) a b))))) μ := by
  have hW0 := hW
  obtain ⟨w0, w1, w2, w3, w4, w5, w6, w7, w8, w9, w10, w11, w12, w13, w14, w15⟩ := hW
  have hS0 := w12
  obtain ⟨q0, q1, q2, q3, q4, q5, q6, q7, q8, q9, q10, q11, q12, q13, q14, q15⟩ := w12
  have hB9 := hB
  obtain ⟨b1, b2, b3, b4, b5, b6, b7, b8⟩ := hB
  have hO0 := hO
  obtain ⟨o2, o6, o387, oT, o1708, oO, o1741, oF, o1, oq1, oq6, o0, ol1, ol40, oV, oN1, oP1, oF1⟩ := hO
  have hn : mI μ s 1 = nI (nM r) := b1.trans o2
  have hq9 : mI μ (s + 2) 1 = nI (nQ r) := b6.trans o1
  have hV := b7.ok' oV
  have va := okBE oV ha
  have vb := okBE oV hb
  have e1 := (b7 a ha).1 6 (by omega)
  have e2 := (b7 b hb).1 6 (by omega)
  have e3 := aMax_nI (a := nB (rW r) a) (b := nB (rW r) b) (by omega) (by omega)
  unfold aMax at e3
  rw [in_111]
  simp (disch := first | omega | rfl) only [e_111_0, e_111_1, e_111_4, e_111_5, e_111_8, e_111_11, w0, w1, w2, w3, w4, w5, w6, w7, w8, w9, w10, q1, q2, q3, q4, q5, q6, q7, q8, q9, q10, q11, q12, q13, q14, q15, cv0, cv1, cv2, cv3, cv4, cv5, cv6, cvrec, e1, e2, va.1, vb.1, ge1, ule_t, true_or, or_true, nI_add, nI_mul, nI_sub, nI_clamp, nI_lt_t, nI_lt_f, nI_le_t, nI_le_f, nI_eq_t, nI_eq_f, vp_nI, tI, fI, not_true, not_false_iff, true_and, and_true, Classical.not_not, mS_uI, mS_uA, mS_uJ, mS_uR, mS_uX, mR_uI, mR_uA, mR_uJ, mR_uX, mX_uI, mX_uA, mX_uJ, mX_uR, mI_s, mI_n, mI_A, mI_An, mI_uJ, mI_uR, mI_uX, mJ_uI, mJ_uA, mJ_uR, mJ_uX, onR_s, kC_v, kC_n, kC_t, rLo]
  rw [e3]
theorem s_112 (hW : ShR μ s c) (hB : RelB μ s r) (hO : okR r) (ha : a < nM r) (hb : b < nM r) : Ev (d + 1) 112 [.ref (s + 5 + 3 * a), .ref (s + 5 + 3 * b)] μ Q = Q (some (some (.int (nI (rHi (rW r) a b))))) μ := by
  have hW0 := hW
  obtain ⟨w0, w1, w2, w3, w4, w5, w6, w7, w8, w9, w10, w11, w12, w13, w14, w15⟩ := hW
  have hS0 := w12
  obtain ⟨q0, q1, q2, q3, q4, q5, q6, q7, q8, q9, q10, q11, q12, q13, q14, q15⟩ := w12
  have hB9 := hB
  obtain ⟨b1, b2, b3, b4, b5, b6, b7, b8⟩ := hB
  have hO0 := hO
  obtain ⟨o2, o6, o387, oT, o1708, oO, o1741, oF, o1, oq1, oq6, o0, ol1, ol40, oV, oN1, oP1, oF1⟩ := hO
  have hn : mI μ s 1 = nI (nM r) := b1.trans o2
  have hq9 : mI μ (s + 2) 1 = nI (nQ r) := b6.trans o1
  have hV := b7.ok' oV
  have va := okBE oV ha
  have vb := okBE oV hb
  have e1 := (b7 a ha).1 1 (by omega)
  have e2 := (b7 b hb).1 1 (by omega)
  have e3 := aMin_nI (a := nE (rW r) a) (b := nE (rW r) b) (by omega) (by omega)
  unfold aMin at e3
  rw [in_112]
  simp (disch := first | omega | rfl) only [e_112_0, e_112_1, e_112_4, e_112_5, e_112_8, e_112_11, w0, w1, w2, w3, w4, w5, w6, w7, w8, w9, w10, q1, q2, q3, q4, q5, q6, q7, q8, q9, q10, q11, q12, q13, q14, q15, cv0, cv1, cv2, cv3, cv4, cv5, cv6, cvrec, e1, e2, va.2.1, vb.2.1, ge1, ule_t, true_or, or_true, nI_add, nI_mul, nI_sub, nI_clamp, nI_lt_t, nI_lt_f, nI_le_t, nI_le_f, nI_eq_t, nI_eq_f, vp_nI, tI, fI, not_true, not_false_iff, true_and, and_true, Classical.not_not, mS_uI, mS_uA, mS_uJ, mS_uR, mS_uX, mR_uI, mR_uA, mR_uJ, mR_uX, mX_uI, mX_uA, mX_uJ, mX_uR, mI_s, mI_n, mI_A, mI_An, mI_uJ, mI_uR, mI_uX, mJ_uI, mJ_uA, mJ_uR, mJ_uX, onR_s, kC_v, kC_n, kC_t, rHi]
  rw [e3]
theorem l_109 (hW : ShR μ s c) (hB : RelB μ s r) (hO : okR r) (ha : a < nM r) (hb : b < nM r) : ∀ f t, t + f = 42 → rLo (rW r) a b ≤ t → EM 109 d 29 [some (.ref 1000), some (.int (nI a)), some (.int (nI b)), some (.ref (s + 5 + 3 * a)), some (.ref (s + 5 + 3 * b)), some (.int (nI (rHi (rW r) a b))), some (.int (nI t))] [] μ (uad (uad (0, 0) (1, 6)) (1, 6)) Q = Q (some (some (.int (oN (fLin (dR (rW r) a b) (rHi (rW r) a b) f t))))) μ := by
  have hr := rHi_le hO.2.2.2.2.2.2.2.2.2.2.2.2.2.2.1 ha hb
  have hg := fun t (ht : t ≤ 40) h => c_roots (m := a) (t := t) hW hB hO ha h ht
  have hg2 := fun t (ht : t ≤ 40) h => c_roots (m := b) (t := t) hW hB hO hb h ht
  have hW0 := hW
  obtain ⟨w0, w1, w2, w3, w4, w5, w6, w7, w8, w9, w10, w11, w12, w13, w14, w15⟩ := hW
  have hS0 := w12
  obtain ⟨q0, q1, q2, q3, q4, q5, q6, q7, q8, q9, q10, q11, q12, q13, q14, q15⟩ := w12
  have hB9 := hB
  obtain ⟨b1, b2, b3, b4, b5, b6, b7, b8⟩ := hB
  have hO0 := hO
  obtain ⟨o2, o6, o387, oT, o1708, oO, o1741, oF, o1, oq1, oq6, o0, ol1, ol40, oV, oN1, oP1, oF1⟩ := hO
  have hn : mI μ s 1 = nI (nM r) := b1.trans o2
  have hq9 : mI μ (s + 2) 1 = nI (nQ r) := b6.trans o1
  have hV := b7.ok' oV
  intro f
  induction f with
  | zero =>
    intro t h1 h2
    rw [e_109_29]
    simp (disch := first | omega | rfl) only [e_109_0, e_109_1, e_109_2, e_109_5, e_109_6, e_109_7, e_109_8, e_109_11, e_109_13, e_109_14, e_109_16, e_109_19, e_109_21, e_109_22, e_109_24, e_109_27, e_109_31, e_109_33, e_109_36, e_109_37, e_109_40, e_109_42, e_109_43, e_109_45, e_109_48, e_109_50, e_109_51, e_109_54, e_109_56, e_109_57, e_109_60, e_109_63, e_109_64, w0, w1, w2, w3, w4, w5, w6, w7, w8, w9, w10, q1, q2, q3, q4, q5, q6, q7, q8, q9, q10, q11, q12, q13, q14, q15, b1, b2, b3, b4, b5, b6, o2, o387, o1708, o1741, o1, o0, ge1, ule_t, true_or, or_true, nI_add, nI_mul, nI_sub, nI_clamp, nI_lt_t, nI_lt_f, nI_le_t, nI_le_f, nI_eq_t, nI_eq_f, vp_nI, tI, fI, not_true, not_false_iff, true_and, and_true, Classical.not_not, mS_uI, mS_uA, mS_uJ, mS_uR, mS_uX, mR_uI, mR_uA, mR_uJ, mR_uX, mX_uI, mX_uA, mX_uJ, mX_uR, mI_s, mI_n, mI_A, mI_An, mI_uJ, mI_uR, mI_uX, mJ_uI, mJ_uA, mJ_uR, mJ_uX, onR_s, kC_v, kC_n, kC_t, ul0, ula1, ula2, ula3, ula4, ulb2, ulb3, ulb4, ulc2, ulc3, ulc4, ule4, ulf3, ulf4, fLin, oN]
  | succ f ih =>
    intro t h1 h2
    rw [e_109_29, fLin]
    by_cases hlt : rHi (rW r) a b < t
    · rw [if_pos hlt]
      simp (disch := first | omega | rfl) only [e_109_0, e_109_1, e_109_2, e_109_5, e_109_6, e_109_7, e_109_8, e_109_11, e_109_13, e_109_14, e_109_16, e_109_19, e_109_21, e_109_22, e_109_24, e_109_27, e_109_31, e_109_33, e_109_36, e_109_37, e_109_40, e_109_42, e_109_43, e_109_45, e_109_48, e_109_50, e_109_51, e_109_54, e_109_56, e_109_57, e_109_60, e_109_63, e_109_64, w0, w1, w2, w3, w4, w5, w6, w7, w8, w9, w10, q1, q2, q3, q4, q5, q6, q7, q8, q9, q10, q11, q12, q13, q14, q15, b1, b2, b3, b4, b5, b6, o2, o387, o1708, o1741, o1, o0, ge1, ule_t, true_or, or_true, nI_add, nI_mul, nI_sub, nI_clamp, nI_lt_t, nI_lt_f, nI_le_t, nI_le_f, nI_eq_t, nI_eq_f, vp_nI, tI, fI, not_true, not_false_iff, true_and, and_true, Classical.not_not, mS_uI, mS_uA, mS_uJ, mS_uR, mS_uX, mR_uI, mR_uA, mR_uJ, mR_uX, mX_uI, mX_uA, mX_uJ, mX_uR, mI_s, mI_n, mI_A, mI_An, mI_uJ, mI_uR, mI_uX, mJ_uI, mJ_uA, mJ_uR, mJ_uX, onR_s, kC_v, kC_n, kC_t, ul0, ula1, ula2, ula3, ula4, ulb2, ulb3, ulb4, ulc2, ulc3, ulc4, ule4, ulf3, ulf4, oN]
    · rw [if_neg hlt]
      obtain ⟨g1, g2⟩ := has_rg oV ha hb h2 (by omega : t ≤ rHi (rW r) a b)
      by_cases hd : rW r a (23 + t) = rW r b (23 + t)
      · rw [if_neg (show ¬ dR (rW r) a b t = true by unfold dR; rw [decide_eq_true hd]; exact Bool.false_ne_true)]
        simp (disch := first | omega | rfl) only [e_109_0, e_109_1, e_109_2, e_109_5, e_109_6, e_109_7, e_109_8, e_109_11, e_109_13, e_109_14, e_109_16, e_109_19, e_109_21, e_109_22, e_109_24, e_109_27, e_109_31, e_109_33, e_109_36, e_109_37, e_109_40, e_109_42, e_109_43, e_109_45, e_109_48, e_109_50, e_109_51, e_109_54, e_109_56, e_109_57, e_109_60, e_109_63, e_109_64, w0, w1, w2, w3, w4, w5, w6, w7, w8, w9, w10, q1, q2, q3, q4, q5, q6, q7, q8, q9, q10, q11, q12, q13, q14, q15, b1, b2, b3, b4, b5, b6, o2, o387, o1708, o1741, o1, o0, ge1, ule_t, true_or, or_true, nI_add, nI_mul, nI_sub, nI_clamp, nI_lt_t, nI_lt_f, nI_le_t, nI_le_f, nI_eq_t, nI_eq_f, vp_nI, tI, fI, not_true, not_false_iff, true_and, and_true, Classical.not_not, mS_uI, mS_uA, mS_uJ, mS_uR, mS_uX, mR_uI, mR_uA, mR_uJ, mR_uX, mX_uI, mX_uA, mX_uJ, mX_uR, mI_s, mI_n, mI_A, mI_An, mI_uJ, mI_uR, mI_uX, mJ_uI, mJ_uA, mJ_uR, mJ_uX, onR_s, kC_v, kC_n, kC_t, ul0, ula1, ula2, ula3, ula4, ulb2, ulb3, ulb4, ulc2, ulc3, ulc4, ule4, ulf3, ulf4, hg t (by omega) g1, hg2 t (by omega) g2, hd]
        exact ih (t + 1) (by omega) (by omega)
      · rw [if_pos (show dR (rW r) a b t = true by unfold dR; rw [decide_eq_false hd]; rfl)]
        simp (disch := first | omega | rfl) only [e_109_0, e_109_1, e_109_2, e_109_5, e_109_6, e_109_7, e_109_8, e_109_11, e_109_13, e_109_14, e_109_16, e_109_19, e_109_21, e_109_22, e_109_24, e_109_27, e_109_31, e_109_33, e_109_36, e_109_37, e_109_40, e_109_42, e_109_43, e_109_45, e_109_48, e_109_50, e_109_51, e_109_54, e_109_56, e_109_57, e_109_60, e_109_63, e_109_64, w0, w1, w2, w3, w4, w5, w6, w7, w8, w9, w10, q1, q2, q3, q4, q5, q6, q7, q8, q9, q10, q11, q12, q13, q14, q15, b1, b2, b3, b4, b5, b6, o2, o387, o1708, o1741, o1, o0, ge1, ule_t, true_or, or_true, nI_add, nI_mul, nI_sub, nI_clamp, nI_lt_t, nI_lt_f, nI_le_t, nI_le_f, nI_eq_t, nI_eq_f, vp_nI, tI, fI, not_true, not_false_iff, true_and, and_true, Classical.not_not, mS_uI, mS_uA, mS_uJ, mS_uR, mS_uX, mR_uI, mR_uA, mR_uJ, mR_uX, mX_uI, mX_uA, mX_uJ, mX_uR, mI_s, mI_n, mI_A, mI_An, mI_uJ, mI_uR, mI_uX, mJ_uI, mJ_uA, mJ_uR, mJ_uX, onR_s, kC_v, kC_n, kC_t, ul0, ula1, ula2, ula3, ula4, ulb2, ulb3, ulb4, ulc2, ulc3, ulc4, ule4, ulf3, ulf4, hg t (by omega) g1, hg2 t (by omega) g2, hd, oN]
theorem fLin_fuel {D : Nat → Bool} {hi : Nat} : ∀ {f f' t}, hi < t + f → hi < t + f' → fLin D hi f t = fLin D hi f' t
  | 0, 0, t, _, _ => rfl
  | 0, f' + 1, t, h, _ => by rw [fLin, fLin, if_pos (by omega)]
  | f + 1, 0, t, _, h => by rw [fLin, fLin, if_pos (by omega)]
  | f + 1, f' + 1, t, h, h' => by
    rw [fLin, fLin]
    by_cases h1 : hi < t
    · rw [if_pos h1, if_pos h1]
    · rw [if_neg h1, if_neg h1, fLin_fuel (f := f) (f' := f') (by omega) (by omega)]
theorem c_109 (hW : ShR μ s c) (hB : RelB μ s r) (hO : okR r) (ha : a < nM r) (hb : b < nM r) : Ev (d + 4) 109 [.ref 1000, .int (nI a), .int (nI b)] μ Q = Q (some (some (.int (oN (aLin (rW r) a b))))) μ := by
  have hr := rHi_le hO.2.2.2.2.2.2.2.2.2.2.2.2.2.2.1 ha hb
  have hW0 := hW
  obtain ⟨w0, w1, w2, w3, w4, w5, w6, w7, w8, w9, w10, w11, w12, w13, w14, w15⟩ := hW
  have hS0 := w12
  obtain ⟨q0, q1, q2, q3, q4, q5, q6, q7, q8, q9, q10, q11, q12, q13, q14, q15⟩ := w12
  have hB9 := hB
  obtain ⟨b1, b2, b3, b4, b5, b6, b7, b8⟩ := hB
  have hO0 := hO
  obtain ⟨o2, o6, o387, oT, o1708, oO, o1741, oF, o1, oq1, oq6, o0, ol1, ol40, oV, oN1, oP1, oF1⟩ := hO
  have hn : mI μ s 1 = nI (nM r) := b1.trans o2
  have hq9 : mI μ (s + 2) 1 = nI (nQ r) := b6.trans o1
  have hV := b7.ok' oV
  rw [in_109]
  simp (disch := first | omega | rfl) only [e_109_0, e_109_1, e_109_2, e_109_5, e_109_6, e_109_7, e_109_8, e_109_11, e_109_13, e_109_14, e_109_16, e_109_19, e_109_21, e_109_22, e_109_24, e_109_27, e_109_31, e_109_33, e_109_36, e_109_37, e_109_40, e_109_42, e_109_43, e_109_45, e_109_48, e_109_50, e_109_51, e_109_54, e_109_56, e_109_57, e_109_60, e_109_63, e_109_64, w0, w1, w2, w3, w4, w5, w6, w7, w8, w9, w10, q1, q2, q3, q4, q5, q6, q7, q8, q9, q10, q11, q12, q13, q14, q15, b1, b2, b3, b4, b5, b6, o2, o387, o1708, o1741, o1, o0, ge1, ule_t, true_or, or_true, nI_add, nI_mul, nI_sub, nI_clamp, nI_lt_t, nI_lt_f, nI_le_t, nI_le_f, nI_eq_t, nI_eq_f, vp_nI, tI, fI, not_true, not_false_iff, true_and, and_true, Classical.not_not, mS_uI, mS_uA, mS_uJ, mS_uR, mS_uX, mR_uI, mR_uA, mR_uJ, mR_uX, mX_uI, mX_uA, mX_uJ, mX_uR, mI_s, mI_n, mI_A, mI_An, mI_uJ, mI_uR, mI_uX, mJ_uI, mJ_uA, mJ_uR, mJ_uX, onR_s, kC_v, kC_n, kC_t, ul0, ula1, ula2, ula3, ula4, ulb2, ulb3, ulb4, ulc2, ulc3, ulc4, ule4, ulf3, ulf4, c_150t hW0 hB9 hO0 ha, c_150t hW0 hB9 hO0 hb, s_111 hW0 hB9 hO0 ha hb, s_112 hW0 hB9 hO0 ha hb]
  rw [l_109 hW0 hB9 hO0 ha hb (42 - rLo (rW r) a b) _ (by omega) (Nat.le_refl _)]
  unfold aLin
  rw [fLin_fuel (f := 42 - rLo (rW r) a b) (f' := 42) (by omega) (by omega)]
theorem c_109t (hW : ShR μ s c) (hB : RelB μ s r) (hO : okR r) (hx : bad x (nM r)) : Ev (d + 4) 109 [.ref 1000, .int x, .int y] μ Q = (∀ x, mX μ ≤ x → Q none (uX μ x)) := by
  have hW0 := hW
  obtain ⟨w0, w1, w2, w3, w4, w5, w6, w7, w8, w9, w10, w11, w12, w13, w14, w15⟩ := hW
  have hS0 := w12
  obtain ⟨q0, q1, q2, q3, q4, q5, q6, q7, q8, q9, q10, q11, q12, q13, q14, q15⟩ := w12
  have hB9 := hB
  obtain ⟨b1, b2, b3, b4, b5, b6, b7, b8⟩ := hB
  have hO0 := hO
  obtain ⟨o2, o6, o387, oT, o1708, oO, o1741, oF, o1, oq1, oq6, o0, ol1, ol40, oV, oN1, oP1, oF1⟩ := hO
  have hn : mI μ s 1 = nI (nM r) := b1.trans o2
  have hq9 : mI μ (s + 2) 1 = nI (nQ r) := b6.trans o1
  have hV := b7.ok' oV
  rw [in_109]
  simp (disch := first | omega | rfl) only [e_109_0, e_109_1, e_109_2, e_109_5, e_109_6, e_109_7, e_109_8, e_109_11, e_109_13, e_109_14, e_109_16, e_109_19, e_109_21, e_109_22, e_109_24, e_109_27, e_109_31, e_109_33, e_109_36, e_109_37, e_109_40, e_109_42, e_109_43, e_109_45, e_109_48, e_109_50, e_109_51, e_109_54, e_109_56, e_109_57, e_109_60, e_109_63, e_109_64, w0, w1, w2, w3, w4, w5, w6, w7, w8, w9, w10, q1, q2, q3, q4, q5, q6, q7, q8, q9, q10, q11, q12, q13, q14, q15, b1, b2, b3, b4, b5, b6, o2, o387, o1708, o1741, o1, o0, ge1, ule_t, true_or, or_true, nI_add, nI_mul, nI_sub, nI_clamp, nI_lt_t, nI_lt_f, nI_le_t, nI_le_f, nI_eq_t, nI_eq_f, vp_nI, tI, fI, not_true, not_false_iff, true_and, and_true, Classical.not_not, mS_uI, mS_uA, mS_uJ, mS_uR, mS_uX, mR_uI, mR_uA, mR_uJ, mR_uX, mX_uI, mX_uA, mX_uJ, mX_uR, mI_s, mI_n, mI_A, mI_An, mI_uJ, mI_uR, mI_uX, mJ_uI, mJ_uA, mJ_uR, mJ_uX, onR_s, kC_v, kC_n, kC_t, ul0, ula1, ula2, ula3, ula4, ulb2, ulb3, ulb4, ulc2, ulc3, ulc4, ule4, ulf3, ulf4, c_150f hW0 hB9 hO0 hx, TT_109]
theorem c_109f (hW : ShR μ s c) (hB : RelB μ s r) (hO : okR r) (ha : a < nM r) (hx : bad x (nM r)) : Ev (d + 4) 109 [.ref 1000, .int (nI a), .int x] μ Q = (∀ x, mX μ ≤ x → Q none (uX μ x)) := by
  have hW0 := hW
  obtain ⟨w0, w1, w2, w3, w4, w5, w6, w7, w8, w9, w10, w11, w12, w13, w14, w15⟩ := hW
  have hS0 := w12
  obtain ⟨q0, q1, q2, q3, q4, q5, q6, q7, q8, q9, q10, q11, q12, q13, q14, q15⟩ := w12
  have hB9 := hB
  obtain ⟨b1, b2, b3, b4, b5, b6, b7, b8⟩ := hB
  have hO0 := hO
  obtain ⟨o2, o6, o387, oT, o1708, oO, o1741, oF, o1, oq1, oq6, o0, ol1, ol40, oV, oN1, oP1, oF1⟩ := hO
  have hn : mI μ s 1 = nI (nM r) := b1.trans o2
  have hq9 : mI μ (s + 2) 1 = nI (nQ r) := b6.trans o1
  have hV := b7.ok' oV
  rw [in_109]
  simp (disch := first | omega | rfl) only [e_109_0, e_109_1, e_109_2, e_109_5, e_109_6, e_109_7, e_109_8, e_109_11, e_109_13, e_109_14, e_109_16, e_109_19, e_109_21, e_109_22, e_109_24, e_109_27, e_109_31, e_109_33, e_109_36, e_109_37, e_109_40, e_109_42, e_109_43, e_109_45, e_109_48, e_109_50, e_109_51, e_109_54, e_109_56, e_109_57, e_109_60, e_109_63, e_109_64, w0, w1, w2, w3, w4, w5, w6, w7, w8, w9, w10, q1, q2, q3, q4, q5, q6, q7, q8, q9, q10, q11, q12, q13, q14, q15, b1, b2, b3, b4, b5, b6, o2, o387, o1708, o1741, o1, o0, ge1, ule_t, true_or, or_true, nI_add, nI_mul, nI_sub, nI_clamp, nI_lt_t, nI_lt_f, nI_le_t, nI_le_f, nI_eq_t, nI_eq_f, vp_nI, tI, fI, not_true, not_false_iff, true_and, and_true, Classical.not_not, mS_uI, mS_uA, mS_uJ, mS_uR, mS_uX, mR_uI, mR_uA, mR_uJ, mR_uX, mX_uI, mX_uA, mX_uJ, mX_uR, mI_s, mI_n, mI_A, mI_An, mI_uJ, mI_uR, mI_uX, mJ_uI, mJ_uA, mJ_uR, mJ_uX, onR_s, kC_v, kC_n, kC_t, ul0, ula1, ula2, ula3, ula4, ulb2, ulb3, ulb4, ulc2, ulc3, ulc4, ule4, ulf3, ulf4, c_150t hW0 hB9 hO0 ha, c_150f hW0 hB9 hO0 hx, TT_109]
theorem nI_div2 {a : Nat} (h : a < 2147483648) : nI a / nI 2 = nI (a / 2) := by
  apply Int32.toInt_inj.mp
  rw [Int32.toInt_div, nI_toInt h, nI_toInt (by omega), nI_toInt (by omega)]
  rw [show ((a / 2 : Nat) : Int) = (a : Int) / 2 by omega, Int.tdiv_eq_ediv_of_nonneg (by omega)]
  rw [Int.bmod_eq_of_le (by omega) (by omega)]
  rfl
theorem l_110 (hW : ShR μ s c) (hB : RelB μ s r) (hO : okR r) (ha : a < nM r) (hb : b < nM r) : ∀ f st lo hi l8, lo ≤ hi → st + f = 40 → hi ≤ lo + f → rLo (rW r) a b ≤ lo → hi ≤ rHi (rW r) a b → EM 110 d 59 [some (.ref 1000), some (.int (nI a)), some (.int (nI b)), some (.ref (s + 5 + 3 * a)), some (.ref (s + 5 + 3 * b)), some (.int (nI lo)), some (.int (nI hi)), some (.int (nI st)), l8] [] μ (uad (uad (0, 0) (1, 6)) (1, 6)) Q = Q (some (some (.int (nI (fHalf (dR (rW r) a b) (f + 1) lo hi))))) μ := by
  have hr := rHi_le hO.2.2.2.2.2.2.2.2.2.2.2.2.2.2.1 ha hb
  have hg := fun t (ht : t ≤ 40) h => c_roots (m := a) (t := t) hW hB hO ha h ht
  have hg2 := fun t (ht : t ≤ 40) h => c_roots (m := b) (t := t) hW hB hO hb h ht
  have hW0 := hW
  obtain ⟨w0, w1, w2, w3, w4, w5, w6, w7, w8, w9, w10, w11, w12, w13, w14, w15⟩ := hW
  have hS0 := w12
  obtain ⟨q0, q1, q2, q3, q4, q5, q6, q7, q8, q9, q10, q11, q12, q13, q14, q15⟩ := w12
  have hB9 := hB
  obtain ⟨b1, b2, b3, b4, b5, b6, b7, b8⟩ := hB
  have hO0 := hO
  obtain ⟨o2, o6, o387, oT, o1708, oO, o1741, oF, o1, oq1, oq6, o0, ol1, ol40, oV, oN1, oP1, oF1⟩ := hO
  have hn : mI μ s 1 = nI (nM r) := b1.trans o2
  have hq9 : mI μ (s + 2) 1 = nI (nQ r) := b6.trans o1
  have hV := b7.ok' oV
  intro f
  induction f with
  | zero =>
    intro st lo hi l8 h0 h1 h2 h3 h4
    obtain rfl : lo = hi := by omega
    rw [e_110_59, fHalf, if_neg (by omega)]
    simp (disch := first | omega | rfl) only [e_110_0, e_110_1, e_110_2, e_110_5, e_110_6, e_110_7, e_110_8, e_110_11, e_110_13, e_110_14, e_110_16, e_110_19, e_110_21, e_110_22, e_110_24, e_110_27, e_110_29, e_110_31, e_110_33, e_110_36, e_110_37, e_110_40, e_110_42, e_110_43, e_110_45, e_110_48, e_110_50, e_110_51, e_110_54, e_110_55, e_110_56, e_110_57, e_110_61, e_110_63, e_110_66, e_110_68, e_110_70, e_110_73, e_110_75, e_110_77, e_110_78, e_110_79, e_110_80, e_110_82, e_110_83, e_110_86, e_110_88, e_110_89, e_110_91, e_110_94, e_110_96, e_110_97, e_110_100, e_110_102, e_110_104, e_110_107, e_110_109, e_110_110, e_110_111, e_110_113, e_110_116, e_110_119, e_110_121, w0, w1, w2, w3, w4, w5, w6, w7, w8, w9, w10, q1, q2, q3, q4, q5, q6, q7, q8, q9, q10, q11, q12, q13, q14, q15, b1, b2, b3, b4, b5, b6, o2, o387, o1708, o1741, o1, o0, ge1, ule_t, true_or, or_true, nI_add, nI_mul, nI_sub, nI_clamp, nI_lt_t, nI_lt_f, nI_le_t, nI_le_f, nI_eq_t, nI_eq_f, vp_nI, tI, fI, not_true, not_false_iff, true_and, and_true, Classical.not_not, mS_uI, mS_uA, mS_uJ, mS_uR, mS_uX, mR_uI, mR_uA, mR_uJ, mR_uX, mX_uI, mX_uA, mX_uJ, mX_uR, mI_s, mI_n, mI_A, mI_An, mI_uJ, mI_uR, mI_uX, mJ_uI, mJ_uA, mJ_uR, mJ_uX, onR_s, kC_v, kC_n, kC_t, ul0, ula1, ula2, ula3, ula4, ulb2, ulb3, ulb4, ulc2, ulc3, ulc4, ule4, ulf3, ulf4]
  | succ f ih =>
    intro st lo hi l8 h0 h1 h2 h3 h4
    rw [e_110_59, fHalf]
    by_cases hlt : lo < hi
    · rw [if_pos hlt]
      obtain ⟨g1, g2⟩ := has_rg (t := (lo + hi) / 2) oV ha hb (by omega) (by omega)
      by_cases hd : rW r a (23 + (lo + hi) / 2) = rW r b (23 + (lo + hi) / 2)
      · rw [if_neg (show ¬ dR (rW r) a b ((lo + hi) / 2) = true by unfold dR; rw [decide_eq_true hd]; exact Bool.false_ne_true)]
        simp (disch := first | omega | rfl) only [e_110_0, e_110_1, e_110_2, e_110_5, e_110_6, e_110_7, e_110_8, e_110_11, e_110_13, e_110_14, e_110_16, e_110_19, e_110_21, e_110_22, e_110_24, e_110_27, e_110_29, e_110_31, e_110_33, e_110_36, e_110_37, e_110_40, e_110_42, e_110_43, e_110_45, e_110_48, e_110_50, e_110_51, e_110_54, e_110_55, e_110_56, e_110_57, e_110_61, e_110_63, e_110_66, e_110_68, e_110_70, e_110_73, e_110_75, e_110_77, e_110_78, e_110_79, e_110_80, e_110_82, e_110_83, e_110_86, e_110_88, e_110_89, e_110_91, e_110_94, e_110_96, e_110_97, e_110_100, e_110_102, e_110_104, e_110_107, e_110_109, e_110_110, e_110_111, e_110_113, e_110_116, e_110_119, e_110_121, w0, w1, w2, w3, w4, w5, w6, w7, w8, w9, w10, q1, q2, q3, q4, q5, q6, q7, q8, q9, q10, q11, q12, q13, q14, q15, b1, b2, b3, b4, b5, b6, o2, o387, o1708, o1741, o1, o0, ge1, ule_t, true_or, or_true, nI_add, nI_mul, nI_sub, nI_clamp, nI_lt_t, nI_lt_f, nI_le_t, nI_le_f, nI_eq_t, nI_eq_f, vp_nI, tI, fI, not_true, not_false_iff, true_and, and_true, Classical.not_not, mS_uI, mS_uA, mS_uJ, mS_uR, mS_uX, mR_uI, mR_uA, mR_uJ, mR_uX, mX_uI, mX_uA, mX_uJ, mX_uR, mI_s, mI_n, mI_A, mI_An, mI_uJ, mI_uR, mI_uX, mJ_uI, mJ_uA, mJ_uR, mJ_uX, onR_s, kC_v, kC_n, kC_t, ul0, ula1, ula2, ula3, ula4, ulb2, ulb3, ulb4, ulc2, ulc3, ulc4, ule4, ulf3, ulf4, nI_div2, hg ((lo + hi) / 2) (by omega) g1, hg2 ((lo + hi) / 2) (by omega) g2, hd]
        exact ih (st + 1) _ _ _ (by omega) (by omega) (by omega) (by omega) (by omega)
      · rw [if_pos (show dR (rW r) a b ((lo + hi) / 2) = true by unfold dR; rw [decide_eq_false hd]; rfl)]
        simp (disch := first | omega | rfl) only [e_110_0, e_110_1, e_110_2, e_110_5, e_110_6, e_110_7, e_110_8, e_110_11, e_110_13, e_110_14, e_110_16, e_110_19, e_110_21, e_110_22, e_110_24, e_110_27, e_110_29, e_110_31, e_110_33, e_110_36, e_110_37, e_110_40, e_110_42, e_110_43, e_110_45, e_110_48, e_110_50, e_110_51, e_110_54, e_110_55, e_110_56, e_110_57, e_110_61, e_110_63, e_110_66, e_110_68, e_110_70, e_110_73, e_110_75, e_110_77, e_110_78, e_110_79, e_110_80, e_110_82, e_110_83, e_110_86, e_110_88, e_110_89, e_110_91, e_110_94, e_110_96, e_110_97, e_110_100, e_110_102, e_110_104, e_110_107, e_110_109, e_110_110, e_110_111, e_110_113, e_110_116, e_110_119, e_110_121, w0, w1, w2, w3, w4, w5, w6, w7, w8, w9, w10, q1, q2, q3, q4, q5, q6, q7, q8, q9, q10, q11, q12, q13, q14, q15, b1, b2, b3, b4, b5, b6, o2, o387, o1708, o1741, o1, o0, ge1, ule_t, true_or, or_true, nI_add, nI_mul, nI_sub, nI_clamp, nI_lt_t, nI_lt_f, nI_le_t, nI_le_f, nI_eq_t, nI_eq_f, vp_nI, tI, fI, not_true, not_false_iff, true_and, and_true, Classical.not_not, mS_uI, mS_uA, mS_uJ, mS_uR, mS_uX, mR_uI, mR_uA, mR_uJ, mR_uX, mX_uI, mX_uA, mX_uJ, mX_uR, mI_s, mI_n, mI_A, mI_An, mI_uJ, mI_uR, mI_uX, mJ_uI, mJ_uA, mJ_uR, mJ_uX, onR_s, kC_v, kC_n, kC_t, ul0, ula1, ula2, ula3, ula4, ulb2, ulb3, ulb4, ulc2, ulc3, ulc4, ule4, ulf3, ulf4, nI_div2, hg ((lo + hi) / 2) (by omega) g1, hg2 ((lo + hi) / 2) (by omega) g2, hd]
        exact ih (st + 1) _ _ _ (by omega) (by omega) (by omega) (by omega) (by omega)
    · rw [if_neg hlt]
      simp (disch := first | omega | rfl) only [e_110_0, e_110_1, e_110_2, e_110_5, e_110_6, e_110_7, e_110_8, e_110_11, e_110_13, e_110_14, e_110_16, e_110_19, e_110_21, e_110_22, e_110_24, e_110_27, e_110_29, e_110_31, e_110_33, e_110_36, e_110_37, e_110_40, e_110_42, e_110_43, e_110_45, e_110_48, e_110_50, e_110_51, e_110_54, e_110_55, e_110_56, e_110_57, e_110_61, e_110_63, e_110_66, e_110_68, e_110_70, e_110_73, e_110_75, e_110_77, e_110_78, e_110_79, e_110_80, e_110_82, e_110_83, e_110_86, e_110_88, e_110_89, e_110_91, e_110_94, e_110_96, e_110_97, e_110_100, e_110_102, e_110_104, e_110_107, e_110_109, e_110_110, e_110_111, e_110_113, e_110_116, e_110_119, e_110_121, w0, w1, w2, w3, w4, w5, w6, w7, w8, w9, w10, q1, q2, q3, q4, q5, q6, q7, q8, q9, q10, q11, q12, q13, q14, q15, b1, b2, b3, b4, b5, b6, o2, o387, o1708, o1741, o1, o0, ge1, ule_t, true_or, or_true, nI_add, nI_mul, nI_sub, nI_clamp, nI_lt_t, nI_lt_f, nI_le_t, nI_le_f, nI_eq_t, nI_eq_f, vp_nI, tI, fI, not_true, not_false_iff, true_and, and_true, Classical.not_not, mS_uI, mS_uA, mS_uJ, mS_uR, mS_uX, mR_uI, mR_uA, mR_uJ, mR_uX, mX_uI, mX_uA, mX_uJ, mX_uR, mI_s, mI_n, mI_A, mI_An, mI_uJ, mI_uR, mI_uX, mJ_uI, mJ_uA, mJ_uR, mJ_uX, onR_s, kC_v, kC_n, kC_t, ul0, ula1, ula2, ula3, ula4, ulb2, ulb3, ulb4, ulc2, ulc3, ulc4, ule4, ulf3, ulf4]
theorem c_110 (hW : ShR μ s c) (hB : RelB μ s r) (hO : okR r) (ha : a < nM r) (hb : b < nM r) : Ev (d + 4) 110 [.ref 1000, .int (nI a), .int (nI b)] μ Q = Q (some (some (.int (oN (aHalf (rW r) a b))))) μ := by
  have hr := rHi_le hO.2.2.2.2.2.2.2.2.2.2.2.2.2.2.1 ha hb
  have hg := fun t (ht : t ≤ 40) h => c_roots (m := a) (t := t) hW hB hO ha h ht
  have hg2 := fun t (ht : t ≤ 40) h => c_roots (m := b) (t := t) hW hB hO hb h ht
  have hW0 := hW
  obtain ⟨w0, w1, w2, w3, w4, w5, w6, w7, w8, w9, w10, w11, w12, w13, w14, w15⟩ := hW
  have hS0 := w12
  obtain ⟨q0, q1, q2, q3, q4, q5, q6, q7, q8, q9, q10, q11, q12, q13, q14, q15⟩ := w12
  have hB9 := hB
  obtain ⟨b1, b2, b3, b4, b5, b6, b7, b8⟩ := hB
  have hO0 := hO
  obtain ⟨o2, o6, o387, oT, o1708, oO, o1741, oF, o1, oq1, oq6, o0, ol1, ol40, oV, oN1, oP1, oF1⟩ := hO
  have hn : mI μ s 1 = nI (nM r) := b1.trans o2
  have hq9 : mI μ (s + 2) 1 = nI (nQ r) := b6.trans o1
  have hV := b7.ok' oV
  rw [in_110]
  unfold aHalf
  by_cases hlt : rHi (rW r) a b < rLo (rW r) a b
  · rw [if_pos (Or.inl hlt)]
    simp (disch := first | omega | rfl) only [e_110_0, e_110_1, e_110_2, e_110_5, e_110_6, e_110_7, e_110_8, e_110_11, e_110_13, e_110_14, e_110_16, e_110_19, e_110_21, e_110_22, e_110_24, e_110_27, e_110_29, e_110_31, e_110_33, e_110_36, e_110_37, e_110_40, e_110_42, e_110_43, e_110_45, e_110_48, e_110_50, e_110_51, e_110_54, e_110_55, e_110_56, e_110_57, e_110_61, e_110_63, e_110_66, e_110_68, e_110_70, e_110_73, e_110_75, e_110_77, e_110_78, e_110_79, e_110_80, e_110_82, e_110_83, e_110_86, e_110_88, e_110_89, e_110_91, e_110_94, e_110_96, e_110_97, e_110_100, e_110_102, e_110_104, e_110_107, e_110_109, e_110_110, e_110_111, e_110_113, e_110_116, e_110_119, e_110_121, w0, w1, w2, w3, w4, w5, w6, w7, w8, w9, w10, q1, q2, q3, q4, q5, q6, q7, q8, q9, q10, q11, q12, q13, q14, q15, b1, b2, b3, b4, b5, b6, o2, o387, o1708, o1741, o1, o0, ge1, ule_t, true_or, or_true, nI_add, nI_mul, nI_sub, nI_clamp, nI_lt_t, nI_lt_f, nI_le_t, nI_le_f, nI_eq_t, nI_eq_f, vp_nI, tI, fI, not_true, not_false_iff, true_and, and_true, Classical.not_not, mS_uI, mS_uA, mS_uJ, mS_uR, mS_uX, mR_uI, mR_uA, mR_uJ, mR_uX, mX_uI, mX_uA, mX_uJ, mX_uR, mI_s, mI_n, mI_A, mI_An, mI_uJ, mI_uR, mI_uX, mJ_uI, mJ_uA, mJ_uR, mJ_uX, onR_s, kC_v, kC_n, kC_t, ul0, ula1, ula2, ula3, ula4, ulb2, ulb3, ulb4, ulc2, ulc3, ulc4, ule4, ulf3, ulf4, c_150t hW0 hB9 hO0 ha, c_150t hW0 hB9 hO0 hb, s_111 hW0 hB9 hO0 ha hb, s_112 hW0 hB9 hO0 ha hb, oN]
  · obtain ⟨g1, g2⟩ := has_rg (t := rHi (rW r) a b) oV ha hb (by omega) (by omega)
    by_cases hd : rW r a (23 + rHi (rW r) a b) = rW r b (23 + rHi (rW r) a b)
    · rw [if_pos (Or.inr (by unfold dR; rw [decide_eq_true hd]; rfl))]
      simp (disch := first | omega | rfl) only [e_110_0, e_110_1, e_110_2, e_110_5, e_110_6, e_110_7, e_110_8, e_110_11, e_110_13, e_110_14, e_110_16, e_110_19, e_110_21, e_110_22, e_110_24, e_110_27, e_110_29, e_110_31, e_110_33, e_110_36, e_110_37, e_110_40, e_110_42, e_110_43, e_110_45, e_110_48, e_110_50, e_110_51, e_110_54, e_110_55, e_110_56, e_110_57, e_110_61, e_110_63, e_110_66, e_110_68, e_110_70, e_110_73, e_110_75, e_110_77, e_110_78, e_110_79, e_110_80, e_110_82, e_110_83, e_110_86, e_110_88, e_110_89, e_110_91, e_110_94, e_110_96, e_110_97, e_110_100, e_110_102, e_110_104, e_110_107, e_110_109, e_110_110, e_110_111, e_110_113, e_110_116, e_110_119, e_110_121, w0, w1, w2, w3, w4, w5, w6, w7, w8, w9, w10, q1, q2, q3, q4, q5, q6, q7, q8, q9, q10, q11, q12, q13, q14, q15, b1, b2, b3, b4, b5, b6, o2, o387, o1708, o1741, o1, o0, ge1, ule_t, true_or, or_true, nI_add, nI_mul, nI_sub, nI_clamp, nI_lt_t, nI_lt_f, nI_le_t, nI_le_f, nI_eq_t, nI_eq_f, vp_nI, tI, fI, not_true, not_false_iff, true_and, and_true, Classical.not_not, mS_uI, mS_uA, mS_uJ, mS_uR, mS_uX, mR_uI, mR_uA, mR_uJ, mR_uX, mX_uI, mX_uA, mX_uJ, mX_uR, mI_s, mI_n, mI_A, mI_An, mI_uJ, mI_uR, mI_uX, mJ_uI, mJ_uA, mJ_uR, mJ_uX, onR_s, kC_v, kC_n, kC_t, ul0, ula1, ula2, ula3, ula4, ulb2, ulb3, ulb4, ulc2, ulc3, ulc4, ule4, ulf3, ulf4, c_150t hW0 hB9 hO0 ha, c_150t hW0 hB9 hO0 hb, s_111 hW0 hB9 hO0 ha hb, s_112 hW0 hB9 hO0 ha hb, hg (rHi (rW r) a b) (by omega) g1, hg2 (rHi (rW r) a b) (by omega) g2, hd, oN]
    · rw [if_neg (fun z => z.elim hlt (fun z => by unfold dR at z; rw [decide_eq_false hd] at z; cases z))]
      simp (disch := first | omega | rfl) only [e_110_0, e_110_1, e_110_2, e_110_5, e_110_6, e_110_7, e_110_8, e_110_11, e_110_13, e_110_14, e_110_16, e_110_19, e_110_21, e_110_22, e_110_24, e_110_27, e_110_29, e_110_31, e_110_33, e_110_36, e_110_37, e_110_40, e_110_42, e_110_43, e_110_45, e_110_48, e_110_50, e_110_51, e_110_54, e_110_55, e_110_56, e_110_57, e_110_61, e_110_63, e_110_66, e_110_68, e_110_70, e_110_73, e_110_75, e_110_77, e_110_78, e_110_79, e_110_80, e_110_82, e_110_83, e_110_86, e_110_88, e_110_89, e_110_91, e_110_94, e_110_96, e_110_97, e_110_100, e_110_102, e_110_104, e_110_107, e_110_109, e_110_110, e_110_111, e_110_113, e_110_116, e_110_119, e_110_121, w0, w1, w2, w3, w4, w5, w6, w7, w8, w9, w10, q1, q2, q3, q4, q5, q6, q7, q8, q9, q10, q11, q12, q13, q14, q15, b1, b2, b3, b4, b5, b6, o2, o387, o1708, o1741, o1, o0, ge1, ule_t, true_or, or_true, nI_add, nI_mul, nI_sub, nI_clamp, nI_lt_t, nI_lt_f, nI_le_t, nI_le_f, nI_eq_t, nI_eq_f, vp_nI, tI, fI, not_true, not_false_iff, true_and, and_true, Classical.not_not, mS_uI, mS_uA, mS_uJ, mS_uR, mS_uX, mR_uI, mR_uA, mR_uJ, mR_uX, mX_uI, mX_uA, mX_uJ, mX_uR, mI_s, mI_n, mI_A, mI_An, mI_uJ, mI_uR, mI_uX, mJ_uI, mJ_uA, mJ_uR, mJ_uX, onR_s, kC_v, kC_n, kC_t, ul0, ula1, ula2, ula3, ula4, ulb2, ulb3, ulb4, ulc2, ulc3, ulc4, ule4, ulf3, ulf4, c_150t hW0 hB9 hO0 ha, c_150t hW0 hB9 hO0 hb, s_111 hW0 hB9 hO0 ha hb, s_112 hW0 hB9 hO0 ha hb, hg (rHi (rW r) a b) (by omega) g1, hg2 (rHi (rW r) a b) (by omega) g2, hd, oN]
      exact l_110 hW0 hB9 hO0 ha hb 40 0 _ _ none (by omega) (by omega) (by omega) (by omega) (by omega)
theorem c_110t (hW : ShR μ s c) (hB : RelB μ s r) (hO : okR r) (hx : bad x (nM r)) : Ev (d + 4) 110 [.ref 1000, .int x, .int y] μ Q = (∀ x, mX μ ≤ x → Q none (uX μ x)) := by
  have hW0 := hW
  obtain ⟨w0, w1, w2, w3, w4, w5, w6, w7, w8, w9, w10, w11, w12, w13, w14, w15⟩ := hW
  have hS0 := w12
  obtain ⟨q0, q1, q2, q3, q4, q5, q6, q7, q8, q9, q10, q11, q12, q13, q14, q15⟩ := w12
  have hB9 := hB
  obtain ⟨b1, b2, b3, b4, b5, b6, b7, b8⟩ := hB
  have hO0 := hO
  obtain ⟨o2, o6, o387, oT, o1708, oO, o1741, oF, o1, oq1, oq6, o0, ol1, ol40, oV, oN1, oP1, oF1⟩ := hO
  have hn : mI μ s 1 = nI (nM r) := b1.trans o2
  have hq9 : mI μ (s + 2) 1 = nI (nQ r) := b6.trans o1
  have hV := b7.ok' oV
  rw [in_110]
  simp (disch := first | omega | rfl) only [e_110_0, e_110_1, e_110_2, e_110_5, e_110_6, e_110_7, e_110_8, e_110_11, e_110_13, e_110_14, e_110_16, e_110_19, e_110_21, e_110_22, e_110_24, e_110_27, e_110_29, e_110_31, e_110_33, e_110_36, e_110_37, e_110_40, e_110_42, e_110_43, e_110_45, e_110_48, e_110_50, e_110_51, e_110_54, e_110_55, e_110_56, e_110_57, e_110_61, e_110_63, e_110_66, e_110_68, e_110_70, e_110_73, e_110_75, e_110_77, e_110_78, e_110_79, e_110_80, e_110_82, e_110_83, e_110_86, e_110_88, e_110_89, e_110_91, e_110_94, e_110_96, e_110_97, e_110_100, e_110_102, e_110_104, e_110_107, e_110_109, e_110_110, e_110_111, e_110_113, e_110_116, e_110_119, e_110_121, w0, w1, w2, w3, w4, w5, w6, w7, w8, w9, w10, q1, q2, q3, q4, q5, q6, q7, q8, q9, q10, q11, q12, q13, q14, q15, b1, b2, b3, b4, b5, b6, o2, o387, o1708, o1741, o1, o0, ge1, ule_t, true_or, or_true, nI_add, nI_mul, nI_sub, nI_clamp, nI_lt_t, nI_lt_f, nI_le_t, nI_le_f, nI_eq_t, nI_eq_f, vp_nI, tI, fI, not_true, not_false_iff, true_and, and_true, Classical.not_not, mS_uI, mS_uA, mS_uJ, mS_uR, mS_uX, mR_uI, mR_uA, mR_uJ, mR_uX, mX_uI, mX_uA, mX_uJ, mX_uR, mI_s, mI_n, mI_A, mI_An, mI_uJ, mI_uR, mI_uX, mJ_uI, mJ_uA, mJ_uR, mJ_uX, onR_s, kC_v, kC_n, kC_t, ul0, ula1, ula2, ula3, ula4, ulb2, ulb3, ulb4, ulc2, ulc3, ulc4, ule4, ulf3, ulf4, c_150f hW0 hB9 hO0 hx, TT_110]
theorem c_110f (hW : ShR μ s c) (hB : RelB μ s r) (hO : okR r) (ha : a < nM r) (hx : bad x (nM r)) : Ev (d + 4) 110 [.ref 1000, .int (nI a), .int x] μ Q = (∀ x, mX μ ≤ x → Q none (uX μ x)) := by
  have hW0 := hW
  obtain ⟨w0, w1, w2, w3, w4, w5, w6, w7, w8, w9, w10, w11, w12, w13, w14, w15⟩ := hW
  have hS0 := w12
  obtain ⟨q0, q1, q2, q3, q4, q5, q6, q7, q8, q9, q10, q11, q12, q13, q14, q15⟩ := w12
  have hB9 := hB
  obtain ⟨b1, b2, b3, b4, b5, b6, b7, b8⟩ := hB
  have hO0 := hO
  obtain ⟨o2, o6, o387, oT, o1708, oO, o1741, oF, o1, oq1, oq6, o0, ol1, ol40, oV, oN1, oP1, oF1⟩ := hO
  have hn : mI μ s 1 = nI (nM r) := b1.trans o2
  have hq9 : mI μ (s + 2) 1 = nI (nQ r) := b6.trans o1
  have hV := b7.ok' oV
  rw [in_110]
  simp (disch := first | omega | rfl) only [e_110_0, e_110_1, e_110_2, e_110_5, e_110_6, e_110_7, e_110_8, e_110_11, e_110_13, e_110_14, e_110_16, e_110_19, e_110_21, e_110_22, e_110_24, e_110_27, e_110_29, e_110_31, e_110_33, e_110_36, e_110_37, e_110_40, e_110_42, e_110_43, e_110_45, e_110_48, e_110_50, e_110_51, e_110_54, e_110_55, e_110_56, e_110_57, e_110_61, e_110_63, e_110_66, e_110_68, e_110_70, e_110_73, e_110_75, e_110_77, e_110_78, e_110_79, e_110_80, e_110_82, e_110_83, e_110_86, e_110_88, e_110_89, e_110_91, e_110_94, e_110_96, e_110_97, e_110_100, e_110_102, e_110_104, e_110_107, e_110_109, e_110_110, e_110_111, e_110_113, e_110_116, e_110_119, e_110_121, w0, w1, w2, w3, w4, w5, w6, w7, w8, w9, w10, q1, q2, q3, q4, q5, q6, q7, q8, q9, q10, q11, q12, q13, q14, q15, b1, b2, b3, b4, b5, b6, o2, o387, o1708, o1741, o1, o0, ge1, ule_t, true_or, or_true, nI_add, nI_mul, nI_sub, nI_clamp, nI_lt_t, nI_lt_f, nI_le_t, nI_le_f, nI_eq_t, nI_eq_f, vp_nI, tI, fI, not_true, not_false_iff, true_and, and_true, Classical.not_not, mS_uI, mS_uA, mS_uJ, mS_uR, mS_uX, mR_uI, mR_uA, mR_uJ, mR_uX, mX_uI, mX_uA, mX_uJ, mX_uR, mI_s, mI_n, mI_A, mI_An, mI_uJ, mI_uR, mI_uX, mJ_uI, mJ_uA, mJ_uR, mJ_uX, onR_s, kC_v, kC_n, kC_t, ul0, ula1, ula2, ula3, ula4, ulb2, ulb3, ulb4, ulc2, ulc3, ulc4, ule4, ulf3, ulf4, c_150t hW0 hB9 hO0 ha, c_150f hW0 hB9 hO0 hx, TT_110]
theorem oN_inj {o p : Option Nat} (ho : ∀ m, o = some m → m < 2147483648) (hp : ∀ m, p = some m → m < 2147483648) : (oN o = oN p) = (o = p) := by
  apply propext
  constructor
  · intro h
    cases o with
    | none =>
      have h2 : oN p = -1 := h.symm
      rw [oN_m1 hp] at h2
      exact h2.symm
    | some m =>
      cases p with
      | none =>
        have h2 : oN (some m) = -1 := h
        rw [oN_m1 ho] at h2
        exact h2
      | some k => rw [(nI_eq (ho m rfl) (hp k rfl)).mp h]
  · rintro rfl; rfl
theorem c_113 (hW : ShR μ s c) (hB : RelB μ s r) (hO : okR r) (ha : a < nM r) (hb : b < nM r) : Ev (d + 5) 113 [.ref 1000, .int (nI a), .int (nI b)] μ Q = Q (some (some (.int (bI (aHalf (rW r) a b = aLin (rW r) a b))))) μ := by
  have hr := rHi_le hO.2.2.2.2.2.2.2.2.2.2.2.2.2.2.1 ha hb
  have e1 := oN_inj (o := aHalf (rW r) a b) (p := aLin (rW r) a b) (fun m h => by have := aHalf_lt h; omega) (fun m h => by have := fLin_lt (show fLin _ _ _ _ = some m from h); omega)
  have hW0 := hW
  obtain ⟨w0, w1, w2, w3, w4, w5, w6, w7, w8, w9, w10, w11, w12, w13, w14, w15⟩ := hW
  have hS0 := w12
  obtain ⟨q0, q1, q2, q3, q4, q5, q6, q7, q8, q9, q10, q11, q12, q13, q14, q15⟩ := w12
  have hB9 := hB
  obtain ⟨b1, b2, b3, b4, b5, b6, b7, b8⟩ := hB
  have hO0 := hO
  obtain ⟨o2, o6, o387, oT, o1708, oO, o1741, oF, o1, oq1, oq6, o0, ol1, ol40, oV, oN1, oP1, oF1⟩ := hO
  have hn : mI μ s 1 = nI (nM r) := b1.trans o2
  have hq9 : mI μ (s + 2) 1 = nI (nQ r) := b6.trans o1
  have hV := b7.ok' oV
  rw [in_113]
  by_cases h : aHalf (rW r) a b = aLin (rW r) a b
  · rw [bI_t h]
    simp (disch := first | omega | rfl) only [e_113_0, e_113_1, e_113_2, e_113_3, e_113_6, e_113_7, e_113_8, e_113_9, e_113_12, e_113_15, e_113_16, e_113_19, e_113_20, w0, w1, w2, w3, w4, w5, w6, w7, w8, w9, w10, q1, q2, q3, q4, q5, q6, q7, q8, q9, q10, q11, q12, q13, q14, q15, b1, b2, b3, b4, b5, b6, o2, o387, o1708, o1741, o1, o0, ge1, ule_t, true_or, or_true, nI_add, nI_mul, nI_sub, nI_clamp, nI_lt_t, nI_lt_f, nI_le_t, nI_le_f, nI_eq_t, nI_eq_f, vp_nI, tI, fI, not_true, not_false_iff, true_and, and_true, Classical.not_not, mS_uI, mS_uA, mS_uJ, mS_uR, mS_uX, mR_uI, mR_uA, mR_uJ, mR_uX, mX_uI, mX_uA, mX_uJ, mX_uR, mI_s, mI_n, mI_A, mI_An, mI_uJ, mI_uR, mI_uX, mJ_uI, mJ_uA, mJ_uR, mJ_uX, onR_s, kC_v, kC_n, kC_t, ul0, ula1, ula2, ula3, ula4, ulb2, ulb3, ulb4, ulc2, ulc3, ulc4, ule4, ulf3, ulf4, c_109 hW0 hB9 hO0 ha hb, c_110 hW0 hB9 hO0 ha hb, e1, h]
  · rw [bI_f h]
    simp (disch := first | omega | rfl) only [e_113_0, e_113_1, e_113_2, e_113_3, e_113_6, e_113_7, e_113_8, e_113_9, e_113_12, e_113_15, e_113_16, e_113_19, e_113_20, w0, w1, w2, w3, w4, w5, w6, w7, w8, w9, w10, q1, q2, q3, q4, q5, q6, q7, q8, q9, q10, q11, q12, q13, q14, q15, b1, b2, b3, b4, b5, b6, o2, o387, o1708, o1741, o1, o0, ge1, ule_t, true_or, or_true, nI_add, nI_mul, nI_sub, nI_clamp, nI_lt_t, nI_lt_f, nI_le_t, nI_le_f, nI_eq_t, nI_eq_f, vp_nI, tI, fI, not_true, not_false_iff, true_and, and_true, Classical.not_not, mS_uI, mS_uA, mS_uJ, mS_uR, mS_uX, mR_uI, mR_uA, mR_uJ, mR_uX, mX_uI, mX_uA, mX_uJ, mX_uR, mI_s, mI_n, mI_A, mI_An, mI_uJ, mI_uR, mI_uX, mJ_uI, mJ_uA, mJ_uR, mJ_uX, onR_s, kC_v, kC_n, kC_t, ul0, ula1, ula2, ula3, ula4, ulb2, ulb3, ulb4, ulc2, ulc3, ulc4, ule4, ulf3, ulf4, c_109 hW0 hB9 hO0 ha hb, c_110 hW0 hB9 hO0 ha hb, e1, h]
theorem c_113t (hW : ShR μ s c) (hB : RelB μ s r) (hO : okR r) (hx : bad x (nM r)) : Ev (d + 5) 113 [.ref 1000, .int x, .int y] μ Q = (∀ x, mX μ ≤ x → Q none (uX μ x)) := by
  have hW0 := hW
  obtain ⟨w0, w1, w2, w3, w4, w5, w6, w7, w8, w9, w10, w11, w12, w13, w14, w15⟩ := hW
  have hS0 := w12
  obtain ⟨q0, q1, q2, q3, q4, q5, q6, q7, q8, q9, q10, q11, q12, q13, q14, q15⟩ := w12
  have hB9 := hB
  obtain ⟨b1, b2, b3, b4, b5, b6, b7, b8⟩ := hB
  have hO0 := hO
  obtain ⟨o2, o6, o387, oT, o1708, oO, o1741, oF, o1, oq1, oq6, o0, ol1, ol40, oV, oN1, oP1, oF1⟩ := hO
  have hn : mI μ s 1 = nI (nM r) := b1.trans o2
  have hq9 : mI μ (s + 2) 1 = nI (nQ r) := b6.trans o1
  have hV := b7.ok' oV
  rw [in_113]
  simp (disch := first | omega | rfl) only [e_113_0, e_113_1, e_113_2, e_113_3, e_113_6, e_113_7, e_113_8, e_113_9, e_113_12, e_113_15, e_113_16, e_113_19, e_113_20, w0, w1, w2, w3, w4, w5, w6, w7, w8, w9, w10, q1, q2, q3, q4, q5, q6, q7, q8, q9, q10, q11, q12, q13, q14, q15, b1, b2, b3, b4, b5, b6, o2, o387, o1708, o1741, o1, o0, ge1, ule_t, true_or, or_true, nI_add, nI_mul, nI_sub, nI_clamp, nI_lt_t, nI_lt_f, nI_le_t, nI_le_f, nI_eq_t, nI_eq_f, vp_nI, tI, fI, not_true, not_false_iff, true_and, and_true, Classical.not_not, mS_uI, mS_uA, mS_uJ, mS_uR, mS_uX, mR_uI, mR_uA, mR_uJ, mR_uX, mX_uI, mX_uA, mX_uJ, mX_uR, mI_s, mI_n, mI_A, mI_An, mI_uJ, mI_uR, mI_uX, mJ_uI, mJ_uA, mJ_uR, mJ_uX, onR_s, kC_v, kC_n, kC_t, ul0, ula1, ula2, ula3, ula4, ulb2, ulb3, ulb4, ulc2, ulc3, ulc4, ule4, ulf3, ulf4, c_110t hW0 hB9 hO0 hx, TT_113]
theorem c_113f (hW : ShR μ s c) (hB : RelB μ s r) (hO : okR r) (ha : a < nM r) (hx : bad x (nM r)) : Ev (d + 5) 113 [.ref 1000, .int (nI a), .int x] μ Q = (∀ x, mX μ ≤ x → Q none (uX μ x)) := by
  have hW0 := hW
  obtain ⟨w0, w1, w2, w3, w4, w5, w6, w7, w8, w9, w10, w11, w12, w13, w14, w15⟩ := hW
  have hS0 := w12
  obtain ⟨q0, q1, q2, q3, q4, q5, q6, q7, q8, q9, q10, q11, q12, q13, q14, q15⟩ := w12
  have hB9 := hB
  obtain ⟨b1, b2, b3, b4, b5, b6, b7, b8⟩ := hB
  have hO0 := hO
  obtain ⟨o2, o6, o387, oT, o1708, oO, o1741, oF, o1, oq1, oq6, o0, ol1, ol40, oV, oN1, oP1, oF1⟩ := hO
  have hn : mI μ s 1 = nI (nM r) := b1.trans o2
  have hq9 : mI μ (s + 2) 1 = nI (nQ r) := b6.trans o1
  have hV := b7.ok' oV
  rw [in_113]
  simp (disch := first | omega | rfl) only [e_113_0, e_113_1, e_113_2, e_113_3, e_113_6, e_113_7, e_113_8, e_113_9, e_113_12, e_113_15, e_113_16, e_113_19, e_113_20, w0, w1, w2, w3, w4, w5, w6, w7, w8, w9, w10, q1, q2, q3, q4, q5, q6, q7, q8, q9, q10, q11, q12, q13, q14, q15, b1, b2, b3, b4, b5, b6, o2, o387, o1708, o1741, o1, o0, ge1, ule_t, true_or, or_true, nI_add, nI_mul, nI_sub, nI_clamp, nI_lt_t, nI_lt_f, nI_le_t, nI_le_f, nI_eq_t, nI_eq_f, vp_nI, tI, fI, not_true, not_false_iff, true_and, and_true, Classical.not_not, mS_uI, mS_uA, mS_uJ, mS_uR, mS_uX, mR_uI, mR_uA, mR_uJ, mR_uX, mX_uI, mX_uA, mX_uJ, mX_uR, mI_s, mI_n, mI_A, mI_An, mI_uJ, mI_uR, mI_uX, mJ_uI, mJ_uA, mJ_uR, mJ_uX, onR_s, kC_v, kC_n, kC_t, ul0, ula1, ula2, ula3, ula4, ulb2, ulb3, ulb4, ulc2, ulc3, ulc4, ule4, ulf3, ulf4, c_110f hW0 hB9 hO0 ha hx, TT_113]
end TurnsC
section TurnsM
variable {d : Nat} {Q : Po} {μ : Mu} {s c m n q i j k t z a b : Nat} {x y g tt : Int32} {l5 : Option Value}
end TurnsM

/-! trees of members -/
def fCk (V : VW) (m k : Nat) : Int32 := fTree (fun c => V m (7 + c)) (fun _ => 0) k
def fWr (V : VW) (a b : Nat) : Nat := gS (fun k => !decide (fCk V a k = fCk V b k)) 4 1
def fCp (V : VW) (a b : Nat) : Nat := gC (fun k => !decide (fCk V a k = fCk V b k)) 4 1
def fFst (w : Nat) : Nat → Nat → Option Nat
  | 0, _ => none
  | f + 1, c => if w.testBit c = true then some c else fFst w f (c + 1)
theorem gS_eq {D D' : Nat → Bool} (h : ∀ k, 1 ≤ k → k < 32 → D k = D' k) : ∀ f k, 1 ≤ k → (k + 1) * 2 ^ f ≤ 32 → gS D f k = gS D' f k
  | 0, k, h1, h2 => by rw [gS, gS, h k h1 (by omega)]
  | f + 1, k, h1, h2 => by
    have p1 : (k + 1) * 2 ^ (f + 1) = (2 * k + 1 + 1) * 2 ^ f := by rw [Nat.pow_succ, Nat.mul_comm (2 ^ f) 2, ← Nat.mul_assoc]; congr 1; omega
    have p2 : (2 * k + 1) * 2 ^ f ≤ (2 * k + 1 + 1) * 2 ^ f := Nat.mul_le_mul_right _ (by omega)
    have p3 : k + 1 ≤ (k + 1) * 2 ^ (f + 1) := Nat.le_mul_of_pos_right _ (Nat.two_pow_pos _)
    rw [gS, gS, h k h1 (by omega), gS_eq h f (2 * k) (by omega) (by omega), gS_eq h f (2 * k + 1) (by omega) (by omega)]
theorem gC_eq {D D' : Nat → Bool} (h : ∀ k, 1 ≤ k → k < 32 → D k = D' k) : ∀ f k, 1 ≤ k → (k + 1) * 2 ^ f ≤ 32 → gC D f k = gC D' f k
  | 0, k, h1, h2 => rfl
  | f + 1, k, h1, h2 => by
    have p1 : (k + 1) * 2 ^ (f + 1) = (2 * k + 1 + 1) * 2 ^ f := by rw [Nat.pow_succ, Nat.mul_comm (2 ^ f) 2, ← Nat.mul_assoc]; congr 1; omega
    have p2 : (2 * k + 1) * 2 ^ f ≤ (2 * k + 1 + 1) * 2 ^ f := Nat.mul_le_mul_right _ (by omega)
    have p3 : k + 1 ≤ (k + 1) * 2 ^ (f + 1) := Nat.le_mul_of_pos_right _ (Nat.two_pow_pos _)
    rw [gC, gC, h k h1 (by omega), gC_eq h f (2 * k) (by omega) (by omega), gC_eq h f (2 * k + 1) (by omega) (by omega)]
theorem gS_lt (D : Nat → Bool) : gS D 4 1 < 65536 := by
  rw [← wS_gS]
  exact wS_lt D 32
theorem fWr_lt (V : VW) (a b : Nat) : fWr V a b < 65536 := gS_lt _
section CellsC
variable {d : Nat} {Q : Po} {μ : Mu} {s c m n q i j k t z a b : Nat} {x y g tt : Int32} {r : Nat → Int32} {l8 : Option Value}
theorem c_cells (hW : ShR μ s c) (hB : RelB μ s r) (hO : okR r) (hm : m < nM r) (hi : i < 16) : mI μ (s + 6 + 3 * m) i = rW r m (7 + i) := by
  have hW0 := hW
  obtain ⟨w0, w1, w2, w3, w4, w5, w6, w7, w8, w9, w10, w11, w12, w13, w14, w15⟩ := hW
  have hS0 := w12
  obtain ⟨q0, q1, q2, q3, q4, q5, q6, q7, q8, q9, q10, q11, q12, q13, q14, q15⟩ := w12
  have hB9 := hB
  obtain ⟨b1, b2, b3, b4, b5, b6, b7, b8⟩ := hB
  have hO0 := hO
  obtain ⟨o2, o6, o387, oT, o1708, oO, o1741, oF, o1, oq1, oq6, o0, ol1, ol40, oV, oN1, oP1, oF1⟩ := hO
  have hn : mI μ s 1 = nI (nM r) := b1.trans o2
  have hq9 : mI μ (s + 2) 1 = nI (nQ r) := b6.trans o1
  have hV := b7.ok' oV
  rw [cvc hi]
  exact (b7 m hm).1 (7 + i) (by omega)
theorem c_ck (hW : ShR μ s c) (hB : RelB μ s r) (hO : okR r) (hm : m < nM r) (h1 : 1 ≤ k) (h2 : k < 32) (old : Nat → Int32) : fTree (mI μ (s + 6 + 3 * m)) old k = fCk (rW r) m k := fTree_eq (fun i hi => c_cells hW hB hO hm hi) h1 h2
theorem c_107 (hW : ShR μ s c) (hB : RelB μ s r) (hO : okR r) (hm : m < nM r) (h1 : 1 ≤ k) (h2 : k < 32) : Ev (d + 4) 107 [.ref 1000, .int (nI m), .int (nI k)] μ Q = Q (some (some (.int (fCk (rW r) m k)))) (uA μ 1064 (fTree (mI μ (s + 6 + 3 * m)) (mI μ 1064))) := by
  have hk := c_ck hW hB hO hm h1 h2 (mI μ 1064)
  have hW0 := hW
  obtain ⟨w0, w1, w2, w3, w4, w5, w6, w7, w8, w9, w10, w11, w12, w13, w14, w15⟩ := hW
  have hS0 := w12
  obtain ⟨q0, q1, q2, q3, q4, q5, q6, q7, q8, q9, q10, q11, q12, q13, q14, q15⟩ := w12
  have hB9 := hB
  obtain ⟨b1, b2, b3, b4, b5, b6, b7, b8⟩ := hB
  have hO0 := hO
  obtain ⟨o2, o6, o387, oT, o1708, oO, o1741, oF, o1, oq1, oq6, o0, ol1, ol40, oV, oN1, oP1, oF1⟩ := hO
  have hn : mI μ s 1 = nI (nM r) := b1.trans o2
  have hq9 : mI μ (s + 2) 1 = nI (nQ r) := b6.trans o1
  have hV := b7.ok' oV
  have g : (nI 1 ≤ nI k ∧ nI k ≤ nI 31) = True := eq_true ⟨nI_le h1 (by omega), nI_le (by omega) (by omega)⟩
  rw [in_107]
  simp (disch := first | omega | rfl) only [e_107_0, e_107_1, e_107_2, e_107_5, e_107_6, e_107_7, e_107_8, e_107_10, e_107_13, e_107_16, e_107_18, e_107_19, e_107_20, e_107_23, e_107_24, e_107_27, e_107_28, e_107_31, w0, w1, w2, w3, w4, w5, w6, w7, w8, w9, w10, q1, q2, q3, q4, q5, q6, q7, q8, q9, q10, q11, q12, q13, q14, q15, b1, b2, b3, b4, b5, b6, o2, o387, o1708, o1741, o1, o0, ge1, ule_t, true_or, or_true, nI_add, nI_mul, nI_sub, nI_clamp, nI_lt_t, nI_lt_f, nI_le_t, nI_le_f, nI_eq_t, nI_eq_f, vp_nI, tI, fI, not_true, not_false_iff, true_and, and_true, Classical.not_not, mS_uI, mS_uA, mS_uJ, mS_uR, mS_uX, mR_uI, mR_uA, mR_uJ, mR_uX, mX_uI, mX_uA, mX_uJ, mX_uR, mI_s, mI_n, mI_A, mI_An, mI_uJ, mI_uR, mI_uX, mJ_uI, mJ_uA, mJ_uR, mJ_uX, onR_s, kC_v, kC_n, kC_t, ul0, ula1, ula2, ula3, ula4, ulb2, ulb3, ulb4, ulc2, ulc3, ulc4, ule4, ulf3, ulf4, c_150t hW0 hB9 hO0 hm, s_155, g, bI_T, w11.1, s_30 w11 (q14 m (by omega)) (by omega : s + 6 + 3 * m ≠ 1064) h2, hk]
theorem c_107f (hW : ShR μ s c) (hB : RelB μ s r) (hO : okR r) (hm : m < nM r) (hx : ¬ (nI 1 ≤ x ∧ x ≤ nI 31)) : Ev (d + 4) 107 [.ref 1000, .int (nI m), .int x] μ Q = Q (some (some (.int (-2)))) μ := by
  have hW0 := hW
  obtain ⟨w0, w1, w2, w3, w4, w5, w6, w7, w8, w9, w10, w11, w12, w13, w14, w15⟩ := hW
  have hS0 := w12
  obtain ⟨q0, q1, q2, q3, q4, q5, q6, q7, q8, q9, q10, q11, q12, q13, q14, q15⟩ := w12
  have hB9 := hB
  obtain ⟨b1, b2, b3, b4, b5, b6, b7, b8⟩ := hB
  have hO0 := hO
  obtain ⟨o2, o6, o387, oT, o1708, oO, o1741, oF, o1, oq1, oq6, o0, ol1, ol40, oV, oN1, oP1, oF1⟩ := hO
  have hn : mI μ s 1 = nI (nM r) := b1.trans o2
  have hq9 : mI μ (s + 2) 1 = nI (nQ r) := b6.trans o1
  have hV := b7.ok' oV
  rw [in_107]
  simp (disch := first | omega | rfl) only [e_107_0, e_107_1, e_107_2, e_107_5, e_107_6, e_107_7, e_107_8, e_107_10, e_107_13, e_107_16, e_107_18, e_107_19, e_107_20, e_107_23, e_107_24, e_107_27, e_107_28, e_107_31, w0, w1, w2, w3, w4, w5, w6, w7, w8, w9, w10, q1, q2, q3, q4, q5, q6, q7, q8, q9, q10, q11, q12, q13, q14, q15, b1, b2, b3, b4, b5, b6, o2, o387, o1708, o1741, o1, o0, ge1, ule_t, true_or, or_true, nI_add, nI_mul, nI_sub, nI_clamp, nI_lt_t, nI_lt_f, nI_le_t, nI_le_f, nI_eq_t, nI_eq_f, vp_nI, tI, fI, not_true, not_false_iff, true_and, and_true, Classical.not_not, mS_uI, mS_uA, mS_uJ, mS_uR, mS_uX, mR_uI, mR_uA, mR_uJ, mR_uX, mX_uI, mX_uA, mX_uJ, mX_uR, mI_s, mI_n, mI_A, mI_An, mI_uJ, mI_uR, mI_uX, mJ_uI, mJ_uA, mJ_uR, mJ_uX, onR_s, kC_v, kC_n, kC_t, ul0, ula1, ula2, ula3, ula4, ulb2, ulb3, ulb4, ulc2, ulc3, ulc4, ule4, ulf3, ulf4, c_150t hW0 hB9 hO0 hm, s_155, bI_f hx]
theorem c_107t (hW : ShR μ s c) (hB : RelB μ s r) (hO : okR r) (hx : bad x (nM r)) : Ev (d + 4) 107 [.ref 1000, .int x, .int y] μ Q = (∀ x, mX μ ≤ x → Q none (uX μ x)) := by
  have hW0 := hW
  obtain ⟨w0, w1, w2, w3, w4, w5, w6, w7, w8, w9, w10, w11, w12, w13, w14, w15⟩ := hW
  have hS0 := w12
  obtain ⟨q0, q1, q2, q3, q4, q5, q6, q7, q8, q9, q10, q11, q12, q13, q14, q15⟩ := w12
  have hB9 := hB
  obtain ⟨b1, b2, b3, b4, b5, b6, b7, b8⟩ := hB
  have hO0 := hO
  obtain ⟨o2, o6, o387, oT, o1708, oO, o1741, oF, o1, oq1, oq6, o0, ol1, ol40, oV, oN1, oP1, oF1⟩ := hO
  have hn : mI μ s 1 = nI (nM r) := b1.trans o2
  have hq9 : mI μ (s + 2) 1 = nI (nQ r) := b6.trans o1
  have hV := b7.ok' oV
  rw [in_107]
  simp (disch := first | omega | rfl) only [e_107_0, e_107_1, e_107_2, e_107_5, e_107_6, e_107_7, e_107_8, e_107_10, e_107_13, e_107_16, e_107_18, e_107_19, e_107_20, e_107_23, e_107_24, e_107_27, e_107_28, e_107_31, w0, w1, w2, w3, w4, w5, w6, w7, w8, w9, w10, q1, q2, q3, q4, q5, q6, q7, q8, q9, q10, q11, q12, q13, q14, q15, b1, b2, b3, b4, b5, b6, o2, o387, o1708, o1741, o1, o0, ge1, ule_t, true_or, or_true, nI_add, nI_mul, nI_sub, nI_clamp, nI_lt_t, nI_lt_f, nI_le_t, nI_le_f, nI_eq_t, nI_eq_f, vp_nI, tI, fI, not_true, not_false_iff, true_and, and_true, Classical.not_not, mS_uI, mS_uA, mS_uJ, mS_uR, mS_uX, mR_uI, mR_uA, mR_uJ, mR_uX, mX_uI, mX_uA, mX_uJ, mX_uR, mI_s, mI_n, mI_A, mI_An, mI_uJ, mI_uR, mI_uX, mJ_uI, mJ_uA, mJ_uR, mJ_uX, onR_s, kC_v, kC_n, kC_t, ul0, ula1, ula2, ula3, ula4, ulb2, ulb3, ulb4, ulc2, ulc3, ulc4, ule4, ulf3, ulf4, c_150f hW0 hB9 hO0 hx, TT_107]
theorem c_wr (hW : ShR μ s c) (hB : RelB μ s r) (hO : okR r) (ha : a < nM r) (hb : b < nM r) : gS (fun k => !decide (fTree (mI μ (s + 6 + 3 * a)) (mI μ 1064) k = fTree (mI μ (s + 6 + 3 * b)) (mI μ 1066) k)) 4 1 = fWr (rW r) a b := gS_eq (fun k h1 h2 => by rw [c_ck hW hB hO ha h1 h2, c_ck hW hB hO hb h1 h2]) 4 1 (by decide) (by decide)
theorem c_cp (hW : ShR μ s c) (hB : RelB μ s r) (hO : okR r) (ha : a < nM r) (hb : b < nM r) : gC (fun k => !decide (fTree (mI μ (s + 6 + 3 * a)) (mI μ 1064) k = fTree (mI μ (s + 6 + 3 * b)) (mI μ 1066) k)) 4 1 = fCp (rW r) a b := gC_eq (fun k h1 h2 => by rw [c_ck hW hB hO ha h1 h2, c_ck hW hB hO hb h1 h2]) 4 1 (by decide) (by decide)
theorem dDown_w (hW : ShR μ s c) (hB : RelB μ s r) (hO : okR r) (ha : a < nM r) (hb : b < nM r) : mI (dDown μ (s + 6 + 3 * a) (s + 6 + 3 * b)) 1062 2 = nI (fWr (rW r) a b) := by
  unfold dDown
  rw [mI_n (by omega), mI_s, c_wr hW hB hO ha hb]
theorem dDown_c (hW : ShR μ s c) (hB : RelB μ s r) (hO : okR r) (ha : a < nM r) (hb : b < nM r) : mI (dDown μ (s + 6 + 3 * a) (s + 6 + 3 * b)) 1062 3 = nI (fCp (rW r) a b) := by
  unfold dDown
  rw [mI_s, c_cp hW hB hO ha hb]
theorem mS_dD : mS (dDown μ a b) k = mS μ k := rfl
theorem mR_dD : mR (dDown μ a b) k j = mR μ k j := rfl
theorem c_32 (hW : ShR μ s c) (hB : RelB μ s r) (hO : okR r) (ha : a < nM r) (hb : b < nM r) : Ev (d + 2) 32 [.ref 1062, .ref (s + 6 + 3 * a), .ref (s + 6 + 3 * b)] μ Q = Q (some none) (dDown μ (s + 6 + 3 * a) (s + 6 + 3 * b)) := by
  have hW0 := hW
  obtain ⟨w0, w1, w2, w3, w4, w5, w6, w7, w8, w9, w10, w11, w12, w13, w14, w15⟩ := hW
  have hS0 := w12
  obtain ⟨q0, q1, q2, q3, q4, q5, q6, q7, q8, q9, q10, q11, q12, q13, q14, q15⟩ := w12
  have hB9 := hB
  obtain ⟨b1, b2, b3, b4, b5, b6, b7, b8⟩ := hB
  have hO0 := hO
  obtain ⟨o2, o6, o387, oT, o1708, oO, o1741, oF, o1, oq1, oq6, o0, ol1, ol40, oV, oN1, oP1, oF1⟩ := hO
  have hn : mI μ s 1 = nI (nM r) := b1.trans o2
  have hq9 : mI μ (s + 2) 1 = nI (nQ r) := b6.trans o1
  have hV := b7.ok' oV
  exact s_32 w11 (q14 a (by omega)) (q14 b (by omega)) (by omega) (by omega) (by omega) (by omega)
theorem c_115 (hW : ShR μ s c) (hB : RelB μ s r) (hO : okR r) (ha : a < nM r) (hb : b < nM r) : Ev (d + 4) 115 [.ref 1000, .int (nI a), .int (nI b)] μ Q = Q (some (some (.int (nI (fWr (rW r) a b))))) (dDown μ (s + 6 + 3 * a) (s + 6 + 3 * b)) := by
  have hW0 := hW
  obtain ⟨w0, w1, w2, w3, w4, w5, w6, w7, w8, w9, w10, w11, w12, w13, w14, w15⟩ := hW
  have hS0 := w12
  obtain ⟨q0, q1, q2, q3, q4, q5, q6, q7, q8, q9, q10, q11, q12, q13, q14, q15⟩ := w12
  have hB9 := hB
  obtain ⟨b1, b2, b3, b4, b5, b6, b7, b8⟩ := hB
  have hO0 := hO
  obtain ⟨o2, o6, o387, oT, o1708, oO, o1741, oF, o1, oq1, oq6, o0, ol1, ol40, oV, oN1, oP1, oF1⟩ := hO
  have hn : mI μ s 1 = nI (nM r) := b1.trans o2
  have hq9 : mI μ (s + 2) 1 = nI (nQ r) := b6.trans o1
  have hV := b7.ok' oV
  rw [in_115]
  simp (disch := first | omega | rfl) only [e_115_0, e_115_1, e_115_2, e_115_5, e_115_6, e_115_7, e_115_8, e_115_11, e_115_13, e_115_14, e_115_17, e_115_18, e_115_21, e_115_23, e_115_26, e_115_29, e_115_30, e_115_33, e_115_36, w0, w1, w2, w3, w4, w5, w6, w7, w8, w9, w10, q1, q2, q3, q4, q5, q6, q7, q8, q9, q10, q11, q12, q13, q14, q15, b1, b2, b3, b4, b5, b6, o2, o387, o1708, o1741, o1, o0, ge1, ule_t, true_or, or_true, nI_add, nI_mul, nI_sub, nI_clamp, nI_lt_t, nI_lt_f, nI_le_t, nI_le_f, nI_eq_t, nI_eq_f, vp_nI, tI, fI, not_true, not_false_iff, true_and, and_true, Classical.not_not, mS_uI, mS_uA, mS_uJ, mS_uR, mS_uX, mR_uI, mR_uA, mR_uJ, mR_uX, mX_uI, mX_uA, mX_uJ, mX_uR, mI_s, mI_n, mI_A, mI_An, mI_uJ, mI_uR, mI_uX, mJ_uI, mJ_uA, mJ_uR, mJ_uX, onR_s, kC_v, kC_n, kC_t, ul0, ula1, ula2, ula3, ula4, ulb2, ulb3, ulb4, ulc2, ulc3, ulc4, ule4, ulf3, ulf4, w11.1, c_150t hW0 hB9 hO0 ha, c_150t hW0 hB9 hO0 hb, c_32 hW0 hB9 hO0 ha hb, mS_dD, mR_dD, dDown_w hW0 hB9 hO0 ha hb]
theorem c_116 (hW : ShR μ s c) (hB : RelB μ s r) (hO : okR r) (ha : a < nM r) (hb : b < nM r) : Ev (d + 4) 116 [.ref 1000, .int (nI a), .int (nI b)] μ Q = Q (some (some (.int (nI (fCp (rW r) a b))))) (dDown μ (s + 6 + 3 * a) (s + 6 + 3 * b)) := by
  have hW0 := hW
  obtain ⟨w0, w1, w2, w3, w4, w5, w6, w7, w8, w9, w10, w11, w12, w13, w14, w15⟩ := hW
  have hS0 := w12
  obtain ⟨q0, q1, q2, q3, q4, q5, q6, q7, q8, q9, q10, q11, q12, q13, q14, q15⟩ := w12
  have hB9 := hB
  obtain ⟨b1, b2, b3, b4, b5, b6, b7, b8⟩ := hB
  have hO0 := hO
  obtain ⟨o2, o6, o387, oT, o1708, oO, o1741, oF, o1, oq1, oq6, o0, ol1, ol40, oV, oN1, oP1, oF1⟩ := hO
  have hn : mI μ s 1 = nI (nM r) := b1.trans o2
  have hq9 : mI μ (s + 2) 1 = nI (nQ r) := b6.trans o1
  have hV := b7.ok' oV
  rw [in_116]
  simp (disch := first | omega | rfl) only [e_116_0, e_116_1, e_116_2, e_116_5, e_116_6, e_116_7, e_116_8, e_116_11, e_116_13, e_116_14, e_116_17, e_116_18, e_116_21, e_116_23, e_116_26, e_116_29, e_116_30, e_116_33, e_116_36, w0, w1, w2, w3, w4, w5, w6, w7, w8, w9, w10, q1, q2, q3, q4, q5, q6, q7, q8, q9, q10, q11, q12, q13, q14, q15, b1, b2, b3, b4, b5, b6, o2, o387, o1708, o1741, o1, o0, ge1, ule_t, true_or, or_true, nI_add, nI_mul, nI_sub, nI_clamp, nI_lt_t, nI_lt_f, nI_le_t, nI_le_f, nI_eq_t, nI_eq_f, vp_nI, tI, fI, not_true, not_false_iff, true_and, and_true, Classical.not_not, mS_uI, mS_uA, mS_uJ, mS_uR, mS_uX, mR_uI, mR_uA, mR_uJ, mR_uX, mX_uI, mX_uA, mX_uJ, mX_uR, mI_s, mI_n, mI_A, mI_An, mI_uJ, mI_uR, mI_uX, mJ_uI, mJ_uA, mJ_uR, mJ_uX, onR_s, kC_v, kC_n, kC_t, ul0, ula1, ula2, ula3, ula4, ulb2, ulb3, ulb4, ulc2, ulc3, ulc4, ule4, ulf3, ulf4, w11.1, c_150t hW0 hB9 hO0 ha, c_150t hW0 hB9 hO0 hb, c_32 hW0 hB9 hO0 ha hb, mS_dD, mR_dD, dDown_c hW0 hB9 hO0 ha hb]
theorem l_114 {μ2 : Mu} {w : Nat} (h1 : mS μ2 1000 = (11, 11)) (h2 : mR μ2 1000 9 = some 1062) (h3 : mS μ2 1062 = (4, 4)) (h4 : mI μ2 1062 2 = nI w) (l1 l2 l3 l4 : Option Value) : ∀ f c, c + f = 16 → EM 114 (d + 1) 47 [some (.ref 1000), l1, l2, l3, l4, some (.int (nI c))] [] μ2 (uad (uad (0, 0) (1, 6)) (1, 6)) Q = Q (some (some (.int (oN (fFst w f c))))) μ2 := by
  intro f
  induction f with
  | zero =>
    intro c hc
    obtain rfl : c = 16 := by omega
    rw [e_114_47]
    simp (disch := first | omega | rfl) only [e_114_0, e_114_1, e_114_2, e_114_5, e_114_6, e_114_7, e_114_8, e_114_11, e_114_13, e_114_14, e_114_17, e_114_19, e_114_22, e_114_25, e_114_27, e_114_28, e_114_29, e_114_32, e_114_33, e_114_36, e_114_38, e_114_41, e_114_44, e_114_45, e_114_49, e_114_51, e_114_54, e_114_55, e_114_58, e_114_61, e_114_63, e_114_66, e_114_69, e_114_71, e_114_72, e_114_75, e_114_78, e_114_79, ul0, ula1, ula2, ula3, ula4, ulb2, ulb3, ulb4, ulc2, ulc3, ulc4, ule4, ulf3, ulf4, ge1, ule_t, true_or, or_true, nI_add, nI_mul, nI_sub, nI_clamp, nI_lt_t, nI_lt_f, nI_le_t, nI_le_f, nI_eq_t, nI_eq_f, vp_nI, tI, fI, not_true, not_false_iff, true_and, and_true, Classical.not_not, fFst, oN]
  | succ f ih =>
    intro c hc
    have h156 := fun (d : Nat) (Q : Po) => s_156 (d := d) (Q := Q) (x := nI w) (μ := μ2) (show c < 32 by omega)
    simp only [bS_nI (w := w) (show c < 32 by omega)] at h156
    rw [e_114_47, fFst]
    cases hb : w.testBit c with
    | false =>
      simp only [bI_f (show ¬ w.testBit c = true by rw [hb]; exact Bool.false_ne_true)] at h156
      rw [if_neg Bool.false_ne_true]
      simp (disch := first | omega | rfl) only [e_114_0, e_114_1, e_114_2, e_114_5, e_114_6, e_114_7, e_114_8, e_114_11, e_114_13, e_114_14, e_114_17, e_114_19, e_114_22, e_114_25, e_114_27, e_114_28, e_114_29, e_114_32, e_114_33, e_114_36, e_114_38, e_114_41, e_114_44, e_114_45, e_114_49, e_114_51, e_114_54, e_114_55, e_114_58, e_114_61, e_114_63, e_114_66, e_114_69, e_114_71, e_114_72, e_114_75, e_114_78, e_114_79, ul0, ula1, ula2, ula3, ula4, ulb2, ulb3, ulb4, ulc2, ulc3, ulc4, ule4, ulf3, ulf4, ge1, ule_t, true_or, or_true, nI_add, nI_mul, nI_sub, nI_clamp, nI_lt_t, nI_lt_f, nI_le_t, nI_le_f, nI_eq_t, nI_eq_f, vp_nI, tI, fI, not_true, not_false_iff, true_and, and_true, Classical.not_not, mS_uI, mS_uA, mS_uJ, mS_uR, mS_uX, mR_uI, mR_uA, mR_uJ, mR_uX, mX_uI, mX_uA, mX_uJ, mX_uR, mI_s, mI_n, mI_A, mI_An, mI_uJ, mI_uR, mI_uX, mJ_uI, mJ_uA, mJ_uR, mJ_uX, onR_s, kC_v, kC_n, kC_t, h1, h2, h3, h4, h156]
      exact ih (c + 1) (by omega)
    | true =>
      simp only [bI_t hb] at h156
      rw [if_pos rfl]
      simp (disch := first | omega | rfl) only [e_114_0, e_114_1, e_114_2, e_114_5, e_114_6, e_114_7, e_114_8, e_114_11, e_114_13, e_114_14, e_114_17, e_114_19, e_114_22, e_114_25, e_114_27, e_114_28, e_114_29, e_114_32, e_114_33, e_114_36, e_114_38, e_114_41, e_114_44, e_114_45, e_114_49, e_114_51, e_114_54, e_114_55, e_114_58, e_114_61, e_114_63, e_114_66, e_114_69, e_114_71, e_114_72, e_114_75, e_114_78, e_114_79, ul0, ula1, ula2, ula3, ula4, ulb2, ulb3, ulb4, ulc2, ulc3, ulc4, ule4, ulf3, ulf4, ge1, ule_t, true_or, or_true, nI_add, nI_mul, nI_sub, nI_clamp, nI_lt_t, nI_lt_f, nI_le_t, nI_le_f, nI_eq_t, nI_eq_f, vp_nI, tI, fI, not_true, not_false_iff, true_and, and_true, Classical.not_not, mS_uI, mS_uA, mS_uJ, mS_uR, mS_uX, mR_uI, mR_uA, mR_uJ, mR_uX, mX_uI, mX_uA, mX_uJ, mX_uR, mI_s, mI_n, mI_A, mI_An, mI_uJ, mI_uR, mI_uX, mJ_uI, mJ_uA, mJ_uR, mJ_uX, onR_s, kC_v, kC_n, kC_t, h1, h2, h3, h4, h156, oN]
theorem c_114 (hW : ShR μ s c) (hB : RelB μ s r) (hO : okR r) (ha : a < nM r) (hb : b < nM r) (he : rW r a 1 = rW r b 1) : Ev (d + 4) 114 [.ref 1000, .int (nI a), .int (nI b)] μ Q = Q (some (some (.int (oN (fFst (fWr (rW r) a b) 16 0))))) (dDown μ (s + 6 + 3 * a) (s + 6 + 3 * b)) := by
  have hW0 := hW
  obtain ⟨w0, w1, w2, w3, w4, w5, w6, w7, w8, w9, w10, w11, w12, w13, w14, w15⟩ := hW
  have hS0 := w12
  obtain ⟨q0, q1, q2, q3, q4, q5, q6, q7, q8, q9, q10, q11, q12, q13, q14, q15⟩ := w12
  have hB9 := hB
  obtain ⟨b1, b2, b3, b4, b5, b6, b7, b8⟩ := hB
  have hO0 := hO
  obtain ⟨o2, o6, o387, oT, o1708, oO, o1741, oF, o1, oq1, oq6, o0, ol1, ol40, oV, oN1, oP1, oF1⟩ := hO
  have hn : mI μ s 1 = nI (nM r) := b1.trans o2
  have hq9 : mI μ (s + 2) 1 = nI (nQ r) := b6.trans o1
  have hV := b7.ok' oV
  have e1 := (b7 a ha).1 1 (by omega)
  have e2 := (b7 b hb).1 1 (by omega)
  rw [in_114]
  simp (disch := first | omega | rfl) only [e_114_0, e_114_1, e_114_2, e_114_5, e_114_6, e_114_7, e_114_8, e_114_11, e_114_13, e_114_14, e_114_17, e_114_19, e_114_22, e_114_25, e_114_27, e_114_28, e_114_29, e_114_32, e_114_33, e_114_36, e_114_38, e_114_41, e_114_44, e_114_45, e_114_49, e_114_51, e_114_54, e_114_55, e_114_58, e_114_61, e_114_63, e_114_66, e_114_69, e_114_71, e_114_72, e_114_75, e_114_78, e_114_79, w0, w1, w2, w3, w4, w5, w6, w7, w8, w9, w10, q1, q2, q3, q4, q5, q6, q7, q8, q9, q10, q11, q12, q13, q14, q15, b1, b2, b3, b4, b5, b6, o2, o387, o1708, o1741, o1, o0, ge1, ule_t, true_or, or_true, nI_add, nI_mul, nI_sub, nI_clamp, nI_lt_t, nI_lt_f, nI_le_t, nI_le_f, nI_eq_t, nI_eq_f, vp_nI, tI, fI, not_true, not_false_iff, true_and, and_true, Classical.not_not, mS_uI, mS_uA, mS_uJ, mS_uR, mS_uX, mR_uI, mR_uA, mR_uJ, mR_uX, mX_uI, mX_uA, mX_uJ, mX_uR, mI_s, mI_n, mI_A, mI_An, mI_uJ, mI_uR, mI_uX, mJ_uI, mJ_uA, mJ_uR, mJ_uX, onR_s, kC_v, kC_n, kC_t, ul0, ula1, ula2, ula3, ula4, ulb2, ulb3, ulb4, ulc2, ulc3, ulc4, ule4, ulf3, ulf4, cv0, cv1, cv2, cv3, cv4, cv5, cv6, cvrec, e1, e2, he, w11.1, c_150t hW0 hB9 hO0 ha, c_150t hW0 hB9 hO0 hb, c_32 hW0 hB9 hO0 ha hb]
  exact l_114 (μ2 := dDown μ (s + 6 + 3 * a) (s + 6 + 3 * b)) w0 w6 w11.1 (dDown_w hW0 hB9 hO0 ha hb) _ _ _ _ 16 0 (by omega)
theorem c_114n (hW : ShR μ s c) (hB : RelB μ s r) (hO : okR r) (ha : a < nM r) (hb : b < nM r) (he : ¬ rW r a 1 = rW r b 1) : Ev (d + 4) 114 [.ref 1000, .int (nI a), .int (nI b)] μ Q = Q (some (some (.int (-4)))) μ := by
  have hW0 := hW
  obtain ⟨w0, w1, w2, w3, w4, w5, w6, w7, w8, w9, w10, w11, w12, w13, w14, w15⟩ := hW
  have hS0 := w12
  obtain ⟨q0, q1, q2, q3, q4, q5, q6, q7, q8, q9, q10, q11, q12, q13, q14, q15⟩ := w12
  have hB9 := hB
  obtain ⟨b1, b2, b3, b4, b5, b6, b7, b8⟩ := hB
  have hO0 := hO
  obtain ⟨o2, o6, o387, oT, o1708, oO, o1741, oF, o1, oq1, oq6, o0, ol1, ol40, oV, oN1, oP1, oF1⟩ := hO
  have hn : mI μ s 1 = nI (nM r) := b1.trans o2
  have hq9 : mI μ (s + 2) 1 = nI (nQ r) := b6.trans o1
  have hV := b7.ok' oV
  have e1 := (b7 a ha).1 1 (by omega)
  have e2 := (b7 b hb).1 1 (by omega)
  rw [in_114]
  simp (disch := first | omega | rfl) only [e_114_0, e_114_1, e_114_2, e_114_5, e_114_6, e_114_7, e_114_8, e_114_11, e_114_13, e_114_14, e_114_17, e_114_19, e_114_22, e_114_25, e_114_27, e_114_28, e_114_29, e_114_32, e_114_33, e_114_36, e_114_38, e_114_41, e_114_44, e_114_45, e_114_49, e_114_51, e_114_54, e_114_55, e_114_58, e_114_61, e_114_63, e_114_66, e_114_69, e_114_71, e_114_72, e_114_75, e_114_78, e_114_79, w0, w1, w2, w3, w4, w5, w6, w7, w8, w9, w10, q1, q2, q3, q4, q5, q6, q7, q8, q9, q10, q11, q12, q13, q14, q15, b1, b2, b3, b4, b5, b6, o2, o387, o1708, o1741, o1, o0, ge1, ule_t, true_or, or_true, nI_add, nI_mul, nI_sub, nI_clamp, nI_lt_t, nI_lt_f, nI_le_t, nI_le_f, nI_eq_t, nI_eq_f, vp_nI, tI, fI, not_true, not_false_iff, true_and, and_true, Classical.not_not, mS_uI, mS_uA, mS_uJ, mS_uR, mS_uX, mR_uI, mR_uA, mR_uJ, mR_uX, mX_uI, mX_uA, mX_uJ, mX_uR, mI_s, mI_n, mI_A, mI_An, mI_uJ, mI_uR, mI_uX, mJ_uI, mJ_uA, mJ_uR, mJ_uX, onR_s, kC_v, kC_n, kC_t, ul0, ula1, ula2, ula3, ula4, ulb2, ulb3, ulb4, ulc2, ulc3, ulc4, ule4, ulf3, ulf4, cv0, cv1, cv2, cv3, cv4, cv5, cv6, cvrec, e1, e2, he, c_150t hW0 hB9 hO0 ha, c_150t hW0 hB9 hO0 hb]
theorem c_114t (hW : ShR μ s c) (hB : RelB μ s r) (hO : okR r) (hx : bad x (nM r)) : Ev (d + 4) 114 [.ref 1000, .int x, .int y] μ Q = (∀ x, mX μ ≤ x → Q none (uX μ x)) := by
  have hW0 := hW
  obtain ⟨w0, w1, w2, w3, w4, w5, w6, w7, w8, w9, w10, w11, w12, w13, w14, w15⟩ := hW
  have hS0 := w12
  obtain ⟨q0, q1, q2, q3, q4, q5, q6, q7, q8, q9, q10, q11, q12, q13, q14, q15⟩ := w12
  have hB9 := hB
  obtain ⟨b1, b2, b3, b4, b5, b6, b7, b8⟩ := hB
  have hO0 := hO
  obtain ⟨o2, o6, o387, oT, o1708, oO, o1741, oF, o1, oq1, oq6, o0, ol1, ol40, oV, oN1, oP1, oF1⟩ := hO
  have hn : mI μ s 1 = nI (nM r) := b1.trans o2
  have hq9 : mI μ (s + 2) 1 = nI (nQ r) := b6.trans o1
  have hV := b7.ok' oV
  rw [in_114]
  simp (disch := first | omega | rfl) only [e_114_0, e_114_1, e_114_2, e_114_5, e_114_6, e_114_7, e_114_8, e_114_11, e_114_13, e_114_14, e_114_17, e_114_19, e_114_22, e_114_25, e_114_27, e_114_28, e_114_29, e_114_32, e_114_33, e_114_36, e_114_38, e_114_41, e_114_44, e_114_45, e_114_49, e_114_51, e_114_54, e_114_55, e_114_58, e_114_61, e_114_63, e_114_66, e_114_69, e_114_71, e_114_72, e_114_75, e_114_78, e_114_79, w0, w1, w2, w3, w4, w5, w6, w7, w8, w9, w10, q1, q2, q3, q4, q5, q6, q7, q8, q9, q10, q11, q12, q13, q14, q15, b1, b2, b3, b4, b5, b6, o2, o387, o1708, o1741, o1, o0, ge1, ule_t, true_or, or_true, nI_add, nI_mul, nI_sub, nI_clamp, nI_lt_t, nI_lt_f, nI_le_t, nI_le_f, nI_eq_t, nI_eq_f, vp_nI, tI, fI, not_true, not_false_iff, true_and, and_true, Classical.not_not, mS_uI, mS_uA, mS_uJ, mS_uR, mS_uX, mR_uI, mR_uA, mR_uJ, mR_uX, mX_uI, mX_uA, mX_uJ, mX_uR, mI_s, mI_n, mI_A, mI_An, mI_uJ, mI_uR, mI_uX, mJ_uI, mJ_uA, mJ_uR, mJ_uX, onR_s, kC_v, kC_n, kC_t, ul0, ula1, ula2, ula3, ula4, ulb2, ulb3, ulb4, ulc2, ulc3, ulc4, ule4, ulf3, ulf4, c_150f hW0 hB9 hO0 hx, TT_114]
theorem c_114f (hW : ShR μ s c) (hB : RelB μ s r) (hO : okR r) (ha : a < nM r) (hx : bad x (nM r)) : Ev (d + 4) 114 [.ref 1000, .int (nI a), .int x] μ Q = (∀ x, mX μ ≤ x → Q none (uX μ x)) := by
  have hW0 := hW
  obtain ⟨w0, w1, w2, w3, w4, w5, w6, w7, w8, w9, w10, w11, w12, w13, w14, w15⟩ := hW
  have hS0 := w12
  obtain ⟨q0, q1, q2, q3, q4, q5, q6, q7, q8, q9, q10, q11, q12, q13, q14, q15⟩ := w12
  have hB9 := hB
  obtain ⟨b1, b2, b3, b4, b5, b6, b7, b8⟩ := hB
  have hO0 := hO
  obtain ⟨o2, o6, o387, oT, o1708, oO, o1741, oF, o1, oq1, oq6, o0, ol1, ol40, oV, oN1, oP1, oF1⟩ := hO
  have hn : mI μ s 1 = nI (nM r) := b1.trans o2
  have hq9 : mI μ (s + 2) 1 = nI (nQ r) := b6.trans o1
  have hV := b7.ok' oV
  rw [in_114]
  simp (disch := first | omega | rfl) only [e_114_0, e_114_1, e_114_2, e_114_5, e_114_6, e_114_7, e_114_8, e_114_11, e_114_13, e_114_14, e_114_17, e_114_19, e_114_22, e_114_25, e_114_27, e_114_28, e_114_29, e_114_32, e_114_33, e_114_36, e_114_38, e_114_41, e_114_44, e_114_45, e_114_49, e_114_51, e_114_54, e_114_55, e_114_58, e_114_61, e_114_63, e_114_66, e_114_69, e_114_71, e_114_72, e_114_75, e_114_78, e_114_79, w0, w1, w2, w3, w4, w5, w6, w7, w8, w9, w10, q1, q2, q3, q4, q5, q6, q7, q8, q9, q10, q11, q12, q13, q14, q15, b1, b2, b3, b4, b5, b6, o2, o387, o1708, o1741, o1, o0, ge1, ule_t, true_or, or_true, nI_add, nI_mul, nI_sub, nI_clamp, nI_lt_t, nI_lt_f, nI_le_t, nI_le_f, nI_eq_t, nI_eq_f, vp_nI, tI, fI, not_true, not_false_iff, true_and, and_true, Classical.not_not, mS_uI, mS_uA, mS_uJ, mS_uR, mS_uX, mR_uI, mR_uA, mR_uJ, mR_uX, mX_uI, mX_uA, mX_uJ, mX_uR, mI_s, mI_n, mI_A, mI_An, mI_uJ, mI_uR, mI_uX, mJ_uI, mJ_uA, mJ_uR, mJ_uX, onR_s, kC_v, kC_n, kC_t, ul0, ula1, ula2, ula3, ula4, ulb2, ulb3, ulb4, ulc2, ulc3, ulc4, ule4, ulf3, ulf4, c_150t hW0 hB9 hO0 ha, c_150f hW0 hB9 hO0 hx, TT_114]
theorem c_115t (hW : ShR μ s c) (hB : RelB μ s r) (hO : okR r) (hx : bad x (nM r)) : Ev (d + 4) 115 [.ref 1000, .int x, .int y] μ Q = (∀ x, mX μ ≤ x → Q none (uX μ x)) := by
  have hW0 := hW
  obtain ⟨w0, w1, w2, w3, w4, w5, w6, w7, w8, w9, w10, w11, w12, w13, w14, w15⟩ := hW
  have hS0 := w12
  obtain ⟨q0, q1, q2, q3, q4, q5, q6, q7, q8, q9, q10, q11, q12, q13, q14, q15⟩ := w12
  have hB9 := hB
  obtain ⟨b1, b2, b3, b4, b5, b6, b7, b8⟩ := hB
  have hO0 := hO
  obtain ⟨o2, o6, o387, oT, o1708, oO, o1741, oF, o1, oq1, oq6, o0, ol1, ol40, oV, oN1, oP1, oF1⟩ := hO
  have hn : mI μ s 1 = nI (nM r) := b1.trans o2
  have hq9 : mI μ (s + 2) 1 = nI (nQ r) := b6.trans o1
  have hV := b7.ok' oV
  rw [in_115]
  simp (disch := first | omega | rfl) only [e_115_0, e_115_1, e_115_2, e_115_5, e_115_6, e_115_7, e_115_8, e_115_11, e_115_13, e_115_14, e_115_17, e_115_18, e_115_21, e_115_23, e_115_26, e_115_29, e_115_30, e_115_33, e_115_36, w0, w1, w2, w3, w4, w5, w6, w7, w8, w9, w10, q1, q2, q3, q4, q5, q6, q7, q8, q9, q10, q11, q12, q13, q14, q15, b1, b2, b3, b4, b5, b6, o2, o387, o1708, o1741, o1, o0, ge1, ule_t, true_or, or_true, nI_add, nI_mul, nI_sub, nI_clamp, nI_lt_t, nI_lt_f, nI_le_t, nI_le_f, nI_eq_t, nI_eq_f, vp_nI, tI, fI, not_true, not_false_iff, true_and, and_true, Classical.not_not, mS_uI, mS_uA, mS_uJ, mS_uR, mS_uX, mR_uI, mR_uA, mR_uJ, mR_uX, mX_uI, mX_uA, mX_uJ, mX_uR, mI_s, mI_n, mI_A, mI_An, mI_uJ, mI_uR, mI_uX, mJ_uI, mJ_uA, mJ_uR, mJ_uX, onR_s, kC_v, kC_n, kC_t, ul0, ula1, ula2, ula3, ula4, ulb2, ulb3, ulb4, ulc2, ulc3, ulc4, ule4, ulf3, ulf4, c_150f hW0 hB9 hO0 hx, TT_115]
theorem c_115f (hW : ShR μ s c) (hB : RelB μ s r) (hO : okR r) (ha : a < nM r) (hx : bad x (nM r)) : Ev (d + 4) 115 [.ref 1000, .int (nI a), .int x] μ Q = (∀ x, mX μ ≤ x → Q none (uX μ x)) := by
  have hW0 := hW
  obtain ⟨w0, w1, w2, w3, w4, w5, w6, w7, w8, w9, w10, w11, w12, w13, w14, w15⟩ := hW
  have hS0 := w12
  obtain ⟨q0, q1, q2, q3, q4, q5, q6, q7, q8, q9, q10, q11, q12, q13, q14, q15⟩ := w12
  have hB9 := hB
  obtain ⟨b1, b2, b3, b4, b5, b6, b7, b8⟩ := hB
  have hO0 := hO
  obtain ⟨o2, o6, o387, oT, o1708, oO, o1741, oF, o1, oq1, oq6, o0, ol1, ol40, oV, oN1, oP1, oF1⟩ := hO
  have hn : mI μ s 1 = nI (nM r) := b1.trans o2
  have hq9 : mI μ (s + 2) 1 = nI (nQ r) := b6.trans o1
  have hV := b7.ok' oV
  rw [in_115]
  simp (disch := first | omega | rfl) only [e_115_0, e_115_1, e_115_2, e_115_5, e_115_6, e_115_7, e_115_8, e_115_11, e_115_13, e_115_14, e_115_17, e_115_18, e_115_21, e_115_23, e_115_26, e_115_29, e_115_30, e_115_33, e_115_36, w0, w1, w2, w3, w4, w5, w6, w7, w8, w9, w10, q1, q2, q3, q4, q5, q6, q7, q8, q9, q10, q11, q12, q13, q14, q15, b1, b2, b3, b4, b5, b6, o2, o387, o1708, o1741, o1, o0, ge1, ule_t, true_or, or_true, nI_add, nI_mul, nI_sub, nI_clamp, nI_lt_t, nI_lt_f, nI_le_t, nI_le_f, nI_eq_t, nI_eq_f, vp_nI, tI, fI, not_true, not_false_iff, true_and, and_true, Classical.not_not, mS_uI, mS_uA, mS_uJ, mS_uR, mS_uX, mR_uI, mR_uA, mR_uJ, mR_uX, mX_uI, mX_uA, mX_uJ, mX_uR, mI_s, mI_n, mI_A, mI_An, mI_uJ, mI_uR, mI_uX, mJ_uI, mJ_uA, mJ_uR, mJ_uX, onR_s, kC_v, kC_n, kC_t, ul0, ula1, ula2, ula3, ula4, ulb2, ulb3, ulb4, ulc2, ulc3, ulc4, ule4, ulf3, ulf4, c_150t hW0 hB9 hO0 ha, c_150f hW0 hB9 hO0 hx, TT_115]
theorem c_116t (hW : ShR μ s c) (hB : RelB μ s r) (hO : okR r) (hx : bad x (nM r)) : Ev (d + 4) 116 [.ref 1000, .int x, .int y] μ Q = (∀ x, mX μ ≤ x → Q none (uX μ x)) := by
  have hW0 := hW
  obtain ⟨w0, w1, w2, w3, w4, w5, w6, w7, w8, w9, w10, w11, w12, w13, w14, w15⟩ := hW
  have hS0 := w12
  obtain ⟨q0, q1, q2, q3, q4, q5, q6, q7, q8, q9, q10, q11, q12, q13, q14, q15⟩ := w12
  have hB9 := hB
  obtain ⟨b1, b2, b3, b4, b5, b6, b7, b8⟩ := hB
  have hO0 := hO
  obtain ⟨o2, o6, o387, oT, o1708, oO, o1741, oF, o1, oq1, oq6, o0, ol1, ol40, oV, oN1, oP1, oF1⟩ := hO
  have hn : mI μ s 1 = nI (nM r) := b1.trans o2
  have hq9 : mI μ (s + 2) 1 = nI (nQ r) := b6.trans o1
  have hV := b7.ok' oV
  rw [in_116]
  simp (disch := first | omega | rfl) only [e_116_0, e_116_1, e_116_2, e_116_5, e_116_6, e_116_7, e_116_8, e_116_11, e_116_13, e_116_14, e_116_17, e_116_18, e_116_21, e_116_23, e_116_26, e_116_29, e_116_30, e_116_33, e_116_36, w0, w1, w2, w3, w4, w5, w6, w7, w8, w9, w10, q1, q2, q3, q4, q5, q6, q7, q8, q9, q10, q11, q12, q13, q14, q15, b1, b2, b3, b4, b5, b6, o2, o387, o1708, o1741, o1, o0, ge1, ule_t, true_or, or_true, nI_add, nI_mul, nI_sub, nI_clamp, nI_lt_t, nI_lt_f, nI_le_t, nI_le_f, nI_eq_t, nI_eq_f, vp_nI, tI, fI, not_true, not_false_iff, true_and, and_true, Classical.not_not, mS_uI, mS_uA, mS_uJ, mS_uR, mS_uX, mR_uI, mR_uA, mR_uJ, mR_uX, mX_uI, mX_uA, mX_uJ, mX_uR, mI_s, mI_n, mI_A, mI_An, mI_uJ, mI_uR, mI_uX, mJ_uI, mJ_uA, mJ_uR, mJ_uX, onR_s, kC_v, kC_n, kC_t, ul0, ula1, ula2, ula3, ula4, ulb2, ulb3, ulb4, ulc2, ulc3, ulc4, ule4, ulf3, ulf4, c_150f hW0 hB9 hO0 hx, TT_116]
theorem c_116f (hW : ShR μ s c) (hB : RelB μ s r) (hO : okR r) (ha : a < nM r) (hx : bad x (nM r)) : Ev (d + 4) 116 [.ref 1000, .int (nI a), .int x] μ Q = (∀ x, mX μ ≤ x → Q none (uX μ x)) := by
  have hW0 := hW
  obtain ⟨w0, w1, w2, w3, w4, w5, w6, w7, w8, w9, w10, w11, w12, w13, w14, w15⟩ := hW
  have hS0 := w12
  obtain ⟨q0, q1, q2, q3, q4, q5, q6, q7, q8, q9, q10, q11, q12, q13, q14, q15⟩ := w12
  have hB9 := hB
  obtain ⟨b1, b2, b3, b4, b5, b6, b7, b8⟩ := hB
  have hO0 := hO
  obtain ⟨o2, o6, o387, oT, o1708, oO, o1741, oF, o1, oq1, oq6, o0, ol1, ol40, oV, oN1, oP1, oF1⟩ := hO
  have hn : mI μ s 1 = nI (nM r) := b1.trans o2
  have hq9 : mI μ (s + 2) 1 = nI (nQ r) := b6.trans o1
  have hV := b7.ok' oV
  rw [in_116]
  simp (disch := first | omega | rfl) only [e_116_0, e_116_1, e_116_2, e_116_5, e_116_6, e_116_7, e_116_8, e_116_11, e_116_13, e_116_14, e_116_17, e_116_18, e_116_21, e_116_23, e_116_26, e_116_29, e_116_30, e_116_33, e_116_36, w0, w1, w2, w3, w4, w5, w6, w7, w8, w9, w10, q1, q2, q3, q4, q5, q6, q7, q8, q9, q10, q11, q12, q13, q14, q15, b1, b2, b3, b4, b5, b6, o2, o387, o1708, o1741, o1, o0, ge1, ule_t, true_or, or_true, nI_add, nI_mul, nI_sub, nI_clamp, nI_lt_t, nI_lt_f, nI_le_t, nI_le_f, nI_eq_t, nI_eq_f, vp_nI, tI, fI, not_true, not_false_iff, true_and, and_true, Classical.not_not, mS_uI, mS_uA, mS_uJ, mS_uR, mS_uX, mR_uI, mR_uA, mR_uJ, mR_uX, mX_uI, mX_uA, mX_uJ, mX_uR, mI_s, mI_n, mI_A, mI_An, mI_uJ, mI_uR, mI_uX, mJ_uI, mJ_uA, mJ_uR, mJ_uX, onR_s, kC_v, kC_n, kC_t, ul0, ula1, ula2, ula3, ula4, ulb2, ulb3, ulb4, ulc2, ulc3, ulc4, ule4, ulf3, ulf4, c_150t hW0 hB9 hO0 ha, c_150f hW0 hB9 hO0 hx, TT_116]
end CellsC
section CellsM
variable {d : Nat} {Q : Po} {μ : Mu} {s c m n q i j k t z a b : Nat} {x y g tt : Int32} {l8 : Option Value}
theorem m_ck {V : VW} (h1 : 1 ≤ k) (h2 : k < 32) (old g : Nat → Int32) : fTree (fil (fun c => V m (7 + c)) g 16) old k = fCk V m k := fTree_eq (fun c hc => if_pos hc) h1 h2
/-- the heap when a tree has been laid -/
def mTree (μ : Mu) (m : Nat) : Mu := uA (uA μ 1305 (fil (fun c => rW (mI μ 1302) m (7 + c)) (mI μ 1305) 16)) 1306 (fTree (fil (fun c => rW (mI μ 1302) m (7 + c)) (mI μ 1305) 16) (mI μ 1306))
/-- the heap when both trees have been laid, and when they have been gone down -/
def mBoth (μ : Mu) (a b : Nat) : Mu := uA (uA (mTree μ a) 1305 (fil (fun c => rW (mI μ 1302) b (7 + c)) (mI (mTree μ a) 1305) 16)) 1307 (fTree (fil (fun c => rW (mI μ 1302) b (7 + c)) (mI (mTree μ a) 1305) 16) (mI μ 1307))
def mDown (μ : Mu) (a b : Nat) : Mu := uI (uI (mBoth (uI (uI μ 1298 12 (nI 0)) 1298 13 (nI 0)) a b) 1298 13 (nI (fCp (rW (mI μ 1302)) a b))) 1298 12 (nI (fWr (rW (mI μ 1302)) a b))
end CellsM


