/-! the library: index checks, texts, the builder -/
theorem ofI {n : Nat} : Int32.ofNat n = nI n := rfl
theorem c16 : ∀ c, c < 256 → ((nI c).toUInt32 % 65536).toInt32 = nI c := by decide +kernel
theorem c255 : ∀ c, c < 256 → nI c &&& nI 255 = nI c := by decide +kernel
theorem c8i : ∀ c, c < 128 → (nI c).toInt8.toInt32 = nI c := by decide +kernel
theorem mS_uN {μ : Mu} {k n b : Nat} (h : b ≠ mX μ) : mS (uN μ k n) b = mS μ b := if_neg h
theorem mS_uNs {μ : Mu} {k n : Nat} : mS (uN μ k n) (mX μ) = (k, n) := if_pos rfl
theorem mI_uN {μ : Mu} {k n b j : Nat} (h : b ≠ mX μ) : mI (uN μ k n) b j = mI μ b j := if_neg h
theorem mR_uN {μ : Mu} {k n b j : Nat} (h : b ≠ mX μ) : mR (uN μ k n) b j = mR μ b j := if_neg h
theorem mJ_uN {μ : Mu} {k n b j : Nat} (h : b ≠ mX μ) : mJ (uN μ k n) b j = mJ μ b j := if_neg h
theorem mX_uN {μ : Mu} {k n : Nat} : mX (uN μ k n) = mX μ + 1 := rfl
theorem nI_sub0 {a b : Nat} (h : a ≤ b) (hb : b < 2147483648) : (nI a - nI b ≤ nI 0) = True := by
  apply eq_true
  apply Int32.le_iff_toInt_le.mpr
  rw [Int32.toInt_sub, nI_toInt (by omega), nI_toInt hb, nI_toInt (by omega), Int.bmod_def]
  split <;> omega
theorem mR_sR {μ : Mu} {a k : Nat} {v : Option Nat} : mR (uR μ a k v) a k = v := if_pos ⟨rfl, rfl⟩
theorem oneZ : ((1 : Int32) = nI 0) = False := eq_false (by decide)
theorem uj1 : ule (0, 0) (1, 174) = True := ule_t rfl
theorem uj2 : ule (uad (0, 0) (1, 174)) (1, 174) = True := ule_t rfl
theorem uj3 : ule (uad (0, 0) (2, 180)) (2, 180) = True := ule_t rfl
theorem uj4 : ule (uad (0, 0) (1, 174)) (2, 180) = True := ule_t rfl
theorem uk1 : ule (uad (0, 0) (1, 6)) (42, 7140) = True := ule_t rfl
theorem uk2 : ule (uad (uad (0, 0) (1, 6)) (2, 180)) (42, 7140) = True := ule_t rfl
theorem uk3 : ule (uad (uad (uad (0, 0) (1, 6)) (2, 180)) (1, 174)) (42, 7140) = True := ule_t rfl
theorem uk4 : ule (uad (uad (uad (uad (0, 0) (1, 6)) (2, 180)) (1, 174)) (1, 174)) (42, 7140) = True := ule_t rfl
theorem uk5 : ule (uad (uad (uad (0, 0) (1, 6)) (2, 180)) (6, 1044)) (42, 7140) = True := ule_t rfl
theorem uk6 : ule (uad (uad (uad (uad (0, 0) (1, 6)) (2, 180)) (6, 1044)) (1, 174)) (42, 7140) = True := ule_t rfl
section Jdk
variable {d : Nat} {Q : Po} {μ : Mu} {a b c n k i j t v cap N : Nat} {x y z : Int32} {l0 l1 l2 : Option Value}
theorem in_28n : Ev (d + 1) 28 [.int x, .int y, .null] μ Q = EM 28 d 0 [some (.int x), some (.int y), some .null] [] μ (0, 0) Q := propext ⟨fun h => h.2.2, fun h => ⟨rfl, by simp [Value.category], h⟩⟩
theorem e_22_5n : EM 22 d 5 [l0, l1] [.null, .int x, .int y] μ (0, 0) Q = (Ev d 28 [.int y, .int x, .null] μ (kC (fun s2 μ2 => EM 22 d 8 [l0, l1] s2 μ2 (0, 0) Q) [] (TT 22 d 5 [l0, l1] (0, 0) Q))) := ((EMs minfo_22 (by decide +kernel : decode cJ0_checkIndex_df160 5 = .ok (.invokestatic 1059, 3)) rfl)).trans (propext ⟨fun h => h.2.2.2, fun h => ⟨zlb rfl, zlb rfl, zub rfl rfl, h⟩⟩)
theorem s_28 (hk : k < n) (hn : n < 2147483648) : Ev (d + 1) 28 [.int (nI k), .int (nI n), .ref a] μ Q = Q (some (some (.int (nI k)))) μ := by
  rw [in_28]
  simp (disch := first | omega | rfl) only [e_28_0, e_28_1, e_28_4, e_28_5, e_28_6, e_28_9, e_28_10, e_28_11, e_28_16, e_28_17, ge1, ule_t, true_or, or_true, nI_add, nI_mul, nI_sub, nI_clamp, nI_lt_t, nI_lt_f, nI_le_t, nI_le_f, nI_eq_t, nI_eq_f, vp_nI, tI, fI, not_true, not_false_iff, true_and, and_true, Classical.not_not]
theorem s_28n (hk : k < n) (hn : n < 2147483648) : Ev (d + 1) 28 [.int (nI k), .int (nI n), .null] μ Q = Q (some (some (.int (nI k)))) μ := by
  rw [in_28n]
  simp (disch := first | omega | rfl) only [e_28_0, e_28_1, e_28_4, e_28_5, e_28_6, e_28_9, e_28_10, e_28_11, e_28_16, e_28_17, ge1, ule_t, true_or, or_true, nI_add, nI_mul, nI_sub, nI_clamp, nI_lt_t, nI_lt_f, nI_le_t, nI_le_f, nI_eq_t, nI_eq_f, vp_nI, tI, fI, not_true, not_false_iff, true_and, and_true, Classical.not_not]
theorem s_22 (hk : k < n) (hn : n < 2147483648) : Ev (d + 2) 22 [.int (nI k), .int (nI n)] μ Q = Q (some none) μ := by
  rw [in_22]
  simp (disch := first | omega | rfl) only [e_22_0, e_22_1, e_22_2, e_22_5, e_22_8, e_22_9, e_22_5n, ge1, ule_t, true_or, or_true, nI_add, nI_mul, nI_sub, nI_clamp, nI_lt_t, nI_lt_f, nI_le_t, nI_le_f, nI_eq_t, nI_eq_f, vp_nI, tI, fI, not_true, not_false_iff, true_and, and_true, Classical.not_not, s_28 hk hn, s_28n hk hn, kC_v, and_self]
theorem s_24 (hS : mS μ v = (21, n)) (hn : n < 2147483648) (hk : k < n) (hv : mI μ v k = nI c) (hc : c < 128) : Ev (d + 3) 24 [.ref v, .int (nI k)] μ Q = Q (some (some (.int (nI c)))) μ := by
  rw [in_24]
  simp (disch := first | omega | rfl) only [e_24_0, e_24_1, e_24_2, e_24_3, e_24_6, e_24_7, e_24_8, e_24_9, e_24_12, e_24_13, e_24_14, ge1, ule_t, true_or, or_true, nI_add, nI_mul, nI_sub, nI_clamp, nI_lt_t, nI_lt_f, nI_le_t, nI_le_f, nI_eq_t, nI_eq_f, vp_nI, tI, fI, not_true, not_false_iff, true_and, and_true, Classical.not_not, mS_uI, mS_uA, mS_uJ, mS_uR, mS_uX, mR_uI, mR_uA, mR_uJ, mR_uX, mX_uI, mX_uA, mX_uJ, mX_uR, mI_s, mI_n, mI_A, mI_An, mI_uJ, mI_uR, mI_uX, mJ_uI, mJ_uA, mJ_uR, mJ_uX, onR_s, kC_v, kC_n, kC_t, hS, ofI, s_22 hk hn, hv, c255, c16, Nat.reduceLeDiff]
/-- a constant text -/
def TxS (μ : Mu) (a v n : Nat) : Prop := mS μ a = (0, 4) ∧ mR μ a 0 = some v ∧ mI μ a 1 = nI 0 ∧ mS μ v = (21, n)
theorem s_19 (hT : TxS μ a v n) (hn : n < 2147483648) (hk : k < n) (hv : mI μ v k = nI c) (hc : c < 128) : Ev (d + 4) 19 [.ref a, .int (nI k)] μ Q = Q (some (some (.int (nI c)))) μ := by
  obtain ⟨t1, t2, t3, t4⟩ := hT
  rw [in_19]
  simp (disch := first | omega | rfl) only [e_19_0, e_19_1, e_19_4, e_19_7, e_19_8, e_19_11, e_19_12, e_19_15, e_19_16, e_19_17, e_19_20, e_21_0, e_21_3, e_21_6, e_21_7, e_21_10, e_21_13, e_21_14, e_21_17, e_21_18, in_21, ge1, ule_t, true_or, or_true, nI_add, nI_mul, nI_sub, nI_clamp, nI_lt_t, nI_lt_f, nI_le_t, nI_le_f, nI_eq_t, nI_eq_f, vp_nI, tI, fI, not_true, not_false_iff, true_and, and_true, Classical.not_not, mS_uI, mS_uA, mS_uJ, mS_uR, mS_uX, mR_uI, mR_uA, mR_uJ, mR_uX, mX_uI, mX_uA, mX_uJ, mX_uR, mI_s, mI_n, mI_A, mI_An, mI_uJ, mI_uR, mI_uX, mJ_uI, mJ_uA, mJ_uR, mJ_uX, onR_s, kC_v, kC_n, kC_t, t1, t2, t3, s_24 t4 hn hk hv hc, c16, oneZ]
theorem s_18 (hT : TxS μ a v n) (hn : n < 2147483648) : Ev (d + 2) 18 [.ref a] μ Q = Q (some (some (.int (nI n)))) μ := by
  obtain ⟨t1, t2, t3, t4⟩ := hT
  rw [in_18]
  simp (disch := first | omega | rfl) only [e_18_0, e_18_1, e_18_4, e_18_5, e_18_6, e_18_9, e_18_10, e_20_0, e_20_3, e_20_6, e_20_7, e_20_10, e_20_13, e_20_14, in_20, ge1, ule_t, true_or, or_true, nI_add, nI_mul, nI_sub, nI_clamp, nI_lt_t, nI_lt_f, nI_le_t, nI_le_f, nI_eq_t, nI_eq_f, vp_nI, tI, fI, not_true, not_false_iff, true_and, and_true, Classical.not_not, mS_uI, mS_uA, mS_uJ, mS_uR, mS_uX, mR_uI, mR_uA, mR_uJ, mR_uX, mX_uI, mX_uA, mX_uJ, mX_uR, mI_s, mI_n, mI_A, mI_An, mI_uJ, mI_uR, mI_uX, mJ_uI, mJ_uA, mJ_uR, mJ_uX, onR_s, kC_v, kC_n, kC_t, t1, t2, t3, t4, ofI, nI_shr, Nat.pow_zero, Nat.div_one, Nat.reduceLeDiff, oneZ, c8i]
/-- the builder -/
def SbS (μ : Mu) (v cap n : Nat) : Prop := mS μ 1060 = (1, 4) ∧ mR μ 1060 0 = some v ∧ (v = 1061 ∨ 1310 ≤ v) ∧ v < mX μ ∧ 1310 ≤ mX μ ∧ mS μ v = (21, cap) ∧ 16 ≤ cap ∧ cap ≤ 174 ∧ n ≤ cap ∧ mI μ 1060 1 = nI 0 ∧ mI μ 1060 3 = nI n
/-- only the builder changes -/
def FrB (μ μ' : Mu) : Prop := mX μ ≤ mX μ' ∧ ∀ a, a < 1310 → a ≠ 1060 → a ≠ 1061 → mS μ' a = mS μ a ∧ (∀ k, mI μ' a k = mI μ a k) ∧ (∀ k, mR μ' a k = mR μ a k) ∧ ∀ k, mJ μ' a k = mJ μ a k
theorem FrB.refl : FrB μ μ := ⟨Nat.le_refl _, fun _ _ _ _ => ⟨rfl, fun _ => rfl, fun _ => rfl, fun _ => rfl⟩⟩
theorem FrB.trans {μ1 μ2 : Mu} (h : FrB μ μ1) (h' : FrB μ1 μ2) : FrB μ μ2 := ⟨Nat.le_trans h.1 h'.1, fun a h1 h2 h3 => by
  obtain ⟨a1, a2, a3, a4⟩ := h.2 a h1 h2 h3
  obtain ⟨b1, b2, b3, b4⟩ := h'.2 a h1 h2 h3
  exact ⟨b1.trans a1, fun k => (b2 k).trans (a2 k), fun k => (b3 k).trans (a3 k), fun k => (b4 k).trans (a4 k)⟩⟩
theorem s_14 (h : SbS μ v cap n) : Ev (d + 1) 14 [.ref 1060] μ Q = Q (some (some (.int (nI 1)))) μ := by
  obtain ⟨b1, b2, b3, b4, b5, b6, b7, b8, b9, b10, b11⟩ := h
  rw [in_14]
  simp (disch := first | omega | rfl) only [e_14_0, e_14_3, e_14_6, e_14_7, e_14_10, e_14_13, e_14_14, e_14_17, e_14_18, ge1, ule_t, true_or, or_true, nI_add, nI_mul, nI_sub, nI_clamp, nI_lt_t, nI_lt_f, nI_le_t, nI_le_f, nI_eq_t, nI_eq_f, vp_nI, tI, fI, not_true, not_false_iff, true_and, and_true, Classical.not_not, mS_uI, mS_uA, mS_uJ, mS_uR, mS_uX, mR_uI, mR_uA, mR_uJ, mR_uX, mX_uI, mX_uA, mX_uJ, mX_uR, mI_s, mI_n, mI_A, mI_An, mI_uJ, mI_uR, mI_uX, mJ_uI, mJ_uA, mJ_uR, mJ_uX, onR_s, kC_v, kC_n, kC_t, b1, b10, show ((1 : Int32) = nI 0) = False from eq_false (by decide)]
theorem s_23 (hc : c < 256) : Ev (d + 1) 23 [.int (nI c)] μ Q = Q (some (some (.int (nI 1)))) μ := by
  rw [in_23]
  simp (disch := first | omega | rfl) only [e_23_0, e_23_1, e_23_4, e_23_7, e_23_8, e_23_11, e_23_12, ge1, ule_t, true_or, or_true, nI_add, nI_mul, nI_sub, nI_clamp, nI_lt_t, nI_lt_f, nI_le_t, nI_le_f, nI_eq_t, nI_eq_f, vp_nI, tI, fI, not_true, not_false_iff, true_and, and_true, Classical.not_not]
theorem s_7 (h : SbS μ v cap n) : Ev (d + 1) 7 [.ref 1060] μ Q = Q (some (some (.int (nI n)))) μ := by
  obtain ⟨b1, b2, b3, b4, b5, b6, b7, b8, b9, b10, b11⟩ := h
  rw [in_7]
  simp (disch := first | omega | rfl) only [e_7_0, e_7_1, e_7_4, ge1, ule_t, true_or, or_true, nI_add, nI_mul, nI_sub, nI_clamp, nI_lt_t, nI_lt_f, nI_le_t, nI_le_f, nI_eq_t, nI_eq_f, vp_nI, tI, fI, not_true, not_false_iff, true_and, and_true, Classical.not_not, mS_uI, mS_uA, mS_uJ, mS_uR, mS_uX, mR_uI, mR_uA, mR_uJ, mR_uX, mX_uI, mX_uA, mX_uJ, mX_uR, mI_s, mI_n, mI_A, mI_An, mI_uJ, mI_uR, mI_uX, mJ_uI, mJ_uA, mJ_uR, mJ_uX, onR_s, kC_v, kC_n, kC_t, b1, b11]
theorem s_5 (h : SbS μ v cap n) : Ev (d + 2) 5 [.ref 1060] μ Q = Q (some (some (.int (nI n)))) μ := by
  rw [in_5]
  simp (disch := first | omega | rfl) only [e_5_0, e_5_1, e_5_4, ge1, ule_t, true_or, or_true, nI_add, nI_mul, nI_sub, nI_clamp, nI_lt_t, nI_lt_f, nI_le_t, nI_le_f, nI_eq_t, nI_eq_f, vp_nI, tI, fI, not_true, not_false_iff, true_and, and_true, Classical.not_not, mS_uI, mS_uA, mS_uJ, mS_uR, mS_uX, mR_uI, mR_uA, mR_uJ, mR_uX, mX_uI, mX_uA, mX_uJ, mX_uR, mI_s, mI_n, mI_A, mI_An, mI_uJ, mI_uR, mI_uX, mJ_uI, mJ_uA, mJ_uR, mJ_uX, onR_s, kC_v, kC_n, kC_t, h.1, s_7 h]
theorem s_27 (h : b ≤ c) (hc0 : 0 < a + c) (hc : a + c < 2147483640) : Ev (d + 1) 27 [.int (nI a), .int (nI b), .int (nI c)] μ Q = Q (some (some (.int (nI (a + c))))) μ := by
  rw [in_27]
  by_cases h1 : b < c
  · simp (disch := first | omega | rfl) only [e_27_0, e_27_1, e_27_2, e_27_3, e_27_6, e_27_7, e_27_8, e_27_9, e_27_10, e_27_13, e_27_14, e_27_16, e_27_19, e_27_20, e_27_21, e_27_22, ge1, ule_t, true_or, or_true, nI_add, nI_mul, nI_sub, nI_clamp, nI_lt_t, nI_lt_f, nI_le_t, nI_le_f, nI_eq_t, nI_eq_f, vp_nI, tI, fI, not_true, not_false_iff, true_and, and_true, Classical.not_not, ite_true, ite_false, if_pos (show nI b < nI c from nI_lt h1 (by omega))]
  · obtain rfl : b = c := by omega
    simp (disch := first | omega | rfl) only [e_27_0, e_27_1, e_27_2, e_27_3, e_27_6, e_27_7, e_27_8, e_27_9, e_27_10, e_27_13, e_27_14, e_27_16, e_27_19, e_27_20, e_27_21, e_27_22, ge1, ule_t, true_or, or_true, nI_add, nI_mul, nI_sub, nI_clamp, nI_lt_t, nI_lt_f, nI_le_t, nI_le_f, nI_eq_t, nI_eq_f, vp_nI, tI, fI, not_true, not_false_iff, true_and, and_true, Classical.not_not, ite_self]
theorem s_9 (h : SbS μ v cap n) (h1 : cap < t) (h2 : t ≤ 2 * cap + 2) : Ev (d + 2) 9 [.ref 1060, .int (nI t)] μ Q = Q (some (some (.int (nI (cap + (cap + 2)))))) μ := by
  obtain ⟨b1, b2, b3, b4, b5, b6, b7, b8, b9, b10, b11⟩ := h
  have h27 := fun (d : Nat) (Q : Po) => s_27 (d := d) (Q := Q) (μ := μ) (a := cap) (b := t - cap) (c := cap + 2) (by omega) (by omega) (by omega)
  rw [in_9]
  simp (disch := first | omega | rfl) only [e_9_0, e_9_1, e_9_4, e_9_5, e_9_6, e_9_7, e_9_8, e_9_11, e_9_12, e_9_13, e_9_14, e_9_15, e_9_16, e_9_18, e_9_19, e_9_21, e_9_22, e_9_23, e_9_24, e_9_27, e_9_28, e_9_29, e_9_32, e_9_34, e_9_36, e_9_38, e_9_51, e_9_53, e_9_54, e_9_57, e_9_58, ge1, ule_t, true_or, or_true, nI_add, nI_mul, nI_sub, nI_clamp, nI_lt_t, nI_lt_f, nI_le_t, nI_le_f, nI_eq_t, nI_eq_f, vp_nI, tI, fI, not_true, not_false_iff, true_and, and_true, Classical.not_not, mS_uI, mS_uA, mS_uJ, mS_uR, mS_uX, mR_uI, mR_uA, mR_uJ, mR_uX, mX_uI, mX_uA, mX_uJ, mX_uR, mI_s, mI_n, mI_A, mI_An, mI_uJ, mI_uR, mI_uX, mJ_uI, mJ_uA, mJ_uR, mJ_uX, onR_s, kC_v, kC_n, kC_t, b1, b2, b6, b10, ofI, nI_shl, nI_shr, Nat.pow_zero, Nat.mul_one, Nat.div_one, h27, Nat.reduceLeDiff]
theorem s_26 (hS : mS μ v = (21, cap)) (hv : v < mX μ) (hv1 : 1000 ≤ v) (h1 : cap < N) (h2 : N ≤ 174) : Ev (d + 1) 26 [.ref v, .int (nI N)] μ Q = Q (some (some (.ref (mX μ)))) (uA (uN μ 21 N) (mX μ) (va_cpy (mI (uN μ 21 N) v) (mI (uN μ 21 N) (mX μ)) 0 0 cap)) := by
  have hne : v ≠ mX μ := by omega
  have e1 : mS (uN μ 21 N) v = (21, cap) := (mS_uN hne).trans hS
  have e3 : ule (uad (0, 0) (1, N)) (1, 174) = True := eq_true ⟨by show 0 + 1 ≤ 1; omega, by show 0 + N ≤ 174; omega⟩
  rw [in_26]
  simp (disch := first | omega | rfl) only [e_26_0, e_26_1, e_26_2, e_26_3, e_26_6, e_26_14, e_26_15, e_26_17, e_26_18, e_26_19, e_26_20, e_26_21, e_26_22, e_26_23, e_26_24, e_26_25, e_26_28, e_26_31, e_26_32, ge1, ule_t, true_or, or_true, nI_add, nI_mul, nI_sub, nI_clamp, nI_lt_t, nI_lt_f, nI_le_t, nI_le_f, nI_eq_t, nI_eq_f, vp_nI, tI, fI, not_true, not_false_iff, true_and, and_true, Classical.not_not, mS_uI, mS_uA, mS_uJ, mS_uR, mS_uX, mR_uI, mR_uA, mR_uJ, mR_uX, mX_uI, mX_uA, mX_uJ, mX_uR, mI_s, mI_n, mI_A, mI_An, mI_uJ, mI_uR, mI_uX, mJ_uI, mJ_uA, mJ_uR, mJ_uX, onR_s, kC_v, kC_n, kC_t, hS, ofI, e1, mS_uNs, e3, if_pos (show nI cap < nI N from nI_lt h1 (by omega)), if_neg (show ¬ nI N < nI cap from nI_nlt (by omega) (by omega)), Nat.reduceLeDiff, ite_true, ite_false, show (N ≤ 60000000) = True from eq_true (by omega), show (0 + cap ≤ cap) = True from eq_true (by omega), show (0 + cap ≤ N) = True from eq_true (by omega)]
theorem s_8 (h : SbS μ v cap n) (hk : n + k ≤ 87) (hk6 : k ≤ 16) (hq : ∀ μ' v' cap', FrB μ μ' → SbS μ' v' cap' n → n + k ≤ cap' → (∀ j, j < n → mI μ' v' j = mI μ v j) → Q (some none) μ') : Ev (d + 3) 8 [.ref 1060, .int (nI (n + k))] μ Q := by
  have hB := h
  obtain ⟨b1, b2, b3, b4, b5, b6, b7, b8, b9, b10, b11⟩ := h
  rw [in_8]
  by_cases hc : n + k ≤ cap
  · simp (disch := first | omega | rfl) only [e_8_0, e_8_1, e_8_4, e_8_5, e_8_6, e_8_9, e_8_10, e_8_11, e_8_12, e_8_13, e_8_14, e_8_17, e_8_18, e_8_19, e_8_22, e_8_23, e_8_24, e_8_27, e_8_28, e_8_31, e_8_32, e_8_35, e_8_38, ge1, ule_t, true_or, or_true, nI_add, nI_mul, nI_sub, nI_clamp, nI_lt_t, nI_lt_f, nI_le_t, nI_le_f, nI_eq_t, nI_eq_f, vp_nI, tI, fI, not_true, not_false_iff, true_and, and_true, Classical.not_not, mS_uI, mS_uA, mS_uJ, mS_uR, mS_uX, mR_uI, mR_uA, mR_uJ, mR_uX, mX_uI, mX_uA, mX_uJ, mX_uR, mI_s, mI_n, mI_A, mI_An, mI_uJ, mI_uR, mI_uX, mJ_uI, mJ_uA, mJ_uR, mJ_uX, onR_s, kC_v, kC_n, kC_t, b1, b2, b6, b10, ofI, nI_shr, Nat.pow_zero, Nat.div_one, nI_sub0 hc, Nat.reduceLeDiff, uj1, uj2]
    exact hq μ v cap FrB.refl hB hc (fun _ _ => rfl)
  · have h9 := fun (d : Nat) (Q : Po) => s_9 (d := d) (Q := Q) (t := n + k) hB (by omega) (by omega)
    have h26 := fun (d : Nat) (Q : Po) => s_26 (d := d) (Q := Q) (N := cap + (cap + 2)) b6 b4 (by omega) (by omega) (by omega)
    simp (disch := first | omega | rfl) only [e_8_0, e_8_1, e_8_4, e_8_5, e_8_6, e_8_9, e_8_10, e_8_11, e_8_12, e_8_13, e_8_14, e_8_17, e_8_18, e_8_19, e_8_22, e_8_23, e_8_24, e_8_27, e_8_28, e_8_31, e_8_32, e_8_35, e_8_38, ge1, ule_t, true_or, or_true, nI_add, nI_mul, nI_sub, nI_clamp, nI_lt_t, nI_lt_f, nI_le_t, nI_le_f, nI_eq_t, nI_eq_f, vp_nI, tI, fI, not_true, not_false_iff, true_and, and_true, Classical.not_not, mS_uI, mS_uA, mS_uJ, mS_uR, mS_uX, mR_uI, mR_uA, mR_uJ, mR_uX, mX_uI, mX_uA, mX_uJ, mX_uR, mI_s, mI_n, mI_A, mI_An, mI_uJ, mI_uR, mI_uX, mJ_uI, mJ_uA, mJ_uR, mJ_uX, onR_s, kC_v, kC_n, kC_t, b1, b2, b6, b10, ofI, nI_shr, nI_shl, Nat.pow_zero, Nat.div_one, Nat.mul_one, h9, h26, mS_uN, Nat.reduceLeDiff, uj1, uj2]
    refine hq _ (mX μ) (cap + (cap + 2)) ⟨Nat.le_succ _, fun a h1 h2 h3 => ⟨?_, fun k => ?_, fun k => ?_, fun k => ?_⟩⟩ ⟨?_, ?_, Or.inr b5, ?_, ?_, ?_, by omega, by omega, by omega, ?_, ?_⟩ (by omega) (fun j hj => ?_)
    · simp (disch := first | omega | rfl) only [mS_uI, mS_uA, mS_uJ, mS_uR, mS_uX, mR_uI, mR_uA, mR_uJ, mR_uX, mX_uI, mX_uA, mX_uJ, mX_uR, mI_s, mI_n, mI_A, mI_An, mI_uJ, mI_uR, mI_uX, mJ_uI, mJ_uA, mJ_uR, mJ_uX, onR_s, kC_v, kC_n, kC_t, mS_uN]
    · simp (disch := first | omega | rfl) only [mS_uI, mS_uA, mS_uJ, mS_uR, mS_uX, mR_uI, mR_uA, mR_uJ, mR_uX, mX_uI, mX_uA, mX_uJ, mX_uR, mI_s, mI_n, mI_A, mI_An, mI_uJ, mI_uR, mI_uX, mJ_uI, mJ_uA, mJ_uR, mJ_uX, onR_s, kC_v, kC_n, kC_t, mI_uN]
    · have e : mR (uN μ 21 (cap + (cap + 2))) a k = mR μ a k := mR_uN (by omega)
      rw [← e]
      exact if_neg (by omega)
    · have e : mJ (uN μ 21 (cap + (cap + 2))) a k = mJ μ a k := mJ_uN (by omega)
      rw [← e]
      rfl
    · simp (disch := first | omega | rfl) only [mS_uI, mS_uA, mS_uJ, mS_uR, mS_uX, mR_uI, mR_uA, mR_uJ, mR_uX, mX_uI, mX_uA, mX_uJ, mX_uR, mI_s, mI_n, mI_A, mI_An, mI_uJ, mI_uR, mI_uX, mJ_uI, mJ_uA, mJ_uR, mJ_uX, onR_s, kC_v, kC_n, kC_t, mS_uN, b1]
    · exact mR_sR
    · show mX μ < mX μ + 1; omega
    · show 1310 ≤ mX μ + 1; omega
    · simp (disch := first | omega | rfl) only [mS_uI, mS_uA, mS_uJ, mS_uR, mS_uX, mR_uI, mR_uA, mR_uJ, mR_uX, mX_uI, mX_uA, mX_uJ, mX_uR, mI_s, mI_n, mI_A, mI_An, mI_uJ, mI_uR, mI_uX, mJ_uI, mJ_uA, mJ_uR, mJ_uX, onR_s, kC_v, kC_n, kC_t, mS_uNs]
    · simp (disch := first | omega | rfl) only [mS_uI, mS_uA, mS_uJ, mS_uR, mS_uX, mR_uI, mR_uA, mR_uJ, mR_uX, mX_uI, mX_uA, mX_uJ, mX_uR, mI_s, mI_n, mI_A, mI_An, mI_uJ, mI_uR, mI_uX, mJ_uI, mJ_uA, mJ_uR, mJ_uX, onR_s, kC_v, kC_n, kC_t, mI_uN, b10]
    · simp (disch := first | omega | rfl) only [mS_uI, mS_uA, mS_uJ, mS_uR, mS_uX, mR_uI, mR_uA, mR_uJ, mR_uX, mX_uI, mX_uA, mX_uJ, mX_uR, mI_s, mI_n, mI_A, mI_An, mI_uJ, mI_uR, mI_uX, mJ_uI, mJ_uA, mJ_uR, mJ_uX, onR_s, kC_v, kC_n, kC_t, mI_uN, b11]
    · simp (disch := first | omega | rfl) only [mS_uI, mS_uA, mS_uJ, mS_uR, mS_uX, mR_uI, mR_uA, mR_uJ, mR_uX, mX_uI, mX_uA, mX_uJ, mX_uR, mI_s, mI_n, mI_A, mI_An, mI_uJ, mI_uR, mI_uX, mJ_uI, mJ_uA, mJ_uR, mJ_uX, onR_s, kC_v, kC_n, kC_t, va_cpy]
      rw [if_pos (by omega), mI_uN (by omega)]
      congr 1
      omega
/-- a byte appended -/
theorem s_12 (h : SbS μ v cap n) (hn : n < 87) (hc : c < 128) (hq : ∀ μ' v' cap', FrB μ μ' → SbS μ' v' cap' (n + 1) → (∀ j, j < n → mI μ' v' j = mI μ v j) → mI μ' v' n = nI c → Q (some (some (.ref 1060))) μ') : Ev (d + 4) 12 [.ref 1060, .int (nI c)] μ Q := by
  have hB := h
  obtain ⟨b1, b2, b3, b4, b5, b6, b7, b8, b9, b10, b11⟩ := h
  rw [in_12]
  simp (disch := first | omega | rfl) only [e_12_0, e_12_1, e_12_2, e_12_5, e_12_6, e_12_7, e_12_10, e_12_11, e_12_14, e_12_17, e_12_18, e_12_21, e_12_24, e_12_25, e_12_28, e_12_29, e_12_30, e_12_33, e_12_34, e_12_35, e_12_36, e_12_39, e_12_40, e_12_41, e_12_42, e_12_45, e_12_46, e_12_49, e_12_52, e_12_56, e_12_57, e_12_60, e_12_61, e_12_62, e_12_65, e_12_66, e_12_67, e_12_68, e_12_71, e_12_75, e_12_76, ge1, ule_t, true_or, or_true, nI_add, nI_mul, nI_sub, nI_clamp, nI_lt_t, nI_lt_f, nI_le_t, nI_le_f, nI_eq_t, nI_eq_f, vp_nI, tI, fI, not_true, not_false_iff, true_and, and_true, Classical.not_not, mS_uI, mS_uA, mS_uJ, mS_uR, mS_uX, mR_uI, mR_uA, mR_uJ, mR_uX, mX_uI, mX_uA, mX_uJ, mX_uR, mI_s, mI_n, mI_A, mI_An, mI_uJ, mI_uR, mI_uX, mJ_uI, mJ_uA, mJ_uR, mJ_uX, onR_s, kC_v, kC_n, kC_t, ul0, ula1, ula2, ula3, ula4, ulb2, ulb3, ulb4, ulc2, ulc3, ulc4, ule4, ulf3, ulf4, uj1, uj2, uj3, uj4, b1, b11]
  refine s_8 (k := 1) hB (by omega) (by omega) (fun μ1 v1 cap1 hf hB1 hc1 hj => ?_)
  have hB2 := hB1
  obtain ⟨a1, a2, a3, a4, a5, a6, a7, a8, a9, a10, a11⟩ := hB1
  have hv1 : v1 ≠ 1060 := by omega
  simp (disch := first | omega | rfl) only [e_12_0, e_12_1, e_12_2, e_12_5, e_12_6, e_12_7, e_12_10, e_12_11, e_12_14, e_12_17, e_12_18, e_12_21, e_12_24, e_12_25, e_12_28, e_12_29, e_12_30, e_12_33, e_12_34, e_12_35, e_12_36, e_12_39, e_12_40, e_12_41, e_12_42, e_12_45, e_12_46, e_12_49, e_12_52, e_12_56, e_12_57, e_12_60, e_12_61, e_12_62, e_12_65, e_12_66, e_12_67, e_12_68, e_12_71, e_12_75, e_12_76, ge1, ule_t, true_or, or_true, nI_add, nI_mul, nI_sub, nI_clamp, nI_lt_t, nI_lt_f, nI_le_t, nI_le_f, nI_eq_t, nI_eq_f, vp_nI, tI, fI, not_true, not_false_iff, true_and, and_true, Classical.not_not, mS_uI, mS_uA, mS_uJ, mS_uR, mS_uX, mR_uI, mR_uA, mR_uJ, mR_uX, mX_uI, mX_uA, mX_uJ, mX_uR, mI_s, mI_n, mI_A, mI_An, mI_uJ, mI_uR, mI_uX, mJ_uI, mJ_uA, mJ_uR, mJ_uX, onR_s, kC_v, kC_n, kC_t, ul0, ula1, ula2, ula3, ula4, ulb2, ulb3, ulb4, ulc2, ulc3, ulc4, ule4, ulf3, ulf4, uj1, uj2, uj3, uj4, kC_n, kC_v, a1, a2, a6, a11, s_14 hB2, s_23, c8i]
  refine hq _ v1 cap1 (hf.trans ⟨Nat.le_refl _, fun a h1 h2 h3 => ⟨rfl, fun k => ?_, fun k => rfl, fun k => rfl⟩⟩) ⟨a1, a2, a3, a4, a5, a6, a7, a8, by omega, ?_, ?_⟩ (fun j hj2 => ?_) ?_
  · simp (disch := first | omega | rfl) only [mI_n]
  · simp (disch := first | omega | rfl) only [mI_n]; exact a10
  · simp (disch := first | omega | rfl) only [mI_n, mI_s]
  · simp (disch := first | omega | rfl) only [mI_n]; exact hj j hj2
  · simp (disch := first | omega | rfl) only [mI_n, mI_s]
theorem s_1 (h : SbS μ v cap n) (hn : n < 87) (hc : c < 128) (hq : ∀ μ' v' cap', FrB μ μ' → SbS μ' v' cap' (n + 1) → (∀ j, j < n → mI μ' v' j = mI μ v j) → mI μ' v' n = nI c → Q (some (some (.ref 1060))) μ') : Ev (d + 5) 1 [.ref 1060, .int (nI c)] μ Q := by
  rw [in_1]
  simp (disch := first | omega | rfl) only [e_1_0, e_1_1, e_1_2, e_1_5, e_1_6, e_1_7, ge1, ule_t, true_or, or_true, nI_add, nI_mul, nI_sub, nI_clamp, nI_lt_t, nI_lt_f, nI_le_t, nI_le_f, nI_eq_t, nI_eq_f, vp_nI, tI, fI, not_true, not_false_iff, true_and, and_true, Classical.not_not, mS_uI, mS_uA, mS_uJ, mS_uR, mS_uX, mR_uI, mR_uA, mR_uJ, mR_uX, mX_uI, mX_uA, mX_uJ, mX_uR, mI_s, mI_n, mI_A, mI_An, mI_uJ, mI_uR, mI_uX, mJ_uI, mJ_uA, mJ_uR, mJ_uX, onR_s, kC_v, kC_n, kC_t, ul0, ula1, ula2, ula3, ula4, ulb2, ulb3, ulb4, ulc2, ulc3, ulc4, ule4, ulf3, ulf4, uj1, uj2, uj3, uj4, h.1]
  refine s_12 h hn hc (fun μ1 v1 cap1 hf hB1 hj hl => ?_)
  simp (disch := first | omega | rfl) only [e_1_0, e_1_1, e_1_2, e_1_5, e_1_6, e_1_7, ge1, ule_t, true_or, or_true, nI_add, nI_mul, nI_sub, nI_clamp, nI_lt_t, nI_lt_f, nI_le_t, nI_le_f, nI_eq_t, nI_eq_f, vp_nI, tI, fI, not_true, not_false_iff, true_and, and_true, Classical.not_not, mS_uI, mS_uA, mS_uJ, mS_uR, mS_uX, mR_uI, mR_uA, mR_uJ, mR_uX, mX_uI, mX_uA, mX_uJ, mX_uR, mI_s, mI_n, mI_A, mI_An, mI_uJ, mI_uR, mI_uX, mJ_uI, mJ_uA, mJ_uR, mJ_uX, onR_s, kC_v, kC_n, kC_t, ul0, ula1, ula2, ula3, ula4, ulb2, ulb3, ulb4, ulc2, ulc3, ulc4, ule4, ulf3, ulf4, uj1, uj2, uj3, uj4, kC_v]
  exact hq μ1 v1 cap1 hf hB1 hj hl
/-- emptied -/
theorem s_4 (h : SbS μ v cap n) (hq : ∀ μ', FrB μ μ' → SbS μ' v cap 0 → Q (some none) μ') : Ev (d + 5) 4 [.ref 1060, .int (nI 0)] μ Q := by
  have hB := h
  obtain ⟨b1, b2, b3, b4, b5, b6, b7, b8, b9, b10, b11⟩ := h
  have hv1 : v ≠ 1060 := by omega
  have h8 : ∀ (d : Nat) (Q : Po), Ev (d + 3) 8 [.ref 1060, .int (nI 0)] μ Q = Q (some none) μ := fun d Q => by
    rw [in_8]
    simp (disch := first | omega | rfl) only [e_8_0, e_8_1, e_8_4, e_8_5, e_8_6, e_8_9, e_8_10, e_8_11, e_8_12, e_8_13, e_8_14, e_8_17, e_8_18, e_8_19, e_8_22, e_8_23, e_8_24, e_8_27, e_8_28, e_8_31, e_8_32, e_8_35, e_8_38, ge1, ule_t, true_or, or_true, nI_add, nI_mul, nI_sub, nI_clamp, nI_lt_t, nI_lt_f, nI_le_t, nI_le_f, nI_eq_t, nI_eq_f, vp_nI, tI, fI, not_true, not_false_iff, true_and, and_true, Classical.not_not, mS_uI, mS_uA, mS_uJ, mS_uR, mS_uX, mR_uI, mR_uA, mR_uJ, mR_uX, mX_uI, mX_uA, mX_uJ, mX_uR, mI_s, mI_n, mI_A, mI_An, mI_uJ, mI_uR, mI_uX, mJ_uI, mJ_uA, mJ_uR, mJ_uX, onR_s, kC_v, kC_n, kC_t, b1, b2, b6, b10, ofI, nI_shr, Nat.pow_zero, Nat.div_one, nI_sub0 (Nat.zero_le cap), Nat.reduceLeDiff, uj1]
  rw [in_4]
  simp (disch := first | omega | rfl) only [e_4_0, e_4_1, e_4_2, e_4_5, ge1, ule_t, true_or, or_true, nI_add, nI_mul, nI_sub, nI_clamp, nI_lt_t, nI_lt_f, nI_le_t, nI_le_f, nI_eq_t, nI_eq_f, vp_nI, tI, fI, not_true, not_false_iff, true_and, and_true, Classical.not_not, mS_uI, mS_uA, mS_uJ, mS_uR, mS_uX, mR_uI, mR_uA, mR_uJ, mR_uX, mX_uI, mX_uA, mX_uJ, mX_uR, mI_s, mI_n, mI_A, mI_An, mI_uJ, mI_uR, mI_uX, mJ_uI, mJ_uA, mJ_uR, mJ_uX, onR_s, kC_v, kC_n, kC_t, ul0, ula1, ula2, ula3, ula4, ulb2, ulb3, ulb4, ulc2, ulc3, ulc4, ule4, ulf3, ulf4, uj1, uj2, uj3, uj4, b1, in_10, e_10_0, e_10_1, e_10_13, e_10_14, e_10_15, e_10_18, e_10_19, e_10_22, e_10_23, e_10_26, e_10_27, e_10_30, e_10_33, e_10_34, e_10_37, e_10_38, e_10_41, e_10_48, e_10_49, e_10_52, e_10_53, e_10_56, e_10_63, e_10_64, e_10_67, e_10_68, e_10_71, e_10_72, e_10_73, e_10_76, e_10_77, e_10_78, e_10_81, h8, kC_n, kC_v, b11]
  rcases (by omega : n = 0 ∨ 0 < n) with rfl | hn
  · simp (disch := first | omega | rfl) only [e_10_0, e_10_1, e_10_13, e_10_14, e_10_15, e_10_18, e_10_19, e_10_22, e_10_23, e_10_26, e_10_27, e_10_30, e_10_33, e_10_34, e_10_37, e_10_38, e_10_41, e_10_48, e_10_49, e_10_52, e_10_53, e_10_56, e_10_63, e_10_64, e_10_67, e_10_68, e_10_71, e_10_72, e_10_73, e_10_76, e_10_77, e_10_78, e_10_81, e_4_0, e_4_1, e_4_2, e_4_5, ge1, ule_t, true_or, or_true, nI_add, nI_mul, nI_sub, nI_clamp, nI_lt_t, nI_lt_f, nI_le_t, nI_le_f, nI_eq_t, nI_eq_f, vp_nI, tI, fI, not_true, not_false_iff, true_and, and_true, Classical.not_not, mS_uI, mS_uA, mS_uJ, mS_uR, mS_uX, mR_uI, mR_uA, mR_uJ, mR_uX, mX_uI, mX_uA, mX_uJ, mX_uR, mI_s, mI_n, mI_A, mI_An, mI_uJ, mI_uR, mI_uX, mJ_uI, mJ_uA, mJ_uR, mJ_uX, onR_s, kC_v, kC_n, kC_t, ul0, ula1, ula2, ula3, ula4, ulb2, ulb3, ulb4, ulc2, ulc3, ulc4, ule4, ulf3, ulf4, uj1, uj2, uj3, uj4, b1, kC_n]
    refine hq _ ⟨Nat.le_refl _, fun a h1 h2 h3 => ⟨rfl, fun k => ?_, fun k => rfl, fun k => rfl⟩⟩ ⟨b1, b2, b3, b4, b5, b6, b7, b8, by omega, ?_, ?_⟩
    · simp (disch := first | omega | rfl) only [mI_n]
    · simp (disch := first | omega | rfl) only [mI_n]; exact b10
    · simp (disch := first | omega | rfl) only [mI_s]
  · simp (disch := first | omega | rfl) only [e_10_0, e_10_1, e_10_13, e_10_14, e_10_15, e_10_18, e_10_19, e_10_22, e_10_23, e_10_26, e_10_27, e_10_30, e_10_33, e_10_34, e_10_37, e_10_38, e_10_41, e_10_48, e_10_49, e_10_52, e_10_53, e_10_56, e_10_63, e_10_64, e_10_67, e_10_68, e_10_71, e_10_72, e_10_73, e_10_76, e_10_77, e_10_78, e_10_81, e_4_0, e_4_1, e_4_2, e_4_5, ge1, ule_t, true_or, or_true, nI_add, nI_mul, nI_sub, nI_clamp, nI_lt_t, nI_lt_f, nI_le_t, nI_le_f, nI_eq_t, nI_eq_f, vp_nI, tI, fI, not_true, not_false_iff, true_and, and_true, Classical.not_not, mS_uI, mS_uA, mS_uJ, mS_uR, mS_uX, mR_uI, mR_uA, mR_uJ, mR_uX, mX_uI, mX_uA, mX_uJ, mX_uR, mI_s, mI_n, mI_A, mI_An, mI_uJ, mI_uR, mI_uX, mJ_uI, mJ_uA, mJ_uR, mJ_uX, onR_s, kC_v, kC_n, kC_t, ul0, ula1, ula2, ula3, ula4, ulb2, ulb3, ulb4, ulc2, ulc3, ulc4, ule4, ulf3, ulf4, uj1, uj2, uj3, uj4, b1, kC_n]
    refine hq _ ⟨Nat.le_refl _, fun a h1 h2 h3 => ⟨rfl, fun k => ?_, fun k => rfl, fun k => rfl⟩⟩ ⟨b1, b2, b3, b4, b5, b6, b7, b8, by omega, ?_, ?_⟩
    · simp (disch := first | omega | rfl) only [mI_n]
    · simp (disch := first | omega | rfl) only [mI_n]; exact b10
    · simp (disch := first | omega | rfl) only [mI_s]
/-- a byte read -/
theorem s_3 (h : SbS μ v cap n) (hk : k < n) (hv : mI μ v k = nI c) (hc : c < 128) : Ev (d + 4) 3 [.ref 1060, .int (nI k)] μ Q = Q (some (some (.int (nI c)))) μ := by
  obtain ⟨b1, b2, b3, b4, b5, b6, b7, b8, b9, b10, b11⟩ := h
  have e1 : (if nI n < nI cap then nI n else nI cap) = nI n := by
    by_cases h : n < cap
    · rw [if_pos (nI_lt h (by omega))]
    · rw [if_neg (nI_nlt (by omega) (by omega)), show cap = n by omega]
  have e2 : (if nI cap < nI n then nI cap else nI n) = nI n := if_neg (nI_nlt (by omega) (by omega))
  rw [in_3]
  simp (disch := first | omega | rfl) only [e_3_0, e_3_1, e_3_2, e_3_5, in_11, e_11_0, e_11_1, e_11_4, e_11_5, e_11_6, e_11_9, e_11_10, e_11_11, e_11_14, e_11_15, e_11_16, e_11_17, e_11_18, e_11_21, e_11_23, e_11_24, e_11_26, e_11_29, e_11_30, e_11_33, e_11_34, e_11_35, e_11_36, e_11_39, e_11_40, e_11_41, e_11_42, e_11_43, ge1, ule_t, true_or, or_true, nI_add, nI_mul, nI_sub, nI_clamp, nI_lt_t, nI_lt_f, nI_le_t, nI_le_f, nI_eq_t, nI_eq_f, vp_nI, tI, fI, not_true, not_false_iff, true_and, and_true, Classical.not_not, mS_uI, mS_uA, mS_uJ, mS_uR, mS_uX, mR_uI, mR_uA, mR_uJ, mR_uX, mX_uI, mX_uA, mX_uJ, mX_uR, mI_s, mI_n, mI_A, mI_An, mI_uJ, mI_uR, mI_uX, mJ_uI, mJ_uA, mJ_uR, mJ_uX, onR_s, kC_v, kC_n, kC_t, b1, b2, b6, b10, b11, ofI, nI_shr, Nat.pow_zero, Nat.div_one, e1, e2, s_22 hk (show n < 2147483648 by omega), kC_n, kC_v, hv, c255, c16, Nat.reduceLeDiff, ite_true, ite_false]
end Jdk

/-! reading the output -/
section OutC
variable {d : Nat} {Q : Po} {μ : Mu} {s c n k i j v cap ch : Nat} {x y z : Int32} {l0 l1 l2 : Option Value}
theorem c_97 (hW : ShR μ s c) (h : SbS μ v cap n) (hk : k < n) (hv : mI μ v k = nI ch) (hc : ch < 128) : Ev (d + 6) 97 [.ref 1000, .int (nI k)] μ Q = Q (some (some (.int (nI ch)))) μ := by
  obtain ⟨w0, w1, w2, w3, w4, w5, w6, w7, w8, w9, w10, w11, w12, w13, w14, w15⟩ := hW
  have h8 := h.2.2.2.2.2.2.2.1
  have h9 := h.2.2.2.2.2.2.2.2.1
  rw [in_97]
  simp (disch := first | omega | rfl) only [e_97_0, e_97_1, e_97_2, e_97_3, e_97_6, e_97_9, e_97_10, e_97_11, e_97_14, e_97_17, e_97_18, e_97_19, e_97_20, e_97_23, e_97_24, e_97_27, w0, w1, w2, w3, w4, w5, w6, w7, w8, w9, w10, ge1, ule_t, true_or, or_true, nI_add, nI_mul, nI_sub, nI_clamp, nI_lt_t, nI_lt_f, nI_le_t, nI_le_f, nI_eq_t, nI_eq_f, vp_nI, tI, fI, not_true, not_false_iff, true_and, and_true, Classical.not_not, mS_uI, mS_uA, mS_uJ, mS_uR, mS_uX, mR_uI, mR_uA, mR_uJ, mR_uX, mX_uI, mX_uA, mX_uJ, mX_uR, mI_s, mI_n, mI_A, mI_An, mI_uJ, mI_uR, mI_uX, mJ_uI, mJ_uA, mJ_uR, mJ_uX, onR_s, kC_v, kC_n, kC_t, h.1, s_5 h, s_155, good_is hk (by omega), bI_T, s_3 h hk hv hc]
theorem c_97f (hW : ShR μ s c) (h : SbS μ v cap n) (hx : bad x n) : Ev (d + 6) 97 [.ref 1000, .int x] μ Q = Q (some (some (.int (-1)))) μ := by
  obtain ⟨w0, w1, w2, w3, w4, w5, w6, w7, w8, w9, w10, w11, w12, w13, w14, w15⟩ := hW
  have h8 := h.2.2.2.2.2.2.2.1
  have h9 := h.2.2.2.2.2.2.2.2.1
  rw [in_97]
  simp (disch := first | omega | rfl) only [e_97_0, e_97_1, e_97_2, e_97_3, e_97_6, e_97_9, e_97_10, e_97_11, e_97_14, e_97_17, e_97_18, e_97_19, e_97_20, e_97_23, e_97_24, e_97_27, w0, w1, w2, w3, w4, w5, w6, w7, w8, w9, w10, ge1, ule_t, true_or, or_true, nI_add, nI_mul, nI_sub, nI_clamp, nI_lt_t, nI_lt_f, nI_le_t, nI_le_f, nI_eq_t, nI_eq_f, vp_nI, tI, fI, not_true, not_false_iff, true_and, and_true, Classical.not_not, mS_uI, mS_uA, mS_uJ, mS_uR, mS_uX, mR_uI, mR_uA, mR_uJ, mR_uX, mX_uI, mX_uA, mX_uJ, mX_uR, mI_s, mI_n, mI_A, mI_An, mI_uJ, mI_uR, mI_uX, mJ_uI, mJ_uA, mJ_uR, mJ_uX, onR_s, kC_v, kC_n, kC_t, h.1, s_5 h, s_155, bad_is hx (by omega), bI_F]
theorem m_281 (hM : ShM μ) (hn : mI μ 1298 26 = nI n) (hn9 : n ≤ 90) (hk : k < n) : Ev (d + 1) 281 [.ref 1298, .int (nI k)] μ Q = Q (some (some (.int (mI μ 1308 k)))) (uI μ 1298 0 (nI 0)) := by
  obtain ⟨p1, p2, p3, p4, p5, p6, p7, p8, p9, p10, p11, p12, p13, p14, p15, p16, p17, p18, p19, p20, p21⟩ := hM
  rw [in_281]
  simp (disch := first | omega | rfl) only [e_281_0, e_281_1, e_281_2, e_281_5, e_281_6, e_281_9, e_281_10, e_281_11, e_281_14, e_281_17, e_281_18, e_281_21, e_281_22, e_281_25, e_281_26, e_281_27, p1, p2, p3, p4, p5, p6, p7, p8, p9, p10, p11, p12, p13, p14, p15, p16, p17, p18, p19, p20, p21, ge1, ule_t, true_or, or_true, nI_add, nI_mul, nI_sub, nI_clamp, nI_lt_t, nI_lt_f, nI_le_t, nI_le_f, nI_eq_t, nI_eq_f, vp_nI, tI, fI, not_true, not_false_iff, true_and, and_true, Classical.not_not, mS_uI, mS_uA, mS_uJ, mS_uR, mS_uX, mR_uI, mR_uA, mR_uJ, mR_uX, mX_uI, mX_uA, mX_uJ, mX_uR, mI_s, mI_n, mI_A, mI_An, mI_uJ, mI_uR, mI_uX, mJ_uI, mJ_uA, mJ_uR, mJ_uX, onR_s, kC_v, kC_n, kC_t, hn]
theorem m_281f (hM : ShM μ) (hn : mI μ 1298 26 = nI n) (hn9 : n ≤ 90) (hx : bad x n) : Ev (d + 1) 281 [.ref 1298, .int x] μ Q = Q (some (some (.int (-1)))) (uI μ 1298 0 (nI 0)) := by
  obtain ⟨p1, p2, p3, p4, p5, p6, p7, p8, p9, p10, p11, p12, p13, p14, p15, p16, p17, p18, p19, p20, p21⟩ := hM
  rw [in_281]
  rcases bad2 hx with h1 | ⟨h1, h2, h3⟩
  · simp (disch := first | omega | rfl) only [e_281_0, e_281_1, e_281_2, e_281_5, e_281_6, e_281_9, e_281_10, e_281_11, e_281_14, e_281_17, e_281_18, e_281_21, e_281_22, e_281_25, e_281_26, e_281_27, p1, p2, p3, p4, p5, p6, p7, p8, p9, p10, p11, p12, p13, p14, p15, p16, p17, p18, p19, p20, p21, ge1, ule_t, true_or, or_true, nI_add, nI_mul, nI_sub, nI_clamp, nI_lt_t, nI_lt_f, nI_le_t, nI_le_f, nI_eq_t, nI_eq_f, vp_nI, tI, fI, not_true, not_false_iff, true_and, and_true, Classical.not_not, mS_uI, mS_uA, mS_uJ, mS_uR, mS_uX, mR_uI, mR_uA, mR_uJ, mR_uX, mX_uI, mX_uA, mX_uJ, mX_uR, mI_s, mI_n, mI_A, mI_An, mI_uJ, mI_uR, mI_uX, mJ_uI, mJ_uA, mJ_uR, mJ_uX, onR_s, kC_v, kC_n, kC_t, hn, h1]
  · simp (disch := first | omega | rfl) only [e_281_0, e_281_1, e_281_2, e_281_5, e_281_6, e_281_9, e_281_10, e_281_11, e_281_14, e_281_17, e_281_18, e_281_21, e_281_22, e_281_25, e_281_26, e_281_27, p1, p2, p3, p4, p5, p6, p7, p8, p9, p10, p11, p12, p13, p14, p15, p16, p17, p18, p19, p20, p21, ge1, ule_t, true_or, or_true, nI_add, nI_mul, nI_sub, nI_clamp, nI_lt_t, nI_lt_f, nI_le_t, nI_le_f, nI_eq_t, nI_eq_f, vp_nI, tI, fI, not_true, not_false_iff, true_and, and_true, Classical.not_not, mS_uI, mS_uA, mS_uJ, mS_uR, mS_uX, mR_uI, mR_uA, mR_uJ, mR_uX, mX_uI, mX_uA, mX_uJ, mX_uR, mI_s, mI_n, mI_A, mI_An, mI_uJ, mI_uR, mI_uX, mJ_uI, mJ_uA, mJ_uR, mJ_uX, onR_s, kC_v, kC_n, kC_t, hn, h1, h2, h3]
end OutC

/-! numbers written -/
def fNd (x : Nat) : Nat := if x < 10 then 1 else if x < 100 then 2 else if x < 1000 then 3 else 4
def fDg (x j : Nat) : Nat := 48 + x / 10 ^ (fNd x - 1 - j) % 10
theorem nn_lt {a b : Nat} (ha : a < 2147483648) (hb : b < 2147483648) : (-nI a < -nI b) = (b < a) := by
  apply propext
  rw [Int32.lt_iff_toInt_lt, Int32.toInt_neg, Int32.toInt_neg, nI_toInt ha, nI_toInt hb, Int.bmod_def, Int.bmod_def]
  constructor
  · intro h
    split at h <;> split at h <;> omega
  · intro h
    split <;> split <;> omega
theorem nn_le {a b : Nat} (ha : a < 2147483648) (hb : b < 2147483648) : (-nI a ≤ -nI b) = (b ≤ a) := by
  apply propext
  rw [Int32.le_iff_toInt_le, Int32.toInt_neg, Int32.toInt_neg, nI_toInt ha, nI_toInt hb, Int.bmod_def, Int.bmod_def]
  constructor
  · intro h
    split at h <;> split at h <;> omega
  · intro h
    split <;> split <;> omega
theorem k10 : (-10 : Int32) = -nI 10 := by decide
theorem k9 : (-9 : Int32) = -nI 9 := by decide
theorem k100 : (-100 : Int32) = -nI 100 := by decide
theorem k10a : nI 10 * -nI 10 = -nI 100 := by decide
theorem k10b : nI 10 * -nI 100 = -nI 1000 := by decide
theorem k10c : nI 10 * -nI 1000 = -nI 10000 := by decide
theorem nd_0 : ∀ q, q < 20 → ∀ i, i < 100 → -nI (100 * q + i) / nI 100 = -nI q ∧ -nI q * nI 100 - -nI (100 * q + i) = nI i := by decide +kernel
theorem nd_1 : ∀ q, q < 20 → ∀ i, i < 100 → -nI (100 * (20 + q) + i) / nI 100 = -nI (20 + q) ∧ -nI (20 + q) * nI 100 - -nI (100 * (20 + q) + i) = nI i := by decide +kernel
theorem nd_2 : ∀ q, q < 20 → ∀ i, i < 100 → -nI (100 * (40 + q) + i) / nI 100 = -nI (40 + q) ∧ -nI (40 + q) * nI 100 - -nI (100 * (40 + q) + i) = nI i := by decide +kernel
theorem nd_3 : ∀ q, q < 20 → ∀ i, i < 100 → -nI (100 * (60 + q) + i) / nI 100 = -nI (60 + q) ∧ -nI (60 + q) * nI 100 - -nI (100 * (60 + q) + i) = nI i := by decide +kernel
theorem nd_4 : ∀ q, q < 20 → ∀ i, i < 100 → -nI (100 * (80 + q) + i) / nI 100 = -nI (80 + q) ∧ -nI (80 + q) * nI 100 - -nI (100 * (80 + q) + i) = nI i := by decide +kernel
theorem nd_all (x : Nat) (h : x < 10000) : -nI x / nI 100 = -nI (x / 100) ∧ -nI (x / 100) * nI 100 - -nI x = nI (x % 100) := by
  have e : x = 100 * (x / 100) + x % 100 := by omega
  have hi : x % 100 < 100 := by omega
  rcases (by omega : x / 100 < 20 ∨ (20 ≤ x / 100 ∧ x / 100 < 40) ∨ (40 ≤ x / 100 ∧ x / 100 < 60) ∨ (60 ≤ x / 100 ∧ x / 100 < 80) ∨ (80 ≤ x / 100 ∧ x / 100 < 100)) with h1 | h1 | h1 | h1 | h1
  · have := nd_0 (x / 100) h1 (x % 100) hi
    rw [← e] at this; exact this
  · have := nd_1 (x / 100 - 20) (by omega) (x % 100) hi
    rw [show 20 + (x / 100 - 20) = x / 100 by omega, ← e] at this; exact this
  · have := nd_2 (x / 100 - 40) (by omega) (x % 100) hi
    rw [show 40 + (x / 100 - 40) = x / 100 by omega, ← e] at this; exact this
  · have := nd_3 (x / 100 - 60) (by omega) (x % 100) hi
    rw [show 60 + (x / 100 - 60) = x / 100 by omega, ← e] at this; exact this
  · have := nd_4 (x / 100 - 80) (by omega) (x % 100) hi
    rw [show 80 + (x / 100 - 80) = x / 100 by omega, ← e] at this; exact this
section NumC
variable {d : Nat} {Q : Po} {μ : Mu} {a b c n k i j t v cap N x : Nat} {y z : Int32} {l0 l1 l2 : Option Value}
theorem s_16 (hx : x < 10000) : Ev (d + 1) 16 [.int (nI x)] μ Q = Q (some (some (.int (nI (fNd x))))) μ := by
  rw [in_16]
  simp (disch := first | omega | rfl) only [e_16_0, e_16_1, e_16_2, e_16_3, e_16_6, e_16_7, e_16_8, e_16_9, e_16_10, e_16_11, e_16_13, e_16_14, e_16_15, e_16_17, e_16_19, e_16_22, e_16_23, e_16_24, e_16_27, e_16_28, e_16_29, e_16_30, e_16_31, e_16_33, e_16_34, e_16_35, e_16_36, e_16_39, e_16_42, e_16_44, e_16_45, e_16_46, ge1, ule_t, true_or, or_true, nI_add, nI_mul, nI_sub, nI_clamp, nI_lt_t, nI_lt_f, nI_le_t, nI_le_f, nI_eq_t, nI_eq_f, vp_nI, tI, fI, not_true, not_false_iff, true_and, and_true, Classical.not_not, k10]
  rcases (by omega : x < 10 ∨ (10 ≤ x ∧ x < 100) ∨ (100 ≤ x ∧ x < 1000) ∨ 1000 ≤ x) with h | h | h | h
  · rw [e_16_16, show fNd x = 1 from if_pos h]
    simp (disch := first | omega | rfl) only [e_16_0, e_16_1, e_16_2, e_16_3, e_16_6, e_16_7, e_16_8, e_16_9, e_16_10, e_16_11, e_16_13, e_16_14, e_16_15, e_16_17, e_16_19, e_16_22, e_16_23, e_16_24, e_16_27, e_16_28, e_16_29, e_16_30, e_16_31, e_16_33, e_16_34, e_16_35, e_16_36, e_16_39, e_16_42, e_16_44, e_16_45, e_16_46, ge1, ule_t, true_or, or_true, nI_add, nI_mul, nI_sub, nI_clamp, nI_lt_t, nI_lt_f, nI_le_t, nI_le_f, nI_eq_t, nI_eq_f, vp_nI, tI, fI, not_true, not_false_iff, true_and, and_true, Classical.not_not, nn_le, show (10 ≤ x) = False from eq_false (by omega)]
  · rw [e_16_16, show fNd x = 2 from (if_neg (by omega)).trans (if_pos h.2)]
    simp (disch := first | omega | rfl) only [e_16_0, e_16_1, e_16_2, e_16_3, e_16_6, e_16_7, e_16_8, e_16_9, e_16_10, e_16_11, e_16_13, e_16_14, e_16_15, e_16_17, e_16_19, e_16_22, e_16_23, e_16_24, e_16_27, e_16_28, e_16_29, e_16_30, e_16_31, e_16_33, e_16_34, e_16_35, e_16_36, e_16_39, e_16_42, e_16_44, e_16_45, e_16_46, ge1, ule_t, true_or, or_true, nI_add, nI_mul, nI_sub, nI_clamp, nI_lt_t, nI_lt_f, nI_le_t, nI_le_f, nI_eq_t, nI_eq_f, vp_nI, tI, fI, not_true, not_false_iff, true_and, and_true, Classical.not_not, nn_le, show (10 ≤ x) = True from eq_true (by omega), k10a]
    rw [e_16_16]
    simp (disch := first | omega | rfl) only [e_16_0, e_16_1, e_16_2, e_16_3, e_16_6, e_16_7, e_16_8, e_16_9, e_16_10, e_16_11, e_16_13, e_16_14, e_16_15, e_16_17, e_16_19, e_16_22, e_16_23, e_16_24, e_16_27, e_16_28, e_16_29, e_16_30, e_16_31, e_16_33, e_16_34, e_16_35, e_16_36, e_16_39, e_16_42, e_16_44, e_16_45, e_16_46, ge1, ule_t, true_or, or_true, nI_add, nI_mul, nI_sub, nI_clamp, nI_lt_t, nI_lt_f, nI_le_t, nI_le_f, nI_eq_t, nI_eq_f, vp_nI, tI, fI, not_true, not_false_iff, true_and, and_true, Classical.not_not, nn_le, show (100 ≤ x) = False from eq_false (by omega)]
  · rw [e_16_16, show fNd x = 3 from (if_neg (by omega)).trans ((if_neg (by omega)).trans (if_pos h.2))]
    simp (disch := first | omega | rfl) only [e_16_0, e_16_1, e_16_2, e_16_3, e_16_6, e_16_7, e_16_8, e_16_9, e_16_10, e_16_11, e_16_13, e_16_14, e_16_15, e_16_17, e_16_19, e_16_22, e_16_23, e_16_24, e_16_27, e_16_28, e_16_29, e_16_30, e_16_31, e_16_33, e_16_34, e_16_35, e_16_36, e_16_39, e_16_42, e_16_44, e_16_45, e_16_46, ge1, ule_t, true_or, or_true, nI_add, nI_mul, nI_sub, nI_clamp, nI_lt_t, nI_lt_f, nI_le_t, nI_le_f, nI_eq_t, nI_eq_f, vp_nI, tI, fI, not_true, not_false_iff, true_and, and_true, Classical.not_not, nn_le, show (10 ≤ x) = True from eq_true (by omega), k10a]
    rw [e_16_16]
    simp (disch := first | omega | rfl) only [e_16_0, e_16_1, e_16_2, e_16_3, e_16_6, e_16_7, e_16_8, e_16_9, e_16_10, e_16_11, e_16_13, e_16_14, e_16_15, e_16_17, e_16_19, e_16_22, e_16_23, e_16_24, e_16_27, e_16_28, e_16_29, e_16_30, e_16_31, e_16_33, e_16_34, e_16_35, e_16_36, e_16_39, e_16_42, e_16_44, e_16_45, e_16_46, ge1, ule_t, true_or, or_true, nI_add, nI_mul, nI_sub, nI_clamp, nI_lt_t, nI_lt_f, nI_le_t, nI_le_f, nI_eq_t, nI_eq_f, vp_nI, tI, fI, not_true, not_false_iff, true_and, and_true, Classical.not_not, nn_le, show (100 ≤ x) = True from eq_true (by omega), k10b]
    rw [e_16_16]
    simp (disch := first | omega | rfl) only [e_16_0, e_16_1, e_16_2, e_16_3, e_16_6, e_16_7, e_16_8, e_16_9, e_16_10, e_16_11, e_16_13, e_16_14, e_16_15, e_16_17, e_16_19, e_16_22, e_16_23, e_16_24, e_16_27, e_16_28, e_16_29, e_16_30, e_16_31, e_16_33, e_16_34, e_16_35, e_16_36, e_16_39, e_16_42, e_16_44, e_16_45, e_16_46, ge1, ule_t, true_or, or_true, nI_add, nI_mul, nI_sub, nI_clamp, nI_lt_t, nI_lt_f, nI_le_t, nI_le_f, nI_eq_t, nI_eq_f, vp_nI, tI, fI, not_true, not_false_iff, true_and, and_true, Classical.not_not, nn_le, show (1000 ≤ x) = False from eq_false (by omega)]
  · rw [e_16_16, show fNd x = 4 from (if_neg (by omega)).trans ((if_neg (by omega)).trans (if_neg (by omega)))]
    simp (disch := first | omega | rfl) only [e_16_0, e_16_1, e_16_2, e_16_3, e_16_6, e_16_7, e_16_8, e_16_9, e_16_10, e_16_11, e_16_13, e_16_14, e_16_15, e_16_17, e_16_19, e_16_22, e_16_23, e_16_24, e_16_27, e_16_28, e_16_29, e_16_30, e_16_31, e_16_33, e_16_34, e_16_35, e_16_36, e_16_39, e_16_42, e_16_44, e_16_45, e_16_46, ge1, ule_t, true_or, or_true, nI_add, nI_mul, nI_sub, nI_clamp, nI_lt_t, nI_lt_f, nI_le_t, nI_le_f, nI_eq_t, nI_eq_f, vp_nI, tI, fI, not_true, not_false_iff, true_and, and_true, Classical.not_not, nn_le, show (10 ≤ x) = True from eq_true (by omega), k10a]
    rw [e_16_16]
    simp (disch := first | omega | rfl) only [e_16_0, e_16_1, e_16_2, e_16_3, e_16_6, e_16_7, e_16_8, e_16_9, e_16_10, e_16_11, e_16_13, e_16_14, e_16_15, e_16_17, e_16_19, e_16_22, e_16_23, e_16_24, e_16_27, e_16_28, e_16_29, e_16_30, e_16_31, e_16_33, e_16_34, e_16_35, e_16_36, e_16_39, e_16_42, e_16_44, e_16_45, e_16_46, ge1, ule_t, true_or, or_true, nI_add, nI_mul, nI_sub, nI_clamp, nI_lt_t, nI_lt_f, nI_le_t, nI_le_f, nI_eq_t, nI_eq_f, vp_nI, tI, fI, not_true, not_false_iff, true_and, and_true, Classical.not_not, nn_le, show (100 ≤ x) = True from eq_true (by omega), k10b]
    rw [e_16_16]
    simp (disch := first | omega | rfl) only [e_16_0, e_16_1, e_16_2, e_16_3, e_16_6, e_16_7, e_16_8, e_16_9, e_16_10, e_16_11, e_16_13, e_16_14, e_16_15, e_16_17, e_16_19, e_16_22, e_16_23, e_16_24, e_16_27, e_16_28, e_16_29, e_16_30, e_16_31, e_16_33, e_16_34, e_16_35, e_16_36, e_16_39, e_16_42, e_16_44, e_16_45, e_16_46, ge1, ule_t, true_or, or_true, nI_add, nI_mul, nI_sub, nI_clamp, nI_lt_t, nI_lt_f, nI_le_t, nI_le_f, nI_eq_t, nI_eq_f, vp_nI, tI, fI, not_true, not_false_iff, true_and, and_true, Classical.not_not, nn_le, show (1000 ≤ x) = True from eq_true (by omega), k10c]
    rw [e_16_16]
    simp (disch := first | omega | rfl) only [e_16_0, e_16_1, e_16_2, e_16_3, e_16_6, e_16_7, e_16_8, e_16_9, e_16_10, e_16_11, e_16_13, e_16_14, e_16_15, e_16_17, e_16_19, e_16_22, e_16_23, e_16_24, e_16_27, e_16_28, e_16_29, e_16_30, e_16_31, e_16_33, e_16_34, e_16_35, e_16_36, e_16_39, e_16_42, e_16_44, e_16_45, e_16_46, ge1, ule_t, true_or, or_true, nI_add, nI_mul, nI_sub, nI_clamp, nI_lt_t, nI_lt_f, nI_le_t, nI_le_f, nI_eq_t, nI_eq_f, vp_nI, tI, fI, not_true, not_false_iff, true_and, and_true, Classical.not_not, nn_le, show (10000 ≤ x) = False from eq_false (by omega)]
/-- the tables of digits -/
def DgS (μ : Mu) : Prop := mS μ 200 = (21, 100) ∧ mS μ 201 = (21, 100) ∧ (∀ k, k < 100 → mI μ 200 k = nI (48 + k / 10)) ∧ ∀ k, k < 100 → mI μ 201 k = nI (48 + k % 10)
theorem s_15 (hD : DgS μ) (hS : mS μ v = (21, cap)) (hv : 1000 ≤ v) (hx : x < 10000) (hN : fNd x ≤ N) (hc : N ≤ cap) (hc9 : cap ≤ 174) (hq : ∀ F, (∀ j, j < N - fNd x → F j = mI μ v j) → (∀ j, j < fNd x → F (N - fNd x + j) = nI (fDg x j)) → Q (some (some (.int (nI (N - fNd x))))) (uA μ v F)) : Ev (d + 1) 15 [.int (nI x), .int (nI N), .ref v] μ Q := by
  obtain ⟨d1, d2, d3, d4⟩ := hD
  have hd := nd_all x hx
  rw [in_15]
  simp (disch := first | omega | rfl) only [e_15_0, e_15_1, e_15_3, e_15_4, e_15_7, e_15_8, e_15_11, e_15_12, e_15_14, e_15_16, e_15_19, e_15_20, e_15_21, e_15_23, e_15_25, e_15_28, e_15_29, e_15_31, e_15_32, e_15_33, e_15_34, e_15_36, e_15_37, e_15_38, e_15_39, e_15_41, e_15_42, e_15_43, e_15_44, e_15_47, e_15_49, e_15_52, e_15_54, e_15_55, e_15_56, e_15_57, e_15_60, e_15_62, e_15_65, e_15_67, e_15_68, e_15_69, e_15_72, e_15_73, e_15_76, e_15_78, e_15_81, e_15_82, e_15_83, e_15_84, e_15_85, e_15_86, e_15_88, e_15_91, e_15_92, e_15_95, e_15_97, e_15_100, e_15_101, e_15_102, e_15_103, e_15_104, e_15_106, e_15_109, e_15_110, e_15_113, e_15_115, e_15_117, e_15_118, e_15_120, ge1, ule_t, true_or, or_true, nI_add, nI_mul, nI_sub, nI_clamp, nI_lt_t, nI_lt_f, nI_le_t, nI_le_f, nI_eq_t, nI_eq_f, vp_nI, tI, fI, not_true, not_false_iff, true_and, and_true, Classical.not_not]
  rcases (by omega : x < 10 ∨ (10 ≤ x ∧ x < 100) ∨ (100 ≤ x ∧ x < 1000) ∨ 1000 ≤ x) with h | h | h | h
  · have e : fNd x = 1 := if_pos h
    rw [e] at hN hq
    rw [e_15_22]
    simp (disch := first | omega | rfl) only [e_15_0, e_15_1, e_15_3, e_15_4, e_15_7, e_15_8, e_15_11, e_15_12, e_15_14, e_15_16, e_15_19, e_15_20, e_15_21, e_15_23, e_15_25, e_15_28, e_15_29, e_15_31, e_15_32, e_15_33, e_15_34, e_15_36, e_15_37, e_15_38, e_15_39, e_15_41, e_15_42, e_15_43, e_15_44, e_15_47, e_15_49, e_15_52, e_15_54, e_15_55, e_15_56, e_15_57, e_15_60, e_15_62, e_15_65, e_15_67, e_15_68, e_15_69, e_15_72, e_15_73, e_15_76, e_15_78, e_15_81, e_15_82, e_15_83, e_15_84, e_15_85, e_15_86, e_15_88, e_15_91, e_15_92, e_15_95, e_15_97, e_15_100, e_15_101, e_15_102, e_15_103, e_15_104, e_15_106, e_15_109, e_15_110, e_15_113, e_15_115, e_15_117, e_15_118, e_15_120, ge1, ule_t, true_or, or_true, nI_add, nI_mul, nI_sub, nI_clamp, nI_lt_t, nI_lt_f, nI_le_t, nI_le_f, nI_eq_t, nI_eq_f, vp_nI, tI, fI, not_true, not_false_iff, true_and, and_true, Classical.not_not, mS_uI, mS_uA, mS_uJ, mS_uR, mS_uX, mR_uI, mR_uA, mR_uJ, mR_uX, mX_uI, mX_uA, mX_uJ, mX_uR, mI_s, mI_n, mI_A, mI_An, mI_uJ, mI_uR, mI_uX, mJ_uI, mJ_uA, mJ_uR, mJ_uX, onR_s, kC_v, kC_n, kC_t, k100, k9, nn_lt, nn_le, show (x < 100) = True from eq_true (by omega), show (x ≤ 9) = True from eq_true (by omega), Int32.neg_neg, nI_dec, hS, d2, d4, c8i, uI_A]
    refine hq _ (fun j hj => upd_n (by omega)) (fun j hj => ?_)
    obtain rfl : j = 0 := by omega
    unfold fDg
    rw [e, Nat.add_zero, upd_s]
    show nI (48 + x % 10) = nI (48 + x / 1 % 10)
    rw [Nat.div_one]
  · have e : fNd x = 2 := (if_neg (by omega)).trans (if_pos h.2)
    rw [e] at hN hq
    rw [e_15_22]
    simp (disch := first | omega | rfl) only [e_15_0, e_15_1, e_15_3, e_15_4, e_15_7, e_15_8, e_15_11, e_15_12, e_15_14, e_15_16, e_15_19, e_15_20, e_15_21, e_15_23, e_15_25, e_15_28, e_15_29, e_15_31, e_15_32, e_15_33, e_15_34, e_15_36, e_15_37, e_15_38, e_15_39, e_15_41, e_15_42, e_15_43, e_15_44, e_15_47, e_15_49, e_15_52, e_15_54, e_15_55, e_15_56, e_15_57, e_15_60, e_15_62, e_15_65, e_15_67, e_15_68, e_15_69, e_15_72, e_15_73, e_15_76, e_15_78, e_15_81, e_15_82, e_15_83, e_15_84, e_15_85, e_15_86, e_15_88, e_15_91, e_15_92, e_15_95, e_15_97, e_15_100, e_15_101, e_15_102, e_15_103, e_15_104, e_15_106, e_15_109, e_15_110, e_15_113, e_15_115, e_15_117, e_15_118, e_15_120, ge1, ule_t, true_or, or_true, nI_add, nI_mul, nI_sub, nI_clamp, nI_lt_t, nI_lt_f, nI_le_t, nI_le_f, nI_eq_t, nI_eq_f, vp_nI, tI, fI, not_true, not_false_iff, true_and, and_true, Classical.not_not, mS_uI, mS_uA, mS_uJ, mS_uR, mS_uX, mR_uI, mR_uA, mR_uJ, mR_uX, mX_uI, mX_uA, mX_uJ, mX_uR, mI_s, mI_n, mI_A, mI_An, mI_uJ, mI_uR, mI_uX, mJ_uI, mJ_uA, mJ_uR, mJ_uX, onR_s, kC_v, kC_n, kC_t, k100, k9, nn_lt, nn_le, show (x < 100) = True from eq_true (by omega), show (x ≤ 9) = False from eq_false (by omega), Int32.neg_neg, nI_dec, hS, d1, d2, d3, d4, c8i, uI_A, uA_A, mI_Af]
    have g0 : fDg x 0 = 48 + x / 10 := by unfold fDg; rw [e]; show 48 + x / 10 % 10 = _; omega
    have g1 : fDg x 1 = 48 + x % 10 := by unfold fDg; rw [e]; show 48 + x / 1 % 10 = _; omega
    rw [show N - 1 - 1 = N - 2 by omega]
    refine hq _ (fun j hj => ?_) (fun j hj => ?_)
    · rw [upd_n (by omega), upd_n (by omega)]
    · rcases (by omega : j = 0 ∨ j = 1) with rfl | rfl
      · rw [g0, Nat.add_zero, upd_s]
      · rw [g1, upd_n (by omega), show N - 2 + 1 = N - 1 by omega, upd_s]
  · have e : fNd x = 3 := (if_neg (by omega)).trans ((if_neg (by omega)).trans (if_pos h.2))
    rw [e] at hN hq
    rw [e_15_22]
    simp (disch := first | omega | rfl) only [e_15_0, e_15_1, e_15_3, e_15_4, e_15_7, e_15_8, e_15_11, e_15_12, e_15_14, e_15_16, e_15_19, e_15_20, e_15_21, e_15_23, e_15_25, e_15_28, e_15_29, e_15_31, e_15_32, e_15_33, e_15_34, e_15_36, e_15_37, e_15_38, e_15_39, e_15_41, e_15_42, e_15_43, e_15_44, e_15_47, e_15_49, e_15_52, e_15_54, e_15_55, e_15_56, e_15_57, e_15_60, e_15_62, e_15_65, e_15_67, e_15_68, e_15_69, e_15_72, e_15_73, e_15_76, e_15_78, e_15_81, e_15_82, e_15_83, e_15_84, e_15_85, e_15_86, e_15_88, e_15_91, e_15_92, e_15_95, e_15_97, e_15_100, e_15_101, e_15_102, e_15_103, e_15_104, e_15_106, e_15_109, e_15_110, e_15_113, e_15_115, e_15_117, e_15_118, e_15_120, ge1, ule_t, true_or, or_true, nI_add, nI_mul, nI_sub, nI_clamp, nI_lt_t, nI_lt_f, nI_le_t, nI_le_f, nI_eq_t, nI_eq_f, vp_nI, tI, fI, not_true, not_false_iff, true_and, and_true, Classical.not_not, mS_uI, mS_uA, mS_uJ, mS_uR, mS_uX, mR_uI, mR_uA, mR_uJ, mR_uX, mX_uI, mX_uA, mX_uJ, mX_uR, mI_s, mI_n, mI_A, mI_An, mI_uJ, mI_uR, mI_uX, mJ_uI, mJ_uA, mJ_uR, mJ_uX, onR_s, kC_v, kC_n, kC_t, k100, k9, nn_lt, nn_le, show (x < 100) = False from eq_false (by omega), Int32.neg_neg, hd.1, hd.2, nI_dec, hS, d1, d2, d3, d4, c8i, uI_A, uA_A, mI_Af]
    rw [e_15_22]
    simp (disch := first | omega | rfl) only [e_15_0, e_15_1, e_15_3, e_15_4, e_15_7, e_15_8, e_15_11, e_15_12, e_15_14, e_15_16, e_15_19, e_15_20, e_15_21, e_15_23, e_15_25, e_15_28, e_15_29, e_15_31, e_15_32, e_15_33, e_15_34, e_15_36, e_15_37, e_15_38, e_15_39, e_15_41, e_15_42, e_15_43, e_15_44, e_15_47, e_15_49, e_15_52, e_15_54, e_15_55, e_15_56, e_15_57, e_15_60, e_15_62, e_15_65, e_15_67, e_15_68, e_15_69, e_15_72, e_15_73, e_15_76, e_15_78, e_15_81, e_15_82, e_15_83, e_15_84, e_15_85, e_15_86, e_15_88, e_15_91, e_15_92, e_15_95, e_15_97, e_15_100, e_15_101, e_15_102, e_15_103, e_15_104, e_15_106, e_15_109, e_15_110, e_15_113, e_15_115, e_15_117, e_15_118, e_15_120, ge1, ule_t, true_or, or_true, nI_add, nI_mul, nI_sub, nI_clamp, nI_lt_t, nI_lt_f, nI_le_t, nI_le_f, nI_eq_t, nI_eq_f, vp_nI, tI, fI, not_true, not_false_iff, true_and, and_true, Classical.not_not, mS_uI, mS_uA, mS_uJ, mS_uR, mS_uX, mR_uI, mR_uA, mR_uJ, mR_uX, mX_uI, mX_uA, mX_uJ, mX_uR, mI_s, mI_n, mI_A, mI_An, mI_uJ, mI_uR, mI_uX, mJ_uI, mJ_uA, mJ_uR, mJ_uX, onR_s, kC_v, kC_n, kC_t, k100, k9, nn_lt, nn_le, show (x / 100 < 100) = True from eq_true (by omega), show (x / 100 ≤ 9) = True from eq_true (by omega), Int32.neg_neg, nI_dec, hS, d1, d2, d3, d4, c8i, uI_A, uA_A, mI_Af]
    have g0 : fDg x 0 = 48 + x / 100 % 10 := by unfold fDg; rw [e]
    have g1 : fDg x 1 = 48 + x % 100 / 10 := by unfold fDg; rw [e]; show 48 + x / 10 % 10 = _; omega
    have g2 : fDg x 2 = 48 + x % 100 % 10 := by unfold fDg; rw [e]; show 48 + x / 1 % 10 = _; omega
    rw [show N - 1 - 1 = N - 2 by omega, show N - 2 - 1 = N - 3 by omega]
    refine hq _ (fun j hj => ?_) (fun j hj => ?_)
    · rw [upd_n (by omega), upd_n (by omega), upd_n (by omega)]
    · rcases (by omega : j = 0 ∨ j = 1 ∨ j = 2) with rfl | rfl | rfl
      · rw [g0, Nat.add_zero, upd_s]
      · rw [g1, upd_n (by omega), show N - 3 + 1 = N - 2 by omega, upd_s]
      · rw [g2, upd_n (by omega), upd_n (by omega), show N - 3 + 2 = N - 1 by omega, upd_s]
  · have e : fNd x = 4 := (if_neg (by omega)).trans ((if_neg (by omega)).trans (if_neg (by omega)))
    rw [e] at hN hq
    rw [e_15_22]
    simp (disch := first | omega | rfl) only [e_15_0, e_15_1, e_15_3, e_15_4, e_15_7, e_15_8, e_15_11, e_15_12, e_15_14, e_15_16, e_15_19, e_15_20, e_15_21, e_15_23, e_15_25, e_15_28, e_15_29, e_15_31, e_15_32, e_15_33, e_15_34, e_15_36, e_15_37, e_15_38, e_15_39, e_15_41, e_15_42, e_15_43, e_15_44, e_15_47, e_15_49, e_15_52, e_15_54, e_15_55, e_15_56, e_15_57, e_15_60, e_15_62, e_15_65, e_15_67, e_15_68, e_15_69, e_15_72, e_15_73, e_15_76, e_15_78, e_15_81, e_15_82, e_15_83, e_15_84, e_15_85, e_15_86, e_15_88, e_15_91, e_15_92, e_15_95, e_15_97, e_15_100, e_15_101, e_15_102, e_15_103, e_15_104, e_15_106, e_15_109, e_15_110, e_15_113, e_15_115, e_15_117, e_15_118, e_15_120, ge1, ule_t, true_or, or_true, nI_add, nI_mul, nI_sub, nI_clamp, nI_lt_t, nI_lt_f, nI_le_t, nI_le_f, nI_eq_t, nI_eq_f, vp_nI, tI, fI, not_true, not_false_iff, true_and, and_true, Classical.not_not, mS_uI, mS_uA, mS_uJ, mS_uR, mS_uX, mR_uI, mR_uA, mR_uJ, mR_uX, mX_uI, mX_uA, mX_uJ, mX_uR, mI_s, mI_n, mI_A, mI_An, mI_uJ, mI_uR, mI_uX, mJ_uI, mJ_uA, mJ_uR, mJ_uX, onR_s, kC_v, kC_n, kC_t, k100, k9, nn_lt, nn_le, show (x < 100) = False from eq_false (by omega), Int32.neg_neg, hd.1, hd.2, nI_dec, hS, d1, d2, d3, d4, c8i, uI_A, uA_A, mI_Af]
    rw [e_15_22]
    simp (disch := first | omega | rfl) only [e_15_0, e_15_1, e_15_3, e_15_4, e_15_7, e_15_8, e_15_11, e_15_12, e_15_14, e_15_16, e_15_19, e_15_20, e_15_21, e_15_23, e_15_25, e_15_28, e_15_29, e_15_31, e_15_32, e_15_33, e_15_34, e_15_36, e_15_37, e_15_38, e_15_39, e_15_41, e_15_42, e_15_43, e_15_44, e_15_47, e_15_49, e_15_52, e_15_54, e_15_55, e_15_56, e_15_57, e_15_60, e_15_62, e_15_65, e_15_67, e_15_68, e_15_69, e_15_72, e_15_73, e_15_76, e_15_78, e_15_81, e_15_82, e_15_83, e_15_84, e_15_85, e_15_86, e_15_88, e_15_91, e_15_92, e_15_95, e_15_97, e_15_100, e_15_101, e_15_102, e_15_103, e_15_104, e_15_106, e_15_109, e_15_110, e_15_113, e_15_115, e_15_117, e_15_118, e_15_120, ge1, ule_t, true_or, or_true, nI_add, nI_mul, nI_sub, nI_clamp, nI_lt_t, nI_lt_f, nI_le_t, nI_le_f, nI_eq_t, nI_eq_f, vp_nI, tI, fI, not_true, not_false_iff, true_and, and_true, Classical.not_not, mS_uI, mS_uA, mS_uJ, mS_uR, mS_uX, mR_uI, mR_uA, mR_uJ, mR_uX, mX_uI, mX_uA, mX_uJ, mX_uR, mI_s, mI_n, mI_A, mI_An, mI_uJ, mI_uR, mI_uX, mJ_uI, mJ_uA, mJ_uR, mJ_uX, onR_s, kC_v, kC_n, kC_t, k100, k9, nn_lt, nn_le, show (x / 100 < 100) = True from eq_true (by omega), show (x / 100 ≤ 9) = False from eq_false (by omega), Int32.neg_neg, nI_dec, hS, d1, d2, d3, d4, c8i, uI_A, uA_A, mI_Af]
    have g0 : fDg x 0 = 48 + x / 100 / 10 := by unfold fDg; rw [e]; show 48 + x / 1000 % 10 = _; omega
    have g1 : fDg x 1 = 48 + x / 100 % 10 := by unfold fDg; rw [e]
    have g2 : fDg x 2 = 48 + x % 100 / 10 := by unfold fDg; rw [e]; show 48 + x / 10 % 10 = _; omega
    have g3 : fDg x 3 = 48 + x % 100 % 10 := by unfold fDg; rw [e]; show 48 + x / 1 % 10 = _; omega
    rw [show N - 1 - 1 = N - 2 by omega, show N - 2 - 1 = N - 3 by omega, show N - 3 - 1 = N - 4 by omega]
    refine hq _ (fun j hj => ?_) (fun j hj => ?_)
    · rw [upd_n (by omega), upd_n (by omega), upd_n (by omega), upd_n (by omega)]
    · rcases (by omega : j = 0 ∨ j = 1 ∨ j = 2 ∨ j = 3) with rfl | rfl | rfl | rfl
      · rw [g0, Nat.add_zero, upd_s]
      · rw [g1, upd_n (by omega), show N - 4 + 1 = N - 3 by omega, upd_s]
      · rw [g2, upd_n (by omega), upd_n (by omega), show N - 4 + 2 = N - 2 by omega, upd_s]
      · rw [g3, upd_n (by omega), upd_n (by omega), upd_n (by omega), show N - 4 + 3 = N - 1 by omega, upd_s]
theorem DgS.fr {μ μ' : Mu} (h : DgS μ) (hf : FrB μ μ') : DgS μ' := by
  obtain ⟨a1, a2, -, -⟩ := hf.2 200 (by omega) (by omega) (by omega)
  obtain ⟨b1, b2, -, -⟩ := hf.2 201 (by omega) (by omega) (by omega)
  exact ⟨a1.trans h.1, b1.trans h.2.1, fun k hk => (a2 k).trans (h.2.2.1 k hk), fun k hk => (b2 k).trans (h.2.2.2 k hk)⟩
theorem fNd_le : fNd x ≤ 4 := by
  unfold fNd
  split
  · omega
  · split
    · omega
    · split <;> omega
/-- a number appended -/
theorem s_13 (h : SbS μ v cap n) (hD : DgS μ) (hx : x < 10000) (hn : n + 4 ≤ 87) (hq : ∀ μ' v' cap', FrB μ μ' → SbS μ' v' cap' (n + fNd x) → (∀ j, j < n → mI μ' v' j = mI μ v j) → (∀ j, j < fNd x → mI μ' v' (n + j) = nI (fDg x j)) → Q (some (some (.ref 1060))) μ') : Ev (d + 4) 13 [.ref 1060, .int (nI x)] μ Q := by
  have hB := h
  have h4 := fNd_le (x := x)
  obtain ⟨b1, b2, b3, b4, b5, b6, b7, b8, b9, b10, b11⟩ := h
  rw [in_13]
  simp (disch := first | omega | rfl) only [e_13_0, e_13_1, e_13_4, e_13_5, e_13_6, e_13_7, e_13_10, e_13_11, e_13_12, e_13_13, e_13_14, e_13_17, e_13_18, e_13_21, e_13_24, e_13_25, e_13_26, e_13_27, e_13_30, e_13_33, e_13_34, e_13_37, e_13_38, e_13_39, e_13_40, e_13_41, e_13_48, e_13_49, e_13_50, e_13_53, e_13_54, ge1, ule_t, true_or, or_true, nI_add, nI_mul, nI_sub, nI_clamp, nI_lt_t, nI_lt_f, nI_le_t, nI_le_f, nI_eq_t, nI_eq_f, vp_nI, tI, fI, not_true, not_false_iff, true_and, and_true, Classical.not_not, mS_uI, mS_uA, mS_uJ, mS_uR, mS_uX, mR_uI, mR_uA, mR_uJ, mR_uX, mX_uI, mX_uA, mX_uJ, mX_uR, mI_s, mI_n, mI_A, mI_An, mI_uJ, mI_uR, mI_uX, mJ_uI, mJ_uA, mJ_uR, mJ_uX, onR_s, kC_v, kC_n, kC_t, ul0, ula1, ula2, ula3, ula4, ulb2, ulb3, ulb4, ulc2, ulc3, ulc4, ule4, ulf3, ulf4, uj1, uj2, b1, b11, s_16 hx]
  refine s_8 (k := fNd x) hB (by omega) (by omega) (fun μ1 v1 cap1 hf hB1 hc1 hj => ?_)
  have hB2 := hB1
  obtain ⟨a1, a2, a3, a4, a5, a6, a7, a8, a9, a10, a11⟩ := hB1
  have hv1 : v1 ≠ 1060 := by omega
  simp (disch := first | omega | rfl) only [e_13_0, e_13_1, e_13_4, e_13_5, e_13_6, e_13_7, e_13_10, e_13_11, e_13_12, e_13_13, e_13_14, e_13_17, e_13_18, e_13_21, e_13_24, e_13_25, e_13_26, e_13_27, e_13_30, e_13_33, e_13_34, e_13_37, e_13_38, e_13_39, e_13_40, e_13_41, e_13_48, e_13_49, e_13_50, e_13_53, e_13_54, ge1, ule_t, true_or, or_true, nI_add, nI_mul, nI_sub, nI_clamp, nI_lt_t, nI_lt_f, nI_le_t, nI_le_f, nI_eq_t, nI_eq_f, vp_nI, tI, fI, not_true, not_false_iff, true_and, and_true, Classical.not_not, mS_uI, mS_uA, mS_uJ, mS_uR, mS_uX, mR_uI, mR_uA, mR_uJ, mR_uX, mX_uI, mX_uA, mX_uJ, mX_uR, mI_s, mI_n, mI_A, mI_An, mI_uJ, mI_uR, mI_uX, mJ_uI, mJ_uA, mJ_uR, mJ_uX, onR_s, kC_v, kC_n, kC_t, ul0, ula1, ula2, ula3, ula4, ulb2, ulb3, ulb4, ulc2, ulc3, ulc4, ule4, ulf3, ulf4, uj1, uj2, kC_n, kC_v, a1, a2, s_14 hB2]
  refine s_15 (hD.fr hf) a6 (by omega) hx (by omega) hc1 a8 (fun F h1 h2 => ?_)
  simp (disch := first | omega | rfl) only [e_13_0, e_13_1, e_13_4, e_13_5, e_13_6, e_13_7, e_13_10, e_13_11, e_13_12, e_13_13, e_13_14, e_13_17, e_13_18, e_13_21, e_13_24, e_13_25, e_13_26, e_13_27, e_13_30, e_13_33, e_13_34, e_13_37, e_13_38, e_13_39, e_13_40, e_13_41, e_13_48, e_13_49, e_13_50, e_13_53, e_13_54, ge1, ule_t, true_or, or_true, nI_add, nI_mul, nI_sub, nI_clamp, nI_lt_t, nI_lt_f, nI_le_t, nI_le_f, nI_eq_t, nI_eq_f, vp_nI, tI, fI, not_true, not_false_iff, true_and, and_true, Classical.not_not, mS_uI, mS_uA, mS_uJ, mS_uR, mS_uX, mR_uI, mR_uA, mR_uJ, mR_uX, mX_uI, mX_uA, mX_uJ, mX_uR, mI_s, mI_n, mI_A, mI_An, mI_uJ, mI_uR, mI_uX, mJ_uI, mJ_uA, mJ_uR, mJ_uX, onR_s, kC_v, kC_n, kC_t, ul0, ula1, ula2, ula3, ula4, ulb2, ulb3, ulb4, ulc2, ulc3, ulc4, ule4, ulf3, ulf4, uj1, uj2, kC_n, kC_v, a1]
  refine hq _ v1 cap1 (hf.trans ⟨Nat.le_refl _, fun a g1 g2 g3 => ⟨rfl, fun k => ?_, fun k => rfl, fun k => rfl⟩⟩) ⟨a1, a2, a3, a4, a5, a6, a7, a8, hc1, ?_, ?_⟩ (fun j hj2 => ?_) (fun j hj2 => ?_)
  · simp (disch := first | omega | rfl) only [mI_n, mI_An]
  · simp (disch := first | omega | rfl) only [mI_n, mI_An]; exact a10
  · simp (disch := first | omega | rfl) only [mI_s]
  · rw [mI_n (by omega), mI_A, h1 j (by omega)]; exact hj j hj2
  · rw [mI_n (by omega), mI_A]
    have := h2 j hj2
    rw [show n + fNd x - fNd x + j = n + j by omega] at this
    exact this
theorem s_2 (h : SbS μ v cap n) (hD : DgS μ) (hx : x < 10000) (hn : n + 4 ≤ 87) (hq : ∀ μ' v' cap', FrB μ μ' → SbS μ' v' cap' (n + fNd x) → (∀ j, j < n → mI μ' v' j = mI μ v j) → (∀ j, j < fNd x → mI μ' v' (n + j) = nI (fDg x j)) → Q (some (some (.ref 1060))) μ') : Ev (d + 5) 2 [.ref 1060, .int (nI x)] μ Q := by
  rw [in_2]
  simp (disch := first | omega | rfl) only [e_2_0, e_2_1, e_2_2, e_2_5, e_2_6, e_2_7, ge1, ule_t, true_or, or_true, nI_add, nI_mul, nI_sub, nI_clamp, nI_lt_t, nI_lt_f, nI_le_t, nI_le_f, nI_eq_t, nI_eq_f, vp_nI, tI, fI, not_true, not_false_iff, true_and, and_true, Classical.not_not, mS_uI, mS_uA, mS_uJ, mS_uR, mS_uX, mR_uI, mR_uA, mR_uJ, mR_uX, mX_uI, mX_uA, mX_uJ, mX_uR, mI_s, mI_n, mI_A, mI_An, mI_uJ, mI_uR, mI_uX, mJ_uI, mJ_uA, mJ_uR, mJ_uX, onR_s, kC_v, kC_n, kC_t, ul0, ula1, ula2, ula3, ula4, ulb2, ulb3, ulb4, ulc2, ulc3, ulc4, ule4, ulf3, ulf4, uj1, uj2, h.1]
  refine s_13 h hD hx hn (fun μ1 v1 cap1 hf hB1 hj hl => ?_)
  simp (disch := first | omega | rfl) only [e_2_0, e_2_1, e_2_2, e_2_5, e_2_6, e_2_7, ge1, ule_t, true_or, or_true, nI_add, nI_mul, nI_sub, nI_clamp, nI_lt_t, nI_lt_f, nI_le_t, nI_le_f, nI_eq_t, nI_eq_f, vp_nI, tI, fI, not_true, not_false_iff, true_and, and_true, Classical.not_not, mS_uI, mS_uA, mS_uJ, mS_uR, mS_uX, mR_uI, mR_uA, mR_uJ, mR_uX, mX_uI, mX_uA, mX_uJ, mX_uR, mI_s, mI_n, mI_A, mI_An, mI_uJ, mI_uR, mI_uX, mJ_uI, mJ_uA, mJ_uR, mJ_uX, onR_s, kC_v, kC_n, kC_t, ul0, ula1, ula2, ula3, ula4, ulb2, ulb3, ulb4, ulc2, ulc3, ulc4, ule4, ulf3, ulf4, uj1, uj2, kC_v]
  exact hq μ1 v1 cap1 hf hB1 hj hl
end NumC
section NumM
variable {d : Nat} {Q : Po} {μ : Mu} {n k i j t x ch : Nat} {y z : Int32} {l0 l1 l2 : Option Value}
def FO (a : Nat) : Prop := a = 1298 ∨ a = 1308
theorem s_278 (hM : ShM μ) (hn : mI μ 1298 26 = nI n) (h : n < 90) : Ev (d + 1) 278 [.ref 1298, .int y] μ Q = Q (some none) (uI (uI μ 1308 n y) 1298 26 (nI (n + 1))) := by
  obtain ⟨p1, p2, p3, p4, p5, p6, p7, p8, p9, p10, p11, p12, p13, p14, p15, p16, p17, p18, p19, p20, p21⟩ := hM
  rw [in_278]
  simp (disch := first | omega | rfl) only [e_278_0, e_278_1, e_278_4, e_278_5, e_278_8, e_278_9, e_278_10, e_278_11, e_278_12, e_278_15, e_278_16, e_278_17, e_278_20, p1, p2, p3, p4, p5, p6, p7, p8, p9, p10, p11, p12, p13, p14, p15, p16, p17, p18, p19, p20, p21, ge1, ule_t, true_or, or_true, nI_add, nI_mul, nI_sub, nI_clamp, nI_lt_t, nI_lt_f, nI_le_t, nI_le_f, nI_eq_t, nI_eq_f, vp_nI, tI, fI, not_true, not_false_iff, true_and, and_true, Classical.not_not, mS_uI, mS_uA, mS_uJ, mS_uR, mS_uX, mR_uI, mR_uA, mR_uJ, mR_uX, mX_uI, mX_uA, mX_uJ, mX_uR, mI_s, mI_n, mI_A, mI_An, mI_uJ, mI_uR, mI_uX, mJ_uI, mJ_uA, mJ_uR, mJ_uX, onR_s, kC_v, kC_n, kC_t, hn]
/-- what a model's writing of k bytes leaves -/
def OuM (μ : Mu) (n k : Nat) (g : Nat → Nat) (μ' : Mu) : Prop := Fr FO μ μ' ∧ (∀ k, k ≠ 26 → mI μ' 1298 k = mI μ 1298 k) ∧ mI μ' 1298 26 = nI (n + k) ∧ (∀ j, j < n → mI μ' 1308 j = mI μ 1308 j) ∧ ∀ j, j < k → mI μ' 1308 (n + j) = nI (g j)
theorem OuM.zero {g : Nat → Nat} (hn : mI μ 1298 26 = nI n) : OuM μ n 0 g μ := ⟨Fr.refl, fun _ _ => rfl, hn, fun _ _ => rfl, fun j hj => absurd hj (Nat.not_lt_zero j)⟩
theorem OuM.s {g : Nat → Nat} {μ' : Mu} (h : OuM μ n k g μ') : OuM μ n (k + 1) g (uI (uI μ' 1308 (n + k) (nI (g k))) 1298 26 (nI (n + k + 1))) := by
  obtain ⟨h1, h2, h3, h4, h5⟩ := h
  refine ⟨(h1.iu (Or.inr rfl)).iu (Or.inl rfl), fun i hi => ?_, mI_s, fun j hj => ?_, fun j hj => ?_⟩
  · rw [mI_n (by omega), mI_n (by omega)]; exact h2 i hi
  · rw [mI_n (by omega), mI_n (by omega)]; exact h4 j hj
  · rw [mI_n (by omega)]
    by_cases e : j = k
    · subst e; exact mI_s
    · rw [mI_n (by omega)]; exact h5 j (by omega)
theorem nI_remG {a b : Nat} (ha : a < 2147483648) (hb : 0 < b) (hb2 : b < 2147483648) : nI a - nI (a / b) * nI b = nI (a % b) := by
  have h1 : a / b * b ≤ a := Nat.div_mul_le_self a b
  rw [nI_mul, nI_sub h1]
  congr 1
  have := Nat.div_add_mod a b
  rw [Nat.mul_comm] at this
  omega
theorem l_279 (hM : ShM μ) (h : n + 4 ≤ 90) (hx : x < 10000) (hq : ∀ μ', OuM μ n (fNd x) (fDg x) μ' → Q (some none) μ') : ∀ r k μ', r ≤ 4 → r + k = fNd x → OuM μ n k (fDg x) μ' → EM 279 (d + 1) 18 [some (.ref 1298), some (.int (nI x)), some (.int (nI (if r = 0 then 0 else 10 ^ (r - 1))))] [] μ' (0, 0) Q := by
  intro r
  induction r with
  | zero =>
    intro k μ' h4 hk hO
    obtain rfl : k = fNd x := by omega
    rw [if_pos rfl, e_279_18]
    simp (disch := first | omega | rfl) only [e_279_0, e_279_1, e_279_3, e_279_4, e_279_5, e_279_7, e_279_10, e_279_11, e_279_13, e_279_14, e_279_15, e_279_19, e_279_22, e_279_23, e_279_25, e_279_26, e_279_27, e_279_28, e_279_30, e_279_31, e_279_32, e_279_35, e_279_36, e_279_38, e_279_39, e_279_40, e_279_43, ge1, ule_t, true_or, or_true, nI_add, nI_mul, nI_sub, nI_clamp, nI_lt_t, nI_lt_f, nI_le_t, nI_le_f, nI_eq_t, nI_eq_f, vp_nI, tI, fI, not_true, not_false_iff, true_and, and_true, Classical.not_not]
    exact hq μ' hO
  | succ r ih =>
    intro k μ' h4 hk hO
    have hS : ShM μ' := hO.1.sm hM
    have hk4 : k < 4 := by have := fNd_le (x := x); omega
    have h278 := fun (d : Nat) (Q : Po) (y : Int32) => s_278 (d := d) (Q := Q) (y := y) hS hO.2.2.1 (by omega)
    have e : 48 + x / 10 ^ r % 10 = fDg x k := by unfold fDg; rw [show fNd x - 1 - k = r by omega]
    have hi := ih (k + 1) _ (by omega) (by omega) hO.s
    rw [if_neg (by omega), Nat.add_sub_cancel, e_279_18]
    rcases (by omega : r = 0 ∨ r = 1 ∨ r = 2 ∨ r = 3) with rfl | rfl | rfl | rfl
    · have e' : 48 + x / 1 % 10 = fDg x k := e
      have e9 : 48 + (x / 1 - x / 1 / 10 * 10) = fDg x k := by omega
      have hi' : EM 279 (d + 1) 18 [some (.ref 1298), some (.int (nI x)), some (.int (nI 0))] [] _ (0, 0) Q := hi
      show EM 279 (d + 1) 19 [some (.ref 1298), some (.int (nI x)), some (.int (nI 1))] [.int (nI 1)] μ' (0, 0) Q
      simp (disch := first | omega | rfl) only [e_279_0, e_279_1, e_279_3, e_279_4, e_279_5, e_279_7, e_279_10, e_279_11, e_279_13, e_279_14, e_279_15, e_279_19, e_279_22, e_279_23, e_279_25, e_279_26, e_279_27, e_279_28, e_279_30, e_279_31, e_279_32, e_279_35, e_279_36, e_279_38, e_279_39, e_279_40, e_279_43, ge1, ule_t, true_or, or_true, nI_add, nI_mul, nI_sub, nI_clamp, nI_lt_t, nI_lt_f, nI_le_t, nI_le_f, nI_eq_t, nI_eq_f, vp_nI, tI, fI, not_true, not_false_iff, true_and, and_true, Classical.not_not, mS_uI, mS_uA, mS_uJ, mS_uR, mS_uX, mR_uI, mR_uA, mR_uJ, mR_uX, mX_uI, mX_uA, mX_uJ, mX_uR, mI_s, mI_n, mI_A, mI_An, mI_uJ, mI_uR, mI_uX, mJ_uI, mJ_uA, mJ_uR, mJ_uX, onR_s, kC_v, kC_n, kC_t, hS.1, nI_div, e9, h278, kC_n, Nat.reduceDiv]
      exact hi'
    · have e' : 48 + x / 10 % 10 = fDg x k := e
      have e9 : 48 + (x / 10 - x / 10 / 10 * 10) = fDg x k := by omega
      have hi' : EM 279 (d + 1) 18 [some (.ref 1298), some (.int (nI x)), some (.int (nI 1))] [] _ (0, 0) Q := hi
      show EM 279 (d + 1) 19 [some (.ref 1298), some (.int (nI x)), some (.int (nI 10))] [.int (nI 10)] μ' (0, 0) Q
      simp (disch := first | omega | rfl) only [e_279_0, e_279_1, e_279_3, e_279_4, e_279_5, e_279_7, e_279_10, e_279_11, e_279_13, e_279_14, e_279_15, e_279_19, e_279_22, e_279_23, e_279_25, e_279_26, e_279_27, e_279_28, e_279_30, e_279_31, e_279_32, e_279_35, e_279_36, e_279_38, e_279_39, e_279_40, e_279_43, ge1, ule_t, true_or, or_true, nI_add, nI_mul, nI_sub, nI_clamp, nI_lt_t, nI_lt_f, nI_le_t, nI_le_f, nI_eq_t, nI_eq_f, vp_nI, tI, fI, not_true, not_false_iff, true_and, and_true, Classical.not_not, mS_uI, mS_uA, mS_uJ, mS_uR, mS_uX, mR_uI, mR_uA, mR_uJ, mR_uX, mX_uI, mX_uA, mX_uJ, mX_uR, mI_s, mI_n, mI_A, mI_An, mI_uJ, mI_uR, mI_uX, mJ_uI, mJ_uA, mJ_uR, mJ_uX, onR_s, kC_v, kC_n, kC_t, hS.1, nI_div, e9, h278, kC_n, Nat.reduceDiv]
      exact hi'
    · have e' : 48 + x / 100 % 10 = fDg x k := e
      have e9 : 48 + (x / 100 - x / 100 / 10 * 10) = fDg x k := by omega
      have hi' : EM 279 (d + 1) 18 [some (.ref 1298), some (.int (nI x)), some (.int (nI 10))] [] _ (0, 0) Q := hi
      show EM 279 (d + 1) 19 [some (.ref 1298), some (.int (nI x)), some (.int (nI 100))] [.int (nI 100)] μ' (0, 0) Q
      simp (disch := first | omega | rfl) only [e_279_0, e_279_1, e_279_3, e_279_4, e_279_5, e_279_7, e_279_10, e_279_11, e_279_13, e_279_14, e_279_15, e_279_19, e_279_22, e_279_23, e_279_25, e_279_26, e_279_27, e_279_28, e_279_30, e_279_31, e_279_32, e_279_35, e_279_36, e_279_38, e_279_39, e_279_40, e_279_43, ge1, ule_t, true_or, or_true, nI_add, nI_mul, nI_sub, nI_clamp, nI_lt_t, nI_lt_f, nI_le_t, nI_le_f, nI_eq_t, nI_eq_f, vp_nI, tI, fI, not_true, not_false_iff, true_and, and_true, Classical.not_not, mS_uI, mS_uA, mS_uJ, mS_uR, mS_uX, mR_uI, mR_uA, mR_uJ, mR_uX, mX_uI, mX_uA, mX_uJ, mX_uR, mI_s, mI_n, mI_A, mI_An, mI_uJ, mI_uR, mI_uX, mJ_uI, mJ_uA, mJ_uR, mJ_uX, onR_s, kC_v, kC_n, kC_t, hS.1, nI_div, e9, h278, kC_n, Nat.reduceDiv]
      exact hi'
    · have e' : 48 + x / 1000 % 10 = fDg x k := e
      have e9 : 48 + (x / 1000 - x / 1000 / 10 * 10) = fDg x k := by omega
      have hi' : EM 279 (d + 1) 18 [some (.ref 1298), some (.int (nI x)), some (.int (nI 100))] [] _ (0, 0) Q := hi
      show EM 279 (d + 1) 19 [some (.ref 1298), some (.int (nI x)), some (.int (nI 1000))] [.int (nI 1000)] μ' (0, 0) Q
      simp (disch := first | omega | rfl) only [e_279_0, e_279_1, e_279_3, e_279_4, e_279_5, e_279_7, e_279_10, e_279_11, e_279_13, e_279_14, e_279_15, e_279_19, e_279_22, e_279_23, e_279_25, e_279_26, e_279_27, e_279_28, e_279_30, e_279_31, e_279_32, e_279_35, e_279_36, e_279_38, e_279_39, e_279_40, e_279_43, ge1, ule_t, true_or, or_true, nI_add, nI_mul, nI_sub, nI_clamp, nI_lt_t, nI_lt_f, nI_le_t, nI_le_f, nI_eq_t, nI_eq_f, vp_nI, tI, fI, not_true, not_false_iff, true_and, and_true, Classical.not_not, mS_uI, mS_uA, mS_uJ, mS_uR, mS_uX, mR_uI, mR_uA, mR_uJ, mR_uX, mX_uI, mX_uA, mX_uJ, mX_uR, mI_s, mI_n, mI_A, mI_An, mI_uJ, mI_uR, mI_uX, mJ_uI, mJ_uA, mJ_uR, mJ_uX, onR_s, kC_v, kC_n, kC_t, hS.1, nI_div, e9, h278, kC_n, Nat.reduceDiv]
      exact hi'
theorem s_279 (hM : ShM μ) (hn : mI μ 1298 26 = nI n) (h : n + 4 ≤ 90) (hx : x < 10000) (hq : ∀ μ', OuM μ n (fNd x) (fDg x) μ' → Q (some none) μ') : Ev (d + 2) 279 [.ref 1298, .int (nI x)] μ Q := by
  have hl := l_279 (d := d) hM h hx hq (fNd x) 0 μ fNd_le rfl (OuM.zero hn)
  rw [in_279]
  simp (disch := first | omega | rfl) only [e_279_0, e_279_1, e_279_3, e_279_4, e_279_5, e_279_7, e_279_10, e_279_11, e_279_13, e_279_14, e_279_15, e_279_19, e_279_22, e_279_23, e_279_25, e_279_26, e_279_27, e_279_28, e_279_30, e_279_31, e_279_32, e_279_35, e_279_36, e_279_38, e_279_39, e_279_40, e_279_43]
  rcases (by omega : x < 10 ∨ (10 ≤ x ∧ x < 100) ∨ (100 ≤ x ∧ x < 1000) ∨ 1000 ≤ x) with h | h | h | h
  · rw [show fNd x = 1 from if_pos h] at hl
    rw [e_279_2]
    simp (disch := first | omega | rfl) only [e_279_0, e_279_1, e_279_3, e_279_4, e_279_5, e_279_7, e_279_10, e_279_11, e_279_13, e_279_14, e_279_15, e_279_19, e_279_22, e_279_23, e_279_25, e_279_26, e_279_27, e_279_28, e_279_30, e_279_31, e_279_32, e_279_35, e_279_36, e_279_38, e_279_39, e_279_40, e_279_43, ge1, ule_t, true_or, or_true, nI_add, nI_mul, nI_sub, nI_clamp, nI_lt_t, nI_lt_f, nI_le_t, nI_le_f, nI_eq_t, nI_eq_f, vp_nI, tI, fI, not_true, not_false_iff, true_and, and_true, Classical.not_not, nI_div]
    exact hl
  · rw [show fNd x = 2 from (if_neg (by omega)).trans (if_pos h.2)] at hl
    rw [e_279_2]
    simp (disch := first | omega | rfl) only [e_279_0, e_279_1, e_279_3, e_279_4, e_279_5, e_279_7, e_279_10, e_279_11, e_279_13, e_279_14, e_279_15, e_279_19, e_279_22, e_279_23, e_279_25, e_279_26, e_279_27, e_279_28, e_279_30, e_279_31, e_279_32, e_279_35, e_279_36, e_279_38, e_279_39, e_279_40, e_279_43, ge1, ule_t, true_or, or_true, nI_add, nI_mul, nI_sub, nI_clamp, nI_lt_t, nI_lt_f, nI_le_t, nI_le_f, nI_eq_t, nI_eq_f, vp_nI, tI, fI, not_true, not_false_iff, true_and, and_true, Classical.not_not, nI_div]
    rw [e_279_2]
    simp (disch := first | omega | rfl) only [e_279_0, e_279_1, e_279_3, e_279_4, e_279_5, e_279_7, e_279_10, e_279_11, e_279_13, e_279_14, e_279_15, e_279_19, e_279_22, e_279_23, e_279_25, e_279_26, e_279_27, e_279_28, e_279_30, e_279_31, e_279_32, e_279_35, e_279_36, e_279_38, e_279_39, e_279_40, e_279_43, ge1, ule_t, true_or, or_true, nI_add, nI_mul, nI_sub, nI_clamp, nI_lt_t, nI_lt_f, nI_le_t, nI_le_f, nI_eq_t, nI_eq_f, vp_nI, tI, fI, not_true, not_false_iff, true_and, and_true, Classical.not_not, nI_div]
    exact hl
  · rw [show fNd x = 3 from (if_neg (by omega)).trans ((if_neg (by omega)).trans (if_pos h.2))] at hl
    rw [e_279_2]
    simp (disch := first | omega | rfl) only [e_279_0, e_279_1, e_279_3, e_279_4, e_279_5, e_279_7, e_279_10, e_279_11, e_279_13, e_279_14, e_279_15, e_279_19, e_279_22, e_279_23, e_279_25, e_279_26, e_279_27, e_279_28, e_279_30, e_279_31, e_279_32, e_279_35, e_279_36, e_279_38, e_279_39, e_279_40, e_279_43, ge1, ule_t, true_or, or_true, nI_add, nI_mul, nI_sub, nI_clamp, nI_lt_t, nI_lt_f, nI_le_t, nI_le_f, nI_eq_t, nI_eq_f, vp_nI, tI, fI, not_true, not_false_iff, true_and, and_true, Classical.not_not, nI_div]
    rw [e_279_2]
    simp (disch := first | omega | rfl) only [e_279_0, e_279_1, e_279_3, e_279_4, e_279_5, e_279_7, e_279_10, e_279_11, e_279_13, e_279_14, e_279_15, e_279_19, e_279_22, e_279_23, e_279_25, e_279_26, e_279_27, e_279_28, e_279_30, e_279_31, e_279_32, e_279_35, e_279_36, e_279_38, e_279_39, e_279_40, e_279_43, ge1, ule_t, true_or, or_true, nI_add, nI_mul, nI_sub, nI_clamp, nI_lt_t, nI_lt_f, nI_le_t, nI_le_f, nI_eq_t, nI_eq_f, vp_nI, tI, fI, not_true, not_false_iff, true_and, and_true, Classical.not_not, nI_div]
    rw [e_279_2]
    simp (disch := first | omega | rfl) only [e_279_0, e_279_1, e_279_3, e_279_4, e_279_5, e_279_7, e_279_10, e_279_11, e_279_13, e_279_14, e_279_15, e_279_19, e_279_22, e_279_23, e_279_25, e_279_26, e_279_27, e_279_28, e_279_30, e_279_31, e_279_32, e_279_35, e_279_36, e_279_38, e_279_39, e_279_40, e_279_43, ge1, ule_t, true_or, or_true, nI_add, nI_mul, nI_sub, nI_clamp, nI_lt_t, nI_lt_f, nI_le_t, nI_le_f, nI_eq_t, nI_eq_f, vp_nI, tI, fI, not_true, not_false_iff, true_and, and_true, Classical.not_not, nI_div]
    exact hl
  · rw [show fNd x = 4 from (if_neg (by omega)).trans ((if_neg (by omega)).trans (if_neg (by omega)))] at hl
    rw [e_279_2]
    simp (disch := first | omega | rfl) only [e_279_0, e_279_1, e_279_3, e_279_4, e_279_5, e_279_7, e_279_10, e_279_11, e_279_13, e_279_14, e_279_15, e_279_19, e_279_22, e_279_23, e_279_25, e_279_26, e_279_27, e_279_28, e_279_30, e_279_31, e_279_32, e_279_35, e_279_36, e_279_38, e_279_39, e_279_40, e_279_43, ge1, ule_t, true_or, or_true, nI_add, nI_mul, nI_sub, nI_clamp, nI_lt_t, nI_lt_f, nI_le_t, nI_le_f, nI_eq_t, nI_eq_f, vp_nI, tI, fI, not_true, not_false_iff, true_and, and_true, Classical.not_not, nI_div]
    rw [e_279_2]
    simp (disch := first | omega | rfl) only [e_279_0, e_279_1, e_279_3, e_279_4, e_279_5, e_279_7, e_279_10, e_279_11, e_279_13, e_279_14, e_279_15, e_279_19, e_279_22, e_279_23, e_279_25, e_279_26, e_279_27, e_279_28, e_279_30, e_279_31, e_279_32, e_279_35, e_279_36, e_279_38, e_279_39, e_279_40, e_279_43, ge1, ule_t, true_or, or_true, nI_add, nI_mul, nI_sub, nI_clamp, nI_lt_t, nI_lt_f, nI_le_t, nI_le_f, nI_eq_t, nI_eq_f, vp_nI, tI, fI, not_true, not_false_iff, true_and, and_true, Classical.not_not, nI_div]
    rw [e_279_2]
    simp (disch := first | omega | rfl) only [e_279_0, e_279_1, e_279_3, e_279_4, e_279_5, e_279_7, e_279_10, e_279_11, e_279_13, e_279_14, e_279_15, e_279_19, e_279_22, e_279_23, e_279_25, e_279_26, e_279_27, e_279_28, e_279_30, e_279_31, e_279_32, e_279_35, e_279_36, e_279_38, e_279_39, e_279_40, e_279_43, ge1, ule_t, true_or, or_true, nI_add, nI_mul, nI_sub, nI_clamp, nI_lt_t, nI_lt_f, nI_le_t, nI_le_f, nI_eq_t, nI_eq_f, vp_nI, tI, fI, not_true, not_false_iff, true_and, and_true, Classical.not_not, nI_div]
    rw [e_279_2]
    simp (disch := first | omega | rfl) only [e_279_0, e_279_1, e_279_3, e_279_4, e_279_5, e_279_7, e_279_10, e_279_11, e_279_13, e_279_14, e_279_15, e_279_19, e_279_22, e_279_23, e_279_25, e_279_26, e_279_27, e_279_28, e_279_30, e_279_31, e_279_32, e_279_35, e_279_36, e_279_38, e_279_39, e_279_40, e_279_43, ge1, ule_t, true_or, or_true, nI_add, nI_mul, nI_sub, nI_clamp, nI_lt_t, nI_lt_f, nI_le_t, nI_le_f, nI_eq_t, nI_eq_f, vp_nI, tI, fI, not_true, not_false_iff, true_and, and_true, Classical.not_not, nI_div]
    exact hl
end NumM

/-! one member written: what is written, and the model's side -/
abbrev WP : Type := Nat × (Nat → Nat)
def apC (s : WP) (c : Nat) : WP := (s.1 + 1, fun j => if j = s.1 then c else s.2 j)
def apN (s : WP) (x : Nat) : WP := (s.1 + fNd x, fun j => if s.1 ≤ j then fDg x (j - s.1) else s.2 j)
def lt5 (w t : Nat) : Nat := w / 2 ^ (5 * (5 - t)) % 32
def nlW (w : Nat) (s : WP) : Nat → WP
  | 0 => s
  | t + 1 => if lt5 w t = 0 then nlW w s t else apC (nlW w s t) (96 + lt5 w t)
def clW (V : VW) (m : Nat) (s : WP) : Nat → WP
  | 0 => s
  | i + 1 => apN (apC (clW V m s i) 32) (V m (7 + i)).toNatClampNeg
def nm0 (w : Nat) : WP := if w = 0 then apC (0, fun _ => 0) 42 else nlW w (0, fun _ => 0) 6
def wrW (V : VW) (m w : Nat) : WP := clW V m (apC (nm0 w) 58) 16
theorem nlW_le {w : Nat} {s : WP} : ∀ t, (nlW w s t).1 ≤ s.1 + t
  | 0 => Nat.le_refl _
  | t + 1 => by
    have := nlW_le (w := w) (s := s) t
    rw [nlW]
    split
    · omega
    · show (nlW w s t).1 + 1 ≤ _
      omega
theorem clW_le {V : VW} {m : Nat} {s : WP} : ∀ i, (clW V m s i).1 ≤ s.1 + 5 * i
  | 0 => Nat.le_refl _
  | i + 1 => by
    have := clW_le (V := V) (m := m) (s := s) i
    have h4 := fNd_le (x := (V m (7 + i)).toNatClampNeg)
    show (clW V m s i).1 + 1 + fNd _ ≤ _
    omega
theorem nm0_le {w : Nat} : (nm0 w).1 ≤ 6 := by
  unfold nm0
  split
  · show 0 + 1 ≤ 6; omega
  · have := nlW_le (w := w) (s := (0, fun _ => 0)) 6
    simpa using this
theorem nlW_0 {s : WP} : ∀ t, nlW 0 s t = s
  | 0 => rfl
  | t + 1 => by
    rw [nlW, if_pos (by unfold lt5; rw [Nat.zero_div]), nlW_0 t]
theorem nI_and31 (a : Nat) : nI a &&& nI 31 = nI (a % 32) := by
  rw [nI_and]
  congr 1
  exact Nat.and_two_pow_sub_one_eq_mod a 5
section WrM
variable {d : Nat} {Q : Po} {μ : Mu} {m n k i j t x w N : Nat} {y z : Int32} {s : WP} {l0 l1 l2 l3 : Option Value}
def OuP (μ : Mu) (s : WP) (μ' : Mu) : Prop := Fr FO μ μ' ∧ (∀ k, k ≠ 26 → mI μ' 1298 k = mI μ 1298 k) ∧ mI μ' 1298 26 = nI s.1 ∧ ∀ j, j < s.1 → mI μ' 1308 j = nI (s.2 j)
theorem OuP.c {μ' : Mu} {c : Nat} (h : OuP μ s μ') : OuP μ (apC s c) (uI (uI μ' 1308 s.1 (nI c)) 1298 26 (nI (s.1 + 1))) := by
  obtain ⟨h1, h2, h3, h4⟩ := h
  refine ⟨(h1.iu (Or.inr rfl)).iu (Or.inl rfl), fun i hi => ?_, mI_s, fun j hj => ?_⟩
  · rw [mI_n (by omega), mI_n (by omega)]; exact h2 i hi
  · rw [mI_n (by omega)]
    have hj' : j < s.1 + 1 := hj
    by_cases e : j = s.1
    · subst e; rw [mI_s]; show _ = nI (if _ then _ else _); rw [if_pos rfl]
    · rw [mI_n (by omega), h4 j (by omega)]; show _ = nI (if _ then _ else _); rw [if_neg e]
theorem OuP.num {μ' μ2 : Mu} (h : OuP μ s μ') (h' : OuM μ' s.1 (fNd x) (fDg x) μ2) : OuP μ (apN s x) μ2 := by
  obtain ⟨h1, h2, h3, h4⟩ := h
  obtain ⟨g1, g2, g3, g4, g5⟩ := h'
  refine ⟨h1.trans g1, fun i hi => (g2 i hi).trans (h2 i hi), g3, fun j hj => ?_⟩
  have hj' : j < s.1 + fNd x := hj
  by_cases e : s.1 ≤ j
  · have := g5 (j - s.1) (by omega)
    rw [show s.1 + (j - s.1) = j by omega] at this
    rw [this]; show _ = nI (if _ then _ else _); rw [if_pos e]
  · rw [g4 j (by omega), h4 j (by omega)]; show _ = nI (if _ then _ else _); rw [if_neg e]
theorem OuP.q {μ' : Mu} (h : OuP μ s μ') (hM : ShM μ) : ShM μ' := h.1.sm hM
theorem l_280a (hM : ShM μ) (hm : m < 6) (hw : mI μ 1300 (16 + m) = nI w) (hw9 : w < 1073741824) (hs : s.1 + 6 ≤ 89) (hq : ∀ μ' l, OuP μ (nlW w s 6) μ' → EM 280 (d + 2) 78 [some (.ref 1298), some (.int (nI m)), some (.int (-1)), l] [] μ' (0, 0) Q) : ∀ f t μ' l, t + f = 6 → OuP μ (nlW w s t) μ' → EM 280 (d + 2) 39 [some (.ref 1298), some (.int (nI m)), some (.int (if t < 6 then nI (5 - t) else -1)), l] [] μ' (0, 0) Q := by
  intro f
  induction f with
  | zero =>
    intro t μ' l ht hO
    obtain rfl : t = 6 := by omega
    rw [if_neg (by omega), e_280_39]
    simp (disch := first | omega | rfl) only [e_280_0, e_280_1, e_280_2, e_280_3, e_280_6, e_280_9, e_280_12, e_280_13, e_280_14, e_280_15, e_280_16, e_280_19, e_280_20, e_280_23, e_280_25, e_280_26, e_280_27, e_280_28, e_280_31, e_280_32, e_280_34, e_280_37, e_280_38, e_280_40, e_280_43, e_280_44, e_280_47, e_280_49, e_280_50, e_280_51, e_280_52, e_280_53, e_280_54, e_280_55, e_280_56, e_280_58, e_280_59, e_280_60, e_280_61, e_280_64, e_280_65, e_280_67, e_280_68, e_280_69, e_280_72, e_280_75, e_280_79, e_280_81, e_280_84, e_280_85, e_280_87, e_280_89, e_280_92, e_280_93, e_280_95, e_280_98, e_280_99, e_280_100, e_280_101, e_280_103, e_280_104, e_280_105, e_280_108, e_280_111, e_280_114, e_280_117, e_280_118, e_280_121, ge1, ule_t, true_or, or_true, nI_add, nI_mul, nI_sub, nI_clamp, nI_lt_t, nI_lt_f, nI_le_t, nI_le_f, nI_eq_t, nI_eq_f, vp_nI, tI, fI, not_true, not_false_iff, true_and, and_true, Classical.not_not, show ((-1 : Int32) < nI 0) = True from eq_true (by decide)]
    exact hq μ' l hO
  | succ f ih =>
    intro t μ' l ht hO
    have hS := hO.q hM
    have hS0 := hS
    obtain ⟨p1, p2, p3, p4, p5, p6, p7, p8, p9, p10, p11, p12, p13, p14, p15, p16, p17, p18, p19, p20, p21⟩ := hS
    have hnm : mI μ' 1300 (16 + m) = nI w := (hO.1.2.2.2 1300 (by unfold FO; omega) _).trans hw
    have hdec : nI (5 - t) + -1 = (if t + 1 < 6 then nI (5 - (t + 1)) else -1) := by
      by_cases h5 : t + 1 < 6
      · rw [if_pos h5, nI_dec (by omega)]; congr 1
      · rw [if_neg h5, show 5 - t = 0 by omega]; decide
    have hle := nlW_le (w := w) (s := s) t
    have h278 := fun (d : Nat) (Q : Po) (y : Int32) => s_278 (d := d) (Q := Q) (y := y) hS0 hO.2.2.1 (by omega)
    have hi := ih (t + 1)
    rw [nlW] at hi
    rw [if_pos (by omega), e_280_39]
    have el : w / 2 ^ (5 * (5 - t)) % 32 = lt5 w t := rfl
    by_cases hl : lt5 w t = 0
    · rw [if_pos hl] at hi
      simp (disch := first | omega | rfl) only [e_280_0, e_280_1, e_280_2, e_280_3, e_280_6, e_280_9, e_280_12, e_280_13, e_280_14, e_280_15, e_280_16, e_280_19, e_280_20, e_280_23, e_280_25, e_280_26, e_280_27, e_280_28, e_280_31, e_280_32, e_280_34, e_280_37, e_280_38, e_280_40, e_280_43, e_280_44, e_280_47, e_280_49, e_280_50, e_280_51, e_280_52, e_280_53, e_280_54, e_280_55, e_280_56, e_280_58, e_280_59, e_280_60, e_280_61, e_280_64, e_280_65, e_280_67, e_280_68, e_280_69, e_280_72, e_280_75, e_280_79, e_280_81, e_280_84, e_280_85, e_280_87, e_280_89, e_280_92, e_280_93, e_280_95, e_280_98, e_280_99, e_280_100, e_280_101, e_280_103, e_280_104, e_280_105, e_280_108, e_280_111, e_280_114, e_280_117, e_280_118, e_280_121, ge1, ule_t, true_or, or_true, nI_add, nI_mul, nI_sub, nI_clamp, nI_lt_t, nI_lt_f, nI_le_t, nI_le_f, nI_eq_t, nI_eq_f, vp_nI, tI, fI, not_true, not_false_iff, true_and, and_true, Classical.not_not, mS_uI, mS_uA, mS_uJ, mS_uR, mS_uX, mR_uI, mR_uA, mR_uJ, mR_uX, mX_uI, mX_uA, mX_uJ, mX_uR, mI_s, mI_n, mI_A, mI_An, mI_uJ, mI_uR, mI_uX, mJ_uI, mJ_uA, mJ_uR, mJ_uX, onR_s, kC_v, kC_n, kC_t, p1, p2, p3, p4, p5, p6, p7, p8, p9, p10, p11, p12, p13, p14, p15, p16, p17, p18, p19, p20, p21, hnm, nI_shr, nI_and31, el, hl, hdec]
      exact hi μ' _ (by omega) hO
    · rw [if_neg hl] at hi
      have hlt : lt5 w t < 32 := Nat.mod_lt _ (by omega)
      simp (disch := first | omega | rfl) only [e_280_0, e_280_1, e_280_2, e_280_3, e_280_6, e_280_9, e_280_12, e_280_13, e_280_14, e_280_15, e_280_16, e_280_19, e_280_20, e_280_23, e_280_25, e_280_26, e_280_27, e_280_28, e_280_31, e_280_32, e_280_34, e_280_37, e_280_38, e_280_40, e_280_43, e_280_44, e_280_47, e_280_49, e_280_50, e_280_51, e_280_52, e_280_53, e_280_54, e_280_55, e_280_56, e_280_58, e_280_59, e_280_60, e_280_61, e_280_64, e_280_65, e_280_67, e_280_68, e_280_69, e_280_72, e_280_75, e_280_79, e_280_81, e_280_84, e_280_85, e_280_87, e_280_89, e_280_92, e_280_93, e_280_95, e_280_98, e_280_99, e_280_100, e_280_101, e_280_103, e_280_104, e_280_105, e_280_108, e_280_111, e_280_114, e_280_117, e_280_118, e_280_121, ge1, ule_t, true_or, or_true, nI_add, nI_mul, nI_sub, nI_clamp, nI_lt_t, nI_lt_f, nI_le_t, nI_le_f, nI_eq_t, nI_eq_f, vp_nI, tI, fI, not_true, not_false_iff, true_and, and_true, Classical.not_not, mS_uI, mS_uA, mS_uJ, mS_uR, mS_uX, mR_uI, mR_uA, mR_uJ, mR_uX, mX_uI, mX_uA, mX_uJ, mX_uR, mI_s, mI_n, mI_A, mI_An, mI_uJ, mI_uR, mI_uX, mJ_uI, mJ_uA, mJ_uR, mJ_uX, onR_s, kC_v, kC_n, kC_t, p1, p2, p3, p4, p5, p6, p7, p8, p9, p10, p11, p12, p13, p14, p15, p16, p17, p18, p19, p20, p21, hnm, nI_shr, nI_and31, el, hdec, h278, kC_n]
      exact hi _ _ (by omega) hO.c
theorem l_280b (hM : ShM μ) (hm : m < 6) (hc : ∀ i, i < 16 → ∃ v, v < 10000 ∧ rW (mI μ 1302) m (7 + i) = nI v) (hs : s.1 + 80 ≤ 90) (hq : ∀ μ', OuP μ (clW (rW (mI μ 1302)) m s 16) μ' → Q (some (some (.int (nI (clW (rW (mI μ 1302)) m s 16).1)))) μ') : ∀ f i μ' l, i + f = 16 → OuP μ (clW (rW (mI μ 1302)) m s i) μ' → EM 280 (d + 2) 86 [some (.ref 1298), some (.int (nI m)), some (.int (nI i)), l] [] μ' (0, 0) Q := by
  intro f
  induction f with
  | zero =>
    intro i μ' l hi hO
    obtain rfl : i = 16 := by omega
    have hS := hO.q hM
    obtain ⟨p1, p2, p3, p4, p5, p6, p7, p8, p9, p10, p11, p12, p13, p14, p15, p16, p17, p18, p19, p20, p21⟩ := hS
    rw [e_280_86]
    simp (disch := first | omega | rfl) only [e_280_0, e_280_1, e_280_2, e_280_3, e_280_6, e_280_9, e_280_12, e_280_13, e_280_14, e_280_15, e_280_16, e_280_19, e_280_20, e_280_23, e_280_25, e_280_26, e_280_27, e_280_28, e_280_31, e_280_32, e_280_34, e_280_37, e_280_38, e_280_40, e_280_43, e_280_44, e_280_47, e_280_49, e_280_50, e_280_51, e_280_52, e_280_53, e_280_54, e_280_55, e_280_56, e_280_58, e_280_59, e_280_60, e_280_61, e_280_64, e_280_65, e_280_67, e_280_68, e_280_69, e_280_72, e_280_75, e_280_78, e_280_79, e_280_81, e_280_84, e_280_85, e_280_87, e_280_89, e_280_92, e_280_93, e_280_95, e_280_98, e_280_99, e_280_100, e_280_101, e_280_103, e_280_104, e_280_105, e_280_108, e_280_111, e_280_114, e_280_117, e_280_118, e_280_121, ge1, ule_t, true_or, or_true, nI_add, nI_mul, nI_sub, nI_clamp, nI_lt_t, nI_lt_f, nI_le_t, nI_le_f, nI_eq_t, nI_eq_f, vp_nI, tI, fI, not_true, not_false_iff, true_and, and_true, Classical.not_not, mS_uI, mS_uA, mS_uJ, mS_uR, mS_uX, mR_uI, mR_uA, mR_uJ, mR_uX, mX_uI, mX_uA, mX_uJ, mX_uR, mI_s, mI_n, mI_A, mI_An, mI_uJ, mI_uR, mI_uX, mJ_uI, mJ_uA, mJ_uR, mJ_uX, onR_s, kC_v, kC_n, kC_t, p1, p2, p3, p4, p5, p6, p7, p8, p9, p10, p11, p12, p13, p14, p15, p16, p17, p18, p19, p20, p21, hO.2.2.1]
    exact hq μ' hO
  | succ f ih =>
    intro i μ' l hif hO
    have hS := hO.q hM
    have hS0 := hS
    obtain ⟨v, hv, ev⟩ := hc i (by omega)
    obtain ⟨p1, p2, p3, p4, p5, p6, p7, p8, p9, p10, p11, p12, p13, p14, p15, p16, p17, p18, p19, p20, p21⟩ := hS
    have hle := clW_le (V := rW (mI μ 1302)) (m := m) (s := s) i
    have h278 := fun (d : Nat) (Q : Po) (y : Int32) => s_278 (d := d) (Q := Q) (y := y) hS0 hO.2.2.1 (by omega)
    have hO1 := hO.c (c := 32)
    have hS1 := hO1.q hM
    have e1302 : ∀ x, mI (uI (uI μ' 1308 (clW (rW (mI μ 1302)) m s i).1 (nI 32)) 1298 26 (nI ((clW (rW (mI μ 1302)) m s i).1 + 1))) 1302 x = mI μ 1302 x := fun x => hO1.1.2.2.2 1302 (by unfold FO; omega) x
    have h166 := fun (d : Nat) (Q : Po) => s_166 (d := d) (Q := Q) (m := m) (k := 7 + i) hS1 (by omega)
    have ev1 : rW (mI (uI (uI μ' 1308 (clW (rW (mI μ 1302)) m s i).1 (nI 32)) 1298 26 (nI ((clW (rW (mI μ 1302)) m s i).1 + 1))) 1302) m (7 + i) = nI v := (e1302 _).trans ev
    rw [ev1] at h166
    have hi := ih (i + 1)
    rw [clW, ev, nI_clamp (by omega)] at hi
    rw [e_280_86]
    simp (disch := first | omega | rfl) only [e_280_0, e_280_1, e_280_2, e_280_3, e_280_6, e_280_9, e_280_12, e_280_13, e_280_14, e_280_15, e_280_16, e_280_19, e_280_20, e_280_23, e_280_25, e_280_26, e_280_27, e_280_28, e_280_31, e_280_32, e_280_34, e_280_37, e_280_38, e_280_40, e_280_43, e_280_44, e_280_47, e_280_49, e_280_50, e_280_51, e_280_52, e_280_53, e_280_54, e_280_55, e_280_56, e_280_58, e_280_59, e_280_60, e_280_61, e_280_64, e_280_65, e_280_67, e_280_68, e_280_69, e_280_72, e_280_75, e_280_78, e_280_79, e_280_81, e_280_84, e_280_85, e_280_87, e_280_89, e_280_92, e_280_93, e_280_95, e_280_98, e_280_99, e_280_100, e_280_101, e_280_103, e_280_104, e_280_105, e_280_108, e_280_111, e_280_114, e_280_117, e_280_118, e_280_121, ge1, ule_t, true_or, or_true, nI_add, nI_mul, nI_sub, nI_clamp, nI_lt_t, nI_lt_f, nI_le_t, nI_le_f, nI_eq_t, nI_eq_f, vp_nI, tI, fI, not_true, not_false_iff, true_and, and_true, Classical.not_not, mS_uI, mS_uA, mS_uJ, mS_uR, mS_uX, mR_uI, mR_uA, mR_uJ, mR_uX, mX_uI, mX_uA, mX_uJ, mX_uR, mI_s, mI_n, mI_A, mI_An, mI_uJ, mI_uR, mI_uX, mJ_uI, mJ_uA, mJ_uR, mJ_uX, onR_s, kC_v, kC_n, kC_t, p1, p2, p3, p4, p5, p6, p7, p8, p9, p10, p11, p12, p13, p14, p15, p16, p17, p18, p19, p20, p21, h278, kC_n, h166, kC_v]
    refine s_279 hS1 hO1.2.2.1 (by show (clW (rW (mI μ 1302)) m s i).1 + 1 + 4 ≤ 90; omega) hv (fun μ2 hO2 => ?_)
    simp (disch := first | omega | rfl) only [e_280_0, e_280_1, e_280_2, e_280_3, e_280_6, e_280_9, e_280_12, e_280_13, e_280_14, e_280_15, e_280_16, e_280_19, e_280_20, e_280_23, e_280_25, e_280_26, e_280_27, e_280_28, e_280_31, e_280_32, e_280_34, e_280_37, e_280_38, e_280_40, e_280_43, e_280_44, e_280_47, e_280_49, e_280_50, e_280_51, e_280_52, e_280_53, e_280_54, e_280_55, e_280_56, e_280_58, e_280_59, e_280_60, e_280_61, e_280_64, e_280_65, e_280_67, e_280_68, e_280_69, e_280_72, e_280_75, e_280_78, e_280_79, e_280_81, e_280_84, e_280_85, e_280_87, e_280_89, e_280_92, e_280_93, e_280_95, e_280_98, e_280_99, e_280_100, e_280_101, e_280_103, e_280_104, e_280_105, e_280_108, e_280_111, e_280_114, e_280_117, e_280_118, e_280_121, ge1, ule_t, true_or, or_true, nI_add, nI_mul, nI_sub, nI_clamp, nI_lt_t, nI_lt_f, nI_le_t, nI_le_f, nI_eq_t, nI_eq_f, vp_nI, tI, fI, not_true, not_false_iff, true_and, and_true, Classical.not_not, kC_n]
    exact hi μ2 _ (by omega) (hO1.num hO2)
theorem m_280f (hM : ShM μ) (hO : okR (mI μ 1302)) (hx : bad z (nM (mI μ 1302))) : Ev (d + 3) 280 [.ref 1298, .int z] μ Q = Q (some (some (.int (nI 0)))) (uI μ 1298 0 (nI 1)) := by
  have hM0 := hM
  obtain ⟨p1, p2, p3, p4, p5, p6, p7, p8, p9, p10, p11, p12, p13, p14, p15, p16, p17, p18, p19, p20, p21⟩ := hM
  have hO9 := hO
  obtain ⟨o2, o6, o387, oT, o1708, oO, o1741, oF, o1, oq1, oq6, o0, ol1, ol40, oV, oN1, oP1, oF1⟩ := hO
  rw [in_280]
  simp (disch := first | omega | rfl) only [e_280_0, e_280_1, e_280_2, e_280_3, e_280_6, e_280_9, e_280_12, e_280_13, e_280_14, e_280_15, e_280_16, e_280_19, e_280_20, e_280_23, e_280_25, e_280_26, e_280_27, e_280_28, e_280_31, e_280_32, e_280_34, e_280_37, e_280_38, e_280_40, e_280_43, e_280_44, e_280_47, e_280_49, e_280_50, e_280_51, e_280_52, e_280_53, e_280_54, e_280_55, e_280_56, e_280_58, e_280_59, e_280_60, e_280_61, e_280_64, e_280_65, e_280_67, e_280_68, e_280_69, e_280_72, e_280_75, e_280_78, e_280_79, e_280_81, e_280_84, e_280_85, e_280_87, e_280_89, e_280_92, e_280_93, e_280_95, e_280_98, e_280_99, e_280_100, e_280_101, e_280_103, e_280_104, e_280_105, e_280_108, e_280_111, e_280_114, e_280_117, e_280_118, e_280_121, p1, p2, p3, p4, p5, p6, p7, p8, p9, p10, p11, p12, p13, p14, p15, p16, p17, p18, p19, p20, p21, o2, o387, o1708, o1741, o1, o0, ge1, ule_t, true_or, or_true, nI_add, nI_mul, nI_sub, nI_clamp, nI_lt_t, nI_lt_f, nI_le_t, nI_le_f, nI_eq_t, nI_eq_f, vp_nI, tI, fI, not_true, not_false_iff, true_and, and_true, Classical.not_not, mS_uI, mS_uA, mS_uJ, mS_uR, mS_uX, mR_uI, mR_uA, mR_uJ, mR_uX, mX_uI, mX_uA, mX_uJ, mX_uR, mI_s, mI_n, mI_A, mI_An, mI_uJ, mI_uR, mI_uX, mJ_uI, mJ_uA, mJ_uR, mJ_uX, onR_s, kC_v, kC_n, kC_t, mI_nf, mI_Anf, s_165 hM0, s_165 (ShM_u2 hM0), s_166 hM0, s_166 (ShM_u2 hM0), m_223f hM0 hO9 hx, m_227f hM0]
theorem m_280 (hM : ShM μ) (hO : okR (mI μ 1302)) (hm : m < (nM (mI μ 1302))) (hw : mI μ 1300 (16 + m) = nI w) (hw9 : w < 1073741824) (hq : ∀ μ', OuP (uI μ 1298 0 (nI 0)) (wrW (rW (mI μ 1302)) m w) μ' → Q (some (some (.int (nI (wrW (rW (mI μ 1302)) m w).1)))) μ') : Ev (d + 3) 280 [.ref 1298, .int (nI m)] μ Q := by
  have hM0 := hM
  obtain ⟨p1, p2, p3, p4, p5, p6, p7, p8, p9, p10, p11, p12, p13, p14, p15, p16, p17, p18, p19, p20, p21⟩ := hM
  have hO9 := hO
  obtain ⟨o2, o6, o387, oT, o1708, oO, o1741, oF, o1, oq1, oq6, o0, ol1, ol40, oV, oN1, oP1, oF1⟩ := hO
  have hc := (oN1 m hm).2.2
  have e2 : mI (uI μ 1298 0 (nI 0)) 1302 = mI μ 1302 := mI_nf (by omega)
  have hM2 : ShM (uI μ 1298 0 (nI 0)) := ShM_u2 hM0
  have hw2 : mI (uI μ 1298 0 (nI 0)) 1300 (16 + m) = nI w := (mI_n (by omega)).trans hw
  have hO0 : OuP (uI μ 1298 0 (nI 0)) (0, fun _ => 0) (uI (uI μ 1298 0 (nI 0)) 1298 26 (nI 0)) := ⟨Fr.refl.iu (Or.inl rfl), fun k h1 => mI_n (by omega), mI_s, fun j hj => absurd hj (Nat.not_lt_zero j)⟩
  have fin : ∀ s : WP, s.1 ≤ 6 → ∀ μ' l, OuP (uI μ 1298 0 (nI 0)) s μ' → (∀ μ', OuP (uI μ 1298 0 (nI 0)) (clW (rW (mI μ 1302)) m (apC s 58) 16) μ' → Q (some (some (.int (nI (clW (rW (mI μ 1302)) m (apC s 58) 16).1)))) μ') → EM 280 (d + 2) 78 [some (.ref 1298), some (.int (nI m)), some (.int (-1)), l] [] μ' (0, 0) Q := fun s hs μ' l hO hq => by
    have hS := hO.q hM2
    have hS0 := hS
    have h278 := fun (d : Nat) (Q : Po) (y : Int32) => s_278 (d := d) (Q := Q) (y := y) hS0 hO.2.2.1 (by omega)
    have hl := l_280b (d := d) (Q := Q) (μ := (uI μ 1298 0 (nI 0))) (m := m) (s := apC s 58) hM2 (by omega) (by rw [e2]; exact hc) (by show s.1 + 1 + 80 ≤ 90; omega) (by rw [e2]; exact hq) 16 0 _ l rfl hO.c
    have hs1 := hS0.1
    simp (disch := first | omega | rfl) only [e_280_0, e_280_1, e_280_2, e_280_3, e_280_6, e_280_9, e_280_12, e_280_13, e_280_14, e_280_15, e_280_16, e_280_19, e_280_20, e_280_23, e_280_25, e_280_26, e_280_27, e_280_28, e_280_31, e_280_32, e_280_34, e_280_37, e_280_38, e_280_40, e_280_43, e_280_44, e_280_47, e_280_49, e_280_50, e_280_51, e_280_52, e_280_53, e_280_54, e_280_55, e_280_56, e_280_58, e_280_59, e_280_60, e_280_61, e_280_64, e_280_65, e_280_67, e_280_68, e_280_69, e_280_72, e_280_75, e_280_78, e_280_79, e_280_81, e_280_84, e_280_85, e_280_87, e_280_89, e_280_92, e_280_93, e_280_95, e_280_98, e_280_99, e_280_100, e_280_101, e_280_103, e_280_104, e_280_105, e_280_108, e_280_111, e_280_114, e_280_117, e_280_118, e_280_121, ge1, ule_t, true_or, or_true, nI_add, nI_mul, nI_sub, nI_clamp, nI_lt_t, nI_lt_f, nI_le_t, nI_le_f, nI_eq_t, nI_eq_f, vp_nI, tI, fI, not_true, not_false_iff, true_and, and_true, Classical.not_not, mS_uI, mS_uA, mS_uJ, mS_uR, mS_uX, mR_uI, mR_uA, mR_uJ, mR_uX, mX_uI, mX_uA, mX_uJ, mX_uR, mI_s, mI_n, mI_A, mI_An, mI_uJ, mI_uR, mI_uX, mJ_uI, mJ_uA, mJ_uR, mJ_uX, onR_s, kC_v, kC_n, kC_t, hs1, h278, kC_n]
    exact hl
  rw [in_280]
  by_cases h0 : w = 0
  · subst h0
    have hM3 := hO0.q hM2
    have h278 := fun (d : Nat) (Q : Po) (y : Int32) => s_278 (d := d) (Q := Q) (y := y) hM3 hO0.2.2.1 (by show 0 < 90; omega)
    simp (disch := first | omega | rfl) only [e_280_0, e_280_1, e_280_2, e_280_3, e_280_6, e_280_9, e_280_12, e_280_13, e_280_14, e_280_15, e_280_16, e_280_19, e_280_20, e_280_23, e_280_25, e_280_26, e_280_27, e_280_28, e_280_31, e_280_32, e_280_34, e_280_37, e_280_38, e_280_40, e_280_43, e_280_44, e_280_47, e_280_49, e_280_50, e_280_51, e_280_52, e_280_53, e_280_54, e_280_55, e_280_56, e_280_58, e_280_59, e_280_60, e_280_61, e_280_64, e_280_65, e_280_67, e_280_68, e_280_69, e_280_72, e_280_75, e_280_78, e_280_79, e_280_81, e_280_84, e_280_85, e_280_87, e_280_89, e_280_92, e_280_93, e_280_95, e_280_98, e_280_99, e_280_100, e_280_101, e_280_103, e_280_104, e_280_105, e_280_108, e_280_111, e_280_114, e_280_117, e_280_118, e_280_121, p1, p2, p3, p4, p5, p6, p7, p8, p9, p10, p11, p12, p13, p14, p15, p16, p17, p18, p19, p20, p21, o2, o387, o1708, o1741, o1, o0, ge1, ule_t, true_or, or_true, nI_add, nI_mul, nI_sub, nI_clamp, nI_lt_t, nI_lt_f, nI_le_t, nI_le_f, nI_eq_t, nI_eq_f, vp_nI, tI, fI, not_true, not_false_iff, true_and, and_true, Classical.not_not, mS_uI, mS_uA, mS_uJ, mS_uR, mS_uX, mR_uI, mR_uA, mR_uJ, mR_uX, mX_uI, mX_uA, mX_uJ, mX_uR, mI_s, mI_n, mI_A, mI_An, mI_uJ, mI_uR, mI_uX, mJ_uI, mJ_uA, mJ_uR, mJ_uX, onR_s, kC_v, kC_n, kC_t, mI_nf, mI_Anf, s_165 hM0, s_165 (ShM_u2 hM0), s_166 hM0, s_166 (ShM_u2 hM0), m_223t hM0 hO9 hm, m_227t hM0, hw, h278, kC_n]
    have hl := l_280a (d := d) (Q := Q) (μ := (uI μ 1298 0 (nI 0))) (m := m) (w := 0) (s := apC (0, fun _ => 0) 42) hM2 (by omega) hw2 hw9 (by show 0 + 1 + 6 ≤ 89; omega) (fun μ' l hO => by
      rw [nlW_0] at hO
      exact fin _ (by show 0 + 1 ≤ 6; omega) μ' l hO hq) 6 0 _ none rfl hO0.c
    rw [if_pos (by omega)] at hl
    exact hl
  · have hz : (nI w = nI 0) = False := by rw [nI_eq (by omega) (by omega)]; exact eq_false h0
    simp (disch := first | omega | rfl) only [e_280_0, e_280_1, e_280_2, e_280_3, e_280_6, e_280_9, e_280_12, e_280_13, e_280_14, e_280_15, e_280_16, e_280_19, e_280_20, e_280_23, e_280_25, e_280_26, e_280_27, e_280_28, e_280_31, e_280_32, e_280_34, e_280_37, e_280_38, e_280_40, e_280_43, e_280_44, e_280_47, e_280_49, e_280_50, e_280_51, e_280_52, e_280_53, e_280_54, e_280_55, e_280_56, e_280_58, e_280_59, e_280_60, e_280_61, e_280_64, e_280_65, e_280_67, e_280_68, e_280_69, e_280_72, e_280_75, e_280_78, e_280_79, e_280_81, e_280_84, e_280_85, e_280_87, e_280_89, e_280_92, e_280_93, e_280_95, e_280_98, e_280_99, e_280_100, e_280_101, e_280_103, e_280_104, e_280_105, e_280_108, e_280_111, e_280_114, e_280_117, e_280_118, e_280_121, p1, p2, p3, p4, p5, p6, p7, p8, p9, p10, p11, p12, p13, p14, p15, p16, p17, p18, p19, p20, p21, o2, o387, o1708, o1741, o1, o0, ge1, ule_t, true_or, or_true, nI_add, nI_mul, nI_sub, nI_clamp, nI_lt_t, nI_lt_f, nI_le_t, nI_le_f, nI_eq_t, nI_eq_f, vp_nI, tI, fI, not_true, not_false_iff, true_and, and_true, Classical.not_not, mS_uI, mS_uA, mS_uJ, mS_uR, mS_uX, mR_uI, mR_uA, mR_uJ, mR_uX, mX_uI, mX_uA, mX_uJ, mX_uR, mI_s, mI_n, mI_A, mI_An, mI_uJ, mI_uR, mI_uX, mJ_uI, mJ_uA, mJ_uR, mJ_uX, onR_s, kC_v, kC_n, kC_t, mI_nf, mI_Anf, s_165 hM0, s_165 (ShM_u2 hM0), s_166 hM0, s_166 (ShM_u2 hM0), m_223t hM0 hO9 hm, m_227t hM0, hw, h0]
    have hwr : wrW (rW (mI μ 1302)) m w = clW (rW (mI μ 1302)) m (apC (nlW w (0, fun _ => 0) 6) 58) 16 := by unfold wrW nm0; rw [if_neg h0]
    rw [hwr] at hq
    have hle := nlW_le (w := w) (s := (0, fun _ => 0)) 6
    have hl := l_280a (d := d) (Q := Q) (μ := (uI μ 1298 0 (nI 0))) (m := m) (w := w) (s := (0, fun _ => 0)) hM2 (by omega) hw2 hw9 (by show 0 + 6 ≤ 89; omega) (fun μ' l hO => fin _ (by simpa using hle) μ' l hO hq) 6 0 _ none rfl hO0
    rw [if_pos (by omega)] at hl
    exact hl
end WrM

/-! one member written: the class's side -/
section WrC
variable {d : Nat} {Q : Po} {μ : Mu} {s c m n k i j t x w v cap ub uc : Nat} {y z : Int32} {S : WP} {r : Nat → Int32} {l0 l1 l2 l3 : Option Value}
def SbP (μ : Mu) (S : WP) : Prop := ∃ v cap, SbS μ v cap S.1 ∧ ∀ j, j < S.1 → mI μ v j = nI (S.2 j)
theorem s_159 (h : t ≤ 5) : Ev (d + 1) 159 [.int (nI t)] μ Q = Q (some (some (.int (nI (5 * (5 - t)))))) μ := by
  rw [in_159]
  simp (disch := first | omega | rfl) only [e_159_0, e_159_1, e_159_2, e_159_3, e_159_4, e_159_5, ge1, ule_t, true_or, or_true, nI_add, nI_mul, nI_sub, nI_clamp, nI_lt_t, nI_lt_f, nI_le_t, nI_le_f, nI_eq_t, nI_eq_f, vp_nI, tI, fI, not_true, not_false_iff, true_and, and_true, Classical.not_not]
theorem SbP.chr {ch : Nat} (h : SbP μ S) (hn : S.1 < 87) (hc : ch < 128) (hq : ∀ μ', FrB μ μ' → SbP μ' (apC S ch) → Q (some (some (.ref 1060))) μ') : Ev (d + 5) 1 [.ref 1060, .int (nI ch)] μ Q := by
  obtain ⟨v, cap, h1, h2⟩ := h
  refine s_1 h1 hn hc (fun μ1 v1 cap1 hf hB hj hl => hq μ1 hf ⟨v1, cap1, hB, fun j hj2 => ?_⟩)
  have hj' : j < S.1 + 1 := hj2
  by_cases e : j = S.1
  · subst e; rw [hl]; show _ = nI (if _ then _ else _); rw [if_pos rfl]
  · rw [hj j (by omega), h2 j (by omega)]; show _ = nI (if _ then _ else _); rw [if_neg e]
theorem SbP.num (h : SbP μ S) (hD : DgS μ) (hx : x < 10000) (hn : S.1 + 4 ≤ 87) (hq : ∀ μ', FrB μ μ' → SbP μ' (apN S x) → Q (some (some (.ref 1060))) μ') : Ev (d + 5) 2 [.ref 1060, .int (nI x)] μ Q := by
  obtain ⟨v, cap, h1, h2⟩ := h
  refine s_2 h1 hD hx hn (fun μ1 v1 cap1 hf hB hj hl => hq μ1 hf ⟨v1, cap1, hB, fun j hj2 => ?_⟩)
  have hj' : j < S.1 + fNd x := hj2
  by_cases e : S.1 ≤ j
  · have := hl (j - S.1) (by omega)
    rw [show S.1 + (j - S.1) = j by omega] at this
    rw [this]; show _ = nI (if _ then _ else _); rw [if_pos e]
  · rw [hj j (by omega), h2 j (by omega)]; show _ = nI (if _ then _ else _); rw [if_neg e]
theorem SbP.sh (h : SbP μ S) : mS μ 1060 = (1, 4) := by
  obtain ⟨v, cap, h1, -⟩ := h
  exact h1.1
theorem l_96 (h0 : mS μ 1000 = (11, 11)) (h8 : mR μ 1000 8 = some 1060) (hw : w < 1073741824) (hs : S.1 + 6 ≤ 87) (hq : ∀ μ', FrB μ μ' → SbP μ' (nlW w S 6) → Q (some none) μ') : ∀ f t a μ' l, t + f = 6 → a ≤ t → FrB μ μ' → SbP μ' (nlW w S t) → EM 96 (d + 5) 2 [some (.ref 1000), some (.int (nI w)), some (.int (nI t)), l] [] μ' (a, 174 * a) Q := by
  intro f
  induction f with
  | zero =>
    intro t a μ' l ht ha hf hP
    obtain rfl : t = 6 := by omega
    have e1 : ule (a, 174 * a) (6, 1044) = True := eq_true ⟨by show a ≤ 6; omega, by show 174 * a ≤ 1044; omega⟩
    rw [e_96_2]
    simp (disch := first | omega | rfl) only [e_96_0, e_96_1, e_96_3, e_96_5, e_96_8, e_96_9, e_96_10, e_96_13, e_96_14, e_96_16, e_96_17, e_96_18, e_96_19, e_96_22, e_96_23, e_96_26, e_96_28, e_96_29, e_96_30, e_96_31, e_96_32, e_96_33, e_96_36, e_96_37, e_96_40, e_96_43, ge1, ule_t, true_or, or_true, nI_add, nI_mul, nI_sub, nI_clamp, nI_lt_t, nI_lt_f, nI_le_t, nI_le_f, nI_eq_t, nI_eq_f, vp_nI, tI, fI, not_true, not_false_iff, true_and, and_true, Classical.not_not, e1]
    exact hq μ' hf hP
  | succ f ih =>
    intro t a μ' l ht ha hf hP
    have g0 := hf.2 1000 (by omega) (by omega) (by omega)
    have g1 : mS μ' 1000 = (11, 11) := g0.1.trans h0
    have g2 : mR μ' 1000 8 = some 1060 := (g0.2.2.1 8).trans h8
    have hle := nlW_le (w := w) (s := S) t
    have hi := ih (t + 1)
    rw [nlW] at hi
    have el : w / 2 ^ (5 * (5 - t)) % 32 = lt5 w t := rfl
    have e1 : ule (a, 174 * a) (6, 1044) = True := eq_true ⟨by show a ≤ 6; omega, by show 174 * a ≤ 1044; omega⟩
    have e2 : ule (uad (a, 174 * a) (1, 174)) (6, 1044) = True := eq_true ⟨by show a + 1 ≤ 6; omega, by show 174 * a + 174 ≤ 1044; omega⟩
    rw [e_96_2]
    by_cases hl : lt5 w t = 0
    · rw [if_pos hl] at hi
      simp (disch := first | omega | rfl) only [e_96_0, e_96_1, e_96_3, e_96_5, e_96_8, e_96_9, e_96_10, e_96_13, e_96_14, e_96_16, e_96_17, e_96_18, e_96_19, e_96_22, e_96_23, e_96_26, e_96_28, e_96_29, e_96_30, e_96_31, e_96_32, e_96_33, e_96_36, e_96_37, e_96_40, e_96_43, ge1, ule_t, true_or, or_true, nI_add, nI_mul, nI_sub, nI_clamp, nI_lt_t, nI_lt_f, nI_le_t, nI_le_f, nI_eq_t, nI_eq_f, vp_nI, tI, fI, not_true, not_false_iff, true_and, and_true, Classical.not_not, mS_uI, mS_uA, mS_uJ, mS_uR, mS_uX, mR_uI, mR_uA, mR_uJ, mR_uX, mX_uI, mX_uA, mX_uJ, mX_uR, mI_s, mI_n, mI_A, mI_An, mI_uJ, mI_uR, mI_uX, mJ_uI, mJ_uA, mJ_uR, mJ_uX, onR_s, kC_v, kC_n, kC_t, g1, g2, e1, e2, s_159, nI_ushr, nI_and31, el, hl]
      exact hi a μ' _ (by omega) (by omega) hf hP
    · rw [if_neg hl] at hi
      have hlt : lt5 w t < 32 := Nat.mod_lt _ (by omega)
      have h97 : 97 + lt5 w t - 1 = 96 + lt5 w t := by omega
      simp (disch := first | omega | rfl) only [e_96_0, e_96_1, e_96_3, e_96_5, e_96_8, e_96_9, e_96_10, e_96_13, e_96_14, e_96_16, e_96_17, e_96_18, e_96_19, e_96_22, e_96_23, e_96_26, e_96_28, e_96_29, e_96_30, e_96_31, e_96_32, e_96_33, e_96_36, e_96_37, e_96_40, e_96_43, ge1, ule_t, true_or, or_true, nI_add, nI_mul, nI_sub, nI_clamp, nI_lt_t, nI_lt_f, nI_le_t, nI_le_f, nI_eq_t, nI_eq_f, vp_nI, tI, fI, not_true, not_false_iff, true_and, and_true, Classical.not_not, mS_uI, mS_uA, mS_uJ, mS_uR, mS_uX, mR_uI, mR_uA, mR_uJ, mR_uX, mX_uI, mX_uA, mX_uJ, mX_uR, mI_s, mI_n, mI_A, mI_An, mI_uJ, mI_uR, mI_uX, mJ_uI, mJ_uA, mJ_uR, mJ_uX, onR_s, kC_v, kC_n, kC_t, g1, g2, e1, e2, s_159, nI_ushr, nI_and31, el, hP.sh, h97, c16]
      refine hP.chr (by omega) (by omega) (fun μ1 hf1 hP1 => ?_)
      simp (disch := first | omega | rfl) only [e_96_0, e_96_1, e_96_3, e_96_5, e_96_8, e_96_9, e_96_10, e_96_13, e_96_14, e_96_16, e_96_17, e_96_18, e_96_19, e_96_22, e_96_23, e_96_26, e_96_28, e_96_29, e_96_30, e_96_31, e_96_32, e_96_33, e_96_36, e_96_37, e_96_40, e_96_43, ge1, ule_t, true_or, or_true, nI_add, nI_mul, nI_sub, nI_clamp, nI_lt_t, nI_lt_f, nI_le_t, nI_le_f, nI_eq_t, nI_eq_f, vp_nI, tI, fI, not_true, not_false_iff, true_and, and_true, Classical.not_not, kC_v]
      exact hi (a + 1) μ1 _ (by omega) (by omega) (hf.trans hf1) hP1
theorem s_96 (h0 : mS μ 1000 = (11, 11)) (h8 : mR μ 1000 8 = some 1060) (hw : w < 1073741824) (hs : S.1 + 6 ≤ 87) (hP : SbP μ S) (hq : ∀ μ', FrB μ μ' → SbP μ' (nlW w S 6) → Q (some none) μ') : Ev (d + 6) 96 [.ref 1000, .int (nI w)] μ Q := by
  have hl := l_96 (d := d) (Q := Q) h0 h8 hw hs hq 6 0 0 μ none rfl (Nat.le_refl _) FrB.refl hP
  rw [in_96]
  simp (disch := first | omega | rfl) only [e_96_0, e_96_1, e_96_3, e_96_5, e_96_8, e_96_9, e_96_10, e_96_13, e_96_14, e_96_16, e_96_17, e_96_18, e_96_19, e_96_22, e_96_23, e_96_26, e_96_28, e_96_29, e_96_30, e_96_31, e_96_32, e_96_33, e_96_36, e_96_37, e_96_40, e_96_43, ge1, ule_t, true_or, or_true, nI_add, nI_mul, nI_sub, nI_clamp, nI_lt_t, nI_lt_f, nI_le_t, nI_le_f, nI_eq_t, nI_eq_f, vp_nI, tI, fI, not_true, not_false_iff, true_and, and_true, Classical.not_not]
  exact hl
theorem l_95 {a b : Nat} (ha : a ≤ 10) (hb : b ≤ 1404) (hD : DgS μ) (hs : s = 1001 ∨ s = 1032) (hm : m < 6) (h0 : mS μ 1000 = (11, 11)) (h8 : mR μ 1000 8 = some 1060) (k0 : mS μ (s + 5 + 3 * m) = (7, 10)) (k1 : mR μ (s + 5 + 3 * m) 8 = some (s + 6 + 3 * m)) (k2 : mS μ (s + 6 + 3 * m) = (20, 16)) (hc : ∀ i, i < 16 → ∃ v, v < 10000 ∧ rW r m (7 + i) = nI v ∧ mI μ (s + 6 + 3 * m) i = nI v) (hS : S.1 + 80 ≤ 87) (hq : ∀ μ', FrB μ μ' → SbP μ' (clW (rW r) m S 16) → Q (some (some (.int (nI (clW (rW r) m S 16).1)))) μ') : ∀ f i μ', i + f = 16 → FrB μ μ' → SbP μ' (clW (rW r) m S i) → EM 95 (d + 5) 54 [some (.ref 1000), some (.int (nI m)), some (.ref (s + 5 + 3 * m)), some (.int (nI i))] [] μ' (a + 2 * i, b + 348 * i) Q := by
  intro f
  induction f with
  | zero =>
    intro i μ' hi hf hP
    obtain rfl : i = 16 := by omega
    have g0 := hf.2 1000 (by omega) (by omega) (by omega)
    have g1 : mS μ' 1000 = (11, 11) := g0.1.trans h0
    have g2 : mR μ' 1000 8 = some 1060 := (g0.2.2.1 8).trans h8
    have e1 : ule (a + 2 * 16, b + 348 * 16) (42, 7140) = True := eq_true ⟨by show a + 2 * 16 ≤ 42; omega, by show b + 348 * 16 ≤ 7140; omega⟩
    obtain ⟨v, cap, hb1, hb2⟩ := id hP
    rw [e_95_54]
    simp (disch := first | omega | rfl) only [e_95_0, e_95_1, e_95_2, e_95_5, e_95_6, e_95_7, e_95_10, e_95_11, e_95_14, e_95_15, e_95_18, e_95_21, e_95_22, e_95_25, e_95_27, e_95_30, e_95_31, e_95_34, e_95_35, e_95_36, e_95_39, e_95_42, e_95_43, e_95_46, e_95_48, e_95_51, e_95_52, e_95_53, e_95_55, e_95_57, e_95_60, e_95_61, e_95_64, e_95_66, e_95_69, e_95_70, e_95_71, e_95_74, e_95_75, e_95_78, e_95_79, e_95_80, e_95_83, e_95_84, e_95_87, e_95_90, e_95_91, e_95_94, e_95_97, ge1, ule_t, true_or, or_true, nI_add, nI_mul, nI_sub, nI_clamp, nI_lt_t, nI_lt_f, nI_le_t, nI_le_f, nI_eq_t, nI_eq_f, vp_nI, tI, fI, not_true, not_false_iff, true_and, and_true, Classical.not_not, mS_uI, mS_uA, mS_uJ, mS_uR, mS_uX, mR_uI, mR_uA, mR_uJ, mR_uX, mX_uI, mX_uA, mX_uJ, mX_uR, mI_s, mI_n, mI_A, mI_An, mI_uJ, mI_uR, mI_uX, mJ_uI, mJ_uA, mJ_uR, mJ_uX, onR_s, kC_v, kC_n, kC_t, e1, g1, g2, hP.sh, s_5 hb1, kC_v]
    exact hq μ' hf hP
  | succ f ih =>
    intro i μ' hif hf hP
    have g0 := hf.2 1000 (by omega) (by omega) (by omega)
    have g1 : mS μ' 1000 = (11, 11) := g0.1.trans h0
    have g2 : mR μ' 1000 8 = some 1060 := (g0.2.2.1 8).trans h8
    obtain ⟨v, hv, ev, hcv⟩ := hc i (by omega)
    have hle := clW_le (V := rW r) (m := m) (s := S) i
    have e1 : ule (uad (a + 2 * i, b + 348 * i) (1, 174)) (42, 7140) = True := eq_true ⟨by show a + 2 * i + 1 ≤ 42; omega, by show b + 348 * i + 174 ≤ 7140; omega⟩
    have e2 : ule (uad (uad (a + 2 * i, b + 348 * i) (1, 174)) (1, 174)) (42, 7140) = True := eq_true ⟨by show a + 2 * i + 1 + 1 ≤ 42; omega, by show b + 348 * i + 174 + 174 ≤ 7140; omega⟩
    have e3 : uad (uad (a + 2 * i, b + 348 * i) (1, 174)) (1, 174) = (a + 2 * (i + 1), b + 348 * (i + 1)) := Prod.ext (by show a + 2 * i + 1 + 1 = a + 2 * (i + 1); omega) (by show b + 348 * i + 174 + 174 = b + 348 * (i + 1); omega)
    have hi := ih (i + 1)
    rw [clW, ev, nI_clamp (by omega)] at hi
    rw [e_95_54]
    simp (disch := first | omega | rfl) only [e_95_0, e_95_1, e_95_2, e_95_5, e_95_6, e_95_7, e_95_10, e_95_11, e_95_14, e_95_15, e_95_18, e_95_21, e_95_22, e_95_25, e_95_27, e_95_30, e_95_31, e_95_34, e_95_35, e_95_36, e_95_39, e_95_42, e_95_43, e_95_46, e_95_48, e_95_51, e_95_52, e_95_53, e_95_55, e_95_57, e_95_60, e_95_61, e_95_64, e_95_66, e_95_69, e_95_70, e_95_71, e_95_74, e_95_75, e_95_78, e_95_79, e_95_80, e_95_83, e_95_84, e_95_87, e_95_90, e_95_91, e_95_94, e_95_97, ge1, ule_t, true_or, or_true, nI_add, nI_mul, nI_sub, nI_clamp, nI_lt_t, nI_lt_f, nI_le_t, nI_le_f, nI_eq_t, nI_eq_f, vp_nI, tI, fI, not_true, not_false_iff, true_and, and_true, Classical.not_not, mS_uI, mS_uA, mS_uJ, mS_uR, mS_uX, mR_uI, mR_uA, mR_uJ, mR_uX, mX_uI, mX_uA, mX_uJ, mX_uR, mI_s, mI_n, mI_A, mI_An, mI_uJ, mI_uR, mI_uX, mJ_uI, mJ_uA, mJ_uR, mJ_uX, onR_s, kC_v, kC_n, kC_t, e1, g1, g2, hP.sh]
    refine hP.chr (by omega) (by omega) (fun μ1 hf1 hP1 => ?_)
    have hf2 := hf.trans hf1
    have j0 := hf2.2 1000 (by omega) (by omega) (by omega)
    have j1 : mS μ1 1000 = (11, 11) := j0.1.trans h0
    have j2 : mR μ1 1000 8 = some 1060 := (j0.2.2.1 8).trans h8
    have m0 := hf2.2 (s + 5 + 3 * m) (by omega) (by omega) (by omega)
    have m1 := hf2.2 (s + 6 + 3 * m) (by omega) (by omega) (by omega)
    have j3 : mS μ1 (s + 5 + 3 * m) = (7, 10) := m0.1.trans k0
    have j4 : mR μ1 (s + 5 + 3 * m) 8 = some (s + 6 + 3 * m) := (m0.2.2.1 8).trans k1
    have j5 : mS μ1 (s + 6 + 3 * m) = (20, 16) := m1.1.trans k2
    have j6 : mI μ1 (s + 6 + 3 * m) i = nI v := (m1.2.1 i).trans hcv
    simp (disch := first | omega | rfl) only [e_95_0, e_95_1, e_95_2, e_95_5, e_95_6, e_95_7, e_95_10, e_95_11, e_95_14, e_95_15, e_95_18, e_95_21, e_95_22, e_95_25, e_95_27, e_95_30, e_95_31, e_95_34, e_95_35, e_95_36, e_95_39, e_95_42, e_95_43, e_95_46, e_95_48, e_95_51, e_95_52, e_95_53, e_95_55, e_95_57, e_95_60, e_95_61, e_95_64, e_95_66, e_95_69, e_95_70, e_95_71, e_95_74, e_95_75, e_95_78, e_95_79, e_95_80, e_95_83, e_95_84, e_95_87, e_95_90, e_95_91, e_95_94, e_95_97, ge1, ule_t, true_or, or_true, nI_add, nI_mul, nI_sub, nI_clamp, nI_lt_t, nI_lt_f, nI_le_t, nI_le_f, nI_eq_t, nI_eq_f, vp_nI, tI, fI, not_true, not_false_iff, true_and, and_true, Classical.not_not, mS_uI, mS_uA, mS_uJ, mS_uR, mS_uX, mR_uI, mR_uA, mR_uJ, mR_uX, mX_uI, mX_uA, mX_uJ, mX_uR, mI_s, mI_n, mI_A, mI_An, mI_uJ, mI_uR, mI_uX, mJ_uI, mJ_uA, mJ_uR, mJ_uX, onR_s, kC_v, kC_n, kC_t, e1, e2, kC_v, j1, j2, j3, j4, j5, j6, hP1.sh]
    refine hP1.num (hD.fr hf2) hv (by show (clW (rW r) m S i).1 + 1 + 4 ≤ 87; omega) (fun μ2 hf3 hP2 => ?_)
    simp (disch := first | omega | rfl) only [e_95_0, e_95_1, e_95_2, e_95_5, e_95_6, e_95_7, e_95_10, e_95_11, e_95_14, e_95_15, e_95_18, e_95_21, e_95_22, e_95_25, e_95_27, e_95_30, e_95_31, e_95_34, e_95_35, e_95_36, e_95_39, e_95_42, e_95_43, e_95_46, e_95_48, e_95_51, e_95_52, e_95_53, e_95_55, e_95_57, e_95_60, e_95_61, e_95_64, e_95_66, e_95_69, e_95_70, e_95_71, e_95_74, e_95_75, e_95_78, e_95_79, e_95_80, e_95_83, e_95_84, e_95_87, e_95_90, e_95_91, e_95_94, e_95_97, ge1, ule_t, true_or, or_true, nI_add, nI_mul, nI_sub, nI_clamp, nI_lt_t, nI_lt_f, nI_le_t, nI_le_f, nI_eq_t, nI_eq_f, vp_nI, tI, fI, not_true, not_false_iff, true_and, and_true, Classical.not_not, mS_uI, mS_uA, mS_uJ, mS_uR, mS_uX, mR_uI, mR_uA, mR_uJ, mR_uX, mX_uI, mX_uA, mX_uJ, mX_uR, mI_s, mI_n, mI_A, mI_An, mI_uJ, mI_uR, mI_uX, mJ_uI, mJ_uA, mJ_uR, mJ_uX, onR_s, kC_v, kC_n, kC_t, kC_v, e3]
    exact hi μ2 (by omega) (hf2.trans hf3) hP2
theorem c_95f (hW : ShR μ s c) (hB : RelB μ s r) (hO : okR r) (hx : bad z (nM r)) : Ev (d + 7) 95 [.ref 1000, .int z] μ Q = (∀ x, mX μ ≤ x → Q none (uX μ x)) := by
  have hW0 := hW
  obtain ⟨w0, w1, w2, w3, w4, w5, w6, w7, w8, w9, w10, w11, w12, w13, w14, w15⟩ := hW
  have hS0 := w12
  obtain ⟨q0, q1, q2, q3, q4, q5, q6, q7, q8, q9, q10, q11, q12, q13, q14, q15⟩ := w12
  have hB9 := hB
  obtain ⟨b1, b2, b3, b4, b5, b6, b7, b8⟩ := hB
  have hO0 := hO
  obtain ⟨o2, o6, o387, oT, o1708, oO, o1741, oF, o1, oq1, oq6, o0, ol1, ol40, oV, oN1, oP1, oF1⟩ := hO
  have hn : mI μ s 1 = nI (nM r) := b1.trans o2
  have hq9 : mI μ (s + 2) 1 = nI (nQ r) := b6.trans o1
  have hV := b7.ok' oV
  rw [in_95]
  simp (disch := first | omega | rfl) only [e_95_0, e_95_1, e_95_2, e_95_5, e_95_6, e_95_7, e_95_10, e_95_11, e_95_14, e_95_15, e_95_18, e_95_21, e_95_22, e_95_25, e_95_27, e_95_30, e_95_31, e_95_34, e_95_35, e_95_36, e_95_39, e_95_42, e_95_43, e_95_46, e_95_48, e_95_51, e_95_52, e_95_53, e_95_55, e_95_57, e_95_60, e_95_61, e_95_64, e_95_66, e_95_69, e_95_70, e_95_71, e_95_74, e_95_75, e_95_78, e_95_79, e_95_80, e_95_83, e_95_84, e_95_87, e_95_90, e_95_91, e_95_94, e_95_97, w0, w1, w2, w3, w4, w5, w6, w7, w8, w9, w10, q1, q2, q3, q4, q5, q6, q7, q8, q9, q10, q11, q12, q13, q14, q15, b1, b2, b3, b4, b5, b6, o2, o387, o1708, o1741, o1, o0, ge1, ule_t, true_or, or_true, nI_add, nI_mul, nI_sub, nI_clamp, nI_lt_t, nI_lt_f, nI_le_t, nI_le_f, nI_eq_t, nI_eq_f, vp_nI, tI, fI, not_true, not_false_iff, true_and, and_true, Classical.not_not, mS_uI, mS_uA, mS_uJ, mS_uR, mS_uX, mR_uI, mR_uA, mR_uJ, mR_uX, mX_uI, mX_uA, mX_uJ, mX_uR, mI_s, mI_n, mI_A, mI_An, mI_uJ, mI_uR, mI_uX, mJ_uI, mJ_uA, mJ_uR, mJ_uX, onR_s, kC_v, kC_n, kC_t, ul0, ula1, ula2, ula3, ula4, ulb2, ulb3, ulb4, ulc2, ulc3, ulc4, ule4, ulf3, ulf4, c_150f hW0 hB9 hO0 hx, TT_95, uk1]
theorem c_95 (hW : ShR μ s c) (hB : RelB μ s r) (hO : okR r) (hm : m < nM r) (hD : DgS μ) (hnm : mI μ (s + 5 + 3 * m) 0 = nI w) (hw9 : w < 1073741824) (hP : SbP μ S) (hq : ∀ μ', FrB μ μ' → SbP μ' (wrW (rW r) m w) → Q (some (some (.int (nI (wrW (rW r) m w).1)))) μ') : Ev (d + 7) 95 [.ref 1000, .int (nI m)] μ Q := by
  have hW0 := hW
  obtain ⟨w0, w1, w2, w3, w4, w5, w6, w7, w8, w9, w10, w11, w12, w13, w14, w15⟩ := hW
  have hS0 := w12
  obtain ⟨q0, q1, q2, q3, q4, q5, q6, q7, q8, q9, q10, q11, q12, q13, q14, q15⟩ := w12
  have hB9 := hB
  obtain ⟨b1, b2, b3, b4, b5, b6, b7, b8⟩ := hB
  have hO0 := hO
  obtain ⟨o2, o6, o387, oT, o1708, oO, o1741, oF, o1, oq1, oq6, o0, ol1, ol40, oV, oN1, oP1, oF1⟩ := hO
  have hn : mI μ s 1 = nI (nM r) := b1.trans o2
  have hq9 : mI μ (s + 2) 1 = nI (nQ r) := b6.trans o1
  have hV := b7.ok' oV
  have hm6 : m < 6 := by omega
  have hc : ∀ i, i < 16 → ∃ v, v < 10000 ∧ rW r m (7 + i) = nI v ∧ mI μ (s + 6 + 3 * m) i = nI v := fun i hi => by
    obtain ⟨v, h1, h2⟩ := (oN1 m hm).2.2 i hi
    exact ⟨v, h1, h2, by rw [cvc (by omega)]; exact ((b7 m hm).1 _ (by omega)).trans h2⟩
  obtain ⟨v, cap, hb1, -⟩ := id hP
  have k0 := q11 m hm6
  have k1 := q12 m hm6
  have k2 := q14 m hm6
  have fin : ∀ (a b : Nat) (T : WP) (μ' : Mu), a ≤ 10 → b ≤ 1404 → T.1 ≤ 7 → FrB μ μ' → SbP μ' T → (∀ μ', FrB μ μ' → SbP μ' (clW (rW r) m T 16) → Q (some (some (.int (nI (clW (rW r) m T 16).1)))) μ') → EM 95 (d + 6) 54 [some (.ref 1000), some (.int (nI m)), some (.ref (s + 5 + 3 * m)), some (.int (nI 0))] [] μ' (a, b) Q := fun a b T μ' ha hb hT hf hPT hq => by
    have := l_95 (d := d + 1) (Q := Q) (μ := μ) (r := r) (s := s) (m := m) (S := T) ha hb hD w14 hm6 w0 w5 k0 k1 k2 hc (by omega) hq 16 0 μ' rfl hf hPT
    exact this
  rw [in_95]
  simp (disch := first | omega | rfl) only [e_95_0, e_95_1, e_95_2, e_95_5, e_95_6, e_95_7, e_95_10, e_95_11, e_95_14, e_95_15, e_95_18, e_95_21, e_95_22, e_95_25, e_95_27, e_95_30, e_95_31, e_95_34, e_95_35, e_95_36, e_95_39, e_95_42, e_95_43, e_95_46, e_95_48, e_95_51, e_95_52, e_95_53, e_95_55, e_95_57, e_95_60, e_95_61, e_95_64, e_95_66, e_95_69, e_95_70, e_95_71, e_95_74, e_95_75, e_95_78, e_95_79, e_95_80, e_95_83, e_95_84, e_95_87, e_95_90, e_95_91, e_95_94, e_95_97, w0, w1, w2, w3, w4, w5, w6, w7, w8, w9, w10, q1, q2, q3, q4, q5, q6, q7, q8, q9, q10, q11, q12, q13, q14, q15, b1, b2, b3, b4, b5, b6, o2, o387, o1708, o1741, o1, o0, ge1, ule_t, true_or, or_true, nI_add, nI_mul, nI_sub, nI_clamp, nI_lt_t, nI_lt_f, nI_le_t, nI_le_f, nI_eq_t, nI_eq_f, vp_nI, tI, fI, not_true, not_false_iff, true_and, and_true, Classical.not_not, mS_uI, mS_uA, mS_uJ, mS_uR, mS_uX, mR_uI, mR_uA, mR_uJ, mR_uX, mX_uI, mX_uA, mX_uJ, mX_uR, mI_s, mI_n, mI_A, mI_An, mI_uJ, mI_uR, mI_uX, mJ_uI, mJ_uA, mJ_uR, mJ_uX, onR_s, kC_v, kC_n, kC_t, ul0, ula1, ula2, ula3, ula4, ulb2, ulb3, ulb4, ulc2, ulc3, ulc4, ule4, ulf3, ulf4, c_150t hW0 hB9 hO0 hm, hb1.1, uk1, uk2]
  refine s_4 hb1 (fun μ1 hf1 hB1 => ?_)
  have hP1 : SbP μ1 (0, fun _ => 0) := ⟨v, cap, hB1, fun j hj => absurd hj (Nat.not_lt_zero j)⟩
  have j0 := hf1.2 1000 (by omega) (by omega) (by omega)
  have j1 : mS μ1 1000 = (11, 11) := j0.1.trans w0
  have j2 : mR μ1 1000 8 = some 1060 := (j0.2.2.1 8).trans w5
  have m0 := hf1.2 (s + 5 + 3 * m) (by omega) (by omega) (by omega)
  have j3 : mS μ1 (s + 5 + 3 * m) = (7, 10) := m0.1.trans k0
  have j4 : mI μ1 (s + 5 + 3 * m) 0 = nI w := (m0.2.1 0).trans hnm
  by_cases h0 : w = 0
  · subst h0
    have hwr : wrW (rW r) m 0 = clW (rW r) m (apC (apC (0, fun _ => 0) 42) 58) 16 := rfl
    rw [hwr] at hq
    simp (disch := first | omega | rfl) only [e_95_0, e_95_1, e_95_2, e_95_5, e_95_6, e_95_7, e_95_10, e_95_11, e_95_14, e_95_15, e_95_18, e_95_21, e_95_22, e_95_25, e_95_27, e_95_30, e_95_31, e_95_34, e_95_35, e_95_36, e_95_39, e_95_42, e_95_43, e_95_46, e_95_48, e_95_51, e_95_52, e_95_53, e_95_55, e_95_57, e_95_60, e_95_61, e_95_64, e_95_66, e_95_69, e_95_70, e_95_71, e_95_74, e_95_75, e_95_78, e_95_79, e_95_80, e_95_83, e_95_84, e_95_87, e_95_90, e_95_91, e_95_94, e_95_97, ge1, ule_t, true_or, or_true, nI_add, nI_mul, nI_sub, nI_clamp, nI_lt_t, nI_lt_f, nI_le_t, nI_le_f, nI_eq_t, nI_eq_f, vp_nI, tI, fI, not_true, not_false_iff, true_and, and_true, Classical.not_not, mS_uI, mS_uA, mS_uJ, mS_uR, mS_uX, mR_uI, mR_uA, mR_uJ, mR_uX, mX_uI, mX_uA, mX_uJ, mX_uR, mI_s, mI_n, mI_A, mI_An, mI_uJ, mI_uR, mI_uX, mJ_uI, mJ_uA, mJ_uR, mJ_uX, onR_s, kC_v, kC_n, kC_t, ul0, ula1, ula2, ula3, ula4, ulb2, ulb3, ulb4, ulc2, ulc3, ulc4, ule4, ulf3, ulf4, uk1, uk2, uk3, uk4, uk5, uk6, kC_n, j1, j2, j3, j4, hP1.sh]
    refine hP1.chr (by show 0 < 87; omega) (by omega) (fun μ2 hf2 hP2 => ?_)
    have i0 := (hf1.trans hf2).2 1000 (by omega) (by omega) (by omega)
    have i1 : mS μ2 1000 = (11, 11) := i0.1.trans w0
    have i2 : mR μ2 1000 8 = some 1060 := (i0.2.2.1 8).trans w5
    simp (disch := first | omega | rfl) only [e_95_0, e_95_1, e_95_2, e_95_5, e_95_6, e_95_7, e_95_10, e_95_11, e_95_14, e_95_15, e_95_18, e_95_21, e_95_22, e_95_25, e_95_27, e_95_30, e_95_31, e_95_34, e_95_35, e_95_36, e_95_39, e_95_42, e_95_43, e_95_46, e_95_48, e_95_51, e_95_52, e_95_53, e_95_55, e_95_57, e_95_60, e_95_61, e_95_64, e_95_66, e_95_69, e_95_70, e_95_71, e_95_74, e_95_75, e_95_78, e_95_79, e_95_80, e_95_83, e_95_84, e_95_87, e_95_90, e_95_91, e_95_94, e_95_97, ge1, ule_t, true_or, or_true, nI_add, nI_mul, nI_sub, nI_clamp, nI_lt_t, nI_lt_f, nI_le_t, nI_le_f, nI_eq_t, nI_eq_f, vp_nI, tI, fI, not_true, not_false_iff, true_and, and_true, Classical.not_not, mS_uI, mS_uA, mS_uJ, mS_uR, mS_uX, mR_uI, mR_uA, mR_uJ, mR_uX, mX_uI, mX_uA, mX_uJ, mX_uR, mI_s, mI_n, mI_A, mI_An, mI_uJ, mI_uR, mI_uX, mJ_uI, mJ_uA, mJ_uR, mJ_uX, onR_s, kC_v, kC_n, kC_t, ul0, ula1, ula2, ula3, ula4, ulb2, ulb3, ulb4, ulc2, ulc3, ulc4, ule4, ulf3, ulf4, uk1, uk2, uk3, uk4, uk5, uk6, kC_v, i1, i2, hP2.sh]
    refine hP2.chr (by show 0 + 1 < 87; omega) (by omega) (fun μ3 hf3 hP3 => ?_)
    simp (disch := first | omega | rfl) only [e_95_0, e_95_1, e_95_2, e_95_5, e_95_6, e_95_7, e_95_10, e_95_11, e_95_14, e_95_15, e_95_18, e_95_21, e_95_22, e_95_25, e_95_27, e_95_30, e_95_31, e_95_34, e_95_35, e_95_36, e_95_39, e_95_42, e_95_43, e_95_46, e_95_48, e_95_51, e_95_52, e_95_53, e_95_55, e_95_57, e_95_60, e_95_61, e_95_64, e_95_66, e_95_69, e_95_70, e_95_71, e_95_74, e_95_75, e_95_78, e_95_79, e_95_80, e_95_83, e_95_84, e_95_87, e_95_90, e_95_91, e_95_94, e_95_97, ge1, ule_t, true_or, or_true, nI_add, nI_mul, nI_sub, nI_clamp, nI_lt_t, nI_lt_f, nI_le_t, nI_le_f, nI_eq_t, nI_eq_f, vp_nI, tI, fI, not_true, not_false_iff, true_and, and_true, Classical.not_not, mS_uI, mS_uA, mS_uJ, mS_uR, mS_uX, mR_uI, mR_uA, mR_uJ, mR_uX, mX_uI, mX_uA, mX_uJ, mX_uR, mI_s, mI_n, mI_A, mI_An, mI_uJ, mI_uR, mI_uX, mJ_uI, mJ_uA, mJ_uR, mJ_uX, onR_s, kC_v, kC_n, kC_t, ul0, ula1, ula2, ula3, ula4, ulb2, ulb3, ulb4, ulc2, ulc3, ulc4, ule4, ulf3, ulf4, uk1, uk2, uk3, uk4, uk5, uk6, kC_v]
    exact fin 5 534 _ μ3 (by omega) (by omega) (by show 0 + 1 + 1 ≤ 7; omega) ((hf1.trans hf2).trans hf3) hP3 hq
  · have hwr : wrW (rW r) m w = clW (rW r) m (apC (nlW w (0, fun _ => 0) 6) 58) 16 := by unfold wrW nm0; rw [if_neg h0]
    rw [hwr] at hq
    have hle := nlW_le (w := w) (s := (0, fun _ => 0)) 6
    have hle6 : (nlW w (0, fun _ => 0) 6).1 ≤ 6 := by simpa using hle
    simp (disch := first | omega | rfl) only [e_95_0, e_95_1, e_95_2, e_95_5, e_95_6, e_95_7, e_95_10, e_95_11, e_95_14, e_95_15, e_95_18, e_95_21, e_95_22, e_95_25, e_95_27, e_95_30, e_95_31, e_95_34, e_95_35, e_95_36, e_95_39, e_95_42, e_95_43, e_95_46, e_95_48, e_95_51, e_95_52, e_95_53, e_95_55, e_95_57, e_95_60, e_95_61, e_95_64, e_95_66, e_95_69, e_95_70, e_95_71, e_95_74, e_95_75, e_95_78, e_95_79, e_95_80, e_95_83, e_95_84, e_95_87, e_95_90, e_95_91, e_95_94, e_95_97, ge1, ule_t, true_or, or_true, nI_add, nI_mul, nI_sub, nI_clamp, nI_lt_t, nI_lt_f, nI_le_t, nI_le_f, nI_eq_t, nI_eq_f, vp_nI, tI, fI, not_true, not_false_iff, true_and, and_true, Classical.not_not, mS_uI, mS_uA, mS_uJ, mS_uR, mS_uX, mR_uI, mR_uA, mR_uJ, mR_uX, mX_uI, mX_uA, mX_uJ, mX_uR, mI_s, mI_n, mI_A, mI_An, mI_uJ, mI_uR, mI_uX, mJ_uI, mJ_uA, mJ_uR, mJ_uX, onR_s, kC_v, kC_n, kC_t, ul0, ula1, ula2, ula3, ula4, ulb2, ulb3, ulb4, ulc2, ulc3, ulc4, ule4, ulf3, ulf4, uk1, uk2, uk3, uk4, uk5, uk6, kC_n, j1, j2, j3, j4, h0]
    refine s_96 j1 j2 hw9 (by show 0 + 6 ≤ 87; omega) hP1 (fun μ2 hf2 hP2 => ?_)
    have i0 := (hf1.trans hf2).2 1000 (by omega) (by omega) (by omega)
    have i1 : mS μ2 1000 = (11, 11) := i0.1.trans w0
    have i2 : mR μ2 1000 8 = some 1060 := (i0.2.2.1 8).trans w5
    simp (disch := first | omega | rfl) only [e_95_0, e_95_1, e_95_2, e_95_5, e_95_6, e_95_7, e_95_10, e_95_11, e_95_14, e_95_15, e_95_18, e_95_21, e_95_22, e_95_25, e_95_27, e_95_30, e_95_31, e_95_34, e_95_35, e_95_36, e_95_39, e_95_42, e_95_43, e_95_46, e_95_48, e_95_51, e_95_52, e_95_53, e_95_55, e_95_57, e_95_60, e_95_61, e_95_64, e_95_66, e_95_69, e_95_70, e_95_71, e_95_74, e_95_75, e_95_78, e_95_79, e_95_80, e_95_83, e_95_84, e_95_87, e_95_90, e_95_91, e_95_94, e_95_97, ge1, ule_t, true_or, or_true, nI_add, nI_mul, nI_sub, nI_clamp, nI_lt_t, nI_lt_f, nI_le_t, nI_le_f, nI_eq_t, nI_eq_f, vp_nI, tI, fI, not_true, not_false_iff, true_and, and_true, Classical.not_not, mS_uI, mS_uA, mS_uJ, mS_uR, mS_uX, mR_uI, mR_uA, mR_uJ, mR_uX, mX_uI, mX_uA, mX_uJ, mX_uR, mI_s, mI_n, mI_A, mI_An, mI_uJ, mI_uR, mI_uX, mJ_uI, mJ_uA, mJ_uR, mJ_uX, onR_s, kC_v, kC_n, kC_t, ul0, ula1, ula2, ula3, ula4, ulb2, ulb3, ulb4, ulc2, ulc3, ulc4, ule4, ulf3, ulf4, uk1, uk2, uk3, uk4, uk5, uk6, kC_n, kC_v, i1, i2, hP2.sh]
    refine hP2.chr (by omega) (by omega) (fun μ3 hf3 hP3 => ?_)
    simp (disch := first | omega | rfl) only [e_95_0, e_95_1, e_95_2, e_95_5, e_95_6, e_95_7, e_95_10, e_95_11, e_95_14, e_95_15, e_95_18, e_95_21, e_95_22, e_95_25, e_95_27, e_95_30, e_95_31, e_95_34, e_95_35, e_95_36, e_95_39, e_95_42, e_95_43, e_95_46, e_95_48, e_95_51, e_95_52, e_95_53, e_95_55, e_95_57, e_95_60, e_95_61, e_95_64, e_95_66, e_95_69, e_95_70, e_95_71, e_95_74, e_95_75, e_95_78, e_95_79, e_95_80, e_95_83, e_95_84, e_95_87, e_95_90, e_95_91, e_95_94, e_95_97, ge1, ule_t, true_or, or_true, nI_add, nI_mul, nI_sub, nI_clamp, nI_lt_t, nI_lt_f, nI_le_t, nI_le_f, nI_eq_t, nI_eq_f, vp_nI, tI, fI, not_true, not_false_iff, true_and, and_true, Classical.not_not, mS_uI, mS_uA, mS_uJ, mS_uR, mS_uX, mR_uI, mR_uA, mR_uJ, mR_uX, mX_uI, mX_uA, mX_uJ, mX_uR, mI_s, mI_n, mI_A, mI_An, mI_uJ, mI_uR, mI_uX, mJ_uI, mJ_uA, mJ_uR, mJ_uX, onR_s, kC_v, kC_n, kC_t, ul0, ula1, ula2, ula3, ula4, ulb2, ulb3, ulb4, ulc2, ulc3, ulc4, ule4, ulf3, ulf4, uk1, uk2, uk3, uk4, uk5, uk6, kC_v]
    exact fin 10 1404 _ μ3 (by omega) (by omega) (by show (nlW w (0, fun _ => 0) 6).1 + 1 ≤ 7; omega) ((hf1.trans hf2).trans hf3) hP3 hq
end WrC

/-! what stands when only the builder changes -/
section FB
variable {μ μ' : Mu} {a s c u n m k : Nat} {r tn : Nat → Int32} {pr : Nat → Nat → Int32}
theorem FrB.S (hf : FrB μ μ') (h : a < 1060 ∨ (1062 ≤ a ∧ a < 1310)) : mS μ' a = mS μ a := (hf.2 a (by omega) (by omega) (by omega)).1
theorem FrB.I (hf : FrB μ μ') (h : a < 1060 ∨ (1062 ≤ a ∧ a < 1310)) (k : Nat) : mI μ' a k = mI μ a k := (hf.2 a (by omega) (by omega) (by omega)).2.1 k
theorem FrB.R (hf : FrB μ μ') (h : a < 1060 ∨ (1062 ≤ a ∧ a < 1310)) (k : Nat) : mR μ' a k = mR μ a k := (hf.2 a (by omega) (by omega) (by omega)).2.2.1 k
theorem FrB.st (hf : FrB μ μ') (hs : s + 22 < 1060 ∨ (1062 ≤ s ∧ s + 22 < 1310)) (h : StS μ s) : StS μ' s := by
  obtain ⟨q0, q1, q2, q3, q4, q5, q6, q7, q8, q9, q10, q11, q12, q13, q14, q15⟩ := h
  exact ⟨q0, by rw [hf.S (by omega)]; exact q1, by rw [hf.R (by omega)]; exact q2, by rw [hf.R (by omega)]; exact q3, by rw [hf.R (by omega)]; exact q4, by rw [hf.S (by omega)]; exact q5, by rw [hf.S (by omega)]; exact q6, by rw [hf.S (by omega)]; exact q7, by rw [hf.R (by omega)]; exact q8, by rw [hf.S (by omega)]; exact q9, fun m hm => by rw [hf.R (by omega)]; exact q10 m hm, fun m hm => by rw [hf.S (by omega)]; exact q11 m hm, fun m hm => by rw [hf.R (by omega)]; exact q12 m hm, fun m hm => by rw [hf.R (by omega)]; exact q13 m hm, fun m hm => by rw [hf.S (by omega)]; exact q14 m hm, fun m hm => by rw [hf.S (by omega)]; exact q15 m hm⟩
theorem FrB.sc (hf : FrB μ μ') (hs : c + 4 < 1060) (h : ScS μ c) : ScS μ' c := by
  obtain ⟨r0, r1, r2, r3, r4, r5, r6, r7, r8, r9⟩ := h
  exact ⟨r0, by rw [hf.S (by omega)]; exact r1, by rw [hf.R (by omega)]; exact r2, by rw [hf.R (by omega)]; exact r3, by rw [hf.R (by omega)]; exact r4, by rw [hf.R (by omega)]; exact r5, by rw [hf.S (by omega)]; exact r6, by rw [hf.S (by omega)]; exact r7, by rw [hf.S (by omega)]; exact r8, by rw [hf.S (by omega)]; exact r9⟩
theorem FrB.sd (hf : FrB μ μ') (h : ShD μ) : ShD μ' := by
  obtain ⟨d0, d1, d2, d3, d4, d5, d6, d7, d8⟩ := h
  exact ⟨by rw [hf.S (by omega)]; exact d0, by rw [hf.R (by omega)]; exact d1, by rw [hf.R (by omega)]; exact d2, by rw [hf.S (by omega)]; exact d3, by rw [hf.S (by omega)]; exact d4, by rw [hf.R (by omega)]; exact d5, by rw [hf.R (by omega)]; exact d6, by rw [hf.S (by omega)]; exact d7, by rw [hf.S (by omega)]; exact d8⟩
theorem FrB.sr (hf : FrB μ μ') (h : ShR μ s c) : ShR μ' s c := by
  obtain ⟨w0, w1, w2, w3, w4, w5, w6, w7, w8, w9, w10, w11, w12, w13, w14, w15⟩ := h
  exact ⟨by rw [hf.S (by omega)]; exact w0, by rw [hf.R (by omega)]; exact w1, by rw [hf.R (by omega)]; exact w2, by rw [hf.R (by omega)]; exact w3, by rw [hf.R (by omega)]; exact w4, by rw [hf.R (by omega)]; exact w5, by rw [hf.R (by omega)]; exact w6, by rw [hf.R (by omega)]; exact w7, by rw [hf.S (by omega)]; exact w8, by rw [hf.S (by omega)]; exact w9, fun i hi => by rw [hf.R (by omega)]; exact w10 i hi, hf.sd w11, hf.st (by omega) w12, hf.sc (by omega) w13, w14, w15⟩
theorem FrB.sm (hf : FrB μ μ') (h : ShM μ) : ShM μ' := by
  obtain ⟨p1, p2, p3, p4, p5, p6, p7, p8, p9, p10, p11, p12, p13, p14, p15, p16, p17, p18, p19, p20, p21⟩ := h
  exact ⟨by rw [hf.S (by omega)]; exact p1, by rw [hf.R (by omega)]; exact p2, by rw [hf.R (by omega)]; exact p3, by rw [hf.R (by omega)]; exact p4, by rw [hf.R (by omega)]; exact p5, by rw [hf.R (by omega)]; exact p6, by rw [hf.R (by omega)]; exact p7, by rw [hf.R (by omega)]; exact p8, by rw [hf.R (by omega)]; exact p9, by rw [hf.R (by omega)]; exact p10, by rw [hf.R (by omega)]; exact p11, by rw [hf.S (by omega)]; exact p12, by rw [hf.S (by omega)]; exact p13, by rw [hf.S (by omega)]; exact p14, by rw [hf.S (by omega)]; exact p15, by rw [hf.S (by omega)]; exact p16, by rw [hf.S (by omega)]; exact p17, by rw [hf.S (by omega)]; exact p18, by rw [hf.S (by omega)]; exact p19, by rw [hf.S (by omega)]; exact p20, by rw [hf.S (by omega)]; exact p21⟩
theorem FrB.ci (hf : FrB μ μ') (hI : CI μ s c r u pr tn) (h6 : nM r ≤ 6) (hu : u ≤ 10) (hP : ∀ j, j < u → nM (pr j) ≤ 6) : CI μ' s c r u pr tn := by
  obtain ⟨hW, hRS, hN, hC, hE, k4, l, hl, k3, hR⟩ := hI
  have hW0 := hW
  obtain ⟨w0, w1, w2, w3, w4, w5, w6, w7, w8, w9, w10, w11, w12, w13, w14, w15⟩ := hW
  refine ⟨hf.sr hW0, fun i hi => hf.st (by omega) (hRS i hi), hN.fr h6 (fun a h1 h2 k => hf.I (by omega) k), hC.mu (fun a h1 h2 k => hf.I (by omega) k), fun k hk => (hf.I (by omega) k).trans (hE k hk), (hf.I (by omega) 4).trans k4, l, hl, (hf.I (by omega) 3).trans k3, fun i hi => ?_⟩
  obtain ⟨g1, g2⟩ := hR i hi
  have hm : (l + 10 - i) % 10 < 10 := Nat.mod_lt _ (by omega)
  exact ⟨g1.fr (hP _ (by omega)) (fun a h1 h2 k => hf.I (by omega) k), g2.mu (fun a h1 h2 k => hf.I (by omega) k)⟩
end FB

