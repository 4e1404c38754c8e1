/-! the library: index checks, texts, the builder -/
theorem ofI {n : Nat} : Int32.ofNat n = nI n := rfl
theorem c16 : ∀ c, c < 256 → ((nI c).toUInt32 % 65536).toInt32 = nI c := by decide +kernel
theorem c255 : ∀ c, c < 256 → nI c &&& nI 255 = nI c := by decide +kernel
theorem c8i : ∀ c, c < 128 → (nI c).toInt8.toInt32 = nI c := by decide +kernel
theorem mS_uN {μ : Mu} {k n b : Nat} (h : b ≠ mX μ) : mS (uN μ k n) b = mS μ b := if_neg h
theorem mS_uNs {μ : Mu} {k n : Nat} : mS (uN μ k n) (mX μ) = (k, n) := if_pos rfl
theorem mI_uN {μ : Mu} {k n b j : Nat} (h : b ≠ mX μ) : mI (uN μ k n) b j = mI μ b j := if_neg h
theorem mR_uN {μ : Mu} {k n b j : Nat} (h : b ≠ mX μ) : mR (uN μ k n) b j = mR μ b j := if_neg h
theorem mJ_uN {μ : Mu} {k n b j : Nat} (h : b ≠ mX μ) : mJ (uN μ k n) b j = mJ μ b j := if_neg h
theorem mX_uN {μ : Mu} {k n : Nat} : mX (uN μ k n) = mX μ + 1 := rfl
theorem nI_sub0 {a b : Nat} (h : a ≤ b) (hb : b < 2147483648) : (nI a - nI b ≤ nI 0) = True := by
  apply eq_true
  apply Int32.le_iff_toInt_le.mpr
  rw [Int32.toInt_sub, nI_toInt (by omega), nI_toInt hb, nI_toInt (by omega), Int.bmod_def]
  split <;> omega
theorem mR_sR {μ : Mu} {a k : Nat} {v : Option Nat} : mR (uR μ a k v) a k = v := if_pos ⟨rfl, rfl⟩
theorem oneZ : ((1 : Int32) = nI 0) = False := eq_false (by decide)
theorem uk1 : ule (uad (0, 0) (1, 6)) (42, 7140) = True := ule_t rfl
theorem uk2 : ule (uad (uad (0, 0) (1, 6)) (2, 180)) (42, 7140) = True := ule_t rfl
theorem uk3 : ule (uad (uad (uad (0, 0) (1, 6)) (2, 180)) (1, 174)) (42, 7140) = True := ule_t rfl
theorem uk4 : ule (uad (uad (uad (uad (0, 0) (1, 6)) (2, 180)) (1, 174)) (1, 174)) (42, 7140) = True := ule_t rfl
theorem uk5 : ule (uad (uad (uad (0, 0) (1, 6)) (2, 180)) (6, 1044)) (42, 7140) = True := ule_t rfl
theorem uk6 : ule (uad (uad (uad (uad (0, 0) (1, 6)) (2, 180)) (6, 1044)) (1, 174)) (42, 7140) = True := ule_t rfl
section Jdk
variable {d : Nat} {Q : Po} {μ : Mu} {a b c n k i j t v cap N : Nat} {x y z : Int32} {l0 l1 l2 : Option Value}
theorem in_28n : Ev (d + 1) 28 [.int x, .int y, .null] μ Q = EM 28 d 0 [some (.int x), some (.int y), some .null] [] μ (0, 0) Q := propext ⟨fun h => h.2.2, fun h => ⟨rfl, by simp [Value.category], h⟩⟩
theorem e_22_5n : EM 22 d 5 [l0, l1] [.null, .int x, .int y] μ (0, 0) Q = (Ev d 28 [.int y, .int x, .null] μ (kC (fun s2 μ2 => EM 22 d 8 [l0, l1] s2 μ2 (0, 0) Q) [] (TT 22 d 5 [l0, l1] (0, 0) Q))) := ((EMs minfo_22 (by decide +kernel : decode cJ0_checkIndex_df160 5 = .ok (.invokestatic 1059, 3)) rfl)).trans (propext ⟨fun h => h.2.2.2, fun h => ⟨zlb rfl, ⟨zlb rfl, hokI (zlb rfl) (zlb rfl)⟩, zub rfl rfl, h⟩⟩)
theorem s_28 (hk : k < n) (hn : n < 2147483648) : Ev (d + 1) 28 [.int (nI k), .int (nI n), .ref a] μ Q = Q (some (some (.int (nI k)))) μ := by
  rw [in_28]
  simp (disch := first | omega | rfl) only [e_28_0, e_28_1, e_28_4, e_28_5, e_28_6, e_28_9, e_28_10, e_28_11, e_28_16, e_28_17, ge1, ule_t, true_or, or_true, nI_add, nI_mul, nI_sub, nI_clamp, nI_lt_t, nI_lt_f, nI_le_t, nI_le_f, nI_eq_t, nI_eq_f, vp_nI, tI, fI, not_true, not_false_iff, true_and, and_true, Classical.not_not]
theorem s_28n (hk : k < n) (hn : n < 2147483648) : Ev (d + 1) 28 [.int (nI k), .int (nI n), .null] μ Q = Q (some (some (.int (nI k)))) μ := by
  rw [in_28n]
  simp (disch := first | omega | rfl) only [e_28_0, e_28_1, e_28_4, e_28_5, e_28_6, e_28_9, e_28_10, e_28_11, e_28_16, e_28_17, ge1, ule_t, true_or, or_true, nI_add, nI_mul, nI_sub, nI_clamp, nI_lt_t, nI_lt_f, nI_le_t, nI_le_f, nI_eq_t, nI_eq_f, vp_nI, tI, fI, not_true, not_false_iff, true_and, and_true, Classical.not_not]
theorem s_22 (hk : k < n) (hn : n < 2147483648) : Ev (d + 2) 22 [.int (nI k), .int (nI n)] μ Q = Q (some none) μ := by
  rw [in_22]
  simp (disch := first | omega | rfl) only [e_22_0, e_22_1, e_22_2, e_22_5, e_22_8, e_22_9, e_22_5n, ge1, ule_t, true_or, or_true, nI_add, nI_mul, nI_sub, nI_clamp, nI_lt_t, nI_lt_f, nI_le_t, nI_le_f, nI_eq_t, nI_eq_f, vp_nI, tI, fI, not_true, not_false_iff, true_and, and_true, Classical.not_not, s_28 hk hn, s_28n hk hn, kC_v, and_self]
theorem s_24 (hS : mS μ v = (21, n)) (hn : n < 2147483648) (hk : k < n) (hv : mI μ v k = nI c) (hc : c < 128) : Ev (d + 3) 24 [.ref v, .int (nI k)] μ Q = Q (some (some (.int (nI c)))) μ := by
  rw [in_24]
  simp (disch := first | omega | rfl) only [e_24_0, e_24_1, e_24_2, e_24_3, e_24_6, e_24_7, e_24_8, e_24_9, e_24_12, e_24_13, e_24_14, ge1, ule_t, true_or, or_true, nI_add, nI_mul, nI_sub, nI_clamp, nI_lt_t, nI_lt_f, nI_le_t, nI_le_f, nI_eq_t, nI_eq_f, vp_nI, tI, fI, not_true, not_false_iff, true_and, and_true, Classical.not_not, mS_uI, mS_uA, mS_uJ, mS_uR, mS_uX, mR_uI, mR_uA, mR_uJ, mR_uX, mX_uI, mX_uA, mX_uJ, mX_uR, mI_s, mI_n, mI_A, mI_An, mI_uJ, mI_uR, mI_uX, mJ_uI, mJ_uA, mJ_uR, mJ_uX, onR_s, kC_v, kC_n, kC_t, hS, ofI, s_22 hk hn, hv, c255, c16, Nat.reduceLeDiff]
/-- a constant text -/
def TxS (μ : Mu) (a v n : Nat) : Prop := mS μ a = (0, 4) ∧ mR μ a 0 = some v ∧ mI μ a 1 = nI 0 ∧ mS μ v = (21, n)
theorem s_19 (hT : TxS μ a v n) (hn : n < 2147483648) (hk : k < n) (hv : mI μ v k = nI c) (hc : c < 128) : Ev (d + 4) 19 [.ref a, .int (nI k)] μ Q = Q (some (some (.int (nI c)))) μ := by
  obtain ⟨t1, t2, t3, t4⟩ := hT
  rw [in_19]
  simp (disch := first | omega | rfl) only [e_19_0, e_19_1, e_19_4, e_19_7, e_19_8, e_19_11, e_19_12, e_19_15, e_19_16, e_19_17, e_19_20, e_21_0, e_21_3, e_21_6, e_21_7, e_21_10, e_21_13, e_21_14, e_21_17, e_21_18, in_21, ge1, ule_t, true_or, or_true, nI_add, nI_mul, nI_sub, nI_clamp, nI_lt_t, nI_lt_f, nI_le_t, nI_le_f, nI_eq_t, nI_eq_f, vp_nI, tI, fI, not_true, not_false_iff, true_and, and_true, Classical.not_not, mS_uI, mS_uA, mS_uJ, mS_uR, mS_uX, mR_uI, mR_uA, mR_uJ, mR_uX, mX_uI, mX_uA, mX_uJ, mX_uR, mI_s, mI_n, mI_A, mI_An, mI_uJ, mI_uR, mI_uX, mJ_uI, mJ_uA, mJ_uR, mJ_uX, onR_s, kC_v, kC_n, kC_t, t1, t2, t3, s_24 t4 hn hk hv hc, c16, oneZ]
theorem s_18 (hT : TxS μ a v n) (hn : n < 2147483648) : Ev (d + 2) 18 [.ref a] μ Q = Q (some (some (.int (nI n)))) μ := by
  obtain ⟨t1, t2, t3, t4⟩ := hT
  rw [in_18]
  simp (disch := first | omega | rfl) only [e_18_0, e_18_1, e_18_4, e_18_5, e_18_6, e_18_9, e_18_10, e_20_0, e_20_3, e_20_6, e_20_7, e_20_10, e_20_13, e_20_14, in_20, ge1, ule_t, true_or, or_true, nI_add, nI_mul, nI_sub, nI_clamp, nI_lt_t, nI_lt_f, nI_le_t, nI_le_f, nI_eq_t, nI_eq_f, vp_nI, tI, fI, not_true, not_false_iff, true_and, and_true, Classical.not_not, mS_uI, mS_uA, mS_uJ, mS_uR, mS_uX, mR_uI, mR_uA, mR_uJ, mR_uX, mX_uI, mX_uA, mX_uJ, mX_uR, mI_s, mI_n, mI_A, mI_An, mI_uJ, mI_uR, mI_uX, mJ_uI, mJ_uA, mJ_uR, mJ_uX, onR_s, kC_v, kC_n, kC_t, t1, t2, t3, t4, ofI, nI_shr, Nat.pow_zero, Nat.div_one, Nat.reduceLeDiff, oneZ, c8i]
theorem s_23 (hc : c < 256) : Ev (d + 1) 23 [.int (nI c)] μ Q = Q (some (some (.int (nI 1)))) μ := by
  rw [in_23]
  simp (disch := first | omega | rfl) only [e_23_0, e_23_1, e_23_4, e_23_7, e_23_8, e_23_11, e_23_12, ge1, ule_t, true_or, or_true, nI_add, nI_mul, nI_sub, nI_clamp, nI_lt_t, nI_lt_f, nI_le_t, nI_le_f, nI_eq_t, nI_eq_f, vp_nI, tI, fI, not_true, not_false_iff, true_and, and_true, Classical.not_not]
theorem s_27 (h : b ≤ c) (hc0 : 0 < a + c) (hc : a + c < 2147483640) : Ev (d + 1) 27 [.int (nI a), .int (nI b), .int (nI c)] μ Q = Q (some (some (.int (nI (a + c))))) μ := by
  rw [in_27]
  by_cases h1 : b < c
  · simp (disch := first | omega | rfl) only [e_27_0, e_27_1, e_27_2, e_27_3, e_27_6, e_27_7, e_27_8, e_27_9, e_27_10, e_27_13, e_27_14, e_27_16, e_27_19, e_27_20, e_27_21, e_27_22, ge1, ule_t, true_or, or_true, nI_add, nI_mul, nI_sub, nI_clamp, nI_lt_t, nI_lt_f, nI_le_t, nI_le_f, nI_eq_t, nI_eq_f, vp_nI, tI, fI, not_true, not_false_iff, true_and, and_true, Classical.not_not, ite_true, ite_false, if_pos (show nI b < nI c from nI_lt h1 (by omega))]
  · obtain rfl : b = c := by omega
    simp (disch := first | omega | rfl) only [e_27_0, e_27_1, e_27_2, e_27_3, e_27_6, e_27_7, e_27_8, e_27_9, e_27_10, e_27_13, e_27_14, e_27_16, e_27_19, e_27_20, e_27_21, e_27_22, ge1, ule_t, true_or, or_true, nI_add, nI_mul, nI_sub, nI_clamp, nI_lt_t, nI_lt_f, nI_le_t, nI_le_f, nI_eq_t, nI_eq_f, vp_nI, tI, fI, not_true, not_false_iff, true_and, and_true, Classical.not_not, ite_self]
end Jdk

/-! reading the output -/
section OutC
variable {d : Nat} {Q : Po} {μ : Mu} {s c n k i j v cap ch : Nat} {x y z : Int32} {l0 l1 l2 : Option Value}
end OutC

/-! numbers written -/
def fNd (x : Nat) : Nat := if x < 10 then 1 else if x < 100 then 2 else if x < 1000 then 3 else 4
def fDg (x j : Nat) : Nat := 48 + x / 10 ^ (fNd x - 1 - j) % 10
theorem nn_lt {a b : Nat} (ha : a < 2147483648) (hb : b < 2147483648) : (-nI a < -nI b) = (b < a) := by
  apply propext
  rw [Int32.lt_iff_toInt_lt, Int32.toInt_neg, Int32.toInt_neg, nI_toInt ha, nI_toInt hb, Int.bmod_def, Int.bmod_def]
  constructor
  · intro h
    split at h <;> split at h <;> omega
  · intro h
    split <;> split <;> omega
theorem nn_le {a b : Nat} (ha : a < 2147483648) (hb : b < 2147483648) : (-nI a ≤ -nI b) = (b ≤ a) := by
  apply propext
  rw [Int32.le_iff_toInt_le, Int32.toInt_neg, Int32.toInt_neg, nI_toInt ha, nI_toInt hb, Int.bmod_def, Int.bmod_def]
  constructor
  · intro h
    split at h <;> split at h <;> omega
  · intro h
    split <;> split <;> omega
theorem k10 : (-10 : Int32) = -nI 10 := by decide
theorem k9 : (-9 : Int32) = -nI 9 := by decide
theorem k100 : (-100 : Int32) = -nI 100 := by decide
theorem k10a : nI 10 * -nI 10 = -nI 100 := by decide
theorem k10b : nI 10 * -nI 100 = -nI 1000 := by decide
theorem k10c : nI 10 * -nI 1000 = -nI 10000 := by decide
theorem nd_0 : ∀ q, q < 20 → ∀ i, i < 100 → -nI (100 * q + i) / nI 100 = -nI q ∧ -nI q * nI 100 - -nI (100 * q + i) = nI i := by decide +kernel
theorem nd_1 : ∀ q, q < 20 → ∀ i, i < 100 → -nI (100 * (20 + q) + i) / nI 100 = -nI (20 + q) ∧ -nI (20 + q) * nI 100 - -nI (100 * (20 + q) + i) = nI i := by decide +kernel
theorem nd_2 : ∀ q, q < 20 → ∀ i, i < 100 → -nI (100 * (40 + q) + i) / nI 100 = -nI (40 + q) ∧ -nI (40 + q) * nI 100 - -nI (100 * (40 + q) + i) = nI i := by decide +kernel
theorem nd_3 : ∀ q, q < 20 → ∀ i, i < 100 → -nI (100 * (60 + q) + i) / nI 100 = -nI (60 + q) ∧ -nI (60 + q) * nI 100 - -nI (100 * (60 + q) + i) = nI i := by decide +kernel
theorem nd_4 : ∀ q, q < 20 → ∀ i, i < 100 → -nI (100 * (80 + q) + i) / nI 100 = -nI (80 + q) ∧ -nI (80 + q) * nI 100 - -nI (100 * (80 + q) + i) = nI i := by decide +kernel
theorem nd_all (x : Nat) (h : x < 10000) : -nI x / nI 100 = -nI (x / 100) ∧ -nI (x / 100) * nI 100 - -nI x = nI (x % 100) := by
  have e : x = 100 * (x / 100) + x % 100 := by omega
  have hi : x % 100 < 100 := by omega
  rcases (by omega : x / 100 < 20 ∨ (20 ≤ x / 100 ∧ x / 100 < 40) ∨ (40 ≤ x / 100 ∧ x / 100 < 60) ∨ (60 ≤ x / 100 ∧ x / 100 < 80) ∨ (80 ≤ x / 100 ∧ x / 100 < 100)) with h1 | h1 | h1 | h1 | h1
  · have := nd_0 (x / 100) h1 (x % 100) hi
    rw [← e] at this; exact this
  · have := nd_1 (x / 100 - 20) (by omega) (x % 100) hi
    rw [show 20 + (x / 100 - 20) = x / 100 by omega, ← e] at this; exact this
  · have := nd_2 (x / 100 - 40) (by omega) (x % 100) hi
    rw [show 40 + (x / 100 - 40) = x / 100 by omega, ← e] at this; exact this
  · have := nd_3 (x / 100 - 60) (by omega) (x % 100) hi
    rw [show 60 + (x / 100 - 60) = x / 100 by omega, ← e] at this; exact this
  · have := nd_4 (x / 100 - 80) (by omega) (x % 100) hi
    rw [show 80 + (x / 100 - 80) = x / 100 by omega, ← e] at this; exact this
section NumC
variable {d : Nat} {Q : Po} {μ : Mu} {a b c n k i j t v cap N x : Nat} {y z : Int32} {l0 l1 l2 : Option Value}
theorem s_16 (hx : x < 10000) : Ev (d + 1) 16 [.int (nI x)] μ Q = Q (some (some (.int (nI (fNd x))))) μ := by
  rw [in_16]
  simp (disch := first | omega | rfl) only [e_16_0, e_16_1, e_16_2, e_16_3, e_16_6, e_16_7, e_16_8, e_16_9, e_16_10, e_16_11, e_16_13, e_16_14, e_16_15, e_16_17, e_16_19, e_16_22, e_16_23, e_16_24, e_16_27, e_16_28, e_16_29, e_16_30, e_16_31, e_16_33, e_16_34, e_16_35, e_16_36, e_16_39, e_16_42, e_16_44, e_16_45, e_16_46, ge1, ule_t, true_or, or_true, nI_add, nI_mul, nI_sub, nI_clamp, nI_lt_t, nI_lt_f, nI_le_t, nI_le_f, nI_eq_t, nI_eq_f, vp_nI, tI, fI, not_true, not_false_iff, true_and, and_true, Classical.not_not, k10]
  rcases (by omega : x < 10 ∨ (10 ≤ x ∧ x < 100) ∨ (100 ≤ x ∧ x < 1000) ∨ 1000 ≤ x) with h | h | h | h
  · rw [e_16_16, show fNd x = 1 from if_pos h]
    simp (disch := first | omega | rfl) only [e_16_0, e_16_1, e_16_2, e_16_3, e_16_6, e_16_7, e_16_8, e_16_9, e_16_10, e_16_11, e_16_13, e_16_14, e_16_15, e_16_17, e_16_19, e_16_22, e_16_23, e_16_24, e_16_27, e_16_28, e_16_29, e_16_30, e_16_31, e_16_33, e_16_34, e_16_35, e_16_36, e_16_39, e_16_42, e_16_44, e_16_45, e_16_46, ge1, ule_t, true_or, or_true, nI_add, nI_mul, nI_sub, nI_clamp, nI_lt_t, nI_lt_f, nI_le_t, nI_le_f, nI_eq_t, nI_eq_f, vp_nI, tI, fI, not_true, not_false_iff, true_and, and_true, Classical.not_not, nn_le, show (10 ≤ x) = False from eq_false (by omega)]
  · rw [e_16_16, show fNd x = 2 from (if_neg (by omega)).trans (if_pos h.2)]
    simp (disch := first | omega | rfl) only [e_16_0, e_16_1, e_16_2, e_16_3, e_16_6, e_16_7, e_16_8, e_16_9, e_16_10, e_16_11, e_16_13, e_16_14, e_16_15, e_16_17, e_16_19, e_16_22, e_16_23, e_16_24, e_16_27, e_16_28, e_16_29, e_16_30, e_16_31, e_16_33, e_16_34, e_16_35, e_16_36, e_16_39, e_16_42, e_16_44, e_16_45, e_16_46, ge1, ule_t, true_or, or_true, nI_add, nI_mul, nI_sub, nI_clamp, nI_lt_t, nI_lt_f, nI_le_t, nI_le_f, nI_eq_t, nI_eq_f, vp_nI, tI, fI, not_true, not_false_iff, true_and, and_true, Classical.not_not, nn_le, show (10 ≤ x) = True from eq_true (by omega), k10a]
    rw [e_16_16]
    simp (disch := first | omega | rfl) only [e_16_0, e_16_1, e_16_2, e_16_3, e_16_6, e_16_7, e_16_8, e_16_9, e_16_10, e_16_11, e_16_13, e_16_14, e_16_15, e_16_17, e_16_19, e_16_22, e_16_23, e_16_24, e_16_27, e_16_28, e_16_29, e_16_30, e_16_31, e_16_33, e_16_34, e_16_35, e_16_36, e_16_39, e_16_42, e_16_44, e_16_45, e_16_46, ge1, ule_t, true_or, or_true, nI_add, nI_mul, nI_sub, nI_clamp, nI_lt_t, nI_lt_f, nI_le_t, nI_le_f, nI_eq_t, nI_eq_f, vp_nI, tI, fI, not_true, not_false_iff, true_and, and_true, Classical.not_not, nn_le, show (100 ≤ x) = False from eq_false (by omega)]
  · rw [e_16_16, show fNd x = 3 from (if_neg (by omega)).trans ((if_neg (by omega)).trans (if_pos h.2))]
    simp (disch := first | omega | rfl) only [e_16_0, e_16_1, e_16_2, e_16_3, e_16_6, e_16_7, e_16_8, e_16_9, e_16_10, e_16_11, e_16_13, e_16_14, e_16_15, e_16_17, e_16_19, e_16_22, e_16_23, e_16_24, e_16_27, e_16_28, e_16_29, e_16_30, e_16_31, e_16_33, e_16_34, e_16_35, e_16_36, e_16_39, e_16_42, e_16_44, e_16_45, e_16_46, ge1, ule_t, true_or, or_true, nI_add, nI_mul, nI_sub, nI_clamp, nI_lt_t, nI_lt_f, nI_le_t, nI_le_f, nI_eq_t, nI_eq_f, vp_nI, tI, fI, not_true, not_false_iff, true_and, and_true, Classical.not_not, nn_le, show (10 ≤ x) = True from eq_true (by omega), k10a]
    rw [e_16_16]
    simp (disch := first | omega | rfl) only [e_16_0, e_16_1, e_16_2, e_16_3, e_16_6, e_16_7, e_16_8, e_16_9, e_16_10, e_16_11, e_16_13, e_16_14, e_16_15, e_16_17, e_16_19, e_16_22, e_16_23, e_16_24, e_16_27, e_16_28, e_16_29, e_16_30, e_16_31, e_16_33, e_16_34, e_16_35, e_16_36, e_16_39, e_16_42, e_16_44, e_16_45, e_16_46, ge1, ule_t, true_or, or_true, nI_add, nI_mul, nI_sub, nI_clamp, nI_lt_t, nI_lt_f, nI_le_t, nI_le_f, nI_eq_t, nI_eq_f, vp_nI, tI, fI, not_true, not_false_iff, true_and, and_true, Classical.not_not, nn_le, show (100 ≤ x) = True from eq_true (by omega), k10b]
    rw [e_16_16]
    simp (disch := first | omega | rfl) only [e_16_0, e_16_1, e_16_2, e_16_3, e_16_6, e_16_7, e_16_8, e_16_9, e_16_10, e_16_11, e_16_13, e_16_14, e_16_15, e_16_17, e_16_19, e_16_22, e_16_23, e_16_24, e_16_27, e_16_28, e_16_29, e_16_30, e_16_31, e_16_33, e_16_34, e_16_35, e_16_36, e_16_39, e_16_42, e_16_44, e_16_45, e_16_46, ge1, ule_t, true_or, or_true, nI_add, nI_mul, nI_sub, nI_clamp, nI_lt_t, nI_lt_f, nI_le_t, nI_le_f, nI_eq_t, nI_eq_f, vp_nI, tI, fI, not_true, not_false_iff, true_and, and_true, Classical.not_not, nn_le, show (1000 ≤ x) = False from eq_false (by omega)]
  · rw [e_16_16, show fNd x = 4 from (if_neg (by omega)).trans ((if_neg (by omega)).trans (if_neg (by omega)))]
    simp (disch := first | omega | rfl) only [e_16_0, e_16_1, e_16_2, e_16_3, e_16_6, e_16_7, e_16_8, e_16_9, e_16_10, e_16_11, e_16_13, e_16_14, e_16_15, e_16_17, e_16_19, e_16_22, e_16_23, e_16_24, e_16_27, e_16_28, e_16_29, e_16_30, e_16_31, e_16_33, e_16_34, e_16_35, e_16_36, e_16_39, e_16_42, e_16_44, e_16_45, e_16_46, ge1, ule_t, true_or, or_true, nI_add, nI_mul, nI_sub, nI_clamp, nI_lt_t, nI_lt_f, nI_le_t, nI_le_f, nI_eq_t, nI_eq_f, vp_nI, tI, fI, not_true, not_false_iff, true_and, and_true, Classical.not_not, nn_le, show (10 ≤ x) = True from eq_true (by omega), k10a]
    rw [e_16_16]
    simp (disch := first | omega | rfl) only [e_16_0, e_16_1, e_16_2, e_16_3, e_16_6, e_16_7, e_16_8, e_16_9, e_16_10, e_16_11, e_16_13, e_16_14, e_16_15, e_16_17, e_16_19, e_16_22, e_16_23, e_16_24, e_16_27, e_16_28, e_16_29, e_16_30, e_16_31, e_16_33, e_16_34, e_16_35, e_16_36, e_16_39, e_16_42, e_16_44, e_16_45, e_16_46, ge1, ule_t, true_or, or_true, nI_add, nI_mul, nI_sub, nI_clamp, nI_lt_t, nI_lt_f, nI_le_t, nI_le_f, nI_eq_t, nI_eq_f, vp_nI, tI, fI, not_true, not_false_iff, true_and, and_true, Classical.not_not, nn_le, show (100 ≤ x) = True from eq_true (by omega), k10b]
    rw [e_16_16]
    simp (disch := first | omega | rfl) only [e_16_0, e_16_1, e_16_2, e_16_3, e_16_6, e_16_7, e_16_8, e_16_9, e_16_10, e_16_11, e_16_13, e_16_14, e_16_15, e_16_17, e_16_19, e_16_22, e_16_23, e_16_24, e_16_27, e_16_28, e_16_29, e_16_30, e_16_31, e_16_33, e_16_34, e_16_35, e_16_36, e_16_39, e_16_42, e_16_44, e_16_45, e_16_46, ge1, ule_t, true_or, or_true, nI_add, nI_mul, nI_sub, nI_clamp, nI_lt_t, nI_lt_f, nI_le_t, nI_le_f, nI_eq_t, nI_eq_f, vp_nI, tI, fI, not_true, not_false_iff, true_and, and_true, Classical.not_not, nn_le, show (1000 ≤ x) = True from eq_true (by omega), k10c]
    rw [e_16_16]
    simp (disch := first | omega | rfl) only [e_16_0, e_16_1, e_16_2, e_16_3, e_16_6, e_16_7, e_16_8, e_16_9, e_16_10, e_16_11, e_16_13, e_16_14, e_16_15, e_16_17, e_16_19, e_16_22, e_16_23, e_16_24, e_16_27, e_16_28, e_16_29, e_16_30, e_16_31, e_16_33, e_16_34, e_16_35, e_16_36, e_16_39, e_16_42, e_16_44, e_16_45, e_16_46, ge1, ule_t, true_or, or_true, nI_add, nI_mul, nI_sub, nI_clamp, nI_lt_t, nI_lt_f, nI_le_t, nI_le_f, nI_eq_t, nI_eq_f, vp_nI, tI, fI, not_true, not_false_iff, true_and, and_true, Classical.not_not, nn_le, show (10000 ≤ x) = False from eq_false (by omega)]
/-- the tables of digits -/
def DgS (μ : Mu) : Prop := mS μ 200 = (21, 100) ∧ mS μ 201 = (21, 100) ∧ (∀ k, k < 100 → mI μ 200 k = nI (48 + k / 10)) ∧ ∀ k, k < 100 → mI μ 201 k = nI (48 + k % 10)
theorem fNd_le : fNd x ≤ 4 := by
  unfold fNd
  split
  · omega
  · split
    · omega
    · split <;> omega
end NumC
section NumM
variable {d : Nat} {Q : Po} {μ : Mu} {n k i j t x ch : Nat} {y z : Int32} {l0 l1 l2 : Option Value}
def FO (a : Nat) : Prop := a = 1298 ∨ a = 1308
/-- what a model's writing of k bytes leaves -/
def OuM (μ : Mu) (n k : Nat) (g : Nat → Nat) (μ' : Mu) : Prop := Fr FO μ μ' ∧ (∀ k, k ≠ 26 → mI μ' 1298 k = mI μ 1298 k) ∧ mI μ' 1298 26 = nI (n + k) ∧ (∀ j, j < n → mI μ' 1308 j = mI μ 1308 j) ∧ ∀ j, j < k → mI μ' 1308 (n + j) = nI (g j)
theorem OuM.zero {g : Nat → Nat} (hn : mI μ 1298 26 = nI n) : OuM μ n 0 g μ := ⟨Fr.refl, fun _ _ => rfl, hn, fun _ _ => rfl, fun j hj => absurd hj (Nat.not_lt_zero j)⟩
theorem OuM.s {g : Nat → Nat} {μ' : Mu} (h : OuM μ n k g μ') : OuM μ n (k + 1) g (uI (uI μ' 1308 (n + k) (nI (g k))) 1298 26 (nI (n + k + 1))) := by
  obtain ⟨h1, h2, h3, h4, h5⟩ := h
  refine ⟨(h1.iu (Or.inr rfl)).iu (Or.inl rfl), fun i hi => ?_, mI_s, fun j hj => ?_, fun j hj => ?_⟩
  · rw [mI_n (by omega), mI_n (by omega)]; exact h2 i hi
  · rw [mI_n (by omega), mI_n (by omega)]; exact h4 j hj
  · rw [mI_n (by omega)]
    by_cases e : j = k
    · subst e; exact mI_s
    · rw [mI_n (by omega)]; exact h5 j (by omega)
theorem nI_remG {a b : Nat} (ha : a < 2147483648) (hb : 0 < b) (hb2 : b < 2147483648) : nI a - nI (a / b) * nI b = nI (a % b) := by
  have h1 : a / b * b ≤ a := Nat.div_mul_le_self a b
  rw [nI_mul, nI_sub h1]
  congr 1
  have := Nat.div_add_mod a b
  rw [Nat.mul_comm] at this
  omega
end NumM

/-! one member written: what is written, and the model's side -/
abbrev WP : Type := Nat × (Nat → Nat)
def apC (s : WP) (c : Nat) : WP := (s.1 + 1, fun j => if j = s.1 then c else s.2 j)
def apN (s : WP) (x : Nat) : WP := (s.1 + fNd x, fun j => if s.1 ≤ j then fDg x (j - s.1) else s.2 j)
def lt5 (w t : Nat) : Nat := w / 2 ^ (5 * (5 - t)) % 32
def nlW (w : Nat) (s : WP) : Nat → WP
  | 0 => s
  | t + 1 => if lt5 w t = 0 then nlW w s t else apC (nlW w s t) (96 + lt5 w t)
def clW (V : VW) (m : Nat) (s : WP) : Nat → WP
  | 0 => s
  | i + 1 => apN (apC (clW V m s i) 32) (V m (7 + i)).toNatClampNeg
def nm0 (w : Nat) : WP := if w = 0 then apC (0, fun _ => 0) 42 else nlW w (0, fun _ => 0) 6
def wrW (V : VW) (m w : Nat) : WP := clW V m (apC (nm0 w) 58) 16
theorem nlW_le {w : Nat} {s : WP} : ∀ t, (nlW w s t).1 ≤ s.1 + t
  | 0 => Nat.le_refl _
  | t + 1 => by
    have := nlW_le (w := w) (s := s) t
    rw [nlW]
    split
    · omega
    · show (nlW w s t).1 + 1 ≤ _
      omega
theorem clW_le {V : VW} {m : Nat} {s : WP} : ∀ i, (clW V m s i).1 ≤ s.1 + 5 * i
  | 0 => Nat.le_refl _
  | i + 1 => by
    have := clW_le (V := V) (m := m) (s := s) i
    have h4 := fNd_le (x := (V m (7 + i)).toNatClampNeg)
    show (clW V m s i).1 + 1 + fNd _ ≤ _
    omega
theorem nm0_le {w : Nat} : (nm0 w).1 ≤ 6 := by
  unfold nm0
  split
  · show 0 + 1 ≤ 6; omega
  · have := nlW_le (w := w) (s := (0, fun _ => 0)) 6
    simpa using this
theorem nlW_0 {s : WP} : ∀ t, nlW 0 s t = s
  | 0 => rfl
  | t + 1 => by
    rw [nlW, if_pos (by unfold lt5; rw [Nat.zero_div]), nlW_0 t]
theorem nI_and31 (a : Nat) : nI a &&& nI 31 = nI (a % 32) := by
  rw [nI_and]
  congr 1
  exact Nat.and_two_pow_sub_one_eq_mod a 5
section WrM
variable {d : Nat} {Q : Po} {μ : Mu} {m n k i j t x w N : Nat} {y z : Int32} {s : WP} {l0 l1 l2 l3 : Option Value}
def OuP (μ : Mu) (s : WP) (μ' : Mu) : Prop := Fr FO μ μ' ∧ (∀ k, k ≠ 26 → mI μ' 1298 k = mI μ 1298 k) ∧ mI μ' 1298 26 = nI s.1 ∧ ∀ j, j < s.1 → mI μ' 1308 j = nI (s.2 j)
theorem OuP.c {μ' : Mu} {c : Nat} (h : OuP μ s μ') : OuP μ (apC s c) (uI (uI μ' 1308 s.1 (nI c)) 1298 26 (nI (s.1 + 1))) := by
  obtain ⟨h1, h2, h3, h4⟩ := h
  refine ⟨(h1.iu (Or.inr rfl)).iu (Or.inl rfl), fun i hi => ?_, mI_s, fun j hj => ?_⟩
  · rw [mI_n (by omega), mI_n (by omega)]; exact h2 i hi
  · rw [mI_n (by omega)]
    have hj' : j < s.1 + 1 := hj
    by_cases e : j = s.1
    · subst e; rw [mI_s]; show _ = nI (if _ then _ else _); rw [if_pos rfl]
    · rw [mI_n (by omega), h4 j (by omega)]; show _ = nI (if _ then _ else _); rw [if_neg e]
theorem OuP.num {μ' μ2 : Mu} (h : OuP μ s μ') (h' : OuM μ' s.1 (fNd x) (fDg x) μ2) : OuP μ (apN s x) μ2 := by
  obtain ⟨h1, h2, h3, h4⟩ := h
  obtain ⟨g1, g2, g3, g4, g5⟩ := h'
  refine ⟨h1.trans g1, fun i hi => (g2 i hi).trans (h2 i hi), g3, fun j hj => ?_⟩
  have hj' : j < s.1 + fNd x := hj
  by_cases e : s.1 ≤ j
  · have := g5 (j - s.1) (by omega)
    rw [show s.1 + (j - s.1) = j by omega] at this
    rw [this]; show _ = nI (if _ then _ else _); rw [if_pos e]
  · rw [g4 j (by omega), h4 j (by omega)]; show _ = nI (if _ then _ else _); rw [if_neg e]
end WrM

/-! one member written: the class's side -/
section WrC
variable {d : Nat} {Q : Po} {μ : Mu} {s c m n k i j t x w v cap ub uc : Nat} {y z : Int32} {S : WP} {r : Nat → Int32} {l0 l1 l2 l3 : Option Value}
theorem s_159 (h : t ≤ 5) : Ev (d + 1) 159 [.int (nI t)] μ Q = Q (some (some (.int (nI (5 * (5 - t)))))) μ := by
  rw [in_159]
  simp (disch := first | omega | rfl) only [e_159_0, e_159_1, e_159_2, e_159_3, e_159_4, e_159_5, ge1, ule_t, true_or, or_true, nI_add, nI_mul, nI_sub, nI_clamp, nI_lt_t, nI_lt_f, nI_le_t, nI_le_f, nI_eq_t, nI_eq_f, vp_nI, tI, fI, not_true, not_false_iff, true_and, and_true, Classical.not_not]
end WrC

/-! what stands when only the builder changes -/
section FB
variable {μ μ' : Mu} {a s c u n m k : Nat} {r tn : Nat → Int32} {pr : Nat → Nat → Int32}
end FB


