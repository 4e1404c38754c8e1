/-! feeding -/
def fB (x : Int32) (k : Nat) : Nat := x.toBitVec.toNat / 2 ^ k % 256
def sgB (b : Nat) : Int32 := if b < 128 then nI b else nI b - nI 256
theorem fB_lt {x : Int32} {k : Nat} : fB x k < 256 := Nat.mod_lt _ (by decide)
theorem sgB_bv : ∀ b, b < 256 → (BitVec.ofNat 8 b).signExtend 32 = (sgB b).toBitVec := by decide +kernel
theorem sgB_i : ∀ b, b < 256 → (sgB b).toInt8.toInt32 = sgB b := by decide +kernel
theorem fB_m {x : Int32} {k : Nat} (hk : k ≤ 24) : (x >>> (nI k &&& 31)) &&& nI 255 = nI (fB x k) := by
  apply Int32.toBitVec_inj.mp
  have h : (x >>> (nI k &&& 31)).toBitVec = x.toBitVec.sshiftRight' ((nI k &&& 31).toBitVec.smod 32#32) := Int32.toBitVec_shiftRight _ _
  rw [Int32.toBitVec_and, h, sh31 k (by omega), nI_bv, nI_bv, BitVec.sshiftRight_eq', BitVec.toNat_ofNat, Nat.mod_eq_of_lt (show k < 2 ^ 32 by omega)]
  apply BitVec.eq_of_getLsbD_eq
  intro i hi
  rw [BitVec.getLsbD_and, BitVec.getLsbD_ofNat, BitVec.getLsbD_ofNat, BitVec.getLsbD_sshiftRight]
  unfold fB
  rw [show (255 : Nat) = 2 ^ 8 - 1 from rfl, show (256 : Nat) = 2 ^ 8 from rfl, Nat.testBit_two_pow_sub_one, Nat.testBit_mod_two_pow, Nat.testBit_div_two_pow]
  by_cases h8 : i < 8
  · rw [if_pos (show k + i < 32 by omega), decide_eq_true h8, decide_eq_true hi, decide_eq_false (show ¬ 32 ≤ i by omega), Bool.and_true, Bool.and_true, Bool.true_and, Bool.true_and, Nat.add_comm i k]
    rfl
  · rw [decide_eq_false h8, Bool.and_false, Bool.and_false, Bool.false_and, Bool.and_false]
theorem fB_c {x : Int32} {k : Nat} (hk : k ≤ 24) : (x.toUInt32 >>> ((nI k).toUInt32 &&& Int32.toUInt32 31)).toInt32.toInt8.toInt32 = sgB (fB x k) := by
  apply Int32.toBitVec_inj.mp
  rw [← sgB_bv _ fB_lt]
  have h : ∀ y : Int32, y.toInt8.toInt32.toBitVec = (y.toBitVec.signExtend 8).signExtend 32 := fun y => rfl
  rw [h, ush_bv x (by omega)]
  congr 1
  apply BitVec.eq_of_getLsbD_eq
  intro i hi
  rw [BitVec.getLsbD_signExtend, BitVec.getLsbD_ofNat, if_pos (by omega), BitVec.getLsbD_ushiftRight]
  unfold fB
  rw [show (256 : Nat) = 2 ^ 8 from rfl, Nat.testBit_mod_two_pow, Nat.testBit_div_two_pow, decide_eq_true hi, Bool.true_and, Bool.true_and, Bool.true_and, Nat.add_comm i k]
  rfl
def fB5 (x1 x2 x3 x4 x5 : Int32) (j : Nat) : Nat := fB (if j < 4 then x1 else if j < 8 then x2 else if j < 12 then x3 else if j < 16 then x4 else x5) (24 - 8 * (j % 4))
theorem d8a : nI 24 + (-8) = nI 16 := by decide
theorem d8b : nI 16 + (-8) = nI 8 := by decide
theorem d8c : nI 8 + (-8) = nI 0 := by decide
theorem d8d : (nI 0 + (-8) < nI 0) = True := by decide
section FeedC
variable {d : Nat} {Q : Po} {μ : Mu} {s c m n q i j k t z u w : Nat} {x y g v x1 x2 x3 x4 x5 : Int32} {r tn : Nat → Int32} {l4 l5 : Option Value}
/-- the class's text stands -/
def ShT (μ : Mu) : Prop := mS μ 1030 = (6, 13) ∧ mR μ 1030 0 = some 1031 ∧ mS μ 1031 = (21, 900)
def FT (a : Nat) : Prop := a = 1000 ∨ a = 1031
theorem c_90 (hS : mS μ 1000 = (11, 11)) (hR5 : mR μ 1000 5 = some 1030) (hT : ShT μ) (hn : mI μ 1000 6 = nI n) (h : n + 4 ≤ 900) (hq : ∀ μ', Fr FT μ μ' → (∀ k, k ≠ 6 → mI μ' 1000 k = mI μ 1000 k) → mI μ' 1000 6 = nI (n + 4) → (∀ k, k < n → mI μ' 1031 k = mI μ 1031 k) → (∀ j, j < 4 → mI μ' 1031 (n + j) = sgB (fB x (24 - 8 * j))) → Q (some none) μ') : Ev (d + 1) 90 [.ref 1000, .int x] μ Q := by
  obtain ⟨t1, t2, t3⟩ := hT
  rw [in_90]
  simp (disch := first | omega | rfl) only [e_90_0, e_90_2, e_90_4, e_90_7, e_90_8, e_90_11, e_90_14, e_90_17, e_90_18, e_90_21, e_90_24, e_90_25, e_90_28, e_90_29, e_90_30, e_90_31, e_90_32, e_90_33, e_90_34, e_90_35, e_90_38, e_90_39, e_90_40, e_90_43, e_90_46, e_90_49, ge1, ule_t, true_or, or_true, nI_add, nI_mul, nI_sub, nI_clamp, nI_lt_t, nI_lt_f, nI_le_t, nI_le_f, nI_eq_t, nI_eq_f, vp_nI, tI, fI, not_true, not_false_iff, true_and, and_true, Classical.not_not]
  rw [e_90_3]
  simp (disch := first | omega | rfl) only [e_90_0, e_90_2, e_90_4, e_90_7, e_90_8, e_90_11, e_90_14, e_90_17, e_90_18, e_90_21, e_90_24, e_90_25, e_90_28, e_90_29, e_90_30, e_90_31, e_90_32, e_90_33, e_90_34, e_90_35, e_90_38, e_90_39, e_90_40, e_90_43, e_90_46, e_90_49, ge1, ule_t, true_or, or_true, nI_add, nI_mul, nI_sub, nI_clamp, nI_lt_t, nI_lt_f, nI_le_t, nI_le_f, nI_eq_t, nI_eq_f, vp_nI, tI, fI, not_true, not_false_iff, true_and, and_true, Classical.not_not, mS_uI, mS_uA, mS_uJ, mS_uR, mS_uX, mR_uI, mR_uA, mR_uJ, mR_uX, mX_uI, mX_uA, mX_uJ, mX_uR, mI_s, mI_n, mI_A, mI_An, mI_uJ, mI_uR, mI_uX, mJ_uI, mJ_uA, mJ_uR, mJ_uX, onR_s, kC_v, kC_n, kC_t, hS, hR5, t1, t2, t3, hn, d8a]
  rw [e_90_3]
  simp (disch := first | omega | rfl) only [e_90_0, e_90_2, e_90_4, e_90_7, e_90_8, e_90_11, e_90_14, e_90_17, e_90_18, e_90_21, e_90_24, e_90_25, e_90_28, e_90_29, e_90_30, e_90_31, e_90_32, e_90_33, e_90_34, e_90_35, e_90_38, e_90_39, e_90_40, e_90_43, e_90_46, e_90_49, ge1, ule_t, true_or, or_true, nI_add, nI_mul, nI_sub, nI_clamp, nI_lt_t, nI_lt_f, nI_le_t, nI_le_f, nI_eq_t, nI_eq_f, vp_nI, tI, fI, not_true, not_false_iff, true_and, and_true, Classical.not_not, mS_uI, mS_uA, mS_uJ, mS_uR, mS_uX, mR_uI, mR_uA, mR_uJ, mR_uX, mX_uI, mX_uA, mX_uJ, mX_uR, mI_s, mI_n, mI_A, mI_An, mI_uJ, mI_uR, mI_uX, mJ_uI, mJ_uA, mJ_uR, mJ_uX, onR_s, kC_v, kC_n, kC_t, hS, hR5, t1, t2, t3, hn, d8b]
  rw [e_90_3]
  simp (disch := first | omega | rfl) only [e_90_0, e_90_2, e_90_4, e_90_7, e_90_8, e_90_11, e_90_14, e_90_17, e_90_18, e_90_21, e_90_24, e_90_25, e_90_28, e_90_29, e_90_30, e_90_31, e_90_32, e_90_33, e_90_34, e_90_35, e_90_38, e_90_39, e_90_40, e_90_43, e_90_46, e_90_49, ge1, ule_t, true_or, or_true, nI_add, nI_mul, nI_sub, nI_clamp, nI_lt_t, nI_lt_f, nI_le_t, nI_le_f, nI_eq_t, nI_eq_f, vp_nI, tI, fI, not_true, not_false_iff, true_and, and_true, Classical.not_not, mS_uI, mS_uA, mS_uJ, mS_uR, mS_uX, mR_uI, mR_uA, mR_uJ, mR_uX, mX_uI, mX_uA, mX_uJ, mX_uR, mI_s, mI_n, mI_A, mI_An, mI_uJ, mI_uR, mI_uX, mJ_uI, mJ_uA, mJ_uR, mJ_uX, onR_s, kC_v, kC_n, kC_t, hS, hR5, t1, t2, t3, hn, d8c]
  rw [e_90_3]
  simp (disch := first | omega | rfl) only [e_90_0, e_90_2, e_90_4, e_90_7, e_90_8, e_90_11, e_90_14, e_90_17, e_90_18, e_90_21, e_90_24, e_90_25, e_90_28, e_90_29, e_90_30, e_90_31, e_90_32, e_90_33, e_90_34, e_90_35, e_90_38, e_90_39, e_90_40, e_90_43, e_90_46, e_90_49, ge1, ule_t, true_or, or_true, nI_add, nI_mul, nI_sub, nI_clamp, nI_lt_t, nI_lt_f, nI_le_t, nI_le_f, nI_eq_t, nI_eq_f, vp_nI, tI, fI, not_true, not_false_iff, true_and, and_true, Classical.not_not, mS_uI, mS_uA, mS_uJ, mS_uR, mS_uX, mR_uI, mR_uA, mR_uJ, mR_uX, mX_uI, mX_uA, mX_uJ, mX_uR, mI_s, mI_n, mI_A, mI_An, mI_uJ, mI_uR, mI_uX, mJ_uI, mJ_uA, mJ_uR, mJ_uX, onR_s, kC_v, kC_n, kC_t, hS, hR5, t1, t2, t3, hn]
  rw [e_90_3]
  simp (disch := first | omega | rfl) only [e_90_0, e_90_2, e_90_4, e_90_7, e_90_8, e_90_11, e_90_14, e_90_17, e_90_18, e_90_21, e_90_24, e_90_25, e_90_28, e_90_29, e_90_30, e_90_31, e_90_32, e_90_33, e_90_34, e_90_35, e_90_38, e_90_39, e_90_40, e_90_43, e_90_46, e_90_49, ge1, ule_t, true_or, or_true, nI_add, nI_mul, nI_sub, nI_clamp, nI_lt_t, nI_lt_f, nI_le_t, nI_le_f, nI_eq_t, nI_eq_f, vp_nI, tI, fI, not_true, not_false_iff, true_and, and_true, Classical.not_not, mS_uI, mS_uA, mS_uJ, mS_uR, mS_uX, mR_uI, mR_uA, mR_uJ, mR_uX, mX_uI, mX_uA, mX_uJ, mX_uR, mI_s, mI_n, mI_A, mI_An, mI_uJ, mI_uR, mI_uX, mJ_uI, mJ_uA, mJ_uR, mJ_uX, onR_s, kC_v, kC_n, kC_t, hS, hR5, t1, t2, t3, hn, d8d]
  refine hq _ ?_ (fun k hk => ?_) ?_ (fun k hk => ?_) (fun j hj => ?_)
  · exact (((((((Fr.refl.iu (Or.inr rfl)).iu (Or.inl rfl)).iu (Or.inr rfl)).iu (Or.inl rfl)).iu (Or.inr rfl)).iu (Or.inl rfl)).iu (Or.inr rfl)).iu (Or.inl rfl)
  · simp (disch := first | omega | rfl) only [mI_n]
  · simp (disch := first | omega | rfl) only [mI_s]
  · simp (disch := first | omega | rfl) only [mI_n]
  · rcases (by omega : j = 0 ∨ j = 1 ∨ j = 2 ∨ j = 3) with rfl | rfl | rfl | rfl
    · show _ = sgB (fB x 24)
      simp (disch := first | omega | rfl) only [mI_n, mI_s, Nat.add_zero]
      rw [fB_c (x := x) (k := 24) (by omega), sgB_i _ fB_lt]
    · show _ = sgB (fB x 16)
      simp (disch := first | omega | rfl) only [mI_n, mI_s, Nat.add_zero]
      rw [fB_c (x := x) (k := 16) (by omega), sgB_i _ fB_lt]
    · show _ = sgB (fB x 8)
      simp (disch := first | omega | rfl) only [mI_n, mI_s, Nat.add_zero]
      rw [fB_c (x := x) (k := 8) (by omega), sgB_i _ fB_lt]
    · show _ = sgB (fB x 0)
      simp (disch := first | omega | rfl) only [mI_n, mI_s, Nat.add_zero]
      rw [fB_c (x := x) (k := 0) (by omega), sgB_i _ fB_lt]
theorem c_89f (hS : mS μ 1000 = (11, 11)) (hn : mI μ 1000 6 = nI n) (hn9 : n ≤ 900) (h : 880 < n) : Ev (d + 2) 89 [.ref 1000, .int x1, .int x2, .int x3, .int x4, .int x5] μ Q = Q (some (some (.int (-3)))) μ := by
  rw [in_89]
  simp (disch := first | omega | rfl) only [e_89_0, e_89_1, e_89_4, e_89_6, e_89_7, e_89_10, e_89_13, e_89_15, e_89_16, e_89_17, e_89_18, e_89_21, e_89_22, e_89_23, e_89_26, e_89_27, e_89_28, e_89_31, e_89_32, e_89_34, e_89_37, e_89_38, e_89_40, e_89_43, e_89_44, e_89_47, ge1, ule_t, true_or, or_true, nI_add, nI_mul, nI_sub, nI_clamp, nI_lt_t, nI_lt_f, nI_le_t, nI_le_f, nI_eq_t, nI_eq_f, vp_nI, tI, fI, not_true, not_false_iff, true_and, and_true, Classical.not_not, mS_uI, mS_uA, mS_uJ, mS_uR, mS_uX, mR_uI, mR_uA, mR_uJ, mR_uX, mX_uI, mX_uA, mX_uJ, mX_uR, mI_s, mI_n, mI_A, mI_An, mI_uJ, mI_uR, mI_uX, mJ_uI, mJ_uA, mJ_uR, mJ_uX, onR_s, kC_v, kC_n, kC_t, hS, hn]
theorem c_89 (hS : mS μ 1000 = (11, 11)) (hR5 : mR μ 1000 5 = some 1030) (hT : ShT μ) (hn : mI μ 1000 6 = nI n) (h : n ≤ 880) (hq : ∀ μ', Fr FT μ μ' → (∀ k, k ≠ 6 → mI μ' 1000 k = mI μ 1000 k) → mI μ' 1000 6 = nI (n + 20) → (∀ k, k < n → mI μ' 1031 k = mI μ 1031 k) → (∀ j, j < 20 → mI μ' 1031 (n + j) = sgB (fB5 x1 x2 x3 x4 x5 j)) → Q (some (some (.int (nI (n + 20))))) μ') : Ev (d + 2) 89 [.ref 1000, .int x1, .int x2, .int x3, .int x4, .int x5] μ Q := by
  rw [in_89]
  simp (disch := first | omega | rfl) only [e_89_0, e_89_1, e_89_4, e_89_6, e_89_7, e_89_10, e_89_13, e_89_15, e_89_16, e_89_17, e_89_18, e_89_21, e_89_22, e_89_23, e_89_26, e_89_27, e_89_28, e_89_31, e_89_32, e_89_34, e_89_37, e_89_38, e_89_40, e_89_43, e_89_44, e_89_47, ge1, ule_t, true_or, or_true, nI_add, nI_mul, nI_sub, nI_clamp, nI_lt_t, nI_lt_f, nI_le_t, nI_le_f, nI_eq_t, nI_eq_f, vp_nI, tI, fI, not_true, not_false_iff, true_and, and_true, Classical.not_not, mS_uI, mS_uA, mS_uJ, mS_uR, mS_uX, mR_uI, mR_uA, mR_uJ, mR_uX, mX_uI, mX_uA, mX_uJ, mX_uR, mI_s, mI_n, mI_A, mI_An, mI_uJ, mI_uR, mI_uX, mJ_uI, mJ_uA, mJ_uR, mJ_uX, onR_s, kC_v, kC_n, kC_t, hS, hn]
  refine c_90 (n := n) hS hR5 hT hn (by omega) (fun μ1 f1 k1 n1 b1 v1 => ?_)
  have hS1 : mS μ1 1000 = (11, 11) := by rw [f1.sh]; exact hS
  simp (disch := first | omega | rfl) only [e_89_0, e_89_1, e_89_4, e_89_6, e_89_7, e_89_10, e_89_13, e_89_15, e_89_16, e_89_17, e_89_18, e_89_21, e_89_22, e_89_23, e_89_26, e_89_27, e_89_28, e_89_31, e_89_32, e_89_34, e_89_37, e_89_38, e_89_40, e_89_43, e_89_44, e_89_47, ge1, ule_t, true_or, or_true, nI_add, nI_mul, nI_sub, nI_clamp, nI_lt_t, nI_lt_f, nI_le_t, nI_le_f, nI_eq_t, nI_eq_f, vp_nI, tI, fI, not_true, not_false_iff, true_and, and_true, Classical.not_not, kC_n, hS1]
  refine c_90 (n := n + 4) hS1 (by rw [f1.rf]; exact hR5) (by unfold ShT; rw [f1.sh, f1.rf]; exact hT) n1 (by omega) (fun μ2 f2 k2 n2 b2 v2 => ?_)
  have f2' := f1.trans f2
  have hS2 : mS μ2 1000 = (11, 11) := by rw [f2'.sh]; exact hS
  simp (disch := first | omega | rfl) only [e_89_0, e_89_1, e_89_4, e_89_6, e_89_7, e_89_10, e_89_13, e_89_15, e_89_16, e_89_17, e_89_18, e_89_21, e_89_22, e_89_23, e_89_26, e_89_27, e_89_28, e_89_31, e_89_32, e_89_34, e_89_37, e_89_38, e_89_40, e_89_43, e_89_44, e_89_47, ge1, ule_t, true_or, or_true, nI_add, nI_mul, nI_sub, nI_clamp, nI_lt_t, nI_lt_f, nI_le_t, nI_le_f, nI_eq_t, nI_eq_f, vp_nI, tI, fI, not_true, not_false_iff, true_and, and_true, Classical.not_not, kC_n, hS2]
  refine c_90 (n := n + 4 + 4) hS2 (by rw [f2'.rf]; exact hR5) (by unfold ShT; rw [f2'.sh, f2'.rf]; exact hT) n2 (by omega) (fun μ3 f3 k3 n3 b3 v3 => ?_)
  have f3' := f2'.trans f3
  have hS3 : mS μ3 1000 = (11, 11) := by rw [f3'.sh]; exact hS
  simp (disch := first | omega | rfl) only [e_89_0, e_89_1, e_89_4, e_89_6, e_89_7, e_89_10, e_89_13, e_89_15, e_89_16, e_89_17, e_89_18, e_89_21, e_89_22, e_89_23, e_89_26, e_89_27, e_89_28, e_89_31, e_89_32, e_89_34, e_89_37, e_89_38, e_89_40, e_89_43, e_89_44, e_89_47, ge1, ule_t, true_or, or_true, nI_add, nI_mul, nI_sub, nI_clamp, nI_lt_t, nI_lt_f, nI_le_t, nI_le_f, nI_eq_t, nI_eq_f, vp_nI, tI, fI, not_true, not_false_iff, true_and, and_true, Classical.not_not, kC_n, hS3]
  refine c_90 (n := n + 4 + 4 + 4) hS3 (by rw [f3'.rf]; exact hR5) (by unfold ShT; rw [f3'.sh, f3'.rf]; exact hT) n3 (by omega) (fun μ4 f4 k4 n4 b4 v4 => ?_)
  have f4' := f3'.trans f4
  have hS4 : mS μ4 1000 = (11, 11) := by rw [f4'.sh]; exact hS
  simp (disch := first | omega | rfl) only [e_89_0, e_89_1, e_89_4, e_89_6, e_89_7, e_89_10, e_89_13, e_89_15, e_89_16, e_89_17, e_89_18, e_89_21, e_89_22, e_89_23, e_89_26, e_89_27, e_89_28, e_89_31, e_89_32, e_89_34, e_89_37, e_89_38, e_89_40, e_89_43, e_89_44, e_89_47, ge1, ule_t, true_or, or_true, nI_add, nI_mul, nI_sub, nI_clamp, nI_lt_t, nI_lt_f, nI_le_t, nI_le_f, nI_eq_t, nI_eq_f, vp_nI, tI, fI, not_true, not_false_iff, true_and, and_true, Classical.not_not, kC_n, hS4]
  refine c_90 (n := n + 4 + 4 + 4 + 4) hS4 (by rw [f4'.rf]; exact hR5) (by unfold ShT; rw [f4'.sh, f4'.rf]; exact hT) n4 (by omega) (fun μ5 f5 k5 n5 b5 v5 => ?_)
  have f5' := f4'.trans f5
  have hS5 : mS μ5 1000 = (11, 11) := by rw [f5'.sh]; exact hS
  simp (disch := first | omega | rfl) only [e_89_0, e_89_1, e_89_4, e_89_6, e_89_7, e_89_10, e_89_13, e_89_15, e_89_16, e_89_17, e_89_18, e_89_21, e_89_22, e_89_23, e_89_26, e_89_27, e_89_28, e_89_31, e_89_32, e_89_34, e_89_37, e_89_38, e_89_40, e_89_43, e_89_44, e_89_47, ge1, ule_t, true_or, or_true, nI_add, nI_mul, nI_sub, nI_clamp, nI_lt_t, nI_lt_f, nI_le_t, nI_le_f, nI_eq_t, nI_eq_f, vp_nI, tI, fI, not_true, not_false_iff, true_and, and_true, Classical.not_not, mS_uI, mS_uA, mS_uJ, mS_uR, mS_uX, mR_uI, mR_uA, mR_uJ, mR_uX, mX_uI, mX_uA, mX_uJ, mX_uR, mI_s, mI_n, mI_A, mI_An, mI_uJ, mI_uR, mI_uX, mJ_uI, mJ_uA, mJ_uR, mJ_uX, onR_s, kC_v, kC_n, kC_t, kC_n, hS5, n5]
  refine hq μ5 f5' (fun k hk => ?_) n5 (fun k hk => ?_) (fun j hj => ?_)
  · rw [k5 k hk, k4 k hk, k3 k hk, k2 k hk, k1 k hk]
  · rw [b5 k (by omega), b4 k (by omega), b3 k (by omega), b2 k (by omega), b1 k (by omega)]
  · rcases (by omega : j < 4 ∨ (4 ≤ j ∧ j < 8) ∨ (8 ≤ j ∧ j < 12) ∨ (12 ≤ j ∧ j < 16) ∨ 16 ≤ j) with h1 | h1 | h1 | h1 | h1
    · rw [b5 _ (by omega), b4 _ (by omega), b3 _ (by omega), b2 _ (by omega), v1 j h1]
      unfold fB5
      rw [if_pos h1, Nat.mod_eq_of_lt h1]
    · obtain ⟨i, rfl⟩ : ∃ i, j = 4 + i := ⟨j - 4, by omega⟩
      rw [b5 _ (by omega), b4 _ (by omega), b3 _ (by omega), ← Nat.add_assoc, v2 i (by omega)]
      unfold fB5
      rw [if_neg (by omega), if_pos (by omega), show (4 + i) % 4 = i by omega]
    · obtain ⟨i, rfl⟩ : ∃ i, j = 8 + i := ⟨j - 8, by omega⟩
      rw [b5 _ (by omega), b4 _ (by omega), show n + (8 + i) = n + 4 + 4 + i by omega, v3 i (by omega)]
      unfold fB5
      rw [if_neg (by omega), if_neg (by omega), if_pos (by omega), show (8 + i) % 4 = i by omega]
    · obtain ⟨i, rfl⟩ : ∃ i, j = 12 + i := ⟨j - 12, by omega⟩
      rw [b5 _ (by omega), show n + (12 + i) = n + 4 + 4 + 4 + i by omega, v4 i (by omega)]
      unfold fB5
      rw [if_neg (by omega), if_neg (by omega), if_neg (by omega), if_pos (by omega), show (12 + i) % 4 = i by omega]
    · obtain ⟨i, rfl⟩ : ∃ i, j = 16 + i := ⟨j - 16, by omega⟩
      rw [show n + (16 + i) = n + 4 + 4 + 4 + 4 + i by omega, v5 i (by omega)]
      unfold fB5
      rw [if_neg (by omega), if_neg (by omega), if_neg (by omega), if_neg (by omega), show (16 + i) % 4 = i by omega]
end FeedC
section FeedM
variable {d : Nat} {Q : Po} {μ : Mu} {m n p i j k t u N dn w : Nat} {x y z x1 x2 x3 x4 x5 : Int32} {r : Nat → Int32} {l1 l2 l3 l4 l5 : Option Value}
def fdM (f : Nat → Int32) (n : Nat) (g : Nat → Nat) (k : Nat) : Nat → Int32 := fun i => if n ≤ i ∧ i < n + k then nI (g (i - n)) else f i
theorem fdM_0 {f : Nat → Int32} {g : Nat → Nat} : fdM f n g 0 = f := funext fun i => if_neg (by omega)
theorem fdM_s {f : Nat → Int32} {g : Nat → Nat} : upd (fdM f n g k) (n + k) (nI (g k)) = fdM f n g (k + 1) := by
  funext i
  unfold upd fdM
  by_cases hx : i = n + k
  · rw [if_pos hx, if_pos ⟨by omega, by omega⟩, hx, show n + k - n = k by omega]
  · rw [if_neg hx]
    by_cases h2 : n ≤ i ∧ i < n + k
    · rw [if_pos h2, if_pos ⟨h2.1, by omega⟩]
    · rw [if_neg h2, if_neg (by omega)]
theorem nI_rem4 {k : Nat} (hk : k < 2147483648) : nI k - nI k / nI 4 * nI 4 = nI (k % 4) := by
  rw [nI_div hk (by omega) (by omega), nI_mul, nI_sub (by omega)]
  congr 1
  omega
end FeedM


