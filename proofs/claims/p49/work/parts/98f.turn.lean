/-! turns, as the law computes them -/
section Turn
variable {d L : Nat} {xs : Nat → Int32} {μ μ1 : Mu} {Q : Po} {x y g w o : Int32} {r r' tn F G : Nat → Int32} {u a b m i t σ s c k : Nat} {pr : Nat → Nat → Int32}
theorem cgS {u a : Nat × Nat} : cg μ μ u a = u := if_pos rfl
theorem cgU {u a : Nat × Nat} : cg μ (uA μ b F) u a = u := if_pos rfl
theorem CI.uA (hI : CI μ s c r u pr tn) (hA : AI r u pr tn) (hb : (1062 ≤ b ∧ b < 1068) ∨ 1298 ≤ b) : CI (uA μ b F) s c r u pr tn := CI.gen (μ := μ) rfl rfl (fun a h1 h2 k => mI_An (by omega)) hI hA.1.2.1 hA.2.2.1 (fun j hj => (hA.2.2.2.1 j hj).1.2.1)
theorem w_187 (hI : CI μ s c r u pr tn) (hA : AI r u pr tn) (hm : m < nM r) : Ev (d + 5) 187 [.ref 1000, .int (nI m)] μ Q = Q (some (some (.int (nI (nE (rW r) m))))) μ := by
  have hW := hI.1
  have hB := hI.2.2.1.1
  have hO := hA.1
  have e : rW r m 1 = nI (nE (rW r) m) := (okBE hO.2.2.2.2.2.2.2.2.2.2.2.2.2.2.1 hm).2.1
  have h1 := fun (d : Nat) (Q : Po) => c_101_1 (d := d) (Q := Q) hW hB hO hm
  have k1 : ule (uad (0, 0) (1, 6)) (1, 6) = True := eq_true (show 0 + 1 ≤ 1 ∧ 0 + 6 ≤ 6 by omega)
  have k2 : ule ((0, 0) : Nat × Nat) (1, 6) = True := eq_true (show 0 ≤ 1 ∧ 0 ≤ 6 by omega)
  have sh := hW.1
  rw [in_187]
  simp (disch := first | omega | rfl) only [e_187_0, e_187_1, e_187_2, e_187_3, e_187_6, mS_uI, mS_uA, mS_uJ, mS_uR, mS_uX, mR_uI, mR_uA, mR_uJ, mR_uX, mX_uI, mX_uA, mX_uJ, mX_uR, mI_s, mI_n, mI_A, mI_An, mI_uJ, mI_uR, mI_uX, mJ_uI, mJ_uA, mJ_uR, mJ_uX, onR_s, kC_v, kC_n, kC_t, sh, h1, k1, k2, cgS, true_and, e]
theorem w_188 (ha : mS μ a = (20, 16)) (h1 : 1000 ≤ a) (hc : okC σ i o) : Ev (d + 1) 188 [.ref a, .int (nI σ), .int (nI i), .int o] μ Q = Q (some none) (uA μ a (fChg σ i o (mI μ a))) := by
  obtain ⟨c1, c2, c3⟩ := hc
  rw [in_188]
  rcases (by omega : σ = 0 ∨ σ = 1 ∨ σ = 2 ∨ σ = 3 ∨ σ = 4 ∨ σ = 5) with rfl | rfl | rfl | rfl | rfl | rfl
  · simp (disch := first | omega | rfl) only [e_188_0, e_188_1, e_188_2, e_188_3, e_188_5, e_188_6, e_188_9, e_188_10, e_188_11, e_188_12, e_188_13, e_188_14, e_188_15, e_188_18, e_188_19, e_188_20, e_188_22, e_188_23, e_188_24, e_188_27, e_188_28, e_188_29, e_188_30, e_188_31, e_188_34, e_188_35, e_188_36, e_188_37, e_188_38, e_188_39, e_188_40, e_188_41, e_188_42, e_188_45, e_188_46, e_188_47, e_188_49, e_188_50, e_188_51, e_188_52, e_188_53, e_188_56, e_188_57, e_188_58, e_188_59, e_188_60, e_188_63, e_188_64, e_188_65, e_188_66, e_188_67, e_188_68, e_188_69, e_188_70, e_188_71, e_188_73, e_188_74, e_188_75, e_188_76, e_188_79, e_188_80, e_188_81, e_188_83, e_188_84, e_188_85, e_188_86, e_188_87, e_188_90, e_188_91, e_188_92, ge1, ule_t, true_or, or_true, nI_add, nI_mul, nI_sub, nI_clamp, nI_lt_t, nI_lt_f, nI_le_t, nI_le_f, nI_eq_t, nI_eq_f, vp_nI, tI, fI, not_true, not_false_iff, true_and, and_true, Classical.not_not, mS_uI, mS_uA, mS_uJ, mS_uR, mS_uX, mR_uI, mR_uA, mR_uJ, mR_uX, mX_uI, mX_uA, mX_uJ, mX_uR, mI_s, mI_n, mI_A, mI_An, mI_uJ, mI_uR, mI_uX, mJ_uI, mJ_uA, mJ_uR, mJ_uX, onR_s, kC_v, kC_n, kC_t, ha, forall_const, false_implies, uI_A, fChg]
  · simp (disch := first | omega | rfl) only [e_188_0, e_188_1, e_188_2, e_188_3, e_188_5, e_188_6, e_188_9, e_188_10, e_188_11, e_188_12, e_188_13, e_188_14, e_188_15, e_188_18, e_188_19, e_188_20, e_188_22, e_188_23, e_188_24, e_188_27, e_188_28, e_188_29, e_188_30, e_188_31, e_188_34, e_188_35, e_188_36, e_188_37, e_188_38, e_188_39, e_188_40, e_188_41, e_188_42, e_188_45, e_188_46, e_188_47, e_188_49, e_188_50, e_188_51, e_188_52, e_188_53, e_188_56, e_188_57, e_188_58, e_188_59, e_188_60, e_188_63, e_188_64, e_188_65, e_188_66, e_188_67, e_188_68, e_188_69, e_188_70, e_188_71, e_188_73, e_188_74, e_188_75, e_188_76, e_188_79, e_188_80, e_188_81, e_188_83, e_188_84, e_188_85, e_188_86, e_188_87, e_188_90, e_188_91, e_188_92, ge1, ule_t, true_or, or_true, nI_add, nI_mul, nI_sub, nI_clamp, nI_lt_t, nI_lt_f, nI_le_t, nI_le_f, nI_eq_t, nI_eq_f, vp_nI, tI, fI, not_true, not_false_iff, true_and, and_true, Classical.not_not, mS_uI, mS_uA, mS_uJ, mS_uR, mS_uX, mR_uI, mR_uA, mR_uJ, mR_uX, mX_uI, mX_uA, mX_uJ, mX_uR, mI_s, mI_n, mI_A, mI_An, mI_uJ, mI_uR, mI_uX, mJ_uI, mJ_uA, mJ_uR, mJ_uX, onR_s, kC_v, kC_n, kC_t, ha, forall_const, false_implies, uI_A, fChg, rem4]
  all_goals obtain ⟨j, hj, rfl⟩ := c3 (by omega)
  · simp (disch := first | omega | rfl) only [e_188_0, e_188_1, e_188_2, e_188_3, e_188_5, e_188_6, e_188_9, e_188_10, e_188_11, e_188_12, e_188_13, e_188_14, e_188_15, e_188_18, e_188_19, e_188_20, e_188_22, e_188_23, e_188_24, e_188_27, e_188_28, e_188_29, e_188_30, e_188_31, e_188_34, e_188_35, e_188_36, e_188_37, e_188_38, e_188_39, e_188_40, e_188_41, e_188_42, e_188_45, e_188_46, e_188_47, e_188_49, e_188_50, e_188_51, e_188_52, e_188_53, e_188_56, e_188_57, e_188_58, e_188_59, e_188_60, e_188_63, e_188_64, e_188_65, e_188_66, e_188_67, e_188_68, e_188_69, e_188_70, e_188_71, e_188_73, e_188_74, e_188_75, e_188_76, e_188_79, e_188_80, e_188_81, e_188_83, e_188_84, e_188_85, e_188_86, e_188_87, e_188_90, e_188_91, e_188_92, ge1, ule_t, true_or, or_true, nI_add, nI_mul, nI_sub, nI_clamp, nI_lt_t, nI_lt_f, nI_le_t, nI_le_f, nI_eq_t, nI_eq_f, vp_nI, tI, fI, not_true, not_false_iff, true_and, and_true, Classical.not_not, mS_uI, mS_uA, mS_uJ, mS_uR, mS_uX, mR_uI, mR_uA, mR_uJ, mR_uX, mX_uI, mX_uA, mX_uJ, mX_uR, mI_s, mI_n, mI_A, mI_An, mI_uJ, mI_uR, mI_uX, mJ_uI, mJ_uA, mJ_uR, mJ_uX, onR_s, kC_v, kC_n, kC_t, ha, forall_const, false_implies, uI_A, fChg]
  · simp (disch := first | omega | rfl) only [e_188_0, e_188_1, e_188_2, e_188_3, e_188_5, e_188_6, e_188_9, e_188_10, e_188_11, e_188_12, e_188_13, e_188_14, e_188_15, e_188_18, e_188_19, e_188_20, e_188_22, e_188_23, e_188_24, e_188_27, e_188_28, e_188_29, e_188_30, e_188_31, e_188_34, e_188_35, e_188_36, e_188_37, e_188_38, e_188_39, e_188_40, e_188_41, e_188_42, e_188_45, e_188_46, e_188_47, e_188_49, e_188_50, e_188_51, e_188_52, e_188_53, e_188_56, e_188_57, e_188_58, e_188_59, e_188_60, e_188_63, e_188_64, e_188_65, e_188_66, e_188_67, e_188_68, e_188_69, e_188_70, e_188_71, e_188_73, e_188_74, e_188_75, e_188_76, e_188_79, e_188_80, e_188_81, e_188_83, e_188_84, e_188_85, e_188_86, e_188_87, e_188_90, e_188_91, e_188_92, ge1, ule_t, true_or, or_true, nI_add, nI_mul, nI_sub, nI_clamp, nI_lt_t, nI_lt_f, nI_le_t, nI_le_f, nI_eq_t, nI_eq_f, vp_nI, tI, fI, not_true, not_false_iff, true_and, and_true, Classical.not_not, mS_uI, mS_uA, mS_uJ, mS_uR, mS_uX, mR_uI, mR_uA, mR_uJ, mR_uX, mX_uI, mX_uA, mX_uJ, mX_uR, mI_s, mI_n, mI_A, mI_An, mI_uJ, mI_uR, mI_uX, mJ_uI, mJ_uA, mJ_uR, mJ_uX, onR_s, kC_v, kC_n, kC_t, ha, forall_const, false_implies, uI_A, fChg, rem4]
  · simp (disch := first | omega | rfl) only [e_188_0, e_188_1, e_188_2, e_188_3, e_188_5, e_188_6, e_188_9, e_188_10, e_188_11, e_188_12, e_188_13, e_188_14, e_188_15, e_188_18, e_188_19, e_188_20, e_188_22, e_188_23, e_188_24, e_188_27, e_188_28, e_188_29, e_188_30, e_188_31, e_188_34, e_188_35, e_188_36, e_188_37, e_188_38, e_188_39, e_188_40, e_188_41, e_188_42, e_188_45, e_188_46, e_188_47, e_188_49, e_188_50, e_188_51, e_188_52, e_188_53, e_188_56, e_188_57, e_188_58, e_188_59, e_188_60, e_188_63, e_188_64, e_188_65, e_188_66, e_188_67, e_188_68, e_188_69, e_188_70, e_188_71, e_188_73, e_188_74, e_188_75, e_188_76, e_188_79, e_188_80, e_188_81, e_188_83, e_188_84, e_188_85, e_188_86, e_188_87, e_188_90, e_188_91, e_188_92, ge1, ule_t, true_or, or_true, nI_add, nI_mul, nI_sub, nI_clamp, nI_lt_t, nI_lt_f, nI_le_t, nI_le_f, nI_eq_t, nI_eq_f, vp_nI, tI, fI, not_true, not_false_iff, true_and, and_true, Classical.not_not, mS_uI, mS_uA, mS_uJ, mS_uR, mS_uX, mR_uI, mR_uA, mR_uJ, mR_uX, mX_uI, mX_uA, mX_uJ, mX_uR, mI_s, mI_n, mI_A, mI_An, mI_uJ, mI_uR, mI_uX, mJ_uI, mJ_uA, mJ_uR, mJ_uX, onR_s, kC_v, kC_n, kC_t, ha, forall_const, false_implies, uI_A, uA_A, mI_Af, fChg]
  · simp (disch := first | omega | rfl) only [e_188_0, e_188_1, e_188_2, e_188_3, e_188_5, e_188_6, e_188_9, e_188_10, e_188_11, e_188_12, e_188_13, e_188_14, e_188_15, e_188_18, e_188_19, e_188_20, e_188_22, e_188_23, e_188_24, e_188_27, e_188_28, e_188_29, e_188_30, e_188_31, e_188_34, e_188_35, e_188_36, e_188_37, e_188_38, e_188_39, e_188_40, e_188_41, e_188_42, e_188_45, e_188_46, e_188_47, e_188_49, e_188_50, e_188_51, e_188_52, e_188_53, e_188_56, e_188_57, e_188_58, e_188_59, e_188_60, e_188_63, e_188_64, e_188_65, e_188_66, e_188_67, e_188_68, e_188_69, e_188_70, e_188_71, e_188_73, e_188_74, e_188_75, e_188_76, e_188_79, e_188_80, e_188_81, e_188_83, e_188_84, e_188_85, e_188_86, e_188_87, e_188_90, e_188_91, e_188_92, ge1, ule_t, true_or, or_true, nI_add, nI_mul, nI_sub, nI_clamp, nI_lt_t, nI_lt_f, nI_le_t, nI_le_f, nI_eq_t, nI_eq_f, vp_nI, tI, fI, not_true, not_false_iff, true_and, and_true, Classical.not_not, mS_uI, mS_uA, mS_uJ, mS_uR, mS_uX, mR_uI, mR_uA, mR_uJ, mR_uX, mX_uI, mX_uA, mX_uJ, mX_uR, mI_s, mI_n, mI_A, mI_An, mI_uJ, mI_uR, mI_uX, mJ_uI, mJ_uA, mJ_uR, mJ_uX, onR_s, kC_v, kC_n, kC_t, ha, forall_const, false_implies, uI_A, fChg, rem4]
theorem l_189 (hI : CI μ s c r u pr tn) (hA : AI r u pr tn) (hb : 1298 ≤ b) (hs : mS μ b = (20, 16)) (ht : t < nT r) : ∀ m k, k + m = nZ r t → EM 189 (d + 4) 2 [some (.ref 1000), some (.ref b), some (.int (nI t)), some (.int (nI k))] [] (uA μ b (fTurn (mCmd r t) F k)) (0, 0) Q = Q (some none) (uA μ b (fTurn (mCmd r t) F (nZ r t))) := by
  obtain ⟨z1, z2, z3⟩ := okP_z hA.1.2.2.2.2.2.2.2.2.2.2.2.2.2.2.2.2.1 ht
  have T40 := hA.1.2.2.2.1
  have k1 : ule (uad (0, 0) (1, 6)) (4, 24) = True := eq_true (show 0 + 1 ≤ 4 ∧ 0 + 6 ≤ 24 by omega)
  have k2 : ule ((0, 0) : Nat × Nat) (4, 24) = True := eq_true (show 0 ≤ 4 ∧ 0 ≤ 24 by omega)
  intro m
  induction m with
  | zero =>
    intro k hk
    obtain rfl : k = nZ r t := by omega
    have hI2 := hI.uA (F := fTurn (mCmd r t) F (nZ r t)) hA (Or.inr hb)
    have h1 := fun (d : Nat) (Q : Po) => c_104 (d := d) (Q := Q) hI2.1 hI2.2.2.1.1 hA.1 hI2.2.2.2.1 ht
    rw [z1] at h1
    have sh := hI.1.1
    rw [e_189_2]
    simp (disch := first | omega | rfl) only [e_189_3, e_189_4, e_189_5, e_189_8, e_189_11, e_189_12, e_189_13, e_189_14, e_189_15, e_189_16, e_189_19, e_189_20, e_189_21, e_189_22, e_189_23, e_189_26, e_189_27, e_189_28, e_189_29, e_189_30, e_189_33, e_189_36, e_189_39, e_189_42, ge1, ule_t, true_or, or_true, nI_add, nI_mul, nI_sub, nI_clamp, nI_lt_t, nI_lt_f, nI_le_t, nI_le_f, nI_eq_t, nI_eq_f, vp_nI, tI, fI, not_true, not_false_iff, true_and, and_true, Classical.not_not, mS_uI, mS_uA, mS_uJ, mS_uR, mS_uX, mR_uI, mR_uA, mR_uJ, mR_uX, mX_uI, mX_uA, mX_uJ, mX_uR, mI_s, mI_n, mI_A, mI_An, mI_uJ, mI_uR, mI_uX, mJ_uI, mJ_uA, mJ_uR, mJ_uX, onR_s, kC_v, kC_n, kC_t, sh, h1, k1, k2, cgS, forall_const, false_implies]
  | succ m ih =>
    intro k hk
    obtain ⟨σ, i, g1, g2, g3⟩ := z3 k (by omega)
    have hI2 := hI.uA (F := fTurn (mCmd r t) F k) hA (Or.inr hb)
    have h1 := fun (d : Nat) (Q : Po) => c_104 (d := d) (Q := Q) hI2.1 hI2.2.2.1.1 hA.1 hI2.2.2.2.1 ht
    rw [z1] at h1
    have h2 := fun (d : Nat) (Q : Po) (w : Nat) (hw : w < 4) => c_105 (d := d) (Q := Q) (k := k) hI2.1 hI2.2.2.1.1 hA.1 hI2.2.2.2.1 ht (by omega) hw
    have h21 := fun (d : Nat) (Q : Po) => h2 d Q 1 (by omega)
    have h22 := fun (d : Nat) (Q : Po) => h2 d Q 2 (by omega)
    have h23 := fun (d : Nat) (Q : Po) => h2 d Q 3 (by omega)
    rw [g1] at h21
    rw [g2] at h22
    have h3 := fun (d : Nat) (Q : Po) => w_188 (d := d) (Q := Q) (μ := uA μ b (fTurn (mCmd r t) F k)) (a := b) hs (by omega) g3
    have sh := hI.1.1
    have e : fChg σ i (mCmd r t k 3) (fTurn (mCmd r t) F k) = fTurn (mCmd r t) F (k + 1) := by
      have q1 := g3.1
      have q2 := g3.2.1
      rw [fTurn, g1, g2, nI_clamp (by omega), nI_clamp (by omega)]
    rw [e_189_2]
    simp (disch := first | omega | rfl) only [e_189_3, e_189_4, e_189_5, e_189_8, e_189_11, e_189_12, e_189_13, e_189_14, e_189_15, e_189_16, e_189_19, e_189_20, e_189_21, e_189_22, e_189_23, e_189_26, e_189_27, e_189_28, e_189_29, e_189_30, e_189_33, e_189_36, e_189_39, e_189_42, ge1, ule_t, true_or, or_true, nI_add, nI_mul, nI_sub, nI_clamp, nI_lt_t, nI_lt_f, nI_le_t, nI_le_f, nI_eq_t, nI_eq_f, vp_nI, tI, fI, not_true, not_false_iff, true_and, and_true, Classical.not_not, mS_uI, mS_uA, mS_uJ, mS_uR, mS_uX, mR_uI, mR_uA, mR_uJ, mR_uX, mX_uI, mX_uA, mX_uJ, mX_uR, mI_s, mI_n, mI_A, mI_An, mI_uJ, mI_uR, mI_uX, mJ_uI, mJ_uA, mJ_uR, mJ_uX, onR_s, kC_v, kC_n, kC_t, sh, h1, h21, h22, h23, h3, k1, k2, cgS, forall_const, false_implies, uA_A, mI_Af, e]
    exact ih (k + 1) (by omega)
theorem w_189 (hI : CI μ s c r u pr tn) (hA : AI r u pr tn) (hb : 1298 ≤ b) (hs : mS μ b = (20, 16)) (ht : t < nT r) : Ev (d + 5) 189 [.ref 1000, .ref b, .int (nI t)] (uA μ b F) Q = Q (some none) (uA μ b (fT r t F)) := by
  have h := l_189 (d := d) (Q := Q) (F := F) hI hA hb hs ht (nZ r t) 0 (by omega)
  rw [in_189]
  simp (disch := first | omega | rfl) only [e_189_0, e_189_1, mS_uI, mS_uA, mS_uJ, mS_uR, mS_uX, mR_uI, mR_uA, mR_uJ, mR_uX, mX_uI, mX_uA, mX_uJ, mX_uR, mI_s, mI_n, mI_A, mI_An, mI_uJ, mI_uR, mI_uX, mJ_uI, mJ_uA, mJ_uR, mJ_uX, onR_s, kC_v, kC_n, kC_t]
  exact h
end Turn

