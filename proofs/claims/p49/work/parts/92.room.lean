/-! what is made at the start: the room -/
section NwR
variable {d : Nat} {Q : Po} {μ μ' : Mu} {x s c m n k a : Nat} {l1 : Option Value}
theorem n_0 (hX : mX μ = 1060) (hq : ∀ μ', mX μ' = 1062 → (∀ a, a < 1060 → Sam μ μ' a) → mS μ' 1060 = (1, 4) → mR μ' 1060 0 = some 1061 → mS μ' 1061 = (21, 16) → (∀ k, mI μ' 1060 k = 0) → Q (some none) μ') : Ev (d + 2) 0 [.ref 1060] (nN μ 1060 1 4) Q := by
  have h0 : (nI 0 : Int32) = 0 := nI_0
  have h1 : ((1 : Int32) = nI 0) = False := oneZ
  rw [in_0]
  simp (disch := first | omega | rfl) only [e_0_0, e_0_1, e_0_3, e_0_6, in_6, e_6_0, e_6_1, e_6_4, e_6_7, e_6_10, e_6_11, e_6_12, e_6_14, e_6_17, e_6_18, e_6_19, e_6_22, e_6_25, e_6_26, e_6_38, ge1, ule_t, true_or, or_true, nI_add, nI_mul, nI_sub, nI_clamp, nI_lt_t, nI_lt_f, nI_le_t, nI_le_f, nI_eq_t, nI_eq_f, vp_nI, tI, fI, not_true, not_false_iff, true_and, and_true, Classical.not_not, mS_uI, mS_uA, mS_uJ, mS_uR, mS_uX, mR_uI, mR_uA, mR_uJ, mR_uX, mX_uI, mX_uA, mX_uJ, mX_uR, mI_s, mI_n, mI_A, mI_An, mI_uJ, mI_uR, mI_uX, mJ_uI, mJ_uA, mJ_uR, mJ_uX, onR_s, kC_v, kC_n, kC_t, uN_n, mX_nN, mS_nN, mS_nNs, uad_p, ule_p, leT, and_self, h1, kC_n, c8i]
  refine hq _ ?_ (fun a ha => ?_) ?_ ?_ ?_ (fun k => ?_)
  · rfl
  · exact ((Sam.refl.nN (by omega)).nN (by omega)).uR (by omega) |>.uI (by omega)
  · simp (disch := first | omega | rfl) only [mS_uI, mS_uA, mS_uJ, mS_uR, mS_uX, mR_uI, mR_uA, mR_uJ, mR_uX, mX_uI, mX_uA, mX_uJ, mX_uR, mI_s, mI_n, mI_A, mI_An, mI_uJ, mI_uR, mI_uX, mJ_uI, mJ_uA, mJ_uR, mJ_uX, onR_s, kC_v, kC_n, kC_t, mS_nN, mS_nNs]
  · simp (disch := first | omega | rfl) only [mS_uI, mS_uA, mS_uJ, mS_uR, mS_uX, mR_uI, mR_uA, mR_uJ, mR_uX, mX_uI, mX_uA, mX_uJ, mX_uR, mI_s, mI_n, mI_A, mI_An, mI_uJ, mI_uR, mI_uX, mJ_uI, mJ_uA, mJ_uR, mJ_uX, onR_s, kC_v, kC_n, kC_t, mR_nR, mR_nN, mR_es]
  · simp (disch := first | omega | rfl) only [mS_uI, mS_uA, mS_uJ, mS_uR, mS_uX, mR_uI, mR_uA, mR_uJ, mR_uX, mX_uI, mX_uA, mX_uJ, mX_uR, mI_s, mI_n, mI_A, mI_An, mI_uJ, mI_uR, mI_uX, mJ_uI, mJ_uA, mJ_uR, mJ_uX, onR_s, kC_v, kC_n, kC_t, mS_nN, mS_nNs]
  · by_cases hk : k = 1
    · subst hk; simp (disch := first | omega | rfl) only [mI_s, h0]
    · simp (disch := first | omega | rfl) only [mS_uI, mS_uA, mS_uJ, mS_uR, mS_uX, mR_uI, mR_uA, mR_uJ, mR_uX, mX_uI, mX_uA, mX_uJ, mX_uR, mI_s, mI_n, mI_A, mI_An, mI_uJ, mI_uR, mI_uX, mJ_uI, mJ_uA, mJ_uR, mJ_uX, onR_s, kC_v, kC_n, kC_t, mI_nN, mI_nNs]
theorem n_39 (hX : mX μ = 1030) (hq : ∀ μ', mX μ' = 1060 → (∀ a, a < 1030 → Sam μ μ' a) → mS μ' 1030 = (6, 13) → mR μ' 1030 0 = some 1031 → mR μ' 1030 1 = some 1032 → mR μ' 1030 2 = some 1055 → mS μ' 1031 = (21, 900) → StS μ' 1032 → ScS μ' 1055 → mI μ' 1030 9 = nI 0 → Q (some none) μ') : Ev (d + 3) 39 [.ref 1030] (nN μ 1030 6 13) Q := by
  rw [in_39]
  simp (disch := first | omega | rfl) only [e_39_0, e_39_1, e_39_4, e_39_5, e_39_8, e_39_10, e_39_13, e_39_14, e_39_17, e_39_18, e_39_21, e_39_24, e_39_25, e_39_28, e_39_29, e_39_32, e_39_35, e_39_36, e_39_37, e_39_40, e_39_41, e_39_42, e_39_45, e_39_46, e_39_47, e_39_50, e_39_51, e_39_52, e_39_55, e_39_56, e_39_57, e_39_60, e_39_61, e_39_62, e_39_65, e_39_66, e_39_67, e_39_70, e_39_71, e_39_72, e_39_75, e_39_76, e_39_77, e_39_80, e_39_81, e_39_82, e_39_85, ge1, ule_t, true_or, or_true, nI_add, nI_mul, nI_sub, nI_clamp, nI_lt_t, nI_lt_f, nI_le_t, nI_le_f, nI_eq_t, nI_eq_f, vp_nI, tI, fI, not_true, not_false_iff, true_and, and_true, Classical.not_not, mS_uI, mS_uA, mS_uJ, mS_uR, mS_uX, mR_uI, mR_uA, mR_uJ, mR_uX, mX_uI, mX_uA, mX_uJ, mX_uR, mI_s, mI_n, mI_A, mI_An, mI_uJ, mI_uR, mI_uX, mJ_uI, mJ_uA, mJ_uR, mJ_uX, onR_s, kC_v, kC_n, kC_t, uN_n, mX_nN, mS_nN, mS_nNs, uad_p, ule_p, leT, and_self]
  refine n_72 (s := 1032) ?_ (by omega) (fun μ1 hE1 => ?_)
  · rfl
  obtain ⟨f0, f1, f2, f3⟩ := hE1
  have b1 : mS μ1 1030 = (6, 13) := by rw [(f1 _ (by omega)).1]; simp (disch := first | omega | rfl) only [mS_uI, mS_uA, mS_uJ, mS_uR, mS_uX, mR_uI, mR_uA, mR_uJ, mR_uX, mX_uI, mX_uA, mX_uJ, mX_uR, mI_s, mI_n, mI_A, mI_An, mI_uJ, mI_uR, mI_uX, mJ_uI, mJ_uA, mJ_uR, mJ_uX, onR_s, kC_v, kC_n, kC_t, mS_nN, mS_nNs]
  have b2 : mS μ1 1031 = (21, 900) := by rw [(f1 _ (by omega)).1]; simp (disch := first | omega | rfl) only [mS_uI, mS_uA, mS_uJ, mS_uR, mS_uX, mR_uI, mR_uA, mR_uJ, mR_uX, mX_uI, mX_uA, mX_uJ, mX_uR, mI_s, mI_n, mI_A, mI_An, mI_uJ, mI_uR, mI_uX, mJ_uI, mJ_uA, mJ_uR, mJ_uX, onR_s, kC_v, kC_n, kC_t, mS_nN, mS_nNs]
  have b3 : mR μ1 1030 0 = some 1031 := by rw [(f1 _ (by omega)).2.2]; simp (disch := first | omega | rfl) only [mS_uI, mS_uA, mS_uJ, mS_uR, mS_uX, mR_uI, mR_uA, mR_uJ, mR_uX, mX_uI, mX_uA, mX_uJ, mX_uR, mI_s, mI_n, mI_A, mI_An, mI_uJ, mI_uR, mI_uX, mJ_uI, mJ_uA, mJ_uR, mJ_uX, onR_s, kC_v, kC_n, kC_t, mR_nR, mR_nN, mR_es]
  simp (disch := first | omega | rfl) only [e_39_0, e_39_1, e_39_4, e_39_5, e_39_8, e_39_10, e_39_13, e_39_14, e_39_17, e_39_18, e_39_21, e_39_24, e_39_25, e_39_28, e_39_29, e_39_32, e_39_35, e_39_36, e_39_37, e_39_40, e_39_41, e_39_42, e_39_45, e_39_46, e_39_47, e_39_50, e_39_51, e_39_52, e_39_55, e_39_56, e_39_57, e_39_60, e_39_61, e_39_62, e_39_65, e_39_66, e_39_67, e_39_70, e_39_71, e_39_72, e_39_75, e_39_76, e_39_77, e_39_80, e_39_81, e_39_82, e_39_85, ge1, ule_t, true_or, or_true, nI_add, nI_mul, nI_sub, nI_clamp, nI_lt_t, nI_lt_f, nI_le_t, nI_le_f, nI_eq_t, nI_eq_f, vp_nI, tI, fI, not_true, not_false_iff, true_and, and_true, Classical.not_not, mS_uI, mS_uA, mS_uJ, mS_uR, mS_uX, mR_uI, mR_uA, mR_uJ, mR_uX, mX_uI, mX_uA, mX_uJ, mX_uR, mI_s, mI_n, mI_A, mI_An, mI_uJ, mI_uR, mI_uX, mJ_uI, mJ_uA, mJ_uR, mJ_uX, onR_s, kC_v, kC_n, kC_t, kC_n, b1, uN_n, f0, uad_p, ule_p, leT, and_self]
  refine n_64 (c := 1055) ?_ (by omega) (fun μ2 hE2 => ?_)
  · exact f0
  obtain ⟨g0, g1, g2, g3⟩ := hE2
  have c1 : mS μ2 1030 = (6, 13) := by rw [(g1 _ (by omega)).1]; exact b1
  simp (disch := first | omega | rfl) only [e_39_0, e_39_1, e_39_4, e_39_5, e_39_8, e_39_10, e_39_13, e_39_14, e_39_17, e_39_18, e_39_21, e_39_24, e_39_25, e_39_28, e_39_29, e_39_32, e_39_35, e_39_36, e_39_37, e_39_40, e_39_41, e_39_42, e_39_45, e_39_46, e_39_47, e_39_50, e_39_51, e_39_52, e_39_55, e_39_56, e_39_57, e_39_60, e_39_61, e_39_62, e_39_65, e_39_66, e_39_67, e_39_70, e_39_71, e_39_72, e_39_75, e_39_76, e_39_77, e_39_80, e_39_81, e_39_82, e_39_85, ge1, ule_t, true_or, or_true, nI_add, nI_mul, nI_sub, nI_clamp, nI_lt_t, nI_lt_f, nI_le_t, nI_le_f, nI_eq_t, nI_eq_f, vp_nI, tI, fI, not_true, not_false_iff, true_and, and_true, Classical.not_not, mS_uI, mS_uA, mS_uJ, mS_uR, mS_uX, mR_uI, mR_uA, mR_uJ, mR_uX, mX_uI, mX_uA, mX_uJ, mX_uR, mI_s, mI_n, mI_A, mI_An, mI_uJ, mI_uR, mI_uX, mJ_uI, mJ_uA, mJ_uR, mJ_uX, onR_s, kC_v, kC_n, kC_t, kC_n, c1, uad_p, ule_p, leT, and_self]
  have e1 : ∀ a, a < 1055 → a ≠ 1030 → Sam μ1 μ2 a := fun a h h2 => (Sam.refl.uR h2).trans (g1 a h)
  have e2 : ∀ (ν : Mu) a, a ≠ 1030 → Sam ν μ2 a → Sam ν (uI (uI (uI (uI (uI (uI (uI (uI (uI (uI (uR μ2 1030 2 (some (1032 + 23))) 1030 3 (nI 0)) 1030 4 (nI 0)) 1030 5 (nI 0)) 1030 6 (nI 0)) 1030 7 (nI 0)) 1030 8 (nI 0)) 1030 9 (nI 0)) 1030 10 (nI 0)) 1030 11 (nI 0)) 1030 12 (-1)) a := fun ν a h2 h => ((((((((((h.uR h2).uI h2).uI h2).uI h2).uI h2).uI h2).uI h2).uI h2).uI h2).uI h2).uI h2
  refine hq _ g0 (fun a ha => e2 μ a (by omega) ?_) ?_ ?_ ?_ ?_ ?_ ?_ ?_ ?_
  · refine Sam.trans ?_ (e1 a (by omega) (by omega))
    refine Sam.trans ?_ (f1 a (by omega))
    exact ((Sam.refl.nN (by omega)).nN (by omega)).uR (by omega)
  · exact c1
  · simp (disch := first | omega | rfl) only [mS_uI, mS_uA, mS_uJ, mS_uR, mS_uX, mR_uI, mR_uA, mR_uJ, mR_uX, mX_uI, mX_uA, mX_uJ, mX_uR, mI_s, mI_n, mI_A, mI_An, mI_uJ, mI_uR, mI_uX, mJ_uI, mJ_uA, mJ_uR, mJ_uX, onR_s, kC_v, kC_n, kC_t, mR_nR, (g1 1030 (by omega)).2.2, b3]
  · simp (disch := first | omega | rfl) only [mS_uI, mS_uA, mS_uJ, mS_uR, mS_uX, mR_uI, mR_uA, mR_uJ, mR_uX, mX_uI, mX_uA, mX_uJ, mX_uR, mI_s, mI_n, mI_A, mI_An, mI_uJ, mI_uR, mI_uX, mJ_uI, mJ_uA, mJ_uR, mJ_uX, onR_s, kC_v, kC_n, kC_t, mR_nR, (g1 1030 (by omega)).2.2, mR_es]
  · simp (disch := first | omega | rfl) only [mS_uI, mS_uA, mS_uJ, mS_uR, mS_uX, mR_uI, mR_uA, mR_uJ, mR_uX, mX_uI, mX_uA, mX_uJ, mX_uR, mI_s, mI_n, mI_A, mI_An, mI_uJ, mI_uR, mI_uX, mJ_uI, mJ_uA, mJ_uR, mJ_uX, onR_s, kC_v, kC_n, kC_t, mR_es]
  · show mS μ2 1031 = _; rw [(g1 _ (by omega)).1]; exact b2
  · exact f2.sm (fun a h1 h2 => e2 μ1 a (by omega) (e1 a (by omega) (by omega)))
  · exact g2.sm (fun a h1 h2 => e2 μ2 a (by omega) Sam.refl)
  · simp (disch := first | omega | rfl) only [mS_uI, mS_uA, mS_uJ, mS_uR, mS_uX, mR_uI, mR_uA, mR_uJ, mR_uX, mX_uI, mX_uA, mX_uJ, mX_uR, mI_s, mI_n, mI_A, mI_An, mI_uJ, mI_uR, mI_uX, mJ_uI, mJ_uA, mJ_uR, mJ_uX, onR_s, kC_v, kC_n, kC_t]
/-- the ring, some States in -/
def NwR (μ0 μ : Mu) (k : Nat) : Prop := mX μ = 1068 + 23 * k ∧ (∀ a, a < 1068 → a ≠ 1029 → Sam μ0 μ a) ∧ mS μ 1029 = (24, 10) ∧ ∀ i, i < k → mR μ 1029 i = some (1068 + 23 * i) ∧ StS μ (1068 + 23 * i)
theorem l_88 {μ0 : Mu} (h0 : mS μ0 1000 = (11, 11)) (h2 : mR μ0 1000 2 = some 1029) (hq : ∀ μ', NwR μ0 μ' 10 → Q (some none) μ') : ∀ j k μ u1 u2, k + j = 10 → u1 = 67 + 23 * k → u2 = 5329 + 458 * k → NwR μ0 μ k → EM 88 (d + 3) 98 [some (.ref 1000), some (.int (nI k))] [] μ (u1, u2) Q := by
  intro j
  induction j with
  | zero =>
    intro k μ u1 u2 hk e1 e2 hN
    obtain rfl : k = 10 := by omega
    subst e1; subst e2
    rw [e_88_98]
    simp (disch := first | omega | rfl) only [e_88_0, e_88_1, e_88_4, e_88_5, e_88_8, e_88_9, e_88_12, e_88_15, e_88_16, e_88_19, e_88_20, e_88_23, e_88_26, e_88_27, e_88_29, e_88_32, e_88_35, e_88_36, e_88_37, e_88_40, e_88_41, e_88_42, e_88_45, e_88_46, e_88_49, e_88_50, e_88_53, e_88_56, e_88_57, e_88_58, e_88_61, e_88_62, e_88_63, e_88_66, e_88_67, e_88_70, e_88_71, e_88_74, e_88_77, e_88_78, e_88_81, e_88_82, e_88_85, e_88_88, e_88_89, e_88_91, e_88_93, e_88_96, e_88_97, e_88_99, e_88_101, e_88_104, e_88_105, e_88_108, e_88_109, e_88_112, e_88_113, e_88_116, e_88_117, e_88_120, e_88_123, ge1, ule_t, true_or, or_true, nI_add, nI_mul, nI_sub, nI_clamp, nI_lt_t, nI_lt_f, nI_le_t, nI_le_f, nI_eq_t, nI_eq_f, vp_nI, tI, fI, not_true, not_false_iff, true_and, and_true, Classical.not_not, mS_uI, mS_uA, mS_uJ, mS_uR, mS_uX, mR_uI, mR_uA, mR_uJ, mR_uX, mX_uI, mX_uA, mX_uJ, mX_uR, mI_s, mI_n, mI_A, mI_An, mI_uJ, mI_uR, mI_uX, mJ_uI, mJ_uA, mJ_uR, mJ_uX, onR_s, kC_v, kC_n, kC_t, uad_p, ule_p, leT, and_self]
    exact hq μ hN
  | succ j ih =>
    intro k μ u1 u2 hk e1 e2 hN
    obtain ⟨a0, a1, a2, a3⟩ := hN
    have b0 : mS μ 1000 = (11, 11) := (a1 _ (by omega) (by omega)).1.trans h0
    have b2 : mR μ 1000 2 = some 1029 := ((a1 _ (by omega) (by omega)).2.2 _).trans h2
    rw [e_88_98]
    simp (disch := first | omega | rfl) only [e_88_0, e_88_1, e_88_4, e_88_5, e_88_8, e_88_9, e_88_12, e_88_15, e_88_16, e_88_19, e_88_20, e_88_23, e_88_26, e_88_27, e_88_29, e_88_32, e_88_35, e_88_36, e_88_37, e_88_40, e_88_41, e_88_42, e_88_45, e_88_46, e_88_49, e_88_50, e_88_53, e_88_56, e_88_57, e_88_58, e_88_61, e_88_62, e_88_63, e_88_66, e_88_67, e_88_70, e_88_71, e_88_74, e_88_77, e_88_78, e_88_81, e_88_82, e_88_85, e_88_88, e_88_89, e_88_91, e_88_93, e_88_96, e_88_97, e_88_99, e_88_101, e_88_104, e_88_105, e_88_108, e_88_109, e_88_112, e_88_113, e_88_116, e_88_117, e_88_120, e_88_123, ge1, ule_t, true_or, or_true, nI_add, nI_mul, nI_sub, nI_clamp, nI_lt_t, nI_lt_f, nI_le_t, nI_le_f, nI_eq_t, nI_eq_f, vp_nI, tI, fI, not_true, not_false_iff, true_and, and_true, Classical.not_not, mS_uI, mS_uA, mS_uJ, mS_uR, mS_uX, mR_uI, mR_uA, mR_uJ, mR_uX, mX_uI, mX_uA, mX_uJ, mX_uR, mI_s, mI_n, mI_A, mI_An, mI_uJ, mI_uR, mI_uX, mJ_uI, mJ_uA, mJ_uR, mJ_uX, onR_s, kC_v, kC_n, kC_t, a0, b0, b2, uad_p, ule_p, leT, and_self, uN_n]
    refine n_72 a0 (by omega) (fun μ1 hE => ?_)
    obtain ⟨f0, f1, f2, f3⟩ := hE
    have c3 : mS μ1 1029 = (24, 10) := (f1 _ (by omega)).1.trans a2
    simp (disch := first | omega | rfl) only [e_88_0, e_88_1, e_88_4, e_88_5, e_88_8, e_88_9, e_88_12, e_88_15, e_88_16, e_88_19, e_88_20, e_88_23, e_88_26, e_88_27, e_88_29, e_88_32, e_88_35, e_88_36, e_88_37, e_88_40, e_88_41, e_88_42, e_88_45, e_88_46, e_88_49, e_88_50, e_88_53, e_88_56, e_88_57, e_88_58, e_88_61, e_88_62, e_88_63, e_88_66, e_88_67, e_88_70, e_88_71, e_88_74, e_88_77, e_88_78, e_88_81, e_88_82, e_88_85, e_88_88, e_88_89, e_88_91, e_88_93, e_88_96, e_88_97, e_88_99, e_88_101, e_88_104, e_88_105, e_88_108, e_88_109, e_88_112, e_88_113, e_88_116, e_88_117, e_88_120, e_88_123, ge1, ule_t, true_or, or_true, nI_add, nI_mul, nI_sub, nI_clamp, nI_lt_t, nI_lt_f, nI_le_t, nI_le_f, nI_eq_t, nI_eq_f, vp_nI, tI, fI, not_true, not_false_iff, true_and, and_true, Classical.not_not, mS_uI, mS_uA, mS_uJ, mS_uR, mS_uX, mR_uI, mR_uA, mR_uJ, mR_uX, mX_uI, mX_uA, mX_uJ, mX_uR, mI_s, mI_n, mI_A, mI_An, mI_uJ, mI_uR, mI_uX, mJ_uI, mJ_uA, mJ_uR, mJ_uX, onR_s, kC_v, kC_n, kC_t, kC_n, c3, f2.2.1, uad_p, ule_p, leT, and_self, or_false, false_or, Nat.reduceEqDiff, false_and]
    have f4 : ∀ a, a < 1068 + 23 * k → a ≠ 1029 → Sam μ (uR μ1 1029 k (some (1068 + 23 * k))) a := fun a h h2 => (f1 a h).uR h2
    refine ih (k + 1) _ _ _ (by omega) (by omega) (by omega) ⟨?_, fun a ha h => (a1 a ha h).trans (f4 a (by omega) h), ?_, fun i hi => ?_⟩
    · show mX μ1 = _; omega
    · exact c3
    · by_cases him : i = k
      · subst him
        exact ⟨mR_sR, f2.sm (fun a h1 h2 => Sam.refl.uR (by omega))⟩
      · obtain ⟨g1, g2⟩ := a3 i (by omega)
        refine ⟨?_, g2.sm (fun a h1 h2 => f4 a (by omega) (by omega))⟩
        rw [mR_nR (by omega), (f1 _ (by omega)).2.2]
        exact g1
/-- the room has been made -/
def RmF (μ μ' : Mu) : Prop := mX μ' = 1298 ∧ (∀ a, a < 1000 → Sam μ μ' a) ∧ ShR μ' 1001 1024 ∧ (∀ i, i < 10 → StS μ' (1068 + 23 * i)) ∧ (mS μ' 1030 = (6, 13) ∧ mR μ' 1030 0 = some 1031 ∧ mR μ' 1030 1 = some 1032 ∧ mR μ' 1030 2 = some 1055 ∧ mS μ' 1031 = (21, 900) ∧ StS μ' 1032 ∧ ScS μ' 1055 ∧ mI μ' 1030 9 = nI 0) ∧ (mS μ' 1060 = (1, 4) ∧ mR μ' 1060 0 = some 1061 ∧ mS μ' 1061 = (21, 16) ∧ (∀ k, mI μ' 1060 k = 0)) ∧ (∀ a, 1001 ≤ a → a < 1024 → ∀ k, mI μ' a k = if a = 1003 ∧ k = 0 then nI 40 else if a = 1003 ∧ k = 1 then nI 2 else 0) ∧ (∀ k, mI μ' 1025 k = 0) ∧ mI μ' 1000 3 = nI 0 ∧ mI μ' 1000 4 = nI 0 ∧ mI μ' 1000 6 = nI 0 ∧ mI μ' 1000 7 = -1
theorem n_88 (hX : mX μ = 1000) (hq : ∀ μ', RmF μ μ' → Q (some none) μ') : Ev (d + 4) 88 [.ref 1000] (nN μ 1000 11 11) Q := by
  rw [in_88]
  simp (disch := first | omega | rfl) only [e_88_0, e_88_1, e_88_4, e_88_5, e_88_8, e_88_9, e_88_12, e_88_15, e_88_16, e_88_19, e_88_20, e_88_23, e_88_26, e_88_27, e_88_29, e_88_32, e_88_35, e_88_36, e_88_37, e_88_40, e_88_41, e_88_42, e_88_45, e_88_46, e_88_49, e_88_50, e_88_53, e_88_56, e_88_57, e_88_58, e_88_61, e_88_62, e_88_63, e_88_66, e_88_67, e_88_70, e_88_71, e_88_74, e_88_77, e_88_78, e_88_81, e_88_82, e_88_85, e_88_88, e_88_89, e_88_91, e_88_93, e_88_96, e_88_97, e_88_99, e_88_101, e_88_104, e_88_105, e_88_108, e_88_109, e_88_112, e_88_113, e_88_116, e_88_117, e_88_120, e_88_123, ge1, ule_t, true_or, or_true, nI_add, nI_mul, nI_sub, nI_clamp, nI_lt_t, nI_lt_f, nI_le_t, nI_le_f, nI_eq_t, nI_eq_f, vp_nI, tI, fI, not_true, not_false_iff, true_and, and_true, Classical.not_not, mS_uI, mS_uA, mS_uJ, mS_uR, mS_uX, mR_uI, mR_uA, mR_uJ, mR_uX, mX_uI, mX_uA, mX_uJ, mX_uR, mI_s, mI_n, mI_A, mI_An, mI_uJ, mI_uR, mI_uX, mJ_uI, mJ_uA, mJ_uR, mJ_uX, onR_s, kC_v, kC_n, kC_t, uN_n, mX_nN, mS_nN, mS_nNs, uad_p, ule_p, leT, and_self]
  refine n_72 (s := 1001) ?_ (by omega) (fun μ1 hE1 => ?_)
  · rfl
  obtain ⟨a0, a1, a2, a3⟩ := hE1
  have s1 : mS μ1 1000 = (11, 11) := by rw [(a1 _ (by omega)).1]; simp (disch := first | omega | rfl) only [mS_uI, mS_uA, mS_uJ, mS_uR, mS_uX, mR_uI, mR_uA, mR_uJ, mR_uX, mX_uI, mX_uA, mX_uJ, mX_uR, mI_s, mI_n, mI_A, mI_An, mI_uJ, mI_uR, mI_uX, mJ_uI, mJ_uA, mJ_uR, mJ_uX, onR_s, kC_v, kC_n, kC_t, mS_nN, mS_nNs]
  simp (disch := first | omega | rfl) only [e_88_0, e_88_1, e_88_4, e_88_5, e_88_8, e_88_9, e_88_12, e_88_15, e_88_16, e_88_19, e_88_20, e_88_23, e_88_26, e_88_27, e_88_29, e_88_32, e_88_35, e_88_36, e_88_37, e_88_40, e_88_41, e_88_42, e_88_45, e_88_46, e_88_49, e_88_50, e_88_53, e_88_56, e_88_57, e_88_58, e_88_61, e_88_62, e_88_63, e_88_66, e_88_67, e_88_70, e_88_71, e_88_74, e_88_77, e_88_78, e_88_81, e_88_82, e_88_85, e_88_88, e_88_89, e_88_91, e_88_93, e_88_96, e_88_97, e_88_99, e_88_101, e_88_104, e_88_105, e_88_108, e_88_109, e_88_112, e_88_113, e_88_116, e_88_117, e_88_120, e_88_123, ge1, ule_t, true_or, or_true, nI_add, nI_mul, nI_sub, nI_clamp, nI_lt_t, nI_lt_f, nI_le_t, nI_le_f, nI_eq_t, nI_eq_f, vp_nI, tI, fI, not_true, not_false_iff, true_and, and_true, Classical.not_not, mS_uI, mS_uA, mS_uJ, mS_uR, mS_uX, mR_uI, mR_uA, mR_uJ, mR_uX, mX_uI, mX_uA, mX_uJ, mX_uR, mI_s, mI_n, mI_A, mI_An, mI_uJ, mI_uR, mI_uX, mJ_uI, mJ_uA, mJ_uR, mJ_uX, onR_s, kC_v, kC_n, kC_t, kC_n, s1, uN_n, a0, uad_p, ule_p, leT, and_self]
  refine n_64 (c := 1024) ?_ (by omega) (fun μ2 hE2 => ?_)
  · exact a0
  obtain ⟨b0, b1, b2, b3⟩ := hE2
  have s2 : mS μ2 1000 = (11, 11) := by rw [(b1 _ (by omega)).1]; exact s1
  have r20 : mR μ2 1000 0 = some 1001 := by rw [(b1 _ (by omega)).2.2]; simp (disch := first | omega | rfl) only [mS_uI, mS_uA, mS_uJ, mS_uR, mS_uX, mR_uI, mR_uA, mR_uJ, mR_uX, mX_uI, mX_uA, mX_uJ, mX_uR, mI_s, mI_n, mI_A, mI_An, mI_uJ, mI_uR, mI_uX, mJ_uI, mJ_uA, mJ_uR, mJ_uX, onR_s, kC_v, kC_n, kC_t, mR_es]
  simp (disch := first | omega | rfl) only [e_88_0, e_88_1, e_88_4, e_88_5, e_88_8, e_88_9, e_88_12, e_88_15, e_88_16, e_88_19, e_88_20, e_88_23, e_88_26, e_88_27, e_88_29, e_88_32, e_88_35, e_88_36, e_88_37, e_88_40, e_88_41, e_88_42, e_88_45, e_88_46, e_88_49, e_88_50, e_88_53, e_88_56, e_88_57, e_88_58, e_88_61, e_88_62, e_88_63, e_88_66, e_88_67, e_88_70, e_88_71, e_88_74, e_88_77, e_88_78, e_88_81, e_88_82, e_88_85, e_88_88, e_88_89, e_88_91, e_88_93, e_88_96, e_88_97, e_88_99, e_88_101, e_88_104, e_88_105, e_88_108, e_88_109, e_88_112, e_88_113, e_88_116, e_88_117, e_88_120, e_88_123, ge1, ule_t, true_or, or_true, nI_add, nI_mul, nI_sub, nI_clamp, nI_lt_t, nI_lt_f, nI_le_t, nI_le_f, nI_eq_t, nI_eq_f, vp_nI, tI, fI, not_true, not_false_iff, true_and, and_true, Classical.not_not, mS_uI, mS_uA, mS_uJ, mS_uR, mS_uX, mR_uI, mR_uA, mR_uJ, mR_uX, mX_uI, mX_uA, mX_uJ, mX_uR, mI_s, mI_n, mI_A, mI_An, mI_uJ, mI_uR, mI_uX, mJ_uI, mJ_uA, mJ_uR, mJ_uX, onR_s, kC_v, kC_n, kC_t, kC_n, s2, uN_n, mX_nN, mS_nN, b0, uad_p, ule_p, leT, and_self]
  refine n_39 ?_ (fun μ3 c0 c1 c2 c3 c4 c5 c6 c7 c8 c9 => ?_)
  · rfl
  have s3 : mS μ3 1000 = (11, 11) := by rw [(c1 _ (by omega)).1]; simp (disch := first | omega | rfl) only [mS_uI, mS_uA, mS_uJ, mS_uR, mS_uX, mR_uI, mR_uA, mR_uJ, mR_uX, mX_uI, mX_uA, mX_uJ, mX_uR, mI_s, mI_n, mI_A, mI_An, mI_uJ, mI_uR, mI_uX, mJ_uI, mJ_uA, mJ_uR, mJ_uX, onR_s, kC_v, kC_n, kC_t, mS_nN, s2]
  have s29 : mS μ3 1029 = (24, 10) := by rw [(c1 _ (by omega)).1]; simp (disch := first | omega | rfl) only [mS_uI, mS_uA, mS_uJ, mS_uR, mS_uX, mR_uI, mR_uA, mR_uJ, mR_uX, mX_uI, mX_uA, mX_uJ, mX_uR, mI_s, mI_n, mI_A, mI_An, mI_uJ, mI_uR, mI_uX, mJ_uI, mJ_uA, mJ_uR, mJ_uX, onR_s, kC_v, kC_n, kC_t, mS_nN, mS_nNs]
  have r30 : mR μ3 1000 0 = some 1001 := by rw [(c1 _ (by omega)).2.2]; simp (disch := first | omega | rfl) only [mS_uI, mS_uA, mS_uJ, mS_uR, mS_uX, mR_uI, mR_uA, mR_uJ, mR_uX, mX_uI, mX_uA, mX_uJ, mX_uR, mI_s, mI_n, mI_A, mI_An, mI_uJ, mI_uR, mI_uX, mJ_uI, mJ_uA, mJ_uR, mJ_uX, onR_s, kC_v, kC_n, kC_t, mR_nR, mR_nN, r20]
  have r31 : mR μ3 1000 1 = some 1024 := by rw [(c1 _ (by omega)).2.2]; simp (disch := first | omega | rfl) only [mS_uI, mS_uA, mS_uJ, mS_uR, mS_uX, mR_uI, mR_uA, mR_uJ, mR_uX, mX_uI, mX_uA, mX_uJ, mX_uR, mI_s, mI_n, mI_A, mI_An, mI_uJ, mI_uR, mI_uX, mJ_uI, mJ_uA, mJ_uR, mJ_uX, onR_s, kC_v, kC_n, kC_t, mR_nR, mR_nN, mR_es]
  have r32 : mR μ3 1000 2 = some 1029 := by rw [(c1 _ (by omega)).2.2]; simp (disch := first | omega | rfl) only [mS_uI, mS_uA, mS_uJ, mS_uR, mS_uX, mR_uI, mR_uA, mR_uJ, mR_uX, mX_uI, mX_uA, mX_uJ, mX_uR, mI_s, mI_n, mI_A, mI_An, mI_uJ, mI_uR, mI_uX, mJ_uI, mJ_uA, mJ_uR, mJ_uX, onR_s, kC_v, kC_n, kC_t, mR_nR, mR_nN, mR_es]
  have i33 : mI μ3 1000 3 = nI 0 := by rw [(c1 _ (by omega)).2.1]; simp (disch := first | omega | rfl) only [mS_uI, mS_uA, mS_uJ, mS_uR, mS_uX, mR_uI, mR_uA, mR_uJ, mR_uX, mX_uI, mX_uA, mX_uJ, mX_uR, mI_s, mI_n, mI_A, mI_An, mI_uJ, mI_uR, mI_uX, mJ_uI, mJ_uA, mJ_uR, mJ_uX, onR_s, kC_v, kC_n, kC_t]
  have i34 : mI μ3 1000 4 = nI 0 := by rw [(c1 _ (by omega)).2.1]; simp (disch := first | omega | rfl) only [mS_uI, mS_uA, mS_uJ, mS_uR, mS_uX, mR_uI, mR_uA, mR_uJ, mR_uX, mX_uI, mX_uA, mX_uJ, mX_uR, mI_s, mI_n, mI_A, mI_An, mI_uJ, mI_uR, mI_uX, mJ_uI, mJ_uA, mJ_uR, mJ_uX, onR_s, kC_v, kC_n, kC_t]
  simp (disch := first | omega | rfl) only [e_88_0, e_88_1, e_88_4, e_88_5, e_88_8, e_88_9, e_88_12, e_88_15, e_88_16, e_88_19, e_88_20, e_88_23, e_88_26, e_88_27, e_88_29, e_88_32, e_88_35, e_88_36, e_88_37, e_88_40, e_88_41, e_88_42, e_88_45, e_88_46, e_88_49, e_88_50, e_88_53, e_88_56, e_88_57, e_88_58, e_88_61, e_88_62, e_88_63, e_88_66, e_88_67, e_88_70, e_88_71, e_88_74, e_88_77, e_88_78, e_88_81, e_88_82, e_88_85, e_88_88, e_88_89, e_88_91, e_88_93, e_88_96, e_88_97, e_88_99, e_88_101, e_88_104, e_88_105, e_88_108, e_88_109, e_88_112, e_88_113, e_88_116, e_88_117, e_88_120, e_88_123, ge1, ule_t, true_or, or_true, nI_add, nI_mul, nI_sub, nI_clamp, nI_lt_t, nI_lt_f, nI_le_t, nI_le_f, nI_eq_t, nI_eq_f, vp_nI, tI, fI, not_true, not_false_iff, true_and, and_true, Classical.not_not, mS_uI, mS_uA, mS_uJ, mS_uR, mS_uX, mR_uI, mR_uA, mR_uJ, mR_uX, mX_uI, mX_uA, mX_uJ, mX_uR, mI_s, mI_n, mI_A, mI_An, mI_uJ, mI_uR, mI_uX, mJ_uI, mJ_uA, mJ_uR, mJ_uX, onR_s, kC_v, kC_n, kC_t, kC_n, s3, uN_n, c0, uad_p, ule_p, leT, and_self]
  refine n_0 ?_ (fun μ4 d0 d1 d2 d3 d4 d5 => ?_)
  · exact c0
  have s4 : mS μ4 1000 = (11, 11) := by rw [(d1 _ (by omega)).1]; exact s3
  have r40 : mR μ4 1000 0 = some 1001 := by rw [(d1 _ (by omega)).2.2]; simp (disch := first | omega | rfl) only [mS_uI, mS_uA, mS_uJ, mS_uR, mS_uX, mR_uI, mR_uA, mR_uJ, mR_uX, mX_uI, mX_uA, mX_uJ, mX_uR, mI_s, mI_n, mI_A, mI_An, mI_uJ, mI_uR, mI_uX, mJ_uI, mJ_uA, mJ_uR, mJ_uX, onR_s, kC_v, kC_n, kC_t, mR_nR, r30]
  have r41 : mR μ4 1000 1 = some 1024 := by rw [(d1 _ (by omega)).2.2]; simp (disch := first | omega | rfl) only [mS_uI, mS_uA, mS_uJ, mS_uR, mS_uX, mR_uI, mR_uA, mR_uJ, mR_uX, mX_uI, mX_uA, mX_uJ, mX_uR, mI_s, mI_n, mI_A, mI_An, mI_uJ, mI_uR, mI_uX, mJ_uI, mJ_uA, mJ_uR, mJ_uX, onR_s, kC_v, kC_n, kC_t, mR_nR, r31]
  have r42 : mR μ4 1000 2 = some 1029 := by rw [(d1 _ (by omega)).2.2]; simp (disch := first | omega | rfl) only [mS_uI, mS_uA, mS_uJ, mS_uR, mS_uX, mR_uI, mR_uA, mR_uJ, mR_uX, mX_uI, mX_uA, mX_uJ, mX_uR, mI_s, mI_n, mI_A, mI_An, mI_uJ, mI_uR, mI_uX, mJ_uI, mJ_uA, mJ_uR, mJ_uX, onR_s, kC_v, kC_n, kC_t, mR_nR, r32]
  have r45 : mR μ4 1000 5 = some 1030 := by rw [(d1 _ (by omega)).2.2]; simp (disch := first | omega | rfl) only [mS_uI, mS_uA, mS_uJ, mS_uR, mS_uX, mR_uI, mR_uA, mR_uJ, mR_uX, mX_uI, mX_uA, mX_uJ, mX_uR, mI_s, mI_n, mI_A, mI_An, mI_uJ, mI_uR, mI_uX, mJ_uI, mJ_uA, mJ_uR, mJ_uX, onR_s, kC_v, kC_n, kC_t, mR_es]
  have i43 : mI μ4 1000 3 = nI 0 := by rw [(d1 _ (by omega)).2.1]; simp (disch := first | omega | rfl) only [mS_uI, mS_uA, mS_uJ, mS_uR, mS_uX, mR_uI, mR_uA, mR_uJ, mR_uX, mX_uI, mX_uA, mX_uJ, mX_uR, mI_s, mI_n, mI_A, mI_An, mI_uJ, mI_uR, mI_uX, mJ_uI, mJ_uA, mJ_uR, mJ_uX, onR_s, kC_v, kC_n, kC_t, i33]
  have i44 : mI μ4 1000 4 = nI 0 := by rw [(d1 _ (by omega)).2.1]; simp (disch := first | omega | rfl) only [mS_uI, mS_uA, mS_uJ, mS_uR, mS_uX, mR_uI, mR_uA, mR_uJ, mR_uX, mX_uI, mX_uA, mX_uJ, mX_uR, mI_s, mI_n, mI_A, mI_An, mI_uJ, mI_uR, mI_uX, mJ_uI, mJ_uA, mJ_uR, mJ_uX, onR_s, kC_v, kC_n, kC_t, i34]
  have i46 : mI μ4 1000 6 = nI 0 := by rw [(d1 _ (by omega)).2.1]; simp (disch := first | omega | rfl) only [mS_uI, mS_uA, mS_uJ, mS_uR, mS_uX, mR_uI, mR_uA, mR_uJ, mR_uX, mX_uI, mX_uA, mX_uJ, mX_uR, mI_s, mI_n, mI_A, mI_An, mI_uJ, mI_uR, mI_uX, mJ_uI, mJ_uA, mJ_uR, mJ_uX, onR_s, kC_v, kC_n, kC_t]
  have i47 : mI μ4 1000 7 = -1 := by rw [(d1 _ (by omega)).2.1]; simp (disch := first | omega | rfl) only [mS_uI, mS_uA, mS_uJ, mS_uR, mS_uX, mR_uI, mR_uA, mR_uJ, mR_uX, mX_uI, mX_uA, mX_uJ, mX_uR, mI_s, mI_n, mI_A, mI_An, mI_uJ, mI_uR, mI_uX, mJ_uI, mJ_uA, mJ_uR, mJ_uX, onR_s, kC_v, kC_n, kC_t]
  simp (disch := first | omega | rfl) only [e_88_0, e_88_1, e_88_4, e_88_5, e_88_8, e_88_9, e_88_12, e_88_15, e_88_16, e_88_19, e_88_20, e_88_23, e_88_26, e_88_27, e_88_29, e_88_32, e_88_35, e_88_36, e_88_37, e_88_40, e_88_41, e_88_42, e_88_45, e_88_46, e_88_49, e_88_50, e_88_53, e_88_56, e_88_57, e_88_58, e_88_61, e_88_62, e_88_63, e_88_66, e_88_67, e_88_70, e_88_71, e_88_74, e_88_77, e_88_78, e_88_81, e_88_82, e_88_85, e_88_88, e_88_89, e_88_91, e_88_93, e_88_96, e_88_97, e_88_99, e_88_101, e_88_104, e_88_105, e_88_108, e_88_109, e_88_112, e_88_113, e_88_116, e_88_117, e_88_120, e_88_123, ge1, ule_t, true_or, or_true, nI_add, nI_mul, nI_sub, nI_clamp, nI_lt_t, nI_lt_f, nI_le_t, nI_le_f, nI_eq_t, nI_eq_f, vp_nI, tI, fI, not_true, not_false_iff, true_and, and_true, Classical.not_not, mS_uI, mS_uA, mS_uJ, mS_uR, mS_uX, mR_uI, mR_uA, mR_uJ, mR_uX, mX_uI, mX_uA, mX_uJ, mX_uR, mI_s, mI_n, mI_A, mI_An, mI_uJ, mI_uR, mI_uX, mJ_uI, mJ_uA, mJ_uR, mJ_uX, onR_s, kC_v, kC_n, kC_t, kC_n, s4, uN_n, d0, uad_p, ule_p, leT, and_self]
  refine n_29 ?_ (fun μ5 e0 e1 e2 => ?_)
  · exact d0
  have s5 : mS μ5 1000 = (11, 11) := by rw [(e1 _ (by omega)).1]; exact s4
  have r50 : mR μ5 1000 0 = some 1001 := by rw [(e1 _ (by omega)).2.2]; simp (disch := first | omega | rfl) only [mS_uI, mS_uA, mS_uJ, mS_uR, mS_uX, mR_uI, mR_uA, mR_uJ, mR_uX, mX_uI, mX_uA, mX_uJ, mX_uR, mI_s, mI_n, mI_A, mI_An, mI_uJ, mI_uR, mI_uX, mJ_uI, mJ_uA, mJ_uR, mJ_uX, onR_s, kC_v, kC_n, kC_t, mR_nR, r40]
  have r51 : mR μ5 1000 1 = some 1024 := by rw [(e1 _ (by omega)).2.2]; simp (disch := first | omega | rfl) only [mS_uI, mS_uA, mS_uJ, mS_uR, mS_uX, mR_uI, mR_uA, mR_uJ, mR_uX, mX_uI, mX_uA, mX_uJ, mX_uR, mI_s, mI_n, mI_A, mI_An, mI_uJ, mI_uR, mI_uX, mJ_uI, mJ_uA, mJ_uR, mJ_uX, onR_s, kC_v, kC_n, kC_t, mR_nR, r41]
  have r52 : mR μ5 1000 2 = some 1029 := by rw [(e1 _ (by omega)).2.2]; simp (disch := first | omega | rfl) only [mS_uI, mS_uA, mS_uJ, mS_uR, mS_uX, mR_uI, mR_uA, mR_uJ, mR_uX, mX_uI, mX_uA, mX_uJ, mX_uR, mI_s, mI_n, mI_A, mI_An, mI_uJ, mI_uR, mI_uX, mJ_uI, mJ_uA, mJ_uR, mJ_uX, onR_s, kC_v, kC_n, kC_t, mR_nR, r42]
  have r55 : mR μ5 1000 5 = some 1030 := by rw [(e1 _ (by omega)).2.2]; simp (disch := first | omega | rfl) only [mS_uI, mS_uA, mS_uJ, mS_uR, mS_uX, mR_uI, mR_uA, mR_uJ, mR_uX, mX_uI, mX_uA, mX_uJ, mX_uR, mI_s, mI_n, mI_A, mI_An, mI_uJ, mI_uR, mI_uX, mJ_uI, mJ_uA, mJ_uR, mJ_uX, onR_s, kC_v, kC_n, kC_t, mR_nR, r45]
  have r58 : mR μ5 1000 8 = some 1060 := by rw [(e1 _ (by omega)).2.2]; simp (disch := first | omega | rfl) only [mS_uI, mS_uA, mS_uJ, mS_uR, mS_uX, mR_uI, mR_uA, mR_uJ, mR_uX, mX_uI, mX_uA, mX_uJ, mX_uR, mI_s, mI_n, mI_A, mI_An, mI_uJ, mI_uR, mI_uX, mJ_uI, mJ_uA, mJ_uR, mJ_uX, onR_s, kC_v, kC_n, kC_t, mR_es]
  simp (disch := first | omega | rfl) only [e_88_0, e_88_1, e_88_4, e_88_5, e_88_8, e_88_9, e_88_12, e_88_15, e_88_16, e_88_19, e_88_20, e_88_23, e_88_26, e_88_27, e_88_29, e_88_32, e_88_35, e_88_36, e_88_37, e_88_40, e_88_41, e_88_42, e_88_45, e_88_46, e_88_49, e_88_50, e_88_53, e_88_56, e_88_57, e_88_58, e_88_61, e_88_62, e_88_63, e_88_66, e_88_67, e_88_70, e_88_71, e_88_74, e_88_77, e_88_78, e_88_81, e_88_82, e_88_85, e_88_88, e_88_89, e_88_91, e_88_93, e_88_96, e_88_97, e_88_99, e_88_101, e_88_104, e_88_105, e_88_108, e_88_109, e_88_112, e_88_113, e_88_116, e_88_117, e_88_120, e_88_123, ge1, ule_t, true_or, or_true, nI_add, nI_mul, nI_sub, nI_clamp, nI_lt_t, nI_lt_f, nI_le_t, nI_le_f, nI_eq_t, nI_eq_f, vp_nI, tI, fI, not_true, not_false_iff, true_and, and_true, Classical.not_not, mS_uI, mS_uA, mS_uJ, mS_uR, mS_uX, mR_uI, mR_uA, mR_uJ, mR_uX, mX_uI, mX_uA, mX_uJ, mX_uR, mI_s, mI_n, mI_A, mI_An, mI_uJ, mI_uR, mI_uX, mJ_uI, mJ_uA, mJ_uR, mJ_uX, onR_s, kC_v, kC_n, kC_t, kC_n, s5, uN_n, mX_nN, mS_nN, e0, uad_p, ule_p, leT, and_self]
  -- what stood keeps standing, up to the ring
  have p1 : ∀ a, a < 1000 → Sam μ μ1 a := fun a h => (Sam.refl.nN (by omega)).trans (a1 a (by omega))
  have p2 : ∀ a, a < 1024 → a ≠ 1000 → Sam μ1 μ2 a := fun a h h2 => (Sam.refl.uR h2).trans (b1 a h)
  have p3 : ∀ a, a < 1029 → a ≠ 1000 → Sam μ2 μ3 a := fun a h h2 => (((((Sam.refl.uR h2).nN (by omega)).uR h2).uI h2).uI h2).trans (c1 a (by omega))
  have p4 : ∀ a, a < 1060 → a ≠ 1000 → Sam μ3 μ4 a := fun a h h2 => (((Sam.refl.uR h2).uI h2).uI h2).trans (d1 a h)
  have p5 : ∀ a, a < 1062 → a ≠ 1000 → Sam μ4 μ5 a := fun a h h2 => (Sam.refl.uR h2).trans (e1 a h)
  generalize hμ6 : uR (nN (uR μ5 1000 9 (some 1062)) 1067 20 16) 1000 10 (some 1067) = μ6
  have p6 : ∀ a, a < 1067 → a ≠ 1000 → Sam μ5 μ6 a := fun a h h2 => by
    rw [← hμ6]
    exact ((Sam.refl.uR h2).nN (by omega)).uR h2
  have s6 : mS μ6 1000 = (11, 11) := by rw [← hμ6]; simp (disch := first | omega | rfl) only [mS_uI, mS_uA, mS_uJ, mS_uR, mS_uX, mR_uI, mR_uA, mR_uJ, mR_uX, mX_uI, mX_uA, mX_uJ, mX_uR, mI_s, mI_n, mI_A, mI_An, mI_uJ, mI_uR, mI_uX, mJ_uI, mJ_uA, mJ_uR, mJ_uX, onR_s, kC_v, kC_n, kC_t, mS_nN, s5]
  have s67 : mS μ6 1067 = (20, 16) := by rw [← hμ6]; simp (disch := first | omega | rfl) only [mS_uI, mS_uA, mS_uJ, mS_uR, mS_uX, mR_uI, mR_uA, mR_uJ, mR_uX, mX_uI, mX_uA, mX_uJ, mX_uR, mI_s, mI_n, mI_A, mI_An, mI_uJ, mI_uR, mI_uX, mJ_uI, mJ_uA, mJ_uR, mJ_uX, onR_s, kC_v, kC_n, kC_t, mS_nN, mS_nNs]
  have r60 : mR μ6 1000 0 = some 1001 := by rw [← hμ6]; simp (disch := first | omega | rfl) only [mS_uI, mS_uA, mS_uJ, mS_uR, mS_uX, mR_uI, mR_uA, mR_uJ, mR_uX, mX_uI, mX_uA, mX_uJ, mX_uR, mI_s, mI_n, mI_A, mI_An, mI_uJ, mI_uR, mI_uX, mJ_uI, mJ_uA, mJ_uR, mJ_uX, onR_s, kC_v, kC_n, kC_t, mR_nR, mR_nN, r50]
  have r61 : mR μ6 1000 1 = some 1024 := by rw [← hμ6]; simp (disch := first | omega | rfl) only [mS_uI, mS_uA, mS_uJ, mS_uR, mS_uX, mR_uI, mR_uA, mR_uJ, mR_uX, mX_uI, mX_uA, mX_uJ, mX_uR, mI_s, mI_n, mI_A, mI_An, mI_uJ, mI_uR, mI_uX, mJ_uI, mJ_uA, mJ_uR, mJ_uX, onR_s, kC_v, kC_n, kC_t, mR_nR, mR_nN, r51]
  have r62 : mR μ6 1000 2 = some 1029 := by rw [← hμ6]; simp (disch := first | omega | rfl) only [mS_uI, mS_uA, mS_uJ, mS_uR, mS_uX, mR_uI, mR_uA, mR_uJ, mR_uX, mX_uI, mX_uA, mX_uJ, mX_uR, mI_s, mI_n, mI_A, mI_An, mI_uJ, mI_uR, mI_uX, mJ_uI, mJ_uA, mJ_uR, mJ_uX, onR_s, kC_v, kC_n, kC_t, mR_nR, mR_nN, r52]
  have r65 : mR μ6 1000 5 = some 1030 := by rw [← hμ6]; simp (disch := first | omega | rfl) only [mS_uI, mS_uA, mS_uJ, mS_uR, mS_uX, mR_uI, mR_uA, mR_uJ, mR_uX, mX_uI, mX_uA, mX_uJ, mX_uR, mI_s, mI_n, mI_A, mI_An, mI_uJ, mI_uR, mI_uX, mJ_uI, mJ_uA, mJ_uR, mJ_uX, onR_s, kC_v, kC_n, kC_t, mR_nR, mR_nN, r55]
  have r68 : mR μ6 1000 8 = some 1060 := by rw [← hμ6]; simp (disch := first | omega | rfl) only [mS_uI, mS_uA, mS_uJ, mS_uR, mS_uX, mR_uI, mR_uA, mR_uJ, mR_uX, mX_uI, mX_uA, mX_uJ, mX_uR, mI_s, mI_n, mI_A, mI_An, mI_uJ, mI_uR, mI_uX, mJ_uI, mJ_uA, mJ_uR, mJ_uX, onR_s, kC_v, kC_n, kC_t, mR_nR, mR_nN, r58]
  have r69 : mR μ6 1000 9 = some 1062 := by rw [← hμ6]; simp (disch := first | omega | rfl) only [mS_uI, mS_uA, mS_uJ, mS_uR, mS_uX, mR_uI, mR_uA, mR_uJ, mR_uX, mX_uI, mX_uA, mX_uJ, mX_uR, mI_s, mI_n, mI_A, mI_An, mI_uJ, mI_uR, mI_uX, mJ_uI, mJ_uA, mJ_uR, mJ_uX, onR_s, kC_v, kC_n, kC_t, mR_nR, mR_nN, mR_es]
  have r6a : mR μ6 1000 10 = some 1067 := by rw [← hμ6]; simp (disch := first | omega | rfl) only [mS_uI, mS_uA, mS_uJ, mS_uR, mS_uX, mR_uI, mR_uA, mR_uJ, mR_uX, mX_uI, mX_uA, mX_uJ, mX_uR, mI_s, mI_n, mI_A, mI_An, mI_uJ, mI_uR, mI_uX, mJ_uI, mJ_uA, mJ_uR, mJ_uX, onR_s, kC_v, kC_n, kC_t, mR_es]
  have i6 : ∀ k, mI μ6 1000 k = mI μ4 1000 k := fun k => by
    rw [← hμ6]
    show mI (nN (uR μ5 1000 9 (some 1062)) 1067 20 16) 1000 k = _
    rw [mI_nN (by omega)]
    exact (e1 1000 (by omega)).2.1 k
  have x6 : mX μ6 = 1068 := by rw [← hμ6]; rfl
  have q4 : ∀ a, a < 1060 → a ≠ 1000 → Sam μ3 μ6 a := fun a h h2 => ((p4 a h h2).trans (p5 a (by omega) h2)).trans (p6 a (by omega) h2)
  have q3 : ∀ a, a < 1029 → a ≠ 1000 → Sam μ2 μ6 a := fun a h h2 => (p3 a h h2).trans (q4 a (by omega) h2)
  have q2 : ∀ a, a < 1024 → a ≠ 1000 → Sam μ1 μ6 a := fun a h h2 => (p2 a h h2).trans (q3 a (by omega) h2)
  refine l_88 s6 r62 (fun μ7 hN => ?_) 10 0 _ _ _ (by omega) (by rfl) (by rfl) ⟨x6, fun a _ _ => Sam.refl, ?_, fun i hi => absurd hi (Nat.not_lt_zero i)⟩
  · obtain ⟨t0, t1, t2, t3⟩ := hN
    have u0 := t1 1000 (by omega) (by omega)
    have u3 : ∀ a, a < 1060 → a ≠ 1029 → a ≠ 1000 → Sam μ3 μ7 a := fun a h h2 h3 => (q4 a h h3).trans (t1 a (by omega) h2)
    have u2 : ∀ a, a < 1029 → a ≠ 1000 → Sam μ2 μ7 a := fun a h h3 => (q3 a h h3).trans (t1 a (by omega) (by omega))
    have u1 : ∀ a, a < 1024 → a ≠ 1000 → Sam μ1 μ7 a := fun a h h3 => (q2 a h h3).trans (t1 a (by omega) (by omega))
    have u4 : ∀ a, a < 1062 → a ≠ 1029 → a ≠ 1000 → Sam μ4 μ7 a := fun a h h2 h3 => ((p5 a h h3).trans (p6 a (by omega) h3)).trans (t1 a (by omega) h2)
    refine hq μ7 ⟨t0, fun a ha => (p1 a ha).trans (u1 a (by omega) (by omega)), ⟨u0.1.trans s6, (u0.2.2 _).trans r60, (u0.2.2 _).trans r61, (u0.2.2 _).trans r62, (u0.2.2 _).trans r65, (u0.2.2 _).trans r68, (u0.2.2 _).trans r69, (u0.2.2 _).trans r6a, (t1 1067 (by omega) (by omega)).1.trans s67, t2, fun i hi => (t3 i hi).1, ?_, ?_, ?_, Or.inl rfl, Or.inl rfl⟩, fun i hi => (t3 i hi).2, ⟨?_, ?_, ?_, ?_, ?_, ?_, ?_, ?_⟩, ⟨?_, ?_, ?_, ?_⟩, ?_, ?_, ?_, ?_, ?_, ?_⟩
    · exact e2.sm (fun a h1 h2 => (p6 a (by omega) (by omega)).trans (t1 a (by omega) (by omega)))
    · exact a2.sm (fun a h1 h2 => u1 a (by omega) (by omega))
    · exact b2.sm (fun a h1 h2 => u2 a (by omega) (by omega))
    · exact (u3 _ (by omega) (by omega) (by omega)).1.trans c2
    · exact ((u3 _ (by omega) (by omega) (by omega)).2.2 _).trans c3
    · exact ((u3 _ (by omega) (by omega) (by omega)).2.2 _).trans c4
    · exact ((u3 _ (by omega) (by omega) (by omega)).2.2 _).trans c5
    · exact (u3 _ (by omega) (by omega) (by omega)).1.trans c6
    · exact c7.sm (fun a h1 h2 => u3 a (by omega) (by omega) (by omega))
    · exact c8.sm (fun a h1 h2 => u3 a (by omega) (by omega) (by omega))
    · exact ((u3 _ (by omega) (by omega) (by omega)).2.1 _).trans c9
    · exact (u4 _ (by omega) (by omega) (by omega)).1.trans d2
    · exact ((u4 _ (by omega) (by omega) (by omega)).2.2 _).trans d3
    · exact (u4 _ (by omega) (by omega) (by omega)).1.trans d4
    · intro k; exact ((u4 _ (by omega) (by omega) (by omega)).2.1 _).trans (d5 k)
    · intro a h1 h2 k
      rw [(u1 a h2 (by omega)).2.1]
      exact a3 a h1 h2 k
    · intro k
      rw [(u2 1025 (by omega) (by omega)).2.1]
      exact b3 1025 (by omega) (by omega) k
    · rw [u0.2.1, i6]; exact i43
    · rw [u0.2.1, i6]; exact i44
    · rw [u0.2.1, i6]; exact i46
    · rw [u0.2.1, i6]; exact i47
  · rw [(q4 1029 (by omega) (by omega)).1]; exact s29
end NwR


