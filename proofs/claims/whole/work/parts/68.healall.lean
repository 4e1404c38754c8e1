/-! all members healed -/
section HallC
variable {d : Nat} {Q : Po} {μ : Mu} {s c m n q i j k t z u σ o N dn w : Nat} {x y g v : Int32} {r tn : Nat → Int32} {pr : Nat → Nat → Int32} {l4 l5 : Option Value}
theorem l_124B (hA : AI r u pr tn) : ∀ f m μ, m + f = nM r → CI μ s c (haR r m) (u2 u) (pr2 u pr r) tn → 1 ≤ haN r m → (∀ μ', FrX s c μ μ' → CI μ' s c (haR r (nM r)) (u2 u) (pr2 u pr r) tn → 1 ≤ haN r (nM r) → Q (some (some (.int (nI (haN r (nM r)))))) μ') → EM 124 (d + 7) 4 [some (.ref 1000), some (.int (nI (haN r m))), some (.int (nI m))] [] μ (m, 6 * m) Q := by
  have h6 := hA.1.2.1
  intro f
  induction f with
  | zero =>
    intro m μ hm hI h1 hq
    obtain rfl : m = nM r := by omega
    obtain ⟨a1, a2, a3, a4, a5, a6⟩ := ha_ok hA.1 hA.2.1 (nM r) (Nat.le_refl _)
    have hI0 := hI
    obtain ⟨hW, hRS, hN, hC, hE, hRing⟩ := hI
    have e1 : mI μ s 1 = nI (nM r) := by rw [hN.1.1, a1.1, a4]
    obtain ⟨w0, w1, w2, w3, w4, w5, w6, w7, w8, w9, w10, w11, w12, w13, w14, w15⟩ := hW
    rw [e_124_4]
    simp (disch := first | omega | rfl) only [e_124_0, e_124_1, e_124_2, e_124_3, e_124_5, e_124_6, e_124_9, e_124_12, e_124_15, e_124_16, e_124_17, e_124_20, e_124_23, e_124_24, e_124_27, e_124_28, e_124_31, e_124_32, e_124_33, e_124_36, e_124_37, e_124_40, e_124_43, e_124_46, e_124_47, e_124_50, e_124_51, e_124_54, e_124_55, w0, w1, w2, w3, w4, w5, w6, w7, w8, w9, w10, w12.2.1, ge1, ule_t, true_or, or_true, nI_add, nI_mul, nI_sub, nI_clamp, nI_lt_t, nI_lt_f, nI_le_t, nI_le_f, nI_eq_t, nI_eq_f, vp_nI, tI, fI, not_true, not_false_iff, true_and, and_true, Classical.not_not, mS_uI, mS_uA, mS_uJ, mS_uR, mS_uX, mR_uI, mR_uA, mR_uJ, mR_uX, mX_uI, mX_uA, mX_uJ, mX_uR, mI_s, mI_n, mI_A, mI_An, mI_uJ, mI_uR, mI_uX, mJ_uI, mJ_uA, mJ_uR, mJ_uX, onR_s, kC_v, kC_n, kC_t, e1, ule6]
    exact hq μ Fr.refl hI0 h1
  | succ f ih =>
    intro m μ hm' hI h1 hq
    have hm : m < nM r := by omega
    obtain ⟨a1, a2, a3, a4, a5, a6⟩ := ha_ok hA.1 hA.2.1 m (by omega)
    have hP : ∀ j, j < u2 u → okR (pr2 u pr r j) ∧ SLe (pr2 u pr r j) (haR r m) := fun j hj => ⟨(hA.pp j hj).1, (hA.pp j hj).2.trans a3⟩
    have hm9 : m < nM (haR r m) := by omega
    have hI0 := hI
    have hi := ih (m + 1)
    rw [haR, haN] at hi
    have hsl := fStop_le (V := rW (haR r m)) (n := nM r) (q := nQ r) (m := m)
    obtain ⟨hW, hRS, hN, hC, hE, hRing⟩ := hI
    have hB := hN.1
    have hW0 := hW
    have e1 : mI μ s 1 = nI (nM r) := by rw [hB.1, a1.1, a4]
    have h122 := fun (d : Nat) (Q : Po) => c_122 (d := d) (Q := Q) hW0 hB a1 hm9
    rw [a4, a5] at h122
    obtain ⟨w0, w1, w2, w3, w4, w5, w6, w7, w8, w9, w10, w11, w12, w13, w14, w15⟩ := hW
    rw [e_124_4]
    by_cases hs : fStop (rW (haR r m)) (nM r) (nQ r) m = 0
    · rw [if_pos hs, if_pos hs] at hi
      have hs2 : fStop (rW (haR r m)) (nM (haR r m)) (nQ (haR r m)) m = 0 := by rw [a4, a5]; exact hs
      obtain ⟨g1, g2, g3, g4⟩ := dnr_ok hs2
      obtain ⟨hI2, hfr⟩ := hI0.heal a1 a2.1 a2.2 hP hm9 g2 g3 g4
      simp (disch := first | omega | rfl) only [e_124_0, e_124_1, e_124_2, e_124_3, e_124_5, e_124_6, e_124_9, e_124_12, e_124_15, e_124_16, e_124_17, e_124_20, e_124_23, e_124_24, e_124_27, e_124_28, e_124_31, e_124_32, e_124_33, e_124_36, e_124_37, e_124_40, e_124_43, e_124_46, e_124_47, e_124_50, e_124_51, e_124_54, e_124_55, w0, w1, w2, w3, w4, w5, w6, w7, w8, w9, w10, w12.2.1, ge1, ule_t, true_or, or_true, nI_add, nI_mul, nI_sub, nI_clamp, nI_lt_t, nI_lt_f, nI_le_t, nI_le_f, nI_eq_t, nI_eq_f, vp_nI, tI, fI, not_true, not_false_iff, true_and, and_true, Classical.not_not, mS_uI, mS_uA, mS_uJ, mS_uR, mS_uX, mR_uI, mR_uA, mR_uJ, mR_uX, mX_uI, mX_uA, mX_uJ, mX_uR, mI_s, mI_n, mI_A, mI_An, mI_uJ, mI_uR, mI_uX, mJ_uI, mJ_uA, mJ_uR, mJ_uX, onR_s, kC_v, kC_n, kC_t, e1, uad6, h122, hs, c_125 hI0 a1 a2.1 a2.2 hP hm9 g1]
      exact hi _ (by omega) hI2 (by omega) (fun μ' hf hI3 h3 => hq μ' (hfr.trans hf) hI3 h3)
    · rw [if_neg hs, if_neg hs] at hi
      simp (disch := first | omega | rfl) only [e_124_0, e_124_1, e_124_2, e_124_3, e_124_5, e_124_6, e_124_9, e_124_12, e_124_15, e_124_16, e_124_17, e_124_20, e_124_23, e_124_24, e_124_27, e_124_28, e_124_31, e_124_32, e_124_33, e_124_36, e_124_37, e_124_40, e_124_43, e_124_46, e_124_47, e_124_50, e_124_51, e_124_54, e_124_55, w0, w1, w2, w3, w4, w5, w6, w7, w8, w9, w10, w12.2.1, ge1, ule_t, true_or, or_true, nI_add, nI_mul, nI_sub, nI_clamp, nI_lt_t, nI_lt_f, nI_le_t, nI_le_f, nI_eq_t, nI_eq_f, vp_nI, tI, fI, not_true, not_false_iff, true_and, and_true, Classical.not_not, mS_uI, mS_uA, mS_uJ, mS_uR, mS_uX, mR_uI, mR_uA, mR_uJ, mR_uX, mX_uI, mX_uA, mX_uJ, mX_uR, mI_s, mI_n, mI_A, mI_An, mI_uJ, mI_uR, mI_uX, mJ_uI, mJ_uA, mJ_uR, mJ_uX, onR_s, kC_v, kC_n, kC_t, e1, uad6, h122, hs]
      exact hi μ (by omega) hI0 h1 hq
theorem l_124A (hI : CI μ s c r u pr tn) (hA : AI r u pr tn) : ∀ f m, m + f = nM r → haN r m = 0 → (haN r (nM r) = 0 → Q (some (some (.int (-1)))) μ) → (∀ μ', FrC s c μ μ' → CI μ' s c (haR r (nM r)) (u2 u) (pr2 u pr r) tn → 1 ≤ haN r (nM r) → Q (some (some (.int (nI (haN r (nM r)))))) μ') → EM 124 (d + 7) 4 [some (.ref 1000), some (.int (nI 0)), some (.int (nI m))] [] μ (m, 6 * m) Q := by
  have h6 := hA.1.2.1
  have hI0 := hI
  obtain ⟨hW, hRS, hN, hC, hE, hRing⟩ := hI
  have hB := hN.1
  have hW0 := hW
  have e1 : mI μ s 1 = nI (nM r) := by rw [hB.1, hA.1.1]
  obtain ⟨w0, w1, w2, w3, w4, w5, w6, w7, w8, w9, w10, w11, w12, w13, w14, w15⟩ := hW
  intro f
  induction f with
  | zero =>
    intro m hm h0 hq0 hq
    obtain rfl : m = nM r := by omega
    rw [e_124_4]
    simp (disch := first | omega | rfl) only [e_124_0, e_124_1, e_124_2, e_124_3, e_124_5, e_124_6, e_124_9, e_124_12, e_124_15, e_124_16, e_124_17, e_124_20, e_124_23, e_124_24, e_124_27, e_124_28, e_124_31, e_124_32, e_124_33, e_124_36, e_124_37, e_124_40, e_124_43, e_124_46, e_124_47, e_124_50, e_124_51, e_124_54, e_124_55, w0, w1, w2, w3, w4, w5, w6, w7, w8, w9, w10, w12.2.1, ge1, ule_t, true_or, or_true, nI_add, nI_mul, nI_sub, nI_clamp, nI_lt_t, nI_lt_f, nI_le_t, nI_le_f, nI_eq_t, nI_eq_f, vp_nI, tI, fI, not_true, not_false_iff, true_and, and_true, Classical.not_not, mS_uI, mS_uA, mS_uJ, mS_uR, mS_uX, mR_uI, mR_uA, mR_uJ, mR_uX, mX_uI, mX_uA, mX_uJ, mX_uR, mI_s, mI_n, mI_A, mI_An, mI_uJ, mI_uR, mI_uX, mJ_uI, mJ_uA, mJ_uR, mJ_uX, onR_s, kC_v, kC_n, kC_t, e1, ule6]
    exact hq0 h0
  | succ f ih =>
    intro m hm' h0 hq0 hq
    have hm : m < nM r := by omega
    have hrr := haN_0 m h0
    have hi := ih (m + 1)
    rw [haN, hrr] at hi
    have hsl := fStop_le (V := rW r) (n := nM r) (q := nQ r) (m := m)
    have h122 := fun (d : Nat) (Q : Po) => c_122 (d := d) (Q := Q) hW0 hB hA.1 hm
    rw [e_124_4]
    by_cases hs : fStop (rW r) (nM r) (nQ r) m = 0
    · obtain ⟨g1, g2, g3, g4⟩ := dnr_ok hs
      simp (disch := first | omega | rfl) only [e_124_0, e_124_1, e_124_2, e_124_3, e_124_5, e_124_6, e_124_9, e_124_12, e_124_15, e_124_16, e_124_17, e_124_20, e_124_23, e_124_24, e_124_27, e_124_28, e_124_31, e_124_32, e_124_33, e_124_36, e_124_37, e_124_40, e_124_43, e_124_46, e_124_47, e_124_50, e_124_51, e_124_54, e_124_55, w0, w1, w2, w3, w4, w5, w6, w7, w8, w9, w10, w12.2.1, ge1, ule_t, true_or, or_true, nI_add, nI_mul, nI_sub, nI_clamp, nI_lt_t, nI_lt_f, nI_le_t, nI_le_f, nI_eq_t, nI_eq_f, vp_nI, tI, fI, not_true, not_false_iff, true_and, and_true, Classical.not_not, mS_uI, mS_uA, mS_uJ, mS_uR, mS_uX, mR_uI, mR_uA, mR_uJ, mR_uX, mX_uI, mX_uA, mX_uJ, mX_uR, mI_s, mI_n, mI_A, mI_An, mI_uJ, mI_uR, mI_uX, mJ_uI, mJ_uA, mJ_uR, mJ_uX, onR_s, kC_v, kC_n, kC_t, e1, uad6, h122, hs]
      refine c_148 hI0 hA (fun μ1 hf hk1 hI1 => ?_)
      obtain ⟨x0, x1, x2, x3, x4, x5, x6, x7, x8, x9, x10, x11, x12, x13, x14, x15⟩ := hI1.1
      obtain ⟨y0, y1, y2, y3, y4, y5, y6, y7, y8, y9, y10, y11, y12, y13, y14, y15⟩ := x12
      obtain ⟨c1, c2, c3, c4, c5, c6, c7, c8⟩ := hI1.2.2.1.1
      obtain ⟨hI2, hfr⟩ := hI1.heal hA.1 hA.2.1.1 hA.2.1.2 hA.pp hm g2 g3 g4
      have hB2 := l_124B (d := d) (Q := Q) hA f (m + 1) _ (by omega) (by rw [haR, hrr, if_pos hs]; exact hI2) (by rw [haN, hrr, if_pos hs]; omega) (fun μ' hf2 hI3 h3 => hq μ' (FrC.of hf hk1 (hfr.trans hf2) ⟨x14, x15⟩) hI3 h3)
      rw [haN, hrr, if_pos hs, h0] at hB2
      simp (disch := first | omega | rfl) only [e_124_0, e_124_1, e_124_2, e_124_3, e_124_5, e_124_6, e_124_9, e_124_12, e_124_15, e_124_16, e_124_17, e_124_20, e_124_23, e_124_24, e_124_27, e_124_28, e_124_31, e_124_32, e_124_33, e_124_36, e_124_37, e_124_40, e_124_43, e_124_46, e_124_47, e_124_50, e_124_51, e_124_54, e_124_55, ge1, ule_t, true_or, or_true, nI_add, nI_mul, nI_sub, nI_clamp, nI_lt_t, nI_lt_f, nI_le_t, nI_le_f, nI_eq_t, nI_eq_f, vp_nI, tI, fI, not_true, not_false_iff, true_and, and_true, Classical.not_not, mS_uI, mS_uA, mS_uJ, mS_uR, mS_uX, mR_uI, mR_uA, mR_uJ, mR_uX, mX_uI, mX_uA, mX_uJ, mX_uR, mI_s, mI_n, mI_A, mI_An, mI_uJ, mI_uR, mI_uX, mJ_uI, mJ_uA, mJ_uR, mJ_uX, onR_s, kC_v, kC_n, kC_t, kC_n, x0, uad6, c_125 hI1 hA.1 hA.2.1.1 hA.2.1.2 hA.pp hm g1]
      exact hB2
    · rw [if_neg hs] at hi
      simp (disch := first | omega | rfl) only [e_124_0, e_124_1, e_124_2, e_124_3, e_124_5, e_124_6, e_124_9, e_124_12, e_124_15, e_124_16, e_124_17, e_124_20, e_124_23, e_124_24, e_124_27, e_124_28, e_124_31, e_124_32, e_124_33, e_124_36, e_124_37, e_124_40, e_124_43, e_124_46, e_124_47, e_124_50, e_124_51, e_124_54, e_124_55, w0, w1, w2, w3, w4, w5, w6, w7, w8, w9, w10, w12.2.1, ge1, ule_t, true_or, or_true, nI_add, nI_mul, nI_sub, nI_clamp, nI_lt_t, nI_lt_f, nI_le_t, nI_le_f, nI_eq_t, nI_eq_f, vp_nI, tI, fI, not_true, not_false_iff, true_and, and_true, Classical.not_not, mS_uI, mS_uA, mS_uJ, mS_uR, mS_uX, mR_uI, mR_uA, mR_uJ, mR_uX, mX_uI, mX_uA, mX_uJ, mX_uR, mI_s, mI_n, mI_A, mI_An, mI_uJ, mI_uR, mI_uX, mJ_uI, mJ_uA, mJ_uR, mJ_uX, onR_s, kC_v, kC_n, kC_t, e1, uad6, h122, hs]
      exact hi (by omega) h0 hq0 hq
theorem c_124 (hI : CI μ s c r u pr tn) (hA : AI r u pr tn) (hq0 : haN r (nM r) = 0 → Q (some (some (.int (-1)))) μ) (hq : ∀ μ', FrC s c μ μ' → CI μ' s c (haR r (nM r)) (u2 u) (pr2 u pr r) tn → 1 ≤ haN r (nM r) → Q (some (some (.int (nI (haN r (nM r)))))) μ') : Ev (d + 8) 124 [.ref 1000] μ Q := by
  rw [in_124]
  simp (disch := first | omega | rfl) only [e_124_0, e_124_1, e_124_2, e_124_3, e_124_5, e_124_6, e_124_9, e_124_12, e_124_15, e_124_16, e_124_17, e_124_20, e_124_23, e_124_24, e_124_27, e_124_28, e_124_31, e_124_32, e_124_33, e_124_36, e_124_37, e_124_40, e_124_43, e_124_46, e_124_47, e_124_50, e_124_51, e_124_54, e_124_55, ge1, ule_t, true_or, or_true, nI_add, nI_mul, nI_sub, nI_clamp, nI_lt_t, nI_lt_f, nI_le_t, nI_le_f, nI_eq_t, nI_eq_f, vp_nI, tI, fI, not_true, not_false_iff, true_and, and_true, Classical.not_not]
  exact l_124A hI hA (nM r) 0 (by omega) rfl hq0 hq
end HallC
section HallM
variable {d : Nat} {Q : Po} {μ : Mu} {m n i j k t u N dn w : Nat} {x y z : Int32} {r : Nat → Int32} {l3 l4 l5 : Option Value}
theorem mHeal_sm {μ1 : Mu} (h : ShM μ1) : ShM (mHeal μ1 m dn) := mHeal_fin.1.sm h
theorem l_274B (hO : okR r) (hR : RN3 r) : ∀ f m μ l3, m + f = nM r → ShM μ → mI μ 1302 = haR r m → 1 ≤ haN r m → (∀ μ', Fr PM μ μ' → (∀ k, k ≠ 0 → k ≠ 12 → k ≠ 13 → mI μ' 1298 k = mI μ 1298 k) → (∀ x, mI μ' 1304 x = mI μ 1304 x) → mI μ' 1302 = haR r (nM r) → 1 ≤ haN r (nM r) → Q (some (some (.int (nI (haN r (nM r)))))) μ') → EM 274 (d + 8) 9 [some (.ref 1298), some (.int (nI (haN r m))), some (.int (nI m)), l3] [] μ (0, 0) Q := by
  have h6 := hO.2.1
  intro f
  induction f with
  | zero =>
    intro m μ l3 hm hM hr h1 hq
    obtain rfl : m = nM r := by omega
    obtain ⟨a1, a2, a3, a4, a5, a6⟩ := ha_ok hO hR (nM r) (Nat.le_refl _)
    have e1 : mI μ 1302 2 = nI (nM r) := by rw [hr, a1.1, a4]
    rw [e_274_9]
    simp (disch := first | omega | rfl) only [e_274_0, e_274_1, e_274_2, e_274_5, e_274_6, e_274_7, e_274_8, e_274_10, e_274_11, e_274_14, e_274_17, e_274_18, e_274_19, e_274_22, e_274_25, e_274_28, e_274_29, e_274_32, e_274_33, e_274_36, e_274_37, e_274_38, e_274_41, e_274_42, e_274_45, e_274_48, e_274_51, e_274_52, e_274_55, e_274_56, e_274_59, e_274_60, hM.1, s_165 hM, ge1, ule_t, true_or, or_true, nI_add, nI_mul, nI_sub, nI_clamp, nI_lt_t, nI_lt_f, nI_le_t, nI_le_f, nI_eq_t, nI_eq_f, vp_nI, tI, fI, not_true, not_false_iff, true_and, and_true, Classical.not_not, mS_uI, mS_uA, mS_uJ, mS_uR, mS_uX, mR_uI, mR_uA, mR_uJ, mR_uX, mX_uI, mX_uA, mX_uJ, mX_uR, mI_s, mI_n, mI_A, mI_An, mI_uJ, mI_uR, mI_uX, mJ_uI, mJ_uA, mJ_uR, mJ_uX, onR_s, kC_v, kC_n, kC_t, e1]
    exact hq μ Fr.refl (fun _ _ _ _ => rfl) (fun _ => rfl) hr h1
  | succ f ih =>
    intro m μ l3 hm' hM hr h1 hq
    have hm : m < nM r := by omega
    obtain ⟨a1, a2, a3, a4, a5, a6⟩ := ha_ok hO hR m (by omega)
    have hm9 : m < nM (haR r m) := by omega
    have e1 : mI μ 1302 2 = nI (nM r) := by rw [hr, a1.1, a4]
    have hi := ih (m + 1)
    rw [haR, haN] at hi
    have hsl := fStop_le (V := rW (haR r m)) (n := nM r) (q := nQ r) (m := m)
    have b1 := a1
    obtain ⟨o2, o6, o387, oT, o1708, oO, o1741, oF, o1, oq1, oq6, o0, ol1, ol40, oV, oN1, oP1, oF1⟩ := b1
    have h194 := fun (d : Nat) (Q : Po) => s_194 (d := d) (Q := Q) (n := nM (haR r m)) (q := nQ (haR r m)) (m := m) hM (by rw [hr]; exact o2) o6 (by rw [hr]; exact oV) (by rw [hr]; exact o1) oq6 hm9
    rw [hr, a4, a5] at h194
    rw [e_274_9]
    by_cases hs : fStop (rW (haR r m)) (nM r) (nQ r) m = 0
    · rw [if_pos hs, if_pos hs] at hi
      have hs2 : fStop (rW (haR r m)) (nM (haR r m)) (nQ (haR r m)) m = 0 := by rw [a4, a5]; exact hs
      obtain ⟨g1, g2, g3, g4⟩ := dnr_ok hs2
      have h195 := fun (d : Nat) (Q : Po) => m_195 (d := d) (Q := Q) (μ := μ) (m := m) (dn := dnr (haR r m) m) hM (by rw [hr]; exact a1) (by rw [hr]; exact hm9) (by rw [hr]; exact g1) (by rw [hr]; exact g2) g3 (by rw [hr]; exact g4)
      simp (disch := first | omega | rfl) only [e_274_0, e_274_1, e_274_2, e_274_5, e_274_6, e_274_7, e_274_8, e_274_10, e_274_11, e_274_14, e_274_17, e_274_18, e_274_19, e_274_22, e_274_25, e_274_28, e_274_29, e_274_32, e_274_33, e_274_36, e_274_37, e_274_38, e_274_41, e_274_42, e_274_45, e_274_48, e_274_51, e_274_52, e_274_55, e_274_56, e_274_59, e_274_60, hM.1, s_165 hM, ge1, ule_t, true_or, or_true, nI_add, nI_mul, nI_sub, nI_clamp, nI_lt_t, nI_lt_f, nI_le_t, nI_le_f, nI_eq_t, nI_eq_f, vp_nI, tI, fI, not_true, not_false_iff, true_and, and_true, Classical.not_not, mS_uI, mS_uA, mS_uJ, mS_uR, mS_uX, mR_uI, mR_uA, mR_uJ, mR_uX, mX_uI, mX_uA, mX_uJ, mX_uR, mI_s, mI_n, mI_A, mI_An, mI_uJ, mI_uR, mI_uX, mJ_uI, mJ_uA, mJ_uR, mJ_uX, onR_s, kC_v, kC_n, kC_t, e1, h194, hs, h195]
      obtain ⟨z1, z2, z3⟩ := mHeal_fin (μ1 := μ) (m := m) (dn := dnr (haR r m) m)
      refine hi _ _ (by omega) (mHeal_sm hM) (by unfold mHeal; rw [mI_Af, hr]) (by omega) (fun μ' f1 f2 f3 f4 f5 => hq μ' (z1.trans f1) (fun k k0 k1 k2 => (f2 k k0 k1 k2).trans (z2 k k0 k1 k2)) (fun x => (f3 x).trans (z3 x)) f4 f5)
    · rw [if_neg hs, if_neg hs] at hi
      simp (disch := first | omega | rfl) only [e_274_0, e_274_1, e_274_2, e_274_5, e_274_6, e_274_7, e_274_8, e_274_10, e_274_11, e_274_14, e_274_17, e_274_18, e_274_19, e_274_22, e_274_25, e_274_28, e_274_29, e_274_32, e_274_33, e_274_36, e_274_37, e_274_38, e_274_41, e_274_42, e_274_45, e_274_48, e_274_51, e_274_52, e_274_55, e_274_56, e_274_59, e_274_60, hM.1, s_165 hM, ge1, ule_t, true_or, or_true, nI_add, nI_mul, nI_sub, nI_clamp, nI_lt_t, nI_lt_f, nI_le_t, nI_le_f, nI_eq_t, nI_eq_f, vp_nI, tI, fI, not_true, not_false_iff, true_and, and_true, Classical.not_not, mS_uI, mS_uA, mS_uJ, mS_uR, mS_uX, mR_uI, mR_uA, mR_uJ, mR_uX, mX_uI, mX_uA, mX_uJ, mX_uR, mI_s, mI_n, mI_A, mI_An, mI_uJ, mI_uR, mI_uX, mJ_uI, mJ_uA, mJ_uR, mJ_uX, onR_s, kC_v, kC_n, kC_t, e1, h194, hs]
      exact hi μ _ (by omega) hM hr h1 hq
theorem m_274 (hM : ShM μ) (hO : okR (mI μ 1302)) (hR : RN3 (mI μ 1302)) (hu : mI μ 1298 8 = nI u) (h10 : u ≤ 10) (hq0 : haN (mI μ 1302) (nM (mI μ 1302)) = 0 → Q (some (some (.int (-1)))) (uI μ 1298 0 (nI 0))) (hq : ∀ μ1, FrM μ μ1 → mI μ1 1302 = haR (mI μ 1302) (nM (mI μ 1302)) → 1 ≤ haN (mI μ 1302) (nM (mI μ 1302)) → mI μ1 1298 8 = nI (u2 u) → (∀ j, j < u2 u → prM μ1 j = pr2 u (prM μ) (mI μ 1302) j) → Q (some (some (.int (nI (haN (mI μ 1302) (nM (mI μ 1302))))))) μ1) : Ev (d + 9) 274 [.ref 1298] μ Q := by
  have hM0 := hM
  obtain ⟨p1, p2, p3, p4, p5, p6, p7, p8, p9, p10, p11, p12, p13, p14, p15, p16, p17, p18, p19, p20, p21⟩ := hM
  have hO9 := hO
  obtain ⟨o2, o6, o387, oT, o1708, oO, o1741, oF, o1, oq1, oq6, o0, ol1, ol40, oV, oN1, oP1, oF1⟩ := hO
  have key : ∀ f m l3, m + f = (nM (mI μ 1302)) → haN (mI μ 1302) m = 0 → EM 274 (d + 8) 9 [some (.ref 1298), some (.int (nI 0)), some (.int (nI m)), l3] [] (uI μ 1298 0 (nI 0)) (0, 0) Q := by
    intro f
    induction f with
    | zero =>
      intro m l3 hm h0
      obtain rfl : m = (nM (mI μ 1302)) := by omega
      rw [e_274_9]
      simp (disch := first | omega | rfl) only [e_274_0, e_274_1, e_274_2, e_274_5, e_274_6, e_274_7, e_274_8, e_274_10, e_274_11, e_274_14, e_274_17, e_274_18, e_274_19, e_274_22, e_274_25, e_274_28, e_274_29, e_274_32, e_274_33, e_274_36, e_274_37, e_274_38, e_274_41, e_274_42, e_274_45, e_274_48, e_274_51, e_274_52, e_274_55, e_274_56, e_274_59, e_274_60, p1, p2, p3, p4, p5, p6, p7, p8, p9, p10, p11, p12, p13, p14, p15, p16, p17, p18, p19, p20, p21, o2, o387, o1708, o1741, o1, o0, ge1, ule_t, true_or, or_true, nI_add, nI_mul, nI_sub, nI_clamp, nI_lt_t, nI_lt_f, nI_le_t, nI_le_f, nI_eq_t, nI_eq_f, vp_nI, tI, fI, not_true, not_false_iff, true_and, and_true, Classical.not_not, mS_uI, mS_uA, mS_uJ, mS_uR, mS_uX, mR_uI, mR_uA, mR_uJ, mR_uX, mX_uI, mX_uA, mX_uJ, mX_uR, mI_s, mI_n, mI_A, mI_An, mI_uJ, mI_uR, mI_uX, mJ_uI, mJ_uA, mJ_uR, mJ_uX, onR_s, kC_v, kC_n, kC_t, mI_nf, mI_Anf, s_165 hM0, s_165 (ShM_u2 hM0), s_166 hM0, s_166 (ShM_u2 hM0)]
      exact hq0 h0
    | succ f ih =>
      intro m l3 hm' h0
      have hm : m < (nM (mI μ 1302)) := by omega
      have hrr := haN_0 m h0
      have hi := ih (m + 1)
      rw [haN, hrr] at hi
      have hsl := fStop_le (V := (rW (mI μ 1302))) (n := (nM (mI μ 1302))) (q := (nQ (mI μ 1302))) (m := m)
      rw [e_274_9]
      by_cases hs : fStop (rW (mI μ 1302)) (nM (mI μ 1302)) (nQ (mI μ 1302)) m = 0
      · obtain ⟨g1, g2, g3, g4⟩ := dnr_ok hs
        simp (disch := first | omega | rfl) only [e_274_0, e_274_1, e_274_2, e_274_5, e_274_6, e_274_7, e_274_8, e_274_10, e_274_11, e_274_14, e_274_17, e_274_18, e_274_19, e_274_22, e_274_25, e_274_28, e_274_29, e_274_32, e_274_33, e_274_36, e_274_37, e_274_38, e_274_41, e_274_42, e_274_45, e_274_48, e_274_51, e_274_52, e_274_55, e_274_56, e_274_59, e_274_60, p1, p2, p3, p4, p5, p6, p7, p8, p9, p10, p11, p12, p13, p14, p15, p16, p17, p18, p19, p20, p21, o2, o387, o1708, o1741, o1, o0, ge1, ule_t, true_or, or_true, nI_add, nI_mul, nI_sub, nI_clamp, nI_lt_t, nI_lt_f, nI_le_t, nI_le_f, nI_eq_t, nI_eq_f, vp_nI, tI, fI, not_true, not_false_iff, true_and, and_true, Classical.not_not, mS_uI, mS_uA, mS_uJ, mS_uR, mS_uX, mR_uI, mR_uA, mR_uJ, mR_uX, mX_uI, mX_uA, mX_uJ, mX_uR, mI_s, mI_n, mI_A, mI_An, mI_uJ, mI_uR, mI_uX, mJ_uI, mJ_uA, mJ_uR, mJ_uX, onR_s, kC_v, kC_n, kC_t, mI_nf, mI_Anf, s_165 hM0, s_165 (ShM_u2 hM0), s_166 hM0, s_166 (ShM_u2 hM0), u_194 hM0 hO9 hm, hs]
        refine m_keep hM0 hR.1.1 hu h10 (fun μ1 hf hM1 e4 e5 hfin => ?_)
        have h195 := fun (d : Nat) (Q : Po) => m_195 (d := d) (Q := Q) (μ := μ1) (m := m) (dn := dnr (mI μ 1302) m) hM1 (by rw [e4]; exact hO9) (by rw [e4]; exact hm) (by rw [e4]; exact g1) (by rw [e4]; exact g2) g3 (by rw [e4]; exact g4)
        rw [e4] at h195
        simp (disch := first | omega | rfl) only [e_274_0, e_274_1, e_274_2, e_274_5, e_274_6, e_274_7, e_274_8, e_274_10, e_274_11, e_274_14, e_274_17, e_274_18, e_274_19, e_274_22, e_274_25, e_274_28, e_274_29, e_274_32, e_274_33, e_274_36, e_274_37, e_274_38, e_274_41, e_274_42, e_274_45, e_274_48, e_274_51, e_274_52, e_274_55, e_274_56, e_274_59, e_274_60, ge1, ule_t, true_or, or_true, nI_add, nI_mul, nI_sub, nI_clamp, nI_lt_t, nI_lt_f, nI_le_t, nI_le_f, nI_eq_t, nI_eq_f, vp_nI, tI, fI, not_true, not_false_iff, true_and, and_true, Classical.not_not, mS_uI, mS_uA, mS_uJ, mS_uR, mS_uX, mR_uI, mR_uA, mR_uJ, mR_uX, mX_uI, mX_uA, mX_uJ, mX_uR, mI_s, mI_n, mI_A, mI_An, mI_uJ, mI_uR, mI_uX, mJ_uI, mJ_uA, mJ_uR, mJ_uX, onR_s, kC_v, kC_n, kC_t, kC_n, kC_v, hM1.1, h195]
        obtain ⟨z1, z2, z3⟩ := mHeal_fin (μ1 := μ1) (m := m) (dn := dnr (mI μ 1302) m)
        have hB := l_274B (d := d) (Q := Q) (r := mI μ 1302) hO9 hR f (m + 1) (mHeal μ1 m (dnr (mI μ 1302) m)) (some (.int (nI (pcN (fWr (rW (mI μ 1302)) m (dnr (mI μ 1302) m)))))) (by omega) (mHeal_sm hM1) (by rw [haR, hrr, if_pos hs]; unfold mHeal; rw [mI_Af, e4]) (by rw [haN, hrr, if_pos hs]; omega) (fun μ' f1 f2 f3 f4 f5 => by
          obtain ⟨y1, y2, y3⟩ := hfin μ' (z1.trans f1) (fun k k0 k1 k2 => (f2 k k0 k1 k2).trans (z2 k k0 k1 k2)) (fun x => (f3 x).trans (z3 x))
          exact hq μ' y1 f4 f5 y2 y3)
        rw [haN, hrr, if_pos hs, h0] at hB
        exact hB
      · rw [if_neg hs] at hi
        simp (disch := first | omega | rfl) only [e_274_0, e_274_1, e_274_2, e_274_5, e_274_6, e_274_7, e_274_8, e_274_10, e_274_11, e_274_14, e_274_17, e_274_18, e_274_19, e_274_22, e_274_25, e_274_28, e_274_29, e_274_32, e_274_33, e_274_36, e_274_37, e_274_38, e_274_41, e_274_42, e_274_45, e_274_48, e_274_51, e_274_52, e_274_55, e_274_56, e_274_59, e_274_60, p1, p2, p3, p4, p5, p6, p7, p8, p9, p10, p11, p12, p13, p14, p15, p16, p17, p18, p19, p20, p21, o2, o387, o1708, o1741, o1, o0, ge1, ule_t, true_or, or_true, nI_add, nI_mul, nI_sub, nI_clamp, nI_lt_t, nI_lt_f, nI_le_t, nI_le_f, nI_eq_t, nI_eq_f, vp_nI, tI, fI, not_true, not_false_iff, true_and, and_true, Classical.not_not, mS_uI, mS_uA, mS_uJ, mS_uR, mS_uX, mR_uI, mR_uA, mR_uJ, mR_uX, mX_uI, mX_uA, mX_uJ, mX_uR, mI_s, mI_n, mI_A, mI_An, mI_uJ, mI_uR, mI_uX, mJ_uI, mJ_uA, mJ_uR, mJ_uX, onR_s, kC_v, kC_n, kC_t, mI_nf, mI_Anf, s_165 hM0, s_165 (ShM_u2 hM0), s_166 hM0, s_166 (ShM_u2 hM0), u_194 hM0 hO9 hm, hs]
        exact hi _ (by omega) h0
  rw [in_274]
  simp (disch := first | omega | rfl) only [e_274_0, e_274_1, e_274_2, e_274_5, e_274_6, e_274_7, e_274_8, e_274_10, e_274_11, e_274_14, e_274_17, e_274_18, e_274_19, e_274_22, e_274_25, e_274_28, e_274_29, e_274_32, e_274_33, e_274_36, e_274_37, e_274_38, e_274_41, e_274_42, e_274_45, e_274_48, e_274_51, e_274_52, e_274_55, e_274_56, e_274_59, e_274_60, p1, p2, p3, p4, p5, p6, p7, p8, p9, p10, p11, p12, p13, p14, p15, p16, p17, p18, p19, p20, p21, o2, o387, o1708, o1741, o1, o0, ge1, ule_t, true_or, or_true, nI_add, nI_mul, nI_sub, nI_clamp, nI_lt_t, nI_lt_f, nI_le_t, nI_le_f, nI_eq_t, nI_eq_f, vp_nI, tI, fI, not_true, not_false_iff, true_and, and_true, Classical.not_not, mS_uI, mS_uA, mS_uJ, mS_uR, mS_uX, mR_uI, mR_uA, mR_uJ, mR_uX, mX_uI, mX_uA, mX_uJ, mX_uR, mI_s, mI_n, mI_A, mI_An, mI_uJ, mI_uR, mI_uX, mJ_uI, mJ_uA, mJ_uR, mJ_uX, onR_s, kC_v, kC_n, kC_t, mI_nf, mI_Anf, s_165 hM0, s_165 (ShM_u2 hM0), s_166 hM0, s_166 (ShM_u2 hM0)]
  exact key (nM (mI μ 1302)) 0 none (by omega) rfl
end HallM

