/-! all members healed -/
section HallC
variable {d : Nat} {Q : Po} {μ : Mu} {s c m n q i j k t z u σ o N dn w : Nat} {x y g v : Int32} {r tn : Nat → Int32} {pr : Nat → Nat → Int32} {l4 l5 : Option Value}
theorem l_124B (hA : AI r u pr tn) : ∀ f m μ, m + f = nM r → CI μ s c (haR r m) (u2 u) (pr2 u pr r) tn → 1 ≤ haN r m → (∀ μ', FrX s c μ μ' → CI μ' s c (haR r (nM r)) (u2 u) (pr2 u pr r) tn → 1 ≤ haN r (nM r) → Q (some (some (.int (nI (haN r (nM r)))))) μ') → EM 124 (d + 7) 4 [some (.ref 1000), some (.int (nI (haN r m))), some (.int (nI m))] [] μ (m, 6 * m) Q := by
  have h6 := hA.1.2.1
  intro f
  induction f with
  | zero =>
    intro m μ hm hI h1 hq
    obtain rfl : m = nM r := by omega
    obtain ⟨a1, a2, a3, a4, a5, a6⟩ := ha_ok hA.1 hA.2.1 (nM r) (Nat.le_refl _)
    have hI0 := hI
    obtain ⟨hW, hRS, hN, hC, hE, hRing⟩ := hI
    have e1 : mI μ s 1 = nI (nM r) := by rw [hN.1.1, a1.1, a4]
    obtain ⟨w0, w1, w2, w3, w4, w5, w6, w7, w8, w9, w10, w11, w12, w13, w14, w15⟩ := hW
    rw [e_124_4]
    simp (disch := first | omega | rfl) only [e_124_0, e_124_1, e_124_2, e_124_3, e_124_5, e_124_6, e_124_9, e_124_12, e_124_15, e_124_16, e_124_17, e_124_20, e_124_23, e_124_24, e_124_27, e_124_28, e_124_31, e_124_32, e_124_33, e_124_36, e_124_37, e_124_40, e_124_43, e_124_46, e_124_47, e_124_50, e_124_51, e_124_54, e_124_55, w0, w1, w2, w3, w4, w5, w6, w7, w8, w9, w10, w12.2.1, ge1, ule_t, true_or, or_true, nI_add, nI_mul, nI_sub, nI_clamp, nI_lt_t, nI_lt_f, nI_le_t, nI_le_f, nI_eq_t, nI_eq_f, vp_nI, tI, fI, not_true, not_false_iff, true_and, and_true, Classical.not_not, mS_uI, mS_uA, mS_uJ, mS_uR, mS_uX, mR_uI, mR_uA, mR_uJ, mR_uX, mX_uI, mX_uA, mX_uJ, mX_uR, mI_s, mI_n, mI_A, mI_An, mI_uJ, mI_uR, mI_uX, mJ_uI, mJ_uA, mJ_uR, mJ_uX, onR_s, kC_v, kC_n, kC_t, e1, ule6]
    exact hq μ Fr.refl hI0 h1
  | succ f ih =>
    intro m μ hm' hI h1 hq
    have hm : m < nM r := by omega
    obtain ⟨a1, a2, a3, a4, a5, a6⟩ := ha_ok hA.1 hA.2.1 m (by omega)
    have hP : ∀ j, j < u2 u → okR (pr2 u pr r j) ∧ SLe (pr2 u pr r j) (haR r m) := fun j hj => ⟨(hA.pp j hj).1, (hA.pp j hj).2.trans a3⟩
    have hm9 : m < nM (haR r m) := by omega
    have hI0 := hI
    have hi := ih (m + 1)
    rw [haR, haN] at hi
    have hsl := fStop_le (V := rW (haR r m)) (n := nM r) (q := nQ r) (m := m)
    obtain ⟨hW, hRS, hN, hC, hE, hRing⟩ := hI
    have hB := hN.1
    have hW0 := hW
    have e1 : mI μ s 1 = nI (nM r) := by rw [hB.1, a1.1, a4]
    have h122 := fun (d : Nat) (Q : Po) => c_122 (d := d) (Q := Q) hW0 hB a1 hm9
    rw [a4, a5] at h122
    obtain ⟨w0, w1, w2, w3, w4, w5, w6, w7, w8, w9, w10, w11, w12, w13, w14, w15⟩ := hW
    rw [e_124_4]
    by_cases hs : fStop (rW (haR r m)) (nM r) (nQ r) m = 0
    · rw [if_pos hs, if_pos hs] at hi
      have hs2 : fStop (rW (haR r m)) (nM (haR r m)) (nQ (haR r m)) m = 0 := by rw [a4, a5]; exact hs
      obtain ⟨g1, g2, g3, g4⟩ := dnr_ok hs2
      obtain ⟨hI2, hfr⟩ := hI0.heal a1 a2.1 a2.2 hP hm9 g2 g3 g4
      simp (disch := first | omega | rfl) only [e_124_0, e_124_1, e_124_2, e_124_3, e_124_5, e_124_6, e_124_9, e_124_12, e_124_15, e_124_16, e_124_17, e_124_20, e_124_23, e_124_24, e_124_27, e_124_28, e_124_31, e_124_32, e_124_33, e_124_36, e_124_37, e_124_40, e_124_43, e_124_46, e_124_47, e_124_50, e_124_51, e_124_54, e_124_55, w0, w1, w2, w3, w4, w5, w6, w7, w8, w9, w10, w12.2.1, ge1, ule_t, true_or, or_true, nI_add, nI_mul, nI_sub, nI_clamp, nI_lt_t, nI_lt_f, nI_le_t, nI_le_f, nI_eq_t, nI_eq_f, vp_nI, tI, fI, not_true, not_false_iff, true_and, and_true, Classical.not_not, mS_uI, mS_uA, mS_uJ, mS_uR, mS_uX, mR_uI, mR_uA, mR_uJ, mR_uX, mX_uI, mX_uA, mX_uJ, mX_uR, mI_s, mI_n, mI_A, mI_An, mI_uJ, mI_uR, mI_uX, mJ_uI, mJ_uA, mJ_uR, mJ_uX, onR_s, kC_v, kC_n, kC_t, e1, uad6, h122, hs, c_125 hI0 a1 a2.1 a2.2 hP hm9 g1]
      exact hi _ (by omega) hI2 (by omega) (fun μ' hf hI3 h3 => hq μ' (hfr.trans hf) hI3 h3)
    · rw [if_neg hs, if_neg hs] at hi
      simp (disch := first | omega | rfl) only [e_124_0, e_124_1, e_124_2, e_124_3, e_124_5, e_124_6, e_124_9, e_124_12, e_124_15, e_124_16, e_124_17, e_124_20, e_124_23, e_124_24, e_124_27, e_124_28, e_124_31, e_124_32, e_124_33, e_124_36, e_124_37, e_124_40, e_124_43, e_124_46, e_124_47, e_124_50, e_124_51, e_124_54, e_124_55, w0, w1, w2, w3, w4, w5, w6, w7, w8, w9, w10, w12.2.1, ge1, ule_t, true_or, or_true, nI_add, nI_mul, nI_sub, nI_clamp, nI_lt_t, nI_lt_f, nI_le_t, nI_le_f, nI_eq_t, nI_eq_f, vp_nI, tI, fI, not_true, not_false_iff, true_and, and_true, Classical.not_not, mS_uI, mS_uA, mS_uJ, mS_uR, mS_uX, mR_uI, mR_uA, mR_uJ, mR_uX, mX_uI, mX_uA, mX_uJ, mX_uR, mI_s, mI_n, mI_A, mI_An, mI_uJ, mI_uR, mI_uX, mJ_uI, mJ_uA, mJ_uR, mJ_uX, onR_s, kC_v, kC_n, kC_t, e1, uad6, h122, hs]
      exact hi μ (by omega) hI0 h1 hq
theorem l_124A (hI : CI μ s c r u pr tn) (hA : AI r u pr tn) : ∀ f m, m + f = nM r → haN r m = 0 → (haN r (nM r) = 0 → Q (some (some (.int (-1)))) μ) → (∀ μ', FrC s c μ μ' → CI μ' s c (haR r (nM r)) (u2 u) (pr2 u pr r) tn → 1 ≤ haN r (nM r) → Q (some (some (.int (nI (haN r (nM r)))))) μ') → EM 124 (d + 7) 4 [some (.ref 1000), some (.int (nI 0)), some (.int (nI m))] [] μ (m, 6 * m) Q := by
  have h6 := hA.1.2.1
  have hI0 := hI
  obtain ⟨hW, hRS, hN, hC, hE, hRing⟩ := hI
  have hB := hN.1
  have hW0 := hW
  have e1 : mI μ s 1 = nI (nM r) := by rw [hB.1, hA.1.1]
  obtain ⟨w0, w1, w2, w3, w4, w5, w6, w7, w8, w9, w10, w11, w12, w13, w14, w15⟩ := hW
  intro f
  induction f with
  | zero =>
    intro m hm h0 hq0 hq
    obtain rfl : m = nM r := by omega
    rw [e_124_4]
    simp (disch := first | omega | rfl) only [e_124_0, e_124_1, e_124_2, e_124_3, e_124_5, e_124_6, e_124_9, e_124_12, e_124_15, e_124_16, e_124_17, e_124_20, e_124_23, e_124_24, e_124_27, e_124_28, e_124_31, e_124_32, e_124_33, e_124_36, e_124_37, e_124_40, e_124_43, e_124_46, e_124_47, e_124_50, e_124_51, e_124_54, e_124_55, w0, w1, w2, w3, w4, w5, w6, w7, w8, w9, w10, w12.2.1, ge1, ule_t, true_or, or_true, nI_add, nI_mul, nI_sub, nI_clamp, nI_lt_t, nI_lt_f, nI_le_t, nI_le_f, nI_eq_t, nI_eq_f, vp_nI, tI, fI, not_true, not_false_iff, true_and, and_true, Classical.not_not, mS_uI, mS_uA, mS_uJ, mS_uR, mS_uX, mR_uI, mR_uA, mR_uJ, mR_uX, mX_uI, mX_uA, mX_uJ, mX_uR, mI_s, mI_n, mI_A, mI_An, mI_uJ, mI_uR, mI_uX, mJ_uI, mJ_uA, mJ_uR, mJ_uX, onR_s, kC_v, kC_n, kC_t, e1, ule6]
    exact hq0 h0
  | succ f ih =>
    intro m hm' h0 hq0 hq
    have hm : m < nM r := by omega
    have hrr := haN_0 m h0
    have hi := ih (m + 1)
    rw [haN, hrr] at hi
    have hsl := fStop_le (V := rW r) (n := nM r) (q := nQ r) (m := m)
    have h122 := fun (d : Nat) (Q : Po) => c_122 (d := d) (Q := Q) hW0 hB hA.1 hm
    rw [e_124_4]
    by_cases hs : fStop (rW r) (nM r) (nQ r) m = 0
    · obtain ⟨g1, g2, g3, g4⟩ := dnr_ok hs
      simp (disch := first | omega | rfl) only [e_124_0, e_124_1, e_124_2, e_124_3, e_124_5, e_124_6, e_124_9, e_124_12, e_124_15, e_124_16, e_124_17, e_124_20, e_124_23, e_124_24, e_124_27, e_124_28, e_124_31, e_124_32, e_124_33, e_124_36, e_124_37, e_124_40, e_124_43, e_124_46, e_124_47, e_124_50, e_124_51, e_124_54, e_124_55, w0, w1, w2, w3, w4, w5, w6, w7, w8, w9, w10, w12.2.1, ge1, ule_t, true_or, or_true, nI_add, nI_mul, nI_sub, nI_clamp, nI_lt_t, nI_lt_f, nI_le_t, nI_le_f, nI_eq_t, nI_eq_f, vp_nI, tI, fI, not_true, not_false_iff, true_and, and_true, Classical.not_not, mS_uI, mS_uA, mS_uJ, mS_uR, mS_uX, mR_uI, mR_uA, mR_uJ, mR_uX, mX_uI, mX_uA, mX_uJ, mX_uR, mI_s, mI_n, mI_A, mI_An, mI_uJ, mI_uR, mI_uX, mJ_uI, mJ_uA, mJ_uR, mJ_uX, onR_s, kC_v, kC_n, kC_t, e1, uad6, h122, hs]
      refine c_148 hI0 hA (fun μ1 hf hk1 hI1 => ?_)
      obtain ⟨x0, x1, x2, x3, x4, x5, x6, x7, x8, x9, x10, x11, x12, x13, x14, x15⟩ := hI1.1
      obtain ⟨y0, y1, y2, y3, y4, y5, y6, y7, y8, y9, y10, y11, y12, y13, y14, y15⟩ := x12
      obtain ⟨c1, c2, c3, c4, c5, c6, c7, c8⟩ := hI1.2.2.1.1
      obtain ⟨hI2, hfr⟩ := hI1.heal hA.1 hA.2.1.1 hA.2.1.2 hA.pp hm g2 g3 g4
      have hB2 := l_124B (d := d) (Q := Q) hA f (m + 1) _ (by omega) (by rw [haR, hrr, if_pos hs]; exact hI2) (by rw [haN, hrr, if_pos hs]; omega) (fun μ' hf2 hI3 h3 => hq μ' (FrC.of hf hk1 (hfr.trans hf2) ⟨x14, x15⟩) hI3 h3)
      rw [haN, hrr, if_pos hs, h0] at hB2
      simp (disch := first | omega | rfl) only [e_124_0, e_124_1, e_124_2, e_124_3, e_124_5, e_124_6, e_124_9, e_124_12, e_124_15, e_124_16, e_124_17, e_124_20, e_124_23, e_124_24, e_124_27, e_124_28, e_124_31, e_124_32, e_124_33, e_124_36, e_124_37, e_124_40, e_124_43, e_124_46, e_124_47, e_124_50, e_124_51, e_124_54, e_124_55, ge1, ule_t, true_or, or_true, nI_add, nI_mul, nI_sub, nI_clamp, nI_lt_t, nI_lt_f, nI_le_t, nI_le_f, nI_eq_t, nI_eq_f, vp_nI, tI, fI, not_true, not_false_iff, true_and, and_true, Classical.not_not, mS_uI, mS_uA, mS_uJ, mS_uR, mS_uX, mR_uI, mR_uA, mR_uJ, mR_uX, mX_uI, mX_uA, mX_uJ, mX_uR, mI_s, mI_n, mI_A, mI_An, mI_uJ, mI_uR, mI_uX, mJ_uI, mJ_uA, mJ_uR, mJ_uX, onR_s, kC_v, kC_n, kC_t, kC_n, x0, uad6, c_125 hI1 hA.1 hA.2.1.1 hA.2.1.2 hA.pp hm g1]
      exact hB2
    · rw [if_neg hs] at hi
      simp (disch := first | omega | rfl) only [e_124_0, e_124_1, e_124_2, e_124_3, e_124_5, e_124_6, e_124_9, e_124_12, e_124_15, e_124_16, e_124_17, e_124_20, e_124_23, e_124_24, e_124_27, e_124_28, e_124_31, e_124_32, e_124_33, e_124_36, e_124_37, e_124_40, e_124_43, e_124_46, e_124_47, e_124_50, e_124_51, e_124_54, e_124_55, w0, w1, w2, w3, w4, w5, w6, w7, w8, w9, w10, w12.2.1, ge1, ule_t, true_or, or_true, nI_add, nI_mul, nI_sub, nI_clamp, nI_lt_t, nI_lt_f, nI_le_t, nI_le_f, nI_eq_t, nI_eq_f, vp_nI, tI, fI, not_true, not_false_iff, true_and, and_true, Classical.not_not, mS_uI, mS_uA, mS_uJ, mS_uR, mS_uX, mR_uI, mR_uA, mR_uJ, mR_uX, mX_uI, mX_uA, mX_uJ, mX_uR, mI_s, mI_n, mI_A, mI_An, mI_uJ, mI_uR, mI_uX, mJ_uI, mJ_uA, mJ_uR, mJ_uX, onR_s, kC_v, kC_n, kC_t, e1, uad6, h122, hs]
      exact hi (by omega) h0 hq0 hq
theorem c_124 (hI : CI μ s c r u pr tn) (hA : AI r u pr tn) (hq0 : haN r (nM r) = 0 → Q (some (some (.int (-1)))) μ) (hq : ∀ μ', FrC s c μ μ' → CI μ' s c (haR r (nM r)) (u2 u) (pr2 u pr r) tn → 1 ≤ haN r (nM r) → Q (some (some (.int (nI (haN r (nM r)))))) μ') : Ev (d + 8) 124 [.ref 1000] μ Q := by
  rw [in_124]
  simp (disch := first | omega | rfl) only [e_124_0, e_124_1, e_124_2, e_124_3, e_124_5, e_124_6, e_124_9, e_124_12, e_124_15, e_124_16, e_124_17, e_124_20, e_124_23, e_124_24, e_124_27, e_124_28, e_124_31, e_124_32, e_124_33, e_124_36, e_124_37, e_124_40, e_124_43, e_124_46, e_124_47, e_124_50, e_124_51, e_124_54, e_124_55, ge1, ule_t, true_or, or_true, nI_add, nI_mul, nI_sub, nI_clamp, nI_lt_t, nI_lt_f, nI_le_t, nI_le_f, nI_eq_t, nI_eq_f, vp_nI, tI, fI, not_true, not_false_iff, true_and, and_true, Classical.not_not]
  exact l_124A hI hA (nM r) 0 (by omega) rfl hq0 hq
end HallC
section HallM
variable {d : Nat} {Q : Po} {μ : Mu} {m n i j k t u N dn w : Nat} {x y z : Int32} {r : Nat → Int32} {l3 l4 l5 : Option Value}
end HallM


