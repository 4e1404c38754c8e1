/-! tick, leave -/
def tN (ρ : Nat → Int32) (la m : Nat) : Nat := if la - nE (rW ρ) m < (rW ρ m 0).toNatClampNeg then la - nE (rW ρ) m else (rW ρ m 0).toNatClampNeg
def tkR (r : Nat → Int32) (la : Nat) : Nat → (Nat → Int32)
  | 0 => r
  | m + 1 => if rW (tkR r la m) m 2 = nI 0 then tkR r la m else rExN (tkR r la m) m (tN (tkR r la m) la m)
def tkS (r : Nat → Int32) (la : Nat) : Nat → Nat
  | 0 => 0
  | m + 1 => if rW (tkR r la m) m 2 = nI 0 then tkS r la m else tkS r la m + tN (tkR r la m) la m
section TickRow
variable {r : Nat → Int32} {m m' k x n la : Nat}
theorem rExN_lo (h : okR r) (hN : RN2 r) (hm : m < nM r) : ∀ n, nE (rW r) m + n ≤ nT r → x < 1741 → (x < 3 + 64 * m ∨ 3 + 64 * m + 64 ≤ x) → rExN r m n x = r x
  | 0, _, _, _ => rfl
  | n + 1, hn, h1, h2 => by
    obtain ⟨a1, a2, a3, a4, a5, a6⟩ := ok_exN h hN hm n (by omega)
    have := h.2.2.2.1
    have := h.2.1
    rw [show rExN r m (n + 1) = rEx (rExN r m n) m from rfl, rEx_lo (by omega) (by omega) h1 h2]
    exact rExN_lo h hN hm n (by omega) h1 h2
theorem tk_ok (h : okR r) (hN : RN2 r) (hla : ∀ m, m < nM r → ¬ rW r m 2 = nI 0 → la ≤ nT r) : ∀ m, m ≤ nM r → okR (tkR r la m) ∧ RN2 (tkR r la m) ∧ nM (tkR r la m) = nM r ∧ nT (tkR r la m) = nT r ∧ nO (tkR r la m) = nO r ∧ (∀ m', m ≤ m' → m' < 6 → ∀ k, k < 64 → rW (tkR r la m) m' k = rW r m' k) ∧ (∀ x, x < 3 → tkR r la m x = r x) ∧ tkR r la m 387 = r 387 ∧ tkS r la m ≤ 4 * m
  | 0, _ => ⟨h, hN, rfl, rfl, rfl, fun _ _ _ _ _ => rfl, fun _ _ => rfl, rfl, Nat.le_refl _⟩
  | m + 1, hm => by
    obtain ⟨a1, a2, a3, a4, a5, a6, a7, a8, a9⟩ := tk_ok h hN hla m (by omega)
    rw [tkR, tkS]
    by_cases ha : rW (tkR r la m) m 2 = nI 0
    · rw [if_pos ha, if_pos ha]
      exact ⟨a1, a2, a3, a4, a5, fun m' h1 h2 => a6 m' (by omega) h2, a7, a8, by omega⟩
    · rw [if_neg ha, if_neg ha]
      have h6 := h.2.1
      have ha' : ¬ rW r m 2 = nI 0 := by rw [← a6 m (Nat.le_refl _) (by omega) 2 (by omega)]; exact ha
      have hl := hla m (by omega) ha'
      have he := nE_le a1 (show m < nM (tkR r la m) by omega)
      have hle : nE (rW (tkR r la m)) m + tN (tkR r la m) la m ≤ nT (tkR r la m) := by
        unfold tN
        split <;> omega
      obtain ⟨p, p1, p4, ep⟩ := (a1.2.2.2.2.2.2.2.2.2.2.2.2.2.2.2.1 m (by omega)).2.1
      have ht4 : tN (tkR r la m) la m ≤ 4 := by
        unfold tN
        rw [ep, nI_clamp (by omega)]
        split <;> omega
      obtain ⟨b1, b2, b3, b4, b5, b6⟩ := ok_exN a1 a2 (by omega : m < nM (tkR r la m)) _ hle
      have hlo := fun x => rExN_lo (x := x) a1 a2 (by omega : m < nM (tkR r la m)) _ hle
      refine ⟨b1, b2, b3.trans a3, b4.trans a4, b5.trans a5, fun m' h1 h2 k hk => ?_, fun x hx => ?_, ?_, by omega⟩
      · exact (hlo _ (by omega) (by omega)).trans (a6 m' (by omega) h2 k hk)
      · rw [hlo x (by omega) (by omega)]; exact a7 x hx
      · rw [hlo 387 (by omega) (by omega)]; exact a8
end TickRow
section TickC
variable {d : Nat} {Q : Po} {μ : Mu} {s c m n q i j k t z u σ o N : Nat} {x y g v w : Int32} {r tn : Nat → Int32} {pr : Nat → Nat → Int32} {l4 l5 : Option Value}
theorem ok_la (hO : okR r) : ∀ m, m < nM r → ¬ rW r m 2 = nI 0 → laN r ≤ nT r := fun m hm ha => (fLast_ok hO hm ha).2
theorem l_143 (hO : okR r) (hR : RN2 r) (hP : ∀ j, j < u → okR (pr j) ∧ SLe (pr j) r) : ∀ f m μ l4 l5, m + f = nM r → CI μ s c (tkR r (laN r) m) u pr tn → (∀ μ', FrX s c μ μ' → CI μ' s c (tkR r (laN r) (nM r)) u pr tn → Q (some (some (.int (nI (tkS r (laN r) (nM r)))))) μ') → EM 143 (d + 6) 13 [some (.ref 1000), some (.int (fLast r)), some (.int (nI (tkS r (laN r) m))), some (.int (nI m)), l4, l5] [] μ (0, 0) Q := by
  intro f
  induction f with
  | zero =>
    intro m μ l4 l5 hm hI hq
    obtain rfl : m = nM r := by omega
    have h6 : nM r ≤ 6 := hO.2.1
    have hk := tk_ok hO hR (ok_la hO) (nM r) (Nat.le_refl _)
    have hI0 := hI
    obtain ⟨hW, hRS, hN, hC, hE, hRing⟩ := hI
    have hB := hN.1
    have e1 : mI μ s 1 = nI (nM r) := by rw [hB.1, hk.1.1, hk.2.2.1]
    obtain ⟨w0, w1, w2, w3, w4, w5, w6, w7, w8, w9, w10, w11, w12, w13, w14, w15⟩ := hW
    rw [e_143_13]
    simp (disch := first | omega | rfl) only [e_143_0, e_143_1, e_143_4, e_143_5, e_143_8, e_143_9, e_143_10, e_143_11, e_143_12, e_143_14, e_143_15, e_143_18, e_143_21, e_143_24, e_143_25, e_143_28, e_143_31, e_143_32, e_143_33, e_143_35, e_143_37, e_143_40, e_143_43, e_143_45, e_143_48, e_143_50, e_143_51, e_143_54, e_143_57, e_143_59, e_143_60, e_143_61, e_143_63, e_143_66, e_143_67, e_143_69, e_143_70, e_143_71, e_143_74, e_143_77, e_143_78, w0, w1, w2, w3, w4, w5, w6, w7, w8, w9, w10, w12.2.1, ge1, ule_t, true_or, or_true, nI_add, nI_mul, nI_sub, nI_clamp, nI_lt_t, nI_lt_f, nI_le_t, nI_le_f, nI_eq_t, nI_eq_f, vp_nI, tI, fI, not_true, not_false_iff, true_and, and_true, Classical.not_not, mS_uI, mS_uA, mS_uJ, mS_uR, mS_uX, mR_uI, mR_uA, mR_uJ, mR_uX, mX_uI, mX_uA, mX_uJ, mX_uR, mI_s, mI_n, mI_A, mI_An, mI_uJ, mI_uR, mI_uX, mJ_uI, mJ_uA, mJ_uR, mJ_uX, onR_s, kC_v, kC_n, kC_t, ul0, ula1, ula2, ula3, ula4, ulb2, ulb3, ulb4, ulc2, ulc3, ulc4, ule4, ulf3, ulf4, e1]
    exact hq μ Fr.refl hI0
  | succ f ih =>
    intro m μ l4 l5 hm' hI hq
    have hm : m < nM r := by omega
    have h6 : nM r ≤ 6 := hO.2.1
    have hT : nT r ≤ 40 := hO.2.2.2.1
    obtain ⟨a1, a2, a3, a4, a5, a6, a7, a8, a9⟩ := tk_ok hO hR (ok_la hO) m (by omega)
    have hI0 := hI
    obtain ⟨hW, hRS, hN, hC, hE, hRing⟩ := hI
    have hB := hN.1
    have e1 : mI μ s 1 = nI (nM r) := by rw [hB.1, a1.1, a3]
    have b7 := hB.2.2.2.2.2.2.1
    have hm9 : m < nM (tkR r (laN r) m) := by omega
    have hk0 := (b7 m hm9).1 0 (by omega)
    have hk1 := (b7 m hm9).1 1 (by omega)
    have hk2 := (b7 m hm9).1 2 (by omega)
    have hW0 := hW
    obtain ⟨w0, w1, w2, w3, w4, w5, w6, w7, w8, w9, w10, w11, w12, w13, w14, w15⟩ := hW
    have hS0 := w12
    obtain ⟨q0, q1, q2, q3, q4, q5, q6, q7, q8, q9, q10, q11, q12, q13, q14, q15⟩ := w12
    rw [e_143_13]
    have hi := ih (m + 1)
    rw [tkR, tkS] at hi
    by_cases ha : rW (tkR r (laN r) m) m 2 = nI 0
    · rw [if_pos ha, if_pos ha] at hi
      simp (disch := first | omega | rfl) only [e_143_0, e_143_1, e_143_4, e_143_5, e_143_8, e_143_9, e_143_10, e_143_11, e_143_12, e_143_14, e_143_15, e_143_18, e_143_21, e_143_24, e_143_25, e_143_28, e_143_31, e_143_32, e_143_33, e_143_35, e_143_37, e_143_40, e_143_43, e_143_45, e_143_48, e_143_50, e_143_51, e_143_54, e_143_57, e_143_59, e_143_60, e_143_61, e_143_63, e_143_66, e_143_67, e_143_69, e_143_70, e_143_71, e_143_74, e_143_77, e_143_78, w0, w1, w2, w3, w4, w5, w6, w7, w8, w9, w10, q1, q2, q3, q4, q5, q6, q7, q8, q9, q10, q11, q12, q13, q14, q15, ge1, ule_t, true_or, or_true, nI_add, nI_mul, nI_sub, nI_clamp, nI_lt_t, nI_lt_f, nI_le_t, nI_le_f, nI_eq_t, nI_eq_f, vp_nI, tI, fI, not_true, not_false_iff, true_and, and_true, Classical.not_not, mS_uI, mS_uA, mS_uJ, mS_uR, mS_uX, mR_uI, mR_uA, mR_uJ, mR_uX, mX_uI, mX_uA, mX_uJ, mX_uR, mI_s, mI_n, mI_A, mI_An, mI_uJ, mI_uR, mI_uX, mJ_uI, mJ_uA, mJ_uR, mJ_uX, onR_s, kC_v, kC_n, kC_t, ul0, ula1, ula2, ula3, ula4, ulb2, ulb3, ulb4, ulc2, ulc3, ulc4, ule4, ulf3, ulf4, cv0, cv1, cv2, cv3, cv4, cv5, cv6, cvrec, e1, hk2, ha]
      exact hi μ _ _ (by omega) hI0 hq
    · rw [if_neg ha, if_neg ha] at hi
      have ha' : ¬ rW r m 2 = nI 0 := by rw [← a6 m (Nat.le_refl _) (by omega) 2 (by omega)]; exact ha
      have hla := fLast_ok hO hm ha'
      have vE := okBE a1.2.2.2.2.2.2.2.2.2.2.2.2.2.2.1 hm9
      obtain ⟨p, p1, p4, ep⟩ := (a1.2.2.2.2.2.2.2.2.2.2.2.2.2.2.2.1 m hm9).2.1
      have he := nE_le a1 hm9
      have hcl : (rW (tkR r (laN r) m) m 0).toNatClampNeg = p := by rw [ep]; exact nI_clamp (by omega)
      have h132 := fun (d : Nat) (Q : Po) => s_132 (d := d) (Q := Q) (μ := μ) (x := nI (laN r)) (q11 m (by omega))
      rw [cv1, hk1, vE.2.1, up_ok (by omega) (by omega)] at h132
      have e5 : (if nI (laN r - nE (rW (tkR r (laN r) m)) m) < nI p then nI (laN r - nE (rW (tkR r (laN r) m)) m) else nI p) = nI (tN (tkR r (laN r) m) (laN r) m) := by
        unfold tN
        rw [hcl]
        by_cases h : laN r - nE (rW (tkR r (laN r) m)) m < p
        · rw [if_pos h, if_pos (nI_lt h (by omega))]
        · rw [if_neg h, if_neg (nI_nlt (by omega) (by omega))]
      have hle : nE (rW (tkR r (laN r) m)) m + tN (tkR r (laN r) m) (laN r) m ≤ nT (tkR r (laN r) m) := by
        have := hla.2
        unfold tN
        split <;> omega
      simp (disch := first | omega | rfl) only [e_143_0, e_143_1, e_143_4, e_143_5, e_143_8, e_143_9, e_143_10, e_143_11, e_143_12, e_143_14, e_143_15, e_143_18, e_143_21, e_143_24, e_143_25, e_143_28, e_143_31, e_143_32, e_143_33, e_143_35, e_143_37, e_143_40, e_143_43, e_143_45, e_143_48, e_143_50, e_143_51, e_143_54, e_143_57, e_143_59, e_143_60, e_143_61, e_143_63, e_143_66, e_143_67, e_143_69, e_143_70, e_143_71, e_143_74, e_143_77, e_143_78, w0, w1, w2, w3, w4, w5, w6, w7, w8, w9, w10, q1, q2, q3, q4, q5, q6, q7, q8, q9, q10, q11, q12, q13, q14, q15, ge1, ule_t, true_or, or_true, nI_add, nI_mul, nI_sub, nI_clamp, nI_lt_t, nI_lt_f, nI_le_t, nI_le_f, nI_eq_t, nI_eq_f, vp_nI, tI, fI, not_true, not_false_iff, true_and, and_true, Classical.not_not, mS_uI, mS_uA, mS_uJ, mS_uR, mS_uX, mR_uI, mR_uA, mR_uJ, mR_uX, mX_uI, mX_uA, mX_uJ, mX_uR, mI_s, mI_n, mI_A, mI_An, mI_uJ, mI_uR, mI_uX, mJ_uI, mJ_uA, mJ_uR, mJ_uX, onR_s, kC_v, kC_n, kC_t, ul0, ula1, ula2, ula3, ula4, ulb2, ulb3, ulb4, ulc2, ulc3, ulc4, ule4, ulf3, ulf4, cv0, cv1, cv2, cv3, cv4, cv5, cv6, cvrec, e1, hk2, ha, hk0, ep, hla.1, h132, e5]
      refine c_144e hI0 a1 a2 (fun j hj => ⟨(hP j hj).1, ?_⟩) hm9 hle (fun μ2 hf2 hI2 => ?_)
      · have := (hP j hj).2
        unfold SLe at this ⊢
        omega
      simp (disch := first | omega | rfl) only [e_143_0, e_143_1, e_143_4, e_143_5, e_143_8, e_143_9, e_143_10, e_143_11, e_143_12, e_143_14, e_143_15, e_143_18, e_143_21, e_143_24, e_143_25, e_143_28, e_143_31, e_143_32, e_143_33, e_143_35, e_143_37, e_143_40, e_143_43, e_143_45, e_143_48, e_143_50, e_143_51, e_143_54, e_143_57, e_143_59, e_143_60, e_143_61, e_143_63, e_143_66, e_143_67, e_143_69, e_143_70, e_143_71, e_143_74, e_143_77, e_143_78, ge1, ule_t, true_or, or_true, nI_add, nI_mul, nI_sub, nI_clamp, nI_lt_t, nI_lt_f, nI_le_t, nI_le_f, nI_eq_t, nI_eq_f, vp_nI, tI, fI, not_true, not_false_iff, true_and, and_true, Classical.not_not, mS_uI, mS_uA, mS_uJ, mS_uR, mS_uX, mR_uI, mR_uA, mR_uJ, mR_uX, mX_uI, mX_uA, mX_uJ, mX_uR, mI_s, mI_n, mI_A, mI_An, mI_uJ, mI_uR, mI_uX, mJ_uI, mJ_uA, mJ_uR, mJ_uX, onR_s, kC_v, kC_n, kC_t, ul0, ula1, ula2, ula3, ula4, ulb2, ulb3, ulb4, ulc2, ulc3, ulc4, ule4, ulf3, ulf4, kC_n]
      rw [hla.1] at hi
      exact hi μ2 _ _ (by omega) hI2 (fun μ' hf3 hI3 => hq μ' (hf2.trans hf3) hI3)
theorem c_143 (hI : CI μ s c r u pr tn) (hA : AI r u pr tn) (hq : ∀ μ1, FrC s c μ μ1 → CI μ1 s c (tkR r (laN r) (nM r)) (u2 u) (pr2 u pr r) tn → Q (some (some (.int (nI (tkS r (laN r) (nM r)))))) μ1) : Ev (d + 7) 143 [.ref 1000] μ Q := by
  obtain ⟨hW, hRS, hN, hC, hE, hRing⟩ := id hI
  have hO := hA.1
  have hB := hN.1
  have hW0 := hW
  obtain ⟨w0, w1, w2, w3, w4, w5, w6, w7, w8, w9, w10, w11, w12, w13, w14, w15⟩ := hW
  have hS0 := w12
  obtain ⟨q0, q1, q2, q3, q4, q5, q6, q7, q8, q9, q10, q11, q12, q13, q14, q15⟩ := w12
  have hB9 := hB
  obtain ⟨b1, b2, b3, b4, b5, b6, b7, b8⟩ := hB
  have hO0 := hO
  obtain ⟨o2, o6, o387, oT, o1708, oO, o1741, oF, o1, oq1, oq6, o0, ol1, ol40, oV, oN1, oP1, oF1⟩ := hO
  have hn : mI μ s 1 = nI (nM r) := b1.trans o2
  have hq9 : mI μ (s + 2) 1 = nI (nQ r) := b6.trans o1
  have hV := b7.ok' oV
  rw [in_143]
  simp (disch := first | omega | rfl) only [e_143_0, e_143_1, e_143_4, e_143_5, e_143_8, e_143_9, e_143_10, e_143_11, e_143_12, e_143_14, e_143_15, e_143_18, e_143_21, e_143_24, e_143_25, e_143_28, e_143_31, e_143_32, e_143_33, e_143_35, e_143_37, e_143_40, e_143_43, e_143_45, e_143_48, e_143_50, e_143_51, e_143_54, e_143_57, e_143_59, e_143_60, e_143_61, e_143_63, e_143_66, e_143_67, e_143_69, e_143_70, e_143_71, e_143_74, e_143_77, e_143_78, w0, w1, w2, w3, w4, w5, w6, w7, w8, w9, w10, q1, q2, q3, q4, q5, q6, q7, q8, q9, q10, q11, q12, q13, q14, q15, b1, b2, b3, b4, b5, b6, o2, o387, o1708, o1741, o1, o0, ge1, ule_t, true_or, or_true, nI_add, nI_mul, nI_sub, nI_clamp, nI_lt_t, nI_lt_f, nI_le_t, nI_le_f, nI_eq_t, nI_eq_f, vp_nI, tI, fI, not_true, not_false_iff, true_and, and_true, Classical.not_not, mS_uI, mS_uA, mS_uJ, mS_uR, mS_uX, mR_uI, mR_uA, mR_uJ, mR_uX, mX_uI, mX_uA, mX_uJ, mX_uR, mI_s, mI_n, mI_A, mI_An, mI_uJ, mI_uR, mI_uX, mJ_uI, mJ_uA, mJ_uR, mJ_uX, onR_s, kC_v, kC_n, kC_t, ul0, ula1, ula2, ula3, ula4, ulb2, ulb3, ulb4, ulc2, ulc3, ulc4, ule4, ulf3, ulf4]
  refine c_148 hI hA (fun μ1 hf hk1 hI1 => ?_)
  obtain ⟨x0, x1, x2, x3, x4, x5, x6, x7, x8, x9, x10, x11, x12, x13, x14, x15⟩ := hI1.1
  obtain ⟨y0, y1, y2, y3, y4, y5, y6, y7, y8, y9, y10, y11, y12, y13, y14, y15⟩ := x12
  obtain ⟨c1, c2, c3, c4, c5, c6, c7, c8⟩ := hI1.2.2.1.1
  simp (disch := first | omega | rfl) only [e_143_0, e_143_1, e_143_4, e_143_5, e_143_8, e_143_9, e_143_10, e_143_11, e_143_12, e_143_14, e_143_15, e_143_18, e_143_21, e_143_24, e_143_25, e_143_28, e_143_31, e_143_32, e_143_33, e_143_35, e_143_37, e_143_40, e_143_43, e_143_45, e_143_48, e_143_50, e_143_51, e_143_54, e_143_57, e_143_59, e_143_60, e_143_61, e_143_63, e_143_66, e_143_67, e_143_69, e_143_70, e_143_71, e_143_74, e_143_77, e_143_78, ge1, ule_t, true_or, or_true, nI_add, nI_mul, nI_sub, nI_clamp, nI_lt_t, nI_lt_f, nI_le_t, nI_le_f, nI_eq_t, nI_eq_f, vp_nI, tI, fI, not_true, not_false_iff, true_and, and_true, Classical.not_not, kC_n, kC_v, ul0, ula1, ula2, ula3, ula4, ulb2, ulb3, ulb4, ulc2, ulc3, ulc4, ule4, ulf3, ulf4, x0, c_131 hI1.1 hI1.2.2.1.1 hO0]
  exact l_143 hO0 hA.2.1.1 hA.pp (nM r) 0 μ1 none none (by omega) hI1 (fun μ2 hf2 hI2 => hq μ2 (FrC.of hf hk1 hf2 ⟨x14, x15⟩) hI2)
end TickC
section TickM
variable {d : Nat} {Q : Po} {μ : Mu} {m n i j k t u N : Nat} {x y z : Int32} {r : Nat → Int32} {l3 l4 l5 : Option Value}
end TickM


