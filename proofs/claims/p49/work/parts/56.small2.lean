/-! small changes, through -/
section Small2
variable {d : Nat} {Q : Po} {μ : Mu} {s c m n q i j k t z u σ o : Nat} {x y g v w : Int32} {r tn : Nat → Int32} {pr : Nat → Nat → Int32}
/-- the frame of a change -/
theorem FrC.of {μ1 μ2 : Mu} (hf : Fr (fun a => a = 1000 ∨ (1068 ≤ a ∧ a < 1298)) μ μ1) (hk : ∀ k, k ≠ 3 → k ≠ 4 → mI μ1 1000 k = mI μ 1000 k) (h : Fr (fun a => (s ≤ a ∧ a ≤ s + 22) ∨ (c ≤ a ∧ a ≤ c + 4) ∨ (1062 ≤ a ∧ a ≤ 1067)) μ1 μ2) (h1 : (s = 1001 ∨ s = 1032) ∧ (c = 1024 ∨ c = 1055)) : FrC s c μ μ2 := by
  refine ⟨(hf.mono (fun a ha => ?_)).trans (h.mono (fun a ha => ?_)), fun k k3 k4 => ?_⟩
  · unfold PC; omega
  · unfold PC; omega
  · rw [h.2.2.2 1000 (by omega)]; exact hk k k3 k4
/-- the ring, when the state and the script go on -/
theorem CI.step {μ1 μ2 : Mu} {r' : Nat → Int32} {u' : Nat} {pr' : Nat → Nat → Int32} (hI : CI μ1 s c r u' pr' tn) (hP : ∀ j, j < u' → okR (pr' j) ∧ SLe (pr' j) r) (h : Fr (fun a => (s ≤ a ∧ a ≤ s + 22) ∨ (c ≤ a ∧ a ≤ c + 4) ∨ (1062 ≤ a ∧ a ≤ 1067)) μ1 μ2) (g1 : ∀ k, mI μ2 (c + 1) k = mI μ1 (c + 1) k) (g2 : ∀ k, k < nT r → mI μ2 (c + 2) k = mI μ1 (c + 2) k) (g3 : ∀ k, k < 32 * nT r + 4 * nO r → mI μ2 (c + 3) k = mI μ1 (c + 3) k) (g4 : ∀ k, k < 8 * nT r → mI μ2 (c + 4) k = mI μ1 (c + 4) k) (h8 : ∀ j, j < u' → nO (pr' j) ≤ 8) (hN : RelN μ2 s r' tn) (hC : RelC μ2 c r') : CI μ2 s c r' u' pr' tn := by
  obtain ⟨hW, hRS, -, -, hE, k4, l, hl, k3, hR⟩ := hI
  have hW0 := hW
  obtain ⟨w0, w1, w2, w3, w4, w5, w6, w7, w8, w9, w10, w11, w12, w13, w14, w15⟩ := hW
  refine ⟨h.sr hW0, fun i hi => h.st (hRS i hi), hN, hC, fun k hk => by rw [g1]; exact hE k hk, by rw [h.2.2.2 1000 (by omega)]; exact k4, l, hl, by rw [h.2.2.2 1000 (by omega)]; exact k3, fun i hi => ?_⟩
  obtain ⟨f1, f2⟩ := hR i hi
  obtain ⟨hok, hsl⟩ := hP (u' - 1 - i) (by omega)
  have ho := h8 (u' - 1 - i) (by omega)
  have h10 : (l + 10 - i) % 10 < 10 := Nat.mod_lt _ (by omega)
  refine ⟨f1.fr hok.2.1 (fun a h1 h2 k => h.2.2.2 a (by omega) k), f2.fr hok.z (fun k hk => g2 k ?_) (fun k hk => g4 k ?_) (fun k hk => g3 k ?_)⟩
  · unfold SLe at hsl; omega
  · unfold SLe at hsl; omega
  · unfold SLe at hsl; omega
theorem AI.pp {u : Nat} (hA : AI r u pr tn) : ∀ j, j < u2 u → okR (pr2 u pr r j) ∧ SLe (pr2 u pr r j) r := fun j hj => by
  have := (hA.next hA.1 hA.2.1 (SLe.refl r) (Nat.le_refl _)).2.2.2.1 j hj
  exact ⟨this.1, this.2.2.1⟩
theorem AI.p8 {u : Nat} (hA : AI r u pr tn) : ∀ j, j < u2 u → nO (pr2 u pr r j) ≤ 8 := fun j hj => (hA.pp j hj).1.2.2.2.2.2.1
def cGive (μ : Mu) (s c T o : Nat) (m σ i k : Nat) : Mu := uI (uA μ (c + 3) (upd (upd (upd (upd (mI μ (c + 3)) (4 * (8 * T + o)) (nI m)) (4 * (8 * T + o) + 1) (nI σ)) (4 * (8 * T + o) + 2) (nI i)) (4 * (8 * T + o) + 3) (nI k))) s 3 (nI (o + 1))
theorem s_76 (hS : StS μ s) (hc : ScS μ c) (hsc : s + 22 < c ∨ c + 4 < s) (h2 : mI μ s 2 = nI t) (h3 : mI μ s 3 = nI o) (hT : t ≤ 40) (ho : o < 8) : Ev (d + 2) 76 [.ref s, .ref c, .int (nI m), .int (nI σ), .int (nI i), .int (nI k)] μ Q = Q (some none) (cGive μ s c t o m σ i k) := by
  obtain ⟨q0, q1, q2, q3, q4, q5, q6, q7, q8, q9, q10, q11, q12, q13, q14, q15⟩ := hS
  obtain ⟨r0, r1, r2, r3, r4, r5, r6, r7, r8, r9⟩ := hc
  have e7 : (t * 8 + o) * 4 = 4 * (8 * t + o) := by omega
  rw [in_76]
  simp (disch := first | omega | rfl) only [e_76_0, e_76_1, e_76_2, e_76_5, e_76_7, e_76_8, e_76_9, e_76_12, e_76_13, e_76_14, e_76_15, e_76_17, e_76_19, e_76_22, e_76_23, e_76_24, e_76_27, e_76_28, e_76_29, e_76_32, ge1, ule_t, true_or, or_true, nI_add, nI_mul, nI_sub, nI_clamp, nI_lt_t, nI_lt_f, nI_le_t, nI_le_f, nI_eq_t, nI_eq_f, vp_nI, tI, fI, not_true, not_false_iff, true_and, and_true, Classical.not_not, mS_uI, mS_uA, mS_uJ, mS_uR, mS_uX, mR_uI, mR_uA, mR_uJ, mR_uX, mX_uI, mX_uA, mX_uJ, mX_uR, mI_s, mI_n, mI_A, mI_An, mI_uJ, mI_uR, mI_uX, mJ_uI, mJ_uA, mJ_uR, mJ_uX, onR_s, kC_v, kC_n, kC_t, q1, q2, q3, q4, q5, q6, q7, q8, q9, q10, q11, q12, q13, q14, q15, r1, r2, r3, r4, r5, r6, r7, r8, r9, r0, h2, h3, in_65, e_65_0, e_65_1, e_65_2, e_65_3, e_65_5, e_65_6, e_65_9, e_65_11, e_65_12, e_65_13, e_65_14, e_65_17, e_65_19, e_65_20, e_65_21, e_65_22, e_65_23, e_65_24, e_65_27, e_65_29, e_65_30, e_65_31, e_65_33, e_65_34, e_65_35, e_65_38, e_65_40, e_65_41, e_65_42, e_65_44, e_65_45, e7, uI_A, uA_A, mI_Af, mI_Anf]
  unfold cGive
  simp only [uI_A]
  rw [mI_Anf (by omega)]
theorem cGive_fr : Fr (fun a => (s ≤ a ∧ a ≤ s + 22) ∨ (c ≤ a ∧ a ≤ c + 4) ∨ (1062 ≤ a ∧ a ≤ 1067)) μ (cGive μ s c t o m σ i k) := by
  unfold cGive
  exact (Fr.refl.au (Or.inr (Or.inl (by omega)))).iu (Or.inl (by omega))
theorem rel_give (hN : RelN μ s r tn) (hC : RelC μ c r) (hO : okR r) (hsc : s + 22 < c ∨ c + 4 < s) (ho : nO r < 8) : RelN (cGive μ s c (nT r) (nO r) m σ i k) s (rGive r m σ i k) tn ∧ RelC (cGive μ s c (nT r) (nO r) m σ i k) c (rGive r m σ i k) := by
  have hO0 := hO
  obtain ⟨o2, o6, o387, oT, o1708, oO, o1741, oF, o1, oq1, oq6, o0, ol1, ol40, oV, oN1, oP1, oF1⟩ := hO
  have n3 : nT (rGive r m σ i k) = nT r := by unfold nT; rw [rGive_lo (by omega)]
  have n4 : nO (rGive r m σ i k) = nO r + 1 := by unfold nO; rw [rGive_o]; exact nI_clamp (by omega)
  have n5 : nF (rGive r m σ i k) = nF r := by unfold nF; rw [rGive_hi ho (by omega)]
  constructor
  · refine hN.of hO0 (fun x hx => rGive_lo (by omega)) (fun a h1 h2 h3 h4 k => ?_) (fun k hk => ?_) ?_ ?_ ?_
    · unfold cGive; simp (disch := omega) only [mI_n, mI_An]
    · unfold cGive; simp (disch := omega) only [mI_n, mI_An]
    · rw [rGive_o]; unfold cGive; rw [mI_s]
    · rw [rGive_hi ho (by omega)]; unfold cGive; simp (disch := omega) only [mI_n, mI_An]; exact hN.1.2.2.2.1
    · intro k hk
      rw [n5] at hk
      rw [rGive_hi ho (by omega)]; unfold cGive; simp (disch := omega) only [mI_n, mI_An]; exact hN.1.2.2.2.2.2.2.2 k hk
  · obtain ⟨g1, g2⟩ := hC
    constructor
    · intro t ht
      rw [n3] at ht
      obtain ⟨a1, a2⟩ := g1 t ht
      have hz8 := hO0.z t ht
      refine ⟨?_, fun k' hk => ?_⟩
      · rw [rGive_lo (by omega)]; unfold cGive; simp (disch := omega) only [mI_n, mI_An]; exact a1
      · rw [rGive_lo (by omega)] at hk
        have hk8 : k' < 8 := Nat.lt_of_lt_of_le hk hz8
        obtain ⟨j, hj, e1, e2⟩ := a2 k' hk
        refine ⟨j, hj, ?_, fun w hw => ?_⟩
        · unfold cGive; simp (disch := omega) only [mI_n, mI_An]; exact e1
        · rw [rGive_lo (by omega)]
          unfold cGive; simp (disch := omega) only [mI_n, mI_A, upd_n]; exact e2 w hw
    · intro j hj w hw
      rw [n4] at hj
      rw [n3]
      by_cases hjo : j < nO r
      · rw [rGive_op hjo hw]
        unfold cGive; simp (disch := omega) only [mI_n, mI_A, upd_n]; exact g2 j hjo w hw
      · have : j = nO r := by omega
        subst this
        unfold cGive
        rw [mI_n (by omega), mI_A]
        rcases (by omega : w = 0 ∨ w = 1 ∨ w = 2 ∨ w = 3) with rfl | rfl | rfl | rfl
        · simp only [Nat.add_zero, rGive_0]; simp (disch := omega) only [upd_n, upd_s]
        · rw [rGive_1]; simp (disch := omega) only [upd_n, upd_s]
        · rw [rGive_2]; simp (disch := omega) only [upd_n, upd_s]
        · rw [rGive_3]; simp (disch := omega) only [upd_n, upd_s]
theorem c_140 (hI : CI μ s c r u pr tn) (hA : AI r u pr tn) (hm : m < nM r) (hσ : σ < 6) (hi : i < 16) (hk : k < gOp σ) (ha : ¬ rW r m 2 = nI 0) (ho : nO r < 8) (hq : ∀ μ1, FrC s c μ μ1 → CI μ1 s c (rGive r m σ i k) (u2 u) (pr2 u pr r) tn → Q (some (some (.int (nI (nO r + 1))))) μ1) : Ev (d + 4) 140 [.ref 1000, .int (nI m), .int (nI σ), .int (nI i), .int (nI k)] μ Q := by
  obtain ⟨hW, hRS, hN, hC, hE, hRing⟩ := id hI
  have hO := hA.1
  have hB := hN.1
  have hW0 := hW
  obtain ⟨w0, w1, w2, w3, w4, w5, w6, w7, w8, w9, w10, w11, w12, w13, w14, w15⟩ := hW
  have hS0 := w12
  obtain ⟨q0, q1, q2, q3, q4, q5, q6, q7, q8, q9, q10, q11, q12, q13, q14, q15⟩ := w12
  have hB9 := hB
  obtain ⟨b1, b2, b3, b4, b5, b6, b7, b8⟩ := hB
  have hO0 := hO
  obtain ⟨o2, o6, o387, oT, o1708, oO, o1741, oF, o1, oq1, oq6, o0, ol1, ol40, oV, oN1, oP1, oF1⟩ := hO
  have hn : mI μ s 1 = nI (nM r) := b1.trans o2
  have hq9 : mI μ (s + 2) 1 = nI (nQ r) := b6.trans o1
  have hV := b7.ok' oV
  have hg := gOp_le σ
  rw [in_140]
  simp (disch := first | omega | rfl) only [e_140_0, e_140_1, e_140_2, e_140_5, e_140_8, e_140_9, e_140_10, e_140_11, e_140_12, e_140_13, e_140_16, e_140_19, e_140_20, e_140_23, e_140_26, e_140_28, e_140_29, e_140_30, e_140_33, e_140_36, e_140_39, e_140_41, e_140_42, e_140_43, e_140_46, e_140_49, e_140_50, e_140_51, e_140_54, e_140_57, e_140_59, e_140_60, e_140_61, e_140_64, e_140_67, e_140_69, e_140_72, e_140_74, e_140_75, e_140_76, e_140_79, e_140_80, e_140_83, e_140_84, e_140_87, e_140_88, e_140_89, e_140_90, e_140_92, e_140_95, e_140_96, e_140_99, e_140_102, w0, w1, w2, w3, w4, w5, w6, w7, w8, w9, w10, q1, q2, q3, q4, q5, q6, q7, q8, q9, q10, q11, q12, q13, q14, q15, b1, b2, b3, b4, b5, b6, o2, o387, o1708, o1741, o1, o0, ge1, ule_t, true_or, or_true, nI_add, nI_mul, nI_sub, nI_clamp, nI_lt_t, nI_lt_f, nI_le_t, nI_le_f, nI_eq_t, nI_eq_f, vp_nI, tI, fI, not_true, not_false_iff, true_and, and_true, Classical.not_not, mS_uI, mS_uA, mS_uJ, mS_uR, mS_uX, mR_uI, mR_uA, mR_uJ, mR_uX, mX_uI, mX_uA, mX_uJ, mX_uR, mI_s, mI_n, mI_A, mI_An, mI_uJ, mI_uR, mI_uX, mJ_uI, mJ_uA, mJ_uR, mJ_uX, onR_s, kC_v, kC_n, kC_t, ul0, ula1, ula2, ula3, ula4, ulb2, ulb3, ulb4, ulc2, ulc3, ulc4, ule4, ulf3, ulf4, c_149t hW0 hB9 hO0 hm, s_155, good_ik (show σ ≤ 5 by omega) (by omega), bI_T, s_153, good_ik (show i ≤ 15 by omega) (by omega), s_157 hσ, good_ik (show k ≤ gOp σ - 1 by omega) (show gOp σ - 1 < 2147483648 by omega), cv0, cv1, cv2, cv3, cv4, cv5, cv6, cvrec, (b7 m hm).1 0 (by omega), (b7 m hm).1 1 (by omega), (b7 m hm).1 2 (by omega), (b7 m hm).1 3 (by omega), (b7 m hm).1 4 (by omega), (b7 m hm).1 5 (by omega), (b7 m hm).1 6 (by omega), ha]
  refine c_148 hI hA (fun μ1 hf hk1 hI1 => ?_)
  obtain ⟨x0, x1, x2, x3, x4, x5, x6, x7, x8, x9, x10, x11, x12, x13, x14, x15⟩ := hI1.1
  obtain ⟨y0, y1, y2, y3, y4, y5, y6, y7, y8, y9, y10, y11, y12, y13, y14, y15⟩ := x12
  obtain ⟨c1, c2, c3, c4, c5, c6, c7, c8⟩ := hI1.2.2.1.1
  have hsc : s + 22 < c ∨ c + 4 < s := by omega
  have hrel := rel_give (m := m) (σ := σ) (i := i) (k := k) hI1.2.2.1 hI1.2.2.2.1 hO0 hsc ho
  have hfr := cGive_fr (μ := μ1) (s := s) (c := c) (t := nT r) (o := nO r) (m := m) (σ := σ) (i := i) (k := k)
  have t1 : mR (cGive μ1 s c (nT r) (nO r) m σ i k) 1000 0 = some s := x1
  have t2 : mS (cGive μ1 s c (nT r) (nO r) m σ i k) 1000 = (11, 11) := x0
  have t3 : mS (cGive μ1 s c (nT r) (nO r) m σ i k) s = (9, 6) := y1
  have t4 : mI (cGive μ1 s c (nT r) (nO r) m σ i k) s 3 = nI (nO r + 1) := mI_s
  simp (disch := first | omega | rfl) only [e_140_0, e_140_1, e_140_2, e_140_5, e_140_8, e_140_9, e_140_10, e_140_11, e_140_12, e_140_13, e_140_16, e_140_19, e_140_20, e_140_23, e_140_26, e_140_28, e_140_29, e_140_30, e_140_33, e_140_36, e_140_39, e_140_41, e_140_42, e_140_43, e_140_46, e_140_49, e_140_50, e_140_51, e_140_54, e_140_57, e_140_59, e_140_60, e_140_61, e_140_64, e_140_67, e_140_69, e_140_72, e_140_74, e_140_75, e_140_76, e_140_79, e_140_80, e_140_83, e_140_84, e_140_87, e_140_88, e_140_89, e_140_90, e_140_92, e_140_95, e_140_96, e_140_99, e_140_102, kC_n, x0, x1, x2, x3, x4, x5, x6, x7, x8, x9, x10, y0, y1, y2, y3, y4, y5, y6, y7, y8, y9, y10, y11, y12, y13, y14, y15, c1, c2, c3, c4, c5, c6, o2, o387, o1708, o1741, o1, o0, ge1, ule_t, true_or, or_true, nI_add, nI_mul, nI_sub, nI_clamp, nI_lt_t, nI_lt_f, nI_le_t, nI_le_f, nI_eq_t, nI_eq_f, vp_nI, tI, fI, not_true, not_false_iff, true_and, and_true, Classical.not_not, mS_uI, mS_uA, mS_uJ, mS_uR, mS_uX, mR_uI, mR_uA, mR_uJ, mR_uX, mX_uI, mX_uA, mX_uJ, mX_uR, mI_s, mI_n, mI_A, mI_An, mI_uJ, mI_uR, mI_uX, mJ_uI, mJ_uA, mJ_uR, mJ_uX, onR_s, kC_v, kC_n, kC_t, s_76 (t := nT r) (o := nO r) hI1.1.2.2.2.2.2.2.2.2.2.2.2.2.1 hI1.1.2.2.2.2.2.2.2.2.2.2.2.2.2.1 hsc (c2.trans o387) (c3.trans o1708) oT ho, t1, t2, t3, t4]
  refine hq _ (FrC.of hf hk1 hfr ⟨x14, x15⟩) (hI1.step hA.pp hfr ?_ ?_ ?_ ?_ hA.p8 hrel.1 hrel.2)
  · intro k'; unfold cGive; simp (disch := omega) only [mI_n, mI_An]
  · intro k' hk'; unfold cGive; simp (disch := omega) only [mI_n, mI_An]
  · intro k' hk'; unfold cGive; simp (disch := omega) only [mI_n, mI_A, upd_n]
  · intro k' hk'; unfold cGive; simp (disch := omega) only [mI_n, mI_An]
/-- what a change leaves of the reference -/
theorem FrM.of {μ1 μ2 : Mu} (hf : Fr (fun a => a = 1298 ∨ a = 1304) (uI μ 1298 0 x) μ1) (hk : ∀ k, k ≠ 8 → mI μ1 1298 k = mI (uI μ 1298 0 x) 1298 k) (h : Fr PM μ1 μ2) (h2 : ∀ k, k ≠ 0 → k ≠ 12 → k ≠ 13 → mI μ2 1298 k = mI μ1 1298 k) : FrM μ μ2 := by
  have h0 : Fr PM μ (uI μ 1298 0 x) := Fr.refl.iu (Or.inl rfl)
  refine ⟨(h0.trans (hf.mono (fun a ha => ?_))).trans h, fun k k0 k8 k12 k13 => ?_⟩
  · unfold PM; omega
  · rw [h2 k k0 k12 k13, hk k k8, mI_n (by omega)]
theorem prM_fr {μ1 μ2 : Mu} (h : ∀ x, mI μ2 1304 x = mI μ1 1304 x) : prM μ2 = prM μ1 := by
  funext j x
  unfold prM
  rw [h]
end Small2


