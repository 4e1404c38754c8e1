/-! fault, settings, seal -/
theorem RelC.eq {μ : Mu} {c : Nat} {r r' : Nat → Int32} (h : RelC μ c r) (hO : okR r) (e : ∀ x, 387 ≤ x → x < 1741 → r' x = r x) : RelC μ c r' := by
  have n3 : nT r' = nT r := by unfold nT; rw [e 387 (by omega) (by omega)]
  have n4 : nO r' = nO r := by unfold nO; rw [e 1708 (by omega) (by omega)]
  have hz := hO.z
  obtain ⟨o2, o6, o387, oT, o1708, oO, o1741, oF, o1, oq1, oq6, o0, ol1, ol40, oV, oN1, oP1, oF1⟩ := hO
  refine ⟨fun t ht => ?_, fun k hk w hw => ?_⟩
  · rw [n3] at ht
    obtain ⟨g1, g2⟩ := h.1 t ht
    have hz8 := hz t ht
    rw [e _ (by omega) (by omega)]
    refine ⟨g1, fun k hk => ?_⟩
    have hk8 : k < 8 := Nat.lt_of_lt_of_le hk hz8
    obtain ⟨j, hj, g3, g4⟩ := g2 k hk
    exact ⟨j, hj, g3, fun w hw => by rw [e _ (by omega) (by omega)]; exact g4 w hw⟩
  · rw [n4] at hk
    rw [n3, e _ (by omega) (by omega)]
    exact h.2 k hk w hw
theorem RelC.mu {μ μ' : Mu} {c : Nat} {r : Nat → Int32} (h : RelC μ c r) (e : ∀ a, c ≤ a → a ≤ c + 4 → ∀ k, mI μ' a k = mI μ a k) : RelC μ' c r := by
  refine ⟨fun t ht => ?_, fun k hk w hw => ?_⟩
  · obtain ⟨g1, g2⟩ := h.1 t ht
    refine ⟨by rw [e _ (by omega) (by omega)]; exact g1, fun k hk => ?_⟩
    obtain ⟨j, hj, g3, g4⟩ := g2 k hk
    exact ⟨j, hj, by rw [e _ (by omega) (by omega)]; exact g3, fun w hw => by rw [e _ (by omega) (by omega)]; exact g4 w hw⟩
  · rw [e _ (by omega) (by omega)]
    exact h.2 k hk w hw
def rSet (r : Nat → Int32) (i v : Nat) : Nat → Int32 := upd r i (nI v)
theorem ok_set {r : Nat → Int32} {i v : Nat} (h : okR r) (hN : RN2 r) (hi : i < 2) (hv : 1 ≤ v) (hv2 : v ≤ gSet i) : okR (rSet r i v) ∧ RN2 (rSet r i v) ∧ SLe r (rSet r i v) ∧ nM (rSet r i v) = nM r := by
  have hO := h
  obtain ⟨o2, o6, o387, oT, o1708, oO, o1741, oF, o1, oq1, oq6, o0, ol1, ol40, oV, oN1, oP1, oF1⟩ := h
  have e : ∀ x, 2 ≤ x → rSet r i v x = r x := fun x hx => upd_n (by omega)
  have n2 : nM (rSet r i v) = nM r := by unfold nM; rw [e _ (by omega)]
  have n3 : nT (rSet r i v) = nT r := by unfold nT; rw [e _ (by omega)]
  have n4 : nO (rSet r i v) = nO r := by unfold nO; rw [e _ (by omega)]
  have n5 : nF (rSet r i v) = nF r := by unfold nF; rw [e _ (by omega)]
  have ev : rW (rSet r i v) = rW r := by funext m k; exact e _ (by omega)
  have hP := okP_eq oP1 oT oO n3 n4 (fun x h1 h2 => e x (by omega))
  have hg40 : gSet i ≤ 40 := by unfold gSet; split <;> omega
  have hQ : rSet r i v 1 = nI (nQ (rSet r i v)) ∧ 1 ≤ nQ (rSet r i v) ∧ nQ (rSet r i v) ≤ 6 := by
    by_cases h1 : i = 1
    · subst h1
      have hv6 : v ≤ 6 := hv2
      have : nQ (rSet r 1 v) = v := by unfold nQ rSet; rw [upd_s, nI_clamp (by omega)]
      rw [this]
      exact ⟨upd_s, hv, hv6⟩
    · have h2 : rSet r i v 1 = r 1 := upd_n (by omega)
      have : nQ (rSet r i v) = nQ r := by unfold nQ; rw [h2]
      rw [this, h2]
      exact ⟨o1, oq1, oq6⟩
  have hL : rSet r i v 0 = nI (nL (rSet r i v)) ∧ 1 ≤ nL (rSet r i v) ∧ nL (rSet r i v) ≤ 40 := by
    by_cases h1 : i = 0
    · subst h1
      have : nL (rSet r 0 v) = v := by unfold nL rSet; rw [upd_s, nI_clamp (by omega)]
      rw [this]
      exact ⟨upd_s, hv, by omega⟩
    · have h2 : rSet r i v 0 = r 0 := upd_n (by omega)
      have : nL (rSet r i v) = nL r := by unfold nL; rw [h2]
      rw [this, h2]
      exact ⟨o0, ol1, ol40⟩
  refine ⟨⟨by rw [n2, e _ (by omega)]; exact o2, by omega, by rw [n3, e _ (by omega)]; exact o387, by omega, by rw [n4, e _ (by omega)]; exact o1708, by omega, by rw [n5, e _ (by omega)]; exact o1741, by omega, hQ.1, hQ.2.1, hQ.2.2, hL.1, hL.2.1, hL.2.2, by rw [ev, n2]; exact oV, ?_, hP, ?_⟩, ⟨fun x hx => by rw [e _ (by omega)]; exact hN.1 x hx, okW_eq hN.2 oP1 oT oO n3 n4 (fun x h1 h2 => e x (by omega))⟩, Or.inr ⟨n3.symm, by omega⟩, n2⟩
  · unfold okN; rw [ev, n2, n3]; exact oN1
  · intro k hk; rw [n5] at hk; rw [e _ (by omega), e _ (by omega), e _ (by omega), e _ (by omega)]; exact oF1 k hk
section Small3
variable {d : Nat} {Q : Po} {μ : Mu} {s c m n q i j k t z u σ o : Nat} {x y g v w : Int32} {r tn : Nat → Int32} {pr : Nat → Nat → Int32}
def cFault (μ : Mu) (s o : Nat) (m σ i k : Nat) : Mu := uI (uA μ (s + 4) (upd (upd (upd (upd (mI μ (s + 4)) (4 * o) (nI m)) (4 * o + 1) (nI σ)) (4 * o + 2) (nI i)) (4 * o + 3) (nI k))) (s + 3) 1 (nI (o + 1))
theorem s_35 (hS : FaS μ s) (h3 : mI μ (s + 3) 1 = nI o) (ho : o < 10) : Ev (d + 1) 35 [.ref (s + 3), .int (nI m), .int (nI σ), .int (nI i), .int (nI k)] μ Q = Q (some none) (cFault μ s o m σ i k) := by
  obtain ⟨f1, f2, f3, f4⟩ := hS
  have e7 : o * 4 = 4 * o := by omega
  rw [in_35]
  simp (disch := first | omega | rfl) only [e_35_0, e_35_1, e_35_4, e_35_6, e_35_9, e_35_10, e_35_11, e_35_14, e_35_15, e_35_16, e_35_18, e_35_19, e_35_22, e_35_24, e_35_25, e_35_26, e_35_27, e_35_30, e_35_32, e_35_33, e_35_34, e_35_35, e_35_36, e_35_37, e_35_40, e_35_42, e_35_43, e_35_44, e_35_45, e_35_46, e_35_47, e_35_50, e_35_52, e_35_53, e_35_54, e_35_56, e_35_57, e_35_58, e_35_59, e_35_62, e_35_63, e_35_64, e_35_67, ge1, ule_t, true_or, or_true, nI_add, nI_mul, nI_sub, nI_clamp, nI_lt_t, nI_lt_f, nI_le_t, nI_le_f, nI_eq_t, nI_eq_f, vp_nI, tI, fI, not_true, not_false_iff, true_and, and_true, Classical.not_not, mS_uI, mS_uA, mS_uJ, mS_uR, mS_uX, mR_uI, mR_uA, mR_uJ, mR_uX, mX_uI, mX_uA, mX_uJ, mX_uR, mI_s, mI_n, mI_A, mI_An, mI_uJ, mI_uR, mI_uX, mJ_uI, mJ_uA, mJ_uR, mJ_uX, onR_s, kC_v, kC_n, kC_t, f2, f3, f4, h3, e7, uI_A, uA_A, mI_Af, mI_Anf]
  unfold cFault
  simp only [uI_A]
  rw [mI_Anf (by omega)]
theorem cFault_fr : Fr (fun a => (s ≤ a ∧ a ≤ s + 22) ∨ (c ≤ a ∧ a ≤ c + 4) ∨ (1062 ≤ a ∧ a ≤ 1067)) μ (cFault μ s o m σ i k) := by
  unfold cFault
  exact (Fr.refl.au (Or.inl (by omega))).iu (Or.inl (by omega))
theorem rel_fault (hN : RelN μ s r tn) (hC : RelC μ c r) (hO : okR r) (hsc : s + 22 < c ∨ c + 4 < s) (ho : nF r < 10) : RelN (cFault μ s (nF r) m t i k) s (rFault r m t i k) tn ∧ RelC (cFault μ s (nF r) m t i k) c (rFault r m t i k) := by
  have hO0 := hO
  obtain ⟨o2, o6, o387, oT, o1708, oO, o1741, oF, o1, oq1, oq6, o0, ol1, ol40, oV, oN1, oP1, oF1⟩ := hO
  have n5 : nF (rFault r m t i k) = nF r + 1 := by unfold nF; rw [rFault_o]; exact nI_clamp (by omega)
  constructor
  · refine hN.of hO0 (fun x hx => rFault_lo (by omega)) (fun a h1 h2 h3 h4 k => ?_) (fun k hk => ?_) ?_ ?_ ?_
    · unfold cFault; simp (disch := omega) only [mI_n, mI_An]
    · unfold cFault; simp (disch := omega) only [mI_n, mI_An]
    · rw [rFault_lo (by omega)]; unfold cFault; simp (disch := omega) only [mI_n, mI_An]; exact hN.1.2.2.1
    · rw [rFault_o]; unfold cFault; rw [mI_s]
    · intro j hj
      rw [n5] at hj
      unfold cFault
      rw [mI_n (by omega), mI_A]
      by_cases hjo : j < 4 * nF r
      · rw [rFault_op hjo]; simp (disch := omega) only [upd_n]; exact hN.1.2.2.2.2.2.2.2 j hjo
      · obtain ⟨w, hw, rfl⟩ : ∃ w, w < 4 ∧ j = 4 * nF r + w := ⟨j - 4 * nF r, by omega, by omega⟩
        rw [← Nat.add_assoc]
        rcases (by omega : w = 0 ∨ w = 1 ∨ w = 2 ∨ w = 3) with rfl | rfl | rfl | rfl
        · simp only [Nat.add_zero, rFault_0]; simp (disch := omega) only [upd_n, upd_s]
        · rw [rFault_1]; simp (disch := omega) only [upd_n, upd_s]
        · rw [rFault_2]; simp (disch := omega) only [upd_n, upd_s]
        · rw [rFault_3]; simp (disch := omega) only [upd_n, upd_s]
  · refine (hC.mu (fun a h1 h2 k => ?_)).eq hO0 (fun x h1 h2 => rFault_lo h2)
    unfold cFault; simp (disch := omega) only [mI_n, mI_An]
theorem c_145 (hI : CI μ s c r u pr tn) (hA : AI r u pr tn) (hm : m < nM r) (ht : t < 40) (hi : i < 16) (hk1 : 1 ≤ k) (hk : k < 10000) (ha : ¬ rW r m 2 = nI 0) (he : nE (rW r) m ≤ t) (ho : nF r < 10) (hq : ∀ μ1, FrC s c μ μ1 → CI μ1 s c (rFault r m t i k) (u2 u) (pr2 u pr r) tn → Q (some (some (.int (nI (nF r + 1))))) μ1) : Ev (d + 4) 145 [.ref 1000, .int (nI m), .int (nI t), .int (nI i), .int (nI k)] μ Q := by
  obtain ⟨hW, hRS, hN, hC, hE, hRing⟩ := id hI
  have hO := hA.1
  have hB := hN.1
  have hW0 := hW
  obtain ⟨w0, w1, w2, w3, w4, w5, w6, w7, w8, w9, w10, w11, w12, w13, w14, w15⟩ := hW
  have hS0 := w12
  obtain ⟨q0, q1, q2, q3, q4, q5, q6, q7, q8, q9, q10, q11, q12, q13, q14, q15⟩ := w12
  have hB9 := hB
  obtain ⟨b1, b2, b3, b4, b5, b6, b7, b8⟩ := hB
  have hO0 := hO
  obtain ⟨o2, o6, o387, oT, o1708, oO, o1741, oF, o1, oq1, oq6, o0, ol1, ol40, oV, oN1, oP1, oF1⟩ := hO
  have hn : mI μ s 1 = nI (nM r) := b1.trans o2
  have hq9 : mI μ (s + 2) 1 = nI (nQ r) := b6.trans o1
  have hV := b7.ok' oV
  have hg : nI 1 ≤ nI k ∧ nI k ≤ nI 9999 := ⟨nI_le hk1 (by omega), nI_le (by omega) (by omega)⟩
  have vE := okBE oV hm
  rw [in_145]
  simp (disch := first | omega | rfl) only [e_145_0, e_145_1, e_145_2, e_145_5, e_145_8, e_145_9, e_145_10, e_145_11, e_145_12, e_145_14, e_145_17, e_145_20, e_145_21, e_145_24, e_145_27, e_145_29, e_145_30, e_145_33, e_145_36, e_145_39, e_145_41, e_145_42, e_145_43, e_145_46, e_145_49, e_145_50, e_145_51, e_145_54, e_145_57, e_145_58, e_145_59, e_145_62, e_145_65, e_145_66, e_145_67, e_145_70, e_145_73, e_145_75, e_145_76, e_145_77, e_145_80, e_145_83, e_145_86, e_145_88, e_145_91, e_145_93, e_145_94, e_145_95, e_145_98, e_145_99, e_145_102, e_145_105, e_145_106, e_145_107, e_145_108, e_145_110, e_145_113, e_145_114, e_145_117, e_145_120, e_145_123, w0, w1, w2, w3, w4, w5, w6, w7, w8, w9, w10, q1, q2, q3, q4, q5, q6, q7, q8, q9, q10, q11, q12, q13, q14, q15, b1, b2, b3, b4, b5, b6, o2, o387, o1708, o1741, o1, o0, ge1, ule_t, true_or, or_true, nI_add, nI_mul, nI_sub, nI_clamp, nI_lt_t, nI_lt_f, nI_le_t, nI_le_f, nI_eq_t, nI_eq_f, vp_nI, tI, fI, not_true, not_false_iff, true_and, and_true, Classical.not_not, mS_uI, mS_uA, mS_uJ, mS_uR, mS_uX, mR_uI, mR_uA, mR_uJ, mR_uX, mX_uI, mX_uA, mX_uJ, mX_uR, mI_s, mI_n, mI_A, mI_An, mI_uJ, mI_uR, mI_uX, mJ_uI, mJ_uA, mJ_uR, mJ_uX, onR_s, kC_v, kC_n, kC_t, ul0, ula1, ula2, ula3, ula4, ulb2, ulb3, ulb4, ulc2, ulc3, ulc4, ule4, ulf3, ulf4, c_149t hW0 hB9 hO0 hm, s_155, good_ik (show t ≤ 39 by omega) (by omega), bI_T, s_153, good_ik (show i ≤ 15 by omega) (by omega), bI_ti hg, cv0, cv1, cv2, cv3, cv4, cv5, cv6, cvrec, (b7 m hm).1 0 (by omega), (b7 m hm).1 1 (by omega), (b7 m hm).1 2 (by omega), (b7 m hm).1 3 (by omega), (b7 m hm).1 4 (by omega), (b7 m hm).1 5 (by omega), (b7 m hm).1 6 (by omega), vE.2.1, ha]
  refine c_148 hI hA (fun μ1 hf hk1 hI1 => ?_)
  obtain ⟨x0, x1, x2, x3, x4, x5, x6, x7, x8, x9, x10, x11, x12, x13, x14, x15⟩ := hI1.1
  obtain ⟨y0, y1, y2, y3, y4, y5, y6, y7, y8, y9, y10, y11, y12, y13, y14, y15⟩ := x12
  obtain ⟨c1, c2, c3, c4, c5, c6, c7, c8⟩ := hI1.2.2.1.1
  have hsc : s + 22 < c ∨ c + 4 < s := by omega
  have hrel := rel_fault (m := m) (t := t) (i := i) (k := k) hI1.2.2.1 hI1.2.2.2.1 hO0 hsc ho
  have hfr := cFault_fr (μ := μ1) (s := s) (c := c) (o := nF r) (m := m) (σ := t) (i := i) (k := k)
  have t1 : mR (cFault μ1 s (nF r) m t i k) 1000 0 = some s := x1
  have t2 : mS (cFault μ1 s (nF r) m t i k) 1000 = (11, 11) := x0
  have t3 : mS (cFault μ1 s (nF r) m t i k) s = (9, 6) := y1
  have t5 : mR (cFault μ1 s (nF r) m t i k) s 5 = some (s + 3) := y4
  have t6 : mS (cFault μ1 s (nF r) m t i k) (s + 3) = (5, 2) := y7
  have t4 : mI (cFault μ1 s (nF r) m t i k) (s + 3) 1 = nI (nF r + 1) := mI_s
  simp (disch := first | omega | rfl) only [e_145_0, e_145_1, e_145_2, e_145_5, e_145_8, e_145_9, e_145_10, e_145_11, e_145_12, e_145_14, e_145_17, e_145_20, e_145_21, e_145_24, e_145_27, e_145_29, e_145_30, e_145_33, e_145_36, e_145_39, e_145_41, e_145_42, e_145_43, e_145_46, e_145_49, e_145_50, e_145_51, e_145_54, e_145_57, e_145_58, e_145_59, e_145_62, e_145_65, e_145_66, e_145_67, e_145_70, e_145_73, e_145_75, e_145_76, e_145_77, e_145_80, e_145_83, e_145_86, e_145_88, e_145_91, e_145_93, e_145_94, e_145_95, e_145_98, e_145_99, e_145_102, e_145_105, e_145_106, e_145_107, e_145_108, e_145_110, e_145_113, e_145_114, e_145_117, e_145_120, e_145_123, kC_n, x0, x1, x2, x3, x4, x5, x6, x7, x8, x9, x10, y0, y1, y2, y3, y4, y5, y6, y7, y8, y9, y10, y11, y12, y13, y14, y15, c1, c2, c3, c4, c5, c6, o2, o387, o1708, o1741, o1, o0, ge1, ule_t, true_or, or_true, nI_add, nI_mul, nI_sub, nI_clamp, nI_lt_t, nI_lt_f, nI_le_t, nI_le_f, nI_eq_t, nI_eq_f, vp_nI, tI, fI, not_true, not_false_iff, true_and, and_true, Classical.not_not, mS_uI, mS_uA, mS_uJ, mS_uR, mS_uX, mR_uI, mR_uA, mR_uJ, mR_uX, mX_uI, mX_uA, mX_uJ, mX_uR, mI_s, mI_n, mI_A, mI_An, mI_uJ, mI_uR, mI_uX, mJ_uI, mJ_uA, mJ_uR, mJ_uX, onR_s, kC_v, kC_n, kC_t, s_35 (o := nF r) hI1.1.2.2.2.2.2.2.2.2.2.2.2.2.1.fa (c4.trans o1741) ho, t1, t2, t3, t4, t5, t6]
  refine hq _ (FrC.of hf hk1 hfr ⟨x14, x15⟩) (hI1.step hA.pp hfr ?_ ?_ ?_ ?_ hA.p8 hrel.1 hrel.2)
  · intro k'; unfold cFault; simp (disch := omega) only [mI_n, mI_An]
  · intro k' hk'; unfold cFault; simp (disch := omega) only [mI_n, mI_An]
  · intro k' hk'; unfold cFault; simp (disch := omega) only [mI_n, mI_An]
  · intro k' hk'; unfold cFault; simp (disch := omega) only [mI_n, mI_An]
/-- settings -/
theorem set_at (hi : i < 2) : r i = nI (if i = 0 then nL r else nQ r) ↔ r i = nI (if i = 0 then nL r else nQ r) := Iff.rfl
theorem rel_set {v : Nat} (hN : RelN μ s r tn) (hC : RelC μ c r) (hO : okR r) (hi : i < 2) (hsc : s + 22 < c ∨ c + 4 < s) : RelN (uI μ (s + 2) i (nI v)) s (rSet r i v) tn ∧ RelC (uI μ (s + 2) i (nI v)) c (rSet r i v) := by
  have hO0 := hO
  obtain ⟨o2, o6, o387, oT, o1708, oO, o1741, oF, o1, oq1, oq6, o0, ol1, ol40, oV, oN1, oP1, oF1⟩ := hO
  have e : ∀ x, 2 ≤ x → rSet r i v x = r x := fun x hx => upd_n (by omega)
  have n2 : nM (rSet r i v) = nM r := by unfold nM; rw [e _ (by omega)]
  have n5 : nF (rSet r i v) = nF r := by unfold nF; rw [e _ (by omega)]
  have ev : rW (rSet r i v) = rW r := by funext m k; exact e _ (by omega)
  obtain ⟨⟨b1, b2, b3, b4, b5, b6, b7, b8⟩, b9⟩ := hN
  have hc : cV (uI μ (s + 2) i (nI v)) s = cV μ s := by
    funext m k
    unfold cV
    simp (disch := omega) only [mI_n]
  refine ⟨⟨⟨?_, ?_, ?_, ?_, ?_, ?_, ?_, ?_⟩, ?_⟩, (hC.mu (fun a h1 h2 k => mI_n (by omega))).eq hO0 (fun x h1 h2 => e x (by omega))⟩
  · rw [mI_n (by omega), e _ (by omega)]; exact b1
  · rw [mI_n (by omega), e _ (by omega)]; exact b2
  · rw [mI_n (by omega), e _ (by omega)]; exact b3
  · rw [mI_n (by omega), e _ (by omega)]; exact b4
  · by_cases h : i = 0
    · subst h; rw [mI_s]; exact upd_s.symm
    · rw [mI_n (by omega)]; exact b5.trans (upd_n (by omega)).symm
  · by_cases h : i = 1
    · subst h; rw [mI_s]; exact upd_s.symm
    · rw [mI_n (by omega)]; exact b6.trans (upd_n (by omega)).symm
  · rw [hc, ev, n2]; exact b7
  · intro k hk; rw [n5] at hk; rw [mI_n (by omega), e _ (by omega)]; exact b8 k hk
  · intro m hm; rw [n2] at hm; rw [mI_n (by omega)]; exact b9 m hm
theorem c_146 (hI : CI μ s c r u pr tn) (hA : AI r u pr tn) {v : Nat} (hi : i < 2) (hv : 1 ≤ v) (hv2 : v ≤ gSet i) (hq : ∀ μ1, FrC s c μ μ1 → CI μ1 s c (rSet r i v) (u2 u) (pr2 u pr r) tn → Q (some (some (.int (r i)))) μ1) : Ev (d + 4) 146 [.ref 1000, .int (nI i), .int (nI v)] μ Q := by
  obtain ⟨hW, hRS, hN, hC, hE, hRing⟩ := id hI
  have hO := hA.1
  have hB := hN.1
  have hW0 := hW
  obtain ⟨w0, w1, w2, w3, w4, w5, w6, w7, w8, w9, w10, w11, w12, w13, w14, w15⟩ := hW
  have hS0 := w12
  obtain ⟨q0, q1, q2, q3, q4, q5, q6, q7, q8, q9, q10, q11, q12, q13, q14, q15⟩ := w12
  have hB9 := hB
  obtain ⟨b1, b2, b3, b4, b5, b6, b7, b8⟩ := hB
  have hO0 := hO
  obtain ⟨o2, o6, o387, oT, o1708, oO, o1741, oF, o1, oq1, oq6, o0, ol1, ol40, oV, oN1, oP1, oF1⟩ := hO
  have hn : mI μ s 1 = nI (nM r) := b1.trans o2
  have hq9 : mI μ (s + 2) 1 = nI (nQ r) := b6.trans o1
  have hV := b7.ok' oV
  have hg40 : gSet i ≤ 40 := by unfold gSet; split <;> omega
  have hg : nI 1 ≤ nI v ∧ nI v ≤ nI (gSet i) := ⟨nI_le hv (by omega), nI_le hv2 (by omega)⟩
  rw [in_146]
  simp (disch := first | omega | rfl) only [e_146_0, e_146_1, e_146_4, e_146_7, e_146_8, e_146_9, e_146_10, e_146_13, e_146_16, e_146_19, e_146_21, e_146_22, e_146_23, e_146_26, e_146_27, e_146_30, e_146_33, e_146_34, e_146_35, e_146_36, e_146_37, e_146_40, e_146_43, e_146_44, e_146_45, e_146_46, e_146_47, w0, w1, w2, w3, w4, w5, w6, w7, w8, w9, w10, q1, q2, q3, q4, q5, q6, q7, q8, q9, q10, q11, q12, q13, q14, q15, b1, b2, b3, b4, b5, b6, o2, o387, o1708, o1741, o1, o0, ge1, ule_t, true_or, or_true, nI_add, nI_mul, nI_sub, nI_clamp, nI_lt_t, nI_lt_f, nI_le_t, nI_le_f, nI_eq_t, nI_eq_f, vp_nI, tI, fI, not_true, not_false_iff, true_and, and_true, Classical.not_not, mS_uI, mS_uA, mS_uJ, mS_uR, mS_uX, mR_uI, mR_uA, mR_uJ, mR_uX, mX_uI, mX_uA, mX_uJ, mX_uR, mI_s, mI_n, mI_A, mI_An, mI_uJ, mI_uR, mI_uX, mJ_uI, mJ_uA, mJ_uR, mJ_uX, onR_s, kC_v, kC_n, kC_t, ul0, ula1, ula2, ula3, ula4, ulb2, ulb3, ulb4, ulc2, ulc3, ulc4, ule4, ulf3, ulf4, s_154, good_ik (show i ≤ 1 by omega) (by omega), bI_T, s_158 hi, s_155, bI_ti hg]
  refine c_148 hI hA (fun μ1 hf hk1 hI1 => ?_)
  obtain ⟨x0, x1, x2, x3, x4, x5, x6, x7, x8, x9, x10, x11, x12, x13, x14, x15⟩ := hI1.1
  obtain ⟨y0, y1, y2, y3, y4, y5, y6, y7, y8, y9, y10, y11, y12, y13, y14, y15⟩ := x12
  obtain ⟨c1, c2, c3, c4, c5, c6, c7, c8⟩ := hI1.2.2.1.1
  have hsc : s + 22 < c ∨ c + 4 < s := by omega
  have hrel := rel_set (v := v) hI1.2.2.1 hI1.2.2.2.1 hO0 hi hsc
  have hfr : Fr (fun a => (s ≤ a ∧ a ≤ s + 22) ∨ (c ≤ a ∧ a ≤ c + 4) ∨ (1062 ≤ a ∧ a ≤ 1067)) μ1 (uI μ1 (s + 2) i (nI v)) := Fr.refl.iu (Or.inl (by omega))
  have e5 : mI μ1 (s + 2) i = r i := by
    rcases (by omega : i = 0 ∨ i = 1) with rfl | rfl
    · exact c5
    · exact c6
  simp (disch := first | omega | rfl) only [e_146_0, e_146_1, e_146_4, e_146_7, e_146_8, e_146_9, e_146_10, e_146_13, e_146_16, e_146_19, e_146_21, e_146_22, e_146_23, e_146_26, e_146_27, e_146_30, e_146_33, e_146_34, e_146_35, e_146_36, e_146_37, e_146_40, e_146_43, e_146_44, e_146_45, e_146_46, e_146_47, kC_n, x0, x1, x2, x3, x4, x5, x6, x7, x8, x9, x10, y0, y1, y2, y3, y4, y5, y6, y7, y8, y9, y10, y11, y12, y13, y14, y15, c1, c2, c3, c4, c5, c6, ge1, ule_t, true_or, or_true, nI_add, nI_mul, nI_sub, nI_clamp, nI_lt_t, nI_lt_f, nI_le_t, nI_le_f, nI_eq_t, nI_eq_f, vp_nI, tI, fI, not_true, not_false_iff, true_and, and_true, Classical.not_not, mS_uI, mS_uA, mS_uJ, mS_uR, mS_uX, mR_uI, mR_uA, mR_uJ, mR_uX, mX_uI, mX_uA, mX_uJ, mX_uR, mI_s, mI_n, mI_A, mI_An, mI_uJ, mI_uR, mI_uX, mJ_uI, mJ_uA, mJ_uR, mJ_uX, onR_s, kC_v, kC_n, kC_t, e5]
  refine hq _ (FrC.of hf hk1 hfr ⟨x14, x15⟩) (hI1.step hA.pp hfr ?_ ?_ ?_ ?_ hA.p8 hrel.1 hrel.2)
  · intro k'; simp (disch := omega) only [mI_n]
  · intro k' hk'; simp (disch := omega) only [mI_n]
  · intro k' hk'; simp (disch := omega) only [mI_n]
  · intro k' hk'; simp (disch := omega) only [mI_n]
end Small3


