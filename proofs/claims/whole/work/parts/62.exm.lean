/-! a turn executed: the reference -/
section ExM
variable {d : Nat} {Q : Po} {μ : Mu} {m n i j k t u N : Nat} {x y z : Int32} {r : Nat → Int32} {l3 l4 l5 : Option Value}
theorem s_167 (hM : ShM μ) (h : 3 + 64 * m + k < 1782) : Ev (d + 1) 167 [.ref 1298, .int (nI m), .int (nI k), .int x] μ Q = Q (some none) (uI μ 1302 (3 + 64 * m + k) x) := by
  obtain ⟨p1, p2, p3, p4, p5, p6, p7, p8, p9, p10, p11, p12, p13, p14, p15, p16, p17, p18, p19, p20, p21⟩ := hM
  rw [in_167]
  simp (disch := first | omega | rfl) only [e_167_0, e_167_1, e_167_4, e_167_5, e_167_7, e_167_8, e_167_9, e_167_10, e_167_11, e_167_12, e_167_13, e_167_14, ge1, ule_t, true_or, or_true, nI_add, nI_mul, nI_sub, nI_clamp, nI_lt_t, nI_lt_f, nI_le_t, nI_le_f, nI_eq_t, nI_eq_f, vp_nI, tI, fI, not_true, not_false_iff, true_and, and_true, Classical.not_not, mS_uI, mS_uA, mS_uJ, mS_uR, mS_uX, mR_uI, mR_uA, mR_uJ, mR_uX, mX_uI, mX_uA, mX_uJ, mX_uR, mI_s, mI_n, mI_A, mI_An, mI_uJ, mI_uR, mI_uX, mJ_uI, mJ_uA, mJ_uR, mJ_uX, onR_s, kC_v, kC_n, kC_t, p1, p2, p3, p4, p5, p6, p7, p8, p9, p10, p11, p12, p13, p14, p15, p16, p17, p18, p19, p20, p21]
def xcF (r F : Nat → Int32) (m k : Nat) : Nat → Int32 := fun x => if 3 + 64 * m + 7 ≤ x ∧ x < 3 + 64 * m + 7 + k then F (x - (3 + 64 * m + 7)) else r x
theorem xcF_s {F : Nat → Int32} : upd (xcF r F m k) (3 + 64 * m + (7 + k)) (F k) = xcF r F m (k + 1) := by
  funext x
  unfold upd xcF
  by_cases h : x = 3 + 64 * m + (7 + k)
  · rw [h, if_pos rfl, if_pos (by omega), show 3 + 64 * m + (7 + k) - (3 + 64 * m + 7) = k by omega]
  · rw [if_neg h]
    by_cases h2 : 3 + 64 * m + 7 ≤ x ∧ x < 3 + 64 * m + 7 + k
    · rw [if_pos h2, if_pos (by omega)]
    · rw [if_neg h2, if_neg (by omega)]
theorem xcF_0 {F : Nat → Int32} : xcF r F m 0 = r := funext fun x => if_neg (by omega)
theorem xcF_16 {F G : Nat → Int32} (h : EqL F G) : xcF r F m 16 = rX1 r m G := by
  funext x
  unfold xcF rX1
  by_cases h2 : 3 + 64 * m + 7 ≤ x ∧ x < 3 + 64 * m + 7 + 16
  · rw [if_pos h2, if_pos (by omega)]; exact h _ (by omega)
  · rw [if_neg h2, if_neg (by omega)]
theorem s_178 (hM : ShM μ) (hm : m < 6) : Ev (d + 3) 178 [.ref 1298, .int (nI m)] μ Q = Q (some (some (.int (fCk (rW (mI μ 1302)) m 1)))) (mTree μ m) := by
  have hM0 := hM
  obtain ⟨p1, p2, p3, p4, p5, p6, p7, p8, p9, p10, p11, p12, p13, p14, p15, p16, p17, p18, p19, p20, p21⟩ := hM
  rw [in_178]
  simp (disch := first | omega | rfl) only [e_178_0, e_178_1, e_178_2, e_178_5, e_178_6, e_178_7, e_178_10, e_178_13, e_178_14, e_178_17, e_178_18, e_178_19, p1, p2, p3, p4, p5, p6, p7, p8, p9, p10, p11, p12, p13, p14, p15, p16, p17, p18, p19, p20, p21, ge1, ule_t, true_or, or_true, nI_add, nI_mul, nI_sub, nI_clamp, nI_lt_t, nI_lt_f, nI_le_t, nI_le_f, nI_eq_t, nI_eq_f, vp_nI, tI, fI, not_true, not_false_iff, true_and, and_true, Classical.not_not, mS_uI, mS_uA, mS_uJ, mS_uR, mS_uX, mR_uI, mR_uA, mR_uJ, mR_uX, mX_uI, mX_uA, mX_uJ, mX_uR, mI_s, mI_n, mI_A, mI_An, mI_uJ, mI_uR, mI_uX, mJ_uI, mJ_uA, mJ_uR, mJ_uX, onR_s, kC_v, kC_n, kC_t, s_170 hM0, s_177 (b := 1306) (ShM_uA hM0) p19 (by omega) (by omega), mI_Af, m_ck (k := 1) (by omega) (by omega)]
  unfold mTree
  simp (disch := first | omega | rfl) only [mI_Af, mI_Anf]
def PX (a : Nat) : Prop := a = 1302 ∨ a = 1305 ∨ a = 1306
theorem mTree_fr : Fr (fun a => a = 1305 ∨ a = 1306) μ (mTree μ m) := by
  unfold mTree
  exact (Fr.refl.au (Or.inl rfl)).au (Or.inr rfl)
theorem s_183 (hM : ShM μ) (hm : m < 6) (ht : rW (mI μ 1302) m 1 = nI t) (h40 : t ≤ 40) : Ev (d + 4) 183 [.ref 1298, .int (nI m)] μ Q = Q (some none) (uI (mTree μ m) 1302 (3 + 64 * m + (23 + t)) (fCk (rW (mI μ 1302)) m 1)) := by
  have hM2 : ShM (mTree μ m) := hM
  rw [in_183]
  simp (disch := first | omega | rfl) only [e_183_0, e_183_1, e_183_2, e_183_4, e_183_5, e_183_6, e_183_9, e_183_10, e_183_11, e_183_12, e_183_15, e_183_18, ge1, ule_t, true_or, or_true, nI_add, nI_mul, nI_sub, nI_clamp, nI_lt_t, nI_lt_f, nI_le_t, nI_le_f, nI_eq_t, nI_eq_f, vp_nI, tI, fI, not_true, not_false_iff, true_and, and_true, Classical.not_not, mS_uI, mS_uA, mS_uJ, mS_uR, mS_uX, mR_uI, mR_uA, mR_uJ, mR_uX, mX_uI, mX_uA, mX_uJ, mX_uR, mI_s, mI_n, mI_A, mI_An, mI_uJ, mI_uR, mI_uX, mJ_uI, mJ_uA, mJ_uR, mJ_uX, onR_s, kC_v, kC_n, kC_t, hM.1, s_169 hM, ht, s_178 hM, s_167 hM2, show mS (mTree μ m) 1298 = mS μ 1298 from rfl]
theorem l_184 {μ1 : Mu} (hM : ShM μ1) (hm : m < 6) (l2 : Option Value) : ∀ f k, k + f = 16 → EM 184 (d + 4) 24 [some (.ref 1298), some (.int (nI m)), l2, some (.int (nI k))] [] (uA μ1 1302 (xcF (mI μ1 1302) (mI μ1 1305) m k)) (0, 0) Q = EM 184 (d + 4) 51 [some (.ref 1298), some (.int (nI m)), l2, some (.int (nI 16))] [] (uA μ1 1302 (xcF (mI μ1 1302) (mI μ1 1305) m 16)) (0, 0) Q := by
  have hM0 := hM
  obtain ⟨p1, p2, p3, p4, p5, p6, p7, p8, p9, p10, p11, p12, p13, p14, p15, p16, p17, p18, p19, p20, p21⟩ := hM
  intro f
  induction f with
  | zero =>
    intro k hk
    obtain rfl : k = 16 := by omega
    rw [e_184_24]
    simp (disch := first | omega | rfl) only [e_184_0, e_184_1, e_184_2, e_184_5, e_184_6, e_184_7, e_184_8, e_184_11, e_184_12, e_184_13, e_184_16, e_184_17, e_184_18, e_184_19, e_184_22, e_184_23, e_184_25, e_184_27, e_184_30, e_184_31, e_184_32, e_184_34, e_184_35, e_184_36, e_184_37, e_184_40, e_184_41, e_184_42, e_184_45, e_184_48, ge1, ule_t, true_or, or_true, nI_add, nI_mul, nI_sub, nI_clamp, nI_lt_t, nI_lt_f, nI_le_t, nI_le_f, nI_eq_t, nI_eq_f, vp_nI, tI, fI, not_true, not_false_iff, true_and, and_true, Classical.not_not]
  | succ f ih =>
    intro k hk
    rw [e_184_24]
    simp (disch := first | omega | rfl) only [e_184_0, e_184_1, e_184_2, e_184_5, e_184_6, e_184_7, e_184_8, e_184_11, e_184_12, e_184_13, e_184_16, e_184_17, e_184_18, e_184_19, e_184_22, e_184_23, e_184_25, e_184_27, e_184_30, e_184_31, e_184_32, e_184_34, e_184_35, e_184_36, e_184_37, e_184_40, e_184_41, e_184_42, e_184_45, e_184_48, ge1, ule_t, true_or, or_true, nI_add, nI_mul, nI_sub, nI_clamp, nI_lt_t, nI_lt_f, nI_le_t, nI_le_f, nI_eq_t, nI_eq_f, vp_nI, tI, fI, not_true, not_false_iff, true_and, and_true, Classical.not_not, mS_uI, mS_uA, mS_uJ, mS_uR, mS_uX, mR_uI, mR_uA, mR_uJ, mR_uX, mX_uI, mX_uA, mX_uJ, mX_uR, mI_s, mI_n, mI_A, mI_An, mI_uJ, mI_uR, mI_uX, mJ_uI, mJ_uA, mJ_uR, mJ_uX, onR_s, kC_v, kC_n, kC_t, p1, p2, p3, p4, p5, p6, p7, p8, p9, p10, p11, p12, p13, p14, p15, p16, p17, p18, p19, p20, p21, s_167 (ShM_uA hM0), mI_Anf, uIA, xcF_s]
    exact ih (k + 1) (by omega)
theorem m_184 (hM : ShM μ) (hO : okR (mI μ 1302)) (hR : RN2 (mI μ 1302)) (hm : m < (nM (mI μ 1302))) (ht : nE (rW (mI μ 1302)) m < nT (mI μ 1302)) (hq : ∀ μ', Fr PX μ μ' → mI μ' 1302 = rEx (mI μ 1302) m → Q (some none) μ') : Ev (d + 5) 184 [.ref 1298, .int (nI m)] μ Q := by
  have hx := xC_ok hO hR hm ht
  obtain ⟨-, -, -, -, -, -, n8⟩ := ok_ex hO hR hm ht
  have hM0 := hM
  obtain ⟨p1, p2, p3, p4, p5, p6, p7, p8, p9, p10, p11, p12, p13, p14, p15, p16, p17, p18, p19, p20, p21⟩ := hM
  have hO9 := hO
  obtain ⟨o2, o6, o387, oT, o1708, oO, o1741, oF, o1, oq1, oq6, o0, ol1, ol40, oV, oN1, oP1, oF1⟩ := hO
  have vE := okBE oV hm
  have h6 : m < 6 := by omega
  have h173 := fun (d : Nat) (Q : Po) (F : Nat → Int32) => m_173a (d := d) (Q := Q) hM0 hO9 ht F
  have h175 := fun (d : Nat) (Q : Po) (x y : Int32) (F : Nat → Int32) => m_175a (d := d) (Q := Q) (x := x) (y := y) hM0 hO9 F
  rw [in_184]
  simp (disch := first | omega | rfl) only [e_184_0, e_184_1, e_184_2, e_184_5, e_184_6, e_184_7, e_184_8, e_184_11, e_184_12, e_184_13, e_184_16, e_184_17, e_184_18, e_184_19, e_184_22, e_184_23, e_184_25, e_184_27, e_184_30, e_184_31, e_184_32, e_184_34, e_184_35, e_184_36, e_184_37, e_184_40, e_184_41, e_184_42, e_184_45, e_184_48, e_184_51, e_184_52, e_184_53, e_184_54, e_184_57, e_184_58, e_184_59, e_184_60, e_184_61, e_184_62, e_184_63, e_184_66, e_184_67, e_184_68, e_184_71, p1, p2, p3, p4, p5, p6, p7, p8, p9, p10, p11, p12, p13, p14, p15, p16, p17, p18, p19, p20, p21, ge1, ule_t, true_or, or_true, nI_add, nI_mul, nI_sub, nI_clamp, nI_lt_t, nI_lt_f, nI_le_t, nI_le_f, nI_eq_t, nI_eq_f, vp_nI, tI, fI, not_true, not_false_iff, true_and, and_true, Classical.not_not, mS_uI, mS_uA, mS_uJ, mS_uR, mS_uX, mR_uI, mR_uA, mR_uJ, mR_uX, mX_uI, mX_uA, mX_uJ, mX_uR, mI_s, mI_n, mI_A, mI_An, mI_uJ, mI_uR, mI_uX, mJ_uI, mJ_uA, mJ_uR, mJ_uX, onR_s, kC_v, kC_n, kC_t, s_169 hM0, vE.2.1, s_170 hM0, h173, h175]
  generalize hF : fErr (flt (mI μ 1302)) (nI m) (nI (nE (rW (mI μ 1302)) m)) (nF (mI μ 1302)) (fT (mI μ 1302) (nE (rW (mI μ 1302)) m) (fil (fun c => rW (mI μ 1302) m (7 + c)) (mI μ 1305) 16)) = F
  have hFE : EqL F (xC (mI μ 1302) m) := by
    rw [← hF]
    exact EqL.err (((fil_EqL (vC (mI μ 1302) m) (mI μ 1305))).turn (okP_z oP1 ht).2.2 _ (Nat.le_refl _)) (okF_c oF1) _ (Nat.le_refl _)
  have hl := l_184 (d := d) (Q := Q) (μ1 := uA μ 1305 F) hM0 h6 (some (.int (nI (nE (rW (mI μ 1302)) m)))) 16 0 (by omega)
  rw [mI_Anf (show (1302 : Nat) ≠ 1305 by omega), mI_Af, xcF_0, xcF_16 hFE] at hl
  have e2 : uA (uA μ 1305 F) 1302 (mI μ 1302) = uA μ 1305 F := by
    have := uA_self (μ := uA μ 1305 F) (a := 1302)
    rw [mI_Anf (show (1302 : Nat) ≠ 1305 by omega)] at this
    exact this
  rw [e2] at hl
  rw [hl]
  have hM3 : ShM (uA (uA μ 1305 F) 1302 (rX1 (mI μ 1302) m (xC (mI μ 1302) m))) := hM0
  have hOx : okR (rX1 (mI μ 1302) m (xC (mI μ 1302) m)) := by
    have ev : ∀ k, k < 64 → (k < 7 ∨ 23 ≤ k) → ∀ m', rW (rX1 (mI μ 1302) m (xC (mI μ 1302) m)) m' k = rW (mI μ 1302) m' k := fun k h1 h2 m' => rX1_n (by omega)
    have c2 : nM (rX1 (mI μ 1302) m (xC (mI μ 1302) m)) = nM (mI μ 1302) := by unfold nM; rw [rX1_n (by omega)]
    have c3 : nT (rX1 (mI μ 1302) m (xC (mI μ 1302) m)) = nT (mI μ 1302) := by unfold nT; rw [rX1_n (by omega)]
    have c4 : nO (rX1 (mI μ 1302) m (xC (mI μ 1302) m)) = nO (mI μ 1302) := by unfold nO; rw [rX1_n (by omega)]
    have c5 : nF (rX1 (mI μ 1302) m (xC (mI μ 1302) m)) = nF (mI μ 1302) := rX1_nF h6
    have c6 : nQ (rX1 (mI μ 1302) m (xC (mI μ 1302) m)) = nQ (mI μ 1302) := by unfold nQ; rw [rX1_n (by omega)]
    have c7 : nL (rX1 (mI μ 1302) m (xC (mI μ 1302) m)) = nL (mI μ 1302) := by unfold nL; rw [rX1_n (by omega)]
    refine ⟨by rw [c2, rX1_n (by omega)]; exact o2, by omega, by rw [c3, rX1_n (by omega)]; exact o387, by omega, by rw [c4, rX1_n (by omega)]; exact o1708, by omega, by rw [c5, rX1_n (by omega)]; exact o1741, by omega, by rw [c6, rX1_n (by omega)]; exact o1, by omega, by omega, by rw [c7, rX1_n (by omega)]; exact o0, by omega, by omega, ?_, ?_, okP_eq oP1 oT oO c3 c4 (fun x h1 h2 => rX1_n (by omega)), ?_⟩
    · intro m' hm'
      rw [c2] at hm'
      rw [ev 2 (by omega) (by omega), ev 6 (by omega) (by omega), ev 1 (by omega) (by omega)]
      exact oV m' hm'
    · intro m' hm'
      rw [c2] at hm'
      obtain ⟨g1, g2, g3⟩ := oN1 m' hm'
      rw [c3, ev 1 (by omega) (by omega), ev 0 (by omega) (by omega)]
      refine ⟨g1, g2, fun c hc => ?_⟩
      by_cases hmm : m' = m
      · subst hmm
        show ∃ v, v < 10000 ∧ rX1 (mI μ 1302) m' (xC (mI μ 1302) m') (3 + 64 * m' + (7 + c)) = nI v
        rw [← Nat.add_assoc, rX1_at hc]
        exact hx c hc
      · show ∃ v, v < 10000 ∧ rX1 (mI μ 1302) m (xC (mI μ 1302) m) (3 + 64 * m' + (7 + c)) = nI v
        rw [rX1_n (by omega)]
        exact g3 c hc
    · intro k hk
      rw [c5] at hk
      rw [rX1_n (by omega), rX1_n (by omega), rX1_n (by omega), rX1_n (by omega)]
      exact oF1 k hk
  have h176 := fun (d : Nat) (Q : Po) => s_176 (d := d) (Q := Q) (μ := uA (uA μ 1305 F) 1302 (rX1 (mI μ 1302) m (xC (mI μ 1302) m))) (x := nI m) (y := nI (nE (rW (mI μ 1302)) m)) hM3 (by rw [mI_Af]; exact hOx)
  simp only [mI_Af, uA_A] at h176
  have h183 := fun (d : Nat) (Q : Po) => s_183 (d := d) (Q := Q) (μ := uA (uA μ 1305 F) 1302 (rX3 (mI μ 1302) m)) (m := m) (t := nE (rW (mI μ 1302)) m + 1) hM0 h6 (by rw [mI_Af]; exact rX3_1) (by omega)
  simp only [mI_Af] at h183
  simp (disch := first | omega | rfl) only [e_184_0, e_184_1, e_184_2, e_184_5, e_184_6, e_184_7, e_184_8, e_184_11, e_184_12, e_184_13, e_184_16, e_184_17, e_184_18, e_184_19, e_184_22, e_184_23, e_184_25, e_184_27, e_184_30, e_184_31, e_184_32, e_184_34, e_184_35, e_184_36, e_184_37, e_184_40, e_184_41, e_184_42, e_184_45, e_184_48, e_184_51, e_184_52, e_184_53, e_184_54, e_184_57, e_184_58, e_184_59, e_184_60, e_184_61, e_184_62, e_184_63, e_184_66, e_184_67, e_184_68, e_184_71, p1, p2, p3, p4, p5, p6, p7, p8, p9, p10, p11, p12, p13, p14, p15, p16, p17, p18, p19, p20, p21, ge1, ule_t, true_or, or_true, nI_add, nI_mul, nI_sub, nI_clamp, nI_lt_t, nI_lt_f, nI_le_t, nI_le_f, nI_eq_t, nI_eq_f, vp_nI, tI, fI, not_true, not_false_iff, true_and, and_true, Classical.not_not, mS_uI, mS_uA, mS_uJ, mS_uR, mS_uX, mR_uI, mR_uA, mR_uJ, mR_uX, mX_uI, mX_uA, mX_uJ, mX_uR, mI_s, mI_n, mI_A, mI_An, mI_uJ, mI_uR, mI_uX, mJ_uI, mJ_uA, mJ_uR, mJ_uX, onR_s, kC_v, kC_n, kC_t, h176, s_167 (ShM_uA (ShM_uA hM0)), uIA, show upd (rFo (rX1 (mI μ 1302) m (xC (mI μ 1302) m)) (pM (flt (rX1 (mI μ 1302) m (xC (mI μ 1302) m))) (nI m) (nI (nE (rW (mI μ 1302)) m)))) (3 + 64 * m + 1) (nI (nE (rW (mI μ 1302)) m + 1)) = rX3 (mI μ 1302) m from rfl, h183]
  refine hq _ ?_ ?_
  · have f1 : Fr PX μ (uA (uA μ 1305 F) 1302 (rX3 (mI μ 1302) m)) := (Fr.refl.au (Or.inr (Or.inl rfl))).au (Or.inl rfl)
    exact (f1.trans (mTree_fr.mono (fun a ha => by unfold PX; omega))).iu (Or.inl rfl)
  · have e9 : mI (mTree (uA (uA μ 1305 F) 1302 (rX3 (mI μ 1302) m)) m) 1302 = rX3 (mI μ 1302) m := by
      unfold mTree
      rw [mI_Anf (by omega), mI_Anf (by omega), mI_Af]
    rw [mI_sf, e9]
    unfold rEx
    rw [show 23 + (nE (rW (mI μ 1302)) m + 1) = 24 + nE (rW (mI μ 1302)) m by omega]
theorem m_187l : ∀ N' (k : Nat) (μ : Mu), ShM μ → okR (mI μ 1302) → RN2 (mI μ 1302) → m < nM (mI μ 1302) → nE (rW (mI μ 1302)) m + N' ≤ nT (mI μ 1302) → k + N' = N → N < 1000 → (∀ μ', Fr PX μ μ' → mI μ' 1302 = rExN (mI μ 1302) m N' → Q (some (some (.int (nI N)))) μ') → EM 187 (d + 5) 15 [some (.ref 1298), some (.int (nI m)), l3, l4, some (.int (nI N)), some (.int (nI k))] [] μ (0, 0) Q := by
  intro N'
  induction N' with
  | zero =>
    intro k μ hM hO hR hm ht hk hN hq
    obtain rfl : k = N := by omega
    rw [e_187_15]
    simp (disch := first | omega | rfl) only [e_187_0, e_187_1, e_187_2, e_187_3, e_187_4, e_187_7, e_187_10, e_187_12, e_187_13, e_187_17, e_187_19, e_187_22, e_187_23, e_187_24, e_187_27, e_187_30, e_187_33, e_187_35, ge1, ule_t, true_or, or_true, nI_add, nI_mul, nI_sub, nI_clamp, nI_lt_t, nI_lt_f, nI_le_t, nI_le_f, nI_eq_t, nI_eq_f, vp_nI, tI, fI, not_true, not_false_iff, true_and, and_true, Classical.not_not, mS_uI, mS_uA, mS_uJ, mS_uR, mS_uX, mR_uI, mR_uA, mR_uJ, mR_uX, mX_uI, mX_uA, mX_uJ, mX_uR, mI_s, mI_n, mI_A, mI_An, mI_uJ, mI_uR, mI_uX, mJ_uI, mJ_uA, mJ_uR, mJ_uX, onR_s, kC_v, kC_n, kC_t]
    exact hq μ Fr.refl rfl
  | succ N' ih =>
    intro k μ hM hO hR hm ht hk hN hq
    rw [e_187_15]
    simp (disch := first | omega | rfl) only [e_187_0, e_187_1, e_187_2, e_187_3, e_187_4, e_187_7, e_187_10, e_187_12, e_187_13, e_187_17, e_187_19, e_187_22, e_187_23, e_187_24, e_187_27, e_187_30, e_187_33, e_187_35, ge1, ule_t, true_or, or_true, nI_add, nI_mul, nI_sub, nI_clamp, nI_lt_t, nI_lt_f, nI_le_t, nI_le_f, nI_eq_t, nI_eq_f, vp_nI, tI, fI, not_true, not_false_iff, true_and, and_true, Classical.not_not, mS_uI, mS_uA, mS_uJ, mS_uR, mS_uX, mR_uI, mR_uA, mR_uJ, mR_uX, mX_uI, mX_uA, mX_uJ, mX_uR, mI_s, mI_n, mI_A, mI_An, mI_uJ, mI_uR, mI_uX, mJ_uI, mJ_uA, mJ_uR, mJ_uX, onR_s, kC_v, kC_n, kC_t, hM.1]
    refine m_184 hM hO hR hm (by omega) (fun μ' hf hr => ?_)
    obtain ⟨a1, a2, a3, a4, a5, a6, a7⟩ := ok_ex hO hR hm (by omega)
    simp (disch := first | omega | rfl) only [e_187_0, e_187_1, e_187_2, e_187_3, e_187_4, e_187_7, e_187_10, e_187_12, e_187_13, e_187_17, e_187_19, e_187_22, e_187_23, e_187_24, e_187_27, e_187_30, e_187_33, e_187_35, ge1, ule_t, true_or, or_true, nI_add, nI_mul, nI_sub, nI_clamp, nI_lt_t, nI_lt_f, nI_le_t, nI_le_f, nI_eq_t, nI_eq_f, vp_nI, tI, fI, not_true, not_false_iff, true_and, and_true, Classical.not_not, mS_uI, mS_uA, mS_uJ, mS_uR, mS_uX, mR_uI, mR_uA, mR_uJ, mR_uX, mX_uI, mX_uA, mX_uJ, mX_uR, mI_s, mI_n, mI_A, mI_An, mI_uJ, mI_uR, mI_uX, mJ_uI, mJ_uA, mJ_uR, mJ_uX, onR_s, kC_v, kC_n, kC_t, kC_n]
    refine ih (k + 1) μ' (hf.sm hM) (by rw [hr]; exact a1) (by rw [hr]; exact a2) (by rw [hr]; omega) (by rw [hr]; omega) (by omega) hN (fun μ2 hf2 hr2 => ?_)
    rw [hr, rExN_s] at hr2
    exact hq μ2 (hf.trans hf2) hr2
theorem m_187 (hM : ShM μ) (hO : okR (mI μ 1302)) (hR : RN2 (mI μ 1302)) (hm : m < (nM (mI μ 1302))) {la : Nat} (ha : ¬ rW (mI μ 1302) m 2 = nI 0) (hla : aMin (mI μ 1302 387) (y + mI μ 1302 0) = nI la) (hla2 : la ≤ nT (mI μ 1302)) (hk : k ≤ 40) (hq : ∀ μ', Fr PX μ μ' → mI μ' 1302 = rExN (mI μ 1302) m (if la - nE (rW (mI μ 1302)) m < k then la - nE (rW (mI μ 1302)) m else k) → Q (some (some (.int (nI (if la - nE (rW (mI μ 1302)) m < k then la - nE (rW (mI μ 1302)) m else k))))) μ') : Ev (d + 6) 187 [.ref 1298, .int (nI m), .int (nI k), .int y] μ Q := by
  have hle := nE_le hO hm
  have hM0 := hM
  obtain ⟨p1, p2, p3, p4, p5, p6, p7, p8, p9, p10, p11, p12, p13, p14, p15, p16, p17, p18, p19, p20, p21⟩ := hM
  have hO9 := hO
  obtain ⟨o2, o6, o387, oT, o1708, oO, o1741, oF, o1, oq1, oq6, o0, ol1, ol40, oV, oN1, oP1, oF1⟩ := hO
  have vE := okBE oV hm
  have h168 := fun (d : Nat) (Q : Po) => s_168 (d := d) (Q := Q) hM0 (show m < 6 by omega) (okV_le oV (show m + 1 ≤ (nM (mI μ 1302)) by omega))
  simp only [bI_t (show vAct (rW (mI μ 1302)) m from ha)] at h168
  have h186 : ∀ (d : Nat) (Q : Po), Ev (d + 3) 186 [.ref 1298, .int (nI m), .int y] μ Q = Q (some (some (.int (nI (la - nE (rW (mI μ 1302)) m))))) μ := fun d Q => by
    rw [in_186]
    simp (disch := first | omega | rfl) only [e_186_0, e_186_1, e_186_2, e_186_5, e_186_8, e_186_9, e_186_10, e_186_13, e_186_16, e_186_17, e_186_18, e_186_19, e_186_22, e_186_23, e_186_24, e_186_25, e_186_28, e_186_29, e_186_30, e_186_33, e_186_34, e_186_37, e_186_40, e_186_41, p1, p2, p3, p4, p5, p6, p7, p8, p9, p10, p11, p12, p13, p14, p15, p16, p17, p18, p19, p20, p21, ge1, ule_t, true_or, or_true, nI_add, nI_mul, nI_sub, nI_clamp, nI_lt_t, nI_lt_f, nI_le_t, nI_le_f, nI_eq_t, nI_eq_f, vp_nI, tI, fI, not_true, not_false_iff, true_and, and_true, Classical.not_not, mS_uI, mS_uA, mS_uJ, mS_uR, mS_uX, mR_uI, mR_uA, mR_uJ, mR_uX, mX_uI, mX_uA, mX_uJ, mX_uR, mI_s, mI_n, mI_A, mI_An, mI_uJ, mI_uR, mI_uX, mJ_uI, mJ_uA, mJ_uR, mJ_uX, onR_s, kC_v, kC_n, kC_t, h168, s_169 hM0]
    have e1 : (if y + mI μ 1302 0 < mI μ 1302 387 then y + mI μ 1302 0 else mI μ 1302 387) = nI la := hla
    have e2 := up_ok (la := la) (e := nE (rW (mI μ 1302)) m) (by omega) (by omega)
    unfold aMax at e2
    rw [e1, vE.2.1, e2]
  have e5 : (if nI (la - nE (rW (mI μ 1302)) m) < nI k then nI (la - nE (rW (mI μ 1302)) m) else nI k) = nI (if la - nE (rW (mI μ 1302)) m < k then la - nE (rW (mI μ 1302)) m else k) := by
    by_cases h : la - nE (rW (mI μ 1302)) m < k
    · rw [if_pos h, if_pos (nI_lt h (by omega))]
    · rw [if_neg h, if_neg (nI_nlt (by omega) (by omega))]
  rw [in_187]
  simp (disch := first | omega | rfl) only [e_187_0, e_187_1, e_187_2, e_187_3, e_187_4, e_187_7, e_187_10, e_187_12, e_187_13, e_187_17, e_187_19, e_187_22, e_187_23, e_187_24, e_187_27, e_187_30, e_187_33, e_187_35, ge1, ule_t, true_or, or_true, nI_add, nI_mul, nI_sub, nI_clamp, nI_lt_t, nI_lt_f, nI_le_t, nI_le_f, nI_eq_t, nI_eq_f, vp_nI, tI, fI, not_true, not_false_iff, true_and, and_true, Classical.not_not, mS_uI, mS_uA, mS_uJ, mS_uR, mS_uX, mR_uI, mR_uA, mR_uJ, mR_uX, mX_uI, mX_uA, mX_uJ, mX_uR, mI_s, mI_n, mI_A, mI_An, mI_uJ, mI_uR, mI_uX, mJ_uI, mJ_uA, mJ_uR, mJ_uX, onR_s, kC_v, kC_n, kC_t, hM0.1, h186, e5]
  exact m_187l (N := if la - nE (rW (mI μ 1302)) m < k then la - nE (rW (mI μ 1302)) m else k) _ 0 μ hM0 hO9 hR hm (by split <;> omega) (by omega) (by split <;> omega) hq
theorem m_270a (hM : ShM μ) (hO : okR (mI μ 1302)) (hx : bad x (nM (mI μ 1302))) : Ev (d + 7) 270 [.ref 1298, .int x, .int y] μ Q = Q (some (some (.int (-1)))) (uI μ 1298 0 (nI 0)) := by
  have hM0 := hM
  obtain ⟨p1, p2, p3, p4, p5, p6, p7, p8, p9, p10, p11, p12, p13, p14, p15, p16, p17, p18, p19, p20, p21⟩ := hM
  have hO9 := hO
  obtain ⟨o2, o6, o387, oT, o1708, oO, o1741, oF, o1, oq1, oq6, o0, ol1, ol40, oV, oN1, oP1, oF1⟩ := hO
  rw [in_270]
  simp (disch := first | omega | rfl) only [e_270_0, e_270_1, e_270_2, e_270_5, e_270_6, e_270_7, e_270_10, e_270_13, e_270_14, e_270_15, e_270_16, e_270_17, e_270_20, e_270_21, e_270_23, e_270_26, e_270_28, e_270_29, e_270_30, e_270_31, e_270_34, e_270_37, e_270_39, e_270_40, e_270_41, e_270_44, e_270_45, e_270_46, e_270_47, e_270_48, e_270_49, e_270_52, e_270_55, p1, p2, p3, p4, p5, p6, p7, p8, p9, p10, p11, p12, p13, p14, p15, p16, p17, p18, p19, p20, p21, o2, o387, o1708, o1741, o1, o0, ge1, ule_t, true_or, or_true, nI_add, nI_mul, nI_sub, nI_clamp, nI_lt_t, nI_lt_f, nI_le_t, nI_le_f, nI_eq_t, nI_eq_f, vp_nI, tI, fI, not_true, not_false_iff, true_and, and_true, Classical.not_not, mS_uI, mS_uA, mS_uJ, mS_uR, mS_uX, mR_uI, mR_uA, mR_uJ, mR_uX, mX_uI, mX_uA, mX_uJ, mX_uR, mI_s, mI_n, mI_A, mI_An, mI_uJ, mI_uR, mI_uX, mJ_uI, mJ_uA, mJ_uR, mJ_uX, onR_s, kC_v, kC_n, kC_t, mI_nf, mI_Anf, s_165 hM0, s_165 (ShM_u2 hM0), s_166 hM0, s_166 (ShM_u2 hM0), u_223f hM0 hO9 hx]
theorem m_270b (hM : ShM μ) (hO : okR (mI μ 1302)) (hm : m < (nM (mI μ 1302))) (hx : ¬ (nI 1 ≤ x ∧ x ≤ nI 40)) : Ev (d + 7) 270 [.ref 1298, .int (nI m), .int x] μ Q = Q (some (some (.int (-2)))) (uI μ 1298 0 (nI 0)) := by
  have hM0 := hM
  obtain ⟨p1, p2, p3, p4, p5, p6, p7, p8, p9, p10, p11, p12, p13, p14, p15, p16, p17, p18, p19, p20, p21⟩ := hM
  have hO9 := hO
  obtain ⟨o2, o6, o387, oT, o1708, oO, o1741, oF, o1, oq1, oq6, o0, ol1, ol40, oV, oN1, oP1, oF1⟩ := hO
  rw [in_270]
  by_cases h1 : x < nI 1
  · simp (disch := first | omega | rfl) only [e_270_0, e_270_1, e_270_2, e_270_5, e_270_6, e_270_7, e_270_10, e_270_13, e_270_14, e_270_15, e_270_16, e_270_17, e_270_20, e_270_21, e_270_23, e_270_26, e_270_28, e_270_29, e_270_30, e_270_31, e_270_34, e_270_37, e_270_39, e_270_40, e_270_41, e_270_44, e_270_45, e_270_46, e_270_47, e_270_48, e_270_49, e_270_52, e_270_55, p1, p2, p3, p4, p5, p6, p7, p8, p9, p10, p11, p12, p13, p14, p15, p16, p17, p18, p19, p20, p21, o2, o387, o1708, o1741, o1, o0, ge1, ule_t, true_or, or_true, nI_add, nI_mul, nI_sub, nI_clamp, nI_lt_t, nI_lt_f, nI_le_t, nI_le_f, nI_eq_t, nI_eq_f, vp_nI, tI, fI, not_true, not_false_iff, true_and, and_true, Classical.not_not, mS_uI, mS_uA, mS_uJ, mS_uR, mS_uX, mR_uI, mR_uA, mR_uJ, mR_uX, mX_uI, mX_uA, mX_uJ, mX_uR, mI_s, mI_n, mI_A, mI_An, mI_uJ, mI_uR, mI_uX, mJ_uI, mJ_uA, mJ_uR, mJ_uX, onR_s, kC_v, kC_n, kC_t, mI_nf, mI_Anf, s_165 hM0, s_165 (ShM_u2 hM0), s_166 hM0, s_166 (ShM_u2 hM0), h1, u_223t hM0 hO9 hm]
  · have h2 : ¬ x ≤ nI 40 := fun z => hx ⟨Int32.not_lt.mp h1, z⟩
    simp (disch := first | omega | rfl) only [e_270_0, e_270_1, e_270_2, e_270_5, e_270_6, e_270_7, e_270_10, e_270_13, e_270_14, e_270_15, e_270_16, e_270_17, e_270_20, e_270_21, e_270_23, e_270_26, e_270_28, e_270_29, e_270_30, e_270_31, e_270_34, e_270_37, e_270_39, e_270_40, e_270_41, e_270_44, e_270_45, e_270_46, e_270_47, e_270_48, e_270_49, e_270_52, e_270_55, p1, p2, p3, p4, p5, p6, p7, p8, p9, p10, p11, p12, p13, p14, p15, p16, p17, p18, p19, p20, p21, o2, o387, o1708, o1741, o1, o0, ge1, ule_t, true_or, or_true, nI_add, nI_mul, nI_sub, nI_clamp, nI_lt_t, nI_lt_f, nI_le_t, nI_le_f, nI_eq_t, nI_eq_f, vp_nI, tI, fI, not_true, not_false_iff, true_and, and_true, Classical.not_not, mS_uI, mS_uA, mS_uJ, mS_uR, mS_uX, mR_uI, mR_uA, mR_uJ, mR_uX, mX_uI, mX_uA, mX_uJ, mX_uR, mI_s, mI_n, mI_A, mI_An, mI_uJ, mI_uR, mI_uX, mJ_uI, mJ_uA, mJ_uR, mJ_uX, onR_s, kC_v, kC_n, kC_t, mI_nf, mI_Anf, s_165 hM0, s_165 (ShM_u2 hM0), s_166 hM0, s_166 (ShM_u2 hM0), h1, h2, u_223t hM0 hO9 hm]
theorem m_270c (hM : ShM μ) (hO : okR (mI μ 1302)) (hm : m < (nM (mI μ 1302))) (hk1 : 1 ≤ k) (hk : k ≤ 40) (ha : rW (mI μ 1302) m 2 = nI 0) : Ev (d + 7) 270 [.ref 1298, .int (nI m), .int (nI k)] μ Q = Q (some (some (.int (-4)))) (uI μ 1298 0 (nI 0)) := by
  have hM0 := hM
  obtain ⟨p1, p2, p3, p4, p5, p6, p7, p8, p9, p10, p11, p12, p13, p14, p15, p16, p17, p18, p19, p20, p21⟩ := hM
  have hO9 := hO
  obtain ⟨o2, o6, o387, oT, o1708, oO, o1741, oF, o1, oq1, oq6, o0, ol1, ol40, oV, oN1, oP1, oF1⟩ := hO
  have h168 := fun (d : Nat) (Q : Po) => u_168 (d := d) (Q := Q) (x := nI 0) hM0 hO9 hm
  simp only [bI_f (show ¬ vAct (rW (mI μ 1302)) m from fun z => z ha)] at h168
  rw [in_270]
  simp (disch := first | omega | rfl) only [e_270_0, e_270_1, e_270_2, e_270_5, e_270_6, e_270_7, e_270_10, e_270_13, e_270_14, e_270_15, e_270_16, e_270_17, e_270_20, e_270_21, e_270_23, e_270_26, e_270_28, e_270_29, e_270_30, e_270_31, e_270_34, e_270_37, e_270_39, e_270_40, e_270_41, e_270_44, e_270_45, e_270_46, e_270_47, e_270_48, e_270_49, e_270_52, e_270_55, p1, p2, p3, p4, p5, p6, p7, p8, p9, p10, p11, p12, p13, p14, p15, p16, p17, p18, p19, p20, p21, o2, o387, o1708, o1741, o1, o0, ge1, ule_t, true_or, or_true, nI_add, nI_mul, nI_sub, nI_clamp, nI_lt_t, nI_lt_f, nI_le_t, nI_le_f, nI_eq_t, nI_eq_f, vp_nI, tI, fI, not_true, not_false_iff, true_and, and_true, Classical.not_not, mS_uI, mS_uA, mS_uJ, mS_uR, mS_uX, mR_uI, mR_uA, mR_uJ, mR_uX, mX_uI, mX_uA, mX_uJ, mX_uR, mI_s, mI_n, mI_A, mI_An, mI_uJ, mI_uR, mI_uX, mJ_uI, mJ_uA, mJ_uR, mJ_uX, onR_s, kC_v, kC_n, kC_t, mI_nf, mI_Anf, s_165 hM0, s_165 (ShM_u2 hM0), s_166 hM0, s_166 (ShM_u2 hM0), u_223t hM0 hO9 hm, h168]
theorem m_270 (hM : ShM μ) (hO : okR (mI μ 1302)) (hR : RN2 (mI μ 1302)) (hu : mI μ 1298 8 = nI u) (h10 : u ≤ 10) (hm : m < (nM (mI μ 1302))) (hk1 : 1 ≤ k) (hk : k ≤ 40) (ha : ¬ rW (mI μ 1302) m 2 = nI 0) (hq : ∀ μ1, FrM μ μ1 → mI μ1 1302 = rExN (mI μ 1302) m (runN (mI μ 1302) m k) → mI μ1 1298 8 = nI (u2 u) → (∀ j, j < u2 u → prM μ1 j = pr2 u (prM μ) (mI μ 1302) j) → Q (some (some (.int (nI (runN (mI μ 1302) m k))))) μ1) : Ev (d + 7) 270 [.ref 1298, .int (nI m), .int (nI k)] μ Q := by
  have hM0 := hM
  obtain ⟨p1, p2, p3, p4, p5, p6, p7, p8, p9, p10, p11, p12, p13, p14, p15, p16, p17, p18, p19, p20, p21⟩ := hM
  have hO9 := hO
  obtain ⟨o2, o6, o387, oT, o1708, oO, o1741, oF, o1, oq1, oq6, o0, ol1, ol40, oV, oN1, oP1, oF1⟩ := hO
  have hla := fLast_ok hO9 hm ha
  have h168 := fun (d : Nat) (Q : Po) => u_168 (d := d) (Q := Q) (x := nI 0) hM0 hO9 hm
  simp only [bI_t (show vAct (rW (mI μ 1302)) m from ha)] at h168
  rw [in_270]
  simp (disch := first | omega | rfl) only [e_270_0, e_270_1, e_270_2, e_270_5, e_270_6, e_270_7, e_270_10, e_270_13, e_270_14, e_270_15, e_270_16, e_270_17, e_270_20, e_270_21, e_270_23, e_270_26, e_270_28, e_270_29, e_270_30, e_270_31, e_270_34, e_270_37, e_270_39, e_270_40, e_270_41, e_270_44, e_270_45, e_270_46, e_270_47, e_270_48, e_270_49, e_270_52, e_270_55, p1, p2, p3, p4, p5, p6, p7, p8, p9, p10, p11, p12, p13, p14, p15, p16, p17, p18, p19, p20, p21, o2, o387, o1708, o1741, o1, o0, ge1, ule_t, true_or, or_true, nI_add, nI_mul, nI_sub, nI_clamp, nI_lt_t, nI_lt_f, nI_le_t, nI_le_f, nI_eq_t, nI_eq_f, vp_nI, tI, fI, not_true, not_false_iff, true_and, and_true, Classical.not_not, mS_uI, mS_uA, mS_uJ, mS_uR, mS_uX, mR_uI, mR_uA, mR_uJ, mR_uX, mX_uI, mX_uA, mX_uJ, mX_uR, mI_s, mI_n, mI_A, mI_An, mI_uJ, mI_uR, mI_uX, mJ_uI, mJ_uA, mJ_uR, mJ_uX, onR_s, kC_v, kC_n, kC_t, mI_nf, mI_Anf, s_165 hM0, s_165 (ShM_u2 hM0), s_166 hM0, s_166 (ShM_u2 hM0), u_223t hM0 hO9 hm, h168]
  refine m_keep hM0 hR.1 hu h10 (fun μ1 hf hM1 e4 e5 hfin => ?_)
  have h185 := fun (d : Nat) (Q : Po) => s_185 (d := d) (Q := Q) (g := nI 0) (n := nM (mI μ1 1302)) hM1 (by rw [e4]; exact o2) (by rw [e4]; exact o6) (by rw [e4]; exact oV)
  simp (disch := first | omega | rfl) only [e_270_0, e_270_1, e_270_2, e_270_5, e_270_6, e_270_7, e_270_10, e_270_13, e_270_14, e_270_15, e_270_16, e_270_17, e_270_20, e_270_21, e_270_23, e_270_26, e_270_28, e_270_29, e_270_30, e_270_31, e_270_34, e_270_37, e_270_39, e_270_40, e_270_41, e_270_44, e_270_45, e_270_46, e_270_47, e_270_48, e_270_49, e_270_52, e_270_55, ge1, ule_t, true_or, or_true, nI_add, nI_mul, nI_sub, nI_clamp, nI_lt_t, nI_lt_f, nI_le_t, nI_le_f, nI_eq_t, nI_eq_f, vp_nI, tI, fI, not_true, not_false_iff, true_and, and_true, Classical.not_not, mS_uI, mS_uA, mS_uJ, mS_uR, mS_uX, mR_uI, mR_uA, mR_uJ, mR_uX, mX_uI, mX_uA, mX_uJ, mX_uR, mI_s, mI_n, mI_A, mI_An, mI_uJ, mI_uR, mI_uX, mJ_uI, mJ_uA, mJ_uR, mJ_uX, onR_s, kC_v, kC_n, kC_t, kC_n, hM1.1, h185]
  refine m_187 (la := laN (mI μ 1302)) hM1 (by rw [e4]; exact hO9) (by rw [e4]; exact hR) (by rw [e4]; exact hm) (by rw [e4]; exact ha) (by rw [e4]; exact hla.1) (by rw [e4]; exact hla.2) hk (fun μ2 hf2 hr2 => ?_)
  rw [e4] at hr2 ⊢
  simp (disch := first | omega | rfl) only [e_270_0, e_270_1, e_270_2, e_270_5, e_270_6, e_270_7, e_270_10, e_270_13, e_270_14, e_270_15, e_270_16, e_270_17, e_270_20, e_270_21, e_270_23, e_270_26, e_270_28, e_270_29, e_270_30, e_270_31, e_270_34, e_270_37, e_270_39, e_270_40, e_270_41, e_270_44, e_270_45, e_270_46, e_270_47, e_270_48, e_270_49, e_270_52, e_270_55, ge1, ule_t, true_or, or_true, nI_add, nI_mul, nI_sub, nI_clamp, nI_lt_t, nI_lt_f, nI_le_t, nI_le_f, nI_eq_t, nI_eq_f, vp_nI, tI, fI, not_true, not_false_iff, true_and, and_true, Classical.not_not, mS_uI, mS_uA, mS_uJ, mS_uR, mS_uX, mR_uI, mR_uA, mR_uJ, mR_uX, mX_uI, mX_uA, mX_uJ, mX_uR, mI_s, mI_n, mI_A, mI_An, mI_uJ, mI_uR, mI_uX, mJ_uI, mJ_uA, mJ_uR, mJ_uX, onR_s, kC_v, kC_n, kC_t, kC_v]
  obtain ⟨g1, g2, g3⟩ := hfin μ2 (hf2.mono (fun a ha => by unfold PX at ha; unfold PM; omega)) (fun k _ _ _ => hf2.2.2.2 _ (by unfold PX; omega) _) (fun x => hf2.2.2.2 _ (by unfold PX; omega) _)
  exact hq μ2 g1 hr2 g2 g3
end ExM

