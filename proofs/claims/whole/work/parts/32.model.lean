/-! the model's readers -/
def rV (r : Nat → Int32) (m k : Nat) : Int32 := r (3 + 64 * m + k)
/-- the model stands at 1298 -/
def ShM (μ : Mu) : Prop := mS μ 1298 = (12, 27) ∧ mR μ 1298 1 = some 1299 ∧ mR μ 1298 3 = some 1300 ∧ mR μ 1298 4 = some 1301 ∧ mR μ 1298 5 = some 1302 ∧ mR μ 1298 6 = some 1303 ∧ mR μ 1298 7 = some 1304 ∧ mR μ 1298 9 = some 1305 ∧ mR μ 1298 10 = some 1306 ∧ mR μ 1298 11 = some 1307 ∧ mR μ 1298 25 = some 1308 ∧
  mS μ 1299 = (20, 900) ∧ mS μ 1300 = (20, 22) ∧ mS μ 1301 = (20, 22) ∧ mS μ 1302 = (20, 1782) ∧ mS μ 1303 = (20, 1782) ∧ mS μ 1304 = (20, 17820) ∧ mS μ 1305 = (20, 16) ∧ mS μ 1306 = (20, 32) ∧ mS μ 1307 = (20, 32) ∧ mS μ 1308 = (20, 90)
theorem rv {r : Nat → Int32} {m k : Nat} : r (3 + 64 * m + k) = rV r m k := rfl
theorem t40 {t : Int32} (h1 : nI 0 ≤ t) (h2 : t ≤ nI 40) : ∃ j, j ≤ 40 ∧ t = nI j := by
  have h3 : ¬ t < 0 := fun q => by rw [nI_0] at h1; exact Int32.not_le.mpr q h1
  exact nI_of2 (M := nI 40) (n := 40) (by decide) h3 h2
section ModelR
variable {d : Nat} {Q : Po} {μ : Mu} {n m k q m0 : Nat} {x y z t root : Int32}
theorem s_165 (hM : ShM μ) : Ev (d + 1) 165 [.ref 1298] μ Q = Q (some (some (.int (mI μ 1302 2)))) μ := by
  obtain ⟨p1, p2, p3, p4, p5, p6, p7, p8, p9, p10, p11, p12, p13, p14, p15, p16, p17, p18, p19, p20, p21⟩ := hM
  rw [in_165]
  simp (disch := omega) only [e_165_0, e_165_1, e_165_4, e_165_5, e_165_6, p1, p2, p3, p4, p5, p6, p7, p8, p9, p10, p11, p12, p13, p14, p15, p16, p17, p18, p19, p20, p21, nI_add, nI_mul, nI_sub, nI_clamp, nI_lt_t, nI_lt_f, nI_le_t, nI_le_f, nI_eq_t, nI_eq_f, vp_nI, tI, fI, not_true, not_false_iff, true_and, and_true, bIn0, bI_ok, not_not, mS_uI, mS_uA, mS_uJ, mS_uR, mS_uX, mR_uI, mR_uA, mR_uJ, mR_uX, mX_uI, mX_uA, mX_uJ, mX_uR, mI_s, mI_n, mI_A, mI_An, mI_uJ, mI_uR, mI_uX, mJ_uI, mJ_uA, mJ_uR, mJ_uX, onR_s, kC_v, kC_n, kC_t]
theorem s_166 (hM : ShM μ) (h : 3 + 64 * m + k < 1782) : Ev (d + 1) 166 [.ref 1298, .int (nI m), .int (nI k)] μ Q = Q (some (some (.int (rV (mI μ 1302) m k)))) μ := by
  obtain ⟨p1, p2, p3, p4, p5, p6, p7, p8, p9, p10, p11, p12, p13, p14, p15, p16, p17, p18, p19, p20, p21⟩ := hM
  rw [in_166]
  simp (disch := omega) only [e_166_0, e_166_1, e_166_4, e_166_5, e_166_7, e_166_8, e_166_9, e_166_10, e_166_11, e_166_12, e_166_13, p1, p2, p3, p4, p5, p6, p7, p8, p9, p10, p11, p12, p13, p14, p15, p16, p17, p18, p19, p20, p21, nI_add, nI_mul, nI_sub, nI_clamp, nI_lt_t, nI_lt_f, nI_le_t, nI_le_f, nI_eq_t, nI_eq_f, vp_nI, tI, fI, not_true, not_false_iff, true_and, and_true, bIn0, bI_ok, not_not, mS_uI, mS_uA, mS_uJ, mS_uR, mS_uX, mR_uI, mR_uA, mR_uJ, mR_uX, mX_uI, mX_uA, mX_uJ, mX_uR, mI_s, mI_n, mI_A, mI_An, mI_uJ, mI_uR, mI_uX, mJ_uI, mJ_uA, mJ_uR, mJ_uX, onR_s, kC_v, kC_n, kC_t, rv]
theorem s_168 (hM : ShM μ) (h : m < 6) (hV : okV (rV (mI μ 1302)) (m + 1)) : Ev (d + 2) 168 [.ref 1298, .int (nI m)] μ Q = Q (some (some (.int (bI (vAct (rV (mI μ 1302)) m))))) μ := by
  have hM0 := hM
  obtain ⟨p1, p2, p3, p4, p5, p6, p7, p8, p9, p10, p11, p12, p13, p14, p15, p16, p17, p18, p19, p20, p21⟩ := hM
  rw [in_168]
  simp (disch := omega) only [e_168_0, e_168_1, e_168_2, e_168_3, e_168_6, e_168_7, e_168_10, e_168_11, e_168_14, e_168_15, p1, p2, p3, p4, p5, p6, p7, p8, p9, p10, p11, p12, p13, p14, p15, p16, p17, p18, p19, p20, p21, nI_add, nI_mul, nI_sub, nI_clamp, nI_lt_t, nI_lt_f, nI_le_t, nI_le_f, nI_eq_t, nI_eq_f, vp_nI, tI, fI, not_true, not_false_iff, true_and, and_true, bIn0, bI_ok, not_not, mS_uI, mS_uA, mS_uJ, mS_uR, mS_uX, mR_uI, mR_uA, mR_uJ, mR_uX, mX_uI, mX_uA, mX_uJ, mX_uR, mI_s, mI_n, mI_A, mI_An, mI_uJ, mI_uR, mI_uX, mJ_uI, mJ_uA, mJ_uR, mJ_uX, onR_s, kC_v, kC_n, kC_t, s_166 hM0]
  rcases (hV m (by omega)).1 with h1 | h1 <;> simp (disch := omega) [h1, bI, nI_eq_f]
theorem s_169 (hM : ShM μ) (h : m < 6) : Ev (d + 2) 169 [.ref 1298, .int (nI m)] μ Q = Q (some (some (.int (rV (mI μ 1302) m 1)))) μ := by
  have hM0 := hM
  obtain ⟨p1, p2, p3, p4, p5, p6, p7, p8, p9, p10, p11, p12, p13, p14, p15, p16, p17, p18, p19, p20, p21⟩ := hM
  rw [in_169]
  simp (disch := omega) only [e_169_0, e_169_1, e_169_2, e_169_3, e_169_6, p1, p2, p3, p4, p5, p6, p7, p8, p9, p10, p11, p12, p13, p14, p15, p16, p17, p18, p19, p20, p21, nI_add, nI_mul, nI_sub, nI_clamp, nI_lt_t, nI_lt_f, nI_le_t, nI_le_f, nI_eq_t, nI_eq_f, vp_nI, tI, fI, not_true, not_false_iff, true_and, and_true, bIn0, bI_ok, not_not, mS_uI, mS_uA, mS_uJ, mS_uR, mS_uX, mR_uI, mR_uA, mR_uJ, mR_uX, mX_uI, mX_uA, mX_uJ, mX_uR, mI_s, mI_n, mI_A, mI_An, mI_uJ, mI_uR, mI_uX, mJ_uI, mJ_uA, mJ_uR, mJ_uX, onR_s, kC_v, kC_n, kC_t, s_166 hM0]
theorem s_188 (hM : ShM μ) (h : m < 6) : Ev (d + 3) 188 [.ref 1298, .int (nI m), .int t] μ Q = Q (some (some (.int (bI (vHas (rV (mI μ 1302)) m t))))) μ := by
  have hM0 := hM
  obtain ⟨p1, p2, p3, p4, p5, p6, p7, p8, p9, p10, p11, p12, p13, p14, p15, p16, p17, p18, p19, p20, p21⟩ := hM
  rw [in_188]
  simp (disch := omega) only [e_188_0, e_188_1, e_188_2, e_188_3, e_188_5, e_188_8, e_188_11, e_188_12, e_188_13, e_188_14, e_188_17, e_188_20, e_188_21, e_188_24, e_188_25, p1, p2, p3, p4, p5, p6, p7, p8, p9, p10, p11, p12, p13, p14, p15, p16, p17, p18, p19, p20, p21, nI_add, nI_mul, nI_sub, nI_clamp, nI_lt_t, nI_lt_f, nI_le_t, nI_le_f, nI_eq_t, nI_eq_f, vp_nI, tI, fI, not_true, not_false_iff, true_and, and_true, bIn0, bI_ok, not_not, mS_uI, mS_uA, mS_uJ, mS_uR, mS_uX, mR_uI, mR_uA, mR_uJ, mR_uX, mX_uI, mX_uA, mX_uJ, mX_uR, mI_s, mI_n, mI_A, mI_An, mI_uJ, mI_uR, mI_uX, mJ_uI, mJ_uA, mJ_uR, mJ_uX, onR_s, kC_v, kC_n, kC_t, s_166 hM0, s_169 hM0]
  by_cases h1 : rV (mI μ 1302) m 6 ≤ t <;> by_cases h2 : t ≤ rV (mI μ 1302) m 1 <;> simp [h1, h2, bI, Int32.not_lt, Int32.not_le] <;> sorry
theorem s_189 (hM : ShM μ) (h : m < 6) (h1 : nI 0 ≤ t) (h2 : t ≤ nI 40) : Ev (d + 2) 189 [.ref 1298, .int (nI m), .int t] μ Q = Q (some (some (.int (vRec (rV (mI μ 1302)) m t)))) μ := by
  have hM0 := hM
  obtain ⟨p1, p2, p3, p4, p5, p6, p7, p8, p9, p10, p11, p12, p13, p14, p15, p16, p17, p18, p19, p20, p21⟩ := hM
  obtain ⟨j, hj, rfl⟩ := t40 h1 h2
  rw [in_189]
  simp (disch := omega) only [e_189_0, e_189_1, e_189_2, e_189_4, e_189_5, e_189_6, e_189_9, p1, p2, p3, p4, p5, p6, p7, p8, p9, p10, p11, p12, p13, p14, p15, p16, p17, p18, p19, p20, p21, nI_add, nI_mul, nI_sub, nI_clamp, nI_lt_t, nI_lt_f, nI_le_t, nI_le_f, nI_eq_t, nI_eq_f, vp_nI, tI, fI, not_true, not_false_iff, true_and, and_true, bIn0, bI_ok, not_not, mS_uI, mS_uA, mS_uJ, mS_uR, mS_uX, mR_uI, mR_uA, mR_uJ, mR_uX, mX_uI, mX_uA, mX_uJ, mX_uR, mI_s, mI_n, mI_A, mI_An, mI_uJ, mI_uR, mI_uX, mJ_uI, mJ_uA, mJ_uR, mJ_uX, onR_s, kC_v, kC_n, kC_t, s_166 hM0, vRec]
end ModelR
