/-! healing: calls -/
section Heal2C
variable {d : Nat} {Q : Po} {μ : Mu} {s c m n q i j k t z u σ o N dn w h9 : Nat} {x y g v : Int32} {r tn : Nat → Int32} {pr : Nat → Nat → Int32} {l4 l5 : Option Value}
theorem fStop_0 {V : VW} (h : fStop V n q m = 0) : ∃ dn, fGiv V n q (V m 1) (nI m) = some dn ∧ ¬ V m 2 = nI 0 := by
  unfold fStop at h
  split at h
  · cases h
  · rename_i h1
    split at h
    · cases h
    · split at h
      · cases h
      · split at h
        · cases h
        · rename_i h4
          cases hg : fGiv V n q (V m 1) (nI m) with
          | none => exact absurd hg h4
          | some dn => exact ⟨dn, rfl, h1⟩
theorem fStop_le {V : VW} : fStop V n q m ≤ 4 := by
  unfold fStop
  repeat' split
  all_goals omega
/-- the donor -/
def dnr (r : Nat → Int32) (m : Nat) : Nat := (fGiv (rW r) (nM r) (nQ r) (rW r m 1) (nI m)).getD 0
theorem dnr_ok (h : fStop (rW r) (nM r) (nQ r) m = 0) : fGiv (rW r) (nM r) (nQ r) (rW r m 1) (nI m) = some (dnr r m) ∧ dnr r m < nM r ∧ dnr r m ≠ m ∧ rW r (dnr r m) 1 = rW r m 1 := by
  obtain ⟨dn, e, -⟩ := fStop_0 h
  have e2 : dnr r m = dn := by unfold dnr; rw [e]; rfl
  obtain ⟨g1, g2, g3, g4⟩ := fGiv_some e
  rw [e2]
  exact ⟨e, g1, fun z => g2 (by rw [z]), g4⟩
theorem c_123a (hW : ShR μ s c) (hB : RelB μ s r) (hO : okR r) (hx : bad x (nM r)) : Ev (d + 8) 123 [.ref 1000, .int x] μ Q = Q (some (some (.int (-1)))) μ := by
  have hW0 := hW
  obtain ⟨w0, w1, w2, w3, w4, w5, w6, w7, w8, w9, w10, w11, w12, w13, w14, w15⟩ := hW
  have hS0 := w12
  obtain ⟨q0, q1, q2, q3, q4, q5, q6, q7, q8, q9, q10, q11, q12, q13, q14, q15⟩ := w12
  have hB9 := hB
  obtain ⟨b1, b2, b3, b4, b5, b6, b7, b8⟩ := hB
  have hO0 := hO
  obtain ⟨o2, o6, o387, oT, o1708, oO, o1741, oF, o1, oq1, oq6, o0, ol1, ol40, oV, oN1, oP1, oF1⟩ := hO
  have hn : mI μ s 1 = nI (nM r) := b1.trans o2
  have hq9 : mI μ (s + 2) 1 = nI (nQ r) := b6.trans o1
  have hV := b7.ok' oV
  rw [in_123]
  simp (disch := first | omega | rfl) only [e_123_0, e_123_1, e_123_2, e_123_5, e_123_8, e_123_9, e_123_10, e_123_11, e_123_12, e_123_15, e_123_18, e_123_20, e_123_21, e_123_22, e_123_25, e_123_26, e_123_27, e_123_30, w0, w1, w2, w3, w4, w5, w6, w7, w8, w9, w10, q1, q2, q3, q4, q5, q6, q7, q8, q9, q10, q11, q12, q13, q14, q15, b1, b2, b3, b4, b5, b6, o2, o387, o1708, o1741, o1, o0, ge1, ule_t, true_or, or_true, nI_add, nI_mul, nI_sub, nI_clamp, nI_lt_t, nI_lt_f, nI_le_t, nI_le_f, nI_eq_t, nI_eq_f, vp_nI, tI, fI, not_true, not_false_iff, true_and, and_true, Classical.not_not, mS_uI, mS_uA, mS_uJ, mS_uR, mS_uX, mR_uI, mR_uA, mR_uJ, mR_uX, mX_uI, mX_uA, mX_uJ, mX_uR, mI_s, mI_n, mI_A, mI_An, mI_uJ, mI_uR, mI_uX, mJ_uI, mJ_uA, mJ_uR, mJ_uX, onR_s, kC_v, kC_n, kC_t, ul0, ula1, ula2, ula3, ula4, ulb2, ulb3, ulb4, ulc2, ulc3, ulc4, ule4, ulf3, ulf4, c_149f hW0 hB9 hO0 hx]
theorem c_123b (hW : ShR μ s c) (hB : RelB μ s r) (hO : okR r) (hm : m < nM r) (h : ¬ fStop (rW r) (nM r) (nQ r) m = 0) : Ev (d + 8) 123 [.ref 1000, .int (nI m)] μ Q = Q (some (some (.int (-4)))) μ := by
  have hle := fStop_le (V := rW r) (n := nM r) (q := nQ r) (m := m)
  have hW0 := hW
  obtain ⟨w0, w1, w2, w3, w4, w5, w6, w7, w8, w9, w10, w11, w12, w13, w14, w15⟩ := hW
  have hS0 := w12
  obtain ⟨q0, q1, q2, q3, q4, q5, q6, q7, q8, q9, q10, q11, q12, q13, q14, q15⟩ := w12
  have hB9 := hB
  obtain ⟨b1, b2, b3, b4, b5, b6, b7, b8⟩ := hB
  have hO0 := hO
  obtain ⟨o2, o6, o387, oT, o1708, oO, o1741, oF, o1, oq1, oq6, o0, ol1, ol40, oV, oN1, oP1, oF1⟩ := hO
  have hn : mI μ s 1 = nI (nM r) := b1.trans o2
  have hq9 : mI μ (s + 2) 1 = nI (nQ r) := b6.trans o1
  have hV := b7.ok' oV
  rw [in_123]
  simp (disch := first | omega | rfl) only [e_123_0, e_123_1, e_123_2, e_123_5, e_123_8, e_123_9, e_123_10, e_123_11, e_123_12, e_123_15, e_123_18, e_123_20, e_123_21, e_123_22, e_123_25, e_123_26, e_123_27, e_123_30, w0, w1, w2, w3, w4, w5, w6, w7, w8, w9, w10, q1, q2, q3, q4, q5, q6, q7, q8, q9, q10, q11, q12, q13, q14, q15, b1, b2, b3, b4, b5, b6, o2, o387, o1708, o1741, o1, o0, ge1, ule_t, true_or, or_true, nI_add, nI_mul, nI_sub, nI_clamp, nI_lt_t, nI_lt_f, nI_le_t, nI_le_f, nI_eq_t, nI_eq_f, vp_nI, tI, fI, not_true, not_false_iff, true_and, and_true, Classical.not_not, mS_uI, mS_uA, mS_uJ, mS_uR, mS_uX, mR_uI, mR_uA, mR_uJ, mR_uX, mX_uI, mX_uA, mX_uJ, mX_uR, mI_s, mI_n, mI_A, mI_An, mI_uJ, mI_uR, mI_uX, mJ_uI, mJ_uA, mJ_uR, mJ_uX, onR_s, kC_v, kC_n, kC_t, ul0, ula1, ula2, ula3, ula4, ulb2, ulb3, ulb4, ulc2, ulc3, ulc4, ule4, ulf3, ulf4, c_149t hW0 hB9 hO0 hm, c_122 hW0 hB9 hO0 hm]
theorem c_123 (hI : CI μ s c r u pr tn) (hA : AI r u pr tn) (hm : m < nM r) (h : fStop (rW r) (nM r) (nQ r) m = 0) (hq : ∀ μ1, FrC s c μ μ1 → CI μ1 s c (rHeal r m (dnr r m)) (u2 u) (pr2 u pr r) tn → Q (some (some (.int (nI (pcN (fWr (rW r) m (dnr r m))))))) μ1) : Ev (d + 8) 123 [.ref 1000, .int (nI m)] μ Q := by
  obtain ⟨hW, hRS, hN, hC, hE, hRing⟩ := id hI
  have hO := hA.1
  have hB := hN.1
  obtain ⟨g1, g2, g3, g4⟩ := dnr_ok h
  have hW0 := hW
  obtain ⟨w0, w1, w2, w3, w4, w5, w6, w7, w8, w9, w10, w11, w12, w13, w14, w15⟩ := hW
  have hS0 := w12
  obtain ⟨q0, q1, q2, q3, q4, q5, q6, q7, q8, q9, q10, q11, q12, q13, q14, q15⟩ := w12
  have hB9 := hB
  obtain ⟨b1, b2, b3, b4, b5, b6, b7, b8⟩ := hB
  have hO0 := hO
  obtain ⟨o2, o6, o387, oT, o1708, oO, o1741, oF, o1, oq1, oq6, o0, ol1, ol40, oV, oN1, oP1, oF1⟩ := hO
  have hn : mI μ s 1 = nI (nM r) := b1.trans o2
  have hq9 : mI μ (s + 2) 1 = nI (nQ r) := b6.trans o1
  have hV := b7.ok' oV
  rw [in_123]
  simp (disch := first | omega | rfl) only [e_123_0, e_123_1, e_123_2, e_123_5, e_123_8, e_123_9, e_123_10, e_123_11, e_123_12, e_123_15, e_123_18, e_123_20, e_123_21, e_123_22, e_123_25, e_123_26, e_123_27, e_123_30, w0, w1, w2, w3, w4, w5, w6, w7, w8, w9, w10, q1, q2, q3, q4, q5, q6, q7, q8, q9, q10, q11, q12, q13, q14, q15, b1, b2, b3, b4, b5, b6, o2, o387, o1708, o1741, o1, o0, ge1, ule_t, true_or, or_true, nI_add, nI_mul, nI_sub, nI_clamp, nI_lt_t, nI_lt_f, nI_le_t, nI_le_f, nI_eq_t, nI_eq_f, vp_nI, tI, fI, not_true, not_false_iff, true_and, and_true, Classical.not_not, mS_uI, mS_uA, mS_uJ, mS_uR, mS_uX, mR_uI, mR_uA, mR_uJ, mR_uX, mX_uI, mX_uA, mX_uJ, mX_uR, mI_s, mI_n, mI_A, mI_An, mI_uJ, mI_uR, mI_uX, mJ_uI, mJ_uA, mJ_uR, mJ_uX, onR_s, kC_v, kC_n, kC_t, ul0, ula1, ula2, ula3, ula4, ulb2, ulb3, ulb4, ulc2, ulc3, ulc4, ule4, ulf3, ulf4, c_149t hW0 hB9 hO0 hm, c_122 hW0 hB9 hO0 hm, h]
  refine c_148 hI hA (fun μ1 hf hk1 hI1 => ?_)
  obtain ⟨x0, x1, x2, x3, x4, x5, x6, x7, x8, x9, x10, x11, x12, x13, x14, x15⟩ := hI1.1
  obtain ⟨y0, y1, y2, y3, y4, y5, y6, y7, y8, y9, y10, y11, y12, y13, y14, y15⟩ := x12
  obtain ⟨c1, c2, c3, c4, c5, c6, c7, c8⟩ := hI1.2.2.1.1
  obtain ⟨hI2, hfr⟩ := hI1.heal hO0 hA.2.1.1 hA.2.1.2 hA.pp hm g2 g3 g4
  simp (disch := first | omega | rfl) only [e_123_0, e_123_1, e_123_2, e_123_5, e_123_8, e_123_9, e_123_10, e_123_11, e_123_12, e_123_15, e_123_18, e_123_20, e_123_21, e_123_22, e_123_25, e_123_26, e_123_27, e_123_30, ge1, ule_t, true_or, or_true, nI_add, nI_mul, nI_sub, nI_clamp, nI_lt_t, nI_lt_f, nI_le_t, nI_le_f, nI_eq_t, nI_eq_f, vp_nI, tI, fI, not_true, not_false_iff, true_and, and_true, Classical.not_not, kC_n, ul0, ula1, ula2, ula3, ula4, ulb2, ulb3, ulb4, ulc2, ulc3, ulc4, ule4, ulf3, ulf4, x0, c_125 hI1 hO0 hA.2.1.1 hA.2.1.2 hA.pp hm g1, kC_v]
  exact hq _ (FrC.of hf hk1 hfr ⟨x14, x15⟩) hI2
/-- all members healed -/
def haR (r : Nat → Int32) : Nat → (Nat → Int32)
  | 0 => r
  | m + 1 => if fStop (rW (haR r m)) (nM r) (nQ r) m = 0 then rHeal (haR r m) m (dnr (haR r m) m) else haR r m
def haN (r : Nat → Int32) : Nat → Nat
  | 0 => 0
  | m + 1 => if fStop (rW (haR r m)) (nM r) (nQ r) m = 0 then haN r m + 1 else haN r m
theorem haN_0 : ∀ m, haN r m = 0 → haR r m = r
  | 0, _ => rfl
  | m + 1, h => by
    rw [haN] at h
    rw [haR]
    split at h
    · omega
    · rename_i h2
      rw [if_neg h2]
      exact haN_0 m h
theorem ha_ok (h : okR r) (hN : RN3 r) : ∀ m, m ≤ nM r → okR (haR r m) ∧ RN3 (haR r m) ∧ SLe r (haR r m) ∧ nM (haR r m) = nM r ∧ nQ (haR r m) = nQ r ∧ haN r m ≤ m
  | 0, _ => ⟨h, hN, SLe.refl r, rfl, rfl, Nat.le_refl _⟩
  | m + 1, hm => by
    obtain ⟨a1, a2, a3, a4, a5, a6⟩ := ha_ok h hN m (by omega)
    rw [haR, haN]
    by_cases hs : fStop (rW (haR r m)) (nM r) (nQ r) m = 0
    · rw [if_pos hs, if_pos hs]
      have hs2 : fStop (rW (haR r m)) (nM (haR r m)) (nQ (haR r m)) m = 0 := by rw [a4, a5]; exact hs
      obtain ⟨g1, g2, g3, g4⟩ := dnr_ok hs2
      obtain ⟨b1, b2, b3, b4, b5⟩ := ok_heal a1 a2.1 a2.2 (show m < nM (haR r m) by omega) g2 g3 g4
      refine ⟨b1, b2, a3.trans b3, b4.trans a4, ?_, by omega⟩
      have h6 := a1.2.1
      have : rHeal (haR r m) m (dnr (haR r m) m) 1 = haR r m 1 := by
        unfold rHeal
        exact hl_n (by omega) (by omega) (by omega) (by omega) (by omega)
      unfold nQ at a5 ⊢
      rw [this]; exact a5
    · rw [if_neg hs, if_neg hs]
      exact ⟨a1, a2, a3, a4, a5, by omega⟩
theorem uad6 {u1 u2 : Nat} (h1 : u1 ≤ 5) (h2 : u2 ≤ 30) : ule (uad (u1, u2) (1, 6)) (6, 36) = True := eq_true ⟨by show u1 + 1 ≤ 6; omega, by show u2 + 6 ≤ 36; omega⟩
theorem ule6 {u1 u2 : Nat} (h1 : u1 ≤ 6) (h2 : u2 ≤ 36) : ule (u1, u2) (6, 36) = True := eq_true ⟨h1, h2⟩
end Heal2C
section Heal2M
variable {d : Nat} {Q : Po} {μ : Mu} {m n i j k t u N dn w : Nat} {x y z : Int32} {r : Nat → Int32} {l3 l4 l5 : Option Value}
theorem cpR_0 : cpR r m dn w 0 = r := funext fun x => if_neg (by omega)
theorem cpR_t (h : w.testBit k = true) : upd (cpR r m dn w k) (3 + 64 * m + (7 + k)) (r (3 + 64 * dn + (7 + k))) = cpR r m dn w (k + 1) := by
  funext x
  unfold upd cpR
  by_cases hx : x = 3 + 64 * m + (7 + k)
  · rw [if_pos hx, if_pos (by rw [hx, show 3 + 64 * m + (7 + k) - (3 + 64 * m + 7) = k by omega]; exact ⟨by omega, by omega, h⟩), hx, show 3 + 64 * dn + 7 + (3 + 64 * m + (7 + k) - (3 + 64 * m + 7)) = 3 + 64 * dn + (7 + k) by omega]
  · rw [if_neg hx]
    by_cases h2 : 3 + 64 * m + 7 ≤ x ∧ x < 3 + 64 * m + 7 + k ∧ w.testBit (x - (3 + 64 * m + 7)) = true
    · rw [if_pos h2, if_pos ⟨by omega, by omega, h2.2.2⟩]
    · rw [if_neg h2, if_neg (fun z => h2 ⟨z.1, by omega, z.2.2⟩)]
theorem cpR_f (h : ¬ w.testBit k = true) : cpR r m dn w (k + 1) = cpR r m dn w k := by
  funext x
  unfold cpR
  by_cases h2 : 3 + 64 * m + 7 ≤ x ∧ x < 3 + 64 * m + 7 + k ∧ w.testBit (x - (3 + 64 * m + 7)) = true
  · rw [if_pos h2, if_pos ⟨by omega, by omega, h2.2.2⟩]
  · rw [if_neg h2, if_neg (fun z => by
      by_cases hx : x = 3 + 64 * m + (7 + k)
      · rw [hx, show 3 + 64 * m + (7 + k) - (3 + 64 * m + 7) = k by omega] at z
        exact h z.2.2
      · exact h2 ⟨z.1, by omega, z.2.2⟩)]
theorem mDown_fr {a b : Nat} : Fr (fun a => a = 1298 ∨ a = 1305 ∨ a = 1306 ∨ a = 1307) μ (mDown μ a b) := by
  unfold mDown mBoth mTree
  exact (((((((Fr.refl.iu (Or.inl rfl)).iu (Or.inl rfl)).au (Or.inr (Or.inl rfl))).au (Or.inr (Or.inr (Or.inl rfl)))).au (Or.inr (Or.inl rfl))).au (Or.inr (Or.inr (Or.inr rfl)))).iu (Or.inl rfl)).iu (Or.inl rfl)
theorem mDown_k {a b : Nat} (h1 : k ≠ 12) (h2 : k ≠ 13) : mI (mDown μ a b) 1298 k = mI μ 1298 k := by
  unfold mDown mBoth mTree
  simp (disch := omega) only [mI_n, mI_An]
/-- the heap when a member has been healed -/
def mHeal (μ : Mu) (m dn : Nat) : Mu := uA (mDown μ m dn) 1302 (rHeal (mI μ 1302) m dn)
theorem m_195 (hM : ShM μ) (hO : okR (mI μ 1302)) (hm : m < (nM (mI μ 1302))) (hg : fGiv (rW (mI μ 1302)) (nM (mI μ 1302)) (nQ (mI μ 1302)) (rW (mI μ 1302) m 1) (nI m) = some dn) (hd : dn < (nM (mI μ 1302))) (hne : dn ≠ m) (ht : rW (mI μ 1302) dn 1 = rW (mI μ 1302) m 1) : Ev (d + 7) 195 [.ref 1298, .int (nI m)] μ Q = Q (some (some (.int (nI (pcN (fWr (rW (mI μ 1302)) m dn)))))) (mHeal μ m dn) := by
  have hM0 := hM
  obtain ⟨p1, p2, p3, p4, p5, p6, p7, p8, p9, p10, p11, p12, p13, p14, p15, p16, p17, p18, p19, p20, p21⟩ := hM
  have hO9 := hO
  obtain ⟨o2, o6, o387, oT, o1708, oO, o1741, oF, o1, oq1, oq6, o0, ol1, ol40, oV, oN1, oP1, oF1⟩ := hO
  have vE := okBE oV hm
  have hw : fWr (rW (mI μ 1302)) m dn < 65536 := fWr_lt _ _ _
  have h193 := fun (d : Nat) (Q : Po) => s_193 (d := d) (Q := Q) (t := rW (mI μ 1302) m 1) (but := nI m) (n := (nM (mI μ 1302))) (q := (nQ (mI μ 1302))) hM0 o2 o6 oV o1 oq6
  rw [hg, oN] at h193
  have h181 := fun (d : Nat) (Q : Po) => s_181 (d := d) (Q := Q) hM0 (show m < 6 by omega) (show dn < 6 by omega)
  have hMd : ShM (mDown μ m dn) := hM0
  have hwd : mI (mDown μ m dn) 1298 12 = nI (fWr (rW (mI μ 1302)) m dn) := mI_s
  have e02 : mI (mDown μ m dn) 1302 = mI μ 1302 := by funext x; exact mDown_fr.2.2.2 1302 (by omega) x
  have key : ∀ f k, k + f = 16 → EM 195 (d + 6) 28 [some (.ref 1298), some (.int (nI m)), some (.int (nI dn)), some (.int (nI (pcN (fWr (rW (mI μ 1302)) m dn)))), some (.int (nI k))] [] (uA (mDown μ m dn) 1302 (cpR (mI μ 1302) m dn (fWr (rW (mI μ 1302)) m dn) k)) (0, 0) Q = EM 195 (d + 6) 74 [some (.ref 1298), some (.int (nI m)), some (.int (nI dn)), some (.int (nI (pcN (fWr (rW (mI μ 1302)) m dn)))), some (.int (nI 16))] [] (uA (mDown μ m dn) 1302 (cpR (mI μ 1302) m dn (fWr (rW (mI μ 1302)) m dn) 16)) (0, 0) Q := by
    intro f
    induction f with
    | zero =>
      intro k hk
      obtain rfl : k = 16 := by omega
      rw [e_195_28]
      simp (disch := first | omega | rfl) only [e_195_0, e_195_1, e_195_2, e_195_3, e_195_6, e_195_7, e_195_10, e_195_11, e_195_12, e_195_13, e_195_14, e_195_17, e_195_18, e_195_21, e_195_24, e_195_25, e_195_26, e_195_30, e_195_32, e_195_35, e_195_36, e_195_39, e_195_41, e_195_42, e_195_43, e_195_44, e_195_45, e_195_48, e_195_49, e_195_50, e_195_52, e_195_54, e_195_55, e_195_56, e_195_57, e_195_59, e_195_61, e_195_62, e_195_65, e_195_68, e_195_71, e_195_75, e_195_76, e_195_77, e_195_78, e_195_79, e_195_80, e_195_83, e_195_84, e_195_85, e_195_88, e_195_89, e_195_90, e_195_91, e_195_92, e_195_93, e_195_94, e_195_97, e_195_98, e_195_99, e_195_102, e_195_103, e_195_104, e_195_105, e_195_106, e_195_107, e_195_108, e_195_111, e_195_112, e_195_113, e_195_116, e_195_117, e_195_118, e_195_120, e_195_121, e_195_122, e_195_125, e_195_126, e_195_127, e_195_128, e_195_129, e_195_130, e_195_133, e_195_136, e_195_139, e_195_140, ge1, ule_t, true_or, or_true, nI_add, nI_mul, nI_sub, nI_clamp, nI_lt_t, nI_lt_f, nI_le_t, nI_le_f, nI_eq_t, nI_eq_f, vp_nI, tI, fI, not_true, not_false_iff, true_and, and_true, Classical.not_not]
    | succ f ih =>
      intro k hk
      rw [e_195_28]
      have hi := ih (k + 1) (by omega)
      have hb2 : (fWr (rW (mI μ 1302)) m dn).testBit k = decide ((fWr (rW (mI μ 1302)) m dn) / 2 ^ k % 2 = 1) := Nat.testBit_eq_decide_div_mod_eq
      have h166 := fun (d : Nat) (Q : Po) => s_166 (d := d) (Q := Q) (μ := uA (mDown μ m dn) 1302 (cpR (mI μ 1302) m dn (fWr (rW (mI μ 1302)) m dn) k)) (m := dn) (k := 7 + k) hMd (by omega)
      simp only [mI_Af] at h166
      have e9 : rW (cpR (mI μ 1302) m dn (fWr (rW (mI μ 1302)) m dn) k) dn (7 + k) = mI μ 1302 (3 + 64 * dn + (7 + k)) := cpR_n (by omega)
      rw [e9] at h166
      by_cases hb : (fWr (rW (mI μ 1302)) m dn) / 2 ^ k % 2 = 1
      · rw [← cpR_t (by rw [hb2, decide_eq_true hb])] at hi
        simp (disch := first | omega | rfl) only [e_195_0, e_195_1, e_195_2, e_195_3, e_195_6, e_195_7, e_195_10, e_195_11, e_195_12, e_195_13, e_195_14, e_195_17, e_195_18, e_195_21, e_195_24, e_195_25, e_195_26, e_195_30, e_195_32, e_195_35, e_195_36, e_195_39, e_195_41, e_195_42, e_195_43, e_195_44, e_195_45, e_195_48, e_195_49, e_195_50, e_195_52, e_195_54, e_195_55, e_195_56, e_195_57, e_195_59, e_195_61, e_195_62, e_195_65, e_195_68, e_195_71, e_195_75, e_195_76, e_195_77, e_195_78, e_195_79, e_195_80, e_195_83, e_195_84, e_195_85, e_195_88, e_195_89, e_195_90, e_195_91, e_195_92, e_195_93, e_195_94, e_195_97, e_195_98, e_195_99, e_195_102, e_195_103, e_195_104, e_195_105, e_195_106, e_195_107, e_195_108, e_195_111, e_195_112, e_195_113, e_195_116, e_195_117, e_195_118, e_195_120, e_195_121, e_195_122, e_195_125, e_195_126, e_195_127, e_195_128, e_195_129, e_195_130, e_195_133, e_195_136, e_195_139, e_195_140, ge1, ule_t, true_or, or_true, nI_add, nI_mul, nI_sub, nI_clamp, nI_lt_t, nI_lt_f, nI_le_t, nI_le_f, nI_eq_t, nI_eq_f, vp_nI, tI, fI, not_true, not_false_iff, true_and, and_true, Classical.not_not, mS_uI, mS_uA, mS_uJ, mS_uR, mS_uX, mR_uI, mR_uA, mR_uJ, mR_uX, mX_uI, mX_uA, mX_uJ, mX_uR, mI_s, mI_n, mI_A, mI_An, mI_uJ, mI_uR, mI_uX, mJ_uI, mJ_uA, mJ_uR, mJ_uX, onR_s, kC_v, kC_n, kC_t, hMd.1, hwd, nI_shr, nI_and1, hb, h166, s_167 (ShM_uA hMd), uIA]
        exact hi
      · have hb3 : (fWr (rW (mI μ 1302)) m dn) / 2 ^ k % 2 = 0 := by omega
        rw [cpR_f (by rw [hb2, decide_eq_false hb]; exact Bool.false_ne_true)] at hi
        simp (disch := first | omega | rfl) only [e_195_0, e_195_1, e_195_2, e_195_3, e_195_6, e_195_7, e_195_10, e_195_11, e_195_12, e_195_13, e_195_14, e_195_17, e_195_18, e_195_21, e_195_24, e_195_25, e_195_26, e_195_30, e_195_32, e_195_35, e_195_36, e_195_39, e_195_41, e_195_42, e_195_43, e_195_44, e_195_45, e_195_48, e_195_49, e_195_50, e_195_52, e_195_54, e_195_55, e_195_56, e_195_57, e_195_59, e_195_61, e_195_62, e_195_65, e_195_68, e_195_71, e_195_75, e_195_76, e_195_77, e_195_78, e_195_79, e_195_80, e_195_83, e_195_84, e_195_85, e_195_88, e_195_89, e_195_90, e_195_91, e_195_92, e_195_93, e_195_94, e_195_97, e_195_98, e_195_99, e_195_102, e_195_103, e_195_104, e_195_105, e_195_106, e_195_107, e_195_108, e_195_111, e_195_112, e_195_113, e_195_116, e_195_117, e_195_118, e_195_120, e_195_121, e_195_122, e_195_125, e_195_126, e_195_127, e_195_128, e_195_129, e_195_130, e_195_133, e_195_136, e_195_139, e_195_140, ge1, ule_t, true_or, or_true, nI_add, nI_mul, nI_sub, nI_clamp, nI_lt_t, nI_lt_f, nI_le_t, nI_le_f, nI_eq_t, nI_eq_f, vp_nI, tI, fI, not_true, not_false_iff, true_and, and_true, Classical.not_not, mS_uI, mS_uA, mS_uJ, mS_uR, mS_uX, mR_uI, mR_uA, mR_uJ, mR_uX, mX_uI, mX_uA, mX_uJ, mX_uR, mI_s, mI_n, mI_A, mI_An, mI_uJ, mI_uR, mI_uX, mJ_uI, mJ_uA, mJ_uR, mJ_uX, onR_s, kC_v, kC_n, kC_t, hMd.1, hwd, nI_shr, nI_and1, hb3]
        exact hi
  have k0 := key 16 0 (by omega)
  have e0 := uA_self (μ := mDown μ m dn) (a := 1302)
  rw [e02] at e0
  rw [cpR_0, e0] at k0
  have hread : ∀ (F : Nat → Int32) (m' k' : Nat), 3 + 64 * m' + k' < 1782 → ∀ (d : Nat) (Q : Po), Ev (d + 1) 166 [.ref 1298, .int (nI m'), .int (nI k')] (uA (mDown μ m dn) 1302 F) Q = Q (some (some (.int (F (3 + 64 * m' + k'))))) (uA (mDown μ m dn) 1302 F) := fun F m' k' hlt d Q => by
    have := s_166 (d := d) (Q := Q) (μ := uA (mDown μ m dn) 1302 F) (m := m') (k := k') hMd hlt
    rw [mI_Af] at this
    exact this
  have hdone : ∀ (F : Nat → Int32), F (3 + 64 * m + 1) = nI (nE (rW (mI μ 1302)) m) → ∀ (d : Nat) (Q : Po), Ev (d + 2) 169 [.ref 1298, .int (nI m)] (uA (mDown μ m dn) 1302 F) Q = Q (some (some (.int (nI (nE (rW (mI μ 1302)) m))))) (uA (mDown μ m dn) 1302 F) := fun F hF d Q => by
    have := s_169 (d := d) (Q := Q) (μ := uA (mDown μ m dn) 1302 F) (m := m) hMd (by omega)
    rw [mI_Af, show rW F m 1 = nI (nE (rW (mI μ 1302)) m) from hF] at this
    exact this
  have hrec : ∀ (F : Nat → Int32), ∀ (d : Nat) (Q : Po), Ev (d + 2) 189 [.ref 1298, .int (nI dn), .int (nI (nE (rW (mI μ 1302)) m))] (uA (mDown μ m dn) 1302 F) Q = Q (some (some (.int (F (3 + 64 * dn + (23 + nE (rW (mI μ 1302)) m)))))) (uA (mDown μ m dn) 1302 F) := fun F d Q => by
    have := s_189 (d := d) (Q := Q) (μ := uA (mDown μ m dn) 1302 F) (m := dn) (t := nI (nE (rW (mI μ 1302)) m)) hMd (by omega) (nI_le (by omega) (by omega)) (nI_le (by omega) (by omega))
    unfold vRec at this
    rw [mI_Af, nI_clamp (by omega)] at this
    exact this
  have h182 := fun (d : Nat) (Q : Po) (μ2 : Mu) => s_182 (d := d) (Q := Q) (μ := μ2) hw
  rw [in_195]
  simp (disch := first | omega | rfl) only [e_195_0, e_195_1, e_195_2, e_195_3, e_195_6, e_195_7, e_195_10, e_195_11, e_195_12, e_195_13, e_195_14, e_195_17, e_195_18, e_195_21, e_195_24, e_195_25, e_195_26, e_195_30, e_195_32, e_195_35, e_195_36, e_195_39, e_195_41, e_195_42, e_195_43, e_195_44, e_195_45, e_195_48, e_195_49, e_195_50, e_195_52, e_195_54, e_195_55, e_195_56, e_195_57, e_195_59, e_195_61, e_195_62, e_195_65, e_195_68, e_195_71, e_195_75, e_195_76, e_195_77, e_195_78, e_195_79, e_195_80, e_195_83, e_195_84, e_195_85, e_195_88, e_195_89, e_195_90, e_195_91, e_195_92, e_195_93, e_195_94, e_195_97, e_195_98, e_195_99, e_195_102, e_195_103, e_195_104, e_195_105, e_195_106, e_195_107, e_195_108, e_195_111, e_195_112, e_195_113, e_195_116, e_195_117, e_195_118, e_195_120, e_195_121, e_195_122, e_195_125, e_195_126, e_195_127, e_195_128, e_195_129, e_195_130, e_195_133, e_195_136, e_195_139, e_195_140, ge1, ule_t, true_or, or_true, nI_add, nI_mul, nI_sub, nI_clamp, nI_lt_t, nI_lt_f, nI_le_t, nI_le_f, nI_eq_t, nI_eq_f, vp_nI, tI, fI, not_true, not_false_iff, true_and, and_true, Classical.not_not, mS_uI, mS_uA, mS_uJ, mS_uR, mS_uX, mR_uI, mR_uA, mR_uJ, mR_uX, mX_uI, mX_uA, mX_uJ, mX_uR, mI_s, mI_n, mI_A, mI_An, mI_uJ, mI_uR, mI_uX, mJ_uI, mJ_uA, mJ_uR, mJ_uX, onR_s, kC_v, kC_n, kC_t, hM0.1, s_169 hM0, h193, h181, hMd.1, hwd, h182]
  rw [k0]
  have u1 : mI μ 1302 (3 + 64 * m + 1) = nI (nE (rW (mI μ 1302)) m) := vE.2.1
  have v1 : cpR (mI μ 1302) m dn (fWr (rW (mI μ 1302)) m dn) 16 (3 + 64 * dn + 3) = mI μ 1302 (3 + 64 * dn + 3) := cpR_n (by omega)
  have v2 : cpR (mI μ 1302) m dn (fWr (rW (mI μ 1302)) m dn) 16 (3 + 64 * m + 4) = mI μ 1302 (3 + 64 * m + 4) := cpR_n (by omega)
  have v3 : cpR (mI μ 1302) m dn (fWr (rW (mI μ 1302)) m dn) 16 (3 + 64 * m + 5) = mI μ 1302 (3 + 64 * m + 5) := cpR_n (by omega)
  have v4 : cpR (mI μ 1302) m dn (fWr (rW (mI μ 1302)) m dn) 16 (3 + 64 * dn + (23 + nE (rW (mI μ 1302)) m)) = mI μ 1302 (3 + 64 * dn + (23 + nE (rW (mI μ 1302)) m)) := cpR_n (by omega)
  have v5 : cpR (mI μ 1302) m dn (fWr (rW (mI μ 1302)) m dn) 16 (3 + 64 * m + 1) = nI (nE (rW (mI μ 1302)) m) := (cpR_n (by omega)).trans u1
  have hd3 := hdone (upd (upd (upd (cpR (mI μ 1302) m dn (fWr (rW (mI μ 1302)) m dn) 16) (3 + 64 * dn + 3) (mI μ 1302 (3 + 64 * dn + 3) + nI (pcN (fWr (rW (mI μ 1302)) m dn)))) (3 + 64 * m + 4) (mI μ 1302 (3 + 64 * m + 4) + nI (pcN (fWr (rW (mI μ 1302)) m dn)))) (3 + 64 * m + 5) (mI μ 1302 (3 + 64 * m + 5) + nI 1)) (by rw [upd_n (by omega), upd_n (by omega), upd_n (by omega)]; exact v5)
  simp (disch := first | omega | rfl) only [e_195_0, e_195_1, e_195_2, e_195_3, e_195_6, e_195_7, e_195_10, e_195_11, e_195_12, e_195_13, e_195_14, e_195_17, e_195_18, e_195_21, e_195_24, e_195_25, e_195_26, e_195_30, e_195_32, e_195_35, e_195_36, e_195_39, e_195_41, e_195_42, e_195_43, e_195_44, e_195_45, e_195_48, e_195_49, e_195_50, e_195_52, e_195_54, e_195_55, e_195_56, e_195_57, e_195_59, e_195_61, e_195_62, e_195_65, e_195_68, e_195_71, e_195_74, e_195_75, e_195_76, e_195_77, e_195_78, e_195_79, e_195_80, e_195_83, e_195_84, e_195_85, e_195_88, e_195_89, e_195_90, e_195_91, e_195_92, e_195_93, e_195_94, e_195_97, e_195_98, e_195_99, e_195_102, e_195_103, e_195_104, e_195_105, e_195_106, e_195_107, e_195_108, e_195_111, e_195_112, e_195_113, e_195_116, e_195_117, e_195_118, e_195_120, e_195_121, e_195_122, e_195_125, e_195_126, e_195_127, e_195_128, e_195_129, e_195_130, e_195_133, e_195_136, e_195_139, e_195_140, ge1, ule_t, true_or, or_true, nI_add, nI_mul, nI_sub, nI_clamp, nI_lt_t, nI_lt_f, nI_le_t, nI_le_f, nI_eq_t, nI_eq_f, vp_nI, tI, fI, not_true, not_false_iff, true_and, and_true, Classical.not_not, mS_uI, mS_uA, mS_uJ, mS_uR, mS_uX, mR_uI, mR_uA, mR_uJ, mR_uX, mX_uI, mX_uA, mX_uJ, mX_uR, mI_s, mI_n, mI_A, mI_An, mI_uJ, mI_uR, mI_uX, mJ_uI, mJ_uA, mJ_uR, mJ_uX, onR_s, kC_v, kC_n, kC_t, hMd.1, hread, s_167 (ShM_uA hMd), uIA, upd_n, v1, v2, v3, v4, v5, hd3, hrec]
  rfl
theorem m_273a (hM : ShM μ) (hO : okR (mI μ 1302)) (hx : bad x (nM (mI μ 1302))) : Ev (d + 9) 273 [.ref 1298, .int x] μ Q = Q (some (some (.int (-1)))) (uI μ 1298 0 (nI 0)) := by
  have hM0 := hM
  obtain ⟨p1, p2, p3, p4, p5, p6, p7, p8, p9, p10, p11, p12, p13, p14, p15, p16, p17, p18, p19, p20, p21⟩ := hM
  have hO9 := hO
  obtain ⟨o2, o6, o387, oT, o1708, oO, o1741, oF, o1, oq1, oq6, o0, ol1, ol40, oV, oN1, oP1, oF1⟩ := hO
  rw [in_273]
  simp (disch := first | omega | rfl) only [e_273_0, e_273_1, e_273_2, e_273_5, e_273_6, e_273_7, e_273_10, e_273_13, e_273_14, e_273_15, e_273_16, e_273_17, e_273_20, e_273_23, e_273_25, e_273_26, e_273_27, e_273_30, e_273_31, e_273_32, e_273_35, p1, p2, p3, p4, p5, p6, p7, p8, p9, p10, p11, p12, p13, p14, p15, p16, p17, p18, p19, p20, p21, o2, o387, o1708, o1741, o1, o0, ge1, ule_t, true_or, or_true, nI_add, nI_mul, nI_sub, nI_clamp, nI_lt_t, nI_lt_f, nI_le_t, nI_le_f, nI_eq_t, nI_eq_f, vp_nI, tI, fI, not_true, not_false_iff, true_and, and_true, Classical.not_not, mS_uI, mS_uA, mS_uJ, mS_uR, mS_uX, mR_uI, mR_uA, mR_uJ, mR_uX, mX_uI, mX_uA, mX_uJ, mX_uR, mI_s, mI_n, mI_A, mI_An, mI_uJ, mI_uR, mI_uX, mJ_uI, mJ_uA, mJ_uR, mJ_uX, onR_s, kC_v, kC_n, kC_t, mI_nf, mI_Anf, s_165 hM0, s_165 (ShM_u2 hM0), s_166 hM0, s_166 (ShM_u2 hM0), u_223f hM0 hO9 hx]
theorem m_273b (hM : ShM μ) (hO : okR (mI μ 1302)) (hm : m < (nM (mI μ 1302))) (h : ¬ fStop (rW (mI μ 1302)) (nM (mI μ 1302)) (nQ (mI μ 1302)) m = 0) : Ev (d + 9) 273 [.ref 1298, .int (nI m)] μ Q = Q (some (some (.int (-4)))) (uI μ 1298 0 (nI 0)) := by
  have hle := fStop_le (V := (rW (mI μ 1302))) (n := (nM (mI μ 1302))) (q := (nQ (mI μ 1302))) (m := m)
  have hM0 := hM
  obtain ⟨p1, p2, p3, p4, p5, p6, p7, p8, p9, p10, p11, p12, p13, p14, p15, p16, p17, p18, p19, p20, p21⟩ := hM
  have hO9 := hO
  obtain ⟨o2, o6, o387, oT, o1708, oO, o1741, oF, o1, oq1, oq6, o0, ol1, ol40, oV, oN1, oP1, oF1⟩ := hO
  rw [in_273]
  simp (disch := first | omega | rfl) only [e_273_0, e_273_1, e_273_2, e_273_5, e_273_6, e_273_7, e_273_10, e_273_13, e_273_14, e_273_15, e_273_16, e_273_17, e_273_20, e_273_23, e_273_25, e_273_26, e_273_27, e_273_30, e_273_31, e_273_32, e_273_35, p1, p2, p3, p4, p5, p6, p7, p8, p9, p10, p11, p12, p13, p14, p15, p16, p17, p18, p19, p20, p21, o2, o387, o1708, o1741, o1, o0, ge1, ule_t, true_or, or_true, nI_add, nI_mul, nI_sub, nI_clamp, nI_lt_t, nI_lt_f, nI_le_t, nI_le_f, nI_eq_t, nI_eq_f, vp_nI, tI, fI, not_true, not_false_iff, true_and, and_true, Classical.not_not, mS_uI, mS_uA, mS_uJ, mS_uR, mS_uX, mR_uI, mR_uA, mR_uJ, mR_uX, mX_uI, mX_uA, mX_uJ, mX_uR, mI_s, mI_n, mI_A, mI_An, mI_uJ, mI_uR, mI_uX, mJ_uI, mJ_uA, mJ_uR, mJ_uX, onR_s, kC_v, kC_n, kC_t, mI_nf, mI_Anf, s_165 hM0, s_165 (ShM_u2 hM0), s_166 hM0, s_166 (ShM_u2 hM0), u_223t hM0 hO9 hm, u_194 hM0 hO9 hm]
theorem mHeal_fin {μ1 : Mu} : Fr PM μ1 (mHeal μ1 m dn) ∧ (∀ k, k ≠ 0 → k ≠ 12 → k ≠ 13 → mI (mHeal μ1 m dn) 1298 k = mI μ1 1298 k) ∧ ∀ x, mI (mHeal μ1 m dn) 1304 x = mI μ1 1304 x := by
  unfold mHeal
  refine ⟨(mDown_fr.mono (fun a ha => by unfold PM; omega)).au (by unfold PM; omega), fun k _ h2 h3 => ?_, fun x => ?_⟩
  · rw [mI_An (by omega)]; exact mDown_k h2 h3
  · rw [mI_An (by omega)]; exact mDown_fr.2.2.2 1304 (by omega) x
theorem m_273 (hM : ShM μ) (hO : okR (mI μ 1302)) (hR : RN2 (mI μ 1302)) (hu : mI μ 1298 8 = nI u) (h10 : u ≤ 10) (hm : m < (nM (mI μ 1302))) (h : fStop (rW (mI μ 1302)) (nM (mI μ 1302)) (nQ (mI μ 1302)) m = 0) (hq : ∀ μ1, FrM μ μ1 → mI μ1 1302 = rHeal (mI μ 1302) m (dnr (mI μ 1302) m) → mI μ1 1298 8 = nI (u2 u) → (∀ j, j < u2 u → prM μ1 j = pr2 u (prM μ) (mI μ 1302) j) → Q (some (some (.int (nI (pcN (fWr (rW (mI μ 1302)) m (dnr (mI μ 1302) m))))))) μ1) : Ev (d + 9) 273 [.ref 1298, .int (nI m)] μ Q := by
  obtain ⟨g1, g2, g3, g4⟩ := dnr_ok h
  have hM0 := hM
  obtain ⟨p1, p2, p3, p4, p5, p6, p7, p8, p9, p10, p11, p12, p13, p14, p15, p16, p17, p18, p19, p20, p21⟩ := hM
  have hO9 := hO
  obtain ⟨o2, o6, o387, oT, o1708, oO, o1741, oF, o1, oq1, oq6, o0, ol1, ol40, oV, oN1, oP1, oF1⟩ := hO
  rw [in_273]
  simp (disch := first | omega | rfl) only [e_273_0, e_273_1, e_273_2, e_273_5, e_273_6, e_273_7, e_273_10, e_273_13, e_273_14, e_273_15, e_273_16, e_273_17, e_273_20, e_273_23, e_273_25, e_273_26, e_273_27, e_273_30, e_273_31, e_273_32, e_273_35, p1, p2, p3, p4, p5, p6, p7, p8, p9, p10, p11, p12, p13, p14, p15, p16, p17, p18, p19, p20, p21, o2, o387, o1708, o1741, o1, o0, ge1, ule_t, true_or, or_true, nI_add, nI_mul, nI_sub, nI_clamp, nI_lt_t, nI_lt_f, nI_le_t, nI_le_f, nI_eq_t, nI_eq_f, vp_nI, tI, fI, not_true, not_false_iff, true_and, and_true, Classical.not_not, mS_uI, mS_uA, mS_uJ, mS_uR, mS_uX, mR_uI, mR_uA, mR_uJ, mR_uX, mX_uI, mX_uA, mX_uJ, mX_uR, mI_s, mI_n, mI_A, mI_An, mI_uJ, mI_uR, mI_uX, mJ_uI, mJ_uA, mJ_uR, mJ_uX, onR_s, kC_v, kC_n, kC_t, mI_nf, mI_Anf, s_165 hM0, s_165 (ShM_u2 hM0), s_166 hM0, s_166 (ShM_u2 hM0), u_223t hM0 hO9 hm, u_194 hM0 hO9 hm, h]
  refine m_keep hM0 hR.1 hu h10 (fun μ1 hf hM1 e4 e5 hfin => ?_)
  have h195 := fun (d : Nat) (Q : Po) => m_195 (d := d) (Q := Q) (μ := μ1) (m := m) (dn := dnr (mI μ 1302) m) hM1 (by rw [e4]; exact hO9) (by rw [e4]; exact hm) (by rw [e4]; exact g1) (by rw [e4]; exact g2) g3 (by rw [e4]; exact g4)
  rw [e4] at h195
  simp (disch := first | omega | rfl) only [e_273_0, e_273_1, e_273_2, e_273_5, e_273_6, e_273_7, e_273_10, e_273_13, e_273_14, e_273_15, e_273_16, e_273_17, e_273_20, e_273_23, e_273_25, e_273_26, e_273_27, e_273_30, e_273_31, e_273_32, e_273_35, ge1, ule_t, true_or, or_true, nI_add, nI_mul, nI_sub, nI_clamp, nI_lt_t, nI_lt_f, nI_le_t, nI_le_f, nI_eq_t, nI_eq_f, vp_nI, tI, fI, not_true, not_false_iff, true_and, and_true, Classical.not_not, mS_uI, mS_uA, mS_uJ, mS_uR, mS_uX, mR_uI, mR_uA, mR_uJ, mR_uX, mX_uI, mX_uA, mX_uJ, mX_uR, mI_s, mI_n, mI_A, mI_An, mI_uJ, mI_uR, mI_uX, mJ_uI, mJ_uA, mJ_uR, mJ_uX, onR_s, kC_v, kC_n, kC_t, kC_n, kC_v, hM1.1, h195]
  obtain ⟨z1, z2, z3⟩ := mHeal_fin (μ1 := μ1) (m := m) (dn := dnr (mI μ 1302) m)
  obtain ⟨f1, f2, f3⟩ := hfin _ z1 z2 z3
  refine hq _ f1 ?_ f2 f3
  unfold mHeal
  rw [mI_Af, e4]
end Heal2M

