/-! healing: calls -/
section Heal2C
variable {d : Nat} {Q : Po} {μ : Mu} {s c m n q i j k t z u σ o N dn w h9 : Nat} {x y g v : Int32} {r tn : Nat → Int32} {pr : Nat → Nat → Int32} {l4 l5 : Option Value}
theorem fStop_0 {V : VW} (h : fStop V n q m = 0) : ∃ dn, fGiv V n q (V m 1) (nI m) = some dn ∧ ¬ V m 2 = nI 0 := by
  unfold fStop at h
  split at h
  · cases h
  · rename_i h1
    split at h
    · cases h
    · split at h
      · cases h
      · split at h
        · cases h
        · rename_i h4
          cases hg : fGiv V n q (V m 1) (nI m) with
          | none => exact absurd hg h4
          | some dn => exact ⟨dn, rfl, h1⟩
theorem fStop_le {V : VW} : fStop V n q m ≤ 4 := by
  unfold fStop
  repeat' split
  all_goals omega
/-- the donor -/
def dnr (r : Nat → Int32) (m : Nat) : Nat := (fGiv (rW r) (nM r) (nQ r) (rW r m 1) (nI m)).getD 0
theorem dnr_ok (h : fStop (rW r) (nM r) (nQ r) m = 0) : fGiv (rW r) (nM r) (nQ r) (rW r m 1) (nI m) = some (dnr r m) ∧ dnr r m < nM r ∧ dnr r m ≠ m ∧ rW r (dnr r m) 1 = rW r m 1 := by
  obtain ⟨dn, e, -⟩ := fStop_0 h
  have e2 : dnr r m = dn := by unfold dnr; rw [e]; rfl
  obtain ⟨g1, g2, g3, g4⟩ := fGiv_some e
  rw [e2]
  exact ⟨e, g1, fun z => g2 (by rw [z]), g4⟩
theorem c_123a (hW : ShR μ s c) (hB : RelB μ s r) (hO : okR r) (hx : bad x (nM r)) : Ev (d + 8) 123 [.ref 1000, .int x] μ Q = Q (some (some (.int (-1)))) μ := by
  have hW0 := hW
  obtain ⟨w0, w1, w2, w3, w4, w5, w6, w7, w8, w9, w10, w11, w12, w13, w14, w15⟩ := hW
  have hS0 := w12
  obtain ⟨q0, q1, q2, q3, q4, q5, q6, q7, q8, q9, q10, q11, q12, q13, q14, q15⟩ := w12
  have hB9 := hB
  obtain ⟨b1, b2, b3, b4, b5, b6, b7, b8⟩ := hB
  have hO0 := hO
  obtain ⟨o2, o6, o387, oT, o1708, oO, o1741, oF, o1, oq1, oq6, o0, ol1, ol40, oV, oN1, oP1, oF1⟩ := hO
  have hn : mI μ s 1 = nI (nM r) := b1.trans o2
  have hq9 : mI μ (s + 2) 1 = nI (nQ r) := b6.trans o1
  have hV := b7.ok' oV
  rw [in_123]
  simp (disch := first | omega | rfl) only [e_123_0, e_123_1, e_123_2, e_123_5, e_123_8, e_123_9, e_123_10, e_123_11, e_123_12, e_123_15, e_123_18, e_123_20, e_123_21, e_123_22, e_123_25, e_123_26, e_123_27, e_123_30, w0, w1, w2, w3, w4, w5, w6, w7, w8, w9, w10, q1, q2, q3, q4, q5, q6, q7, q8, q9, q10, q11, q12, q13, q14, q15, b1, b2, b3, b4, b5, b6, o2, o387, o1708, o1741, o1, o0, ge1, ule_t, true_or, or_true, nI_add, nI_mul, nI_sub, nI_clamp, nI_lt_t, nI_lt_f, nI_le_t, nI_le_f, nI_eq_t, nI_eq_f, vp_nI, tI, fI, not_true, not_false_iff, true_and, and_true, Classical.not_not, mS_uI, mS_uA, mS_uJ, mS_uR, mS_uX, mR_uI, mR_uA, mR_uJ, mR_uX, mX_uI, mX_uA, mX_uJ, mX_uR, mI_s, mI_n, mI_A, mI_An, mI_uJ, mI_uR, mI_uX, mJ_uI, mJ_uA, mJ_uR, mJ_uX, onR_s, kC_v, kC_n, kC_t, ul0, ula1, ula2, ula3, ula4, ulb2, ulb3, ulb4, ulc2, ulc3, ulc4, ule4, ulf3, ulf4, c_149f hW0 hB9 hO0 hx]
theorem c_123b (hW : ShR μ s c) (hB : RelB μ s r) (hO : okR r) (hm : m < nM r) (h : ¬ fStop (rW r) (nM r) (nQ r) m = 0) : Ev (d + 8) 123 [.ref 1000, .int (nI m)] μ Q = Q (some (some (.int (-4)))) μ := by
  have hle := fStop_le (V := rW r) (n := nM r) (q := nQ r) (m := m)
  have hW0 := hW
  obtain ⟨w0, w1, w2, w3, w4, w5, w6, w7, w8, w9, w10, w11, w12, w13, w14, w15⟩ := hW
  have hS0 := w12
  obtain ⟨q0, q1, q2, q3, q4, q5, q6, q7, q8, q9, q10, q11, q12, q13, q14, q15⟩ := w12
  have hB9 := hB
  obtain ⟨b1, b2, b3, b4, b5, b6, b7, b8⟩ := hB
  have hO0 := hO
  obtain ⟨o2, o6, o387, oT, o1708, oO, o1741, oF, o1, oq1, oq6, o0, ol1, ol40, oV, oN1, oP1, oF1⟩ := hO
  have hn : mI μ s 1 = nI (nM r) := b1.trans o2
  have hq9 : mI μ (s + 2) 1 = nI (nQ r) := b6.trans o1
  have hV := b7.ok' oV
  rw [in_123]
  simp (disch := first | omega | rfl) only [e_123_0, e_123_1, e_123_2, e_123_5, e_123_8, e_123_9, e_123_10, e_123_11, e_123_12, e_123_15, e_123_18, e_123_20, e_123_21, e_123_22, e_123_25, e_123_26, e_123_27, e_123_30, w0, w1, w2, w3, w4, w5, w6, w7, w8, w9, w10, q1, q2, q3, q4, q5, q6, q7, q8, q9, q10, q11, q12, q13, q14, q15, b1, b2, b3, b4, b5, b6, o2, o387, o1708, o1741, o1, o0, ge1, ule_t, true_or, or_true, nI_add, nI_mul, nI_sub, nI_clamp, nI_lt_t, nI_lt_f, nI_le_t, nI_le_f, nI_eq_t, nI_eq_f, vp_nI, tI, fI, not_true, not_false_iff, true_and, and_true, Classical.not_not, mS_uI, mS_uA, mS_uJ, mS_uR, mS_uX, mR_uI, mR_uA, mR_uJ, mR_uX, mX_uI, mX_uA, mX_uJ, mX_uR, mI_s, mI_n, mI_A, mI_An, mI_uJ, mI_uR, mI_uX, mJ_uI, mJ_uA, mJ_uR, mJ_uX, onR_s, kC_v, kC_n, kC_t, ul0, ula1, ula2, ula3, ula4, ulb2, ulb3, ulb4, ulc2, ulc3, ulc4, ule4, ulf3, ulf4, c_149t hW0 hB9 hO0 hm, c_122 hW0 hB9 hO0 hm]
theorem c_123 (hI : CI μ s c r u pr tn) (hA : AI r u pr tn) (hm : m < nM r) (h : fStop (rW r) (nM r) (nQ r) m = 0) (hq : ∀ μ1, FrC s c μ μ1 → CI μ1 s c (rHeal r m (dnr r m)) (u2 u) (pr2 u pr r) tn → Q (some (some (.int (nI (pcN (fWr (rW r) m (dnr r m))))))) μ1) : Ev (d + 8) 123 [.ref 1000, .int (nI m)] μ Q := by
  obtain ⟨hW, hRS, hN, hC, hE, hRing⟩ := id hI
  have hO := hA.1
  have hB := hN.1
  obtain ⟨g1, g2, g3, g4⟩ := dnr_ok h
  have hW0 := hW
  obtain ⟨w0, w1, w2, w3, w4, w5, w6, w7, w8, w9, w10, w11, w12, w13, w14, w15⟩ := hW
  have hS0 := w12
  obtain ⟨q0, q1, q2, q3, q4, q5, q6, q7, q8, q9, q10, q11, q12, q13, q14, q15⟩ := w12
  have hB9 := hB
  obtain ⟨b1, b2, b3, b4, b5, b6, b7, b8⟩ := hB
  have hO0 := hO
  obtain ⟨o2, o6, o387, oT, o1708, oO, o1741, oF, o1, oq1, oq6, o0, ol1, ol40, oV, oN1, oP1, oF1⟩ := hO
  have hn : mI μ s 1 = nI (nM r) := b1.trans o2
  have hq9 : mI μ (s + 2) 1 = nI (nQ r) := b6.trans o1
  have hV := b7.ok' oV
  rw [in_123]
  simp (disch := first | omega | rfl) only [e_123_0, e_123_1, e_123_2, e_123_5, e_123_8, e_123_9, e_123_10, e_123_11, e_123_12, e_123_15, e_123_18, e_123_20, e_123_21, e_123_22, e_123_25, e_123_26, e_123_27, e_123_30, w0, w1, w2, w3, w4, w5, w6, w7, w8, w9, w10, q1, q2, q3, q4, q5, q6, q7, q8, q9, q10, q11, q12, q13, q14, q15, b1, b2, b3, b4, b5, b6, o2, o387, o1708, o1741, o1, o0, ge1, ule_t, true_or, or_true, nI_add, nI_mul, nI_sub, nI_clamp, nI_lt_t, nI_lt_f, nI_le_t, nI_le_f, nI_eq_t, nI_eq_f, vp_nI, tI, fI, not_true, not_false_iff, true_and, and_true, Classical.not_not, mS_uI, mS_uA, mS_uJ, mS_uR, mS_uX, mR_uI, mR_uA, mR_uJ, mR_uX, mX_uI, mX_uA, mX_uJ, mX_uR, mI_s, mI_n, mI_A, mI_An, mI_uJ, mI_uR, mI_uX, mJ_uI, mJ_uA, mJ_uR, mJ_uX, onR_s, kC_v, kC_n, kC_t, ul0, ula1, ula2, ula3, ula4, ulb2, ulb3, ulb4, ulc2, ulc3, ulc4, ule4, ulf3, ulf4, c_149t hW0 hB9 hO0 hm, c_122 hW0 hB9 hO0 hm, h]
  refine c_148 hI hA (fun μ1 hf hk1 hI1 => ?_)
  obtain ⟨x0, x1, x2, x3, x4, x5, x6, x7, x8, x9, x10, x11, x12, x13, x14, x15⟩ := hI1.1
  obtain ⟨y0, y1, y2, y3, y4, y5, y6, y7, y8, y9, y10, y11, y12, y13, y14, y15⟩ := x12
  obtain ⟨c1, c2, c3, c4, c5, c6, c7, c8⟩ := hI1.2.2.1.1
  obtain ⟨hI2, hfr⟩ := hI1.heal hO0 hA.2.1.1 hA.2.1.2 hA.pp hm g2 g3 g4
  simp (disch := first | omega | rfl) only [e_123_0, e_123_1, e_123_2, e_123_5, e_123_8, e_123_9, e_123_10, e_123_11, e_123_12, e_123_15, e_123_18, e_123_20, e_123_21, e_123_22, e_123_25, e_123_26, e_123_27, e_123_30, ge1, ule_t, true_or, or_true, nI_add, nI_mul, nI_sub, nI_clamp, nI_lt_t, nI_lt_f, nI_le_t, nI_le_f, nI_eq_t, nI_eq_f, vp_nI, tI, fI, not_true, not_false_iff, true_and, and_true, Classical.not_not, kC_n, ul0, ula1, ula2, ula3, ula4, ulb2, ulb3, ulb4, ulc2, ulc3, ulc4, ule4, ulf3, ulf4, x0, c_125 hI1 hO0 hA.2.1.1 hA.2.1.2 hA.pp hm g1, kC_v]
  exact hq _ (FrC.of hf hk1 hfr ⟨x14, x15⟩) hI2
/-- all members healed -/
def haR (r : Nat → Int32) : Nat → (Nat → Int32)
  | 0 => r
  | m + 1 => if fStop (rW (haR r m)) (nM r) (nQ r) m = 0 then rHeal (haR r m) m (dnr (haR r m) m) else haR r m
def haN (r : Nat → Int32) : Nat → Nat
  | 0 => 0
  | m + 1 => if fStop (rW (haR r m)) (nM r) (nQ r) m = 0 then haN r m + 1 else haN r m
theorem haN_0 : ∀ m, haN r m = 0 → haR r m = r
  | 0, _ => rfl
  | m + 1, h => by
    rw [haN] at h
    rw [haR]
    split at h
    · omega
    · rename_i h2
      rw [if_neg h2]
      exact haN_0 m h
theorem ha_ok (h : okR r) (hN : RN3 r) : ∀ m, m ≤ nM r → okR (haR r m) ∧ RN3 (haR r m) ∧ SLe r (haR r m) ∧ nM (haR r m) = nM r ∧ nQ (haR r m) = nQ r ∧ haN r m ≤ m
  | 0, _ => ⟨h, hN, SLe.refl r, rfl, rfl, Nat.le_refl _⟩
  | m + 1, hm => by
    obtain ⟨a1, a2, a3, a4, a5, a6⟩ := ha_ok h hN m (by omega)
    rw [haR, haN]
    by_cases hs : fStop (rW (haR r m)) (nM r) (nQ r) m = 0
    · rw [if_pos hs, if_pos hs]
      have hs2 : fStop (rW (haR r m)) (nM (haR r m)) (nQ (haR r m)) m = 0 := by rw [a4, a5]; exact hs
      obtain ⟨g1, g2, g3, g4⟩ := dnr_ok hs2
      obtain ⟨b1, b2, b3, b4, b5⟩ := ok_heal a1 a2.1 a2.2 (show m < nM (haR r m) by omega) g2 g3 g4
      refine ⟨b1, b2, a3.trans b3, b4.trans a4, ?_, by omega⟩
      have h6 := a1.2.1
      have : rHeal (haR r m) m (dnr (haR r m) m) 1 = haR r m 1 := by
        unfold rHeal
        exact hl_n (by omega) (by omega) (by omega) (by omega) (by omega)
      unfold nQ at a5 ⊢
      rw [this]; exact a5
    · rw [if_neg hs, if_neg hs]
      exact ⟨a1, a2, a3, a4, a5, by omega⟩
theorem uad6 {u1 u2 : Nat} (h1 : u1 ≤ 5) (h2 : u2 ≤ 30) : ule (uad (u1, u2) (1, 6)) (6, 36) = True := eq_true ⟨by show u1 + 1 ≤ 6; omega, by show u2 + 6 ≤ 36; omega⟩
theorem ule6 {u1 u2 : Nat} (h1 : u1 ≤ 6) (h2 : u2 ≤ 36) : ule (u1, u2) (6, 36) = True := eq_true ⟨h1, h2⟩
end Heal2C
section Heal2M
variable {d : Nat} {Q : Po} {μ : Mu} {m n i j k t u N dn w : Nat} {x y z : Int32} {r : Nat → Int32} {l3 l4 l5 : Option Value}
theorem cpR_0 : cpR r m dn w 0 = r := funext fun x => if_neg (by omega)
theorem cpR_t (h : w.testBit k = true) : upd (cpR r m dn w k) (3 + 64 * m + (7 + k)) (r (3 + 64 * dn + (7 + k))) = cpR r m dn w (k + 1) := by
  funext x
  unfold upd cpR
  by_cases hx : x = 3 + 64 * m + (7 + k)
  · rw [if_pos hx, if_pos (by rw [hx, show 3 + 64 * m + (7 + k) - (3 + 64 * m + 7) = k by omega]; exact ⟨by omega, by omega, h⟩), hx, show 3 + 64 * dn + 7 + (3 + 64 * m + (7 + k) - (3 + 64 * m + 7)) = 3 + 64 * dn + (7 + k) by omega]
  · rw [if_neg hx]
    by_cases h2 : 3 + 64 * m + 7 ≤ x ∧ x < 3 + 64 * m + 7 + k ∧ w.testBit (x - (3 + 64 * m + 7)) = true
    · rw [if_pos h2, if_pos ⟨by omega, by omega, h2.2.2⟩]
    · rw [if_neg h2, if_neg (fun z => h2 ⟨z.1, by omega, z.2.2⟩)]
theorem cpR_f (h : ¬ w.testBit k = true) : cpR r m dn w (k + 1) = cpR r m dn w k := by
  funext x
  unfold cpR
  by_cases h2 : 3 + 64 * m + 7 ≤ x ∧ x < 3 + 64 * m + 7 + k ∧ w.testBit (x - (3 + 64 * m + 7)) = true
  · rw [if_pos h2, if_pos ⟨by omega, by omega, h2.2.2⟩]
  · rw [if_neg h2, if_neg (fun z => by
      by_cases hx : x = 3 + 64 * m + (7 + k)
      · rw [hx, show 3 + 64 * m + (7 + k) - (3 + 64 * m + 7) = k by omega] at z
        exact h z.2.2
      · exact h2 ⟨z.1, by omega, z.2.2⟩)]
theorem mDown_fr {a b : Nat} : Fr (fun a => a = 1298 ∨ a = 1305 ∨ a = 1306 ∨ a = 1307) μ (mDown μ a b) := by
  unfold mDown mBoth mTree
  exact (((((((Fr.refl.iu (Or.inl rfl)).iu (Or.inl rfl)).au (Or.inr (Or.inl rfl))).au (Or.inr (Or.inr (Or.inl rfl)))).au (Or.inr (Or.inl rfl))).au (Or.inr (Or.inr (Or.inr rfl)))).iu (Or.inl rfl)).iu (Or.inl rfl)
theorem mDown_k {a b : Nat} (h1 : k ≠ 12) (h2 : k ≠ 13) : mI (mDown μ a b) 1298 k = mI μ 1298 k := by
  unfold mDown mBoth mTree
  simp (disch := omega) only [mI_n, mI_An]
/-- the heap when a member has been healed -/
def mHeal (μ : Mu) (m dn : Nat) : Mu := uA (mDown μ m dn) 1302 (rHeal (mI μ 1302) m dn)
theorem mHeal_fin {μ1 : Mu} : Fr PM μ1 (mHeal μ1 m dn) ∧ (∀ k, k ≠ 0 → k ≠ 12 → k ≠ 13 → mI (mHeal μ1 m dn) 1298 k = mI μ1 1298 k) ∧ ∀ x, mI (mHeal μ1 m dn) 1304 x = mI μ1 1304 x := by
  unfold mHeal
  refine ⟨(mDown_fr.mono (fun a ha => by unfold PM; omega)).au (by unfold PM; omega), fun k _ h2 h3 => ?_, fun x => ?_⟩
  · rw [mI_An (by omega)]; exact mDown_k h2 h3
  · rw [mI_An (by omega)]; exact mDown_fr.2.2.2 1304 (by omega) x
end Heal2M


