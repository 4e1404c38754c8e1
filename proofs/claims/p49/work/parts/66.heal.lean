/-! healing -/
section HlRow
variable {r : Nat → Int32} {m dn w t m' k c x : Nat}
theorem cpR_n (h : x < 3 + 64 * m + 7 ∨ 3 + 64 * m + 7 + k ≤ x) : cpR r m dn w k x = r x := if_neg (by omega)
theorem cpR_c (hc : c < k) : cpR r m dn w k (3 + 64 * m + 7 + c) = if w.testBit c = true then r (3 + 64 * dn + 7 + c) else r (3 + 64 * m + 7 + c) := by
  unfold cpR
  rw [show 3 + 64 * m + 7 + c - (3 + 64 * m + 7) = c by omega]
  by_cases hb : w.testBit c = true
  · rw [if_pos hb, if_pos ⟨by omega, by omega, hb⟩]
  · rw [if_neg hb, if_neg (fun z => hb z.2.2)]
theorem hl_n (h1 : x ≠ 3 + 64 * dn + 3) (h2 : x ≠ 3 + 64 * m + 4) (h3 : x ≠ 3 + 64 * m + 5) (h4 : x ≠ 3 + 64 * m + (23 + t)) (h5 : x < 3 + 64 * m + 7 ∨ 3 + 64 * m + 23 ≤ x) : rHl r m dn w t x = r x := by
  unfold rHl
  rw [upd_n h4, upd_n h3, upd_n h2, upd_n h1, cpR_n (by omega)]
theorem hl_t : rHl r m dn w t (3 + 64 * m + (23 + t)) = r (3 + 64 * dn + (23 + t)) := upd_s
theorem hl_5 : rHl r m dn w t (3 + 64 * m + 5) = r (3 + 64 * m + 5) + nI 1 := by
  unfold rHl
  rw [upd_n (by omega), upd_s]
theorem hl_4 : rHl r m dn w t (3 + 64 * m + 4) = r (3 + 64 * m + 4) + nI (pcN w) := by
  unfold rHl
  rw [upd_n (by omega), upd_n (by omega), upd_s]
theorem hl_3 (h : dn ≠ m) (ht : t ≤ 40) : rHl r m dn w t (3 + 64 * dn + 3) = r (3 + 64 * dn + 3) + nI (pcN w) := by
  unfold rHl
  rw [upd_n (by omega), upd_n (by omega), upd_n (by omega), upd_s]
theorem hl_c (h : dn ≠ m) (hc : c < 16) : rHl r m dn w t (3 + 64 * m + 7 + c) = if w.testBit c = true then r (3 + 64 * dn + 7 + c) else r (3 + 64 * m + 7 + c) := by
  unfold rHl
  rw [upd_n (by omega), upd_n (by omega), upd_n (by omega), upd_n (by omega), cpR_c hc]
theorem hl_V (h : dn ≠ m) (hk : k < 64) (k3 : m' ≠ dn ∨ k ≠ 3) (km : m' ≠ m ∨ (k ≠ 4 ∧ k ≠ 5 ∧ k ≠ 23 + t ∧ (k < 7 ∨ 23 ≤ k))) (ht : t ≤ 40) : rW (rHl r m dn w t) m' k = rW r m' k := hl_n (by omega) (by omega) (by omega) (by omega) (by omega)
theorem ok_hl (h : okR r) (hN : RN2 r) (hm : m < nM r) (hd : dn < nM r) (hne : dn ≠ m) (ht : t ≤ 40) : okR (rHl r m dn w t) ∧ RN2 (rHl r m dn w t) ∧ nM (rHl r m dn w t) = nM r ∧ nT (rHl r m dn w t) = nT r ∧ nO (rHl r m dn w t) = nO r ∧ nF (rHl r m dn w t) = nF r := by
  have hO := h
  obtain ⟨o2, o6, o387, oT, o1708, oO, o1741, oF, o1, oq1, oq6, o0, ol1, ol40, oV, oN1, oP1, oF1⟩ := h
  have lo : ∀ x, x < 3 ∨ 387 ≤ x → rHl r m dn w t x = r x := fun x hx => hl_n (by omega) (by omega) (by omega) (by omega) (by omega)
  have c2 : nM (rHl r m dn w t) = nM r := by unfold nM; rw [lo _ (by omega)]
  have c3 : nT (rHl r m dn w t) = nT r := by unfold nT; rw [lo _ (by omega)]
  have c4 : nO (rHl r m dn w t) = nO r := by unfold nO; rw [lo _ (by omega)]
  have c5 : nF (rHl r m dn w t) = nF r := by unfold nF; rw [lo _ (by omega)]
  have c6 : nQ (rHl r m dn w t) = nQ r := by unfold nQ; rw [lo _ (by omega)]
  have c7 : nL (rHl r m dn w t) = nL r := by unfold nL; rw [lo _ (by omega)]
  refine ⟨⟨by rw [c2, lo _ (by omega)]; exact o2, by omega, by rw [c3, lo _ (by omega)]; exact o387, by omega, by rw [c4, lo _ (by omega)]; exact o1708, by omega, by rw [c5, lo _ (by omega)]; exact o1741, by omega, by rw [c6, lo _ (by omega)]; exact o1, by omega, by omega, by rw [c7, lo _ (by omega)]; exact o0, by omega, by omega, ?_, ?_, okP_eq oP1 oT oO c3 c4 (fun x h1 h2 => lo _ (by omega)), ?_⟩, ⟨fun x hx => by rw [lo _ (by omega)]; exact hN.1 x hx, okW_eq hN.2 oP1 oT oO c3 c4 (fun x h1 h2 => lo _ (by omega))⟩, c2, c3, c4, c5⟩
  · intro m' hm'
    rw [c2] at hm'
    rw [hl_V (k := 2) hne (by omega) (by omega) (by omega) ht, hl_V (k := 6) hne (by omega) (by omega) (by omega) ht, hl_V (k := 1) hne (by omega) (by omega) (by omega) ht]
    exact oV m' hm'
  · intro m' hm'
    rw [c2] at hm'
    obtain ⟨g1, g2, g3⟩ := oN1 m' hm'
    rw [c3, hl_V (k := 1) hne (by omega) (by omega) (by omega) ht, hl_V (k := 0) hne (by omega) (by omega) (by omega) ht]
    refine ⟨g1, g2, fun c hc => ?_⟩
    by_cases hmm : m' = m
    · subst hmm
      show ∃ v, v < 10000 ∧ rHl r m' dn w t (3 + 64 * m' + (7 + c)) = nI v
      rw [← Nat.add_assoc, hl_c hne hc]
      split
      · have := (oN1 dn hd).2.2 c hc
        unfold rW at this
        rw [← Nat.add_assoc] at this
        exact this
      · have := g3 c hc
        unfold rW at this
        rw [← Nat.add_assoc] at this
        exact this
    · rw [hl_V hne (by omega) (by omega) (by omega) ht]
      exact g3 c hc
  · intro k hk
    rw [c5] at hk
    rw [lo _ (by omega), lo _ (by omega), lo _ (by omega), lo _ (by omega)]
    exact oF1 k hk
theorem ok_heal (h : okR r) (hN : RN2 r) (hK : okK r) (hm : m < nM r) (hd : dn < nM r) (hne : dn ≠ m) (ht : rW r dn 1 = rW r m 1) : okR (rHeal r m dn) ∧ RN3 (rHeal r m dn) ∧ SLe r (rHeal r m dn) ∧ nM (rHeal r m dn) = nM r ∧ nF (rHeal r m dn) = nF r := by
  have vE := okBE h.2.2.2.2.2.2.2.2.2.2.2.2.2.2.1 hm
  have hE : nE (rW r) dn = nE (rW r) m := by unfold nE; rw [ht]
  obtain ⟨a1, a2, a3, a4, a5, a6⟩ := ok_hl (w := fWr (rW r) m dn) (t := nE (rW r) m) h hN hm hd hne vE.2.2.2
  refine ⟨a1, ⟨a2, fun m' hm' => ?_⟩, Or.inr ⟨a4.symm, by unfold rHeal; omega⟩, a3, a6⟩
  have hm'2 : m' < nM r := by rw [← a3]; exact hm'
  have vE' := okBE h.2.2.2.2.2.2.2.2.2.2.2.2.2.2.1 hm'2
  have e1 : nE (rW (rHeal r m dn)) m' = nE (rW r) m' := by
    unfold nE rHeal
    rw [hl_V (k := 1) hne (by omega) (by omega) (by omega) vE.2.2.2]
  rw [e1]
  by_cases hmm : m' = m
  · subst hmm
    have e2 : rW (rHeal r m' dn) m' (23 + nE (rW r) m') = rW r dn (23 + nE (rW r) dn) := by rw [hE]; exact hl_t
    rw [e2, hK dn hd]
    symm
    refine heal_root (f := vC r m') (fun k => !decide (fCk (rW r) m' k = fCk (rW r) dn k)) (fun k _ _ => rfl) (fun c hc => ?_)
    show rHeal r m' dn (3 + 64 * m' + (7 + c)) = _
    rw [← Nat.add_assoc]
    unfold rHeal
    rw [hl_c hne hc]
    unfold fWr vC rW
    rw [← Nat.add_assoc, ← Nat.add_assoc]
  · unfold rHeal
    rw [hl_V hne (by omega) (by omega) (by omega) vE.2.2.2, hK m' hm'2]
    exact fTree_eq (fun c hc => (hl_V hne (by omega) (by omega) (by omega) vE.2.2.2).symm) (by omega) (by omega)
end HlRow
section HlC
variable {d : Nat} {Q : Po} {μ : Mu} {s c m n q i j k t z u σ o N dn w : Nat} {x y g v : Int32} {r tn : Nat → Int32} {pr : Nat → Nat → Int32} {l4 l5 : Option Value}
def cpW (src old : Nat → Int32) (w k : Nat) : Nat → Int32 := fun c => if c < k ∧ w.testBit c = true then src c else old c
theorem cpW_0 {src old : Nat → Int32} : cpW src old w 0 = old := funext fun c => if_neg (by omega)
theorem cpW_t {src old : Nat → Int32} (h : w.testBit k = true) : upd (cpW src old w k) k (src k) = cpW src old w (k + 1) := by
  funext c
  unfold upd cpW
  by_cases hc : c = k
  · subst hc; rw [if_pos rfl, if_pos ⟨by omega, h⟩]
  · rw [if_neg hc]
    by_cases h2 : c < k ∧ w.testBit c = true
    · rw [if_pos h2, if_pos ⟨by omega, h2.2⟩]
    · rw [if_neg h2, if_neg (fun z => h2 ⟨by omega, z.2⟩)]
theorem cpW_f {src old : Nat → Int32} (h : ¬ w.testBit k = true) : cpW src old w (k + 1) = cpW src old w k := by
  funext c
  unfold cpW
  by_cases h2 : c < k ∧ w.testBit c = true
  · rw [if_pos h2, if_pos ⟨by omega, h2.2⟩]
  · rw [if_neg h2, if_neg (fun z => by
      by_cases hc : c = k
      · subst hc; exact h z.2
      · exact h2 ⟨by omega, z.2⟩)]
def cHl (μ : Mu) (s m dn w t : Nat) : Mu := uI (uI (uI (uA μ (s + 6 + 3 * m) (cpW (mI μ (s + 6 + 3 * dn)) (mI μ (s + 6 + 3 * m)) w 16)) (s + 5 + 3 * dn) 5 (mI μ (s + 5 + 3 * dn) 5 + nI (pcN w))) (s + 5 + 3 * m) 6 (mI μ (s + 5 + 3 * m) 6 + nI (pcN w))) (s + 7 + 3 * m) t (mI μ (s + 7 + 3 * dn) t)
theorem s_126 (hS : StS μ s) (hm : m < 6) (hd : dn < 6) (hne : dn ≠ m) (hw : w < 65536) (ht : mI μ (s + 5 + 3 * m) 3 = nI t) (h40 : t ≤ 40) : Ev (d + 2) 126 [.ref (s + 5 + 3 * dn), .ref (s + 5 + 3 * m), .int (nI w)] μ Q = Q (some (some (.int (nI (pcN w))))) (cHl μ s m dn w t) := by
  obtain ⟨q0, q1, q2, q3, q4, q5, q6, q7, q8, q9, q10, q11, q12, q13, q14, q15⟩ := hS
  have key : ∀ f k, k + f = 16 → EM 126 (d + 1) 2 [some (.ref (s + 5 + 3 * dn)), some (.ref (s + 5 + 3 * m)), some (.int (nI w)), some (.int (nI k))] [] (uA μ (s + 6 + 3 * m) (cpW (mI μ (s + 6 + 3 * dn)) (mI μ (s + 6 + 3 * m)) w k)) (0, 0) Q = Q (some (some (.int (nI (pcN w))))) (cHl μ s m dn w t) := by
    intro f
    induction f with
    | zero =>
      intro k hk
      obtain rfl : k = 16 := by omega
      rw [e_126_2]
      simp (disch := first | omega | rfl) only [e_126_0, e_126_1, e_126_3, e_126_5, e_126_8, e_126_9, e_126_10, e_126_13, e_126_16, e_126_17, e_126_20, e_126_21, e_126_22, e_126_25, e_126_26, e_126_27, e_126_28, e_126_31, e_126_34, e_126_35, e_126_38, e_126_39, e_126_40, e_126_41, e_126_44, e_126_45, e_126_46, e_126_49, e_126_50, e_126_51, e_126_54, e_126_55, e_126_56, e_126_59, e_126_60, e_126_63, e_126_64, e_126_67, e_126_68, e_126_71, e_126_72, e_126_75, e_126_76, e_126_77, e_126_78, q1, q2, q3, q4, q5, q6, q7, q8, q9, q10, q11, q12, q13, q14, q15, ge1, ule_t, true_or, or_true, nI_add, nI_mul, nI_sub, nI_clamp, nI_lt_t, nI_lt_f, nI_le_t, nI_le_f, nI_eq_t, nI_eq_f, vp_nI, tI, fI, not_true, not_false_iff, true_and, and_true, Classical.not_not, mS_uI, mS_uA, mS_uJ, mS_uR, mS_uX, mR_uI, mR_uA, mR_uJ, mR_uX, mX_uI, mX_uA, mX_uJ, mX_uR, mI_s, mI_n, mI_A, mI_An, mI_uJ, mI_uR, mI_uX, mJ_uI, mJ_uA, mJ_uR, mJ_uX, onR_s, kC_v, kC_n, kC_t, s_17 hw, ht]
      rfl
    | succ f ih =>
      intro k hk
      rw [e_126_2]
      have h156 := fun (d : Nat) (Q : Po) (μ2 : Mu) => s_156 (d := d) (Q := Q) (x := nI w) (μ := μ2) (show k < 32 by omega)
      simp only [bS_nI (w := w) (show k < 32 by omega)] at h156
      have hi := ih (k + 1) (by omega)
      by_cases hb : w.testBit k = true
      · simp only [bI_ti hb] at h156
        rw [← cpW_t hb] at hi
        simp (disch := first | omega | rfl) only [e_126_0, e_126_1, e_126_3, e_126_5, e_126_8, e_126_9, e_126_10, e_126_13, e_126_16, e_126_17, e_126_20, e_126_21, e_126_22, e_126_25, e_126_26, e_126_27, e_126_28, e_126_31, e_126_34, e_126_35, e_126_38, e_126_39, e_126_40, e_126_41, e_126_44, e_126_45, e_126_46, e_126_49, e_126_50, e_126_51, e_126_54, e_126_55, e_126_56, e_126_59, e_126_60, e_126_63, e_126_64, e_126_67, e_126_68, e_126_71, e_126_72, e_126_75, e_126_76, e_126_77, e_126_78, q1, q2, q3, q4, q5, q6, q7, q8, q9, q10, q11, q12, q13, q14, q15, ge1, ule_t, true_or, or_true, nI_add, nI_mul, nI_sub, nI_clamp, nI_lt_t, nI_lt_f, nI_le_t, nI_le_f, nI_eq_t, nI_eq_f, vp_nI, tI, fI, not_true, not_false_iff, true_and, and_true, Classical.not_not, mS_uI, mS_uA, mS_uJ, mS_uR, mS_uX, mR_uI, mR_uA, mR_uJ, mR_uX, mX_uI, mX_uA, mX_uJ, mX_uR, mI_s, mI_n, mI_A, mI_An, mI_uJ, mI_uR, mI_uX, mJ_uI, mJ_uA, mJ_uR, mJ_uX, onR_s, kC_v, kC_n, kC_t, h156, uIA, mI_Anf]
        exact hi
      · simp only [bI_fi hb] at h156
        rw [cpW_f hb] at hi
        simp (disch := first | omega | rfl) only [e_126_0, e_126_1, e_126_3, e_126_5, e_126_8, e_126_9, e_126_10, e_126_13, e_126_16, e_126_17, e_126_20, e_126_21, e_126_22, e_126_25, e_126_26, e_126_27, e_126_28, e_126_31, e_126_34, e_126_35, e_126_38, e_126_39, e_126_40, e_126_41, e_126_44, e_126_45, e_126_46, e_126_49, e_126_50, e_126_51, e_126_54, e_126_55, e_126_56, e_126_59, e_126_60, e_126_63, e_126_64, e_126_67, e_126_68, e_126_71, e_126_72, e_126_75, e_126_76, e_126_77, e_126_78, q1, q2, q3, q4, q5, q6, q7, q8, q9, q10, q11, q12, q13, q14, q15, ge1, ule_t, true_or, or_true, nI_add, nI_mul, nI_sub, nI_clamp, nI_lt_t, nI_lt_f, nI_le_t, nI_le_f, nI_eq_t, nI_eq_f, vp_nI, tI, fI, not_true, not_false_iff, true_and, and_true, Classical.not_not, mS_uI, mS_uA, mS_uJ, mS_uR, mS_uX, mR_uI, mR_uA, mR_uJ, mR_uX, mX_uI, mX_uA, mX_uJ, mX_uR, mI_s, mI_n, mI_A, mI_An, mI_uJ, mI_uR, mI_uX, mJ_uI, mJ_uA, mJ_uR, mJ_uX, onR_s, kC_v, kC_n, kC_t, h156]
        exact hi
  rw [in_126]
  simp (disch := first | omega | rfl) only [e_126_0, e_126_1, e_126_3, e_126_5, e_126_8, e_126_9, e_126_10, e_126_13, e_126_16, e_126_17, e_126_20, e_126_21, e_126_22, e_126_25, e_126_26, e_126_27, e_126_28, e_126_31, e_126_34, e_126_35, e_126_38, e_126_39, e_126_40, e_126_41, e_126_44, e_126_45, e_126_46, e_126_49, e_126_50, e_126_51, e_126_54, e_126_55, e_126_56, e_126_59, e_126_60, e_126_63, e_126_64, e_126_67, e_126_68, e_126_71, e_126_72, e_126_75, e_126_76, e_126_77, e_126_78, ge1, ule_t, true_or, or_true, nI_add, nI_mul, nI_sub, nI_clamp, nI_lt_t, nI_lt_f, nI_le_t, nI_le_f, nI_eq_t, nI_eq_f, vp_nI, tI, fI, not_true, not_false_iff, true_and, and_true, Classical.not_not]
  have := key 16 0 (by omega)
  rw [cpW_0, uA_self] at this
  exact this
theorem cHl_fr (hm : m < 6) (hd : dn < 6) : Fr (fun a => (s ≤ a ∧ a ≤ s + 22) ∨ (c ≤ a ∧ a ≤ c + 4) ∨ (1062 ≤ a ∧ a ≤ 1067)) μ (cHl μ s m dn w t) := by
  unfold cHl
  exact (((Fr.refl.au (Or.inl (by omega))).iu (Or.inl (by omega))).iu (Or.inl (by omega))).iu (Or.inl (by omega))
theorem dD_fr {a b : Nat} : Fr (fun a => (s ≤ a ∧ a ≤ s + 22) ∨ (c ≤ a ∧ a ≤ c + 4) ∨ (1062 ≤ a ∧ a ≤ 1067)) μ (dDown μ a b) := by
  unfold dDown
  exact (((Fr.refl.au (Or.inr (Or.inr (by omega)))).au (Or.inr (Or.inr (by omega)))).iu (Or.inr (Or.inr (by omega)))).iu (Or.inr (Or.inr (by omega)))
def cHeal (μ : Mu) (s m dn w t : Nat) : Mu := cHl (uI (dDown μ (s + 6 + 3 * dn) (s + 6 + 3 * m)) (s + 5 + 3 * m) 7 (mI μ (s + 5 + 3 * m) 7 + nI 1)) s m dn w t
theorem dD_n {a b x : Nat} (h : x ≠ 1062 ∧ x ≠ 1064 ∧ x ≠ 1066) : mI (dDown μ a b) x k = mI μ x k := by
  unfold dDown
  rw [mI_n (by omega), mI_n (by omega), mI_An (by omega), mI_An (by omega)]
theorem dD_nf {a b x : Nat} (h : x ≠ 1062 ∧ x ≠ 1064 ∧ x ≠ 1066) : mI (dDown μ a b) x = mI μ x := funext fun k => dD_n h
theorem rel_heal (hsh : (s = 1001 ∨ s = 1032) ∧ (c = 1024 ∨ c = 1055)) (hN : RelN μ s r tn) (hC : RelC μ c r) (hO : okR r) (hR : RN2 r) (hK : okK r) (hm : m < nM r) (hd : dn < nM r) (hne : dn ≠ m) (ht : rW r dn 1 = rW r m 1) : RelN (cHeal μ s m dn (fWr (rW r) m dn) (nE (rW r) m)) s (rHeal r m dn) tn ∧ RelC (cHeal μ s m dn (fWr (rW r) m dn) (nE (rW r) m)) c (rHeal r m dn) := by
  have hO0 := hO
  obtain ⟨z1, z2, z3, n2, n5⟩ := ok_heal hO hR hK hm hd hne ht
  obtain ⟨o2, o6, o387, oT, o1708, oO, o1741, oF, o1, oq1, oq6, o0, ol1, ol40, oV, oN1, oP1, oF1⟩ := hO
  obtain ⟨⟨b1, b2, b3, b4, b5, b6, b7, b8⟩, b9⟩ := hN
  obtain ⟨hs, hc⟩ := hsh
  have vE := okBE oV hm
  have hE : nE (rW r) dn = nE (rW r) m := by unfold nE; rw [ht]
  have hBE : nB (rW r) dn ≤ nE (rW r) m := by rw [← hE]; exact (okBE oV hd).2.2.1
  generalize hw : fWr (rW r) m dn = w
  have hr9 : rHeal r m dn = rHl r m dn w (nE (rW r) m) := by unfold rHeal; rw [hw]
  have lo : ∀ x, x < 3 ∨ 387 ≤ x → rHeal r m dn x = r x := fun x hx => by rw [hr9]; exact hl_n (by omega) (by omega) (by omega) (by omega) (by omega)
  have hcg : ∀ a k, (∀ m', m' < 6 → a ≠ s + 5 + 3 * m' ∧ a ≠ s + 6 + 3 * m' ∧ a ≠ s + 7 + 3 * m') → a ≠ 1062 → a ≠ 1064 → a ≠ 1066 → mI (cHeal μ s m dn w (nE (rW r) m)) a k = mI μ a k := fun a k h1 h2 h3 h4 => by
    have q1 := h1 m (by omega)
    have q2 := h1 dn (by omega)
    unfold cHeal cHl
    rw [mI_n (by omega), mI_n (by omega), mI_n (by omega), mI_An (by omega), mI_n (by omega), dD_n ⟨h2, h3, h4⟩]
  have hcv : ∀ m', m' < 6 → ∀ k, k < 64 → (m' ≠ dn ∨ k ≠ 3) → (m' ≠ m ∨ (k ≠ 4 ∧ k ≠ 5 ∧ k ≠ 23 + nE (rW r) m ∧ (k < 7 ∨ 23 ≤ k))) → cV (cHeal μ s m dn w (nE (rW r) m)) s m' k = cV μ s m' k := fun m' hm' k hk h3 h4 => by
    unfold cV cHeal cHl
    by_cases h7 : k < 7
    · rcases (by omega : k = 0 ∨ k = 1 ∨ k = 2 ∨ k = 3 ∨ k = 4 ∨ k = 5 ∨ k = 6) with rfl | rfl | rfl | rfl | rfl | rfl | rfl
      all_goals (simp only [Nat.reduceEqDiff, if_true, if_false, Nat.one_ne_zero])
      all_goals (rw [mI_n (by omega), mI_n (by omega), mI_n (by omega), mI_An (by omega), mI_n (by omega), dD_n (by omega)])
    · have z0 : ¬ k = 0 := by omega
      have z1 : ¬ k = 1 := by omega
      have z2 : ¬ k = 2 := by omega
      have z3 : ¬ k = 3 := by omega
      have z4 : ¬ k = 4 := by omega
      have z5 : ¬ k = 5 := by omega
      have z6 : ¬ k = 6 := by omega
      by_cases h23 : k < 23
      · simp only [z0, z1, z2, z3, z4, z5, z6, h23, if_true, if_false]
        rw [mI_n (by omega), mI_n (by omega), mI_n (by omega), mI_An (by omega), mI_n (by omega), dD_n (by omega)]
      · simp only [z0, z1, z2, z3, z4, z5, z6, h23, if_true, if_false]
        rw [mI_n (by omega), mI_n (by omega), mI_n (by omega), mI_An (by omega), mI_n (by omega), dD_n (by omega)]
  have hrec : mI μ (s + 7 + 3 * dn) (nE (rW r) m) = rW r dn (23 + nE (rW r) m) := by
    have h1 : vHas (cV μ s) dn (nI (nE (rW r) m)) := by
      unfold vHas
      rw [(b7 dn hd).1 6 (by omega), (b7 dn hd).1 1 (by omega), ht, vE.2.1, (okBE oV hd).1]
      exact ⟨nI_le hBE (by omega), Int32.le_refl _⟩
    have := (b7 dn hd).2 _ h1
    unfold vRec at this
    rw [nI_clamp (by omega)] at this
    rw [cvr]
    exact this
  refine ⟨⟨⟨?_, ?_, ?_, ?_, ?_, ?_, ?_, ?_⟩, ?_⟩, ?_⟩
  · rw [lo _ (by omega), hcg _ _ (fun m' h => by omega) (by omega) (by omega) (by omega)]; exact b1
  · rw [lo _ (by omega), hcg _ _ (fun m' h => by omega) (by omega) (by omega) (by omega)]; exact b2
  · rw [lo _ (by omega), hcg _ _ (fun m' h => by omega) (by omega) (by omega) (by omega)]; exact b3
  · rw [lo _ (by omega), hcg _ _ (fun m' h => by omega) (by omega) (by omega) (by omega)]; exact b4
  · rw [lo _ (by omega), hcg _ _ (fun m' h => by omega) (by omega) (by omega) (by omega)]; exact b5
  · rw [lo _ (by omega), hcg _ _ (fun m' h => by omega) (by omega) (by omega) (by omega)]; exact b6
  · intro m' hm'
    rw [n2] at hm'
    obtain ⟨v1, v2⟩ := b7 m' hm'
    obtain ⟨w1, w2, w3, w4⟩ := (b7.ok' oV) m' hm'
    refine ⟨fun k hk => ?_, fun tt htt => ?_⟩
    · by_cases g1 : m' = dn ∧ k = 3
      · obtain ⟨rfl, rfl⟩ := g1
        have e1 : rW (rHeal r m m') m' 3 = rW r m' 3 + nI (pcN w) := by rw [hr9]; exact hl_3 hne vE.2.2.2
        rw [e1, ← v1 3 (by omega)]
        show mI (cHeal μ s m m' w (nE (rW r) m)) (s + 5 + 3 * m') 5 = mI μ (s + 5 + 3 * m') 5 + nI (pcN w)
        unfold cHeal cHl
        rw [mI_n (by omega), mI_n (by omega), mI_s, mI_n (by omega), dD_n (by omega)]
      · by_cases g2 : m' = m ∧ k = 4
        · obtain ⟨rfl, rfl⟩ := g2
          have e1 : rW (rHeal r m' dn) m' 4 = rW r m' 4 + nI (pcN w) := by rw [hr9]; exact hl_4
          rw [e1, ← v1 4 (by omega)]
          show mI (cHeal μ s m' dn w (nE (rW r) m')) (s + 5 + 3 * m') 6 = mI μ (s + 5 + 3 * m') 6 + nI (pcN w)
          unfold cHeal cHl
          rw [mI_n (by omega), mI_s, mI_n (by omega), dD_n (by omega)]
        · by_cases g3 : m' = m ∧ k = 5
          · obtain ⟨rfl, rfl⟩ := g3
            have e1 : rW (rHeal r m' dn) m' 5 = rW r m' 5 + nI 1 := by rw [hr9]; exact hl_5
            rw [e1, ← v1 5 (by omega)]
            show mI (cHeal μ s m' dn w (nE (rW r) m')) (s + 5 + 3 * m') 7 = mI μ (s + 5 + 3 * m') 7 + nI 1
            unfold cHeal cHl
            rw [mI_n (by omega), mI_n (by omega), mI_n (by omega), mI_An (by omega), mI_s]
          · by_cases g4 : m' = m ∧ 7 ≤ k
            · obtain ⟨rfl, g4⟩ := g4
              obtain ⟨i, rfl⟩ : ∃ i, k = 7 + i := ⟨k - 7, by omega⟩
              have e1 : rW (rHeal r m' dn) m' (7 + i) = if w.testBit i = true then rW r dn (7 + i) else rW r m' (7 + i) := by
                show rHeal r m' dn (3 + 64 * m' + (7 + i)) = _
                rw [hr9, ← Nat.add_assoc, hl_c hne (by omega)]
                unfold rW
                rw [← Nat.add_assoc, ← Nat.add_assoc]
              have f1 : mI μ (s + 6 + 3 * dn) i = rW r dn (7 + i) := by rw [cvc (by omega)]; exact (b7 dn hd).1 _ (by omega)
              have f2 : mI μ (s + 6 + 3 * m') i = rW r m' (7 + i) := by rw [cvc (by omega)]; exact v1 _ (by omega)
              rw [e1, ← cvc (by omega)]
              unfold cHeal cHl
              rw [mI_n (by omega), mI_n (by omega), mI_n (by omega), mI_A]
              unfold cpW
              rw [mI_n (by omega), mI_n (by omega), dD_n (by omega), dD_n (by omega), f1, f2]
              by_cases hb : w.testBit i = true
              · rw [if_pos hb, if_pos ⟨by omega, hb⟩]
              · rw [if_neg hb, if_neg (fun z => hb z.2)]
            · rw [hcv m' (by omega) k (by omega) (by omega) (by omega), hr9, hl_V hne (by omega) (by omega) (by omega) vE.2.2.2]
              exact v1 k hk
    · unfold vHas at htt
      rw [hcv m' (by omega) _ (by omega) (by omega) (by omega), hcv m' (by omega) _ (by omega) (by omega) (by omega)] at htt
      obtain ⟨j, hj, rfl⟩ := t40 (Int32.le_trans w2 htt.1) (Int32.le_trans htt.2 w4)
      unfold vRec
      rw [nI_clamp (by omega)]
      by_cases g1 : m' = m ∧ j = nE (rW r) m
      · obtain ⟨rfl, rfl⟩ := g1
        have e1 : rW (rHeal r m' dn) m' (23 + nE (rW r) m') = rW r dn (23 + nE (rW r) m') := by rw [hr9]; exact hl_t
        rw [e1, ← cvr]
        unfold cHeal cHl
        rw [mI_s, mI_n (by omega), dD_n (by omega)]
        exact hrec
      · have := v2 (nI j) htt
        unfold vRec at this
        rw [nI_clamp (by omega)] at this
        rw [hcv m' (by omega) _ (by omega) (by omega) (by omega), hr9, hl_V hne (by omega) (by omega) (by omega) vE.2.2.2]
        exact this
  · intro k hk
    rw [n5] at hk
    rw [lo _ (by omega), hcg _ _ (fun m' h => by omega) (by omega) (by omega) (by omega)]
    exact b8 k hk
  · intro m' hm'
    rw [n2] at hm'
    have : mI (cHeal μ s m dn w (nE (rW r) m)) (s + 5 + 3 * m') 0 = mI μ (s + 5 + 3 * m') 0 := by
      unfold cHeal cHl
      rw [mI_n (by omega), mI_n (by omega), mI_n (by omega), mI_An (by omega), mI_n (by omega), dD_n (by omega)]
    rw [this]
    exact b9 m' hm'
  · refine (hC.mu (fun a h1 h2 k => ?_)).eq hO0 (fun x h1 h2 => lo x (by omega))
    exact hcg _ _ (fun m' h => by omega) (by omega) (by omega) (by omega)
theorem CI.heal (hI : CI μ s c r u pr tn) (hO : okR r) (hR : RN2 r) (hK : okK r) (hP : ∀ j, j < u → okR (pr j) ∧ SLe (pr j) r) (hm : m < nM r) (hd : dn < nM r) (hne : dn ≠ m) (ht : rW r dn 1 = rW r m 1) : CI (cHeal μ s m dn (fWr (rW r) m dn) (nE (rW r) m)) s c (rHeal r m dn) u pr tn ∧ FrX s c μ (cHeal μ s m dn (fWr (rW r) m dn) (nE (rW r) m)) := by
  obtain ⟨-, -, -, -, -, -, -, -, -, -, -, -, -, -, w14, w15⟩ := hI.1
  have hrel := rel_heal ⟨w14, w15⟩ hI.2.2.1 hI.2.2.2.1 hO hR hK hm hd hne ht
  have h6 := hO.2.1
  have hfr : FrX s c μ (cHeal μ s m dn (fWr (rW r) m dn) (nE (rW r) m)) := (dD_fr.iu (Or.inl (by omega))).trans (cHl_fr (by omega) (by omega))
  have hn : ∀ a k, c ≤ a → a ≤ c + 4 → mI (cHeal μ s m dn (fWr (rW r) m dn) (nE (rW r) m)) a k = mI μ a k := fun a k h1 h2 => by
    unfold cHeal cHl
    rw [mI_n (by omega), mI_n (by omega), mI_n (by omega), mI_An (by omega), mI_n (by omega), dD_n (by omega)]
  exact ⟨hI.step hP hfr (fun k => hn _ _ (by omega) (by omega)) (fun k hk => hn _ _ (by omega) (by omega)) (fun k hk => hn _ _ (by omega) (by omega)) (fun k hk => hn _ _ (by omega) (by omega)) (fun j hj => (hP j hj).1.2.2.2.2.2.1) hrel.1 hrel.2, hfr⟩
theorem c_125 (hI : CI μ s c r u pr tn) (hO : okR r) (hR : RN2 r) (hK : okK r) (hP : ∀ j, j < u → okR (pr j) ∧ SLe (pr j) r) (hm : m < nM r) (hg : fGiv (rW r) (nM r) (nQ r) (rW r m 1) (nI m) = some dn) : Ev (d + 6) 125 [.ref 1000, .int (nI m)] μ Q = Q (some (some (.int (nI (pcN (fWr (rW r) m dn)))))) (cHeal μ s m dn (fWr (rW r) m dn) (nE (rW r) m)) := by
  obtain ⟨hW, hRS, hNN, hC, hE, hRing⟩ := hI
  have hB := hNN.1
  obtain ⟨g1, g2, g3, g4⟩ := fGiv_some hg
  have hne : dn ≠ m := fun z => g2 (by rw [z])
  have hW0 := hW
  obtain ⟨w0, w1, w2, w3, w4, w5, w6, w7, w8, w9, w10, w11, w12, w13, w14, w15⟩ := hW
  have hS0 := w12
  obtain ⟨q0, q1, q2, q3, q4, q5, q6, q7, q8, q9, q10, q11, q12, q13, q14, q15⟩ := w12
  have hB9 := hB
  obtain ⟨b1, b2, b3, b4, b5, b6, b7, b8⟩ := hB
  have hO0 := hO
  obtain ⟨o2, o6, o387, oT, o1708, oO, o1741, oF, o1, oq1, oq6, o0, ol1, ol40, oV, oN1, oP1, oF1⟩ := hO
  have hn : mI μ s 1 = nI (nM r) := b1.trans o2
  have hq9 : mI μ (s + 2) 1 = nI (nQ r) := b6.trans o1
  have hV := b7.ok' oV
  have vE := okBE oV hm
  have e1 : mI μ (s + 5 + 3 * m) 3 = rW r m 1 := (b7 m hm).1 1 (by omega)
  have hm1 : (nI dn = -1) = False := nI_m1 (by omega)
  have h85 := fun (d : Nat) (Q : Po) => c_85 (d := d) (Q := Q) (tt := rW r m 1) (but := nI m) hW0 hB9 hO0
  rw [hg, oN] at h85
  have h32 := fun (d : Nat) (Q : Po) => c_32 (d := d) (Q := Q) hW0 hB9 hO0 g1 hm
  have hwd := dDown_w hW0 hB9 hO0 g1 hm
  rw [fWr_comm] at hwd
  have h126 := fun (d : Nat) (Q : Po) => s_126 (d := d) (Q := Q) (μ := uI (dDown μ (s + 6 + 3 * dn) (s + 6 + 3 * m)) (s + 5 + 3 * m) 7 (mI μ (s + 5 + 3 * m) 7 + nI 1)) (s := s) (m := m) (dn := dn) (w := fWr (rW r) m dn) (t := nE (rW r) m) hS0 (by omega) (by omega) hne (fWr_lt _ _ _) (by rw [mI_n (by omega), dD_n (by omega), e1]; exact vE.2.1) (by omega)
  have d7 : mI (dDown μ (s + 6 + 3 * dn) (s + 6 + 3 * m)) (s + 5 + 3 * m) 7 = mI μ (s + 5 + 3 * m) 7 := dD_n (by omega)
  rw [in_125]
  simp (disch := first | omega | rfl) only [e_125_0, e_125_1, e_125_4, e_125_7, e_125_8, e_125_9, e_125_10, e_125_11, e_125_14, e_125_15, e_125_18, e_125_19, e_125_22, e_125_23, e_125_24, e_125_25, e_125_28, e_125_29, e_125_30, e_125_31, e_125_34, e_125_35, e_125_38, e_125_41, e_125_42, e_125_43, e_125_46, e_125_47, e_125_50, e_125_53, e_125_54, e_125_55, e_125_58, e_125_59, e_125_60, e_125_63, e_125_64, e_125_67, e_125_70, e_125_71, e_125_72, e_125_73, e_125_74, e_125_77, e_125_80, e_125_83, w0, w1, w2, w3, w4, w5, w6, w7, w8, w9, w10, q1, q2, q3, q4, q5, q6, q7, q8, q9, q10, q11, q12, q13, q14, q15, b1, b2, b3, b4, b5, b6, o2, o387, o1708, o1741, o1, o0, ge1, ule_t, true_or, or_true, nI_add, nI_mul, nI_sub, nI_clamp, nI_lt_t, nI_lt_f, nI_le_t, nI_le_f, nI_eq_t, nI_eq_f, vp_nI, tI, fI, not_true, not_false_iff, true_and, and_true, Classical.not_not, mS_uI, mS_uA, mS_uJ, mS_uR, mS_uX, mR_uI, mR_uA, mR_uJ, mR_uX, mX_uI, mX_uA, mX_uJ, mX_uR, mI_s, mI_n, mI_A, mI_An, mI_uJ, mI_uR, mI_uX, mJ_uI, mJ_uA, mJ_uR, mJ_uX, onR_s, kC_v, kC_n, kC_t, ul0, ula1, ula2, ula3, ula4, ulb2, ulb3, ulb4, ulc2, ulc3, ulc4, ule4, ulf3, ulf4, w11.1, e1, h85, hm1, h32, mS_dD, mR_dD, d7, hwd, h126]
  rfl
end HlC


