/-! loading: the room that was read takes over -/
def rBg (r tn : Nat → Int32) (rt : Int32) (n : Nat) : Nat → Int32 := fun x => if 3 ≤ x ∧ x < 3 + 64 * n ∧ 7 ≤ (x - 3) % 64 ∧ (x - 3) % 64 < 23 then tn ((x - 3) % 64 - 7) else if 3 ≤ x ∧ x < 3 + 64 * n ∧ (x - 3) % 64 = 23 then rt else r x
def rtT (tn : Nat → Int32) : Int32 := fTree tn (fun _ => 0) 1
section Bg
variable {r tn : Nat → Int32} {rt : Int32} {n m k c x : Nat}
theorem rBg_c (hm : m < n) (hc : c < 16) : rBg r tn rt n (3 + 64 * m + (7 + c)) = tn c := by
  unfold rBg
  rw [if_pos (by omega)]
  congr 1
  omega
theorem rBg_t (hm : m < n) : rBg r tn rt n (3 + 64 * m + 23) = rt := by
  unfold rBg
  rw [if_neg (by omega), if_pos (by omega)]
theorem rBg_k (hk : k < 7 ∨ (24 ≤ k ∧ k < 64)) : rBg r tn rt n (3 + 64 * m + k) = r (3 + 64 * m + k) := by
  unfold rBg
  rw [if_neg (by omega), if_neg (by omega)]
theorem rBg_o (hn : n ≤ 6) (hx : x < 3 ∨ 387 ≤ x) : rBg r tn rt n x = r x := by
  unfold rBg
  rw [if_neg (by omega), if_neg (by omega)]
theorem ok_bg (h : AL r tn) : okR (rBg r tn (rtT tn) (nM r)) ∧ RN3 (rBg r tn (rtT tn) (nM r)) ∧ nM (rBg r tn (rtT tn) (nM r)) = nM r := by
  obtain ⟨a1, a2, a3, a4, a5, a6⟩ := h
  have hO := a1
  obtain ⟨o2, o6, o387, oT, o1708, oO, o1741, oF, o1, oq1, oq6, o0, ol1, ol40, oV, oN1, oP1, oF1⟩ := a1
  have lo : ∀ x, x < 3 ∨ 387 ≤ x → rBg r tn (rtT tn) (nM r) x = r x := fun x hx => rBg_o o6 hx
  have c2 : nM (rBg r tn (rtT tn) (nM r)) = nM r := by
    show (rBg r tn (rtT tn) (nM r) 2).toNatClampNeg = _
    rw [lo _ (by omega)]; rfl
  have c3 : nT (rBg r tn (rtT tn) (nM r)) = nT r := by unfold nT; rw [lo _ (by omega)]
  have c4 : nO (rBg r tn (rtT tn) (nM r)) = nO r := by unfold nO; rw [lo _ (by omega)]
  have c5 : nF (rBg r tn (rtT tn) (nM r)) = nF r := by unfold nF; rw [lo _ (by omega)]
  have c6 : nQ (rBg r tn (rtT tn) (nM r)) = nQ r := by unfold nQ; rw [lo _ (by omega)]
  have c7 : nL (rBg r tn (rtT tn) (nM r)) = nL r := by unfold nL; rw [lo _ (by omega)]
  have ek : ∀ m k, k < 7 → rW (rBg r tn (rtT tn) (nM r)) m k = rW r m k := fun m k hk => rBg_k (Or.inl hk)
  have ec : ∀ m c, m < nM r → c < 16 → rW (rBg r tn (rtT tn) (nM r)) m (7 + c) = tn c := fun m c hm hc => rBg_c hm hc
  refine ⟨⟨by rw [c2, lo _ (by omega)]; exact o2, by omega, by rw [c3, lo _ (by omega)]; exact o387, by omega, by rw [c4, lo _ (by omega)]; exact o1708, by omega, by rw [c5, lo _ (by omega)]; exact o1741, by omega, by rw [c6, lo _ (by omega)]; exact o1, by omega, by omega, by rw [c7, lo _ (by omega)]; exact o0, by omega, by omega, ?_, ?_, okP_eq oP1 oT oO c3 c4 (fun x h1 h2 => lo _ (by omega)), ?_⟩, ⟨⟨fun x hx => by rw [lo _ (by omega)]; exact a2.1 x hx, okW_eq a2.2 oP1 oT oO c3 c4 (fun x h1 h2 => lo _ (by omega))⟩, ?_⟩, c2⟩
  · intro m hm
    rw [c2] at hm
    rw [ek m 2 (by omega), ek m 6 (by omega), ek m 1 (by omega)]
    exact oV m hm
  · intro m hm
    rw [c2] at hm
    obtain ⟨g1, g2, g3⟩ := oN1 m hm
    rw [ek m 1 (by omega), ek m 0 (by omega), c3]
    exact ⟨g1, g2, fun c hc => by rw [ec m c hm hc]; exact a6.2 c hc⟩
  · intro k hk
    rw [c5] at hk
    rw [lo _ (by omega), lo _ (by omega), lo _ (by omega), lo _ (by omega)]
    exact oF1 k hk
  · intro m hm
    rw [c2] at hm
    have e1 : nE (rW (rBg r tn (rtT tn) (nM r))) m = 0 := by
      unfold nE
      rw [ek m 1 (by omega), (a3 m hm).2 1 (by omega) (by omega) (by omega)]
      rfl
    rw [e1]
    show rBg r tn (rtT tn) (nM r) (3 + 64 * m + 23) = _
    rw [rBg_t hm]
    exact fTree_eq (fun c hc => (ec m c hm hc).symm) (by omega) (by omega)
end Bg
section BgC
variable {d : Nat} {Q : Po} {μ μ' μ1 : Mu} {f : Nat → Nat} {g F r tn : Nat → Int32} {L hs gs s c n a k e v i s2 c2 m u : Nat} {tk er ea x rt : Int32} {t : TK} {z : RS} {l1 l2 l3 : Option Value} {pr : Nat → Nat → Int32}
/-- some members have begun -/
def BgS (μ μ' : Mu) (s c m : Nat) (rt : Int32) : Prop := Fr (fun a => CRs s a) μ μ' ∧ ∀ i, i < m → (∀ k, k < 16 → mI μ' (s + 6 + 3 * i) k = mI μ (c + 1) k) ∧ mI μ' (s + 7 + 3 * i) 0 = rt
theorem l_93 (h0 : mS μ 1000 = (11, 11)) (h1 : mR μ 1000 0 = some s) (h2 : mR μ 1000 1 = some c) (hS : StS μ s) (hSc : ScS μ c) (hsc : s + 22 < c ∨ c + 4 < s) (hs9 : s = 1001 ∨ s = 1032) (hn : mI μ s 1 = nI n) (h6 : n ≤ 6) (hq : ∀ μ', BgS μ μ' s c n rt → Q (some none) μ') : ∀ k m l3 μ', m + k = n → BgS μ μ' s c m rt → EM 93 (d + 3) 17 [some (.ref 1000), some (.int rt), some (.int (nI m)), l3] [] μ' (0, 0) Q := by
  have hS0 := hS
  obtain ⟨q0, q1, q2, q3, q4, q5, q6, q7, q8, q9, q10, q11, q12, q13, q14, q15⟩ := hS
  obtain ⟨r0, r1, r2, r3, r4, r5, r6, r7, r8, r9⟩ := hSc
  intro k
  induction k with
  | zero =>
    intro m l3 μ' hm hB
    obtain rfl : m = n := by omega
    obtain ⟨hf, hB⟩ := hB
    have e1 : mI μ' s 1 = nI m := (hf.2.2.2 s (by omega) 1).trans hn
    rw [e_93_17]
    simp (disch := first | omega | rfl) only [e_93_0, e_93_1, e_93_4, e_93_5, e_93_8, e_93_11, e_93_14, e_93_15, e_93_16, e_93_18, e_93_19, e_93_22, e_93_25, e_93_28, e_93_29, e_93_32, e_93_35, e_93_36, e_93_37, e_93_38, e_93_39, e_93_42, e_93_45, e_93_46, e_93_47, e_93_50, e_93_51, e_93_53, e_93_56, e_93_57, e_93_60, e_93_61, e_93_62, e_93_63, e_93_66, e_93_69, ge1, ule_t, true_or, or_true, nI_add, nI_mul, nI_sub, nI_clamp, nI_lt_t, nI_lt_f, nI_le_t, nI_le_f, nI_eq_t, nI_eq_f, vp_nI, tI, fI, not_true, not_false_iff, true_and, and_true, Classical.not_not, mS_uI, mS_uA, mS_uJ, mS_uR, mS_uX, mR_uI, mR_uA, mR_uJ, mR_uX, mX_uI, mX_uA, mX_uJ, mX_uR, mI_s, mI_n, mI_A, mI_An, mI_uJ, mI_uR, mI_uX, mJ_uI, mJ_uA, mJ_uR, mJ_uX, onR_s, kC_v, kC_n, kC_t, hf.sh, hf.rf, h0, h1, q1, e1]
    exact hq μ' ⟨hf, hB⟩
  | succ k ih =>
    intro m l3 μ' hm hB
    obtain ⟨hf, hB⟩ := hB
    have e1 : mI μ' s 1 = nI n := (hf.2.2.2 s (by omega) 1).trans hn
    have e2 : mI μ' (c + 1) = mI μ (c + 1) := by funext j; exact hf.2.2.2 (c + 1) (by omega) j
    rw [e_93_17]
    simp (disch := first | omega | rfl) only [e_93_0, e_93_1, e_93_4, e_93_5, e_93_8, e_93_11, e_93_14, e_93_15, e_93_16, e_93_18, e_93_19, e_93_22, e_93_25, e_93_28, e_93_29, e_93_32, e_93_35, e_93_36, e_93_37, e_93_38, e_93_39, e_93_42, e_93_45, e_93_46, e_93_47, e_93_50, e_93_51, e_93_53, e_93_56, e_93_57, e_93_60, e_93_61, e_93_62, e_93_63, e_93_66, e_93_69, ge1, ule_t, true_or, or_true, nI_add, nI_mul, nI_sub, nI_clamp, nI_lt_t, nI_lt_f, nI_le_t, nI_le_f, nI_eq_t, nI_eq_f, vp_nI, tI, fI, not_true, not_false_iff, true_and, and_true, Classical.not_not, mS_uI, mS_uA, mS_uJ, mS_uR, mS_uX, mR_uI, mR_uA, mR_uJ, mR_uX, mX_uI, mX_uA, mX_uJ, mX_uR, mI_s, mI_n, mI_A, mI_An, mI_uJ, mI_uR, mI_uX, mJ_uI, mJ_uA, mJ_uR, mJ_uX, onR_s, kC_v, kC_n, kC_t, hf.sh, hf.rf, h0, h1, h2, q1, q2, q5, q10 m (by omega), q11 m (by omega), q12 m (by omega), q13 m (by omega), q14 m (by omega), q15 m (by omega), r0, r1, r2, r6, e1, e2, leT, cpy_fil]
    refine ih (m + 1) _ _ (by omega) ⟨(hf.au (by omega)).iu (by omega), fun i hi => ?_⟩
    by_cases him : i = m
    · subst him
      refine ⟨fun k hk => ?_, mI_s⟩
      rw [mI_n (by omega), mI_A, fil, if_pos hk]
    · obtain ⟨b1, b2⟩ := hB i (by omega)
      exact ⟨fun k hk => by rw [mI_n (by omega), mI_An (by omega)]; exact b1 k hk, by rw [mI_n (by omega), mI_An (by omega)]; exact b2⟩
def cTr (μ : Mu) (c : Nat) : Mu := uA μ 1064 (fTree (mI μ (c + 1)) (mI μ 1064))
theorem s_93 (h0 : mS μ 1000 = (11, 11)) (h1 : mR μ 1000 0 = some s) (h2 : mR μ 1000 1 = some c) (h9 : mR μ 1000 9 = some 1062) (hD : ShD μ) (hS : StS μ s) (hSc : ScS μ c) (hsc : s + 22 < c ∨ c + 4 < s) (hs9 : s = 1001 ∨ s = 1032) (hc9 : c = 1024 ∨ c = 1055) (hn : mI μ s 1 = nI n) (h6 : n ≤ 6) (hq : ∀ μ', BgS (cTr μ c) μ' s c n (fTree (mI μ (c + 1)) (mI μ 1064) 1) → Q (some none) μ') : Ev (d + 4) 93 [.ref 1000] μ Q := by
  have hS0 := hS
  have hSc0 := hSc
  have r0 := hSc.2.1
  have r1 := hSc.2.2.1
  have r6 := hSc.2.2.2.2.2.2.1
  have h31 := fun (d : Nat) (Q : Po) => s_31 (d := d) (Q := Q) hD r6 (by omega)
  have d0 := hD.1
  have hl := l_93 (d := d) (Q := Q) (μ := cTr μ c) (rt := fTree (mI μ (c + 1)) (mI μ 1064) 1) (c := c) h0 h1 h2 hS hSc hsc hs9 (by unfold cTr; rw [mI_An (by omega)]; exact hn) h6 hq n 0 none (cTr μ c) (by omega) ⟨Fr.refl, fun i hi => absurd hi (Nat.not_lt_zero i)⟩
  rw [in_93]
  simp (disch := first | omega | rfl) only [e_93_0, e_93_1, e_93_4, e_93_5, e_93_8, e_93_11, e_93_14, e_93_15, e_93_16, e_93_18, e_93_19, e_93_22, e_93_25, e_93_28, e_93_29, e_93_32, e_93_35, e_93_36, e_93_37, e_93_38, e_93_39, e_93_42, e_93_45, e_93_46, e_93_47, e_93_50, e_93_51, e_93_53, e_93_56, e_93_57, e_93_60, e_93_61, e_93_62, e_93_63, e_93_66, e_93_69, ge1, ule_t, true_or, or_true, nI_add, nI_mul, nI_sub, nI_clamp, nI_lt_t, nI_lt_f, nI_le_t, nI_le_f, nI_eq_t, nI_eq_f, vp_nI, tI, fI, not_true, not_false_iff, true_and, and_true, Classical.not_not, mS_uI, mS_uA, mS_uJ, mS_uR, mS_uX, mR_uI, mR_uA, mR_uJ, mR_uX, mX_uI, mX_uA, mX_uJ, mX_uR, mI_s, mI_n, mI_A, mI_An, mI_uJ, mI_uR, mI_uX, mJ_uI, mJ_uA, mJ_uR, mJ_uX, onR_s, kC_v, kC_n, kC_t, h0, h2, h9, d0, r0, r1, h31]
  exact hl
theorem bg_rel (h : RelL μ s c r tn) (hA : AL r tn) (hsc : s + 22 < c ∨ c + 4 < s) (hB : BgS μ μ' s c (nM r) (rtT tn)) : RelN μ' s (rBg r tn (rtT tn) (nM r)) tn ∧ RelC μ' c (rBg r tn (rtT tn) (nM r)) ∧ EqL (mI μ' (c + 1)) tn := by
  obtain ⟨⟨⟨b1, b2, b3, b4, b5, b6, b7, b8⟩, b9⟩, h2, h3⟩ := h
  obtain ⟨hf, hB⟩ := hB
  obtain ⟨a1, a2, a3, a4, a5, a6⟩ := hA
  have hO := a1
  obtain ⟨o2, o6, o387, oT, o1708, oO, o1741, oF, o1, oq1, oq6, o0, ol1, ol40, oV, oN1, oP1, oF1⟩ := a1
  have lo : ∀ x, x < 3 ∨ 387 ≤ x → rBg r tn (rtT tn) (nM r) x = r x := fun x hx => rBg_o o6 hx
  have c2 : nM (rBg r tn (rtT tn) (nM r)) = nM r := by
    show (rBg r tn (rtT tn) (nM r) 2).toNatClampNeg = _
    rw [lo _ (by omega)]; rfl
  have c5 : nF (rBg r tn (rtT tn) (nM r)) = nF r := by unfold nF; rw [lo _ (by omega)]
  have kp : ∀ a, ¬ CRs s a → ∀ k, mI μ' a k = mI (fxH μ s) a k := fun a ha k => by rw [hf.2.2.2 a ha, fx_n ha]
  have ek : ∀ m k, k < 7 → rW (rBg r tn (rtT tn) (nM r)) m k = rW r m k := fun m k hk => rBg_k (Or.inl hk)
  have cv : ∀ m, m < nM r → ∀ k, k < 7 → cV μ' s m k = cV (fxH μ s) s m k := fun m hm k hk => by
    have e1 : mI μ' (s + 5 + 3 * m) = mI (fxH μ s) (s + 5 + 3 * m) := by funext j; exact kp _ (by omega) j
    unfold cV
    rw [e1]
    rcases (by omega : k = 0 ∨ k = 1 ∨ k = 2 ∨ k = 3 ∨ k = 4 ∨ k = 5 ∨ k = 6) with rfl | rfl | rfl | rfl | rfl | rfl | rfl <;> rfl
  refine ⟨⟨⟨?_, ?_, ?_, ?_, ?_, ?_, ?_, ?_⟩, ?_⟩, (h2.mu (fun a a1 a2 k => hf.2.2.2 a (by omega) k)).eq hO (fun x h1 h2 => lo x (by omega)), fun k hk => by rw [hf.2.2.2 (c + 1) (by omega)]; exact h3 k hk⟩
  · rw [kp s (by omega), lo _ (by omega)]; exact b1
  · rw [kp s (by omega), lo _ (by omega)]; exact b2
  · rw [kp s (by omega), lo _ (by omega)]; exact b3
  · rw [kp (s + 3) (by omega), lo _ (by omega)]; exact b4
  · rw [kp (s + 2) (by omega), lo _ (by omega)]; exact b5
  · rw [kp (s + 2) (by omega), lo _ (by omega)]; exact b6
  · intro m hm
    rw [c2] at hm
    obtain ⟨g1, g2⟩ := hB m hm
    obtain ⟨v1, v2⟩ := b7 m hm
    refine ⟨fun k hk => ?_, fun t ht => ?_⟩
    · by_cases h7 : k < 7
      · rw [cv m hm k h7, ek m k h7]; exact v1 k (by omega)
      · obtain ⟨j, hj, rfl⟩ : ∃ j, j < 16 ∧ k = 7 + j := ⟨k - 7, by omega, by omega⟩
        rw [← cvc hj, g1 j hj, h3 j hj]
        exact (rBg_c hm hj).symm
    · unfold vHas at ht
      rw [cv m hm 6 (by omega), cv m hm 1 (by omega), v1 6 (by omega), v1 1 (by omega), (a3 m hm).2 6 (by omega) (by omega) (by omega), (a3 m hm).2 1 (by omega) (by omega) (by omega)] at ht
      obtain rfl : t = nI 0 := Int32.le_antisymm ht.2 ht.1
      unfold vRec
      rw [nI_clamp (by omega), ← cvr, g2]
      exact (rBg_t hm).symm
  · intro k hk
    rw [c5] at hk
    rw [kp (s + 4) (by omega), lo _ (by omega)]; exact b8 k hk
  · intro m hm
    rw [c2] at hm
    rw [kp _ (by omega)]; exact b9 m hm
/-- two rooms change places -/
def swH (μ : Mu) (s c s2 c2 : Nat) : Mu := uR (uR (uR (uR μ 1000 0 (some s2)) 1000 1 (some c2)) 1030 1 (some s)) 1030 2 (some c)
theorem mR_nR {o : Option Nat} {b j : Nat} (h : b ≠ a ∨ j ≠ k) : mR (uR μ a k o) b j = mR μ b j := if_neg (fun q => h.elim (fun z => z q.1) (fun z => z q.2))
theorem s_92 (h0 : mS μ 1000 = (11, 11)) (g1 : mS μ 1030 = (6, 13)) (h1 : mR μ 1000 0 = some s) (h2 : mR μ 1000 1 = some c) (h5 : mR μ 1000 5 = some 1030) (hr1 : mR μ 1030 1 = some s2) (hr2 : mR μ 1030 2 = some c2) : Ev (d + 1) 92 [.ref 1000] μ Q = Q (some none) (swH μ s c s2 c2) := by
  rw [in_92]
  simp (disch := first | omega | rfl) only [e_92_0, e_92_1, e_92_4, e_92_5, e_92_6, e_92_9, e_92_10, e_92_11, e_92_12, e_92_15, e_92_18, e_92_21, e_92_22, e_92_23, e_92_26, e_92_29, e_92_32, e_92_33, e_92_36, e_92_37, e_92_40, e_92_41, e_92_44, e_92_45, e_92_48, ge1, ule_t, true_or, or_true, nI_add, nI_mul, nI_sub, nI_clamp, nI_lt_t, nI_lt_f, nI_le_t, nI_le_f, nI_eq_t, nI_eq_f, vp_nI, tI, fI, not_true, not_false_iff, true_and, and_true, Classical.not_not, mS_uI, mS_uA, mS_uJ, mS_uR, mS_uX, mR_uI, mR_uA, mR_uJ, mR_uX, mX_uI, mX_uA, mX_uJ, mX_uR, mI_s, mI_n, mI_A, mI_An, mI_uJ, mI_uR, mI_uX, mJ_uI, mJ_uA, mJ_uR, mJ_uX, onR_s, kC_v, kC_n, kC_t, h0, g1, h1, h2, h5, hr1, hr2, mR_nR]
  rfl
end BgC


