/-! small changes: what they do -/
theorem upd_ss {f : Nat → Int32} {k j : Nat} {x : Int32} (h : j = k) : upd f k x j = x := if_pos h
theorem okR_of {r r' : Nat → Int32} {o f : Nat} (h : okR r) (e : ∀ x, x < 388 → r' x = r x) (e1 : r' 1708 = nI o) (ho : o ≤ 8) (e2 : r' 1741 = nI f) (hf : f ≤ 10) (hP : okP r') (hF : okF r') : okR r' := by
  obtain ⟨o2, o6, o387, oT, o1708, oO, o1741, oF, o1, oq1, oq6, o0, ol1, ol40, oV, oN1, oP1, oF1⟩ := h
  have c2 : nM r' = nM r := by unfold nM; rw [e 2 (by omega)]
  have c3 : nT r' = nT r := by unfold nT; rw [e 387 (by omega)]
  have c4 : nO r' = o := by unfold nO; rw [e1, nI_clamp (by omega)]
  have c5 : nF r' = f := by unfold nF; rw [e2, nI_clamp (by omega)]
  have c6 : nQ r' = nQ r := by unfold nQ; rw [e 1 (by omega)]
  have c7 : nL r' = nL r := by unfold nL; rw [e 0 (by omega)]
  have ev : ∀ m, m < 6 → ∀ k, k < 64 → rW r' m k = rW r m k := fun m hm k hk => e _ (by omega)
  refine ⟨by rw [c2, e 2 (by omega)]; exact o2, by omega, by rw [c3, e 387 (by omega)]; exact o387, by omega, by rw [c4]; exact e1, by omega, by rw [c5]; exact e2, by omega, by rw [c6, e 1 (by omega)]; exact o1, by omega, by omega, by rw [c7, e 0 (by omega)]; exact o0, by omega, by omega, ?_, ?_, hP, hF⟩
  · intro m hm
    rw [c2] at hm
    rw [ev m (by omega) 2 (by omega), ev m (by omega) 6 (by omega), ev m (by omega) 1 (by omega)]
    exact oV m hm
  · intro m hm
    rw [c2] at hm
    obtain ⟨g1, g2, g3⟩ := oN1 m hm
    rw [c3, ev m (by omega) 1 (by omega), ev m (by omega) 0 (by omega)]
    exact ⟨g1, g2, fun c hc => by rw [ev m (by omega) _ (by omega)]; exact g3 c hc⟩
theorem RelN.of {μ μ' : Mu} {s : Nat} {r r' tn : Nat → Int32} (h : RelN μ s r tn) (hO : okR r) (e : ∀ x, x < 388 → r' x = r x) (a1 : ∀ a, s < a → a ≤ s + 22 → a ≠ s + 3 → a ≠ s + 4 → ∀ k, mI μ' a k = mI μ a k) (a2 : ∀ k, k ≠ 3 → mI μ' s k = mI μ s k) (b3 : mI μ' s 3 = r' 1708) (b4 : mI μ' (s + 3) 1 = r' 1741) (b8 : ∀ k, k < 4 * nF r' → mI μ' (s + 4) k = r' (1742 + k)) : RelN μ' s r' tn := by
  obtain ⟨⟨c1, c2, c3, c4, c5, c6, c7, c8⟩, c9⟩ := h
  obtain ⟨o2, o6, o387, oT, o1708, oO, o1741, oF, o1, oq1, oq6, o0, ol1, ol40, oV, oN1, oP1, oF1⟩ := hO
  have hc : ∀ m, m < 6 → ∀ k, cV μ' s m k = cV μ s m k := fun m hm k => by
    unfold cV
    rw [a1 (s + 5 + 3 * m) (by omega) (by omega) (by omega) (by omega), a1 (s + 5 + 3 * m) (by omega) (by omega) (by omega) (by omega), a1 (s + 5 + 3 * m) (by omega) (by omega) (by omega) (by omega), a1 (s + 5 + 3 * m) (by omega) (by omega) (by omega) (by omega), a1 (s + 5 + 3 * m) (by omega) (by omega) (by omega) (by omega), a1 (s + 5 + 3 * m) (by omega) (by omega) (by omega) (by omega), a1 (s + 5 + 3 * m) (by omega) (by omega) (by omega) (by omega), a1 (s + 6 + 3 * m) (by omega) (by omega) (by omega) (by omega), a1 (s + 7 + 3 * m) (by omega) (by omega) (by omega) (by omega)]
  have n2 : nM r' = nM r := by unfold nM; rw [e 2 (by omega)]
  refine ⟨⟨?_, ?_, b3, b4, ?_, ?_, ?_, b8⟩, ?_⟩
  · rw [a2 1 (by omega), e 2 (by omega)]; exact c1
  · rw [a2 2 (by omega), e 387 (by omega)]; exact c2
  · rw [a1 (s + 2) (by omega) (by omega) (by omega) (by omega), e 0 (by omega)]; exact c5
  · rw [a1 (s + 2) (by omega) (by omega) (by omega) (by omega), e 1 (by omega)]; exact c6
  · intro m hm
    rw [n2] at hm
    obtain ⟨v1, v2⟩ := c7 m hm
    obtain ⟨w1, w2, w3, w4⟩ := (c7.ok' oV) m hm
    refine ⟨fun k hk => by rw [hc m (by omega), show rW r' m k = rW r m k from e _ (by omega)]; exact v1 k hk, fun t ht => ?_⟩
    have ht' : vHas (cV μ s) m t := by
      unfold vHas at ht ⊢
      rw [hc m (by omega), hc m (by omega)] at ht
      exact ht
    obtain ⟨j, hj, rfl⟩ := t40 (Int32.le_trans w2 ht'.1) (Int32.le_trans ht'.2 w4)
    have := v2 (nI j) ht'
    unfold vRec at this ⊢
    rw [nI_clamp (by omega)] at this ⊢
    rw [hc m (by omega), show rW r' m (23 + j) = rW r m (23 + j) from e _ (by omega)]
    exact this
  · intro m hm
    rw [n2] at hm
    rw [a1 _ (by omega) (by omega) (by omega) (by omega)]; exact c9 m hm
def rGive (r : Nat → Int32) (m σ i k : Nat) : Nat → Int32 := upd (upd (upd (upd (upd r (1709 + 4 * nO r) (nI m)) (1709 + 4 * nO r + 1) (nI σ)) (1709 + 4 * nO r + 2) (nI i)) (1709 + 4 * nO r + 3) (nI k)) 1708 (nI (nO r + 1))
def rFault (r : Nat → Int32) (m t i k : Nat) : Nat → Int32 := upd (upd (upd (upd (upd r (1742 + 4 * nF r) (nI m)) (1742 + 4 * nF r + 1) (nI t)) (1742 + 4 * nF r + 2) (nI i)) (1742 + 4 * nF r + 3) (nI k)) 1741 (nI (nF r + 1))
section Rows
variable {r : Nat → Int32} {m σ i k t x : Nat}
theorem rGive_lo (h : x < 1708) : rGive r m σ i k x = r x := by unfold rGive; simp (disch := omega) only [upd_n]
theorem rGive_hi (h8 : nO r < 8) (h : 1741 ≤ x) : rGive r m σ i k x = r x := by unfold rGive; simp (disch := omega) only [upd_n]
theorem rGive_o : rGive r m σ i k 1708 = nI (nO r + 1) := upd_s
theorem rGive_op {j w : Nat} (h : j < nO r) (hw : w < 4) : rGive r m σ i k (1709 + 4 * j + w) = r (1709 + 4 * j + w) := by unfold rGive; simp (disch := omega) only [upd_n]
theorem rGive_0 : rGive r m σ i k (1709 + 4 * nO r) = nI m := by unfold rGive; simp (disch := omega) only [upd_n, upd_s]
theorem rGive_1 : rGive r m σ i k (1709 + 4 * nO r + 1) = nI σ := by unfold rGive; simp (disch := omega) only [upd_n, upd_s]
theorem rGive_2 : rGive r m σ i k (1709 + 4 * nO r + 2) = nI i := by unfold rGive; simp (disch := omega) only [upd_n, upd_s]
theorem rGive_3 : rGive r m σ i k (1709 + 4 * nO r + 3) = nI k := by unfold rGive; simp (disch := omega) only [upd_n, upd_s]
theorem okCmd_eq {f g : Nat → Nat → Int32} {z : Nat} (h : okCmd f z) (e : ∀ k, k < z → ∀ w, w < 4 → g k w = f k w) : okCmd g z := fun k hk => by
  obtain ⟨σ, c, g1, g2, g3⟩ := h k hk
  exact ⟨σ, c, by rw [e k hk 1 (by omega)]; exact g1, by rw [e k hk 2 (by omega)]; exact g2, by rw [e k hk 3 (by omega)]; exact g3⟩
/-- what is sealed stays -/
theorem okP_t {r r' : Nat → Int32} (h : okP r) (h40 : nT r ≤ 40) (e : ∀ x, x < 1708 → r' x = r x) : ∀ t, t < nT r → ∃ z, z ≤ 8 ∧ r' (388 + 33 * t) = nI z ∧ okCmd (mCmd r' t) z := fun t ht => by
  obtain ⟨z, hz, g1, g2⟩ := h.1 t ht
  exact ⟨z, hz, by rw [e _ (by omega)]; exact g1, okCmd_eq g2 (fun k hk w hw => e _ (by omega))⟩
theorem ok_give (h : okR r) (hN : RN2 r) (hm : m < nM r) (hσ : σ < 6) (hi : i < 16) (hk : k < gOp σ) (ho : nO r < 8) : okR (rGive r m σ i k) ∧ RN2 (rGive r m σ i k) ∧ SLe r (rGive r m σ i k) ∧ nM (rGive r m σ i k) = nM r := by
  have hO := h
  obtain ⟨o2, o6, o387, oT, o1708, oO, o1741, oF, o1, oq1, oq6, o0, ol1, ol40, oV, oN1, oP1, oF1⟩ := h
  have n2 : nM (rGive r m σ i k) = nM r := by unfold nM; rw [rGive_lo (by omega)]
  have n3 : nT (rGive r m σ i k) = nT r := by unfold nT; rw [rGive_lo (by omega)]
  have n4 : nO (rGive r m σ i k) = nO r + 1 := by unfold nO; rw [rGive_o]; exact nI_clamp (by omega)
  have n5 : nF (rGive r m σ i k) = nF r := by unfold nF; rw [rGive_hi ho (by omega)]
  have hg := gOp_le σ
  obtain ⟨W1, W2⟩ := hN.2
  have hz : ∀ t, t < nT r → nZ (rGive r m σ i k) t = nZ r t := fun t ht => by unfold nZ; rw [rGive_lo (by omega)]
  refine ⟨okR_of hO (fun x hx => rGive_lo (by omega)) rGive_o (by omega) (by rw [rGive_hi ho (by omega)]; exact o1741) (by omega) ⟨?_, ?_, ?_⟩ ?_, ⟨?_, ?_, ?_⟩, Or.inr ⟨n3.symm, by omega⟩, n2⟩
  · intro t ht
    rw [n3] at ht
    exact okP_t oP1 oT (fun x hx => rGive_lo hx) t ht
  · intro j hj
    rw [n4] at hj
    by_cases hjo : j < nO r
    · obtain ⟨σ', c', g1, g2, g3⟩ := oP1.2.1 j hjo
      exact ⟨σ', c', (rGive_op hjo (by omega)).trans g1, (rGive_op hjo (by omega)).trans g2, by show okC σ' c' (rGive r m σ i k (1709 + 4 * j + 3)); rw [rGive_op hjo (by omega)]; exact g3⟩
    · have : j = nO r := by omega
      subst this
      refine ⟨σ, i, rGive_1, rGive_2, by omega, hi, fun h2 => ⟨k, ?_, rGive_3⟩⟩
      unfold gOp at hk
      rw [if_neg (by omega)] at hk
      exact hk
  · intro j hj
    rw [n4] at hj
    by_cases hjo : j < nO r
    · rw [← Nat.add_zero (1709 + 4 * j), rGive_op hjo (by omega)]
      exact oP1.2.2 j hjo
    · have : j = nO r := by omega
      subst this
      exact ⟨m, by omega, rGive_0⟩
  · intro j hj
    rw [n5] at hj
    rw [rGive_hi ho (by omega), rGive_hi ho (by omega), rGive_hi ho (by omega), rGive_hi ho (by omega)]
    exact oF1 j hj
  · intro x hx
    rw [rGive_hi ho (by omega)]
    exact hN.1 x hx
  · intro t ht j hj
    rw [n3] at ht
    rw [hz t ht] at hj
    have h8 := (okP_z oP1 ht).2.1
    obtain ⟨v, hv, e⟩ := W1 t ht j hj
    exact ⟨v, hv, by unfold mCmd at e ⊢; rw [rGive_lo (by omega)]; exact e⟩
  · intro j hj
    rw [n4] at hj
    by_cases hjo : j < nO r
    · rw [rGive_op hjo (by omega)]
      exact W2 j hjo
    · have : j = nO r := by omega
      subst this
      exact ⟨k, by omega, rGive_3⟩
theorem rFault_lo (h : x < 1741) : rFault r m t i k x = r x := by unfold rFault; simp (disch := omega) only [upd_n]
theorem rFault_hi (h8 : nF r < 10) (h : 1782 ≤ x) : rFault r m t i k x = r x := by unfold rFault; simp (disch := omega) only [upd_n]
theorem rFault_o : rFault r m t i k 1741 = nI (nF r + 1) := upd_s
theorem rFault_op {j : Nat} (h : j < 4 * nF r) : rFault r m t i k (1742 + j) = r (1742 + j) := by unfold rFault; simp (disch := omega) only [upd_n]
theorem rFault_0 : rFault r m t i k (1742 + 4 * nF r) = nI m := by unfold rFault; simp (disch := omega) only [upd_n, upd_s]
theorem rFault_1 : rFault r m t i k (1742 + 4 * nF r + 1) = nI t := by unfold rFault; simp (disch := omega) only [upd_n, upd_s]
theorem rFault_2 : rFault r m t i k (1742 + 4 * nF r + 2) = nI i := by unfold rFault; simp (disch := omega) only [upd_n, upd_s]
theorem rFault_3 : rFault r m t i k (1742 + 4 * nF r + 3) = nI k := by unfold rFault; simp (disch := omega) only [upd_n, upd_s]
/-- commands stay -/
theorem okP_eq {r r' : Nat → Int32} (h : okP r) (h40 : nT r ≤ 40) (h8 : nO r ≤ 8) (n3 : nT r' = nT r) (n4 : nO r' = nO r) (e : ∀ x, 388 ≤ x → x < 1741 → r' x = r x) : okP r' := by
  refine ⟨fun t ht => ?_, ?_, ?_⟩
  · rw [n3] at ht
    obtain ⟨z, hz, g1, g2⟩ := h.1 t ht
    exact ⟨z, hz, by rw [e _ (by omega) (by omega)]; exact g1, okCmd_eq g2 (fun k hk w hw => e _ (by omega) (by omega))⟩
  · rw [n4]
    exact okCmd_eq h.2.1 (fun k hk w hw => e _ (by omega) (by omega))
  · intro k hk
    rw [n4] at hk
    rw [e _ (by omega) (by omega)]
    exact h.2.2 k hk
theorem okW_eq {r r' : Nat → Int32} (h : okW r) (hP : okP r) (h40 : nT r ≤ 40) (h8 : nO r ≤ 8) (n3 : nT r' = nT r) (n4 : nO r' = nO r) (e : ∀ x, 388 ≤ x → x < 1741 → r' x = r x) : okW r' := by
  refine ⟨fun t ht k hk => ?_, fun k hk => ?_⟩
  · rw [n3] at ht
    have hz : nZ r' t = nZ r t := by unfold nZ; rw [e _ (by omega) (by omega)]
    have h8 := (okP_z hP ht).2.1
    rw [hz] at hk
    obtain ⟨v, hv, g⟩ := h.1 t ht k hk
    exact ⟨v, hv, by unfold mCmd at g ⊢; rw [e _ (by omega) (by omega)]; exact g⟩
  · rw [n4] at hk
    rw [e _ (by omega) (by omega)]
    exact h.2 k hk
theorem ok_fault (h : okR r) (hN : RN2 r) (hm : m < nM r) (ht : t < 40) (hi : i < 16) (hk : k < 10000) (ho : nF r < 10) : okR (rFault r m t i k) ∧ RN2 (rFault r m t i k) ∧ SLe r (rFault r m t i k) ∧ nM (rFault r m t i k) = nM r := by
  have hO := h
  obtain ⟨o2, o6, o387, oT, o1708, oO, o1741, oF, o1, oq1, oq6, o0, ol1, ol40, oV, oN1, oP1, oF1⟩ := h
  have n2 : nM (rFault r m t i k) = nM r := by unfold nM; rw [rFault_lo (by omega)]
  have n3 : nT (rFault r m t i k) = nT r := by unfold nT; rw [rFault_lo (by omega)]
  have n4 : nO (rFault r m t i k) = nO r := by unfold nO; rw [rFault_lo (by omega)]
  have n5 : nF (rFault r m t i k) = nF r + 1 := by unfold nF; rw [rFault_o]; exact nI_clamp (by omega)
  refine ⟨okR_of hO (fun x hx => rFault_lo (by omega)) (by rw [rFault_lo (by omega)]; exact o1708) (by omega) rFault_o (by omega) (okP_eq oP1 oT oO n3 n4 (fun x h1 h2 => rFault_lo h2)) ?_, ⟨?_, okW_eq hN.2 oP1 oT oO n3 n4 (fun x h1 h2 => rFault_lo h2)⟩, Or.inr ⟨n3.symm, by omega⟩, n2⟩
  · intro j hj
    rw [n5] at hj
    by_cases hjo : j < nF r
    · rw [rFault_op (by omega), Nat.add_assoc, Nat.add_assoc, Nat.add_assoc, rFault_op (by omega), rFault_op (by omega), rFault_op (by omega), ← Nat.add_assoc, ← Nat.add_assoc, ← Nat.add_assoc]
      exact oF1 j hjo
    · have : j = nF r := by omega
      subst this
      exact ⟨⟨m, by omega, rFault_0⟩, ⟨t, ht, rFault_1⟩, ⟨i, hi, rFault_2⟩, ⟨k, hk, rFault_3⟩⟩
  · intro x hx
    rw [rFault_hi ho hx]
    exact hN.1 x hx
end Rows


