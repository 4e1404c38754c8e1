/-! leave -/
theorem okK_of {r r' : Nat → Int32} (h : okK r) (hO : okR r) (n : nM r' = nM r) (e : ∀ m, m < nM r → ∀ k, k < 64 → k ≠ 2 → k ≠ 3 → k ≠ 4 → k ≠ 5 → rW r' m k = rW r m k) : okK r' := fun m hm => by
  rw [n] at hm
  have vE := okBE hO.2.2.2.2.2.2.2.2.2.2.2.2.2.2.1 hm
  have e1 : nE (rW r') m = nE (rW r) m := by unfold nE; rw [e m hm 1 (by omega) (by omega) (by omega) (by omega) (by omega)]
  rw [e1, e m hm _ (by omega) (by omega) (by omega) (by omega) (by omega), h m hm]
  exact fTree_eq (fun c hc => (e m hm (7 + c) (by omega) (by omega) (by omega) (by omega) (by omega)).symm) (by omega) (by omega)
theorem okK_lo {r r' : Nat → Int32} (h : okK r) (hO : okR r) (e : ∀ x, x < 387 → r' x = r x) : okK r' := okK_of h hO (by unfold nM; rw [e 2 (by omega)]) (fun m hm k hk _ _ _ _ => e _ (by have := hO.2.1; omega))
theorem okK_set {r : Nat → Int32} {i v : Nat} (h : okK r) (hO : okR r) (hi : i < 2) : okK (rSet r i v) := okK_of h hO (by unfold nM; rw [show rSet r i v 2 = r 2 from upd_n (by omega)]) (fun m hm k hk _ _ _ _ => upd_n (by omega))
theorem okK_ex {r : Nat → Int32} {m : Nat} (h : okK r) (hO : okR r) (hR : RN2 r) (hm : m < nM r) (ht : nE (rW r) m < nT r) : okK (rEx r m) := fun m' hm' => by
  obtain ⟨a1, a2, a3, a4, a5, a6, a7⟩ := ok_ex hO hR hm ht
  rw [a3] at hm'
  have h6 : nM r ≤ 6 := hO.2.1
  have h39 : nE (rW r) m < 40 := by have := hO.2.2.2.1; omega
  by_cases hmm : m' = m
  · subst hmm
    rw [a7]
    have e1 : rW (rEx r m') m' (23 + (nE (rW r) m' + 1)) = fCk (rW (rX3 r m')) m' 1 := by
      have := rEx_root (r := r) (m := m')
      show rEx r m' (3 + 64 * m' + (23 + (nE (rW r) m' + 1))) = _
      rw [show 23 + (nE (rW r) m' + 1) = 24 + nE (rW r) m' by omega]
      exact this
    rw [e1]
    refine fTree_eq (fun c hc => ?_) (by omega) (by omega)
    rw [rEx_Vc (by omega) h39 hc]
    show rX3 r m' (3 + 64 * m' + (7 + c)) = _
    rw [← Nat.add_assoc, rX3_c (by omega) hc]
  · have vE := okBE hO.2.2.2.2.2.2.2.2.2.2.2.2.2.2.1 hm'
    have hV := fun k hk => rEx_V (k := k) (m := m) (m' := m') (r := r) (by omega) h39 (by omega) hmm hk
    have e1 : nE (rW (rEx r m)) m' = nE (rW r) m' := by unfold nE; rw [hV 1 (by omega)]
    rw [e1, hV _ (by omega), h m' hm']
    exact fTree_eq (fun c hc => (hV (7 + c) (by omega)).symm) (by omega) (by omega)
theorem okK_exN {r : Nat → Int32} {m : Nat} (h : okK r) (hO : okR r) (hR : RN2 r) (hm : m < nM r) : ∀ n, nE (rW r) m + n ≤ nT r → okK (rExN r m n)
  | 0, _ => h
  | n + 1, hn => by
    obtain ⟨a1, a2, a3, a4, a5, a6⟩ := ok_exN hO hR hm n (by omega)
    exact okK_ex (okK_exN h hO hR hm n (by omega)) a1 a2 (by omega) (by omega)
theorem okK_tk {r : Nat → Int32} {la : Nat} (hK : okK r) (h : okR r) (hN : RN2 r) (hla : ∀ m, m < nM r → ¬ rW r m 2 = nI 0 → la ≤ nT r) : ∀ m, m ≤ nM r → okK (tkR r la m)
  | 0, _ => hK
  | m + 1, hm => by
    obtain ⟨a1, a2, a3, a4, a5, a6, a7, a8, a9⟩ := tk_ok h hN hla m (by omega)
    have ih := okK_tk hK h hN hla m (by omega)
    rw [tkR]
    by_cases ha : rW (tkR r la m) m 2 = nI 0
    · rw [if_pos ha]; exact ih
    · rw [if_neg ha]
      have h6 := h.2.1
      have ha' : ¬ rW r m 2 = nI 0 := by rw [← a6 m (Nat.le_refl _) (by omega) 2 (by omega)]; exact ha
      have hl := hla m (by omega) ha'
      have he := nE_le a1 (show m < nM (tkR r la m) by omega)
      exact okK_exN ih a1 a2 (by omega) _ (by unfold tN; split <;> omega)
theorem ok_fo {r : Nat → Int32} {P : Nat → Bool} (h : okR r) (hN : RN2 r) : okR (rFo r P) ∧ RN2 (rFo r P) ∧ nM (rFo r P) = nM r ∧ nT (rFo r P) = nT r ∧ nO (rFo r P) = nO r ∧ nF (rFo r P) = kL P (nF r) := by
  have hO := h
  obtain ⟨o2, o6, o387, oT, o1708, oO, o1741, oF, o1, oq1, oq6, o0, ol1, ol40, oV, oN1, oP1, oF1⟩ := h
  have hle := kL_le P (nF r)
  have n2 : nM (rFo r P) = nM r := by unfold nM; rw [rFo_lo (by omega)]
  have n3 : nT (rFo r P) = nT r := by unfold nT; rw [rFo_lo (by omega)]
  have n4 : nO (rFo r P) = nO r := by unfold nO; rw [rFo_lo (by omega)]
  have n5 : nF (rFo r P) = kL P (nF r) := by
    show (rFo r P 1741).toNatClampNeg = _
    rw [rFo_n]; exact nI_clamp (by omega)
  refine ⟨okR_of hO (fun x hx => rFo_lo (by omega)) (by rw [rFo_lo (by omega)]; exact o1708) oO rFo_n (by omega) (okP_eq oP1 oT oO n3 n4 (fun x h1 h2 => rFo_lo h2)) (okF_fo oF1 oF), ⟨fun x hx => ?_, okW_eq hN.2 oP1 oT oO n3 n4 (fun x h1 h2 => rFo_lo h2)⟩, n2, n3, n4, n5⟩
  rw [rFo_hi oF hx]
  exact hN.1 x hx
def rOff (r : Nat → Int32) (m : Nat) : Nat → Int32 := upd r (3 + 64 * m + 2) (nI 0)
def rLeave (r : Nat → Int32) (m : Nat) : Nat → Int32 := rFo (rOff r m) (pM (flt (rOff r m)) (nI m) (-1))
section LvRow
variable {r : Nat → Int32} {m m' k x : Nat}
theorem rOff_n (h : x ≠ 3 + 64 * m + 2) : rOff r m x = r x := upd_n h
theorem rOff_V (hm' : m' < 6) (hk : k < 64) (h : m' ≠ m ∨ k ≠ 2) : rW (rOff r m) m' k = rW r m' k := rOff_n (by omega)
theorem ok_off (h : okR r) (hN : RN2 r) (hm : m < nM r) : okR (rOff r m) ∧ RN2 (rOff r m) ∧ nM (rOff r m) = nM r ∧ nT (rOff r m) = nT r ∧ nO (rOff r m) = nO r ∧ nF (rOff r m) = nF r := by
  have hO := h
  obtain ⟨o2, o6, o387, oT, o1708, oO, o1741, oF, o1, oq1, oq6, o0, ol1, ol40, oV, oN1, oP1, oF1⟩ := h
  have c2 : nM (rOff r m) = nM r := by unfold nM; rw [rOff_n (by omega)]
  have c3 : nT (rOff r m) = nT r := by unfold nT; rw [rOff_n (by omega)]
  have c4 : nO (rOff r m) = nO r := by unfold nO; rw [rOff_n (by omega)]
  have c5 : nF (rOff r m) = nF r := by unfold nF; rw [rOff_n (by omega)]
  have c6 : nQ (rOff r m) = nQ r := by unfold nQ; rw [rOff_n (by omega)]
  have c7 : nL (rOff r m) = nL r := by unfold nL; rw [rOff_n (by omega)]
  refine ⟨⟨by rw [c2, rOff_n (by omega)]; exact o2, by omega, by rw [c3, rOff_n (by omega)]; exact o387, by omega, by rw [c4, rOff_n (by omega)]; exact o1708, by omega, by rw [c5, rOff_n (by omega)]; exact o1741, by omega, by rw [c6, rOff_n (by omega)]; exact o1, by omega, by omega, by rw [c7, rOff_n (by omega)]; exact o0, by omega, by omega, ?_, ?_, okP_eq oP1 oT oO c3 c4 (fun x h1 h2 => rOff_n (by omega)), ?_⟩, ⟨fun x hx => by rw [rOff_n (by omega)]; exact hN.1 x hx, okW_eq hN.2 oP1 oT oO c3 c4 (fun x h1 h2 => rOff_n (by omega))⟩, c2, c3, c4, c5⟩
  · intro m' hm'
    rw [c2] at hm'
    rw [rOff_V (k := 6) (by omega) (by omega) (by omega), rOff_V (k := 1) (by omega) (by omega) (by omega)]
    refine ⟨?_, (oV m' hm').2⟩
    by_cases hmm : m' = m
    · left; rw [hmm]; exact upd_s
    · rw [rOff_V (by omega) (by omega) (by omega)]; exact (oV m' hm').1
  · intro m' hm'
    rw [c2] at hm'
    obtain ⟨g1, g2, g3⟩ := oN1 m' hm'
    rw [c3, rOff_V (by omega) (by omega) (by omega), rOff_V (by omega) (by omega) (by omega)]
    exact ⟨g1, g2, fun c hc => by rw [rOff_V (by omega) (by omega) (by omega)]; exact g3 c hc⟩
  · intro k hk
    rw [c5] at hk
    rw [rOff_n (by omega), rOff_n (by omega), rOff_n (by omega), rOff_n (by omega)]
    exact oF1 k hk
theorem ok_leave (h : okR r) (hN : RN2 r) (hK : okK r) (hm : m < nM r) : okR (rLeave r m) ∧ RN3 (rLeave r m) ∧ SLe r (rLeave r m) ∧ nM (rLeave r m) = nM r ∧ nF (rLeave r m) = kL (pM (flt (rOff r m)) (nI m) (-1)) (nF r) := by
  obtain ⟨a1, a2, a3, a4, a5, a6⟩ := ok_off h hN hm
  obtain ⟨b1, b2, b3, b4, b5, b6⟩ := ok_fo (P := pM (flt (rOff r m)) (nI m) (-1)) a1 a2
  have h6 := h.2.1
  refine ⟨b1, ⟨b2, okK_of hK h (b3.trans a3) (fun m' hm' k hk k2 _ _ _ => ?_)⟩, Or.inr ⟨by unfold rLeave; omega, by unfold rLeave; omega⟩, b3.trans a3, by unfold rLeave; rw [b6, a6]⟩
  show rFo (rOff r m) _ (3 + 64 * m' + k) = _
  rw [rFo_lo (by omega)]
  exact rOff_V (by omega) hk (by omega)
end LvRow
section LvC
variable {d : Nat} {Q : Po} {μ : Mu} {s c m n q i j k t z u σ o N : Nat} {x y g v w : Int32} {r tn : Nat → Int32} {pr : Nat → Nat → Int32} {l4 l5 : Option Value}
def lvP (μ : Mu) (s m : Nat) : Nat → Bool := pK (mI μ (s + 4)) (nI m) (nI 0) (nI 39)
def cLv (μ : Mu) (s m n : Nat) : Mu := uI (uA (uI μ (s + 5 + 3 * m) 4 (nI 0)) (s + 4) (dF (mI μ (s + 4)) (lvP μ s m) n)) (s + 3) 1 (nI (kL (lvP μ s m) n))
theorem cLv_fr (hm : m < 6) : Fr (fun a => (s ≤ a ∧ a ≤ s + 22) ∨ (c ≤ a ∧ a ≤ c + 4) ∨ (1062 ≤ a ∧ a ≤ 1067)) μ (cLv μ s m n) := by
  unfold cLv
  exact ((Fr.refl.iu (Or.inl (by omega))).au (Or.inl (by omega))).iu (Or.inl (by omega))
theorem rel_leave (hsc : s + 22 < c ∨ c + 4 < s) (hN : RelN μ s r tn) (hC : RelC μ c r) (hO : okR r) (hR : RN2 r) (hK : okK r) (hm : m < nM r) : RelN (cLv μ s m (nF r)) s (rLeave r m) tn ∧ RelC (cLv μ s m (nF r)) c (rLeave r m) := by
  have hO0 := hO
  obtain ⟨z1, z2, z3, n2, n5⟩ := ok_leave hO hR hK hm
  obtain ⟨o2, o6, o387, oT, o1708, oO, o1741, oF, o1, oq1, oq6, o0, ol1, ol40, oV, oN1, oP1, oF1⟩ := hO
  obtain ⟨⟨b1, b2, b3, b4, b5, b6, b7, b8⟩, b9⟩ := hN
  have h6 : m < 6 := by omega
  have hfl : flt (rOff r m) = flt r := by funext k; unfold flt; rw [rOff_n (by omega)]
  have hnf : nF (rOff r m) = nF r := by unfold nF; rw [rOff_n (by omega)]
  have hP : ∀ k, k < nF r → lvP μ s m k = pM (flt (rOff r m)) (nI m) (-1) k := fun k hk => by
    unfold lvP pK pM
    have e1 : mI μ (s + 4) (4 * k) = flt r (4 * k) := b8 _ (by omega)
    have e2 : mI μ (s + 4) (4 * k + 1) = flt r (4 * k + 1) := b8 _ (by omega)
    obtain ⟨-, ⟨t, ht, et⟩, -⟩ := oF1 k hk
    have e3 : flt r (4 * k + 1) = nI t := et
    rw [e1, e2, hfl, e3]
    congr 1
    apply decide_eq_decide.mpr
    exact ⟨fun h => ⟨h.1, Or.inl rfl⟩, fun h => ⟨h.1, nI_le (by omega) (by omega), nI_le (by omega) (by omega)⟩⟩
  obtain ⟨q1, q2⟩ := kLS_eq (nF r) hP
  have hlo : ∀ x, x < 1741 → x ≠ 3 + 64 * m + 2 → rLeave r m x = r x := fun x h1 h2 => by
    unfold rLeave
    rw [rFo_lo h1, rOff_n h2]
  have hcv : ∀ m', m' < 6 → ∀ k, (m' ≠ m ∨ k ≠ 2) → cV (cLv μ s m (nF r)) s m' k = cV μ s m' k := fun m' hm' k hk => by
    unfold cV cLv
    by_cases h2 : k = 2
    · subst h2
      rw [if_neg (by omega), if_neg (by omega), if_pos rfl, if_neg (by omega), if_neg (by omega), if_pos rfl]
      simp (disch := omega) only [mI_n, mI_An]
    · simp (disch := omega) only [if_neg h2, mI_n, mI_An]
  refine ⟨⟨⟨?_, ?_, ?_, ?_, ?_, ?_, ?_, ?_⟩, ?_⟩, ?_⟩
  · rw [hlo _ (by omega) (by omega)]; unfold cLv; simp (disch := omega) only [mI_n, mI_An]; exact b1
  · rw [hlo _ (by omega) (by omega)]; unfold cLv; simp (disch := omega) only [mI_n, mI_An]; exact b2
  · rw [hlo _ (by omega) (by omega)]; unfold cLv; simp (disch := omega) only [mI_n, mI_An]; exact b3
  · have e41 : rLeave r m 1741 = nI (kL (pM (flt (rOff r m)) (nI m) (-1)) (nF r)) := by unfold rLeave; rw [rFo_n, hnf]
    rw [e41, ← q1]; unfold cLv; rw [mI_s]
  · rw [hlo _ (by omega) (by omega)]; unfold cLv; simp (disch := omega) only [mI_n, mI_An]; exact b5
  · rw [hlo _ (by omega) (by omega)]; unfold cLv; simp (disch := omega) only [mI_n, mI_An]; exact b6
  · intro m' hm'
    rw [n2] at hm'
    obtain ⟨v1, v2⟩ := b7 m' hm'
    obtain ⟨w1, w2, w3, w4⟩ := (b7.ok' oV) m' hm'
    refine ⟨fun k hk => ?_, fun tt htt => ?_⟩
    · by_cases h2 : m' = m ∧ k = 2
      · obtain ⟨rfl, rfl⟩ := h2
        have e1 : rW (rLeave r m') m' 2 = nI 0 := by
          show rLeave r m' (3 + 64 * m' + 2) = _
          unfold rLeave
          rw [rFo_lo (by omega)]
          exact upd_s
        rw [e1]
        show mI (cLv μ s m' (nF r)) (s + 5 + 3 * m') 4 = _
        unfold cLv
        rw [mI_n (by omega), mI_An (by omega), mI_s]
      · rw [hcv m' (by omega) k (by omega), show rW (rLeave r m) m' k = rW r m' k from hlo _ (by omega) (by omega)]
        exact v1 k hk
    · unfold vHas at htt
      rw [hcv m' (by omega) _ (by omega), hcv m' (by omega) _ (by omega)] at htt
      obtain ⟨j, hj, rfl⟩ := t40 (Int32.le_trans w2 htt.1) (Int32.le_trans htt.2 w4)
      have := v2 (nI j) htt
      unfold vRec at this ⊢
      rw [nI_clamp (by omega)] at this ⊢
      rw [hcv m' (by omega) _ (by omega), show rW (rLeave r m) m' (23 + j) = rW r m' (23 + j) from hlo _ (by omega) (by omega)]
      exact this
  · intro k hk
    rw [n5] at hk
    have hle := kL_le (pM (flt (rOff r m)) (nI m) (-1)) (nF r)
    have e9 : rLeave r m (1742 + k) = dF (flt r) (pM (flt (rOff r m)) (nI m) (-1)) (nF r) k := by
      unfold rLeave rFo
      rw [hnf, if_neg (by omega), if_neg (by omega), if_pos (by omega), hfl, show 1742 + k - 1742 = k by omega]
    rw [e9]
    unfold cLv
    rw [mI_n (by omega), mI_A]
    exact dF_eq hP (fun k hk => b8 k hk) (by rw [q1]; exact hk)
  · intro m' hm'
    rw [n2] at hm'
    unfold cLv
    simp (disch := omega) only [mI_n, mI_An]
    exact b9 m' hm'
  · refine (hC.mu (fun a h1 h2 k => ?_)).eq hO0 (fun x h1 h2 => hlo x h2 (by omega))
    unfold cLv; simp (disch := omega) only [mI_n, mI_An]
theorem c_128a (hW : ShR μ s c) (hB : RelB μ s r) (hO : okR r) (hx : bad x (nM r)) : Ev (d + 4) 128 [.ref 1000, .int x] μ Q = Q (some (some (.int (-1)))) μ := by
  have hW0 := hW
  obtain ⟨w0, w1, w2, w3, w4, w5, w6, w7, w8, w9, w10, w11, w12, w13, w14, w15⟩ := hW
  have hS0 := w12
  obtain ⟨q0, q1, q2, q3, q4, q5, q6, q7, q8, q9, q10, q11, q12, q13, q14, q15⟩ := w12
  have hB9 := hB
  obtain ⟨b1, b2, b3, b4, b5, b6, b7, b8⟩ := hB
  have hO0 := hO
  obtain ⟨o2, o6, o387, oT, o1708, oO, o1741, oF, o1, oq1, oq6, o0, ol1, ol40, oV, oN1, oP1, oF1⟩ := hO
  have hn : mI μ s 1 = nI (nM r) := b1.trans o2
  have hq9 : mI μ (s + 2) 1 = nI (nQ r) := b6.trans o1
  have hV := b7.ok' oV
  rw [in_128]
  simp (disch := first | omega | rfl) only [e_128_0, e_128_1, e_128_2, e_128_5, e_128_8, e_128_9, e_128_10, e_128_11, e_128_14, e_128_17, e_128_18, e_128_19, e_128_22, e_128_25, e_128_27, e_128_28, e_128_29, e_128_32, e_128_33, e_128_36, e_128_39, e_128_40, e_128_41, e_128_42, e_128_45, e_128_46, e_128_49, e_128_52, e_128_53, e_128_54, e_128_56, e_128_59, e_128_60, e_128_63, e_128_66, w0, w1, w2, w3, w4, w5, w6, w7, w8, w9, w10, q1, q2, q3, q4, q5, q6, q7, q8, q9, q10, q11, q12, q13, q14, q15, b1, b2, b3, b4, b5, b6, o2, o387, o1708, o1741, o1, o0, ge1, ule_t, true_or, or_true, nI_add, nI_mul, nI_sub, nI_clamp, nI_lt_t, nI_lt_f, nI_le_t, nI_le_f, nI_eq_t, nI_eq_f, vp_nI, tI, fI, not_true, not_false_iff, true_and, and_true, Classical.not_not, mS_uI, mS_uA, mS_uJ, mS_uR, mS_uX, mR_uI, mR_uA, mR_uJ, mR_uX, mX_uI, mX_uA, mX_uJ, mX_uR, mI_s, mI_n, mI_A, mI_An, mI_uJ, mI_uR, mI_uX, mJ_uI, mJ_uA, mJ_uR, mJ_uX, onR_s, kC_v, kC_n, kC_t, ul0, ula1, ula2, ula3, ula4, ulb2, ulb3, ulb4, ulc2, ulc3, ulc4, ule4, ulf3, ulf4, c_149f hW0 hB9 hO0 hx]
theorem c_128b (hW : ShR μ s c) (hB : RelB μ s r) (hO : okR r) (hm : m < nM r) (ha : rW r m 2 = nI 0) : Ev (d + 4) 128 [.ref 1000, .int (nI m)] μ Q = Q (some (some (.int (-4)))) μ := by
  have hW0 := hW
  obtain ⟨w0, w1, w2, w3, w4, w5, w6, w7, w8, w9, w10, w11, w12, w13, w14, w15⟩ := hW
  have hS0 := w12
  obtain ⟨q0, q1, q2, q3, q4, q5, q6, q7, q8, q9, q10, q11, q12, q13, q14, q15⟩ := w12
  have hB9 := hB
  obtain ⟨b1, b2, b3, b4, b5, b6, b7, b8⟩ := hB
  have hO0 := hO
  obtain ⟨o2, o6, o387, oT, o1708, oO, o1741, oF, o1, oq1, oq6, o0, ol1, ol40, oV, oN1, oP1, oF1⟩ := hO
  have hn : mI μ s 1 = nI (nM r) := b1.trans o2
  have hq9 : mI μ (s + 2) 1 = nI (nQ r) := b6.trans o1
  have hV := b7.ok' oV
  rw [in_128]
  simp (disch := first | omega | rfl) only [e_128_0, e_128_1, e_128_2, e_128_5, e_128_8, e_128_9, e_128_10, e_128_11, e_128_14, e_128_17, e_128_18, e_128_19, e_128_22, e_128_25, e_128_27, e_128_28, e_128_29, e_128_32, e_128_33, e_128_36, e_128_39, e_128_40, e_128_41, e_128_42, e_128_45, e_128_46, e_128_49, e_128_52, e_128_53, e_128_54, e_128_56, e_128_59, e_128_60, e_128_63, e_128_66, w0, w1, w2, w3, w4, w5, w6, w7, w8, w9, w10, q1, q2, q3, q4, q5, q6, q7, q8, q9, q10, q11, q12, q13, q14, q15, b1, b2, b3, b4, b5, b6, o2, o387, o1708, o1741, o1, o0, ge1, ule_t, true_or, or_true, nI_add, nI_mul, nI_sub, nI_clamp, nI_lt_t, nI_lt_f, nI_le_t, nI_le_f, nI_eq_t, nI_eq_f, vp_nI, tI, fI, not_true, not_false_iff, true_and, and_true, Classical.not_not, mS_uI, mS_uA, mS_uJ, mS_uR, mS_uX, mR_uI, mR_uA, mR_uJ, mR_uX, mX_uI, mX_uA, mX_uJ, mX_uR, mI_s, mI_n, mI_A, mI_An, mI_uJ, mI_uR, mI_uX, mJ_uI, mJ_uA, mJ_uR, mJ_uX, onR_s, kC_v, kC_n, kC_t, ul0, ula1, ula2, ula3, ula4, ulb2, ulb3, ulb4, ulc2, ulc3, ulc4, ule4, ulf3, ulf4, cv0, cv1, cv2, cv3, cv4, cv5, cv6, cvrec, (b7 m hm).1 0 (by omega), (b7 m hm).1 1 (by omega), (b7 m hm).1 2 (by omega), (b7 m hm).1 3 (by omega), (b7 m hm).1 4 (by omega), (b7 m hm).1 5 (by omega), (b7 m hm).1 6 (by omega), c_149t hW0 hB9 hO0 hm, ha]
theorem c_128 (hI : CI μ s c r u pr tn) (hA : AI r u pr tn) (hm : m < nM r) (ha : ¬ rW r m 2 = nI 0) (hq : ∀ μ1, FrC s c μ μ1 → CI μ1 s c (rLeave r m) (u2 u) (pr2 u pr r) tn → Q (some (some (.int (nI (fActs (rW (rLeave r m)) (nM (rLeave r m))))))) μ1) : Ev (d + 4) 128 [.ref 1000, .int (nI m)] μ Q := by
  obtain ⟨hW, hRS, hN, hC, hE, hRing⟩ := id hI
  have hO := hA.1
  have hB := hN.1
  have hW0 := hW
  obtain ⟨w0, w1, w2, w3, w4, w5, w6, w7, w8, w9, w10, w11, w12, w13, w14, w15⟩ := hW
  have hS0 := w12
  obtain ⟨q0, q1, q2, q3, q4, q5, q6, q7, q8, q9, q10, q11, q12, q13, q14, q15⟩ := w12
  have hB9 := hB
  obtain ⟨b1, b2, b3, b4, b5, b6, b7, b8⟩ := hB
  have hO0 := hO
  obtain ⟨o2, o6, o387, oT, o1708, oO, o1741, oF, o1, oq1, oq6, o0, ol1, ol40, oV, oN1, oP1, oF1⟩ := hO
  have hn : mI μ s 1 = nI (nM r) := b1.trans o2
  have hq9 : mI μ (s + 2) 1 = nI (nQ r) := b6.trans o1
  have hV := b7.ok' oV
  rw [in_128]
  simp (disch := first | omega | rfl) only [e_128_0, e_128_1, e_128_2, e_128_5, e_128_8, e_128_9, e_128_10, e_128_11, e_128_14, e_128_17, e_128_18, e_128_19, e_128_22, e_128_25, e_128_27, e_128_28, e_128_29, e_128_32, e_128_33, e_128_36, e_128_39, e_128_40, e_128_41, e_128_42, e_128_45, e_128_46, e_128_49, e_128_52, e_128_53, e_128_54, e_128_56, e_128_59, e_128_60, e_128_63, e_128_66, w0, w1, w2, w3, w4, w5, w6, w7, w8, w9, w10, q1, q2, q3, q4, q5, q6, q7, q8, q9, q10, q11, q12, q13, q14, q15, b1, b2, b3, b4, b5, b6, o2, o387, o1708, o1741, o1, o0, ge1, ule_t, true_or, or_true, nI_add, nI_mul, nI_sub, nI_clamp, nI_lt_t, nI_lt_f, nI_le_t, nI_le_f, nI_eq_t, nI_eq_f, vp_nI, tI, fI, not_true, not_false_iff, true_and, and_true, Classical.not_not, mS_uI, mS_uA, mS_uJ, mS_uR, mS_uX, mR_uI, mR_uA, mR_uJ, mR_uX, mX_uI, mX_uA, mX_uJ, mX_uR, mI_s, mI_n, mI_A, mI_An, mI_uJ, mI_uR, mI_uX, mJ_uI, mJ_uA, mJ_uR, mJ_uX, onR_s, kC_v, kC_n, kC_t, ul0, ula1, ula2, ula3, ula4, ulb2, ulb3, ulb4, ulc2, ulc3, ulc4, ule4, ulf3, ulf4, cv0, cv1, cv2, cv3, cv4, cv5, cv6, cvrec, (b7 m hm).1 0 (by omega), (b7 m hm).1 1 (by omega), (b7 m hm).1 2 (by omega), (b7 m hm).1 3 (by omega), (b7 m hm).1 4 (by omega), (b7 m hm).1 5 (by omega), (b7 m hm).1 6 (by omega), c_149t hW0 hB9 hO0 hm, ha]
  refine c_148 hI hA (fun μ1 hf hk1 hI1 => ?_)
  obtain ⟨x0, x1, x2, x3, x4, x5, x6, x7, x8, x9, x10, x11, x12, x13, x14, x15⟩ := hI1.1
  obtain ⟨y0, y1, y2, y3, y4, y5, y6, y7, y8, y9, y10, y11, y12, y13, y14, y15⟩ := x12
  obtain ⟨c1, c2, c3, c4, c5, c6, c7, c8⟩ := hI1.2.2.1.1
  have hsc : s + 22 < c ∨ c + 4 < s := by omega
  have hlv := ok_leave hO0 hA.2.1.1 hA.2.1.2 hm
  have hrel := rel_leave hsc hI1.2.2.1 hI1.2.2.2.1 hO0 hA.2.1.1 hA.2.1.2 hm
  have hfr := cLv_fr (μ := μ1) (s := s) (c := c) (m := m) (n := nF r) (by omega)
  have hI2 := hI1.step hA.pp hfr (fun k => by unfold cLv; simp (disch := omega) only [mI_n, mI_An]) (fun k hk => by unfold cLv; simp (disch := omega) only [mI_n, mI_An]) (fun k hk => by unfold cLv; simp (disch := omega) only [mI_n, mI_An]) (fun k hk => by unfold cLv; simp (disch := omega) only [mI_n, mI_An]) hA.p8 hrel.1 hrel.2
  have h79 := fun (d : Nat) (Q : Po) => c_79 (d := d) (Q := Q) hI2.1 hI2.2.2.1.1 hlv.1
  have h38 := fun (d : Nat) (Q : Po) => s_38 (d := d) (Q := Q) (μ := uI μ1 (s + 5 + 3 * m) 4 (nI 0)) (s := s) (n := nF r) (x := nI m) (y := nI 0) (g := nI 39) hI1.1.2.2.2.2.2.2.2.2.2.2.2.2.1.fa (by rw [mI_n (by omega)]; exact c4.trans o1741) oF
  rw [mI_nf (by omega)] at h38
  have e5 : uI (uA (uI μ1 (s + 5 + 3 * m) 4 (nI 0)) (s + 4) (dF (mI μ1 (s + 4)) (pK (mI μ1 (s + 4)) (nI m) (nI 0) (nI 39)) (nF r))) (s + 3) 1 (nI (kL (pK (mI μ1 (s + 4)) (nI m) (nI 0) (nI 39)) (nF r))) = cLv μ1 s m (nF r) := rfl
  rw [e5] at h38
  have t1 : mR (cLv μ1 s m (nF r)) 1000 0 = some s := x1
  have t2 : mS (cLv μ1 s m (nF r)) 1000 = (11, 11) := x0
  have t3 : mS (cLv μ1 s m (nF r)) s = (9, 6) := y1
  simp (disch := first | omega | rfl) only [e_128_0, e_128_1, e_128_2, e_128_5, e_128_8, e_128_9, e_128_10, e_128_11, e_128_14, e_128_17, e_128_18, e_128_19, e_128_22, e_128_25, e_128_27, e_128_28, e_128_29, e_128_32, e_128_33, e_128_36, e_128_39, e_128_40, e_128_41, e_128_42, e_128_45, e_128_46, e_128_49, e_128_52, e_128_53, e_128_54, e_128_56, e_128_59, e_128_60, e_128_63, e_128_66, kC_n, x0, x1, x2, x3, x4, x5, x6, x7, x8, x9, x10, y0, y1, y2, y3, y4, y5, y6, y7, y8, y9, y10, y11, y12, y13, y14, y15, c1, c2, c3, c4, c5, c6, o2, o387, o1708, o1741, o1, o0, ge1, ule_t, true_or, or_true, nI_add, nI_mul, nI_sub, nI_clamp, nI_lt_t, nI_lt_f, nI_le_t, nI_le_f, nI_eq_t, nI_eq_f, vp_nI, tI, fI, not_true, not_false_iff, true_and, and_true, Classical.not_not, mS_uI, mS_uA, mS_uJ, mS_uR, mS_uX, mR_uI, mR_uA, mR_uJ, mR_uX, mX_uI, mX_uA, mX_uJ, mX_uR, mI_s, mI_n, mI_A, mI_An, mI_uJ, mI_uR, mI_uX, mJ_uI, mJ_uA, mJ_uR, mJ_uX, onR_s, kC_v, kC_n, kC_t, h38, t1, t2, t3, h79]
  exact hq _ (FrC.of hf hk1 hfr ⟨x14, x15⟩) hI2
end LvC
section LvM
variable {d : Nat} {Q : Po} {μ : Mu} {m n i j k t u N : Nat} {x y z : Int32} {r : Nat → Int32} {l3 l4 l5 : Option Value}
end LvM


