/-! a turn executed: the room -/
def exF (μ : Mu) (s m t : Nat) (r : Nat → Int32) : Nat → Int32 := fErr (flt r) (nI m) (nI t) (nF r) (fT r t (mI μ (s + 6 + 3 * m)))
def exP (μ : Mu) (s m t : Nat) : Nat → Bool := pK (mI μ (s + 4)) (nI m) (nI t) (nI t)
def cEx (μ : Mu) (s m t : Nat) (r : Nat → Int32) : Mu := uI (uA (uI (uI (uA (uA μ (s + 6 + 3 * m) (exF μ s m t r)) (s + 4) (dF (mI μ (s + 4)) (exP μ s m t) (nF r))) (s + 3) 1 (nI (kL (exP μ s m t) (nF r)))) (s + 5 + 3 * m) 3 (nI (t + 1))) 1064 (fTree (exF μ s m t r) (mI μ 1064))) (s + 7 + 3 * m) (t + 1) (fTree (exF μ s m t r) (mI μ 1064) 1)
section ExC
variable {d : Nat} {Q : Po} {μ : Mu} {s c m n q i j k t z u σ o N : Nat} {x y g v w : Int32} {r tn : Nat → Int32} {pr : Nat → Nat → Int32} {l5 : Option Value}
theorem cEx_fr (hm : m < 6) : Fr (fun a => (s ≤ a ∧ a ≤ s + 22) ∨ (c ≤ a ∧ a ≤ c + 4) ∨ (1062 ≤ a ∧ a ≤ 1067)) μ (cEx μ s m t r) := by
  unfold cEx
  exact ((((((Fr.refl.au (Or.inl (by omega))).au (Or.inl (by omega))).iu (Or.inl (by omega))).iu (Or.inl (by omega))).au (Or.inr (Or.inr (by omega)))).iu (Or.inl (by omega)))
theorem exP_eq (hB : RelB μ s r) (hO : okR r) (ht : t < 40) : ∀ k, k < nF r → exP μ s m t k = pM (flt r) (nI m) (nI t) k := fun k hk => by
  have b8 := hB.2.2.2.2.2.2.2
  unfold exP pK pM
  have e1 : mI μ (s + 4) (4 * k) = flt r (4 * k) := b8 _ (by omega)
  have e2 : mI μ (s + 4) (4 * k + 1) = flt r (4 * k + 1) := b8 _ (by omega)
  rw [e1, e2]
  congr 1
  apply decide_eq_decide.mpr
  have e3 : (nI t = -1) = False := nI_m1 (by omega)
  constructor
  · intro h
    exact ⟨h.1, Or.inr (Eq.mp eq_ge h.2)⟩
  · intro h
    refine ⟨h.1, Eq.mpr eq_ge (h.2.resolve_left (fun z => ?_))⟩
    rw [e3] at z
    exact z
theorem cEx_rel (hsh : (s = 1001 ∨ s = 1032) ∧ (c = 1024 ∨ c = 1055)) (hN : RelN μ s r tn) (hC : RelC μ c r) (hO : okR r) (hR : RN2 r) (hm : m < nM r) (ht : nE (rW r) m < nT r) : RelN (cEx μ s m (nE (rW r) m) r) s (rEx r m) tn ∧ RelC (cEx μ s m (nE (rW r) m) r) c (rEx r m) := by
  have hO0 := hO
  obtain ⟨x1, x2, n2, n3, n4, n5, n8⟩ := ok_ex hO hR hm ht
  have hB := hN.1
  have hP := exP_eq (m := m) hB hO (show nE (rW r) m < 40 by have := hO.2.2.2.1; omega)
  obtain ⟨o2, o6, o387, oT, o1708, oO, o1741, oF, o1, oq1, oq6, o0, ol1, ol40, oV, oN1, oP1, oF1⟩ := hO
  obtain ⟨⟨b1, b2, b3, b4, b5, b6, b7, b8⟩, b9⟩ := hN
  have h6 : m < 6 := by omega
  have h39 : nE (rW r) m < 40 := by omega
  obtain ⟨hs, hc⟩ := hsh
  have hV := b7.ok' oV
  obtain ⟨q1, q2⟩ := kLS_eq (nF r) hP
  have vE := okBE oV hm
  have hx : EqL (exF μ s m (nE (rW r) m) r) (xC r m) := by
    have h0 : EqL (mI μ (s + 6 + 3 * m)) (vC r m) := fun k hk => by
      rw [cvc hk]
      exact (b7 m hm).1 (7 + k) (by omega)
    exact EqL.err (h0.turn (okP_z oP1 ht).2.2 _ (Nat.le_refl _)) (okF_c oF1) _ (Nat.le_refl _)
  have hcv : ∀ m', m' < 6 → m' ≠ m → ∀ k, cV (cEx μ s m (nE (rW r) m) r) s m' k = cV μ s m' k := fun m' hm' hne k => by
    unfold cV cEx
    simp (disch := omega) only [mI_n, mI_An]
  have hcm : ∀ k, k ≠ 1 → (k < 7 ∨ 23 ≤ k) → k ≠ 24 + nE (rW r) m → cV (cEx μ s m (nE (rW r) m) r) s m k = cV μ s m k := fun k k1 k2 k3 => by
    unfold cV cEx
    by_cases h7 : k < 7
    · rcases (by omega : k = 0 ∨ k = 2 ∨ k = 3 ∨ k = 4 ∨ k = 5 ∨ k = 6) with rfl | rfl | rfl | rfl | rfl | rfl <;> simp (disch := omega) [mI_n, mI_An]
    · rw [if_neg (by omega), if_neg (by omega), if_neg (by omega), if_neg (by omega), if_neg (by omega), if_neg (by omega), if_neg (by omega), if_neg (by omega), if_neg (by omega), if_neg (by omega), if_neg (by omega), if_neg (by omega), if_neg (by omega), if_neg (by omega), if_neg (by omega), if_neg (by omega)]
      simp (disch := omega) only [mI_n, mI_An]
  have hc1 : cV (cEx μ s m (nE (rW r) m) r) s m 1 = nI (nE (rW r) m + 1) := by
    show mI (cEx μ s m (nE (rW r) m) r) (s + 5 + 3 * m) 3 = _
    unfold cEx
    simp (disch := omega) only [mI_n, mI_An, mI_s]
  have hcc : ∀ c', c' < 16 → cV (cEx μ s m (nE (rW r) m) r) s m (7 + c') = xC r m c' := fun c' hc' => by
    rw [← cvc hc']
    unfold cEx
    simp (disch := omega) only [mI_n, mI_An, mI_A]
    exact hx c' hc'
  have hcr : cV (cEx μ s m (nE (rW r) m) r) s m (24 + nE (rW r) m) = fCk (rW (rX3 r m)) m 1 := by
    have := cvr (μ := cEx μ s m (nE (rW r) m) r) (s := s) (m := m) (k := nE (rW r) m + 1)
    rw [show 23 + (nE (rW r) m + 1) = 24 + nE (rW r) m by omega] at this
    rw [← this, rEx_ck h6]
    unfold cEx
    rw [mI_s]
    exact fTree_eq hx (by omega) (by omega)
  refine ⟨⟨⟨?_, ?_, ?_, ?_, ?_, ?_, ?_, ?_⟩, ?_⟩, ?_⟩
  · rw [rEx_lo h6 h39 (by omega) (by omega)]; unfold cEx; simp (disch := omega) only [mI_n, mI_An]; exact b1
  · rw [rEx_lo h6 h39 (by omega) (by omega)]; unfold cEx; simp (disch := omega) only [mI_n, mI_An]; exact b2
  · rw [rEx_lo h6 h39 (by omega) (by omega)]; unfold cEx; simp (disch := omega) only [mI_n, mI_An]; exact b3
  · have e41 : rEx r m 1741 = nI (kL (pM (flt r) (nI m) (nI (nE (rW r) m))) (nF r)) := by rw [rEx_n (by omega), rX3_hi h6 (by omega), rFo_n, rX1_nF h6]
    rw [e41, ← q1]; unfold cEx; simp (disch := omega) only [mI_n, mI_An, mI_s]
  · rw [rEx_lo h6 h39 (by omega) (by omega)]; unfold cEx; simp (disch := omega) only [mI_n, mI_An]; exact b5
  · rw [rEx_lo h6 h39 (by omega) (by omega)]; unfold cEx; simp (disch := omega) only [mI_n, mI_An]; exact b6
  · intro m' hm'
    rw [n2] at hm'
    by_cases hmm : m' = m
    · subst hmm
      obtain ⟨v1, v2⟩ := b7 m' hm'
      obtain ⟨w1, w2, w3, w4⟩ := hV m' hm'
      have e1 : cV μ s m' 1 = nI (nE (rW r) m') := (v1 1 (by omega)).trans vE.2.1
      refine ⟨fun k hk => ?_, fun tt htt => ?_⟩
      · by_cases k1 : k = 1
        · subst k1; rw [hc1, rEx_V1 h39]
        · by_cases k7 : k < 7
          · rw [hcm k k1 (Or.inl k7) (by omega), rEx_Vm h6 h39 (by omega) k1 (Or.inl k7) (by omega)]
            exact v1 k hk
          · obtain ⟨c', rfl⟩ : ∃ c', k = 7 + c' := ⟨k - 7, by omega⟩
            rw [hcc c' (by omega), rEx_Vc h6 h39 (by omega)]
      · unfold vHas at htt
        rw [hcm 6 (by omega) (by omega) (by omega), hc1] at htt
        obtain ⟨j, hj, rfl⟩ := t40 (Int32.le_trans w2 htt.1) (Int32.le_trans htt.2 (nI_le (by omega) (by omega)))
        have hj2 := (nI_leI (a := j) (b := nE (rW r) m' + 1) (by omega) (by omega)).mp htt.2
        unfold vRec
        rw [nI_clamp (by omega)]
        by_cases hjt : j = nE (rW r) m' + 1
        · subst hjt
          rw [show 23 + (nE (rW r) m' + 1) = 24 + nE (rW r) m' by omega, hcr]
          exact rEx_root.symm
        · rw [hcm _ (by omega) (by omega) (by omega), rEx_Vm h6 h39 (by omega) (by omega) (by omega) (by omega)]
          have := v2 (nI j) ⟨htt.1, by rw [e1]; exact nI_le (by omega) (by omega)⟩
          unfold vRec at this
          rw [nI_clamp (by omega)] at this
          exact this
    · obtain ⟨v1, v2⟩ := b7 m' hm'
      obtain ⟨w1, w2, w3, w4⟩ := hV m' hm'
      refine ⟨fun k hk => by rw [hcv m' (by omega) hmm, rEx_V h6 h39 (by omega) hmm (by omega)]; exact v1 k hk, fun tt htt => ?_⟩
      unfold vHas at htt
      rw [hcv m' (by omega) hmm, hcv m' (by omega) hmm] at htt
      obtain ⟨j, hj, rfl⟩ := t40 (Int32.le_trans w2 htt.1) (Int32.le_trans htt.2 w4)
      have := v2 (nI j) htt
      unfold vRec at this ⊢
      rw [nI_clamp (by omega)] at this ⊢
      rw [hcv m' (by omega) hmm, rEx_V h6 h39 (by omega) hmm (by omega)]
      exact this
  · intro k hk
    rw [n5] at hk
    have e8 : rEx r m (1742 + k) = rFo (rX1 r m (xC r m)) (pM (flt r) (nI m) (nI (nE (rW r) m))) (1742 + k) := by rw [rEx_n (by omega), rX3_hi h6 (by omega)]
    have hnF1 : nF (rX1 r m (xC r m)) = nF r := rX1_nF h6
    have e9 : rFo (rX1 r m (xC r m)) (pM (flt r) (nI m) (nI (nE (rW r) m))) (1742 + k) = dF (flt r) (pM (flt r) (nI m) (nI (nE (rW r) m))) (nF r) k := by
      unfold rFo
      rw [hnF1, if_neg (by omega), if_neg (by omega), if_pos (by omega), rX1_flt h6, show 1742 + k - 1742 = k by omega]
    rw [e8, e9]
    unfold cEx
    simp (disch := omega) only [mI_n, mI_An, mI_A]
    exact dF_eq hP (fun k hk => b8 k hk) (by rw [q1]; exact hk)
  · intro m' hm'
    rw [n2] at hm'
    unfold cEx
    simp (disch := omega) only [mI_n, mI_An]
    exact b9 m' hm'
  · refine (hC.mu (fun a h1 h2 k => ?_)).eq hO0 (fun x h1 h2 => ?_)
    · unfold cEx; simp (disch := omega) only [mI_n, mI_An]
    · by_cases hx7 : x = 387
      · subst hx7; exact rEx_lo h6 h39 (by omega) (by omega)
      · exact rEx_lo h6 h39 h2 (by omega)
/-- the frame of executing -/
def FrX (s c : Nat) (μ μ1 : Mu) : Prop := Fr (fun a => (s ≤ a ∧ a ≤ s + 22) ∨ (c ≤ a ∧ a ≤ c + 4) ∨ (1062 ≤ a ∧ a ≤ 1067)) μ μ1
theorem CI.ex (hI : CI μ s c r u pr tn) (hO : okR r) (hR : RN2 r) (hP : ∀ j, j < u → okR (pr j) ∧ SLe (pr j) r) (hm : m < nM r) (ht : nE (rW r) m < nT r) : CI (cEx μ s m (nE (rW r) m) r) s c (rEx r m) u pr tn := by
  obtain ⟨-, -, -, -, -, -, -, -, -, -, -, -, -, -, w14, w15⟩ := hI.1
  have hrel := cEx_rel ⟨w14, w15⟩ hI.2.2.1 hI.2.2.2.1 hO hR hm ht
  have h6 := hO.2.1
  refine hI.step hP (cEx_fr (by omega)) ?_ ?_ ?_ ?_ (fun j hj => (hP j hj).1.2.2.2.2.2.1) hrel.1 hrel.2
  · intro k; unfold cEx; simp (disch := omega) only [mI_n, mI_An]
  · intro k hk; unfold cEx; simp (disch := omega) only [mI_n, mI_An]
  · intro k hk; unfold cEx; simp (disch := omega) only [mI_n, mI_An]
  · intro k hk; unfold cEx; simp (disch := omega) only [mI_n, mI_An]
theorem step_144 (hI : CI μ s c r u pr tn) (hO : okR r) (hR : RN2 r) (hm : m < nM r) (ht : nE (rW r) m < nT r) (hk : k < N) (hN : N < 1000) : EM 144 (d + 4) 13 [some (.ref 1000), some (.int (nI m)), some (.int (nI N)), some (.ref (s + 5 + 3 * m)), some (.int (nI k)), l5] [] μ (0, 0) Q = EM 144 (d + 4) 13 [some (.ref 1000), some (.int (nI m)), some (.int (nI N)), some (.ref (s + 5 + 3 * m)), some (.int (nI (k + 1))), some (.int (nI (nE (rW r) m)))] [] (cEx μ s m (nE (rW r) m) r) (0, 0) Q := by
  obtain ⟨hW, hRS, hNN, hC, hE, hRing⟩ := hI
  have hB := hNN.1
  have hW0 := hW
  obtain ⟨w0, w1, w2, w3, w4, w5, w6, w7, w8, w9, w10, w11, w12, w13, w14, w15⟩ := hW
  have hS0 := w12
  obtain ⟨q0, q1, q2, q3, q4, q5, q6, q7, q8, q9, q10, q11, q12, q13, q14, q15⟩ := w12
  have hB9 := hB
  obtain ⟨b1, b2, b3, b4, b5, b6, b7, b8⟩ := hB
  have hO0 := hO
  obtain ⟨o2, o6, o387, oT, o1708, oO, o1741, oF, o1, oq1, oq6, o0, ol1, ol40, oV, oN1, oP1, oF1⟩ := hO
  have hn : mI μ s 1 = nI (nM r) := b1.trans o2
  have hq9 : mI μ (s + 2) 1 = nI (nQ r) := b6.trans o1
  have hV := b7.ok' oV
  have vE := okBE oV hm
  have e1 : mI μ (s + 5 + 3 * m) 3 = nI (nE (rW r) m) := ((b7 m hm).1 1 (by omega)).trans vE.2.1
  have ha := q14 m (by omega)
  have h68 := fun (d : Nat) (Q : Po) => c_68 (d := d) (Q := Q) (a := s + 6 + 3 * m) w13 hC hO0 ht ha (by omega) (by omega)
  have h37 := fun (d : Nat) (Q : Po) (F : Nat → Int32) => c_37a (d := d) (Q := Q) (a := s + 6 + 3 * m) (x := nI m) (y := nI (nE (rW r) m)) hS0.fa b4 b8 hO0 ha (by omega) (by omega) (by omega) F
  have h38 := fun (d : Nat) (Q : Po) (F : Nat → Int32) => s_38 (d := d) (Q := Q) (μ := uA μ (s + 6 + 3 * m) F) (s := s) (n := nF r) (x := nI m) (y := nI (nE (rW r) m)) (g := nI (nE (rW r) m)) hS0.fa (by rw [mI_An (by omega)]; exact b4.trans o1741) oF
  simp only [mI_Anf (show s + 4 ≠ s + 6 + 3 * m by omega)] at h38
  have h31 := fun (d : Nat) (Q : Po) (μ2 : Mu) (hD : ShD μ2) (h : mS μ2 (s + 6 + 3 * m) = (20, 16)) => s_31 (d := d) (Q := Q) (a := s + 6 + 3 * m) hD h (by omega)
  rw [e_144_13]
  have hex : fErr (flt r) (nI m) (nI (nE (rW r) m)) (nF r) (fT r (nE (rW r) m) (mI μ (s + 6 + 3 * m))) = exF μ s m (nE (rW r) m) r := rfl
  have hpp : pK (mI μ (s + 4)) (nI m) (nI (nE (rW r) m)) (nI (nE (rW r) m)) = exP μ s m (nE (rW r) m) := rfl
  have h31b := fun (d : Nat) (Q : Po) => h31 d Q (uI (uI (uA (uA μ (s + 6 + 3 * m) (exF μ s m (nE (rW r) m) r)) (s + 4) (dF (mI μ (s + 4)) (exP μ s m (nE (rW r) m)) (nF r))) (s + 3) 1 (nI (kL (exP μ s m (nE (rW r) m)) (nF r)))) (s + 5 + 3 * m) 3 (nI (nE (rW r) m + 1))) w11 ha
  have t1 : mI (uI (uI (uA (uA μ (s + 6 + 3 * m) (exF μ s m (nE (rW r) m) r)) (s + 4) (dF (mI μ (s + 4)) (exP μ s m (nE (rW r) m)) (nF r))) (s + 3) 1 (nI (kL (exP μ s m (nE (rW r) m)) (nF r)))) (s + 5 + 3 * m) 3 (nI (nE (rW r) m + 1))) (s + 6 + 3 * m) = exF μ s m (nE (rW r) m) r := by
    rw [mI_nf (by omega), mI_nf (by omega), mI_Anf (by omega), mI_Af]
  have t2 : mI (uI (uI (uA (uA μ (s + 6 + 3 * m) (exF μ s m (nE (rW r) m) r)) (s + 4) (dF (mI μ (s + 4)) (exP μ s m (nE (rW r) m)) (nF r))) (s + 3) 1 (nI (kL (exP μ s m (nE (rW r) m)) (nF r)))) (s + 5 + 3 * m) 3 (nI (nE (rW r) m + 1))) 1064 = mI μ 1064 := by
    rw [mI_nf (by omega), mI_nf (by omega), mI_Anf (by omega), mI_Anf (by omega)]
  rw [t1, t2] at h31b
  simp (disch := first | omega | rfl) only [e_144_0, e_144_1, e_144_4, e_144_7, e_144_8, e_144_9, e_144_10, e_144_11, e_144_15, e_144_16, e_144_19, e_144_20, e_144_23, e_144_24, e_144_27, e_144_30, e_144_33, e_144_34, e_144_37, e_144_39, e_144_40, e_144_43, e_144_45, e_144_46, e_144_49, e_144_52, e_144_53, e_144_56, e_144_59, e_144_60, e_144_63, e_144_64, e_144_66, e_144_69, e_144_70, e_144_73, e_144_76, e_144_77, e_144_79, e_144_81, e_144_84, e_144_85, e_144_87, e_144_88, e_144_89, e_144_92, e_144_93, e_144_96, e_144_98, e_144_99, e_144_100, e_144_101, e_144_104, e_144_105, e_144_108, e_144_111, e_144_112, e_144_115, e_144_118, w0, w1, w2, w3, w4, w5, w6, w7, w8, w9, w10, q1, q2, q3, q4, q5, q6, q7, q8, q9, q10, q11, q12, q13, q14, q15, b1, b2, b3, b4, b5, b6, o2, o387, o1708, o1741, o1, o0, ge1, ule_t, true_or, or_true, nI_add, nI_mul, nI_sub, nI_clamp, nI_lt_t, nI_lt_f, nI_le_t, nI_le_f, nI_eq_t, nI_eq_f, vp_nI, tI, fI, not_true, not_false_iff, true_and, and_true, Classical.not_not, mS_uI, mS_uA, mS_uJ, mS_uR, mS_uX, mR_uI, mR_uA, mR_uJ, mR_uX, mX_uI, mX_uA, mX_uJ, mX_uR, mI_s, mI_n, mI_A, mI_An, mI_uJ, mI_uR, mI_uX, mJ_uI, mJ_uA, mJ_uR, mJ_uX, onR_s, kC_v, kC_n, kC_t, ul0, ula1, ula2, ula3, ula4, ulb2, ulb3, ulb4, ulc2, ulc3, ulc4, ule4, ulf3, ulf4, e1, w13.2.1, w11.1, h68, h37, hex, h38, hpp, h31b]
  rfl
theorem rExN_s (r : Nat → Int32) (m : Nat) : ∀ n, rExN (rEx r m) m n = rExN r m (n + 1)
  | 0 => rfl
  | n + 1 => by rw [rExN, rExN_s r m n]; rfl
theorem c_144 : ∀ N' (k : Nat) (μ : Mu) (r : Nat → Int32) (l5 : Option Value), CI μ s c r u pr tn → okR r → RN2 r → (∀ j, j < u → okR (pr j) ∧ SLe (pr j) r) → m < nM r → nE (rW r) m + N' ≤ nT r → k + N' = N → N < 1000 → (∀ μ', FrX s c μ μ' → CI μ' s c (rExN r m N') u pr tn → Q (some none) μ') → EM 144 (d + 4) 13 [some (.ref 1000), some (.int (nI m)), some (.int (nI N)), some (.ref (s + 5 + 3 * m)), some (.int (nI k)), l5] [] μ (0, 0) Q := by
  intro N'
  induction N' with
  | zero =>
    intro k μ r l5 hI hO hR hP hm ht hk hN hq
    obtain rfl : k = N := by omega
    rw [e_144_13]
    simp (disch := first | omega | rfl) only [e_144_0, e_144_1, e_144_4, e_144_7, e_144_8, e_144_9, e_144_10, e_144_11, e_144_15, e_144_16, e_144_19, e_144_20, e_144_23, e_144_24, e_144_27, e_144_30, e_144_33, e_144_34, e_144_37, e_144_39, e_144_40, e_144_43, e_144_45, e_144_46, e_144_49, e_144_52, e_144_53, e_144_56, e_144_59, e_144_60, e_144_63, e_144_64, e_144_66, e_144_69, e_144_70, e_144_73, e_144_76, e_144_77, e_144_79, e_144_81, e_144_84, e_144_85, e_144_87, e_144_88, e_144_89, e_144_92, e_144_93, e_144_96, e_144_98, e_144_99, e_144_100, e_144_101, e_144_104, e_144_105, e_144_108, e_144_111, e_144_112, e_144_115, e_144_118, ge1, ule_t, true_or, or_true, nI_add, nI_mul, nI_sub, nI_clamp, nI_lt_t, nI_lt_f, nI_le_t, nI_le_f, nI_eq_t, nI_eq_f, vp_nI, tI, fI, not_true, not_false_iff, true_and, and_true, Classical.not_not, mS_uI, mS_uA, mS_uJ, mS_uR, mS_uX, mR_uI, mR_uA, mR_uJ, mR_uX, mX_uI, mX_uA, mX_uJ, mX_uR, mI_s, mI_n, mI_A, mI_An, mI_uJ, mI_uR, mI_uX, mJ_uI, mJ_uA, mJ_uR, mJ_uX, onR_s, kC_v, kC_n, kC_t]
    exact hq μ Fr.refl hI
  | succ N' ih =>
    intro k μ r l5 hI hO hR hP hm ht hk hN hq
    rw [step_144 hI hO hR hm (by omega) (by omega) hN]
    obtain ⟨a1, a2, a3, a4, a5, a6, a7⟩ := ok_ex hO hR hm (by omega)
    refine ih (k + 1) _ (rEx r m) _ (hI.ex hO hR hP hm (by omega)) a1 a2 (fun j hj => ⟨(hP j hj).1, ?_⟩) (by omega) (by omega) (by omega) hN (fun μ' hf hI' => ?_)
    · have := (hP j hj).2
      unfold SLe at this ⊢
      omega
    · rw [rExN_s] at hI'
      exact hq μ' ((cEx_fr (by have := hO.2.1; omega)).trans hf) hI'
theorem c_144e (hI : CI μ s c r u pr tn) (hO : okR r) (hR : RN2 r) (hP : ∀ j, j < u → okR (pr j) ∧ SLe (pr j) r) (hm : m < nM r) (ht : nE (rW r) m + N ≤ nT r) (hq : ∀ μ', FrX s c μ μ' → CI μ' s c (rExN r m N) u pr tn → Q (some none) μ') : Ev (d + 5) 144 [.ref 1000, .int (nI m), .int (nI N)] μ Q := by
  have hI0 := hI
  obtain ⟨hW, hRS, hNN, hC, hE, hRing⟩ := hI
  have hB := hNN.1
  have hW0 := hW
  obtain ⟨w0, w1, w2, w3, w4, w5, w6, w7, w8, w9, w10, w11, w12, w13, w14, w15⟩ := hW
  have hS0 := w12
  obtain ⟨q0, q1, q2, q3, q4, q5, q6, q7, q8, q9, q10, q11, q12, q13, q14, q15⟩ := w12
  have hB9 := hB
  obtain ⟨b1, b2, b3, b4, b5, b6, b7, b8⟩ := hB
  have hO0 := hO
  obtain ⟨o2, o6, o387, oT, o1708, oO, o1741, oF, o1, oq1, oq6, o0, ol1, ol40, oV, oN1, oP1, oF1⟩ := hO
  have hn : mI μ s 1 = nI (nM r) := b1.trans o2
  have hq9 : mI μ (s + 2) 1 = nI (nQ r) := b6.trans o1
  have hV := b7.ok' oV
  rw [in_144]
  simp (disch := first | omega | rfl) only [e_144_0, e_144_1, e_144_4, e_144_7, e_144_8, e_144_9, e_144_10, e_144_11, e_144_15, e_144_16, e_144_19, e_144_20, e_144_23, e_144_24, e_144_27, e_144_30, e_144_33, e_144_34, e_144_37, e_144_39, e_144_40, e_144_43, e_144_45, e_144_46, e_144_49, e_144_52, e_144_53, e_144_56, e_144_59, e_144_60, e_144_63, e_144_64, e_144_66, e_144_69, e_144_70, e_144_73, e_144_76, e_144_77, e_144_79, e_144_81, e_144_84, e_144_85, e_144_87, e_144_88, e_144_89, e_144_92, e_144_93, e_144_96, e_144_98, e_144_99, e_144_100, e_144_101, e_144_104, e_144_105, e_144_108, e_144_111, e_144_112, e_144_115, e_144_118, w0, w1, w2, w3, w4, w5, w6, w7, w8, w9, w10, q1, q2, q3, q4, q5, q6, q7, q8, q9, q10, q11, q12, q13, q14, q15, b1, b2, b3, b4, b5, b6, o2, o387, o1708, o1741, o1, o0, ge1, ule_t, true_or, or_true, nI_add, nI_mul, nI_sub, nI_clamp, nI_lt_t, nI_lt_f, nI_le_t, nI_le_f, nI_eq_t, nI_eq_f, vp_nI, tI, fI, not_true, not_false_iff, true_and, and_true, Classical.not_not, mS_uI, mS_uA, mS_uJ, mS_uR, mS_uX, mR_uI, mR_uA, mR_uJ, mR_uX, mX_uI, mX_uA, mX_uJ, mX_uR, mI_s, mI_n, mI_A, mI_An, mI_uJ, mI_uR, mI_uX, mJ_uI, mJ_uA, mJ_uR, mJ_uX, onR_s, kC_v, kC_n, kC_t, ul0, ula1, ula2, ula3, ula4, ulb2, ulb3, ulb4, ulc2, ulc3, ulc4, ule4, ulf3, ulf4]
  exact c_144 N 0 μ r none hI0 hO0 hR hP hm ht (by omega) (by omega) hq
/-- how far one may go -/
theorem fExt_nI {V : VW} {n0 : Nat} {g : Int32} (hV : okV V n0) : ∀ n, n ≤ n0 → (fExt V g n = -1 ∧ ∀ m, m < n → V m 2 = nI 0) ∨ ∃ lo, lo ≤ 40 ∧ fExt V g n = nI lo
  | 0, _ => Or.inl ⟨rfl, fun m hm => absurd hm (Nat.not_lt_zero m)⟩
  | n + 1, hn => by
    have ih := fExt_nI (g := g) hV n (by omega)
    obtain ⟨v1, v2, v3, v4⟩ := okBE hV (show n < n0 by omega)
    rw [fExt.eq_2]
    by_cases ha : V n 2 = nI 0
    · rw [if_pos ha]
      rcases ih with ⟨h1, h2⟩ | h
      · exact Or.inl ⟨h1, fun m hm => by
          by_cases hmn : m = n
          · rw [hmn]; exact ha
          · exact h2 m (by omega)⟩
      · exact Or.inr h
    · rw [if_neg ha]
      right
      rcases ih with ⟨h1, h2⟩ | ⟨lo, h1, h2⟩
      · rw [if_pos h1]; exact ⟨_, v4, v2⟩
      · rw [h2, if_neg (show ¬ nI lo = -1 from fun z => by rw [nI_m1 (by omega)] at z; exact z), v2]
        by_cases hg : g = nI 0
        · rw [if_pos hg]
          split
          · exact ⟨_, v4, rfl⟩
          · exact ⟨_, h1, rfl⟩
        · rw [if_neg hg]
          split
          · exact ⟨_, v4, rfl⟩
          · exact ⟨_, h1, rfl⟩
def laN (r : Nat → Int32) : Nat := (fLast r).toNatClampNeg
theorem fLast_ok (hO : okR r) (hm : m < nM r) (ha : ¬ rW r m 2 = nI 0) : fLast r = nI (laN r) ∧ laN r ≤ nT r := by
  obtain ⟨o2, o6, o387, oT, o1708, oO, o1741, oF, o1, oq1, oq6, o0, ol1, ol40, oV, oN1, oP1, oF1⟩ := hO
  rcases fExt_nI (g := nI 0) oV (nM r) (Nat.le_refl _) with ⟨-, h⟩ | ⟨lo, h1, h2⟩
  · exact absurd (h m hm) ha
  · have e : fLast r = nI (if lo + nL r < nT r then lo + nL r else nT r) := by
      unfold fLast
      rw [h2, o387, o0, nI_add, aMin_nI (by omega) (by omega)]
    have e2 : laN r = (if lo + nL r < nT r then lo + nL r else nT r) := by
      unfold laN
      rw [e]; exact nI_clamp (by split <;> omega)
    rw [e2]
    refine ⟨e, ?_⟩
    split <;> omega
theorem up_ok {la e : Nat} (hla : la ≤ 40) (he : e ≤ 40) : aMax (nI 0) (nI la - nI e) = nI (la - e) := by
  by_cases h : e ≤ la
  · rw [nI_sub h, aMax_nI (by omega) (by omega)]
    congr 1
    split <;> omega
  · have e1 : (nI la - nI e) < nI 0 := by
      have h2 : nI la - nI e = -(nI (e - la)) := by
        rw [← nI_sub (show la ≤ e by omega), Int32.neg_sub]
      rw [h2]
      apply Int32.lt_iff_toInt_lt.mpr
      rw [Int32.toInt_neg, nI_toInt (by omega), nI_toInt (by omega), Int.bmod_eq_of_le (by omega) (by omega)]
      omega
    unfold aMax
    rw [if_neg (fun z => Int32.not_le.mpr e1 (Int32.le_of_lt z)), show la - e = 0 by omega]
theorem c_142a (hW : ShR μ s c) (hB : RelB μ s r) (hO : okR r) (hx : bad x (nM r)) : Ev (d + 6) 142 [.ref 1000, .int x, .int y] μ Q = Q (some (some (.int (-1)))) μ := by
  have hW0 := hW
  obtain ⟨w0, w1, w2, w3, w4, w5, w6, w7, w8, w9, w10, w11, w12, w13, w14, w15⟩ := hW
  have hS0 := w12
  obtain ⟨q0, q1, q2, q3, q4, q5, q6, q7, q8, q9, q10, q11, q12, q13, q14, q15⟩ := w12
  have hB9 := hB
  obtain ⟨b1, b2, b3, b4, b5, b6, b7, b8⟩ := hB
  have hO0 := hO
  obtain ⟨o2, o6, o387, oT, o1708, oO, o1741, oF, o1, oq1, oq6, o0, ol1, ol40, oV, oN1, oP1, oF1⟩ := hO
  have hn : mI μ s 1 = nI (nM r) := b1.trans o2
  have hq9 : mI μ (s + 2) 1 = nI (nQ r) := b6.trans o1
  have hV := b7.ok' oV
  rw [in_142]
  simp (disch := first | omega | rfl) only [e_142_0, e_142_1, e_142_2, e_142_5, e_142_8, e_142_9, e_142_10, e_142_11, e_142_12, e_142_14, e_142_17, e_142_20, e_142_22, e_142_23, e_142_24, e_142_27, e_142_30, e_142_31, e_142_32, e_142_35, e_142_38, e_142_40, e_142_41, e_142_42, e_142_45, e_142_46, e_142_47, e_142_48, e_142_51, e_142_54, e_142_55, e_142_56, e_142_57, e_142_58, e_142_61, e_142_62, w0, w1, w2, w3, w4, w5, w6, w7, w8, w9, w10, q1, q2, q3, q4, q5, q6, q7, q8, q9, q10, q11, q12, q13, q14, q15, b1, b2, b3, b4, b5, b6, o2, o387, o1708, o1741, o1, o0, ge1, ule_t, true_or, or_true, nI_add, nI_mul, nI_sub, nI_clamp, nI_lt_t, nI_lt_f, nI_le_t, nI_le_f, nI_eq_t, nI_eq_f, vp_nI, tI, fI, not_true, not_false_iff, true_and, and_true, Classical.not_not, mS_uI, mS_uA, mS_uJ, mS_uR, mS_uX, mR_uI, mR_uA, mR_uJ, mR_uX, mX_uI, mX_uA, mX_uJ, mX_uR, mI_s, mI_n, mI_A, mI_An, mI_uJ, mI_uR, mI_uX, mJ_uI, mJ_uA, mJ_uR, mJ_uX, onR_s, kC_v, kC_n, kC_t, ul0, ula1, ula2, ula3, ula4, ulb2, ulb3, ulb4, ulc2, ulc3, ulc4, ule4, ulf3, ulf4, c_149f hW0 hB9 hO0 hx]
theorem c_142b (hW : ShR μ s c) (hB : RelB μ s r) (hO : okR r) (hm : m < nM r) (hx : ¬ (nI 1 ≤ x ∧ x ≤ nI 40)) : Ev (d + 6) 142 [.ref 1000, .int (nI m), .int x] μ Q = Q (some (some (.int (-2)))) μ := by
  have hW0 := hW
  obtain ⟨w0, w1, w2, w3, w4, w5, w6, w7, w8, w9, w10, w11, w12, w13, w14, w15⟩ := hW
  have hS0 := w12
  obtain ⟨q0, q1, q2, q3, q4, q5, q6, q7, q8, q9, q10, q11, q12, q13, q14, q15⟩ := w12
  have hB9 := hB
  obtain ⟨b1, b2, b3, b4, b5, b6, b7, b8⟩ := hB
  have hO0 := hO
  obtain ⟨o2, o6, o387, oT, o1708, oO, o1741, oF, o1, oq1, oq6, o0, ol1, ol40, oV, oN1, oP1, oF1⟩ := hO
  have hn : mI μ s 1 = nI (nM r) := b1.trans o2
  have hq9 : mI μ (s + 2) 1 = nI (nQ r) := b6.trans o1
  have hV := b7.ok' oV
  rw [in_142]
  simp (disch := first | omega | rfl) only [e_142_0, e_142_1, e_142_2, e_142_5, e_142_8, e_142_9, e_142_10, e_142_11, e_142_12, e_142_14, e_142_17, e_142_20, e_142_22, e_142_23, e_142_24, e_142_27, e_142_30, e_142_31, e_142_32, e_142_35, e_142_38, e_142_40, e_142_41, e_142_42, e_142_45, e_142_46, e_142_47, e_142_48, e_142_51, e_142_54, e_142_55, e_142_56, e_142_57, e_142_58, e_142_61, e_142_62, w0, w1, w2, w3, w4, w5, w6, w7, w8, w9, w10, q1, q2, q3, q4, q5, q6, q7, q8, q9, q10, q11, q12, q13, q14, q15, b1, b2, b3, b4, b5, b6, o2, o387, o1708, o1741, o1, o0, ge1, ule_t, true_or, or_true, nI_add, nI_mul, nI_sub, nI_clamp, nI_lt_t, nI_lt_f, nI_le_t, nI_le_f, nI_eq_t, nI_eq_f, vp_nI, tI, fI, not_true, not_false_iff, true_and, and_true, Classical.not_not, mS_uI, mS_uA, mS_uJ, mS_uR, mS_uX, mR_uI, mR_uA, mR_uJ, mR_uX, mX_uI, mX_uA, mX_uJ, mX_uR, mI_s, mI_n, mI_A, mI_An, mI_uJ, mI_uR, mI_uX, mJ_uI, mJ_uA, mJ_uR, mJ_uX, onR_s, kC_v, kC_n, kC_t, ul0, ula1, ula2, ula3, ula4, ulb2, ulb3, ulb4, ulc2, ulc3, ulc4, ule4, ulf3, ulf4, c_149t hW0 hB9 hO0 hm, s_155, bI_fi hx]
theorem c_142c (hW : ShR μ s c) (hB : RelB μ s r) (hO : okR r) (hm : m < nM r) (hk1 : 1 ≤ k) (hk : k ≤ 40) (ha : rW r m 2 = nI 0) : Ev (d + 6) 142 [.ref 1000, .int (nI m), .int (nI k)] μ Q = Q (some (some (.int (-4)))) μ := by
  have hW0 := hW
  obtain ⟨w0, w1, w2, w3, w4, w5, w6, w7, w8, w9, w10, w11, w12, w13, w14, w15⟩ := hW
  have hS0 := w12
  obtain ⟨q0, q1, q2, q3, q4, q5, q6, q7, q8, q9, q10, q11, q12, q13, q14, q15⟩ := w12
  have hB9 := hB
  obtain ⟨b1, b2, b3, b4, b5, b6, b7, b8⟩ := hB
  have hO0 := hO
  obtain ⟨o2, o6, o387, oT, o1708, oO, o1741, oF, o1, oq1, oq6, o0, ol1, ol40, oV, oN1, oP1, oF1⟩ := hO
  have hn : mI μ s 1 = nI (nM r) := b1.trans o2
  have hq9 : mI μ (s + 2) 1 = nI (nQ r) := b6.trans o1
  have hV := b7.ok' oV
  have hg : nI 1 ≤ nI k ∧ nI k ≤ nI 40 := ⟨nI_le hk1 (by omega), nI_le (by omega) (by omega)⟩
  rw [in_142]
  simp (disch := first | omega | rfl) only [e_142_0, e_142_1, e_142_2, e_142_5, e_142_8, e_142_9, e_142_10, e_142_11, e_142_12, e_142_14, e_142_17, e_142_20, e_142_22, e_142_23, e_142_24, e_142_27, e_142_30, e_142_31, e_142_32, e_142_35, e_142_38, e_142_40, e_142_41, e_142_42, e_142_45, e_142_46, e_142_47, e_142_48, e_142_51, e_142_54, e_142_55, e_142_56, e_142_57, e_142_58, e_142_61, e_142_62, w0, w1, w2, w3, w4, w5, w6, w7, w8, w9, w10, q1, q2, q3, q4, q5, q6, q7, q8, q9, q10, q11, q12, q13, q14, q15, b1, b2, b3, b4, b5, b6, o2, o387, o1708, o1741, o1, o0, ge1, ule_t, true_or, or_true, nI_add, nI_mul, nI_sub, nI_clamp, nI_lt_t, nI_lt_f, nI_le_t, nI_le_f, nI_eq_t, nI_eq_f, vp_nI, tI, fI, not_true, not_false_iff, true_and, and_true, Classical.not_not, mS_uI, mS_uA, mS_uJ, mS_uR, mS_uX, mR_uI, mR_uA, mR_uJ, mR_uX, mX_uI, mX_uA, mX_uJ, mX_uR, mI_s, mI_n, mI_A, mI_An, mI_uJ, mI_uR, mI_uX, mJ_uI, mJ_uA, mJ_uR, mJ_uX, onR_s, kC_v, kC_n, kC_t, ul0, ula1, ula2, ula3, ula4, ulb2, ulb3, ulb4, ulc2, ulc3, ulc4, ule4, ulf3, ulf4, cv0, cv1, cv2, cv3, cv4, cv5, cv6, cvrec, (b7 m hm).1 0 (by omega), (b7 m hm).1 1 (by omega), (b7 m hm).1 2 (by omega), (b7 m hm).1 3 (by omega), (b7 m hm).1 4 (by omega), (b7 m hm).1 5 (by omega), (b7 m hm).1 6 (by omega), c_149t hW0 hB9 hO0 hm, s_155, bI_ti hg, bI_T, ha]
def runN (r : Nat → Int32) (m k : Nat) : Nat := if laN r - nE (rW r) m < k then laN r - nE (rW r) m else k
theorem runN_le (hO : okR r) (hm : m < nM r) (ha : ¬ rW r m 2 = nI 0) : nE (rW r) m + runN r m k ≤ nT r := by
  have h1 := (fLast_ok hO hm ha).2
  have h2 := nE_le hO hm
  unfold runN
  split <;> omega
theorem c_142 (hI : CI μ s c r u pr tn) (hA : AI r u pr tn) (hm : m < nM r) (hk1 : 1 ≤ k) (hk : k ≤ 40) (ha : ¬ rW r m 2 = nI 0) (hq : ∀ μ1, FrC s c μ μ1 → CI μ1 s c (rExN r m (runN r m k)) (u2 u) (pr2 u pr r) tn → Q (some (some (.int (nI (runN r m k))))) μ1) : Ev (d + 6) 142 [.ref 1000, .int (nI m), .int (nI k)] μ Q := by
  obtain ⟨hW, hRS, hN, hC, hE, hRing⟩ := id hI
  have hO := hA.1
  have hB := hN.1
  have hW0 := hW
  obtain ⟨w0, w1, w2, w3, w4, w5, w6, w7, w8, w9, w10, w11, w12, w13, w14, w15⟩ := hW
  have hS0 := w12
  obtain ⟨q0, q1, q2, q3, q4, q5, q6, q7, q8, q9, q10, q11, q12, q13, q14, q15⟩ := w12
  have hB9 := hB
  obtain ⟨b1, b2, b3, b4, b5, b6, b7, b8⟩ := hB
  have hO0 := hO
  obtain ⟨o2, o6, o387, oT, o1708, oO, o1741, oF, o1, oq1, oq6, o0, ol1, ol40, oV, oN1, oP1, oF1⟩ := hO
  have hn : mI μ s 1 = nI (nM r) := b1.trans o2
  have hq9 : mI μ (s + 2) 1 = nI (nQ r) := b6.trans o1
  have hV := b7.ok' oV
  have hg : nI 1 ≤ nI k ∧ nI k ≤ nI 40 := ⟨nI_le hk1 (by omega), nI_le (by omega) (by omega)⟩
  have hla := fLast_ok hO0 hm ha
  have hle := runN_le (k := k) hO0 hm ha
  have vE := okBE oV hm
  rw [in_142]
  simp (disch := first | omega | rfl) only [e_142_0, e_142_1, e_142_2, e_142_5, e_142_8, e_142_9, e_142_10, e_142_11, e_142_12, e_142_14, e_142_17, e_142_20, e_142_22, e_142_23, e_142_24, e_142_27, e_142_30, e_142_31, e_142_32, e_142_35, e_142_38, e_142_40, e_142_41, e_142_42, e_142_45, e_142_46, e_142_47, e_142_48, e_142_51, e_142_54, e_142_55, e_142_56, e_142_57, e_142_58, e_142_61, e_142_62, w0, w1, w2, w3, w4, w5, w6, w7, w8, w9, w10, q1, q2, q3, q4, q5, q6, q7, q8, q9, q10, q11, q12, q13, q14, q15, b1, b2, b3, b4, b5, b6, o2, o387, o1708, o1741, o1, o0, ge1, ule_t, true_or, or_true, nI_add, nI_mul, nI_sub, nI_clamp, nI_lt_t, nI_lt_f, nI_le_t, nI_le_f, nI_eq_t, nI_eq_f, vp_nI, tI, fI, not_true, not_false_iff, true_and, and_true, Classical.not_not, mS_uI, mS_uA, mS_uJ, mS_uR, mS_uX, mR_uI, mR_uA, mR_uJ, mR_uX, mX_uI, mX_uA, mX_uJ, mX_uR, mI_s, mI_n, mI_A, mI_An, mI_uJ, mI_uR, mI_uX, mJ_uI, mJ_uA, mJ_uR, mJ_uX, onR_s, kC_v, kC_n, kC_t, ul0, ula1, ula2, ula3, ula4, ulb2, ulb3, ulb4, ulc2, ulc3, ulc4, ule4, ulf3, ulf4, cv0, cv1, cv2, cv3, cv4, cv5, cv6, cvrec, (b7 m hm).1 0 (by omega), (b7 m hm).1 1 (by omega), (b7 m hm).1 2 (by omega), (b7 m hm).1 3 (by omega), (b7 m hm).1 4 (by omega), (b7 m hm).1 5 (by omega), (b7 m hm).1 6 (by omega), c_149t hW0 hB9 hO0 hm, s_155, bI_ti hg, bI_T, ha]
  refine c_148 hI hA (fun μ1 hf hk1 hI1 => ?_)
  obtain ⟨x0, x1, x2, x3, x4, x5, x6, x7, x8, x9, x10, x11, x12, x13, x14, x15⟩ := hI1.1
  obtain ⟨y0, y1, y2, y3, y4, y5, y6, y7, y8, y9, y10, y11, y12, y13, y14, y15⟩ := x12
  obtain ⟨c1, c2, c3, c4, c5, c6, c7, c8⟩ := hI1.2.2.1.1
  have h130 := fun (d : Nat) (Q : Po) => c_130 (d := d) (Q := Q) hI1.1 hI1.2.2.1.1 hO0 hm ha
  rw [hla.1, vE.2.1, up_ok (by omega) (by omega)] at h130
  have e5 : (if nI (laN r - nE (rW r) m) < nI k then nI (laN r - nE (rW r) m) else nI k) = nI (runN r m k) := by
    unfold runN
    by_cases h : laN r - nE (rW r) m < k
    · rw [if_pos h, if_pos (nI_lt h (by omega))]
    · rw [if_neg h, if_neg (nI_nlt (by omega) (by omega))]
  simp (disch := first | omega | rfl) only [e_142_0, e_142_1, e_142_2, e_142_5, e_142_8, e_142_9, e_142_10, e_142_11, e_142_12, e_142_14, e_142_17, e_142_20, e_142_22, e_142_23, e_142_24, e_142_27, e_142_30, e_142_31, e_142_32, e_142_35, e_142_38, e_142_40, e_142_41, e_142_42, e_142_45, e_142_46, e_142_47, e_142_48, e_142_51, e_142_54, e_142_55, e_142_56, e_142_57, e_142_58, e_142_61, e_142_62, ge1, ule_t, true_or, or_true, nI_add, nI_mul, nI_sub, nI_clamp, nI_lt_t, nI_lt_f, nI_le_t, nI_le_f, nI_eq_t, nI_eq_f, vp_nI, tI, fI, not_true, not_false_iff, true_and, and_true, Classical.not_not, kC_n, kC_v, ul0, ula1, ula2, ula3, ula4, ulb2, ulb3, ulb4, ulc2, ulc3, ulc4, ule4, ulf3, ulf4, x0, h130, e5]
  refine c_144e hI1 hO0 hA.2.1.1 hA.pp hm hle (fun μ2 hf2 hI2 => ?_)
  simp (disch := first | omega | rfl) only [e_142_0, e_142_1, e_142_2, e_142_5, e_142_8, e_142_9, e_142_10, e_142_11, e_142_12, e_142_14, e_142_17, e_142_20, e_142_22, e_142_23, e_142_24, e_142_27, e_142_30, e_142_31, e_142_32, e_142_35, e_142_38, e_142_40, e_142_41, e_142_42, e_142_45, e_142_46, e_142_47, e_142_48, e_142_51, e_142_54, e_142_55, e_142_56, e_142_57, e_142_58, e_142_61, e_142_62, ge1, ule_t, true_or, or_true, nI_add, nI_mul, nI_sub, nI_clamp, nI_lt_t, nI_lt_f, nI_le_t, nI_le_f, nI_eq_t, nI_eq_f, vp_nI, tI, fI, not_true, not_false_iff, true_and, and_true, Classical.not_not, kC_n, ul0, ula1, ula2, ula3, ula4, ulb2, ulb3, ulb4, ulc2, ulc3, ulc4, ule4, ulf3, ulf4]
  exact hq μ2 (FrC.of hf hk1 hf2 ⟨x14, x15⟩) hI2
end ExC


