/-! changes: what is kept for undo -/
def RN (r : Nat → Int32) : Prop := ∀ x, 1782 ≤ x → r x = 0
def okW (r : Nat → Int32) : Prop := (∀ t, t < nT r → ∀ k, k < nZ r t → ∃ v, v < 10000 ∧ mCmd r t k 3 = nI v) ∧ ∀ k, k < nO r → ∃ v, v < 10000 ∧ r (1709 + 4 * k + 3) = nI v
def RN2 (r : Nat → Int32) : Prop := RN r ∧ okW r
/-- the latest record is of the cells -/
def okK (r : Nat → Int32) : Prop := ∀ m, m < nM r → rW r m (23 + nE (rW r) m) = fCk (rW r) m 1
def RN3 (r : Nat → Int32) : Prop := RN2 r ∧ okK r
def SLe (a b : Nat → Int32) : Prop := nT a < nT b ∨ (nT a = nT b ∧ nO a ≤ nO b)
def RelN (μ : Mu) (s : Nat) (r tn : Nat → Int32) : Prop := RelB μ s r ∧ ∀ m, m < nM r → mI μ (s + 5 + 3 * m) 0 = tn (16 + m)
def RingC (μ : Mu) (c u : Nat) (pr : Nat → Nat → Int32) (tn : Nat → Int32) : Prop := mI μ 1000 4 = nI u ∧ ∃ l, l < 10 ∧ mI μ 1000 3 = nI l ∧ ∀ i, i < u → RelN μ (1068 + 23 * ((l + 10 - i) % 10)) (pr (u - 1 - i)) tn ∧ RelC μ c (pr (u - 1 - i))
def CI (μ : Mu) (s c : Nat) (r : Nat → Int32) (u : Nat) (pr : Nat → Nat → Int32) (tn : Nat → Int32) : Prop := ShR μ s c ∧ (∀ i, i < 10 → StS μ (1068 + 23 * i)) ∧ RelN μ s r tn ∧ RelC μ c r ∧ EqL (mI μ (c + 1)) tn ∧ RingC μ c u pr tn
def AI (r : Nat → Int32) (u : Nat) (pr : Nat → Nat → Int32) (tn : Nat → Int32) : Prop := okR r ∧ RN3 r ∧ u ≤ 10 ∧ (∀ j, j < u → okR (pr j) ∧ RN3 (pr j) ∧ SLe (pr j) r ∧ ∀ i, i < j → SLe (pr i) (pr j)) ∧ (∃ n0, (∀ m, n0 ≤ m → m < 6 → tn (16 + m) = nI 0) ∧ n0 ≤ nM r ∧ ∀ j, j < u → n0 ≤ nM (pr j)) ∧ ∀ k, k < 16 → ∃ v, v < 10000 ∧ tn k = nI v
def u2 (u : Nat) : Nat := if u < 10 then u + 1 else 10
def pr2 (u : Nat) (pr : Nat → Nat → Int32) (r : Nat → Int32) (j : Nat) : Nat → Int32 := if u < 10 then (if j < u then pr j else r) else (if j < 9 then pr (j + 1) else r)
theorem SLe.refl (a : Nat → Int32) : SLe a a := Or.inr ⟨rfl, Nat.le_refl _⟩
theorem SLe.trans {a b c : Nat → Int32} (h : SLe a b) (h' : SLe b c) : SLe a c := by unfold SLe at *; omega
theorem AI.next {r r' tn : Nat → Int32} {u : Nat} {pr : Nat → Nat → Int32} (h : AI r u pr tn) (h1 : okR r') (h2 : RN3 r') (h3 : SLe r r') (h4 : nM r ≤ nM r') : AI r' (u2 u) (pr2 u pr r) tn := by
  obtain ⟨a1, a2, a3, a4, ⟨n0, a5, a6, a7⟩, a8⟩ := h
  refine ⟨h1, h2, ?_, ?_, ⟨n0, a5, by omega, ?_⟩, a8⟩
  · unfold u2
    split <;> omega
  · intro j hj
    unfold u2 at hj
    unfold pr2
    by_cases hu : u < 10
    · rw [if_pos hu] at hj
      simp only [if_pos hu]
      by_cases hju : j < u
      · simp only [if_pos hju]
        obtain ⟨b1, b2, b3, b4⟩ := a4 j hju
        refine ⟨b1, b2, b3.trans h3, fun i hi => ?_⟩
        simp only [if_pos (show i < u by omega)]
        exact b4 i hi
      · simp only [if_neg hju]
        refine ⟨a1, a2, h3, fun i hi => ?_⟩
        simp only [if_pos (show i < u by omega)]
        exact (a4 i (by omega)).2.2.1
    · rw [if_neg hu] at hj
      simp only [if_neg hu]
      by_cases hju : j < 9
      · simp only [if_pos hju]
        obtain ⟨b1, b2, b3, b4⟩ := a4 (j + 1) (by omega)
        refine ⟨b1, b2, b3.trans h3, fun i hi => ?_⟩
        simp only [if_pos (show i < 9 by omega)]
        exact b4 (i + 1) (by omega)
      · simp only [if_neg hju]
        refine ⟨a1, a2, h3, fun i hi => ?_⟩
        simp only [if_pos (show i < 9 by omega)]
        exact (a4 (i + 1) (by omega)).2.2.1
  · intro j hj
    unfold u2 at hj
    unfold pr2
    by_cases hu : u < 10
    · rw [if_pos hu] at hj
      simp only [if_pos hu]
      by_cases hju : j < u
      · simp only [if_pos hju]; exact a7 j hju
      · simp only [if_neg hju]; exact a6
    · rw [if_neg hu] at hj
      simp only [if_neg hu]
      by_cases hju : j < 9
      · simp only [if_pos hju]; exact a7 (j + 1) (by omega)
      · simp only [if_neg hju]; exact a6
theorem RelN.fr {μ μ' : Mu} {s : Nat} {r tn : Nat → Int32} (h : RelN μ s r tn) (h6 : nM r ≤ 6) (e : ∀ a, s ≤ a → a ≤ s + 22 → ∀ k, mI μ' a k = mI μ a k) : RelN μ' s r tn := by
  obtain ⟨⟨b1, b2, b3, b4, b5, b6, b7, b8⟩, b9⟩ := h
  have hc : ∀ m, m < 6 → ∀ k, cV μ' s m k = cV μ s m k := fun m hm k => by
    unfold cV
    rw [e _ (by omega) (by omega), e (s + 5 + 3 * m) (by omega) (by omega), e (s + 5 + 3 * m) (by omega) (by omega), e (s + 5 + 3 * m) (by omega) (by omega), e (s + 5 + 3 * m) (by omega) (by omega), e (s + 5 + 3 * m) (by omega) (by omega), e (s + 5 + 3 * m) (by omega) (by omega), e (s + 6 + 3 * m) (by omega) (by omega), e (s + 7 + 3 * m) (by omega) (by omega)]
  refine ⟨⟨?_, ?_, ?_, ?_, ?_, ?_, ?_, ?_⟩, ?_⟩
  · rw [e s (by omega) (by omega)]; exact b1
  · rw [e s (by omega) (by omega)]; exact b2
  · rw [e s (by omega) (by omega)]; exact b3
  · rw [e (s + 3) (by omega) (by omega)]; exact b4
  · rw [e (s + 2) (by omega) (by omega)]; exact b5
  · rw [e (s + 2) (by omega) (by omega)]; exact b6
  · intro m hm
    obtain ⟨v1, v2⟩ := b7 m hm
    refine ⟨fun k hk => by rw [hc m (by omega)]; exact v1 k hk, fun t ht => ?_⟩
    have ht' : vHas (cV μ s) m t := by
      unfold vHas at ht ⊢
      rw [hc m (by omega), hc m (by omega)] at ht
      exact ht
    have := v2 t ht'
    unfold vRec at this ⊢
    rw [hc m (by omega)]
    exact this
  · intro k hk; rw [e (s + 4) (by omega) (by omega)]; exact b8 k hk
  · intro m hm; rw [e (s + 5 + 3 * m) (by omega) (by omega)]; exact b9 m hm
theorem RelC.fr {μ μ' : Mu} {c : Nat} {r : Nat → Int32} (h : RelC μ c r) (hz : ∀ t, t < nT r → nZ r t ≤ 8) (e2 : ∀ k, k < nT r → mI μ' (c + 2) k = mI μ (c + 2) k) (e4 : ∀ k, k < 8 * nT r → mI μ' (c + 4) k = mI μ (c + 4) k) (e3 : ∀ k, k < 32 * nT r + 4 * nO r → mI μ' (c + 3) k = mI μ (c + 3) k) : RelC μ' c r := by
  obtain ⟨h1, h2⟩ := h
  refine ⟨fun t ht => ?_, fun k hk w hw => ?_⟩
  · obtain ⟨g1, g2⟩ := h1 t ht
    refine ⟨by rw [e2 t ht]; exact g1, fun k hk => ?_⟩
    obtain ⟨j, hj, g3, g4⟩ := g2 k hk
    have hz8 := hz t ht
    have hk8 : k < 8 := Nat.lt_of_lt_of_le hk hz8
    refine ⟨j, hj, by rw [e4 _ (by omega)]; exact g3, fun w hw => ?_⟩
    rw [e3 _ (by omega)]
    exact g4 w hw
  · rw [e3 _ (by omega)]
    exact h2 k hk w hw
theorem okR.z {r : Nat → Int32} (h : okR r) : ∀ t, t < nT r → nZ r t ≤ 8 := fun t ht => (okP_z h.2.2.2.2.2.2.2.2.2.2.2.2.2.2.2.2.1 ht).2.1
theorem RelN.cp {μ μ' : Mu} {s s' : Nat} {r tn : Nat → Int32} (h : RelN μ s r tn) (hO : okR r) (hc : CpW μ μ' s' s (nM r)) : RelN μ' s' r tn := by
  obtain ⟨⟨b1, b2, b3, b4, b5, b6, b7, b8⟩, b9⟩ := h
  obtain ⟨⟨-, c1, c2⟩, c3, c4, c5, c6, c7⟩ := hc
  obtain ⟨o2, o6, o387, oT, o1708, oO, o1741, oF, o1, oq1, oq6, o0, ol1, ol40, oV, oN1, oP1, oF1⟩ := hO
  have hk : ∀ m, m < nM r → ∀ k, k < 64 → cV μ' s' m k = cV μ s m k := fun m hm k hk => by
    obtain ⟨d1, d2, d3⟩ := c2 m hm
    unfold cV
    rw [d1 1 (by omega), d1 3 (by omega), d1 4 (by omega), d1 5 (by omega), d1 6 (by omega), d1 7 (by omega), d1 2 (by omega)]
    by_cases h23 : k < 23
    · simp only [if_pos h23]
      by_cases h7 : k < 7
      · have : k = 0 ∨ k = 1 ∨ k = 2 ∨ k = 3 ∨ k = 4 ∨ k = 5 ∨ k = 6 := by omega
        rcases this with rfl | rfl | rfl | rfl | rfl | rfl | rfl <;> rfl
      · rw [d2 (k - 7) (by omega)]
    · simp only [if_neg h23]
      rw [d3 (k - 23) (by omega)]
  refine ⟨⟨c1.trans b1, c3.trans b2, c4.trans b3, c6.trans b4, (c5 0 (by omega)).trans b5, (c5 1 (by omega)).trans b6, ?_, fun k hk => (c7 k (by omega)).trans (b8 k hk)⟩, fun m hm => ((c2 m hm).1 0 (by omega)).trans (b9 m hm)⟩
  intro m hm
  obtain ⟨v1, v2⟩ := b7 m hm
  have hV := b7.ok' oV
  refine ⟨fun k h23 => by rw [hk m hm k (by omega)]; exact v1 k h23, fun t ht => ?_⟩
  have ht' : vHas (cV μ s) m t := by
    unfold vHas at ht ⊢
    rw [hk m hm _ (by omega), hk m hm _ (by omega)] at ht
    exact ht
  obtain ⟨w1, w2, w3, w4⟩ := hV m hm
  obtain ⟨j, hj, rfl⟩ := t40 (Int32.le_trans w2 ht'.1) (Int32.le_trans ht'.2 w4)
  have := v2 (nI j) ht'
  unfold vRec at this ⊢
  rw [nI_clamp (by omega)] at this ⊢
  rw [hk m hm _ (by omega)]
  exact this
theorem nI_div {a b : Nat} (ha : a < 2147483648) (hb : 0 < b) (hb2 : b < 2147483648) : nI a / nI b = nI (a / b) := by
  apply Int32.toInt_inj.mp
  have hle : a / b ≤ a := Nat.div_le_self _ _
  rw [Int32.toInt_div, nI_toInt ha, nI_toInt hb2, nI_toInt (by omega)]
  rw [Int.tdiv_eq_ediv_of_nonneg (by omega), ← Int.natCast_ediv]
  have key : ∀ q : Nat, q ≤ a → Int.bmod (q : Int) (2 ^ 32) = q := fun q hq => Int.bmod_eq_of_le (by omega) (by omega)
  exact key _ hle
section Rem
variable {d : Nat} {Q : Po} {μ : Mu} {s c m n q i j k t z u : Nat} {x y g : Int32} {r tn : Nat → Int32} {pr : Nat → Nat → Int32}
theorem c_148 (hI : CI μ s c r u pr tn) (hA : AI r u pr tn) (hq : ∀ μ1, Fr (fun a => a = 1000 ∨ (1068 ≤ a ∧ a < 1298)) μ μ1 → (∀ k, k ≠ 3 → k ≠ 4 → mI μ1 1000 k = mI μ 1000 k) → CI μ1 s c r (u2 u) (pr2 u pr r) tn → Q (some none) μ1) : Ev (d + 3) 148 [.ref 1000] μ Q := by
  obtain ⟨hW, hRS, hN, hC, hE, g4, l, hl, g3, hR⟩ := hI
  have hA0 := hA
  obtain ⟨hO, hRN, hu, hP, -, -⟩ := hA
  have hB := hN.1
  have hW0 := hW
  obtain ⟨w0, w1, w2, w3, w4, w5, w6, w7, w8, w9, w10, w11, w12, w13, w14, w15⟩ := hW
  have hS0 := w12
  obtain ⟨q0, q1, q2, q3, q4, q5, q6, q7, q8, q9, q10, q11, q12, q13, q14, q15⟩ := w12
  have hB9 := hB
  obtain ⟨b1, b2, b3, b4, b5, b6, b7, b8⟩ := hB
  have hO0 := hO
  obtain ⟨o2, o6, o387, oT, o1708, oO, o1741, oF, o1, oq1, oq6, o0, ol1, ol40, oV, oN1, oP1, oF1⟩ := hO
  have hn : mI μ s 1 = nI (nM r) := b1.trans o2
  have hq9 : mI μ (s + 2) 1 = nI (nQ r) := b6.trans o1
  have hV := b7.ok' oV
  have hV2 : ∀ m, m < nM r → cV μ s m 2 = nI 0 ∨ cV μ s m 2 = nI 1 := fun m hm => (hV m hm).1
  have el : l + 1 - (l + 1) / 10 * 10 = (l + 1) % 10 := by omega
  have eu : (if (10 : Nat) < u + 1 then nI 10 else nI (u + 1)) = nI (u2 u) := by
    unfold u2
    split <;> split <;> first | rfl | (exfalso; omega) | (congr 1; omega)
  have eu2 : (if nI 10 < nI (u + 1) then nI 10 else nI (u + 1)) = nI (u2 u) := by
    rw [← eu]
    by_cases h : 10 < u + 1
    · rw [if_pos h, if_pos (nI_lt h (by omega))]
    · rw [if_neg h, if_neg (nI_nlt (by omega) (by omega))]
  have hm10 : (l + 1) % 10 < 10 := Nat.mod_lt _ (by omega)
  have hsh := (hRS _ hm10).2.1
  rw [in_148]
  simp (disch := first | omega | rfl) only [e_148_0, e_148_1, e_148_2, e_148_5, e_148_6, e_148_7, e_148_9, e_148_10, e_148_13, e_148_14, e_148_15, e_148_18, e_148_19, e_148_20, e_148_22, e_148_25, e_148_28, e_148_29, e_148_32, e_148_33, e_148_36, e_148_37, e_148_38, e_148_41, e_148_44, w0, w1, w2, w3, w4, w5, w6, w7, w8, w9, w10, q1, q2, q3, q4, q5, q6, q7, q8, q9, q10, q11, q12, q13, q14, q15, b1, b2, b3, b4, b5, b6, o2, o387, o1708, o1741, o1, o0, ge1, ule_t, true_or, or_true, nI_add, nI_mul, nI_sub, nI_clamp, nI_lt_t, nI_lt_f, nI_le_t, nI_le_f, nI_eq_t, nI_eq_f, vp_nI, tI, fI, not_true, not_false_iff, true_and, and_true, Classical.not_not, mS_uI, mS_uA, mS_uJ, mS_uR, mS_uX, mR_uI, mR_uA, mR_uJ, mR_uX, mX_uI, mX_uA, mX_uJ, mX_uR, mI_s, mI_n, mI_A, mI_An, mI_uJ, mI_uR, mI_uX, mJ_uI, mJ_uA, mJ_uR, mJ_uX, onR_s, kC_v, kC_n, kC_t, ul0, ula1, ula2, ula3, ula4, ulb2, ulb3, ulb4, ulc2, ulc3, ulc4, ule4, ulf3, ulf4, g3, g4, nI_div, eu2, el, hsh]
  have hfr0 : Fr (fun a => a = 1000) μ (uI (uI μ 1000 3 (nI ((l + 1) % 10))) 1000 4 (nI (u2 u))) := Fr.iu (P := fun a => a = 1000) (Fr.iu (P := fun a => a = 1000) Fr.refl rfl) rfl
  have hfr : Fr (fun a => a = 1000 ∨ (1068 ≤ a ∧ a < 1298)) μ (uI (uI μ 1000 3 (nI ((l + 1) % 10))) 1000 4 (nI (u2 u))) := (Fr.refl.iu (Or.inl rfl)).iu (Or.inl rfl)
  refine s_74 (s' := 1068 + 23 * ((l + 1) % 10)) (s := s) (n := nM r) (hfr.st (hRS _ hm10)) (hfr.st hS0) (by omega) ?_ o6 ?_ ?_
  · rw [hfr.2.2.2 s (by omega)]; exact hn
  · intro m hm
    have := hV2 m hm
    unfold cV at this ⊢
    rw [if_neg (by omega), if_neg (by omega), if_pos rfl] at this ⊢
    rw [hfr.2.2.2 _ (by omega)]
    exact this
  intro μ2 hc
  have hf2 : Fr (fun a => a = 1000 ∨ (1068 ≤ a ∧ a < 1298)) μ μ2 := hfr.trans (hc.1.1.mono (fun a ha => by omega))
  have hN1 : RelN (uI (uI μ 1000 3 (nI ((l + 1) % 10))) 1000 4 (nI (u2 u))) s r tn := hN.fr o6 (fun a h1 h2 k => hfr.2.2.2 a (by omega) k)
  have hz := hO0.z
  have sC : ∀ (ρ : Nat → Int32), okR ρ → RelC μ c ρ → RelC μ2 c ρ := fun ρ hρ h => h.fr hρ.z (fun k hk => hf2.2.2.2 _ (by omega) _) (fun k hk => hf2.2.2.2 _ (by omega) _) (fun k hk => hf2.2.2.2 _ (by omega) _)
  simp (disch := first | omega | rfl) only [e_148_0, e_148_1, e_148_2, e_148_5, e_148_6, e_148_7, e_148_9, e_148_10, e_148_13, e_148_14, e_148_15, e_148_18, e_148_19, e_148_20, e_148_22, e_148_25, e_148_28, e_148_29, e_148_32, e_148_33, e_148_36, e_148_37, e_148_38, e_148_41, e_148_44, kC_n]
  refine hq μ2 hf2 ?_ ⟨hf2.sr hW0, fun i hi => hf2.st (hRS i hi), hN.fr o6 (fun a h1 h2 k => hf2.2.2.2 a (by omega) k), sC r hO0 hC, fun k hk => by rw [hf2.2.2.2 _ (by omega)]; exact hE k hk, ?_, (l + 1) % 10, hm10, ?_, ?_⟩
  · intro k k3 k4
    rw [hc.1.1.2.2.2 1000 (by omega), mI_n (by omega), mI_n (by omega)]
  · rw [hc.1.1.2.2.2 1000 (by omega), mI_s]
  · rw [hc.1.1.2.2.2 1000 (by omega), mI_n (by omega), mI_s]
  · intro i hi
    by_cases h0 : i = 0
    · subst h0
      have e1 : ((l + 1) % 10 + 10 - 0) % 10 = (l + 1) % 10 := by omega
      have e2 : pr2 u pr r (u2 u - 1 - 0) = r := by
        unfold pr2 u2
        split
        · rw [if_neg (by omega)]
        · rw [if_neg (by omega)]
      rw [e1, e2]
      exact ⟨hN1.cp hO0 hc, sC r hO0 hC⟩
    · have e1 : ((l + 1) % 10 + 10 - i) % 10 = (l + 10 - (i - 1)) % 10 := by
        unfold u2 at hi
        split at hi <;> omega
      have e2 : pr2 u pr r (u2 u - 1 - i) = pr (u - 1 - (i - 1)) := by
        unfold u2 at hi
        unfold pr2 u2
        split
        · rename_i h
          rw [if_pos h] at hi
          rw [if_pos (by omega)]
          congr 1; omega
        · rename_i h
          rw [if_neg h] at hi
          rw [if_pos (by omega)]
          congr 1; omega
      have hi2 : i - 1 < u := by
        unfold u2 at hi
        split at hi <;> omega
      have e3 : (l + 10 - (i - 1)) % 10 ≠ (l + 1) % 10 := by
        unfold u2 at hi
        split at hi <;> omega
      rw [e1, e2]
      obtain ⟨f1, f2⟩ := hR (i - 1) hi2
      have hok := (hP (u - 1 - (i - 1)) (by omega)).1
      refine ⟨f1.fr hok.2.1 (fun a h1 h2 k => ?_), sC _ hok f2⟩
      rw [hc.1.1.2.2.2 a (by omega)]
      exact hfr0.2.2.2 a (by omega) k
end Rem


