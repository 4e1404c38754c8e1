/-! loading in the room -/
def PE (s2 c2 a : Nat) : Prop := a = 1000 ∨ a = 1030 ∨ (s2 ≤ a ∧ a ≤ s2 + 22) ∨ (c2 ≤ a ∧ a ≤ c2 + 4) ∨ (1062 ≤ a ∧ a ≤ 1067)
section LoC
variable {d : Nat} {Q : Po} {μ μ' μ1 : Mu} {f : Nat → Nat} {g F r tn : Nat → Int32} {L n a k v s c s2 c2 m u : Nat} {x rt : Int32} {t : TK} {z : RS} {pr : Nat → Nat → Int32}
theorem LdS.le (h : LdS μ f n s c) (hL : L ≤ n) : LdS μ f L s c := by
  obtain ⟨⟨g1, g2, g3, g4, g5, g6⟩, h2⟩ := h
  exact ⟨⟨g1, g2, g3, fun k hk => g4 k (by omega), g5, by omega⟩, h2⟩
def PoL (s c s2 c2 : Nat) (μ : Mu) (Q : Po) (z : (Int32 × Nat × Nat × Nat) ⊕ (Nat × RS)) : Prop := match z with
  | .inl e => ∀ μ', Fr (PE s2 c2) μ μ' → (∀ k, k ≠ 6 → k ≠ 7 → mI μ' 1000 k = mI μ 1000 k) → mI μ' 1000 6 = nI 0 → mI μ' 1000 7 = nI e.2.1 → mI μ' 1030 9 = nI (cvl e.2.2.2) → Q (some (some (.int e.1))) μ'
  | .inr z => ∀ μ', Fr (PE s2 c2) (swH μ s c s2 c2) μ' → (∀ pr, CI μ' s2 c2 (rBg z.2.1 z.2.2.1 (rtT z.2.2.1) (nM z.2.1)) 0 pr z.2.2.1) → mI μ' 1000 6 = nI 0 → mI μ' 1000 7 = -1 → mI μ' 1030 9 = nI (cvl z.2.2.2.2.2.2.2.2) → Q (some (some (.int (nI z.1)))) μ'
theorem swR {s c : Nat} (h0 : a ≠ 1000) (h3 : a ≠ 1030) : mR (swH μ s c s2 c2) a k = mR μ a k := by
  unfold swH
  rw [mR_nR (by omega), mR_nR (by omega), mR_nR (by omega), mR_nR (by omega)]
theorem StS_sw {q : Nat} (hq : q + 22 < 1030 ∨ 1030 < q) (hq0 : 1000 < q) (h : StS μ q) : StS (swH μ s c s2 c2) q := by
  obtain ⟨q0, q1, q2, q3, q4, q5, q6, q7, q8, q9, q10, q11, q12, q13, q14, q15⟩ := h
  exact ⟨q0, q1, (swR (by omega) (by omega)).trans q2, (swR (by omega) (by omega)).trans q3, (swR (by omega) (by omega)).trans q4, q5, q6, q7, (swR (by omega) (by omega)).trans q8, q9, fun m hm => (swR (by omega) (by omega)).trans (q10 m hm), q11, fun m hm => (swR (by omega) (by omega)).trans (q12 m hm), fun m hm => (swR (by omega) (by omega)).trans (q13 m hm), q14, q15⟩
theorem ScS_sw {q : Nat} (hq : q + 4 < 1030 ∨ 1030 < q) (hq0 : 1000 < q) (h : ScS μ q) : ScS (swH μ s c s2 c2) q := by
  obtain ⟨r0, r1, r2, r3, r4, r5, r6, r7, r8, r9⟩ := h
  exact ⟨r0, r1, (swR (by omega) (by omega)).trans r2, (swR (by omega) (by omega)).trans r3, (swR (by omega) (by omega)).trans r4, (swR (by omega) (by omega)).trans r5, r6, r7, r8, r9⟩
theorem ShD_sw (h : ShD μ) : ShD (swH μ s c s2 c2) := by
  obtain ⟨d0, d1, d2, d3, d4, d5, d6, d7, d8⟩ := h
  exact ⟨d0, (swR (by omega) (by omega)).trans d1, (swR (by omega) (by omega)).trans d2, d3, d4, (swR (by omega) (by omega)).trans d5, (swR (by omega) (by omega)).trans d6, d7, d8⟩
theorem sw_0 : mR (swH μ s c s2 c2) 1000 0 = some s2 := by unfold swH; rw [mR_nR (by omega), mR_nR (by omega), mR_nR (by omega), mR_sR]
theorem sw_1 : mR (swH μ s c s2 c2) 1000 1 = some c2 := by unfold swH; rw [mR_nR (by omega), mR_nR (by omega), mR_sR]
theorem sw_k (h0 : k ≠ 0) (h1 : k ≠ 1) : mR (swH μ s c s2 c2) 1000 k = mR μ 1000 k := by unfold swH; rw [mR_nR (by omega), mR_nR (by omega), mR_nR (by omega), mR_nR (by omega)]
theorem ShR_sw (h9 : (s2 = 1001 ∨ s2 = 1032) ∧ (c2 = 1024 ∨ c2 = 1055)) (hW : ShR μ s c) (hS : StS μ s2) (hSc : ScS μ c2) : ShR (swH μ s c s2 c2) s2 c2 := by
  obtain ⟨w0, w1, w2, w3, w4, w5, w6, w7, w8, w9, w10, w11, w12, w13, w14, w15⟩ := hW
  exact ⟨w0, sw_0, sw_1, (sw_k (by omega) (by omega)).trans w3, (sw_k (by omega) (by omega)).trans w4, (sw_k (by omega) (by omega)).trans w5, (sw_k (by omega) (by omega)).trans w6, (sw_k (by omega) (by omega)).trans w7, w8, w9, fun i hi => (swR (by omega) (by omega)).trans (w10 i hi), ShD_sw w11, StS_sw (by omega) (by omega) hS, ScS_sw (by omega) (by omega) hSc, h9.1, h9.2⟩
theorem c_91f (hW : ShR μ s c) (hn : mI μ 1000 6 = nI n) (hn9 : n ≤ 900) (hx : bad x (n + 1)) : Ev (d + 12) 91 [.ref 1000, .int x] μ Q = Q (some (some (.int (-2)))) μ := by
  obtain ⟨w0, w1, w2, w3, w4, w5, w6, w7, w8, w9, w10, w11, w12, w13, w14, w15⟩ := hW
  rw [in_91]
  simp (disch := first | omega | rfl) only [e_91_0, e_91_1, e_91_2, e_91_3, e_91_6, e_91_9, e_91_12, e_91_14, e_91_15, e_91_16, e_91_17, e_91_20, e_91_21, e_91_24, e_91_25, e_91_28, e_91_29, e_91_30, e_91_31, e_91_34, e_91_37, e_91_40, e_91_41, e_91_44, e_91_45, e_91_46, e_91_47, e_91_50, e_91_51, e_91_54, e_91_55, e_91_56, e_91_59, e_91_60, ge1, ule_t, true_or, or_true, nI_add, nI_mul, nI_sub, nI_clamp, nI_lt_t, nI_lt_f, nI_le_t, nI_le_f, nI_eq_t, nI_eq_f, vp_nI, tI, fI, not_true, not_false_iff, true_and, and_true, Classical.not_not, mS_uI, mS_uA, mS_uJ, mS_uR, mS_uX, mR_uI, mR_uA, mR_uJ, mR_uX, mX_uI, mX_uA, mX_uJ, mX_uR, mI_s, mI_n, mI_A, mI_An, mI_uJ, mI_uR, mI_uX, mJ_uI, mJ_uA, mJ_uR, mJ_uX, onR_s, kC_v, kC_n, kC_t, ul0, ula1, ula2, ula3, ula4, ulb2, ulb3, ulb4, ulc2, ulc3, ulc4, ule4, ulf3, ulf4, w0, hn, s_155, bI_fi (fun z => (bad_ik hx rfl (by omega)).mp z)]
theorem c_91 (hW : ShR μ s c) (hRS : ∀ i, i < 10 → StS μ (1068 + 23 * i)) (h3 : ∃ l, l < 10 ∧ mI μ 1000 3 = nI l) (hL : LdS μ f n s2 c2) (hv : mI μ 1030 9 = nI (cvl v)) (hv9 : v ≤ 1000009) (hn : mI μ 1000 6 = nI n) (hss : (s = 1001 ∧ s2 = 1032 ∨ s = 1032 ∧ s2 = 1001) ∧ (c = 1024 ∧ c2 = 1055 ∨ c = 1055 ∧ c2 = 1024)) (hT : ∀ j, 22 ≤ j → tn j = 0) (hLn : L ≤ n) (hq : PoL s c s2 c2 μ Q (rdAll f L (L + 1) 0 (rZ, tZ tn, 0, 0, tkn f L 0 v))) : Ev (d + 12) 91 [.ref 1000, .int (nI L)] μ Q := by
  have hW0 := hW
  have hLL := hL.le hLn
  have hn9 := hL.1.2.2.2.2.2
  have hok := ok_rdAll (f := f) (L := L) (L + 1) 0 (rZ, tZ tn, 0, 0, tkn f L 0 v) ⟨AL_Z hT, (ok_tkn (Nat.zero_le L) hv9).1, (show 0 ≤ 1 by omega), (show 0 < 4 by omega)⟩ (by omega) (Nat.zero_le _)
  obtain ⟨w0, w1, w2, w3, w4, w5, w6, w7, w8, w9, w10, w11, w12, w13, w14, w15⟩ := hW
  have g1 := hL.1.1
  have gg : nI 0 ≤ nI L ∧ nI L ≤ nI n := ⟨nI_le (by omega) (by omega), nI_le hLn (by omega)⟩
  rw [in_91]
  simp (disch := first | omega | rfl) only [e_91_0, e_91_1, e_91_2, e_91_3, e_91_6, e_91_9, e_91_12, e_91_14, e_91_15, e_91_16, e_91_17, e_91_20, e_91_21, e_91_24, e_91_25, e_91_28, e_91_29, e_91_30, e_91_31, e_91_34, e_91_37, e_91_40, e_91_41, e_91_44, e_91_45, e_91_46, e_91_47, e_91_50, e_91_51, e_91_54, e_91_55, e_91_56, e_91_59, e_91_60, ge1, ule_t, true_or, or_true, nI_add, nI_mul, nI_sub, nI_clamp, nI_lt_t, nI_lt_f, nI_le_t, nI_le_f, nI_eq_t, nI_eq_f, vp_nI, tI, fI, not_true, not_false_iff, true_and, and_true, Classical.not_not, mS_uI, mS_uA, mS_uJ, mS_uR, mS_uX, mR_uI, mR_uA, mR_uJ, mR_uX, mX_uI, mX_uA, mX_uJ, mX_uR, mI_s, mI_n, mI_A, mI_An, mI_uJ, mI_uR, mI_uX, mJ_uI, mJ_uA, mJ_uR, mJ_uX, onR_s, kC_v, kC_n, kC_t, ul0, ula1, ula2, ula3, ula4, ulb2, ulb3, ulb4, ulc2, ulc3, ulc4, ule4, ulf3, ulf4, w0, w4, g1, hn, s_155, bI_ti gg, bI_T]
  have hL2 : LdS (uI μ 1000 6 (nI 0)) f L s2 c2 := by
    obtain ⟨⟨g1, g2, g3, g4, g5, g6⟩, t1, t2, t3, t4, t5, t6, t7⟩ := hLL
    exact ⟨⟨g1, g2, g3, fun k hk => by rw [mI_n (by omega)]; exact g4 k hk, g5, g6⟩, t1.fr (P := fun a => a = 1000) (Fr.refl.iu rfl) (fun a ha => by omega), t2, t3, t4, t5, t6, t7⟩
  have h40 := fun (d : Nat) (Q : Po) => c_40 (d := d) (Q := Q) (F := mI (uI μ 1000 6 (nI 0)) 1030) (v := v) hL2 (by rw [mI_n (by omega)]; exact hv) hv9 hT
  rw [uA_self] at h40
  refine h40 _ _ ?_
  generalize rdAll f L (L + 1) 0 (rZ, tZ tn, 0, 0, tkn f L 0 v) = y at *
  cases y with
  | inl e =>
    intro μ' F' hf h11 h12 h9
    have he := (okE_n hok.1).2
    have t1 : mS μ' = mS μ := hf.sh
    have t2 : mR μ' = mR μ := hf.rf
    have he2 : ¬ nI 0 ≤ e.1 := Int32.not_le.mpr he
    simp (disch := first | omega | rfl) only [e_91_0, e_91_1, e_91_2, e_91_3, e_91_6, e_91_9, e_91_12, e_91_14, e_91_15, e_91_16, e_91_17, e_91_20, e_91_21, e_91_24, e_91_25, e_91_28, e_91_29, e_91_30, e_91_31, e_91_34, e_91_37, e_91_40, e_91_41, e_91_44, e_91_45, e_91_46, e_91_47, e_91_50, e_91_51, e_91_54, e_91_55, e_91_56, e_91_59, e_91_60, ge1, ule_t, true_or, or_true, nI_add, nI_mul, nI_sub, nI_clamp, nI_lt_t, nI_lt_f, nI_le_t, nI_le_f, nI_eq_t, nI_eq_f, vp_nI, tI, fI, not_true, not_false_iff, true_and, and_true, Classical.not_not, mS_uI, mS_uA, mS_uJ, mS_uR, mS_uX, mR_uI, mR_uA, mR_uJ, mR_uX, mX_uI, mX_uA, mX_uJ, mX_uR, mI_s, mI_n, mI_A, mI_An, mI_uJ, mI_uR, mI_uX, mJ_uI, mJ_uA, mJ_uR, mJ_uX, onR_s, kC_v, kC_n, kC_t, ul0, ula1, ula2, ula3, ula4, ulb2, ulb3, ulb4, ulc2, ulc3, ulc4, ule4, ulf3, ulf4, kC_v, t1, t2, w0, w4, g1, mI_A, h12, he2]
    refine hq _ ?_ (fun k k6 k7 => ?_) ?_ ?_ ?_
    · have : Fr (PE s2 c2) μ μ' := (Fr.refl.iu (Or.inl rfl)).trans (hf.mono (fun a ha => by unfold PE; omega))
      exact (this.au (Or.inr (Or.inl rfl))).iu (Or.inl rfl)
    · rw [mI_n (by omega), mI_An (by omega), hf.2.2.2 1000 (by omega), mI_n (by omega)]
    · rw [mI_n (by omega), mI_An (by omega), hf.2.2.2 1000 (by omega), mI_s]
    · rw [mI_s]
    · rw [mI_n (by omega), mI_A, h9]
  | inr y =>
    obtain ⟨⟨hA, ht, -, -⟩, hyL⟩ := hok
    intro μ' tk hf hR
    have t1 : mS μ' = mS μ := hf.sh
    have t2 : mR μ' = mR μ := hf.rf
    have hsc : s2 + 22 < c2 ∨ c2 + 4 < s2 := by omega
    have hr1 := hL.2.2.1
    have hr2 := hL.2.2.2.1
    have hS2 := hL.2.2.2.2.1
    have hSc2 := hL.2.2.2.2.2.1
    have hX0 := hf.2.2.2 1000 (by omega)
    generalize hμ2 : uI (uA μ' 1030 (ldT (mI (uI μ 1000 6 (nI 0)) 1030) L y.2.2.2.1 y.2.2.2.2.1 y.2.2.2.2.2 tk (nI 0) (-1))) 1000 7 (-1) = μ2
    have u1 : mS μ2 = mS μ := by rw [← hμ2]; exact t1
    have u2 : mR μ2 = mR μ := by rw [← hμ2]; exact t2
    have hfr2 : Fr (PE s2 c2) μ μ2 := by
      rw [← hμ2]
      have : Fr (PE s2 c2) μ μ' := (Fr.refl.iu (Or.inl rfl)).trans (hf.mono (fun a ha => by unfold PE; omega))
      exact (this.au (Or.inr (Or.inl rfl))).iu (Or.inl rfl)
    have hsm : ∀ a, (s2 ≤ a ∧ a ≤ s2 + 22) ∨ (c2 ≤ a ∧ a ≤ c2 + 4) → ∀ k, mI μ2 a k = mI μ' a k := fun a ha k => by
      rw [← hμ2, mI_n (by omega), mI_An (by omega)]
    have h92 := fun (d : Nat) (Q : Po) => s_92 (d := d) (Q := Q) (μ := μ2) (s := s) (c := c) (s2 := s2) (c2 := c2) (by rw [u1]; exact w0) (by rw [u1]; exact g1) (by rw [u2]; exact w1) (by rw [u2]; exact w2) (by rw [u2]; exact w4) (by rw [u2]; exact hr1) (by rw [u2]; exact hr2)
    have hW2 : ShR (swH μ2 s c s2 c2) s2 c2 := ShR_sw (by omega) (hfr2.sr hW0) (hfr2.st hS2) (hfr2.sc hSc2)
    have v0 := hW2
    obtain ⟨x0, x1, x2, x3, x4, x5, x6, x7, x8, x9, x10, x11, x12, x13, x14, x15⟩ := v0
    have hRw : RelL (swH μ2 s c s2 c2) s2 c2 y.2.1 y.2.2.1 := hR.fr hA.1.2.1 (fun a ha k => hsm a ha k)
    have hrt : fTree (mI (swH μ2 s c s2 c2) (c2 + 1)) (mI (swH μ2 s c s2 c2) 1064) 1 = rtT y.2.2.1 := fTree_eq (fun k hk => hRw.2.2 k hk) (by omega) (by omega)
    have hge : nI 0 ≤ nI y.1 := nI_le (by omega) (by omega)
    simp (disch := first | omega | rfl) only [e_91_0, e_91_1, e_91_2, e_91_3, e_91_6, e_91_9, e_91_12, e_91_14, e_91_15, e_91_16, e_91_17, e_91_20, e_91_21, e_91_24, e_91_25, e_91_28, e_91_29, e_91_30, e_91_31, e_91_34, e_91_37, e_91_40, e_91_41, e_91_44, e_91_45, e_91_46, e_91_47, e_91_50, e_91_51, e_91_54, e_91_55, e_91_56, e_91_59, e_91_60, ge1, ule_t, true_or, or_true, nI_add, nI_mul, nI_sub, nI_clamp, nI_lt_t, nI_lt_f, nI_le_t, nI_le_f, nI_eq_t, nI_eq_f, vp_nI, tI, fI, not_true, not_false_iff, true_and, and_true, Classical.not_not, mS_uI, mS_uA, mS_uJ, mS_uR, mS_uX, mR_uI, mR_uA, mR_uJ, mR_uX, mX_uI, mX_uA, mX_uJ, mX_uR, mI_s, mI_n, mI_A, mI_An, mI_uJ, mI_uR, mI_uX, mJ_uI, mJ_uA, mJ_uR, mJ_uX, onR_s, kC_v, kC_n, kC_t, ul0, ula1, ula2, ula3, ula4, ulb2, ulb3, ulb4, ulc2, ulc3, ulc4, ule4, ulf3, ulf4, kC_v, t1, t2, w0, w4, g1, mI_A, ldT_12, hge, hμ2, u1, u2, h92, x0]
    refine s_93 (s := s2) (c := c2) x0 x1 x2 x6 x11 x12 x13 hsc (by omega) (by omega) (hRw.n1 hA.1) hA.1.2.1 (fun μ3 hB => ?_)
    rw [hrt] at hB
    have hRt : RelL (cTr (swH μ2 s c s2 c2) c2) s2 c2 y.2.1 y.2.2.1 := hRw.fr hA.1.2.1 (fun a ha k => by unfold cTr; rw [mI_An (by omega)])
    obtain ⟨b1, b2, b3⟩ := bg_rel hRt hA hsc hB
    have hf3 : Fr (PE s2 c2) (swH μ2 s c s2 c2) μ3 := ((Fr.refl (P := PE s2 c2) (μ := swH μ2 s c s2 c2)).au (show PE s2 c2 1064 by unfold PE; omega)).trans (hB.1.mono (fun a ha => by unfold PE; omega))
    have hf4 : Fr (PE s2 c2) (swH μ2 s c s2 c2) (uI μ3 1000 4 (nI 0)) := hf3.iu (Or.inl rfl)
    have k3 : ∀ k, mI μ3 1000 k = mI μ2 1000 k := fun k => by rw [hB.1.2.2.2 1000 (by omega)]; unfold cTr; rw [mI_An (by omega)]; rfl
    simp (disch := first | omega | rfl) only [e_91_0, e_91_1, e_91_2, e_91_3, e_91_6, e_91_9, e_91_12, e_91_14, e_91_15, e_91_16, e_91_17, e_91_20, e_91_21, e_91_24, e_91_25, e_91_28, e_91_29, e_91_30, e_91_31, e_91_34, e_91_37, e_91_40, e_91_41, e_91_44, e_91_45, e_91_46, e_91_47, e_91_50, e_91_51, e_91_54, e_91_55, e_91_56, e_91_59, e_91_60, ge1, ule_t, true_or, or_true, nI_add, nI_mul, nI_sub, nI_clamp, nI_lt_t, nI_lt_f, nI_le_t, nI_le_f, nI_eq_t, nI_eq_f, vp_nI, tI, fI, not_true, not_false_iff, true_and, and_true, Classical.not_not, mS_uI, mS_uA, mS_uJ, mS_uR, mS_uX, mR_uI, mR_uA, mR_uJ, mR_uX, mX_uI, mX_uA, mX_uJ, mX_uR, mI_s, mI_n, mI_A, mI_An, mI_uJ, mI_uR, mI_uX, mJ_uI, mJ_uA, mJ_uR, mJ_uX, onR_s, kC_v, kC_n, kC_t, ul0, ula1, ula2, ula3, ula4, ulb2, ulb3, ulb4, ulc2, ulc3, ulc4, ule4, ulf3, ulf4, kC_n, hf3.sh, hf3.rf, x0]
    refine hq _ ?_ (fun pr => ?_) ?_ ?_ ?_
    · have e1 : Fr (PE s2 c2) (swH μ s c s2 c2) (swH μ2 s c s2 c2) := by
        refine ⟨hfr2.1, hfr2.2.1, ?_, fun a ha k => hfr2.2.2.2 a ha k⟩
        unfold swH uR
        rw [hfr2.2.2.1]
      exact e1.trans hf4
    · have hO2 := (ok_bg hA).1
      have n6 := hO2.2.1
      refine ⟨hf4.sr hW2, fun i hi => hf4.st (StS_sw (by omega) (by omega) (hfr2.st (hRS i hi))), b1.fr n6 (fun a a1 a2 k => mI_n (by omega)), b2.mu (fun a a1 a2 k => mI_n (by omega)), fun k hk => by rw [mI_n (by omega)]; exact b3 k hk, mI_s, ?_⟩
      obtain ⟨l, hl, e3⟩ := h3
      refine ⟨l, hl, ?_, fun i hi => absurd hi (Nat.not_lt_zero i)⟩
      rw [mI_n (by omega), k3, ← hμ2, mI_n (by omega), mI_An (by omega), hX0, mI_n (by omega), e3]
    · rw [mI_n (by omega), k3, ← hμ2, mI_n (by omega), mI_An (by omega), hX0, mI_s]
    · rw [mI_n (by omega), k3, ← hμ2, mI_s]
    · rw [mI_n (by omega), hB.1.2.2.2 1030 (by omega)]
      unfold cTr
      rw [mI_An (by omega)]
      show mI μ2 1030 9 = _
      rw [← hμ2, mI_n (by omega), mI_A]
      rfl
end LoC


