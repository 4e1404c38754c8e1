/-! the law makes its room -/
section Mk
variable {d L : Nat} {xs : Nat → Int32} {μ μ' μ2 : Mu} {Q : Po} {s c a : Nat} {l : List Nat}
/-- shapes and references stay -/
def ShE (lo : Nat) (μ μ' : Mu) : Prop := ∀ a, a < lo → mS μ' a = mS μ a ∧ ∀ k, mR μ' a k = mR μ a k
def mxH (μ μ' : Mu) : Mu := (μ'.1, μ'.2.1, μ.2.2.1, μ'.2.2.2)
theorem ShE.sam {lo : Nat} (h : ShE lo μ μ') (ha : a < lo) : Sam μ (mxH μ μ') a := ⟨(h a ha).1, fun _ => rfl, (h a ha).2⟩
theorem StS.pw {lo : Nat} (h : StS μ s) (e : ShE lo μ μ') (hs : s + 23 ≤ lo) : StS μ' s := (h.sm (μ' := mxH μ μ') (fun a h1 h2 => e.sam (by omega))).gen rfl rfl
theorem ScS.pw {lo : Nat} (h : ScS μ s) (e : ShE lo μ μ') (hs : s + 5 ≤ lo) : ScS μ' s := (h.sm (μ' := mxH μ μ') (fun a h1 h2 => e.sam (by omega))).gen rfl rfl
theorem ShR.sm (h : ShR μ s c) (e : ∀ a, 1000 ≤ a → a < 1298 → Sam μ μ' a) : ShR μ' s c := by
  obtain ⟨w0, w1, w2, w3, w4, w5, w6, w7, w8, w9, w10, w11, w12, w13, w14, w15⟩ := h
  exact ⟨(e _ (by omega) (by omega)).1.trans w0, ((e _ (by omega) (by omega)).2.2 _).trans w1, ((e _ (by omega) (by omega)).2.2 _).trans w2, ((e _ (by omega) (by omega)).2.2 _).trans w3, ((e _ (by omega) (by omega)).2.2 _).trans w4, ((e _ (by omega) (by omega)).2.2 _).trans w5, ((e _ (by omega) (by omega)).2.2 _).trans w6, ((e _ (by omega) (by omega)).2.2 _).trans w7, (e _ (by omega) (by omega)).1.trans w8, (e _ (by omega) (by omega)).1.trans w9, fun i hi => ((e _ (by omega) (by omega)).2.2 _).trans (w10 i hi), w11.sm (fun a h1 h2 => e a (by omega) (by omega)), w12.sm (fun a h1 h2 => e a (by omega) (by omega)), w13.sm (fun a h1 h2 => e a (by omega) (by omega)), w14, w15⟩
theorem ShR.pw (h : ShR μ s c) (e : ShE 1298 μ μ') : ShR μ' s c := (h.sm (μ' := mxH μ μ') (fun a h1 h2 => e.sam (by omega))).gen rfl rfl
theorem FrG.she {lo : Nat} (h : FrG lo μ μ') : ShE lo μ μ' := fun a ha => ⟨(h.2 a ha).1, (h.2 a ha).2.2⟩
theorem ShE.trans {lo : Nat} (h : ShE lo μ μ') (h' : ShE lo μ' μ2) : ShE lo μ μ2 := fun a ha => ⟨(h' a ha).1.trans (h a ha).1, fun k => ((h' a ha).2 k).trans ((h a ha).2 k)⟩
theorem FrP.she {lo : Nat} (h : FrP μ μ') (hl : lo ≤ mX μ) : ShE lo μ μ' := fun a ha => h.2.1 a (by omega)
theorem TxC.fg (h : TxC μ) (e : FrG 1000 μ μ') : TxC μ' := fun i hi h2 => by
  obtain ⟨⟨t1, t2, t3, t4⟩, h3⟩ := h i hi h2
  have e1 := e.2 i (by omega)
  have e2 := e.2 (100 + i) (by omega)
  exact ⟨⟨e1.1.trans t1, (e1.2.2 _).trans t2, (e1.2.1 _).trans t3, e2.1.trans t4⟩, fun j hj => (e2.2.1 _).trans (h3 j hj)⟩
theorem FrP.fg (h : FrP μ μ') (hl : 1000 ≤ mX μ) : FrG 1000 μ μ' := ⟨h.1, fun a ha => ⟨(h.2.1 a (by omega)).1, fun k => h.2.2 a (by omega) (by omega) k (by omega), (h.2.1 a (by omega)).2⟩⟩
theorem w_185 (hL : L ≤ 260) (hW0 : LwW L xs μ) (hT0 : TxC μ) (hX0 : mX μ = 1000) (hq : ∀ μ' r tn, CI μ' 1032 1055 (rBg r tn (rtT tn) (nM r)) 0 (fun _ _ => 0) tn → AL r tn → nM r = memN L xs → (∀ c, c < 16 → tn c = nI (staN L xs c)) → LwW L xs μ' → 1298 ≤ mX μ' → Q (some (some (.ref 1000))) μ') : Ev (d + 13) 185 [.ref 300] μ Q := by
  rw [in_185]
  simp (disch := first | omega | rfl) only [e_185_0, e_185_3, e_185_4, ge1, ule_t, true_or, or_true, nI_add, nI_mul, nI_sub, nI_clamp, nI_lt_t, nI_lt_f, nI_le_t, nI_le_f, nI_eq_t, nI_eq_f, vp_nI, tI, fI, not_true, not_false_iff, true_and, and_true, Classical.not_not, mS_uI, mS_uA, mS_uJ, mS_uR, mS_uX, mR_uI, mR_uA, mR_uJ, mR_uX, mX_uI, mX_uA, mX_uJ, mX_uR, mI_s, mI_n, mI_A, mI_An, mI_uJ, mI_uR, mI_uX, mJ_uI, mJ_uA, mJ_uR, mJ_uX, onR_s, kC_v, kC_n, kC_t, hX0, uN_n]
  have t1 : ule (uad (0, 0) (1, 11)) (1698, 2909920) = True := eq_true (show 0 + 1 ≤ 1698 ∧ 0 + 11 ≤ 2909920 by omega)
  have t2 : ule (uad (uad (0, 0) (1, 11)) (297, 9909)) (1698, 2909920) = True := eq_true (show 0 + 1 + 297 ≤ 1698 ∧ 0 + 11 + 9909 ≤ 2909920 by omega)
  rw [t1, t2, true_and, true_and]
  refine n_88 hX0 (fun μ1 hR => ?_)
  obtain ⟨x1, p1, w1, k1, ⟨g1, g2, g3, g4, g5, g6, g7, g8⟩, -, -, -, i3, -, i6, -⟩ := hR
  have f1 : FrG 1000 μ μ1 := ⟨by omega, p1⟩
  have hW1 := hW0.fr f1 (Nat.le_refl _)
  simp (disch := first | omega | rfl) only [e_185_7, e_185_8, e_185_9, ge1, ule_t, true_or, or_true, nI_add, nI_mul, nI_sub, nI_clamp, nI_lt_t, nI_lt_f, nI_le_t, nI_le_f, nI_eq_t, nI_eq_f, vp_nI, tI, fI, not_true, not_false_iff, true_and, and_true, Classical.not_not, mS_uI, mS_uA, mS_uJ, mS_uR, mS_uX, mR_uI, mR_uA, mR_uJ, mR_uX, mX_uI, mX_uA, mX_uJ, mX_uR, mI_s, mI_n, mI_A, mI_An, mI_uJ, mI_uR, mI_uX, mJ_uI, mJ_uA, mJ_uR, mJ_uX, onR_s, kC_v, kC_n, kC_t]
  have c1 : cg (nN μ 1000 11 11) μ1 (uad (0, 0) (1, 11)) (297, 9909) = (298, 9920) := by
    unfold cg
    rw [x1]
    rfl
  rw [c1]
  have t3 : ule (uad (298, 9920) (1000, 2000000)) (1698, 2909920) = True := eq_true (show 298 + 1000 ≤ 1698 ∧ 9920 + 2000000 ≤ 2909920 by omega)
  rw [t3, true_and]
  refine w_182 hL hW1 (by omega) (fun μ2 p l n r tn f2 S2 hl6 hTx => ?_)
  obtain ⟨hRn, hcn, hnM, hnT, hnO, hNm, hAL, hst⟩ := hTx
  have x2 := f2.1
  rw [x1] at f2 x2
  have S2' := S2
  rw [x1] at S2
  have hW2 := hW1.fr f2 (by omega)
  have sh2 := f2.she
  simp (disch := first | omega | rfl) only [e_185_12, e_185_13, e_185_14, e_185_15, ge1, ule_t, true_or, or_true, nI_add, nI_mul, nI_sub, nI_clamp, nI_lt_t, nI_lt_f, nI_le_t, nI_le_f, nI_eq_t, nI_eq_f, vp_nI, tI, fI, not_true, not_false_iff, true_and, and_true, Classical.not_not, mS_uI, mS_uA, mS_uJ, mS_uR, mS_uX, mR_uI, mR_uA, mR_uJ, mR_uX, mX_uI, mX_uA, mX_uJ, mX_uR, mI_s, mI_n, mI_A, mI_An, mI_uJ, mI_uR, mI_uX, mJ_uI, mJ_uA, mJ_uR, mJ_uX, onR_s, kC_v, kC_n, kC_t]
  have hc2 : ∃ v, cg μ1 μ2 (298, 9920) (1000, 2000000) = v ∧ ule v (1298, 2009920) = True := by
    refine ⟨_, rfl, ?_⟩
    unfold cg
    split
    · exact eq_true (show 298 ≤ 1298 ∧ 9920 ≤ 2009920 by omega)
    · exact eq_true (show 298 + 1000 ≤ 1298 ∧ 9920 + 2000000 ≤ 2009920 by omega)
  obtain ⟨v2, e2, hv2⟩ := hc2
  rw [e2]
  have hv2' : v2.1 ≤ 1298 ∧ v2.2 ≤ 2009920 := of_eq_true hv2
  have t4 : ule (uad v2 (400, 900000)) (1698, 2909920) = True := eq_true ⟨show v2.1 + 400 ≤ 1698 by omega, show v2.2 + 900000 ≤ 2909920 by omega⟩
  rw [t4, true_and]
  have w2 := w1.pw sh2
  refine w_184 hW2 (z0 := 1298) (by omega) x2 w2.1 w2.2.2.2.2.1 ⟨(sh2 1030 (by omega)).1.trans g1, ((sh2 1030 (by omega)).2 0).trans g2, (sh2 1031 (by omega)).1.trans g5⟩ (((f2.2 1000 (by omega)).2.1 6).trans i6) S2 hl6 (fun μ3 q f3 h6 hlq hb hb9 => ?_)
  have sh3 := f3.she x2
  have s13 := sh2.trans sh3
  have w3 := w1.pw s13
  have x3 := f3.1
  have S3 := f3.st S2 (by omega)
  have fg3 := f3.fg (by omega)
  have hW3 := hW2.fr fg3 (Nat.le_refl _)
  have hT3 : TxC μ3 := ((hT0.fg f1).fg ⟨by omega, fun a ha => f2.2 a (by omega)⟩).fg fg3
  have hc3 : ∃ v, cg μ2 μ3 v2 (400, 900000) = v ∧ ule v (1698, 2909920) = True := by
    refine ⟨_, rfl, ?_⟩
    unfold cg
    split
    · exact eq_true ⟨show v2.1 ≤ 1698 by omega, show v2.2 ≤ 2909920 by omega⟩
    · exact t4
  obtain ⟨v3, e3, hv3⟩ := hc3
  simp (disch := first | omega | rfl) only [e_185_18, e_185_19, e_185_20, ge1, ule_t, true_or, or_true, nI_add, nI_mul, nI_sub, nI_clamp, nI_lt_t, nI_lt_f, nI_le_t, nI_le_f, nI_eq_t, nI_eq_f, vp_nI, tI, fI, not_true, not_false_iff, true_and, and_true, Classical.not_not, mS_uI, mS_uA, mS_uJ, mS_uR, mS_uX, mR_uI, mR_uA, mR_uJ, mR_uX, mX_uI, mX_uA, mX_uJ, mX_uR, mI_s, mI_n, mI_A, mI_An, mI_uJ, mI_uR, mI_uX, mJ_uI, mJ_uA, mJ_uR, mJ_uX, onR_s, kC_v, kC_n, kC_t]
  rw [e3, hv3, true_and]
  have S30 := S3
  obtain ⟨v, z1, z2, z3, z4, ht, hc, hb0⟩ := S30
  have h18 := fun (d : Nat) (Q : Po) => s_18 (d := d) (Q := Q) ht (by omega)
  simp (disch := first | omega | rfl) only [e_185_18, e_185_19, e_185_20, e_185_23, ge1, ule_t, true_or, or_true, nI_add, nI_mul, nI_sub, nI_clamp, nI_lt_t, nI_lt_f, nI_le_t, nI_le_f, nI_eq_t, nI_eq_f, vp_nI, tI, fI, not_true, not_false_iff, true_and, and_true, Classical.not_not, mS_uI, mS_uA, mS_uJ, mS_uR, mS_uX, mR_uI, mR_uA, mR_uJ, mR_uX, mX_uI, mX_uA, mX_uJ, mX_uR, mI_s, mI_n, mI_A, mI_An, mI_uJ, mI_uR, mI_uX, mJ_uI, mJ_uA, mJ_uR, mJ_uX, onR_s, kC_v, kC_n, kC_t, h18, ht.1, w3.1, hv3]
  have hld : LdS μ3 (fun k => (l ++ q).getD k 0) (l ++ q).length 1032 1055 := by
    refine ⟨⟨(s13 1030 (by omega)).1.trans g1, ((s13 1030 (by omega)).2 0).trans g2, (s13 1031 (by omega)).1.trans g5, fun k hk => ?_, fun k => ?_, by omega⟩, hT3, ((s13 1030 (by omega)).2 1).trans g3, ((s13 1030 (by omega)).2 2).trans g4, g6.pw s13 (by omega), g7.pw s13 (by omega), Or.inr rfl, Or.inr rfl⟩
    · rw [hb k hk, sgB_s (getD_lt hb9 hk)]
    · by_cases hk : k < (l ++ q).length
      · have := getD_lt hb9 hk; show (l ++ q).getD k 0 < 256; omega
      · show (l ++ q).getD k 0 < 256
        rw [List.getD_eq_getElem?_getD, List.getElem?_eq_none (by omega)]
        show 0 < 256
        omega
  refine c_91 (s := 1001) (c := 1024) (v := 0) (tn := fun _ => 0) w3 (fun i hi => (k1 i hi).pw s13 (by omega)) ⟨0, by omega, (f3.2.2 1000 (by omega) (by omega) 3 (by omega)).trans (((f2.2 1000 (by omega)).2.1 3).trans i3)⟩ hld ?_ (by omega) h6 ⟨Or.inl ⟨rfl, rfl⟩, Or.inl ⟨rfl, rfl⟩⟩ (fun _ _ => rfl) (by rw [List.length_append]; omega) ?_
  · rw [f3.2.2 1030 (by omega) (by omega) 9 (by omega), (f2.2 1030 (by omega)).2.1 9, g8]
    rfl
  · have hA : At (fun k => (l ++ q).getD k 0) 0 l := fun j hj => by
      show (l ++ q).getD (0 + j) 0 = _
      rw [Nat.zero_add]
      simp [List.getElem?_append_left hj]
    obtain ⟨v', hv'⟩ := hRn.end hA (by rw [← hcn]; exact List.count_le_length) 0
    rw [hv']
    intro μ5 hf hCI _ _ _
    have hI := hCI (fun _ _ => 0)
    have sh5 : ∀ a, mS μ5 a = mS μ3 a := fun a => congrFun hf.sh a
    have rf5 : ∀ a, a ≠ 1000 → a ≠ 1030 → ∀ k, mR μ5 a k = mR μ3 a k := fun a h1 h2 k => by rw [hf.rf]; exact swR h1 h2
    have in5 : ∀ a, a < 1000 ∨ 1298 ≤ a → ∀ k, mI μ5 a k = mI μ3 a k := fun a h k => (hf.2.2.2 a (by unfold PE; omega) k).trans rfl
    have x5 : mX μ5 = mX μ3 := hf.1
    have fg5 : FrG 1000 μ3 μ5 := ⟨by omega, fun a ha => ⟨sh5 a, in5 a (by omega), rf5 a (by omega) (by omega)⟩⟩
    have S5 : StL μ5 (mX μ3) p l := ⟨v, Nat.zero_le _, Nat.zero_le _, z3, z4, ⟨(sh5 p).trans ht.1, (rf5 p (by omega) (by omega) 0).trans ht.2.1, (in5 p (by omega) 1).trans ht.2.2.1, (sh5 v).trans ht.2.2.2⟩, fun j hj => (in5 v (by omega) j).trans (hc j hj), hb0⟩
    simp (disch := first | omega | rfl) only [e_185_26, e_185_27, ge1, ule_t, true_or, or_true, nI_add, nI_mul, nI_sub, nI_clamp, nI_lt_t, nI_lt_f, nI_le_t, nI_le_f, nI_eq_t, nI_eq_f, vp_nI, tI, fI, not_true, not_false_iff, true_and, and_true, Classical.not_not, mS_uI, mS_uA, mS_uJ, mS_uR, mS_uX, mR_uI, mR_uA, mR_uJ, mR_uX, mX_uI, mX_uA, mX_uJ, mX_uR, mI_s, mI_n, mI_A, mI_An, mI_uJ, mI_uR, mI_uX, mJ_uI, mJ_uA, mJ_uR, mJ_uX, onR_s, kC_v, kC_n, kC_t, hv3]
    rw [w_183 S5 (by omega)]
    simp (disch := first | omega | rfl) only [e_185_30, e_185_33, e_185_34, e_185_37, e_185_38, ge1, ule_t, true_or, or_true, nI_add, nI_mul, nI_sub, nI_clamp, nI_lt_t, nI_lt_f, nI_le_t, nI_le_f, nI_eq_t, nI_eq_f, vp_nI, tI, fI, not_true, not_false_iff, true_and, and_true, Classical.not_not, mS_uI, mS_uA, mS_uJ, mS_uR, mS_uX, mR_uI, mR_uA, mR_uJ, mR_uX, mX_uI, mX_uA, mX_uJ, mX_uR, mI_s, mI_n, mI_A, mI_An, mI_uJ, mI_uR, mI_uX, mJ_uI, mJ_uA, mJ_uR, mJ_uX, onR_s, kC_v, kC_n, kC_t, hv3, hcn]
    exact hq μ5 r tn hI hAL hnM hst (hW3.fr fg5 (Nat.le_refl _)) (by omega)
end Mk

