/-! trees, as the law builds them and goes down -/
def RT (a : Nat) : Prop := 1062 ≤ a ∧ a < 1068
section LTree
variable {d L : Nat} {xs : Nat → Int32} {μ μ0 μ1 μ' : Mu} {Q : Po} {x y g w o : Int32} {r r' tn F G : Nat → Int32} {u a b m i t σ s c k z n : Nat} {pr : Nat → Nat → Int32} {l0 l1 l2 l3 l4 l5 l6 l7 : Option Value}
theorem CI.rt (hI : CI μ s c r u pr tn) (hA : AI r u pr tn) (hf : Fr RT μ μ') : CI μ' s c r u pr tn := CI.gen (μ := μ) hf.sh hf.rf (fun a h1 h2 k => hf.2.2.2 a (by unfold RT; omega) k) hI hA.1.2.1 hA.2.2.1 (fun j hj => (hA.2.2.2.1 j hj).1.2.1)
theorem w_107 (hI : CI μ s c r u pr tn) (hA : AI r u pr tn) (ha : a < nM r) (h1 : 1 ≤ k) (h2 : k < 32) (hq : ∀ μ', Fr RT μ μ' → Q (some (some (.int (fCk (rW r) a k)))) μ') : Ev (d + 4) 107 [.ref 1000, .int (nI a), .int (nI k)] μ Q := by
  rw [c_107 hI.1 hI.2.2.1.1 hA.1 ha h1 h2]
  exact hq _ (Fr.refl.au ⟨by omega, by omega⟩)
theorem dDown_rt : Fr RT μ (dDown μ a b) := by
  unfold dDown
  exact (((Fr.refl.au ⟨by omega, by omega⟩).au ⟨by omega, by omega⟩).iu ⟨by omega, by omega⟩).iu ⟨by omega, by omega⟩
theorem w_115 (hI : CI μ s c r u pr tn) (hA : AI r u pr tn) (ha : a < nM r) (hb : b < nM r) (hq : ∀ μ', Fr RT μ μ' → Q (some (some (.int (nI (fWr (rW r) a b))))) μ') : Ev (d + 4) 115 [.ref 1000, .int (nI a), .int (nI b)] μ Q := by
  rw [c_115 hI.1 hI.2.2.1.1 hA.1 ha hb]
  exact hq _ dDown_rt
theorem w_116 (hI : CI μ s c r u pr tn) (hA : AI r u pr tn) (ha : a < nM r) (hb : b < nM r) (hq : ∀ μ', Fr RT μ μ' → Q (some (some (.int (nI (fCp (rW r) a b))))) μ') : Ev (d + 4) 116 [.ref 1000, .int (nI a), .int (nI b)] μ Q := by
  rw [c_116 hI.1 hI.2.2.1.1 hA.1 ha hb]
  exact hq _ dDown_rt
theorem w_114 (hI : CI μ s c r u pr tn) (hA : AI r u pr tn) (ha : a < nM r) (hb : b < nM r) (hq : ∀ μ', Fr RT μ μ' → Q (some (some (.int (if nE (rW r) a = nE (rW r) b then oN (fFst (fWr (rW r) a b) 16 0) else -4)))) μ') : Ev (d + 4) 114 [.ref 1000, .int (nI a), .int (nI b)] μ Q := by
  obtain ⟨-, e2, -, e4⟩ := okBE hA.1.2.2.2.2.2.2.2.2.2.2.2.2.2.2.1 ha
  obtain ⟨-, f2, -, f4⟩ := okBE hA.1.2.2.2.2.2.2.2.2.2.2.2.2.2.2.1 hb
  have ee : (rW r a 1 = rW r b 1) = (nE (rW r) a = nE (rW r) b) := by
    rw [e2, f2]
    exact propext ⟨fun h => (nI_eq (by omega) (by omega)).mp h, fun h => by rw [h]⟩
  by_cases h : nE (rW r) a = nE (rW r) b
  · rw [if_pos h] at hq
    rw [c_114 hI.1 hI.2.2.1.1 hA.1 ha hb (by rw [ee]; exact h)]
    exact hq _ dDown_rt
  · rw [if_neg h] at hq
    rw [c_114n hI.1 hI.2.2.1.1 hA.1 ha hb (by rw [ee]; exact h)]
    exact hq _ Fr.refl
theorem fCk_lf (V : VW) (hc : c < 16) : fCk V a (16 + c) = nI 40503 * V a (7 + c) + nI (977 * c) + nI 1 := fTree_lf hc
theorem fCk_nd (V : VW) (h1 : 1 ≤ k) (h2 : k < 16) : fCk V a k = tNode (fCk V a) k := fTree_nd h1 (by omega)
theorem ku191 : ule ((0, 0) : Nat × Nat) (10, 100) = True := eq_true (show 0 ≤ 10 ∧ 0 ≤ 100 by omega)
theorem ku191a : ule (uad (0, 0) (1, 6)) (10, 100) = True := eq_true (show 0 + 1 ≤ 10 ∧ 0 + 6 ≤ 100 by omega)
theorem ku191b : ule (uad (0, 0) (2, 12)) (10, 100) = True := eq_true (show 0 + 2 ≤ 10 ∧ 0 + 12 ≤ 100 by omega)
theorem ku191c : ule (uad (0, 0) (1, 32)) (10, 100) = True := eq_true (show 0 + 1 ≤ 10 ∧ 0 + 32 ≤ 100 by omega)
theorem ku191d : ule (uad (uad (0, 0) (1, 32)) (1, 6)) (10, 100) = True := eq_true (show 0 + 1 + 1 ≤ 10 ∧ 0 + 32 + 6 ≤ 100 by omega)
theorem ku191e : ule (uad (uad (0, 0) (1, 32)) (2, 12)) (10, 100) = True := eq_true (show 0 + 1 + 2 ≤ 10 ∧ 0 + 32 + 12 ≤ 100 by omega)
theorem l_191a (hA : AI r u pr tn) (ha : a < nM r) (hX : 1298 ≤ mX μ0) : ∀ m c μ, c + m = 16 → CI μ 1032 1055 r u pr tn → Fr RT μ0 μ → (∀ μ', Fr RT μ0 μ' → EM 191 (d + 8) 45 [some (.ref 1000), some (.int (nI a)), l2, some (.int (nI 16)), l4, l5, l6, l7] [] μ' (0, 0) Q) → EM 191 (d + 8) 2 [some (.ref 1000), some (.int (nI a)), l2, some (.int (nI c)), l4, l5, l6, l7] [] μ (0, 0) Q := by
  intro m
  induction m with
  | zero =>
    intro c μ hc hI hf hq
    obtain rfl : c = 16 := by omega
    rw [e_191_2]
    simp (disch := first | omega | rfl) only [e_191_3, e_191_5, e_191_8, e_191_9, e_191_10, e_191_12, e_191_13, e_191_14, e_191_17, e_191_19, e_191_20, e_191_21, e_191_22, e_191_25, e_191_26, e_191_29, e_191_30, e_191_31, e_191_32, e_191_33, e_191_34, e_191_37, e_191_38, e_191_39, e_191_42, ge1, ule_t, true_or, or_true, nI_add, nI_mul, nI_sub, nI_clamp, nI_lt_t, nI_lt_f, nI_le_t, nI_le_f, nI_eq_t, nI_eq_f, vp_nI, tI, fI, not_true, not_false_iff, true_and, and_true, Classical.not_not, mS_uI, mS_uA, mS_uJ, mS_uR, mS_uX, mR_uI, mR_uA, mR_uJ, mR_uX, mX_uI, mX_uA, mX_uJ, mX_uR, mI_s, mI_n, mI_A, mI_An, mI_uJ, mI_uR, mI_uX, mJ_uI, mJ_uA, mJ_uR, mJ_uX, onR_s, kC_v, kC_n, kC_t, forall_const, false_implies]
    exact hq μ hf
  | succ m ih =>
    intro c μ hc hI hf hq
    have sh := hI.1.1
    have ke := fCk_lf (a := a) (rW r) (show c < 16 by omega)
    rw [e_191_2]
    simp (disch := first | omega | rfl) only [e_191_3, e_191_5, e_191_8, e_191_9, e_191_10, e_191_12, e_191_13, e_191_14, e_191_17, e_191_19, e_191_20, e_191_21, e_191_22, e_191_25, e_191_26, e_191_29, e_191_30, e_191_31, e_191_32, e_191_33, e_191_34, e_191_37, e_191_38, e_191_39, e_191_42, ge1, ule_t, true_or, or_true, nI_add, nI_mul, nI_sub, nI_clamp, nI_lt_t, nI_lt_f, nI_le_t, nI_le_f, nI_eq_t, nI_eq_f, vp_nI, tI, fI, not_true, not_false_iff, true_and, and_true, Classical.not_not, mS_uI, mS_uA, mS_uJ, mS_uR, mS_uX, mR_uI, mR_uA, mR_uJ, mR_uX, mX_uI, mX_uA, mX_uJ, mX_uR, mI_s, mI_n, mI_A, mI_An, mI_uJ, mI_uR, mI_uX, mJ_uI, mJ_uA, mJ_uR, mJ_uX, onR_s, kC_v, kC_n, kC_t, sh, ku191a, forall_const, false_implies]
    refine w_107 hI hA ha (by omega) (by omega) (fun μ1 h1 => ?_)
    have hI1 := hI.rt hA h1
    have sh1 := hI1.1.1
    have g1 := fun (d : Nat) (Q : Po) => c_103 (d := d) (Q := Q) (i := c) hI1.1 hI1.2.2.1.1 hA.1 ha (by omega)
    have e : nI 40503 * rW r a (7 + c) + nI 977 * nI c + nI 1 = fCk (rW r) a (16 + c) := by rw [ke, nI_mul]
    rw [nI_mul] at e
    simp (disch := first | omega | rfl) only [e_191_17, e_191_19, e_191_20, e_191_21, e_191_22, e_191_25, e_191_26, e_191_29, e_191_30, e_191_31, e_191_32, e_191_33, e_191_34, e_191_37, e_191_38, e_191_39, e_191_42, ge1, ule_t, true_or, or_true, nI_add, nI_mul, nI_sub, nI_clamp, nI_lt_t, nI_lt_f, nI_le_t, nI_le_f, nI_eq_t, nI_eq_f, vp_nI, tI, fI, not_true, not_false_iff, true_and, and_true, Classical.not_not, mS_uI, mS_uA, mS_uJ, mS_uR, mS_uX, mR_uI, mR_uA, mR_uJ, mR_uX, mX_uI, mX_uA, mX_uJ, mX_uR, mI_s, mI_n, mI_A, mI_An, mI_uJ, mI_uR, mI_uX, mJ_uI, mJ_uA, mJ_uR, mJ_uX, onR_s, kC_v, kC_n, kC_t, sh1, ku191, ku191a, ku191b, cgE h1.nx, cgS, g1, e, forall_const, false_implies, eq_self]
    exact ih (c + 1) μ1 (by omega) hI1 (hf.trans h1) hq
theorem l_191b (hA : AI r u pr tn) (ha : a < nM r) (hX : 1298 ≤ mX μ0) : ∀ m k μ, 1 ≤ k → k + m = 16 → CI μ 1032 1055 r u pr tn → Fr RT μ0 μ → (∀ μ', Fr RT μ0 μ' → EM 191 (d + 8) 112 [some (.ref 1000), some (.int (nI a)), l2, some (.int (nI 16)), l4, l5, l6, l7] [] μ' (0, 0) Q) → EM 191 (d + 8) 47 [some (.ref 1000), some (.int (nI a)), l2, some (.int (nI k)), l4, l5, l6, l7] [] μ (0, 0) Q := by
  intro m
  induction m with
  | zero =>
    intro k μ hk1 hk hI hf hq
    obtain rfl : k = 16 := by omega
    rw [e_191_47]
    simp (disch := first | omega | rfl) only [e_191_48, e_191_50, e_191_53, e_191_54, e_191_55, e_191_56, e_191_59, e_191_62, e_191_63, e_191_64, e_191_65, e_191_66, e_191_67, e_191_70, e_191_71, e_191_72, e_191_75, e_191_76, e_191_77, e_191_78, e_191_79, e_191_80, e_191_81, e_191_82, e_191_83, e_191_84, e_191_85, e_191_86, e_191_87, e_191_90, e_191_91, e_191_92, e_191_93, e_191_94, e_191_95, e_191_96, e_191_99, e_191_100, e_191_101, e_191_104, e_191_105, e_191_106, e_191_109, ge1, ule_t, true_or, or_true, nI_add, nI_mul, nI_sub, nI_clamp, nI_lt_t, nI_lt_f, nI_le_t, nI_le_f, nI_eq_t, nI_eq_f, vp_nI, tI, fI, not_true, not_false_iff, true_and, and_true, Classical.not_not, mS_uI, mS_uA, mS_uJ, mS_uR, mS_uX, mR_uI, mR_uA, mR_uJ, mR_uX, mX_uI, mX_uA, mX_uJ, mX_uR, mI_s, mI_n, mI_A, mI_An, mI_uJ, mI_uR, mI_uX, mJ_uI, mJ_uA, mJ_uR, mJ_uX, onR_s, kC_v, kC_n, kC_t, forall_const, false_implies]
    exact hq μ hf
  | succ m ih =>
    intro k μ hk1 hk hI hf hq
    have sh := hI.1.1
    have kd := fCk_nd (a := a) (rW r) hk1 (show k < 16 by omega)
    rw [e_191_47]
    simp (disch := first | omega | rfl) only [e_191_48, e_191_50, e_191_53, e_191_54, e_191_55, e_191_56, e_191_59, e_191_62, e_191_63, e_191_64, e_191_65, e_191_66, e_191_67, e_191_70, e_191_71, e_191_72, e_191_75, e_191_76, e_191_77, e_191_78, e_191_79, e_191_80, e_191_81, e_191_82, e_191_83, e_191_84, e_191_85, e_191_86, e_191_87, e_191_90, e_191_91, e_191_92, e_191_93, e_191_94, e_191_95, e_191_96, e_191_99, e_191_100, e_191_101, e_191_104, e_191_105, e_191_106, e_191_109, ge1, ule_t, true_or, or_true, nI_add, nI_mul, nI_sub, nI_clamp, nI_lt_t, nI_lt_f, nI_le_t, nI_le_f, nI_eq_t, nI_eq_f, vp_nI, tI, fI, not_true, not_false_iff, true_and, and_true, Classical.not_not, mS_uI, mS_uA, mS_uJ, mS_uR, mS_uX, mR_uI, mR_uA, mR_uJ, mR_uX, mX_uI, mX_uA, mX_uJ, mX_uR, mI_s, mI_n, mI_A, mI_An, mI_uJ, mI_uR, mI_uX, mJ_uI, mJ_uA, mJ_uR, mJ_uX, onR_s, kC_v, kC_n, kC_t, sh, ku191a, forall_const, false_implies]
    refine w_107 hI hA ha (by omega) (by omega) (fun μ1 h1 => ?_)
    have hI1 := hI.rt hA h1
    have sh1 := hI1.1.1
    simp (disch := first | omega | rfl) only [e_191_59, e_191_62, e_191_63, e_191_64, e_191_65, e_191_66, e_191_67, e_191_70, e_191_71, e_191_72, e_191_75, e_191_76, e_191_77, e_191_78, e_191_79, e_191_80, e_191_81, e_191_82, e_191_83, e_191_84, e_191_85, e_191_86, e_191_87, e_191_90, e_191_91, e_191_92, e_191_93, e_191_94, e_191_95, e_191_96, e_191_99, e_191_100, e_191_101, e_191_104, e_191_105, e_191_106, e_191_109, ge1, ule_t, true_or, or_true, nI_add, nI_mul, nI_sub, nI_clamp, nI_lt_t, nI_lt_f, nI_le_t, nI_le_f, nI_eq_t, nI_eq_f, vp_nI, tI, fI, not_true, not_false_iff, true_and, and_true, Classical.not_not, mS_uI, mS_uA, mS_uJ, mS_uR, mS_uX, mR_uI, mR_uA, mR_uJ, mR_uX, mX_uI, mX_uA, mX_uJ, mX_uR, mI_s, mI_n, mI_A, mI_An, mI_uJ, mI_uR, mI_uX, mJ_uI, mJ_uA, mJ_uR, mJ_uX, onR_s, kC_v, kC_n, kC_t, sh1, ku191, ku191a, cgE h1.nx, forall_const, false_implies]
    refine w_107 hI1 hA ha (by omega) (by omega) (fun μ2 h2 => ?_)
    have hI2 := hI1.rt hA h2
    have sh2 := hI2.1.1
    simp (disch := first | omega | rfl) only [e_191_70, e_191_71, e_191_72, e_191_75, e_191_76, e_191_77, e_191_78, e_191_79, e_191_80, e_191_81, e_191_82, e_191_83, e_191_84, e_191_85, e_191_86, e_191_87, e_191_90, e_191_91, e_191_92, e_191_93, e_191_94, e_191_95, e_191_96, e_191_99, e_191_100, e_191_101, e_191_104, e_191_105, e_191_106, e_191_109, ge1, ule_t, true_or, or_true, nI_add, nI_mul, nI_sub, nI_clamp, nI_lt_t, nI_lt_f, nI_le_t, nI_le_f, nI_eq_t, nI_eq_f, vp_nI, tI, fI, not_true, not_false_iff, true_and, and_true, Classical.not_not, mS_uI, mS_uA, mS_uJ, mS_uR, mS_uX, mR_uI, mR_uA, mR_uJ, mR_uX, mX_uI, mX_uA, mX_uJ, mX_uR, mI_s, mI_n, mI_A, mI_An, mI_uJ, mI_uR, mI_uX, mJ_uI, mJ_uA, mJ_uR, mJ_uX, onR_s, kC_v, kC_n, kC_t, sh2, ku191, ku191a, cgE h2.nx, forall_const, false_implies]
    refine w_107 hI2 hA ha (by omega) (by omega) (fun μ3 h3 => ?_)
    have hI3 := hI2.rt hA h3
    unfold tNode at kd
    simp (disch := first | omega | rfl) only [e_191_90, e_191_91, e_191_92, e_191_93, e_191_94, e_191_95, e_191_96, e_191_99, e_191_100, e_191_101, e_191_104, e_191_105, e_191_106, e_191_109, ge1, ule_t, true_or, or_true, nI_add, nI_mul, nI_sub, nI_clamp, nI_lt_t, nI_lt_f, nI_le_t, nI_le_f, nI_eq_t, nI_eq_f, vp_nI, tI, fI, not_true, not_false_iff, true_and, and_true, Classical.not_not, mS_uI, mS_uA, mS_uJ, mS_uR, mS_uX, mR_uI, mR_uA, mR_uJ, mR_uX, mX_uI, mX_uA, mX_uJ, mX_uR, mI_s, mI_n, mI_A, mI_An, mI_uJ, mI_uR, mI_uX, mJ_uI, mJ_uA, mJ_uR, mJ_uX, onR_s, kC_v, kC_n, kC_t, ku191, cgE h3.nx, i64ne, ← kd, forall_const, false_implies, eq_self]
    exact ih (k + 1) μ3 (by omega) (by omega) hI3 ((hf.trans h1).trans (h2.trans h3)) hq
def DfT (V : VW) (a b k : Nat) : Bool := !decide (fCk V a k = fCk V b k)
theorem DfT_t {V : VW} : (DfT V a b k = true) = ¬ fCk V a k = fCk V b k := by unfold DfT; simp
def OpA (D : Nat → Bool) (μ : Mu) (z k : Nat) : Prop := ∀ j, k ≤ j → j < 32 → mI μ z j = nI (if j / 2 < k ∧ vis D j = true then 1 else 0)
theorem OpA.fr {D : Nat → Bool} (h : OpA D μ z k) (hf : Fr RT μ μ') (hz : 1298 ≤ z) : OpA D μ' z k := fun j h1 h2 => by rw [hf.2.2.2 z (by unfold RT; omega) j]; exact h j h1 h2
theorem OpA.no {D : Nat → Bool} (h : OpA D μ z k) (hk : 1 ≤ k) (hv : ¬ (vis D k && D k) = true) : OpA D μ z (k + 1) := fun j h1 h2 => by
  rw [h j (by omega) h2]
  by_cases h3 : j / 2 < k
  · by_cases hv2 : vis D j = true
    · rw [if_pos ⟨h3, hv2⟩, if_pos ⟨by omega, hv2⟩]
    · rw [if_neg (by rintro ⟨-, h⟩; exact hv2 h), if_neg (by rintro ⟨-, h⟩; exact hv2 h)]
  · rw [if_neg (by omega)]
    by_cases h4 : j / 2 = k
    · have := vis_c D hk (by omega) h4
      rw [if_neg (by rintro ⟨-, h⟩; rw [this] at h; exact hv h)]
    · rw [if_neg (by omega)]
theorem OpA.hi {D : Nat → Bool} (h : OpA D μ z k) (hk : 16 ≤ k) : OpA D μ z (k + 1) := fun j h1 h2 => by
  rw [h j (by omega) h2]
  by_cases hv2 : vis D j = true
  · rw [if_pos ⟨by omega, hv2⟩, if_pos ⟨by omega, hv2⟩]
  · rw [if_neg (by rintro ⟨-, h⟩; exact hv2 h), if_neg (by rintro ⟨-, h⟩; exact hv2 h)]
theorem OpA.go {D : Nat → Bool} (h : OpA D μ z k) (hk : 1 ≤ k) (hk2 : k ≤ 15) (hv : (vis D k && D k) = true) : OpA D (uI (uI μ z (2 * k) (nI 1)) z (2 * k + 1) (nI 1)) z (k + 1) := fun j h1 h2 => by
  by_cases h4 : j / 2 = k
  · have hvj := vis_c D hk hk2 h4
    rw [hv] at hvj
    rw [if_pos ⟨by omega, hvj⟩]
    by_cases h5 : j = 2 * k + 1
    · subst h5; rw [mI_s]
    · obtain rfl : j = 2 * k := by omega
      rw [mI_n (by omega), mI_s]
  · rw [mI_n (by omega), mI_n (by omega), h j (by omega) h2]
    by_cases hv2 : vis D j = true
    · by_cases h3 : j / 2 < k
      · rw [if_pos ⟨h3, hv2⟩, if_pos ⟨by omega, hv2⟩]
      · rw [if_neg (by omega), if_neg (by omega)]
    · rw [if_neg (by rintro ⟨-, h⟩; exact hv2 h), if_neg (by rintro ⟨-, h⟩; exact hv2 h)]
/-- arrays of the law's own may change too -/
def RZ (z a : Nat) : Prop := RT a ∨ a = z
theorem CI.rz (hI : CI μ s c r u pr tn) (hA : AI r u pr tn) (hf : Fr (RZ z) μ μ') (hz : 1298 ≤ z) : CI μ' s c r u pr tn := CI.gen (μ := μ) hf.sh hf.rf (fun a h1 h2 k => hf.2.2.2 a (by unfold RZ RT; omega) k) hI hA.1.2.1 hA.2.2.1 (fun j hj => (hA.2.2.2.1 j hj).1.2.1)
theorem Fr.rz (h : Fr RT μ μ') : Fr (RZ z) μ μ' := h.mono (fun a ha => Or.inl ha)
theorem l_191c (hA : AI r u pr tn) (ha : a < nM r) (hb : b < nM r) (hz : 1298 ≤ z) : ∀ m k μ, 1 ≤ k → k + m = 32 → CI μ 1032 1055 r u pr tn → mS μ z = (25, 32) → OpA (DfT (rW r) a b) μ z k → Fr (RZ z) μ0 μ → (∀ μ', Fr (RZ z) μ0 μ' → EM 191 (d + 8) 216 [some (.ref 1000), some (.int (nI a)), some (.int (nI b)), some (.int (nI (wS (DfT (rW r) a b) 32))), some (.int (nI (cS (DfT (rW r) a b) 32))), some (.ref z), some (.int (nI 32)), l7] [] μ' (uad (0, 0) (1, 32)) Q) → EM 191 (d + 8) 131 [some (.ref 1000), some (.int (nI a)), some (.int (nI b)), some (.int (nI (wS (DfT (rW r) a b) k))), some (.int (nI (cS (DfT (rW r) a b) k))), some (.ref z), some (.int (nI k)), l7] [] μ (uad (0, 0) (1, 32)) Q := by
  intro m
  induction m with
  | zero =>
    intro k μ hk1 hk hI hs hO hf hq
    obtain rfl : k = 32 := by omega
    rw [e_191_131]
    simp (disch := first | omega | rfl) only [e_191_133, e_191_135, e_191_138, e_191_140, e_191_142, e_191_143, e_191_146, e_191_149, e_191_152, e_191_153, e_191_154, e_191_156, e_191_159, e_191_160, e_191_161, e_191_163, e_191_166, e_191_169, e_191_172, e_191_174, e_191_176, e_191_179, e_191_180, e_191_181, e_191_183, e_191_185, e_191_186, e_191_187, e_191_188, e_191_189, e_191_192, e_191_194, e_191_195, e_191_197, e_191_198, e_191_199, e_191_200, e_191_202, e_191_203, e_191_205, e_191_206, e_191_207, e_191_208, e_191_209, e_191_210, e_191_213, ge1, ule_t, true_or, or_true, nI_add, nI_mul, nI_sub, nI_clamp, nI_lt_t, nI_lt_f, nI_le_t, nI_le_f, nI_eq_t, nI_eq_f, vp_nI, tI, fI, not_true, not_false_iff, true_and, and_true, Classical.not_not, mS_uI, mS_uA, mS_uJ, mS_uR, mS_uX, mR_uI, mR_uA, mR_uJ, mR_uX, mX_uI, mX_uA, mX_uJ, mX_uR, mI_s, mI_n, mI_A, mI_An, mI_uJ, mI_uR, mI_uX, mJ_uI, mJ_uA, mJ_uR, mJ_uX, onR_s, kC_v, kC_n, kC_t, forall_const, false_implies]
    exact hq μ hf
  | succ m ih =>
    intro k μ hk1 hk hI hs hO hf hq
    have sh := hI.1.1
    have hv := hO k (Nat.le_refl _) (by omega)
    have hcl := cS_le (DfT (rW r) a b) k
    rw [e_191_131]
    by_cases hvis : vis (DfT (rW r) a b) k = true
    · rw [if_pos ⟨by omega, hvis⟩] at hv
      have ec : cS (DfT (rW r) a b) (k + 1) = cS (DfT (rW r) a b) k + 1 := by rw [cS, if_pos ⟨hk1, hvis⟩]
      simp (disch := first | omega | rfl) only [e_191_133, e_191_135, e_191_138, e_191_140, e_191_142, e_191_143, e_191_146, e_191_149, e_191_152, e_191_153, e_191_154, e_191_156, e_191_159, e_191_160, e_191_161, e_191_163, e_191_166, e_191_169, e_191_172, e_191_174, e_191_176, e_191_179, e_191_180, e_191_181, e_191_183, e_191_185, e_191_186, e_191_187, e_191_188, e_191_189, e_191_192, e_191_194, e_191_195, e_191_197, e_191_198, e_191_199, e_191_200, e_191_202, e_191_203, e_191_205, e_191_206, e_191_207, e_191_208, e_191_209, e_191_210, e_191_213, ge1, ule_t, true_or, or_true, nI_add, nI_mul, nI_sub, nI_clamp, nI_lt_t, nI_lt_f, nI_le_t, nI_le_f, nI_eq_t, nI_eq_f, vp_nI, tI, fI, not_true, not_false_iff, true_and, and_true, Classical.not_not, mS_uI, mS_uA, mS_uJ, mS_uR, mS_uX, mR_uI, mR_uA, mR_uJ, mR_uX, mX_uI, mX_uA, mX_uJ, mX_uR, mI_s, mI_n, mI_A, mI_An, mI_uJ, mI_uR, mI_uX, mJ_uI, mJ_uA, mJ_uR, mJ_uX, onR_s, kC_v, kC_n, kC_t, sh, hs, hv, ku191c, ku191d, forall_const, false_implies]
      refine w_107 hI hA ha (by omega) (by omega) (fun μ1 h1 => ?_)
      have hI1 := hI.rt hA h1
      have sh1 := hI1.1.1
      simp (disch := first | omega | rfl) only [e_191_159, e_191_160, e_191_161, e_191_163, e_191_166, e_191_169, e_191_172, e_191_174, e_191_176, e_191_179, e_191_180, e_191_181, e_191_183, e_191_185, e_191_186, e_191_187, e_191_188, e_191_189, e_191_192, e_191_194, e_191_195, e_191_197, e_191_198, e_191_199, e_191_200, e_191_202, e_191_203, e_191_205, e_191_206, e_191_207, e_191_208, e_191_209, e_191_210, e_191_213, ge1, ule_t, true_or, or_true, nI_add, nI_mul, nI_sub, nI_clamp, nI_lt_t, nI_lt_f, nI_le_t, nI_le_f, nI_eq_t, nI_eq_f, vp_nI, tI, fI, not_true, not_false_iff, true_and, and_true, Classical.not_not, mS_uI, mS_uA, mS_uJ, mS_uR, mS_uX, mR_uI, mR_uA, mR_uJ, mR_uX, mX_uI, mX_uA, mX_uJ, mX_uR, mI_s, mI_n, mI_A, mI_An, mI_uJ, mI_uR, mI_uX, mJ_uI, mJ_uA, mJ_uR, mJ_uX, onR_s, kC_v, kC_n, kC_t, sh1, ku191c, ku191d, cgE h1.nx, forall_const, false_implies]
      refine w_107 hI1 hA hb (by omega) (by omega) (fun μ2 h2 => ?_)
      have hI2 := hI1.rt hA h2
      have h12 := h1.trans h2
      have hs2 : mS μ2 z = (25, 32) := (congrFun h12.sh z).trans hs
      have hO2 := hO.fr h12 hz
      have hf2 := hf.trans h12.rz
      by_cases hd : DfT (rW r) a b k = true
      · have hvd : (vis (DfT (rW r) a b) k && DfT (rW r) a b k) = true := by rw [hvis, hd]; rfl
        have hd2 := hd
        rw [DfT_t] at hd2
        by_cases h16 : 16 ≤ k
        · have ew : wS (DfT (rW r) a b) (k + 1) = wS (DfT (rW r) a b) k + 2 ^ (k - 16) := by rw [wS, if_pos ⟨h16, hvd⟩]
          have eo := nI_or_add (wS_lt (DfT (rW r) a b) k)
          have es : nI 1 <<< (nI (k - 16) &&& 31) = nI (2 ^ (k - 16)) := by rw [nI_shl (by omega), Nat.one_mul]
          have i2 := ih (k + 1) μ2 (by omega) (by omega) hI2 hs2 (hO2.hi h16) hf2 hq
          rw [ew, ec] at i2
          simp (disch := first | omega | rfl) only [e_191_159, e_191_160, e_191_161, e_191_163, e_191_166, e_191_169, e_191_172, e_191_174, e_191_176, e_191_179, e_191_180, e_191_181, e_191_183, e_191_185, e_191_186, e_191_187, e_191_188, e_191_189, e_191_192, e_191_194, e_191_195, e_191_197, e_191_198, e_191_199, e_191_200, e_191_202, e_191_203, e_191_205, e_191_206, e_191_207, e_191_208, e_191_209, e_191_210, e_191_213, ge1, ule_t, true_or, or_true, nI_add, nI_mul, nI_sub, nI_clamp, nI_lt_t, nI_lt_f, nI_le_t, nI_le_f, nI_eq_t, nI_eq_f, vp_nI, tI, fI, not_true, not_false_iff, true_and, and_true, Classical.not_not, mS_uI, mS_uA, mS_uJ, mS_uR, mS_uX, mR_uI, mR_uA, mR_uJ, mR_uX, mX_uI, mX_uA, mX_uJ, mX_uR, mI_s, mI_n, mI_A, mI_An, mI_uJ, mI_uR, mI_uX, mJ_uI, mJ_uA, mJ_uR, mJ_uX, onR_s, kC_v, kC_n, kC_t, ku191c, cgE h2.nx, hd2, es, eo, forall_const, false_implies]
          exact i2
        · have ew : wS (DfT (rW r) a b) (k + 1) = wS (DfT (rW r) a b) k := by rw [wS, if_neg (by omega)]; rfl
          have i2 := ih (k + 1) _ (by omega) (by omega) (hI2.rz (z := z) hA ((Fr.refl.iu (Or.inr rfl)).iu (Or.inr rfl)) hz) (show mS (uI (uI μ2 z (2 * k) (nI 1)) z (2 * k + 1) (nI 1)) z = (25, 32) from hs2) (hO2.go hk1 (by omega) hvd) (hf2.trans ((Fr.refl.iu (Or.inr rfl)).iu (Or.inr rfl))) hq
          rw [ew, ec] at i2
          simp (disch := first | omega | rfl) only [e_191_159, e_191_160, e_191_161, e_191_163, e_191_166, e_191_169, e_191_172, e_191_174, e_191_176, e_191_179, e_191_180, e_191_181, e_191_183, e_191_185, e_191_186, e_191_187, e_191_188, e_191_189, e_191_192, e_191_194, e_191_195, e_191_197, e_191_198, e_191_199, e_191_200, e_191_202, e_191_203, e_191_205, e_191_206, e_191_207, e_191_208, e_191_209, e_191_210, e_191_213, ge1, ule_t, true_or, or_true, nI_add, nI_mul, nI_sub, nI_clamp, nI_lt_t, nI_lt_f, nI_le_t, nI_le_f, nI_eq_t, nI_eq_f, vp_nI, tI, fI, not_true, not_false_iff, true_and, and_true, Classical.not_not, mS_uI, mS_uA, mS_uJ, mS_uR, mS_uX, mR_uI, mR_uA, mR_uJ, mR_uX, mX_uI, mX_uA, mX_uJ, mX_uR, mI_s, mI_n, mI_A, mI_An, mI_uJ, mI_uR, mI_uX, mJ_uI, mJ_uA, mJ_uR, mJ_uX, onR_s, kC_v, kC_n, kC_t, ku191c, cgE h2.nx, hd2, hs2, forall_const, false_implies]
          exact i2
      · have hnv : ¬ (vis (DfT (rW r) a b) k && DfT (rW r) a b k) = true := by rw [hvis, Bool.true_and]; exact hd
        have ew : wS (DfT (rW r) a b) (k + 1) = wS (DfT (rW r) a b) k := by rw [wS, if_neg (by rintro ⟨-, h⟩; exact hnv h)]; rfl
        have i2 := ih (k + 1) μ2 (by omega) (by omega) hI2 hs2 (hO2.no hk1 hnv) hf2 hq
        rw [ew, ec] at i2
        rw [DfT_t, Classical.not_not] at hd
        simp (disch := first | omega | rfl) only [e_191_159, e_191_160, e_191_161, e_191_163, e_191_166, e_191_169, e_191_172, e_191_174, e_191_176, e_191_179, e_191_180, e_191_181, e_191_183, e_191_185, e_191_186, e_191_187, e_191_188, e_191_189, e_191_192, e_191_194, e_191_195, e_191_197, e_191_198, e_191_199, e_191_200, e_191_202, e_191_203, e_191_205, e_191_206, e_191_207, e_191_208, e_191_209, e_191_210, e_191_213, ge1, ule_t, true_or, or_true, nI_add, nI_mul, nI_sub, nI_clamp, nI_lt_t, nI_lt_f, nI_le_t, nI_le_f, nI_eq_t, nI_eq_f, vp_nI, tI, fI, not_true, not_false_iff, true_and, and_true, Classical.not_not, mS_uI, mS_uA, mS_uJ, mS_uR, mS_uX, mR_uI, mR_uA, mR_uJ, mR_uX, mX_uI, mX_uA, mX_uJ, mX_uR, mI_s, mI_n, mI_A, mI_An, mI_uJ, mI_uR, mI_uX, mJ_uI, mJ_uA, mJ_uR, mJ_uX, onR_s, kC_v, kC_n, kC_t, ku191c, cgE h2.nx, hd, forall_const, false_implies, eq_self]
        exact i2
    · rw [if_neg (by rintro ⟨-, h⟩; exact hvis h)] at hv
      have hnv : ¬ (vis (DfT (rW r) a b) k && DfT (rW r) a b k) = true := by rw [Bool.and_eq_true]; rintro ⟨h, -⟩; exact hvis h
      have ec : cS (DfT (rW r) a b) (k + 1) = cS (DfT (rW r) a b) k := by rw [cS, if_neg (by rintro ⟨-, h⟩; exact hvis h)]; rfl
      have ew : wS (DfT (rW r) a b) (k + 1) = wS (DfT (rW r) a b) k := by rw [wS, if_neg (by rintro ⟨-, h⟩; exact hnv h)]; rfl
      have i2 := ih (k + 1) μ (by omega) (by omega) hI hs (hO.no hk1 hnv) hf hq
      rw [ew, ec] at i2
      simp (disch := first | omega | rfl) only [e_191_133, e_191_135, e_191_138, e_191_140, e_191_142, e_191_143, e_191_146, e_191_149, e_191_152, e_191_153, e_191_154, e_191_156, e_191_159, e_191_160, e_191_161, e_191_163, e_191_166, e_191_169, e_191_172, e_191_174, e_191_176, e_191_179, e_191_180, e_191_181, e_191_183, e_191_185, e_191_186, e_191_187, e_191_188, e_191_189, e_191_192, e_191_194, e_191_195, e_191_197, e_191_198, e_191_199, e_191_200, e_191_202, e_191_203, e_191_205, e_191_206, e_191_207, e_191_208, e_191_209, e_191_210, e_191_213, ge1, ule_t, true_or, or_true, nI_add, nI_mul, nI_sub, nI_clamp, nI_lt_t, nI_lt_f, nI_le_t, nI_le_f, nI_eq_t, nI_eq_f, vp_nI, tI, fI, not_true, not_false_iff, true_and, and_true, Classical.not_not, mS_uI, mS_uA, mS_uJ, mS_uR, mS_uX, mR_uI, mR_uA, mR_uJ, mR_uX, mX_uI, mX_uA, mX_uJ, mX_uR, mI_s, mI_n, mI_A, mI_An, mI_uJ, mI_uR, mI_uX, mJ_uI, mJ_uA, mJ_uR, mJ_uX, onR_s, kC_v, kC_n, kC_t, sh, hs, hv, ku191c, forall_const, false_implies]
      exact i2
theorem l_191d {w : Nat} (hw : w < 65536) : ∀ n, n ≤ 16 → (EM 191 (d + 8) 252 [l0, l1, l2, some (.int (nI w)), l4, l5, some (.int (oN (fFst w 16 0))), some (.int (-1))] [] μ (uad (0, 0) (1, 32)) Q) → EM 191 (d + 8) 223 [l0, l1, l2, some (.int (nI w)), l4, l5, some (.int (oN (fFst w (16 - n) n))), some (.int (nI n + -1))] [] μ (uad (0, 0) (1, 32)) Q := by
  intro n
  induction n with
  | zero =>
    intro _ hq
    rw [show nI 0 + (-1 : Int32) = -1 by decide, e_191_223]
    simp (disch := first | omega | rfl) only [e_191_225, e_191_228, e_191_229, e_191_231, e_191_234, e_191_237, e_191_239, e_191_242, e_191_244, e_191_246, e_191_249, mS_uI, mS_uA, mS_uJ, mS_uR, mS_uX, mR_uI, mR_uA, mR_uJ, mR_uX, mX_uI, mX_uA, mX_uJ, mX_uR, mI_s, mI_n, mI_A, mI_An, mI_uJ, mI_uR, mI_uX, mJ_uI, mJ_uA, mJ_uR, mJ_uX, onR_s, kC_v, kC_n, kC_t, m1_lt_z, not_true, forall_const, false_implies, true_and, and_true]
    exact hq
  | succ n ih =>
    intro hn hq
    have h186 := fun (d : Nat) (Q : Po) => w_186 (d := d) (Q := Q) (μ := μ) (m := w) (c := n) (by omega) (by omega) (by omega)
    have i2 := ih (by omega) hq
    rw [show 16 - n = (16 - (n + 1)) + 1 by omega, fFst] at i2
    rw [nI_dec (by omega), Nat.add_sub_cancel, e_191_223]
    by_cases hb : w.testBit n = true
    · rw [if_pos hb, oN_some] at i2
      rw [bI_t hb] at h186
      simp (disch := first | omega | rfl) only [e_191_225, e_191_228, e_191_229, e_191_231, e_191_234, e_191_237, e_191_239, e_191_242, e_191_244, e_191_246, e_191_249, ge1, ule_t, true_or, or_true, nI_add, nI_mul, nI_sub, nI_clamp, nI_lt_t, nI_lt_f, nI_le_t, nI_le_f, nI_eq_t, nI_eq_f, vp_nI, tI, fI, not_true, not_false_iff, true_and, and_true, Classical.not_not, mS_uI, mS_uA, mS_uJ, mS_uR, mS_uX, mR_uI, mR_uA, mR_uJ, mR_uX, mX_uI, mX_uA, mX_uJ, mX_uR, mI_s, mI_n, mI_A, mI_An, mI_uJ, mI_uR, mI_uX, mJ_uI, mJ_uA, mJ_uR, mJ_uX, onR_s, kC_v, kC_n, kC_t, h186, ku191c, forall_const, false_implies]
      exact i2
    · rw [if_neg hb] at i2
      rw [bI_f hb] at h186
      simp (disch := first | omega | rfl) only [e_191_225, e_191_228, e_191_229, e_191_231, e_191_234, e_191_237, e_191_239, e_191_242, e_191_244, e_191_246, e_191_249, ge1, ule_t, true_or, or_true, nI_add, nI_mul, nI_sub, nI_clamp, nI_lt_t, nI_lt_f, nI_le_t, nI_le_f, nI_eq_t, nI_eq_f, vp_nI, tI, fI, not_true, not_false_iff, true_and, and_true, Classical.not_not, mS_uI, mS_uA, mS_uJ, mS_uR, mS_uX, mR_uI, mR_uA, mR_uJ, mR_uX, mX_uI, mX_uA, mX_uJ, mX_uR, mI_s, mI_n, mI_A, mI_An, mI_uJ, mI_uR, mI_uX, mJ_uI, mJ_uA, mJ_uR, mJ_uX, onR_s, kC_v, kC_n, kC_t, h186, ku191c, forall_const, false_implies]
      exact i2
end LTree

