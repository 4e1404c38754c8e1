/-! loading: the text -/
def rdAll (f : Nat → Nat) (L : Nat) : Nat → Nat → RS → (Int32 × Nat × Nat × Nat) ⊕ (Nat × RS)
  | 0, _, _ => .inl (0, 0, 0, 0)
  | F + 1, n, z => if z.2.2.2.2.1 = 0 then .inr (n, z) else match rdOne f L z.1 z.2.1 z.2.2.1 z.2.2.2.1 z.2.2.2.2 with
    | .inl e => .inl e
    | .inr z' => rdAll f L F (n + 1) z'
def rZ (x : Nat) : Int32 := if x = 0 then nI 40 else if x = 1 then nI 2 else nI 0
def tZ (tn : Nat → Int32) (k : Nat) : Int32 := if k < 22 then nI 0 else tn k
/-- a reading's state is sound -/
def okRS (f : Nat → Nat) (L : Nat) (z : RS) : Prop := AL z.1 z.2.1 ∧ okTk f L z.2.2.2.2 ∧ z.2.2.1 ≤ 1 ∧ z.2.2.2.1 < 4
def okRA (f : Nat → Nat) (L : Nat) (z : (Int32 × Nat × Nat × Nat) ⊕ (Nat × RS)) : Prop := match z with
  | .inl e => okE e.1 ∧ e.2.2.2 ≤ 1000009
  | .inr z => okRS f L z.2 ∧ z.1 ≤ L
theorem ok_rdAll {f : Nat → Nat} {L : Nat} : ∀ F n z, okRS f L z → L - z.2.2.2.2.2.1 < F → n ≤ z.2.2.2.2.2.1 → okRA f L (rdAll f L F n z) := by
  intro F
  induction F with
  | zero => intro n z h1 h2; omega
  | succ F ih =>
    intro n z h1 h2 h3
    obtain ⟨a1, a2, a3, a4⟩ := h1
    rw [rdAll]
    have hle := a2.2.1
    have hle2 := a2.2.2.1
    by_cases c : z.2.2.2.2.1 = 0
    · rw [if_pos c]
      exact ⟨⟨a1, a2, a3, a4⟩, by omega⟩
    · rw [if_neg c]
      have h := ok_rdOne a1 a2 a3 a4 c
      generalize rdOne f L z.1 z.2.1 z.2.2.1 z.2.2.2.1 z.2.2.2.2 = y at *
      cases y with
      | inl e => exact h
      | inr y =>
        obtain ⟨b1, b2, b3, b4, b5⟩ := h
        exact ih (n + 1) y ⟨b1, b2, b3, b4⟩ (by have := b2.2.1; have := b2.2.2.1; omega) (by omega)
theorem AL_Z {tn : Nat → Int32} (hT : ∀ j, 22 ≤ j → tn j = 0) : AL rZ (tZ tn) := by
  have e0 : (nI 0).toNatClampNeg = 0 := rfl
  have n2 : nM rZ = 0 := rfl
  have n3 : nT rZ = 0 := rfl
  have n4 : nO rZ = 0 := rfl
  have n5 : nF rZ = 0 := rfl
  have n6 : nQ rZ = 2 := rfl
  have n7 : nL rZ = 40 := rfl
  refine ⟨⟨rfl, by omega, rfl, by omega, rfl, by omega, rfl, by omega, rfl, by omega, by omega, rfl, by omega, by omega, fun m hm => by omega, fun m hm => by omega, ⟨fun t ht => by omega, fun k hk => by omega, fun k hk => by omega⟩, fun k hk => by omega⟩, ⟨fun x hx => ?_, fun t ht => by omega, fun k hk => by omega⟩, fun m hm => by omega, fun m h1 h2 => ?_, fun m hm => ?_, fun j hj => (if_neg (by omega)).trans (hT j hj), fun k hk => ?_⟩
  · unfold rZ
    rw [if_neg (by omega), if_neg (by omega)]; rfl
  · exact if_pos (by omega)
  · exact ⟨0, by omega, if_pos (by omega)⟩
  · exact ⟨0, by omega, if_pos (by omega)⟩
section LoadC
variable {d : Nat} {Q : Po} {μ : Mu} {f : Nat → Nat} {g F : Nat → Int32} {L hs gs s c n a k e v i : Nat} {tk er ea x : Int32} {t : TK} {z : RS} {l1 l2 : Option Value}
theorem l_25 (ha : mS μ a = (20, 16)) (h1 : 1000 ≤ a) : ∀ m k, k + m = 16 → EM 25 (d + 1) 5 [some (.ref a), some (.int x), some (.int (nI k)), some (.int (nI 16))] [] (uA μ a (fil (fun _ => x) (mI μ a) k)) (0, 0) Q = Q (some none) (uA μ a (fil (fun _ => x) (mI μ a) 16)) := by
  intro m
  induction m with
  | zero =>
    intro k hk
    obtain rfl : k = 16 := by omega
    rw [e_25_5]
    simp (disch := first | omega | rfl) only [e_25_0, e_25_1, e_25_2, e_25_3, e_25_4, e_25_6, e_25_7, e_25_10, e_25_11, e_25_12, e_25_13, e_25_14, e_25_17, e_25_20, ge1, ule_t, true_or, or_true, nI_add, nI_mul, nI_sub, nI_clamp, nI_lt_t, nI_lt_f, nI_le_t, nI_le_f, nI_eq_t, nI_eq_f, vp_nI, tI, fI, not_true, not_false_iff, true_and, and_true, Classical.not_not, mS_uI, mS_uA, mS_uJ, mS_uR, mS_uX, mR_uI, mR_uA, mR_uJ, mR_uX, mX_uI, mX_uA, mX_uJ, mX_uR, mI_s, mI_n, mI_A, mI_An, mI_uJ, mI_uR, mI_uX, mJ_uI, mJ_uA, mJ_uR, mJ_uX, onR_s, kC_v, kC_n, kC_t]
  | succ m ih =>
    intro k hk
    have hi := ih (k + 1) (by omega)
    rw [← fil_s] at hi
    rw [e_25_5]
    simp (disch := first | omega | rfl) only [e_25_0, e_25_1, e_25_2, e_25_3, e_25_4, e_25_6, e_25_7, e_25_10, e_25_11, e_25_12, e_25_13, e_25_14, e_25_17, e_25_20, ge1, ule_t, true_or, or_true, nI_add, nI_mul, nI_sub, nI_clamp, nI_lt_t, nI_lt_f, nI_le_t, nI_le_f, nI_eq_t, nI_eq_f, vp_nI, tI, fI, not_true, not_false_iff, true_and, and_true, Classical.not_not, mS_uI, mS_uA, mS_uJ, mS_uR, mS_uX, mR_uI, mR_uA, mR_uJ, mR_uX, mX_uI, mX_uA, mX_uJ, mX_uR, mI_s, mI_n, mI_A, mI_An, mI_uJ, mI_uR, mI_uX, mJ_uI, mJ_uA, mJ_uR, mJ_uX, onR_s, kC_v, kC_n, kC_t, ha, uIA]
    exact hi
theorem s_25 (ha : mS μ a = (20, 16)) (h1 : 1000 ≤ a) : Ev (d + 2) 25 [.ref a, .int x] μ Q = Q (some none) (uA μ a (fil (fun _ => x) (mI μ a) 16)) := by
  have := l_25 (d := d) (Q := Q) (x := x) ha h1 16 0 (by omega)
  rw [fil_0, uA_self] at this
  rw [in_25]
  simp (disch := first | omega | rfl) only [e_25_0, e_25_1, e_25_2, e_25_3, e_25_4, e_25_6, e_25_7, e_25_10, e_25_11, e_25_12, e_25_13, e_25_14, e_25_17, e_25_20, ge1, ule_t, true_or, or_true, nI_add, nI_mul, nI_sub, nI_clamp, nI_lt_t, nI_lt_f, nI_le_t, nI_le_f, nI_eq_t, nI_eq_f, vp_nI, tI, fI, not_true, not_false_iff, true_and, and_true, Classical.not_not, mS_uI, mS_uA, mS_uJ, mS_uR, mS_uX, mR_uI, mR_uA, mR_uJ, mR_uX, mX_uI, mX_uA, mX_uJ, mX_uR, mI_s, mI_n, mI_A, mI_An, mI_uJ, mI_uR, mI_uX, mJ_uI, mJ_uA, mJ_uR, mJ_uX, onR_s, kC_v, kC_n, kC_t, ha, ofI, Nat.reduceLeDiff, and_self]
  exact this
/-- the spare room is emptied -/
def cClr (μ : Mu) (s : Nat) : Mu := uI (uI (uI (uI (uI (uI μ s 1 (nI 0)) s 2 (nI 0)) s 3 (nI 0)) (s + 2) 0 (nI 40)) (s + 2) 1 (nI 2)) (s + 3) 1 (nI 0)
theorem s_73 (hS : StS μ s) : Ev (d + 1) 73 [.ref s] μ Q = Q (some none) (cClr μ s) := by
  obtain ⟨q0, q1, q2, q3, q4, q5, q6, q7, q8, q9, q10, q11, q12, q13, q14, q15⟩ := hS
  rw [in_73]
  simp (disch := first | omega | rfl) only [e_73_0, e_73_1, e_73_2, e_73_5, e_73_6, e_73_7, e_73_10, e_73_11, e_73_12, e_73_15, e_73_16, e_73_19, e_73_20, e_73_22, e_73_23, e_73_24, e_73_27, e_73_28, e_73_29, e_73_30, e_73_31, e_73_34, e_73_35, e_73_38, q1, q2, q3, q4, q5, q6, q7, q8, q9, q10, q11, q12, q13, q14, q15, ge1, ule_t, true_or, or_true, nI_add, nI_mul, nI_sub, nI_clamp, nI_lt_t, nI_lt_f, nI_le_t, nI_le_f, nI_eq_t, nI_eq_f, vp_nI, tI, fI, not_true, not_false_iff, true_and, and_true, Classical.not_not, mS_uI, mS_uA, mS_uJ, mS_uR, mS_uX, mR_uI, mR_uA, mR_uJ, mR_uX, mX_uI, mX_uA, mX_uJ, mX_uR, mI_s, mI_n, mI_A, mI_An, mI_uJ, mI_uR, mI_uX, mJ_uI, mJ_uA, mJ_uR, mJ_uX, onR_s, kC_v, kC_n, kC_t]
  rfl
theorem cClr_A (hs : s = 1001 ∨ s = 1032) : cClr (uA μ 1030 F) s = uA (cClr μ s) 1030 F := by
  unfold cClr
  simp (disch := omega) only [uIuA]
def cNew (μ : Mu) (s c : Nat) : Mu := uA (cClr μ s) (c + 1) (fil (fun _ => nI 0) (mI (cClr μ s) (c + 1)) 16)
theorem cNew_fr : FrX s c μ (cNew μ s c) := by
  unfold cNew cClr
  exact ((((((Fr.refl.iu (Or.inl (by omega))).iu (Or.inl (by omega))).iu (Or.inl (by omega))).iu (Or.inl (by omega))).iu (Or.inl (by omega))).iu (Or.inl (by omega))).au (Or.inr (Or.inl (by omega)))
theorem cNew_rel (hsc : s + 22 < c ∨ c + 4 < s) (tn : Nat → Int32) : RelL (cNew μ s c) s c rZ (tZ tn) := by
  have n2 : nM rZ = 0 := rfl
  have n3 : nT rZ = 0 := rfl
  have n4 : nO rZ = 0 := rfl
  have n5 : nF rZ = 0 := rfl
  refine ⟨⟨⟨?_, ?_, ?_, ?_, ?_, ?_, fun m hm => by omega, fun k hk => by omega⟩, fun m hm => by omega⟩, ⟨fun t ht => by omega, fun k hk => by omega⟩, fun k hk => ?_⟩
  · rw [fx_n (by omega)]; unfold cNew cClr; simp (disch := omega) only [mI_An, mI_n, mI_s]; rfl
  · rw [fx_n (by omega)]; unfold cNew cClr; simp (disch := omega) only [mI_An, mI_n, mI_s]; rfl
  · rw [fx_n (by omega)]; unfold cNew cClr; simp (disch := omega) only [mI_An, mI_n, mI_s]; rfl
  · rw [fx_n (by omega)]; unfold cNew cClr; simp (disch := omega) only [mI_An, mI_n, mI_s]; rfl
  · rw [fx_n (by omega)]; unfold cNew cClr; simp (disch := omega) only [mI_An, mI_n, mI_s]; rfl
  · rw [fx_n (by omega)]; unfold cNew cClr; simp (disch := omega) only [mI_An, mI_n, mI_s]; rfl
  · unfold cNew
    rw [mI_A, fil, if_pos hk]
    exact (if_pos (by omega)).symm
def PoA (L s c : Nat) (g : Nat → Int32) (μ : Mu) (Q : Po) (z : (Int32 × Nat × Nat × Nat) ⊕ (Nat × RS)) : Prop := match z with
  | .inl z => ∀ μ' F, FrX s c μ μ' → F 11 = z.1 → F 12 = nI z.2.1 → F 9 = nI (cvl z.2.2.2) → Q (some (some (.int z.1))) (uA μ' 1030 F)
  | .inr z => ∀ μ' tk, FrX s c μ μ' → RelL μ' s c z.2.1 z.2.2.1 → Q (some (some (.int (nI z.1)))) (uA μ' 1030 (ldT g L z.2.2.2.1 z.2.2.2.2.1 z.2.2.2.2.2 tk (nI 0) (-1)))
theorem l_40 {μ0 : Mu} (hL0 : LdS μ0 f L s c) : ∀ F n (μ : Mu) z tk, okRS f L z → L - z.2.2.2.2.2.1 < F → n ≤ z.2.2.2.2.2.1 → FrX s c μ0 μ → RelL μ s c z.1 z.2.1 → PoA L s c g μ0 Q (rdAll f L F n z) → EM 40 (d + 10) 60 [some (.ref 1030), l1, some (.int (nI n))] [] (uA μ 1030 (ldT g L z.2.2.1 z.2.2.2.1 z.2.2.2.2 tk (nI 0) (-1))) (0, 0) Q := by
  intro F
  induction F with
  | zero => intro n μ z tk h1 h2; omega
  | succ F ih =>
    intro n μ z tk h1 h2 h3 hf hR hq
    obtain ⟨a1, a2, a3, a4⟩ := h1
    have hL := hL0.fr hf
    have hC := hL.1
    have g1 := hC.1
    have g6 := hC.2.2.2.2.2
    have hle := a2.2.1
    have hle2 := a2.2.2.1
    rw [rdAll] at hq
    rw [e_40_60]
    by_cases c0 : z.2.2.2.2.1 = 0
    · rw [if_pos c0] at hq
      have e1 : (nI (ckk z.2.2.2.2.1) = nI 0) = True := (ckk0 a2.1).trans (eq_true c0)
      by_cases hn : n < L
      · simp (disch := first | omega | rfl) only [e_40_0, e_40_1, e_40_2, e_40_5, e_40_8, e_40_11, e_40_12, e_40_15, e_40_18, e_40_19, e_40_22, e_40_25, e_40_26, e_40_29, e_40_30, e_40_31, e_40_34, e_40_35, e_40_36, e_40_39, e_40_40, e_40_41, e_40_44, e_40_45, e_40_46, e_40_49, e_40_50, e_40_51, e_40_54, e_40_55, e_40_58, e_40_59, e_40_61, e_40_62, e_40_65, e_40_68, e_40_69, e_40_72, e_40_75, e_40_76, e_40_79, e_40_82, e_40_83, e_40_86, e_40_89, e_40_90, e_40_93, e_40_94, e_40_97, e_40_100, e_40_101, ge1, ule_t, true_or, or_true, nI_add, nI_mul, nI_sub, nI_clamp, nI_lt_t, nI_lt_f, nI_le_t, nI_le_f, nI_eq_t, nI_eq_f, vp_nI, tI, fI, not_true, not_false_iff, true_and, and_true, Classical.not_not, mS_uI, mS_uA, mS_uJ, mS_uR, mS_uX, mR_uI, mR_uA, mR_uJ, mR_uX, mX_uI, mX_uA, mX_uJ, mX_uR, mI_s, mI_n, mI_A, mI_An, mI_uJ, mI_uR, mI_uX, mJ_uI, mJ_uA, mJ_uR, mJ_uX, onR_s, kC_v, kC_n, kC_t, mI_A, g1, ldT_3, ldT_6, e1]
        exact hq μ tk hf hR
      · simp (disch := first | omega | rfl) only [e_40_0, e_40_1, e_40_2, e_40_5, e_40_8, e_40_11, e_40_12, e_40_15, e_40_18, e_40_19, e_40_22, e_40_25, e_40_26, e_40_29, e_40_30, e_40_31, e_40_34, e_40_35, e_40_36, e_40_39, e_40_40, e_40_41, e_40_44, e_40_45, e_40_46, e_40_49, e_40_50, e_40_51, e_40_54, e_40_55, e_40_58, e_40_59, e_40_61, e_40_62, e_40_65, e_40_68, e_40_69, e_40_72, e_40_75, e_40_76, e_40_79, e_40_82, e_40_83, e_40_86, e_40_89, e_40_90, e_40_93, e_40_94, e_40_97, e_40_100, e_40_101, ge1, ule_t, true_or, or_true, nI_add, nI_mul, nI_sub, nI_clamp, nI_lt_t, nI_lt_f, nI_le_t, nI_le_f, nI_eq_t, nI_eq_f, vp_nI, tI, fI, not_true, not_false_iff, true_and, and_true, Classical.not_not, mS_uI, mS_uA, mS_uJ, mS_uR, mS_uX, mR_uI, mR_uA, mR_uJ, mR_uX, mX_uI, mX_uA, mX_uJ, mX_uR, mI_s, mI_n, mI_A, mI_An, mI_uJ, mI_uR, mI_uX, mJ_uI, mJ_uA, mJ_uR, mJ_uX, onR_s, kC_v, kC_n, kC_t, mI_A, g1, ldT_3, ldT_6]
        exact hq μ tk hf hR
    · rw [if_neg c0] at hq
      have e1 : (nI (ckk z.2.2.2.2.1) = nI 0) = False := (ckk0 a2.1).trans (eq_false c0)
      have hlt := a2.2.2.2.1 c0
      have hok := ok_rdStm (f := f) (L := L) a1 a2 a3 a4
      have hok1 := ok_rdOne (f := f) (L := L) a1 a2 a3 a4 c0
      simp (disch := first | omega | rfl) only [e_40_0, e_40_1, e_40_2, e_40_5, e_40_8, e_40_11, e_40_12, e_40_15, e_40_18, e_40_19, e_40_22, e_40_25, e_40_26, e_40_29, e_40_30, e_40_31, e_40_34, e_40_35, e_40_36, e_40_39, e_40_40, e_40_41, e_40_44, e_40_45, e_40_46, e_40_49, e_40_50, e_40_51, e_40_54, e_40_55, e_40_58, e_40_59, e_40_61, e_40_62, e_40_65, e_40_68, e_40_69, e_40_72, e_40_75, e_40_76, e_40_79, e_40_82, e_40_83, e_40_86, e_40_89, e_40_90, e_40_93, e_40_94, e_40_97, e_40_100, e_40_101, ge1, ule_t, true_or, or_true, nI_add, nI_mul, nI_sub, nI_clamp, nI_lt_t, nI_lt_f, nI_le_t, nI_le_f, nI_eq_t, nI_eq_f, vp_nI, tI, fI, not_true, not_false_iff, true_and, and_true, Classical.not_not, mS_uI, mS_uA, mS_uJ, mS_uR, mS_uX, mR_uI, mR_uA, mR_uJ, mR_uX, mX_uI, mX_uA, mX_uJ, mX_uR, mI_s, mI_n, mI_A, mI_An, mI_uJ, mI_uR, mI_uX, mJ_uI, mJ_uA, mJ_uR, mJ_uX, onR_s, kC_v, kC_n, kC_t, mI_A, g1, ldT_3, ldT_6, e1]
      refine c_41 hL hR a1 a2 a4 a3 ?_
      unfold rdOne at hq hok1
      generalize rdStm f L z.1 z.2.1 z.2.2.1 z.2.2.2.1 z.2.2.2.2 = y at *
      cases y with
      | inl e =>
        intro μ' F' h1 h2 h3 h4
        simp (disch := first | omega | rfl) only [e_40_0, e_40_1, e_40_2, e_40_5, e_40_8, e_40_11, e_40_12, e_40_15, e_40_18, e_40_19, e_40_22, e_40_25, e_40_26, e_40_29, e_40_30, e_40_31, e_40_34, e_40_35, e_40_36, e_40_39, e_40_40, e_40_41, e_40_44, e_40_45, e_40_46, e_40_49, e_40_50, e_40_51, e_40_54, e_40_55, e_40_58, e_40_59, e_40_61, e_40_62, e_40_65, e_40_68, e_40_69, e_40_72, e_40_75, e_40_76, e_40_79, e_40_82, e_40_83, e_40_86, e_40_89, e_40_90, e_40_93, e_40_94, e_40_97, e_40_100, e_40_101, ge1, ule_t, true_or, or_true, nI_add, nI_mul, nI_sub, nI_clamp, nI_lt_t, nI_lt_f, nI_le_t, nI_le_f, nI_eq_t, nI_eq_f, vp_nI, tI, fI, not_true, not_false_iff, true_and, and_true, Classical.not_not, mS_uI, mS_uA, mS_uJ, mS_uR, mS_uX, mR_uI, mR_uA, mR_uJ, mR_uX, mX_uI, mX_uA, mX_uJ, mX_uR, mI_s, mI_n, mI_A, mI_An, mI_uJ, mI_uR, mI_uX, mJ_uI, mJ_uA, mJ_uR, mJ_uX, onR_s, kC_v, kC_n, kC_t, kC_v, mI_A, h1.sh, g1, h2]
        exact hq μ' F' (hf.trans h1) h2 h3 h4
      | inr y =>
        obtain ⟨b1, b2, b3, b4, b5⟩ := hok
        intro μ' tk' h1 h2
        have hC2 := (hL.fr h1).1
        have hq2 : PoA L s c g μ0 Q (match (if y.2.2.2.2.1 = 3 then (.inr (y.1, y.2.1, y.2.2.1, y.2.2.2.1, nx f L y.2.2.2.2) : RE) else .inl (-11, y.2.2.2.2.2)) with | .inl e => .inl e | .inr z' => rdAll f L F (n + 1) z') := hq
        have hok2 : okRE f L (z.2.2.2.2.2.1 + 1) (if y.2.2.2.2.1 = 3 then (.inr (y.1, y.2.1, y.2.2.1, y.2.2.2.1, nx f L y.2.2.2.2) : RE) else .inl (-11, y.2.2.2.2.2)) := hok1
        by_cases c3 : y.2.2.2.2.1 = 3
        · rw [if_pos c3] at hq2 hok2
          obtain ⟨d1, d2, d3, d4, d5⟩ := hok2
          have h52 := fun (d : Nat) (Q : Po) => s_52t (d := d) (Q := Q) (g := g) (hs := y.2.2.1) (gs := y.2.2.2.1) (tk := tk') (er := nI 0) (ea := -1) hC2 b2 c3
          simp (disch := first | omega | rfl) only [e_40_0, e_40_1, e_40_2, e_40_5, e_40_8, e_40_11, e_40_12, e_40_15, e_40_18, e_40_19, e_40_22, e_40_25, e_40_26, e_40_29, e_40_30, e_40_31, e_40_34, e_40_35, e_40_36, e_40_39, e_40_40, e_40_41, e_40_44, e_40_45, e_40_46, e_40_49, e_40_50, e_40_51, e_40_54, e_40_55, e_40_58, e_40_59, e_40_61, e_40_62, e_40_65, e_40_68, e_40_69, e_40_72, e_40_75, e_40_76, e_40_79, e_40_82, e_40_83, e_40_86, e_40_89, e_40_90, e_40_93, e_40_94, e_40_97, e_40_100, e_40_101, ge1, ule_t, true_or, or_true, nI_add, nI_mul, nI_sub, nI_clamp, nI_lt_t, nI_lt_f, nI_le_t, nI_le_f, nI_eq_t, nI_eq_f, vp_nI, tI, fI, not_true, not_false_iff, true_and, and_true, Classical.not_not, mS_uI, mS_uA, mS_uJ, mS_uR, mS_uX, mR_uI, mR_uA, mR_uJ, mR_uX, mX_uI, mX_uA, mX_uJ, mX_uR, mI_s, mI_n, mI_A, mI_An, mI_uJ, mI_uR, mI_uX, mJ_uI, mJ_uA, mJ_uR, mJ_uX, onR_s, kC_v, kC_n, kC_t, kC_v, mI_A, h1.sh, g1, h52]
          exact ih (n + 1) μ' (y.1, y.2.1, y.2.2.1, y.2.2.2.1, nx f L y.2.2.2.2) tk' ⟨d1, d2, d3, d4⟩ (by have := d2.2.1; have := d2.2.2.1; omega) (by omega) (hf.trans h1) h2 hq2
        · rw [if_neg c3] at hq2
          have h52 := fun (d : Nat) (Q : Po) => s_52f (d := d) (Q := Q) (g := g) (hs := y.2.2.1) (gs := y.2.2.2.1) (tk := tk') (er := nI 0) (ea := -1) hC2 b2 c3
          simp (disch := first | omega | rfl) only [e_40_0, e_40_1, e_40_2, e_40_5, e_40_8, e_40_11, e_40_12, e_40_15, e_40_18, e_40_19, e_40_22, e_40_25, e_40_26, e_40_29, e_40_30, e_40_31, e_40_34, e_40_35, e_40_36, e_40_39, e_40_40, e_40_41, e_40_44, e_40_45, e_40_46, e_40_49, e_40_50, e_40_51, e_40_54, e_40_55, e_40_58, e_40_59, e_40_61, e_40_62, e_40_65, e_40_68, e_40_69, e_40_72, e_40_75, e_40_76, e_40_79, e_40_82, e_40_83, e_40_86, e_40_89, e_40_90, e_40_93, e_40_94, e_40_97, e_40_100, e_40_101, ge1, ule_t, true_or, or_true, nI_add, nI_mul, nI_sub, nI_clamp, nI_lt_t, nI_lt_f, nI_le_t, nI_le_f, nI_eq_t, nI_eq_f, vp_nI, tI, fI, not_true, not_false_iff, true_and, and_true, Classical.not_not, mS_uI, mS_uA, mS_uJ, mS_uR, mS_uX, mR_uI, mR_uA, mR_uJ, mR_uX, mX_uI, mX_uA, mX_uJ, mX_uR, mI_s, mI_n, mI_A, mI_An, mI_uJ, mI_uR, mI_uX, mJ_uI, mJ_uA, mJ_uR, mJ_uX, onR_s, kC_v, kC_n, kC_t, kC_v, mI_A, h1.sh, g1, h52, ldT_11]
          exact hq2 μ' _ (hf.trans h1) rfl rfl rfl
theorem nI_u (x : Int32) : nI x.toBitVec.toNat = x := Int32.toBitVec_inj.mp (by rw [nI_bv]; simp)
theorem ld_any {g : Nat → Int32} {v : Nat} (hv : g 9 = nI (cvl v)) : upd (upd (upd (upd (upd (upd g 3 (nI L)) 4 (nI 0)) 5 (nI 0)) 8 (nI 0)) 11 (nI 0)) 12 (-1) = ldG g L 0 0 (g 6).toBitVec.toNat (g 7).toBitVec.toNat 0 v (g 10) (nI 0) (-1) := by
  funext j
  unfold upd ldG
  by_cases h3 : j = 3
  · subst h3; rfl
  · by_cases h4 : j = 4
    · subst h4; rfl
    · by_cases h5 : j = 5
      · subst h5; rfl
      · by_cases h6 : j = 6
        · subst h6; exact (nI_u _).symm
        · by_cases h7 : j = 7
          · subst h7; exact (nI_u _).symm
          · by_cases h8 : j = 8
            · subst h8; rfl
            · by_cases h9 : j = 9
              · subst h9; exact hv
              · by_cases h10 : j = 10
                · subst h10; rfl
                · by_cases h11 : j = 11
                  · subst h11; rfl
                  · by_cases h12 : j = 12
                    · subst h12; rfl
                    · simp only [h3, h4, h5, h6, h7, h8, h9, h10, h11, h12, if_false]
theorem mS_cClr : mS (cClr μ s) = mS μ := rfl
theorem mR_cClr : mR (cClr μ s) = mR μ := rfl
theorem mS_cNew : mS (cNew μ s c) = mS μ := rfl
theorem mR_cNew : mR (cNew μ s c) = mR μ := rfl
theorem c_40 (hL : LdS μ f L s c) (hv : F 9 = nI (cvl v)) (hv9 : v ≤ 1000009) {tn : Nat → Int32} (hT : ∀ j, 22 ≤ j → tn j = 0) (hq : PoA L s c F μ Q (rdAll f L (L + 1) 0 (rZ, tZ tn, 0, 0, tkn f L 0 v))) : Ev (d + 11) 40 [.ref 1030, .int (nI L)] (uA μ 1030 F) Q := by
  have hL0 := hL
  have hC2 := (hL.fr (cNew_fr (s := s) (c := c))).1
  obtain ⟨hC, hX, hr1, hr2, hS, hSc, hs9, hc9⟩ := hL
  have hsc : s + 22 < c ∨ c + 4 < s := by omega
  have g1 := hC.1
  have g6 := hC.2.2.2.2.2
  have r0 := hSc.2.1
  have r1 := hSc.2.2.1
  have r6 := hSc.2.2.2.2.2.2.1
  have q1 := hS.2.1
  have h73 : ∀ (d : Nat) (Q : Po) (G : Nat → Int32), Ev (d + 1) 73 [.ref s] (uA μ 1030 G) Q = Q (some none) (uA (cClr μ s) 1030 G) := fun d Q G => by rw [s_73 (StS_uA hS), cClr_A hs9]
  have h25 : ∀ (d : Nat) (Q : Po) (G : Nat → Int32), Ev (d + 2) 25 [.ref (c + 1), .int (nI 0)] (uA (cClr μ s) 1030 G) Q = Q (some none) (uA (cNew μ s c) 1030 G) := fun d Q G => by
    rw [s_25 (show mS (uA (cClr μ s) 1030 G) (c + 1) = (20, 16) from r6) (by omega), mI_Anf (by omega), uA30 (by omega)]
    rfl
  have h57 := fun (d : Nat) (Q : Po) => s_57e (d := d) (Q := Q) (g := F) (hs := 0) (gs := 0) (k := (F 6).toBitVec.toNat) (a := (F 7).toBitVec.toNat) (e := 0) (v := v) (tk := F 10) (er := nI 0) (ea := -1) hC2 (Nat.zero_le L)
  have e9 := ld_any (L := L) hv
  have lt : ¬ nI 900 < nI L := nI_nlt g6 (by omega)
  rw [in_40]
  simp (disch := first | omega | rfl) only [e_40_0, e_40_1, e_40_2, e_40_5, e_40_8, e_40_11, e_40_12, e_40_15, e_40_18, e_40_19, e_40_22, e_40_25, e_40_26, e_40_29, e_40_30, e_40_31, e_40_34, e_40_35, e_40_36, e_40_39, e_40_40, e_40_41, e_40_44, e_40_45, e_40_46, e_40_49, e_40_50, e_40_51, e_40_54, e_40_55, e_40_58, e_40_59, e_40_61, e_40_62, e_40_65, e_40_68, e_40_69, e_40_72, e_40_75, e_40_76, e_40_79, e_40_82, e_40_83, e_40_86, e_40_89, e_40_90, e_40_93, e_40_94, e_40_97, e_40_100, e_40_101, ge1, ule_t, true_or, or_true, nI_add, nI_mul, nI_sub, nI_clamp, nI_lt_t, nI_lt_f, nI_le_t, nI_le_f, nI_eq_t, nI_eq_f, vp_nI, tI, fI, not_true, not_false_iff, true_and, and_true, Classical.not_not, mS_uI, mS_uA, mS_uJ, mS_uR, mS_uX, mR_uI, mR_uA, mR_uJ, mR_uX, mX_uI, mX_uA, mX_uJ, mX_uR, mI_s, mI_n, mI_A, mI_An, mI_uJ, mI_uR, mI_uX, mJ_uI, mJ_uA, mJ_uR, mJ_uX, onR_s, kC_v, kC_n, kC_t, mI_A, g1, hr1, hr2, q1, r0, r1, mS_cClr, mR_cClr, mS_cNew, mR_cNew, if_neg lt, if_false, h73, h25, uIA, e9, h57]
  exact l_40 hL0 (L + 1) 0 (cNew μ s c) (rZ, tZ tn, 0, 0, tkn f L 0 v) _ ⟨AL_Z hT, (ok_tkn (Nat.zero_le L) hv9).1, (show 0 ≤ 1 by omega), (show 0 < 4 by omega)⟩ (by omega) (Nat.zero_le _) cNew_fr (cNew_rel hsc tn) hq
end LoadC


