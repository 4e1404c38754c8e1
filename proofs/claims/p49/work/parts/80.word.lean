/-! reading: words and names -/
abbrev txL : List (List Nat) := [[115, 116, 97, 114, 116], [109, 101, 109, 98, 101, 114], [100, 111], [112, 117, 116], [97, 100, 100], [99, 111, 112, 121], [115, 117, 109], [115, 119, 97, 112], [109, 117, 108], [115, 101, 97, 108], [102, 97, 117, 108, 116], [115, 101, 116], [108, 97, 103], [113, 117, 111, 114, 117, 109], [110, 111, 32, 115, 117, 99, 104, 32, 109, 101, 109, 98, 101, 114], [110, 111, 32, 115, 117, 99, 104, 32, 99, 101, 108, 108], [110, 111, 32, 115, 117, 99, 104, 32, 115, 101, 97, 108, 101, 100, 32, 116, 117, 114, 110], [110, 111, 32, 115, 117, 99, 104, 32, 102, 97, 117, 108, 116], [112, 117, 116], [97, 100, 100], [99, 111, 112, 121], [115, 117, 109], [115, 119, 97, 112], [109, 117, 108], [115, 101, 116, 32, 108, 97, 103, 32], [59, 115, 101, 116, 32, 113, 117, 111, 114, 117, 109, 32], [59, 115, 116, 97, 114, 116], [32], [59], [109, 101, 109, 98, 101, 114, 32], [109], [100, 111, 32], [115, 101, 97, 108, 59]]
def txB (i : Nat) : List Nat := txL.getD i []
/-- the texts that reading looks at -/
def TxC (μ : Mu) : Prop := ∀ i, i < 21 → i < 14 ∨ 18 ≤ i → TxS μ i (100 + i) (txB i).length ∧ ∀ j, j < (txB i).length → mI μ (100 + i) j = nI ((txB i).getD j 0)
theorem tx_b : ∀ i, i < 21 → ∀ j, j < (txB i).length → (txB i).getD j 0 < 128 := by decide +kernel
theorem tx_l : ∀ i, i < 21 → (txB i).length < 40 := by decide +kernel
theorem TxC.uA {μ : Mu} {a : Nat} {F : Nat → Int32} (h : TxC μ) (ha : 1000 ≤ a) : TxC (uA μ a F) := fun i hi h2 => by
  obtain ⟨⟨t1, t2, t3, t4⟩, h3⟩ := h i hi h2
  exact ⟨⟨t1, t2, by rw [mI_An (by omega)]; exact t3, t4⟩, fun j hj => by rw [mI_An (by omega)]; exact h3 j hj⟩
theorem TxC.fr {μ μ' : Mu} {P : Nat → Prop} (h : TxC μ) (hf : Fr P μ μ') (hP : ∀ a, P a → 1000 ≤ a) : TxC μ' := fun i hi h2 => by
  obtain ⟨⟨t1, t2, t3, t4⟩, h3⟩ := h i hi h2
  exact ⟨⟨by rw [hf.sh]; exact t1, by rw [hf.rf]; exact t2, by rw [hf.2.2.2 _ (fun z => by have := hP _ z; omega)]; exact t3, by rw [hf.sh]; exact t4⟩, fun j hj => by rw [hf.2.2.2 _ (fun z => by have := hP _ z; omega)]; exact h3 j hj⟩
/-- the token is a word -/
abbrev isW (f : Nat → Nat) (t : TK) (w : List Nat) : Prop := t.1 = 1 ∧ t.2.2.1 - t.2.1 = w.length ∧ ∀ k, k < w.length → f (t.2.1 + k) = w.getD k 0
section WordC
variable {d : Nat} {Q : Po} {μ : Mu} {f : Nat → Nat} {g F : Nat → Int32} {L hs gs i k : Nat} {tk er ea : Int32} {t : TK}
theorem ckk1 {k : Nat} (hk : k ≤ 4) : (nI (ckk k) = nI 1) = (k = 1) := by
  unfold ckk
  split <;> apply propext
  · rw [nI_eq (by omega) (by omega)]
  · rw [nI_eq (by omega) (by omega)]; omega
theorem ckk2 {k : Nat} (hk : k ≤ 4) : (nI (ckk k) = nI 2) = (k = 2) := by
  unfold ckk
  split <;> apply propext
  · rw [nI_eq (by omega) (by omega)]
  · rw [nI_eq (by omega) (by omega)]; omega
theorem ckk3 {k : Nat} (hk : k ≤ 4) : (nI (ckk k) = nI 3) = (3 ≤ k) := by
  unfold ckk
  split <;> apply propext
  · rw [nI_eq (by omega) (by omega)]; omega
  · rw [nI_eq (by omega) (by omega)]; omega
theorem ckk0 {k : Nat} (hk : k ≤ 4) : (nI (ckk k) = nI 0) = (k = 0) := by
  unfold ckk
  split <;> apply propext
  · rw [nI_eq (by omega) (by omega)]
  · rw [nI_eq (by omega) (by omega)]; omega
theorem ldT_6 : ldT g L hs gs t tk er ea 6 = nI (ckk t.1) := rfl
theorem ldT_7 : ldT g L hs gs t tk er ea 7 = nI t.2.1 := rfl
theorem ldT_8 : ldT g L hs gs t tk er ea 8 = nI t.2.2.1 := rfl
theorem ldT_9 : ldT g L hs gs t tk er ea 9 = nI (cvl t.2.2.2) := rfl
theorem l_56 (hL : LdC μ f L) (hX : TxC μ) (hi : i < 21) (hi2 : i < 14 ∨ 18 ≤ i) (ht : okTk f L t) (h1 : t.1 = 1) (hl : t.2.2.1 - t.2.1 = (txB i).length) : ∀ n k, k + n = (txB i).length → (∀ j, j < k → f (t.2.1 + j) = (txB i).getD j 0) → EM 56 (d + 5) 28 [some (.ref 1030), some (.ref i), some (.int (nI k))] [] (uA μ 1030 (ldT g L hs gs t tk er ea)) (0, 0) Q = Q (some (some (.int (bI (isW f t (txB i)))))) (uA μ 1030 (ldT g L hs gs t tk er ea)) := by
  have hl40 := tx_l i hi
  obtain ⟨hS, hv⟩ := (hX.uA (a := 1030) (F := ldT g L hs gs t tk er ea) (by omega)) i hi hi2
  have hS0 := hS.1
  have h18 := fun (d : Nat) (Q : Po) => s_18 (d := d) (Q := Q) hS (by omega)
  obtain ⟨g1, g2, g3, g4, g5, g6⟩ := hL
  obtain ⟨k1, k2, k3, k4, k5, k6, k7, k8⟩ := ht
  intro n
  induction n with
  | zero =>
    intro k hk hm
    obtain rfl : k = (txB i).length := by omega
    rw [e_56_28]
    simp (disch := first | omega | rfl) only [e_56_0, e_56_1, e_56_4, e_56_5, e_56_8, e_56_9, e_56_12, e_56_13, e_56_16, e_56_17, e_56_18, e_56_21, e_56_24, e_56_25, e_56_26, e_56_27, e_56_29, e_56_30, e_56_33, e_56_36, e_56_37, e_56_40, e_56_41, e_56_44, e_56_45, e_56_46, e_56_47, e_56_48, e_56_49, e_56_52, e_56_55, e_56_56, e_56_57, e_56_60, e_56_63, e_56_64, ge1, ule_t, true_or, or_true, nI_add, nI_mul, nI_sub, nI_clamp, nI_lt_t, nI_lt_f, nI_le_t, nI_le_f, nI_eq_t, nI_eq_f, vp_nI, tI, fI, not_true, not_false_iff, true_and, and_true, Classical.not_not, mS_uI, mS_uA, mS_uJ, mS_uR, mS_uX, mR_uI, mR_uA, mR_uJ, mR_uX, mX_uI, mX_uA, mX_uJ, mX_uR, mI_s, mI_n, mI_A, mI_An, mI_uJ, mI_uR, mI_uX, mJ_uI, mJ_uA, mJ_uR, mJ_uX, onR_s, kC_v, kC_n, kC_t, hS0, h18, bI_ti (show isW f t (txB i) from ⟨h1, hl, hm⟩)]
  | succ n ih =>
    intro k hk hm
    have h19 := fun (d : Nat) (Q : Po) => s_19 (d := d) (Q := Q) hS (by omega) (show k < (txB i).length by omega) (hv k (by omega)) (tx_b i hi k (by omega))
    have hb := k6 h1 (t.2.1 + k) (by omega) (by omega)
    have hb2 := tx_b i hi k (by omega)
    have e3 : sgB (f (t.2.1 + k)) = nI (f (t.2.1 + k)) := sgB_s (by omega)
    rw [e_56_28]
    by_cases c : f (t.2.1 + k) = (txB i).getD k 0
    · have hi3 := ih (k + 1) (by omega) (fun j hj => by
        by_cases h : j = k
        · rw [h]; exact c
        · exact hm j (by omega))
      have e4 : sgB (f (t.2.1 + k)) = nI ((txB i).getD k 0) := by rw [e3, c]
      simp (disch := first | omega | rfl) only [e_56_0, e_56_1, e_56_4, e_56_5, e_56_8, e_56_9, e_56_12, e_56_13, e_56_16, e_56_17, e_56_18, e_56_21, e_56_24, e_56_25, e_56_26, e_56_27, e_56_29, e_56_30, e_56_33, e_56_36, e_56_37, e_56_40, e_56_41, e_56_44, e_56_45, e_56_46, e_56_47, e_56_48, e_56_49, e_56_52, e_56_55, e_56_56, e_56_57, e_56_60, e_56_63, e_56_64, ge1, ule_t, true_or, or_true, nI_add, nI_mul, nI_sub, nI_clamp, nI_lt_t, nI_lt_f, nI_le_t, nI_le_f, nI_eq_t, nI_eq_f, vp_nI, tI, fI, not_true, not_false_iff, true_and, and_true, Classical.not_not, mS_uI, mS_uA, mS_uJ, mS_uR, mS_uX, mR_uI, mR_uA, mR_uJ, mR_uX, mX_uI, mX_uA, mX_uJ, mX_uR, mI_s, mI_n, mI_A, mI_An, mI_uJ, mI_uR, mI_uX, mJ_uI, mJ_uA, mJ_uR, mJ_uX, onR_s, kC_v, kC_n, kC_t, mI_An, mI_A, ldT_7, g1, g2, g3, g4 (t.2.1 + k) (by omega), hS0, h18, h19, e4]
      exact hi3
    · simp (disch := first | omega | rfl) only [e_56_0, e_56_1, e_56_4, e_56_5, e_56_8, e_56_9, e_56_12, e_56_13, e_56_16, e_56_17, e_56_18, e_56_21, e_56_24, e_56_25, e_56_26, e_56_27, e_56_29, e_56_30, e_56_33, e_56_36, e_56_37, e_56_40, e_56_41, e_56_44, e_56_45, e_56_46, e_56_47, e_56_48, e_56_49, e_56_52, e_56_55, e_56_56, e_56_57, e_56_60, e_56_63, e_56_64, ge1, ule_t, true_or, or_true, nI_add, nI_mul, nI_sub, nI_clamp, nI_lt_t, nI_lt_f, nI_le_t, nI_le_f, nI_eq_t, nI_eq_f, vp_nI, tI, fI, not_true, not_false_iff, true_and, and_true, Classical.not_not, mS_uI, mS_uA, mS_uJ, mS_uR, mS_uX, mR_uI, mR_uA, mR_uJ, mR_uX, mX_uI, mX_uA, mX_uJ, mX_uR, mI_s, mI_n, mI_A, mI_An, mI_uJ, mI_uR, mI_uX, mJ_uI, mJ_uA, mJ_uR, mJ_uX, onR_s, kC_v, kC_n, kC_t, mI_An, mI_A, ldT_7, g1, g2, g3, g4 (t.2.1 + k) (by omega), hS0, h18, h19, e3, bI_fi (show ¬ isW f t (txB i) from fun z => c (z.2.2 k (by omega)))]
theorem s_56 (hL : LdC μ f L) (hX : TxC μ) (hi : i < 21) (hi2 : i < 14 ∨ 18 ≤ i) (ht : okTk f L t) : Ev (d + 6) 56 [.ref 1030, .ref i] (uA μ 1030 (ldT g L hs gs t tk er ea)) Q = Q (some (some (.int (bI (isW f t (txB i)))))) (uA μ 1030 (ldT g L hs gs t tk er ea)) := by
  have hl40 := tx_l i hi
  have hS := ((hX.uA (a := 1030) (F := ldT g L hs gs t tk er ea) (by omega)) i hi hi2).1
  have hS0 := hS.1
  have h18 := fun (d : Nat) (Q : Po) => s_18 (d := d) (Q := Q) hS (by omega)
  have hL0 := hL
  have ht0 := ht
  obtain ⟨g1, g2, g3, g4, g5, g6⟩ := hL
  obtain ⟨k1, k2, k3, k4, k5, k6, k7, k8⟩ := ht
  rw [in_56]
  by_cases h1 : t.1 = 1
  · have e1 : (nI (ckk t.1) = nI 1) = True := (ckk1 k1).trans (eq_true h1)
    by_cases hl : t.2.2.1 - t.2.1 = (txB i).length
    · simp (disch := first | omega | rfl) only [e_56_0, e_56_1, e_56_4, e_56_5, e_56_8, e_56_9, e_56_12, e_56_13, e_56_16, e_56_17, e_56_18, e_56_21, e_56_24, e_56_25, e_56_26, e_56_27, e_56_29, e_56_30, e_56_33, e_56_36, e_56_37, e_56_40, e_56_41, e_56_44, e_56_45, e_56_46, e_56_47, e_56_48, e_56_49, e_56_52, e_56_55, e_56_56, e_56_57, e_56_60, e_56_63, e_56_64, ge1, ule_t, true_or, or_true, nI_add, nI_mul, nI_sub, nI_clamp, nI_lt_t, nI_lt_f, nI_le_t, nI_le_f, nI_eq_t, nI_eq_f, vp_nI, tI, fI, not_true, not_false_iff, true_and, and_true, Classical.not_not, mS_uI, mS_uA, mS_uJ, mS_uR, mS_uX, mR_uI, mR_uA, mR_uJ, mR_uX, mX_uI, mX_uA, mX_uJ, mX_uR, mI_s, mI_n, mI_A, mI_An, mI_uJ, mI_uR, mI_uX, mJ_uI, mJ_uA, mJ_uR, mJ_uX, onR_s, kC_v, kC_n, kC_t, mI_A, ldT_6, ldT_7, ldT_8, g1, hS0, h18, e1, hl]
      exact l_56 hL0 hX hi hi2 ht0 h1 hl (txB i).length 0 (by omega) (fun j hj => absurd hj (Nat.not_lt_zero j))
    · simp (disch := first | omega | rfl) only [e_56_0, e_56_1, e_56_4, e_56_5, e_56_8, e_56_9, e_56_12, e_56_13, e_56_16, e_56_17, e_56_18, e_56_21, e_56_24, e_56_25, e_56_26, e_56_27, e_56_29, e_56_30, e_56_33, e_56_36, e_56_37, e_56_40, e_56_41, e_56_44, e_56_45, e_56_46, e_56_47, e_56_48, e_56_49, e_56_52, e_56_55, e_56_56, e_56_57, e_56_60, e_56_63, e_56_64, ge1, ule_t, true_or, or_true, nI_add, nI_mul, nI_sub, nI_clamp, nI_lt_t, nI_lt_f, nI_le_t, nI_le_f, nI_eq_t, nI_eq_f, vp_nI, tI, fI, not_true, not_false_iff, true_and, and_true, Classical.not_not, mS_uI, mS_uA, mS_uJ, mS_uR, mS_uX, mR_uI, mR_uA, mR_uJ, mR_uX, mX_uI, mX_uA, mX_uJ, mX_uR, mI_s, mI_n, mI_A, mI_An, mI_uJ, mI_uR, mI_uX, mJ_uI, mJ_uA, mJ_uR, mJ_uX, onR_s, kC_v, kC_n, kC_t, mI_A, ldT_6, ldT_7, ldT_8, g1, hS0, h18, e1, bI_fi (show ¬ isW f t (txB i) from fun z => hl z.2.1)]
  · have e1 : (nI (ckk t.1) = nI 1) = False := (ckk1 k1).trans (eq_false h1)
    simp (disch := first | omega | rfl) only [e_56_0, e_56_1, e_56_4, e_56_5, e_56_8, e_56_9, e_56_12, e_56_13, e_56_16, e_56_17, e_56_18, e_56_21, e_56_24, e_56_25, e_56_26, e_56_27, e_56_29, e_56_30, e_56_33, e_56_36, e_56_37, e_56_40, e_56_41, e_56_44, e_56_45, e_56_46, e_56_47, e_56_48, e_56_49, e_56_52, e_56_55, e_56_56, e_56_57, e_56_60, e_56_63, e_56_64, ge1, ule_t, true_or, or_true, nI_add, nI_mul, nI_sub, nI_clamp, nI_lt_t, nI_lt_f, nI_le_t, nI_le_f, nI_eq_t, nI_eq_f, vp_nI, tI, fI, not_true, not_false_iff, true_and, and_true, Classical.not_not, mS_uI, mS_uA, mS_uJ, mS_uR, mS_uX, mR_uI, mR_uA, mR_uJ, mR_uX, mX_uI, mX_uA, mX_uJ, mX_uR, mI_s, mI_n, mI_A, mI_An, mI_uJ, mI_uR, mI_uX, mJ_uI, mJ_uA, mJ_uR, mJ_uX, onR_s, kC_v, kC_n, kC_t, mI_A, ldT_6, g1, e1, bI_fi (show ¬ isW f t (txB i) from fun z => h1 z.1)]
end WordC
/-- which word of a row -/
def wIx (f : Nat → Nat) (t : TK) : List (List Nat) → Nat → Int32
  | [], _ => -1
  | w :: ws, n => if isW f t w then nI n else wIx f t ws (n + 1)
def okRow (R : List Nat) : List (List Nat) → Nat → Bool
  | [], k => k == R.length
  | w :: ws, k => decide (k + w.length < R.length) && R.getD (k + w.length) 0 == 32 && decide (∀ j, j < w.length → R.getD (k + j) 0 = w.getD j 0 ∧ ¬ w.getD j 0 = 32) && okRow R ws (k + w.length + 1)
theorem okRow_c {R : List Nat} {w : List Nat} {ws : List (List Nat)} {k : Nat} (h : okRow R (w :: ws) k = true) : k + w.length < R.length ∧ R.getD (k + w.length) 0 = 32 ∧ (∀ j, j < w.length → R.getD (k + j) 0 = w.getD j 0 ∧ ¬ w.getD j 0 = 32) ∧ okRow R ws (k + w.length + 1) = true := by
  rw [okRow, Bool.and_eq_true, Bool.and_eq_true, Bool.and_eq_true, decide_eq_true_eq, decide_eq_true_eq, beq_iff_eq] at h
  exact ⟨h.1.1.1, h.1.1.2, h.1.2, h.2⟩
theorem okRow_n {R : List Nat} {k : Nat} (h : okRow R [] k = true) : k = R.length := by
  rw [okRow, beq_iff_eq] at h
  exact h
section WordM
variable {d : Nat} {Q : Po} {μ : Mu} {f : Nat → Nat} {g F : Nat → Int32} {L i k n sm ts hs : Nat} {er ep : Int32} {t : TK} {w : List Nat} {l4 : Option Value} {X : Prop}
theorem mkk1 {k : Nat} (hk : k ≤ 4) : (nI (mkk k) = nI 0) = (k = 1) := by
  rcases (by omega : k = 0 ∨ k = 1 ∨ k = 2 ∨ k = 3 ∨ k = 4) with rfl | rfl | rfl | rfl | rfl <;> decide
theorem mkk2 {k : Nat} (hk : k ≤ 4) : (nI (mkk k) = nI 1) = (k = 2) := by
  rcases (by omega : k = 0 ∨ k = 1 ∨ k = 2 ∨ k = 3 ∨ k = 4) with rfl | rfl | rfl | rfl | rfl <;> decide
theorem mkk3 {k : Nat} (hk : k ≤ 4) : (nI (mkk k) = nI 2) = (k = 3) := by
  rcases (by omega : k = 0 ∨ k = 1 ∨ k = 2 ∨ k = 3 ∨ k = 4) with rfl | rfl | rfl | rfl | rfl <;> decide
theorem mkk0 {k : Nat} (hk : k ≤ 4) : (nI (mkk k) = nI 3) = (k = 0) := by
  rcases (by omega : k = 0 ∨ k = 1 ∨ k = 2 ∨ k = 3 ∨ k = 4) with rfl | rfl | rfl | rfl | rfl <;> decide
theorem mdT_15 : mdT g L t er ep sm ts hs 15 = nI t.2.2.1 := rfl
theorem mdT_16 : mdT g L t er ep sm ts hs 16 = nI t.2.1 := rfl
theorem mdT_17 : mdT g L t er ep sm ts hs 17 = nI (mkk t.1) := rfl
theorem mdT_18 : mdT g L t er ep sm ts hs 18 = nI t.2.2.2 := rfl
theorem mdT_19 : mdT g L t er ep sm ts hs 19 = er := rfl
theorem mdT_20 : mdT g L t er ep sm ts hs 20 = ep := rfl
theorem mdT_22 : mdT g L t er ep sm ts hs 22 = nI sm := rfl
theorem mdT_23 : mdT g L t er ep sm ts hs 23 = nI ts := rfl
theorem mdT_24 : mdT g L t er ep sm ts hs 24 = nI hs := rfl
theorem s_19x (hX : TxC μ) (hi : i < 21) (hi2 : i < 14 ∨ 18 ≤ i) (hk : k < (txB i).length) : Ev (d + 4) 19 [.ref i, .int (nI k)] μ Q = Q (some (some (.int (nI ((txB i).getD k 0))))) μ := by
  have hl40 := tx_l i hi
  obtain ⟨hS, hv⟩ := hX i hi hi2
  exact s_19 hS (by omega) hk (hv k hk) (tx_b i hi k hk)
theorem wIx_n {ws : List (List Nat)} (h : ¬ t.1 = 1) : ∀ n, wIx f t ws n = -1 := by
  induction ws with
  | nil => intro n; rfl
  | cons w ws ih => intro n; rw [wIx, if_neg (fun z => h z.1)]; exact ih (n + 1)
end WordM
/-! names -/
def nlx (f : Nat → Nat) (t : TK) (j : Nat) : Nat := if t.2.1 + j < t.2.2.1 then f (t.2.1 + j) - 96 else 0
def nmP (f : Nat → Nat) (t : TK) : Nat → Nat
  | 0 => 0
  | k + 1 => nmP f t k + nlx f t k * 2 ^ (5 * (5 - k))
def nmQ (f : Nat → Nat) (t : TK) : Nat → Nat
  | 0 => 0
  | k + 1 => nmQ f t k * 32 + nlx f t k
abbrev isN (t : TK) : Prop := t.1 = 1 ∧ t.2.2.1 - t.2.1 ≤ 6
section NameP
variable {f : Nat → Nat} {t : TK} {L j k : Nat}
theorem nm_eq : nmP f t 6 = nmQ f t 6 := by
  simp only [nmP, nmQ, Nat.reduceSub, Nat.reduceMul, Nat.reducePow]
  omega
theorem nlx_lt (ht : okTk f L t) (h1 : t.1 = 1) : nlx f t j < 32 := by
  unfold nlx
  split
  · have := ht.2.2.2.2.2.1 h1 (t.2.1 + j) (by omega) (by omega)
    omega
  · omega
theorem nlx_z (h : t.2.2.1 ≤ t.2.1 + j) : nlx f t j = 0 := if_neg (by omega)
theorem nmP_z (h : t.2.2.1 ≤ t.2.1 + k) : ∀ n, nmP f t (k + n) = nmP f t k
  | 0 => rfl
  | n + 1 => by
    show nmP f t (k + n) + nlx f t (k + n) * _ = _
    rw [nlx_z (by omega), Nat.zero_mul, Nat.add_zero]
    exact nmP_z h n
theorem nmQ_lt (ht : okTk f L t) (h1 : t.1 = 1) : nmQ f t 6 < 1073741824 ∧ 0 < nmQ f t 6 := by
  have h := fun j => nlx_lt (j := j) ht h1
  have h0 := h 0
  have h2 := h 1
  have h3 := h 2
  have h4 := h 3
  have h5 := h 4
  have h6 := h 5
  have hp : 0 < nlx f t 0 := by
    have h7 := ht.2.2.2.1 (by omega)
    unfold nlx
    rw [if_pos (by omega)]
    have := ht.2.2.2.2.2.1 h1 (t.2.1 + 0) (by omega) (by omega)
    omega
  simp only [nmQ]
  omega
theorem nmP_m : ∀ k, k ≤ 5 → ∃ q, nmP f t k = 2 ^ (5 * (6 - k)) * q
  | 0, _ => ⟨0, by rw [nmP, Nat.mul_zero]⟩
  | k + 1, hk => by
    obtain ⟨q, hq⟩ := nmP_m k (by omega)
    refine ⟨32 * q + nlx f t k, ?_⟩
    have e1 : 5 * (6 - k) = 5 * (6 - (k + 1)) + 5 := by omega
    have e2 : 5 * (5 - k) = 5 * (6 - (k + 1)) := by omega
    rw [nmP, hq, e1, e2, Nat.pow_add, Nat.mul_add, Nat.mul_assoc, Nat.mul_comm (nlx f t k)]
theorem nm_or {A x k : Nat} (hk : k ≤ 5) (hA : ∃ q, A = 2 ^ (5 * (6 - k)) * q) (hx : x < 32) : nI A ||| nI (x * 2 ^ (5 * (5 - k))) = nI (A + x * 2 ^ (5 * (5 - k))) := by
  obtain ⟨q, rfl⟩ := hA
  rw [nI_or]
  congr 1
  refine (Nat.two_pow_add_eq_or_of_lt ?_ q).symm
  rw [show 5 * (6 - k) = 5 * (5 - k) + 5 by omega, Nat.pow_add, Nat.mul_comm]
  exact Nat.mul_lt_mul_of_pos_left hx (Nat.pow_pos (by omega))
theorem nm_or5 {v x : Nat} (hx : x < 32) : nI (v * 2 ^ 5) ||| nI x = nI (v * 32 + x) := by
  rw [nI_or]
  congr 1
  have := Nat.two_pow_add_eq_or_of_lt (i := 5) (b := x) (by omega) v
  rw [Nat.mul_comm, ← this]
end NameP
section NameC
variable {d : Nat} {Q : Po} {μ : Mu} {f : Nat → Nat} {g F : Nat → Int32} {L hs gs i k : Nat} {tk er ea : Int32} {t : TK}
theorem s_54 (hL : LdC μ f L) (ht : okTk f L t) : Ev (d + 1) 54 [.ref 1030] (uA μ 1030 (ldT g L hs gs t tk er ea)) Q = Q (some (some (.int (bI (isN t))))) (uA μ 1030 (ldT g L hs gs t tk er ea)) := by
  obtain ⟨g1, g2, g3, g4, g5, g6⟩ := hL
  obtain ⟨k1, k2, k3, k4, k5, k6, k7, k8⟩ := ht
  rw [in_54]
  by_cases h1 : t.1 = 1
  · have e1 : (nI (ckk t.1) = nI 1) = True := (ckk1 k1).trans (eq_true h1)
    by_cases hl : t.2.2.1 - t.2.1 ≤ 6
    · simp (disch := first | omega | rfl) only [e_54_0, e_54_1, e_54_4, e_54_5, e_54_8, e_54_9, e_54_12, e_54_13, e_54_16, e_54_17, e_54_19, e_54_22, e_54_23, e_54_26, e_54_27, ge1, ule_t, true_or, or_true, nI_add, nI_mul, nI_sub, nI_clamp, nI_lt_t, nI_lt_f, nI_le_t, nI_le_f, nI_eq_t, nI_eq_f, vp_nI, tI, fI, not_true, not_false_iff, true_and, and_true, Classical.not_not, mS_uI, mS_uA, mS_uJ, mS_uR, mS_uX, mR_uI, mR_uA, mR_uJ, mR_uX, mX_uI, mX_uA, mX_uJ, mX_uR, mI_s, mI_n, mI_A, mI_An, mI_uJ, mI_uR, mI_uX, mJ_uI, mJ_uA, mJ_uR, mJ_uX, onR_s, kC_v, kC_n, kC_t, mI_A, ldT_6, ldT_7, ldT_8, g1, e1, bI_ti (show isN t from ⟨h1, hl⟩)]
    · simp (disch := first | omega | rfl) only [e_54_0, e_54_1, e_54_4, e_54_5, e_54_8, e_54_9, e_54_12, e_54_13, e_54_16, e_54_17, e_54_19, e_54_22, e_54_23, e_54_26, e_54_27, ge1, ule_t, true_or, or_true, nI_add, nI_mul, nI_sub, nI_clamp, nI_lt_t, nI_lt_f, nI_le_t, nI_le_f, nI_eq_t, nI_eq_f, vp_nI, tI, fI, not_true, not_false_iff, true_and, and_true, Classical.not_not, mS_uI, mS_uA, mS_uJ, mS_uR, mS_uX, mR_uI, mR_uA, mR_uJ, mR_uX, mX_uI, mX_uA, mX_uJ, mX_uR, mI_s, mI_n, mI_A, mI_An, mI_uJ, mI_uR, mI_uX, mJ_uI, mJ_uA, mJ_uR, mJ_uX, onR_s, kC_v, kC_n, kC_t, mI_A, ldT_6, ldT_7, ldT_8, g1, e1, bI_fi (show ¬ isN t from fun z => hl z.2)]
  · have e1 : (nI (ckk t.1) = nI 1) = False := (ckk1 k1).trans (eq_false h1)
    simp (disch := first | omega | rfl) only [e_54_0, e_54_1, e_54_4, e_54_5, e_54_8, e_54_9, e_54_12, e_54_13, e_54_16, e_54_17, e_54_19, e_54_22, e_54_23, e_54_26, e_54_27, ge1, ule_t, true_or, or_true, nI_add, nI_mul, nI_sub, nI_clamp, nI_lt_t, nI_lt_f, nI_le_t, nI_le_f, nI_eq_t, nI_eq_f, vp_nI, tI, fI, not_true, not_false_iff, true_and, and_true, Classical.not_not, mS_uI, mS_uA, mS_uJ, mS_uR, mS_uX, mR_uI, mR_uA, mR_uJ, mR_uX, mX_uI, mX_uA, mX_uJ, mX_uR, mI_s, mI_n, mI_A, mI_An, mI_uJ, mI_uR, mI_uX, mJ_uI, mJ_uA, mJ_uR, mJ_uX, onR_s, kC_v, kC_n, kC_t, mI_A, ldT_6, g1, e1, bI_fi (show ¬ isN t from fun z => h1 z.1)]
theorem l_55 (hL : LdC μ f L) (ht : okTk f L t) (h1 : t.1 = 1) : ∀ n k, k + n = 6 → t.2.1 + k ≤ t.2.2.1 → EM 55 (d + 1) 4 [some (.ref 1030), some (.int (nI (nmP f t k))), some (.int (nI k))] [] (uA μ 1030 (ldT g L hs gs t tk er ea)) (0, 0) Q = Q (some (some (.int (nI (nmQ f t 6))))) (uA μ 1030 (ldT g L hs gs t tk er ea)) := by
  have hx := fun j => nlx_lt (j := j) ht h1
  obtain ⟨g1, g2, g3, g4, g5, g6⟩ := hL
  obtain ⟨k1, k2, k3, k4, k5, k6, k7, k8⟩ := ht
  intro n
  induction n with
  | zero =>
    intro k hk hke
    obtain rfl : k = 6 := by omega
    rw [e_55_4]
    simp (disch := first | omega | rfl) only [e_55_0, e_55_1, e_55_2, e_55_3, e_55_5, e_55_7, e_55_10, e_55_11, e_55_14, e_55_15, e_55_16, e_55_17, e_55_20, e_55_23, e_55_24, e_55_25, e_55_28, e_55_29, e_55_32, e_55_33, e_55_34, e_55_35, e_55_37, e_55_38, e_55_39, e_55_40, e_55_41, e_55_44, e_55_45, e_55_46, e_55_47, e_55_50, e_55_53, e_55_54, ge1, ule_t, true_or, or_true, nI_add, nI_mul, nI_sub, nI_clamp, nI_lt_t, nI_lt_f, nI_le_t, nI_le_f, nI_eq_t, nI_eq_f, vp_nI, tI, fI, not_true, not_false_iff, true_and, and_true, Classical.not_not, mS_uI, mS_uA, mS_uJ, mS_uR, mS_uX, mR_uI, mR_uA, mR_uJ, mR_uX, mX_uI, mX_uA, mX_uJ, mX_uR, mI_s, mI_n, mI_A, mI_An, mI_uJ, mI_uR, mI_uX, mJ_uI, mJ_uA, mJ_uR, mJ_uX, onR_s, kC_v, kC_n, kC_t, nm_eq]
  | succ n ih =>
    intro k hk hke
    rw [e_55_4]
    by_cases c : t.2.1 + k < t.2.2.1
    · have hb := k6 h1 (t.2.1 + k) (by omega) c
      have e3 : sgB (f (t.2.1 + k)) = nI (f (t.2.1 + k)) := sgB_s (by omega)
      have e4 : f (t.2.1 + k) - 97 + 1 = nlx f t k := by unfold nlx; rw [if_pos c]; omega
      have hi := ih (k + 1) (by omega) (by omega)
      rw [nmP, ← nm_or (by omega) (nmP_m k (by omega)) (hx k)] at hi
      simp (disch := first | omega | rfl) only [e_55_0, e_55_1, e_55_2, e_55_3, e_55_5, e_55_7, e_55_10, e_55_11, e_55_14, e_55_15, e_55_16, e_55_17, e_55_20, e_55_23, e_55_24, e_55_25, e_55_28, e_55_29, e_55_32, e_55_33, e_55_34, e_55_35, e_55_37, e_55_38, e_55_39, e_55_40, e_55_41, e_55_44, e_55_45, e_55_46, e_55_47, e_55_50, e_55_53, e_55_54, ge1, ule_t, true_or, or_true, nI_add, nI_mul, nI_sub, nI_clamp, nI_lt_t, nI_lt_f, nI_le_t, nI_le_f, nI_eq_t, nI_eq_f, vp_nI, tI, fI, not_true, not_false_iff, true_and, and_true, Classical.not_not, mS_uI, mS_uA, mS_uJ, mS_uR, mS_uX, mR_uI, mR_uA, mR_uJ, mR_uX, mX_uI, mX_uA, mX_uJ, mX_uR, mI_s, mI_n, mI_A, mI_An, mI_uJ, mI_uR, mI_uX, mJ_uI, mJ_uA, mJ_uR, mJ_uX, onR_s, kC_v, kC_n, kC_t, mI_An, mI_A, ldT_7, ldT_8, g1, g2, g3, g4 (t.2.1 + k) (by omega), e3, e4, s_159, nI_shl]
      exact hi
    · have e5 := nmP_z (f := f) (t := t) (k := k) (by omega) (n + 1)
      rw [hk, nm_eq] at e5
      simp (disch := first | omega | rfl) only [e_55_0, e_55_1, e_55_2, e_55_3, e_55_5, e_55_7, e_55_10, e_55_11, e_55_14, e_55_15, e_55_16, e_55_17, e_55_20, e_55_23, e_55_24, e_55_25, e_55_28, e_55_29, e_55_32, e_55_33, e_55_34, e_55_35, e_55_37, e_55_38, e_55_39, e_55_40, e_55_41, e_55_44, e_55_45, e_55_46, e_55_47, e_55_50, e_55_53, e_55_54, ge1, ule_t, true_or, or_true, nI_add, nI_mul, nI_sub, nI_clamp, nI_lt_t, nI_lt_f, nI_le_t, nI_le_f, nI_eq_t, nI_eq_f, vp_nI, tI, fI, not_true, not_false_iff, true_and, and_true, Classical.not_not, mS_uI, mS_uA, mS_uJ, mS_uR, mS_uX, mR_uI, mR_uA, mR_uJ, mR_uX, mX_uI, mX_uA, mX_uJ, mX_uR, mI_s, mI_n, mI_A, mI_An, mI_uJ, mI_uR, mI_uX, mJ_uI, mJ_uA, mJ_uR, mJ_uX, onR_s, kC_v, kC_n, kC_t, mI_A, ldT_7, ldT_8, g1, e5]
theorem s_55 (hL : LdC μ f L) (ht : okTk f L t) (h1 : t.1 = 1) : Ev (d + 2) 55 [.ref 1030] (uA μ 1030 (ldT g L hs gs t tk er ea)) Q = Q (some (some (.int (nI (nmQ f t 6))))) (uA μ 1030 (ldT g L hs gs t tk er ea)) := by
  rw [in_55]
  simp (disch := first | omega | rfl) only [e_55_0, e_55_1, e_55_2, e_55_3, e_55_5, e_55_7, e_55_10, e_55_11, e_55_14, e_55_15, e_55_16, e_55_17, e_55_20, e_55_23, e_55_24, e_55_25, e_55_28, e_55_29, e_55_32, e_55_33, e_55_34, e_55_35, e_55_37, e_55_38, e_55_39, e_55_40, e_55_41, e_55_44, e_55_45, e_55_46, e_55_47, e_55_50, e_55_53, e_55_54, ge1, ule_t, true_or, or_true, nI_add, nI_mul, nI_sub, nI_clamp, nI_lt_t, nI_lt_f, nI_le_t, nI_le_f, nI_eq_t, nI_eq_f, vp_nI, tI, fI, not_true, not_false_iff, true_and, and_true, Classical.not_not]
  exact l_55 hL ht h1 6 0 (by omega) (by have := ht.2.1; omega)
end NameC


