/-! strings and builders, wherever they stand -/
theorem vj1 : ule (0, 0) (1, 2000) = True := ule_t rfl
theorem vj2 : ule (uad (0, 0) (1, 2000)) (1, 2000) = True := ule_t rfl
def SbG (μ : Mu) (lo b v cap n : Nat) : Prop := mS μ b = (1, 4) ∧ mR μ b 0 = some v ∧ v ≠ b ∧ lo ≤ b ∧ lo ≤ v ∧ 1000 ≤ lo ∧ b < mX μ ∧ v < mX μ ∧ mS μ v = (21, cap) ∧ 16 ≤ cap ∧ cap ≤ 2000 ∧ n ≤ cap ∧ mI μ b 1 = nI 0 ∧ mI μ b 3 = nI n
/-- what stood before lo stays -/
def FrG (lo : Nat) (μ μ' : Mu) : Prop := mX μ ≤ mX μ' ∧ ∀ a, a < lo → Sam μ μ' a
theorem FrG.refl {lo : Nat} {μ : Mu} : FrG lo μ μ := ⟨Nat.le_refl _, fun _ _ => Sam.refl⟩
theorem FrG.trans {lo : Nat} {μ μ1 μ2 : Mu} (h : FrG lo μ μ1) (h' : FrG lo μ1 μ2) : FrG lo μ μ2 := ⟨Nat.le_trans h.1 h'.1, fun a ha => (h.2 a ha).trans (h'.2 a ha)⟩
theorem FrG.le {lo hi : Nat} {μ μ1 : Mu} (h : FrG hi μ μ1) (hl : lo ≤ hi) : FrG lo μ μ1 := ⟨h.1, fun a ha => h.2 a (by omega)⟩
theorem FrG.uI {lo a k : Nat} {x : Int32} {μ μ1 : Mu} (h : FrG lo μ μ1) (ha : lo ≤ a) : FrG lo μ (uI μ1 a k x) := ⟨h.1, fun b hb => (h.2 b hb).uI (by omega)⟩
theorem FrG.uR {lo a k : Nat} {x : Option Nat} {μ μ1 : Mu} (h : FrG lo μ μ1) (ha : lo ≤ a) : FrG lo μ (uR μ1 a k x) := ⟨h.1, fun b hb => (h.2 b hb).uR (by omega)⟩
theorem FrG.uA {lo a : Nat} {f : Nat → Int32} {μ μ1 : Mu} (h : FrG lo μ μ1) (ha : lo ≤ a) : FrG lo μ (uA μ1 a f) := ⟨h.1, fun b hb => ⟨(h.2 b hb).1, fun k => (mI_An (by omega)).trans ((h.2 b hb).2.1 k), (h.2 b hb).2.2⟩⟩
theorem FrG.uN {lo k n : Nat} {μ μ1 : Mu} (h : FrG lo μ μ1) (ha : lo ≤ mX μ1) : FrG lo μ (uN μ1 k n) := ⟨Nat.le_trans h.1 (Nat.le_succ _), fun b hb => by
  obtain ⟨h1, h2, h3⟩ := h.2 b hb
  exact ⟨(mS_uN (by omega)).trans h1, fun k => (mI_uN (by omega)).trans (h2 k), fun k => (mR_uN (by omega)).trans (h3 k)⟩⟩
/-- only the builder's two things change -/
def FrV (b v : Nat) (μ μ' : Mu) : Prop := mX μ ≤ mX μ' ∧ ∀ a, a < mX μ → a ≠ b → a ≠ v → Sam μ μ' a
theorem FrV.g {b v lo : Nat} {μ μ' : Mu} (h : FrV b v μ μ') (h1 : lo ≤ b) (h2 : lo ≤ v) (h3 : b < mX μ) : FrG lo μ μ' := ⟨h.1, fun a ha => h.2 a (by omega) (by omega) (by omega)⟩
theorem FrV.refl {b v : Nat} {μ : Mu} : FrV b v μ μ := ⟨Nat.le_refl _, fun _ _ _ _ => Sam.refl⟩
theorem FrV.ii {b v k : Nat} {x : Int32} {μ μ1 : Mu} (h : FrV b v μ μ1) : FrV b v μ (uI μ1 b k x) := ⟨h.1, fun a h1 h2 h3 => (h.2 a h1 h2 h3).uI h2⟩
theorem FrV.iv {b v v' k : Nat} {x : Int32} {μ μ1 : Mu} (h : FrV b v μ μ1) (hv : v' = v ∨ mX μ ≤ v') : FrV b v μ (uI μ1 v' k x) := ⟨h.1, fun a h1 h2 h3 => (h.2 a h1 h2 h3).uI (by omega)⟩
theorem FrV.av {b v v' : Nat} {f : Nat → Int32} {μ μ1 : Mu} (h : FrV b v μ μ1) (hv : v' = v ∨ mX μ ≤ v') : FrV b v μ (uA μ1 v' f) := ⟨h.1, fun a h1 h2 h3 => ⟨(h.2 a h1 h2 h3).1, fun k => (mI_An (by omega)).trans ((h.2 a h1 h2 h3).2.1 k), (h.2 a h1 h2 h3).2.2⟩⟩
section Str
variable {d : Nat} {Q : Po} {μ μ' μ1 : Mu} {a b c n k i j t v w cap N x lo m : Nat} {y z : Int32} {l0 l1 l2 : Option Value}
theorem g_14 (h : SbG μ lo b v cap n) : Ev (d + 1) 14 [.ref b] μ Q = Q (some (some (.int (nI 1)))) μ := by
  obtain ⟨b1, b2, b3, b4, b5, b6, b7, b8, b9, b10, b11, b12, b13, b14⟩ := h
  rw [in_14]
  simp (disch := first | omega | rfl) only [e_14_0, e_14_3, e_14_6, e_14_7, e_14_10, e_14_13, e_14_14, e_14_17, e_14_18, ge1, ule_t, true_or, or_true, nI_add, nI_mul, nI_sub, nI_clamp, nI_lt_t, nI_lt_f, nI_le_t, nI_le_f, nI_eq_t, nI_eq_f, vp_nI, tI, fI, not_true, not_false_iff, true_and, and_true, Classical.not_not, mS_uI, mS_uA, mS_uJ, mS_uR, mS_uX, mR_uI, mR_uA, mR_uJ, mR_uX, mX_uI, mX_uA, mX_uJ, mX_uR, mI_s, mI_n, mI_A, mI_An, mI_uJ, mI_uR, mI_uX, mJ_uI, mJ_uA, mJ_uR, mJ_uX, onR_s, kC_v, kC_n, kC_t, b1, b13, oneZ]
theorem g_7 (h : SbG μ lo b v cap n) : Ev (d + 1) 7 [.ref b] μ Q = Q (some (some (.int (nI n)))) μ := by
  obtain ⟨b1, b2, b3, b4, b5, b6, b7, b8, b9, b10, b11, b12, b13, b14⟩ := h
  rw [in_7]
  simp (disch := first | omega | rfl) only [e_7_0, e_7_1, e_7_4, ge1, ule_t, true_or, or_true, nI_add, nI_mul, nI_sub, nI_clamp, nI_lt_t, nI_lt_f, nI_le_t, nI_le_f, nI_eq_t, nI_eq_f, vp_nI, tI, fI, not_true, not_false_iff, true_and, and_true, Classical.not_not, mS_uI, mS_uA, mS_uJ, mS_uR, mS_uX, mR_uI, mR_uA, mR_uJ, mR_uX, mX_uI, mX_uA, mX_uJ, mX_uR, mI_s, mI_n, mI_A, mI_An, mI_uJ, mI_uR, mI_uX, mJ_uI, mJ_uA, mJ_uR, mJ_uX, onR_s, kC_v, kC_n, kC_t, b1, b14]
theorem g_5 (h : SbG μ lo b v cap n) : Ev (d + 2) 5 [.ref b] μ Q = Q (some (some (.int (nI n)))) μ := by
  rw [in_5]
  simp (disch := first | omega | rfl) only [e_5_0, e_5_1, e_5_4, ge1, ule_t, true_or, or_true, nI_add, nI_mul, nI_sub, nI_clamp, nI_lt_t, nI_lt_f, nI_le_t, nI_le_f, nI_eq_t, nI_eq_f, vp_nI, tI, fI, not_true, not_false_iff, true_and, and_true, Classical.not_not, mS_uI, mS_uA, mS_uJ, mS_uR, mS_uX, mR_uI, mR_uA, mR_uJ, mR_uX, mX_uI, mX_uA, mX_uJ, mX_uR, mI_s, mI_n, mI_A, mI_An, mI_uJ, mI_uR, mI_uX, mJ_uI, mJ_uA, mJ_uR, mJ_uX, onR_s, kC_v, kC_n, kC_t, h.1, g_7 h]
theorem g_27 (ha : 0 < a) (h9 : a + b + c < 2147483640) : Ev (d + 1) 27 [.int (nI a), .int (nI b), .int (nI c)] μ Q = Q (some (some (.int (nI (a + (if b < c then c else b)))))) μ := by
  rw [in_27]
  by_cases h1 : b < c
  · rw [if_pos h1]
    simp (disch := first | omega | rfl) only [e_27_0, e_27_1, e_27_2, e_27_3, e_27_6, e_27_7, e_27_8, e_27_9, e_27_10, e_27_13, e_27_14, e_27_16, e_27_19, e_27_20, e_27_21, e_27_22, ge1, ule_t, true_or, or_true, nI_add, nI_mul, nI_sub, nI_clamp, nI_lt_t, nI_lt_f, nI_le_t, nI_le_f, nI_eq_t, nI_eq_f, vp_nI, tI, fI, not_true, not_false_iff, true_and, and_true, Classical.not_not, ite_true, ite_false, if_pos (show nI b < nI c from nI_lt h1 (by omega))]
  · rw [if_neg h1]
    simp (disch := first | omega | rfl) only [e_27_0, e_27_1, e_27_2, e_27_3, e_27_6, e_27_7, e_27_8, e_27_9, e_27_10, e_27_13, e_27_14, e_27_16, e_27_19, e_27_20, e_27_21, e_27_22, ge1, ule_t, true_or, or_true, nI_add, nI_mul, nI_sub, nI_clamp, nI_lt_t, nI_lt_f, nI_le_t, nI_le_f, nI_eq_t, nI_eq_f, vp_nI, tI, fI, not_true, not_false_iff, true_and, and_true, Classical.not_not, ite_true, ite_false, if_neg (show ¬ nI b < nI c from nI_nlt (by omega) (by omega))]
def gw (cap t : Nat) : Nat := cap + (if t - cap < cap + 2 then cap + 2 else t - cap)
theorem gw_le (h1 : cap < t) (h2 : t ≤ 999) : t ≤ gw cap t ∧ gw cap t ≤ 2000 ∧ cap < gw cap t := by
  unfold gw; split <;> omega
theorem g_9 (h : SbG μ lo b v cap n) (h1 : cap < t) (h2 : t ≤ 999) : Ev (d + 2) 9 [.ref b, .int (nI t)] μ Q = Q (some (some (.int (nI (gw cap t))))) μ := by
  obtain ⟨b1, b2, b3, b4, b5, b6, b7, b8, b9, b10, b11, b12, b13, b14⟩ := h
  have h27 := fun (d : Nat) (Q : Po) => g_27 (d := d) (Q := Q) (μ := μ) (a := cap) (b := t - cap) (c := cap + 2) (by omega) (by omega)
  have hg : (cap + if t - cap < cap + 2 then cap + 2 else t - cap) = gw cap t := rfl
  have hg2 := gw_le h1 h2
  rw [in_9]
  simp (disch := first | omega | rfl) only [e_9_0, e_9_1, e_9_4, e_9_5, e_9_6, e_9_7, e_9_8, e_9_11, e_9_12, e_9_13, e_9_14, e_9_15, e_9_16, e_9_18, e_9_19, e_9_21, e_9_22, e_9_23, e_9_24, e_9_27, e_9_28, e_9_29, e_9_32, e_9_34, e_9_36, e_9_38, e_9_51, e_9_53, e_9_54, e_9_57, e_9_58, ge1, ule_t, true_or, or_true, nI_add, nI_mul, nI_sub, nI_clamp, nI_lt_t, nI_lt_f, nI_le_t, nI_le_f, nI_eq_t, nI_eq_f, vp_nI, tI, fI, not_true, not_false_iff, true_and, and_true, Classical.not_not, mS_uI, mS_uA, mS_uJ, mS_uR, mS_uX, mR_uI, mR_uA, mR_uJ, mR_uX, mX_uI, mX_uA, mX_uJ, mX_uR, mI_s, mI_n, mI_A, mI_An, mI_uJ, mI_uR, mI_uX, mJ_uI, mJ_uA, mJ_uR, mJ_uX, onR_s, kC_v, kC_n, kC_t, b1, b2, b9, b13, ofI, nI_shl, nI_shr, Nat.pow_zero, Nat.mul_one, Nat.div_one, h27, hg, Nat.reduceLeDiff]
theorem g_26 (hS : mS μ v = (21, cap)) (hv : v < mX μ) (hv1 : 1000 ≤ v) (h1 : cap < N) (h2 : N ≤ 2000) : Ev (d + 1) 26 [.ref v, .int (nI N)] μ Q = Q (some (some (.ref (mX μ)))) (uA (uN μ 21 N) (mX μ) (va_cpy (mI (uN μ 21 N) v) (mI (uN μ 21 N) (mX μ)) 0 0 cap)) := by
  have hne : v ≠ mX μ := by omega
  have e1 : mS (uN μ 21 N) v = (21, cap) := (mS_uN hne).trans hS
  have e3 : ule (uad (0, 0) (1, N)) (1, 2000) = True := eq_true ⟨by show 0 + 1 ≤ 1; omega, by show 0 + N ≤ 2000; omega⟩
  rw [in_26]
  simp (disch := first | omega | rfl) only [e_26_0, e_26_1, e_26_2, e_26_3, e_26_6, e_26_7, e_26_10, e_26_13, e_26_14, e_26_15, e_26_17, e_26_18, e_26_19, e_26_20, e_26_21, e_26_22, e_26_23, e_26_24, e_26_25, e_26_28, e_26_31, e_26_32, ge1, ule_t, true_or, or_true, nI_add, nI_mul, nI_sub, nI_clamp, nI_lt_t, nI_lt_f, nI_le_t, nI_le_f, nI_eq_t, nI_eq_f, vp_nI, tI, fI, not_true, not_false_iff, true_and, and_true, Classical.not_not, mS_uI, mS_uA, mS_uJ, mS_uR, mS_uX, mR_uI, mR_uA, mR_uJ, mR_uX, mX_uI, mX_uA, mX_uJ, mX_uR, mI_s, mI_n, mI_A, mI_An, mI_uJ, mI_uR, mI_uX, mJ_uI, mJ_uA, mJ_uR, mJ_uX, onR_s, kC_v, kC_n, kC_t, hS, ofI, e1, mS_uNs, e3, if_pos (show nI cap < nI N from nI_lt h1 (by omega)), if_neg (show ¬ nI N < nI cap from nI_nlt (by omega) (by omega)), Nat.reduceLeDiff, ite_true, ite_false, show (N ≤ 60000000) = True from eq_true (by omega), show (0 + cap ≤ cap) = True from eq_true (by omega), show (0 + cap ≤ N) = True from eq_true (by omega)]
theorem g_8 (h : SbG μ lo b v cap n) (hk : n + k ≤ 999) (hq : ∀ μ' v' cap', FrV b v μ μ' → (v' = v ∨ mX μ ≤ v') → SbG μ' lo b v' cap' n → n + k ≤ cap' → (∀ j, j < n → mI μ' v' j = mI μ v j) → Q (some none) μ') : Ev (d + 3) 8 [.ref b, .int (nI (n + k))] μ Q := by
  have hB := h
  obtain ⟨b1, b2, b3, b4, b5, b6, b7, b8, b9, b10, b11, b12, b13, b14⟩ := h
  have hb : 1000 ≤ b := by omega
  rw [in_8]
  by_cases hc : n + k ≤ cap
  · simp (disch := first | omega | rfl) only [e_8_0, e_8_1, e_8_4, e_8_5, e_8_6, e_8_9, e_8_10, e_8_11, e_8_12, e_8_13, e_8_14, e_8_17, e_8_18, e_8_19, e_8_22, e_8_23, e_8_24, e_8_27, e_8_28, e_8_31, e_8_32, e_8_35, e_8_38, ge1, ule_t, true_or, or_true, nI_add, nI_mul, nI_sub, nI_clamp, nI_lt_t, nI_lt_f, nI_le_t, nI_le_f, nI_eq_t, nI_eq_f, vp_nI, tI, fI, not_true, not_false_iff, true_and, and_true, Classical.not_not, mS_uI, mS_uA, mS_uJ, mS_uR, mS_uX, mR_uI, mR_uA, mR_uJ, mR_uX, mX_uI, mX_uA, mX_uJ, mX_uR, mI_s, mI_n, mI_A, mI_An, mI_uJ, mI_uR, mI_uX, mJ_uI, mJ_uA, mJ_uR, mJ_uX, onR_s, kC_v, kC_n, kC_t, b1, b2, b9, b13, ofI, nI_shr, Nat.pow_zero, Nat.div_one, nI_sub0 hc, Nat.reduceLeDiff, vj1, vj2]
    exact hq μ v cap FrV.refl (Or.inl rfl) hB hc (fun _ _ => rfl)
  · obtain ⟨w1, w2, w3⟩ := gw_le (cap := cap) (t := n + k) (by omega) hk
    have h9 := fun (d : Nat) (Q : Po) => g_9 (d := d) (Q := Q) (t := n + k) hB (by omega) (by omega)
    have h26 := fun (d : Nat) (Q : Po) => g_26 (d := d) (Q := Q) (N := gw cap (n + k)) b9 b8 (by omega) (by omega) (by omega)
    have hbx : b ≠ mX μ := by omega
    simp (disch := first | omega | rfl) only [e_8_0, e_8_1, e_8_4, e_8_5, e_8_6, e_8_9, e_8_10, e_8_11, e_8_12, e_8_13, e_8_14, e_8_17, e_8_18, e_8_19, e_8_22, e_8_23, e_8_24, e_8_27, e_8_28, e_8_31, e_8_32, e_8_35, e_8_38, ge1, ule_t, true_or, or_true, nI_add, nI_mul, nI_sub, nI_clamp, nI_lt_t, nI_lt_f, nI_le_t, nI_le_f, nI_eq_t, nI_eq_f, vp_nI, tI, fI, not_true, not_false_iff, true_and, and_true, Classical.not_not, mS_uI, mS_uA, mS_uJ, mS_uR, mS_uX, mR_uI, mR_uA, mR_uJ, mR_uX, mX_uI, mX_uA, mX_uJ, mX_uR, mI_s, mI_n, mI_A, mI_An, mI_uJ, mI_uR, mI_uX, mJ_uI, mJ_uA, mJ_uR, mJ_uX, onR_s, kC_v, kC_n, kC_t, b1, b2, b9, b13, hb, hbx, ofI, nI_shr, nI_shl, Nat.pow_zero, Nat.div_one, Nat.mul_one, h9, h26, mS_uN, Nat.reduceLeDiff, vj1, vj2]
    refine hq _ (mX μ) (gw cap (n + k)) ⟨Nat.le_succ _, fun a h1 h2 h3 => ?_⟩ (Or.inr (Nat.le_refl _)) ⟨?_, mR_sR, by omega, b4, by omega, b6, ?_, ?_, ?_, by omega, by omega, by omega, ?_, ?_⟩ (by omega) (fun j hj => ?_)
    · have h8 : Sam μ (uN μ 21 (gw cap (n + k))) a := ⟨mS_uN (by omega), fun k => mI_uN (by omega), fun k => mR_uN (by omega)⟩
      exact Sam.uR ⟨h8.1, fun k => (mI_An (by omega)).trans (h8.2.1 k), h8.2.2⟩ h2
    · simp (disch := first | omega | rfl) only [mS_uI, mS_uA, mS_uJ, mS_uR, mS_uX, mR_uI, mR_uA, mR_uJ, mR_uX, mX_uI, mX_uA, mX_uJ, mX_uR, mI_s, mI_n, mI_A, mI_An, mI_uJ, mI_uR, mI_uX, mJ_uI, mJ_uA, mJ_uR, mJ_uX, onR_s, kC_v, kC_n, kC_t, mS_uN, b1]
    · show b < mX μ + 1; omega
    · show mX μ < mX μ + 1; omega
    · simp (disch := first | omega | rfl) only [mS_uI, mS_uA, mS_uJ, mS_uR, mS_uX, mR_uI, mR_uA, mR_uJ, mR_uX, mX_uI, mX_uA, mX_uJ, mX_uR, mI_s, mI_n, mI_A, mI_An, mI_uJ, mI_uR, mI_uX, mJ_uI, mJ_uA, mJ_uR, mJ_uX, onR_s, kC_v, kC_n, kC_t, mS_uNs]
    · simp (disch := first | omega | rfl) only [mS_uI, mS_uA, mS_uJ, mS_uR, mS_uX, mR_uI, mR_uA, mR_uJ, mR_uX, mX_uI, mX_uA, mX_uJ, mX_uR, mI_s, mI_n, mI_A, mI_An, mI_uJ, mI_uR, mI_uX, mJ_uI, mJ_uA, mJ_uR, mJ_uX, onR_s, kC_v, kC_n, kC_t, mI_uN, b13]
    · simp (disch := first | omega | rfl) only [mS_uI, mS_uA, mS_uJ, mS_uR, mS_uX, mR_uI, mR_uA, mR_uJ, mR_uX, mX_uI, mX_uA, mX_uJ, mX_uR, mI_s, mI_n, mI_A, mI_An, mI_uJ, mI_uR, mI_uX, mJ_uI, mJ_uA, mJ_uR, mJ_uX, onR_s, kC_v, kC_n, kC_t, mI_uN, b14]
    · simp (disch := first | omega | rfl) only [mS_uI, mS_uA, mS_uJ, mS_uR, mS_uX, mR_uI, mR_uA, mR_uJ, mR_uX, mX_uI, mX_uA, mX_uJ, mX_uR, mI_s, mI_n, mI_A, mI_An, mI_uJ, mI_uR, mI_uX, mJ_uI, mJ_uA, mJ_uR, mJ_uX, onR_s, kC_v, kC_n, kC_t, va_cpy]
      rw [if_pos (by omega), mI_uN (by omega)]
      congr 1
      omega
/-- a byte appended -/
theorem g_12 (h : SbG μ lo b v cap n) (hn : n < 999) (hc : c < 128) (hq : ∀ μ' v' cap', FrV b v μ μ' → SbG μ' lo b v' cap' (n + 1) → (∀ j, j < n → mI μ' v' j = mI μ v j) → mI μ' v' n = nI c → Q (some (some (.ref b))) μ') : Ev (d + 4) 12 [.ref b, .int (nI c)] μ Q := by
  have hB := h
  obtain ⟨b1, b2, b3, b4, b5, b6, b7, b8, b9, b10, b11, b12, b13, b14⟩ := h
  have hb : 1000 ≤ b := by omega
  rw [in_12]
  simp (disch := first | omega | rfl) only [e_12_0, e_12_1, e_12_2, e_12_5, e_12_6, e_12_7, e_12_10, e_12_11, e_12_14, e_12_17, e_12_18, e_12_21, e_12_24, e_12_25, e_12_28, e_12_29, e_12_30, e_12_33, e_12_34, e_12_35, e_12_36, e_12_39, e_12_40, e_12_41, e_12_42, e_12_45, e_12_46, e_12_49, e_12_52, e_12_56, e_12_57, e_12_60, e_12_61, e_12_62, e_12_65, e_12_66, e_12_67, e_12_68, e_12_71, e_12_75, e_12_76, ge1, ule_t, true_or, or_true, nI_add, nI_mul, nI_sub, nI_clamp, nI_lt_t, nI_lt_f, nI_le_t, nI_le_f, nI_eq_t, nI_eq_f, vp_nI, tI, fI, not_true, not_false_iff, true_and, and_true, Classical.not_not, mS_uI, mS_uA, mS_uJ, mS_uR, mS_uX, mR_uI, mR_uA, mR_uJ, mR_uX, mX_uI, mX_uA, mX_uJ, mX_uR, mI_s, mI_n, mI_A, mI_An, mI_uJ, mI_uR, mI_uX, mJ_uI, mJ_uA, mJ_uR, mJ_uX, onR_s, kC_v, kC_n, kC_t, vj1, vj2, b1, b14]
  refine g_8 (k := 1) hB (by omega) (fun μ1 v1 cap1 hf hvv hB1 hc1 hj => ?_)
  have hB2 := hB1
  obtain ⟨a1, a2, a3, a4, a5, a6, a7, a8, a9, a10, a11, a12, a13, a14⟩ := hB1
  have hv1 : 1000 ≤ v1 := by omega
  simp (disch := first | omega | rfl) only [e_12_0, e_12_1, e_12_2, e_12_5, e_12_6, e_12_7, e_12_10, e_12_11, e_12_14, e_12_17, e_12_18, e_12_21, e_12_24, e_12_25, e_12_28, e_12_29, e_12_30, e_12_33, e_12_34, e_12_35, e_12_36, e_12_39, e_12_40, e_12_41, e_12_42, e_12_45, e_12_46, e_12_49, e_12_52, e_12_56, e_12_57, e_12_60, e_12_61, e_12_62, e_12_65, e_12_66, e_12_67, e_12_68, e_12_71, e_12_75, e_12_76, ge1, ule_t, true_or, or_true, nI_add, nI_mul, nI_sub, nI_clamp, nI_lt_t, nI_lt_f, nI_le_t, nI_le_f, nI_eq_t, nI_eq_f, vp_nI, tI, fI, not_true, not_false_iff, true_and, and_true, Classical.not_not, mS_uI, mS_uA, mS_uJ, mS_uR, mS_uX, mR_uI, mR_uA, mR_uJ, mR_uX, mX_uI, mX_uA, mX_uJ, mX_uR, mI_s, mI_n, mI_A, mI_An, mI_uJ, mI_uR, mI_uX, mJ_uI, mJ_uA, mJ_uR, mJ_uX, onR_s, kC_v, kC_n, kC_t, vj1, vj2, kC_n, kC_v, a1, a2, a9, a14, hb, hv1, g_14 hB2, s_23, c8i]
  refine hq _ v1 cap1 (hf.ii.iv hvv) ⟨a1, a2, a3, a4, a5, a6, a7, a8, a9, a10, a11, by omega, ?_, ?_⟩ (fun j hj2 => ?_) ?_
  · simp (disch := first | omega | rfl) only [mI_n]; exact a13
  · simp (disch := first | omega | rfl) only [mI_n, mI_s]
  · simp (disch := first | omega | rfl) only [mI_n]; exact hj j hj2
  · simp (disch := first | omega | rfl) only [mI_n, mI_s]
theorem g_1 (h : SbG μ lo b v cap n) (hn : n < 999) (hc : c < 128) (hq : ∀ μ' v' cap', FrV b v μ μ' → SbG μ' lo b v' cap' (n + 1) → (∀ j, j < n → mI μ' v' j = mI μ v j) → mI μ' v' n = nI c → Q (some (some (.ref b))) μ') : Ev (d + 5) 1 [.ref b, .int (nI c)] μ Q := by
  rw [in_1]
  simp (disch := first | omega | rfl) only [e_1_0, e_1_1, e_1_2, e_1_5, e_1_6, e_1_7, ge1, ule_t, true_or, or_true, nI_add, nI_mul, nI_sub, nI_clamp, nI_lt_t, nI_lt_f, nI_le_t, nI_le_f, nI_eq_t, nI_eq_f, vp_nI, tI, fI, not_true, not_false_iff, true_and, and_true, Classical.not_not, mS_uI, mS_uA, mS_uJ, mS_uR, mS_uX, mR_uI, mR_uA, mR_uJ, mR_uX, mX_uI, mX_uA, mX_uJ, mX_uR, mI_s, mI_n, mI_A, mI_An, mI_uJ, mI_uR, mI_uX, mJ_uI, mJ_uA, mJ_uR, mJ_uX, onR_s, kC_v, kC_n, kC_t, vj1, vj2, h.1]
  refine g_12 h hn hc (fun μ1 v1 cap1 hf hB1 hj hl => ?_)
  simp (disch := first | omega | rfl) only [e_1_0, e_1_1, e_1_2, e_1_5, e_1_6, e_1_7, ge1, ule_t, true_or, or_true, nI_add, nI_mul, nI_sub, nI_clamp, nI_lt_t, nI_lt_f, nI_le_t, nI_le_f, nI_eq_t, nI_eq_f, vp_nI, tI, fI, not_true, not_false_iff, true_and, and_true, Classical.not_not, mS_uI, mS_uA, mS_uJ, mS_uR, mS_uX, mR_uI, mR_uA, mR_uJ, mR_uX, mX_uI, mX_uA, mX_uJ, mX_uR, mI_s, mI_n, mI_A, mI_An, mI_uJ, mI_uR, mI_uX, mJ_uI, mJ_uA, mJ_uR, mJ_uX, onR_s, kC_v, kC_n, kC_t, vj1, vj2, kC_v]
  exact hq μ1 v1 cap1 hf hB1 hj hl
theorem g_15 (hD : DgS μ) (hS : mS μ v = (21, cap)) (hv : 1000 ≤ v) (hx : x < 10000) (hN : fNd x ≤ N) (hc : N ≤ cap) (hc9 : cap ≤ 2000) (hq : ∀ F, (∀ j, j < N - fNd x → F j = mI μ v j) → (∀ j, j < fNd x → F (N - fNd x + j) = nI (fDg x j)) → Q (some (some (.int (nI (N - fNd x))))) (uA μ v F)) : Ev (d + 1) 15 [.int (nI x), .int (nI N), .ref v] μ Q := by
  obtain ⟨d1, d2, d3, d4⟩ := hD
  have hd := nd_all x hx
  rw [in_15]
  simp (disch := first | omega | rfl) only [e_15_0, e_15_1, e_15_3, e_15_4, e_15_7, e_15_8, e_15_11, e_15_12, e_15_14, e_15_16, e_15_19, e_15_20, e_15_21, e_15_23, e_15_25, e_15_28, e_15_29, e_15_31, e_15_32, e_15_33, e_15_34, e_15_36, e_15_37, e_15_38, e_15_39, e_15_41, e_15_42, e_15_43, e_15_44, e_15_47, e_15_49, e_15_52, e_15_54, e_15_55, e_15_56, e_15_57, e_15_60, e_15_62, e_15_65, e_15_67, e_15_68, e_15_69, e_15_72, e_15_73, e_15_76, e_15_78, e_15_81, e_15_82, e_15_83, e_15_84, e_15_85, e_15_86, e_15_88, e_15_91, e_15_92, e_15_95, e_15_97, e_15_100, e_15_101, e_15_102, e_15_103, e_15_104, e_15_106, e_15_109, e_15_110, e_15_113, e_15_115, e_15_117, e_15_118, e_15_120, ge1, ule_t, true_or, or_true, nI_add, nI_mul, nI_sub, nI_clamp, nI_lt_t, nI_lt_f, nI_le_t, nI_le_f, nI_eq_t, nI_eq_f, vp_nI, tI, fI, not_true, not_false_iff, true_and, and_true, Classical.not_not]
  rcases (by omega : x < 10 ∨ (10 ≤ x ∧ x < 100) ∨ (100 ≤ x ∧ x < 1000) ∨ 1000 ≤ x) with h | h | h | h
  · have e : fNd x = 1 := if_pos h
    rw [e] at hN hq
    rw [e_15_22]
    simp (disch := first | omega | rfl) only [e_15_0, e_15_1, e_15_3, e_15_4, e_15_7, e_15_8, e_15_11, e_15_12, e_15_14, e_15_16, e_15_19, e_15_20, e_15_21, e_15_23, e_15_25, e_15_28, e_15_29, e_15_31, e_15_32, e_15_33, e_15_34, e_15_36, e_15_37, e_15_38, e_15_39, e_15_41, e_15_42, e_15_43, e_15_44, e_15_47, e_15_49, e_15_52, e_15_54, e_15_55, e_15_56, e_15_57, e_15_60, e_15_62, e_15_65, e_15_67, e_15_68, e_15_69, e_15_72, e_15_73, e_15_76, e_15_78, e_15_81, e_15_82, e_15_83, e_15_84, e_15_85, e_15_86, e_15_88, e_15_91, e_15_92, e_15_95, e_15_97, e_15_100, e_15_101, e_15_102, e_15_103, e_15_104, e_15_106, e_15_109, e_15_110, e_15_113, e_15_115, e_15_117, e_15_118, e_15_120, ge1, ule_t, true_or, or_true, nI_add, nI_mul, nI_sub, nI_clamp, nI_lt_t, nI_lt_f, nI_le_t, nI_le_f, nI_eq_t, nI_eq_f, vp_nI, tI, fI, not_true, not_false_iff, true_and, and_true, Classical.not_not, mS_uI, mS_uA, mS_uJ, mS_uR, mS_uX, mR_uI, mR_uA, mR_uJ, mR_uX, mX_uI, mX_uA, mX_uJ, mX_uR, mI_s, mI_n, mI_A, mI_An, mI_uJ, mI_uR, mI_uX, mJ_uI, mJ_uA, mJ_uR, mJ_uX, onR_s, kC_v, kC_n, kC_t, k100, k9, nn_lt, nn_le, show (x < 100) = True from eq_true (by omega), show (x ≤ 9) = True from eq_true (by omega), Int32.neg_neg, nI_dec, hS, d2, d4, c8i, uI_A]
    refine hq _ (fun j hj => upd_n (by omega)) (fun j hj => ?_)
    obtain rfl : j = 0 := by omega
    unfold fDg
    rw [e, Nat.add_zero, upd_s]
    show nI (48 + x % 10) = nI (48 + x / 1 % 10)
    rw [Nat.div_one]
  · have e : fNd x = 2 := (if_neg (by omega)).trans (if_pos h.2)
    rw [e] at hN hq
    rw [e_15_22]
    simp (disch := first | omega | rfl) only [e_15_0, e_15_1, e_15_3, e_15_4, e_15_7, e_15_8, e_15_11, e_15_12, e_15_14, e_15_16, e_15_19, e_15_20, e_15_21, e_15_23, e_15_25, e_15_28, e_15_29, e_15_31, e_15_32, e_15_33, e_15_34, e_15_36, e_15_37, e_15_38, e_15_39, e_15_41, e_15_42, e_15_43, e_15_44, e_15_47, e_15_49, e_15_52, e_15_54, e_15_55, e_15_56, e_15_57, e_15_60, e_15_62, e_15_65, e_15_67, e_15_68, e_15_69, e_15_72, e_15_73, e_15_76, e_15_78, e_15_81, e_15_82, e_15_83, e_15_84, e_15_85, e_15_86, e_15_88, e_15_91, e_15_92, e_15_95, e_15_97, e_15_100, e_15_101, e_15_102, e_15_103, e_15_104, e_15_106, e_15_109, e_15_110, e_15_113, e_15_115, e_15_117, e_15_118, e_15_120, ge1, ule_t, true_or, or_true, nI_add, nI_mul, nI_sub, nI_clamp, nI_lt_t, nI_lt_f, nI_le_t, nI_le_f, nI_eq_t, nI_eq_f, vp_nI, tI, fI, not_true, not_false_iff, true_and, and_true, Classical.not_not, mS_uI, mS_uA, mS_uJ, mS_uR, mS_uX, mR_uI, mR_uA, mR_uJ, mR_uX, mX_uI, mX_uA, mX_uJ, mX_uR, mI_s, mI_n, mI_A, mI_An, mI_uJ, mI_uR, mI_uX, mJ_uI, mJ_uA, mJ_uR, mJ_uX, onR_s, kC_v, kC_n, kC_t, k100, k9, nn_lt, nn_le, show (x < 100) = True from eq_true (by omega), show (x ≤ 9) = False from eq_false (by omega), Int32.neg_neg, nI_dec, hS, d1, d2, d3, d4, c8i, uI_A, uA_A, mI_Af]
    have g0 : fDg x 0 = 48 + x / 10 := by unfold fDg; rw [e]; show 48 + x / 10 % 10 = _; omega
    have g1 : fDg x 1 = 48 + x % 10 := by unfold fDg; rw [e]; show 48 + x / 1 % 10 = _; omega
    rw [show N - 1 - 1 = N - 2 by omega]
    refine hq _ (fun j hj => ?_) (fun j hj => ?_)
    · rw [upd_n (by omega), upd_n (by omega)]
    · rcases (by omega : j = 0 ∨ j = 1) with rfl | rfl
      · rw [g0, Nat.add_zero, upd_s]
      · rw [g1, upd_n (by omega), show N - 2 + 1 = N - 1 by omega, upd_s]
  · have e : fNd x = 3 := (if_neg (by omega)).trans ((if_neg (by omega)).trans (if_pos h.2))
    rw [e] at hN hq
    rw [e_15_22]
    simp (disch := first | omega | rfl) only [e_15_0, e_15_1, e_15_3, e_15_4, e_15_7, e_15_8, e_15_11, e_15_12, e_15_14, e_15_16, e_15_19, e_15_20, e_15_21, e_15_23, e_15_25, e_15_28, e_15_29, e_15_31, e_15_32, e_15_33, e_15_34, e_15_36, e_15_37, e_15_38, e_15_39, e_15_41, e_15_42, e_15_43, e_15_44, e_15_47, e_15_49, e_15_52, e_15_54, e_15_55, e_15_56, e_15_57, e_15_60, e_15_62, e_15_65, e_15_67, e_15_68, e_15_69, e_15_72, e_15_73, e_15_76, e_15_78, e_15_81, e_15_82, e_15_83, e_15_84, e_15_85, e_15_86, e_15_88, e_15_91, e_15_92, e_15_95, e_15_97, e_15_100, e_15_101, e_15_102, e_15_103, e_15_104, e_15_106, e_15_109, e_15_110, e_15_113, e_15_115, e_15_117, e_15_118, e_15_120, ge1, ule_t, true_or, or_true, nI_add, nI_mul, nI_sub, nI_clamp, nI_lt_t, nI_lt_f, nI_le_t, nI_le_f, nI_eq_t, nI_eq_f, vp_nI, tI, fI, not_true, not_false_iff, true_and, and_true, Classical.not_not, mS_uI, mS_uA, mS_uJ, mS_uR, mS_uX, mR_uI, mR_uA, mR_uJ, mR_uX, mX_uI, mX_uA, mX_uJ, mX_uR, mI_s, mI_n, mI_A, mI_An, mI_uJ, mI_uR, mI_uX, mJ_uI, mJ_uA, mJ_uR, mJ_uX, onR_s, kC_v, kC_n, kC_t, k100, k9, nn_lt, nn_le, show (x < 100) = False from eq_false (by omega), Int32.neg_neg, hd.1, hd.2, nI_dec, hS, d1, d2, d3, d4, c8i, uI_A, uA_A, mI_Af]
    rw [e_15_22]
    simp (disch := first | omega | rfl) only [e_15_0, e_15_1, e_15_3, e_15_4, e_15_7, e_15_8, e_15_11, e_15_12, e_15_14, e_15_16, e_15_19, e_15_20, e_15_21, e_15_23, e_15_25, e_15_28, e_15_29, e_15_31, e_15_32, e_15_33, e_15_34, e_15_36, e_15_37, e_15_38, e_15_39, e_15_41, e_15_42, e_15_43, e_15_44, e_15_47, e_15_49, e_15_52, e_15_54, e_15_55, e_15_56, e_15_57, e_15_60, e_15_62, e_15_65, e_15_67, e_15_68, e_15_69, e_15_72, e_15_73, e_15_76, e_15_78, e_15_81, e_15_82, e_15_83, e_15_84, e_15_85, e_15_86, e_15_88, e_15_91, e_15_92, e_15_95, e_15_97, e_15_100, e_15_101, e_15_102, e_15_103, e_15_104, e_15_106, e_15_109, e_15_110, e_15_113, e_15_115, e_15_117, e_15_118, e_15_120, ge1, ule_t, true_or, or_true, nI_add, nI_mul, nI_sub, nI_clamp, nI_lt_t, nI_lt_f, nI_le_t, nI_le_f, nI_eq_t, nI_eq_f, vp_nI, tI, fI, not_true, not_false_iff, true_and, and_true, Classical.not_not, mS_uI, mS_uA, mS_uJ, mS_uR, mS_uX, mR_uI, mR_uA, mR_uJ, mR_uX, mX_uI, mX_uA, mX_uJ, mX_uR, mI_s, mI_n, mI_A, mI_An, mI_uJ, mI_uR, mI_uX, mJ_uI, mJ_uA, mJ_uR, mJ_uX, onR_s, kC_v, kC_n, kC_t, k100, k9, nn_lt, nn_le, show (x / 100 < 100) = True from eq_true (by omega), show (x / 100 ≤ 9) = True from eq_true (by omega), Int32.neg_neg, nI_dec, hS, d1, d2, d3, d4, c8i, uI_A, uA_A, mI_Af]
    have g0 : fDg x 0 = 48 + x / 100 % 10 := by unfold fDg; rw [e]
    have g1 : fDg x 1 = 48 + x % 100 / 10 := by unfold fDg; rw [e]; show 48 + x / 10 % 10 = _; omega
    have g2 : fDg x 2 = 48 + x % 100 % 10 := by unfold fDg; rw [e]; show 48 + x / 1 % 10 = _; omega
    rw [show N - 1 - 1 = N - 2 by omega, show N - 2 - 1 = N - 3 by omega]
    refine hq _ (fun j hj => ?_) (fun j hj => ?_)
    · rw [upd_n (by omega), upd_n (by omega), upd_n (by omega)]
    · rcases (by omega : j = 0 ∨ j = 1 ∨ j = 2) with rfl | rfl | rfl
      · rw [g0, Nat.add_zero, upd_s]
      · rw [g1, upd_n (by omega), show N - 3 + 1 = N - 2 by omega, upd_s]
      · rw [g2, upd_n (by omega), upd_n (by omega), show N - 3 + 2 = N - 1 by omega, upd_s]
  · have e : fNd x = 4 := (if_neg (by omega)).trans ((if_neg (by omega)).trans (if_neg (by omega)))
    rw [e] at hN hq
    rw [e_15_22]
    simp (disch := first | omega | rfl) only [e_15_0, e_15_1, e_15_3, e_15_4, e_15_7, e_15_8, e_15_11, e_15_12, e_15_14, e_15_16, e_15_19, e_15_20, e_15_21, e_15_23, e_15_25, e_15_28, e_15_29, e_15_31, e_15_32, e_15_33, e_15_34, e_15_36, e_15_37, e_15_38, e_15_39, e_15_41, e_15_42, e_15_43, e_15_44, e_15_47, e_15_49, e_15_52, e_15_54, e_15_55, e_15_56, e_15_57, e_15_60, e_15_62, e_15_65, e_15_67, e_15_68, e_15_69, e_15_72, e_15_73, e_15_76, e_15_78, e_15_81, e_15_82, e_15_83, e_15_84, e_15_85, e_15_86, e_15_88, e_15_91, e_15_92, e_15_95, e_15_97, e_15_100, e_15_101, e_15_102, e_15_103, e_15_104, e_15_106, e_15_109, e_15_110, e_15_113, e_15_115, e_15_117, e_15_118, e_15_120, ge1, ule_t, true_or, or_true, nI_add, nI_mul, nI_sub, nI_clamp, nI_lt_t, nI_lt_f, nI_le_t, nI_le_f, nI_eq_t, nI_eq_f, vp_nI, tI, fI, not_true, not_false_iff, true_and, and_true, Classical.not_not, mS_uI, mS_uA, mS_uJ, mS_uR, mS_uX, mR_uI, mR_uA, mR_uJ, mR_uX, mX_uI, mX_uA, mX_uJ, mX_uR, mI_s, mI_n, mI_A, mI_An, mI_uJ, mI_uR, mI_uX, mJ_uI, mJ_uA, mJ_uR, mJ_uX, onR_s, kC_v, kC_n, kC_t, k100, k9, nn_lt, nn_le, show (x < 100) = False from eq_false (by omega), Int32.neg_neg, hd.1, hd.2, nI_dec, hS, d1, d2, d3, d4, c8i, uI_A, uA_A, mI_Af]
    rw [e_15_22]
    simp (disch := first | omega | rfl) only [e_15_0, e_15_1, e_15_3, e_15_4, e_15_7, e_15_8, e_15_11, e_15_12, e_15_14, e_15_16, e_15_19, e_15_20, e_15_21, e_15_23, e_15_25, e_15_28, e_15_29, e_15_31, e_15_32, e_15_33, e_15_34, e_15_36, e_15_37, e_15_38, e_15_39, e_15_41, e_15_42, e_15_43, e_15_44, e_15_47, e_15_49, e_15_52, e_15_54, e_15_55, e_15_56, e_15_57, e_15_60, e_15_62, e_15_65, e_15_67, e_15_68, e_15_69, e_15_72, e_15_73, e_15_76, e_15_78, e_15_81, e_15_82, e_15_83, e_15_84, e_15_85, e_15_86, e_15_88, e_15_91, e_15_92, e_15_95, e_15_97, e_15_100, e_15_101, e_15_102, e_15_103, e_15_104, e_15_106, e_15_109, e_15_110, e_15_113, e_15_115, e_15_117, e_15_118, e_15_120, ge1, ule_t, true_or, or_true, nI_add, nI_mul, nI_sub, nI_clamp, nI_lt_t, nI_lt_f, nI_le_t, nI_le_f, nI_eq_t, nI_eq_f, vp_nI, tI, fI, not_true, not_false_iff, true_and, and_true, Classical.not_not, mS_uI, mS_uA, mS_uJ, mS_uR, mS_uX, mR_uI, mR_uA, mR_uJ, mR_uX, mX_uI, mX_uA, mX_uJ, mX_uR, mI_s, mI_n, mI_A, mI_An, mI_uJ, mI_uR, mI_uX, mJ_uI, mJ_uA, mJ_uR, mJ_uX, onR_s, kC_v, kC_n, kC_t, k100, k9, nn_lt, nn_le, show (x / 100 < 100) = True from eq_true (by omega), show (x / 100 ≤ 9) = False from eq_false (by omega), Int32.neg_neg, nI_dec, hS, d1, d2, d3, d4, c8i, uI_A, uA_A, mI_Af]
    have g0 : fDg x 0 = 48 + x / 100 / 10 := by unfold fDg; rw [e]; show 48 + x / 1000 % 10 = _; omega
    have g1 : fDg x 1 = 48 + x / 100 % 10 := by unfold fDg; rw [e]
    have g2 : fDg x 2 = 48 + x % 100 / 10 := by unfold fDg; rw [e]; show 48 + x / 10 % 10 = _; omega
    have g3 : fDg x 3 = 48 + x % 100 % 10 := by unfold fDg; rw [e]; show 48 + x / 1 % 10 = _; omega
    rw [show N - 1 - 1 = N - 2 by omega, show N - 2 - 1 = N - 3 by omega, show N - 3 - 1 = N - 4 by omega]
    refine hq _ (fun j hj => ?_) (fun j hj => ?_)
    · rw [upd_n (by omega), upd_n (by omega), upd_n (by omega), upd_n (by omega)]
    · rcases (by omega : j = 0 ∨ j = 1 ∨ j = 2 ∨ j = 3) with rfl | rfl | rfl | rfl
      · rw [g0, Nat.add_zero, upd_s]
      · rw [g1, upd_n (by omega), show N - 4 + 1 = N - 3 by omega, upd_s]
      · rw [g2, upd_n (by omega), upd_n (by omega), show N - 4 + 2 = N - 2 by omega, upd_s]
      · rw [g3, upd_n (by omega), upd_n (by omega), upd_n (by omega), show N - 4 + 3 = N - 1 by omega, upd_s]
theorem DgS.g {lo : Nat} (h : DgS μ) (hf : FrG lo μ μ') (hl : 1000 ≤ lo) : DgS μ' := by
  obtain ⟨a1, a2, -⟩ := hf.2 200 (by omega)
  obtain ⟨b1, b2, -⟩ := hf.2 201 (by omega)
  exact ⟨a1.trans h.1, b1.trans h.2.1, fun k hk => (a2 k).trans (h.2.2.1 k hk), fun k hk => (b2 k).trans (h.2.2.2 k hk)⟩
theorem fNd_le4 : fNd x ≤ 4 := by
  unfold fNd
  split
  · omega
  · split
    · omega
    · split <;> omega
/-- a number appended -/
theorem g_13 (h : SbG μ lo b v cap n) (hD : DgS μ) (hx : x < 10000) (hn : n + 4 ≤ 999) (hq : ∀ μ' v' cap', FrV b v μ μ' → SbG μ' lo b v' cap' (n + fNd x) → (∀ j, j < n → mI μ' v' j = mI μ v j) → (∀ j, j < fNd x → mI μ' v' (n + j) = nI (fDg x j)) → Q (some (some (.ref b))) μ') : Ev (d + 4) 13 [.ref b, .int (nI x)] μ Q := by
  have hB := h
  have h4 := fNd_le4 (x := x)
  obtain ⟨b1, b2, b3, b4, b5, b6, b7, b8, b9, b10, b11, b12, b13, b14⟩ := h
  have hb : 1000 ≤ b := by omega
  rw [in_13]
  simp (disch := first | omega | rfl) only [e_13_0, e_13_1, e_13_4, e_13_5, e_13_6, e_13_7, e_13_10, e_13_11, e_13_12, e_13_13, e_13_14, e_13_17, e_13_18, e_13_21, e_13_24, e_13_25, e_13_26, e_13_27, e_13_30, e_13_33, e_13_34, e_13_37, e_13_38, e_13_39, e_13_40, e_13_41, e_13_48, e_13_49, e_13_50, e_13_53, e_13_54, ge1, ule_t, true_or, or_true, nI_add, nI_mul, nI_sub, nI_clamp, nI_lt_t, nI_lt_f, nI_le_t, nI_le_f, nI_eq_t, nI_eq_f, vp_nI, tI, fI, not_true, not_false_iff, true_and, and_true, Classical.not_not, mS_uI, mS_uA, mS_uJ, mS_uR, mS_uX, mR_uI, mR_uA, mR_uJ, mR_uX, mX_uI, mX_uA, mX_uJ, mX_uR, mI_s, mI_n, mI_A, mI_An, mI_uJ, mI_uR, mI_uX, mJ_uI, mJ_uA, mJ_uR, mJ_uX, onR_s, kC_v, kC_n, kC_t, vj1, vj2, b1, b14, s_16 hx]
  refine g_8 (k := fNd x) hB (by omega) (fun μ1 v1 cap1 hf hvv hB1 hc1 hj => ?_)
  have hB2 := hB1
  obtain ⟨a1, a2, a3, a4, a5, a6, a7, a8, a9, a10, a11, a12, a13, a14⟩ := hB1
  simp (disch := first | omega | rfl) only [e_13_0, e_13_1, e_13_4, e_13_5, e_13_6, e_13_7, e_13_10, e_13_11, e_13_12, e_13_13, e_13_14, e_13_17, e_13_18, e_13_21, e_13_24, e_13_25, e_13_26, e_13_27, e_13_30, e_13_33, e_13_34, e_13_37, e_13_38, e_13_39, e_13_40, e_13_41, e_13_48, e_13_49, e_13_50, e_13_53, e_13_54, ge1, ule_t, true_or, or_true, nI_add, nI_mul, nI_sub, nI_clamp, nI_lt_t, nI_lt_f, nI_le_t, nI_le_f, nI_eq_t, nI_eq_f, vp_nI, tI, fI, not_true, not_false_iff, true_and, and_true, Classical.not_not, mS_uI, mS_uA, mS_uJ, mS_uR, mS_uX, mR_uI, mR_uA, mR_uJ, mR_uX, mX_uI, mX_uA, mX_uJ, mX_uR, mI_s, mI_n, mI_A, mI_An, mI_uJ, mI_uR, mI_uX, mJ_uI, mJ_uA, mJ_uR, mJ_uX, onR_s, kC_v, kC_n, kC_t, vj1, vj2, kC_n, kC_v, a1, a2, g_14 hB2]
  refine g_15 (hD.g (hf.g b4 b5 b7) b6) a9 (by omega) hx (by omega) hc1 a11 (fun F h1 h2 => ?_)
  simp (disch := first | omega | rfl) only [e_13_0, e_13_1, e_13_4, e_13_5, e_13_6, e_13_7, e_13_10, e_13_11, e_13_12, e_13_13, e_13_14, e_13_17, e_13_18, e_13_21, e_13_24, e_13_25, e_13_26, e_13_27, e_13_30, e_13_33, e_13_34, e_13_37, e_13_38, e_13_39, e_13_40, e_13_41, e_13_48, e_13_49, e_13_50, e_13_53, e_13_54, ge1, ule_t, true_or, or_true, nI_add, nI_mul, nI_sub, nI_clamp, nI_lt_t, nI_lt_f, nI_le_t, nI_le_f, nI_eq_t, nI_eq_f, vp_nI, tI, fI, not_true, not_false_iff, true_and, and_true, Classical.not_not, mS_uI, mS_uA, mS_uJ, mS_uR, mS_uX, mR_uI, mR_uA, mR_uJ, mR_uX, mX_uI, mX_uA, mX_uJ, mX_uR, mI_s, mI_n, mI_A, mI_An, mI_uJ, mI_uR, mI_uX, mJ_uI, mJ_uA, mJ_uR, mJ_uX, onR_s, kC_v, kC_n, kC_t, vj1, vj2, kC_n, kC_v, a1, hb]
  refine hq _ v1 cap1 ((hf.av hvv).ii) ⟨a1, a2, a3, a4, a5, a6, a7, a8, a9, a10, a11, hc1, ?_, ?_⟩ (fun j hj2 => ?_) (fun j hj2 => ?_)
  · simp (disch := first | omega | rfl) only [mI_n, mI_An]; exact a13
  · simp (disch := first | omega | rfl) only [mI_s]
  · rw [mI_n (by omega), mI_A, h1 j (by omega)]; exact hj j hj2
  · rw [mI_n (by omega), mI_A]
    have := h2 j hj2
    rw [show n + fNd x - fNd x + j = n + j by omega] at this
    exact this
theorem g_2 (h : SbG μ lo b v cap n) (hD : DgS μ) (hx : x < 10000) (hn : n + 4 ≤ 999) (hq : ∀ μ' v' cap', FrV b v μ μ' → SbG μ' lo b v' cap' (n + fNd x) → (∀ j, j < n → mI μ' v' j = mI μ v j) → (∀ j, j < fNd x → mI μ' v' (n + j) = nI (fDg x j)) → Q (some (some (.ref b))) μ') : Ev (d + 5) 2 [.ref b, .int (nI x)] μ Q := by
  rw [in_2]
  simp (disch := first | omega | rfl) only [e_2_0, e_2_1, e_2_2, e_2_5, e_2_6, e_2_7, ge1, ule_t, true_or, or_true, nI_add, nI_mul, nI_sub, nI_clamp, nI_lt_t, nI_lt_f, nI_le_t, nI_le_f, nI_eq_t, nI_eq_f, vp_nI, tI, fI, not_true, not_false_iff, true_and, and_true, Classical.not_not, mS_uI, mS_uA, mS_uJ, mS_uR, mS_uX, mR_uI, mR_uA, mR_uJ, mR_uX, mX_uI, mX_uA, mX_uJ, mX_uR, mI_s, mI_n, mI_A, mI_An, mI_uJ, mI_uR, mI_uX, mJ_uI, mJ_uA, mJ_uR, mJ_uX, onR_s, kC_v, kC_n, kC_t, vj1, vj2, h.1]
  refine g_13 h hD hx hn (fun μ1 v1 cap1 hf hB1 hj hl => ?_)
  simp (disch := first | omega | rfl) only [e_2_0, e_2_1, e_2_2, e_2_5, e_2_6, e_2_7, ge1, ule_t, true_or, or_true, nI_add, nI_mul, nI_sub, nI_clamp, nI_lt_t, nI_lt_f, nI_le_t, nI_le_f, nI_eq_t, nI_eq_f, vp_nI, tI, fI, not_true, not_false_iff, true_and, and_true, Classical.not_not, mS_uI, mS_uA, mS_uJ, mS_uR, mS_uX, mR_uI, mR_uA, mR_uJ, mR_uX, mX_uI, mX_uA, mX_uJ, mX_uR, mI_s, mI_n, mI_A, mI_An, mI_uJ, mI_uR, mI_uX, mJ_uI, mJ_uA, mJ_uR, mJ_uX, onR_s, kC_v, kC_n, kC_t, vj1, vj2, kC_v]
  exact hq μ1 v1 cap1 hf hB1 hj hl
/-- a string appended -/
theorem g_20 (hT : TxS μ a w m) : Ev (d + 1) 20 [.ref a] μ Q = Q (some (some (.int (nI 0)))) μ := by
  obtain ⟨t1, t2, t3, t4⟩ := hT
  rw [in_20]
  simp (disch := first | omega | rfl) only [e_20_0, e_20_3, e_20_6, e_20_7, e_20_10, e_20_13, e_20_14, ge1, ule_t, true_or, or_true, nI_add, nI_mul, nI_sub, nI_clamp, nI_lt_t, nI_lt_f, nI_le_t, nI_le_f, nI_eq_t, nI_eq_f, vp_nI, tI, fI, not_true, not_false_iff, true_and, and_true, Classical.not_not, mS_uI, mS_uA, mS_uJ, mS_uR, mS_uX, mR_uI, mR_uA, mR_uJ, mR_uX, mX_uI, mX_uA, mX_uJ, mX_uR, mI_s, mI_n, mI_A, mI_An, mI_uJ, mI_uR, mI_uX, mJ_uI, mJ_uA, mJ_uR, mJ_uX, onR_s, kC_v, kC_n, kC_t, t1, t3, oneZ, c8i]
theorem g_163 (h : SbG μ lo b v cap n) (hT : TxS μ a w m) : Ev (d + 2) 163 [.ref b, .ref a] μ Q = Q (some none) μ := by
  obtain ⟨b1, b2, b3, b4, b5, b6, b7, b8, b9, b10, b11, b12, b13, b14⟩ := h
  rw [in_163]
  simp (disch := first | omega | rfl) only [e_163_0, e_163_3, e_163_6, e_163_7, e_163_10, e_163_11, e_163_14, e_163_17, e_163_21, ge1, ule_t, true_or, or_true, nI_add, nI_mul, nI_sub, nI_clamp, nI_lt_t, nI_lt_f, nI_le_t, nI_le_f, nI_eq_t, nI_eq_f, vp_nI, tI, fI, not_true, not_false_iff, true_and, and_true, Classical.not_not, mS_uI, mS_uA, mS_uJ, mS_uR, mS_uX, mR_uI, mR_uA, mR_uJ, mR_uX, mX_uI, mX_uA, mX_uJ, mX_uR, mI_s, mI_n, mI_A, mI_An, mI_uJ, mI_uR, mI_uX, mJ_uI, mJ_uA, mJ_uR, mJ_uX, onR_s, kC_v, kC_n, kC_t, b1, b13, hT.1, g_20 hT, oneZ]
theorem g_164 (hT : TxS μ a w m) (hby : ∀ i, i < m → (mI μ w i).toInt8.toInt32 = mI μ w i) (hv : mS μ v = (21, cap)) (hv1 : 1000 ≤ v) (hc : n + m ≤ cap) (hc9 : cap ≤ 2000) : Ev (d + 2) 164 [.ref a, .ref v, .int (nI n), .int (nI 0)] μ Q = Q (some none) (uA μ v (va_cpy (mI μ w) (mI μ v) 0 n m)) := by
  have hT0 := hT
  obtain ⟨t1, t2, t3, t4⟩ := hT
  have e1 : (∀ i, i < m → (mI μ w i).toInt8.toInt32 = mI μ w i) = True := eq_true hby
  rw [in_164]
  simp (disch := first | omega | rfl) only [e_164_0, e_164_1, e_164_4, e_164_5, e_164_8, e_164_9, e_164_12, e_164_13, e_164_14, e_164_15, e_164_16, e_164_17, e_164_18, e_164_21, e_164_22, e_164_25, e_164_28, e_164_29, e_164_32, e_164_33, e_164_34, e_164_35, e_164_36, e_164_39, e_164_43, ge1, ule_t, true_or, or_true, nI_add, nI_mul, nI_sub, nI_clamp, nI_lt_t, nI_lt_f, nI_le_t, nI_le_f, nI_eq_t, nI_eq_f, vp_nI, tI, fI, not_true, not_false_iff, true_and, and_true, Classical.not_not, mS_uI, mS_uA, mS_uJ, mS_uR, mS_uX, mR_uI, mR_uA, mR_uJ, mR_uX, mX_uI, mX_uA, mX_uJ, mX_uR, mI_s, mI_n, mI_A, mI_An, mI_uJ, mI_uR, mI_uX, mJ_uI, mJ_uA, mJ_uR, mJ_uX, onR_s, kC_v, kC_n, kC_t, t1, t2, t4, hv, hv1, g_20 hT0, ofI, nI_shl, Nat.pow_zero, Nat.mul_one, e1, Nat.reduceLeDiff, show (0 + m ≤ m) = True from eq_true (by omega), show (n + m ≤ cap) = True from eq_true hc]
theorem g_162 (h : SbG μ lo b v cap n) (hT : TxS μ a w m) (hby : ∀ i, i < m → (mI μ w i).toInt8.toInt32 = mI μ w i) (hc : n + m ≤ cap) : Ev (d + 3) 162 [.ref b, .int (nI n), .ref a] μ Q = Q (some none) (uA μ v (va_cpy (mI μ w) (mI μ v) 0 n m)) := by
  have hB := h
  obtain ⟨b1, b2, b3, b4, b5, b6, b7, b8, b9, b10, b11, b12, b13, b14⟩ := h
  have h163 := fun (d : Nat) (Q : Po) => g_163 (d := d) (Q := Q) hB hT
  have h164 := fun (d : Nat) (Q : Po) => g_164 (d := d) (Q := Q) hT hby b9 (by omega) hc b11
  rw [in_162]
  simp (disch := first | omega | rfl) only [e_162_0, e_162_1, e_162_2, e_162_5, e_162_6, e_162_7, e_162_10, e_162_11, e_162_12, e_162_15, e_162_18, ge1, ule_t, true_or, or_true, nI_add, nI_mul, nI_sub, nI_clamp, nI_lt_t, nI_lt_f, nI_le_t, nI_le_f, nI_eq_t, nI_eq_f, vp_nI, tI, fI, not_true, not_false_iff, true_and, and_true, Classical.not_not, mS_uI, mS_uA, mS_uJ, mS_uR, mS_uX, mR_uI, mR_uA, mR_uJ, mR_uX, mX_uI, mX_uA, mX_uJ, mX_uR, mI_s, mI_n, mI_A, mI_An, mI_uJ, mI_uR, mI_uX, mJ_uI, mJ_uA, mJ_uR, mJ_uX, onR_s, kC_v, kC_n, kC_t, b1, b2, b13, hT.1, h163, h164]
theorem g_161 (h : SbG μ lo b v cap n) (hT : TxS μ a w m) (ha : a < mX μ ∧ a ≠ b ∧ a ≠ v) (hw : w < mX μ ∧ w ≠ b ∧ w ≠ v) (hby : ∀ i, i < m → (mI μ w i).toInt8.toInt32 = mI μ w i) (hn : n + m ≤ 999) (hq : ∀ μ' v' cap', FrV b v μ μ' → SbG μ' lo b v' cap' (n + m) → (∀ j, j < n → mI μ' v' j = mI μ v j) → (∀ j, j < m → mI μ' v' (n + j) = mI μ w j) → Q (some (some (.ref b))) μ') : Ev (d + 4) 161 [.ref b, .ref a] μ Q := by
  have hB := h
  obtain ⟨b1, b2, b3, b4, b5, b6, b7, b8, b9, b10, b11, b12, b13, b14⟩ := h
  have hb : 1000 ≤ b := by omega
  have h18 := fun (d : Nat) (Q : Po) => s_18 (d := d) (Q := Q) hT (by omega)
  rw [in_161]
  simp (disch := first | omega | rfl) only [e_161_0, e_161_1, e_161_9, e_161_10, e_161_13, e_161_14, e_161_15, e_161_16, e_161_19, e_161_20, e_161_21, e_161_24, e_161_25, e_161_26, e_161_29, e_161_30, e_161_33, e_161_34, e_161_35, e_161_38, e_161_39, e_161_40, e_161_43, e_161_44, ge1, ule_t, true_or, or_true, nI_add, nI_mul, nI_sub, nI_clamp, nI_lt_t, nI_lt_f, nI_le_t, nI_le_f, nI_eq_t, nI_eq_f, vp_nI, tI, fI, not_true, not_false_iff, true_and, and_true, Classical.not_not, mS_uI, mS_uA, mS_uJ, mS_uR, mS_uX, mR_uI, mR_uA, mR_uJ, mR_uX, mX_uI, mX_uA, mX_uJ, mX_uR, mI_s, mI_n, mI_A, mI_An, mI_uJ, mI_uR, mI_uX, mJ_uI, mJ_uA, mJ_uR, mJ_uX, onR_s, kC_v, kC_n, kC_t, vj1, vj2, b1, b14, hT.1, h18]
  refine g_8 (k := m) hB (by omega) (fun μ1 v1 cap1 hf hvv hB1 hc1 hj => ?_)
  have hB2 := hB1
  obtain ⟨a1, a2, a3, a4, a5, a6, a7, a8, a9, a10, a11, a12, a13, a14⟩ := hB1
  obtain ⟨t1, t2, t3, t4⟩ := hT
  obtain ⟨f1, f2, f3⟩ := hf.2 a ha.1 ha.2.1 ha.2.2
  obtain ⟨g1, g2, g3⟩ := hf.2 w hw.1 hw.2.1 hw.2.2
  have hT1 : TxS μ1 a w m := ⟨f1.trans t1, (f3 0).trans t2, (f2 1).trans t3, g1.trans t4⟩
  have h162 := fun (d : Nat) (Q : Po) => g_162 (d := d) (Q := Q) hB2 hT1 (fun i hi => by rw [g2]; exact hby i hi) hc1
  simp (disch := first | omega | rfl) only [e_161_0, e_161_1, e_161_9, e_161_10, e_161_13, e_161_14, e_161_15, e_161_16, e_161_19, e_161_20, e_161_21, e_161_24, e_161_25, e_161_26, e_161_29, e_161_30, e_161_33, e_161_34, e_161_35, e_161_38, e_161_39, e_161_40, e_161_43, e_161_44, ge1, ule_t, true_or, or_true, nI_add, nI_mul, nI_sub, nI_clamp, nI_lt_t, nI_lt_f, nI_le_t, nI_le_f, nI_eq_t, nI_eq_f, vp_nI, tI, fI, not_true, not_false_iff, true_and, and_true, Classical.not_not, mS_uI, mS_uA, mS_uJ, mS_uR, mS_uX, mR_uI, mR_uA, mR_uJ, mR_uX, mX_uI, mX_uA, mX_uJ, mX_uR, mI_s, mI_n, mI_A, mI_An, mI_uJ, mI_uR, mI_uX, mJ_uI, mJ_uA, mJ_uR, mJ_uX, onR_s, kC_v, kC_n, kC_t, vj1, vj2, kC_n, kC_v, a1, a14, hb, h162]
  refine hq _ v1 cap1 ((hf.av hvv).ii) ⟨a1, a2, a3, a4, a5, a6, a7, a8, a9, a10, a11, hc1, ?_, ?_⟩ (fun j hj2 => ?_) (fun j hj2 => ?_)
  · simp (disch := first | omega | rfl) only [mI_n, mI_An]; exact a13
  · simp (disch := first | omega | rfl) only [mI_s]
  · rw [mI_n (by omega), mI_A]
    unfold va_cpy
    rw [if_neg (by omega)]
    exact hj j hj2
  · rw [mI_n (by omega), mI_A]
    unfold va_cpy
    rw [if_pos (by omega), g2]
    congr 1
    omega
theorem g_160 (h : SbG μ lo b v cap n) (hT : TxS μ a w m) (ha : a < mX μ ∧ a ≠ b ∧ a ≠ v) (hw : w < mX μ ∧ w ≠ b ∧ w ≠ v) (hby : ∀ i, i < m → (mI μ w i).toInt8.toInt32 = mI μ w i) (hn : n + m ≤ 999) (hq : ∀ μ' v' cap', FrV b v μ μ' → SbG μ' lo b v' cap' (n + m) → (∀ j, j < n → mI μ' v' j = mI μ v j) → (∀ j, j < m → mI μ' v' (n + j) = mI μ w j) → Q (some (some (.ref b))) μ') : Ev (d + 5) 160 [.ref b, .ref a] μ Q := by
  rw [in_160]
  simp (disch := first | omega | rfl) only [e_160_0, e_160_1, e_160_2, e_160_5, e_160_6, e_160_7, ge1, ule_t, true_or, or_true, nI_add, nI_mul, nI_sub, nI_clamp, nI_lt_t, nI_lt_f, nI_le_t, nI_le_f, nI_eq_t, nI_eq_f, vp_nI, tI, fI, not_true, not_false_iff, true_and, and_true, Classical.not_not, mS_uI, mS_uA, mS_uJ, mS_uR, mS_uX, mR_uI, mR_uA, mR_uJ, mR_uX, mX_uI, mX_uA, mX_uJ, mX_uR, mI_s, mI_n, mI_A, mI_An, mI_uJ, mI_uR, mI_uX, mJ_uI, mJ_uA, mJ_uR, mJ_uX, onR_s, kC_v, kC_n, kC_t, vj1, vj2, h.1]
  refine g_161 h hT ha hw hby hn (fun μ1 v1 cap1 hf hB1 hj hl => ?_)
  simp (disch := first | omega | rfl) only [e_160_0, e_160_1, e_160_2, e_160_5, e_160_6, e_160_7, ge1, ule_t, true_or, or_true, nI_add, nI_mul, nI_sub, nI_clamp, nI_lt_t, nI_lt_f, nI_le_t, nI_le_f, nI_eq_t, nI_eq_f, vp_nI, tI, fI, not_true, not_false_iff, true_and, and_true, Classical.not_not, mS_uI, mS_uA, mS_uJ, mS_uR, mS_uX, mR_uI, mR_uA, mR_uJ, mR_uX, mX_uI, mX_uA, mX_uJ, mX_uR, mI_s, mI_n, mI_A, mI_An, mI_uJ, mI_uR, mI_uX, mJ_uI, mJ_uA, mJ_uR, mJ_uX, onR_s, kC_v, kC_n, kC_t, vj1, vj2, kC_v]
  exact hq μ1 v1 cap1 hf hB1 hj hl
/-- the string of a builder -/
theorem g_168 (h : SbG μ lo b v cap n) : Ev (d + 1) 168 [.ref b] μ Q = Q (some (some (.ref v))) μ := by
  obtain ⟨b1, b2, b3, b4, b5, b6, b7, b8, b9, b10, b11, b12, b13, b14⟩ := h
  rw [in_168]
  simp (disch := first | omega | rfl) only [e_168_0, e_168_1, e_168_4, ge1, ule_t, true_or, or_true, nI_add, nI_mul, nI_sub, nI_clamp, nI_lt_t, nI_lt_f, nI_le_t, nI_le_f, nI_eq_t, nI_eq_f, vp_nI, tI, fI, not_true, not_false_iff, true_and, and_true, Classical.not_not, mS_uI, mS_uA, mS_uJ, mS_uR, mS_uX, mR_uI, mR_uA, mR_uJ, mR_uX, mX_uI, mX_uA, mX_uJ, mX_uR, mI_s, mI_n, mI_A, mI_An, mI_uJ, mI_uR, mI_uX, mJ_uI, mJ_uA, mJ_uR, mJ_uX, onR_s, kC_v, kC_n, kC_t, b1, b2]
theorem g_171 (h : a ≤ b) (hb : b < 2147483648) : Ev (d + 1) 171 [.int (nI a), .int (nI b)] μ Q = Q (some none) μ := by
  rw [in_171]
  simp (disch := first | omega | rfl) only [e_171_0, e_171_1, e_171_2, e_171_37, ge1, ule_t, true_or, or_true, nI_add, nI_mul, nI_sub, nI_clamp, nI_lt_t, nI_lt_f, nI_le_t, nI_le_f, nI_eq_t, nI_eq_f, vp_nI, tI, fI, not_true, not_false_iff, true_and, and_true, Classical.not_not]
theorem g_170 (hS : mS μ v = (21, cap)) (hv : v < mX μ) (hv1 : 1000 ≤ v) (h1 : n < cap) (h2 : cap ≤ 2000) : Ev (d + 2) 170 [.ref v, .int (nI 0), .int (nI n)] μ Q = Q (some (some (.ref (mX μ)))) (uA (uN μ 21 n) (mX μ) (va_cpy (mI (uN μ 21 n) v) (mI (uN μ 21 n) (mX μ)) 0 0 n)) := by
  have hne : v ≠ mX μ := by omega
  have e1 : mS (uN μ 21 n) v = (21, cap) := (mS_uN hne).trans hS
  have e3 : ule (uad (0, 0) (1, n)) (1, 2000) = True := eq_true ⟨by show 0 + 1 ≤ 1; omega, by show 0 + n ≤ 2000; omega⟩
  have h171 := fun (d : Nat) (Q : Po) => g_171 (d := d) (Q := Q) (μ := μ) (a := 0) (b := n) (by omega) (by omega)
  rw [in_170]
  simp (disch := first | omega | rfl) only [e_170_0, e_170_1, e_170_2, e_170_5, e_170_6, e_170_7, e_170_8, e_170_9, e_170_10, e_170_12, e_170_14, e_170_15, e_170_16, e_170_18, e_170_19, e_170_20, e_170_21, e_170_22, e_170_23, e_170_24, e_170_27, e_170_30, e_170_32, ge1, ule_t, true_or, or_true, nI_add, nI_mul, nI_sub, nI_clamp, nI_lt_t, nI_lt_f, nI_le_t, nI_le_f, nI_eq_t, nI_eq_f, vp_nI, tI, fI, not_true, not_false_iff, true_and, and_true, Classical.not_not, mS_uI, mS_uA, mS_uJ, mS_uR, mS_uX, mR_uI, mR_uA, mR_uJ, mR_uX, mX_uI, mX_uA, mX_uJ, mX_uR, mI_s, mI_n, mI_A, mI_An, mI_uJ, mI_uR, mI_uX, mJ_uI, mJ_uA, mJ_uR, mJ_uX, onR_s, kC_v, kC_n, kC_t, vj1, vj2, h171, hS, ofI, e1, mS_uNs, e3, Nat.sub_zero, if_neg (show ¬ nI cap < nI n from nI_nlt (by omega) (by omega)), if_pos (show nI n < nI cap from nI_lt h1 (by omega)), Nat.reduceLeDiff, ite_true, ite_false, show (n ≤ 60000000) = True from eq_true (by omega), show (0 + n ≤ cap) = True from eq_true (by omega), show (0 + n ≤ n) = True from eq_true (by omega)]
theorem g_169 (hS : mS μ v = (21, cap)) (hv : v < mX μ) (hv1 : 1000 ≤ v) (h1 : n ≤ cap) (h2 : cap ≤ 2000) (hq : ∀ F, (∀ j, j < n → F j = mI μ v j) → Q (some (some (.ref (mX μ)))) (uA (uN μ 21 n) (mX μ) F)) : Ev (d + 3) 169 [.ref v, .int (nI 0), .int (nI n)] μ Q := by
  have e4 : ule (0, 0) (2, 4000) = True := ule_t rfl
  have e5 : ule (uad (0, 0) (1, 2000)) (2, 4000) = True := ule_t rfl
  rw [in_169]
  by_cases hc : n = cap
  · subst hc
    have e3 : ule (uad (0, 0) (1, n)) (2, 4000) = True := eq_true ⟨by show 0 + 1 ≤ 2; omega, by show 0 + n ≤ 4000; omega⟩
    have e6 : mS (uA (uN μ 21 n) (mX μ) (mI μ v)) (mX μ) = (21, n) := mS_uNs
    simp (disch := first | omega | rfl) only [e_169_0, e_169_1, e_169_4, e_169_5, e_169_6, e_169_7, e_169_10, e_169_11, e_169_12, e_169_13, e_169_16, e_169_17, e_169_18, e_169_21, e_169_24, ge1, ule_t, true_or, or_true, nI_add, nI_mul, nI_sub, nI_clamp, nI_lt_t, nI_lt_f, nI_le_t, nI_le_f, nI_eq_t, nI_eq_f, vp_nI, tI, fI, not_true, not_false_iff, true_and, and_true, Classical.not_not, mS_uI, mS_uA, mS_uJ, mS_uR, mS_uX, mR_uI, mR_uA, mR_uJ, mR_uX, mX_uI, mX_uA, mX_uJ, mX_uR, mI_s, mI_n, mI_A, mI_An, mI_uJ, mI_uR, mI_uX, mJ_uI, mJ_uA, mJ_uR, mJ_uX, onR_s, kC_v, kC_n, kC_t, hS, hv1, ofI, e3, e4, e5, e6, Nat.reduceLeDiff, show (1000 ≤ mX μ) = True from eq_true (by omega)]
    exact hq _ (fun _ _ => rfl)
  · have h170 := fun (d : Nat) (Q : Po) => g_170 (d := d) (Q := Q) (n := n) hS hv hv1 (by omega) h2
    simp (disch := first | omega | rfl) only [e_169_0, e_169_1, e_169_4, e_169_5, e_169_6, e_169_7, e_169_10, e_169_11, e_169_12, e_169_13, e_169_16, e_169_17, e_169_18, e_169_21, e_169_24, ge1, ule_t, true_or, or_true, nI_add, nI_mul, nI_sub, nI_clamp, nI_lt_t, nI_lt_f, nI_le_t, nI_le_f, nI_eq_t, nI_eq_f, vp_nI, tI, fI, not_true, not_false_iff, true_and, and_true, Classical.not_not, mS_uI, mS_uA, mS_uJ, mS_uR, mS_uX, mR_uI, mR_uA, mR_uJ, mR_uX, mX_uI, mX_uA, mX_uJ, mX_uR, mI_s, mI_n, mI_A, mI_An, mI_uJ, mI_uR, mI_uX, mJ_uI, mJ_uA, mJ_uR, mJ_uX, onR_s, kC_v, kC_n, kC_t, hS, ofI, e4, e5, h170, Nat.reduceLeDiff, show (n = cap) = False from eq_false hc]
    refine hq _ (fun j hj => ?_)
    unfold va_cpy
    rw [if_pos (by omega), mI_uN (by omega)]
    congr 1
    omega
theorem g_167 {p : Nat} (h : SbG μ lo b v cap n) (hp : mS μ p = (0, 4)) (hp1 : 1000 ≤ p) (hp2 : p < mX μ) (hpv : p ≠ v) (hq : ∀ F, (∀ j, j < n → F j = mI μ v j) → Q (some none) (uR (uA (uN (uI μ p 1 (nI 0)) 21 n) (mX μ) F) p 0 (some (mX μ)))) : Ev (d + 4) 167 [.ref p, .ref b, .null] μ Q := by
  have e1 : ule (0, 0) (4, 8000) = True := ule_t rfl
  have e2 : ule (uad (0, 0) (2, 4000)) (4, 8000) = True := ule_t rfl
  have hB := h
  obtain ⟨b1, b2, b3, b4, b5, b6, b7, b8, b9, b10, b11, b12, b13, b14⟩ := h
  have h168 := fun (d : Nat) (Q : Po) => g_168 (d := d) (Q := Q) hB
  have h5 := fun (d : Nat) (Q : Po) => g_5 (d := d) (Q := Q) hB
  have h14 := fun (d : Nat) (Q : Po) => g_14 (d := d) (Q := Q) hB
  rw [in_167n]
  simp (disch := first | omega | rfl) only [e_167_0, e_167_1, e_167_4, e_167_5, e_167_8, e_167_9, e_167_10, e_167_13, e_167_15, e_167_16, e_167_19, e_167_22, e_167_23, e_167_24, e_167_27, e_167_28, e_167_29, e_167_30, e_167_32, e_167_35, e_167_38, e_167_41, e_167_44, e_167_47, e_167_48, e_167_51, e_167_54, e_167_55, e_167_56, e_167_57, e_167_79, e_167_80, e_167_81, e_167_84, e_167_85, e_167_86, e_167_87, e_167_89, e_167_90, e_167_91, e_167_94, e_167_97, ge1, ule_t, true_or, or_true, nI_add, nI_mul, nI_sub, nI_clamp, nI_lt_t, nI_lt_f, nI_le_t, nI_le_f, nI_eq_t, nI_eq_f, vp_nI, tI, fI, not_true, not_false_iff, true_and, and_true, Classical.not_not, mS_uI, mS_uA, mS_uJ, mS_uR, mS_uX, mR_uI, mR_uA, mR_uJ, mR_uX, mX_uI, mX_uA, mX_uJ, mX_uR, mI_s, mI_n, mI_A, mI_An, mI_uJ, mI_uR, mI_uX, mJ_uI, mJ_uA, mJ_uR, mJ_uX, onR_s, kC_v, kC_n, kC_t, b1, hp, hp1, e1, e2, h168, h5, h14, oneZ, c8i]
  refine g_169 (n := n) (cap := cap) (μ := uI μ p 1 (nI 0)) b9 b8 (by omega) b12 b11 (fun F hF => ?_)
  have e3 : mS (uA (uN (uI μ p 1 (nI 0)) 21 n) (mX μ) F) p = (0, 4) := by
    show mS (uN (uI μ p 1 (nI 0)) 21 n) p = _
    rw [mS_uN (by show p ≠ mX μ; omega)]; exact hp
  simp (disch := first | omega | rfl) only [e_167_0, e_167_1, e_167_4, e_167_5, e_167_8, e_167_9, e_167_10, e_167_13, e_167_15, e_167_16, e_167_19, e_167_22, e_167_23, e_167_24, e_167_27, e_167_28, e_167_29, e_167_30, e_167_32, e_167_35, e_167_38, e_167_41, e_167_44, e_167_47, e_167_48, e_167_51, e_167_54, e_167_55, e_167_56, e_167_57, e_167_79, e_167_80, e_167_81, e_167_84, e_167_85, e_167_86, e_167_87, e_167_89, e_167_90, e_167_91, e_167_94, e_167_97, ge1, ule_t, true_or, or_true, nI_add, nI_mul, nI_sub, nI_clamp, nI_lt_t, nI_lt_f, nI_le_t, nI_le_f, nI_eq_t, nI_eq_f, vp_nI, tI, fI, not_true, not_false_iff, true_and, and_true, Classical.not_not, mS_uI, mS_uA, mS_uJ, mS_uR, mS_uX, mR_uI, mR_uA, mR_uJ, mR_uX, mX_uI, mX_uA, mX_uJ, mX_uR, mI_s, mI_n, mI_A, mI_An, mI_uJ, mI_uR, mI_uX, mJ_uI, mJ_uA, mJ_uR, mJ_uX, onR_s, kC_v, kC_n, kC_t, e1, e2, e3, hp1, kC_v]
  exact hq F (fun j hj => (hF j hj).trans (mI_n (by omega)))
theorem g_166 {p : Nat} (h : SbG μ lo b v cap n) (hp : mS μ p = (0, 4)) (hp1 : 1000 ≤ p) (hp2 : p < mX μ) (hpv : p ≠ v) (hq : ∀ F, (∀ j, j < n → F j = mI μ v j) → Q (some none) (uR (uA (uN (uI μ p 1 (nI 0)) 21 n) (mX μ) F) p 0 (some (mX μ)))) : Ev (d + 5) 166 [.ref p, .ref b] μ Q := by
  have e1 : ule (0, 0) (4, 8000) = True := ule_t rfl
  have e2 : ule (uad (0, 0) (4, 8000)) (4, 8000) = True := ule_t rfl
  rw [in_166]
  simp (disch := first | omega | rfl) only [e_166_0, e_166_1, e_166_2, e_166_3, e_166_6, ge1, ule_t, true_or, or_true, nI_add, nI_mul, nI_sub, nI_clamp, nI_lt_t, nI_lt_f, nI_le_t, nI_le_f, nI_eq_t, nI_eq_f, vp_nI, tI, fI, not_true, not_false_iff, true_and, and_true, Classical.not_not, mS_uI, mS_uA, mS_uJ, mS_uR, mS_uX, mR_uI, mR_uA, mR_uJ, mR_uX, mX_uI, mX_uA, mX_uJ, mX_uR, mI_s, mI_n, mI_A, mI_An, mI_uJ, mI_uR, mI_uX, mJ_uI, mJ_uA, mJ_uR, mJ_uX, onR_s, kC_v, kC_n, kC_t, e1, e2]
  refine g_167 h hp hp1 hp2 hpv (fun F hF => ?_)
  simp (disch := first | omega | rfl) only [e_166_0, e_166_1, e_166_2, e_166_3, e_166_6, ge1, ule_t, true_or, or_true, nI_add, nI_mul, nI_sub, nI_clamp, nI_lt_t, nI_lt_f, nI_le_t, nI_le_f, nI_eq_t, nI_eq_f, vp_nI, tI, fI, not_true, not_false_iff, true_and, and_true, Classical.not_not, mS_uI, mS_uA, mS_uJ, mS_uR, mS_uX, mR_uI, mR_uA, mR_uJ, mR_uX, mX_uI, mX_uA, mX_uJ, mX_uR, mI_s, mI_n, mI_A, mI_An, mI_uJ, mI_uR, mI_uX, mJ_uI, mJ_uA, mJ_uR, mJ_uX, onR_s, kC_v, kC_n, kC_t, e1, e2, kC_n]
  exact hq F hF
theorem g_165 (h : SbG μ lo b v cap n) (hq : ∀ μ', FrG (mX μ) μ μ' → mX μ' = mX μ + 2 → TxS μ' (mX μ) (mX μ + 1) n → (∀ j, j < n → mI μ' (mX μ + 1) j = mI μ v j) → Q (some (some (.ref (mX μ)))) μ') : Ev (d + 6) 165 [.ref b] μ Q := by
  have e1 : ule (uad (0, 0) (1, 4)) (5, 8004) = True := ule_t rfl
  have e2 : ule (uad (uad (0, 0) (1, 4)) (4, 8000)) (5, 8004) = True := ule_t rfl
  obtain ⟨b1, b2, b3, b4, b5, b6, b7, b8, b9, b10, b11, b12, b13, b14⟩ := h
  have hX : 1000 ≤ mX μ := by omega
  have hB1 : SbG (uN μ 0 4) lo b v cap n := ⟨(mS_uN (by omega)).trans b1, (mR_uN (by omega)).trans b2, b3, b4, b5, b6, Nat.lt_succ_of_lt b7, Nat.lt_succ_of_lt b8, (mS_uN (by omega)).trans b9, b10, b11, b12, (mI_uN (by omega)).trans b13, (mI_uN (by omega)).trans b14⟩
  rw [in_165]
  simp (disch := first | omega | rfl) only [e_165_0, e_165_3, e_165_4, e_165_5, e_165_8, ge1, ule_t, true_or, or_true, nI_add, nI_mul, nI_sub, nI_clamp, nI_lt_t, nI_lt_f, nI_le_t, nI_le_f, nI_eq_t, nI_eq_f, vp_nI, tI, fI, not_true, not_false_iff, true_and, and_true, Classical.not_not, mS_uI, mS_uA, mS_uJ, mS_uR, mS_uX, mR_uI, mR_uA, mR_uJ, mR_uX, mX_uI, mX_uA, mX_uJ, mX_uR, mI_s, mI_n, mI_A, mI_An, mI_uJ, mI_uR, mI_uX, mJ_uI, mJ_uA, mJ_uR, mJ_uX, onR_s, kC_v, kC_n, kC_t, e1, e2]
  refine g_166 (p := mX μ) hB1 mS_uNs hX (Nat.lt_succ_self _) (by omega) (fun F hF => ?_)
  simp (disch := first | omega | rfl) only [e_165_0, e_165_3, e_165_4, e_165_5, e_165_8, ge1, ule_t, true_or, or_true, nI_add, nI_mul, nI_sub, nI_clamp, nI_lt_t, nI_lt_f, nI_le_t, nI_le_f, nI_eq_t, nI_eq_f, vp_nI, tI, fI, not_true, not_false_iff, true_and, and_true, Classical.not_not, mS_uI, mS_uA, mS_uJ, mS_uR, mS_uX, mR_uI, mR_uA, mR_uJ, mR_uX, mX_uI, mX_uA, mX_uJ, mX_uR, mI_s, mI_n, mI_A, mI_An, mI_uJ, mI_uR, mI_uX, mJ_uI, mJ_uA, mJ_uR, mJ_uX, onR_s, kC_v, kC_n, kC_t, e1, e2, kC_n]
  have eX : mX (uN μ 0 4) = mX μ + 1 := rfl
  rw [eX]
  refine hq _ ((((FrG.refl.uN (Nat.le_refl _)).uI (Nat.le_refl _)).uN (by show mX μ ≤ mX μ + 1; omega)).uA (by omega) |>.uR (Nat.le_refl _)) rfl ⟨?_, mR_sR, ?_, ?_⟩ (fun j hj => ?_)
  · show mS (uN (uI (uN μ 0 4) (mX μ) 1 (nI 0)) 21 n) (mX μ) = _
    rw [mS_uN (by show mX μ ≠ mX μ + 1; omega)]
    exact mS_uNs
  · show mI (uA (uN (uI (uN μ 0 4) (mX μ) 1 (nI 0)) 21 n) (mX μ + 1) F) (mX μ) 1 = _
    rw [mI_An (by omega), mI_uN (by show mX μ ≠ mX μ + 1; omega), mI_s]
  · exact mS_uNs (μ := uI (uN μ 0 4) (mX μ) 1 (nI 0))
  · show mI (uA (uN (uI (uN μ 0 4) (mX μ) 1 (nI 0)) 21 n) (mX μ + 1) F) (mX μ + 1) j = _
    rw [mI_A, hF j hj, mI_uN (by omega)]
end Str
/-! with lists of bytes -/
def StB (μ : Mu) (lo hi a : Nat) (l : List Nat) : Prop := ∃ w, lo ≤ a ∧ lo ≤ w ∧ a < hi ∧ w < hi ∧ TxS μ a w l.length ∧ (∀ j, j < l.length → mI μ w j = nI (l.getD j 0)) ∧ ∀ x ∈ l, x < 128
abbrev StL (μ : Mu) (hi a : Nat) (l : List Nat) : Prop := StB μ 0 hi a l
def SbL (μ : Mu) (lo b : Nat) (l : List Nat) : Prop := ∃ v cap, SbG μ lo b v cap l.length ∧ (∀ j, j < l.length → mI μ v j = nI (l.getD j 0)) ∧ ∀ x ∈ l, x < 128
def dgs (x : Nat) : List Nat := (List.range (fNd x)).map (fDg x)
theorem getD_lt {l : List Nat} {j : Nat} (h : ∀ x ∈ l, x < 128) (hj : j < l.length) : l.getD j 0 < 128 := by
  rw [List.getD_eq_getElem?_getD, List.getElem?_eq_getElem hj]
  exact h _ (List.getElem_mem _)
theorem getD_app1 {l k : List Nat} {j : Nat} (h : j < l.length) : (l ++ k).getD j 0 = l.getD j 0 := by
  rw [List.getD_eq_getElem?_getD, List.getD_eq_getElem?_getD, List.getElem?_append_left h]
theorem getD_app2 {l k : List Nat} {j : Nat} : (l ++ k).getD (l.length + j) 0 = k.getD j 0 := by
  rw [List.getD_eq_getElem?_getD, List.getD_eq_getElem?_getD, List.getElem?_append_right (by omega), Nat.add_sub_cancel_left]
theorem dgs_len {x : Nat} : (dgs x).length = fNd x := by unfold dgs; simp
theorem dgs_get {x j : Nat} (h : j < fNd x) : (dgs x).getD j 0 = fDg x j := by
  unfold dgs
  rw [List.getD_eq_getElem?_getD, List.getElem?_map, List.getElem?_range h]; rfl
theorem dgs_lt {x : Nat} : ∀ y ∈ dgs x, y < 128 := by
  intro y hy
  unfold dgs at hy
  obtain ⟨j, -, rfl⟩ := List.mem_map.mp hy
  unfold fDg
  have := Nat.mod_lt (x / 10 ^ (fNd x - 1 - j)) (show 0 < 10 by omega)
  omega
section StrL
variable {d : Nat} {Q : Po} {μ μ' : Mu} {lo hi a b c x : Nat} {l k : List Nat}
theorem StB.fr {l0 : Nat} (h : StB μ l0 lo a l) (hf : FrG lo μ μ') : StB μ' l0 lo a l := by
  obtain ⟨w, k1, k2, h1, h2, ⟨t1, t2, t3, t4⟩, h4, h5⟩ := h
  obtain ⟨f1, f2, f3⟩ := hf.2 a h1
  obtain ⟨g1, g2, g3⟩ := hf.2 w h2
  exact ⟨w, k1, k2, h1, h2, ⟨f1.trans t1, (f3 0).trans t2, (f2 1).trans t3, g1.trans t4⟩, fun j hj => (g2 j).trans (h4 j hj), h5⟩
theorem StB.up {l0 l1 : Nat} (h : StB μ l0 lo a l) (hl : lo ≤ hi) (h0 : l1 ≤ l0) : StB μ l1 hi a l := by
  obtain ⟨w, k1, k2, h1, h2, h3⟩ := h
  exact ⟨w, by omega, by omega, by omega, by omega, h3⟩
theorem SbL.lw (h : SbL μ lo b l) : lo ≤ mX μ ∧ 1000 ≤ lo := by
  obtain ⟨v, cap, ⟨b1, b2, b3, b4, b5, b6, b7, -⟩, -⟩ := h; omega
theorem SbL.sh (h : SbL μ lo b l) : mS μ b = (1, 4) := by
  obtain ⟨v, cap, ⟨b1, -⟩, -⟩ := h; exact b1
theorem SbL.fr (h : SbL μ lo b l) (hf : FrG (mX μ) μ μ') : SbL μ' lo b l := by
  obtain ⟨v, cap, ⟨b1, b2, b3, b4, b5, b6, b7, b8, b9, b10, b11, b12, b13, b14⟩, h2, h3⟩ := h
  obtain ⟨f1, f2, f3⟩ := hf.2 b b7
  obtain ⟨g1, g2, g3⟩ := hf.2 v b8
  have := hf.1
  exact ⟨v, cap, ⟨f1.trans b1, (f3 0).trans b2, b3, b4, b5, b6, by omega, by omega, g1.trans b9, b10, b11, b12, (f2 1).trans b13, (f2 3).trans b14⟩, fun j hj => (g2 j).trans (h2 j hj), h3⟩
theorem b8_of {x : Nat} (h : x < 128) : (nI x).toInt8.toInt32 = nI x := c8i x h
theorem L_st0 {v cap w : Nat} (hB : SbG μ lo b v cap l.length) (hl : ∀ j, j < l.length → mI μ v j = nI (l.getD j 0)) (hc : ∀ x ∈ l, x < 128) (hT : TxS μ a w k.length) (h1 : a < mX μ ∧ a ≠ b ∧ a ≠ v) (h2 : w < mX μ ∧ w ≠ b ∧ w ≠ v) (h4 : ∀ j, j < k.length → mI μ w j = nI (k.getD j 0)) (h5 : ∀ x ∈ k, x < 128) (hn : l.length + k.length ≤ 999) (hq : ∀ μ', FrG lo μ μ' → SbL μ' lo b (l ++ k) → Q (some (some (.ref b))) μ') : Ev (d + 5) 160 [.ref b, .ref a] μ Q := by
  have hB0 := hB
  obtain ⟨b1, b2, b3, b4, b5, b6, b7, b8, b9, b10, b11, b12, b13, b14⟩ := hB0
  refine g_160 hB hT h1 h2 (fun i hi => by rw [h4 i hi]; exact b8_of (getD_lt h5 hi)) hn (fun μ' v' cap' hf hB' hj hk => hq μ' (hf.g b4 b5 b7) ⟨v', cap', by rw [List.length_append]; exact hB', fun j hj2 => ?_, fun x hx => ?_⟩)
  · rw [List.length_append] at hj2
    by_cases hjl : j < l.length
    · rw [hj j hjl, hl j hjl, getD_app1 hjl]
    · obtain ⟨i, rfl⟩ : ∃ i, j = l.length + i := ⟨j - l.length, by omega⟩
      rw [hk i (by omega), h4 i (by omega), getD_app2]
  · rcases List.mem_append.mp hx with h | h
    · exact hc x h
    · exact h5 x h
theorem L_str (h : SbL μ lo b l) (hT : StL μ lo a k) (hn : l.length + k.length ≤ 999) (hq : ∀ μ', FrG lo μ μ' → SbL μ' lo b (l ++ k) → Q (some (some (.ref b))) μ') : Ev (d + 5) 160 [.ref b, .ref a] μ Q := by
  obtain ⟨v, cap, hB, hl, hc⟩ := h
  obtain ⟨w, -, -, h1, h2, hT, h4, h5⟩ := hT
  have hB0 := hB
  obtain ⟨b1, b2, b3, b4, b5, b6, b7, b8, b9, b10, b11, b12, b13, b14⟩ := hB0
  exact L_st0 hB hl hc hT ⟨by omega, by omega, by omega⟩ ⟨by omega, by omega, by omega⟩ h4 h5 hn hq
theorem L_strN {μ1 : Mu} (h : SbL μ1 lo b l) (hf : FrG (mX μ1) μ1 μ) (hT : StB μ (mX μ1) (mX μ) a k) (hn : l.length + k.length ≤ 999) (hq : ∀ μ', FrG lo μ μ' → SbL μ' lo b (l ++ k) → Q (some (some (.ref b))) μ') : Ev (d + 5) 160 [.ref b, .ref a] μ Q := by
  obtain ⟨v, cap, ⟨b1, b2, b3, b4, b5, b6, b7, b8, b9, b10, b11, b12, b13, b14⟩, hl, hc⟩ := h
  obtain ⟨w, k1, k2, h1, h2, hT, h4, h5⟩ := hT
  obtain ⟨f1, f2, f3⟩ := hf.2 b b7
  obtain ⟨g1, g2, g3⟩ := hf.2 v b8
  have := hf.1
  exact L_st0 (v := v) (cap := cap) ⟨f1.trans b1, (f3 0).trans b2, b3, b4, b5, b6, by omega, by omega, g1.trans b9, b10, b11, b12, (f2 1).trans b13, (f2 3).trans b14⟩ (fun j hj => (g2 j).trans (hl j hj)) hc hT ⟨by omega, by omega, by omega⟩ ⟨by omega, by omega, by omega⟩ h4 h5 hn hq
theorem L_chr (h : SbL μ lo b l) (hc : c < 128) (hn : l.length < 999) (hq : ∀ μ', FrG lo μ μ' → SbL μ' lo b (l ++ [c]) → Q (some (some (.ref b))) μ') : Ev (d + 5) 1 [.ref b, .int (nI c)] μ Q := by
  obtain ⟨v, cap, hB, hl, hc9⟩ := h
  have hB0 := hB
  obtain ⟨b1, b2, b3, b4, b5, b6, b7, b8, b9, b10, b11, b12, b13, b14⟩ := hB0
  refine g_1 hB hn hc (fun μ' v' cap' hf hB' hj hk => hq μ' (hf.g b4 b5 b7) ⟨v', cap', by rw [List.length_append]; exact hB', fun j hj2 => ?_, fun x hx => ?_⟩)
  · rw [List.length_append] at hj2
    by_cases hjl : j < l.length
    · rw [hj j hjl, hl j hjl, getD_app1 hjl]
    · obtain rfl : j = l.length + 0 := by simp at hj2; omega
      rw [getD_app2, Nat.add_zero, hk]; rfl
  · rcases List.mem_append.mp hx with h | h
    · exact hc9 x h
    · rw [List.mem_singleton.mp h]; exact hc
theorem L_num (h : SbL μ lo b l) (hD : DgS μ) (hx : x < 10000) (hn : l.length + 4 ≤ 999) (hq : ∀ μ', FrG lo μ μ' → SbL μ' lo b (l ++ dgs x) → Q (some (some (.ref b))) μ') : Ev (d + 5) 2 [.ref b, .int (nI x)] μ Q := by
  obtain ⟨v, cap, hB, hl, hc9⟩ := h
  have hB0 := hB
  obtain ⟨b1, b2, b3, b4, b5, b6, b7, b8, b9, b10, b11, b12, b13, b14⟩ := hB0
  refine g_2 hB hD hx hn (fun μ' v' cap' hf hB' hj hk => hq μ' (hf.g b4 b5 b7) ⟨v', cap', by rw [List.length_append, dgs_len]; exact hB', fun j hj2 => ?_, fun y hy => ?_⟩)
  · rw [List.length_append, dgs_len] at hj2
    by_cases hjl : j < l.length
    · rw [hj j hjl, hl j hjl, getD_app1 hjl]
    · obtain ⟨i, rfl⟩ : ∃ i, j = l.length + i := ⟨j - l.length, by omega⟩
      rw [hk i (by omega), getD_app2, dgs_get (by omega)]
  · rcases List.mem_append.mp hy with h | h
    · exact hc9 y h
    · exact dgs_lt y h
theorem L_toS (h : SbL μ lo b l) (hq : ∀ μ', FrG lo μ μ' → FrG (mX μ) μ μ' → mX μ' = mX μ + 2 → StB μ' (mX μ) (mX μ') (mX μ) l → Q (some (some (.ref (mX μ)))) μ') : Ev (d + 6) 165 [.ref b] μ Q := by
  obtain ⟨v, cap, hB, hl, hc9⟩ := h
  have hlo : lo ≤ mX μ := by obtain ⟨b1, b2, b3, b4, b5, b6, b7, -⟩ := hB; omega
  refine g_165 hB (fun μ' hf hx hT hj => hq μ' (hf.le hlo) hf hx ⟨mX μ + 1, Nat.le_refl _, by omega, by omega, by omega, hT, fun j hj2 => (hj j hj2).trans (hl j hj2), hc9⟩)
theorem L_new (h1 : 1000 ≤ mX μ) (hq : ∀ μ', FrG (mX μ) μ μ' → SbL μ' (mX μ) (mX μ) [] → Q (some none) μ') : Ev (d + 2) 0 [.ref (mX μ)] (uN μ 1 4) Q := by
  have e1 : ule (uad (0, 0) (1, 16)) (1, 16) = True := ule_t rfl
  have e2 : ule (0, 0) (1, 16) = True := ule_t rfl
  have e3 : mS (uN μ 1 4) (mX μ) = (1, 4) := mS_uNs
  have hne : mX μ ≠ mX μ + 1 := by omega
  have e4 : mX (uN μ 1 4) = mX μ + 1 := rfl
  have e5 : mS (uN (uN μ 1 4) 21 16) (mX μ) = (1, 4) := (mS_uN hne).trans e3
  have h0 : (nI 0 : Int32) = 0 := nI_0
  rw [in_0]
  simp (disch := first | omega | rfl) only [e_0_0, e_0_1, e_0_3, e_0_6, in_6, e_6_0, e_6_1, e_6_4, e_6_7, e_6_10, e_6_11, e_6_12, e_6_14, e_6_17, e_6_18, e_6_19, e_6_22, e_6_25, e_6_26, e_6_38, ge1, ule_t, true_or, or_true, nI_add, nI_mul, nI_sub, nI_clamp, nI_lt_t, nI_lt_f, nI_le_t, nI_le_f, nI_eq_t, nI_eq_f, vp_nI, tI, fI, not_true, not_false_iff, true_and, and_true, Classical.not_not, mS_uI, mS_uA, mS_uJ, mS_uR, mS_uX, mR_uI, mR_uA, mR_uJ, mR_uX, mX_uI, mX_uA, mX_uJ, mX_uR, mI_s, mI_n, mI_A, mI_An, mI_uJ, mI_uR, mI_uX, mJ_uI, mJ_uA, mJ_uR, mJ_uX, onR_s, kC_v, kC_n, kC_t, e1, e2, e3, e4, e5, h1, oneZ, kC_n, c8i, Nat.reduceLeDiff]
  refine hq _ ?_ ⟨mX μ + 1, 16, ⟨e5, ?_, by omega, Nat.le_refl _, by omega, h1, ?_, ?_, ?_, by omega, by omega, Nat.zero_le _, ?_, ?_⟩, fun j hj => absurd hj (Nat.not_lt_zero j), fun x hx => by cases hx⟩
  · exact (((FrG.refl.uN (Nat.le_refl _)).uN (by show mX μ ≤ mX μ + 1; omega)).uR (Nat.le_refl _)).uI (Nat.le_refl _)
  · simp (disch := first | omega | rfl) only [mS_uI, mS_uA, mS_uJ, mS_uR, mS_uX, mR_uI, mR_uA, mR_uJ, mR_uX, mX_uI, mX_uA, mX_uJ, mX_uR, mI_s, mI_n, mI_A, mI_An, mI_uJ, mI_uR, mI_uX, mJ_uI, mJ_uA, mJ_uR, mJ_uX, onR_s, kC_v, kC_n, kC_t, mR_sR]
  · show mX μ < mX μ + 1 + 1; omega
  · show mX μ + 1 < mX μ + 1 + 1; omega
  · exact mS_uNs (μ := uN μ 1 4)
  · simp (disch := first | omega | rfl) only [mS_uI, mS_uA, mS_uJ, mS_uR, mS_uX, mR_uI, mR_uA, mR_uJ, mR_uX, mX_uI, mX_uA, mX_uJ, mX_uR, mI_s, mI_n, mI_A, mI_An, mI_uJ, mI_uR, mI_uX, mJ_uI, mJ_uA, mJ_uR, mJ_uX, onR_s, kC_v, kC_n, kC_t]
  · simp (disch := first | omega | rfl) only [mS_uI, mS_uA, mS_uJ, mS_uR, mS_uX, mR_uI, mR_uA, mR_uJ, mR_uX, mX_uI, mX_uA, mX_uJ, mX_uR, mI_s, mI_n, mI_A, mI_An, mI_uJ, mI_uR, mI_uX, mJ_uI, mJ_uA, mJ_uR, mJ_uX, onR_s, kC_v, kC_n, kC_t]
    rw [mI_uN hne]; show _ = nI 0; rw [h0]; exact if_pos rfl
end StrL

