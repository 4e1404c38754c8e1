/-! what is made at the start -/
def nN (μ : Mu) (x k n : Nat) : Mu := (x + 1, (fun b => if b = x then (k, n) else μ.2.1 b), (fun b j => if b = x then 0 else μ.2.2.1 b j), (fun b j => if b = x then 0 else μ.2.2.2.1 b j), (fun b j => if b = x then none else μ.2.2.2.2 b j))
section NwE
variable {μ μ' : Mu} {x k n b j a : Nat} {o : Option Nat} {v : Int32}
theorem uN_n : uN μ k n = nN μ (mX μ) k n := rfl
theorem mX_nN : mX (nN μ x k n) = x + 1 := rfl
theorem mS_nNs (h : b = x) : mS (nN μ x k n) b = (k, n) := if_pos h
theorem mS_nN (h : b ≠ x) : mS (nN μ x k n) b = mS μ b := if_neg h
theorem mI_nNs (h : b = x) : mI (nN μ x k n) b j = 0 := if_pos h
theorem mI_nN (h : b ≠ x) : mI (nN μ x k n) b j = mI μ b j := if_neg h
theorem mR_nNs (h : b = x) : mR (nN μ x k n) b j = none := if_pos h
theorem mR_nN (h : b ≠ x) : mR (nN μ x k n) b j = mR μ b j := if_neg h
theorem mR_es (h : b = a) (h2 : j = k) : mR (uR μ a k o) b j = o := if_pos ⟨h, h2⟩
theorem uad_p {a b c d : Nat} : uad (a, b) (c, d) = (a + c, b + d) := rfl
theorem ule_p {a b c d : Nat} : ule (a, b) (c, d) = (a ≤ c ∧ b ≤ d) := rfl
def Sam (μ μ' : Mu) (a : Nat) : Prop := mS μ' a = mS μ a ∧ (∀ k, mI μ' a k = mI μ a k) ∧ ∀ k, mR μ' a k = mR μ a k
theorem Sam.refl : Sam μ μ a := ⟨rfl, fun _ => rfl, fun _ => rfl⟩
theorem Sam.trans {μ2 : Mu} (h : Sam μ μ' a) (h' : Sam μ' μ2 a) : Sam μ μ2 a := ⟨h'.1.trans h.1, fun k => (h'.2.1 k).trans (h.2.1 k), fun k => (h'.2.2 k).trans (h.2.2 k)⟩
theorem Sam.uR (h : Sam μ μ' a) (hb : a ≠ b) : Sam μ (uR μ' b k o) a := ⟨h.1, h.2.1, fun j => (mR_nR (Or.inl hb)).trans (h.2.2 j)⟩
theorem Sam.uI (h : Sam μ μ' a) (hb : a ≠ b) : Sam μ (uI μ' b k v) a := ⟨h.1, fun j => (mI_n (Or.inl hb)).trans (h.2.1 j), h.2.2⟩
theorem Sam.nN (h : Sam μ μ' a) (hb : a ≠ x) : Sam μ (nN μ' x k n) a := ⟨(mS_nN hb).trans h.1, fun j => (mI_nN hb).trans (h.2.1 j), fun j => (mR_nN hb).trans (h.2.2 j)⟩
theorem StS.sm {s : Nat} (h : StS μ s) (e : ∀ a, s ≤ a → a < s + 23 → Sam μ μ' a) : StS μ' s := by
  obtain ⟨q0, q1, q2, q3, q4, q5, q6, q7, q8, q9, q10, q11, q12, q13, q14, q15⟩ := h
  exact ⟨q0, (e _ (by omega) (by omega)).1.trans q1, ((e _ (by omega) (by omega)).2.2 _).trans q2, ((e _ (by omega) (by omega)).2.2 _).trans q3, ((e _ (by omega) (by omega)).2.2 _).trans q4, (e _ (by omega) (by omega)).1.trans q5, (e _ (by omega) (by omega)).1.trans q6, (e _ (by omega) (by omega)).1.trans q7, ((e _ (by omega) (by omega)).2.2 _).trans q8, (e _ (by omega) (by omega)).1.trans q9, fun m hm => ((e _ (by omega) (by omega)).2.2 _).trans (q10 m hm), fun m hm => (e _ (by omega) (by omega)).1.trans (q11 m hm), fun m hm => ((e _ (by omega) (by omega)).2.2 _).trans (q12 m hm), fun m hm => ((e _ (by omega) (by omega)).2.2 _).trans (q13 m hm), fun m hm => (e _ (by omega) (by omega)).1.trans (q14 m hm), fun m hm => (e _ (by omega) (by omega)).1.trans (q15 m hm)⟩
theorem ScS.sm {s : Nat} (h : ScS μ s) (e : ∀ a, s ≤ a → a < s + 5 → Sam μ μ' a) : ScS μ' s := by
  obtain ⟨r0, r1, r2, r3, r4, r5, r6, r7, r8, r9⟩ := h
  exact ⟨r0, (e _ (by omega) (by omega)).1.trans r1, ((e _ (by omega) (by omega)).2.2 _).trans r2, ((e _ (by omega) (by omega)).2.2 _).trans r3, ((e _ (by omega) (by omega)).2.2 _).trans r4, ((e _ (by omega) (by omega)).2.2 _).trans r5, (e _ (by omega) (by omega)).1.trans r6, (e _ (by omega) (by omega)).1.trans r7, (e _ (by omega) (by omega)).1.trans r8, (e _ (by omega) (by omega)).1.trans r9⟩
theorem ShD.sm (h : ShD μ) (e : ∀ a, 1062 ≤ a → a < 1067 → Sam μ μ' a) : ShD μ' := by
  obtain ⟨d0, d1, d2, d3, d4, d5, d6, d7, d8⟩ := h
  exact ⟨(e _ (by omega) (by omega)).1.trans d0, ((e _ (by omega) (by omega)).2.2 _).trans d1, ((e _ (by omega) (by omega)).2.2 _).trans d2, (e _ (by omega) (by omega)).1.trans d3, (e _ (by omega) (by omega)).1.trans d4, ((e _ (by omega) (by omega)).2.2 _).trans d5, ((e _ (by omega) (by omega)).2.2 _).trans d6, (e _ (by omega) (by omega)).1.trans d7, (e _ (by omega) (by omega)).1.trans d8⟩
end NwE
section NwC
variable {d : Nat} {Q : Po} {μ μ' : Mu} {x s c m n k a : Nat} {l1 : Option Value}
def MbS (μ : Mu) (x : Nat) : Prop := mS μ x = (7, 10) ∧ mR μ x 8 = some (x + 1) ∧ mR μ x 9 = some (x + 2) ∧ mS μ (x + 1) = (20, 16) ∧ mS μ (x + 2) = (20, 41)
theorem n_60 (hX : mX μ = x) (h1 : 1000 ≤ x) (hq : ∀ μ', mX μ' = x + 3 → (∀ a, a < x → Sam μ μ' a) → MbS μ' x → (∀ a, x ≤ a → a < x + 3 → ∀ k, mI μ' a k = 0) → Q (some none) μ') : Ev (d + 1) 60 [.ref x] (nN μ x 7 10) Q := by
  rw [in_60]
  simp (disch := first | omega | rfl) only [e_60_0, e_60_1, e_60_4, e_60_5, e_60_7, e_60_9, e_60_12, e_60_13, e_60_15, e_60_17, e_60_20, ge1, ule_t, true_or, or_true, nI_add, nI_mul, nI_sub, nI_clamp, nI_lt_t, nI_lt_f, nI_le_t, nI_le_f, nI_eq_t, nI_eq_f, vp_nI, tI, fI, not_true, not_false_iff, true_and, and_true, Classical.not_not, mS_uI, mS_uA, mS_uJ, mS_uR, mS_uX, mR_uI, mR_uA, mR_uJ, mR_uX, mX_uI, mX_uA, mX_uJ, mX_uR, mI_s, mI_n, mI_A, mI_An, mI_uJ, mI_uR, mI_uX, mJ_uI, mJ_uA, mJ_uR, mJ_uX, onR_s, kC_v, kC_n, kC_t, uN_n, mX_nN, mS_nN, mS_nNs, uad_p, ule_p, leT, and_self]
  refine hq _ ?_ (fun a ha => ?_) ⟨?_, ?_, ?_, ?_, ?_⟩ (fun a a1 a2 k => ?_)
  · rfl
  · exact (((Sam.refl.nN (by omega)).nN (by omega)).uR (by omega)).nN (by omega) |>.uR (by omega)
  · simp (disch := first | omega | rfl) only [mS_uI, mS_uA, mS_uJ, mS_uR, mS_uX, mR_uI, mR_uA, mR_uJ, mR_uX, mX_uI, mX_uA, mX_uJ, mX_uR, mI_s, mI_n, mI_A, mI_An, mI_uJ, mI_uR, mI_uX, mJ_uI, mJ_uA, mJ_uR, mJ_uX, onR_s, kC_v, kC_n, kC_t, mS_nN, mS_nNs]
  · simp (disch := first | omega | rfl) only [mS_uI, mS_uA, mS_uJ, mS_uR, mS_uX, mR_uI, mR_uA, mR_uJ, mR_uX, mX_uI, mX_uA, mX_uJ, mX_uR, mI_s, mI_n, mI_A, mI_An, mI_uJ, mI_uR, mI_uX, mJ_uI, mJ_uA, mJ_uR, mJ_uX, onR_s, kC_v, kC_n, kC_t, mR_nR, mR_nN, mR_es]
  · simp (disch := first | omega | rfl) only [mS_uI, mS_uA, mS_uJ, mS_uR, mS_uX, mR_uI, mR_uA, mR_uJ, mR_uX, mX_uI, mX_uA, mX_uJ, mX_uR, mI_s, mI_n, mI_A, mI_An, mI_uJ, mI_uR, mI_uX, mJ_uI, mJ_uA, mJ_uR, mJ_uX, onR_s, kC_v, kC_n, kC_t, mR_nR, mR_nN, mR_es]
  · simp (disch := first | omega | rfl) only [mS_uI, mS_uA, mS_uJ, mS_uR, mS_uX, mR_uI, mR_uA, mR_uJ, mR_uX, mX_uI, mX_uA, mX_uJ, mX_uR, mI_s, mI_n, mI_A, mI_An, mI_uJ, mI_uR, mI_uX, mJ_uI, mJ_uA, mJ_uR, mJ_uX, onR_s, kC_v, kC_n, kC_t, mS_nN, mS_nNs]
  · simp (disch := first | omega | rfl) only [mS_uI, mS_uA, mS_uJ, mS_uR, mS_uX, mR_uI, mR_uA, mR_uJ, mR_uX, mX_uI, mX_uA, mX_uJ, mX_uR, mI_s, mI_n, mI_A, mI_An, mI_uJ, mI_uR, mI_uX, mJ_uI, mJ_uA, mJ_uR, mJ_uX, onR_s, kC_v, kC_n, kC_t, mS_nN, mS_nNs]
  · rcases (by omega : a = x ∨ a = x + 1 ∨ a = x + 1 + 1) with rfl | rfl | rfl
    · simp (disch := first | omega | rfl) only [mS_uI, mS_uA, mS_uJ, mS_uR, mS_uX, mR_uI, mR_uA, mR_uJ, mR_uX, mX_uI, mX_uA, mX_uJ, mX_uR, mI_s, mI_n, mI_A, mI_An, mI_uJ, mI_uR, mI_uX, mJ_uI, mJ_uA, mJ_uR, mJ_uX, onR_s, kC_v, kC_n, kC_t, mI_nN, mI_nNs]
    · simp (disch := first | omega | rfl) only [mS_uI, mS_uA, mS_uJ, mS_uR, mS_uX, mR_uI, mR_uA, mR_uJ, mR_uX, mX_uI, mX_uA, mX_uJ, mX_uR, mI_s, mI_n, mI_A, mI_An, mI_uJ, mI_uR, mI_uX, mJ_uI, mJ_uA, mJ_uR, mJ_uX, onR_s, kC_v, kC_n, kC_t, mI_nN, mI_nNs]
    · simp (disch := first | omega | rfl) only [mS_uI, mS_uA, mS_uJ, mS_uR, mS_uX, mR_uI, mR_uA, mR_uJ, mR_uX, mX_uI, mX_uA, mX_uJ, mX_uR, mI_s, mI_n, mI_A, mI_An, mI_uJ, mI_uR, mI_uX, mJ_uI, mJ_uA, mJ_uR, mJ_uX, onR_s, kC_v, kC_n, kC_t, mI_nN, mI_nNs]
theorem n_33 (hX : mX μ = x) (h1 : 1000 ≤ x) (hq : ∀ μ', mX μ' = x + 2 → (∀ a, a < x → Sam μ μ' a) → mS μ' x = (5, 2) → mR μ' x 0 = some (x + 1) → mS μ' (x + 1) = (20, 40) → (∀ a, x ≤ a → a < x + 2 → ∀ k, mI μ' a k = 0) → Q (some none) μ') : Ev (d + 1) 33 [.ref x] (nN μ x 5 2) Q := by
  rw [in_33]
  simp (disch := first | omega | rfl) only [e_33_0, e_33_1, e_33_4, e_33_5, e_33_7, e_33_9, e_33_12, e_33_13, e_33_14, e_33_17, ge1, ule_t, true_or, or_true, nI_add, nI_mul, nI_sub, nI_clamp, nI_lt_t, nI_lt_f, nI_le_t, nI_le_f, nI_eq_t, nI_eq_f, vp_nI, tI, fI, not_true, not_false_iff, true_and, and_true, Classical.not_not, mS_uI, mS_uA, mS_uJ, mS_uR, mS_uX, mR_uI, mR_uA, mR_uJ, mR_uX, mX_uI, mX_uA, mX_uJ, mX_uR, mI_s, mI_n, mI_A, mI_An, mI_uJ, mI_uR, mI_uX, mJ_uI, mJ_uA, mJ_uR, mJ_uX, onR_s, kC_v, kC_n, kC_t, uN_n, mX_nN, mS_nN, mS_nNs, uad_p, ule_p, leT, and_self]
  refine hq _ ?_ (fun a ha => ?_) ?_ ?_ ?_ (fun a a1 a2 k => ?_)
  · rfl
  · exact (((Sam.refl.nN (by omega)).nN (by omega)).uR (by omega)).uI (by omega)
  · simp (disch := first | omega | rfl) only [mS_uI, mS_uA, mS_uJ, mS_uR, mS_uX, mR_uI, mR_uA, mR_uJ, mR_uX, mX_uI, mX_uA, mX_uJ, mX_uR, mI_s, mI_n, mI_A, mI_An, mI_uJ, mI_uR, mI_uX, mJ_uI, mJ_uA, mJ_uR, mJ_uX, onR_s, kC_v, kC_n, kC_t, mS_nN, mS_nNs]
  · simp (disch := first | omega | rfl) only [mS_uI, mS_uA, mS_uJ, mS_uR, mS_uX, mR_uI, mR_uA, mR_uJ, mR_uX, mX_uI, mX_uA, mX_uJ, mX_uR, mI_s, mI_n, mI_A, mI_An, mI_uJ, mI_uR, mI_uX, mJ_uI, mJ_uA, mJ_uR, mJ_uX, onR_s, kC_v, kC_n, kC_t, mR_nR, mR_nN, mR_es]
  · simp (disch := first | omega | rfl) only [mS_uI, mS_uA, mS_uJ, mS_uR, mS_uX, mR_uI, mR_uA, mR_uJ, mR_uX, mX_uI, mX_uA, mX_uJ, mX_uR, mI_s, mI_n, mI_A, mI_An, mI_uJ, mI_uR, mI_uX, mJ_uI, mJ_uA, mJ_uR, mJ_uX, onR_s, kC_v, kC_n, kC_t, mS_nN, mS_nNs]
  · have h0 : (nI 0 : Int32) = 0 := nI_0
    rcases (by omega : a = x ∨ a = x + 1) with rfl | rfl
    · by_cases hk : k = 1
      · subst hk; simp (disch := first | omega | rfl) only [mI_s, h0]
      · simp (disch := first | omega | rfl) only [mS_uI, mS_uA, mS_uJ, mS_uR, mS_uX, mR_uI, mR_uA, mR_uJ, mR_uX, mX_uI, mX_uA, mX_uJ, mX_uR, mI_s, mI_n, mI_A, mI_An, mI_uJ, mI_uR, mI_uX, mJ_uI, mJ_uA, mJ_uR, mJ_uX, onR_s, kC_v, kC_n, kC_t, mI_nN, mI_nNs]
    · simp (disch := first | omega | rfl) only [mS_uI, mS_uA, mS_uJ, mS_uR, mS_uX, mR_uI, mR_uA, mR_uJ, mR_uX, mX_uI, mX_uA, mX_uJ, mX_uR, mI_s, mI_n, mI_A, mI_An, mI_uJ, mI_uR, mI_uX, mJ_uI, mJ_uA, mJ_uR, mJ_uX, onR_s, kC_v, kC_n, kC_t, mI_nN, mI_nNs]
/-- a State, some members in -/
def NwS (μ0 μ : Mu) (s m : Nat) : Prop := mX μ = s + 5 + 3 * m ∧ (∀ a, a < s → Sam μ0 μ a) ∧ (∀ a, s ≤ a → a < s + 5 + 3 * m → ∀ k, mI μ a k = 0) ∧ mS μ s = (9, 6) ∧ mR μ s 0 = some (s + 1) ∧ mR μ s 4 = some (s + 2) ∧ mR μ s 5 = some (s + 3) ∧ mS μ (s + 1) = (23, 6) ∧ mS μ (s + 2) = (20, 2) ∧ mS μ (s + 3) = (5, 2) ∧ mR μ (s + 3) 0 = some (s + 4) ∧ mS μ (s + 4) = (20, 40) ∧ ∀ i, i < m → mR μ (s + 1) i = some (s + 5 + 3 * i) ∧ MbS μ (s + 5 + 3 * i)
theorem MbS.sm (h : MbS μ x) (e : ∀ a, x ≤ a → a < x + 3 → Sam μ μ' a) : MbS μ' x := by
  obtain ⟨b1, b2, b3, b4, b5⟩ := h
  exact ⟨(e _ (by omega) (by omega)).1.trans b1, ((e _ (by omega) (by omega)).2.2 _).trans b2, ((e _ (by omega) (by omega)).2.2 _).trans b3, (e _ (by omega) (by omega)).1.trans b4, (e _ (by omega) (by omega)).1.trans b5⟩
theorem l_72 (h1 : 1000 ≤ s) {μ0 : Mu} (hq : ∀ μ', NwS μ0 μ' s 6 → EM 72 (d + 1) 73 [some (.ref s), some (.int (nI 6))] [] μ' (22, 452) Q) : ∀ j m μ u1 u2, m + j = 6 → u1 = 4 + 3 * m → u2 = 50 + 67 * m → NwS μ0 μ s m → EM 72 (d + 1) 48 [some (.ref s), some (.int (nI m))] [] μ (u1, u2) Q := by
  intro j
  induction j with
  | zero =>
    intro m μ u1 u2 hm e1 e2 hN
    obtain rfl : m = 6 := by omega
    subst e1; subst e2
    rw [e_72_48]
    simp (disch := first | omega | rfl) only [e_72_0, e_72_1, e_72_4, e_72_5, e_72_7, e_72_10, e_72_13, e_72_14, e_72_15, e_72_18, e_72_19, e_72_20, e_72_23, e_72_24, e_72_25, e_72_28, e_72_29, e_72_30, e_72_32, e_72_35, e_72_36, e_72_39, e_72_40, e_72_43, e_72_46, e_72_47, e_72_49, e_72_51, e_72_54, e_72_55, e_72_58, e_72_59, e_72_62, e_72_63, e_72_66, e_72_67, e_72_70, e_72_74, e_72_77, e_72_78, e_72_80, e_72_81, e_72_82, e_72_85, e_72_86, e_72_87, e_72_88, ge1, ule_t, true_or, or_true, nI_add, nI_mul, nI_sub, nI_clamp, nI_lt_t, nI_lt_f, nI_le_t, nI_le_f, nI_eq_t, nI_eq_f, vp_nI, tI, fI, not_true, not_false_iff, true_and, and_true, Classical.not_not, mS_uI, mS_uA, mS_uJ, mS_uR, mS_uX, mR_uI, mR_uA, mR_uJ, mR_uX, mX_uI, mX_uA, mX_uJ, mX_uR, mI_s, mI_n, mI_A, mI_An, mI_uJ, mI_uR, mI_uX, mJ_uI, mJ_uA, mJ_uR, mJ_uX, onR_s, kC_v, kC_n, kC_t]
    exact hq μ hN
  | succ j ih =>
    intro m μ u1 u2 hm e1 e2 hN
    have hN0 := hN
    obtain ⟨a0, a1, a2, a3, a4, a5, a6, a7, a8, a9, a10, a11, a12⟩ := hN
    rw [e_72_48]
    simp (disch := first | omega | rfl) only [e_72_0, e_72_1, e_72_4, e_72_5, e_72_7, e_72_10, e_72_13, e_72_14, e_72_15, e_72_18, e_72_19, e_72_20, e_72_23, e_72_24, e_72_25, e_72_28, e_72_29, e_72_30, e_72_32, e_72_35, e_72_36, e_72_39, e_72_40, e_72_43, e_72_46, e_72_47, e_72_49, e_72_51, e_72_54, e_72_55, e_72_58, e_72_59, e_72_62, e_72_63, e_72_66, e_72_67, e_72_70, e_72_74, e_72_77, e_72_78, e_72_80, e_72_81, e_72_82, e_72_85, e_72_86, e_72_87, e_72_88, ge1, ule_t, true_or, or_true, nI_add, nI_mul, nI_sub, nI_clamp, nI_lt_t, nI_lt_f, nI_le_t, nI_le_f, nI_eq_t, nI_eq_f, vp_nI, tI, fI, not_true, not_false_iff, true_and, and_true, Classical.not_not, mS_uI, mS_uA, mS_uJ, mS_uR, mS_uX, mR_uI, mR_uA, mR_uJ, mR_uX, mX_uI, mX_uA, mX_uJ, mX_uR, mI_s, mI_n, mI_A, mI_An, mI_uJ, mI_uR, mI_uX, mJ_uI, mJ_uA, mJ_uR, mJ_uX, onR_s, kC_v, kC_n, kC_t, a0, a3, a4, uad_p, ule_p, leT, and_self, uN_n]
    refine n_60 a0 (by omega) (fun μ1 f0 f1 f2 f3 => ?_)
    have b3 : mS μ1 (s + 1) = (23, 6) := (f1 _ (by omega)).1.trans a7
    simp (disch := first | omega | rfl) only [e_72_0, e_72_1, e_72_4, e_72_5, e_72_7, e_72_10, e_72_13, e_72_14, e_72_15, e_72_18, e_72_19, e_72_20, e_72_23, e_72_24, e_72_25, e_72_28, e_72_29, e_72_30, e_72_32, e_72_35, e_72_36, e_72_39, e_72_40, e_72_43, e_72_46, e_72_47, e_72_49, e_72_51, e_72_54, e_72_55, e_72_58, e_72_59, e_72_62, e_72_63, e_72_66, e_72_67, e_72_70, e_72_74, e_72_77, e_72_78, e_72_80, e_72_81, e_72_82, e_72_85, e_72_86, e_72_87, e_72_88, ge1, ule_t, true_or, or_true, nI_add, nI_mul, nI_sub, nI_clamp, nI_lt_t, nI_lt_f, nI_le_t, nI_le_f, nI_eq_t, nI_eq_f, vp_nI, tI, fI, not_true, not_false_iff, true_and, and_true, Classical.not_not, mS_uI, mS_uA, mS_uJ, mS_uR, mS_uX, mR_uI, mR_uA, mR_uJ, mR_uX, mX_uI, mX_uA, mX_uJ, mX_uR, mI_s, mI_n, mI_A, mI_An, mI_uJ, mI_uR, mI_uX, mJ_uI, mJ_uA, mJ_uR, mJ_uX, onR_s, kC_v, kC_n, kC_t, kC_n, b3, f2.1, uad_p, ule_p, leT, and_self, or_false, false_or]
    have f4 : ∀ a, a < s + 5 + 3 * m → a ≠ s + 1 → Sam μ (uR μ1 (s + 1) m (some (s + 5 + 3 * m))) a := fun a h h2 => (f1 a h).uR h2
    refine ih (m + 1) _ _ _ (by omega) (by omega) (by omega) ⟨?_, fun a ha => (a1 a ha).trans (f4 a (by omega) (by omega)), fun a h1 h2 k => ?_, ?_, ?_, ?_, ?_, ?_, ?_, ?_, ?_, ?_, fun i hi => ?_⟩
    · show mX μ1 = _; omega
    · show mI μ1 a k = 0
      by_cases h : a < s + 5 + 3 * m
      · rw [(f1 a h).2.1]; exact a2 a h1 h k
      · exact f3 a (by omega) (by omega) k
    · exact (f4 s (by omega) (by omega)).1.trans a3
    · exact ((f4 s (by omega) (by omega)).2.2 _).trans a4
    · exact ((f4 s (by omega) (by omega)).2.2 _).trans a5
    · exact ((f4 s (by omega) (by omega)).2.2 _).trans a6
    · exact b3
    · exact (f4 _ (by omega) (by omega)).1.trans a8
    · exact (f4 _ (by omega) (by omega)).1.trans a9
    · exact ((f4 _ (by omega) (by omega)).2.2 _).trans a10
    · exact (f4 _ (by omega) (by omega)).1.trans a11
    · by_cases him : i = m
      · subst him
        exact ⟨mR_sR, f2.sm (fun a h1 h2 => Sam.refl.uR (by omega))⟩
      · obtain ⟨g1, g2⟩ := a12 i (by omega)
        refine ⟨?_, g2.sm (fun a h1 h2 => f4 a (by omega) (by omega))⟩
        rw [mR_nR (by omega), (f1 _ (by omega)).2.2]
        exact g1
/-- a State has been made -/
def EnS (μ μ' : Mu) (s : Nat) : Prop := mX μ' = s + 23 ∧ (∀ a, a < s → Sam μ μ' a) ∧ StS μ' s ∧ ∀ a, s ≤ a → a < s + 23 → ∀ k, mI μ' a k = if a = s + 2 ∧ k = 0 then nI 40 else if a = s + 2 ∧ k = 1 then nI 2 else 0
theorem n_72 (hX : mX μ = s) (h1 : 1000 ≤ s) (hq : ∀ μ', EnS μ μ' s → Q (some none) μ') : Ev (d + 2) 72 [.ref s] (nN μ s 9 6) Q := by
  have h0 : (nI 0 : Int32) = 0 := nI_0
  rw [in_72]
  simp (disch := first | omega | rfl) only [e_72_0, e_72_1, e_72_4, e_72_5, e_72_7, e_72_10, e_72_13, e_72_14, e_72_15, e_72_18, e_72_19, e_72_20, e_72_23, e_72_24, e_72_25, e_72_28, e_72_29, e_72_30, e_72_32, e_72_35, e_72_36, e_72_39, e_72_40, e_72_43, e_72_46, e_72_47, e_72_49, e_72_51, e_72_54, e_72_55, e_72_58, e_72_59, e_72_62, e_72_63, e_72_66, e_72_67, e_72_70, e_72_73, e_72_74, e_72_77, e_72_78, e_72_80, e_72_81, e_72_82, e_72_85, e_72_86, e_72_87, e_72_88, ge1, ule_t, true_or, or_true, nI_add, nI_mul, nI_sub, nI_clamp, nI_lt_t, nI_lt_f, nI_le_t, nI_le_f, nI_eq_t, nI_eq_f, vp_nI, tI, fI, not_true, not_false_iff, true_and, and_true, Classical.not_not, mS_uI, mS_uA, mS_uJ, mS_uR, mS_uX, mR_uI, mR_uA, mR_uJ, mR_uX, mX_uI, mX_uA, mX_uJ, mX_uR, mI_s, mI_n, mI_A, mI_An, mI_uJ, mI_uR, mI_uX, mJ_uI, mJ_uA, mJ_uR, mJ_uX, onR_s, kC_v, kC_n, kC_t, uN_n, mX_nN, mS_nN, mS_nNs, uad_p, ule_p, leT, and_self]
  refine n_33 (x := s + 3) ?_ (by omega) (fun μ1 f0 f1 f2 f3 f4 f5 => ?_)
  · rfl
  have b1 : mS μ1 s = (9, 6) := by rw [(f1 s (by omega)).1]; simp (disch := first | omega | rfl) only [mS_uI, mS_uA, mS_uJ, mS_uR, mS_uX, mR_uI, mR_uA, mR_uJ, mR_uX, mX_uI, mX_uA, mX_uJ, mX_uR, mI_s, mI_n, mI_A, mI_An, mI_uJ, mI_uR, mI_uX, mJ_uI, mJ_uA, mJ_uR, mJ_uX, onR_s, kC_v, kC_n, kC_t, mS_nN, mS_nNs]
  simp (disch := first | omega | rfl) only [e_72_0, e_72_1, e_72_4, e_72_5, e_72_7, e_72_10, e_72_13, e_72_14, e_72_15, e_72_18, e_72_19, e_72_20, e_72_23, e_72_24, e_72_25, e_72_28, e_72_29, e_72_30, e_72_32, e_72_35, e_72_36, e_72_39, e_72_40, e_72_43, e_72_46, e_72_47, e_72_49, e_72_51, e_72_54, e_72_55, e_72_58, e_72_59, e_72_62, e_72_63, e_72_66, e_72_67, e_72_70, e_72_73, e_72_74, e_72_77, e_72_78, e_72_80, e_72_81, e_72_82, e_72_85, e_72_86, e_72_87, e_72_88, ge1, ule_t, true_or, or_true, nI_add, nI_mul, nI_sub, nI_clamp, nI_lt_t, nI_lt_f, nI_le_t, nI_le_f, nI_eq_t, nI_eq_f, vp_nI, tI, fI, not_true, not_false_iff, true_and, and_true, Classical.not_not, mS_uI, mS_uA, mS_uJ, mS_uR, mS_uX, mR_uI, mR_uA, mR_uJ, mR_uX, mX_uI, mX_uA, mX_uJ, mX_uR, mI_s, mI_n, mI_A, mI_An, mI_uJ, mI_uR, mI_uX, mJ_uI, mJ_uA, mJ_uR, mJ_uX, onR_s, kC_v, kC_n, kC_t, kC_n, b1, uad_p, ule_p, leT, and_self]
  refine l_72 h1 (μ0 := μ) (fun μ2 hN => ?_) 6 0 _ _ _ (by omega) (by rfl) (by rfl) ⟨?_, fun a ha => ?_, fun a a1 a2 k => ?_, ?_, ?_, ?_, ?_, ?_, ?_, ?_, ?_, ?_, fun i hi => absurd hi (Nat.not_lt_zero i)⟩
  · obtain ⟨a0, a1, a2, a3, a4, a5, a6, a7, a8, a9, a10, a11, a12⟩ := hN
    simp (disch := first | omega | rfl) only [e_72_0, e_72_1, e_72_4, e_72_5, e_72_7, e_72_10, e_72_13, e_72_14, e_72_15, e_72_18, e_72_19, e_72_20, e_72_23, e_72_24, e_72_25, e_72_28, e_72_29, e_72_30, e_72_32, e_72_35, e_72_36, e_72_39, e_72_40, e_72_43, e_72_46, e_72_47, e_72_49, e_72_51, e_72_54, e_72_55, e_72_58, e_72_59, e_72_62, e_72_63, e_72_66, e_72_67, e_72_70, e_72_73, e_72_74, e_72_77, e_72_78, e_72_80, e_72_81, e_72_82, e_72_85, e_72_86, e_72_87, e_72_88, ge1, ule_t, true_or, or_true, nI_add, nI_mul, nI_sub, nI_clamp, nI_lt_t, nI_lt_f, nI_le_t, nI_le_f, nI_eq_t, nI_eq_f, vp_nI, tI, fI, not_true, not_false_iff, true_and, and_true, Classical.not_not, mS_uI, mS_uA, mS_uJ, mS_uR, mS_uX, mR_uI, mR_uA, mR_uJ, mR_uX, mX_uI, mX_uA, mX_uJ, mX_uR, mI_s, mI_n, mI_A, mI_An, mI_uJ, mI_uR, mI_uX, mJ_uI, mJ_uA, mJ_uR, mJ_uX, onR_s, kC_v, kC_n, kC_t, a3, a5, a8, uad_p, ule_p, leT, and_self]
    refine hq _ ⟨a0, fun a ha => ((a1 a ha).uI (by omega)).uI (by omega), ⟨h1, a3, a4, a5, a6, a7, a8, a9, a10, a11, fun m hm => (a12 m hm).1, fun m hm => (a12 m hm).2.1, fun m hm => ?_, fun m hm => ?_, fun m hm => ?_, fun m hm => ?_⟩, fun a b1 b2 k => ?_⟩
    · have := (a12 m hm).2.2.1
      rw [show s + 5 + 3 * m + 1 = s + 6 + 3 * m by omega] at this
      exact this
    · have := (a12 m hm).2.2.2.1
      rw [show s + 5 + 3 * m + 2 = s + 7 + 3 * m by omega] at this
      exact this
    · have := (a12 m hm).2.2.2.2.1
      rw [show s + 5 + 3 * m + 1 = s + 6 + 3 * m by omega] at this
      exact this
    · have := (a12 m hm).2.2.2.2.2
      rw [show s + 5 + 3 * m + 2 = s + 7 + 3 * m by omega] at this
      exact this
    · have hz := a2 a b1 (by omega) k
      by_cases h2 : a = s + 2
      · subst h2
        by_cases k0 : k = 0
        · subst k0
          rw [if_pos ⟨rfl, rfl⟩, mI_n (by omega), mI_s]
        · rw [if_neg (by omega)]
          by_cases k1 : k = 1
          · subst k1
            rw [if_pos ⟨rfl, rfl⟩, mI_s]
          · rw [if_neg (by omega), mI_n (by omega), mI_n (by omega)]
            exact hz
      · rw [if_neg (by omega), if_neg (by omega), mI_n (by omega), mI_n (by omega)]
        exact hz
  · show mX μ1 = _; omega
  · refine Sam.uR (Sam.trans ?_ (f1 a (by omega))) (by omega)
    exact (((((((Sam.refl.nN (by omega)).nN (by omega)).uR (by omega)).uI (by omega)).uI (by omega)).uI (by omega)).nN (by omega)).uR (by omega)
  · show mI μ1 a k = 0
    by_cases h : a < s + 3
    · rw [(f1 a h).2.1]
      rcases (by omega : a = s ∨ a = s + 1 ∨ a = s + 1 + 1) with rfl | rfl | rfl
      · rcases (by omega : k = 1 ∨ k = 2 ∨ k = 3 ∨ (k ≠ 1 ∧ k ≠ 2 ∧ k ≠ 3)) with rfl | rfl | rfl | ⟨k1, k2, k3⟩
        · simp (disch := first | omega | rfl) only [mS_uI, mS_uA, mS_uJ, mS_uR, mS_uX, mR_uI, mR_uA, mR_uJ, mR_uX, mX_uI, mX_uA, mX_uJ, mX_uR, mI_s, mI_n, mI_A, mI_An, mI_uJ, mI_uR, mI_uX, mJ_uI, mJ_uA, mJ_uR, mJ_uX, onR_s, kC_v, kC_n, kC_t, mI_nN, mI_nNs, h0]
        · simp (disch := first | omega | rfl) only [mS_uI, mS_uA, mS_uJ, mS_uR, mS_uX, mR_uI, mR_uA, mR_uJ, mR_uX, mX_uI, mX_uA, mX_uJ, mX_uR, mI_s, mI_n, mI_A, mI_An, mI_uJ, mI_uR, mI_uX, mJ_uI, mJ_uA, mJ_uR, mJ_uX, onR_s, kC_v, kC_n, kC_t, mI_nN, mI_nNs, h0]
        · simp (disch := first | omega | rfl) only [mS_uI, mS_uA, mS_uJ, mS_uR, mS_uX, mR_uI, mR_uA, mR_uJ, mR_uX, mX_uI, mX_uA, mX_uJ, mX_uR, mI_s, mI_n, mI_A, mI_An, mI_uJ, mI_uR, mI_uX, mJ_uI, mJ_uA, mJ_uR, mJ_uX, onR_s, kC_v, kC_n, kC_t, mI_nN, mI_nNs, h0]
        · simp (disch := first | omega | rfl) only [mS_uI, mS_uA, mS_uJ, mS_uR, mS_uX, mR_uI, mR_uA, mR_uJ, mR_uX, mX_uI, mX_uA, mX_uJ, mX_uR, mI_s, mI_n, mI_A, mI_An, mI_uJ, mI_uR, mI_uX, mJ_uI, mJ_uA, mJ_uR, mJ_uX, onR_s, kC_v, kC_n, kC_t, mI_nN, mI_nNs]
      · simp (disch := first | omega | rfl) only [mS_uI, mS_uA, mS_uJ, mS_uR, mS_uX, mR_uI, mR_uA, mR_uJ, mR_uX, mX_uI, mX_uA, mX_uJ, mX_uR, mI_s, mI_n, mI_A, mI_An, mI_uJ, mI_uR, mI_uX, mJ_uI, mJ_uA, mJ_uR, mJ_uX, onR_s, kC_v, kC_n, kC_t, mI_nN, mI_nNs]
      · simp (disch := first | omega | rfl) only [mS_uI, mS_uA, mS_uJ, mS_uR, mS_uX, mR_uI, mR_uA, mR_uJ, mR_uX, mX_uI, mX_uA, mX_uJ, mX_uR, mI_s, mI_n, mI_A, mI_An, mI_uJ, mI_uR, mI_uX, mJ_uI, mJ_uA, mJ_uR, mJ_uX, onR_s, kC_v, kC_n, kC_t, mI_nN, mI_nNs]
    · exact f5 a (by omega) (by omega) k
  · exact b1
  · rw [mR_nR (by omega), (f1 s (by omega)).2.2]; simp (disch := first | omega | rfl) only [mS_uI, mS_uA, mS_uJ, mS_uR, mS_uX, mR_uI, mR_uA, mR_uJ, mR_uX, mX_uI, mX_uA, mX_uJ, mX_uR, mI_s, mI_n, mI_A, mI_An, mI_uJ, mI_uR, mI_uX, mJ_uI, mJ_uA, mJ_uR, mJ_uX, onR_s, kC_v, kC_n, kC_t, mR_nR, mR_nN, mR_es]
  · rw [mR_nR (by omega), (f1 s (by omega)).2.2]; simp (disch := first | omega | rfl) only [mS_uI, mS_uA, mS_uJ, mS_uR, mS_uX, mR_uI, mR_uA, mR_uJ, mR_uX, mX_uI, mX_uA, mX_uJ, mX_uR, mI_s, mI_n, mI_A, mI_An, mI_uJ, mI_uR, mI_uX, mJ_uI, mJ_uA, mJ_uR, mJ_uX, onR_s, kC_v, kC_n, kC_t, mR_nR, mR_nN, mR_es]
  · exact mR_sR
  · show mS μ1 (s + 1) = _; rw [(f1 _ (by omega)).1]; simp (disch := first | omega | rfl) only [mS_uI, mS_uA, mS_uJ, mS_uR, mS_uX, mR_uI, mR_uA, mR_uJ, mR_uX, mX_uI, mX_uA, mX_uJ, mX_uR, mI_s, mI_n, mI_A, mI_An, mI_uJ, mI_uR, mI_uX, mJ_uI, mJ_uA, mJ_uR, mJ_uX, onR_s, kC_v, kC_n, kC_t, mS_nN, mS_nNs]
  · show mS μ1 (s + 2) = _; rw [(f1 _ (by omega)).1]; simp (disch := first | omega | rfl) only [mS_uI, mS_uA, mS_uJ, mS_uR, mS_uX, mR_uI, mR_uA, mR_uJ, mR_uX, mX_uI, mX_uA, mX_uJ, mX_uR, mI_s, mI_n, mI_A, mI_An, mI_uJ, mI_uR, mI_uX, mJ_uI, mJ_uA, mJ_uR, mJ_uX, onR_s, kC_v, kC_n, kC_t, mS_nN, mS_nNs]
  · exact f2
  · rw [mR_nR (by omega)]; exact f3
  · exact f4
/-- a Script has been made -/
def EnC (μ μ' : Mu) (c : Nat) : Prop := mX μ' = c + 5 ∧ (∀ a, a < c → Sam μ μ' a) ∧ ScS μ' c ∧ ∀ a, c ≤ a → a < c + 5 → ∀ k, mI μ' a k = 0
theorem n_64 (hX : mX μ = c) (h1 : 1000 ≤ c) (hq : ∀ μ', EnC μ μ' c → Q (some none) μ') : Ev (d + 1) 64 [.ref c] (nN μ c 8 4) Q := by
  rw [in_64]
  simp (disch := first | omega | rfl) only [e_64_0, e_64_1, e_64_4, e_64_5, e_64_7, e_64_9, e_64_12, e_64_13, e_64_15, e_64_17, e_64_20, e_64_21, e_64_24, e_64_26, e_64_29, e_64_30, e_64_33, e_64_35, e_64_38, ge1, ule_t, true_or, or_true, nI_add, nI_mul, nI_sub, nI_clamp, nI_lt_t, nI_lt_f, nI_le_t, nI_le_f, nI_eq_t, nI_eq_f, vp_nI, tI, fI, not_true, not_false_iff, true_and, and_true, Classical.not_not, mS_uI, mS_uA, mS_uJ, mS_uR, mS_uX, mR_uI, mR_uA, mR_uJ, mR_uX, mX_uI, mX_uA, mX_uJ, mX_uR, mI_s, mI_n, mI_A, mI_An, mI_uJ, mI_uR, mI_uX, mJ_uI, mJ_uA, mJ_uR, mJ_uX, onR_s, kC_v, kC_n, kC_t, uN_n, mX_nN, mS_nN, mS_nNs, uad_p, ule_p, leT, and_self]
  refine hq _ ⟨?_, fun a ha => ?_, ⟨h1, ?_, ?_, ?_, ?_, ?_, ?_, ?_, ?_, ?_⟩, fun a a1 a2 k => ?_⟩
  · rfl
  · exact ((((((((Sam.refl.nN (by omega)).nN (by omega)).uR (by omega)).nN (by omega)).uR (by omega)).nN (by omega)).uR (by omega)).nN (by omega)).uR (by omega)
  · simp (disch := first | omega | rfl) only [mS_uI, mS_uA, mS_uJ, mS_uR, mS_uX, mR_uI, mR_uA, mR_uJ, mR_uX, mX_uI, mX_uA, mX_uJ, mX_uR, mI_s, mI_n, mI_A, mI_An, mI_uJ, mI_uR, mI_uX, mJ_uI, mJ_uA, mJ_uR, mJ_uX, onR_s, kC_v, kC_n, kC_t, mS_nN, mS_nNs]
  · simp (disch := first | omega | rfl) only [mS_uI, mS_uA, mS_uJ, mS_uR, mS_uX, mR_uI, mR_uA, mR_uJ, mR_uX, mX_uI, mX_uA, mX_uJ, mX_uR, mI_s, mI_n, mI_A, mI_An, mI_uJ, mI_uR, mI_uX, mJ_uI, mJ_uA, mJ_uR, mJ_uX, onR_s, kC_v, kC_n, kC_t, mR_nR, mR_nN, mR_es]
  · simp (disch := first | omega | rfl) only [mS_uI, mS_uA, mS_uJ, mS_uR, mS_uX, mR_uI, mR_uA, mR_uJ, mR_uX, mX_uI, mX_uA, mX_uJ, mX_uR, mI_s, mI_n, mI_A, mI_An, mI_uJ, mI_uR, mI_uX, mJ_uI, mJ_uA, mJ_uR, mJ_uX, onR_s, kC_v, kC_n, kC_t, mR_nR, mR_nN, mR_es]
  · simp (disch := first | omega | rfl) only [mS_uI, mS_uA, mS_uJ, mS_uR, mS_uX, mR_uI, mR_uA, mR_uJ, mR_uX, mX_uI, mX_uA, mX_uJ, mX_uR, mI_s, mI_n, mI_A, mI_An, mI_uJ, mI_uR, mI_uX, mJ_uI, mJ_uA, mJ_uR, mJ_uX, onR_s, kC_v, kC_n, kC_t, mR_nR, mR_nN, mR_es]
  · simp (disch := first | omega | rfl) only [mS_uI, mS_uA, mS_uJ, mS_uR, mS_uX, mR_uI, mR_uA, mR_uJ, mR_uX, mX_uI, mX_uA, mX_uJ, mX_uR, mI_s, mI_n, mI_A, mI_An, mI_uJ, mI_uR, mI_uX, mJ_uI, mJ_uA, mJ_uR, mJ_uX, onR_s, kC_v, kC_n, kC_t, mR_nR, mR_nN, mR_es]
  · simp (disch := first | omega | rfl) only [mS_uI, mS_uA, mS_uJ, mS_uR, mS_uX, mR_uI, mR_uA, mR_uJ, mR_uX, mX_uI, mX_uA, mX_uJ, mX_uR, mI_s, mI_n, mI_A, mI_An, mI_uJ, mI_uR, mI_uX, mJ_uI, mJ_uA, mJ_uR, mJ_uX, onR_s, kC_v, kC_n, kC_t, mS_nN, mS_nNs]
  · simp (disch := first | omega | rfl) only [mS_uI, mS_uA, mS_uJ, mS_uR, mS_uX, mR_uI, mR_uA, mR_uJ, mR_uX, mX_uI, mX_uA, mX_uJ, mX_uR, mI_s, mI_n, mI_A, mI_An, mI_uJ, mI_uR, mI_uX, mJ_uI, mJ_uA, mJ_uR, mJ_uX, onR_s, kC_v, kC_n, kC_t, mS_nN, mS_nNs]
  · simp (disch := first | omega | rfl) only [mS_uI, mS_uA, mS_uJ, mS_uR, mS_uX, mR_uI, mR_uA, mR_uJ, mR_uX, mX_uI, mX_uA, mX_uJ, mX_uR, mI_s, mI_n, mI_A, mI_An, mI_uJ, mI_uR, mI_uX, mJ_uI, mJ_uA, mJ_uR, mJ_uX, onR_s, kC_v, kC_n, kC_t, mS_nN, mS_nNs]
  · simp (disch := first | omega | rfl) only [mS_uI, mS_uA, mS_uJ, mS_uR, mS_uX, mR_uI, mR_uA, mR_uJ, mR_uX, mX_uI, mX_uA, mX_uJ, mX_uR, mI_s, mI_n, mI_A, mI_An, mI_uJ, mI_uR, mI_uX, mJ_uI, mJ_uA, mJ_uR, mJ_uX, onR_s, kC_v, kC_n, kC_t, mS_nN, mS_nNs]
  · rcases (by omega : a = c ∨ a = c + 1 ∨ a = c + 1 + 1 ∨ a = c + 1 + 1 + 1 ∨ a = c + 1 + 1 + 1 + 1) with rfl | rfl | rfl | rfl | rfl
    · simp (disch := first | omega | rfl) only [mS_uI, mS_uA, mS_uJ, mS_uR, mS_uX, mR_uI, mR_uA, mR_uJ, mR_uX, mX_uI, mX_uA, mX_uJ, mX_uR, mI_s, mI_n, mI_A, mI_An, mI_uJ, mI_uR, mI_uX, mJ_uI, mJ_uA, mJ_uR, mJ_uX, onR_s, kC_v, kC_n, kC_t, mI_nN, mI_nNs]
    · simp (disch := first | omega | rfl) only [mS_uI, mS_uA, mS_uJ, mS_uR, mS_uX, mR_uI, mR_uA, mR_uJ, mR_uX, mX_uI, mX_uA, mX_uJ, mX_uR, mI_s, mI_n, mI_A, mI_An, mI_uJ, mI_uR, mI_uX, mJ_uI, mJ_uA, mJ_uR, mJ_uX, onR_s, kC_v, kC_n, kC_t, mI_nN, mI_nNs]
    · simp (disch := first | omega | rfl) only [mS_uI, mS_uA, mS_uJ, mS_uR, mS_uX, mR_uI, mR_uA, mR_uJ, mR_uX, mX_uI, mX_uA, mX_uJ, mX_uR, mI_s, mI_n, mI_A, mI_An, mI_uJ, mI_uR, mI_uX, mJ_uI, mJ_uA, mJ_uR, mJ_uX, onR_s, kC_v, kC_n, kC_t, mI_nN, mI_nNs]
    · simp (disch := first | omega | rfl) only [mS_uI, mS_uA, mS_uJ, mS_uR, mS_uX, mR_uI, mR_uA, mR_uJ, mR_uX, mX_uI, mX_uA, mX_uJ, mX_uR, mI_s, mI_n, mI_A, mI_An, mI_uJ, mI_uR, mI_uX, mJ_uI, mJ_uA, mJ_uR, mJ_uX, onR_s, kC_v, kC_n, kC_t, mI_nN, mI_nNs]
    · simp (disch := first | omega | rfl) only [mS_uI, mS_uA, mS_uJ, mS_uR, mS_uX, mR_uI, mR_uA, mR_uJ, mR_uX, mX_uI, mX_uA, mX_uJ, mX_uR, mI_s, mI_n, mI_A, mI_An, mI_uJ, mI_uR, mI_uX, mJ_uI, mJ_uA, mJ_uR, mJ_uX, onR_s, kC_v, kC_n, kC_t, mI_nN, mI_nNs]
/-- a Descent -/
theorem n_86 (hX : mX μ = x) (h1 : 1000 ≤ x) (hq : ∀ μ', mX μ' = x + 2 → (∀ a, a < x → Sam μ μ' a) → mS μ' x = (10, 1) → mR μ' x 0 = some (x + 1) → mS μ' (x + 1) = (20, 32) → Q (some none) μ') : Ev (d + 1) 86 [.ref x] (nN μ x 10 1) Q := by
  rw [in_86]
  simp (disch := first | omega | rfl) only [e_86_0, e_86_1, e_86_4, e_86_5, e_86_7, e_86_9, e_86_12, ge1, ule_t, true_or, or_true, nI_add, nI_mul, nI_sub, nI_clamp, nI_lt_t, nI_lt_f, nI_le_t, nI_le_f, nI_eq_t, nI_eq_f, vp_nI, tI, fI, not_true, not_false_iff, true_and, and_true, Classical.not_not, mS_uI, mS_uA, mS_uJ, mS_uR, mS_uX, mR_uI, mR_uA, mR_uJ, mR_uX, mX_uI, mX_uA, mX_uJ, mX_uR, mI_s, mI_n, mI_A, mI_An, mI_uJ, mI_uR, mI_uX, mJ_uI, mJ_uA, mJ_uR, mJ_uX, onR_s, kC_v, kC_n, kC_t, uN_n, mX_nN, mS_nN, mS_nNs, uad_p, ule_p, leT, and_self]
  refine hq _ ?_ (fun a ha => ?_) ?_ ?_ ?_
  · rfl
  · exact ((Sam.refl.nN (by omega)).nN (by omega)).uR (by omega)
  · simp (disch := first | omega | rfl) only [mS_uI, mS_uA, mS_uJ, mS_uR, mS_uX, mR_uI, mR_uA, mR_uJ, mR_uX, mX_uI, mX_uA, mX_uJ, mX_uR, mI_s, mI_n, mI_A, mI_An, mI_uJ, mI_uR, mI_uX, mJ_uI, mJ_uA, mJ_uR, mJ_uX, onR_s, kC_v, kC_n, kC_t, mS_nN, mS_nNs]
  · simp (disch := first | omega | rfl) only [mS_uI, mS_uA, mS_uJ, mS_uR, mS_uX, mR_uI, mR_uA, mR_uJ, mR_uX, mX_uI, mX_uA, mX_uJ, mX_uR, mI_s, mI_n, mI_A, mI_An, mI_uJ, mI_uR, mI_uX, mJ_uI, mJ_uA, mJ_uR, mJ_uX, onR_s, kC_v, kC_n, kC_t, mR_nR, mR_nN, mR_es]
  · simp (disch := first | omega | rfl) only [mS_uI, mS_uA, mS_uJ, mS_uR, mS_uX, mR_uI, mR_uA, mR_uJ, mR_uX, mX_uI, mX_uA, mX_uJ, mX_uR, mI_s, mI_n, mI_A, mI_An, mI_uJ, mI_uR, mI_uX, mJ_uI, mJ_uA, mJ_uR, mJ_uX, onR_s, kC_v, kC_n, kC_t, mS_nN, mS_nNs]
theorem n_29 (hX : mX μ = 1062) (hq : ∀ μ', mX μ' = 1067 → (∀ a, a < 1062 → Sam μ μ' a) → ShD μ' → Q (some none) μ') : Ev (d + 2) 29 [.ref 1062] (nN μ 1062 4 4) Q := by
  rw [in_29]
  simp (disch := first | omega | rfl) only [e_29_0, e_29_1, e_29_4, e_29_5, e_29_8, e_29_9, e_29_12, e_29_15, e_29_16, e_29_19, e_29_20, e_29_23, e_29_26, e_29_27, e_29_28, e_29_31, e_29_32, e_29_33, e_29_36, ge1, ule_t, true_or, or_true, nI_add, nI_mul, nI_sub, nI_clamp, nI_lt_t, nI_lt_f, nI_le_t, nI_le_f, nI_eq_t, nI_eq_f, vp_nI, tI, fI, not_true, not_false_iff, true_and, and_true, Classical.not_not, mS_uI, mS_uA, mS_uJ, mS_uR, mS_uX, mR_uI, mR_uA, mR_uJ, mR_uX, mX_uI, mX_uA, mX_uJ, mX_uR, mI_s, mI_n, mI_A, mI_An, mI_uJ, mI_uR, mI_uX, mJ_uI, mJ_uA, mJ_uR, mJ_uX, onR_s, kC_v, kC_n, kC_t, uN_n, mX_nN, mS_nN, mS_nNs, uad_p, ule_p, leT, and_self]
  refine n_86 (x := 1063) ?_ (by omega) (fun μ1 f0 f1 f2 f3 f4 => ?_)
  · rfl
  have b1 : mS μ1 1062 = (4, 4) := by rw [(f1 _ (by omega)).1]; simp (disch := first | omega | rfl) only [mS_uI, mS_uA, mS_uJ, mS_uR, mS_uX, mR_uI, mR_uA, mR_uJ, mR_uX, mX_uI, mX_uA, mX_uJ, mX_uR, mI_s, mI_n, mI_A, mI_An, mI_uJ, mI_uR, mI_uX, mJ_uI, mJ_uA, mJ_uR, mJ_uX, onR_s, kC_v, kC_n, kC_t, mS_nN, mS_nNs]
  simp (disch := first | omega | rfl) only [e_29_0, e_29_1, e_29_4, e_29_5, e_29_8, e_29_9, e_29_12, e_29_15, e_29_16, e_29_19, e_29_20, e_29_23, e_29_26, e_29_27, e_29_28, e_29_31, e_29_32, e_29_33, e_29_36, ge1, ule_t, true_or, or_true, nI_add, nI_mul, nI_sub, nI_clamp, nI_lt_t, nI_lt_f, nI_le_t, nI_le_f, nI_eq_t, nI_eq_f, vp_nI, tI, fI, not_true, not_false_iff, true_and, and_true, Classical.not_not, mS_uI, mS_uA, mS_uJ, mS_uR, mS_uX, mR_uI, mR_uA, mR_uJ, mR_uX, mX_uI, mX_uA, mX_uJ, mX_uR, mI_s, mI_n, mI_A, mI_An, mI_uJ, mI_uR, mI_uX, mJ_uI, mJ_uA, mJ_uR, mJ_uX, onR_s, kC_v, kC_n, kC_t, kC_n, b1, uN_n, f0, uad_p, ule_p, leT, and_self]
  refine n_86 f0 (by omega) (fun μ2 g0 g1 g2 g3 g4 => ?_)
  have b2 : mS μ2 1062 = (4, 4) := by rw [(g1 _ (by omega)).1]; exact b1
  simp (disch := first | omega | rfl) only [e_29_0, e_29_1, e_29_4, e_29_5, e_29_8, e_29_9, e_29_12, e_29_15, e_29_16, e_29_19, e_29_20, e_29_23, e_29_26, e_29_27, e_29_28, e_29_31, e_29_32, e_29_33, e_29_36, ge1, ule_t, true_or, or_true, nI_add, nI_mul, nI_sub, nI_clamp, nI_lt_t, nI_lt_f, nI_le_t, nI_le_f, nI_eq_t, nI_eq_f, vp_nI, tI, fI, not_true, not_false_iff, true_and, and_true, Classical.not_not, mS_uI, mS_uA, mS_uJ, mS_uR, mS_uX, mR_uI, mR_uA, mR_uJ, mR_uX, mX_uI, mX_uA, mX_uJ, mX_uR, mI_s, mI_n, mI_A, mI_An, mI_uJ, mI_uR, mI_uX, mJ_uI, mJ_uA, mJ_uR, mJ_uX, onR_s, kC_v, kC_n, kC_t, kC_n, b2, uad_p, ule_p, leT, and_self]
  refine hq _ g0 (fun a ha => ?_) ⟨b2, ?_, ?_, ?_, ?_, ?_, ?_, ?_, ?_⟩
  · have e1 : Sam μ μ1 a := (Sam.refl.nN (by omega)).trans (f1 a (by omega))
    have e2 : Sam μ μ2 a := (e1.uR (by omega)).trans (g1 a (by omega))
    exact ((e2.uR (by omega)).uI (by omega)).uI (by omega)
  · simp (disch := first | omega | rfl) only [mS_uI, mS_uA, mS_uJ, mS_uR, mS_uX, mR_uI, mR_uA, mR_uJ, mR_uX, mX_uI, mX_uA, mX_uJ, mX_uR, mI_s, mI_n, mI_A, mI_An, mI_uJ, mI_uR, mI_uX, mJ_uI, mJ_uA, mJ_uR, mJ_uX, onR_s, kC_v, kC_n, kC_t, mR_nR, (g1 1062 (by omega)).2.2, mR_es]
  · simp (disch := first | omega | rfl) only [mS_uI, mS_uA, mS_uJ, mS_uR, mS_uX, mR_uI, mR_uA, mR_uJ, mR_uX, mX_uI, mX_uA, mX_uJ, mX_uR, mI_s, mI_n, mI_A, mI_An, mI_uJ, mI_uR, mI_uX, mJ_uI, mJ_uA, mJ_uR, mJ_uX, onR_s, kC_v, kC_n, kC_t, mR_es]
  · show mS μ2 1063 = _; rw [(g1 _ (by omega)).1]; exact f2
  · exact g2
  · simp (disch := first | omega | rfl) only [mS_uI, mS_uA, mS_uJ, mS_uR, mS_uX, mR_uI, mR_uA, mR_uJ, mR_uX, mX_uI, mX_uA, mX_uJ, mX_uR, mI_s, mI_n, mI_A, mI_An, mI_uJ, mI_uR, mI_uX, mJ_uI, mJ_uA, mJ_uR, mJ_uX, onR_s, kC_v, kC_n, kC_t, mR_nR, (g1 1063 (by omega)).2.2, f3]
  · simp (disch := first | omega | rfl) only [mS_uI, mS_uA, mS_uJ, mS_uR, mS_uX, mR_uI, mR_uA, mR_uJ, mR_uX, mX_uI, mX_uA, mX_uJ, mX_uR, mI_s, mI_n, mI_A, mI_An, mI_uJ, mI_uR, mI_uX, mJ_uI, mJ_uA, mJ_uR, mJ_uX, onR_s, kC_v, kC_n, kC_t, mR_nR, g3]
  · show mS μ2 1064 = _; rw [(g1 _ (by omega)).1]; exact f4
  · exact g4
end NwC


