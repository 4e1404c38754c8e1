/-! the start of the law -/
section Sta
variable {d L : Nat} {Q : Po} {xs : Nat → Int32} {μ μ' μ1 μ2 : Mu} {s c a b k n : Nat} {r tn : Nat → Int32} {pr : Nat → Nat → Int32} {F : Nat → Int32} {rt : Int32}
theorem Sam.uA (h : Sam μ μ' a) (hb : a ≠ b) : Sam μ (uA μ' b F) a := ⟨h.1, fun j => (mI_An hb).trans (h.2.1 j), h.2.2⟩
theorem s164' (hM : ShM μ) (hR : RN (mI μ 1302)) (hq : Q (some none) (uA (uA μ 1302 rZ) 1300 (tZ (mI μ 1300)))) : Ev (d + 1) 164 [.ref 1298] μ Q := by
  rw [s_164 hM hR]
  exact hq
/-- the reference has been made -/
def MoF (μ μ' : Mu) : Prop := mX μ' = 1309 ∧ (∀ a, a < 1298 → Sam μ μ' a) ∧ ShM μ' ∧ mI μ' 1302 = rZ ∧ mI μ' 1300 = tZ (fun _ => 0) ∧ mI μ' 1298 8 = 0 ∧ mI μ' 1298 2 = 0 ∧ mI μ' 1298 18 = 0 ∧ mI μ' 1298 21 = -1 ∧ mI μ' 1298 26 = 0
theorem n_160 (hX : mX μ = 1298) (hq : ∀ μ', MoF μ μ' → Q (some none) μ') : Ev (d + 2) 160 [.ref 1298] (nN μ 1298 12 27) Q := by
  rw [in_160]
  simp (disch := first | omega | rfl) only [e_160_0, e_160_1, e_160_4, e_160_5, e_160_8, e_160_10, e_160_13, e_160_14, e_160_16, e_160_18, e_160_21, e_160_22, e_160_24, e_160_26, e_160_29, e_160_30, e_160_33, e_160_35, e_160_38, e_160_39, e_160_42, e_160_44, e_160_47, e_160_48, e_160_51, e_160_53, e_160_56, e_160_57, e_160_59, e_160_61, e_160_64, e_160_65, e_160_67, e_160_69, e_160_72, e_160_73, e_160_75, e_160_77, e_160_80, e_160_81, e_160_82, e_160_85, e_160_86, e_160_88, e_160_90, e_160_93, e_160_94, e_160_97, ge1, ule_t, true_or, or_true, nI_add, nI_mul, nI_sub, nI_clamp, nI_lt_t, nI_lt_f, nI_le_t, nI_le_f, nI_eq_t, nI_eq_f, vp_nI, tI, fI, not_true, not_false_iff, true_and, and_true, Classical.not_not, mS_uI, mS_uA, mS_uJ, mS_uR, mS_uX, mR_uI, mR_uA, mR_uJ, mR_uX, mX_uI, mX_uA, mX_uJ, mX_uR, mI_s, mI_n, mI_A, mI_An, mI_uJ, mI_uR, mI_uX, mJ_uI, mJ_uA, mJ_uR, mJ_uX, onR_s, kC_v, kC_n, kC_t, uN_n, mX_nN, mS_nN, mS_nNs, uad_p, ule_p, leT, and_self]
  have fin : ∀ μ2 : Mu, mX μ2 = 1309 → (∀ a, a < 1298 → Sam μ μ2 a) → ShM μ2 → mI μ2 1302 = (fun _ => 0) → mI μ2 1300 = (fun _ => 0) → mI μ2 1298 8 = 0 → mI μ2 1298 2 = 0 → mI μ2 1298 18 = 0 → mI μ2 1298 21 = -1 → mI μ2 1298 26 = 0 → ∀ X rest T, (∀ μ', MoF μ μ' → X rest μ') → Ev (d + 1) 164 [.ref 1298] μ2 (kC X rest T) := fun μ2 h1 h2 h3 h4 h5 h6 h7 h8 h9 h10 X rest T hX => by
    refine s164' h3 (by rw [h4]; exact fun x _ => rfl) ?_
    rw [h5, kC_n]
    refine hX _ ⟨h1, fun a ha => ((h2 a ha).uA (by omega)).uA (by omega), h3, ?_, ?_, ?_, ?_, ?_, ?_, ?_⟩
    · funext j; rw [mI_An (by omega), mI_A]
    · funext j; rw [mI_A]
    · rw [mI_An (by omega), mI_An (by omega)]; exact h6
    · rw [mI_An (by omega), mI_An (by omega)]; exact h7
    · rw [mI_An (by omega), mI_An (by omega)]; exact h8
    · rw [mI_An (by omega), mI_An (by omega)]; exact h9
    · rw [mI_An (by omega), mI_An (by omega)]; exact h10
  refine fin _ ?_ (fun a ha => ?_) ⟨?_, ?_, ?_, ?_, ?_, ?_, ?_, ?_, ?_, ?_, ?_, ?_, ?_, ?_, ?_, ?_, ?_, ?_, ?_, ?_, ?_⟩ (funext fun k => ?_) (funext fun k => ?_) ?_ ?_ ?_ ?_ ?_ _ _ _ (fun μ' hF => ?_)
  · rfl
  · exact ((((((((((((((((((((((Sam.refl.nN (by omega)).nN (by omega)).uR (by omega)).nN (by omega)).uR (by omega)).nN (by omega)).uR (by omega)).nN (by omega)).uR (by omega)).nN (by omega)).uR (by omega)).nN (by omega)).uR (by omega)).nN (by omega)).uR (by omega)).nN (by omega)).uR (by omega)).nN (by omega)).uR (by omega)).uI (by omega)).nN (by omega)).uR (by omega))
  · simp (disch := first | omega | rfl) only [mS_uI, mS_uA, mS_uJ, mS_uR, mS_uX, mR_uI, mR_uA, mR_uJ, mR_uX, mX_uI, mX_uA, mX_uJ, mX_uR, mI_s, mI_n, mI_A, mI_An, mI_uJ, mI_uR, mI_uX, mJ_uI, mJ_uA, mJ_uR, mJ_uX, onR_s, kC_v, kC_n, kC_t, mS_nN, mS_nNs]
  · simp (disch := first | omega | rfl) only [mS_uI, mS_uA, mS_uJ, mS_uR, mS_uX, mR_uI, mR_uA, mR_uJ, mR_uX, mX_uI, mX_uA, mX_uJ, mX_uR, mI_s, mI_n, mI_A, mI_An, mI_uJ, mI_uR, mI_uX, mJ_uI, mJ_uA, mJ_uR, mJ_uX, onR_s, kC_v, kC_n, kC_t, mR_nR, mR_nN, mR_es]
  · simp (disch := first | omega | rfl) only [mS_uI, mS_uA, mS_uJ, mS_uR, mS_uX, mR_uI, mR_uA, mR_uJ, mR_uX, mX_uI, mX_uA, mX_uJ, mX_uR, mI_s, mI_n, mI_A, mI_An, mI_uJ, mI_uR, mI_uX, mJ_uI, mJ_uA, mJ_uR, mJ_uX, onR_s, kC_v, kC_n, kC_t, mR_nR, mR_nN, mR_es]
  · simp (disch := first | omega | rfl) only [mS_uI, mS_uA, mS_uJ, mS_uR, mS_uX, mR_uI, mR_uA, mR_uJ, mR_uX, mX_uI, mX_uA, mX_uJ, mX_uR, mI_s, mI_n, mI_A, mI_An, mI_uJ, mI_uR, mI_uX, mJ_uI, mJ_uA, mJ_uR, mJ_uX, onR_s, kC_v, kC_n, kC_t, mR_nR, mR_nN, mR_es]
  · simp (disch := first | omega | rfl) only [mS_uI, mS_uA, mS_uJ, mS_uR, mS_uX, mR_uI, mR_uA, mR_uJ, mR_uX, mX_uI, mX_uA, mX_uJ, mX_uR, mI_s, mI_n, mI_A, mI_An, mI_uJ, mI_uR, mI_uX, mJ_uI, mJ_uA, mJ_uR, mJ_uX, onR_s, kC_v, kC_n, kC_t, mR_nR, mR_nN, mR_es]
  · simp (disch := first | omega | rfl) only [mS_uI, mS_uA, mS_uJ, mS_uR, mS_uX, mR_uI, mR_uA, mR_uJ, mR_uX, mX_uI, mX_uA, mX_uJ, mX_uR, mI_s, mI_n, mI_A, mI_An, mI_uJ, mI_uR, mI_uX, mJ_uI, mJ_uA, mJ_uR, mJ_uX, onR_s, kC_v, kC_n, kC_t, mR_nR, mR_nN, mR_es]
  · simp (disch := first | omega | rfl) only [mS_uI, mS_uA, mS_uJ, mS_uR, mS_uX, mR_uI, mR_uA, mR_uJ, mR_uX, mX_uI, mX_uA, mX_uJ, mX_uR, mI_s, mI_n, mI_A, mI_An, mI_uJ, mI_uR, mI_uX, mJ_uI, mJ_uA, mJ_uR, mJ_uX, onR_s, kC_v, kC_n, kC_t, mR_nR, mR_nN, mR_es]
  · simp (disch := first | omega | rfl) only [mS_uI, mS_uA, mS_uJ, mS_uR, mS_uX, mR_uI, mR_uA, mR_uJ, mR_uX, mX_uI, mX_uA, mX_uJ, mX_uR, mI_s, mI_n, mI_A, mI_An, mI_uJ, mI_uR, mI_uX, mJ_uI, mJ_uA, mJ_uR, mJ_uX, onR_s, kC_v, kC_n, kC_t, mR_nR, mR_nN, mR_es]
  · simp (disch := first | omega | rfl) only [mS_uI, mS_uA, mS_uJ, mS_uR, mS_uX, mR_uI, mR_uA, mR_uJ, mR_uX, mX_uI, mX_uA, mX_uJ, mX_uR, mI_s, mI_n, mI_A, mI_An, mI_uJ, mI_uR, mI_uX, mJ_uI, mJ_uA, mJ_uR, mJ_uX, onR_s, kC_v, kC_n, kC_t, mR_nR, mR_nN, mR_es]
  · simp (disch := first | omega | rfl) only [mS_uI, mS_uA, mS_uJ, mS_uR, mS_uX, mR_uI, mR_uA, mR_uJ, mR_uX, mX_uI, mX_uA, mX_uJ, mX_uR, mI_s, mI_n, mI_A, mI_An, mI_uJ, mI_uR, mI_uX, mJ_uI, mJ_uA, mJ_uR, mJ_uX, onR_s, kC_v, kC_n, kC_t, mR_nR, mR_nN, mR_es]
  · simp (disch := first | omega | rfl) only [mS_uI, mS_uA, mS_uJ, mS_uR, mS_uX, mR_uI, mR_uA, mR_uJ, mR_uX, mX_uI, mX_uA, mX_uJ, mX_uR, mI_s, mI_n, mI_A, mI_An, mI_uJ, mI_uR, mI_uX, mJ_uI, mJ_uA, mJ_uR, mJ_uX, onR_s, kC_v, kC_n, kC_t, mR_nR, mR_nN, mR_es]
  · simp (disch := first | omega | rfl) only [mS_uI, mS_uA, mS_uJ, mS_uR, mS_uX, mR_uI, mR_uA, mR_uJ, mR_uX, mX_uI, mX_uA, mX_uJ, mX_uR, mI_s, mI_n, mI_A, mI_An, mI_uJ, mI_uR, mI_uX, mJ_uI, mJ_uA, mJ_uR, mJ_uX, onR_s, kC_v, kC_n, kC_t, mS_nN, mS_nNs]
  · simp (disch := first | omega | rfl) only [mS_uI, mS_uA, mS_uJ, mS_uR, mS_uX, mR_uI, mR_uA, mR_uJ, mR_uX, mX_uI, mX_uA, mX_uJ, mX_uR, mI_s, mI_n, mI_A, mI_An, mI_uJ, mI_uR, mI_uX, mJ_uI, mJ_uA, mJ_uR, mJ_uX, onR_s, kC_v, kC_n, kC_t, mS_nN, mS_nNs]
  · simp (disch := first | omega | rfl) only [mS_uI, mS_uA, mS_uJ, mS_uR, mS_uX, mR_uI, mR_uA, mR_uJ, mR_uX, mX_uI, mX_uA, mX_uJ, mX_uR, mI_s, mI_n, mI_A, mI_An, mI_uJ, mI_uR, mI_uX, mJ_uI, mJ_uA, mJ_uR, mJ_uX, onR_s, kC_v, kC_n, kC_t, mS_nN, mS_nNs]
  · simp (disch := first | omega | rfl) only [mS_uI, mS_uA, mS_uJ, mS_uR, mS_uX, mR_uI, mR_uA, mR_uJ, mR_uX, mX_uI, mX_uA, mX_uJ, mX_uR, mI_s, mI_n, mI_A, mI_An, mI_uJ, mI_uR, mI_uX, mJ_uI, mJ_uA, mJ_uR, mJ_uX, onR_s, kC_v, kC_n, kC_t, mS_nN, mS_nNs]
  · simp (disch := first | omega | rfl) only [mS_uI, mS_uA, mS_uJ, mS_uR, mS_uX, mR_uI, mR_uA, mR_uJ, mR_uX, mX_uI, mX_uA, mX_uJ, mX_uR, mI_s, mI_n, mI_A, mI_An, mI_uJ, mI_uR, mI_uX, mJ_uI, mJ_uA, mJ_uR, mJ_uX, onR_s, kC_v, kC_n, kC_t, mS_nN, mS_nNs]
  · simp (disch := first | omega | rfl) only [mS_uI, mS_uA, mS_uJ, mS_uR, mS_uX, mR_uI, mR_uA, mR_uJ, mR_uX, mX_uI, mX_uA, mX_uJ, mX_uR, mI_s, mI_n, mI_A, mI_An, mI_uJ, mI_uR, mI_uX, mJ_uI, mJ_uA, mJ_uR, mJ_uX, onR_s, kC_v, kC_n, kC_t, mS_nN, mS_nNs]
  · simp (disch := first | omega | rfl) only [mS_uI, mS_uA, mS_uJ, mS_uR, mS_uX, mR_uI, mR_uA, mR_uJ, mR_uX, mX_uI, mX_uA, mX_uJ, mX_uR, mI_s, mI_n, mI_A, mI_An, mI_uJ, mI_uR, mI_uX, mJ_uI, mJ_uA, mJ_uR, mJ_uX, onR_s, kC_v, kC_n, kC_t, mS_nN, mS_nNs]
  · simp (disch := first | omega | rfl) only [mS_uI, mS_uA, mS_uJ, mS_uR, mS_uX, mR_uI, mR_uA, mR_uJ, mR_uX, mX_uI, mX_uA, mX_uJ, mX_uR, mI_s, mI_n, mI_A, mI_An, mI_uJ, mI_uR, mI_uX, mJ_uI, mJ_uA, mJ_uR, mJ_uX, onR_s, kC_v, kC_n, kC_t, mS_nN, mS_nNs]
  · simp (disch := first | omega | rfl) only [mS_uI, mS_uA, mS_uJ, mS_uR, mS_uX, mR_uI, mR_uA, mR_uJ, mR_uX, mX_uI, mX_uA, mX_uJ, mX_uR, mI_s, mI_n, mI_A, mI_An, mI_uJ, mI_uR, mI_uX, mJ_uI, mJ_uA, mJ_uR, mJ_uX, onR_s, kC_v, kC_n, kC_t, mS_nN, mS_nNs]
  · simp (disch := first | omega | rfl) only [mS_uI, mS_uA, mS_uJ, mS_uR, mS_uX, mR_uI, mR_uA, mR_uJ, mR_uX, mX_uI, mX_uA, mX_uJ, mX_uR, mI_s, mI_n, mI_A, mI_An, mI_uJ, mI_uR, mI_uX, mJ_uI, mJ_uA, mJ_uR, mJ_uX, onR_s, kC_v, kC_n, kC_t, mS_nN, mS_nNs]
  · simp (disch := first | omega | rfl) only [mS_uI, mS_uA, mS_uJ, mS_uR, mS_uX, mR_uI, mR_uA, mR_uJ, mR_uX, mX_uI, mX_uA, mX_uJ, mX_uR, mI_s, mI_n, mI_A, mI_An, mI_uJ, mI_uR, mI_uX, mJ_uI, mJ_uA, mJ_uR, mJ_uX, onR_s, kC_v, kC_n, kC_t, mI_nN, mI_nNs]
  · simp (disch := first | omega | rfl) only [mS_uI, mS_uA, mS_uJ, mS_uR, mS_uX, mR_uI, mR_uA, mR_uJ, mR_uX, mX_uI, mX_uA, mX_uJ, mX_uR, mI_s, mI_n, mI_A, mI_An, mI_uJ, mI_uR, mI_uX, mJ_uI, mJ_uA, mJ_uR, mJ_uX, onR_s, kC_v, kC_n, kC_t, mI_nN, mI_nNs]
  · simp (disch := first | omega | rfl) only [mS_uI, mS_uA, mS_uJ, mS_uR, mS_uX, mR_uI, mR_uA, mR_uJ, mR_uX, mX_uI, mX_uA, mX_uJ, mX_uR, mI_s, mI_n, mI_A, mI_An, mI_uJ, mI_uR, mI_uX, mJ_uI, mJ_uA, mJ_uR, mJ_uX, onR_s, kC_v, kC_n, kC_t, mI_nN, mI_nNs]
  · simp (disch := first | omega | rfl) only [mS_uI, mS_uA, mS_uJ, mS_uR, mS_uX, mR_uI, mR_uA, mR_uJ, mR_uX, mX_uI, mX_uA, mX_uJ, mX_uR, mI_s, mI_n, mI_A, mI_An, mI_uJ, mI_uR, mI_uX, mJ_uI, mJ_uA, mJ_uR, mJ_uX, onR_s, kC_v, kC_n, kC_t, mI_nN, mI_nNs]
  · simp (disch := first | omega | rfl) only [mS_uI, mS_uA, mS_uJ, mS_uR, mS_uX, mR_uI, mR_uA, mR_uJ, mR_uX, mX_uI, mX_uA, mX_uJ, mX_uR, mI_s, mI_n, mI_A, mI_An, mI_uJ, mI_uR, mI_uX, mJ_uI, mJ_uA, mJ_uR, mJ_uX, onR_s, kC_v, kC_n, kC_t, mI_nN, mI_nNs]
  · simp (disch := first | omega | rfl) only [mS_uI, mS_uA, mS_uJ, mS_uR, mS_uX, mR_uI, mR_uA, mR_uJ, mR_uX, mX_uI, mX_uA, mX_uJ, mX_uR, mI_s, mI_n, mI_A, mI_An, mI_uJ, mI_uR, mI_uX, mJ_uI, mJ_uA, mJ_uR, mJ_uX, onR_s, kC_v, kC_n, kC_t, mI_nN, mI_nNs]
  · simp (disch := first | omega | rfl) only [mS_uI, mS_uA, mS_uJ, mS_uR, mS_uX, mR_uI, mR_uA, mR_uJ, mR_uX, mX_uI, mX_uA, mX_uJ, mX_uR, mI_s, mI_n, mI_A, mI_An, mI_uJ, mI_uR, mI_uX, mJ_uI, mJ_uA, mJ_uR, mJ_uX, onR_s, kC_v, kC_n, kC_t, mI_nN, mI_nNs]
  · simp (disch := first | omega | rfl) only [e_160_0, e_160_1, e_160_4, e_160_5, e_160_8, e_160_10, e_160_13, e_160_14, e_160_16, e_160_18, e_160_21, e_160_22, e_160_24, e_160_26, e_160_29, e_160_30, e_160_33, e_160_35, e_160_38, e_160_39, e_160_42, e_160_44, e_160_47, e_160_48, e_160_51, e_160_53, e_160_56, e_160_57, e_160_59, e_160_61, e_160_64, e_160_65, e_160_67, e_160_69, e_160_72, e_160_73, e_160_75, e_160_77, e_160_80, e_160_81, e_160_82, e_160_85, e_160_86, e_160_88, e_160_90, e_160_93, e_160_94, e_160_97, ge1, ule_t, true_or, or_true, nI_add, nI_mul, nI_sub, nI_clamp, nI_lt_t, nI_lt_f, nI_le_t, nI_le_f, nI_eq_t, nI_eq_f, vp_nI, tI, fI, not_true, not_false_iff, true_and, and_true, Classical.not_not, mS_uI, mS_uA, mS_uJ, mS_uR, mS_uX, mR_uI, mR_uA, mR_uJ, mR_uX, mX_uI, mX_uA, mX_uJ, mX_uR, mI_s, mI_n, mI_A, mI_An, mI_uJ, mI_uR, mI_uX, mJ_uI, mJ_uA, mJ_uR, mJ_uX, onR_s, kC_v, kC_n, kC_t, uad_p, ule_p, leT, and_self]
    exact hq _ hF
theorem ShR.sm (h : ShR μ s c) (e : ∀ a, 1000 ≤ a → a < 1298 → Sam μ μ' a) : ShR μ' s c := by
  obtain ⟨w0, w1, w2, w3, w4, w5, w6, w7, w8, w9, w10, w11, w12, w13, w14, w15⟩ := h
  exact ⟨(e _ (by omega) (by omega)).1.trans w0, ((e _ (by omega) (by omega)).2.2 _).trans w1, ((e _ (by omega) (by omega)).2.2 _).trans w2, ((e _ (by omega) (by omega)).2.2 _).trans w3, ((e _ (by omega) (by omega)).2.2 _).trans w4, ((e _ (by omega) (by omega)).2.2 _).trans w5, ((e _ (by omega) (by omega)).2.2 _).trans w6, ((e _ (by omega) (by omega)).2.2 _).trans w7, (e _ (by omega) (by omega)).1.trans w8, (e _ (by omega) (by omega)).1.trans w9, fun i hi => ((e _ (by omega) (by omega)).2.2 _).trans (w10 i hi), w11.sm (fun a h1 h2 => e a (by omega) (by omega)), w12.sm (fun a h1 h2 => e a (by omega) (by omega)), w13.sm (fun a h1 h2 => e a (by omega) (by omega)), w14, w15⟩
theorem rBg_0 : rBg r tn rt 0 = r := by
  funext x
  unfold rBg
  rw [if_neg (by omega), if_neg (by omega)]
theorem rz_ok (hT : ∀ j, 22 ≤ j → tn j = 0) : okR rZ ∧ RN3 rZ := by
  obtain ⟨b1, b2, -⟩ := ok_bg (AL_Z hT)
  rw [show nM rZ = 0 from rfl, rBg_0] at b1 b2
  exact ⟨b1, b2⟩
theorem tx_0 : ∀ i, i < 21 → i < 14 ∨ 18 ≤ i → (txB i).length = (txby.getD i []).length ∧ ∀ j, j < (txB i).length → (txby.getD i []).getD j 0 = nI ((txB i).getD j 0) := by decide +kernel
theorem dg_0 : ∀ k, k < 100 → tens.getD k 0 = nI (48 + k / 10) ∧ ones.getD k 0 = nI (48 + k % 10) := by decide +kernel
theorem k0_t (h : a < 21) : mS (mu0 L xs) a = (0, 4) := if_pos h
theorem k0_v (h : a < 21) : mS (mu0 L xs) (100 + a) = (21, (txby.getD a []).length) := by
  show k0 L (100 + a) = _
  unfold k0
  rw [if_neg (by omega), if_pos (by omega), show 100 + a - 100 = a by omega]
theorem k0_d (h : a = 200 ∨ a = 201) : mS (mu0 L xs) a = (21, 100) := by
  show k0 L a = _
  rcases h with rfl | rfl <;> rfl
theorem i0_v (h : a < 21) : mI (mu0 L xs) (100 + a) k = (txby.getD a []).getD k 0 := by
  show i0 xs (100 + a) k = _
  unfold i0
  rw [if_neg (by omega), if_pos (by omega), show 100 + a - 100 = a by omega]
theorem inv_0 (h1 : RmF (mu0 L xs) μ1) (h2 : MoF μ1 μ2) : Inv L xs (nN μ2 1309 22 1) := by
  obtain ⟨x1, y1, hW, hRS, ⟨f1, f2, f3, f4, f5, f6, f7, f8⟩, ⟨b1, b2, b3, b4⟩, z1, z2, i3, i4, i6, i7⟩ := h1
  obtain ⟨x2, y2, hM, m1302, m1300, m8, m2, m18, m21, m26⟩ := h2
  have n0 : (nI 0 : Int32) = 0 := nI_0
  generalize hμ : nN μ2 1309 22 1 = μ3
  have e : ∀ a, a < 1298 → Sam μ1 μ3 a := fun a ha => by rw [← hμ]; exact (y2 a ha).nN (by omega)
  have eM : ∀ a, a < 1309 → Sam μ2 μ3 a := fun a ha => by rw [← hμ]; exact Sam.refl.nN (by omega)
  have e0 : ∀ a, a < 1000 → Sam (mu0 L xs) μ3 a := fun a ha => (y1 a ha).trans (e a (by omega))
  have k1302 : mI μ3 1302 = rZ := by rw [← m1302]; funext j; exact (eM 1302 (by omega)).2.1 j
  have k1300 : mI μ3 1300 = tZ (fun _ => 0) := by rw [← m1300]; funext j; exact (eM 1300 (by omega)).2.1 j
  have hTn : ∀ j, 22 ≤ j → tZ (fun _ => 0) j = 0 := fun j hj => if_neg (by omega)
  have tz : ∀ j, tZ (fun _ => 0) j = 0 := fun j => by unfold tZ; split <;> rfl
  obtain ⟨hO, hN3⟩ := rz_ok (tn := tZ (fun _ => 0)) hTn
  have q2 : nM rZ = 0 := rfl
  have q3 : nT rZ = 0 := rfl
  have q4 : nO rZ = 0 := rfl
  have q5 : nF rZ = 0 := rfl
  have hM3 : ShM μ3 := by
    obtain ⟨p1, p2, p3, p4, p5, p6, p7, p8, p9, p10, p11, p12, p13, p14, p15, p16, p17, p18, p19, p20, p21⟩ := hM
    exact ⟨(eM 1298 (by omega)).1.trans p1, ((eM 1298 (by omega)).2.2 _).trans p2, ((eM 1298 (by omega)).2.2 _).trans p3, ((eM 1298 (by omega)).2.2 _).trans p4, ((eM 1298 (by omega)).2.2 _).trans p5, ((eM 1298 (by omega)).2.2 _).trans p6, ((eM 1298 (by omega)).2.2 _).trans p7, ((eM 1298 (by omega)).2.2 _).trans p8, ((eM 1298 (by omega)).2.2 _).trans p9, ((eM 1298 (by omega)).2.2 _).trans p10, ((eM 1298 (by omega)).2.2 _).trans p11, (eM 1299 (by omega)).1.trans p12, (eM 1300 (by omega)).1.trans p13, (eM 1301 (by omega)).1.trans p14, (eM 1302 (by omega)).1.trans p15, (eM 1303 (by omega)).1.trans p16, (eM 1304 (by omega)).1.trans p17, (eM 1305 (by omega)).1.trans p18, (eM 1306 (by omega)).1.trans p19, (eM 1307 (by omega)).1.trans p20, (eM 1308 (by omega)).1.trans p21⟩
  have k8 : ∀ k, mI μ3 1298 k = mI μ2 1298 k := (eM 1298 (by omega)).2.1
  have z : ∀ a, 1001 ≤ a → a < 1024 → ∀ k, mI μ3 a k = if a = 1003 ∧ k = 0 then nI 40 else if a = 1003 ∧ k = 1 then nI 2 else 0 := fun a a1 a2 k => ((e a (by omega)).2.1 k).trans (z1 a a1 a2 k)
  refine ⟨1001, 1024, 1032, 1055, 0, fun _ => 0, 0, 0, ⟨⟨hW.sm (fun a _ a2 => e a a2), fun i hi => (hRS i hi).sm (fun a a1 a2 => e a (by omega)), ?_, ?_, ?_, ?_⟩, ?_, ?_⟩, ⟨Or.inl ⟨rfl, rfl⟩, Or.inl ⟨rfl, rfl⟩⟩, hM3, ⟨⟨⟨(e _ (by omega)).1.trans f1, ((e _ (by omega)).2.2 _).trans f2, (e _ (by omega)).1.trans f5, fun k hk => absurd hk (Nat.not_lt_zero k), fun k => (show 0 < 256 by omega), by omega⟩, fun i hi h2 => ?_, ((e _ (by omega)).2.2 _).trans f3, ((e _ (by omega)).2.2 _).trans f4, f6.sm (fun a a1 a2 => e a (by omega)), f7.sm (fun a a1 a2 => e a (by omega)), Or.inr rfl, Or.inr rfl⟩, ((e _ (by omega)).2.1 _).trans f8, by omega, (k8 18).trans m18, ((e _ (by omega)).2.1 _).trans i6, (k8 2).trans m2, fun k hk => absurd hk (Nat.not_lt_zero k)⟩, (((e _ (by omega)).2.1 _).trans i7).trans ((k8 21).trans m21).symm, ⟨(0, fun _ => 0), ⟨1061, 16, ⟨(e _ (by omega)).1.trans b1, ((e _ (by omega)).2.2 _).trans b2, Or.inl rfl, ?_, ?_, (e _ (by omega)).1.trans b3, by omega, by omega, Nat.zero_le _, ((e _ (by omega)).2.1 _).trans (b4 1), ((e _ (by omega)).2.1 _).trans (b4 3)⟩, fun j hj => absurd hj (Nat.not_lt_zero j)⟩, Nat.zero_le _, fun j hj => absurd hj (Nat.not_lt_zero j), (k8 26).trans m26, fun j hj => absurd hj (Nat.not_lt_zero j)⟩, ⟨⟨?_, ?_, fun k hk => ?_, fun k hk => ?_⟩, (e0 300 (by omega)).1, fun k => (e0 300 (by omega)).2.1 k, ?_⟩, ?_⟩
  · rw [k1302]
    refine ⟨⟨?_, ?_, ?_, ?_, ?_, ?_, fun m hm => absurd hm (by rw [q2]; omega), fun k hk => absurd hk (by rw [q5]; omega)⟩, fun m hm => absurd hm (by rw [q2]; omega)⟩
    · exact z 1001 (by omega) (by omega) 1
    · exact z 1001 (by omega) (by omega) 2
    · exact z 1001 (by omega) (by omega) 3
    · exact z 1004 (by omega) (by omega) 1
    · exact z 1003 (by omega) (by omega) 0
    · exact z 1003 (by omega) (by omega) 1
  · rw [k1302]
    exact ⟨fun t ht => absurd ht (by rw [q3]; omega), fun k hk => absurd hk (by rw [q4]; omega)⟩
  · rw [k1300]
    intro k hk
    rw [(e 1025 (by omega)).2.1 k, z2, tz]
  · exact ⟨((e 1000 (by omega)).2.1 4).trans i4, 0, by omega, ((e 1000 (by omega)).2.1 3).trans i3, fun i hi => absurd hi (Nat.not_lt_zero i)⟩
  · rw [k1302, k1300]
    exact ⟨hO, hN3, by omega, fun j hj => absurd hj (Nat.not_lt_zero j), ⟨0, fun m _ _ => tz _, Nat.zero_le _, fun j hj => absurd hj (Nat.not_lt_zero j)⟩, fun k hk => ⟨0, by omega, tz k⟩⟩
  · exact (k8 8).trans m8
  · obtain ⟨g1, g2⟩ := tx_0 i hi h2
    refine ⟨⟨(e0 i (by omega)).1.trans (k0_t hi), ((e0 i (by omega)).2.2 _).trans (if_pos ⟨hi, rfl⟩), ((e0 i (by omega)).2.1 _).trans (if_pos hi), ?_⟩, fun j hj => ?_⟩
    · rw [(e0 (100 + i) (by omega)).1, k0_v hi, g1]
    · rw [(e0 (100 + i) (by omega)).2.1, i0_v hi]
      exact g2 j hj
  · rw [← hμ]; show 1061 < 1309 + 1; omega
  · rw [← hμ]; show 1310 ≤ 1309 + 1; omega
  · exact (e0 200 (by omega)).1.trans (k0_d (Or.inl rfl))
  · exact (e0 201 (by omega)).1.trans (k0_d (Or.inr rfl))
  · exact ((e0 200 (by omega)).2.1 k).trans (dg_0 k hk).1
  · exact ((e0 201 (by omega)).2.1 k).trans (dg_0 k hk).2
  · rw [← hμ]; exact mS_nNs rfl
  · rw [k1300]
    exact ⟨hTn, fun m hm => ⟨0, by omega, tz _⟩⟩
theorem law_s (hq : ∀ μ, Inv L xs μ → EM 304 (d + 20) 23 [some (.ref 300), some (.ref 1000), some (.ref 1298), some (.ref 1309), some (.int (nI 0)), none, none, none, none] [] μ (310, 32446) Q) : EM 304 (d + 20) 0 [some (.ref 300), none, none, none, none, none, none, none, none] [] (mu0 L xs) (0, 0) Q := by
  have hX0 : mX (mu0 L xs) = 1000 := rfl
  simp (disch := first | omega | rfl) only [e_304_0, e_304_3, e_304_4, e_304_7, e_304_8, e_304_11, e_304_12, e_304_15, e_304_16, e_304_17, e_304_19, e_304_20, e_304_21, ge1, ule_t, true_or, or_true, nI_add, nI_mul, nI_sub, nI_clamp, nI_lt_t, nI_lt_f, nI_le_t, nI_le_f, nI_eq_t, nI_eq_f, vp_nI, tI, fI, not_true, not_false_iff, true_and, and_true, Classical.not_not, mS_uI, mS_uA, mS_uJ, mS_uR, mS_uX, mR_uI, mR_uA, mR_uJ, mR_uX, mX_uI, mX_uA, mX_uJ, mX_uR, mI_s, mI_n, mI_A, mI_An, mI_uJ, mI_uR, mI_uX, mJ_uI, mJ_uA, mJ_uR, mJ_uX, onR_s, kC_v, kC_n, kC_t, uN_n, hX0, mX_nN, mS_nN, mS_nNs, uad_p, ule_p, leT, and_self]
  refine n_88 hX0 (fun μ1 h1 => ?_)
  simp (disch := first | omega | rfl) only [e_304_0, e_304_3, e_304_4, e_304_7, e_304_8, e_304_11, e_304_12, e_304_15, e_304_16, e_304_17, e_304_19, e_304_20, e_304_21, ge1, ule_t, true_or, or_true, nI_add, nI_mul, nI_sub, nI_clamp, nI_lt_t, nI_lt_f, nI_le_t, nI_le_f, nI_eq_t, nI_eq_f, vp_nI, tI, fI, not_true, not_false_iff, true_and, and_true, Classical.not_not, mS_uI, mS_uA, mS_uJ, mS_uR, mS_uX, mR_uI, mR_uA, mR_uJ, mR_uX, mX_uI, mX_uA, mX_uJ, mX_uR, mI_s, mI_n, mI_A, mI_An, mI_uJ, mI_uR, mI_uX, mJ_uI, mJ_uA, mJ_uR, mJ_uX, onR_s, kC_v, kC_n, kC_t, kC_n, uN_n, h1.1, mX_nN, mS_nN, mS_nNs, uad_p, ule_p, leT, and_self]
  refine n_160 h1.1 (fun μ2 h2 => ?_)
  simp (disch := first | omega | rfl) only [e_304_0, e_304_3, e_304_4, e_304_7, e_304_8, e_304_11, e_304_12, e_304_15, e_304_16, e_304_17, e_304_19, e_304_20, e_304_21, ge1, ule_t, true_or, or_true, nI_add, nI_mul, nI_sub, nI_clamp, nI_lt_t, nI_lt_f, nI_le_t, nI_le_f, nI_eq_t, nI_eq_f, vp_nI, tI, fI, not_true, not_false_iff, true_and, and_true, Classical.not_not, mS_uI, mS_uA, mS_uJ, mS_uR, mS_uX, mR_uI, mR_uA, mR_uJ, mR_uX, mX_uI, mX_uA, mX_uJ, mX_uR, mI_s, mI_n, mI_A, mI_An, mI_uJ, mI_uR, mI_uX, mJ_uI, mJ_uA, mJ_uR, mJ_uX, onR_s, kC_v, kC_n, kC_t, kC_n, uN_n, h2.1, mX_nN, mS_nN, mS_nNs, uad_p, ule_p, leT, and_self]
  exact hq _ (inv_0 h1 h2)
end Sta

