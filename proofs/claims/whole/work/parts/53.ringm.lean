/-! the reference's rows of the past -/
def prM (μ : Mu) (j : Nat) : Nat → Int32 := fun x => if x < 1782 then mI μ 1304 (1782 * j + x) else 0
section Keeps
variable {d : Nat} {Q : Po} {μ : Mu} {s c m n q i j k t z u : Nat} {x y g : Int32}
/-- rows taken down by one -/
def shF (f : Nat → Int32) (k : Nat) : Nat → Int32 := fun x => if x + 1782 < k then f (x + 1782) else f x
theorem shF_s (f : Nat → Int32) {k : Nat} (h : 1782 ≤ k) : upd (shF f k) (k - 1782) (f k) = shF f (k + 1) := by
  obtain ⟨y, rfl⟩ : ∃ y, k = y + 1782 := ⟨k - 1782, by omega⟩
  rw [Nat.add_sub_cancel]
  funext x
  unfold upd shF
  by_cases h1 : x = y
  · rw [h1, if_pos rfl, if_pos (by omega)]
  · rw [if_neg h1]
    by_cases h2 : x + 1782 < y + 1782
    · rw [if_pos h2, if_pos (by omega)]
    · rw [if_neg h2, if_neg (by omega)]
theorem uIA {μ : Mu} {a k : Nat} {f : Nat → Int32} {v : Int32} : uI (uA μ a f) a k v = uA μ a (upd f k v) := by rw [uI_A, uA_A, mI_Af]
theorem prM_at {μ : Mu} {j x : Nat} (h : x < 1782) : prM μ j x = mI μ 1304 (1782 * j + x) := if_pos h
theorem prM_n {μ : Mu} {j x : Nat} (h : ¬ x < 1782) : prM μ j x = 0 := if_neg h
theorem pr2_a {u j : Nat} {pr : Nat → Nat → Int32} {r : Nat → Int32} (h : u < 10) (hj : j < u) : pr2 u pr r j = pr j := by unfold pr2; rw [if_pos h, if_pos hj]
theorem pr2_b {u j : Nat} {pr : Nat → Nat → Int32} {r : Nat → Int32} (h : u < 10) (hj : ¬ j < u) : pr2 u pr r j = r := by unfold pr2; rw [if_pos h, if_neg hj]
theorem pr2_c {j : Nat} {pr : Nat → Nat → Int32} {r : Nat → Int32} (hj : j < 9) : pr2 10 pr r j = pr (j + 1) := by unfold pr2; rw [if_neg (by omega), if_pos hj]
theorem pr2_d {j : Nat} {pr : Nat → Nat → Int32} {r : Nat → Int32} (hj : ¬ j < 9) : pr2 10 pr r j = r := by unfold pr2; rw [if_neg (by omega), if_neg hj]
theorem shF_at (f : Nat → Int32) {k x : Nat} (h : k ≤ x + 1782) : shF f k x = f x := if_neg (by omega)
theorem shF_0 (f : Nat → Int32) : shF f 1782 = f := funext fun x => if_neg (by omega)
theorem l_266a (hM : ShM μ) : ∀ n k, k + n = 17820 → 1782 ≤ k → EM 266 d 13 [some (.ref 1298), some (.int (nI k))] [] (uA μ 1304 (shF (mI μ 1304) k)) (0, 0) Q = EM 266 d 42 [some (.ref 1298), some (.int (nI 17820))] [] (uA μ 1304 (shF (mI μ 1304) 17820)) (0, 0) Q := by
  obtain ⟨p1, p2, p3, p4, p5, p6, p7, p8, p9, p10, p11, p12, p13, p14, p15, p16, p17, p18, p19, p20, p21⟩ := hM
  intro n
  induction n with
  | zero =>
    intro k hk h1
    obtain rfl : k = 17820 := by omega
    rw [e_266_13]
    simp (disch := first | omega | rfl) only [e_266_0, e_266_1, e_266_4, e_266_6, e_266_9, e_266_12, e_266_14, e_266_17, e_266_20, e_266_21, e_266_24, e_266_25, e_266_28, e_266_29, e_266_30, e_266_33, e_266_34, e_266_35, e_266_36, e_266_39, e_266_53, e_266_55, e_266_58, e_266_61, e_266_62, e_266_65, e_266_68, e_266_69, e_266_72, e_266_73, e_266_74, e_266_75, e_266_76, e_266_79, e_266_80, e_266_81, e_266_82, e_266_85, e_266_88, e_266_89, e_266_90, e_266_93, e_266_94, e_266_95, e_266_98, ge1, ule_t, true_or, or_true, nI_add, nI_mul, nI_sub, nI_clamp, nI_lt_t, nI_lt_f, nI_le_t, nI_le_f, nI_eq_t, nI_eq_f, vp_nI, tI, fI, not_true, not_false_iff, true_and, and_true, Classical.not_not, mS_uI, mS_uA, mS_uJ, mS_uR, mS_uX, mR_uI, mR_uA, mR_uJ, mR_uX, mX_uI, mX_uA, mX_uJ, mX_uR, mI_s, mI_n, mI_A, mI_An, mI_uJ, mI_uR, mI_uX, mJ_uI, mJ_uA, mJ_uR, mJ_uX, onR_s, kC_v, kC_n, kC_t]
  | succ n ih =>
    intro k hk h1
    rw [e_266_13]
    simp (disch := first | omega | rfl) only [e_266_0, e_266_1, e_266_4, e_266_6, e_266_9, e_266_12, e_266_14, e_266_17, e_266_20, e_266_21, e_266_24, e_266_25, e_266_28, e_266_29, e_266_30, e_266_33, e_266_34, e_266_35, e_266_36, e_266_39, e_266_43, e_266_44, e_266_47, e_266_48, e_266_49, e_266_52, e_266_53, e_266_55, e_266_58, e_266_61, e_266_62, e_266_65, e_266_68, e_266_69, e_266_72, e_266_73, e_266_74, e_266_75, e_266_76, e_266_79, e_266_80, e_266_81, e_266_82, e_266_85, e_266_88, e_266_89, e_266_90, e_266_93, e_266_94, e_266_95, e_266_98, ge1, ule_t, true_or, or_true, nI_add, nI_mul, nI_sub, nI_clamp, nI_lt_t, nI_lt_f, nI_le_t, nI_le_f, nI_eq_t, nI_eq_f, vp_nI, tI, fI, not_true, not_false_iff, true_and, and_true, Classical.not_not, mS_uI, mS_uA, mS_uJ, mS_uR, mS_uX, mR_uI, mR_uA, mR_uJ, mR_uX, mX_uI, mX_uA, mX_uJ, mX_uR, mI_s, mI_n, mI_A, mI_An, mI_uJ, mI_uR, mI_uX, mJ_uI, mJ_uA, mJ_uR, mJ_uX, onR_s, kC_v, kC_n, kC_t, p1, p2, p3, p4, p5, p6, p7, p8, p9, p10, p11, p12, p13, p14, p15, p16, p17, p18, p19, p20, p21, uIA, mI_Af, shF_at]
    have := ih (k + 1) (by omega) (by omega)
    rw [← shF_s _ h1] at this
    exact this
/-- a row put in -/
def puF (f r : Nat → Int32) (u k : Nat) : Nat → Int32 := fun x => if 1782 * u ≤ x ∧ x < 1782 * u + k then r (x - 1782 * u) else f x
theorem puF_0 (f r : Nat → Int32) (u : Nat) : puF f r u 0 = f := funext fun x => if_neg (by omega)
theorem puF_s (f r : Nat → Int32) (u k : Nat) : upd (puF f r u k) (1782 * u + k) (r k) = puF f r u (k + 1) := by
  funext x
  unfold upd puF
  by_cases h1 : x = 1782 * u + k
  · subst h1
    rw [if_pos rfl, if_pos (by omega), show 1782 * u + k - 1782 * u = k by omega]
  · rw [if_neg h1]
    by_cases h2 : 1782 * u ≤ x ∧ x < 1782 * u + k
    · rw [if_pos h2, if_pos (by omega)]
    · rw [if_neg h2, if_neg (by omega)]
theorem l_266b {μ1 : Mu} (hM : ShM μ1) (hu : mI μ1 1298 8 = nI u) (h9 : u < 10) : ∀ n k, k + n = 1782 → EM 266 d 54 [some (.ref 1298), some (.int (nI k))] [] (uA μ1 1304 (puF (mI μ1 1304) (mI μ1 1302) u k)) (0, 0) Q = Q (some none) (uI (uA μ1 1304 (puF (mI μ1 1304) (mI μ1 1302) u 1782)) 1298 8 (nI (u + 1))) := by
  obtain ⟨p1, p2, p3, p4, p5, p6, p7, p8, p9, p10, p11, p12, p13, p14, p15, p16, p17, p18, p19, p20, p21⟩ := hM
  intro n
  induction n with
  | zero =>
    intro k hk
    obtain rfl : k = 1782 := by omega
    rw [e_266_54]
    simp (disch := first | omega | rfl) only [e_266_0, e_266_1, e_266_4, e_266_6, e_266_9, e_266_12, e_266_14, e_266_17, e_266_20, e_266_21, e_266_24, e_266_25, e_266_28, e_266_29, e_266_30, e_266_33, e_266_34, e_266_35, e_266_36, e_266_39, e_266_42, e_266_43, e_266_44, e_266_47, e_266_48, e_266_49, e_266_52, e_266_53, e_266_55, e_266_58, e_266_61, e_266_62, e_266_65, e_266_68, e_266_69, e_266_72, e_266_73, e_266_74, e_266_75, e_266_76, e_266_79, e_266_80, e_266_81, e_266_82, e_266_85, e_266_88, e_266_89, e_266_90, e_266_93, e_266_94, e_266_95, e_266_98, ge1, ule_t, true_or, or_true, nI_add, nI_mul, nI_sub, nI_clamp, nI_lt_t, nI_lt_f, nI_le_t, nI_le_f, nI_eq_t, nI_eq_f, vp_nI, tI, fI, not_true, not_false_iff, true_and, and_true, Classical.not_not, mS_uI, mS_uA, mS_uJ, mS_uR, mS_uX, mR_uI, mR_uA, mR_uJ, mR_uX, mX_uI, mX_uA, mX_uJ, mX_uR, mI_s, mI_n, mI_A, mI_An, mI_uJ, mI_uR, mI_uX, mJ_uI, mJ_uA, mJ_uR, mJ_uX, onR_s, kC_v, kC_n, kC_t, p1, p2, p3, p4, p5, p6, p7, p8, p9, p10, p11, p12, p13, p14, p15, p16, p17, p18, p19, p20, p21, hu]
  | succ n ih =>
    intro k hk
    rw [e_266_54]
    simp (disch := first | omega | rfl) only [e_266_0, e_266_1, e_266_4, e_266_6, e_266_9, e_266_12, e_266_14, e_266_17, e_266_20, e_266_21, e_266_24, e_266_25, e_266_28, e_266_29, e_266_30, e_266_33, e_266_34, e_266_35, e_266_36, e_266_39, e_266_42, e_266_43, e_266_44, e_266_47, e_266_48, e_266_49, e_266_52, e_266_53, e_266_55, e_266_58, e_266_61, e_266_62, e_266_65, e_266_68, e_266_69, e_266_72, e_266_73, e_266_74, e_266_75, e_266_76, e_266_79, e_266_80, e_266_81, e_266_82, e_266_85, e_266_88, e_266_89, e_266_90, e_266_93, e_266_94, e_266_95, e_266_98, ge1, ule_t, true_or, or_true, nI_add, nI_mul, nI_sub, nI_clamp, nI_lt_t, nI_lt_f, nI_le_t, nI_le_f, nI_eq_t, nI_eq_f, vp_nI, tI, fI, not_true, not_false_iff, true_and, and_true, Classical.not_not, mS_uI, mS_uA, mS_uJ, mS_uR, mS_uX, mR_uI, mR_uA, mR_uJ, mR_uX, mX_uI, mX_uA, mX_uJ, mX_uR, mI_s, mI_n, mI_A, mI_An, mI_uJ, mI_uR, mI_uX, mJ_uI, mJ_uA, mJ_uR, mJ_uX, onR_s, kC_v, kC_n, kC_t, p1, p2, p3, p4, p5, p6, p7, p8, p9, p10, p11, p12, p13, p14, p15, p16, p17, p18, p19, p20, p21, hu, uIA, mI_Af]
    have := ih (k + 1) (by omega)
    rw [← puF_s] at this
    exact this
theorem m_266 (hM : ShM μ) (hN : RN (mI μ 1302)) (hu : mI μ 1298 8 = nI u) (h10 : u ≤ 10) (hq : ∀ μ1, Fr (fun a => a = 1298 ∨ a = 1304) μ μ1 → (∀ k, k ≠ 8 → mI μ1 1298 k = mI μ 1298 k) → mI μ1 1298 8 = nI (u2 u) → (∀ j, j < u2 u → prM μ1 j = pr2 u (prM μ) (mI μ 1302) j) → Q (some none) μ1) : Ev (d + 1) 266 [.ref 1298] μ Q := by
  have hM0 := hM
  obtain ⟨p1, p2, p3, p4, p5, p6, p7, p8, p9, p10, p11, p12, p13, p14, p15, p16, p17, p18, p19, p20, p21⟩ := hM
  rw [in_266]
  by_cases h : u < 10
  · simp (disch := first | omega | rfl) only [e_266_0, e_266_1, e_266_4, e_266_6, e_266_9, e_266_12, e_266_14, e_266_17, e_266_20, e_266_21, e_266_24, e_266_25, e_266_28, e_266_29, e_266_30, e_266_33, e_266_34, e_266_35, e_266_36, e_266_39, e_266_42, e_266_43, e_266_44, e_266_47, e_266_48, e_266_49, e_266_52, e_266_53, e_266_55, e_266_58, e_266_61, e_266_62, e_266_65, e_266_68, e_266_69, e_266_72, e_266_73, e_266_74, e_266_75, e_266_76, e_266_79, e_266_80, e_266_81, e_266_82, e_266_85, e_266_88, e_266_89, e_266_90, e_266_93, e_266_94, e_266_95, e_266_98, ge1, ule_t, true_or, or_true, nI_add, nI_mul, nI_sub, nI_clamp, nI_lt_t, nI_lt_f, nI_le_t, nI_le_f, nI_eq_t, nI_eq_f, vp_nI, tI, fI, not_true, not_false_iff, true_and, and_true, Classical.not_not, mS_uI, mS_uA, mS_uJ, mS_uR, mS_uX, mR_uI, mR_uA, mR_uJ, mR_uX, mX_uI, mX_uA, mX_uJ, mX_uR, mI_s, mI_n, mI_A, mI_An, mI_uJ, mI_uR, mI_uX, mJ_uI, mJ_uA, mJ_uR, mJ_uX, onR_s, kC_v, kC_n, kC_t, p1, p2, p3, p4, p5, p6, p7, p8, p9, p10, p11, p12, p13, p14, p15, p16, p17, p18, p19, p20, p21, hu]
    have hb := l_266b (d := d) (Q := Q) hM0 hu h 1782 0 (by omega)
    rw [puF_0, uA_self] at hb
    rw [hb]
    refine hq _ ((Fr.refl.au (Or.inr rfl)).iu (Or.inl rfl)) (fun k hk => by rw [mI_n (by omega), mI_An (by omega)]) (by rw [mI_s]; unfold u2; rw [if_pos h]) ?_
    intro j hj
    funext x
    unfold u2 at hj
    rw [if_pos h] at hj
    by_cases hx : x < 1782
    · rw [prM_at hx, mI_n (by omega), mI_A]
      unfold puF
      by_cases hju : j < u
      · rw [pr2_a h hju, prM_at hx, if_neg (by omega)]
      · have hju2 : j = u := by omega
        rw [pr2_b h hju, hju2, if_pos (by omega), show 1782 * u + x - 1782 * u = x by omega]
    · rw [prM_n hx]
      by_cases hju : j < u
      · rw [pr2_a h hju, prM_n hx]
      · rw [pr2_b h hju]; exact (hN x (by omega)).symm
  · obtain rfl : u = 10 := by omega
    simp (disch := first | omega | rfl) only [e_266_0, e_266_1, e_266_4, e_266_6, e_266_9, e_266_12, e_266_14, e_266_17, e_266_20, e_266_21, e_266_24, e_266_25, e_266_28, e_266_29, e_266_30, e_266_33, e_266_34, e_266_35, e_266_36, e_266_39, e_266_42, e_266_43, e_266_44, e_266_47, e_266_48, e_266_49, e_266_52, e_266_53, e_266_55, e_266_58, e_266_61, e_266_62, e_266_65, e_266_68, e_266_69, e_266_72, e_266_73, e_266_74, e_266_75, e_266_76, e_266_79, e_266_80, e_266_81, e_266_82, e_266_85, e_266_88, e_266_89, e_266_90, e_266_93, e_266_94, e_266_95, e_266_98, ge1, ule_t, true_or, or_true, nI_add, nI_mul, nI_sub, nI_clamp, nI_lt_t, nI_lt_f, nI_le_t, nI_le_f, nI_eq_t, nI_eq_f, vp_nI, tI, fI, not_true, not_false_iff, true_and, and_true, Classical.not_not, mS_uI, mS_uA, mS_uJ, mS_uR, mS_uX, mR_uI, mR_uA, mR_uJ, mR_uX, mX_uI, mX_uA, mX_uJ, mX_uR, mI_s, mI_n, mI_A, mI_An, mI_uJ, mI_uR, mI_uX, mJ_uI, mJ_uA, mJ_uR, mJ_uX, onR_s, kC_v, kC_n, kC_t, p1, p2, p3, p4, p5, p6, p7, p8, p9, p10, p11, p12, p13, p14, p15, p16, p17, p18, p19, p20, p21, hu]
    have ha := l_266a (d := d) (Q := Q) hM0 (17820 - 1782) 1782 (by omega) (by omega)
    rw [shF_0, uA_self] at ha
    rw [ha]
    simp (disch := first | omega | rfl) only [e_266_0, e_266_1, e_266_4, e_266_6, e_266_9, e_266_12, e_266_14, e_266_17, e_266_20, e_266_21, e_266_24, e_266_25, e_266_28, e_266_29, e_266_30, e_266_33, e_266_34, e_266_35, e_266_36, e_266_39, e_266_42, e_266_43, e_266_44, e_266_47, e_266_48, e_266_49, e_266_52, e_266_53, e_266_55, e_266_58, e_266_61, e_266_62, e_266_65, e_266_68, e_266_69, e_266_72, e_266_73, e_266_74, e_266_75, e_266_76, e_266_79, e_266_80, e_266_81, e_266_82, e_266_85, e_266_88, e_266_89, e_266_90, e_266_93, e_266_94, e_266_95, e_266_98, ge1, ule_t, true_or, or_true, nI_add, nI_mul, nI_sub, nI_clamp, nI_lt_t, nI_lt_f, nI_le_t, nI_le_f, nI_eq_t, nI_eq_f, vp_nI, tI, fI, not_true, not_false_iff, true_and, and_true, Classical.not_not, mS_uI, mS_uA, mS_uJ, mS_uR, mS_uX, mR_uI, mR_uA, mR_uJ, mR_uX, mX_uI, mX_uA, mX_uJ, mX_uR, mI_s, mI_n, mI_A, mI_An, mI_uJ, mI_uR, mI_uX, mJ_uI, mJ_uA, mJ_uR, mJ_uX, onR_s, kC_v, kC_n, kC_t, p1, p2, p3, p4, p5, p6, p7, p8, p9, p10, p11, p12, p13, p14, p15, p16, p17, p18, p19, p20, p21, hu]
    have t1 : mI (uI (uA μ 1304 (shF (mI μ 1304) 17820)) 1298 8 (nI 9)) 1304 = shF (mI μ 1304) 17820 := by rw [mI_nf (by omega), mI_Af]
    have t2 : mI (uI (uA μ 1304 (shF (mI μ 1304) 17820)) 1298 8 (nI 9)) 1302 = mI μ 1302 := by rw [mI_nf (by omega), mI_Anf (by omega)]
    have hb := l_266b (d := d) (Q := Q) (μ1 := uI (uA μ 1304 (shF (mI μ 1304) 17820)) 1298 8 (nI 9)) (u := 9) hM0 mI_s (by omega) 1782 0 (by omega)
    rw [puF_0, uA_self, t1, t2] at hb
    have h9 : (10 : Nat) - 1 = 9 := rfl
    rw [hb]
    refine hq _ ((((Fr.refl.au (Or.inr rfl)).iu (Or.inl rfl)).au (Or.inr rfl)).iu (Or.inl rfl)) (fun k hk => by rw [mI_n (by omega), mI_An (by omega), mI_n (by omega), mI_An (by omega)]) (by rw [mI_s]; rfl) ?_
    intro j hj
    funext x
    have hj : j < 10 := hj
    by_cases hx : x < 1782
    · rw [prM_at hx, mI_n (by omega), mI_A]
      unfold puF
      by_cases hj9 : j < 9
      · rw [pr2_c hj9, prM_at hx, if_neg (by omega)]
        unfold shF
        rw [if_pos (by omega)]
        congr 1; omega
      · have hj2 : j = 9 := by omega
        rw [pr2_d hj9, hj2, if_pos (by omega), show 1782 * 9 + x - 1782 * 9 = x by omega]
    · rw [prM_n hx]
      by_cases hj9 : j < 9
      · rw [pr2_c hj9, prM_n hx]
      · rw [pr2_d hj9]; exact (hN x (by omega)).symm
theorem m_267n (hM : ShM μ) (hu : mI μ 1298 8 = nI 0) : Ev (d + 1) 267 [.ref 1298] μ Q = Q (some (some (.int (-1)))) (uI μ 1298 0 (nI 0)) := by
  obtain ⟨p1, p2, p3, p4, p5, p6, p7, p8, p9, p10, p11, p12, p13, p14, p15, p16, p17, p18, p19, p20, p21⟩ := hM
  rw [in_267]
  simp (disch := first | omega | rfl) only [e_267_0, e_267_1, e_267_2, e_267_5, e_267_6, e_267_9, e_267_12, e_267_13, e_267_14, e_267_15, e_267_16, e_267_19, e_267_20, e_267_21, e_267_24, e_267_25, e_267_27, e_267_30, e_267_33, e_267_34, e_267_37, e_267_38, e_267_39, e_267_42, e_267_45, e_267_46, e_267_49, e_267_50, e_267_51, e_267_52, e_267_53, e_267_54, e_267_57, e_267_60, e_267_61, e_267_64, ge1, ule_t, true_or, or_true, nI_add, nI_mul, nI_sub, nI_clamp, nI_lt_t, nI_lt_f, nI_le_t, nI_le_f, nI_eq_t, nI_eq_f, vp_nI, tI, fI, not_true, not_false_iff, true_and, and_true, Classical.not_not, mS_uI, mS_uA, mS_uJ, mS_uR, mS_uX, mR_uI, mR_uA, mR_uJ, mR_uX, mX_uI, mX_uA, mX_uJ, mX_uR, mI_s, mI_n, mI_A, mI_An, mI_uJ, mI_uR, mI_uX, mJ_uI, mJ_uA, mJ_uR, mJ_uX, onR_s, kC_v, kC_n, kC_t, p1, p2, p3, p4, p5, p6, p7, p8, p9, p10, p11, p12, p13, p14, p15, p16, p17, p18, p19, p20, p21, hu]
theorem m_267 (hM : ShM μ) (hN : RN (mI μ 1302)) (hu : mI μ 1298 8 = nI (u + 1)) (h10 : u < 10) : Ev (d + 1) 267 [.ref 1298] μ Q = Q (some (some (.int (nI u)))) (uA (uI (uI μ 1298 0 (nI 0)) 1298 8 (nI u)) 1302 (prM μ u)) := by
  have hM0 := hM
  obtain ⟨p1, p2, p3, p4, p5, p6, p7, p8, p9, p10, p11, p12, p13, p14, p15, p16, p17, p18, p19, p20, p21⟩ := hM
  have key : ∀ n k, k + n = 1782 → EM 267 d 26 [some (.ref 1298), some (.int (nI k))] [] (uA (uI (uI μ 1298 0 (nI 0)) 1298 8 (nI u)) 1302 (fil (prM μ u) (mI μ 1302) k)) (0, 0) Q = Q (some (some (.int (nI u)))) (uA (uI (uI μ 1298 0 (nI 0)) 1298 8 (nI u)) 1302 (fil (prM μ u) (mI μ 1302) 1782)) := by
    intro n
    induction n with
    | zero =>
      intro k hk
      obtain rfl : k = 1782 := by omega
      rw [e_267_26]
      simp (disch := first | omega | rfl) only [e_267_0, e_267_1, e_267_2, e_267_5, e_267_6, e_267_9, e_267_12, e_267_13, e_267_14, e_267_15, e_267_16, e_267_19, e_267_20, e_267_21, e_267_24, e_267_25, e_267_27, e_267_30, e_267_33, e_267_34, e_267_37, e_267_38, e_267_39, e_267_42, e_267_45, e_267_46, e_267_49, e_267_50, e_267_51, e_267_52, e_267_53, e_267_54, e_267_57, e_267_60, e_267_61, e_267_64, ge1, ule_t, true_or, or_true, nI_add, nI_mul, nI_sub, nI_clamp, nI_lt_t, nI_lt_f, nI_le_t, nI_le_f, nI_eq_t, nI_eq_f, vp_nI, tI, fI, not_true, not_false_iff, true_and, and_true, Classical.not_not, mS_uI, mS_uA, mS_uJ, mS_uR, mS_uX, mR_uI, mR_uA, mR_uJ, mR_uX, mX_uI, mX_uA, mX_uJ, mX_uR, mI_s, mI_n, mI_A, mI_An, mI_uJ, mI_uR, mI_uX, mJ_uI, mJ_uA, mJ_uR, mJ_uX, onR_s, kC_v, kC_n, kC_t, p1, p2, p3, p4, p5, p6, p7, p8, p9, p10, p11, p12, p13, p14, p15, p16, p17, p18, p19, p20, p21]
    | succ n ih =>
      intro k hk
      rw [e_267_26]
      simp (disch := first | omega | rfl) only [e_267_0, e_267_1, e_267_2, e_267_5, e_267_6, e_267_9, e_267_12, e_267_13, e_267_14, e_267_15, e_267_16, e_267_19, e_267_20, e_267_21, e_267_24, e_267_25, e_267_27, e_267_30, e_267_33, e_267_34, e_267_37, e_267_38, e_267_39, e_267_42, e_267_45, e_267_46, e_267_49, e_267_50, e_267_51, e_267_52, e_267_53, e_267_54, e_267_57, e_267_60, e_267_61, e_267_64, ge1, ule_t, true_or, or_true, nI_add, nI_mul, nI_sub, nI_clamp, nI_lt_t, nI_lt_f, nI_le_t, nI_le_f, nI_eq_t, nI_eq_f, vp_nI, tI, fI, not_true, not_false_iff, true_and, and_true, Classical.not_not, mS_uI, mS_uA, mS_uJ, mS_uR, mS_uX, mR_uI, mR_uA, mR_uJ, mR_uX, mX_uI, mX_uA, mX_uJ, mX_uR, mI_s, mI_n, mI_A, mI_An, mI_uJ, mI_uR, mI_uX, mJ_uI, mJ_uA, mJ_uR, mJ_uX, onR_s, kC_v, kC_n, kC_t, p1, p2, p3, p4, p5, p6, p7, p8, p9, p10, p11, p12, p13, p14, p15, p16, p17, p18, p19, p20, p21, uIA, mI_Af]
      have := ih (k + 1) (by omega)
      rw [← fil_s, show prM μ u k = mI μ 1304 (1782 * u + k) from if_pos (by omega)] at this
      exact this
  have e : fil (prM μ u) (mI μ 1302) 1782 = prM μ u := by
    funext x
    unfold fil
    by_cases hx : x < 1782
    · rw [if_pos hx]
    · rw [if_neg hx, hN x (by omega)]
      exact (if_neg hx).symm
  have h0 := key 1782 0 (by omega)
  have e2 : uA (uI (uI μ 1298 0 (nI 0)) 1298 8 (nI u)) 1302 (mI μ 1302) = uI (uI μ 1298 0 (nI 0)) 1298 8 (nI u) := by
    have := uA_self (μ := uI (uI μ 1298 0 (nI 0)) 1298 8 (nI u)) (a := 1302)
    rw [mI_nf (by omega), mI_nf (by omega)] at this
    exact this
  rw [e, fil_0, e2] at h0
  rw [in_267]
  simp (disch := first | omega | rfl) only [e_267_0, e_267_1, e_267_2, e_267_5, e_267_6, e_267_9, e_267_12, e_267_13, e_267_14, e_267_15, e_267_16, e_267_19, e_267_20, e_267_21, e_267_24, e_267_25, e_267_27, e_267_30, e_267_33, e_267_34, e_267_37, e_267_38, e_267_39, e_267_42, e_267_45, e_267_46, e_267_49, e_267_50, e_267_51, e_267_52, e_267_53, e_267_54, e_267_57, e_267_60, e_267_61, e_267_64, ge1, ule_t, true_or, or_true, nI_add, nI_mul, nI_sub, nI_clamp, nI_lt_t, nI_lt_f, nI_le_t, nI_le_f, nI_eq_t, nI_eq_f, vp_nI, tI, fI, not_true, not_false_iff, true_and, and_true, Classical.not_not, mS_uI, mS_uA, mS_uJ, mS_uR, mS_uX, mR_uI, mR_uA, mR_uJ, mR_uX, mX_uI, mX_uA, mX_uJ, mX_uR, mI_s, mI_n, mI_A, mI_An, mI_uJ, mI_uR, mI_uX, mJ_uI, mJ_uA, mJ_uR, mJ_uX, onR_s, kC_v, kC_n, kC_t, p1, p2, p3, p4, p5, p6, p7, p8, p9, p10, p11, p12, p13, p14, p15, p16, p17, p18, p19, p20, p21, hu, Nat.add_sub_cancel]
  exact h0
end Keeps

