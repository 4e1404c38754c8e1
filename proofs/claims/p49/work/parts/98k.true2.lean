/-! what is foreseen, as the law computes it -/
section LTrue2
variable {d L : Nat} {xs : Nat → Int32} {μ μ0 μ1 μ2 μ' : Mu} {Q : Po} {x y g w o : Int32} {r r' tn F G : Nat → Int32} {u a b m i t σ s c k z n : Nat} {pr : Nat → Nat → Int32} {l0 l1 l2 l3 l4 l5 l6 l7 : Option Value}
theorem l_190C1 (hA : AI r u pr tn) (hz : 1298 ≤ z) (hm : m < nM r) : ∀ n c μ, c + n = 16 → CI μ 1032 1055 r u pr tn → mS μ z = (20, 16) → (∀ j, j < c → mI μ z j = rW r m (7 + j)) → (∀ μ', Fr (RZ z) μ μ' → EqL (mI μ' z) (vC r m) → EM 190 (d + 8) 232 [some (.ref 1000), l1, some (.ref z), l3, some (.int (nI m)), some (.int (nI 16)), l6, l7] [] μ' (uad (0, 0) (1, 16)) Q) → EM 190 (d + 8) 207 [some (.ref 1000), l1, some (.ref z), l3, some (.int (nI m)), some (.int (nI c)), l6, l7] [] μ (uad (0, 0) (1, 16)) Q := by
  intro n
  induction n with
  | zero =>
    intro c μ hc hI hs hE hq
    obtain rfl : c = 16 := by omega
    rw [e_190_207]
    simp (disch := first | omega | rfl) only [e_190_209, e_190_211, e_190_214, e_190_215, e_190_217, e_190_218, e_190_220, e_190_222, e_190_225, e_190_226, e_190_229, ge1, ule_t, true_or, or_true, nI_add, nI_mul, nI_sub, nI_clamp, nI_lt_t, nI_lt_f, nI_le_t, nI_le_f, nI_eq_t, nI_eq_f, vp_nI, tI, fI, not_true, not_false_iff, true_and, and_true, Classical.not_not, mS_uI, mS_uA, mS_uJ, mS_uR, mS_uX, mR_uI, mR_uA, mR_uJ, mR_uX, mX_uI, mX_uA, mX_uJ, mX_uR, mI_s, mI_n, mI_A, mI_An, mI_uJ, mI_uR, mI_uX, mJ_uI, mJ_uA, mJ_uR, mJ_uX, onR_s, kC_v, kC_n, kC_t, forall_const, false_implies]
    exact hq μ Fr.refl hE
  | succ n ih =>
    intro c μ hc hI hs hE hq
    have sh := hI.1.1
    have g1 := fun (d : Nat) (Q : Po) => c_103 (d := d) (Q := Q) (i := c) hI.1 hI.2.2.1.1 hA.1 hm (by omega)
    have hf : Fr (RZ z) μ (uI μ z c (rW r m (7 + c))) := Fr.refl.iu (Or.inr rfl)
    rw [e_190_207]
    simp (disch := first | omega | rfl) only [e_190_209, e_190_211, e_190_214, e_190_215, e_190_217, e_190_218, e_190_220, e_190_222, e_190_225, e_190_226, e_190_229, ge1, ule_t, true_or, or_true, nI_add, nI_mul, nI_sub, nI_clamp, nI_lt_t, nI_lt_f, nI_le_t, nI_le_f, nI_eq_t, nI_eq_f, vp_nI, tI, fI, not_true, not_false_iff, true_and, and_true, Classical.not_not, mS_uI, mS_uA, mS_uJ, mS_uR, mS_uX, mR_uI, mR_uA, mR_uJ, mR_uX, mX_uI, mX_uA, mX_uJ, mX_uR, mI_s, mI_n, mI_A, mI_An, mI_uJ, mI_uR, mI_uX, mJ_uI, mJ_uA, mJ_uR, mJ_uX, onR_s, kC_v, kC_n, kC_t, sh, hs, g1, cgS, ku190, ku190b, forall_const, false_implies]
    refine ih (c + 1) _ (by omega) (hI.rz hA hf hz) (show mS (uI μ z c (rW r m (7 + c))) z = (20, 16) from hs) (fun j hj => ?_) (fun μ' h => hq μ' (hf.trans h))
    by_cases h : j = c
    · subst h; rw [mI_s]
    · rw [mI_n (by omega)]; exact hE j (by omega)
/-- the faults of a member at a turn -/
theorem l_190C3 (hA : AI r u pr tn) (hz : 1298 ≤ z) (hm : m < nM r) (ht : t < 1000) : ∀ n f μ (l7 : Option Value), f + n = nF r → CI μ 1032 1055 r u pr tn → mS μ z = (20, 16) → EqL (mI μ z) (fErr (flt r) (nI m) (nI t) f G) → (∀ μ' l7, Fr (RZ z) μ μ' → EqL (mI μ' z) (fErr (flt r) (nI m) (nI t) (nF r) G) → EM 190 (d + 8) 332 [some (.ref 1000), l1, some (.ref z), l3, some (.int (nI m)), some (.int (nI t)), some (.int (nI (nF r))), l7] [] μ' (uad (0, 0) (1, 16)) Q) → EM 190 (d + 8) 260 [some (.ref 1000), l1, some (.ref z), l3, some (.int (nI m)), some (.int (nI t)), some (.int (nI f)), l7] [] μ (uad (0, 0) (1, 16)) Q := by
  have h6 := hA.1.2.1
  have F10 := hA.1.2.2.2.2.2.2.2.1
  have oF := hA.1.2.2.2.2.2.2.2.2.2.2.2.2.2.2.2.2.2
  intro n
  induction n with
  | zero =>
    intro f μ l7 hf hI hs hE hq
    obtain rfl : f = nF r := by omega
    have sh := hI.1.1
    have g0 := fun (d : Nat) (Q : Po) => w_98_3 (d := d) (Q := Q) hI hA
    rw [e_190_260]
    simp (disch := first | omega | rfl) only [e_190_262, e_190_263, e_190_264, e_190_267, e_190_270, e_190_271, e_190_273, e_190_274, e_190_277, e_190_279, e_190_282, e_190_283, e_190_285, e_190_286, e_190_289, e_190_291, e_190_294, e_190_297, e_190_298, e_190_300, e_190_301, e_190_304, e_190_306, e_190_307, e_190_309, e_190_310, e_190_312, e_190_313, e_190_314, e_190_316, e_190_317, e_190_320, e_190_321, e_190_324, e_190_325, e_190_326, e_190_329, ge1, ule_t, true_or, or_true, nI_add, nI_mul, nI_sub, nI_clamp, nI_lt_t, nI_lt_f, nI_le_t, nI_le_f, nI_eq_t, nI_eq_f, vp_nI, tI, fI, not_true, not_false_iff, true_and, and_true, Classical.not_not, mS_uI, mS_uA, mS_uJ, mS_uR, mS_uX, mR_uI, mR_uA, mR_uJ, mR_uX, mX_uI, mX_uA, mX_uJ, mX_uR, mI_s, mI_n, mI_A, mI_An, mI_uJ, mI_uR, mI_uX, mJ_uI, mJ_uA, mJ_uR, mJ_uX, onR_s, kC_v, kC_n, kC_t, sh, g0, ku190, forall_const, false_implies]
    exact hq μ _ Fr.refl hE
  | succ n ih =>
    intro f μ l7 hf hI hs hE hq
    have sh := hI.1.1
    have g0 := fun (d : Nat) (Q : Po) => w_98_3 (d := d) (Q := Q) hI hA
    have g1 := fun (d : Nat) (Q : Po) (i : Nat) (hi : i < 4) => c_106 (d := d) (Q := Q) (k := f) hI.1 hI.2.2.1.1 hA.1 (by omega) hi
    have g10 := fun (d : Nat) (Q : Po) => g1 d Q 0 (by omega)
    have g11 := fun (d : Nat) (Q : Po) => g1 d Q 1 (by omega)
    have g12 := fun (d : Nat) (Q : Po) => g1 d Q 2 (by omega)
    have g13 := fun (d : Nat) (Q : Po) => g1 d Q 3 (by omega)
    obtain ⟨⟨m', hm', em⟩, ⟨t', ht', et⟩, ⟨c, hc, ec⟩, v, hv, ev⟩ := oF f (by omega)
    have em0 : r (1742 + 4 * f + 0) = nI m' := em
    rw [em0] at g10
    rw [et] at g11
    rw [ec] at g12
    rw [ev] at g13
    have q0 : flt r (4 * f) = nI m' := em
    have q1 : flt r (4 * f + 1) = nI t' := et
    have q2 : flt r (4 * f + 2) = nI c := ec
    have q3 : flt r (4 * f + 3) = nI v := ev
    rw [e_190_260]
    by_cases h1 : m' = m
    · subst h1
      by_cases h2 : t' = t
      · subst h2
        have eN : fErr (flt r) (nI m') (nI t') (f + 1) G = upd (fErr (flt r) (nI m') (nI t') f G) c (rem4 (fErr (flt r) (nI m') (nI t') f G c + nI v)) := by
          rw [fErr, q0, q1, q2, q3, nI_clamp (by omega), if_pos ⟨rfl, rfl⟩]
        have e := hE c hc
        have er : fErr (flt r) (nI m') (nI t') f G c + nI v - (fErr (flt r) (nI m') (nI t') f G c + nI v) / nI 10000 * nI 10000 = rem4 (fErr (flt r) (nI m') (nI t') f G c + nI v) := rfl
        have hf2 : Fr (RZ z) μ (uI μ z c (rem4 (fErr (flt r) (nI m') (nI t') f G c + nI v))) := Fr.refl.iu (Or.inr rfl)
        simp (disch := first | omega | rfl) only [e_190_262, e_190_263, e_190_264, e_190_267, e_190_270, e_190_271, e_190_273, e_190_274, e_190_277, e_190_279, e_190_282, e_190_283, e_190_285, e_190_286, e_190_289, e_190_291, e_190_294, e_190_297, e_190_298, e_190_300, e_190_301, e_190_304, e_190_306, e_190_307, e_190_309, e_190_310, e_190_312, e_190_313, e_190_314, e_190_316, e_190_317, e_190_320, e_190_321, e_190_324, e_190_325, e_190_326, e_190_329, ge1, ule_t, true_or, or_true, nI_add, nI_mul, nI_sub, nI_clamp, nI_lt_t, nI_lt_f, nI_le_t, nI_le_f, nI_eq_t, nI_eq_f, vp_nI, tI, fI, not_true, not_false_iff, true_and, and_true, Classical.not_not, mS_uI, mS_uA, mS_uJ, mS_uR, mS_uX, mR_uI, mR_uA, mR_uJ, mR_uX, mX_uI, mX_uA, mX_uJ, mX_uR, mI_s, mI_n, mI_A, mI_An, mI_uJ, mI_uR, mI_uX, mJ_uI, mJ_uA, mJ_uR, mJ_uX, onR_s, kC_v, kC_n, kC_t, sh, hs, g0, g10, g11, g12, g13, e, er, cgS, ku190, ku190a, forall_const, false_implies, eq_self]
        refine ih (f + 1) _ _ (by omega) (hI.rz hA hf2 hz) (show mS (uI μ z c _) z = (20, 16) from hs) (fun k hk => ?_) (fun μ' l7 h => hq μ' l7 (hf2.trans h))
        rw [eN]
        unfold upd
        by_cases hk2 : k = c
        · subst hk2; rw [mI_s, if_pos rfl]
        · rw [mI_n (by omega), if_neg hk2]; exact hE k hk
      · have hne : ¬ nI t' = nI t := fun e => h2 ((nI_eq (by omega) (by omega)).mp e)
        have eN : fErr (flt r) (nI m') (nI t) (f + 1) G = fErr (flt r) (nI m') (nI t) f G := by rw [fErr, q0, q1, if_neg (by rintro ⟨-, h⟩; exact hne h)]
        have i2 := ih (f + 1) μ l7 (by omega) hI hs (by rw [eN]; exact hE) hq
        simp (disch := first | omega | rfl) only [e_190_262, e_190_263, e_190_264, e_190_267, e_190_270, e_190_271, e_190_273, e_190_274, e_190_277, e_190_279, e_190_282, e_190_283, e_190_285, e_190_286, e_190_289, e_190_291, e_190_294, e_190_297, e_190_298, e_190_300, e_190_301, e_190_304, e_190_306, e_190_307, e_190_309, e_190_310, e_190_312, e_190_313, e_190_314, e_190_316, e_190_317, e_190_320, e_190_321, e_190_324, e_190_325, e_190_326, e_190_329, ge1, ule_t, true_or, or_true, nI_add, nI_mul, nI_sub, nI_clamp, nI_lt_t, nI_lt_f, nI_le_t, nI_le_f, nI_eq_t, nI_eq_f, vp_nI, tI, fI, not_true, not_false_iff, true_and, and_true, Classical.not_not, mS_uI, mS_uA, mS_uJ, mS_uR, mS_uX, mR_uI, mR_uA, mR_uJ, mR_uX, mX_uI, mX_uA, mX_uJ, mX_uR, mI_s, mI_n, mI_A, mI_An, mI_uJ, mI_uR, mI_uX, mJ_uI, mJ_uA, mJ_uR, mJ_uX, onR_s, kC_v, kC_n, kC_t, sh, hs, g0, g10, g11, hne, cgS, ku190, ku190a, forall_const, false_implies, eq_self]
        exact i2
    · have hne : ¬ nI m' = nI m := fun e => h1 ((nI_eq (by omega) (by omega)).mp e)
      have eN : fErr (flt r) (nI m) (nI t) (f + 1) G = fErr (flt r) (nI m) (nI t) f G := by rw [fErr, q0, q1, if_neg (by rintro ⟨h, -⟩; exact hne h)]
      have i2 := ih (f + 1) μ l7 (by omega) hI hs (by rw [eN]; exact hE) hq
      simp (disch := first | omega | rfl) only [e_190_262, e_190_263, e_190_264, e_190_267, e_190_270, e_190_271, e_190_273, e_190_274, e_190_277, e_190_279, e_190_282, e_190_283, e_190_285, e_190_286, e_190_289, e_190_291, e_190_294, e_190_297, e_190_298, e_190_300, e_190_301, e_190_304, e_190_306, e_190_307, e_190_309, e_190_310, e_190_312, e_190_313, e_190_314, e_190_316, e_190_317, e_190_320, e_190_321, e_190_324, e_190_325, e_190_326, e_190_329, ge1, ule_t, true_or, or_true, nI_add, nI_mul, nI_sub, nI_clamp, nI_lt_t, nI_lt_f, nI_le_t, nI_le_f, nI_eq_t, nI_eq_f, vp_nI, tI, fI, not_true, not_false_iff, true_and, and_true, Classical.not_not, mS_uI, mS_uA, mS_uJ, mS_uR, mS_uX, mR_uI, mR_uA, mR_uJ, mR_uX, mX_uI, mX_uA, mX_uJ, mX_uR, mI_s, mI_n, mI_A, mI_An, mI_uJ, mI_uR, mI_uX, mJ_uI, mJ_uA, mJ_uR, mJ_uX, onR_s, kC_v, kC_n, kC_t, sh, hs, g0, g10, hne, cgS, ku190, ku190a, forall_const, false_implies]
      exact i2
/-- the turns a member has before it -/
theorem l_190C2 (hA : AI r u pr tn) (hz : 1298 ≤ z) (hm : m < nM r) : ∀ n t μ (l6 l7 : Option Value), nE (rW r) m ≤ t → t + n = nT r → CI μ 1032 1055 r u pr tn → mS μ z = (20, 16) → EqL (mI μ z) (fSee r m (vC r m) (nE (rW r) m) (t - nE (rW r) m)) → (∀ μ' l6 l7, Fr (RZ z) μ μ' → EqL (mI μ' z) (fSee r m (vC r m) (nE (rW r) m) (nT r - nE (rW r) m)) → EM 190 (d + 8) 338 [some (.ref 1000), l1, some (.ref z), l3, some (.int (nI m)), some (.int (nI (nT r))), l6, l7] [] μ' (uad (0, 0) (1, 16)) Q) → EM 190 (d + 8) 240 [some (.ref 1000), l1, some (.ref z), l3, some (.int (nI m)), some (.int (nI t)), l6, l7] [] μ (uad (0, 0) (1, 16)) Q := by
  have T40 := hA.1.2.2.2.1
  intro n
  induction n with
  | zero =>
    intro t μ l6 l7 hb ht hI hs hE hq
    obtain rfl : t = nT r := by omega
    have sh := hI.1.1
    have g0 := fun (d : Nat) (Q : Po) => w_98_1 (d := d) (Q := Q) hI hA
    rw [e_190_240]
    simp (disch := first | omega | rfl) only [e_190_242, e_190_243, e_190_244, e_190_247, e_190_250, e_190_251, e_190_252, e_190_254, e_190_257, e_190_258, ge1, ule_t, true_or, or_true, nI_add, nI_mul, nI_sub, nI_clamp, nI_lt_t, nI_lt_f, nI_le_t, nI_le_f, nI_eq_t, nI_eq_f, vp_nI, tI, fI, not_true, not_false_iff, true_and, and_true, Classical.not_not, mS_uI, mS_uA, mS_uJ, mS_uR, mS_uX, mR_uI, mR_uA, mR_uJ, mR_uX, mX_uI, mX_uA, mX_uJ, mX_uR, mI_s, mI_n, mI_A, mI_An, mI_uJ, mI_uR, mI_uX, mJ_uI, mJ_uA, mJ_uR, mJ_uX, onR_s, kC_v, kC_n, kC_t, sh, g0, ku190, forall_const, false_implies]
    exact hq μ _ _ Fr.refl hE
  | succ n ih =>
    intro t μ l6 l7 hb ht hI hs hE hq
    have sh := hI.1.1
    have g0 := fun (d : Nat) (Q : Po) => w_98_1 (d := d) (Q := Q) hI hA
    have g2 := fun (d : Nat) (Q : Po) => w_189 (d := d) (Q := Q) (F := mI μ z) hI hA hz hs (show t < nT r by omega)
    rw [uA_self] at g2
    have hf1 : Fr (RZ z) μ (uA μ z (fT r t (mI μ z))) := Fr.refl.au (Or.inr rfl)
    have hI1 := hI.rz hA hf1 hz
    have hP := okP_z hA.1.2.2.2.2.2.2.2.2.2.2.2.2.2.2.2.2.1 (show t < nT r by omega)
    rw [e_190_240]
    simp (disch := first | omega | rfl) only [e_190_242, e_190_243, e_190_244, e_190_247, e_190_250, e_190_251, e_190_252, e_190_254, e_190_257, e_190_258, ge1, ule_t, true_or, or_true, nI_add, nI_mul, nI_sub, nI_clamp, nI_lt_t, nI_lt_f, nI_le_t, nI_le_f, nI_eq_t, nI_eq_f, vp_nI, tI, fI, not_true, not_false_iff, true_and, and_true, Classical.not_not, mS_uI, mS_uA, mS_uJ, mS_uR, mS_uX, mR_uI, mR_uA, mR_uJ, mR_uX, mX_uI, mX_uA, mX_uJ, mX_uR, mI_s, mI_n, mI_A, mI_An, mI_uJ, mI_uR, mI_uX, mJ_uI, mJ_uA, mJ_uR, mJ_uX, onR_s, kC_v, kC_n, kC_t, sh, g0, g2, cgU, ku190, ku190c, forall_const, false_implies]
    refine l_190C3 (G := fT r t (fSee r m (vC r m) (nE (rW r) m) (t - nE (rW r) m))) hA hz hm (by omega) (nF r) 0 _ _ (by omega) hI1 (show mS (uA μ z _) z = (20, 16) from hs) (fun k hk => ?_) (fun μ2 k7 h2 hE2 => ?_)
    · rw [mI_A]
      exact EqL.turn hE hP.2.2 _ (Nat.le_refl _) k hk
    · have hf2 := hf1.trans h2
      have hI2 := hI1.rz hA h2 hz
      have hs2 : mS μ2 z = (20, 16) := (congrFun hf2.sh z).trans hs
      have eS : fSee r m (vC r m) (nE (rW r) m) (t + 1 - nE (rW r) m) = fErr (flt r) (nI m) (nI t) (nF r) (fT r t (fSee r m (vC r m) (nE (rW r) m) (t - nE (rW r) m))) := by
        rw [show t + 1 - nE (rW r) m = (t - nE (rW r) m) + 1 by omega, fSee, show nE (rW r) m + (t - nE (rW r) m) = t by omega]
      simp (disch := first | omega | rfl) only [e_190_332, e_190_335, ge1, ule_t, true_or, or_true, nI_add, nI_mul, nI_sub, nI_clamp, nI_lt_t, nI_lt_f, nI_le_t, nI_le_f, nI_eq_t, nI_eq_f, vp_nI, tI, fI, not_true, not_false_iff, true_and, and_true, Classical.not_not, mS_uI, mS_uA, mS_uJ, mS_uR, mS_uX, mR_uI, mR_uA, mR_uJ, mR_uX, mX_uI, mX_uA, mX_uJ, mX_uR, mI_s, mI_n, mI_A, mI_An, mI_uJ, mI_uR, mI_uX, mJ_uI, mJ_uA, mJ_uR, mJ_uX, onR_s, kC_v, kC_n, kC_t]
      exact ih (t + 1) μ2 _ _ (by omega) (by omega) hI2 hs2 (by rw [eS]; exact hE2) (fun μ' k6 k7 h => hq μ' k6 k7 (hf2.trans h))
theorem l_190C4 (hA : AI r u pr tn) (hz : 1298 ≤ z) (hm : m < nM r) : ∀ n c μ, c + n = 16 → CI μ 1032 1055 r u pr tn → mS μ z = (20, 16) → EqL (mI μ z) (fSee r m (vC r m) (nE (rW r) m) (nT r - nE (rW r) m)) → (∀ μ', Fr RT μ μ' → EM 190 (d + 8) 371 [some (.ref 1000), l1, some (.ref z), l3, some (.int (nI m)), some (.int (nI 16)), l6, l7] [] μ' (uad (0, 0) (1, 16)) Q) → EM 190 (d + 8) 341 [some (.ref 1000), l1, some (.ref z), l3, some (.int (nI m)), some (.int (nI c)), l6, l7] [] μ (uad (0, 0) (1, 16)) Q := by
  intro n
  induction n with
  | zero =>
    intro c μ hc hI hs hE hq
    obtain rfl : c = 16 := by omega
    rw [e_190_341]
    simp (disch := first | omega | rfl) only [e_190_343, e_190_345, e_190_348, e_190_349, e_190_351, e_190_353, e_190_356, e_190_357, e_190_359, e_190_360, e_190_363, e_190_364, e_190_365, e_190_368, ge1, ule_t, true_or, or_true, nI_add, nI_mul, nI_sub, nI_clamp, nI_lt_t, nI_lt_f, nI_le_t, nI_le_f, nI_eq_t, nI_eq_f, vp_nI, tI, fI, not_true, not_false_iff, true_and, and_true, Classical.not_not, mS_uI, mS_uA, mS_uJ, mS_uR, mS_uX, mR_uI, mR_uA, mR_uJ, mR_uX, mX_uI, mX_uA, mX_uJ, mX_uR, mI_s, mI_n, mI_A, mI_An, mI_uJ, mI_uR, mI_uX, mJ_uI, mJ_uA, mJ_uR, mJ_uX, onR_s, kC_v, kC_n, kC_t, forall_const, false_implies]
    exact hq μ Fr.refl
  | succ n ih =>
    intro c μ hc hI hs hE hq
    have sh := hI.1.1
    rw [e_190_341]
    simp (disch := first | omega | rfl) only [e_190_343, e_190_345, e_190_348, e_190_349, e_190_351, e_190_353, e_190_356, e_190_357, e_190_359, e_190_360, e_190_363, e_190_364, e_190_365, e_190_368, ge1, ule_t, true_or, or_true, nI_add, nI_mul, nI_sub, nI_clamp, nI_lt_t, nI_lt_f, nI_le_t, nI_le_f, nI_eq_t, nI_eq_f, vp_nI, tI, fI, not_true, not_false_iff, true_and, and_true, Classical.not_not, mS_uI, mS_uA, mS_uJ, mS_uR, mS_uX, mR_uI, mR_uA, mR_uJ, mR_uX, mX_uI, mX_uA, mX_uJ, mX_uR, mI_s, mI_n, mI_A, mI_An, mI_uJ, mI_uR, mI_uX, mJ_uI, mJ_uA, mJ_uR, mJ_uX, onR_s, kC_v, kC_n, kC_t, sh, ku190b, forall_const, false_implies]
    refine w_138 hI hA hm (by omega) (fun μ1 h1 => ?_)
    have hs1 : mS μ1 z = (20, 16) := (congrFun h1.sh z).trans hs
    have hE1 := zEq hE h1 hz
    have e := hE1 c (by omega)
    simp (disch := first | omega | rfl) only [e_190_356, e_190_357, e_190_359, e_190_360, e_190_363, e_190_364, e_190_365, e_190_368, ge1, ule_t, true_or, or_true, nI_add, nI_mul, nI_sub, nI_clamp, nI_lt_t, nI_lt_f, nI_le_t, nI_le_f, nI_eq_t, nI_eq_f, vp_nI, tI, fI, not_true, not_false_iff, true_and, and_true, Classical.not_not, mS_uI, mS_uA, mS_uJ, mS_uR, mS_uX, mR_uI, mR_uA, mR_uJ, mR_uX, mX_uI, mX_uA, mX_uJ, mX_uR, mI_s, mI_n, mI_A, mI_An, mI_uJ, mI_uR, mI_uX, mJ_uI, mJ_uA, mJ_uR, mJ_uX, onR_s, kC_v, kC_n, kC_t, hs1, e, cgE h1.nx, ku190, forall_const, false_implies, eq_self]
    exact ih (c + 1) μ1 (by omega) (hI.rt hA h1) hs1 hE1 (fun μ' h => hq μ' (h1.trans h))
theorem l_190C (hI0 : CI μ0 1032 1055 r u pr tn) (hA : AI r u pr tn) (hz : 1298 ≤ z) (hs0 : mS μ0 z = (20, 16)) : ∀ n m μ (l5 l6 l7 : Option Value), m + n = nM r → Fr (RZ z) μ0 μ → (∀ μ' l4 l5 l6 l7, Fr (RZ z) μ0 μ' → EM 190 (d + 8) 377 [some (.ref 1000), l1, some (.ref z), l3, l4, l5, l6, l7] [] μ' (uad (0, 0) (1, 16)) Q) → EM 190 (d + 8) 194 [some (.ref 1000), l1, some (.ref z), l3, some (.int (nI m)), l5, l6, l7] [] μ (uad (0, 0) (1, 16)) Q := by
  have h6 := hA.1.2.1
  intro n
  induction n with
  | zero =>
    intro m μ l5 l6 l7 hm hf hq
    obtain rfl : m = nM r := by omega
    have hI := hI0.rz hA hf hz
    have sh := hI.1.1
    have g0 := fun (d : Nat) (Q : Po) => w_98_0 (d := d) (Q := Q) hI hA
    rw [e_190_194]
    simp (disch := first | omega | rfl) only [e_190_196, e_190_197, e_190_198, e_190_201, e_190_204, e_190_205, ge1, ule_t, true_or, or_true, nI_add, nI_mul, nI_sub, nI_clamp, nI_lt_t, nI_lt_f, nI_le_t, nI_le_f, nI_eq_t, nI_eq_f, vp_nI, tI, fI, not_true, not_false_iff, true_and, and_true, Classical.not_not, mS_uI, mS_uA, mS_uJ, mS_uR, mS_uX, mR_uI, mR_uA, mR_uJ, mR_uX, mX_uI, mX_uA, mX_uJ, mX_uR, mI_s, mI_n, mI_A, mI_An, mI_uJ, mI_uR, mI_uX, mJ_uI, mJ_uA, mJ_uR, mJ_uX, onR_s, kC_v, kC_n, kC_t, sh, g0, ku190, forall_const, false_implies]
    exact hq _ _ _ _ _ hf
  | succ n ih =>
    intro m μ l5 l6 l7 hm hf hq
    have hI := hI0.rz hA hf hz
    have sh := hI.1.1
    have hs : mS μ z = (20, 16) := (congrFun hf.sh z).trans hs0
    have g0 := fun (d : Nat) (Q : Po) => w_98_0 (d := d) (Q := Q) hI hA
    have hE := nE_le hA.1 (show m < nM r by omega)
    rw [e_190_194]
    simp (disch := first | omega | rfl) only [e_190_196, e_190_197, e_190_198, e_190_201, e_190_204, e_190_205, ge1, ule_t, true_or, or_true, nI_add, nI_mul, nI_sub, nI_clamp, nI_lt_t, nI_lt_f, nI_le_t, nI_le_f, nI_eq_t, nI_eq_f, vp_nI, tI, fI, not_true, not_false_iff, true_and, and_true, Classical.not_not, mS_uI, mS_uA, mS_uJ, mS_uR, mS_uX, mR_uI, mR_uA, mR_uJ, mR_uX, mX_uI, mX_uA, mX_uJ, mX_uR, mI_s, mI_n, mI_A, mI_An, mI_uJ, mI_uR, mI_uX, mJ_uI, mJ_uA, mJ_uR, mJ_uX, onR_s, kC_v, kC_n, kC_t, sh, g0, ku190, forall_const, false_implies]
    refine l_190C1 hA hz (by omega) 16 0 μ (by omega) hI hs (fun j hj => absurd hj (Nat.not_lt_zero j)) (fun μ1 h1 e1 => ?_)
    have hI1 := hI.rz hA h1 hz
    have hs1 : mS μ1 z = (20, 16) := (congrFun h1.sh z).trans hs
    have g1 := fun (d : Nat) (Q : Po) => w_187 (d := d) (Q := Q) (m := m) hI1 hA (by omega)
    simp (disch := first | omega | rfl) only [e_190_232, e_190_233, e_190_235, e_190_238, mS_uI, mS_uA, mS_uJ, mS_uR, mS_uX, mR_uI, mR_uA, mR_uJ, mR_uX, mX_uI, mX_uA, mX_uJ, mX_uR, mI_s, mI_n, mI_A, mI_An, mI_uJ, mI_uR, mI_uX, mJ_uI, mJ_uA, mJ_uR, mJ_uX, onR_s, kC_v, kC_n, kC_t, g1, cgS, ku190a, true_and]
    refine l_190C2 hA hz (by omega) (nT r - nE (rW r) m) (nE (rW r) m) μ1 _ _ (Nat.le_refl _) (by omega) hI1 hs1 (by rw [Nat.sub_self]; exact e1) (fun μ2 k6 k7 h2 e2 => ?_)
    have hI2 := hI1.rz hA h2 hz
    have hs2 : mS μ2 z = (20, 16) := (congrFun h2.sh z).trans hs1
    simp (disch := first | omega | rfl) only [e_190_338, e_190_339, mS_uI, mS_uA, mS_uJ, mS_uR, mS_uX, mR_uI, mR_uA, mR_uJ, mR_uX, mX_uI, mX_uA, mX_uJ, mX_uR, mI_s, mI_n, mI_A, mI_An, mI_uJ, mI_uR, mI_uX, mJ_uI, mJ_uA, mJ_uR, mJ_uX, onR_s, kC_v, kC_n, kC_t]
    refine l_190C4 hA hz (by omega) 16 0 μ2 (by omega) hI2 hs2 e2 (fun μ3 h3 => ?_)
    simp (disch := first | omega | rfl) only [e_190_371, e_190_374, ge1, ule_t, true_or, or_true, nI_add, nI_mul, nI_sub, nI_clamp, nI_lt_t, nI_lt_f, nI_le_t, nI_le_f, nI_eq_t, nI_eq_f, vp_nI, tI, fI, not_true, not_false_iff, true_and, and_true, Classical.not_not, mS_uI, mS_uA, mS_uJ, mS_uR, mS_uX, mR_uI, mR_uA, mR_uJ, mR_uX, mX_uI, mX_uA, mX_uJ, mX_uR, mI_s, mI_n, mI_A, mI_An, mI_uJ, mI_uR, mI_uX, mJ_uI, mJ_uA, mJ_uR, mJ_uX, onR_s, kC_v, kC_n, kC_t]
    exact ih (m + 1) μ3 _ _ _ (by omega) (((hf.trans h1).trans h2).trans h3.rz) hq
theorem w_190 (h : PIr L xs μ r u pr tn) (hL : L ≤ 260) (hq : ∀ μ', FrL μ μ' → Q (some (some (.int (nI 1)))) μ') : Ev (d + 9) 190 [.ref 1000, .ref 300] μ Q := by
  have hPI := h
  obtain ⟨hI, hA, h3, h4, h5, h6, hX⟩ := h
  have T40 := hA.1.2.2.2.1
  have fl1 : FrL μ (uN μ 20 16) := FrL.refl.uN
  have hP1 := hPI.frl fl1
  obtain ⟨hI1, -, -, -, -, hW1, -⟩ := hP1
  have kx : (16 ≤ 60000000) = True := eq_true (by omega)
  have hs : mS (uN μ 20 16) (mX μ) = (20, 16) := mS_uNs
  rw [in_190]
  simp (disch := first | omega | rfl) only [e_190_0, e_190_2, e_190_4, e_190_5, e_190_6, mS_uI, mS_uA, mS_uJ, mS_uR, mS_uX, mR_uI, mR_uA, mR_uJ, mR_uX, mX_uI, mX_uA, mX_uJ, mX_uR, mI_s, mI_n, mI_A, mI_An, mI_uJ, mI_uR, mI_uX, mJ_uI, mJ_uA, mJ_uR, mJ_uX, onR_s, kC_v, kC_n, kC_t, nI_clamp, nI_lt_f, kx, ku190, not_false_iff, true_and]
  refine l_190A (μ0 := uN μ 20 16) hL h3 hX hs hW1.1 16 0 _ (by omega) Fr.refl (fun j hj => absurd hj (Nat.not_lt_zero j)) (fun μ2 f2 e2 => ?_)
  simp (disch := first | omega | rfl) only [e_190_27, e_190_28, e_190_29, e_190_30, mS_uI, mS_uA, mS_uJ, mS_uR, mS_uX, mR_uI, mR_uA, mR_uJ, mR_uX, mX_uI, mX_uA, mX_uJ, mX_uR, mI_s, mI_n, mI_A, mI_An, mI_uJ, mI_uR, mI_uX, mJ_uI, mJ_uA, mJ_uR, mJ_uX, onR_s, kC_v, kC_n, kC_t]
  have hB := l_190B (d := d) (Q := Q) (l1 := some (.ref 300)) hI1 hA hX hs (nT r + 1) 0 μ2 none none none (by omega) f2 (fun _ => e2)
  rw [PT_0] at hB
  refine hB (fun μ3 l4 l5 l6 l7 f3 => ?_)
  simp (disch := first | omega | rfl) only [e_190_191, e_190_192, mS_uI, mS_uA, mS_uJ, mS_uR, mS_uX, mR_uI, mR_uA, mR_uJ, mR_uX, mX_uI, mX_uA, mX_uJ, mX_uR, mI_s, mI_n, mI_A, mI_An, mI_uJ, mI_uR, mI_uX, mJ_uI, mJ_uA, mJ_uR, mJ_uX, onR_s, kC_v, kC_n, kC_t]
  refine l_190C hI1 hA hX hs (nM r) 0 μ3 _ _ _ (by omega) f3 (fun μ4 l4 l5 l6 l7 f4 => ?_)
  have hI4 := hI1.rz hA f4 hX
  have sh4 := hI4.1.1
  simp (disch := first | omega | rfl) only [e_190_377, e_190_378, e_190_381, e_190_382, e_190_385, e_190_386, e_190_387, e_190_388, e_190_391, e_190_392, e_190_393, e_190_394, e_190_397, e_190_398, e_190_401, e_190_402, e_190_403, e_190_404, e_190_407, e_190_408, e_190_411, e_190_412, e_190_415, e_190_416, mS_uI, mS_uA, mS_uJ, mS_uR, mS_uX, mR_uI, mR_uA, mR_uJ, mR_uX, mX_uI, mX_uA, mX_uJ, mX_uR, mI_s, mI_n, mI_A, mI_An, mI_uJ, mI_uR, mI_uX, mJ_uI, mJ_uA, mJ_uR, mJ_uX, onR_s, kC_v, kC_n, kC_t, sh4, ku190, true_and]
  refine w_135 hI4 hA (fun μ5 f5 => ?_)
  have hI5 := hI4.rt hA f5
  have sh5 := hI5.1.1
  have g1 := fun (d : Nat) (Q : Po) => w_98_1 (d := d) (Q := Q) hI5 hA
  have b1 : bad (nI (nT r + 1)) (nT r + 1) := Or.inr (nI_le (Nat.le_refl _) (by omega))
  have b2 : bad (-1) (nT r + 1) := Or.inl (by decide)
  have g2 := fun (d : Nat) (Q : Po) => c_134n (d := d) (Q := Q) (i := 0) hI5.1 hI5.2.2.1.1 hA.1 (by omega) b1
  have g3 := fun (d : Nat) (Q : Po) => c_134n (d := d) (Q := Q) (i := 0) hI5.1 hI5.2.2.1.1 hA.1 (by omega) b2
  simp (disch := first | omega | rfl) only [e_190_381, e_190_382, e_190_385, e_190_386, e_190_387, e_190_388, e_190_391, e_190_392, e_190_393, e_190_394, e_190_397, e_190_398, e_190_401, e_190_402, e_190_403, e_190_404, e_190_407, e_190_408, e_190_411, e_190_412, e_190_415, e_190_416, mS_uI, mS_uA, mS_uJ, mS_uR, mS_uX, mR_uI, mR_uA, mR_uJ, mR_uX, mX_uI, mX_uA, mX_uJ, mX_uR, mI_s, mI_n, mI_A, mI_An, mI_uJ, mI_uR, mI_uX, mJ_uI, mJ_uA, mJ_uR, mJ_uX, onR_s, kC_v, kC_n, kC_t, sh5, g1, g2, g3, nI_add, cgS, ku190, ku190a, or_true, not_true, forall_const, false_implies, true_and, and_true]
  exact hq μ5 ((fl1.rz f4 (Nat.le_refl _)).trans (FrL.rt f5))
end LTrue2

