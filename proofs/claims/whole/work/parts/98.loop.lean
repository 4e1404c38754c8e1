/-! the law's loop, case by case -/
def Nxt (D L : Nat) (xs : Nat → Int32) (k : Nat) (Q : Po) : Prop := ∀ μ u1 u2 l5 l6 l7 l8, Inv L xs μ → u1 ≤ 310 + 1000 * (k + 1) → u2 ≤ 32446 + 14000 * (k + 1) → EM 304 D 23 [some (.ref 300), some (.ref 1000), some (.ref 1298), some (.ref 1309), some (.int (nI (6 * k + 6))), l5, l6, l7, l8] [] μ (u1, u2) Q
section Loop
variable {d L k u1 u2 : Nat} {Q : Po} {xs : Nat → Int32} {μ : Mu} {l5 l6 l7 l8 : Option Value}
theorem Inv.bas (h : Inv L xs μ) : mS μ 1000 = (11, 11) ∧ mS μ 1298 = (12, 27) ∧ mS μ 300 = (20, L) ∧ (∀ k, mI μ 300 k = xs k) ∧ mS μ 1309 = (22, 1) := by
  obtain ⟨s, c, s2, c2, u, f, n, v, hCo, hP, hR⟩ := h
  exact ⟨hCo.1.1.1, hR.1.1, hR.2.2.2.2.1.2.1, hR.2.2.2.2.1.2.2.1, hR.2.2.2.2.1.2.2.2⟩
theorem lg_self {y : Int64} : lg_cmp y y = nI 0 := by
  unfold lg_cmp
  rw [if_neg (fun h => Int64.lt_irrefl h), if_pos rfl]
  rfl
theorem lg_0 : lg_cmp (nI 0).toInt64 (Int64.ofNat 0) = nI 0 := by decide
theorem lg_1 : lg_cmp (nI 1).toInt64 (Int64.ofNat 1) = nI 0 := by decide
theorem and63 (x : Int32) : ∃ c, c < 64 ∧ x &&& nI 63 = nI c := by
  refine ⟨x.toBitVec.toNat % 64, Nat.mod_lt _ (by decide), ?_⟩
  apply Int32.toBitVec_inj.mp
  rw [Int32.toBitVec_and, nI_bv, nI_bv]
  apply BitVec.eq_of_toNat_eq
  rw [BitVec.toNat_and, BitVec.toNat_ofNat, BitVec.toNat_ofNat, Nat.mod_eq_of_lt (show 63 < 2 ^ 32 by decide)]
  have := Nat.mod_lt x.toBitVec.toNat (show 0 < 64 by decide)
  rw [Nat.mod_eq_of_lt (show x.toBitVec.toNat % 64 < 2 ^ 32 by omega)]
  exact Nat.and_two_pow_sub_one_eq_mod _ 6
theorem lt6 (hL : L ≤ 3072) (hk : 6 * k ≤ L) : (nI L - nI 6 < nI (6 * k)) = (L < 6 * k + 6) := by
  apply propext
  rw [Int32.lt_iff_toInt_lt, Int32.toInt_sub, nI_toInt (by omega), nI_toInt (by omega), nI_toInt (by omega), Int.bmod_eq_of_le (by omega) (by omega)]
  omega
theorem lt6t (hL : L ≤ 3072) (hk : 6 * k ≤ L) (h : L < 6 * k + 6) : (nI L - nI 6 < nI (6 * k)) = True := by rw [lt6 hL hk]; exact eq_true h
theorem lt6f (hL : L ≤ 3072) (hk : 6 * k + 6 ≤ L) : (nI L - nI 6 < nI (6 * k)) = False := by rw [lt6 hL (by omega)]; exact eq_false (by omega)

theorem w_0 (h : Inv L xs μ) (hL : L ≤ 3072) (hk : 6 * k + 6 ≤ L) (h1 : u1 ≤ 310 + 1000 * k) (h2 : u2 ≤ 32446 + 14000 * k) (hq : Nxt (d + 20) L xs k Q) : EM 304 (d + 20) 240 [some (.ref 300), some (.ref 1000), some (.ref 1298), some (.ref 1309), some (.int (nI (6 * k))), l5, l6, l7, l8] [] μ (u1, u2) Q := by
  obtain ⟨s0, s98, s3, x0, s9⟩ := h.bas
  simp (disch := first | omega | rfl) only [e_304_240, e_304_241, e_304_242, e_304_244, e_304_245, e_304_246, e_304_247, e_304_248, e_304_250, e_304_251, e_304_252, e_304_253, e_304_254, e_304_256, e_304_257, e_304_258, e_304_259, e_304_260, e_304_262, e_304_263, e_304_264, e_304_265, e_304_266, e_304_268, e_304_269, e_304_270, e_304_271, e_304_274, e_304_275, e_304_276, e_304_278, e_304_279, e_304_280, e_304_281, e_304_282, e_304_284, e_304_285, e_304_286, e_304_287, e_304_288, e_304_290, e_304_291, e_304_292, e_304_293, e_304_294, e_304_296, e_304_297, e_304_298, e_304_299, e_304_300, e_304_302, e_304_303, e_304_304, e_304_305, e_304_308, e_304_311, e_304_312, ge1, ule_t, true_or, or_true, nI_add, nI_mul, nI_sub, nI_clamp, nI_lt_t, nI_lt_f, nI_le_t, nI_le_f, nI_eq_t, nI_eq_f, vp_nI, tI, fI, not_true, not_false_iff, true_and, and_true, Classical.not_not, s0, s3, x0, fixL_i, fixL_r, fixL_n, uad_p, ule_p, leT, and_self]
  refine Ev_mono _ _ _ _ _ _ (fun o μ1 hh => ?_) (p_89 h)
  obtain ⟨v, rfl, ⟨b3, b98, bx⟩, hE⟩ := hh
  have t3 : mS μ1 300 = (20, L) := b3.trans s3
  have t98 := b98.trans s98
  have tx : ∀ k, mI μ1 300 k = xs k := fun k => (bx k).trans (x0 k)
  simp (disch := first | omega | rfl) only [e_304_240, e_304_241, e_304_242, e_304_244, e_304_245, e_304_246, e_304_247, e_304_248, e_304_250, e_304_251, e_304_252, e_304_253, e_304_254, e_304_256, e_304_257, e_304_258, e_304_259, e_304_260, e_304_262, e_304_263, e_304_264, e_304_265, e_304_266, e_304_268, e_304_269, e_304_270, e_304_271, e_304_274, e_304_275, e_304_276, e_304_278, e_304_279, e_304_280, e_304_281, e_304_282, e_304_284, e_304_285, e_304_286, e_304_287, e_304_288, e_304_290, e_304_291, e_304_292, e_304_293, e_304_294, e_304_296, e_304_297, e_304_298, e_304_299, e_304_300, e_304_302, e_304_303, e_304_304, e_304_305, e_304_308, e_304_311, e_304_312, ge1, ule_t, true_or, or_true, nI_add, nI_mul, nI_sub, nI_clamp, nI_lt_t, nI_lt_f, nI_le_t, nI_le_f, nI_eq_t, nI_eq_f, vp_nI, tI, fI, not_true, not_false_iff, true_and, and_true, Classical.not_not, kC_v, t3, t98, tx, fixL_i, fixL_r, fixL_n, uad_p, ule_p, leT, and_self]
  refine Ev_mono _ _ _ _ _ _ (fun o2 μ2 hh2 => ?_) hE
  obtain ⟨rfl, hI2⟩ := hh2
  simp (disch := first | omega | rfl) only [e_304_240, e_304_241, e_304_242, e_304_244, e_304_245, e_304_246, e_304_247, e_304_248, e_304_250, e_304_251, e_304_252, e_304_253, e_304_254, e_304_256, e_304_257, e_304_258, e_304_259, e_304_260, e_304_262, e_304_263, e_304_264, e_304_265, e_304_266, e_304_268, e_304_269, e_304_270, e_304_271, e_304_274, e_304_275, e_304_276, e_304_278, e_304_279, e_304_280, e_304_281, e_304_282, e_304_284, e_304_285, e_304_286, e_304_287, e_304_288, e_304_290, e_304_291, e_304_292, e_304_293, e_304_294, e_304_296, e_304_297, e_304_298, e_304_299, e_304_300, e_304_302, e_304_303, e_304_304, e_304_305, e_304_308, e_304_311, e_304_312, e_304_2370, e_304_2373, ge1, ule_t, true_or, or_true, nI_add, nI_mul, nI_sub, nI_clamp, nI_lt_t, nI_lt_f, nI_le_t, nI_le_f, nI_eq_t, nI_eq_f, vp_nI, tI, fI, not_true, not_false_iff, true_and, and_true, Classical.not_not, kC_v, fixL_i, fixL_r, fixL_n, uad_p, ule_p, leT, and_self]
  exact hq _ _ _ _ _ _ _ hI2 (by omega) (by omega)

theorem w_1 (h : Inv L xs μ) (hL : L ≤ 3072) (hk : 6 * k + 6 ≤ L) (h1 : u1 ≤ 310 + 1000 * k) (h2 : u2 ≤ 32446 + 14000 * k) (hq : Nxt (d + 20) L xs k Q) : EM 304 (d + 20) 313 [some (.ref 300), some (.ref 1000), some (.ref 1298), some (.ref 1309), some (.int (nI (6 * k))), l5, l6, l7, l8] [] μ (u1, u2) Q := by
  obtain ⟨s0, s98, s3, x0, s9⟩ := h.bas
  simp (disch := first | omega | rfl) only [e_304_313, e_304_314, e_304_315, e_304_317, e_304_318, e_304_319, e_304_320, e_304_323, e_304_324, e_304_325, e_304_327, e_304_328, e_304_329, e_304_330, e_304_333, e_304_336, e_304_337, ge1, ule_t, true_or, or_true, nI_add, nI_mul, nI_sub, nI_clamp, nI_lt_t, nI_lt_f, nI_le_t, nI_le_f, nI_eq_t, nI_eq_f, vp_nI, tI, fI, not_true, not_false_iff, true_and, and_true, Classical.not_not, s0, s3, x0, fixL_i, fixL_r, fixL_n, uad_p, ule_p, leT, and_self]
  refine Ev_mono _ _ _ _ _ _ (fun o μ1 hh => ?_) (p_91 h)
  obtain ⟨v, rfl, ⟨b3, b98, bx⟩, hE⟩ := hh
  have t3 : mS μ1 300 = (20, L) := b3.trans s3
  have t98 := b98.trans s98
  have tx : ∀ k, mI μ1 300 k = xs k := fun k => (bx k).trans (x0 k)
  simp (disch := first | omega | rfl) only [e_304_313, e_304_314, e_304_315, e_304_317, e_304_318, e_304_319, e_304_320, e_304_323, e_304_324, e_304_325, e_304_327, e_304_328, e_304_329, e_304_330, e_304_333, e_304_336, e_304_337, ge1, ule_t, true_or, or_true, nI_add, nI_mul, nI_sub, nI_clamp, nI_lt_t, nI_lt_f, nI_le_t, nI_le_f, nI_eq_t, nI_eq_f, vp_nI, tI, fI, not_true, not_false_iff, true_and, and_true, Classical.not_not, kC_v, t3, t98, tx, fixL_i, fixL_r, fixL_n, uad_p, ule_p, leT, and_self]
  refine Ev_mono _ _ _ _ _ _ (fun o2 μ2 hh2 => ?_) hE
  obtain ⟨rfl, hI2⟩ := hh2
  simp (disch := first | omega | rfl) only [e_304_313, e_304_314, e_304_315, e_304_317, e_304_318, e_304_319, e_304_320, e_304_323, e_304_324, e_304_325, e_304_327, e_304_328, e_304_329, e_304_330, e_304_333, e_304_336, e_304_337, e_304_2370, e_304_2373, ge1, ule_t, true_or, or_true, nI_add, nI_mul, nI_sub, nI_clamp, nI_lt_t, nI_lt_f, nI_le_t, nI_le_f, nI_eq_t, nI_eq_f, vp_nI, tI, fI, not_true, not_false_iff, true_and, and_true, Classical.not_not, kC_v, fixL_i, fixL_r, fixL_n, uad_p, ule_p, leT, and_self]
  exact hq _ _ _ _ _ _ _ hI2 (by omega) (by omega)

theorem w_2 (h : Inv L xs μ) (hL : L ≤ 3072) (hk : 6 * k + 6 ≤ L) (h1 : u1 ≤ 310 + 1000 * k) (h2 : u2 ≤ 32446 + 14000 * k) (hq : Nxt (d + 20) L xs k Q) : EM 304 (d + 20) 338 [some (.ref 300), some (.ref 1000), some (.ref 1298), some (.ref 1309), some (.int (nI (6 * k))), l5, l6, l7, l8] [] μ (u1, u2) Q := by
  obtain ⟨s0, s98, s3, x0, s9⟩ := h.bas
  simp (disch := first | omega | rfl) only [e_304_338, e_304_339, e_304_342, e_304_343, e_304_346, e_304_349, e_304_350, ge1, ule_t, true_or, or_true, nI_add, nI_mul, nI_sub, nI_clamp, nI_lt_t, nI_lt_f, nI_le_t, nI_le_f, nI_eq_t, nI_eq_f, vp_nI, tI, fI, not_true, not_false_iff, true_and, and_true, Classical.not_not, s0, s3, x0, fixL_i, fixL_r, fixL_n, uad_p, ule_p, leT, and_self]
  refine Ev_mono _ _ _ _ _ _ (fun o μ1 hh => ?_) (p_94 h)
  obtain ⟨v, rfl, ⟨b3, b98, bx⟩, hE⟩ := hh
  have t3 : mS μ1 300 = (20, L) := b3.trans s3
  have t98 := b98.trans s98
  have tx : ∀ k, mI μ1 300 k = xs k := fun k => (bx k).trans (x0 k)
  simp (disch := first | omega | rfl) only [e_304_338, e_304_339, e_304_342, e_304_343, e_304_346, e_304_349, e_304_350, ge1, ule_t, true_or, or_true, nI_add, nI_mul, nI_sub, nI_clamp, nI_lt_t, nI_lt_f, nI_le_t, nI_le_f, nI_eq_t, nI_eq_f, vp_nI, tI, fI, not_true, not_false_iff, true_and, and_true, Classical.not_not, kC_v, t3, t98, tx, fixL_i, fixL_r, fixL_n, uad_p, ule_p, leT, and_self]
  refine Ev_mono _ _ _ _ _ _ (fun o2 μ2 hh2 => ?_) hE
  obtain ⟨rfl, hI2⟩ := hh2
  simp (disch := first | omega | rfl) only [e_304_338, e_304_339, e_304_342, e_304_343, e_304_346, e_304_349, e_304_350, e_304_2370, e_304_2373, ge1, ule_t, true_or, or_true, nI_add, nI_mul, nI_sub, nI_clamp, nI_lt_t, nI_lt_f, nI_le_t, nI_le_f, nI_eq_t, nI_eq_f, vp_nI, tI, fI, not_true, not_false_iff, true_and, and_true, Classical.not_not, kC_v, fixL_i, fixL_r, fixL_n, uad_p, ule_p, leT, and_self]
  exact hq _ _ _ _ _ _ _ hI2 (by omega) (by omega)

theorem w_3 (h : Inv L xs μ) (hL : L ≤ 3072) (hk : 6 * k + 6 ≤ L) (h1 : u1 ≤ 310 + 1000 * k) (h2 : u2 ≤ 32446 + 14000 * k) (hq : Nxt (d + 20) L xs k Q) : EM 304 (d + 20) 351 [some (.ref 300), some (.ref 1000), some (.ref 1298), some (.ref 1309), some (.int (nI (6 * k))), l5, l6, l7, l8] [] μ (u1, u2) Q := by
  obtain ⟨s0, s98, s3, x0, s9⟩ := h.bas
  simp (disch := first | omega | rfl) only [e_304_351, e_304_352, e_304_353, e_304_355, e_304_356, e_304_357, e_304_358, e_304_361, e_304_362, e_304_363, e_304_365, e_304_366, e_304_367, e_304_368, e_304_371, e_304_374, e_304_375, ge1, ule_t, true_or, or_true, nI_add, nI_mul, nI_sub, nI_clamp, nI_lt_t, nI_lt_f, nI_le_t, nI_le_f, nI_eq_t, nI_eq_f, vp_nI, tI, fI, not_true, not_false_iff, true_and, and_true, Classical.not_not, s0, s3, x0, fixL_i, fixL_r, fixL_n, uad_p, ule_p, leT, and_self]
  refine Ev_mono _ _ _ _ _ _ (fun o μ1 hh => ?_) (p_98 h)
  obtain ⟨v, rfl, ⟨b3, b98, bx⟩, hE⟩ := hh
  have t3 : mS μ1 300 = (20, L) := b3.trans s3
  have t98 := b98.trans s98
  have tx : ∀ k, mI μ1 300 k = xs k := fun k => (bx k).trans (x0 k)
  simp (disch := first | omega | rfl) only [e_304_351, e_304_352, e_304_353, e_304_355, e_304_356, e_304_357, e_304_358, e_304_361, e_304_362, e_304_363, e_304_365, e_304_366, e_304_367, e_304_368, e_304_371, e_304_374, e_304_375, ge1, ule_t, true_or, or_true, nI_add, nI_mul, nI_sub, nI_clamp, nI_lt_t, nI_lt_f, nI_le_t, nI_le_f, nI_eq_t, nI_eq_f, vp_nI, tI, fI, not_true, not_false_iff, true_and, and_true, Classical.not_not, kC_v, t3, t98, tx, fixL_i, fixL_r, fixL_n, uad_p, ule_p, leT, and_self]
  refine Ev_mono _ _ _ _ _ _ (fun o2 μ2 hh2 => ?_) hE
  obtain ⟨rfl, hI2⟩ := hh2
  simp (disch := first | omega | rfl) only [e_304_351, e_304_352, e_304_353, e_304_355, e_304_356, e_304_357, e_304_358, e_304_361, e_304_362, e_304_363, e_304_365, e_304_366, e_304_367, e_304_368, e_304_371, e_304_374, e_304_375, e_304_2370, e_304_2373, ge1, ule_t, true_or, or_true, nI_add, nI_mul, nI_sub, nI_clamp, nI_lt_t, nI_lt_f, nI_le_t, nI_le_f, nI_eq_t, nI_eq_f, vp_nI, tI, fI, not_true, not_false_iff, true_and, and_true, Classical.not_not, kC_v, fixL_i, fixL_r, fixL_n, uad_p, ule_p, leT, and_self]
  exact hq _ _ _ _ _ _ _ hI2 (by omega) (by omega)

theorem w_4 (h : Inv L xs μ) (hL : L ≤ 3072) (hk : 6 * k + 6 ≤ L) (h1 : u1 ≤ 310 + 1000 * k) (h2 : u2 ≤ 32446 + 14000 * k) (hq : Nxt (d + 20) L xs k Q) : EM 304 (d + 20) 376 [some (.ref 300), some (.ref 1000), some (.ref 1298), some (.ref 1309), some (.int (nI (6 * k))), l5, l6, l7, l8] [] μ (u1, u2) Q := by
  obtain ⟨s0, s98, s3, x0, s9⟩ := h.bas
  simp (disch := first | omega | rfl) only [e_304_376, e_304_377, e_304_380, e_304_381, e_304_384, e_304_387, e_304_388, ge1, ule_t, true_or, or_true, nI_add, nI_mul, nI_sub, nI_clamp, nI_lt_t, nI_lt_f, nI_le_t, nI_le_f, nI_eq_t, nI_eq_f, vp_nI, tI, fI, not_true, not_false_iff, true_and, and_true, Classical.not_not, s0, s3, x0, fixL_i, fixL_r, fixL_n, uad_p, ule_p, leT, and_self]
  refine Ev_mono _ _ _ _ _ _ (fun o μ1 hh => ?_) (p_99 h)
  obtain ⟨v, rfl, ⟨b3, b98, bx⟩, hE⟩ := hh
  have t3 : mS μ1 300 = (20, L) := b3.trans s3
  have t98 := b98.trans s98
  have tx : ∀ k, mI μ1 300 k = xs k := fun k => (bx k).trans (x0 k)
  simp (disch := first | omega | rfl) only [e_304_376, e_304_377, e_304_380, e_304_381, e_304_384, e_304_387, e_304_388, ge1, ule_t, true_or, or_true, nI_add, nI_mul, nI_sub, nI_clamp, nI_lt_t, nI_lt_f, nI_le_t, nI_le_f, nI_eq_t, nI_eq_f, vp_nI, tI, fI, not_true, not_false_iff, true_and, and_true, Classical.not_not, kC_v, t3, t98, tx, fixL_i, fixL_r, fixL_n, uad_p, ule_p, leT, and_self]
  refine Ev_mono _ _ _ _ _ _ (fun o2 μ2 hh2 => ?_) hE
  obtain ⟨rfl, hI2⟩ := hh2
  simp (disch := first | omega | rfl) only [e_304_376, e_304_377, e_304_380, e_304_381, e_304_384, e_304_387, e_304_388, e_304_2370, e_304_2373, ge1, ule_t, true_or, or_true, nI_add, nI_mul, nI_sub, nI_clamp, nI_lt_t, nI_lt_f, nI_le_t, nI_le_f, nI_eq_t, nI_eq_f, vp_nI, tI, fI, not_true, not_false_iff, true_and, and_true, Classical.not_not, kC_v, fixL_i, fixL_r, fixL_n, uad_p, ule_p, leT, and_self]
  exact hq _ _ _ _ _ _ _ hI2 (by omega) (by omega)

theorem w_5 (h : Inv L xs μ) (hL : L ≤ 3072) (hk : 6 * k + 6 ≤ L) (h1 : u1 ≤ 310 + 1000 * k) (h2 : u2 ≤ 32446 + 14000 * k) (hq : Nxt (d + 20) L xs k Q) : EM 304 (d + 20) 389 [some (.ref 300), some (.ref 1000), some (.ref 1298), some (.ref 1309), some (.int (nI (6 * k))), l5, l6, l7, l8] [] μ (u1, u2) Q := by
  obtain ⟨s0, s98, s3, x0, s9⟩ := h.bas
  simp (disch := first | omega | rfl) only [e_304_389, e_304_390, e_304_391, e_304_393, e_304_394, e_304_395, e_304_396, e_304_399, e_304_400, e_304_401, e_304_403, e_304_404, e_304_405, e_304_406, e_304_409, e_304_412, e_304_413, ge1, ule_t, true_or, or_true, nI_add, nI_mul, nI_sub, nI_clamp, nI_lt_t, nI_lt_f, nI_le_t, nI_le_f, nI_eq_t, nI_eq_f, vp_nI, tI, fI, not_true, not_false_iff, true_and, and_true, Classical.not_not, s0, s3, x0, fixL_i, fixL_r, fixL_n, uad_p, ule_p, leT, and_self]
  refine Ev_mono _ _ _ _ _ _ (fun o μ1 hh => ?_) (p_100 h)
  obtain ⟨v, rfl, ⟨b3, b98, bx⟩, hE⟩ := hh
  have t3 : mS μ1 300 = (20, L) := b3.trans s3
  have t98 := b98.trans s98
  have tx : ∀ k, mI μ1 300 k = xs k := fun k => (bx k).trans (x0 k)
  simp (disch := first | omega | rfl) only [e_304_389, e_304_390, e_304_391, e_304_393, e_304_394, e_304_395, e_304_396, e_304_399, e_304_400, e_304_401, e_304_403, e_304_404, e_304_405, e_304_406, e_304_409, e_304_412, e_304_413, ge1, ule_t, true_or, or_true, nI_add, nI_mul, nI_sub, nI_clamp, nI_lt_t, nI_lt_f, nI_le_t, nI_le_f, nI_eq_t, nI_eq_f, vp_nI, tI, fI, not_true, not_false_iff, true_and, and_true, Classical.not_not, kC_v, t3, t98, tx, fixL_i, fixL_r, fixL_n, uad_p, ule_p, leT, and_self]
  refine Ev_mono _ _ _ _ _ _ (fun o2 μ2 hh2 => ?_) hE
  obtain ⟨rfl, hI2⟩ := hh2
  simp (disch := first | omega | rfl) only [e_304_389, e_304_390, e_304_391, e_304_393, e_304_394, e_304_395, e_304_396, e_304_399, e_304_400, e_304_401, e_304_403, e_304_404, e_304_405, e_304_406, e_304_409, e_304_412, e_304_413, e_304_2370, e_304_2373, ge1, ule_t, true_or, or_true, nI_add, nI_mul, nI_sub, nI_clamp, nI_lt_t, nI_lt_f, nI_le_t, nI_le_f, nI_eq_t, nI_eq_f, vp_nI, tI, fI, not_true, not_false_iff, true_and, and_true, Classical.not_not, kC_v, fixL_i, fixL_r, fixL_n, uad_p, ule_p, leT, and_self]
  exact hq _ _ _ _ _ _ _ hI2 (by omega) (by omega)

theorem w_6 (h : Inv L xs μ) (hL : L ≤ 3072) (hk : 6 * k + 6 ≤ L) (h1 : u1 ≤ 310 + 1000 * k) (h2 : u2 ≤ 32446 + 14000 * k) (hq : Nxt (d + 20) L xs k Q) : EM 304 (d + 20) 414 [some (.ref 300), some (.ref 1000), some (.ref 1298), some (.ref 1309), some (.int (nI (6 * k))), l5, l6, l7, l8] [] μ (u1, u2) Q := by
  obtain ⟨s0, s98, s3, x0, s9⟩ := h.bas
  simp (disch := first | omega | rfl) only [e_304_414, e_304_415, e_304_416, e_304_418, e_304_419, e_304_420, e_304_421, e_304_422, e_304_424, e_304_425, e_304_426, e_304_427, e_304_428, e_304_431, e_304_433, e_304_434, e_304_435, e_304_437, e_304_438, e_304_439, e_304_440, e_304_441, e_304_443, e_304_444, e_304_445, e_304_446, e_304_449, e_304_451, e_304_452, e_304_455, e_304_457, e_304_460, e_304_461, e_304_462, e_304_464, e_304_467, e_304_468, e_304_469, e_304_470, e_304_472, e_304_473, e_304_474, e_304_477, e_304_478, e_304_479, ge1, ule_t, true_or, or_true, nI_add, nI_mul, nI_sub, nI_clamp, nI_lt_t, nI_lt_f, nI_le_t, nI_le_f, nI_eq_t, nI_eq_f, vp_nI, tI, fI, not_true, not_false_iff, true_and, and_true, Classical.not_not, s0, s3, x0, fixL_i, fixL_r, fixL_n, uad_p, ule_p, leT, and_self]
  refine Ev_mono _ _ _ _ _ _ (fun o μ1 hh => ?_) (p_282 h)
  obtain ⟨v, rfl, ⟨b3, b98, bx⟩, hE⟩ := hh
  have t3 : mS μ1 300 = (20, L) := b3.trans s3
  have t98 := b98.trans s98
  have tx : ∀ k, mI μ1 300 k = xs k := fun k => (bx k).trans (x0 k)
  simp (disch := first | omega | rfl) only [e_304_414, e_304_415, e_304_416, e_304_418, e_304_419, e_304_420, e_304_421, e_304_422, e_304_424, e_304_425, e_304_426, e_304_427, e_304_428, e_304_431, e_304_433, e_304_434, e_304_435, e_304_437, e_304_438, e_304_439, e_304_440, e_304_441, e_304_443, e_304_444, e_304_445, e_304_446, e_304_449, e_304_451, e_304_452, e_304_455, e_304_457, e_304_460, e_304_461, e_304_462, e_304_464, e_304_467, e_304_468, e_304_469, e_304_470, e_304_472, e_304_473, e_304_474, e_304_477, e_304_478, e_304_479, ge1, ule_t, true_or, or_true, nI_add, nI_mul, nI_sub, nI_clamp, nI_lt_t, nI_lt_f, nI_le_t, nI_le_f, nI_eq_t, nI_eq_f, vp_nI, tI, fI, not_true, not_false_iff, true_and, and_true, Classical.not_not, kC_v, t3, t98, tx, fixL_i, fixL_r, fixL_n, uad_p, ule_p, leT, and_self]
  refine Ev_mono _ _ _ _ _ _ (fun o2 μ2 hh2 => ?_) hE
  obtain ⟨y, rfl, e0, ej, hI2⟩ := hh2
  obtain ⟨-, q98, -, -, q9⟩ := hI2.bas
  by_cases hz : v = nI 0
  · have ejj := ej hz
    subst hz
    simp (disch := first | omega | rfl) only [e_304_414, e_304_415, e_304_416, e_304_418, e_304_419, e_304_420, e_304_421, e_304_422, e_304_424, e_304_425, e_304_426, e_304_427, e_304_428, e_304_431, e_304_433, e_304_434, e_304_435, e_304_437, e_304_438, e_304_439, e_304_440, e_304_441, e_304_443, e_304_444, e_304_445, e_304_446, e_304_449, e_304_451, e_304_452, e_304_455, e_304_457, e_304_460, e_304_461, e_304_462, e_304_464, e_304_467, e_304_468, e_304_469, e_304_470, e_304_472, e_304_473, e_304_474, e_304_477, e_304_478, e_304_479, e_304_2370, e_304_2373, ge1, ule_t, true_or, or_true, nI_add, nI_mul, nI_sub, nI_clamp, nI_lt_t, nI_lt_f, nI_le_t, nI_le_f, nI_eq_t, nI_eq_f, vp_nI, tI, fI, not_true, not_false_iff, true_and, and_true, Classical.not_not, kC_v, fixL_i, fixL_r, fixL_n, uad_p, ule_p, leT, and_self, in_161, e_161_0, e_161_1, e_161_4, q98, q9, e0, ejj, lg_self]
    exact hq _ _ _ _ _ _ _ hI2 (by omega) (by omega)
  · simp (disch := first | omega | rfl) only [e_304_414, e_304_415, e_304_416, e_304_418, e_304_419, e_304_420, e_304_421, e_304_422, e_304_424, e_304_425, e_304_426, e_304_427, e_304_428, e_304_431, e_304_433, e_304_434, e_304_435, e_304_437, e_304_438, e_304_439, e_304_440, e_304_441, e_304_443, e_304_444, e_304_445, e_304_446, e_304_449, e_304_451, e_304_452, e_304_455, e_304_457, e_304_460, e_304_461, e_304_462, e_304_464, e_304_467, e_304_468, e_304_469, e_304_470, e_304_472, e_304_473, e_304_474, e_304_477, e_304_478, e_304_479, e_304_2370, e_304_2373, ge1, ule_t, true_or, or_true, nI_add, nI_mul, nI_sub, nI_clamp, nI_lt_t, nI_lt_f, nI_le_t, nI_le_f, nI_eq_t, nI_eq_f, vp_nI, tI, fI, not_true, not_false_iff, true_and, and_true, Classical.not_not, kC_v, fixL_i, fixL_r, fixL_n, uad_p, ule_p, leT, and_self, in_161, e_161_0, e_161_1, e_161_4, q98, q9, e0, hz]
    exact hq _ _ _ _ _ _ _ hI2 (by omega) (by omega)

theorem w_7 (h : Inv L xs μ) (hL : L ≤ 3072) (hk : 6 * k + 6 ≤ L) (h1 : u1 ≤ 310 + 1000 * k) (h2 : u2 ≤ 32446 + 14000 * k) (hq : Nxt (d + 20) L xs k Q) : EM 304 (d + 20) 482 [some (.ref 300), some (.ref 1000), some (.ref 1298), some (.ref 1309), some (.int (nI (6 * k))), l5, l6, l7, l8] [] μ (u1, u2) Q := by
  obtain ⟨s0, s98, s3, x0, s9⟩ := h.bas
  simp (disch := first | omega | rfl) only [e_304_482, e_304_483, e_304_484, e_304_486, e_304_487, e_304_488, e_304_489, e_304_492, e_304_493, e_304_494, e_304_496, e_304_497, e_304_498, e_304_499, e_304_502, e_304_505, e_304_506, ge1, ule_t, true_or, or_true, nI_add, nI_mul, nI_sub, nI_clamp, nI_lt_t, nI_lt_f, nI_le_t, nI_le_f, nI_eq_t, nI_eq_f, vp_nI, tI, fI, not_true, not_false_iff, true_and, and_true, Classical.not_not, s0, s3, x0, fixL_i, fixL_r, fixL_n, uad_p, ule_p, leT, and_self]
  refine Ev_mono _ _ _ _ _ _ (fun o μ1 hh => ?_) (p_102 h)
  obtain ⟨v, rfl, ⟨b3, b98, bx⟩, hE⟩ := hh
  have t3 : mS μ1 300 = (20, L) := b3.trans s3
  have t98 := b98.trans s98
  have tx : ∀ k, mI μ1 300 k = xs k := fun k => (bx k).trans (x0 k)
  simp (disch := first | omega | rfl) only [e_304_482, e_304_483, e_304_484, e_304_486, e_304_487, e_304_488, e_304_489, e_304_492, e_304_493, e_304_494, e_304_496, e_304_497, e_304_498, e_304_499, e_304_502, e_304_505, e_304_506, ge1, ule_t, true_or, or_true, nI_add, nI_mul, nI_sub, nI_clamp, nI_lt_t, nI_lt_f, nI_le_t, nI_le_f, nI_eq_t, nI_eq_f, vp_nI, tI, fI, not_true, not_false_iff, true_and, and_true, Classical.not_not, kC_v, t3, t98, tx, fixL_i, fixL_r, fixL_n, uad_p, ule_p, leT, and_self]
  refine Ev_mono _ _ _ _ _ _ (fun o2 μ2 hh2 => ?_) hE
  obtain ⟨rfl, hI2⟩ := hh2
  simp (disch := first | omega | rfl) only [e_304_482, e_304_483, e_304_484, e_304_486, e_304_487, e_304_488, e_304_489, e_304_492, e_304_493, e_304_494, e_304_496, e_304_497, e_304_498, e_304_499, e_304_502, e_304_505, e_304_506, e_304_2370, e_304_2373, ge1, ule_t, true_or, or_true, nI_add, nI_mul, nI_sub, nI_clamp, nI_lt_t, nI_lt_f, nI_le_t, nI_le_f, nI_eq_t, nI_eq_f, vp_nI, tI, fI, not_true, not_false_iff, true_and, and_true, Classical.not_not, kC_v, fixL_i, fixL_r, fixL_n, uad_p, ule_p, leT, and_self]
  exact hq _ _ _ _ _ _ _ hI2 (by omega) (by omega)

theorem w_8 (h : Inv L xs μ) (hL : L ≤ 3072) (hk : 6 * k + 6 ≤ L) (h1 : u1 ≤ 310 + 1000 * k) (h2 : u2 ≤ 32446 + 14000 * k) (hq : Nxt (d + 20) L xs k Q) : EM 304 (d + 20) 507 [some (.ref 300), some (.ref 1000), some (.ref 1298), some (.ref 1309), some (.int (nI (6 * k))), l5, l6, l7, l8] [] μ (u1, u2) Q := by
  obtain ⟨s0, s98, s3, x0, s9⟩ := h.bas
  simp (disch := first | omega | rfl) only [e_304_507, e_304_508, e_304_509, e_304_511, e_304_512, e_304_513, e_304_514, e_304_515, e_304_517, e_304_518, e_304_519, e_304_520, e_304_521, e_304_524, e_304_526, e_304_527, e_304_528, e_304_530, e_304_531, e_304_532, e_304_533, e_304_534, e_304_536, e_304_537, e_304_538, e_304_539, e_304_542, e_304_544, e_304_545, e_304_548, e_304_550, e_304_553, e_304_554, e_304_555, e_304_557, e_304_560, e_304_561, e_304_562, e_304_563, e_304_565, e_304_566, e_304_567, e_304_570, e_304_571, e_304_572, ge1, ule_t, true_or, or_true, nI_add, nI_mul, nI_sub, nI_clamp, nI_lt_t, nI_lt_f, nI_le_t, nI_le_f, nI_eq_t, nI_eq_f, vp_nI, tI, fI, not_true, not_false_iff, true_and, and_true, Classical.not_not, s0, s3, x0, fixL_i, fixL_r, fixL_n, uad_p, ule_p, leT, and_self]
  refine Ev_mono _ _ _ _ _ _ (fun o μ1 hh => ?_) (p_283 h)
  obtain ⟨v, rfl, ⟨b3, b98, bx⟩, hE⟩ := hh
  have t3 : mS μ1 300 = (20, L) := b3.trans s3
  have t98 := b98.trans s98
  have tx : ∀ k, mI μ1 300 k = xs k := fun k => (bx k).trans (x0 k)
  simp (disch := first | omega | rfl) only [e_304_507, e_304_508, e_304_509, e_304_511, e_304_512, e_304_513, e_304_514, e_304_515, e_304_517, e_304_518, e_304_519, e_304_520, e_304_521, e_304_524, e_304_526, e_304_527, e_304_528, e_304_530, e_304_531, e_304_532, e_304_533, e_304_534, e_304_536, e_304_537, e_304_538, e_304_539, e_304_542, e_304_544, e_304_545, e_304_548, e_304_550, e_304_553, e_304_554, e_304_555, e_304_557, e_304_560, e_304_561, e_304_562, e_304_563, e_304_565, e_304_566, e_304_567, e_304_570, e_304_571, e_304_572, ge1, ule_t, true_or, or_true, nI_add, nI_mul, nI_sub, nI_clamp, nI_lt_t, nI_lt_f, nI_le_t, nI_le_f, nI_eq_t, nI_eq_f, vp_nI, tI, fI, not_true, not_false_iff, true_and, and_true, Classical.not_not, kC_v, t3, t98, tx, fixL_i, fixL_r, fixL_n, uad_p, ule_p, leT, and_self]
  refine Ev_mono _ _ _ _ _ _ (fun o2 μ2 hh2 => ?_) hE
  obtain ⟨y, rfl, e0, ej, hI2⟩ := hh2
  obtain ⟨-, q98, -, -, q9⟩ := hI2.bas
  by_cases hz : v = nI 0
  · have ejj := ej hz
    subst hz
    simp (disch := first | omega | rfl) only [e_304_507, e_304_508, e_304_509, e_304_511, e_304_512, e_304_513, e_304_514, e_304_515, e_304_517, e_304_518, e_304_519, e_304_520, e_304_521, e_304_524, e_304_526, e_304_527, e_304_528, e_304_530, e_304_531, e_304_532, e_304_533, e_304_534, e_304_536, e_304_537, e_304_538, e_304_539, e_304_542, e_304_544, e_304_545, e_304_548, e_304_550, e_304_553, e_304_554, e_304_555, e_304_557, e_304_560, e_304_561, e_304_562, e_304_563, e_304_565, e_304_566, e_304_567, e_304_570, e_304_571, e_304_572, e_304_2370, e_304_2373, ge1, ule_t, true_or, or_true, nI_add, nI_mul, nI_sub, nI_clamp, nI_lt_t, nI_lt_f, nI_le_t, nI_le_f, nI_eq_t, nI_eq_f, vp_nI, tI, fI, not_true, not_false_iff, true_and, and_true, Classical.not_not, kC_v, fixL_i, fixL_r, fixL_n, uad_p, ule_p, leT, and_self, in_161, e_161_0, e_161_1, e_161_4, q98, q9, e0, ejj, lg_self]
    exact hq _ _ _ _ _ _ _ hI2 (by omega) (by omega)
  · simp (disch := first | omega | rfl) only [e_304_507, e_304_508, e_304_509, e_304_511, e_304_512, e_304_513, e_304_514, e_304_515, e_304_517, e_304_518, e_304_519, e_304_520, e_304_521, e_304_524, e_304_526, e_304_527, e_304_528, e_304_530, e_304_531, e_304_532, e_304_533, e_304_534, e_304_536, e_304_537, e_304_538, e_304_539, e_304_542, e_304_544, e_304_545, e_304_548, e_304_550, e_304_553, e_304_554, e_304_555, e_304_557, e_304_560, e_304_561, e_304_562, e_304_563, e_304_565, e_304_566, e_304_567, e_304_570, e_304_571, e_304_572, e_304_2370, e_304_2373, ge1, ule_t, true_or, or_true, nI_add, nI_mul, nI_sub, nI_clamp, nI_lt_t, nI_lt_f, nI_le_t, nI_le_f, nI_eq_t, nI_eq_f, vp_nI, tI, fI, not_true, not_false_iff, true_and, and_true, Classical.not_not, kC_v, fixL_i, fixL_r, fixL_n, uad_p, ule_p, leT, and_self, in_161, e_161_0, e_161_1, e_161_4, q98, q9, e0, hz]
    exact hq _ _ _ _ _ _ _ hI2 (by omega) (by omega)

theorem w_9 (h : Inv L xs μ) (hL : L ≤ 3072) (hk : 6 * k + 6 ≤ L) (h1 : u1 ≤ 310 + 1000 * k) (h2 : u2 ≤ 32446 + 14000 * k) (hq : Nxt (d + 20) L xs k Q) : EM 304 (d + 20) 575 [some (.ref 300), some (.ref 1000), some (.ref 1298), some (.ref 1309), some (.int (nI (6 * k))), l5, l6, l7, l8] [] μ (u1, u2) Q := by
  obtain ⟨s0, s98, s3, x0, s9⟩ := h.bas
  simp (disch := first | omega | rfl) only [e_304_575, e_304_576, e_304_577, e_304_579, e_304_580, e_304_581, e_304_582, e_304_583, e_304_586, e_304_588, e_304_589, e_304_590, e_304_592, e_304_593, e_304_594, e_304_595, e_304_598, e_304_600, e_304_601, e_304_604, e_304_606, e_304_609, e_304_610, e_304_611, e_304_613, e_304_616, e_304_617, e_304_618, e_304_619, e_304_621, e_304_622, e_304_623, e_304_626, e_304_627, e_304_628, ge1, ule_t, true_or, or_true, nI_add, nI_mul, nI_sub, nI_clamp, nI_lt_t, nI_lt_f, nI_le_t, nI_le_f, nI_eq_t, nI_eq_f, vp_nI, tI, fI, not_true, not_false_iff, true_and, and_true, Classical.not_not, s0, s3, x0, fixL_i, fixL_r, fixL_n, uad_p, ule_p, leT, and_self]
  refine Ev_mono _ _ _ _ _ _ (fun o μ1 hh => ?_) (p_284 h)
  obtain ⟨v, rfl, ⟨b3, b98, bx⟩, hE⟩ := hh
  have t3 : mS μ1 300 = (20, L) := b3.trans s3
  have t98 := b98.trans s98
  have tx : ∀ k, mI μ1 300 k = xs k := fun k => (bx k).trans (x0 k)
  simp (disch := first | omega | rfl) only [e_304_575, e_304_576, e_304_577, e_304_579, e_304_580, e_304_581, e_304_582, e_304_583, e_304_586, e_304_588, e_304_589, e_304_590, e_304_592, e_304_593, e_304_594, e_304_595, e_304_598, e_304_600, e_304_601, e_304_604, e_304_606, e_304_609, e_304_610, e_304_611, e_304_613, e_304_616, e_304_617, e_304_618, e_304_619, e_304_621, e_304_622, e_304_623, e_304_626, e_304_627, e_304_628, ge1, ule_t, true_or, or_true, nI_add, nI_mul, nI_sub, nI_clamp, nI_lt_t, nI_lt_f, nI_le_t, nI_le_f, nI_eq_t, nI_eq_f, vp_nI, tI, fI, not_true, not_false_iff, true_and, and_true, Classical.not_not, kC_v, t3, t98, tx, fixL_i, fixL_r, fixL_n, uad_p, ule_p, leT, and_self]
  refine Ev_mono _ _ _ _ _ _ (fun o2 μ2 hh2 => ?_) hE
  obtain ⟨y, rfl, e0, ej, hI2⟩ := hh2
  obtain ⟨-, q98, -, -, q9⟩ := hI2.bas
  by_cases hz : v = nI 0
  · have ejj := ej hz
    subst hz
    simp (disch := first | omega | rfl) only [e_304_575, e_304_576, e_304_577, e_304_579, e_304_580, e_304_581, e_304_582, e_304_583, e_304_586, e_304_588, e_304_589, e_304_590, e_304_592, e_304_593, e_304_594, e_304_595, e_304_598, e_304_600, e_304_601, e_304_604, e_304_606, e_304_609, e_304_610, e_304_611, e_304_613, e_304_616, e_304_617, e_304_618, e_304_619, e_304_621, e_304_622, e_304_623, e_304_626, e_304_627, e_304_628, e_304_2370, e_304_2373, ge1, ule_t, true_or, or_true, nI_add, nI_mul, nI_sub, nI_clamp, nI_lt_t, nI_lt_f, nI_le_t, nI_le_f, nI_eq_t, nI_eq_f, vp_nI, tI, fI, not_true, not_false_iff, true_and, and_true, Classical.not_not, kC_v, fixL_i, fixL_r, fixL_n, uad_p, ule_p, leT, and_self, in_161, e_161_0, e_161_1, e_161_4, q98, q9, e0, ejj, lg_self]
    exact hq _ _ _ _ _ _ _ hI2 (by omega) (by omega)
  · simp (disch := first | omega | rfl) only [e_304_575, e_304_576, e_304_577, e_304_579, e_304_580, e_304_581, e_304_582, e_304_583, e_304_586, e_304_588, e_304_589, e_304_590, e_304_592, e_304_593, e_304_594, e_304_595, e_304_598, e_304_600, e_304_601, e_304_604, e_304_606, e_304_609, e_304_610, e_304_611, e_304_613, e_304_616, e_304_617, e_304_618, e_304_619, e_304_621, e_304_622, e_304_623, e_304_626, e_304_627, e_304_628, e_304_2370, e_304_2373, ge1, ule_t, true_or, or_true, nI_add, nI_mul, nI_sub, nI_clamp, nI_lt_t, nI_lt_f, nI_le_t, nI_le_f, nI_eq_t, nI_eq_f, vp_nI, tI, fI, not_true, not_false_iff, true_and, and_true, Classical.not_not, kC_v, fixL_i, fixL_r, fixL_n, uad_p, ule_p, leT, and_self, in_161, e_161_0, e_161_1, e_161_4, q98, q9, e0, hz]
    exact hq _ _ _ _ _ _ _ hI2 (by omega) (by omega)

theorem w_10 (h : Inv L xs μ) (hL : L ≤ 3072) (hk : 6 * k + 6 ≤ L) (h1 : u1 ≤ 310 + 1000 * k) (h2 : u2 ≤ 32446 + 14000 * k) (hq : Nxt (d + 20) L xs k Q) : EM 304 (d + 20) 631 [some (.ref 300), some (.ref 1000), some (.ref 1298), some (.ref 1309), some (.int (nI (6 * k))), l5, l6, l7, l8] [] μ (u1, u2) Q := by
  obtain ⟨s0, s98, s3, x0, s9⟩ := h.bas
  simp (disch := first | omega | rfl) only [e_304_631, e_304_632, e_304_633, e_304_635, e_304_636, e_304_637, e_304_638, e_304_639, e_304_641, e_304_642, e_304_643, e_304_644, e_304_645, e_304_647, e_304_648, e_304_649, e_304_650, e_304_651, e_304_654, e_304_656, e_304_657, e_304_658, e_304_660, e_304_661, e_304_662, e_304_663, e_304_664, e_304_666, e_304_667, e_304_668, e_304_669, e_304_670, e_304_672, e_304_673, e_304_674, e_304_675, e_304_678, e_304_680, e_304_681, e_304_684, e_304_686, e_304_689, e_304_690, e_304_691, e_304_693, e_304_696, e_304_697, e_304_698, e_304_699, e_304_701, e_304_702, e_304_703, e_304_706, e_304_707, e_304_708, ge1, ule_t, true_or, or_true, nI_add, nI_mul, nI_sub, nI_clamp, nI_lt_t, nI_lt_f, nI_le_t, nI_le_f, nI_eq_t, nI_eq_f, vp_nI, tI, fI, not_true, not_false_iff, true_and, and_true, Classical.not_not, s0, s3, x0, fixL_i, fixL_r, fixL_n, uad_p, ule_p, leT, and_self]
  refine Ev_mono _ _ _ _ _ _ (fun o μ1 hh => ?_) (p_285 h)
  obtain ⟨v, rfl, ⟨b3, b98, bx⟩, hE⟩ := hh
  have t3 : mS μ1 300 = (20, L) := b3.trans s3
  have t98 := b98.trans s98
  have tx : ∀ k, mI μ1 300 k = xs k := fun k => (bx k).trans (x0 k)
  simp (disch := first | omega | rfl) only [e_304_631, e_304_632, e_304_633, e_304_635, e_304_636, e_304_637, e_304_638, e_304_639, e_304_641, e_304_642, e_304_643, e_304_644, e_304_645, e_304_647, e_304_648, e_304_649, e_304_650, e_304_651, e_304_654, e_304_656, e_304_657, e_304_658, e_304_660, e_304_661, e_304_662, e_304_663, e_304_664, e_304_666, e_304_667, e_304_668, e_304_669, e_304_670, e_304_672, e_304_673, e_304_674, e_304_675, e_304_678, e_304_680, e_304_681, e_304_684, e_304_686, e_304_689, e_304_690, e_304_691, e_304_693, e_304_696, e_304_697, e_304_698, e_304_699, e_304_701, e_304_702, e_304_703, e_304_706, e_304_707, e_304_708, ge1, ule_t, true_or, or_true, nI_add, nI_mul, nI_sub, nI_clamp, nI_lt_t, nI_lt_f, nI_le_t, nI_le_f, nI_eq_t, nI_eq_f, vp_nI, tI, fI, not_true, not_false_iff, true_and, and_true, Classical.not_not, kC_v, t3, t98, tx, fixL_i, fixL_r, fixL_n, uad_p, ule_p, leT, and_self]
  refine Ev_mono _ _ _ _ _ _ (fun o2 μ2 hh2 => ?_) hE
  obtain ⟨y, rfl, e0, ej, hI2⟩ := hh2
  obtain ⟨-, q98, -, -, q9⟩ := hI2.bas
  by_cases hz : v = nI 0
  · have ejj := ej hz
    subst hz
    simp (disch := first | omega | rfl) only [e_304_631, e_304_632, e_304_633, e_304_635, e_304_636, e_304_637, e_304_638, e_304_639, e_304_641, e_304_642, e_304_643, e_304_644, e_304_645, e_304_647, e_304_648, e_304_649, e_304_650, e_304_651, e_304_654, e_304_656, e_304_657, e_304_658, e_304_660, e_304_661, e_304_662, e_304_663, e_304_664, e_304_666, e_304_667, e_304_668, e_304_669, e_304_670, e_304_672, e_304_673, e_304_674, e_304_675, e_304_678, e_304_680, e_304_681, e_304_684, e_304_686, e_304_689, e_304_690, e_304_691, e_304_693, e_304_696, e_304_697, e_304_698, e_304_699, e_304_701, e_304_702, e_304_703, e_304_706, e_304_707, e_304_708, e_304_2370, e_304_2373, ge1, ule_t, true_or, or_true, nI_add, nI_mul, nI_sub, nI_clamp, nI_lt_t, nI_lt_f, nI_le_t, nI_le_f, nI_eq_t, nI_eq_f, vp_nI, tI, fI, not_true, not_false_iff, true_and, and_true, Classical.not_not, kC_v, fixL_i, fixL_r, fixL_n, uad_p, ule_p, leT, and_self, in_161, e_161_0, e_161_1, e_161_4, q98, q9, e0, ejj, lg_self]
    exact hq _ _ _ _ _ _ _ hI2 (by omega) (by omega)
  · simp (disch := first | omega | rfl) only [e_304_631, e_304_632, e_304_633, e_304_635, e_304_636, e_304_637, e_304_638, e_304_639, e_304_641, e_304_642, e_304_643, e_304_644, e_304_645, e_304_647, e_304_648, e_304_649, e_304_650, e_304_651, e_304_654, e_304_656, e_304_657, e_304_658, e_304_660, e_304_661, e_304_662, e_304_663, e_304_664, e_304_666, e_304_667, e_304_668, e_304_669, e_304_670, e_304_672, e_304_673, e_304_674, e_304_675, e_304_678, e_304_680, e_304_681, e_304_684, e_304_686, e_304_689, e_304_690, e_304_691, e_304_693, e_304_696, e_304_697, e_304_698, e_304_699, e_304_701, e_304_702, e_304_703, e_304_706, e_304_707, e_304_708, e_304_2370, e_304_2373, ge1, ule_t, true_or, or_true, nI_add, nI_mul, nI_sub, nI_clamp, nI_lt_t, nI_lt_f, nI_le_t, nI_le_f, nI_eq_t, nI_eq_f, vp_nI, tI, fI, not_true, not_false_iff, true_and, and_true, Classical.not_not, kC_v, fixL_i, fixL_r, fixL_n, uad_p, ule_p, leT, and_self, in_161, e_161_0, e_161_1, e_161_4, q98, q9, e0, hz]
    exact hq _ _ _ _ _ _ _ hI2 (by omega) (by omega)

theorem w_11 (h : Inv L xs μ) (hL : L ≤ 3072) (hk : 6 * k + 6 ≤ L) (h1 : u1 ≤ 310 + 1000 * k) (h2 : u2 ≤ 32446 + 14000 * k) (hq : Nxt (d + 20) L xs k Q) : EM 304 (d + 20) 711 [some (.ref 300), some (.ref 1000), some (.ref 1298), some (.ref 1309), some (.int (nI (6 * k))), l5, l6, l7, l8] [] μ (u1, u2) Q := by
  obtain ⟨s0, s98, s3, x0, s9⟩ := h.bas
  simp (disch := first | omega | rfl) only [e_304_711, e_304_712, e_304_713, e_304_715, e_304_716, e_304_717, e_304_718, e_304_719, e_304_721, e_304_722, e_304_723, e_304_724, e_304_725, e_304_728, e_304_730, e_304_731, e_304_732, e_304_734, e_304_735, e_304_736, e_304_737, e_304_738, e_304_740, e_304_741, e_304_742, e_304_743, e_304_746, e_304_748, e_304_749, e_304_752, e_304_754, e_304_757, e_304_758, e_304_759, e_304_761, e_304_764, e_304_765, e_304_766, e_304_767, e_304_769, e_304_770, e_304_771, e_304_774, e_304_775, e_304_776, ge1, ule_t, true_or, or_true, nI_add, nI_mul, nI_sub, nI_clamp, nI_lt_t, nI_lt_f, nI_le_t, nI_le_f, nI_eq_t, nI_eq_f, vp_nI, tI, fI, not_true, not_false_iff, true_and, and_true, Classical.not_not, s0, s3, x0, fixL_i, fixL_r, fixL_n, uad_p, ule_p, leT, and_self]
  refine Ev_mono _ _ _ _ _ _ (fun o μ1 hh => ?_) (p_286 h)
  obtain ⟨v, rfl, ⟨b3, b98, bx⟩, hE⟩ := hh
  have t3 : mS μ1 300 = (20, L) := b3.trans s3
  have t98 := b98.trans s98
  have tx : ∀ k, mI μ1 300 k = xs k := fun k => (bx k).trans (x0 k)
  simp (disch := first | omega | rfl) only [e_304_711, e_304_712, e_304_713, e_304_715, e_304_716, e_304_717, e_304_718, e_304_719, e_304_721, e_304_722, e_304_723, e_304_724, e_304_725, e_304_728, e_304_730, e_304_731, e_304_732, e_304_734, e_304_735, e_304_736, e_304_737, e_304_738, e_304_740, e_304_741, e_304_742, e_304_743, e_304_746, e_304_748, e_304_749, e_304_752, e_304_754, e_304_757, e_304_758, e_304_759, e_304_761, e_304_764, e_304_765, e_304_766, e_304_767, e_304_769, e_304_770, e_304_771, e_304_774, e_304_775, e_304_776, ge1, ule_t, true_or, or_true, nI_add, nI_mul, nI_sub, nI_clamp, nI_lt_t, nI_lt_f, nI_le_t, nI_le_f, nI_eq_t, nI_eq_f, vp_nI, tI, fI, not_true, not_false_iff, true_and, and_true, Classical.not_not, kC_v, t3, t98, tx, fixL_i, fixL_r, fixL_n, uad_p, ule_p, leT, and_self]
  refine Ev_mono _ _ _ _ _ _ (fun o2 μ2 hh2 => ?_) hE
  obtain ⟨y, rfl, e0, ej, hI2⟩ := hh2
  obtain ⟨-, q98, -, -, q9⟩ := hI2.bas
  by_cases hz : v = nI 0
  · have ejj := ej hz
    subst hz
    simp (disch := first | omega | rfl) only [e_304_711, e_304_712, e_304_713, e_304_715, e_304_716, e_304_717, e_304_718, e_304_719, e_304_721, e_304_722, e_304_723, e_304_724, e_304_725, e_304_728, e_304_730, e_304_731, e_304_732, e_304_734, e_304_735, e_304_736, e_304_737, e_304_738, e_304_740, e_304_741, e_304_742, e_304_743, e_304_746, e_304_748, e_304_749, e_304_752, e_304_754, e_304_757, e_304_758, e_304_759, e_304_761, e_304_764, e_304_765, e_304_766, e_304_767, e_304_769, e_304_770, e_304_771, e_304_774, e_304_775, e_304_776, e_304_2370, e_304_2373, ge1, ule_t, true_or, or_true, nI_add, nI_mul, nI_sub, nI_clamp, nI_lt_t, nI_lt_f, nI_le_t, nI_le_f, nI_eq_t, nI_eq_f, vp_nI, tI, fI, not_true, not_false_iff, true_and, and_true, Classical.not_not, kC_v, fixL_i, fixL_r, fixL_n, uad_p, ule_p, leT, and_self, in_161, e_161_0, e_161_1, e_161_4, q98, q9, e0, ejj, lg_self]
    exact hq _ _ _ _ _ _ _ hI2 (by omega) (by omega)
  · simp (disch := first | omega | rfl) only [e_304_711, e_304_712, e_304_713, e_304_715, e_304_716, e_304_717, e_304_718, e_304_719, e_304_721, e_304_722, e_304_723, e_304_724, e_304_725, e_304_728, e_304_730, e_304_731, e_304_732, e_304_734, e_304_735, e_304_736, e_304_737, e_304_738, e_304_740, e_304_741, e_304_742, e_304_743, e_304_746, e_304_748, e_304_749, e_304_752, e_304_754, e_304_757, e_304_758, e_304_759, e_304_761, e_304_764, e_304_765, e_304_766, e_304_767, e_304_769, e_304_770, e_304_771, e_304_774, e_304_775, e_304_776, e_304_2370, e_304_2373, ge1, ule_t, true_or, or_true, nI_add, nI_mul, nI_sub, nI_clamp, nI_lt_t, nI_lt_f, nI_le_t, nI_le_f, nI_eq_t, nI_eq_f, vp_nI, tI, fI, not_true, not_false_iff, true_and, and_true, Classical.not_not, kC_v, fixL_i, fixL_r, fixL_n, uad_p, ule_p, leT, and_self, in_161, e_161_0, e_161_1, e_161_4, q98, q9, e0, hz]
    exact hq _ _ _ _ _ _ _ hI2 (by omega) (by omega)

theorem w_12 (h : Inv L xs μ) (hL : L ≤ 3072) (hk : 6 * k + 6 ≤ L) (h1 : u1 ≤ 310 + 1000 * k) (h2 : u2 ≤ 32446 + 14000 * k) (hq : Nxt (d + 20) L xs k Q) : EM 304 (d + 20) 779 [some (.ref 300), some (.ref 1000), some (.ref 1298), some (.ref 1309), some (.int (nI (6 * k))), l5, l6, l7, l8] [] μ (u1, u2) Q := by
  obtain ⟨s0, s98, s3, x0, s9⟩ := h.bas
  simp (disch := first | omega | rfl) only [e_304_779, e_304_780, e_304_781, e_304_783, e_304_784, e_304_785, e_304_786, e_304_787, e_304_789, e_304_790, e_304_791, e_304_792, e_304_793, e_304_796, e_304_798, e_304_799, e_304_800, e_304_802, e_304_803, e_304_804, e_304_805, e_304_806, e_304_808, e_304_809, e_304_810, e_304_811, e_304_814, e_304_816, e_304_817, e_304_820, e_304_822, e_304_825, e_304_826, e_304_827, e_304_829, e_304_832, e_304_833, e_304_834, e_304_835, e_304_837, e_304_838, e_304_839, e_304_842, e_304_843, e_304_844, ge1, ule_t, true_or, or_true, nI_add, nI_mul, nI_sub, nI_clamp, nI_lt_t, nI_lt_f, nI_le_t, nI_le_f, nI_eq_t, nI_eq_f, vp_nI, tI, fI, not_true, not_false_iff, true_and, and_true, Classical.not_not, s0, s3, x0, fixL_i, fixL_r, fixL_n, uad_p, ule_p, leT, and_self]
  refine Ev_mono _ _ _ _ _ _ (fun o μ1 hh => ?_) (p_287 h)
  obtain ⟨v, rfl, ⟨b3, b98, bx⟩, hE⟩ := hh
  have t3 : mS μ1 300 = (20, L) := b3.trans s3
  have t98 := b98.trans s98
  have tx : ∀ k, mI μ1 300 k = xs k := fun k => (bx k).trans (x0 k)
  simp (disch := first | omega | rfl) only [e_304_779, e_304_780, e_304_781, e_304_783, e_304_784, e_304_785, e_304_786, e_304_787, e_304_789, e_304_790, e_304_791, e_304_792, e_304_793, e_304_796, e_304_798, e_304_799, e_304_800, e_304_802, e_304_803, e_304_804, e_304_805, e_304_806, e_304_808, e_304_809, e_304_810, e_304_811, e_304_814, e_304_816, e_304_817, e_304_820, e_304_822, e_304_825, e_304_826, e_304_827, e_304_829, e_304_832, e_304_833, e_304_834, e_304_835, e_304_837, e_304_838, e_304_839, e_304_842, e_304_843, e_304_844, ge1, ule_t, true_or, or_true, nI_add, nI_mul, nI_sub, nI_clamp, nI_lt_t, nI_lt_f, nI_le_t, nI_le_f, nI_eq_t, nI_eq_f, vp_nI, tI, fI, not_true, not_false_iff, true_and, and_true, Classical.not_not, kC_v, t3, t98, tx, fixL_i, fixL_r, fixL_n, uad_p, ule_p, leT, and_self]
  refine Ev_mono _ _ _ _ _ _ (fun o2 μ2 hh2 => ?_) hE
  obtain ⟨y, rfl, e0, ej, hI2⟩ := hh2
  obtain ⟨-, q98, -, -, q9⟩ := hI2.bas
  by_cases hz : v = nI 0
  · have ejj := ej hz
    subst hz
    simp (disch := first | omega | rfl) only [e_304_779, e_304_780, e_304_781, e_304_783, e_304_784, e_304_785, e_304_786, e_304_787, e_304_789, e_304_790, e_304_791, e_304_792, e_304_793, e_304_796, e_304_798, e_304_799, e_304_800, e_304_802, e_304_803, e_304_804, e_304_805, e_304_806, e_304_808, e_304_809, e_304_810, e_304_811, e_304_814, e_304_816, e_304_817, e_304_820, e_304_822, e_304_825, e_304_826, e_304_827, e_304_829, e_304_832, e_304_833, e_304_834, e_304_835, e_304_837, e_304_838, e_304_839, e_304_842, e_304_843, e_304_844, e_304_2370, e_304_2373, ge1, ule_t, true_or, or_true, nI_add, nI_mul, nI_sub, nI_clamp, nI_lt_t, nI_lt_f, nI_le_t, nI_le_f, nI_eq_t, nI_eq_f, vp_nI, tI, fI, not_true, not_false_iff, true_and, and_true, Classical.not_not, kC_v, fixL_i, fixL_r, fixL_n, uad_p, ule_p, leT, and_self, in_161, e_161_0, e_161_1, e_161_4, q98, q9, e0, ejj, lg_self]
    exact hq _ _ _ _ _ _ _ hI2 (by omega) (by omega)
  · simp (disch := first | omega | rfl) only [e_304_779, e_304_780, e_304_781, e_304_783, e_304_784, e_304_785, e_304_786, e_304_787, e_304_789, e_304_790, e_304_791, e_304_792, e_304_793, e_304_796, e_304_798, e_304_799, e_304_800, e_304_802, e_304_803, e_304_804, e_304_805, e_304_806, e_304_808, e_304_809, e_304_810, e_304_811, e_304_814, e_304_816, e_304_817, e_304_820, e_304_822, e_304_825, e_304_826, e_304_827, e_304_829, e_304_832, e_304_833, e_304_834, e_304_835, e_304_837, e_304_838, e_304_839, e_304_842, e_304_843, e_304_844, e_304_2370, e_304_2373, ge1, ule_t, true_or, or_true, nI_add, nI_mul, nI_sub, nI_clamp, nI_lt_t, nI_lt_f, nI_le_t, nI_le_f, nI_eq_t, nI_eq_f, vp_nI, tI, fI, not_true, not_false_iff, true_and, and_true, Classical.not_not, kC_v, fixL_i, fixL_r, fixL_n, uad_p, ule_p, leT, and_self, in_161, e_161_0, e_161_1, e_161_4, q98, q9, e0, hz]
    exact hq _ _ _ _ _ _ _ hI2 (by omega) (by omega)

theorem w_13 (h : Inv L xs μ) (hL : L ≤ 3072) (hk : 6 * k + 6 ≤ L) (h1 : u1 ≤ 310 + 1000 * k) (h2 : u2 ≤ 32446 + 14000 * k) (hq : Nxt (d + 20) L xs k Q) : EM 304 (d + 20) 847 [some (.ref 300), some (.ref 1000), some (.ref 1298), some (.ref 1309), some (.int (nI (6 * k))), l5, l6, l7, l8] [] μ (u1, u2) Q := by
  obtain ⟨s0, s98, s3, x0, s9⟩ := h.bas
  simp (disch := first | omega | rfl) only [e_304_847, e_304_848, e_304_849, e_304_851, e_304_852, e_304_853, e_304_854, e_304_855, e_304_857, e_304_858, e_304_859, e_304_860, e_304_861, e_304_864, e_304_866, e_304_867, e_304_868, e_304_870, e_304_871, e_304_872, e_304_873, e_304_874, e_304_876, e_304_877, e_304_878, e_304_879, e_304_882, e_304_884, e_304_885, e_304_888, e_304_890, e_304_893, e_304_894, e_304_895, e_304_897, e_304_900, e_304_901, e_304_902, e_304_903, e_304_905, e_304_906, e_304_907, e_304_910, e_304_911, e_304_912, ge1, ule_t, true_or, or_true, nI_add, nI_mul, nI_sub, nI_clamp, nI_lt_t, nI_lt_f, nI_le_t, nI_le_f, nI_eq_t, nI_eq_f, vp_nI, tI, fI, not_true, not_false_iff, true_and, and_true, Classical.not_not, s0, s3, x0, fixL_i, fixL_r, fixL_n, uad_p, ule_p, leT, and_self]
  refine Ev_mono _ _ _ _ _ _ (fun o μ1 hh => ?_) (p_288 h)
  obtain ⟨v, rfl, ⟨b3, b98, bx⟩, hE⟩ := hh
  have t3 : mS μ1 300 = (20, L) := b3.trans s3
  have t98 := b98.trans s98
  have tx : ∀ k, mI μ1 300 k = xs k := fun k => (bx k).trans (x0 k)
  simp (disch := first | omega | rfl) only [e_304_847, e_304_848, e_304_849, e_304_851, e_304_852, e_304_853, e_304_854, e_304_855, e_304_857, e_304_858, e_304_859, e_304_860, e_304_861, e_304_864, e_304_866, e_304_867, e_304_868, e_304_870, e_304_871, e_304_872, e_304_873, e_304_874, e_304_876, e_304_877, e_304_878, e_304_879, e_304_882, e_304_884, e_304_885, e_304_888, e_304_890, e_304_893, e_304_894, e_304_895, e_304_897, e_304_900, e_304_901, e_304_902, e_304_903, e_304_905, e_304_906, e_304_907, e_304_910, e_304_911, e_304_912, ge1, ule_t, true_or, or_true, nI_add, nI_mul, nI_sub, nI_clamp, nI_lt_t, nI_lt_f, nI_le_t, nI_le_f, nI_eq_t, nI_eq_f, vp_nI, tI, fI, not_true, not_false_iff, true_and, and_true, Classical.not_not, kC_v, t3, t98, tx, fixL_i, fixL_r, fixL_n, uad_p, ule_p, leT, and_self]
  refine Ev_mono _ _ _ _ _ _ (fun o2 μ2 hh2 => ?_) hE
  obtain ⟨y, rfl, e0, ej, hI2⟩ := hh2
  obtain ⟨-, q98, -, -, q9⟩ := hI2.bas
  by_cases hz : v = nI 0
  · have ejj := ej hz
    subst hz
    simp (disch := first | omega | rfl) only [e_304_847, e_304_848, e_304_849, e_304_851, e_304_852, e_304_853, e_304_854, e_304_855, e_304_857, e_304_858, e_304_859, e_304_860, e_304_861, e_304_864, e_304_866, e_304_867, e_304_868, e_304_870, e_304_871, e_304_872, e_304_873, e_304_874, e_304_876, e_304_877, e_304_878, e_304_879, e_304_882, e_304_884, e_304_885, e_304_888, e_304_890, e_304_893, e_304_894, e_304_895, e_304_897, e_304_900, e_304_901, e_304_902, e_304_903, e_304_905, e_304_906, e_304_907, e_304_910, e_304_911, e_304_912, e_304_2370, e_304_2373, ge1, ule_t, true_or, or_true, nI_add, nI_mul, nI_sub, nI_clamp, nI_lt_t, nI_lt_f, nI_le_t, nI_le_f, nI_eq_t, nI_eq_f, vp_nI, tI, fI, not_true, not_false_iff, true_and, and_true, Classical.not_not, kC_v, fixL_i, fixL_r, fixL_n, uad_p, ule_p, leT, and_self, in_161, e_161_0, e_161_1, e_161_4, q98, q9, e0, ejj, lg_self]
    exact hq _ _ _ _ _ _ _ hI2 (by omega) (by omega)
  · simp (disch := first | omega | rfl) only [e_304_847, e_304_848, e_304_849, e_304_851, e_304_852, e_304_853, e_304_854, e_304_855, e_304_857, e_304_858, e_304_859, e_304_860, e_304_861, e_304_864, e_304_866, e_304_867, e_304_868, e_304_870, e_304_871, e_304_872, e_304_873, e_304_874, e_304_876, e_304_877, e_304_878, e_304_879, e_304_882, e_304_884, e_304_885, e_304_888, e_304_890, e_304_893, e_304_894, e_304_895, e_304_897, e_304_900, e_304_901, e_304_902, e_304_903, e_304_905, e_304_906, e_304_907, e_304_910, e_304_911, e_304_912, e_304_2370, e_304_2373, ge1, ule_t, true_or, or_true, nI_add, nI_mul, nI_sub, nI_clamp, nI_lt_t, nI_lt_f, nI_le_t, nI_le_f, nI_eq_t, nI_eq_f, vp_nI, tI, fI, not_true, not_false_iff, true_and, and_true, Classical.not_not, kC_v, fixL_i, fixL_r, fixL_n, uad_p, ule_p, leT, and_self, in_161, e_161_0, e_161_1, e_161_4, q98, q9, e0, hz]
    exact hq _ _ _ _ _ _ _ hI2 (by omega) (by omega)

theorem w_14 (h : Inv L xs μ) (hL : L ≤ 3072) (hk : 6 * k + 6 ≤ L) (h1 : u1 ≤ 310 + 1000 * k) (h2 : u2 ≤ 32446 + 14000 * k) (hq : Nxt (d + 20) L xs k Q) : EM 304 (d + 20) 915 [some (.ref 300), some (.ref 1000), some (.ref 1298), some (.ref 1309), some (.int (nI (6 * k))), l5, l6, l7, l8] [] μ (u1, u2) Q := by
  obtain ⟨s0, s98, s3, x0, s9⟩ := h.bas
  simp (disch := first | omega | rfl) only [e_304_915, e_304_916, e_304_917, e_304_919, e_304_920, e_304_921, e_304_922, e_304_923, e_304_925, e_304_926, e_304_927, e_304_928, e_304_929, e_304_932, e_304_934, e_304_935, e_304_936, e_304_938, e_304_939, e_304_940, e_304_941, e_304_942, e_304_944, e_304_945, e_304_946, e_304_947, e_304_950, e_304_952, e_304_953, e_304_956, e_304_958, e_304_961, e_304_962, e_304_963, e_304_965, e_304_968, e_304_969, e_304_970, e_304_971, e_304_973, e_304_974, e_304_975, e_304_978, e_304_979, e_304_980, ge1, ule_t, true_or, or_true, nI_add, nI_mul, nI_sub, nI_clamp, nI_lt_t, nI_lt_f, nI_le_t, nI_le_f, nI_eq_t, nI_eq_f, vp_nI, tI, fI, not_true, not_false_iff, true_and, and_true, Classical.not_not, s0, s3, x0, fixL_i, fixL_r, fixL_n, uad_p, ule_p, leT, and_self]
  refine Ev_mono _ _ _ _ _ _ (fun o μ1 hh => ?_) (p_289 h)
  obtain ⟨v, rfl, ⟨b3, b98, bx⟩, hE⟩ := hh
  have t3 : mS μ1 300 = (20, L) := b3.trans s3
  have t98 := b98.trans s98
  have tx : ∀ k, mI μ1 300 k = xs k := fun k => (bx k).trans (x0 k)
  simp (disch := first | omega | rfl) only [e_304_915, e_304_916, e_304_917, e_304_919, e_304_920, e_304_921, e_304_922, e_304_923, e_304_925, e_304_926, e_304_927, e_304_928, e_304_929, e_304_932, e_304_934, e_304_935, e_304_936, e_304_938, e_304_939, e_304_940, e_304_941, e_304_942, e_304_944, e_304_945, e_304_946, e_304_947, e_304_950, e_304_952, e_304_953, e_304_956, e_304_958, e_304_961, e_304_962, e_304_963, e_304_965, e_304_968, e_304_969, e_304_970, e_304_971, e_304_973, e_304_974, e_304_975, e_304_978, e_304_979, e_304_980, ge1, ule_t, true_or, or_true, nI_add, nI_mul, nI_sub, nI_clamp, nI_lt_t, nI_lt_f, nI_le_t, nI_le_f, nI_eq_t, nI_eq_f, vp_nI, tI, fI, not_true, not_false_iff, true_and, and_true, Classical.not_not, kC_v, t3, t98, tx, fixL_i, fixL_r, fixL_n, uad_p, ule_p, leT, and_self]
  refine Ev_mono _ _ _ _ _ _ (fun o2 μ2 hh2 => ?_) hE
  obtain ⟨y, rfl, e0, ej, hI2⟩ := hh2
  obtain ⟨-, q98, -, -, q9⟩ := hI2.bas
  by_cases hz : v = nI 0
  · have ejj := ej hz
    subst hz
    simp (disch := first | omega | rfl) only [e_304_915, e_304_916, e_304_917, e_304_919, e_304_920, e_304_921, e_304_922, e_304_923, e_304_925, e_304_926, e_304_927, e_304_928, e_304_929, e_304_932, e_304_934, e_304_935, e_304_936, e_304_938, e_304_939, e_304_940, e_304_941, e_304_942, e_304_944, e_304_945, e_304_946, e_304_947, e_304_950, e_304_952, e_304_953, e_304_956, e_304_958, e_304_961, e_304_962, e_304_963, e_304_965, e_304_968, e_304_969, e_304_970, e_304_971, e_304_973, e_304_974, e_304_975, e_304_978, e_304_979, e_304_980, e_304_2370, e_304_2373, ge1, ule_t, true_or, or_true, nI_add, nI_mul, nI_sub, nI_clamp, nI_lt_t, nI_lt_f, nI_le_t, nI_le_f, nI_eq_t, nI_eq_f, vp_nI, tI, fI, not_true, not_false_iff, true_and, and_true, Classical.not_not, kC_v, fixL_i, fixL_r, fixL_n, uad_p, ule_p, leT, and_self, in_161, e_161_0, e_161_1, e_161_4, q98, q9, e0, ejj, lg_self]
    exact hq _ _ _ _ _ _ _ hI2 (by omega) (by omega)
  · simp (disch := first | omega | rfl) only [e_304_915, e_304_916, e_304_917, e_304_919, e_304_920, e_304_921, e_304_922, e_304_923, e_304_925, e_304_926, e_304_927, e_304_928, e_304_929, e_304_932, e_304_934, e_304_935, e_304_936, e_304_938, e_304_939, e_304_940, e_304_941, e_304_942, e_304_944, e_304_945, e_304_946, e_304_947, e_304_950, e_304_952, e_304_953, e_304_956, e_304_958, e_304_961, e_304_962, e_304_963, e_304_965, e_304_968, e_304_969, e_304_970, e_304_971, e_304_973, e_304_974, e_304_975, e_304_978, e_304_979, e_304_980, e_304_2370, e_304_2373, ge1, ule_t, true_or, or_true, nI_add, nI_mul, nI_sub, nI_clamp, nI_lt_t, nI_lt_f, nI_le_t, nI_le_f, nI_eq_t, nI_eq_f, vp_nI, tI, fI, not_true, not_false_iff, true_and, and_true, Classical.not_not, kC_v, fixL_i, fixL_r, fixL_n, uad_p, ule_p, leT, and_self, in_161, e_161_0, e_161_1, e_161_4, q98, q9, e0, hz]
    exact hq _ _ _ _ _ _ _ hI2 (by omega) (by omega)

theorem w_15 (h : Inv L xs μ) (hL : L ≤ 3072) (hk : 6 * k + 6 ≤ L) (h1 : u1 ≤ 310 + 1000 * k) (h2 : u2 ≤ 32446 + 14000 * k) (hq : Nxt (d + 20) L xs k Q) : EM 304 (d + 20) 983 [some (.ref 300), some (.ref 1000), some (.ref 1298), some (.ref 1309), some (.int (nI (6 * k))), l5, l6, l7, l8] [] μ (u1, u2) Q := by
  obtain ⟨s0, s98, s3, x0, s9⟩ := h.bas
  simp (disch := first | omega | rfl) only [e_304_983, e_304_984, e_304_985, e_304_987, e_304_988, e_304_989, e_304_990, e_304_991, e_304_993, e_304_994, e_304_995, e_304_996, e_304_997, e_304_1000, e_304_1002, e_304_1003, e_304_1004, e_304_1006, e_304_1007, e_304_1008, e_304_1009, e_304_1010, e_304_1012, e_304_1013, e_304_1014, e_304_1015, e_304_1018, e_304_1020, e_304_1021, e_304_1024, e_304_1026, e_304_1029, e_304_1030, e_304_1031, e_304_1033, e_304_1036, e_304_1037, e_304_1038, e_304_1039, e_304_1041, e_304_1042, e_304_1043, e_304_1046, e_304_1047, e_304_1048, ge1, ule_t, true_or, or_true, nI_add, nI_mul, nI_sub, nI_clamp, nI_lt_t, nI_lt_f, nI_le_t, nI_le_f, nI_eq_t, nI_eq_f, vp_nI, tI, fI, not_true, not_false_iff, true_and, and_true, Classical.not_not, s0, s3, x0, fixL_i, fixL_r, fixL_n, uad_p, ule_p, leT, and_self]
  refine Ev_mono _ _ _ _ _ _ (fun o μ1 hh => ?_) (p_290 h)
  obtain ⟨v, rfl, ⟨b3, b98, bx⟩, hE⟩ := hh
  have t3 : mS μ1 300 = (20, L) := b3.trans s3
  have t98 := b98.trans s98
  have tx : ∀ k, mI μ1 300 k = xs k := fun k => (bx k).trans (x0 k)
  simp (disch := first | omega | rfl) only [e_304_983, e_304_984, e_304_985, e_304_987, e_304_988, e_304_989, e_304_990, e_304_991, e_304_993, e_304_994, e_304_995, e_304_996, e_304_997, e_304_1000, e_304_1002, e_304_1003, e_304_1004, e_304_1006, e_304_1007, e_304_1008, e_304_1009, e_304_1010, e_304_1012, e_304_1013, e_304_1014, e_304_1015, e_304_1018, e_304_1020, e_304_1021, e_304_1024, e_304_1026, e_304_1029, e_304_1030, e_304_1031, e_304_1033, e_304_1036, e_304_1037, e_304_1038, e_304_1039, e_304_1041, e_304_1042, e_304_1043, e_304_1046, e_304_1047, e_304_1048, ge1, ule_t, true_or, or_true, nI_add, nI_mul, nI_sub, nI_clamp, nI_lt_t, nI_lt_f, nI_le_t, nI_le_f, nI_eq_t, nI_eq_f, vp_nI, tI, fI, not_true, not_false_iff, true_and, and_true, Classical.not_not, kC_v, t3, t98, tx, fixL_i, fixL_r, fixL_n, uad_p, ule_p, leT, and_self]
  refine Ev_mono _ _ _ _ _ _ (fun o2 μ2 hh2 => ?_) hE
  obtain ⟨y, rfl, e0, ej, hI2⟩ := hh2
  obtain ⟨-, q98, -, -, q9⟩ := hI2.bas
  by_cases hz : v = nI 0
  · have ejj := ej hz
    subst hz
    simp (disch := first | omega | rfl) only [e_304_983, e_304_984, e_304_985, e_304_987, e_304_988, e_304_989, e_304_990, e_304_991, e_304_993, e_304_994, e_304_995, e_304_996, e_304_997, e_304_1000, e_304_1002, e_304_1003, e_304_1004, e_304_1006, e_304_1007, e_304_1008, e_304_1009, e_304_1010, e_304_1012, e_304_1013, e_304_1014, e_304_1015, e_304_1018, e_304_1020, e_304_1021, e_304_1024, e_304_1026, e_304_1029, e_304_1030, e_304_1031, e_304_1033, e_304_1036, e_304_1037, e_304_1038, e_304_1039, e_304_1041, e_304_1042, e_304_1043, e_304_1046, e_304_1047, e_304_1048, e_304_2370, e_304_2373, ge1, ule_t, true_or, or_true, nI_add, nI_mul, nI_sub, nI_clamp, nI_lt_t, nI_lt_f, nI_le_t, nI_le_f, nI_eq_t, nI_eq_f, vp_nI, tI, fI, not_true, not_false_iff, true_and, and_true, Classical.not_not, kC_v, fixL_i, fixL_r, fixL_n, uad_p, ule_p, leT, and_self, in_161, e_161_0, e_161_1, e_161_4, q98, q9, e0, ejj, lg_self]
    exact hq _ _ _ _ _ _ _ hI2 (by omega) (by omega)
  · simp (disch := first | omega | rfl) only [e_304_983, e_304_984, e_304_985, e_304_987, e_304_988, e_304_989, e_304_990, e_304_991, e_304_993, e_304_994, e_304_995, e_304_996, e_304_997, e_304_1000, e_304_1002, e_304_1003, e_304_1004, e_304_1006, e_304_1007, e_304_1008, e_304_1009, e_304_1010, e_304_1012, e_304_1013, e_304_1014, e_304_1015, e_304_1018, e_304_1020, e_304_1021, e_304_1024, e_304_1026, e_304_1029, e_304_1030, e_304_1031, e_304_1033, e_304_1036, e_304_1037, e_304_1038, e_304_1039, e_304_1041, e_304_1042, e_304_1043, e_304_1046, e_304_1047, e_304_1048, e_304_2370, e_304_2373, ge1, ule_t, true_or, or_true, nI_add, nI_mul, nI_sub, nI_clamp, nI_lt_t, nI_lt_f, nI_le_t, nI_le_f, nI_eq_t, nI_eq_f, vp_nI, tI, fI, not_true, not_false_iff, true_and, and_true, Classical.not_not, kC_v, fixL_i, fixL_r, fixL_n, uad_p, ule_p, leT, and_self, in_161, e_161_0, e_161_1, e_161_4, q98, q9, e0, hz]
    exact hq _ _ _ _ _ _ _ hI2 (by omega) (by omega)

theorem w_16 (h : Inv L xs μ) (hL : L ≤ 3072) (hk : 6 * k + 6 ≤ L) (h1 : u1 ≤ 310 + 1000 * k) (h2 : u2 ≤ 32446 + 14000 * k) (hq : Nxt (d + 20) L xs k Q) : EM 304 (d + 20) 1051 [some (.ref 300), some (.ref 1000), some (.ref 1298), some (.ref 1309), some (.int (nI (6 * k))), l5, l6, l7, l8] [] μ (u1, u2) Q := by
  obtain ⟨s0, s98, s3, x0, s9⟩ := h.bas
  simp (disch := first | omega | rfl) only [e_304_1051, e_304_1052, e_304_1053, e_304_1055, e_304_1056, e_304_1057, e_304_1058, e_304_1059, e_304_1061, e_304_1062, e_304_1063, e_304_1064, e_304_1065, e_304_1068, e_304_1070, e_304_1071, e_304_1072, e_304_1074, e_304_1075, e_304_1076, e_304_1077, e_304_1078, e_304_1080, e_304_1081, e_304_1082, e_304_1083, e_304_1086, e_304_1088, e_304_1089, e_304_1092, e_304_1094, e_304_1097, e_304_1098, e_304_1099, e_304_1101, e_304_1104, e_304_1105, e_304_1106, e_304_1107, e_304_1109, e_304_1112, e_304_1113, e_304_1116, e_304_1117, e_304_1118, e_304_1121, e_304_1122, e_304_1123, ge1, ule_t, true_or, or_true, nI_add, nI_mul, nI_sub, nI_clamp, nI_lt_t, nI_lt_f, nI_le_t, nI_le_f, nI_eq_t, nI_eq_f, vp_nI, tI, fI, not_true, not_false_iff, true_and, and_true, Classical.not_not, s0, s3, x0, fixL_i, fixL_r, fixL_n, uad_p, ule_p, leT, and_self]
  refine Ev_mono _ _ _ _ _ _ (fun o μ1 hh => ?_) (p_291 h)
  obtain ⟨v, rfl, ⟨b3, b98, bx⟩, hE⟩ := hh
  have t3 : mS μ1 300 = (20, L) := b3.trans s3
  have t98 := b98.trans s98
  have tx : ∀ k, mI μ1 300 k = xs k := fun k => (bx k).trans (x0 k)
  simp (disch := first | omega | rfl) only [e_304_1051, e_304_1052, e_304_1053, e_304_1055, e_304_1056, e_304_1057, e_304_1058, e_304_1059, e_304_1061, e_304_1062, e_304_1063, e_304_1064, e_304_1065, e_304_1068, e_304_1070, e_304_1071, e_304_1072, e_304_1074, e_304_1075, e_304_1076, e_304_1077, e_304_1078, e_304_1080, e_304_1081, e_304_1082, e_304_1083, e_304_1086, e_304_1088, e_304_1089, e_304_1092, e_304_1094, e_304_1097, e_304_1098, e_304_1099, e_304_1101, e_304_1104, e_304_1105, e_304_1106, e_304_1107, e_304_1109, e_304_1112, e_304_1113, e_304_1116, e_304_1117, e_304_1118, e_304_1121, e_304_1122, e_304_1123, ge1, ule_t, true_or, or_true, nI_add, nI_mul, nI_sub, nI_clamp, nI_lt_t, nI_lt_f, nI_le_t, nI_le_f, nI_eq_t, nI_eq_f, vp_nI, tI, fI, not_true, not_false_iff, true_and, and_true, Classical.not_not, kC_v, t3, t98, tx, fixL_i, fixL_r, fixL_n, uad_p, ule_p, leT, and_self]
  refine Ev_mono _ _ _ _ _ _ (fun o2 μ2 hh2 => ?_) hE
  obtain ⟨y, rfl, hy, e0, ej, hI2⟩ := hh2
  obtain ⟨-, q98, -, -, q9⟩ := hI2.bas
  by_cases hz : v = nI 0
  · have ejj := ej hz
    subst hz
    rcases hy with rfl | rfl
    · simp (disch := first | omega | rfl) only [e_304_1051, e_304_1052, e_304_1053, e_304_1055, e_304_1056, e_304_1057, e_304_1058, e_304_1059, e_304_1061, e_304_1062, e_304_1063, e_304_1064, e_304_1065, e_304_1068, e_304_1070, e_304_1071, e_304_1072, e_304_1074, e_304_1075, e_304_1076, e_304_1077, e_304_1078, e_304_1080, e_304_1081, e_304_1082, e_304_1083, e_304_1086, e_304_1088, e_304_1089, e_304_1092, e_304_1094, e_304_1097, e_304_1098, e_304_1099, e_304_1101, e_304_1104, e_304_1105, e_304_1106, e_304_1107, e_304_1109, e_304_1112, e_304_1113, e_304_1116, e_304_1117, e_304_1118, e_304_1121, e_304_1122, e_304_1123, e_304_2370, e_304_2373, ge1, ule_t, true_or, or_true, nI_add, nI_mul, nI_sub, nI_clamp, nI_lt_t, nI_lt_f, nI_le_t, nI_le_f, nI_eq_t, nI_eq_f, vp_nI, tI, fI, not_true, not_false_iff, true_and, and_true, Classical.not_not, kC_v, fixL_i, fixL_r, fixL_n, uad_p, ule_p, leT, and_self, in_161, e_161_0, e_161_1, e_161_4, q98, q9, e0, ejj, lg_0]
      exact hq _ _ _ _ _ _ _ hI2 (by omega) (by omega)
    · simp (disch := first | omega | rfl) only [e_304_1051, e_304_1052, e_304_1053, e_304_1055, e_304_1056, e_304_1057, e_304_1058, e_304_1059, e_304_1061, e_304_1062, e_304_1063, e_304_1064, e_304_1065, e_304_1068, e_304_1070, e_304_1071, e_304_1072, e_304_1074, e_304_1075, e_304_1076, e_304_1077, e_304_1078, e_304_1080, e_304_1081, e_304_1082, e_304_1083, e_304_1086, e_304_1088, e_304_1089, e_304_1092, e_304_1094, e_304_1097, e_304_1098, e_304_1099, e_304_1101, e_304_1104, e_304_1105, e_304_1106, e_304_1107, e_304_1109, e_304_1112, e_304_1113, e_304_1116, e_304_1117, e_304_1118, e_304_1121, e_304_1122, e_304_1123, e_304_2370, e_304_2373, ge1, ule_t, true_or, or_true, nI_add, nI_mul, nI_sub, nI_clamp, nI_lt_t, nI_lt_f, nI_le_t, nI_le_f, nI_eq_t, nI_eq_f, vp_nI, tI, fI, not_true, not_false_iff, true_and, and_true, Classical.not_not, kC_v, fixL_i, fixL_r, fixL_n, uad_p, ule_p, leT, and_self, in_161, e_161_0, e_161_1, e_161_4, q98, q9, e0, ejj, lg_1]
      exact hq _ _ _ _ _ _ _ hI2 (by omega) (by omega)
  · simp (disch := first | omega | rfl) only [e_304_1051, e_304_1052, e_304_1053, e_304_1055, e_304_1056, e_304_1057, e_304_1058, e_304_1059, e_304_1061, e_304_1062, e_304_1063, e_304_1064, e_304_1065, e_304_1068, e_304_1070, e_304_1071, e_304_1072, e_304_1074, e_304_1075, e_304_1076, e_304_1077, e_304_1078, e_304_1080, e_304_1081, e_304_1082, e_304_1083, e_304_1086, e_304_1088, e_304_1089, e_304_1092, e_304_1094, e_304_1097, e_304_1098, e_304_1099, e_304_1101, e_304_1104, e_304_1105, e_304_1106, e_304_1107, e_304_1109, e_304_1112, e_304_1113, e_304_1116, e_304_1117, e_304_1118, e_304_1121, e_304_1122, e_304_1123, e_304_2370, e_304_2373, ge1, ule_t, true_or, or_true, nI_add, nI_mul, nI_sub, nI_clamp, nI_lt_t, nI_lt_f, nI_le_t, nI_le_f, nI_eq_t, nI_eq_f, vp_nI, tI, fI, not_true, not_false_iff, true_and, and_true, Classical.not_not, kC_v, fixL_i, fixL_r, fixL_n, uad_p, ule_p, leT, and_self, in_161, e_161_0, e_161_1, e_161_4, q98, q9, e0, hz]
    exact hq _ _ _ _ _ _ _ hI2 (by omega) (by omega)

theorem w_17 (h : Inv L xs μ) (hL : L ≤ 3072) (hk : 6 * k + 6 ≤ L) (h1 : u1 ≤ 310 + 1000 * k) (h2 : u2 ≤ 32446 + 14000 * k) (hq : Nxt (d + 20) L xs k Q) : EM 304 (d + 20) 1126 [some (.ref 300), some (.ref 1000), some (.ref 1298), some (.ref 1309), some (.int (nI (6 * k))), l5, l6, l7, l8] [] μ (u1, u2) Q := by
  obtain ⟨s0, s98, s3, x0, s9⟩ := h.bas
  simp (disch := first | omega | rfl) only [e_304_1126, e_304_1127, e_304_1128, e_304_1130, e_304_1131, e_304_1132, e_304_1133, e_304_1134, e_304_1136, e_304_1137, e_304_1138, e_304_1139, e_304_1140, e_304_1143, e_304_1145, e_304_1146, e_304_1147, e_304_1149, e_304_1150, e_304_1151, e_304_1152, e_304_1153, e_304_1155, e_304_1156, e_304_1157, e_304_1158, e_304_1161, e_304_1163, e_304_1164, e_304_1167, e_304_1169, e_304_1172, e_304_1173, e_304_1174, e_304_1176, e_304_1179, e_304_1180, e_304_1181, e_304_1182, e_304_1184, e_304_1185, e_304_1186, e_304_1189, e_304_1190, e_304_1191, ge1, ule_t, true_or, or_true, nI_add, nI_mul, nI_sub, nI_clamp, nI_lt_t, nI_lt_f, nI_le_t, nI_le_f, nI_eq_t, nI_eq_f, vp_nI, tI, fI, not_true, not_false_iff, true_and, and_true, Classical.not_not, s0, s3, x0, fixL_i, fixL_r, fixL_n, uad_p, ule_p, leT, and_self]
  refine Ev_mono _ _ _ _ _ _ (fun o μ1 hh => ?_) (p_292 h)
  obtain ⟨v, rfl, ⟨b3, b98, bx⟩, hE⟩ := hh
  have t3 : mS μ1 300 = (20, L) := b3.trans s3
  have t98 := b98.trans s98
  have tx : ∀ k, mI μ1 300 k = xs k := fun k => (bx k).trans (x0 k)
  simp (disch := first | omega | rfl) only [e_304_1126, e_304_1127, e_304_1128, e_304_1130, e_304_1131, e_304_1132, e_304_1133, e_304_1134, e_304_1136, e_304_1137, e_304_1138, e_304_1139, e_304_1140, e_304_1143, e_304_1145, e_304_1146, e_304_1147, e_304_1149, e_304_1150, e_304_1151, e_304_1152, e_304_1153, e_304_1155, e_304_1156, e_304_1157, e_304_1158, e_304_1161, e_304_1163, e_304_1164, e_304_1167, e_304_1169, e_304_1172, e_304_1173, e_304_1174, e_304_1176, e_304_1179, e_304_1180, e_304_1181, e_304_1182, e_304_1184, e_304_1185, e_304_1186, e_304_1189, e_304_1190, e_304_1191, ge1, ule_t, true_or, or_true, nI_add, nI_mul, nI_sub, nI_clamp, nI_lt_t, nI_lt_f, nI_le_t, nI_le_f, nI_eq_t, nI_eq_f, vp_nI, tI, fI, not_true, not_false_iff, true_and, and_true, Classical.not_not, kC_v, t3, t98, tx, fixL_i, fixL_r, fixL_n, uad_p, ule_p, leT, and_self]
  refine Ev_mono _ _ _ _ _ _ (fun o2 μ2 hh2 => ?_) hE
  obtain ⟨y, rfl, e0, ej, hI2⟩ := hh2
  obtain ⟨-, q98, -, -, q9⟩ := hI2.bas
  by_cases hz : v = nI 0
  · have ejj := ej hz
    subst hz
    simp (disch := first | omega | rfl) only [e_304_1126, e_304_1127, e_304_1128, e_304_1130, e_304_1131, e_304_1132, e_304_1133, e_304_1134, e_304_1136, e_304_1137, e_304_1138, e_304_1139, e_304_1140, e_304_1143, e_304_1145, e_304_1146, e_304_1147, e_304_1149, e_304_1150, e_304_1151, e_304_1152, e_304_1153, e_304_1155, e_304_1156, e_304_1157, e_304_1158, e_304_1161, e_304_1163, e_304_1164, e_304_1167, e_304_1169, e_304_1172, e_304_1173, e_304_1174, e_304_1176, e_304_1179, e_304_1180, e_304_1181, e_304_1182, e_304_1184, e_304_1185, e_304_1186, e_304_1189, e_304_1190, e_304_1191, e_304_2370, e_304_2373, ge1, ule_t, true_or, or_true, nI_add, nI_mul, nI_sub, nI_clamp, nI_lt_t, nI_lt_f, nI_le_t, nI_le_f, nI_eq_t, nI_eq_f, vp_nI, tI, fI, not_true, not_false_iff, true_and, and_true, Classical.not_not, kC_v, fixL_i, fixL_r, fixL_n, uad_p, ule_p, leT, and_self, in_161, e_161_0, e_161_1, e_161_4, q98, q9, e0, ejj, lg_self]
    exact hq _ _ _ _ _ _ _ hI2 (by omega) (by omega)
  · simp (disch := first | omega | rfl) only [e_304_1126, e_304_1127, e_304_1128, e_304_1130, e_304_1131, e_304_1132, e_304_1133, e_304_1134, e_304_1136, e_304_1137, e_304_1138, e_304_1139, e_304_1140, e_304_1143, e_304_1145, e_304_1146, e_304_1147, e_304_1149, e_304_1150, e_304_1151, e_304_1152, e_304_1153, e_304_1155, e_304_1156, e_304_1157, e_304_1158, e_304_1161, e_304_1163, e_304_1164, e_304_1167, e_304_1169, e_304_1172, e_304_1173, e_304_1174, e_304_1176, e_304_1179, e_304_1180, e_304_1181, e_304_1182, e_304_1184, e_304_1185, e_304_1186, e_304_1189, e_304_1190, e_304_1191, e_304_2370, e_304_2373, ge1, ule_t, true_or, or_true, nI_add, nI_mul, nI_sub, nI_clamp, nI_lt_t, nI_lt_f, nI_le_t, nI_le_f, nI_eq_t, nI_eq_f, vp_nI, tI, fI, not_true, not_false_iff, true_and, and_true, Classical.not_not, kC_v, fixL_i, fixL_r, fixL_n, uad_p, ule_p, leT, and_self, in_161, e_161_0, e_161_1, e_161_4, q98, q9, e0, hz]
    exact hq _ _ _ _ _ _ _ hI2 (by omega) (by omega)

theorem w_18 (h : Inv L xs μ) (hL : L ≤ 3072) (hk : 6 * k + 6 ≤ L) (h1 : u1 ≤ 310 + 1000 * k) (h2 : u2 ≤ 32446 + 14000 * k) (hq : Nxt (d + 20) L xs k Q) : EM 304 (d + 20) 1194 [some (.ref 300), some (.ref 1000), some (.ref 1298), some (.ref 1309), some (.int (nI (6 * k))), l5, l6, l7, l8] [] μ (u1, u2) Q := by
  obtain ⟨s0, s98, s3, x0, s9⟩ := h.bas
  simp (disch := first | omega | rfl) only [e_304_1194, e_304_1195, e_304_1196, e_304_1198, e_304_1199, e_304_1200, e_304_1201, e_304_1202, e_304_1204, e_304_1205, e_304_1206, e_304_1207, e_304_1208, e_304_1211, e_304_1213, e_304_1214, e_304_1215, e_304_1217, e_304_1218, e_304_1219, e_304_1220, e_304_1221, e_304_1223, e_304_1224, e_304_1225, e_304_1226, e_304_1229, e_304_1231, e_304_1232, e_304_1235, e_304_1237, e_304_1240, e_304_1241, e_304_1242, e_304_1244, e_304_1247, e_304_1248, e_304_1249, e_304_1250, e_304_1252, e_304_1253, e_304_1254, e_304_1257, e_304_1258, e_304_1259, ge1, ule_t, true_or, or_true, nI_add, nI_mul, nI_sub, nI_clamp, nI_lt_t, nI_lt_f, nI_le_t, nI_le_f, nI_eq_t, nI_eq_f, vp_nI, tI, fI, not_true, not_false_iff, true_and, and_true, Classical.not_not, s0, s3, x0, fixL_i, fixL_r, fixL_n, uad_p, ule_p, leT, and_self]
  refine Ev_mono _ _ _ _ _ _ (fun o μ1 hh => ?_) (p_293 h)
  obtain ⟨v, rfl, ⟨b3, b98, bx⟩, hE⟩ := hh
  have t3 : mS μ1 300 = (20, L) := b3.trans s3
  have t98 := b98.trans s98
  have tx : ∀ k, mI μ1 300 k = xs k := fun k => (bx k).trans (x0 k)
  simp (disch := first | omega | rfl) only [e_304_1194, e_304_1195, e_304_1196, e_304_1198, e_304_1199, e_304_1200, e_304_1201, e_304_1202, e_304_1204, e_304_1205, e_304_1206, e_304_1207, e_304_1208, e_304_1211, e_304_1213, e_304_1214, e_304_1215, e_304_1217, e_304_1218, e_304_1219, e_304_1220, e_304_1221, e_304_1223, e_304_1224, e_304_1225, e_304_1226, e_304_1229, e_304_1231, e_304_1232, e_304_1235, e_304_1237, e_304_1240, e_304_1241, e_304_1242, e_304_1244, e_304_1247, e_304_1248, e_304_1249, e_304_1250, e_304_1252, e_304_1253, e_304_1254, e_304_1257, e_304_1258, e_304_1259, ge1, ule_t, true_or, or_true, nI_add, nI_mul, nI_sub, nI_clamp, nI_lt_t, nI_lt_f, nI_le_t, nI_le_f, nI_eq_t, nI_eq_f, vp_nI, tI, fI, not_true, not_false_iff, true_and, and_true, Classical.not_not, kC_v, t3, t98, tx, fixL_i, fixL_r, fixL_n, uad_p, ule_p, leT, and_self]
  refine Ev_mono _ _ _ _ _ _ (fun o2 μ2 hh2 => ?_) hE
  obtain ⟨y, rfl, e0, ej, hI2⟩ := hh2
  obtain ⟨-, q98, -, -, q9⟩ := hI2.bas
  by_cases hz : v = nI 0
  · have ejj := ej hz
    subst hz
    simp (disch := first | omega | rfl) only [e_304_1194, e_304_1195, e_304_1196, e_304_1198, e_304_1199, e_304_1200, e_304_1201, e_304_1202, e_304_1204, e_304_1205, e_304_1206, e_304_1207, e_304_1208, e_304_1211, e_304_1213, e_304_1214, e_304_1215, e_304_1217, e_304_1218, e_304_1219, e_304_1220, e_304_1221, e_304_1223, e_304_1224, e_304_1225, e_304_1226, e_304_1229, e_304_1231, e_304_1232, e_304_1235, e_304_1237, e_304_1240, e_304_1241, e_304_1242, e_304_1244, e_304_1247, e_304_1248, e_304_1249, e_304_1250, e_304_1252, e_304_1253, e_304_1254, e_304_1257, e_304_1258, e_304_1259, e_304_2370, e_304_2373, ge1, ule_t, true_or, or_true, nI_add, nI_mul, nI_sub, nI_clamp, nI_lt_t, nI_lt_f, nI_le_t, nI_le_f, nI_eq_t, nI_eq_f, vp_nI, tI, fI, not_true, not_false_iff, true_and, and_true, Classical.not_not, kC_v, fixL_i, fixL_r, fixL_n, uad_p, ule_p, leT, and_self, in_161, e_161_0, e_161_1, e_161_4, q98, q9, e0, ejj, lg_self]
    exact hq _ _ _ _ _ _ _ hI2 (by omega) (by omega)
  · simp (disch := first | omega | rfl) only [e_304_1194, e_304_1195, e_304_1196, e_304_1198, e_304_1199, e_304_1200, e_304_1201, e_304_1202, e_304_1204, e_304_1205, e_304_1206, e_304_1207, e_304_1208, e_304_1211, e_304_1213, e_304_1214, e_304_1215, e_304_1217, e_304_1218, e_304_1219, e_304_1220, e_304_1221, e_304_1223, e_304_1224, e_304_1225, e_304_1226, e_304_1229, e_304_1231, e_304_1232, e_304_1235, e_304_1237, e_304_1240, e_304_1241, e_304_1242, e_304_1244, e_304_1247, e_304_1248, e_304_1249, e_304_1250, e_304_1252, e_304_1253, e_304_1254, e_304_1257, e_304_1258, e_304_1259, e_304_2370, e_304_2373, ge1, ule_t, true_or, or_true, nI_add, nI_mul, nI_sub, nI_clamp, nI_lt_t, nI_lt_f, nI_le_t, nI_le_f, nI_eq_t, nI_eq_f, vp_nI, tI, fI, not_true, not_false_iff, true_and, and_true, Classical.not_not, kC_v, fixL_i, fixL_r, fixL_n, uad_p, ule_p, leT, and_self, in_161, e_161_0, e_161_1, e_161_4, q98, q9, e0, hz]
    exact hq _ _ _ _ _ _ _ hI2 (by omega) (by omega)

theorem w_19 (h : Inv L xs μ) (hL : L ≤ 3072) (hk : 6 * k + 6 ≤ L) (h1 : u1 ≤ 310 + 1000 * k) (h2 : u2 ≤ 32446 + 14000 * k) (hq : Nxt (d + 20) L xs k Q) : EM 304 (d + 20) 1262 [some (.ref 300), some (.ref 1000), some (.ref 1298), some (.ref 1309), some (.int (nI (6 * k))), l5, l6, l7, l8] [] μ (u1, u2) Q := by
  obtain ⟨s0, s98, s3, x0, s9⟩ := h.bas
  simp (disch := first | omega | rfl) only [e_304_1262, e_304_1263, e_304_1264, e_304_1266, e_304_1267, e_304_1268, e_304_1269, e_304_1270, e_304_1272, e_304_1273, e_304_1274, e_304_1275, e_304_1276, e_304_1279, e_304_1281, e_304_1282, e_304_1283, e_304_1285, e_304_1286, e_304_1287, e_304_1288, e_304_1289, e_304_1291, e_304_1292, e_304_1293, e_304_1294, e_304_1297, e_304_1299, e_304_1300, e_304_1303, e_304_1305, e_304_1308, e_304_1309, e_304_1310, e_304_1312, e_304_1315, e_304_1316, e_304_1317, e_304_1318, e_304_1320, e_304_1321, e_304_1322, e_304_1325, e_304_1326, e_304_1327, ge1, ule_t, true_or, or_true, nI_add, nI_mul, nI_sub, nI_clamp, nI_lt_t, nI_lt_f, nI_le_t, nI_le_f, nI_eq_t, nI_eq_f, vp_nI, tI, fI, not_true, not_false_iff, true_and, and_true, Classical.not_not, s0, s3, x0, fixL_i, fixL_r, fixL_n, uad_p, ule_p, leT, and_self]
  refine Ev_mono _ _ _ _ _ _ (fun o μ1 hh => ?_) (p_294 h)
  obtain ⟨v, rfl, ⟨b3, b98, bx⟩, hE⟩ := hh
  have t3 : mS μ1 300 = (20, L) := b3.trans s3
  have t98 := b98.trans s98
  have tx : ∀ k, mI μ1 300 k = xs k := fun k => (bx k).trans (x0 k)
  simp (disch := first | omega | rfl) only [e_304_1262, e_304_1263, e_304_1264, e_304_1266, e_304_1267, e_304_1268, e_304_1269, e_304_1270, e_304_1272, e_304_1273, e_304_1274, e_304_1275, e_304_1276, e_304_1279, e_304_1281, e_304_1282, e_304_1283, e_304_1285, e_304_1286, e_304_1287, e_304_1288, e_304_1289, e_304_1291, e_304_1292, e_304_1293, e_304_1294, e_304_1297, e_304_1299, e_304_1300, e_304_1303, e_304_1305, e_304_1308, e_304_1309, e_304_1310, e_304_1312, e_304_1315, e_304_1316, e_304_1317, e_304_1318, e_304_1320, e_304_1321, e_304_1322, e_304_1325, e_304_1326, e_304_1327, ge1, ule_t, true_or, or_true, nI_add, nI_mul, nI_sub, nI_clamp, nI_lt_t, nI_lt_f, nI_le_t, nI_le_f, nI_eq_t, nI_eq_f, vp_nI, tI, fI, not_true, not_false_iff, true_and, and_true, Classical.not_not, kC_v, t3, t98, tx, fixL_i, fixL_r, fixL_n, uad_p, ule_p, leT, and_self]
  refine Ev_mono _ _ _ _ _ _ (fun o2 μ2 hh2 => ?_) hE
  obtain ⟨y, rfl, e0, ej, hI2⟩ := hh2
  obtain ⟨-, q98, -, -, q9⟩ := hI2.bas
  by_cases hz : v = nI 0
  · have ejj := ej hz
    subst hz
    simp (disch := first | omega | rfl) only [e_304_1262, e_304_1263, e_304_1264, e_304_1266, e_304_1267, e_304_1268, e_304_1269, e_304_1270, e_304_1272, e_304_1273, e_304_1274, e_304_1275, e_304_1276, e_304_1279, e_304_1281, e_304_1282, e_304_1283, e_304_1285, e_304_1286, e_304_1287, e_304_1288, e_304_1289, e_304_1291, e_304_1292, e_304_1293, e_304_1294, e_304_1297, e_304_1299, e_304_1300, e_304_1303, e_304_1305, e_304_1308, e_304_1309, e_304_1310, e_304_1312, e_304_1315, e_304_1316, e_304_1317, e_304_1318, e_304_1320, e_304_1321, e_304_1322, e_304_1325, e_304_1326, e_304_1327, e_304_2370, e_304_2373, ge1, ule_t, true_or, or_true, nI_add, nI_mul, nI_sub, nI_clamp, nI_lt_t, nI_lt_f, nI_le_t, nI_le_f, nI_eq_t, nI_eq_f, vp_nI, tI, fI, not_true, not_false_iff, true_and, and_true, Classical.not_not, kC_v, fixL_i, fixL_r, fixL_n, uad_p, ule_p, leT, and_self, in_161, e_161_0, e_161_1, e_161_4, q98, q9, e0, ejj, lg_self]
    exact hq _ _ _ _ _ _ _ hI2 (by omega) (by omega)
  · simp (disch := first | omega | rfl) only [e_304_1262, e_304_1263, e_304_1264, e_304_1266, e_304_1267, e_304_1268, e_304_1269, e_304_1270, e_304_1272, e_304_1273, e_304_1274, e_304_1275, e_304_1276, e_304_1279, e_304_1281, e_304_1282, e_304_1283, e_304_1285, e_304_1286, e_304_1287, e_304_1288, e_304_1289, e_304_1291, e_304_1292, e_304_1293, e_304_1294, e_304_1297, e_304_1299, e_304_1300, e_304_1303, e_304_1305, e_304_1308, e_304_1309, e_304_1310, e_304_1312, e_304_1315, e_304_1316, e_304_1317, e_304_1318, e_304_1320, e_304_1321, e_304_1322, e_304_1325, e_304_1326, e_304_1327, e_304_2370, e_304_2373, ge1, ule_t, true_or, or_true, nI_add, nI_mul, nI_sub, nI_clamp, nI_lt_t, nI_lt_f, nI_le_t, nI_le_f, nI_eq_t, nI_eq_f, vp_nI, tI, fI, not_true, not_false_iff, true_and, and_true, Classical.not_not, kC_v, fixL_i, fixL_r, fixL_n, uad_p, ule_p, leT, and_self, in_161, e_161_0, e_161_1, e_161_4, q98, q9, e0, hz]
    exact hq _ _ _ _ _ _ _ hI2 (by omega) (by omega)

theorem w_20 (h : Inv L xs μ) (hL : L ≤ 3072) (hk : 6 * k + 6 ≤ L) (h1 : u1 ≤ 310 + 1000 * k) (h2 : u2 ≤ 32446 + 14000 * k) (hq : Nxt (d + 20) L xs k Q) : EM 304 (d + 20) 1330 [some (.ref 300), some (.ref 1000), some (.ref 1298), some (.ref 1309), some (.int (nI (6 * k))), l5, l6, l7, l8] [] μ (u1, u2) Q := by
  obtain ⟨s0, s98, s3, x0, s9⟩ := h.bas
  simp (disch := first | omega | rfl) only [e_304_1330, e_304_1331, e_304_1332, e_304_1334, e_304_1335, e_304_1336, e_304_1337, e_304_1338, e_304_1340, e_304_1341, e_304_1342, e_304_1343, e_304_1344, e_304_1347, e_304_1349, e_304_1350, e_304_1351, e_304_1353, e_304_1354, e_304_1355, e_304_1356, e_304_1357, e_304_1359, e_304_1360, e_304_1361, e_304_1362, e_304_1365, e_304_1367, e_304_1368, e_304_1371, e_304_1373, e_304_1376, e_304_1377, e_304_1378, e_304_1380, e_304_1383, e_304_1384, e_304_1385, e_304_1386, e_304_1388, e_304_1389, e_304_1390, e_304_1393, e_304_1394, e_304_1395, ge1, ule_t, true_or, or_true, nI_add, nI_mul, nI_sub, nI_clamp, nI_lt_t, nI_lt_f, nI_le_t, nI_le_f, nI_eq_t, nI_eq_f, vp_nI, tI, fI, not_true, not_false_iff, true_and, and_true, Classical.not_not, s0, s3, x0, fixL_i, fixL_r, fixL_n, uad_p, ule_p, leT, and_self]
  refine Ev_mono _ _ _ _ _ _ (fun o μ1 hh => ?_) (p_295 h)
  obtain ⟨v, rfl, ⟨b3, b98, bx⟩, hE⟩ := hh
  have t3 : mS μ1 300 = (20, L) := b3.trans s3
  have t98 := b98.trans s98
  have tx : ∀ k, mI μ1 300 k = xs k := fun k => (bx k).trans (x0 k)
  simp (disch := first | omega | rfl) only [e_304_1330, e_304_1331, e_304_1332, e_304_1334, e_304_1335, e_304_1336, e_304_1337, e_304_1338, e_304_1340, e_304_1341, e_304_1342, e_304_1343, e_304_1344, e_304_1347, e_304_1349, e_304_1350, e_304_1351, e_304_1353, e_304_1354, e_304_1355, e_304_1356, e_304_1357, e_304_1359, e_304_1360, e_304_1361, e_304_1362, e_304_1365, e_304_1367, e_304_1368, e_304_1371, e_304_1373, e_304_1376, e_304_1377, e_304_1378, e_304_1380, e_304_1383, e_304_1384, e_304_1385, e_304_1386, e_304_1388, e_304_1389, e_304_1390, e_304_1393, e_304_1394, e_304_1395, ge1, ule_t, true_or, or_true, nI_add, nI_mul, nI_sub, nI_clamp, nI_lt_t, nI_lt_f, nI_le_t, nI_le_f, nI_eq_t, nI_eq_f, vp_nI, tI, fI, not_true, not_false_iff, true_and, and_true, Classical.not_not, kC_v, t3, t98, tx, fixL_i, fixL_r, fixL_n, uad_p, ule_p, leT, and_self]
  refine Ev_mono _ _ _ _ _ _ (fun o2 μ2 hh2 => ?_) hE
  obtain ⟨y, rfl, e0, ej, hI2⟩ := hh2
  obtain ⟨-, q98, -, -, q9⟩ := hI2.bas
  by_cases hz : v = nI 0
  · have ejj := ej hz
    subst hz
    simp (disch := first | omega | rfl) only [e_304_1330, e_304_1331, e_304_1332, e_304_1334, e_304_1335, e_304_1336, e_304_1337, e_304_1338, e_304_1340, e_304_1341, e_304_1342, e_304_1343, e_304_1344, e_304_1347, e_304_1349, e_304_1350, e_304_1351, e_304_1353, e_304_1354, e_304_1355, e_304_1356, e_304_1357, e_304_1359, e_304_1360, e_304_1361, e_304_1362, e_304_1365, e_304_1367, e_304_1368, e_304_1371, e_304_1373, e_304_1376, e_304_1377, e_304_1378, e_304_1380, e_304_1383, e_304_1384, e_304_1385, e_304_1386, e_304_1388, e_304_1389, e_304_1390, e_304_1393, e_304_1394, e_304_1395, e_304_2370, e_304_2373, ge1, ule_t, true_or, or_true, nI_add, nI_mul, nI_sub, nI_clamp, nI_lt_t, nI_lt_f, nI_le_t, nI_le_f, nI_eq_t, nI_eq_f, vp_nI, tI, fI, not_true, not_false_iff, true_and, and_true, Classical.not_not, kC_v, fixL_i, fixL_r, fixL_n, uad_p, ule_p, leT, and_self, in_161, e_161_0, e_161_1, e_161_4, q98, q9, e0, ejj, lg_self]
    exact hq _ _ _ _ _ _ _ hI2 (by omega) (by omega)
  · simp (disch := first | omega | rfl) only [e_304_1330, e_304_1331, e_304_1332, e_304_1334, e_304_1335, e_304_1336, e_304_1337, e_304_1338, e_304_1340, e_304_1341, e_304_1342, e_304_1343, e_304_1344, e_304_1347, e_304_1349, e_304_1350, e_304_1351, e_304_1353, e_304_1354, e_304_1355, e_304_1356, e_304_1357, e_304_1359, e_304_1360, e_304_1361, e_304_1362, e_304_1365, e_304_1367, e_304_1368, e_304_1371, e_304_1373, e_304_1376, e_304_1377, e_304_1378, e_304_1380, e_304_1383, e_304_1384, e_304_1385, e_304_1386, e_304_1388, e_304_1389, e_304_1390, e_304_1393, e_304_1394, e_304_1395, e_304_2370, e_304_2373, ge1, ule_t, true_or, or_true, nI_add, nI_mul, nI_sub, nI_clamp, nI_lt_t, nI_lt_f, nI_le_t, nI_le_f, nI_eq_t, nI_eq_f, vp_nI, tI, fI, not_true, not_false_iff, true_and, and_true, Classical.not_not, kC_v, fixL_i, fixL_r, fixL_n, uad_p, ule_p, leT, and_self, in_161, e_161_0, e_161_1, e_161_4, q98, q9, e0, hz]
    exact hq _ _ _ _ _ _ _ hI2 (by omega) (by omega)

theorem w_21 (h : Inv L xs μ) (hL : L ≤ 3072) (hk : 6 * k + 6 ≤ L) (h1 : u1 ≤ 310 + 1000 * k) (h2 : u2 ≤ 32446 + 14000 * k) (hq : Nxt (d + 20) L xs k Q) : EM 304 (d + 20) 1398 [some (.ref 300), some (.ref 1000), some (.ref 1298), some (.ref 1309), some (.int (nI (6 * k))), l5, l6, l7, l8] [] μ (u1, u2) Q := by
  obtain ⟨s0, s98, s3, x0, s9⟩ := h.bas
  simp (disch := first | omega | rfl) only [e_304_1398, e_304_1399, e_304_1400, e_304_1402, e_304_1403, e_304_1404, e_304_1405, e_304_1408, e_304_1409, e_304_1410, e_304_1412, e_304_1413, e_304_1414, e_304_1415, e_304_1418, e_304_1421, e_304_1422, ge1, ule_t, true_or, or_true, nI_add, nI_mul, nI_sub, nI_clamp, nI_lt_t, nI_lt_f, nI_le_t, nI_le_f, nI_eq_t, nI_eq_f, vp_nI, tI, fI, not_true, not_false_iff, true_and, and_true, Classical.not_not, s0, s3, x0, fixL_i, fixL_r, fixL_n, uad_p, ule_p, leT, and_self]
  refine Ev_mono _ _ _ _ _ _ (fun o μ1 hh => ?_) (p_118 h)
  obtain ⟨v, rfl, ⟨b3, b98, bx⟩, hE⟩ := hh
  have t3 : mS μ1 300 = (20, L) := b3.trans s3
  have t98 := b98.trans s98
  have tx : ∀ k, mI μ1 300 k = xs k := fun k => (bx k).trans (x0 k)
  simp (disch := first | omega | rfl) only [e_304_1398, e_304_1399, e_304_1400, e_304_1402, e_304_1403, e_304_1404, e_304_1405, e_304_1408, e_304_1409, e_304_1410, e_304_1412, e_304_1413, e_304_1414, e_304_1415, e_304_1418, e_304_1421, e_304_1422, ge1, ule_t, true_or, or_true, nI_add, nI_mul, nI_sub, nI_clamp, nI_lt_t, nI_lt_f, nI_le_t, nI_le_f, nI_eq_t, nI_eq_f, vp_nI, tI, fI, not_true, not_false_iff, true_and, and_true, Classical.not_not, kC_v, t3, t98, tx, fixL_i, fixL_r, fixL_n, uad_p, ule_p, leT, and_self]
  refine Ev_mono _ _ _ _ _ _ (fun o2 μ2 hh2 => ?_) hE
  obtain ⟨rfl, hI2⟩ := hh2
  simp (disch := first | omega | rfl) only [e_304_1398, e_304_1399, e_304_1400, e_304_1402, e_304_1403, e_304_1404, e_304_1405, e_304_1408, e_304_1409, e_304_1410, e_304_1412, e_304_1413, e_304_1414, e_304_1415, e_304_1418, e_304_1421, e_304_1422, e_304_2370, e_304_2373, ge1, ule_t, true_or, or_true, nI_add, nI_mul, nI_sub, nI_clamp, nI_lt_t, nI_lt_f, nI_le_t, nI_le_f, nI_eq_t, nI_eq_f, vp_nI, tI, fI, not_true, not_false_iff, true_and, and_true, Classical.not_not, kC_v, fixL_i, fixL_r, fixL_n, uad_p, ule_p, leT, and_self]
  exact hq _ _ _ _ _ _ _ hI2 (by omega) (by omega)

theorem w_22 (h : Inv L xs μ) (hL : L ≤ 3072) (hk : 6 * k + 6 ≤ L) (h1 : u1 ≤ 310 + 1000 * k) (h2 : u2 ≤ 32446 + 14000 * k) (hq : Nxt (d + 20) L xs k Q) : EM 304 (d + 20) 1423 [some (.ref 300), some (.ref 1000), some (.ref 1298), some (.ref 1309), some (.int (nI (6 * k))), l5, l6, l7, l8] [] μ (u1, u2) Q := by
  obtain ⟨s0, s98, s3, x0, s9⟩ := h.bas
  simp (disch := first | omega | rfl) only [e_304_1423, e_304_1424, e_304_1425, e_304_1427, e_304_1428, e_304_1429, e_304_1430, e_304_1431, e_304_1434, e_304_1436, e_304_1437, e_304_1438, e_304_1440, e_304_1441, e_304_1442, e_304_1443, e_304_1446, e_304_1448, e_304_1449, e_304_1452, e_304_1454, e_304_1457, e_304_1458, e_304_1459, e_304_1461, e_304_1464, e_304_1465, e_304_1466, e_304_1467, e_304_1469, e_304_1472, e_304_1473, e_304_1476, e_304_1477, e_304_1478, e_304_1481, e_304_1482, e_304_1483, ge1, ule_t, true_or, or_true, nI_add, nI_mul, nI_sub, nI_clamp, nI_lt_t, nI_lt_f, nI_le_t, nI_le_f, nI_eq_t, nI_eq_f, vp_nI, tI, fI, not_true, not_false_iff, true_and, and_true, Classical.not_not, s0, s3, x0, fixL_i, fixL_r, fixL_n, uad_p, ule_p, leT, and_self]
  refine Ev_mono _ _ _ _ _ _ (fun o μ1 hh => ?_) (p_296 h)
  obtain ⟨v, rfl, ⟨b3, b98, bx⟩, hE⟩ := hh
  have t3 : mS μ1 300 = (20, L) := b3.trans s3
  have t98 := b98.trans s98
  have tx : ∀ k, mI μ1 300 k = xs k := fun k => (bx k).trans (x0 k)
  simp (disch := first | omega | rfl) only [e_304_1423, e_304_1424, e_304_1425, e_304_1427, e_304_1428, e_304_1429, e_304_1430, e_304_1431, e_304_1434, e_304_1436, e_304_1437, e_304_1438, e_304_1440, e_304_1441, e_304_1442, e_304_1443, e_304_1446, e_304_1448, e_304_1449, e_304_1452, e_304_1454, e_304_1457, e_304_1458, e_304_1459, e_304_1461, e_304_1464, e_304_1465, e_304_1466, e_304_1467, e_304_1469, e_304_1472, e_304_1473, e_304_1476, e_304_1477, e_304_1478, e_304_1481, e_304_1482, e_304_1483, ge1, ule_t, true_or, or_true, nI_add, nI_mul, nI_sub, nI_clamp, nI_lt_t, nI_lt_f, nI_le_t, nI_le_f, nI_eq_t, nI_eq_f, vp_nI, tI, fI, not_true, not_false_iff, true_and, and_true, Classical.not_not, kC_v, t3, t98, tx, fixL_i, fixL_r, fixL_n, uad_p, ule_p, leT, and_self]
  refine Ev_mono _ _ _ _ _ _ (fun o2 μ2 hh2 => ?_) hE
  obtain ⟨y, rfl, hy, e0, ej, hI2⟩ := hh2
  obtain ⟨-, q98, -, -, q9⟩ := hI2.bas
  by_cases hz : v = nI 0
  · have ejj := ej hz
    subst hz
    rcases hy with rfl | rfl
    · simp (disch := first | omega | rfl) only [e_304_1423, e_304_1424, e_304_1425, e_304_1427, e_304_1428, e_304_1429, e_304_1430, e_304_1431, e_304_1434, e_304_1436, e_304_1437, e_304_1438, e_304_1440, e_304_1441, e_304_1442, e_304_1443, e_304_1446, e_304_1448, e_304_1449, e_304_1452, e_304_1454, e_304_1457, e_304_1458, e_304_1459, e_304_1461, e_304_1464, e_304_1465, e_304_1466, e_304_1467, e_304_1469, e_304_1472, e_304_1473, e_304_1476, e_304_1477, e_304_1478, e_304_1481, e_304_1482, e_304_1483, e_304_2370, e_304_2373, ge1, ule_t, true_or, or_true, nI_add, nI_mul, nI_sub, nI_clamp, nI_lt_t, nI_lt_f, nI_le_t, nI_le_f, nI_eq_t, nI_eq_f, vp_nI, tI, fI, not_true, not_false_iff, true_and, and_true, Classical.not_not, kC_v, fixL_i, fixL_r, fixL_n, uad_p, ule_p, leT, and_self, in_161, e_161_0, e_161_1, e_161_4, q98, q9, e0, ejj, lg_0]
      exact hq _ _ _ _ _ _ _ hI2 (by omega) (by omega)
    · simp (disch := first | omega | rfl) only [e_304_1423, e_304_1424, e_304_1425, e_304_1427, e_304_1428, e_304_1429, e_304_1430, e_304_1431, e_304_1434, e_304_1436, e_304_1437, e_304_1438, e_304_1440, e_304_1441, e_304_1442, e_304_1443, e_304_1446, e_304_1448, e_304_1449, e_304_1452, e_304_1454, e_304_1457, e_304_1458, e_304_1459, e_304_1461, e_304_1464, e_304_1465, e_304_1466, e_304_1467, e_304_1469, e_304_1472, e_304_1473, e_304_1476, e_304_1477, e_304_1478, e_304_1481, e_304_1482, e_304_1483, e_304_2370, e_304_2373, ge1, ule_t, true_or, or_true, nI_add, nI_mul, nI_sub, nI_clamp, nI_lt_t, nI_lt_f, nI_le_t, nI_le_f, nI_eq_t, nI_eq_f, vp_nI, tI, fI, not_true, not_false_iff, true_and, and_true, Classical.not_not, kC_v, fixL_i, fixL_r, fixL_n, uad_p, ule_p, leT, and_self, in_161, e_161_0, e_161_1, e_161_4, q98, q9, e0, ejj, lg_1]
      exact hq _ _ _ _ _ _ _ hI2 (by omega) (by omega)
  · simp (disch := first | omega | rfl) only [e_304_1423, e_304_1424, e_304_1425, e_304_1427, e_304_1428, e_304_1429, e_304_1430, e_304_1431, e_304_1434, e_304_1436, e_304_1437, e_304_1438, e_304_1440, e_304_1441, e_304_1442, e_304_1443, e_304_1446, e_304_1448, e_304_1449, e_304_1452, e_304_1454, e_304_1457, e_304_1458, e_304_1459, e_304_1461, e_304_1464, e_304_1465, e_304_1466, e_304_1467, e_304_1469, e_304_1472, e_304_1473, e_304_1476, e_304_1477, e_304_1478, e_304_1481, e_304_1482, e_304_1483, e_304_2370, e_304_2373, ge1, ule_t, true_or, or_true, nI_add, nI_mul, nI_sub, nI_clamp, nI_lt_t, nI_lt_f, nI_le_t, nI_le_f, nI_eq_t, nI_eq_f, vp_nI, tI, fI, not_true, not_false_iff, true_and, and_true, Classical.not_not, kC_v, fixL_i, fixL_r, fixL_n, uad_p, ule_p, leT, and_self, in_161, e_161_0, e_161_1, e_161_4, q98, q9, e0, hz]
    exact hq _ _ _ _ _ _ _ hI2 (by omega) (by omega)

theorem w_23 (h : Inv L xs μ) (hL : L ≤ 3072) (hk : 6 * k + 6 ≤ L) (h1 : u1 ≤ 310 + 1000 * k) (h2 : u2 ≤ 32446 + 14000 * k) (hq : Nxt (d + 20) L xs k Q) : EM 304 (d + 20) 1486 [some (.ref 300), some (.ref 1000), some (.ref 1298), some (.ref 1309), some (.int (nI (6 * k))), l5, l6, l7, l8] [] μ (u1, u2) Q := by
  obtain ⟨s0, s98, s3, x0, s9⟩ := h.bas
  simp (disch := first | omega | rfl) only [e_304_1486, e_304_1487, e_304_1490, e_304_1491, e_304_1494, e_304_1497, e_304_1498, ge1, ule_t, true_or, or_true, nI_add, nI_mul, nI_sub, nI_clamp, nI_lt_t, nI_lt_f, nI_le_t, nI_le_f, nI_eq_t, nI_eq_f, vp_nI, tI, fI, not_true, not_false_iff, true_and, and_true, Classical.not_not, s0, s3, x0, fixL_i, fixL_r, fixL_n, uad_p, ule_p, leT, and_self]
  refine Ev_mono _ _ _ _ _ _ (fun o μ1 hh => ?_) (p_120 h)
  obtain ⟨v, rfl, ⟨b3, b98, bx⟩, hE⟩ := hh
  have t3 : mS μ1 300 = (20, L) := b3.trans s3
  have t98 := b98.trans s98
  have tx : ∀ k, mI μ1 300 k = xs k := fun k => (bx k).trans (x0 k)
  simp (disch := first | omega | rfl) only [e_304_1486, e_304_1487, e_304_1490, e_304_1491, e_304_1494, e_304_1497, e_304_1498, ge1, ule_t, true_or, or_true, nI_add, nI_mul, nI_sub, nI_clamp, nI_lt_t, nI_lt_f, nI_le_t, nI_le_f, nI_eq_t, nI_eq_f, vp_nI, tI, fI, not_true, not_false_iff, true_and, and_true, Classical.not_not, kC_v, t3, t98, tx, fixL_i, fixL_r, fixL_n, uad_p, ule_p, leT, and_self]
  refine Ev_mono _ _ _ _ _ _ (fun o2 μ2 hh2 => ?_) hE
  obtain ⟨rfl, hI2⟩ := hh2
  simp (disch := first | omega | rfl) only [e_304_1486, e_304_1487, e_304_1490, e_304_1491, e_304_1494, e_304_1497, e_304_1498, e_304_2370, e_304_2373, ge1, ule_t, true_or, or_true, nI_add, nI_mul, nI_sub, nI_clamp, nI_lt_t, nI_lt_f, nI_le_t, nI_le_f, nI_eq_t, nI_eq_f, vp_nI, tI, fI, not_true, not_false_iff, true_and, and_true, Classical.not_not, kC_v, fixL_i, fixL_r, fixL_n, uad_p, ule_p, leT, and_self]
  exact hq _ _ _ _ _ _ _ hI2 (by omega) (by omega)

theorem w_24 (h : Inv L xs μ) (hL : L ≤ 3072) (hk : 6 * k + 6 ≤ L) (h1 : u1 ≤ 310 + 1000 * k) (h2 : u2 ≤ 32446 + 14000 * k) (hq : Nxt (d + 20) L xs k Q) : EM 304 (d + 20) 1499 [some (.ref 300), some (.ref 1000), some (.ref 1298), some (.ref 1309), some (.int (nI (6 * k))), l5, l6, l7, l8] [] μ (u1, u2) Q := by
  obtain ⟨s0, s98, s3, x0, s9⟩ := h.bas
  simp (disch := first | omega | rfl) only [e_304_1499, e_304_1500, e_304_1501, e_304_1503, e_304_1504, e_304_1505, e_304_1506, e_304_1507, e_304_1510, e_304_1512, e_304_1513, e_304_1514, e_304_1516, e_304_1517, e_304_1518, e_304_1519, e_304_1522, e_304_1524, e_304_1525, e_304_1528, e_304_1530, e_304_1533, e_304_1534, e_304_1535, e_304_1537, e_304_1540, e_304_1541, e_304_1542, e_304_1543, e_304_1545, e_304_1546, e_304_1547, e_304_1550, e_304_1551, e_304_1552, ge1, ule_t, true_or, or_true, nI_add, nI_mul, nI_sub, nI_clamp, nI_lt_t, nI_lt_f, nI_le_t, nI_le_f, nI_eq_t, nI_eq_f, vp_nI, tI, fI, not_true, not_false_iff, true_and, and_true, Classical.not_not, s0, s3, x0, fixL_i, fixL_r, fixL_n, uad_p, ule_p, leT, and_self]
  refine Ev_mono _ _ _ _ _ _ (fun o μ1 hh => ?_) (p_297 h)
  obtain ⟨v, rfl, ⟨b3, b98, bx⟩, hE⟩ := hh
  have t3 : mS μ1 300 = (20, L) := b3.trans s3
  have t98 := b98.trans s98
  have tx : ∀ k, mI μ1 300 k = xs k := fun k => (bx k).trans (x0 k)
  simp (disch := first | omega | rfl) only [e_304_1499, e_304_1500, e_304_1501, e_304_1503, e_304_1504, e_304_1505, e_304_1506, e_304_1507, e_304_1510, e_304_1512, e_304_1513, e_304_1514, e_304_1516, e_304_1517, e_304_1518, e_304_1519, e_304_1522, e_304_1524, e_304_1525, e_304_1528, e_304_1530, e_304_1533, e_304_1534, e_304_1535, e_304_1537, e_304_1540, e_304_1541, e_304_1542, e_304_1543, e_304_1545, e_304_1546, e_304_1547, e_304_1550, e_304_1551, e_304_1552, ge1, ule_t, true_or, or_true, nI_add, nI_mul, nI_sub, nI_clamp, nI_lt_t, nI_lt_f, nI_le_t, nI_le_f, nI_eq_t, nI_eq_f, vp_nI, tI, fI, not_true, not_false_iff, true_and, and_true, Classical.not_not, kC_v, t3, t98, tx, fixL_i, fixL_r, fixL_n, uad_p, ule_p, leT, and_self]
  refine Ev_mono _ _ _ _ _ _ (fun o2 μ2 hh2 => ?_) hE
  obtain ⟨y, rfl, e0, ej, hI2⟩ := hh2
  obtain ⟨-, q98, -, -, q9⟩ := hI2.bas
  by_cases hz : v = nI 0
  · have ejj := ej hz
    subst hz
    simp (disch := first | omega | rfl) only [e_304_1499, e_304_1500, e_304_1501, e_304_1503, e_304_1504, e_304_1505, e_304_1506, e_304_1507, e_304_1510, e_304_1512, e_304_1513, e_304_1514, e_304_1516, e_304_1517, e_304_1518, e_304_1519, e_304_1522, e_304_1524, e_304_1525, e_304_1528, e_304_1530, e_304_1533, e_304_1534, e_304_1535, e_304_1537, e_304_1540, e_304_1541, e_304_1542, e_304_1543, e_304_1545, e_304_1546, e_304_1547, e_304_1550, e_304_1551, e_304_1552, e_304_2370, e_304_2373, ge1, ule_t, true_or, or_true, nI_add, nI_mul, nI_sub, nI_clamp, nI_lt_t, nI_lt_f, nI_le_t, nI_le_f, nI_eq_t, nI_eq_f, vp_nI, tI, fI, not_true, not_false_iff, true_and, and_true, Classical.not_not, kC_v, fixL_i, fixL_r, fixL_n, uad_p, ule_p, leT, and_self, in_161, e_161_0, e_161_1, e_161_4, q98, q9, e0, ejj, lg_self]
    exact hq _ _ _ _ _ _ _ hI2 (by omega) (by omega)
  · simp (disch := first | omega | rfl) only [e_304_1499, e_304_1500, e_304_1501, e_304_1503, e_304_1504, e_304_1505, e_304_1506, e_304_1507, e_304_1510, e_304_1512, e_304_1513, e_304_1514, e_304_1516, e_304_1517, e_304_1518, e_304_1519, e_304_1522, e_304_1524, e_304_1525, e_304_1528, e_304_1530, e_304_1533, e_304_1534, e_304_1535, e_304_1537, e_304_1540, e_304_1541, e_304_1542, e_304_1543, e_304_1545, e_304_1546, e_304_1547, e_304_1550, e_304_1551, e_304_1552, e_304_2370, e_304_2373, ge1, ule_t, true_or, or_true, nI_add, nI_mul, nI_sub, nI_clamp, nI_lt_t, nI_lt_f, nI_le_t, nI_le_f, nI_eq_t, nI_eq_f, vp_nI, tI, fI, not_true, not_false_iff, true_and, and_true, Classical.not_not, kC_v, fixL_i, fixL_r, fixL_n, uad_p, ule_p, leT, and_self, in_161, e_161_0, e_161_1, e_161_4, q98, q9, e0, hz]
    exact hq _ _ _ _ _ _ _ hI2 (by omega) (by omega)

theorem w_25 (h : Inv L xs μ) (hL : L ≤ 3072) (hk : 6 * k + 6 ≤ L) (h1 : u1 ≤ 310 + 1000 * k) (h2 : u2 ≤ 32446 + 14000 * k) (hq : Nxt (d + 20) L xs k Q) : EM 304 (d + 20) 1555 [some (.ref 300), some (.ref 1000), some (.ref 1298), some (.ref 1309), some (.int (nI (6 * k))), l5, l6, l7, l8] [] μ (u1, u2) Q := by
  obtain ⟨s0, s98, s3, x0, s9⟩ := h.bas
  simp (disch := first | omega | rfl) only [e_304_1555, e_304_1556, e_304_1557, e_304_1559, e_304_1560, e_304_1561, e_304_1562, e_304_1563, e_304_1566, e_304_1568, e_304_1569, e_304_1570, e_304_1572, e_304_1573, e_304_1574, e_304_1575, e_304_1578, e_304_1580, e_304_1581, e_304_1584, e_304_1586, e_304_1589, e_304_1590, e_304_1591, e_304_1593, e_304_1596, e_304_1597, e_304_1598, e_304_1599, e_304_1601, e_304_1602, e_304_1603, e_304_1606, e_304_1607, e_304_1608, ge1, ule_t, true_or, or_true, nI_add, nI_mul, nI_sub, nI_clamp, nI_lt_t, nI_lt_f, nI_le_t, nI_le_f, nI_eq_t, nI_eq_f, vp_nI, tI, fI, not_true, not_false_iff, true_and, and_true, Classical.not_not, s0, s3, x0, fixL_i, fixL_r, fixL_n, uad_p, ule_p, leT, and_self]
  refine Ev_mono _ _ _ _ _ _ (fun o μ1 hh => ?_) (p_298 h)
  obtain ⟨v, rfl, ⟨b3, b98, bx⟩, hE⟩ := hh
  have t3 : mS μ1 300 = (20, L) := b3.trans s3
  have t98 := b98.trans s98
  have tx : ∀ k, mI μ1 300 k = xs k := fun k => (bx k).trans (x0 k)
  simp (disch := first | omega | rfl) only [e_304_1555, e_304_1556, e_304_1557, e_304_1559, e_304_1560, e_304_1561, e_304_1562, e_304_1563, e_304_1566, e_304_1568, e_304_1569, e_304_1570, e_304_1572, e_304_1573, e_304_1574, e_304_1575, e_304_1578, e_304_1580, e_304_1581, e_304_1584, e_304_1586, e_304_1589, e_304_1590, e_304_1591, e_304_1593, e_304_1596, e_304_1597, e_304_1598, e_304_1599, e_304_1601, e_304_1602, e_304_1603, e_304_1606, e_304_1607, e_304_1608, ge1, ule_t, true_or, or_true, nI_add, nI_mul, nI_sub, nI_clamp, nI_lt_t, nI_lt_f, nI_le_t, nI_le_f, nI_eq_t, nI_eq_f, vp_nI, tI, fI, not_true, not_false_iff, true_and, and_true, Classical.not_not, kC_v, t3, t98, tx, fixL_i, fixL_r, fixL_n, uad_p, ule_p, leT, and_self]
  refine Ev_mono _ _ _ _ _ _ (fun o2 μ2 hh2 => ?_) hE
  obtain ⟨y, rfl, e0, ej, hI2⟩ := hh2
  obtain ⟨-, q98, -, -, q9⟩ := hI2.bas
  by_cases hz : v = nI 0
  · have ejj := ej hz
    subst hz
    simp (disch := first | omega | rfl) only [e_304_1555, e_304_1556, e_304_1557, e_304_1559, e_304_1560, e_304_1561, e_304_1562, e_304_1563, e_304_1566, e_304_1568, e_304_1569, e_304_1570, e_304_1572, e_304_1573, e_304_1574, e_304_1575, e_304_1578, e_304_1580, e_304_1581, e_304_1584, e_304_1586, e_304_1589, e_304_1590, e_304_1591, e_304_1593, e_304_1596, e_304_1597, e_304_1598, e_304_1599, e_304_1601, e_304_1602, e_304_1603, e_304_1606, e_304_1607, e_304_1608, e_304_2370, e_304_2373, ge1, ule_t, true_or, or_true, nI_add, nI_mul, nI_sub, nI_clamp, nI_lt_t, nI_lt_f, nI_le_t, nI_le_f, nI_eq_t, nI_eq_f, vp_nI, tI, fI, not_true, not_false_iff, true_and, and_true, Classical.not_not, kC_v, fixL_i, fixL_r, fixL_n, uad_p, ule_p, leT, and_self, in_161, e_161_0, e_161_1, e_161_4, q98, q9, e0, ejj, lg_self]
    exact hq _ _ _ _ _ _ _ hI2 (by omega) (by omega)
  · simp (disch := first | omega | rfl) only [e_304_1555, e_304_1556, e_304_1557, e_304_1559, e_304_1560, e_304_1561, e_304_1562, e_304_1563, e_304_1566, e_304_1568, e_304_1569, e_304_1570, e_304_1572, e_304_1573, e_304_1574, e_304_1575, e_304_1578, e_304_1580, e_304_1581, e_304_1584, e_304_1586, e_304_1589, e_304_1590, e_304_1591, e_304_1593, e_304_1596, e_304_1597, e_304_1598, e_304_1599, e_304_1601, e_304_1602, e_304_1603, e_304_1606, e_304_1607, e_304_1608, e_304_2370, e_304_2373, ge1, ule_t, true_or, or_true, nI_add, nI_mul, nI_sub, nI_clamp, nI_lt_t, nI_lt_f, nI_le_t, nI_le_f, nI_eq_t, nI_eq_f, vp_nI, tI, fI, not_true, not_false_iff, true_and, and_true, Classical.not_not, kC_v, fixL_i, fixL_r, fixL_n, uad_p, ule_p, leT, and_self, in_161, e_161_0, e_161_1, e_161_4, q98, q9, e0, hz]
    exact hq _ _ _ _ _ _ _ hI2 (by omega) (by omega)

theorem w_26 (h : Inv L xs μ) (hL : L ≤ 3072) (hk : 6 * k + 6 ≤ L) (h1 : u1 ≤ 310 + 1000 * k) (h2 : u2 ≤ 32446 + 14000 * k) (hq : Nxt (d + 20) L xs k Q) : EM 304 (d + 20) 1611 [some (.ref 300), some (.ref 1000), some (.ref 1298), some (.ref 1309), some (.int (nI (6 * k))), l5, l6, l7, l8] [] μ (u1, u2) Q := by
  obtain ⟨s0, s98, s3, x0, s9⟩ := h.bas
  by_cases hz : xs (6 * k + 1) = nI 0
  all_goals
    simp (disch := first | omega | rfl) only [e_304_1611, e_304_1612, e_304_1613, e_304_1615, e_304_1616, e_304_1617, e_304_1618, e_304_1621, e_304_1622, e_304_1625, e_304_1626, e_304_1629, e_304_1630, e_304_1631, e_304_1633, e_304_1634, e_304_1635, e_304_1636, e_304_1639, e_304_1640, e_304_1643, e_304_1644, e_304_1647, e_304_1650, e_304_1651, ge1, ule_t, true_or, or_true, nI_add, nI_mul, nI_sub, nI_clamp, nI_lt_t, nI_lt_f, nI_le_t, nI_le_f, nI_eq_t, nI_eq_f, vp_nI, tI, fI, not_true, not_false_iff, true_and, and_true, Classical.not_not, s0, s3, x0, fixL_i, fixL_r, fixL_n, uad_p, ule_p, leT, and_self, hz]
    refine Ev_mono _ _ _ _ _ _ (fun o μ1 hh => ?_) (p_129 h)
    obtain ⟨v, rfl, ⟨b3, b98, bx⟩, hE⟩ := hh
    have t3 : mS μ1 300 = (20, L) := b3.trans s3
    have t98 := b98.trans s98
    have tx : ∀ k, mI μ1 300 k = xs k := fun k => (bx k).trans (x0 k)
    simp (disch := first | omega | rfl) only [e_304_1611, e_304_1612, e_304_1613, e_304_1615, e_304_1616, e_304_1617, e_304_1618, e_304_1621, e_304_1622, e_304_1625, e_304_1626, e_304_1629, e_304_1630, e_304_1631, e_304_1633, e_304_1634, e_304_1635, e_304_1636, e_304_1639, e_304_1640, e_304_1643, e_304_1644, e_304_1647, e_304_1650, e_304_1651, ge1, ule_t, true_or, or_true, nI_add, nI_mul, nI_sub, nI_clamp, nI_lt_t, nI_lt_f, nI_le_t, nI_le_f, nI_eq_t, nI_eq_f, vp_nI, tI, fI, not_true, not_false_iff, true_and, and_true, Classical.not_not, kC_v, t3, t98, tx, fixL_i, fixL_r, fixL_n, uad_p, ule_p, leT, and_self, hz]
    refine Ev_mono _ _ _ _ _ _ (fun o2 μ2 hh2 => ?_) hE
    obtain ⟨rfl, hI2⟩ := hh2
    simp (disch := first | omega | rfl) only [e_304_1611, e_304_1612, e_304_1613, e_304_1615, e_304_1616, e_304_1617, e_304_1618, e_304_1621, e_304_1622, e_304_1625, e_304_1626, e_304_1629, e_304_1630, e_304_1631, e_304_1633, e_304_1634, e_304_1635, e_304_1636, e_304_1639, e_304_1640, e_304_1643, e_304_1644, e_304_1647, e_304_1650, e_304_1651, e_304_2370, e_304_2373, ge1, ule_t, true_or, or_true, nI_add, nI_mul, nI_sub, nI_clamp, nI_lt_t, nI_lt_f, nI_le_t, nI_le_f, nI_eq_t, nI_eq_f, vp_nI, tI, fI, not_true, not_false_iff, true_and, and_true, Classical.not_not, kC_v, fixL_i, fixL_r, fixL_n, uad_p, ule_p, leT, and_self]
    exact hq _ _ _ _ _ _ _ hI2 (by omega) (by omega)

theorem w_27 (h : Inv L xs μ) (hL : L ≤ 3072) (hk : 6 * k + 6 ≤ L) (h1 : u1 ≤ 310 + 1000 * k) (h2 : u2 ≤ 32446 + 14000 * k) (hq : Nxt (d + 20) L xs k Q) : EM 304 (d + 20) 1652 [some (.ref 300), some (.ref 1000), some (.ref 1298), some (.ref 1309), some (.int (nI (6 * k))), l5, l6, l7, l8] [] μ (u1, u2) Q := by
  obtain ⟨s0, s98, s3, x0, s9⟩ := h.bas
  simp (disch := first | omega | rfl) only [e_304_1652, e_304_1653, e_304_1654, e_304_1656, e_304_1657, e_304_1658, e_304_1659, e_304_1660, e_304_1663, e_304_1665, e_304_1666, e_304_1667, e_304_1669, e_304_1670, e_304_1671, e_304_1672, e_304_1675, e_304_1677, e_304_1678, e_304_1681, e_304_1683, e_304_1686, e_304_1687, e_304_1688, e_304_1690, e_304_1693, e_304_1694, e_304_1695, e_304_1696, e_304_1698, e_304_1699, e_304_1700, e_304_1703, e_304_1704, e_304_1705, ge1, ule_t, true_or, or_true, nI_add, nI_mul, nI_sub, nI_clamp, nI_lt_t, nI_lt_f, nI_le_t, nI_le_f, nI_eq_t, nI_eq_f, vp_nI, tI, fI, not_true, not_false_iff, true_and, and_true, Classical.not_not, s0, s3, x0, fixL_i, fixL_r, fixL_n, uad_p, ule_p, leT, and_self]
  refine Ev_mono _ _ _ _ _ _ (fun o μ1 hh => ?_) (p_299 h)
  obtain ⟨v, rfl, ⟨b3, b98, bx⟩, hE⟩ := hh
  have t3 : mS μ1 300 = (20, L) := b3.trans s3
  have t98 := b98.trans s98
  have tx : ∀ k, mI μ1 300 k = xs k := fun k => (bx k).trans (x0 k)
  simp (disch := first | omega | rfl) only [e_304_1652, e_304_1653, e_304_1654, e_304_1656, e_304_1657, e_304_1658, e_304_1659, e_304_1660, e_304_1663, e_304_1665, e_304_1666, e_304_1667, e_304_1669, e_304_1670, e_304_1671, e_304_1672, e_304_1675, e_304_1677, e_304_1678, e_304_1681, e_304_1683, e_304_1686, e_304_1687, e_304_1688, e_304_1690, e_304_1693, e_304_1694, e_304_1695, e_304_1696, e_304_1698, e_304_1699, e_304_1700, e_304_1703, e_304_1704, e_304_1705, ge1, ule_t, true_or, or_true, nI_add, nI_mul, nI_sub, nI_clamp, nI_lt_t, nI_lt_f, nI_le_t, nI_le_f, nI_eq_t, nI_eq_f, vp_nI, tI, fI, not_true, not_false_iff, true_and, and_true, Classical.not_not, kC_v, t3, t98, tx, fixL_i, fixL_r, fixL_n, uad_p, ule_p, leT, and_self]
  refine Ev_mono _ _ _ _ _ _ (fun o2 μ2 hh2 => ?_) hE
  obtain ⟨y, rfl, e0, ej, hI2⟩ := hh2
  obtain ⟨-, q98, -, -, q9⟩ := hI2.bas
  by_cases hz : v = nI 0
  · have ejj := ej hz
    subst hz
    simp (disch := first | omega | rfl) only [e_304_1652, e_304_1653, e_304_1654, e_304_1656, e_304_1657, e_304_1658, e_304_1659, e_304_1660, e_304_1663, e_304_1665, e_304_1666, e_304_1667, e_304_1669, e_304_1670, e_304_1671, e_304_1672, e_304_1675, e_304_1677, e_304_1678, e_304_1681, e_304_1683, e_304_1686, e_304_1687, e_304_1688, e_304_1690, e_304_1693, e_304_1694, e_304_1695, e_304_1696, e_304_1698, e_304_1699, e_304_1700, e_304_1703, e_304_1704, e_304_1705, e_304_2370, e_304_2373, ge1, ule_t, true_or, or_true, nI_add, nI_mul, nI_sub, nI_clamp, nI_lt_t, nI_lt_f, nI_le_t, nI_le_f, nI_eq_t, nI_eq_f, vp_nI, tI, fI, not_true, not_false_iff, true_and, and_true, Classical.not_not, kC_v, fixL_i, fixL_r, fixL_n, uad_p, ule_p, leT, and_self, in_161, e_161_0, e_161_1, e_161_4, q98, q9, e0, ejj, lg_self]
    exact hq _ _ _ _ _ _ _ hI2 (by omega) (by omega)
  · simp (disch := first | omega | rfl) only [e_304_1652, e_304_1653, e_304_1654, e_304_1656, e_304_1657, e_304_1658, e_304_1659, e_304_1660, e_304_1663, e_304_1665, e_304_1666, e_304_1667, e_304_1669, e_304_1670, e_304_1671, e_304_1672, e_304_1675, e_304_1677, e_304_1678, e_304_1681, e_304_1683, e_304_1686, e_304_1687, e_304_1688, e_304_1690, e_304_1693, e_304_1694, e_304_1695, e_304_1696, e_304_1698, e_304_1699, e_304_1700, e_304_1703, e_304_1704, e_304_1705, e_304_2370, e_304_2373, ge1, ule_t, true_or, or_true, nI_add, nI_mul, nI_sub, nI_clamp, nI_lt_t, nI_lt_f, nI_le_t, nI_le_f, nI_eq_t, nI_eq_f, vp_nI, tI, fI, not_true, not_false_iff, true_and, and_true, Classical.not_not, kC_v, fixL_i, fixL_r, fixL_n, uad_p, ule_p, leT, and_self, in_161, e_161_0, e_161_1, e_161_4, q98, q9, e0, hz]
    exact hq _ _ _ _ _ _ _ hI2 (by omega) (by omega)

theorem w_28 (h : Inv L xs μ) (hL : L ≤ 3072) (hk : 6 * k + 6 ≤ L) (h1 : u1 ≤ 310 + 1000 * k) (h2 : u2 ≤ 32446 + 14000 * k) (hq : Nxt (d + 20) L xs k Q) : EM 304 (d + 20) 1708 [some (.ref 300), some (.ref 1000), some (.ref 1298), some (.ref 1309), some (.int (nI (6 * k))), l5, l6, l7, l8] [] μ (u1, u2) Q := by
  obtain ⟨s0, s98, s3, x0, s9⟩ := h.bas
  simp (disch := first | omega | rfl) only [e_304_1708, e_304_1709, e_304_1712, e_304_1714, e_304_1715, e_304_1718, e_304_1720, e_304_1722, e_304_1724, e_304_1725, e_304_1728, e_304_1730, e_304_1732, e_304_1733, e_304_1736, e_304_1738, e_304_1740, e_304_1741, e_304_1744, e_304_1745, e_304_1746, ge1, ule_t, true_or, or_true, nI_add, nI_mul, nI_sub, nI_clamp, nI_lt_t, nI_lt_f, nI_le_t, nI_le_f, nI_eq_t, nI_eq_f, vp_nI, tI, fI, not_true, not_false_iff, true_and, and_true, Classical.not_not, s0, s3, x0, fixL_i, fixL_r, fixL_n, uad_p, ule_p, leT, and_self]
  refine Ev_mono _ _ _ _ _ _ (fun o μ1 hh => ?_) (p_133 h)
  obtain ⟨v, -, rfl, ⟨b3, b98, bx⟩, hE⟩ := hh
  have t3 : mS μ1 300 = (20, L) := b3.trans s3
  have t98 := b98.trans s98
  have tx : ∀ k, mI μ1 300 k = xs k := fun k => (bx k).trans (x0 k)
  simp (disch := first | omega | rfl) only [e_304_1708, e_304_1709, e_304_1712, e_304_1714, e_304_1715, e_304_1718, e_304_1720, e_304_1722, e_304_1724, e_304_1725, e_304_1728, e_304_1730, e_304_1732, e_304_1733, e_304_1736, e_304_1738, e_304_1740, e_304_1741, e_304_1744, e_304_1745, e_304_1746, ge1, ule_t, true_or, or_true, nI_add, nI_mul, nI_sub, nI_clamp, nI_lt_t, nI_lt_f, nI_le_t, nI_le_f, nI_eq_t, nI_eq_f, vp_nI, tI, fI, not_true, not_false_iff, true_and, and_true, Classical.not_not, kC_v, t3, t98, tx, fixL_i, fixL_r, fixL_n, uad_p, ule_p, leT, and_self]
  refine Ev_mono _ _ _ _ _ _ (fun o2 μ2 hh2 => ?_) hE
  obtain ⟨rfl, hI2⟩ := hh2
  by_cases hc : Op.cmpValue (FP.dcmp v v) .l = nI 0
  · simp (disch := first | omega | rfl) only [e_304_1708, e_304_1709, e_304_1712, e_304_1714, e_304_1715, e_304_1718, e_304_1720, e_304_1722, e_304_1724, e_304_1725, e_304_1728, e_304_1730, e_304_1732, e_304_1733, e_304_1736, e_304_1738, e_304_1740, e_304_1741, e_304_1744, e_304_1745, e_304_1746, e_304_2370, e_304_2373, ge1, ule_t, true_or, or_true, nI_add, nI_mul, nI_sub, nI_clamp, nI_lt_t, nI_lt_f, nI_le_t, nI_le_f, nI_eq_t, nI_eq_f, vp_nI, tI, fI, not_true, not_false_iff, true_and, and_true, Classical.not_not, kC_v, fixL_i, fixL_r, fixL_n, uad_p, ule_p, leT, and_self, hc]
    exact hq _ _ _ _ _ _ _ hI2 (by omega) (by omega)
  · simp (disch := first | omega | rfl) only [e_304_1708, e_304_1709, e_304_1712, e_304_1714, e_304_1715, e_304_1718, e_304_1720, e_304_1722, e_304_1724, e_304_1725, e_304_1728, e_304_1730, e_304_1732, e_304_1733, e_304_1736, e_304_1738, e_304_1740, e_304_1741, e_304_1744, e_304_1745, e_304_1746, e_304_2370, e_304_2373, ge1, ule_t, true_or, or_true, nI_add, nI_mul, nI_sub, nI_clamp, nI_lt_t, nI_lt_f, nI_le_t, nI_le_f, nI_eq_t, nI_eq_f, vp_nI, tI, fI, not_true, not_false_iff, true_and, and_true, Classical.not_not, kC_v, fixL_i, fixL_r, fixL_n, uad_p, ule_p, leT, and_self, hc]
    exact hq _ _ _ _ _ _ _ hI2 (by omega) (by omega)

theorem w_29 (h : Inv L xs μ) (hL : L ≤ 3072) (hk : 6 * k + 6 ≤ L) (h1 : u1 ≤ 310 + 1000 * k) (h2 : u2 ≤ 32446 + 14000 * k) (hq : Nxt (d + 20) L xs k Q) : EM 304 (d + 20) 1749 [some (.ref 300), some (.ref 1000), some (.ref 1298), some (.ref 1309), some (.int (nI (6 * k))), l5, l6, l7, l8] [] μ (u1, u2) Q := by
  obtain ⟨s0, s98, s3, x0, s9⟩ := h.bas
  simp (disch := first | omega | rfl) only [e_304_1749, e_304_1750, e_304_1751, e_304_1753, e_304_1754, e_304_1755, e_304_1756, e_304_1757, e_304_1759, e_304_1760, e_304_1761, e_304_1762, e_304_1763, e_304_1766, e_304_1768, e_304_1769, e_304_1770, e_304_1772, e_304_1773, e_304_1774, e_304_1775, e_304_1776, e_304_1778, e_304_1779, e_304_1780, e_304_1781, e_304_1784, e_304_1786, e_304_1787, e_304_1790, e_304_1792, e_304_1795, e_304_1796, e_304_1797, e_304_1799, e_304_1802, e_304_1803, e_304_1804, e_304_1805, e_304_1807, e_304_1808, e_304_1809, e_304_1812, e_304_1813, e_304_1814, ge1, ule_t, true_or, or_true, nI_add, nI_mul, nI_sub, nI_clamp, nI_lt_t, nI_lt_f, nI_le_t, nI_le_f, nI_eq_t, nI_eq_f, vp_nI, tI, fI, not_true, not_false_iff, true_and, and_true, Classical.not_not, s0, s3, x0, fixL_i, fixL_r, fixL_n, uad_p, ule_p, leT, and_self]
  refine Ev_mono _ _ _ _ _ _ (fun o μ1 hh => ?_) (p_300 h)
  obtain ⟨v, rfl, ⟨b3, b98, bx⟩, hE⟩ := hh
  have t3 : mS μ1 300 = (20, L) := b3.trans s3
  have t98 := b98.trans s98
  have tx : ∀ k, mI μ1 300 k = xs k := fun k => (bx k).trans (x0 k)
  simp (disch := first | omega | rfl) only [e_304_1749, e_304_1750, e_304_1751, e_304_1753, e_304_1754, e_304_1755, e_304_1756, e_304_1757, e_304_1759, e_304_1760, e_304_1761, e_304_1762, e_304_1763, e_304_1766, e_304_1768, e_304_1769, e_304_1770, e_304_1772, e_304_1773, e_304_1774, e_304_1775, e_304_1776, e_304_1778, e_304_1779, e_304_1780, e_304_1781, e_304_1784, e_304_1786, e_304_1787, e_304_1790, e_304_1792, e_304_1795, e_304_1796, e_304_1797, e_304_1799, e_304_1802, e_304_1803, e_304_1804, e_304_1805, e_304_1807, e_304_1808, e_304_1809, e_304_1812, e_304_1813, e_304_1814, ge1, ule_t, true_or, or_true, nI_add, nI_mul, nI_sub, nI_clamp, nI_lt_t, nI_lt_f, nI_le_t, nI_le_f, nI_eq_t, nI_eq_f, vp_nI, tI, fI, not_true, not_false_iff, true_and, and_true, Classical.not_not, kC_v, t3, t98, tx, fixL_i, fixL_r, fixL_n, uad_p, ule_p, leT, and_self]
  refine Ev_mono _ _ _ _ _ _ (fun o2 μ2 hh2 => ?_) hE
  obtain ⟨y, rfl, e0, ej, hI2⟩ := hh2
  obtain ⟨-, q98, -, -, q9⟩ := hI2.bas
  by_cases hz : v = nI 0
  · have ejj := ej hz
    subst hz
    simp (disch := first | omega | rfl) only [e_304_1749, e_304_1750, e_304_1751, e_304_1753, e_304_1754, e_304_1755, e_304_1756, e_304_1757, e_304_1759, e_304_1760, e_304_1761, e_304_1762, e_304_1763, e_304_1766, e_304_1768, e_304_1769, e_304_1770, e_304_1772, e_304_1773, e_304_1774, e_304_1775, e_304_1776, e_304_1778, e_304_1779, e_304_1780, e_304_1781, e_304_1784, e_304_1786, e_304_1787, e_304_1790, e_304_1792, e_304_1795, e_304_1796, e_304_1797, e_304_1799, e_304_1802, e_304_1803, e_304_1804, e_304_1805, e_304_1807, e_304_1808, e_304_1809, e_304_1812, e_304_1813, e_304_1814, e_304_2370, e_304_2373, ge1, ule_t, true_or, or_true, nI_add, nI_mul, nI_sub, nI_clamp, nI_lt_t, nI_lt_f, nI_le_t, nI_le_f, nI_eq_t, nI_eq_f, vp_nI, tI, fI, not_true, not_false_iff, true_and, and_true, Classical.not_not, kC_v, fixL_i, fixL_r, fixL_n, uad_p, ule_p, leT, and_self, in_161, e_161_0, e_161_1, e_161_4, q98, q9, e0, ejj, lg_self]
    exact hq _ _ _ _ _ _ _ hI2 (by omega) (by omega)
  · simp (disch := first | omega | rfl) only [e_304_1749, e_304_1750, e_304_1751, e_304_1753, e_304_1754, e_304_1755, e_304_1756, e_304_1757, e_304_1759, e_304_1760, e_304_1761, e_304_1762, e_304_1763, e_304_1766, e_304_1768, e_304_1769, e_304_1770, e_304_1772, e_304_1773, e_304_1774, e_304_1775, e_304_1776, e_304_1778, e_304_1779, e_304_1780, e_304_1781, e_304_1784, e_304_1786, e_304_1787, e_304_1790, e_304_1792, e_304_1795, e_304_1796, e_304_1797, e_304_1799, e_304_1802, e_304_1803, e_304_1804, e_304_1805, e_304_1807, e_304_1808, e_304_1809, e_304_1812, e_304_1813, e_304_1814, e_304_2370, e_304_2373, ge1, ule_t, true_or, or_true, nI_add, nI_mul, nI_sub, nI_clamp, nI_lt_t, nI_lt_f, nI_le_t, nI_le_f, nI_eq_t, nI_eq_f, vp_nI, tI, fI, not_true, not_false_iff, true_and, and_true, Classical.not_not, kC_v, fixL_i, fixL_r, fixL_n, uad_p, ule_p, leT, and_self, in_161, e_161_0, e_161_1, e_161_4, q98, q9, e0, hz]
    exact hq _ _ _ _ _ _ _ hI2 (by omega) (by omega)

theorem w_30 (h : Inv L xs μ) (hL : L ≤ 3072) (hk : 6 * k + 6 ≤ L) (h1 : u1 ≤ 310 + 1000 * k) (h2 : u2 ≤ 32446 + 14000 * k) (hq : Nxt (d + 20) L xs k Q) : EM 304 (d + 20) 1817 [some (.ref 300), some (.ref 1000), some (.ref 1298), some (.ref 1309), some (.int (nI (6 * k))), l5, l6, l7, l8] [] μ (u1, u2) Q := by
  obtain ⟨s0, s98, s3, x0, s9⟩ := h.bas
  simp (disch := first | omega | rfl) only [e_304_1817, e_304_1818, e_304_1821, e_304_1822, e_304_1825, e_304_1828, e_304_1829, ge1, ule_t, true_or, or_true, nI_add, nI_mul, nI_sub, nI_clamp, nI_lt_t, nI_lt_f, nI_le_t, nI_le_f, nI_eq_t, nI_eq_f, vp_nI, tI, fI, not_true, not_false_iff, true_and, and_true, Classical.not_not, s0, s3, x0, fixL_i, fixL_r, fixL_n, uad_p, ule_p, leT, and_self]
  refine Ev_mono _ _ _ _ _ _ (fun o μ1 hh => ?_) (p_135 h)
  obtain ⟨v, rfl, ⟨b3, b98, bx⟩, hE⟩ := hh
  have t3 : mS μ1 300 = (20, L) := b3.trans s3
  have t98 := b98.trans s98
  have tx : ∀ k, mI μ1 300 k = xs k := fun k => (bx k).trans (x0 k)
  simp (disch := first | omega | rfl) only [e_304_1817, e_304_1818, e_304_1821, e_304_1822, e_304_1825, e_304_1828, e_304_1829, ge1, ule_t, true_or, or_true, nI_add, nI_mul, nI_sub, nI_clamp, nI_lt_t, nI_lt_f, nI_le_t, nI_le_f, nI_eq_t, nI_eq_f, vp_nI, tI, fI, not_true, not_false_iff, true_and, and_true, Classical.not_not, kC_v, t3, t98, tx, fixL_i, fixL_r, fixL_n, uad_p, ule_p, leT, and_self]
  refine Ev_mono _ _ _ _ _ _ (fun o2 μ2 hh2 => ?_) hE
  obtain ⟨rfl, hI2⟩ := hh2
  simp (disch := first | omega | rfl) only [e_304_1817, e_304_1818, e_304_1821, e_304_1822, e_304_1825, e_304_1828, e_304_1829, e_304_2370, e_304_2373, ge1, ule_t, true_or, or_true, nI_add, nI_mul, nI_sub, nI_clamp, nI_lt_t, nI_lt_f, nI_le_t, nI_le_f, nI_eq_t, nI_eq_f, vp_nI, tI, fI, not_true, not_false_iff, true_and, and_true, Classical.not_not, kC_v, fixL_i, fixL_r, fixL_n, uad_p, ule_p, leT, and_self]
  exact hq _ _ _ _ _ _ _ hI2 (by omega) (by omega)

theorem w_31 (h : Inv L xs μ) (hL : L ≤ 3072) (hk : 6 * k + 6 ≤ L) (h1 : u1 ≤ 310 + 1000 * k) (h2 : u2 ≤ 32446 + 14000 * k) (hq : Nxt (d + 20) L xs k Q) : EM 304 (d + 20) 1830 [some (.ref 300), some (.ref 1000), some (.ref 1298), some (.ref 1309), some (.int (nI (6 * k))), l5, l6, l7, l8] [] μ (u1, u2) Q := by
  obtain ⟨s0, s98, s3, x0, s9⟩ := h.bas
  simp (disch := first | omega | rfl) only [e_304_1830, e_304_1831, e_304_1832, e_304_1834, e_304_1835, e_304_1836, e_304_1837, e_304_1838, e_304_1840, e_304_1841, e_304_1842, e_304_1843, e_304_1844, e_304_1847, e_304_1849, e_304_1850, e_304_1851, e_304_1853, e_304_1854, e_304_1855, e_304_1856, e_304_1857, e_304_1859, e_304_1860, e_304_1861, e_304_1862, e_304_1865, e_304_1867, e_304_1868, e_304_1871, e_304_1873, e_304_1876, e_304_1877, e_304_1878, e_304_1880, e_304_1883, e_304_1884, e_304_1885, e_304_1886, e_304_1888, e_304_1889, e_304_1890, e_304_1893, e_304_1894, e_304_1895, ge1, ule_t, true_or, or_true, nI_add, nI_mul, nI_sub, nI_clamp, nI_lt_t, nI_lt_f, nI_le_t, nI_le_f, nI_eq_t, nI_eq_f, vp_nI, tI, fI, not_true, not_false_iff, true_and, and_true, Classical.not_not, s0, s3, x0, fixL_i, fixL_r, fixL_n, uad_p, ule_p, leT, and_self]
  refine Ev_mono _ _ _ _ _ _ (fun o μ1 hh => ?_) (p_301 h)
  obtain ⟨v, rfl, ⟨b3, b98, bx⟩, hE⟩ := hh
  have t3 : mS μ1 300 = (20, L) := b3.trans s3
  have t98 := b98.trans s98
  have tx : ∀ k, mI μ1 300 k = xs k := fun k => (bx k).trans (x0 k)
  simp (disch := first | omega | rfl) only [e_304_1830, e_304_1831, e_304_1832, e_304_1834, e_304_1835, e_304_1836, e_304_1837, e_304_1838, e_304_1840, e_304_1841, e_304_1842, e_304_1843, e_304_1844, e_304_1847, e_304_1849, e_304_1850, e_304_1851, e_304_1853, e_304_1854, e_304_1855, e_304_1856, e_304_1857, e_304_1859, e_304_1860, e_304_1861, e_304_1862, e_304_1865, e_304_1867, e_304_1868, e_304_1871, e_304_1873, e_304_1876, e_304_1877, e_304_1878, e_304_1880, e_304_1883, e_304_1884, e_304_1885, e_304_1886, e_304_1888, e_304_1889, e_304_1890, e_304_1893, e_304_1894, e_304_1895, ge1, ule_t, true_or, or_true, nI_add, nI_mul, nI_sub, nI_clamp, nI_lt_t, nI_lt_f, nI_le_t, nI_le_f, nI_eq_t, nI_eq_f, vp_nI, tI, fI, not_true, not_false_iff, true_and, and_true, Classical.not_not, kC_v, t3, t98, tx, fixL_i, fixL_r, fixL_n, uad_p, ule_p, leT, and_self]
  refine Ev_mono _ _ _ _ _ _ (fun o2 μ2 hh2 => ?_) hE
  obtain ⟨y, rfl, e0, ej, hI2⟩ := hh2
  obtain ⟨-, q98, -, -, q9⟩ := hI2.bas
  by_cases hz : v = nI 0
  · have ejj := ej hz
    subst hz
    simp (disch := first | omega | rfl) only [e_304_1830, e_304_1831, e_304_1832, e_304_1834, e_304_1835, e_304_1836, e_304_1837, e_304_1838, e_304_1840, e_304_1841, e_304_1842, e_304_1843, e_304_1844, e_304_1847, e_304_1849, e_304_1850, e_304_1851, e_304_1853, e_304_1854, e_304_1855, e_304_1856, e_304_1857, e_304_1859, e_304_1860, e_304_1861, e_304_1862, e_304_1865, e_304_1867, e_304_1868, e_304_1871, e_304_1873, e_304_1876, e_304_1877, e_304_1878, e_304_1880, e_304_1883, e_304_1884, e_304_1885, e_304_1886, e_304_1888, e_304_1889, e_304_1890, e_304_1893, e_304_1894, e_304_1895, e_304_2370, e_304_2373, ge1, ule_t, true_or, or_true, nI_add, nI_mul, nI_sub, nI_clamp, nI_lt_t, nI_lt_f, nI_le_t, nI_le_f, nI_eq_t, nI_eq_f, vp_nI, tI, fI, not_true, not_false_iff, true_and, and_true, Classical.not_not, kC_v, fixL_i, fixL_r, fixL_n, uad_p, ule_p, leT, and_self, in_161, e_161_0, e_161_1, e_161_4, q98, q9, e0, ejj, lg_self]
    exact hq _ _ _ _ _ _ _ hI2 (by omega) (by omega)
  · simp (disch := first | omega | rfl) only [e_304_1830, e_304_1831, e_304_1832, e_304_1834, e_304_1835, e_304_1836, e_304_1837, e_304_1838, e_304_1840, e_304_1841, e_304_1842, e_304_1843, e_304_1844, e_304_1847, e_304_1849, e_304_1850, e_304_1851, e_304_1853, e_304_1854, e_304_1855, e_304_1856, e_304_1857, e_304_1859, e_304_1860, e_304_1861, e_304_1862, e_304_1865, e_304_1867, e_304_1868, e_304_1871, e_304_1873, e_304_1876, e_304_1877, e_304_1878, e_304_1880, e_304_1883, e_304_1884, e_304_1885, e_304_1886, e_304_1888, e_304_1889, e_304_1890, e_304_1893, e_304_1894, e_304_1895, e_304_2370, e_304_2373, ge1, ule_t, true_or, or_true, nI_add, nI_mul, nI_sub, nI_clamp, nI_lt_t, nI_lt_f, nI_le_t, nI_le_f, nI_eq_t, nI_eq_f, vp_nI, tI, fI, not_true, not_false_iff, true_and, and_true, Classical.not_not, kC_v, fixL_i, fixL_r, fixL_n, uad_p, ule_p, leT, and_self, in_161, e_161_0, e_161_1, e_161_4, q98, q9, e0, hz]
    exact hq _ _ _ _ _ _ _ hI2 (by omega) (by omega)

theorem w_32 (h : Inv L xs μ) (hL : L ≤ 3072) (hk : 6 * k + 6 ≤ L) (h1 : u1 ≤ 310 + 1000 * k) (h2 : u2 ≤ 32446 + 14000 * k) (hq : Nxt (d + 20) L xs k Q) : EM 304 (d + 20) 1898 [some (.ref 300), some (.ref 1000), some (.ref 1298), some (.ref 1309), some (.int (nI (6 * k))), l5, l6, l7, l8] [] μ (u1, u2) Q := by
  obtain ⟨s0, s98, s3, x0, s9⟩ := h.bas
  simp (disch := first | omega | rfl) only [e_304_1898, e_304_1899, e_304_1900, e_304_1902, e_304_1903, e_304_1904, e_304_1905, e_304_1906, e_304_1908, e_304_1909, e_304_1910, e_304_1911, e_304_1912, e_304_1915, e_304_1917, e_304_1918, e_304_1919, e_304_1921, e_304_1922, e_304_1923, e_304_1924, e_304_1925, e_304_1927, e_304_1928, e_304_1929, e_304_1930, e_304_1933, e_304_1935, e_304_1936, e_304_1939, e_304_1941, e_304_1944, e_304_1945, e_304_1946, e_304_1948, e_304_1951, e_304_1952, e_304_1953, e_304_1954, e_304_1956, e_304_1957, e_304_1958, e_304_1961, e_304_1962, e_304_1963, ge1, ule_t, true_or, or_true, nI_add, nI_mul, nI_sub, nI_clamp, nI_lt_t, nI_lt_f, nI_le_t, nI_le_f, nI_eq_t, nI_eq_f, vp_nI, tI, fI, not_true, not_false_iff, true_and, and_true, Classical.not_not, s0, s3, x0, fixL_i, fixL_r, fixL_n, uad_p, ule_p, leT, and_self]
  refine Ev_mono _ _ _ _ _ _ (fun o μ1 hh => ?_) (p_302 h)
  obtain ⟨v, rfl, ⟨b3, b98, bx⟩, hE⟩ := hh
  have t3 : mS μ1 300 = (20, L) := b3.trans s3
  have t98 := b98.trans s98
  have tx : ∀ k, mI μ1 300 k = xs k := fun k => (bx k).trans (x0 k)
  simp (disch := first | omega | rfl) only [e_304_1898, e_304_1899, e_304_1900, e_304_1902, e_304_1903, e_304_1904, e_304_1905, e_304_1906, e_304_1908, e_304_1909, e_304_1910, e_304_1911, e_304_1912, e_304_1915, e_304_1917, e_304_1918, e_304_1919, e_304_1921, e_304_1922, e_304_1923, e_304_1924, e_304_1925, e_304_1927, e_304_1928, e_304_1929, e_304_1930, e_304_1933, e_304_1935, e_304_1936, e_304_1939, e_304_1941, e_304_1944, e_304_1945, e_304_1946, e_304_1948, e_304_1951, e_304_1952, e_304_1953, e_304_1954, e_304_1956, e_304_1957, e_304_1958, e_304_1961, e_304_1962, e_304_1963, ge1, ule_t, true_or, or_true, nI_add, nI_mul, nI_sub, nI_clamp, nI_lt_t, nI_lt_f, nI_le_t, nI_le_f, nI_eq_t, nI_eq_f, vp_nI, tI, fI, not_true, not_false_iff, true_and, and_true, Classical.not_not, kC_v, t3, t98, tx, fixL_i, fixL_r, fixL_n, uad_p, ule_p, leT, and_self]
  refine Ev_mono _ _ _ _ _ _ (fun o2 μ2 hh2 => ?_) hE
  obtain ⟨y, rfl, e0, ej, hI2⟩ := hh2
  obtain ⟨-, q98, -, -, q9⟩ := hI2.bas
  by_cases hz : v = nI 0
  · have ejj := ej hz
    subst hz
    simp (disch := first | omega | rfl) only [e_304_1898, e_304_1899, e_304_1900, e_304_1902, e_304_1903, e_304_1904, e_304_1905, e_304_1906, e_304_1908, e_304_1909, e_304_1910, e_304_1911, e_304_1912, e_304_1915, e_304_1917, e_304_1918, e_304_1919, e_304_1921, e_304_1922, e_304_1923, e_304_1924, e_304_1925, e_304_1927, e_304_1928, e_304_1929, e_304_1930, e_304_1933, e_304_1935, e_304_1936, e_304_1939, e_304_1941, e_304_1944, e_304_1945, e_304_1946, e_304_1948, e_304_1951, e_304_1952, e_304_1953, e_304_1954, e_304_1956, e_304_1957, e_304_1958, e_304_1961, e_304_1962, e_304_1963, e_304_2370, e_304_2373, ge1, ule_t, true_or, or_true, nI_add, nI_mul, nI_sub, nI_clamp, nI_lt_t, nI_lt_f, nI_le_t, nI_le_f, nI_eq_t, nI_eq_f, vp_nI, tI, fI, not_true, not_false_iff, true_and, and_true, Classical.not_not, kC_v, fixL_i, fixL_r, fixL_n, uad_p, ule_p, leT, and_self, in_161, e_161_0, e_161_1, e_161_4, q98, q9, e0, ejj, lg_self]
    exact hq _ _ _ _ _ _ _ hI2 (by omega) (by omega)
  · simp (disch := first | omega | rfl) only [e_304_1898, e_304_1899, e_304_1900, e_304_1902, e_304_1903, e_304_1904, e_304_1905, e_304_1906, e_304_1908, e_304_1909, e_304_1910, e_304_1911, e_304_1912, e_304_1915, e_304_1917, e_304_1918, e_304_1919, e_304_1921, e_304_1922, e_304_1923, e_304_1924, e_304_1925, e_304_1927, e_304_1928, e_304_1929, e_304_1930, e_304_1933, e_304_1935, e_304_1936, e_304_1939, e_304_1941, e_304_1944, e_304_1945, e_304_1946, e_304_1948, e_304_1951, e_304_1952, e_304_1953, e_304_1954, e_304_1956, e_304_1957, e_304_1958, e_304_1961, e_304_1962, e_304_1963, e_304_2370, e_304_2373, ge1, ule_t, true_or, or_true, nI_add, nI_mul, nI_sub, nI_clamp, nI_lt_t, nI_lt_f, nI_le_t, nI_le_f, nI_eq_t, nI_eq_f, vp_nI, tI, fI, not_true, not_false_iff, true_and, and_true, Classical.not_not, kC_v, fixL_i, fixL_r, fixL_n, uad_p, ule_p, leT, and_self, in_161, e_161_0, e_161_1, e_161_4, q98, q9, e0, hz]
    exact hq _ _ _ _ _ _ _ hI2 (by omega) (by omega)

theorem w_33 (h : Inv L xs μ) (hL : L ≤ 3072) (hk : 6 * k + 6 ≤ L) (h1 : u1 ≤ 310 + 1000 * k) (h2 : u2 ≤ 32446 + 14000 * k) (hq : Nxt (d + 20) L xs k Q) : EM 304 (d + 20) 1966 [some (.ref 300), some (.ref 1000), some (.ref 1298), some (.ref 1309), some (.int (nI (6 * k))), l5, l6, l7, l8] [] μ (u1, u2) Q := by
  obtain ⟨s0, s98, s3, x0, s9⟩ := h.bas
  simp (disch := first | omega | rfl) only [e_304_1966, e_304_1967, e_304_1968, e_304_1970, e_304_1971, e_304_1972, e_304_1973, e_304_1974, e_304_1976, e_304_1977, e_304_1978, e_304_1979, e_304_1980, e_304_1982, e_304_1983, e_304_1984, e_304_1985, e_304_1986, e_304_1988, e_304_1989, e_304_1990, e_304_1991, e_304_1994, e_304_1995, e_304_1996, e_304_1998, e_304_1999, e_304_2000, e_304_2001, e_304_2002, e_304_2004, e_304_2005, e_304_2006, e_304_2007, e_304_2008, e_304_2010, e_304_2011, e_304_2012, e_304_2013, e_304_2014, e_304_2016, e_304_2017, e_304_2018, e_304_2019, e_304_2022, e_304_2025, e_304_2026, ge1, ule_t, true_or, or_true, nI_add, nI_mul, nI_sub, nI_clamp, nI_lt_t, nI_lt_f, nI_le_t, nI_le_f, nI_eq_t, nI_eq_f, vp_nI, tI, fI, not_true, not_false_iff, true_and, and_true, Classical.not_not, s0, s3, x0, fixL_i, fixL_r, fixL_n, uad_p, ule_p, leT, and_self]
  refine Ev_mono _ _ _ _ _ _ (fun o μ1 hh => ?_) (p_140 h)
  obtain ⟨v, rfl, ⟨b3, b98, bx⟩, hE⟩ := hh
  have t3 : mS μ1 300 = (20, L) := b3.trans s3
  have t98 := b98.trans s98
  have tx : ∀ k, mI μ1 300 k = xs k := fun k => (bx k).trans (x0 k)
  simp (disch := first | omega | rfl) only [e_304_1966, e_304_1967, e_304_1968, e_304_1970, e_304_1971, e_304_1972, e_304_1973, e_304_1974, e_304_1976, e_304_1977, e_304_1978, e_304_1979, e_304_1980, e_304_1982, e_304_1983, e_304_1984, e_304_1985, e_304_1986, e_304_1988, e_304_1989, e_304_1990, e_304_1991, e_304_1994, e_304_1995, e_304_1996, e_304_1998, e_304_1999, e_304_2000, e_304_2001, e_304_2002, e_304_2004, e_304_2005, e_304_2006, e_304_2007, e_304_2008, e_304_2010, e_304_2011, e_304_2012, e_304_2013, e_304_2014, e_304_2016, e_304_2017, e_304_2018, e_304_2019, e_304_2022, e_304_2025, e_304_2026, ge1, ule_t, true_or, or_true, nI_add, nI_mul, nI_sub, nI_clamp, nI_lt_t, nI_lt_f, nI_le_t, nI_le_f, nI_eq_t, nI_eq_f, vp_nI, tI, fI, not_true, not_false_iff, true_and, and_true, Classical.not_not, kC_v, t3, t98, tx, fixL_i, fixL_r, fixL_n, uad_p, ule_p, leT, and_self]
  refine Ev_mono _ _ _ _ _ _ (fun o2 μ2 hh2 => ?_) hE
  obtain ⟨rfl, hI2⟩ := hh2
  simp (disch := first | omega | rfl) only [e_304_1966, e_304_1967, e_304_1968, e_304_1970, e_304_1971, e_304_1972, e_304_1973, e_304_1974, e_304_1976, e_304_1977, e_304_1978, e_304_1979, e_304_1980, e_304_1982, e_304_1983, e_304_1984, e_304_1985, e_304_1986, e_304_1988, e_304_1989, e_304_1990, e_304_1991, e_304_1994, e_304_1995, e_304_1996, e_304_1998, e_304_1999, e_304_2000, e_304_2001, e_304_2002, e_304_2004, e_304_2005, e_304_2006, e_304_2007, e_304_2008, e_304_2010, e_304_2011, e_304_2012, e_304_2013, e_304_2014, e_304_2016, e_304_2017, e_304_2018, e_304_2019, e_304_2022, e_304_2025, e_304_2026, e_304_2370, e_304_2373, ge1, ule_t, true_or, or_true, nI_add, nI_mul, nI_sub, nI_clamp, nI_lt_t, nI_lt_f, nI_le_t, nI_le_f, nI_eq_t, nI_eq_f, vp_nI, tI, fI, not_true, not_false_iff, true_and, and_true, Classical.not_not, kC_v, fixL_i, fixL_r, fixL_n, uad_p, ule_p, leT, and_self]
  exact hq _ _ _ _ _ _ _ hI2 (by omega) (by omega)

theorem w_34 (h : Inv L xs μ) (hL : L ≤ 3072) (hk : 6 * k + 6 ≤ L) (h1 : u1 ≤ 310 + 1000 * k) (h2 : u2 ≤ 32446 + 14000 * k) (hq : Nxt (d + 20) L xs k Q) : EM 304 (d + 20) 2027 [some (.ref 300), some (.ref 1000), some (.ref 1298), some (.ref 1309), some (.int (nI (6 * k))), l5, l6, l7, l8] [] μ (u1, u2) Q := by
  obtain ⟨s0, s98, s3, x0, s9⟩ := h.bas
  simp (disch := first | omega | rfl) only [e_304_2027, e_304_2028, e_304_2031, e_304_2032, e_304_2035, e_304_2038, e_304_2039, ge1, ule_t, true_or, or_true, nI_add, nI_mul, nI_sub, nI_clamp, nI_lt_t, nI_lt_f, nI_le_t, nI_le_f, nI_eq_t, nI_eq_f, vp_nI, tI, fI, not_true, not_false_iff, true_and, and_true, Classical.not_not, s0, s3, x0, fixL_i, fixL_r, fixL_n, uad_p, ule_p, leT, and_self]
  refine Ev_mono _ _ _ _ _ _ (fun o μ1 hh => ?_) (p_141 h)
  obtain ⟨v, rfl, ⟨b3, b98, bx⟩, hE⟩ := hh
  have t3 : mS μ1 300 = (20, L) := b3.trans s3
  have t98 := b98.trans s98
  have tx : ∀ k, mI μ1 300 k = xs k := fun k => (bx k).trans (x0 k)
  simp (disch := first | omega | rfl) only [e_304_2027, e_304_2028, e_304_2031, e_304_2032, e_304_2035, e_304_2038, e_304_2039, ge1, ule_t, true_or, or_true, nI_add, nI_mul, nI_sub, nI_clamp, nI_lt_t, nI_lt_f, nI_le_t, nI_le_f, nI_eq_t, nI_eq_f, vp_nI, tI, fI, not_true, not_false_iff, true_and, and_true, Classical.not_not, kC_v, t3, t98, tx, fixL_i, fixL_r, fixL_n, uad_p, ule_p, leT, and_self]
  refine Ev_mono _ _ _ _ _ _ (fun o2 μ2 hh2 => ?_) hE
  obtain ⟨rfl, hI2⟩ := hh2
  simp (disch := first | omega | rfl) only [e_304_2027, e_304_2028, e_304_2031, e_304_2032, e_304_2035, e_304_2038, e_304_2039, e_304_2370, e_304_2373, ge1, ule_t, true_or, or_true, nI_add, nI_mul, nI_sub, nI_clamp, nI_lt_t, nI_lt_f, nI_le_t, nI_le_f, nI_eq_t, nI_eq_f, vp_nI, tI, fI, not_true, not_false_iff, true_and, and_true, Classical.not_not, kC_v, fixL_i, fixL_r, fixL_n, uad_p, ule_p, leT, and_self]
  exact hq _ _ _ _ _ _ _ hI2 (by omega) (by omega)

theorem w_35 (h : Inv L xs μ) (hL : L ≤ 3072) (hk : 6 * k + 6 ≤ L) (h1 : u1 ≤ 310 + 1000 * k) (h2 : u2 ≤ 32446 + 14000 * k) (hq : Nxt (d + 20) L xs k Q) : EM 304 (d + 20) 2040 [some (.ref 300), some (.ref 1000), some (.ref 1298), some (.ref 1309), some (.int (nI (6 * k))), l5, l6, l7, l8] [] μ (u1, u2) Q := by
  obtain ⟨s0, s98, s3, x0, s9⟩ := h.bas
  simp (disch := first | omega | rfl) only [e_304_2040, e_304_2041, e_304_2042, e_304_2044, e_304_2045, e_304_2046, e_304_2047, e_304_2048, e_304_2050, e_304_2051, e_304_2052, e_304_2053, e_304_2056, e_304_2057, e_304_2058, e_304_2060, e_304_2061, e_304_2062, e_304_2063, e_304_2064, e_304_2066, e_304_2067, e_304_2068, e_304_2069, e_304_2072, e_304_2075, e_304_2076, ge1, ule_t, true_or, or_true, nI_add, nI_mul, nI_sub, nI_clamp, nI_lt_t, nI_lt_f, nI_le_t, nI_le_f, nI_eq_t, nI_eq_f, vp_nI, tI, fI, not_true, not_false_iff, true_and, and_true, Classical.not_not, s0, s3, x0, fixL_i, fixL_r, fixL_n, uad_p, ule_p, leT, and_self]
  refine Ev_mono _ _ _ _ _ _ (fun o μ1 hh => ?_) (p_142 h)
  obtain ⟨v, rfl, ⟨b3, b98, bx⟩, hE⟩ := hh
  have t3 : mS μ1 300 = (20, L) := b3.trans s3
  have t98 := b98.trans s98
  have tx : ∀ k, mI μ1 300 k = xs k := fun k => (bx k).trans (x0 k)
  simp (disch := first | omega | rfl) only [e_304_2040, e_304_2041, e_304_2042, e_304_2044, e_304_2045, e_304_2046, e_304_2047, e_304_2048, e_304_2050, e_304_2051, e_304_2052, e_304_2053, e_304_2056, e_304_2057, e_304_2058, e_304_2060, e_304_2061, e_304_2062, e_304_2063, e_304_2064, e_304_2066, e_304_2067, e_304_2068, e_304_2069, e_304_2072, e_304_2075, e_304_2076, ge1, ule_t, true_or, or_true, nI_add, nI_mul, nI_sub, nI_clamp, nI_lt_t, nI_lt_f, nI_le_t, nI_le_f, nI_eq_t, nI_eq_f, vp_nI, tI, fI, not_true, not_false_iff, true_and, and_true, Classical.not_not, kC_v, t3, t98, tx, fixL_i, fixL_r, fixL_n, uad_p, ule_p, leT, and_self]
  refine Ev_mono _ _ _ _ _ _ (fun o2 μ2 hh2 => ?_) hE
  obtain ⟨rfl, hI2⟩ := hh2
  simp (disch := first | omega | rfl) only [e_304_2040, e_304_2041, e_304_2042, e_304_2044, e_304_2045, e_304_2046, e_304_2047, e_304_2048, e_304_2050, e_304_2051, e_304_2052, e_304_2053, e_304_2056, e_304_2057, e_304_2058, e_304_2060, e_304_2061, e_304_2062, e_304_2063, e_304_2064, e_304_2066, e_304_2067, e_304_2068, e_304_2069, e_304_2072, e_304_2075, e_304_2076, e_304_2370, e_304_2373, ge1, ule_t, true_or, or_true, nI_add, nI_mul, nI_sub, nI_clamp, nI_lt_t, nI_lt_f, nI_le_t, nI_le_f, nI_eq_t, nI_eq_f, vp_nI, tI, fI, not_true, not_false_iff, true_and, and_true, Classical.not_not, kC_v, fixL_i, fixL_r, fixL_n, uad_p, ule_p, leT, and_self]
  exact hq _ _ _ _ _ _ _ hI2 (by omega) (by omega)

theorem w_36 (h : Inv L xs μ) (hL : L ≤ 3072) (hk : 6 * k + 6 ≤ L) (h1 : u1 ≤ 310 + 1000 * k) (h2 : u2 ≤ 32446 + 14000 * k) (hq : Nxt (d + 20) L xs k Q) : EM 304 (d + 20) 2077 [some (.ref 300), some (.ref 1000), some (.ref 1298), some (.ref 1309), some (.int (nI (6 * k))), l5, l6, l7, l8] [] μ (u1, u2) Q := by
  obtain ⟨s0, s98, s3, x0, s9⟩ := h.bas
  simp (disch := first | omega | rfl) only [e_304_2077, e_304_2078, e_304_2081, e_304_2082, e_304_2085, e_304_2088, e_304_2089, ge1, ule_t, true_or, or_true, nI_add, nI_mul, nI_sub, nI_clamp, nI_lt_t, nI_lt_f, nI_le_t, nI_le_f, nI_eq_t, nI_eq_f, vp_nI, tI, fI, not_true, not_false_iff, true_and, and_true, Classical.not_not, s0, s3, x0, fixL_i, fixL_r, fixL_n, uad_p, ule_p, leT, and_self]
  refine Ev_mono _ _ _ _ _ _ (fun o μ1 hh => ?_) (p_143 h)
  obtain ⟨v, rfl, ⟨b3, b98, bx⟩, hE⟩ := hh
  have t3 : mS μ1 300 = (20, L) := b3.trans s3
  have t98 := b98.trans s98
  have tx : ∀ k, mI μ1 300 k = xs k := fun k => (bx k).trans (x0 k)
  simp (disch := first | omega | rfl) only [e_304_2077, e_304_2078, e_304_2081, e_304_2082, e_304_2085, e_304_2088, e_304_2089, ge1, ule_t, true_or, or_true, nI_add, nI_mul, nI_sub, nI_clamp, nI_lt_t, nI_lt_f, nI_le_t, nI_le_f, nI_eq_t, nI_eq_f, vp_nI, tI, fI, not_true, not_false_iff, true_and, and_true, Classical.not_not, kC_v, t3, t98, tx, fixL_i, fixL_r, fixL_n, uad_p, ule_p, leT, and_self]
  refine Ev_mono _ _ _ _ _ _ (fun o2 μ2 hh2 => ?_) hE
  obtain ⟨rfl, hI2⟩ := hh2
  simp (disch := first | omega | rfl) only [e_304_2077, e_304_2078, e_304_2081, e_304_2082, e_304_2085, e_304_2088, e_304_2089, e_304_2370, e_304_2373, ge1, ule_t, true_or, or_true, nI_add, nI_mul, nI_sub, nI_clamp, nI_lt_t, nI_lt_f, nI_le_t, nI_le_f, nI_eq_t, nI_eq_f, vp_nI, tI, fI, not_true, not_false_iff, true_and, and_true, Classical.not_not, kC_v, fixL_i, fixL_r, fixL_n, uad_p, ule_p, leT, and_self]
  exact hq _ _ _ _ _ _ _ hI2 (by omega) (by omega)

theorem w_37 (h : Inv L xs μ) (hL : L ≤ 3072) (hk : 6 * k + 6 ≤ L) (h1 : u1 ≤ 310 + 1000 * k) (h2 : u2 ≤ 32446 + 14000 * k) (hq : Nxt (d + 20) L xs k Q) : EM 304 (d + 20) 2090 [some (.ref 300), some (.ref 1000), some (.ref 1298), some (.ref 1309), some (.int (nI (6 * k))), l5, l6, l7, l8] [] μ (u1, u2) Q := by
  obtain ⟨s0, s98, s3, x0, s9⟩ := h.bas
  simp (disch := first | omega | rfl) only [e_304_2090, e_304_2091, e_304_2092, e_304_2094, e_304_2095, e_304_2096, e_304_2097, e_304_2098, e_304_2100, e_304_2101, e_304_2102, e_304_2103, e_304_2104, e_304_2106, e_304_2107, e_304_2108, e_304_2109, e_304_2110, e_304_2112, e_304_2113, e_304_2114, e_304_2115, e_304_2118, e_304_2119, e_304_2120, e_304_2122, e_304_2123, e_304_2124, e_304_2125, e_304_2126, e_304_2128, e_304_2129, e_304_2130, e_304_2131, e_304_2132, e_304_2134, e_304_2135, e_304_2136, e_304_2137, e_304_2138, e_304_2140, e_304_2141, e_304_2142, e_304_2143, e_304_2146, e_304_2149, e_304_2150, ge1, ule_t, true_or, or_true, nI_add, nI_mul, nI_sub, nI_clamp, nI_lt_t, nI_lt_f, nI_le_t, nI_le_f, nI_eq_t, nI_eq_f, vp_nI, tI, fI, not_true, not_false_iff, true_and, and_true, Classical.not_not, s0, s3, x0, fixL_i, fixL_r, fixL_n, uad_p, ule_p, leT, and_self]
  refine Ev_mono _ _ _ _ _ _ (fun o μ1 hh => ?_) (p_145 h)
  obtain ⟨v, rfl, ⟨b3, b98, bx⟩, hE⟩ := hh
  have t3 : mS μ1 300 = (20, L) := b3.trans s3
  have t98 := b98.trans s98
  have tx : ∀ k, mI μ1 300 k = xs k := fun k => (bx k).trans (x0 k)
  simp (disch := first | omega | rfl) only [e_304_2090, e_304_2091, e_304_2092, e_304_2094, e_304_2095, e_304_2096, e_304_2097, e_304_2098, e_304_2100, e_304_2101, e_304_2102, e_304_2103, e_304_2104, e_304_2106, e_304_2107, e_304_2108, e_304_2109, e_304_2110, e_304_2112, e_304_2113, e_304_2114, e_304_2115, e_304_2118, e_304_2119, e_304_2120, e_304_2122, e_304_2123, e_304_2124, e_304_2125, e_304_2126, e_304_2128, e_304_2129, e_304_2130, e_304_2131, e_304_2132, e_304_2134, e_304_2135, e_304_2136, e_304_2137, e_304_2138, e_304_2140, e_304_2141, e_304_2142, e_304_2143, e_304_2146, e_304_2149, e_304_2150, ge1, ule_t, true_or, or_true, nI_add, nI_mul, nI_sub, nI_clamp, nI_lt_t, nI_lt_f, nI_le_t, nI_le_f, nI_eq_t, nI_eq_f, vp_nI, tI, fI, not_true, not_false_iff, true_and, and_true, Classical.not_not, kC_v, t3, t98, tx, fixL_i, fixL_r, fixL_n, uad_p, ule_p, leT, and_self]
  refine Ev_mono _ _ _ _ _ _ (fun o2 μ2 hh2 => ?_) hE
  obtain ⟨rfl, hI2⟩ := hh2
  simp (disch := first | omega | rfl) only [e_304_2090, e_304_2091, e_304_2092, e_304_2094, e_304_2095, e_304_2096, e_304_2097, e_304_2098, e_304_2100, e_304_2101, e_304_2102, e_304_2103, e_304_2104, e_304_2106, e_304_2107, e_304_2108, e_304_2109, e_304_2110, e_304_2112, e_304_2113, e_304_2114, e_304_2115, e_304_2118, e_304_2119, e_304_2120, e_304_2122, e_304_2123, e_304_2124, e_304_2125, e_304_2126, e_304_2128, e_304_2129, e_304_2130, e_304_2131, e_304_2132, e_304_2134, e_304_2135, e_304_2136, e_304_2137, e_304_2138, e_304_2140, e_304_2141, e_304_2142, e_304_2143, e_304_2146, e_304_2149, e_304_2150, e_304_2370, e_304_2373, ge1, ule_t, true_or, or_true, nI_add, nI_mul, nI_sub, nI_clamp, nI_lt_t, nI_lt_f, nI_le_t, nI_le_f, nI_eq_t, nI_eq_f, vp_nI, tI, fI, not_true, not_false_iff, true_and, and_true, Classical.not_not, kC_v, fixL_i, fixL_r, fixL_n, uad_p, ule_p, leT, and_self]
  exact hq _ _ _ _ _ _ _ hI2 (by omega) (by omega)

theorem w_38 (h : Inv L xs μ) (hL : L ≤ 3072) (hk : 6 * k + 6 ≤ L) (h1 : u1 ≤ 310 + 1000 * k) (h2 : u2 ≤ 32446 + 14000 * k) (hq : Nxt (d + 20) L xs k Q) : EM 304 (d + 20) 2151 [some (.ref 300), some (.ref 1000), some (.ref 1298), some (.ref 1309), some (.int (nI (6 * k))), l5, l6, l7, l8] [] μ (u1, u2) Q := by
  obtain ⟨s0, s98, s3, x0, s9⟩ := h.bas
  simp (disch := first | omega | rfl) only [e_304_2151, e_304_2152, e_304_2153, e_304_2155, e_304_2156, e_304_2157, e_304_2158, e_304_2161, e_304_2162, e_304_2163, e_304_2165, e_304_2166, e_304_2167, e_304_2168, e_304_2171, e_304_2174, e_304_2175, ge1, ule_t, true_or, or_true, nI_add, nI_mul, nI_sub, nI_clamp, nI_lt_t, nI_lt_f, nI_le_t, nI_le_f, nI_eq_t, nI_eq_f, vp_nI, tI, fI, not_true, not_false_iff, true_and, and_true, Classical.not_not, s0, s3, x0, fixL_i, fixL_r, fixL_n, uad_p, ule_p, leT, and_self]
  refine Ev_mono _ _ _ _ _ _ (fun o μ1 hh => ?_) (p_123 h)
  obtain ⟨v, rfl, ⟨b3, b98, bx⟩, hE⟩ := hh
  have t3 : mS μ1 300 = (20, L) := b3.trans s3
  have t98 := b98.trans s98
  have tx : ∀ k, mI μ1 300 k = xs k := fun k => (bx k).trans (x0 k)
  simp (disch := first | omega | rfl) only [e_304_2151, e_304_2152, e_304_2153, e_304_2155, e_304_2156, e_304_2157, e_304_2158, e_304_2161, e_304_2162, e_304_2163, e_304_2165, e_304_2166, e_304_2167, e_304_2168, e_304_2171, e_304_2174, e_304_2175, ge1, ule_t, true_or, or_true, nI_add, nI_mul, nI_sub, nI_clamp, nI_lt_t, nI_lt_f, nI_le_t, nI_le_f, nI_eq_t, nI_eq_f, vp_nI, tI, fI, not_true, not_false_iff, true_and, and_true, Classical.not_not, kC_v, t3, t98, tx, fixL_i, fixL_r, fixL_n, uad_p, ule_p, leT, and_self]
  refine Ev_mono _ _ _ _ _ _ (fun o2 μ2 hh2 => ?_) hE
  obtain ⟨rfl, hI2⟩ := hh2
  simp (disch := first | omega | rfl) only [e_304_2151, e_304_2152, e_304_2153, e_304_2155, e_304_2156, e_304_2157, e_304_2158, e_304_2161, e_304_2162, e_304_2163, e_304_2165, e_304_2166, e_304_2167, e_304_2168, e_304_2171, e_304_2174, e_304_2175, e_304_2370, e_304_2373, ge1, ule_t, true_or, or_true, nI_add, nI_mul, nI_sub, nI_clamp, nI_lt_t, nI_lt_f, nI_le_t, nI_le_f, nI_eq_t, nI_eq_f, vp_nI, tI, fI, not_true, not_false_iff, true_and, and_true, Classical.not_not, kC_v, fixL_i, fixL_r, fixL_n, uad_p, ule_p, leT, and_self]
  exact hq _ _ _ _ _ _ _ hI2 (by omega) (by omega)

theorem w_39 (h : Inv L xs μ) (hL : L ≤ 3072) (hk : 6 * k + 6 ≤ L) (h1 : u1 ≤ 310 + 1000 * k) (h2 : u2 ≤ 32446 + 14000 * k) (hq : Nxt (d + 20) L xs k Q) : EM 304 (d + 20) 2176 [some (.ref 300), some (.ref 1000), some (.ref 1298), some (.ref 1309), some (.int (nI (6 * k))), l5, l6, l7, l8] [] μ (u1, u2) Q := by
  obtain ⟨s0, s98, s3, x0, s9⟩ := h.bas
  simp (disch := first | omega | rfl) only [e_304_2176, e_304_2177, e_304_2180, e_304_2181, e_304_2184, e_304_2187, e_304_2188, ge1, ule_t, true_or, or_true, nI_add, nI_mul, nI_sub, nI_clamp, nI_lt_t, nI_lt_f, nI_le_t, nI_le_f, nI_eq_t, nI_eq_f, vp_nI, tI, fI, not_true, not_false_iff, true_and, and_true, Classical.not_not, s0, s3, x0, fixL_i, fixL_r, fixL_n, uad_p, ule_p, leT, and_self]
  refine Ev_mono _ _ _ _ _ _ (fun o μ1 hh => ?_) (p_124 h)
  obtain ⟨v, rfl, ⟨b3, b98, bx⟩, hE⟩ := hh
  have t3 : mS μ1 300 = (20, L) := b3.trans s3
  have t98 := b98.trans s98
  have tx : ∀ k, mI μ1 300 k = xs k := fun k => (bx k).trans (x0 k)
  simp (disch := first | omega | rfl) only [e_304_2176, e_304_2177, e_304_2180, e_304_2181, e_304_2184, e_304_2187, e_304_2188, ge1, ule_t, true_or, or_true, nI_add, nI_mul, nI_sub, nI_clamp, nI_lt_t, nI_lt_f, nI_le_t, nI_le_f, nI_eq_t, nI_eq_f, vp_nI, tI, fI, not_true, not_false_iff, true_and, and_true, Classical.not_not, kC_v, t3, t98, tx, fixL_i, fixL_r, fixL_n, uad_p, ule_p, leT, and_self]
  refine Ev_mono _ _ _ _ _ _ (fun o2 μ2 hh2 => ?_) hE
  obtain ⟨rfl, hI2⟩ := hh2
  simp (disch := first | omega | rfl) only [e_304_2176, e_304_2177, e_304_2180, e_304_2181, e_304_2184, e_304_2187, e_304_2188, e_304_2370, e_304_2373, ge1, ule_t, true_or, or_true, nI_add, nI_mul, nI_sub, nI_clamp, nI_lt_t, nI_lt_f, nI_le_t, nI_le_f, nI_eq_t, nI_eq_f, vp_nI, tI, fI, not_true, not_false_iff, true_and, and_true, Classical.not_not, kC_v, fixL_i, fixL_r, fixL_n, uad_p, ule_p, leT, and_self]
  exact hq _ _ _ _ _ _ _ hI2 (by omega) (by omega)

theorem w_40 (h : Inv L xs μ) (hL : L ≤ 3072) (hk : 6 * k + 6 ≤ L) (h1 : u1 ≤ 310 + 1000 * k) (h2 : u2 ≤ 32446 + 14000 * k) (hq : Nxt (d + 20) L xs k Q) : EM 304 (d + 20) 2189 [some (.ref 300), some (.ref 1000), some (.ref 1298), some (.ref 1309), some (.int (nI (6 * k))), l5, l6, l7, l8] [] μ (u1, u2) Q := by
  obtain ⟨s0, s98, s3, x0, s9⟩ := h.bas
  simp (disch := first | omega | rfl) only [e_304_2189, e_304_2190, e_304_2191, e_304_2193, e_304_2194, e_304_2195, e_304_2196, e_304_2199, e_304_2200, e_304_2201, e_304_2203, e_304_2204, e_304_2205, e_304_2206, e_304_2209, e_304_2212, e_304_2213, ge1, ule_t, true_or, or_true, nI_add, nI_mul, nI_sub, nI_clamp, nI_lt_t, nI_lt_f, nI_le_t, nI_le_f, nI_eq_t, nI_eq_f, vp_nI, tI, fI, not_true, not_false_iff, true_and, and_true, Classical.not_not, s0, s3, x0, fixL_i, fixL_r, fixL_n, uad_p, ule_p, leT, and_self]
  refine Ev_mono _ _ _ _ _ _ (fun o μ1 hh => ?_) (p_127 h)
  obtain ⟨v, rfl, ⟨b3, b98, bx⟩, hE⟩ := hh
  have t3 : mS μ1 300 = (20, L) := b3.trans s3
  have t98 := b98.trans s98
  have tx : ∀ k, mI μ1 300 k = xs k := fun k => (bx k).trans (x0 k)
  simp (disch := first | omega | rfl) only [e_304_2189, e_304_2190, e_304_2191, e_304_2193, e_304_2194, e_304_2195, e_304_2196, e_304_2199, e_304_2200, e_304_2201, e_304_2203, e_304_2204, e_304_2205, e_304_2206, e_304_2209, e_304_2212, e_304_2213, ge1, ule_t, true_or, or_true, nI_add, nI_mul, nI_sub, nI_clamp, nI_lt_t, nI_lt_f, nI_le_t, nI_le_f, nI_eq_t, nI_eq_f, vp_nI, tI, fI, not_true, not_false_iff, true_and, and_true, Classical.not_not, kC_v, t3, t98, tx, fixL_i, fixL_r, fixL_n, uad_p, ule_p, leT, and_self]
  refine Ev_mono _ _ _ _ _ _ (fun o2 μ2 hh2 => ?_) hE
  obtain ⟨rfl, hI2⟩ := hh2
  simp (disch := first | omega | rfl) only [e_304_2189, e_304_2190, e_304_2191, e_304_2193, e_304_2194, e_304_2195, e_304_2196, e_304_2199, e_304_2200, e_304_2201, e_304_2203, e_304_2204, e_304_2205, e_304_2206, e_304_2209, e_304_2212, e_304_2213, e_304_2370, e_304_2373, ge1, ule_t, true_or, or_true, nI_add, nI_mul, nI_sub, nI_clamp, nI_lt_t, nI_lt_f, nI_le_t, nI_le_f, nI_eq_t, nI_eq_f, vp_nI, tI, fI, not_true, not_false_iff, true_and, and_true, Classical.not_not, kC_v, fixL_i, fixL_r, fixL_n, uad_p, ule_p, leT, and_self]
  exact hq _ _ _ _ _ _ _ hI2 (by omega) (by omega)

theorem w_41 (h : Inv L xs μ) (hL : L ≤ 3072) (hk : 6 * k + 6 ≤ L) (h1 : u1 ≤ 310 + 1000 * k) (h2 : u2 ≤ 32446 + 14000 * k) (hq : Nxt (d + 20) L xs k Q) : EM 304 (d + 20) 2214 [some (.ref 300), some (.ref 1000), some (.ref 1298), some (.ref 1309), some (.int (nI (6 * k))), l5, l6, l7, l8] [] μ (u1, u2) Q := by
  obtain ⟨s0, s98, s3, x0, s9⟩ := h.bas
  simp (disch := first | omega | rfl) only [e_304_2214, e_304_2215, e_304_2216, e_304_2218, e_304_2219, e_304_2220, e_304_2221, e_304_2224, e_304_2225, e_304_2226, e_304_2228, e_304_2229, e_304_2230, e_304_2231, e_304_2234, e_304_2237, e_304_2238, ge1, ule_t, true_or, or_true, nI_add, nI_mul, nI_sub, nI_clamp, nI_lt_t, nI_lt_f, nI_le_t, nI_le_f, nI_eq_t, nI_eq_f, vp_nI, tI, fI, not_true, not_false_iff, true_and, and_true, Classical.not_not, s0, s3, x0, fixL_i, fixL_r, fixL_n, uad_p, ule_p, leT, and_self]
  refine Ev_mono _ _ _ _ _ _ (fun o μ1 hh => ?_) (p_128 h)
  obtain ⟨v, rfl, ⟨b3, b98, bx⟩, hE⟩ := hh
  have t3 : mS μ1 300 = (20, L) := b3.trans s3
  have t98 := b98.trans s98
  have tx : ∀ k, mI μ1 300 k = xs k := fun k => (bx k).trans (x0 k)
  simp (disch := first | omega | rfl) only [e_304_2214, e_304_2215, e_304_2216, e_304_2218, e_304_2219, e_304_2220, e_304_2221, e_304_2224, e_304_2225, e_304_2226, e_304_2228, e_304_2229, e_304_2230, e_304_2231, e_304_2234, e_304_2237, e_304_2238, ge1, ule_t, true_or, or_true, nI_add, nI_mul, nI_sub, nI_clamp, nI_lt_t, nI_lt_f, nI_le_t, nI_le_f, nI_eq_t, nI_eq_f, vp_nI, tI, fI, not_true, not_false_iff, true_and, and_true, Classical.not_not, kC_v, t3, t98, tx, fixL_i, fixL_r, fixL_n, uad_p, ule_p, leT, and_self]
  refine Ev_mono _ _ _ _ _ _ (fun o2 μ2 hh2 => ?_) hE
  obtain ⟨rfl, hI2⟩ := hh2
  simp (disch := first | omega | rfl) only [e_304_2214, e_304_2215, e_304_2216, e_304_2218, e_304_2219, e_304_2220, e_304_2221, e_304_2224, e_304_2225, e_304_2226, e_304_2228, e_304_2229, e_304_2230, e_304_2231, e_304_2234, e_304_2237, e_304_2238, e_304_2370, e_304_2373, ge1, ule_t, true_or, or_true, nI_add, nI_mul, nI_sub, nI_clamp, nI_lt_t, nI_lt_f, nI_le_t, nI_le_f, nI_eq_t, nI_eq_f, vp_nI, tI, fI, not_true, not_false_iff, true_and, and_true, Classical.not_not, kC_v, fixL_i, fixL_r, fixL_n, uad_p, ule_p, leT, and_self]
  exact hq _ _ _ _ _ _ _ hI2 (by omega) (by omega)

theorem w_42 (h : Inv L xs μ) (hL : L ≤ 3072) (hk : 6 * k + 6 ≤ L) (h1 : u1 ≤ 310 + 1000 * k) (h2 : u2 ≤ 32446 + 14000 * k) (hq : Nxt (d + 20) L xs k Q) : EM 304 (d + 20) 2239 [some (.ref 300), some (.ref 1000), some (.ref 1298), some (.ref 1309), some (.int (nI (6 * k))), l5, l6, l7, l8] [] μ (u1, u2) Q := by
  obtain ⟨s0, s98, s3, x0, s9⟩ := h.bas
  simp (disch := first | omega | rfl) only [e_304_2239, e_304_2240, e_304_2241, e_304_2243, e_304_2244, e_304_2245, e_304_2246, e_304_2247, e_304_2249, e_304_2250, e_304_2251, e_304_2252, e_304_2255, e_304_2256, e_304_2257, e_304_2259, e_304_2260, e_304_2261, e_304_2262, e_304_2263, e_304_2265, e_304_2266, e_304_2267, e_304_2268, e_304_2271, e_304_2274, e_304_2275, ge1, ule_t, true_or, or_true, nI_add, nI_mul, nI_sub, nI_clamp, nI_lt_t, nI_lt_f, nI_le_t, nI_le_f, nI_eq_t, nI_eq_f, vp_nI, tI, fI, not_true, not_false_iff, true_and, and_true, Classical.not_not, s0, s3, x0, fixL_i, fixL_r, fixL_n, uad_p, ule_p, leT, and_self]
  refine Ev_mono _ _ _ _ _ _ (fun o μ1 hh => ?_) (p_146 h)
  obtain ⟨v, rfl, ⟨b3, b98, bx⟩, hE⟩ := hh
  have t3 : mS μ1 300 = (20, L) := b3.trans s3
  have t98 := b98.trans s98
  have tx : ∀ k, mI μ1 300 k = xs k := fun k => (bx k).trans (x0 k)
  simp (disch := first | omega | rfl) only [e_304_2239, e_304_2240, e_304_2241, e_304_2243, e_304_2244, e_304_2245, e_304_2246, e_304_2247, e_304_2249, e_304_2250, e_304_2251, e_304_2252, e_304_2255, e_304_2256, e_304_2257, e_304_2259, e_304_2260, e_304_2261, e_304_2262, e_304_2263, e_304_2265, e_304_2266, e_304_2267, e_304_2268, e_304_2271, e_304_2274, e_304_2275, ge1, ule_t, true_or, or_true, nI_add, nI_mul, nI_sub, nI_clamp, nI_lt_t, nI_lt_f, nI_le_t, nI_le_f, nI_eq_t, nI_eq_f, vp_nI, tI, fI, not_true, not_false_iff, true_and, and_true, Classical.not_not, kC_v, t3, t98, tx, fixL_i, fixL_r, fixL_n, uad_p, ule_p, leT, and_self]
  refine Ev_mono _ _ _ _ _ _ (fun o2 μ2 hh2 => ?_) hE
  obtain ⟨rfl, hI2⟩ := hh2
  simp (disch := first | omega | rfl) only [e_304_2239, e_304_2240, e_304_2241, e_304_2243, e_304_2244, e_304_2245, e_304_2246, e_304_2247, e_304_2249, e_304_2250, e_304_2251, e_304_2252, e_304_2255, e_304_2256, e_304_2257, e_304_2259, e_304_2260, e_304_2261, e_304_2262, e_304_2263, e_304_2265, e_304_2266, e_304_2267, e_304_2268, e_304_2271, e_304_2274, e_304_2275, e_304_2370, e_304_2373, ge1, ule_t, true_or, or_true, nI_add, nI_mul, nI_sub, nI_clamp, nI_lt_t, nI_lt_f, nI_le_t, nI_le_f, nI_eq_t, nI_eq_f, vp_nI, tI, fI, not_true, not_false_iff, true_and, and_true, Classical.not_not, kC_v, fixL_i, fixL_r, fixL_n, uad_p, ule_p, leT, and_self]
  exact hq _ _ _ _ _ _ _ hI2 (by omega) (by omega)

theorem w_43 (h : Inv L xs μ) (hL : L ≤ 3072) (hk : 6 * k + 6 ≤ L) (h1 : u1 ≤ 310 + 1000 * k) (h2 : u2 ≤ 32446 + 14000 * k) (hq : Nxt (d + 20) L xs k Q) : EM 304 (d + 20) 2276 [some (.ref 300), some (.ref 1000), some (.ref 1298), some (.ref 1309), some (.int (nI (6 * k))), l5, l6, l7, l8] [] μ (u1, u2) Q := by
  obtain ⟨s0, s98, s3, x0, s9⟩ := h.bas
  simp (disch := first | omega | rfl) only [e_304_2276, e_304_2277, e_304_2280, e_304_2281, e_304_2284, e_304_2287, e_304_2288, ge1, ule_t, true_or, or_true, nI_add, nI_mul, nI_sub, nI_clamp, nI_lt_t, nI_lt_f, nI_le_t, nI_le_f, nI_eq_t, nI_eq_f, vp_nI, tI, fI, not_true, not_false_iff, true_and, and_true, Classical.not_not, s0, s3, x0, fixL_i, fixL_r, fixL_n, uad_p, ule_p, leT, and_self]
  refine Ev_mono _ _ _ _ _ _ (fun o μ1 hh => ?_) (p_147 h)
  obtain ⟨v, rfl, ⟨b3, b98, bx⟩, hE⟩ := hh
  have t3 : mS μ1 300 = (20, L) := b3.trans s3
  have t98 := b98.trans s98
  have tx : ∀ k, mI μ1 300 k = xs k := fun k => (bx k).trans (x0 k)
  simp (disch := first | omega | rfl) only [e_304_2276, e_304_2277, e_304_2280, e_304_2281, e_304_2284, e_304_2287, e_304_2288, ge1, ule_t, true_or, or_true, nI_add, nI_mul, nI_sub, nI_clamp, nI_lt_t, nI_lt_f, nI_le_t, nI_le_f, nI_eq_t, nI_eq_f, vp_nI, tI, fI, not_true, not_false_iff, true_and, and_true, Classical.not_not, kC_v, t3, t98, tx, fixL_i, fixL_r, fixL_n, uad_p, ule_p, leT, and_self]
  refine Ev_mono _ _ _ _ _ _ (fun o2 μ2 hh2 => ?_) hE
  obtain ⟨rfl, hI2⟩ := hh2
  simp (disch := first | omega | rfl) only [e_304_2276, e_304_2277, e_304_2280, e_304_2281, e_304_2284, e_304_2287, e_304_2288, e_304_2370, e_304_2373, ge1, ule_t, true_or, or_true, nI_add, nI_mul, nI_sub, nI_clamp, nI_lt_t, nI_lt_f, nI_le_t, nI_le_f, nI_eq_t, nI_eq_f, vp_nI, tI, fI, not_true, not_false_iff, true_and, and_true, Classical.not_not, kC_v, fixL_i, fixL_r, fixL_n, uad_p, ule_p, leT, and_self]
  exact hq _ _ _ _ _ _ _ hI2 (by omega) (by omega)

theorem w_44 (h : Inv L xs μ) (hL : L ≤ 3072) (hk : 6 * k + 6 ≤ L) (h1 : u1 ≤ 310 + 1000 * k) (h2 : u2 ≤ 32446 + 14000 * k) (hq : Nxt (d + 20) L xs k Q) : EM 304 (d + 20) 2289 [some (.ref 300), some (.ref 1000), some (.ref 1298), some (.ref 1309), some (.int (nI (6 * k))), l5, l6, l7, l8] [] μ (u1, u2) Q := by
  obtain ⟨s0, s98, s3, x0, s9⟩ := h.bas
  simp (disch := first | omega | rfl) only [e_304_2289, e_304_2290, e_304_2291, e_304_2293, e_304_2294, e_304_2295, e_304_2296, e_304_2297, e_304_2300, e_304_2302, e_304_2303, e_304_2304, e_304_2306, e_304_2307, e_304_2308, e_304_2309, e_304_2312, e_304_2314, e_304_2315, e_304_2318, e_304_2320, e_304_2323, e_304_2324, e_304_2325, e_304_2327, e_304_2330, e_304_2331, e_304_2332, e_304_2333, e_304_2335, e_304_2336, e_304_2337, e_304_2340, e_304_2341, e_304_2342, ge1, ule_t, true_or, or_true, nI_add, nI_mul, nI_sub, nI_clamp, nI_lt_t, nI_lt_f, nI_le_t, nI_le_f, nI_eq_t, nI_eq_f, vp_nI, tI, fI, not_true, not_false_iff, true_and, and_true, Classical.not_not, s0, s3, x0, fixL_i, fixL_r, fixL_n, uad_p, ule_p, leT, and_self]
  refine Ev_mono _ _ _ _ _ _ (fun o μ1 hh => ?_) (p_303 h)
  obtain ⟨v, rfl, ⟨b3, b98, bx⟩, hE⟩ := hh
  have t3 : mS μ1 300 = (20, L) := b3.trans s3
  have t98 := b98.trans s98
  have tx : ∀ k, mI μ1 300 k = xs k := fun k => (bx k).trans (x0 k)
  simp (disch := first | omega | rfl) only [e_304_2289, e_304_2290, e_304_2291, e_304_2293, e_304_2294, e_304_2295, e_304_2296, e_304_2297, e_304_2300, e_304_2302, e_304_2303, e_304_2304, e_304_2306, e_304_2307, e_304_2308, e_304_2309, e_304_2312, e_304_2314, e_304_2315, e_304_2318, e_304_2320, e_304_2323, e_304_2324, e_304_2325, e_304_2327, e_304_2330, e_304_2331, e_304_2332, e_304_2333, e_304_2335, e_304_2336, e_304_2337, e_304_2340, e_304_2341, e_304_2342, ge1, ule_t, true_or, or_true, nI_add, nI_mul, nI_sub, nI_clamp, nI_lt_t, nI_lt_f, nI_le_t, nI_le_f, nI_eq_t, nI_eq_f, vp_nI, tI, fI, not_true, not_false_iff, true_and, and_true, Classical.not_not, kC_v, t3, t98, tx, fixL_i, fixL_r, fixL_n, uad_p, ule_p, leT, and_self]
  refine Ev_mono _ _ _ _ _ _ (fun o2 μ2 hh2 => ?_) hE
  obtain ⟨y, rfl, e0, ej, hI2⟩ := hh2
  obtain ⟨-, q98, -, -, q9⟩ := hI2.bas
  by_cases hz : v = nI 0
  · have ejj := ej hz
    subst hz
    simp (disch := first | omega | rfl) only [e_304_2289, e_304_2290, e_304_2291, e_304_2293, e_304_2294, e_304_2295, e_304_2296, e_304_2297, e_304_2300, e_304_2302, e_304_2303, e_304_2304, e_304_2306, e_304_2307, e_304_2308, e_304_2309, e_304_2312, e_304_2314, e_304_2315, e_304_2318, e_304_2320, e_304_2323, e_304_2324, e_304_2325, e_304_2327, e_304_2330, e_304_2331, e_304_2332, e_304_2333, e_304_2335, e_304_2336, e_304_2337, e_304_2340, e_304_2341, e_304_2342, e_304_2370, e_304_2373, ge1, ule_t, true_or, or_true, nI_add, nI_mul, nI_sub, nI_clamp, nI_lt_t, nI_lt_f, nI_le_t, nI_le_f, nI_eq_t, nI_eq_f, vp_nI, tI, fI, not_true, not_false_iff, true_and, and_true, Classical.not_not, kC_v, fixL_i, fixL_r, fixL_n, uad_p, ule_p, leT, and_self, in_161, e_161_0, e_161_1, e_161_4, q98, q9, e0, ejj, lg_self]
    exact hq _ _ _ _ _ _ _ hI2 (by omega) (by omega)
  · simp (disch := first | omega | rfl) only [e_304_2289, e_304_2290, e_304_2291, e_304_2293, e_304_2294, e_304_2295, e_304_2296, e_304_2297, e_304_2300, e_304_2302, e_304_2303, e_304_2304, e_304_2306, e_304_2307, e_304_2308, e_304_2309, e_304_2312, e_304_2314, e_304_2315, e_304_2318, e_304_2320, e_304_2323, e_304_2324, e_304_2325, e_304_2327, e_304_2330, e_304_2331, e_304_2332, e_304_2333, e_304_2335, e_304_2336, e_304_2337, e_304_2340, e_304_2341, e_304_2342, e_304_2370, e_304_2373, ge1, ule_t, true_or, or_true, nI_add, nI_mul, nI_sub, nI_clamp, nI_lt_t, nI_lt_f, nI_le_t, nI_le_f, nI_eq_t, nI_eq_f, vp_nI, tI, fI, not_true, not_false_iff, true_and, and_true, Classical.not_not, kC_v, fixL_i, fixL_r, fixL_n, uad_p, ule_p, leT, and_self, in_161, e_161_0, e_161_1, e_161_4, q98, q9, e0, hz]
    exact hq _ _ _ _ _ _ _ hI2 (by omega) (by omega)

theorem w_45 (h : Inv L xs μ) (hL : L ≤ 3072) (hk : 6 * k + 6 ≤ L) (h1 : u1 ≤ 310 + 1000 * k) (h2 : u2 ≤ 32446 + 14000 * k) (hq : Nxt (d + 20) L xs k Q) : EM 304 (d + 20) 2345 [some (.ref 300), some (.ref 1000), some (.ref 1298), some (.ref 1309), some (.int (nI (6 * k))), l5, l6, l7, l8] [] μ (u1, u2) Q := by
  obtain ⟨s0, s98, s3, x0, s9⟩ := h.bas
  simp (disch := first | omega | rfl) only [e_304_2345, e_304_2346, e_304_2347, e_304_2349, e_304_2350, e_304_2351, e_304_2352, e_304_2355, e_304_2356, e_304_2357, e_304_2359, e_304_2360, e_304_2361, e_304_2362, e_304_2365, e_304_2368, e_304_2369, ge1, ule_t, true_or, or_true, nI_add, nI_mul, nI_sub, nI_clamp, nI_lt_t, nI_lt_f, nI_le_t, nI_le_f, nI_eq_t, nI_eq_f, vp_nI, tI, fI, not_true, not_false_iff, true_and, and_true, Classical.not_not, s0, s3, x0, fixL_i, fixL_r, fixL_n, uad_p, ule_p, leT, and_self]
  refine Ev_mono _ _ _ _ _ _ (fun o μ1 hh => ?_) (p_97 h)
  obtain ⟨v, rfl, ⟨b3, b98, bx⟩, hE⟩ := hh
  have t3 : mS μ1 300 = (20, L) := b3.trans s3
  have t98 := b98.trans s98
  have tx : ∀ k, mI μ1 300 k = xs k := fun k => (bx k).trans (x0 k)
  simp (disch := first | omega | rfl) only [e_304_2345, e_304_2346, e_304_2347, e_304_2349, e_304_2350, e_304_2351, e_304_2352, e_304_2355, e_304_2356, e_304_2357, e_304_2359, e_304_2360, e_304_2361, e_304_2362, e_304_2365, e_304_2368, e_304_2369, ge1, ule_t, true_or, or_true, nI_add, nI_mul, nI_sub, nI_clamp, nI_lt_t, nI_lt_f, nI_le_t, nI_le_f, nI_eq_t, nI_eq_f, vp_nI, tI, fI, not_true, not_false_iff, true_and, and_true, Classical.not_not, kC_v, t3, t98, tx, fixL_i, fixL_r, fixL_n, uad_p, ule_p, leT, and_self]
  refine Ev_mono _ _ _ _ _ _ (fun o2 μ2 hh2 => ?_) hE
  obtain ⟨rfl, hI2⟩ := hh2
  simp (disch := first | omega | rfl) only [e_304_2345, e_304_2346, e_304_2347, e_304_2349, e_304_2350, e_304_2351, e_304_2352, e_304_2355, e_304_2356, e_304_2357, e_304_2359, e_304_2360, e_304_2361, e_304_2362, e_304_2365, e_304_2368, e_304_2369, e_304_2370, e_304_2373, ge1, ule_t, true_or, or_true, nI_add, nI_mul, nI_sub, nI_clamp, nI_lt_t, nI_lt_f, nI_le_t, nI_le_f, nI_eq_t, nI_eq_f, vp_nI, tI, fI, not_true, not_false_iff, true_and, and_true, Classical.not_not, kC_v, fixL_i, fixL_r, fixL_n, uad_p, ule_p, leT, and_self]
  exact hq _ _ _ _ _ _ _ hI2 (by omega) (by omega)

end Loop

