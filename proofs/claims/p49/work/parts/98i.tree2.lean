/-! the law on trees -/
/-- what a reader of the law leaves -/
def FrL (μ μ' : Mu) : Prop := mX μ ≤ mX μ' ∧ (∀ a, a < mX μ → mS μ' a = mS μ a ∧ ∀ k, mR μ' a k = mR μ a k) ∧ ∀ a, a < mX μ → ¬ RT a → ∀ k, mI μ' a k = mI μ a k
section LTree2
variable {d L : Nat} {xs : Nat → Int32} {μ μ0 μ1 μ2 μ' : Mu} {Q : Po} {x y g w o : Int32} {r r' tn F G : Nat → Int32} {u a b m i t σ s c k z n : Nat} {pr : Nat → Nat → Int32} {l0 l1 l2 l3 l4 l5 l6 l7 : Option Value}
theorem FrL.refl : FrL μ μ := ⟨Nat.le_refl _, fun _ _ => ⟨rfl, fun _ => rfl⟩, fun _ _ _ _ => rfl⟩
theorem FrL.trans (h : FrL μ μ1) (h' : FrL μ1 μ2) : FrL μ μ2 := by
  have := h.1
  exact ⟨Nat.le_trans h.1 h'.1, fun a ha => ⟨(h'.2.1 a (by omega)).1.trans (h.2.1 a ha).1, fun k => ((h'.2.1 a (by omega)).2 k).trans ((h.2.1 a ha).2 k)⟩, fun a h1 h2 k => (h'.2.2 a (by omega) h2 k).trans (h.2.2 a h1 h2 k)⟩
theorem FrL.rt (h : Fr RT μ μ') : FrL μ μ' := ⟨by rw [h.nx]; exact Nat.le_refl _, fun a _ => ⟨congrFun h.sh a, fun k => by rw [h.rf]⟩, fun a _ h2 k => h.2.2.2 a h2 k⟩
theorem FrL.rz (h : FrL μ μ1) (h' : Fr (RZ z) μ1 μ2) (hz : mX μ ≤ z) : FrL μ μ2 := by
  refine ⟨by rw [h'.nx]; exact h.1, fun a ha => ⟨(congrFun h'.sh a).trans (h.2.1 a ha).1, fun k => by rw [h'.rf]; exact (h.2.1 a ha).2 k⟩, fun a h1 h2 k => ?_⟩
  rw [h'.2.2.2 a (by unfold RZ; rintro (h3 | h3); exact h2 h3; omega) k]
  exact h.2.2 a h1 h2 k
theorem FrL.uN (h : FrL μ μ1) : FrL μ (uN μ1 k n) := by
  have := h.1
  refine ⟨by show mX μ ≤ mX μ1 + 1; omega, fun a ha => ⟨(mS_uN (by omega)).trans (h.2.1 a ha).1, fun k => (mR_uN (by omega)).trans ((h.2.1 a ha).2 k)⟩, fun a h1 h2 k => (mI_uN (by omega)).trans (h.2.2 a h1 h2 k)⟩
theorem CI.pw (hI : CI μ s c r u pr tn) (hA : AI r u pr tn) (e : ShE 1298 μ μ') (ei : ∀ a, a < 1062 ∨ 1068 ≤ a → a < 1298 → ∀ k, mI μ' a k = mI μ a k) : CI μ' s c r u pr tn := by
  have h1 : CI (mxH μ μ') s c r u pr tn := by
    obtain ⟨hW, hRS, hN, hC, hE, hG⟩ := hI
    exact ⟨hW.sm (fun a h1 h2 => e.sam h2), fun i hi => (hRS i hi).sm (fun a h1 h2 => e.sam (by omega)), hN, hC, hE, hG⟩
  exact CI.gen (μ := mxH μ μ') rfl rfl ei h1 hA.1.2.1 hA.2.2.1 (fun j hj => (hA.2.2.2.1 j hj).1.2.1)
theorem PIr.frl (h : PIr L xs μ r u pr tn) (hf : FrL μ μ') : PIr L xs μ' r u pr tn := by
  obtain ⟨h1, h2, h3, h4, h5, h6, h7⟩ := h
  have h8 := hf.1
  refine ⟨h1.pw h2 (fun a ha => hf.2.1 a (by omega)) (fun a h8 h9 k => hf.2.2 a (by omega) (by unfold RT; omega) k), h2, h3, h4, h5, h6.fr (lo := 1000) ⟨h8, fun a ha => ⟨(hf.2.1 a (by omega)).1, fun k => hf.2.2 a (by omega) (by unfold RT; omega) k, (hf.2.1 a (by omega)).2⟩⟩ (Nat.le_refl _), by omega⟩
theorem l_191e (hI : CI μ s c r u pr tn) (hA : AI r u pr tn) (ha : a < nM r) (hb : b < nM r) (hq : ∀ μ', Fr RT μ μ' → Q (some (some (.int (nI 1)))) μ') : EM 191 (d + 8) 252 [some (.ref 1000), some (.int (nI a)), some (.int (nI b)), some (.int (nI (fWr (rW r) a b))), some (.int (nI (fCp (rW r) a b))), l5, some (.int (oN (fFst (fWr (rW r) a b) 16 0))), l7] [] μ (uad (0, 0) (1, 32)) Q := by
  obtain ⟨-, e2, -, e4⟩ := okBE hA.1.2.2.2.2.2.2.2.2.2.2.2.2.2.2.1 ha
  obtain ⟨-, f2, -, f4⟩ := okBE hA.1.2.2.2.2.2.2.2.2.2.2.2.2.2.2.1 hb
  have sh := hI.1.1
  simp (disch := first | omega | rfl) only [e_191_252, e_191_253, e_191_254, e_191_255, e_191_258, e_191_259, e_191_262, e_191_263, e_191_264, e_191_265, e_191_268, e_191_270, e_191_273, e_191_274, e_191_275, e_191_276, e_191_279, e_191_280, e_191_281, e_191_284, e_191_285, e_191_286, e_191_289, e_191_292, e_191_294, e_191_297, e_191_299, e_191_302, e_191_303, e_191_304, e_191_305, e_191_308, e_191_310, e_191_313, e_191_314, e_191_315, e_191_317, e_191_320, e_191_322, e_191_325, e_191_326, e_191_327, e_191_328, e_191_329, e_191_332, e_191_335, e_191_336, e_191_337, e_191_338, e_191_341, e_191_344, e_191_345, e_191_346, e_191_347, e_191_348, e_191_351, e_191_352, e_191_353, e_191_356, e_191_357, e_191_360, e_191_361, e_191_364, e_191_365, mS_uI, mS_uA, mS_uJ, mS_uR, mS_uX, mR_uI, mR_uA, mR_uJ, mR_uX, mX_uI, mX_uA, mX_uJ, mX_uR, mI_s, mI_n, mI_A, mI_An, mI_uJ, mI_uR, mI_uX, mJ_uI, mJ_uA, mJ_uR, mJ_uX, onR_s, kC_v, kC_n, kC_t, sh, ku191e, true_and]
  refine w_115 hI hA ha hb (fun μ1 h1 => ?_)
  have hI1 := hI.rt hA h1
  have sh1 := hI1.1.1
  simp (disch := first | omega | rfl) only [e_191_258, e_191_259, e_191_262, e_191_263, e_191_264, e_191_265, e_191_268, e_191_270, e_191_273, e_191_274, e_191_275, e_191_276, e_191_279, e_191_280, e_191_281, e_191_284, e_191_285, e_191_286, e_191_289, e_191_292, e_191_294, e_191_297, e_191_299, e_191_302, e_191_303, e_191_304, e_191_305, e_191_308, e_191_310, e_191_313, e_191_314, e_191_315, e_191_317, e_191_320, e_191_322, e_191_325, e_191_326, e_191_327, e_191_328, e_191_329, e_191_332, e_191_335, e_191_336, e_191_337, e_191_338, e_191_341, e_191_344, e_191_345, e_191_346, e_191_347, e_191_348, e_191_351, e_191_352, e_191_353, e_191_356, e_191_357, e_191_360, e_191_361, e_191_364, e_191_365, mS_uI, mS_uA, mS_uJ, mS_uR, mS_uX, mR_uI, mR_uA, mR_uJ, mR_uX, mX_uI, mX_uA, mX_uJ, mX_uR, mI_s, mI_n, mI_A, mI_An, mI_uJ, mI_uR, mI_uX, mJ_uI, mJ_uA, mJ_uR, mJ_uX, onR_s, kC_v, kC_n, kC_t, sh1, ku191c, ku191e, cgE h1.nx, not_true, forall_const, false_implies, true_and, and_true]
  refine w_116 hI1 hA ha hb (fun μ2 h2 => ?_)
  have hI2 := hI1.rt hA h2
  have sh2 := hI2.1.1
  simp (disch := first | omega | rfl) only [e_191_268, e_191_270, e_191_273, e_191_274, e_191_275, e_191_276, e_191_279, e_191_280, e_191_281, e_191_284, e_191_285, e_191_286, e_191_289, e_191_292, e_191_294, e_191_297, e_191_299, e_191_302, e_191_303, e_191_304, e_191_305, e_191_308, e_191_310, e_191_313, e_191_314, e_191_315, e_191_317, e_191_320, e_191_322, e_191_325, e_191_326, e_191_327, e_191_328, e_191_329, e_191_332, e_191_335, e_191_336, e_191_337, e_191_338, e_191_341, e_191_344, e_191_345, e_191_346, e_191_347, e_191_348, e_191_351, e_191_352, e_191_353, e_191_356, e_191_357, e_191_360, e_191_361, e_191_364, e_191_365, mS_uI, mS_uA, mS_uJ, mS_uR, mS_uX, mR_uI, mR_uA, mR_uJ, mR_uX, mX_uI, mX_uA, mX_uJ, mX_uR, mI_s, mI_n, mI_A, mI_An, mI_uJ, mI_uR, mI_uX, mJ_uI, mJ_uA, mJ_uR, mJ_uX, onR_s, kC_v, kC_n, kC_t, sh2, ku191c, ku191e, cgE h2.nx, not_true, forall_const, false_implies, true_and, and_true]
  refine w_114 hI2 hA ha hb (fun μ3 h3 => ?_)
  have hI3 := hI2.rt hA h3
  have sh3 := hI3.1.1
  have hf3 := (h1.trans h2).trans h3
  have g1 := fun (d : Nat) (Q : Po) => w_187 (d := d) (Q := Q) hI3 hA ha
  have g2 := fun (d : Nat) (Q : Po) => w_187 (d := d) (Q := Q) hI3 hA hb
  have g3 := fun (d : Nat) (Q : Po) => c_107f (d := d) (Q := Q) (x := nI 0) hI3.1 hI3.2.2.1.1 hA.1 ha (by decide)
  have g4 := fun (d : Nat) (Q : Po) => c_107f (d := d) (Q := Q) (x := nI 32) hI3.1 hI3.2.2.1.1 hA.1 ha (by decide)
  have g5 := fun (d : Nat) (Q : Po) => w_108 (d := d) (Q := Q) (t := nE (rW r) a) hI3 hA ha (by omega)
  obtain ⟨-, -, q3, -⟩ := okBE hA.1.2.2.2.2.2.2.2.2.2.2.2.2.2.2.1 ha
  have r5 : recA (rW r) a (nE (rW r) a) = fCk (rW r) a 1 := (if_pos ⟨q3, Nat.le_refl _⟩).trans (hA.2.1.2 a ha)
  rw [r5] at g5
  have fin : EM 191 (d + 8) 302 [some (.ref 1000), some (.int (nI a)), some (.int (nI b)), some (.int (nI (fWr (rW r) a b))), some (.int (nI (fCp (rW r) a b))), l5, some (.int (oN (fFst (fWr (rW r) a b) 16 0))), l7] [] μ3 (uad (0, 0) (1, 32)) Q := by
    simp (disch := first | omega | rfl) only [e_191_302, e_191_303, e_191_304, e_191_305, e_191_308, e_191_310, e_191_313, e_191_314, e_191_315, e_191_317, e_191_320, e_191_322, e_191_325, e_191_326, e_191_327, e_191_328, e_191_329, e_191_332, e_191_335, e_191_336, e_191_337, e_191_338, e_191_341, e_191_344, e_191_345, e_191_346, e_191_347, e_191_348, e_191_351, e_191_352, e_191_353, e_191_356, e_191_357, e_191_360, e_191_361, e_191_364, e_191_365, mS_uI, mS_uA, mS_uJ, mS_uR, mS_uX, mR_uI, mR_uA, mR_uJ, mR_uX, mX_uI, mX_uA, mX_uJ, mX_uR, mI_s, mI_n, mI_A, mI_An, mI_uJ, mI_uR, mI_uX, mJ_uI, mJ_uA, mJ_uR, mJ_uX, onR_s, kC_v, kC_n, kC_t, sh3, ku191c, ku191d, ku191e, g1, g3, g4, g5, cgS, not_true, forall_const, false_implies, true_and, and_true]
    refine w_107 hI3 hA ha (by omega) (by omega) (fun μ4 h4 => ?_)
    have hI4 := hI3.rt hA h4
    have sh4 := hI4.1.1
    have g6 := fun (d : Nat) (Q : Po) => w_187 (d := d) (Q := Q) hI4 hA ha
    have g7 := fun (d : Nat) (Q : Po) => w_108 (d := d) (Q := Q) (t := nE (rW r) a + 1) hI4 hA ha (by omega)
    rw [recA_n (by omega)] at g7
    simp (disch := first | omega | rfl) only [e_191_341, e_191_344, e_191_345, e_191_346, e_191_347, e_191_348, e_191_351, e_191_352, e_191_353, e_191_356, e_191_357, e_191_360, e_191_361, e_191_364, e_191_365, mS_uI, mS_uA, mS_uJ, mS_uR, mS_uX, mR_uI, mR_uA, mR_uJ, mR_uX, mX_uI, mX_uA, mX_uJ, mX_uR, mI_s, mI_n, mI_A, mI_An, mI_uJ, mI_uR, mI_uX, mJ_uI, mJ_uA, mJ_uR, mJ_uX, onR_s, kC_v, kC_n, kC_t, nI_add, or_true, sh4, ku191c, ku191d, ku191e, g6, g7, cgE h4.nx, cgS, not_true, forall_const, false_implies, true_and, and_true]
    exact hq μ4 (hf3.trans h4)
  by_cases h : nE (rW r) a = nE (rW r) b
  · rw [if_pos h]
    rw [h] at g1
    simp (disch := first | omega | rfl) only [e_191_279, e_191_280, e_191_281, e_191_284, e_191_285, e_191_286, e_191_289, e_191_292, e_191_294, e_191_297, e_191_299, mS_uI, mS_uA, mS_uJ, mS_uR, mS_uX, mR_uI, mR_uA, mR_uJ, mR_uX, mX_uI, mX_uA, mX_uJ, mX_uR, mI_s, mI_n, mI_A, mI_An, mI_uJ, mI_uR, mI_uX, mJ_uI, mJ_uA, mJ_uR, mJ_uX, onR_s, kC_v, kC_n, kC_t, sh3, ku191c, ku191d, ku191e, g1, g2, cgE h3.nx, cgS, not_true, forall_const, false_implies, true_and, and_true]
    exact fin
  · rw [if_neg h]
    have hne : ¬ nI (nE (rW r) a) = nI (nE (rW r) b) := fun e => h ((nI_eq (by omega) (by omega)).mp e)
    simp (disch := first | omega | rfl) only [e_191_279, e_191_280, e_191_281, e_191_284, e_191_285, e_191_286, e_191_289, e_191_292, e_191_294, e_191_297, e_191_299, mS_uI, mS_uA, mS_uJ, mS_uR, mS_uX, mR_uI, mR_uA, mR_uJ, mR_uX, mX_uI, mX_uA, mX_uJ, mX_uR, mI_s, mI_n, mI_A, mI_An, mI_uJ, mI_uR, mI_uX, mJ_uI, mJ_uA, mJ_uR, mJ_uX, onR_s, kC_v, kC_n, kC_t, sh3, ku191c, ku191d, ku191e, g1, g2, cgE h3.nx, cgS, hne, not_true, not_false_iff, forall_const, false_implies, true_and, and_true]
    exact fin
theorem w_191 (h : PIr L xs μ r u pr tn) (ha : a < nM r) (hb : b < nM r) (hq : ∀ μ', FrL μ μ' → Q (some (some (.int (nI 1)))) μ') : Ev (d + 9) 191 [.ref 1000, .int (nI a), .int (nI b)] μ Q := by
  have hPI := h
  obtain ⟨hI, hA, h3, h4, h5, h6, hX⟩ := h
  rw [in_191]
  simp (disch := first | omega | rfl) only [e_191_0, e_191_1, mS_uI, mS_uA, mS_uJ, mS_uR, mS_uX, mR_uI, mR_uA, mR_uJ, mR_uX, mX_uI, mX_uA, mX_uJ, mX_uR, mI_s, mI_n, mI_A, mI_An, mI_uJ, mI_uR, mI_uX, mJ_uI, mJ_uA, mJ_uR, mJ_uX, onR_s, kC_v, kC_n, kC_t]
  refine l_191a (μ0 := μ) hA ha hX 16 0 μ (by omega) hI Fr.refl (fun μ1 f1 => ?_)
  have hI1 := hI.rt hA f1
  simp (disch := first | omega | rfl) only [e_191_45, e_191_46, mS_uI, mS_uA, mS_uJ, mS_uR, mS_uX, mR_uI, mR_uA, mR_uJ, mR_uX, mX_uI, mX_uA, mX_uJ, mX_uR, mI_s, mI_n, mI_A, mI_An, mI_uJ, mI_uR, mI_uX, mJ_uI, mJ_uA, mJ_uR, mJ_uX, onR_s, kC_v, kC_n, kC_t]
  have x1 := f1.nx
  refine l_191b (μ0 := μ1) hA ha (by omega) 15 1 μ1 (by omega) (by omega) hI1 Fr.refl (fun μ2 f2 => ?_)
  have x2 := f2.nx
  have fl2 : FrL μ μ2 := (FrL.rt f1).trans (FrL.rt f2)
  have h1000 : (1000 ≤ mX μ2) = True := eq_true (by omega)
  have hzs : mS (uN μ2 25 32) (mX μ2) = (25, 32) := mS_uNs
  have kx : (32 ≤ 60000000) = True := eq_true (by omega)
  simp (disch := first | omega | rfl) only [e_191_112, e_191_113, e_191_114, e_191_115, e_191_117, e_191_119, e_191_121, e_191_123, e_191_125, e_191_126, e_191_127, e_191_128, e_191_129, mS_uI, mS_uA, mS_uJ, mS_uR, mS_uX, mR_uI, mR_uA, mR_uJ, mR_uX, mX_uI, mX_uA, mX_uJ, mX_uR, mI_s, mI_n, mI_A, mI_An, mI_uJ, mI_uR, mI_uX, mJ_uI, mJ_uA, mJ_uR, mJ_uX, onR_s, kC_v, kC_n, kC_t, nI_clamp, nI_lt_f, vp_nI, nI_eq_t, nI_eq_f, or_true, kx, h1000, hzs, ku191c, not_false_iff, true_and]
  generalize hμ3 : uI (uN μ2 25 32) (mX μ2) 1 (nI 1) = μ3
  have fl3 : FrL μ μ3 := by
    rw [← hμ3]
    exact (FrL.uN (k := 25) (n := 32) fl2).rz (z := mX μ2) (Fr.refl.iu (Or.inr rfl)) fl2.1
  have hP3 := hPI.frl fl3
  have hO : OpA (DfT (rW r) a b) μ3 (mX μ2) 1 := fun j j1 j2 => by
    rw [← hμ3]
    by_cases hj : j = 1
    · subst hj
      rw [mI_s, if_pos ⟨by omega, vis_1 _⟩]
    · rw [mI_n (by omega), if_neg (by omega)]
      show (if mX μ2 = mX μ2 then (0 : Int32) else _) = nI 0
      rw [if_pos rfl, nI_0]
  have hs3 : mS μ3 (mX μ2) = (25, 32) := by rw [← hμ3]; exact hzs
  have hc := l_191c (d := d) (Q := Q) (μ0 := μ3) (z := mX μ2) (l7 := none) hA ha hb (by omega) 31 1 μ3 (by omega) (by omega) hP3.1 hs3 hO Fr.refl
  rw [wS_1, cS_1] at hc
  refine hc (fun μ4 f4 => ?_)
  have fl4 := fl3.rz f4 fl2.1
  have hP4 := hPI.frl fl4
  simp (disch := first | omega | rfl) only [e_191_216, e_191_217, e_191_219, e_191_221, mS_uI, mS_uA, mS_uJ, mS_uR, mS_uX, mR_uI, mR_uA, mR_uJ, mR_uX, mX_uI, mX_uA, mX_uJ, mX_uR, mI_s, mI_n, mI_A, mI_An, mI_uJ, mI_uR, mI_uX, mJ_uI, mJ_uA, mJ_uR, mJ_uX, onR_s, kC_v, kC_n, kC_t]
  have e1 : wS (DfT (rW r) a b) 32 = fWr (rW r) a b := wS_gS _
  have e2 : cS (DfT (rW r) a b) 32 = fCp (rW r) a b := cS_gC _
  rw [e1, e2]
  have hd := l_191d (d := d) (Q := Q) (μ := μ4) (l0 := some (.ref 1000)) (l1 := some (.int (nI a))) (l2 := some (.int (nI b))) (l4 := some (.int (nI (fCp (rW r) a b)))) (l5 := some (.ref (mX μ2))) (fWr_lt (rW r) a b) 16 (Nat.le_refl _)
  rw [nI_dec (by omega)] at hd
  exact hd (l_191e hP4.1 hA ha hb (fun μ5 f5 => hq μ5 (fl4.trans (FrL.rt f5))))
end LTree2

