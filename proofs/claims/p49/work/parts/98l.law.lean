/-! the law -/
section LawL
variable {d L : Nat} {xs : Nat → Int32} {μ μ0 μ1 μ2 μ' : Mu} {Q : Po}
theorem tx_0 : ∀ i, i < 33 → (txB i).length = (txby.getD i []).length ∧ (∀ j, j < (txB i).length → (txby.getD i []).getD j 0 = nI ((txB i).getD j 0)) ∧ ∀ x ∈ txB i, x < 128 := by decide +kernel
theorem dg_0 : ∀ k, k < 100 → tens.getD k 0 = nI (48 + k / 10) ∧ ones.getD k 0 = nI (48 + k % 10) := by decide +kernel
theorem k0_t {a : Nat} (h : a < 33) : mS (mu0 L xs) a = (0, 4) := if_pos h
theorem k0_v {a : Nat} (h : a < 33) : mS (mu0 L xs) (100 + a) = (21, (txby.getD a []).length) := by
  show k0 L (100 + a) = _
  unfold k0
  rw [if_neg (by omega), if_pos (by omega), show 100 + a - 100 = a by omega]
theorem i0_v {a k : Nat} (h : a < 33) : mI (mu0 L xs) (100 + a) k = (txby.getD a []).getD k 0 := by
  show i0 xs (100 + a) k = _
  unfold i0
  rw [if_neg (by omega), if_pos (by omega), show 100 + a - 100 = a by omega]
theorem tx_S {i : Nat} (h : i < 33) : TxS (mu0 L xs) i (100 + i) (txB i).length := ⟨k0_t h, if_pos ⟨h, rfl⟩, (show mI (mu0 L xs) i 1 = nI 0 from (if_pos h : i0 xs i 1 = 0).trans nI_0.symm), by rw [k0_v h, (tx_0 i h).1]⟩
theorem lw_0 : LwW L xs (mu0 L xs) := by
  refine ⟨⟨rfl, fun k => rfl⟩, ⟨rfl, rfl, fun k hk => (dg_0 k hk).1, fun k hk => (dg_0 k hk).2⟩, fun i hi => ?_⟩
  refine ⟨100 + i, Nat.zero_le _, Nat.zero_le _, by omega, by omega, tx_S hi, fun j hj => ?_, (tx_0 i hi).2.2⟩
  rw [i0_v hi]
  exact (tx_0 i hi).2.1 j hj
theorem txc_0 : TxC (mu0 L xs) := fun i hi _ => ⟨tx_S (by omega), fun j hj => by
  rw [i0_v (by omega)]
  exact (tx_0 i (by omega)).2.1 j hj⟩
theorem l_194 (hL : L ≤ 260) (hQ : ∀ μ, Q (some (some (.int (nI 1)))) μ) : ∀ n k (μ : Mu) (u : Nat × Nat) (l3 l4 l5 : Option Value), k + n = 26 → PInv L xs μ → ub u (1698 + 40 * k) (2909920 + 400 * k) → EM 194 (d + 14) 13 [some (.ref 300), some (.ref 1000), some (.int (nI k)), l3, l4, l5] [] μ u Q := by
  intro n
  induction n with
  | zero =>
    intro k μ u l3 l4 l5 hk hI hu
    obtain rfl : k = 26 := by omega
    obtain ⟨r, u9, pr, tn, hPI⟩ := hI
    have k1 : ule (uad u (10, 100)) (600086, 7301442) = True := hu.ad.le (by omega) (by omega)
    rw [e_194_13]
    simp (disch := first | omega | rfl) only [e_194_14, e_194_16, e_194_99, e_194_100, e_194_101, e_194_104, ge1, ule_t, true_or, or_true, nI_add, nI_mul, nI_sub, nI_clamp, nI_lt_t, nI_lt_f, nI_le_t, nI_le_f, nI_eq_t, nI_eq_f, vp_nI, tI, fI, not_true, not_false_iff, true_and, and_true, Classical.not_not, mS_uI, mS_uA, mS_uJ, mS_uR, mS_uX, mR_uI, mR_uA, mR_uJ, mR_uX, mX_uI, mX_uA, mX_uJ, mX_uR, mI_s, mI_n, mI_A, mI_An, mI_uJ, mI_uR, mI_uX, mJ_uI, mJ_uA, mJ_uR, mJ_uX, onR_s, kC_v, kC_n, kC_t, k1, forall_const, false_implies]
    refine w_190 hPI hL (fun μ1 f1 => ?_)
    have k2 : ule (cg μ μ1 u (10, 100)) (600086, 7301442) = True := hu.ch.le (by omega) (by omega)
    simp (disch := first | omega | rfl) only [e_194_104, mS_uI, mS_uA, mS_uJ, mS_uR, mS_uX, mR_uI, mR_uA, mR_uJ, mR_uX, mX_uI, mX_uA, mX_uJ, mX_uR, mI_s, mI_n, mI_A, mI_An, mI_uJ, mI_uR, mI_uX, mJ_uI, mJ_uA, mJ_uR, mJ_uX, onR_s, kC_v, kC_n, kC_t, k2, or_true, true_and]
    exact hQ μ1
  | succ n ih =>
    intro k μ u l3 l4 l5 hk hI hu
    obtain ⟨r, u9, pr, tn, hPI⟩ := hI
    obtain ⟨hI, hA, hst, h1n, hP, hLw, hX⟩ := id hPI
    have m6 := hA.1.2.1
    have sh := hI.1.1
    have g1 := fun (d : Nat) (Q : Po) => w_172 (d := d) (Q := Q) (k := 10 + k) hLw.1 hL (by omega)
    have g0 := fun (d : Nat) (Q : Po) => w_98_0 (d := d) (Q := Q) hI hA
    have k0 : ule u (600086, 7301442) = True := hu.le (by omega) (by omega)
    have k1 : ule (uad u (10, 100)) (600086, 7301442) = True := hu.ad.le (by omega) (by omega)
    rw [e_194_13]
    simp (disch := first | omega | rfl) only [e_194_14, e_194_16, e_194_19, e_194_20, e_194_22, e_194_23, e_194_24, e_194_27, e_194_28, e_194_29, e_194_31, e_194_32, e_194_33, e_194_34, e_194_37, e_194_40, e_194_42, e_194_43, e_194_45, e_194_46, e_194_47, e_194_48, e_194_51, e_194_54, e_194_56, e_194_57, e_194_58, ge1, ule_t, true_or, or_true, nI_add, nI_mul, nI_sub, nI_clamp, nI_lt_t, nI_lt_f, nI_le_t, nI_le_f, nI_eq_t, nI_eq_f, vp_nI, tI, fI, not_true, not_false_iff, true_and, and_true, Classical.not_not, mS_uI, mS_uA, mS_uJ, mS_uR, mS_uX, mR_uI, mR_uA, mR_uJ, mR_uX, mX_uI, mX_uA, mX_uJ, mX_uR, mI_s, mI_n, mI_A, mI_An, mI_uJ, mI_uR, mI_uX, mJ_uI, mJ_uA, mJ_uR, mJ_uX, onR_s, kC_v, kC_n, kC_t, sh, g0, g1, w_173, k0, k1, forall_const, false_implies]
    generalize hx : cel L xs (10 + k) = x
    have ha : ofM (x / nI 8) (nM r) < nM r := ofM_lt (by omega)
    have hb : ofM (x / nI 64) (nM r) < nM r := ofM_lt (by omega)
    generalize ofM (x / nI 8) (nM r) = a at *
    generalize ofM (x / nI 64) (nM r) = b at *
    refine w_190 hPI hL (fun μ1 f1 => ?_)
    have hP1 := hPI.frl f1
    have hu1 : ub (cg μ μ1 u (10, 100)) (1698 + 40 * k + 10) (2909920 + 400 * k + 100) := hu.ch
    have q1 := (hu1.ad (a := 10) (b := 100)).le (C := 600086) (D := 7301442) (by omega) (by omega)
    simp (disch := first | omega | rfl) only [e_194_61, e_194_64, e_194_65, e_194_67, e_194_69, ge1, ule_t, true_or, or_true, nI_add, nI_mul, nI_sub, nI_clamp, nI_lt_t, nI_lt_f, nI_le_t, nI_le_f, nI_eq_t, nI_eq_f, vp_nI, tI, fI, not_true, not_false_iff, true_and, and_true, Classical.not_not, mS_uI, mS_uA, mS_uJ, mS_uR, mS_uX, mR_uI, mR_uA, mR_uJ, mR_uX, mX_uI, mX_uA, mX_uJ, mX_uR, mI_s, mI_n, mI_A, mI_An, mI_uJ, mI_uR, mI_uX, mJ_uI, mJ_uA, mJ_uR, mJ_uX, onR_s, kC_v, kC_n, kC_t, q1, forall_const, false_implies]
    refine w_191 hP1 ha hb (fun μ2 f2 => ?_)
    have hP2 := hP1.frl f2
    have hu2 : ub (cg μ1 μ2 (cg μ μ1 u (10, 100)) (10, 100)) (1698 + 40 * k + 10 + 10) (2909920 + 400 * k + 100 + 100) := hu1.ch
    have q2 := (hu2.ad (a := 10) (b := 100)).le (C := 600086) (D := 7301442) (by omega) (by omega)
    simp (disch := first | omega | rfl) only [e_194_72, e_194_75, e_194_76, e_194_78, e_194_80, ge1, ule_t, true_or, or_true, nI_add, nI_mul, nI_sub, nI_clamp, nI_lt_t, nI_lt_f, nI_le_t, nI_le_f, nI_eq_t, nI_eq_f, vp_nI, tI, fI, not_true, not_false_iff, true_and, and_true, Classical.not_not, mS_uI, mS_uA, mS_uJ, mS_uR, mS_uX, mR_uI, mR_uA, mR_uJ, mR_uX, mX_uI, mX_uA, mX_uJ, mX_uR, mI_s, mI_n, mI_A, mI_An, mI_uJ, mI_uR, mI_uX, mJ_uI, mJ_uA, mJ_uR, mJ_uX, onR_s, kC_v, kC_n, kC_t, q2, forall_const, false_implies]
    refine w_192 hP2.1 hA hP ha hb ?_
    simp (disch := first | omega | rfl) only [e_194_83, e_194_86, e_194_87, e_194_88, e_194_89, e_194_90, ge1, ule_t, true_or, or_true, nI_add, nI_mul, nI_sub, nI_clamp, nI_lt_t, nI_lt_f, nI_le_t, nI_le_f, nI_eq_t, nI_eq_f, vp_nI, tI, fI, not_true, not_false_iff, true_and, and_true, Classical.not_not, mS_uI, mS_uA, mS_uJ, mS_uR, mS_uX, mR_uI, mR_uA, mR_uJ, mR_uX, mX_uI, mX_uA, mX_uJ, mX_uR, mI_s, mI_n, mI_A, mI_An, mI_uJ, mI_uR, mI_uX, mJ_uI, mJ_uA, mJ_uR, mJ_uX, onR_s, kC_v, kC_n, kC_t, cgS, q2, forall_const, false_implies]
    refine w_193 ⟨r, u9, pr, tn, hP2⟩ (fun μ3 hI3 x3 => ?_)
    simp (disch := first | omega | rfl) only [e_194_93, e_194_96, ge1, ule_t, true_or, or_true, nI_add, nI_mul, nI_sub, nI_clamp, nI_lt_t, nI_lt_f, nI_le_t, nI_le_f, nI_eq_t, nI_eq_f, vp_nI, tI, fI, not_true, not_false_iff, true_and, and_true, Classical.not_not, mS_uI, mS_uA, mS_uJ, mS_uR, mS_uX, mR_uI, mR_uA, mR_uJ, mR_uX, mX_uI, mX_uA, mX_uJ, mX_uR, mI_s, mI_n, mI_A, mI_An, mI_uJ, mI_uR, mI_uX, mJ_uI, mJ_uA, mJ_uR, mJ_uX, onR_s, kC_v, kC_n, kC_t, cgE x3]
    exact ih (k + 1) μ3 _ _ _ _ (by omega) hI3 (hu2.mono (by omega) (by omega))
theorem law_fin (hL : L ≤ 260) (hQ : ∀ μ, Q (some (some (.int (nI 1)))) μ) : EM 194 (d + 14) 0 [some (.ref 300), none, none, none, none, none] [] (mu0 L xs) (0, 0) Q := by
  have k1 : ule (uad (0, 0) (1698, 2909920)) (600086, 7301442) = True := eq_true (show 0 + 1698 ≤ 600086 ∧ 0 + 2909920 ≤ 7301442 by omega)
  simp (disch := first | omega | rfl) only [e_194_0, e_194_1, mS_uI, mS_uA, mS_uJ, mS_uR, mS_uX, mR_uI, mR_uA, mR_uJ, mR_uX, mX_uI, mX_uA, mX_uJ, mX_uR, mI_s, mI_n, mI_A, mI_An, mI_uJ, mI_uR, mI_uX, mJ_uI, mJ_uA, mJ_uR, mJ_uX, onR_s, kC_v, kC_n, kC_t, k1, true_and]
  refine w_185 hL lw_0 txc_0 rfl (fun μ' r tn hI hA hn hs hW hX => ?_)
  have hu : ub (cg (mu0 L xs) μ' (0, 0) (1698, 2909920)) (0 + 1698) (0 + 2909920) := ub.ch (u := (0, 0)) ⟨Nat.le_refl _, Nat.le_refl _⟩
  simp (disch := first | omega | rfl) only [e_194_4, e_194_5, e_194_6, e_194_11, e_194_12, mS_uI, mS_uA, mS_uJ, mS_uR, mS_uX, mR_uI, mR_uA, mR_uJ, mR_uX, mX_uI, mX_uA, mX_uJ, mX_uR, mI_s, mI_n, mI_A, mI_An, mI_uJ, mI_uR, mI_uX, mJ_uI, mJ_uA, mJ_uR, mJ_uX, onR_s, kC_v, kC_n, kC_t]
  exact l_194 hL hQ 26 0 μ' _ _ _ _ (by omega) (PInv.of hI hA hn hs hW hX) (hu.mono (by omega) (by omega))
end LawL
theorem law_E {L : Nat} {xs : Nat → Int32} (hL : L ≤ 260) : E (Ev 1000) mi194 0 (ent [.ref 300] 6) [] (mu0 L xs) (0, 0) (fun o _ => o = some (some (.int 1))) :=
  law_fin (d := 986) hL (fun _ => rfl)

