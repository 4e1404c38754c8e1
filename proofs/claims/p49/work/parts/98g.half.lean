/-! records, as the law walks them -/
def fsN (D : Nat → Bool) (lo hi : Nat) : Nat → Option Nat
  | 0 => none
  | t + 1 => if fsN D lo hi t = none ∧ (lo ≤ t ∧ t ≤ hi) ∧ D t = true then some t else fsN D lo hi t
theorem fsN_lt {D : Nat → Bool} {lo hi : Nat} : ∀ t w, fsN D lo hi t = some w → w < t
  | 0, w, h => by cases h
  | t + 1, w, h => by
    rw [fsN] at h
    split at h
    · cases h; omega
    · have := fsN_lt t w h; omega
theorem fsN_lo {D : Nat → Bool} {lo hi : Nat} : ∀ t, t ≤ lo → fsN D lo hi t = none
  | 0, _ => rfl
  | t + 1, h => by rw [fsN, if_neg (by omega)]; exact fsN_lo t (by omega)
theorem fsN_some {D : Nat → Bool} {lo hi t w : Nat} (h : fsN D lo hi t = some w) : ∀ n, fsN D lo hi (t + n) = some w
  | 0 => h
  | n + 1 => by
    rw [← Nat.add_assoc, fsN, fsN_some h n, if_neg (by rintro ⟨h1, -⟩; cases h1)]
theorem fsN_past {D : Nat → Bool} {lo hi t : Nat} (h : hi < t) (h4 : fsN D lo hi t = none) : ∀ n, fsN D lo hi (t + n) = none
  | 0 => h4
  | n + 1 => by rw [← Nat.add_assoc, fsN, fsN_past h h4 n, if_neg (by omega)]
theorem fsN_fLin {D : Nat → Bool} {lo hi N : Nat} (hN : hi < N) : ∀ f t, lo ≤ t → hi < t + f → t ≤ N → fsN D lo hi t = none → fsN D lo hi N = fLin D hi f t
  | 0, t, h1, h2, h3, h4 => by
    have e := fsN_past (by omega : hi < t) h4 (N - t)
    rw [show t + (N - t) = N by omega] at e
    exact e
  | f + 1, t, h1, h2, h3, h4 => by
    rw [fLin]
    by_cases h : hi < t
    · rw [if_pos h]
      have e := fsN_past h h4 (N - t)
      rw [show t + (N - t) = N by omega] at e
      exact e
    · rw [if_neg h]
      by_cases hd : D t = true
      · rw [if_pos hd]
        have e : fsN D lo hi (t + 1) = some t := by rw [fsN, if_pos ⟨h4, ⟨h1, by omega⟩, hd⟩]
        have e2 := fsN_some e (N - (t + 1))
        rw [show t + 1 + (N - (t + 1)) = N by omega] at e2
        exact e2
      · rw [if_neg hd]
        exact fsN_fLin hN f (t + 1) (by omega) (by omega) (by omega) (by rw [fsN, if_neg (by rintro ⟨-, -, h⟩; exact hd h)]; exact h4)
theorem fsN_none {D : Nat → Bool} {lo hi : Nat} (h : hi < lo) : ∀ t, fsN D lo hi t = none
  | 0 => rfl
  | t + 1 => by rw [fsN, if_neg (by omega)]; exact fsN_none h t
theorem z_le_m1 : (nI 0 ≤ (-1 : Int32)) = False := eq_false (by decide)
theorem m1_lt_z : ((-1 : Int32) < nI 0) = True := eq_true (by decide)
theorem oN_some {w : Nat} : oN (some w) = nI w := rfl
theorem oN_none : oN none = -1 := rfl
section Half
variable {d L : Nat} {xs : Nat → Int32} {μ μ1 : Mu} {Q : Po} {x y g w o : Int32} {r r' tn F G : Nat → Int32} {u a b m i t σ s c k : Nat} {pr : Nat → Nat → Int32} {l7 : Option Value}
def recA (V : VW) (a t : Nat) : Int32 := if nB V a ≤ t ∧ t ≤ nE V a then V a (23 + t) else -1
theorem w_108 (hI : CI μ s c r u pr tn) (hA : AI r u pr tn) (ha : a < nM r) (ht : t < 1000) : Ev (d + 4) 108 [.ref 1000, .int (nI a), .int (nI t)] μ Q = Q (some (some (.int (recA (rW r) a t)))) μ := by
  have hW := hI.1
  have hB := hI.2.2.1.1
  have hO := hA.1
  obtain ⟨e1, e2, e3, e4⟩ := okBE hO.2.2.2.2.2.2.2.2.2.2.2.2.2.2.1 ha
  have ev : vHas (rW r) a (nI t) = (nB (rW r) a ≤ t ∧ t ≤ nE (rW r) a) := by
    show (rW r a 6 ≤ nI t ∧ nI t ≤ rW r a 1) = _
    rw [e1, e2]
    exact propext ⟨fun h => ⟨(nI_leI (by omega) (by omega)).mp h.1, (nI_leI (by omega) (by omega)).mp h.2⟩, fun h => ⟨nI_le h.1 (by omega), nI_le h.2 (by omega)⟩⟩
  unfold recA
  by_cases hh : nB (rW r) a ≤ t ∧ t ≤ nE (rW r) a
  · rw [if_pos hh, c_108 hW hB hO ha (by rw [ev]; exact hh)]
    unfold vRec
    rw [nI_clamp (by omega)]
  · rw [if_neg hh, c_108n hW hB hO ha (by rw [ev]; exact hh)]
theorem recA_s (hA : AI r u pr tn) (hP : RecP r) (ha : a < nM r) (h : nB (rW r) a ≤ t ∧ t ≤ nE (rW r) a) : recA (rW r) a t = rW r a (23 + t) ∧ (nI 0 ≤ rW r a (23 + t)) = True ∧ (rW r a (23 + t) < nI 0) = False := by
  obtain ⟨e1, e2, e3, e4⟩ := okBE hA.1.2.2.2.2.2.2.2.2.2.2.2.2.2.2.1 ha
  have := hP a ha (23 + t) (by omega) (by omega)
  exact ⟨if_pos h, eq_true this, eq_false (Int32.not_lt.mpr this)⟩
theorem recA_n {V : VW} (h : ¬ (nB V a ≤ t ∧ t ≤ nE V a)) : recA V a t = -1 := if_neg h
theorem dR_t {V : VW} : (dR V a b t = true) = ¬ V a (23 + t) = V b (23 + t) := by unfold dR; simp
def lwN (lo hi t : Nat) : Int32 := if lo < t ∧ lo ≤ hi then nI lo else -1
def hgN (lo hi t : Nat) : Int32 := if lo < t ∧ lo ≤ hi then nI (if t ≤ hi then t - 1 else hi) else -1
theorem l_192a (hI : CI μ s c r u pr tn) (hA : AI r u pr tn) (hP : RecP r) (ha : a < nM r) (hb : b < nM r) : ∀ m t, t + m = 41 → EM 192 (d + 6) 11 [some (.ref 1000), some (.int (nI a)), some (.int (nI b)), some (.int (lwN (rLo (rW r) a b) (rHi (rW r) a b) t)), some (.int (hgN (rLo (rW r) a b) (rHi (rW r) a b) t)), some (.int (oN (fsN (dR (rW r) a b) (rLo (rW r) a b) (rHi (rW r) a b) t))), some (.int (nI t)), l7] [] μ (0, 0) Q = EM 192 (d + 6) 11 [some (.ref 1000), some (.int (nI a)), some (.int (nI b)), some (.int (lwN (rLo (rW r) a b) (rHi (rW r) a b) 41)), some (.int (hgN (rLo (rW r) a b) (rHi (rW r) a b) 41)), some (.int (oN (fsN (dR (rW r) a b) (rLo (rW r) a b) (rHi (rW r) a b) 41))), some (.int (nI 41)), l7] [] μ (0, 0) Q := by
  obtain ⟨e1, e2, e3, e4⟩ := okBE hA.1.2.2.2.2.2.2.2.2.2.2.2.2.2.2.1 ha
  obtain ⟨f1, f2, f3, f4⟩ := okBE hA.1.2.2.2.2.2.2.2.2.2.2.2.2.2.2.1 hb
  have hlo : nB (rW r) a ≤ rLo (rW r) a b ∧ nB (rW r) b ≤ rLo (rW r) a b ∧ (rLo (rW r) a b = nB (rW r) a ∨ rLo (rW r) a b = nB (rW r) b) := by unfold rLo; split <;> omega
  have hhi : rHi (rW r) a b ≤ nE (rW r) a ∧ rHi (rW r) a b ≤ nE (rW r) b ∧ (rHi (rW r) a b = nE (rW r) a ∨ rHi (rW r) a b = nE (rW r) b) := by unfold rHi; split <;> omega
  have k1 : ule (uad (0, 0) (1, 6)) (10, 100) = True := eq_true (show 0 + 1 ≤ 10 ∧ 0 + 6 ≤ 100 by omega)
  have sh := hI.1.1
  have g1 := fun (d : Nat) (Q : Po) (t : Nat) (ht : t < 1000) => w_108 (d := d) (Q := Q) hI hA ha ht
  have g2 := fun (d : Nat) (Q : Po) (t : Nat) (ht : t < 1000) => w_108 (d := d) (Q := Q) hI hA hb ht
  generalize hlo' : rLo (rW r) a b = lo at *
  generalize hhi' : rHi (rW r) a b = hi at *
  intro m
  induction m with
  | zero =>
    intro t ht
    obtain rfl : t = 41 := by omega
    rfl
  | succ m ih =>
    intro t ht
    have ih1 := ih (t + 1) (by omega)
    have g1t := fun (d : Nat) (Q : Po) => g1 d Q t (by omega)
    have g2t := fun (d : Nat) (Q : Po) => g2 d Q t (by omega)
    rw [e_192_11]
    by_cases h1 : nB (rW r) a ≤ t ∧ t ≤ nE (rW r) a
    · obtain ⟨r1, r2, r3⟩ := recA_s hA hP ha h1
      rw [r1] at g1t
      by_cases h2 : nB (rW r) b ≤ t ∧ t ≤ nE (rW r) b
      · obtain ⟨s1, s2, s3⟩ := recA_s hA hP hb h2
        rw [s1] at g2t
        have hin : lo ≤ t ∧ t ≤ hi := by omega
        have el : lwN lo hi (t + 1) = nI lo := if_pos (by omega)
        have eh : hgN lo hi (t + 1) = nI t := by
          unfold hgN
          rw [if_pos (by omega)]
          split
          · rfl
          · congr 1; omega
        have ef : fsN (dR (rW r) a b) lo hi (t + 1) = if fsN (dR (rW r) a b) lo hi t = none ∧ (lo ≤ t ∧ t ≤ hi) ∧ dR (rW r) a b t = true then some t else fsN (dR (rW r) a b) lo hi t := rfl
        rw [el, eh, ef] at ih1
        by_cases hlt : lo < t
        · have el0 : lwN lo hi t = nI lo := if_pos (by omega)
          rw [el0]
          cases hf : fsN (dR (rW r) a b) lo hi t with
          | none =>
            by_cases hd : dR (rW r) a b t = true
            · rw [hf, if_pos ⟨rfl, hin, hd⟩] at ih1
              rw [dR_t] at hd
              simp (disch := first | omega | rfl) only [e_192_13, e_192_15, e_192_18, e_192_19, e_192_20, e_192_22, e_192_25, e_192_28, e_192_29, e_192_30, e_192_32, e_192_35, e_192_38, e_192_41, e_192_42, e_192_45, e_192_47, e_192_50, e_192_51, e_192_52, e_192_54, e_192_56, e_192_58, e_192_61, e_192_62, e_192_63, e_192_65, e_192_68, e_192_69, e_192_70, e_192_72, e_192_75, e_192_78, e_192_80, e_192_82, e_192_85, ge1, ule_t, true_or, or_true, nI_add, nI_mul, nI_sub, nI_clamp, nI_lt_t, nI_lt_f, nI_le_t, nI_le_f, nI_eq_t, nI_eq_f, vp_nI, tI, fI, not_true, not_false_iff, true_and, and_true, Classical.not_not, mS_uI, mS_uA, mS_uJ, mS_uR, mS_uX, mR_uI, mR_uA, mR_uJ, mR_uX, mX_uI, mX_uA, mX_uJ, mX_uR, mI_s, mI_n, mI_A, mI_An, mI_uJ, mI_uR, mI_uX, mJ_uI, mJ_uA, mJ_uR, mJ_uX, onR_s, kC_v, kC_n, kC_t, sh, k1, cgS, g1t, g2t, r2, r3, s2, s3, oN_none, z_le_m1, hd, forall_const, false_implies, eq_self]
              exact ih1
            · rw [hf, if_neg (by rintro ⟨-, -, h⟩; exact hd h)] at ih1
              rw [dR_t, Classical.not_not] at hd
              rw [hd] at r2 r3 g1t
              simp (disch := first | omega | rfl) only [e_192_13, e_192_15, e_192_18, e_192_19, e_192_20, e_192_22, e_192_25, e_192_28, e_192_29, e_192_30, e_192_32, e_192_35, e_192_38, e_192_41, e_192_42, e_192_45, e_192_47, e_192_50, e_192_51, e_192_52, e_192_54, e_192_56, e_192_58, e_192_61, e_192_62, e_192_63, e_192_65, e_192_68, e_192_69, e_192_70, e_192_72, e_192_75, e_192_78, e_192_80, e_192_82, e_192_85, ge1, ule_t, true_or, or_true, nI_add, nI_mul, nI_sub, nI_clamp, nI_lt_t, nI_lt_f, nI_le_t, nI_le_f, nI_eq_t, nI_eq_f, vp_nI, tI, fI, not_true, not_false_iff, true_and, and_true, Classical.not_not, mS_uI, mS_uA, mS_uJ, mS_uR, mS_uX, mR_uI, mR_uA, mR_uJ, mR_uX, mX_uI, mX_uA, mX_uJ, mX_uR, mI_s, mI_n, mI_A, mI_An, mI_uJ, mI_uR, mI_uX, mJ_uI, mJ_uA, mJ_uR, mJ_uX, onR_s, kC_v, kC_n, kC_t, sh, k1, cgS, g1t, g2t, r2, r3, s2, s3, oN_none, z_le_m1, forall_const, false_implies, eq_self]
              exact ih1
          | some w =>
            have hw := fsN_lt _ _ hf
            rw [hf, if_neg (by rintro ⟨h, -⟩; cases h)] at ih1
            simp (disch := first | omega | rfl) only [e_192_13, e_192_15, e_192_18, e_192_19, e_192_20, e_192_22, e_192_25, e_192_28, e_192_29, e_192_30, e_192_32, e_192_35, e_192_38, e_192_41, e_192_42, e_192_45, e_192_47, e_192_50, e_192_51, e_192_52, e_192_54, e_192_56, e_192_58, e_192_61, e_192_62, e_192_63, e_192_65, e_192_68, e_192_69, e_192_70, e_192_72, e_192_75, e_192_78, e_192_80, e_192_82, e_192_85, ge1, ule_t, true_or, or_true, nI_add, nI_mul, nI_sub, nI_clamp, nI_lt_t, nI_lt_f, nI_le_t, nI_le_f, nI_eq_t, nI_eq_f, vp_nI, tI, fI, not_true, not_false_iff, true_and, and_true, Classical.not_not, mS_uI, mS_uA, mS_uJ, mS_uR, mS_uX, mR_uI, mR_uA, mR_uJ, mR_uX, mX_uI, mX_uA, mX_uJ, mX_uR, mI_s, mI_n, mI_A, mI_An, mI_uJ, mI_uR, mI_uX, mJ_uI, mJ_uA, mJ_uR, mJ_uX, onR_s, kC_v, kC_n, kC_t, sh, k1, cgS, g1t, g2t, r2, r3, s2, s3, oN_some, z_le_m1, forall_const, false_implies, eq_self]
            exact ih1
        · obtain rfl : lo = t := by omega
          have el0 : lwN lo hi lo = -1 := if_neg (by omega)
          have hf : fsN (dR (rW r) a b) lo hi lo = none := fsN_lo lo (Nat.le_refl _)
          rw [el0, hf]
          by_cases hd : dR (rW r) a b lo = true
          · rw [hf, if_pos ⟨rfl, hin, hd⟩] at ih1
            rw [dR_t] at hd
            simp (disch := first | omega | rfl) only [e_192_13, e_192_15, e_192_18, e_192_19, e_192_20, e_192_22, e_192_25, e_192_28, e_192_29, e_192_30, e_192_32, e_192_35, e_192_38, e_192_41, e_192_42, e_192_45, e_192_47, e_192_50, e_192_51, e_192_52, e_192_54, e_192_56, e_192_58, e_192_61, e_192_62, e_192_63, e_192_65, e_192_68, e_192_69, e_192_70, e_192_72, e_192_75, e_192_78, e_192_80, e_192_82, e_192_85, ge1, ule_t, true_or, or_true, nI_add, nI_mul, nI_sub, nI_clamp, nI_lt_t, nI_lt_f, nI_le_t, nI_le_f, nI_eq_t, nI_eq_f, vp_nI, tI, fI, not_true, not_false_iff, true_and, and_true, Classical.not_not, mS_uI, mS_uA, mS_uJ, mS_uR, mS_uX, mR_uI, mR_uA, mR_uJ, mR_uX, mX_uI, mX_uA, mX_uJ, mX_uR, mI_s, mI_n, mI_A, mI_An, mI_uJ, mI_uR, mI_uX, mJ_uI, mJ_uA, mJ_uR, mJ_uX, onR_s, kC_v, kC_n, kC_t, sh, k1, cgS, g1t, g2t, r2, r3, s2, s3, oN_none, z_le_m1, hd, forall_const, false_implies, eq_self]
            exact ih1
          · rw [hf, if_neg (by rintro ⟨-, -, h⟩; exact hd h)] at ih1
            rw [dR_t, Classical.not_not] at hd
            rw [hd] at r2 r3 g1t
            simp (disch := first | omega | rfl) only [e_192_13, e_192_15, e_192_18, e_192_19, e_192_20, e_192_22, e_192_25, e_192_28, e_192_29, e_192_30, e_192_32, e_192_35, e_192_38, e_192_41, e_192_42, e_192_45, e_192_47, e_192_50, e_192_51, e_192_52, e_192_54, e_192_56, e_192_58, e_192_61, e_192_62, e_192_63, e_192_65, e_192_68, e_192_69, e_192_70, e_192_72, e_192_75, e_192_78, e_192_80, e_192_82, e_192_85, ge1, ule_t, true_or, or_true, nI_add, nI_mul, nI_sub, nI_clamp, nI_lt_t, nI_lt_f, nI_le_t, nI_le_f, nI_eq_t, nI_eq_f, vp_nI, tI, fI, not_true, not_false_iff, true_and, and_true, Classical.not_not, mS_uI, mS_uA, mS_uJ, mS_uR, mS_uX, mR_uI, mR_uA, mR_uJ, mR_uX, mX_uI, mX_uA, mX_uJ, mX_uR, mI_s, mI_n, mI_A, mI_An, mI_uJ, mI_uR, mI_uX, mJ_uI, mJ_uA, mJ_uR, mJ_uX, onR_s, kC_v, kC_n, kC_t, sh, k1, cgS, g1t, g2t, r2, r3, s2, s3, oN_none, z_le_m1, forall_const, false_implies, eq_self]
            exact ih1
      · have hin : ¬ (lo ≤ t ∧ t ≤ hi) := by omega
        have el : lwN lo hi (t + 1) = lwN lo hi t := by unfold lwN; by_cases h : lo < t ∧ lo ≤ hi; rw [if_pos h, if_pos (by omega)]; rw [if_neg h, if_neg (by omega)]
        have eh : hgN lo hi (t + 1) = hgN lo hi t := by
          unfold hgN
          by_cases h : lo < t ∧ lo ≤ hi
          · rw [if_pos h, if_pos (by omega), if_neg (by omega), if_neg (by omega)]
          · rw [if_neg h, if_neg (by omega)]
        have ef : fsN (dR (rW r) a b) lo hi (t + 1) = fsN (dR (rW r) a b) lo hi t := by rw [fsN, if_neg (by rintro ⟨-, h, -⟩; exact hin h)]
        rw [el, eh, ef] at ih1
        rw [recA_n h2] at g2t
        simp (disch := first | omega | rfl) only [e_192_13, e_192_15, e_192_18, e_192_19, e_192_20, e_192_22, e_192_25, e_192_28, e_192_29, e_192_30, e_192_32, e_192_35, e_192_38, e_192_41, e_192_42, e_192_45, e_192_47, e_192_50, e_192_51, e_192_52, e_192_54, e_192_56, e_192_58, e_192_61, e_192_62, e_192_63, e_192_65, e_192_68, e_192_69, e_192_70, e_192_72, e_192_75, e_192_78, e_192_80, e_192_82, e_192_85, ge1, ule_t, true_or, or_true, nI_add, nI_mul, nI_sub, nI_clamp, nI_lt_t, nI_lt_f, nI_le_t, nI_le_f, nI_eq_t, nI_eq_f, vp_nI, tI, fI, not_true, not_false_iff, true_and, and_true, Classical.not_not, mS_uI, mS_uA, mS_uJ, mS_uR, mS_uX, mR_uI, mR_uA, mR_uJ, mR_uX, mX_uI, mX_uA, mX_uJ, mX_uR, mI_s, mI_n, mI_A, mI_An, mI_uJ, mI_uR, mI_uX, mJ_uI, mJ_uA, mJ_uR, mJ_uX, onR_s, kC_v, kC_n, kC_t, sh, k1, cgS, g1t, g2t, r2, r3, z_le_m1, m1_lt_z, forall_const, false_implies]
        exact ih1
    · have hin : ¬ (lo ≤ t ∧ t ≤ hi) := by omega
      have el : lwN lo hi (t + 1) = lwN lo hi t := by unfold lwN; by_cases h : lo < t ∧ lo ≤ hi; rw [if_pos h, if_pos (by omega)]; rw [if_neg h, if_neg (by omega)]
      have eh : hgN lo hi (t + 1) = hgN lo hi t := by
        unfold hgN
        by_cases h : lo < t ∧ lo ≤ hi
        · rw [if_pos h, if_pos (by omega), if_neg (by omega), if_neg (by omega)]
        · rw [if_neg h, if_neg (by omega)]
      have ef : fsN (dR (rW r) a b) lo hi (t + 1) = fsN (dR (rW r) a b) lo hi t := by rw [fsN, if_neg (by rintro ⟨-, h, -⟩; exact hin h)]
      rw [el, eh, ef] at ih1
      rw [recA_n h1] at g1t
      simp (disch := first | omega | rfl) only [e_192_13, e_192_15, e_192_18, e_192_19, e_192_20, e_192_22, e_192_25, e_192_28, e_192_29, e_192_30, e_192_32, e_192_35, e_192_38, e_192_41, e_192_42, e_192_45, e_192_47, e_192_50, e_192_51, e_192_52, e_192_54, e_192_56, e_192_58, e_192_61, e_192_62, e_192_63, e_192_65, e_192_68, e_192_69, e_192_70, e_192_72, e_192_75, e_192_78, e_192_80, e_192_82, e_192_85, ge1, ule_t, true_or, or_true, nI_add, nI_mul, nI_sub, nI_clamp, nI_lt_t, nI_lt_f, nI_le_t, nI_le_f, nI_eq_t, nI_eq_f, vp_nI, tI, fI, not_true, not_false_iff, true_and, and_true, Classical.not_not, mS_uI, mS_uA, mS_uJ, mS_uR, mS_uX, mR_uI, mR_uA, mR_uJ, mR_uX, mX_uI, mX_uA, mX_uJ, mX_uR, mI_s, mI_n, mI_A, mI_An, mI_uJ, mI_uR, mI_uX, mJ_uI, mJ_uA, mJ_uR, mJ_uX, onR_s, kC_v, kC_n, kC_t, sh, k1, cgS, g1t, g2t, z_le_m1, m1_lt_z, forall_const, false_implies]
      exact ih1
theorem l_192b (hI : CI μ s c r u pr tn) (hA : AI r u pr tn) (ha : a < nM r) (hb : b < nM r) {l5 l6 : Option Value} : ∀ f lo hi (l7 : Option Value), hi - lo < f → lo ≤ 1000 → nB (rW r) a ≤ lo → nB (rW r) b ≤ lo → hi ≤ nE (rW r) a → hi ≤ nE (rW r) b → (∀ h l7, EM 192 (d + 6) 159 [some (.ref 1000), some (.int (nI a)), some (.int (nI b)), some (.int (nI (fHalf (dR (rW r) a b) f lo hi))), some (.int h), l5, l6, l7] [] μ (0, 0) Q) → EM 192 (d + 6) 113 [some (.ref 1000), some (.int (nI a)), some (.int (nI b)), some (.int (nI lo)), some (.int (nI hi)), l5, l6, l7] [] μ (0, 0) Q := by
  obtain ⟨e1, e2, e3, e4⟩ := okBE hA.1.2.2.2.2.2.2.2.2.2.2.2.2.2.2.1 ha
  have k1 : ule (uad (0, 0) (1, 6)) (10, 100) = True := eq_true (show 0 + 1 ≤ 10 ∧ 0 + 6 ≤ 100 by omega)
  have sh := hI.1.1
  have g1 := fun (d : Nat) (Q : Po) (t : Nat) (ht : t < 1000) => w_108 (d := d) (Q := Q) hI hA ha ht
  have g2 := fun (d : Nat) (Q : Po) (t : Nat) (ht : t < 1000) => w_108 (d := d) (Q := Q) hI hA hb ht
  intro f
  induction f with
  | zero => intro lo hi l7 h; omega
  | succ f ih =>
    intro lo hi l7 hlt p0 p1 p2 p3 p4 hq
    rw [fHalf] at hq
    rw [e_192_113]
    by_cases h : lo < hi
    · rw [if_pos h] at hq
      have g1t := fun (d : Nat) (Q : Po) => g1 d Q ((lo + hi) / 2) (by omega)
      have g2t := fun (d : Nat) (Q : Po) => g2 d Q ((lo + hi) / 2) (by omega)
      have r1 : recA (rW r) a ((lo + hi) / 2) = rW r a (23 + (lo + hi) / 2) := if_pos (by omega)
      have r2 : recA (rW r) b ((lo + hi) / 2) = rW r b (23 + (lo + hi) / 2) := if_pos (by omega)
      rw [r1] at g1t
      rw [r2] at g2t
      have ed : nI (lo + hi) / nI 2 = nI ((lo + hi) / 2) := nI_div2 (by omega)
      by_cases hd : dR (rW r) a b ((lo + hi) / 2) = true
      · rw [if_pos hd] at hq
        rw [dR_t] at hd
        simp (disch := first | omega | rfl) only [e_192_114, e_192_116, e_192_119, e_192_120, e_192_122, e_192_123, e_192_124, e_192_125, e_192_127, e_192_128, e_192_129, e_192_131, e_192_134, e_192_135, e_192_136, e_192_138, e_192_141, e_192_144, e_192_146, e_192_148, e_192_151, e_192_153, e_192_154, e_192_155, e_192_156, ge1, ule_t, true_or, or_true, nI_add, nI_mul, nI_sub, nI_clamp, nI_lt_t, nI_lt_f, nI_le_t, nI_le_f, nI_eq_t, nI_eq_f, vp_nI, tI, fI, not_true, not_false_iff, true_and, and_true, Classical.not_not, mS_uI, mS_uA, mS_uJ, mS_uR, mS_uX, mR_uI, mR_uA, mR_uJ, mR_uX, mX_uI, mX_uA, mX_uJ, mX_uR, mI_s, mI_n, mI_A, mI_An, mI_uJ, mI_uR, mI_uX, mJ_uI, mJ_uA, mJ_uR, mJ_uX, onR_s, kC_v, kC_n, kC_t, sh, k1, cgS, ed, g1t, g2t, hd, forall_const, false_implies]
        exact ih lo _ _ (by omega) p0 p1 p2 (by omega) (by omega) hq
      · rw [if_neg hd] at hq
        rw [dR_t, Classical.not_not] at hd
        rw [hd] at g1t
        simp (disch := first | omega | rfl) only [e_192_114, e_192_116, e_192_119, e_192_120, e_192_122, e_192_123, e_192_124, e_192_125, e_192_127, e_192_128, e_192_129, e_192_131, e_192_134, e_192_135, e_192_136, e_192_138, e_192_141, e_192_144, e_192_146, e_192_148, e_192_151, e_192_153, e_192_154, e_192_155, e_192_156, ge1, ule_t, true_or, or_true, nI_add, nI_mul, nI_sub, nI_clamp, nI_lt_t, nI_lt_f, nI_le_t, nI_le_f, nI_eq_t, nI_eq_f, vp_nI, tI, fI, not_true, not_false_iff, true_and, and_true, Classical.not_not, mS_uI, mS_uA, mS_uJ, mS_uR, mS_uX, mR_uI, mR_uA, mR_uJ, mR_uX, mX_uI, mX_uA, mX_uJ, mX_uR, mI_s, mI_n, mI_A, mI_An, mI_uJ, mI_uR, mI_uX, mJ_uI, mJ_uA, mJ_uR, mJ_uX, onR_s, kC_v, kC_n, kC_t, sh, k1, cgS, ed, g1t, g2t, forall_const, false_implies, eq_self]
        exact ih _ hi _ (by omega) (by omega) (by omega) (by omega) p3 p4 hq
    · rw [if_neg h] at hq
      have h9 : (nI hi ≤ nI lo) = True := eq_true (nI_le (by omega) (by omega))
      simp (disch := first | omega | rfl) only [e_192_114, e_192_116, e_192_119, e_192_120, e_192_122, e_192_123, e_192_124, e_192_125, e_192_127, e_192_128, e_192_129, e_192_131, e_192_134, e_192_135, e_192_136, e_192_138, e_192_141, e_192_144, e_192_146, e_192_148, e_192_151, e_192_153, e_192_154, e_192_155, e_192_156, mS_uI, mS_uA, mS_uJ, mS_uR, mS_uX, mR_uI, mR_uA, mR_uJ, mR_uX, mX_uI, mX_uA, mX_uJ, mX_uR, mI_s, mI_n, mI_A, mI_An, mI_uJ, mI_uR, mI_uX, mJ_uI, mJ_uA, mJ_uR, mJ_uX, onR_s, kC_v, kC_n, kC_t, h9, not_true, forall_const, false_implies, true_and, and_true]
      exact hq _ _
theorem l_192c (hI : CI μ s c r u pr tn) (hA : AI r u pr tn) (ha : a < nM r) (hb : b < nM r) {l3 l4 : Option Value} (hq : Q (some (some (.int (nI 1)))) μ) : EM 192 (d + 6) 162 [some (.ref 1000), some (.int (nI a)), some (.int (nI b)), l3, l4, some (.int (oN (aLin (rW r) a b))), some (.int (oN (aHalf (rW r) a b))), l7] [] μ (0, 0) Q := by
  have hW := hI.1
  have hB := hI.2.2.1.1
  have hO := hA.1
  have sh := hW.1
  have k0 : ule ((0, 0) : Nat × Nat) (10, 100) = True := eq_true (show 0 ≤ 10 ∧ 0 ≤ 100 by omega)
  have k2 : ule (uad (0, 0) (2, 12)) (10, 100) = True := eq_true (show 0 + 2 ≤ 10 ∧ 0 + 12 ≤ 100 by omega)
  have k4 : ule (uad (0, 0) (4, 24)) (10, 100) = True := eq_true (show 0 + 4 ≤ 10 ∧ 0 + 24 ≤ 100 by omega)
  have q1 := fun (d : Nat) (Q : Po) => c_109 (d := d) (Q := Q) hW hB hO ha hb
  have q2 := fun (d : Nat) (Q : Po) => c_110 (d := d) (Q := Q) hW hB hO ha hb
  have q3 := fun (d : Nat) (Q : Po) => c_113 (d := d) (Q := Q) hW hB hO ha hb
  by_cases h : aHalf (rW r) a b = aLin (rW r) a b
  · rw [bI_t h] at q3
    rw [h] at q2 ⊢
    simp (disch := first | omega | rfl) only [e_192_162, e_192_163, e_192_164, e_192_165, e_192_168, e_192_170, e_192_173, e_192_174, e_192_175, e_192_176, e_192_179, e_192_181, e_192_184, e_192_185, e_192_186, e_192_187, e_192_190, e_192_192, e_192_194, e_192_197, e_192_198, e_192_201, e_192_202, e_192_205, e_192_206, e_192_209, e_192_210, ge1, ule_t, true_or, or_true, nI_add, nI_mul, nI_sub, nI_clamp, nI_lt_t, nI_lt_f, nI_le_t, nI_le_f, nI_eq_t, nI_eq_f, vp_nI, tI, fI, not_true, not_false_iff, true_and, and_true, Classical.not_not, mS_uI, mS_uA, mS_uJ, mS_uR, mS_uX, mR_uI, mR_uA, mR_uJ, mR_uX, mX_uI, mX_uA, mX_uJ, mX_uR, mI_s, mI_n, mI_A, mI_An, mI_uJ, mI_uR, mI_uX, mJ_uI, mJ_uA, mJ_uR, mJ_uX, onR_s, kC_v, kC_n, kC_t, sh, k0, k2, k4, cgS, q1, q2, q3, forall_const, false_implies, eq_self]
    exact hq
  · rw [bI_f h] at q3
    have hne : ¬ oN (aLin (rW r) a b) = oN (aHalf (rW r) a b) := by
      intro e
      apply h
      have hl : ∀ w, aLin (rW r) a b = some w → w < 2147483648 := fun w hw => by
        have := fLin_lt hw
        obtain ⟨e1, e2, e3, e4⟩ := okBE hO.2.2.2.2.2.2.2.2.2.2.2.2.2.2.1 ha
        have : rHi (rW r) a b ≤ nE (rW r) a := by unfold rHi; split <;> omega
        omega
      have hh : ∀ w, aHalf (rW r) a b = some w → w < 2147483648 := fun w hw => by
        unfold aHalf at hw
        split at hw
        · cases hw
        · rename_i hc
          cases hw
          have := fHalf_in (dR (rW r) a b) 41 (rLo (rW r) a b) (rHi (rW r) a b) (by omega)
          obtain ⟨e1, e2, e3, e4⟩ := okBE hO.2.2.2.2.2.2.2.2.2.2.2.2.2.2.1 ha
          have : rHi (rW r) a b ≤ nE (rW r) a := by unfold rHi; split <;> omega
          omega
      cases h1 : aLin (rW r) a b with
      | none =>
        cases h2 : aHalf (rW r) a b with
        | none => rfl
        | some w =>
          rw [h1, h2] at e
          exact absurd e.symm (of_eq_false (nI_m1 (hh w h2)))
      | some v =>
        cases h2 : aHalf (rW r) a b with
        | none =>
          rw [h1, h2] at e
          exact absurd e (of_eq_false (nI_m1 (hl v h1)))
        | some w =>
          rw [h1, h2] at e
          have := (nI_eq (hl v h1) (hh w h2)).mp e
          rw [this]
    simp (disch := first | omega | rfl) only [e_192_162, e_192_163, e_192_164, e_192_165, e_192_168, e_192_170, e_192_173, e_192_174, e_192_175, e_192_176, e_192_179, e_192_181, e_192_184, e_192_185, e_192_186, e_192_187, e_192_190, e_192_192, e_192_194, e_192_197, e_192_198, e_192_201, e_192_202, e_192_205, e_192_206, e_192_209, e_192_210, ge1, ule_t, true_or, or_true, nI_add, nI_mul, nI_sub, nI_clamp, nI_lt_t, nI_lt_f, nI_le_t, nI_le_f, nI_eq_t, nI_eq_f, vp_nI, tI, fI, not_true, not_false_iff, true_and, and_true, Classical.not_not, mS_uI, mS_uA, mS_uJ, mS_uR, mS_uX, mR_uI, mR_uA, mR_uJ, mR_uX, mX_uI, mX_uA, mX_uJ, mX_uR, mI_s, mI_n, mI_A, mI_An, mI_uJ, mI_uR, mI_uX, mJ_uI, mJ_uA, mJ_uR, mJ_uX, onR_s, kC_v, kC_n, kC_t, sh, k0, k2, k4, cgS, q1, q2, q3, hne, fun h => hne (Eq.symm h), forall_const, false_implies, eq_self]
    exact hq
theorem w_192 (hI : CI μ s c r u pr tn) (hA : AI r u pr tn) (hP : RecP r) (ha : a < nM r) (hb : b < nM r) (hq : Q (some (some (.int (nI 1)))) μ) : Ev (d + 7) 192 [.ref 1000, .int (nI a), .int (nI b)] μ Q := by
  obtain ⟨e1, e2, e3, e4⟩ := okBE hA.1.2.2.2.2.2.2.2.2.2.2.2.2.2.2.1 ha
  obtain ⟨f1, f2, f3, f4⟩ := okBE hA.1.2.2.2.2.2.2.2.2.2.2.2.2.2.2.1 hb
  have hlo : nB (rW r) a ≤ rLo (rW r) a b ∧ nB (rW r) b ≤ rLo (rW r) a b ∧ (rLo (rW r) a b = nB (rW r) a ∨ rLo (rW r) a b = nB (rW r) b) := by unfold rLo; split <;> omega
  have hhi : rHi (rW r) a b ≤ nE (rW r) a ∧ rHi (rW r) a b ≤ nE (rW r) b ∧ (rHi (rW r) a b = nE (rW r) a ∨ rHi (rW r) a b = nE (rW r) b) := by unfold rHi; split <;> omega
  have k1 : ule (uad (0, 0) (1, 6)) (10, 100) = True := eq_true (show 0 + 1 ≤ 10 ∧ 0 + 6 ≤ 100 by omega)
  have sh := hI.1.1
  have z0 : lwN (rLo (rW r) a b) (rHi (rW r) a b) 0 = -1 := if_neg (by omega)
  have z1 : hgN (rLo (rW r) a b) (rHi (rW r) a b) 0 = -1 := if_neg (by omega)
  have h1 := l_192a (d := d) (Q := Q) (l7 := none) hI hA hP ha hb 41 0 (by omega)
  rw [z0, z1, show oN (fsN (dR (rW r) a b) (rLo (rW r) a b) (rHi (rW r) a b) 0) = -1 from rfl] at h1
  rw [in_192]
  simp (disch := first | omega | rfl) only [e_192_0, e_192_1, e_192_2, e_192_3, e_192_5, e_192_6, e_192_8, e_192_9, mS_uI, mS_uA, mS_uJ, mS_uR, mS_uX, mR_uI, mR_uA, mR_uJ, mR_uX, mX_uI, mX_uA, mX_uJ, mX_uR, mI_s, mI_n, mI_A, mI_An, mI_uJ, mI_uR, mI_uX, mJ_uI, mJ_uA, mJ_uR, mJ_uX, onR_s, kC_v, kC_n, kC_t]
  rw [h1]
  clear h1
  have hL : fsN (dR (rW r) a b) (rLo (rW r) a b) (rHi (rW r) a b) 41 = aLin (rW r) a b := by
    by_cases h : rHi (rW r) a b < rLo (rW r) a b
    · rw [fsN_none h]
      unfold aLin
      rw [fLin, if_pos h]
    · exact fsN_fLin (by omega) 42 _ (Nat.le_refl _) (by omega) (by omega) (fsN_lo _ (Nat.le_refl _))
  rw [hL, e_192_11]
  by_cases h : rHi (rW r) a b < rLo (rW r) a b
  · have z2 : hgN (rLo (rW r) a b) (rHi (rW r) a b) 41 = -1 := if_neg (by omega)
    have hH : aHalf (rW r) a b = none := if_pos (Or.inl h)
    have fin := fun l3 l4 => l_192c (d := d) (Q := Q) (l3 := l3) (l4 := l4) (l7 := none) hI hA ha hb hq
    rw [hH, oN_none] at fin
    rw [z2]
    simp (disch := first | omega | rfl) only [e_192_13, e_192_15, e_192_88, e_192_89, e_192_91, e_192_93, e_192_96, e_192_97, e_192_98, e_192_100, e_192_103, e_192_104, e_192_105, e_192_107, e_192_110, ge1, ule_t, true_or, or_true, nI_add, nI_mul, nI_sub, nI_clamp, nI_lt_t, nI_lt_f, nI_le_t, nI_le_f, nI_eq_t, nI_eq_f, vp_nI, tI, fI, not_true, not_false_iff, true_and, and_true, Classical.not_not, mS_uI, mS_uA, mS_uJ, mS_uR, mS_uX, mR_uI, mR_uA, mR_uJ, mR_uX, mX_uI, mX_uA, mX_uJ, mX_uR, mI_s, mI_n, mI_A, mI_An, mI_uJ, mI_uR, mI_uX, mJ_uI, mJ_uA, mJ_uR, mJ_uX, onR_s, kC_v, kC_n, kC_t, m1_lt_z, forall_const, false_implies]
    exact fin _ _
  · have z2 : hgN (rLo (rW r) a b) (rHi (rW r) a b) 41 = nI (rHi (rW r) a b) := by unfold hgN; rw [if_pos (by omega), if_neg (by omega)]
    have z3 : lwN (rLo (rW r) a b) (rHi (rW r) a b) 41 = nI (rLo (rW r) a b) := if_pos (by omega)
    have g1 := fun (d : Nat) (Q : Po) => w_108 (d := d) (Q := Q) (t := rHi (rW r) a b) hI hA ha (by omega)
    have g2 := fun (d : Nat) (Q : Po) => w_108 (d := d) (Q := Q) (t := rHi (rW r) a b) hI hA hb (by omega)
    have r1 : recA (rW r) a (rHi (rW r) a b) = rW r a (23 + rHi (rW r) a b) := if_pos (by omega)
    have r2 : recA (rW r) b (rHi (rW r) a b) = rW r b (23 + rHi (rW r) a b) := if_pos (by omega)
    rw [r1] at g1
    rw [r2] at g2
    rw [z2, z3]
    by_cases hd : dR (rW r) a b (rHi (rW r) a b) = true
    · have hH : aHalf (rW r) a b = some (fHalf (dR (rW r) a b) 41 (rLo (rW r) a b) (rHi (rW r) a b)) := if_neg (by rintro (h2 | h2); omega; rw [hd] at h2; cases h2)
      have fin := fun l3 l4 l7 => l_192c (d := d) (Q := Q) (l3 := l3) (l4 := l4) (l7 := l7) hI hA ha hb hq
      rw [hH, oN_some] at fin
      rw [dR_t] at hd
      simp (disch := first | omega | rfl) only [e_192_13, e_192_15, e_192_88, e_192_89, e_192_91, e_192_93, e_192_96, e_192_97, e_192_98, e_192_100, e_192_103, e_192_104, e_192_105, e_192_107, e_192_110, ge1, ule_t, true_or, or_true, nI_add, nI_mul, nI_sub, nI_clamp, nI_lt_t, nI_lt_f, nI_le_t, nI_le_f, nI_eq_t, nI_eq_f, vp_nI, tI, fI, not_true, not_false_iff, true_and, and_true, Classical.not_not, mS_uI, mS_uA, mS_uJ, mS_uR, mS_uX, mR_uI, mR_uA, mR_uJ, mR_uX, mX_uI, mX_uA, mX_uJ, mX_uR, mI_s, mI_n, mI_A, mI_An, mI_uJ, mI_uR, mI_uX, mJ_uI, mJ_uA, mJ_uR, mJ_uX, onR_s, kC_v, kC_n, kC_t, sh, k1, cgS, g1, g2, hd, forall_const, false_implies]
      refine l_192b hI hA ha hb 41 _ _ _ (by omega) (by omega) (by omega) (by omega) (by omega) (by omega) (fun h7 l7 => ?_)
      simp (disch := first | omega | rfl) only [e_192_159, e_192_160, mS_uI, mS_uA, mS_uJ, mS_uR, mS_uX, mR_uI, mR_uA, mR_uJ, mR_uX, mX_uI, mX_uA, mX_uJ, mX_uR, mI_s, mI_n, mI_A, mI_An, mI_uJ, mI_uR, mI_uX, mJ_uI, mJ_uA, mJ_uR, mJ_uX, onR_s, kC_v, kC_n, kC_t]
      exact fin _ _ _
    · have hH : aHalf (rW r) a b = none := if_pos (Or.inr (by simpa using hd))
      have fin := fun l3 l4 => l_192c (d := d) (Q := Q) (l3 := l3) (l4 := l4) (l7 := none) hI hA ha hb hq
      rw [hH, oN_none] at fin
      rw [dR_t, Classical.not_not] at hd
      rw [hd] at g1
      simp (disch := first | omega | rfl) only [e_192_13, e_192_15, e_192_88, e_192_89, e_192_91, e_192_93, e_192_96, e_192_97, e_192_98, e_192_100, e_192_103, e_192_104, e_192_105, e_192_107, e_192_110, ge1, ule_t, true_or, or_true, nI_add, nI_mul, nI_sub, nI_clamp, nI_lt_t, nI_lt_f, nI_le_t, nI_le_f, nI_eq_t, nI_eq_f, vp_nI, tI, fI, not_true, not_false_iff, true_and, and_true, Classical.not_not, mS_uI, mS_uA, mS_uJ, mS_uR, mS_uX, mR_uI, mR_uA, mR_uJ, mR_uX, mX_uI, mX_uA, mX_uJ, mX_uR, mI_s, mI_n, mI_A, mI_An, mI_uJ, mI_uR, mI_uX, mJ_uI, mJ_uA, mJ_uR, mJ_uX, onR_s, kC_v, kC_n, kC_t, sh, k1, cgS, g1, g2, forall_const, false_implies, eq_self]
      exact fin _ _
end Half

