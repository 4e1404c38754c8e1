/-! truth and what is foreseen, as the law computes them -/
def bz (b : Bool) : Nat := if b = true then 1 else 0
theorem bz_1 (b : Bool) : nI (bz b) &&& nI 1 = nI (bz b) := by cases b <;> decide
theorem bz_0 (b : Bool) : nI (bz b) &&& nI 0 = nI 0 := by cases b <;> decide
theorem fSet_no : ∀ n m, n ≤ m → fSet (fun j => decide (j = m)) n = 0
  | 0, _, _ => rfl
  | n + 1, m, h => by rw [fSet, fSet_no n m (by omega), if_neg (by simp; omega)]
theorem fSet_one : ∀ n m, m < n → fSet (fun j => decide (j = m)) n = 2 ^ m
  | 0, _, h => by omega
  | n + 1, m, h => by
    rw [fSet]
    by_cases hm : m = n
    · subst hm
      rw [fSet_no m m (Nat.le_refl _), if_pos (by simp), Nat.zero_add]
    · rw [fSet_one n m (by omega), if_neg (by simp; omega), Nat.add_zero]
def PT (E : Nat → Nat) (T : Nat → Bool) (t m j : Nat) : Bool := (decide (E j < t) || (decide (E j = t) && decide (j < m))) && T j
theorem PT_no {E : Nat → Nat} {T : Nat → Bool} {t m : Nat} (n : Nat) (h : ¬ (E m = t ∧ T m = true)) : fSet (PT E T t (m + 1)) n = fSet (PT E T t m) n := fSet_eq n (fun j _ => by
  unfold PT
  by_cases hj : j = m
  · subst hj
    by_cases h1 : E j = t
    · have hT : T j = false := by cases hT : T j with | false => rfl | true => exact absurd ⟨h1, hT⟩ h
      rw [hT, Bool.and_false, Bool.and_false]
    · simp [h1]
  · have : (j < m + 1) = (j < m) := propext ⟨fun _ => by omega, fun _ => by omega⟩
    simp only [this])
theorem PT_yes {E : Nat → Nat} {T : Nat → Bool} {t m n : Nat} (hm : m < n) (h1 : E m = t) (h2 : T m = true) : fSet (PT E T t m) n ||| 2 ^ m = fSet (PT E T t (m + 1)) n := by
  rw [← fSet_one n m hm, fSet_or]
  refine fSet_eq n (fun j _ => ?_)
  show (PT E T t m j || decide (j = m)) = PT E T t (m + 1) j
  unfold PT
  by_cases hj : j = m
  · subst hj; simp [h1, h2]
  · have : (j < m + 1) = (j < m) := propext ⟨fun _ => by omega, fun _ => by omega⟩
    simp [this, hj]
theorem PT_end {E : Nat → Nat} {T : Nat → Bool} {t n : Nat} : fSet (PT E T t n) n = fSet (PT E T (t + 1) 0) n := fSet_eq n (fun j hj => by
  unfold PT
  have : (E j < t + 1) = (E j < t ∨ E j = t) := propext ⟨fun _ => by omega, fun _ => by omega⟩
  simp [this, hj])
theorem PT_0 {E : Nat → Nat} {T : Nat → Bool} : ∀ n, fSet (PT E T 0 0) n = 0
  | 0 => rfl
  | n + 1 => by rw [fSet, PT_0 n, if_neg (by simp [PT])]
theorem PT_all {E : Nat → Nat} {T : Nat → Bool} {t n : Nat} (h : ∀ j, j < n → E j < t) : fSet (PT E T t 0) n = fSet T n := fSet_eq n (fun j hj => by unfold PT; simp [h j hj])
section LTrue
variable {d L : Nat} {xs : Nat → Int32} {μ μ0 μ1 μ2 μ' : Mu} {Q : Po} {x y g w o : Int32} {r r' tn F G : Nat → Int32} {u a b m i t σ s c k z n : Nat} {pr : Nat → Nat → Int32} {l0 l1 l2 l3 l4 l5 l6 l7 : Option Value}
theorem ku190 : ule (uad (0, 0) (1, 16)) (10, 100) = True := eq_true (show 0 + 1 ≤ 10 ∧ 0 + 16 ≤ 100 by omega)
theorem ku190a : ule (uad (uad (0, 0) (1, 16)) (1, 6)) (10, 100) = True := eq_true (show 0 + 1 + 1 ≤ 10 ∧ 0 + 16 + 6 ≤ 100 by omega)
theorem ku190b : ule (uad (uad (0, 0) (1, 16)) (2, 12)) (10, 100) = True := eq_true (show 0 + 1 + 2 ≤ 10 ∧ 0 + 16 + 12 ≤ 100 by omega)
theorem ku190c : ule (uad (uad (0, 0) (1, 16)) (4, 24)) (10, 100) = True := eq_true (show 0 + 1 + 4 ≤ 10 ∧ 0 + 16 + 24 ≤ 100 by omega)
theorem w_134 (hI : CI μ s c r u pr tn) (hA : AI r u pr tn) (ht : t ≤ nT r) (hi : i < 16) (hq : ∀ μ', Fr RT μ μ' → Q (some (some (.int (fTru r tn t i)))) μ') : Ev (d + 4) 134 [.ref 1000, .int (nI t), .int (nI i)] μ Q := by
  rw [c_134 hI.1 hI.2.2.1.1 hA.1 hI.2.2.2.1 hi ht hI.2.2.2.2.1]
  exact hq _ (Fr.refl.au ⟨by omega, by omega⟩)
theorem w_135 (hI : CI μ s c r u pr tn) (hA : AI r u pr tn) (hq : ∀ μ', Fr RT μ μ' → Q (some (some (.int (nI (fSet (fIsT r tn) (nM r)))))) μ') : Ev (d + 4) 135 [.ref 1000] μ Q := by
  rw [c_135 hI.1 hI.2.2.1.1 hA.1 hI.2.2.2.1 hI.2.2.2.2.1]
  exact hq _ (Fr.refl.au ⟨by omega, by omega⟩)
theorem w_138 (hI : CI μ s c r u pr tn) (hA : AI r u pr tn) (hm : m < nM r) (hi : i < 16) (hq : ∀ μ', Fr RT μ μ' → Q (some (some (.int (fSee r m (vC r m) (nE (rW r) m) (nT r - nE (rW r) m) i)))) μ') : Ev (d + 4) 138 [.ref 1000, .int (nI m), .int (nI i)] μ Q := by
  rw [c_138 hI.1 hI.2.2.1.1 hA.1 hI.2.2.2.1 hm hi]
  exact hq _ (Fr.refl.au ⟨by omega, by omega⟩)
theorem w_98_1 (hI : CI μ s c r u pr tn) (hA : AI r u pr tn) : Ev (d + 1) 98 [.ref 1000, .int (nI 1)] μ Q = Q (some (some (.int (nI (nT r))))) μ := by
  rw [c_98_1 hI.1 hI.2.2.1.1 hA.1, hA.1.2.2.1]
theorem w_98_0 (hI : CI μ s c r u pr tn) (hA : AI r u pr tn) : Ev (d + 1) 98 [.ref 1000, .int (nI 0)] μ Q = Q (some (some (.int (nI (nM r))))) μ := by
  rw [c_98_0 hI.1 hI.2.2.1.1 hA.1, hA.1.1]
theorem w_98_3 (hI : CI μ s c r u pr tn) (hA : AI r u pr tn) : Ev (d + 1) 98 [.ref 1000, .int (nI 3)] μ Q = Q (some (some (.int (nI (nF r))))) μ := by
  rw [c_98_3 hI.1 hI.2.2.1.1 hA.1, hA.1.2.2.2.2.2.2.1]
theorem zEq (h : EqL (mI μ z) G) (hf : Fr RT μ μ') (hz : 1298 ≤ z) : EqL (mI μ' z) G := fun k hk => by rw [hf.2.2.2 z (by unfold RT; omega) k]; exact h k hk
/-- the law's cells begin -/
theorem l_190A (hL : L ≤ 260) (hst : ∀ c, c < 16 → tn c = nI (staN L xs c)) (hz : 1298 ≤ z) (hs : mS μ0 z = (20, 16)) (hSc : ScR L xs μ0) : ∀ m c μ, c + m = 16 → Fr (RZ z) μ0 μ → (∀ j, j < c → mI μ z j = tn j) → (∀ μ', Fr (RZ z) μ0 μ' → EqL (mI μ' z) tn → EM 190 (d + 8) 27 [l0, some (.ref 300), some (.ref z), some (.int (nI 16)), l4, l5, l6, l7] [] μ' (uad (0, 0) (1, 16)) Q) → EM 190 (d + 8) 7 [l0, some (.ref 300), some (.ref z), some (.int (nI c)), l4, l5, l6, l7] [] μ (uad (0, 0) (1, 16)) Q := by
  intro m
  induction m with
  | zero =>
    intro c μ hc hf hE hq
    obtain rfl : c = 16 := by omega
    rw [e_190_7]
    simp (disch := first | omega | rfl) only [e_190_8, e_190_10, e_190_13, e_190_14, e_190_15, e_190_16, e_190_17, e_190_20, e_190_21, e_190_24, ge1, ule_t, true_or, or_true, nI_add, nI_mul, nI_sub, nI_clamp, nI_lt_t, nI_lt_f, nI_le_t, nI_le_f, nI_eq_t, nI_eq_f, vp_nI, tI, fI, not_true, not_false_iff, true_and, and_true, Classical.not_not, mS_uI, mS_uA, mS_uJ, mS_uR, mS_uX, mR_uI, mR_uA, mR_uJ, mR_uX, mX_uI, mX_uA, mX_uJ, mX_uR, mI_s, mI_n, mI_A, mI_An, mI_uJ, mI_uR, mI_uX, mJ_uI, mJ_uA, mJ_uR, mJ_uX, onR_s, kC_v, kC_n, kC_t, forall_const, false_implies]
    exact hq μ hf hE
  | succ m ih =>
    intro c μ hc hf hE hq
    have sz : mS μ z = (20, 16) := (congrFun hf.sh z).trans hs
    have hSc2 : ScR L xs μ := ⟨(congrFun hf.sh 300).trans hSc.1, fun k => (hf.2.2.2 300 (by unfold RZ RT; omega) k).trans (hSc.2 k)⟩
    have g1 := fun (d : Nat) (Q : Po) => w_176 (d := d) (Q := Q) (c := c) hSc2 hL (by omega)
    rw [e_190_7]
    simp (disch := first | omega | rfl) only [e_190_8, e_190_10, e_190_13, e_190_14, e_190_15, e_190_16, e_190_17, e_190_20, e_190_21, e_190_24, ge1, ule_t, true_or, or_true, nI_add, nI_mul, nI_sub, nI_clamp, nI_lt_t, nI_lt_f, nI_le_t, nI_le_f, nI_eq_t, nI_eq_f, vp_nI, tI, fI, not_true, not_false_iff, true_and, and_true, Classical.not_not, mS_uI, mS_uA, mS_uJ, mS_uR, mS_uX, mR_uI, mR_uA, mR_uJ, mR_uX, mX_uI, mX_uA, mX_uJ, mX_uR, mI_s, mI_n, mI_A, mI_An, mI_uJ, mI_uR, mI_uX, mJ_uI, mJ_uA, mJ_uR, mJ_uX, onR_s, kC_v, kC_n, kC_t, sz, g1, ku190, forall_const, false_implies]
    refine ih (c + 1) _ (by omega) (hf.iu (Or.inr rfl)) (fun j hj => ?_) hq
    by_cases h : j = c
    · subst h; rw [mI_s, hst j (by omega)]
    · rw [mI_n (by omega)]; exact hE j (by omega)
/-- truth, cell by cell -/
theorem l_190B1 (hA : AI r u pr tn) (hz : 1298 ≤ z) (ht : t ≤ nT r) : ∀ m c μ, c + m = 16 → CI μ 1032 1055 r u pr tn → mS μ z = (20, 16) → EqL (mI μ z) (fTru r tn t) → (∀ μ', Fr RT μ μ' → EM 190 (d + 8) 75 [some (.ref 1000), l1, some (.ref z), l3, some (.int (nI t)), some (.int (nI 16)), l6, l7] [] μ' (uad (0, 0) (1, 16)) Q) → EM 190 (d + 8) 45 [some (.ref 1000), l1, some (.ref z), l3, some (.int (nI t)), some (.int (nI c)), l6, l7] [] μ (uad (0, 0) (1, 16)) Q := by
  intro m
  induction m with
  | zero =>
    intro c μ hc hI hs hE hq
    obtain rfl : c = 16 := by omega
    rw [e_190_45]
    simp (disch := first | omega | rfl) only [e_190_47, e_190_49, e_190_52, e_190_53, e_190_55, e_190_57, e_190_60, e_190_61, e_190_63, e_190_64, e_190_67, e_190_68, e_190_69, e_190_72, ge1, ule_t, true_or, or_true, nI_add, nI_mul, nI_sub, nI_clamp, nI_lt_t, nI_lt_f, nI_le_t, nI_le_f, nI_eq_t, nI_eq_f, vp_nI, tI, fI, not_true, not_false_iff, true_and, and_true, Classical.not_not, mS_uI, mS_uA, mS_uJ, mS_uR, mS_uX, mR_uI, mR_uA, mR_uJ, mR_uX, mX_uI, mX_uA, mX_uJ, mX_uR, mI_s, mI_n, mI_A, mI_An, mI_uJ, mI_uR, mI_uX, mJ_uI, mJ_uA, mJ_uR, mJ_uX, onR_s, kC_v, kC_n, kC_t, forall_const, false_implies]
    exact hq μ Fr.refl
  | succ m ih =>
    intro c μ hc hI hs hE hq
    have sh := hI.1.1
    rw [e_190_45]
    simp (disch := first | omega | rfl) only [e_190_47, e_190_49, e_190_52, e_190_53, e_190_55, e_190_57, e_190_60, e_190_61, e_190_63, e_190_64, e_190_67, e_190_68, e_190_69, e_190_72, ge1, ule_t, true_or, or_true, nI_add, nI_mul, nI_sub, nI_clamp, nI_lt_t, nI_lt_f, nI_le_t, nI_le_f, nI_eq_t, nI_eq_f, vp_nI, tI, fI, not_true, not_false_iff, true_and, and_true, Classical.not_not, mS_uI, mS_uA, mS_uJ, mS_uR, mS_uX, mR_uI, mR_uA, mR_uJ, mR_uX, mX_uI, mX_uA, mX_uJ, mX_uR, mI_s, mI_n, mI_A, mI_An, mI_uJ, mI_uR, mI_uX, mJ_uI, mJ_uA, mJ_uR, mJ_uX, onR_s, kC_v, kC_n, kC_t, sh, ku190a, forall_const, false_implies]
    refine w_134 hI hA ht (by omega) (fun μ1 h1 => ?_)
    have hs1 : mS μ1 z = (20, 16) := (congrFun h1.sh z).trans hs
    have hE1 := zEq hE h1 hz
    have e := hE1 c (by omega)
    simp (disch := first | omega | rfl) only [e_190_60, e_190_61, e_190_63, e_190_64, e_190_67, e_190_68, e_190_69, e_190_72, ge1, ule_t, true_or, or_true, nI_add, nI_mul, nI_sub, nI_clamp, nI_lt_t, nI_lt_f, nI_le_t, nI_le_f, nI_eq_t, nI_eq_f, vp_nI, tI, fI, not_true, not_false_iff, true_and, and_true, Classical.not_not, mS_uI, mS_uA, mS_uJ, mS_uR, mS_uX, mR_uI, mR_uA, mR_uJ, mR_uX, mX_uI, mX_uA, mX_uJ, mX_uR, mI_s, mI_n, mI_A, mI_An, mI_uJ, mI_uR, mI_uX, mJ_uI, mJ_uA, mJ_uR, mJ_uX, onR_s, kC_v, kC_n, kC_t, hs1, e, cgE h1.nx, ku190, forall_const, false_implies, eq_self]
    exact ih (c + 1) μ1 (by omega) (hI.rt hA h1) hs1 hE1 (fun μ' h => hq μ' (h1.trans h))
/-- a member's cells against those of the law -/
theorem l_190B3 (hI : CI μ 1032 1055 r u pr tn) (hA : AI r u pr tn) (hs : mS μ z = (20, 16)) (hE : EqL (mI μ z) G) (hm : m < nM r) : ∀ n c, c + n = 16 → EM 190 (d + 8) 108 [some (.ref 1000), l1, some (.ref z), l3, l4, some (.int (nI m)), some (.int (nI (bz (eqU (fun c => rW r m (7 + c)) G c)))), some (.int (nI c))] [] μ (uad (0, 0) (1, 16)) Q = EM 190 (d + 8) 146 [some (.ref 1000), l1, some (.ref z), l3, l4, some (.int (nI m)), some (.int (nI (bz (eqU (fun c => rW r m (7 + c)) G 16)))), some (.int (nI 16))] [] μ (uad (0, 0) (1, 16)) Q := by
  have sh := hI.1.1
  intro n
  induction n with
  | zero =>
    intro c hc
    obtain rfl : c = 16 := by omega
    rw [e_190_108]
    simp (disch := first | omega | rfl) only [e_190_110, e_190_112, e_190_115, e_190_117, e_190_118, e_190_120, e_190_122, e_190_125, e_190_126, e_190_128, e_190_129, e_190_132, e_190_133, e_190_136, e_190_137, e_190_138, e_190_140, e_190_143, ge1, ule_t, true_or, or_true, nI_add, nI_mul, nI_sub, nI_clamp, nI_lt_t, nI_lt_f, nI_le_t, nI_le_f, nI_eq_t, nI_eq_f, vp_nI, tI, fI, not_true, not_false_iff, true_and, and_true, Classical.not_not, mS_uI, mS_uA, mS_uJ, mS_uR, mS_uX, mR_uI, mR_uA, mR_uJ, mR_uX, mX_uI, mX_uA, mX_uJ, mX_uR, mI_s, mI_n, mI_A, mI_An, mI_uJ, mI_uR, mI_uX, mJ_uI, mJ_uA, mJ_uR, mJ_uX, onR_s, kC_v, kC_n, kC_t, forall_const, false_implies]
  | succ n ih =>
    intro c hc
    have g1 := fun (d : Nat) (Q : Po) => c_103 (d := d) (Q := Q) (i := c) hI.1 hI.2.2.1.1 hA.1 hm (by omega)
    have e := hE c (by omega)
    have i2 := ih (c + 1) (by omega)
    rw [show eqU (fun c => rW r m (7 + c)) G (c + 1) = (eqU (fun c => rW r m (7 + c)) G c && decide (rW r m (7 + c) = G c)) from rfl] at i2
    rw [e_190_108]
    by_cases h : rW r m (7 + c) = G c
    · rw [decide_eq_true h, Bool.and_true] at i2
      rw [h] at g1
      simp (disch := first | omega | rfl) only [e_190_110, e_190_112, e_190_115, e_190_117, e_190_118, e_190_120, e_190_122, e_190_125, e_190_126, e_190_128, e_190_129, e_190_132, e_190_133, e_190_136, e_190_137, e_190_138, e_190_140, e_190_143, ge1, ule_t, true_or, or_true, nI_add, nI_mul, nI_sub, nI_clamp, nI_lt_t, nI_lt_f, nI_le_t, nI_le_f, nI_eq_t, nI_eq_f, vp_nI, tI, fI, not_true, not_false_iff, true_and, and_true, Classical.not_not, mS_uI, mS_uA, mS_uJ, mS_uR, mS_uX, mR_uI, mR_uA, mR_uJ, mR_uX, mX_uI, mX_uA, mX_uJ, mX_uR, mI_s, mI_n, mI_A, mI_An, mI_uJ, mI_uR, mI_uX, mJ_uI, mJ_uA, mJ_uR, mJ_uX, onR_s, kC_v, kC_n, kC_t, sh, hs, g1, e, cgS, ku190, ku190b, bz_1, forall_const, false_implies, eq_self]
      exact i2
    · rw [decide_eq_false h, Bool.and_false, show bz false = 0 from rfl] at i2
      simp (disch := first | omega | rfl) only [e_190_110, e_190_112, e_190_115, e_190_117, e_190_118, e_190_120, e_190_122, e_190_125, e_190_126, e_190_128, e_190_129, e_190_132, e_190_133, e_190_136, e_190_137, e_190_138, e_190_140, e_190_143, ge1, ule_t, true_or, or_true, nI_add, nI_mul, nI_sub, nI_clamp, nI_lt_t, nI_lt_f, nI_le_t, nI_le_f, nI_eq_t, nI_eq_f, vp_nI, tI, fI, not_true, not_false_iff, true_and, and_true, Classical.not_not, mS_uI, mS_uA, mS_uJ, mS_uR, mS_uX, mR_uI, mR_uA, mR_uJ, mR_uX, mX_uI, mX_uA, mX_uJ, mX_uR, mI_s, mI_n, mI_A, mI_An, mI_uJ, mI_uR, mI_uX, mJ_uI, mJ_uA, mJ_uR, mJ_uX, onR_s, kC_v, kC_n, kC_t, sh, hs, g1, e, cgS, ku190, ku190b, bz_0, h, forall_const, false_implies]
      exact i2
/-- the members who have executed t turns -/
theorem l_190B2 (hI : CI μ 1032 1055 r u pr tn) (hA : AI r u pr tn) (hs : mS μ z = (20, 16)) (hE : EqL (mI μ z) (fTru r tn t)) (ht : t ≤ nT r) : ∀ n m (l6 l7 : Option Value), m + n = nM r → (∀ l6 l7, EM 190 (d + 8) 168 [some (.ref 1000), l1, some (.ref z), some (.int (nI (fSet (PT (nE (rW r)) (fIsT r tn) t (nM r)) (nM r)))), some (.int (nI t)), some (.int (nI (nM r))), l6, l7] [] μ (uad (0, 0) (1, 16)) Q) → EM 190 (d + 8) 78 [some (.ref 1000), l1, some (.ref z), some (.int (nI (fSet (PT (nE (rW r)) (fIsT r tn) t m) (nM r)))), some (.int (nI t)), some (.int (nI m)), l6, l7] [] μ (uad (0, 0) (1, 16)) Q := by
  have sh := hI.1.1
  have h6 := hA.1.2.1
  have T40 := hA.1.2.2.2.1
  have g0 := fun (d : Nat) (Q : Po) => w_98_0 (d := d) (Q := Q) hI hA
  intro n
  induction n with
  | zero =>
    intro m l6 l7 hm hq
    obtain rfl : m = nM r := by omega
    rw [e_190_78]
    simp (disch := first | omega | rfl) only [e_190_80, e_190_81, e_190_82, e_190_85, e_190_88, e_190_89, e_190_91, e_190_94, e_190_96, e_190_99, e_190_102, e_190_103, e_190_105, e_190_106, e_190_110, e_190_112, e_190_115, e_190_117, e_190_118, e_190_120, e_190_122, e_190_125, e_190_126, e_190_128, e_190_129, e_190_132, e_190_133, e_190_136, e_190_137, e_190_138, e_190_140, e_190_143, e_190_146, e_190_147, e_190_149, e_190_152, e_190_153, e_190_155, e_190_156, e_190_159, e_190_160, e_190_161, e_190_162, e_190_165, ge1, ule_t, true_or, or_true, nI_add, nI_mul, nI_sub, nI_clamp, nI_lt_t, nI_lt_f, nI_le_t, nI_le_f, nI_eq_t, nI_eq_f, vp_nI, tI, fI, not_true, not_false_iff, true_and, and_true, Classical.not_not, mS_uI, mS_uA, mS_uJ, mS_uR, mS_uX, mR_uI, mR_uA, mR_uJ, mR_uX, mX_uI, mX_uA, mX_uJ, mX_uR, mI_s, mI_n, mI_A, mI_An, mI_uJ, mI_uR, mI_uX, mJ_uI, mJ_uA, mJ_uR, mJ_uX, onR_s, kC_v, kC_n, kC_t, sh, g0, ku190, forall_const, false_implies]
    exact hq _ _
  | succ n ih =>
    intro m l6 l7 hm hq
    have g1 := fun (d : Nat) (Q : Po) => w_187 (d := d) (Q := Q) (m := m) hI hA (by omega)
    obtain ⟨-, -, -, e40⟩ := okBE hA.1.2.2.2.2.2.2.2.2.2.2.2.2.2.2.1 (show m < nM r by omega)
    rw [e_190_78]
    by_cases h : nE (rW r) m = t
    · rw [h] at g1
      simp (disch := first | omega | rfl) only [e_190_80, e_190_81, e_190_82, e_190_85, e_190_88, e_190_89, e_190_91, e_190_94, e_190_96, e_190_99, e_190_102, e_190_103, e_190_105, e_190_106, ge1, ule_t, true_or, or_true, nI_add, nI_mul, nI_sub, nI_clamp, nI_lt_t, nI_lt_f, nI_le_t, nI_le_f, nI_eq_t, nI_eq_f, vp_nI, tI, fI, not_true, not_false_iff, true_and, and_true, Classical.not_not, mS_uI, mS_uA, mS_uJ, mS_uR, mS_uX, mR_uI, mR_uA, mR_uJ, mR_uX, mX_uI, mX_uA, mX_uJ, mX_uR, mI_s, mI_n, mI_A, mI_An, mI_uJ, mI_uR, mI_uX, mJ_uI, mJ_uA, mJ_uR, mJ_uX, onR_s, kC_v, kC_n, kC_t, sh, g0, g1, cgS, ku190, ku190a, forall_const, false_implies, eq_self]
      have h3 := l_190B3 (d := d) (Q := Q) (l1 := l1) (l3 := some (.int (nI (fSet (PT (nE (rW r)) (fIsT r tn) t m) (nM r))))) (l4 := some (.int (nI t))) hI hA hs hE (show m < nM r by omega) 16 0 (by omega)
      rw [eqU_0, show bz true = 1 from rfl] at h3
      rw [h3]
      have eT : eqU (fun c => rW r m (7 + c)) (fTru r tn t) 16 = fIsT r tn m := by unfold fIsT; rw [h]
      rw [eT]
      by_cases hT : fIsT r tn m = true
      · have hi := ih (m + 1) (some (.int (nI 1))) (some (.int (nI 16))) (by omega) hq
        rw [← PT_yes (by omega) h hT] at hi
        have es : nI 1 <<< (nI m &&& 31) = nI (2 ^ m) := by rw [nI_shl (by omega), Nat.one_mul]
        rw [hT, show bz true = 1 from rfl]
        simp (disch := first | omega | rfl) only [e_190_146, e_190_147, e_190_149, e_190_152, e_190_153, e_190_155, e_190_156, e_190_159, e_190_160, e_190_161, e_190_162, e_190_165, ge1, ule_t, true_or, or_true, nI_add, nI_mul, nI_sub, nI_clamp, nI_lt_t, nI_lt_f, nI_le_t, nI_le_f, nI_eq_t, nI_eq_f, vp_nI, tI, fI, not_true, not_false_iff, true_and, and_true, Classical.not_not, mS_uI, mS_uA, mS_uJ, mS_uR, mS_uX, mR_uI, mR_uA, mR_uJ, mR_uX, mX_uI, mX_uA, mX_uJ, mX_uR, mI_s, mI_n, mI_A, mI_An, mI_uJ, mI_uR, mI_uX, mJ_uI, mJ_uA, mJ_uR, mJ_uX, onR_s, kC_v, kC_n, kC_t, es, nI_or, forall_const, false_implies]
        exact hi
      · have hi := ih (m + 1) (some (.int (nI 0))) (some (.int (nI 16))) (by omega) hq
        rw [PT_no (nM r) (by rintro ⟨-, h9⟩; exact hT h9)] at hi
        rw [Bool.not_eq_true] at hT
        rw [hT, show bz false = 0 from rfl]
        simp (disch := first | omega | rfl) only [e_190_146, e_190_147, e_190_149, e_190_152, e_190_153, e_190_155, e_190_156, e_190_159, e_190_160, e_190_161, e_190_162, e_190_165, ge1, ule_t, true_or, or_true, nI_add, nI_mul, nI_sub, nI_clamp, nI_lt_t, nI_lt_f, nI_le_t, nI_le_f, nI_eq_t, nI_eq_f, vp_nI, tI, fI, not_true, not_false_iff, true_and, and_true, Classical.not_not, mS_uI, mS_uA, mS_uJ, mS_uR, mS_uX, mR_uI, mR_uA, mR_uJ, mR_uX, mX_uI, mX_uA, mX_uJ, mX_uR, mI_s, mI_n, mI_A, mI_An, mI_uJ, mI_uR, mI_uX, mJ_uI, mJ_uA, mJ_uR, mJ_uX, onR_s, kC_v, kC_n, kC_t, nI_or, Nat.or_zero, forall_const, false_implies, eq_self]
        exact hi
    · have hne : ¬ nI (nE (rW r) m) = nI t := fun e => h ((nI_eq (by omega) (by omega)).mp e)
      have hi := ih (m + 1) l6 l7 (by omega) hq
      rw [PT_no (nM r) (by rintro ⟨h9, -⟩; exact h h9)] at hi
      simp (disch := first | omega | rfl) only [e_190_80, e_190_81, e_190_82, e_190_85, e_190_88, e_190_89, e_190_91, e_190_94, e_190_96, e_190_99, e_190_102, e_190_103, e_190_105, e_190_106, e_190_162, e_190_165, ge1, ule_t, true_or, or_true, nI_add, nI_mul, nI_sub, nI_clamp, nI_lt_t, nI_lt_f, nI_le_t, nI_le_f, nI_eq_t, nI_eq_f, vp_nI, tI, fI, not_true, not_false_iff, true_and, and_true, Classical.not_not, mS_uI, mS_uA, mS_uJ, mS_uR, mS_uX, mR_uI, mR_uA, mR_uJ, mR_uX, mX_uI, mX_uA, mX_uJ, mX_uR, mI_s, mI_n, mI_A, mI_An, mI_uJ, mI_uR, mI_uX, mJ_uI, mJ_uA, mJ_uR, mJ_uX, onR_s, kC_v, kC_n, kC_t, sh, g0, g1, cgS, hne, ku190, ku190a, forall_const, false_implies]
      exact hi
/-- turn by turn -/
theorem l_190B (hI0 : CI μ0 1032 1055 r u pr tn) (hA : AI r u pr tn) (hz : 1298 ≤ z) (hs0 : mS μ0 z = (20, 16)) : ∀ n t μ (l5 l6 l7 : Option Value), t + n = nT r + 1 → Fr (RZ z) μ0 μ → (t ≤ nT r → EqL (mI μ z) (fTru r tn t)) → (∀ μ' l4 l5 l6 l7, Fr (RZ z) μ0 μ' → EM 190 (d + 8) 191 [some (.ref 1000), l1, some (.ref z), some (.int (nI (fSet (fIsT r tn) (nM r)))), l4, l5, l6, l7] [] μ' (uad (0, 0) (1, 16)) Q) → EM 190 (d + 8) 32 [some (.ref 1000), l1, some (.ref z), some (.int (nI (fSet (PT (nE (rW r)) (fIsT r tn) t 0) (nM r)))), some (.int (nI t)), l5, l6, l7] [] μ (uad (0, 0) (1, 16)) Q := by
  have T40 := hA.1.2.2.2.1
  intro n
  induction n with
  | zero =>
    intro t μ l5 l6 l7 ht hf hE hq
    obtain rfl : t = nT r + 1 := by omega
    have hI := hI0.rz hA hf hz
    have sh := hI.1.1
    have g0 := fun (d : Nat) (Q : Po) => w_98_1 (d := d) (Q := Q) hI hA
    have hle : (nI (nT r + 1) ≤ nI (nT r)) = False := nI_le_f (by omega) (by omega)
    have eP : fSet (PT (nE (rW r)) (fIsT r tn) (nT r + 1) 0) (nM r) = fSet (fIsT r tn) (nM r) := PT_all (fun j hj => by have := nE_le hA.1 hj; omega)
    rw [eP, e_190_32]
    simp (disch := first | omega | rfl) only [e_190_34, e_190_35, e_190_36, e_190_39, e_190_42, e_190_43, ge1, ule_t, true_or, or_true, nI_add, nI_mul, nI_sub, nI_clamp, nI_lt_t, nI_lt_f, nI_le_t, nI_le_f, nI_eq_t, nI_eq_f, vp_nI, tI, fI, not_true, not_false_iff, true_and, and_true, Classical.not_not, mS_uI, mS_uA, mS_uJ, mS_uR, mS_uX, mR_uI, mR_uA, mR_uJ, mR_uX, mX_uI, mX_uA, mX_uJ, mX_uR, mI_s, mI_n, mI_A, mI_An, mI_uJ, mI_uR, mI_uX, mJ_uI, mJ_uA, mJ_uR, mJ_uX, onR_s, kC_v, kC_n, kC_t, sh, g0, hle, ku190, forall_const, false_implies]
    exact hq _ _ _ _ _ hf
  | succ n ih =>
    intro t μ l5 l6 l7 ht hf hE hq
    have hI := hI0.rz hA hf hz
    have sh := hI.1.1
    have hs : mS μ z = (20, 16) := (congrFun hf.sh z).trans hs0
    have g0 := fun (d : Nat) (Q : Po) => w_98_1 (d := d) (Q := Q) hI hA
    rw [e_190_32]
    simp (disch := first | omega | rfl) only [e_190_34, e_190_35, e_190_36, e_190_39, e_190_42, e_190_43, ge1, ule_t, true_or, or_true, nI_add, nI_mul, nI_sub, nI_clamp, nI_lt_t, nI_lt_f, nI_le_t, nI_le_f, nI_eq_t, nI_eq_f, vp_nI, tI, fI, not_true, not_false_iff, true_and, and_true, Classical.not_not, mS_uI, mS_uA, mS_uJ, mS_uR, mS_uX, mR_uI, mR_uA, mR_uJ, mR_uX, mX_uI, mX_uA, mX_uJ, mX_uR, mI_s, mI_n, mI_A, mI_An, mI_uJ, mI_uR, mI_uX, mJ_uI, mJ_uA, mJ_uR, mJ_uX, onR_s, kC_v, kC_n, kC_t, sh, g0, ku190, forall_const, false_implies]
    refine l_190B1 hA hz (by omega) 16 0 μ (by omega) hI hs (hE (by omega)) (fun μ1 h1 => ?_)
    have hI1 := hI.rt hA h1
    have sh1 := hI1.1.1
    have hs1 : mS μ1 z = (20, 16) := (congrFun h1.sh z).trans hs
    have hE1 := zEq (hE (by omega)) h1 hz
    have g1 := fun (d : Nat) (Q : Po) => w_98_1 (d := d) (Q := Q) hI1 hA
    simp (disch := first | omega | rfl) only [e_190_75, e_190_76, mS_uI, mS_uA, mS_uJ, mS_uR, mS_uX, mR_uI, mR_uA, mR_uJ, mR_uX, mX_uI, mX_uA, mX_uJ, mX_uR, mI_s, mI_n, mI_A, mI_An, mI_uJ, mI_uR, mI_uX, mJ_uI, mJ_uA, mJ_uR, mJ_uX, onR_s, kC_v, kC_n, kC_t]
    refine l_190B2 hI1 hA hs1 hE1 (by omega) (nM r) 0 _ _ (by omega) (fun k6 k7 => ?_)
    rw [PT_end]
    by_cases hlt : t < nT r
    · have g2 := fun (d : Nat) (Q : Po) => w_189 (d := d) (Q := Q) (F := mI μ1 z) hI1 hA hz hs1 hlt
      rw [uA_self] at g2
      simp (disch := first | omega | rfl) only [e_190_168, e_190_170, e_190_171, e_190_172, e_190_175, e_190_178, e_190_179, e_190_180, e_190_182, e_190_185, e_190_188, ge1, ule_t, true_or, or_true, nI_add, nI_mul, nI_sub, nI_clamp, nI_lt_t, nI_lt_f, nI_le_t, nI_le_f, nI_eq_t, nI_eq_f, vp_nI, tI, fI, not_true, not_false_iff, true_and, and_true, Classical.not_not, mS_uI, mS_uA, mS_uJ, mS_uR, mS_uX, mR_uI, mR_uA, mR_uJ, mR_uX, mX_uI, mX_uA, mX_uJ, mX_uR, mI_s, mI_n, mI_A, mI_An, mI_uJ, mI_uR, mI_uX, mJ_uI, mJ_uA, mJ_uR, mJ_uX, onR_s, kC_v, kC_n, kC_t, sh1, g1, g2, cgU, ku190, ku190c, forall_const, false_implies]
      exact ih (t + 1) _ _ _ _ (by omega) ((hf.trans h1.rz).au (Or.inr rfl)) (fun h k hk => by
        rw [mI_A]
        exact EqL.turn hE1 (okP_z hA.1.2.2.2.2.2.2.2.2.2.2.2.2.2.2.2.2.1 hlt).2.2 _ (Nat.le_refl _) k hk) hq
    · obtain rfl : t = nT r := by omega
      simp (disch := first | omega | rfl) only [e_190_168, e_190_170, e_190_171, e_190_172, e_190_175, e_190_178, e_190_179, e_190_180, e_190_182, e_190_185, e_190_188, ge1, ule_t, true_or, or_true, nI_add, nI_mul, nI_sub, nI_clamp, nI_lt_t, nI_lt_f, nI_le_t, nI_le_f, nI_eq_t, nI_eq_f, vp_nI, tI, fI, not_true, not_false_iff, true_and, and_true, Classical.not_not, mS_uI, mS_uA, mS_uJ, mS_uR, mS_uX, mR_uI, mR_uA, mR_uJ, mR_uX, mX_uI, mX_uA, mX_uJ, mX_uR, mI_s, mI_n, mI_A, mI_An, mI_uJ, mI_uR, mI_uX, mJ_uI, mJ_uA, mJ_uR, mJ_uX, onR_s, kC_v, kC_n, kC_t, sh1, g1, ku190, forall_const, false_implies]
      exact ih (nT r + 1) _ _ _ _ (by omega) (hf.trans h1.rz) (fun h => by omega) hq
end LTrue

