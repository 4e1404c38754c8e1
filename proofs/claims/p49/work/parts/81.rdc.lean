/-! reading: the class's small steps -/
def ckI (lo hi : Nat) (t : TK) : Int32 := if t.1 = 2 then (if lo ≤ t.2.2.2 ∧ t.2.2.2 ≤ hi then nI 0 else -12) else -11
def fnd (f : Nat → Nat) (tn : Nat → Int32) (n : Nat) (t : TK) : Int32 := fNm tn (nI (nmQ f t 6)) n 0
def ckM (f : Nat → Nat) (tn : Nat → Int32) (n : Nat) (t : TK) : Int32 := if isN t then (if fnd f tn n t = -1 then -13 else nI 0) else -11
theorem ckI_t {lo hi : Nat} {t : TK} : ckI lo hi t = nI 0 ↔ t.1 = 2 ∧ lo ≤ t.2.2.2 ∧ t.2.2.2 ≤ hi := by
  unfold ckI
  by_cases h1 : t.1 = 2
  · rw [if_pos h1]
    by_cases h2 : lo ≤ t.2.2.2 ∧ t.2.2.2 ≤ hi
    · rw [if_pos h2]; exact ⟨fun _ => ⟨h1, h2⟩, fun _ => rfl⟩
    · rw [if_neg h2]; exact ⟨fun z => absurd z (by decide), fun z => absurd z.2 h2⟩
  · rw [if_neg h1]; exact ⟨fun z => absurd z (by decide), fun z => absurd z.1 h1⟩
theorem ckI_s {lo hi : Nat} {t : TK} (h : ¬ t.1 = 2) : ckI lo hi t = -11 := if_neg h
theorem ckI_r {lo hi : Nat} {t : TK} (h : t.1 = 2) (h2 : ¬ (lo ≤ t.2.2.2 ∧ t.2.2.2 ≤ hi)) : ckI lo hi t = -12 := by unfold ckI; rw [if_pos h, if_neg h2]
theorem ckM_t {f : Nat → Nat} {tn : Nat → Int32} {n : Nat} {t : TK} : ckM f tn n t = nI 0 ↔ isN t ∧ ¬ fnd f tn n t = -1 := by
  unfold ckM
  by_cases h1 : isN t
  · rw [if_pos h1]
    by_cases h2 : fnd f tn n t = -1
    · rw [if_pos h2]; exact ⟨fun z => absurd z (by decide), fun z => absurd h2 z.2⟩
    · rw [if_neg h2]; exact ⟨fun _ => ⟨h1, h2⟩, fun _ => rfl⟩
  · rw [if_neg h1]; exact ⟨fun z => absurd z (by decide), fun z => absurd z.1 h1⟩
theorem fNm_c {tn : Nat → Int32} {x : Int32} : ∀ n k, fNm tn x n k = -1 ∨ ∃ m, k ≤ m ∧ m < k + n ∧ fNm tn x n k = nI m
  | 0, k => Or.inl rfl
  | n + 1, k => by
    rw [fNm]
    by_cases h : tn (16 + k) = x
    · rw [if_pos h]; exact Or.inr ⟨k, Nat.le_refl _, by omega, rfl⟩
    · rw [if_neg h]
      rcases fNm_c (tn := tn) (x := x) n (k + 1) with h1 | ⟨m, h1, h2, h3⟩
      · exact Or.inl h1
      · exact Or.inr ⟨m, by omega, by omega, h3⟩
theorem fnd_c {f : Nat → Nat} {tn : Nat → Int32} {n : Nat} {t : TK} (h : ¬ fnd f tn n t = -1) : ∃ m, m < n ∧ fnd f tn n t = nI m := by
  rcases fNm_c (tn := tn) (x := nI (nmQ f t 6)) n 0 with h1 | ⟨m, h1, h2, h3⟩
  · exact absurd h1 h
  · exact ⟨m, by omega, h3⟩
theorem cv_in {lo hi v : Nat} (h1 : lo ≤ 9999) (h2 : hi ≤ 9999) : (nI lo ≤ nI (cvl v) ∧ nI (cvl v) ≤ nI hi) = (lo ≤ v ∧ v ≤ hi) := by
  have e : ∀ a b : Nat, a ≤ 10000 → b ≤ 10000 → (nI a ≤ nI b ↔ a ≤ b) := fun a b ha hb => by
    rw [Int32.le_iff_toInt_le, nI_toInt (by omega), nI_toInt (by omega)]
    omega
  have := cvl_le v
  apply propext
  rw [e _ _ (by omega) (by omega), e _ _ (by omega) (by omega)]
  unfold cvl
  split <;> omega
abbrev Sort6 : List (List Nat) := [txB 3, txB 4, txB 5, txB 6, txB 7, txB 8]
abbrev Set2 : List (List Nat) := [txB 12, txB 13]
abbrev Stm6 : List (List Nat) := [txB 0, txB 1, txB 2, txB 9, txB 10, txB 11]
section LdU
variable {g : Nat → Int32} {L hs gs x : Nat} {tk er ea y : Int32} {t : TK}
theorem ldT_3 : ldT g L hs gs t tk er ea 3 = nI L := rfl
theorem ldT_4 : ldT g L hs gs t tk er ea 4 = nI hs := rfl
theorem ldT_5 : ldT g L hs gs t tk er ea 5 = nI gs := rfl
theorem ldT_10 : ldT g L hs gs t tk er ea 10 = tk := rfl
theorem ldT_11 : ldT g L hs gs t tk er ea 11 = er := rfl
theorem ldT_12 : ldT g L hs gs t tk er ea 12 = ea := rfl
theorem ldT_u4 : upd (ldT g L hs gs t tk er ea) 4 (nI x) = ldT g L x gs t tk er ea := ld_u4
theorem ldT_u5 : upd (ldT g L hs gs t tk er ea) 5 (nI x) = ldT g L hs x t tk er ea := ld_u5
theorem ldT_u10 : upd (ldT g L hs gs t tk er ea) 10 y = ldT g L hs gs t y er ea := ld_u10
theorem ldT_u11 : upd (ldT g L hs gs t tk er ea) 11 y = ldT g L hs gs t tk y ea := ld_u11
theorem ldT_u12 : upd (ldT g L hs gs t tk er ea) 12 y = ldT g L hs gs t tk er y := ld_u12
end LdU
section RdC
variable {d : Nat} {Q : Po} {μ : Mu} {f : Nat → Nat} {g F tn : Nat → Int32} {L hs gs i k lo hi s c n : Nat} {tk er ea x : Int32} {t : TK}
theorem s_53 (hL : LdC μ f L) : Ev (d + 1) 53 [.ref 1030, .int x] (uA μ 1030 (ldT g L hs gs t tk er ea)) Q = Q (some (some (.int (nI 0)))) (uA μ 1030 (ldT g L hs gs t tk x (nI t.2.1))) := by
  obtain ⟨g1, g2, g3, g4, g5, g6⟩ := hL
  rw [in_53]
  simp (disch := first | omega | rfl) only [e_53_0, e_53_1, e_53_2, e_53_5, e_53_6, e_53_7, e_53_10, e_53_13, e_53_14, ge1, ule_t, true_or, or_true, nI_add, nI_mul, nI_sub, nI_clamp, nI_lt_t, nI_lt_f, nI_le_t, nI_le_f, nI_eq_t, nI_eq_f, vp_nI, tI, fI, not_true, not_false_iff, true_and, and_true, Classical.not_not, mS_uI, mS_uA, mS_uJ, mS_uR, mS_uX, mR_uI, mR_uA, mR_uJ, mR_uX, mX_uI, mX_uA, mX_uJ, mX_uR, mI_s, mI_n, mI_A, mI_An, mI_uJ, mI_uR, mI_uX, mJ_uI, mJ_uA, mJ_uR, mJ_uX, onR_s, kC_v, kC_n, kC_t, mI_A, ldT_7, g1, uIA, ldT_u11, ldT_u12]
theorem s_51t (hL : LdC μ f L) (ht : okTk f L t) (h1 : lo ≤ 9999) (h2 : hi ≤ 9999) (h : ckI lo hi t = nI 0) : Ev (d + 2) 51 [.ref 1030, .int (nI lo), .int (nI hi)] (uA μ 1030 (ldT g L hs gs t tk er ea)) Q = Q (some (some (.int (nI 1)))) (uA μ 1030 (ldT g L hs gs t tk er ea)) := by
  obtain ⟨c1, c2⟩ := ckI_t.mp h
  have e1 : (nI (ckk t.1) = nI 2) = True := (ckk2 ht.1).trans (eq_true c1)
  have e2 := Eq.mpr (cv_in (v := t.2.2.2) h1 h2) c2
  have g1 := hL.1
  rw [in_51]
  simp (disch := first | omega | rfl) only [e_51_0, e_51_1, e_51_4, e_51_5, e_51_8, e_51_9, e_51_11, e_51_14, e_51_15, e_51_16, e_51_19, e_51_20, e_51_21, e_51_24, e_51_27, e_51_28, e_51_30, e_51_33, e_51_36, e_51_37, e_51_40, e_51_41, ge1, ule_t, true_or, or_true, nI_add, nI_mul, nI_sub, nI_clamp, nI_lt_t, nI_lt_f, nI_le_t, nI_le_f, nI_eq_t, nI_eq_f, vp_nI, tI, fI, not_true, not_false_iff, true_and, and_true, Classical.not_not, mS_uI, mS_uA, mS_uJ, mS_uR, mS_uX, mR_uI, mR_uA, mR_uJ, mR_uX, mX_uI, mX_uA, mX_uJ, mX_uR, mI_s, mI_n, mI_A, mI_An, mI_uJ, mI_uR, mI_uX, mJ_uI, mJ_uA, mJ_uR, mJ_uX, onR_s, kC_v, kC_n, kC_t, mI_A, ldT_6, ldT_9, g1, e1, s_155, bI_ti e2]
theorem s_51f (hL : LdC μ f L) (ht : okTk f L t) (h1 : lo ≤ 9999) (h2 : hi ≤ 9999) (h : ¬ ckI lo hi t = nI 0) : Ev (d + 2) 51 [.ref 1030, .int (nI lo), .int (nI hi)] (uA μ 1030 (ldT g L hs gs t tk er ea)) Q = Q (some (some (.int (nI 0)))) (uA μ 1030 (ldT g L hs gs t tk (ckI lo hi t) (nI t.2.1))) := by
  have g1 := hL.1
  have h53 := fun (d : Nat) (Q : Po) (x : Int32) => s_53 (d := d) (Q := Q) (g := g) (hs := hs) (gs := gs) (tk := tk) (er := er) (ea := ea) (t := t) (x := x) hL
  rw [in_51]
  by_cases c1 : t.1 = 2
  · have e1 : (nI (ckk t.1) = nI 2) = True := (ckk2 ht.1).trans (eq_true c1)
    have c2 : ¬ (lo ≤ t.2.2.2 ∧ t.2.2.2 ≤ hi) := fun z => h (ckI_t.mpr ⟨c1, z⟩)
    have e2 : ¬ (nI lo ≤ nI (cvl t.2.2.2) ∧ nI (cvl t.2.2.2) ≤ nI hi) := fun z => c2 (Eq.mp (cv_in (v := t.2.2.2) h1 h2) z)
    rw [ckI_r c1 c2]
    simp (disch := first | omega | rfl) only [e_51_0, e_51_1, e_51_4, e_51_5, e_51_8, e_51_9, e_51_11, e_51_14, e_51_15, e_51_16, e_51_19, e_51_20, e_51_21, e_51_24, e_51_27, e_51_28, e_51_30, e_51_33, e_51_36, e_51_37, e_51_40, e_51_41, ge1, ule_t, true_or, or_true, nI_add, nI_mul, nI_sub, nI_clamp, nI_lt_t, nI_lt_f, nI_le_t, nI_le_f, nI_eq_t, nI_eq_f, vp_nI, tI, fI, not_true, not_false_iff, true_and, and_true, Classical.not_not, mS_uI, mS_uA, mS_uJ, mS_uR, mS_uX, mR_uI, mR_uA, mR_uJ, mR_uX, mX_uI, mX_uA, mX_uJ, mX_uR, mI_s, mI_n, mI_A, mI_An, mI_uJ, mI_uR, mI_uX, mJ_uI, mJ_uA, mJ_uR, mJ_uX, onR_s, kC_v, kC_n, kC_t, mI_A, ldT_6, ldT_9, g1, e1, s_155, bI_fi e2, h53]
  · have e1 : (nI (ckk t.1) = nI 2) = False := (ckk2 ht.1).trans (eq_false c1)
    rw [ckI_s c1]
    simp (disch := first | omega | rfl) only [e_51_0, e_51_1, e_51_4, e_51_5, e_51_8, e_51_9, e_51_11, e_51_14, e_51_15, e_51_16, e_51_19, e_51_20, e_51_21, e_51_24, e_51_27, e_51_28, e_51_30, e_51_33, e_51_36, e_51_37, e_51_40, e_51_41, ge1, ule_t, true_or, or_true, nI_add, nI_mul, nI_sub, nI_clamp, nI_lt_t, nI_lt_f, nI_le_t, nI_le_f, nI_eq_t, nI_eq_f, vp_nI, tI, fI, not_true, not_false_iff, true_and, and_true, Classical.not_not, mS_uI, mS_uA, mS_uJ, mS_uR, mS_uX, mR_uI, mR_uA, mR_uJ, mR_uX, mX_uI, mX_uA, mX_uJ, mX_uR, mI_s, mI_n, mI_A, mI_An, mI_uJ, mI_uR, mI_uX, mJ_uI, mJ_uA, mJ_uR, mJ_uX, onR_s, kC_v, kC_n, kC_t, mI_A, ldT_6, ldT_9, g1, e1, h53]
theorem s_50t (hL : LdC μ f L) (ht : okTk f L t) (h1 : lo ≤ 9999) (h2 : hi ≤ 9999) (h : ckI lo hi t = nI 0) : Ev (d + 3) 50 [.ref 1030, .int (nI lo), .int (nI hi)] (uA μ 1030 (ldT g L hs gs t tk er ea)) Q = Q (some (some (.int (nI 1)))) (uA μ 1030 (ldT g L hs gs (nx f L t) (nI t.2.2.2) er ea)) := by
  have h51 := fun (d : Nat) (Q : Po) => s_51t (d := d) (Q := Q) (g := g) (hs := hs) (gs := gs) (tk := tk) (er := er) (ea := ea) hL ht h1 h2 h
  have h57 := fun (d : Nat) (Q : Po) (tk : Int32) => s_57 (d := d) (Q := Q) (g := g) (hs := hs) (gs := gs) (tk := tk) (er := er) (ea := ea) hL ht
  obtain ⟨c1, c2, c3⟩ := ckI_t.mp h
  have e3 : cvl t.2.2.2 = t.2.2.2 := if_pos (by omega)
  have g1 := hL.1
  rw [in_50]
  simp (disch := first | omega | rfl) only [e_50_0, e_50_1, e_50_2, e_50_3, e_50_6, e_50_9, e_50_10, e_50_11, e_50_12, e_50_13, e_50_16, e_50_19, e_50_20, e_50_23, e_50_24, ge1, ule_t, true_or, or_true, nI_add, nI_mul, nI_sub, nI_clamp, nI_lt_t, nI_lt_f, nI_le_t, nI_le_f, nI_eq_t, nI_eq_f, vp_nI, tI, fI, not_true, not_false_iff, true_and, and_true, Classical.not_not, mS_uI, mS_uA, mS_uJ, mS_uR, mS_uX, mR_uI, mR_uA, mR_uJ, mR_uX, mX_uI, mX_uA, mX_uJ, mX_uR, mI_s, mI_n, mI_A, mI_An, mI_uJ, mI_uR, mI_uX, mJ_uI, mJ_uA, mJ_uR, mJ_uX, onR_s, kC_v, kC_n, kC_t, mI_A, ldT_9, e3, g1, h51, h57, uIA, ldT_u10]
theorem s_50f (hL : LdC μ f L) (ht : okTk f L t) (h1 : lo ≤ 9999) (h2 : hi ≤ 9999) (h : ¬ ckI lo hi t = nI 0) : Ev (d + 3) 50 [.ref 1030, .int (nI lo), .int (nI hi)] (uA μ 1030 (ldT g L hs gs t tk er ea)) Q = Q (some (some (.int (nI 0)))) (uA μ 1030 (ldT g L hs gs t tk (ckI lo hi t) (nI t.2.1))) := by
  have h51 := fun (d : Nat) (Q : Po) => s_51f (d := d) (Q := Q) (g := g) (hs := hs) (gs := gs) (tk := tk) (er := er) (ea := ea) hL ht h1 h2 h
  have g1 := hL.1
  rw [in_50]
  simp (disch := first | omega | rfl) only [e_50_0, e_50_1, e_50_2, e_50_3, e_50_6, e_50_9, e_50_10, e_50_11, e_50_12, e_50_13, e_50_16, e_50_19, e_50_20, e_50_23, e_50_24, ge1, ule_t, true_or, or_true, nI_add, nI_mul, nI_sub, nI_clamp, nI_lt_t, nI_lt_f, nI_le_t, nI_le_f, nI_eq_t, nI_eq_f, vp_nI, tI, fI, not_true, not_false_iff, true_and, and_true, Classical.not_not, mS_uI, mS_uA, mS_uJ, mS_uR, mS_uX, mR_uI, mR_uA, mR_uJ, mR_uX, mX_uI, mX_uA, mX_uJ, mX_uR, mI_s, mI_n, mI_A, mI_An, mI_uJ, mI_uR, mI_uX, mJ_uI, mJ_uA, mJ_uR, mJ_uX, onR_s, kC_v, kC_n, kC_t, mI_A, g1, h51]
theorem s_52t (hL : LdC μ f L) (ht : okTk f L t) (h : t.1 = 3) : Ev (d + 3) 52 [.ref 1030] (uA μ 1030 (ldT g L hs gs t tk er ea)) Q = Q (some (some (.int (nI 1)))) (uA μ 1030 (ldT g L hs gs (nx f L t) tk er ea)) := by
  have h57 := fun (d : Nat) (Q : Po) => s_57 (d := d) (Q := Q) (g := g) (hs := hs) (gs := gs) (tk := tk) (er := er) (ea := ea) hL ht
  have e1 : (nI (ckk t.1) = nI 3) = True := (ckk3 ht.1).trans (eq_true (by omega))
  have h59 := (ht.2.2.2.2.2.2.1 (by omega)).mpr h
  have hlt := ht.2.2.2.1 (by omega)
  have hle := ht.2.2.1
  obtain ⟨g1, g2, g3, g4, g5, g6⟩ := hL
  have e2 : sgB (f t.2.1) = nI 59 := by rw [h59]; rfl
  rw [in_52]
  simp (disch := first | omega | rfl) only [e_52_0, e_52_1, e_52_4, e_52_5, e_52_8, e_52_9, e_52_12, e_52_13, e_52_16, e_52_17, e_52_19, e_52_22, e_52_23, e_52_25, e_52_28, e_52_29, e_52_30, e_52_33, e_52_34, ge1, ule_t, true_or, or_true, nI_add, nI_mul, nI_sub, nI_clamp, nI_lt_t, nI_lt_f, nI_le_t, nI_le_f, nI_eq_t, nI_eq_f, vp_nI, tI, fI, not_true, not_false_iff, true_and, and_true, Classical.not_not, mS_uI, mS_uA, mS_uJ, mS_uR, mS_uX, mR_uI, mR_uA, mR_uJ, mR_uX, mX_uI, mX_uA, mX_uJ, mX_uR, mI_s, mI_n, mI_A, mI_An, mI_uJ, mI_uR, mI_uX, mJ_uI, mJ_uA, mJ_uR, mJ_uX, onR_s, kC_v, kC_n, kC_t, mI_An, mI_A, ldT_6, ldT_7, g1, g2, g3, g4 t.2.1 (by omega), e1, e2, h57]
theorem s_52f (hL : LdC μ f L) (ht : okTk f L t) (h : ¬ t.1 = 3) : Ev (d + 3) 52 [.ref 1030] (uA μ 1030 (ldT g L hs gs t tk er ea)) Q = Q (some (some (.int (nI 0)))) (uA μ 1030 (ldT g L hs gs t tk (-11) (nI t.2.1))) := by
  have h53 := fun (d : Nat) (Q : Po) (x : Int32) => s_53 (d := d) (Q := Q) (g := g) (hs := hs) (gs := gs) (tk := tk) (er := er) (ea := ea) (t := t) (x := x) hL
  obtain ⟨g1, g2, g3, g4, g5, g6⟩ := hL
  have h4 := ht.1
  rw [in_52]
  by_cases c1 : 3 ≤ t.1
  · have e1 : (nI (ckk t.1) = nI 3) = True := (ckk3 ht.1).trans (eq_true c1)
    have h59 : ¬ f t.2.1 = 59 := fun z => h ((ht.2.2.2.2.2.2.1 c1).mp z)
    have hlt := ht.2.2.2.1 (by omega)
    have hle := ht.2.2.1
    have e2 := sgB_eqc (b := f t.2.1) (c := 59) (g5 _) (by omega)
    rw [eq_false h59] at e2
    simp (disch := first | omega | rfl) only [e_52_0, e_52_1, e_52_4, e_52_5, e_52_8, e_52_9, e_52_12, e_52_13, e_52_16, e_52_17, e_52_19, e_52_22, e_52_23, e_52_25, e_52_28, e_52_29, e_52_30, e_52_33, e_52_34, ge1, ule_t, true_or, or_true, nI_add, nI_mul, nI_sub, nI_clamp, nI_lt_t, nI_lt_f, nI_le_t, nI_le_f, nI_eq_t, nI_eq_f, vp_nI, tI, fI, not_true, not_false_iff, true_and, and_true, Classical.not_not, mS_uI, mS_uA, mS_uJ, mS_uR, mS_uX, mR_uI, mR_uA, mR_uJ, mR_uX, mX_uI, mX_uA, mX_uJ, mX_uR, mI_s, mI_n, mI_A, mI_An, mI_uJ, mI_uR, mI_uX, mJ_uI, mJ_uA, mJ_uR, mJ_uX, onR_s, kC_v, kC_n, kC_t, mI_An, mI_A, ldT_6, ldT_7, g1, g2, g3, g4 t.2.1 (by omega), e1, e2, h53]
  · have e1 : (nI (ckk t.1) = nI 3) = False := (ckk3 ht.1).trans (eq_false c1)
    simp (disch := first | omega | rfl) only [e_52_0, e_52_1, e_52_4, e_52_5, e_52_8, e_52_9, e_52_12, e_52_13, e_52_16, e_52_17, e_52_19, e_52_22, e_52_23, e_52_25, e_52_28, e_52_29, e_52_30, e_52_33, e_52_34, ge1, ule_t, true_or, or_true, nI_add, nI_mul, nI_sub, nI_clamp, nI_lt_t, nI_lt_f, nI_le_t, nI_le_f, nI_eq_t, nI_eq_f, vp_nI, tI, fI, not_true, not_false_iff, true_and, and_true, Classical.not_not, mS_uI, mS_uA, mS_uJ, mS_uR, mS_uX, mR_uI, mR_uA, mR_uJ, mR_uX, mX_uI, mX_uA, mX_uJ, mX_uR, mI_s, mI_n, mI_A, mI_An, mI_uJ, mI_uR, mI_uX, mJ_uI, mJ_uA, mJ_uR, mJ_uX, onR_s, kC_v, kC_n, kC_t, mI_An, mI_A, ldT_6, ldT_7, g1, g2, g3, e1, h53]
theorem s_48 (hL : LdC μ f L) (hX : TxC μ) (ht : okTk f L t) : Ev (d + 7) 48 [.ref 1030] (uA μ 1030 (ldT g L hs gs t tk er ea)) Q = Q (some (some (.int (wIx f t Sort6 0)))) (uA μ 1030 (ldT g L hs gs t tk er ea)) := by
  have g1 := hL.1
  have h3 := fun (d : Nat) (Q : Po) => s_56 (d := d) (Q := Q) (g := g) (hs := hs) (gs := gs) (tk := tk) (er := er) (ea := ea) (i := 3) hL hX (by omega) (by omega) ht
  have h4 := fun (d : Nat) (Q : Po) => s_56 (d := d) (Q := Q) (g := g) (hs := hs) (gs := gs) (tk := tk) (er := er) (ea := ea) (i := 4) hL hX (by omega) (by omega) ht
  have h5 := fun (d : Nat) (Q : Po) => s_56 (d := d) (Q := Q) (g := g) (hs := hs) (gs := gs) (tk := tk) (er := er) (ea := ea) (i := 5) hL hX (by omega) (by omega) ht
  have h6 := fun (d : Nat) (Q : Po) => s_56 (d := d) (Q := Q) (g := g) (hs := hs) (gs := gs) (tk := tk) (er := er) (ea := ea) (i := 6) hL hX (by omega) (by omega) ht
  have h7 := fun (d : Nat) (Q : Po) => s_56 (d := d) (Q := Q) (g := g) (hs := hs) (gs := gs) (tk := tk) (er := er) (ea := ea) (i := 7) hL hX (by omega) (by omega) ht
  have h8 := fun (d : Nat) (Q : Po) => s_56 (d := d) (Q := Q) (g := g) (hs := hs) (gs := gs) (tk := tk) (er := er) (ea := ea) (i := 8) hL hX (by omega) (by omega) ht
  show _ = Q (some (some (.int (wIx f t [txB 3, txB 4, txB 5, txB 6, txB 7, txB 8] 0)))) _
  rw [in_48]
  by_cases c3 : isW f t (txB 3)
  · rw [wIx, if_pos c3]; simp only [bI_ti c3] at h3
    simp (disch := first | omega | rfl) only [e_48_0, e_48_1, e_48_3, e_48_6, e_48_9, e_48_10, e_48_11, e_48_12, e_48_14, e_48_17, e_48_20, e_48_21, e_48_22, e_48_23, e_48_25, e_48_28, e_48_31, e_48_32, e_48_33, e_48_34, e_48_36, e_48_39, e_48_42, e_48_43, e_48_44, e_48_45, e_48_47, e_48_50, e_48_53, e_48_54, e_48_55, e_48_56, e_48_58, e_48_61, e_48_64, e_48_65, e_48_68, e_48_69, ge1, ule_t, true_or, or_true, nI_add, nI_mul, nI_sub, nI_clamp, nI_lt_t, nI_lt_f, nI_le_t, nI_le_f, nI_eq_t, nI_eq_f, vp_nI, tI, fI, not_true, not_false_iff, true_and, and_true, Classical.not_not, mS_uI, mS_uA, mS_uJ, mS_uR, mS_uX, mR_uI, mR_uA, mR_uJ, mR_uX, mX_uI, mX_uA, mX_uJ, mX_uR, mI_s, mI_n, mI_A, mI_An, mI_uJ, mI_uR, mI_uX, mJ_uI, mJ_uA, mJ_uR, mJ_uX, onR_s, kC_v, kC_n, kC_t, g1, h3]
  · rw [wIx, if_neg c3]; simp only [bI_fi c3] at h3
    by_cases c4 : isW f t (txB 4)
    · rw [wIx, if_pos c4]; simp only [bI_ti c4] at h4
      simp (disch := first | omega | rfl) only [e_48_0, e_48_1, e_48_3, e_48_6, e_48_9, e_48_10, e_48_11, e_48_12, e_48_14, e_48_17, e_48_20, e_48_21, e_48_22, e_48_23, e_48_25, e_48_28, e_48_31, e_48_32, e_48_33, e_48_34, e_48_36, e_48_39, e_48_42, e_48_43, e_48_44, e_48_45, e_48_47, e_48_50, e_48_53, e_48_54, e_48_55, e_48_56, e_48_58, e_48_61, e_48_64, e_48_65, e_48_68, e_48_69, ge1, ule_t, true_or, or_true, nI_add, nI_mul, nI_sub, nI_clamp, nI_lt_t, nI_lt_f, nI_le_t, nI_le_f, nI_eq_t, nI_eq_f, vp_nI, tI, fI, not_true, not_false_iff, true_and, and_true, Classical.not_not, mS_uI, mS_uA, mS_uJ, mS_uR, mS_uX, mR_uI, mR_uA, mR_uJ, mR_uX, mX_uI, mX_uA, mX_uJ, mX_uR, mI_s, mI_n, mI_A, mI_An, mI_uJ, mI_uR, mI_uX, mJ_uI, mJ_uA, mJ_uR, mJ_uX, onR_s, kC_v, kC_n, kC_t, g1, h3, h4]
    · rw [wIx, if_neg c4]; simp only [bI_fi c4] at h4
      by_cases c5 : isW f t (txB 5)
      · rw [wIx, if_pos c5]; simp only [bI_ti c5] at h5
        simp (disch := first | omega | rfl) only [e_48_0, e_48_1, e_48_3, e_48_6, e_48_9, e_48_10, e_48_11, e_48_12, e_48_14, e_48_17, e_48_20, e_48_21, e_48_22, e_48_23, e_48_25, e_48_28, e_48_31, e_48_32, e_48_33, e_48_34, e_48_36, e_48_39, e_48_42, e_48_43, e_48_44, e_48_45, e_48_47, e_48_50, e_48_53, e_48_54, e_48_55, e_48_56, e_48_58, e_48_61, e_48_64, e_48_65, e_48_68, e_48_69, ge1, ule_t, true_or, or_true, nI_add, nI_mul, nI_sub, nI_clamp, nI_lt_t, nI_lt_f, nI_le_t, nI_le_f, nI_eq_t, nI_eq_f, vp_nI, tI, fI, not_true, not_false_iff, true_and, and_true, Classical.not_not, mS_uI, mS_uA, mS_uJ, mS_uR, mS_uX, mR_uI, mR_uA, mR_uJ, mR_uX, mX_uI, mX_uA, mX_uJ, mX_uR, mI_s, mI_n, mI_A, mI_An, mI_uJ, mI_uR, mI_uX, mJ_uI, mJ_uA, mJ_uR, mJ_uX, onR_s, kC_v, kC_n, kC_t, g1, h3, h4, h5]
      · rw [wIx, if_neg c5]; simp only [bI_fi c5] at h5
        by_cases c6 : isW f t (txB 6)
        · rw [wIx, if_pos c6]; simp only [bI_ti c6] at h6
          simp (disch := first | omega | rfl) only [e_48_0, e_48_1, e_48_3, e_48_6, e_48_9, e_48_10, e_48_11, e_48_12, e_48_14, e_48_17, e_48_20, e_48_21, e_48_22, e_48_23, e_48_25, e_48_28, e_48_31, e_48_32, e_48_33, e_48_34, e_48_36, e_48_39, e_48_42, e_48_43, e_48_44, e_48_45, e_48_47, e_48_50, e_48_53, e_48_54, e_48_55, e_48_56, e_48_58, e_48_61, e_48_64, e_48_65, e_48_68, e_48_69, ge1, ule_t, true_or, or_true, nI_add, nI_mul, nI_sub, nI_clamp, nI_lt_t, nI_lt_f, nI_le_t, nI_le_f, nI_eq_t, nI_eq_f, vp_nI, tI, fI, not_true, not_false_iff, true_and, and_true, Classical.not_not, mS_uI, mS_uA, mS_uJ, mS_uR, mS_uX, mR_uI, mR_uA, mR_uJ, mR_uX, mX_uI, mX_uA, mX_uJ, mX_uR, mI_s, mI_n, mI_A, mI_An, mI_uJ, mI_uR, mI_uX, mJ_uI, mJ_uA, mJ_uR, mJ_uX, onR_s, kC_v, kC_n, kC_t, g1, h3, h4, h5, h6]
        · rw [wIx, if_neg c6]; simp only [bI_fi c6] at h6
          by_cases c7 : isW f t (txB 7)
          · rw [wIx, if_pos c7]; simp only [bI_ti c7] at h7
            simp (disch := first | omega | rfl) only [e_48_0, e_48_1, e_48_3, e_48_6, e_48_9, e_48_10, e_48_11, e_48_12, e_48_14, e_48_17, e_48_20, e_48_21, e_48_22, e_48_23, e_48_25, e_48_28, e_48_31, e_48_32, e_48_33, e_48_34, e_48_36, e_48_39, e_48_42, e_48_43, e_48_44, e_48_45, e_48_47, e_48_50, e_48_53, e_48_54, e_48_55, e_48_56, e_48_58, e_48_61, e_48_64, e_48_65, e_48_68, e_48_69, ge1, ule_t, true_or, or_true, nI_add, nI_mul, nI_sub, nI_clamp, nI_lt_t, nI_lt_f, nI_le_t, nI_le_f, nI_eq_t, nI_eq_f, vp_nI, tI, fI, not_true, not_false_iff, true_and, and_true, Classical.not_not, mS_uI, mS_uA, mS_uJ, mS_uR, mS_uX, mR_uI, mR_uA, mR_uJ, mR_uX, mX_uI, mX_uA, mX_uJ, mX_uR, mI_s, mI_n, mI_A, mI_An, mI_uJ, mI_uR, mI_uX, mJ_uI, mJ_uA, mJ_uR, mJ_uX, onR_s, kC_v, kC_n, kC_t, g1, h3, h4, h5, h6, h7]
          · rw [wIx, if_neg c7]; simp only [bI_fi c7] at h7
            by_cases c8 : isW f t (txB 8)
            · rw [wIx, if_pos c8]; simp only [bI_ti c8] at h8
              simp (disch := first | omega | rfl) only [e_48_0, e_48_1, e_48_3, e_48_6, e_48_9, e_48_10, e_48_11, e_48_12, e_48_14, e_48_17, e_48_20, e_48_21, e_48_22, e_48_23, e_48_25, e_48_28, e_48_31, e_48_32, e_48_33, e_48_34, e_48_36, e_48_39, e_48_42, e_48_43, e_48_44, e_48_45, e_48_47, e_48_50, e_48_53, e_48_54, e_48_55, e_48_56, e_48_58, e_48_61, e_48_64, e_48_65, e_48_68, e_48_69, ge1, ule_t, true_or, or_true, nI_add, nI_mul, nI_sub, nI_clamp, nI_lt_t, nI_lt_f, nI_le_t, nI_le_f, nI_eq_t, nI_eq_f, vp_nI, tI, fI, not_true, not_false_iff, true_and, and_true, Classical.not_not, mS_uI, mS_uA, mS_uJ, mS_uR, mS_uX, mR_uI, mR_uA, mR_uJ, mR_uX, mX_uI, mX_uA, mX_uJ, mX_uR, mI_s, mI_n, mI_A, mI_An, mI_uJ, mI_uR, mI_uX, mJ_uI, mJ_uA, mJ_uR, mJ_uX, onR_s, kC_v, kC_n, kC_t, g1, h3, h4, h5, h6, h7, h8]
            · rw [wIx, if_neg c8, wIx]; simp only [bI_fi c8] at h8
              simp (disch := first | omega | rfl) only [e_48_0, e_48_1, e_48_3, e_48_6, e_48_9, e_48_10, e_48_11, e_48_12, e_48_14, e_48_17, e_48_20, e_48_21, e_48_22, e_48_23, e_48_25, e_48_28, e_48_31, e_48_32, e_48_33, e_48_34, e_48_36, e_48_39, e_48_42, e_48_43, e_48_44, e_48_45, e_48_47, e_48_50, e_48_53, e_48_54, e_48_55, e_48_56, e_48_58, e_48_61, e_48_64, e_48_65, e_48_68, e_48_69, ge1, ule_t, true_or, or_true, nI_add, nI_mul, nI_sub, nI_clamp, nI_lt_t, nI_lt_f, nI_le_t, nI_le_f, nI_eq_t, nI_eq_f, vp_nI, tI, fI, not_true, not_false_iff, true_and, and_true, Classical.not_not, mS_uI, mS_uA, mS_uJ, mS_uR, mS_uX, mR_uI, mR_uA, mR_uJ, mR_uX, mX_uI, mX_uA, mX_uJ, mX_uR, mI_s, mI_n, mI_A, mI_An, mI_uJ, mI_uR, mI_uX, mJ_uI, mJ_uA, mJ_uR, mJ_uX, onR_s, kC_v, kC_n, kC_t, g1, h3, h4, h5, h6, h7, h8]
/-- names that are known -/
theorem s_78 (hS : StS μ s) (hn : mI μ s 1 = nI n) (h6 : n ≤ 6) (hN : ∀ m, m < n → mI μ (s + 5 + 3 * m) 0 = tn (16 + m)) (hx : ¬ x = nI 0) : Ev (d + 1) 78 [.ref s, .int x] μ Q = Q (some (some (.int (fNm tn x n 0)))) μ := by
  rw [in_78]
  simp (disch := first | omega | rfl) only [e_78_0, e_78_1, e_78_4, e_78_5, e_78_6, e_78_7, e_78_9, e_78_10, e_78_13, e_78_16, e_78_17, e_78_20, e_78_21, e_78_22, e_78_25, e_78_26, e_78_29, e_78_30, e_78_31, e_78_34, e_78_37, e_78_38, hx, ge1, ule_t, true_or, or_true, nI_add, nI_mul, nI_sub, nI_clamp, nI_lt_t, nI_lt_f, nI_le_t, nI_le_f, nI_eq_t, nI_eq_f, vp_nI, tI, fI, not_true, not_false_iff, true_and, and_true, Classical.not_not]
  exact l_78 hS hn h6 hN n 0 (by omega)
theorem nm_ne (ht : okTk f L t) (h1 : t.1 = 1) : ¬ nI (nmQ f t 6) = nI 0 := by
  obtain ⟨a, b⟩ := nmQ_lt ht h1
  rw [nI_eq (by omega) (by omega)]
  omega
theorem StS_uA {a : Nat} (h : StS μ s) : StS (uA μ a F) s := h
theorem s_78l (hs9 : s + 22 < 1030 ∨ 1030 < s) (hS : StS μ s) (hn : mI μ s 1 = nI n) (h6 : n ≤ 6) (hN : ∀ m, m < n → mI μ (s + 5 + 3 * m) 0 = tn (16 + m)) (ht : okTk f L t) (h1 : t.1 = 1) : Ev (d + 1) 78 [.ref s, .int (nI (nmQ f t 6))] (uA μ 1030 F) Q = Q (some (some (.int (fnd f tn n t)))) (uA μ 1030 F) :=
  s_78 (μ := uA μ 1030 F) (StS_uA hS) (by rw [mI_An (by omega)]; exact hn) h6 (fun m hm => by rw [mI_An (by omega)]; exact hN m hm) (nm_ne ht h1)
theorem s_49t (hL : LdC μ f L) (hR1 : mR μ 1030 1 = some s) (hs9 : s + 22 < 1030 ∨ 1030 < s) (hS : StS μ s) (hn : mI μ s 1 = nI n) (h6 : n ≤ 6) (hN : ∀ m, m < n → mI μ (s + 5 + 3 * m) 0 = tn (16 + m)) (ht : okTk f L t) (h : ckM f tn n t = nI 0) : Ev (d + 3) 49 [.ref 1030] (uA μ 1030 (ldT g L hs gs t tk er ea)) Q = Q (some (some (.int (nI 1)))) (uA μ 1030 (ldT g L hs gs (nx f L t) (fnd f tn n t) er ea)) := by
  obtain ⟨c1, c2⟩ := ckM_t.mp h
  have h54 := fun (d : Nat) (Q : Po) => s_54 (d := d) (Q := Q) (g := g) (hs := hs) (gs := gs) (tk := tk) (er := er) (ea := ea) hL ht
  simp only [bI_ti c1] at h54
  have h55 := fun (d : Nat) (Q : Po) => s_55 (d := d) (Q := Q) (g := g) (hs := hs) (gs := gs) (tk := tk) (er := er) (ea := ea) hL ht c1.1
  have h57 := fun (d : Nat) (Q : Po) (tk : Int32) => s_57 (d := d) (Q := Q) (g := g) (hs := hs) (gs := gs) (tk := tk) (er := er) (ea := ea) hL ht
  have h78 := fun (d : Nat) (Q : Po) (F : Nat → Int32) => s_78l (d := d) (Q := Q) (F := F) (f := f) (L := L) hs9 hS hn h6 hN ht c1.1
  have g1 := hL.1
  have q1 := hS.2.1
  rw [in_49]
  simp (disch := first | omega | rfl) only [e_49_0, e_49_1, e_49_4, e_49_7, e_49_8, e_49_10, e_49_13, e_49_14, e_49_15, e_49_16, e_49_19, e_49_20, e_49_23, e_49_26, e_49_29, e_49_30, e_49_33, e_49_34, e_49_37, e_49_38, e_49_40, e_49_43, e_49_44, e_49_45, e_49_48, e_49_49, ge1, ule_t, true_or, or_true, nI_add, nI_mul, nI_sub, nI_clamp, nI_lt_t, nI_lt_f, nI_le_t, nI_le_f, nI_eq_t, nI_eq_f, vp_nI, tI, fI, not_true, not_false_iff, true_and, and_true, Classical.not_not, mS_uI, mS_uA, mS_uJ, mS_uR, mS_uX, mR_uI, mR_uA, mR_uJ, mR_uX, mX_uI, mX_uA, mX_uJ, mX_uR, mI_s, mI_n, mI_A, mI_An, mI_uJ, mI_uR, mI_uX, mJ_uI, mJ_uA, mJ_uR, mJ_uX, onR_s, kC_v, kC_n, kC_t, mI_A, ldT_10, g1, hR1, q1, h54, h55, h57, h78, uIA, ldT_u10, eq_false c2]
theorem s_49f (hL : LdC μ f L) (hR1 : mR μ 1030 1 = some s) (hs9 : s + 22 < 1030 ∨ 1030 < s) (hS : StS μ s) (hn : mI μ s 1 = nI n) (h6 : n ≤ 6) (hN : ∀ m, m < n → mI μ (s + 5 + 3 * m) 0 = tn (16 + m)) (ht : okTk f L t) (h : ¬ ckM f tn n t = nI 0) : Ev (d + 3) 49 [.ref 1030] (uA μ 1030 (ldT g L hs gs t tk er ea)) Q = Q (some (some (.int (nI 0)))) (uA μ 1030 (ldT g L hs gs t (if isN t then -1 else tk) (ckM f tn n t) (nI t.2.1))) := by
  have h54 := fun (d : Nat) (Q : Po) => s_54 (d := d) (Q := Q) (g := g) (hs := hs) (gs := gs) (tk := tk) (er := er) (ea := ea) hL ht
  have h53 := fun (d : Nat) (Q : Po) (x tk : Int32) => s_53 (d := d) (Q := Q) (g := g) (hs := hs) (gs := gs) (tk := tk) (er := er) (ea := ea) (t := t) (x := x) hL
  have g1 := hL.1
  have q1 := hS.2.1
  rw [in_49]
  by_cases c1 : isN t
  · have c2 : fnd f tn n t = -1 := Classical.byContradiction fun z => h (ckM_t.mpr ⟨c1, z⟩)
    have e1 : ckM f tn n t = -13 := by unfold ckM; rw [if_pos c1, if_pos c2]
    simp only [bI_ti c1] at h54
    have h55 := fun (d : Nat) (Q : Po) => s_55 (d := d) (Q := Q) (g := g) (hs := hs) (gs := gs) (tk := tk) (er := er) (ea := ea) hL ht c1.1
    have h78 := fun (d : Nat) (Q : Po) (F : Nat → Int32) => s_78l (d := d) (Q := Q) (F := F) (f := f) (L := L) hs9 hS hn h6 hN ht c1.1
    simp only [c2] at h78
    rw [if_pos c1, e1]
    simp (disch := first | omega | rfl) only [e_49_0, e_49_1, e_49_4, e_49_7, e_49_8, e_49_10, e_49_13, e_49_14, e_49_15, e_49_16, e_49_19, e_49_20, e_49_23, e_49_26, e_49_29, e_49_30, e_49_33, e_49_34, e_49_37, e_49_38, e_49_40, e_49_43, e_49_44, e_49_45, e_49_48, e_49_49, ge1, ule_t, true_or, or_true, nI_add, nI_mul, nI_sub, nI_clamp, nI_lt_t, nI_lt_f, nI_le_t, nI_le_f, nI_eq_t, nI_eq_f, vp_nI, tI, fI, not_true, not_false_iff, true_and, and_true, Classical.not_not, mS_uI, mS_uA, mS_uJ, mS_uR, mS_uX, mR_uI, mR_uA, mR_uJ, mR_uX, mX_uI, mX_uA, mX_uJ, mX_uR, mI_s, mI_n, mI_A, mI_An, mI_uJ, mI_uR, mI_uX, mJ_uI, mJ_uA, mJ_uR, mJ_uX, onR_s, kC_v, kC_n, kC_t, mI_A, ldT_10, g1, hR1, q1, h54, h55, h53, h78, uIA, ldT_u10]
  · have e1 : ckM f tn n t = -11 := if_neg c1
    simp only [bI_fi c1] at h54
    rw [if_neg c1, e1]
    simp (disch := first | omega | rfl) only [e_49_0, e_49_1, e_49_4, e_49_7, e_49_8, e_49_10, e_49_13, e_49_14, e_49_15, e_49_16, e_49_19, e_49_20, e_49_23, e_49_26, e_49_29, e_49_30, e_49_33, e_49_34, e_49_37, e_49_38, e_49_40, e_49_43, e_49_44, e_49_45, e_49_48, e_49_49, ge1, ule_t, true_or, or_true, nI_add, nI_mul, nI_sub, nI_clamp, nI_lt_t, nI_lt_f, nI_le_t, nI_le_f, nI_eq_t, nI_eq_f, vp_nI, tI, fI, not_true, not_false_iff, true_and, and_true, Classical.not_not, mS_uI, mS_uA, mS_uJ, mS_uR, mS_uX, mR_uI, mR_uA, mR_uJ, mR_uX, mX_uI, mX_uA, mX_uJ, mX_uR, mI_s, mI_n, mI_A, mI_An, mI_uJ, mI_uR, mI_uX, mJ_uI, mJ_uA, mJ_uR, mJ_uX, onR_s, kC_v, kC_n, kC_t, mI_A, g1, h54, h53]
end RdC

/-! reading: the reference's small steps -/
section MdU
variable {g : Nat → Int32} {L sm ts hs x : Nat} {er ep y : Int32} {t : TK}
theorem mdT_14 : mdT g L t er ep sm ts hs 14 = nI L := rfl
theorem mdT_u19 : upd (mdT g L t er ep sm ts hs) 19 y = mdT g L t y ep sm ts hs := md_u19
theorem mdT_u20 : upd (mdT g L t er ep sm ts hs) 20 y = mdT g L t er y sm ts hs := md_u20
theorem mdT_u22 : upd (mdT g L t er ep sm ts hs) 22 (nI x) = mdT g L t er ep x ts hs := md_u22
theorem mdT_u23 : upd (mdT g L t er ep sm ts hs) 23 (nI x) = mdT g L t er ep sm x hs := md_u23
theorem mdT_u24 : upd (mdT g L t er ep sm ts hs) 24 (nI x) = mdT g L t er ep sm ts x := md_u24
end MdU
section RdM
variable {d : Nat} {Q : Po} {μ : Mu} {f : Nat → Nat} {g F tn : Nat → Int32} {L i k lo hi n sm ts hs : Nat} {er ep x y : Int32} {t : TK}
end RdM


