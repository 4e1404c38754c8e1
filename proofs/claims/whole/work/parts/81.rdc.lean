/-! reading: the class's small steps -/
def ckI (lo hi : Nat) (t : TK) : Int32 := if t.1 = 2 then (if lo ≤ t.2.2.2 ∧ t.2.2.2 ≤ hi then nI 0 else -12) else -11
def fnd (f : Nat → Nat) (tn : Nat → Int32) (n : Nat) (t : TK) : Int32 := fNm tn (nI (nmQ f t 6)) n 0
def ckM (f : Nat → Nat) (tn : Nat → Int32) (n : Nat) (t : TK) : Int32 := if isN t then (if fnd f tn n t = -1 then -13 else nI 0) else -11
theorem ckI_t {lo hi : Nat} {t : TK} : ckI lo hi t = nI 0 ↔ t.1 = 2 ∧ lo ≤ t.2.2.2 ∧ t.2.2.2 ≤ hi := by
  unfold ckI
  by_cases h1 : t.1 = 2
  · rw [if_pos h1]
    by_cases h2 : lo ≤ t.2.2.2 ∧ t.2.2.2 ≤ hi
    · rw [if_pos h2]; exact ⟨fun _ => ⟨h1, h2⟩, fun _ => rfl⟩
    · rw [if_neg h2]; exact ⟨fun z => absurd z (by decide), fun z => absurd z.2 h2⟩
  · rw [if_neg h1]; exact ⟨fun z => absurd z (by decide), fun z => absurd z.1 h1⟩
theorem ckI_s {lo hi : Nat} {t : TK} (h : ¬ t.1 = 2) : ckI lo hi t = -11 := if_neg h
theorem ckI_r {lo hi : Nat} {t : TK} (h : t.1 = 2) (h2 : ¬ (lo ≤ t.2.2.2 ∧ t.2.2.2 ≤ hi)) : ckI lo hi t = -12 := by unfold ckI; rw [if_pos h, if_neg h2]
theorem ckM_t {f : Nat → Nat} {tn : Nat → Int32} {n : Nat} {t : TK} : ckM f tn n t = nI 0 ↔ isN t ∧ ¬ fnd f tn n t = -1 := by
  unfold ckM
  by_cases h1 : isN t
  · rw [if_pos h1]
    by_cases h2 : fnd f tn n t = -1
    · rw [if_pos h2]; exact ⟨fun z => absurd z (by decide), fun z => absurd h2 z.2⟩
    · rw [if_neg h2]; exact ⟨fun _ => ⟨h1, h2⟩, fun _ => rfl⟩
  · rw [if_neg h1]; exact ⟨fun z => absurd z (by decide), fun z => absurd z.1 h1⟩
theorem fNm_c {tn : Nat → Int32} {x : Int32} : ∀ n k, fNm tn x n k = -1 ∨ ∃ m, k ≤ m ∧ m < k + n ∧ fNm tn x n k = nI m
  | 0, k => Or.inl rfl
  | n + 1, k => by
    rw [fNm]
    by_cases h : tn (16 + k) = x
    · rw [if_pos h]; exact Or.inr ⟨k, Nat.le_refl _, by omega, rfl⟩
    · rw [if_neg h]
      rcases fNm_c (tn := tn) (x := x) n (k + 1) with h1 | ⟨m, h1, h2, h3⟩
      · exact Or.inl h1
      · exact Or.inr ⟨m, by omega, by omega, h3⟩
theorem fnd_c {f : Nat → Nat} {tn : Nat → Int32} {n : Nat} {t : TK} (h : ¬ fnd f tn n t = -1) : ∃ m, m < n ∧ fnd f tn n t = nI m := by
  rcases fNm_c (tn := tn) (x := nI (nmQ f t 6)) n 0 with h1 | ⟨m, h1, h2, h3⟩
  · exact absurd h1 h
  · exact ⟨m, by omega, h3⟩
theorem cv_in {lo hi v : Nat} (h1 : lo ≤ 9999) (h2 : hi ≤ 9999) : (nI lo ≤ nI (cvl v) ∧ nI (cvl v) ≤ nI hi) = (lo ≤ v ∧ v ≤ hi) := by
  have e : ∀ a b : Nat, a ≤ 10000 → b ≤ 10000 → (nI a ≤ nI b ↔ a ≤ b) := fun a b ha hb => by
    rw [Int32.le_iff_toInt_le, nI_toInt (by omega), nI_toInt (by omega)]
    omega
  have := cvl_le v
  apply propext
  rw [e _ _ (by omega) (by omega), e _ _ (by omega) (by omega)]
  unfold cvl
  split <;> omega
abbrev Sort6 : List (List Nat) := [txB 3, txB 4, txB 5, txB 6, txB 7, txB 8]
abbrev Set2 : List (List Nat) := [txB 12, txB 13]
abbrev Stm6 : List (List Nat) := [txB 0, txB 1, txB 2, txB 9, txB 10, txB 11]
section LdU
variable {g : Nat → Int32} {L hs gs x : Nat} {tk er ea y : Int32} {t : TK}
theorem ldT_3 : ldT g L hs gs t tk er ea 3 = nI L := rfl
theorem ldT_4 : ldT g L hs gs t tk er ea 4 = nI hs := rfl
theorem ldT_5 : ldT g L hs gs t tk er ea 5 = nI gs := rfl
theorem ldT_10 : ldT g L hs gs t tk er ea 10 = tk := rfl
theorem ldT_11 : ldT g L hs gs t tk er ea 11 = er := rfl
theorem ldT_12 : ldT g L hs gs t tk er ea 12 = ea := rfl
theorem ldT_u4 : upd (ldT g L hs gs t tk er ea) 4 (nI x) = ldT g L x gs t tk er ea := ld_u4
theorem ldT_u5 : upd (ldT g L hs gs t tk er ea) 5 (nI x) = ldT g L hs x t tk er ea := ld_u5
theorem ldT_u10 : upd (ldT g L hs gs t tk er ea) 10 y = ldT g L hs gs t y er ea := ld_u10
theorem ldT_u11 : upd (ldT g L hs gs t tk er ea) 11 y = ldT g L hs gs t tk y ea := ld_u11
theorem ldT_u12 : upd (ldT g L hs gs t tk er ea) 12 y = ldT g L hs gs t tk er y := ld_u12
end LdU
section RdC
variable {d : Nat} {Q : Po} {μ : Mu} {f : Nat → Nat} {g F tn : Nat → Int32} {L hs gs i k lo hi s c n : Nat} {tk er ea x : Int32} {t : TK}
theorem s_53 (hL : LdC μ f L) : Ev (d + 1) 53 [.ref 1030, .int x] (uA μ 1030 (ldT g L hs gs t tk er ea)) Q = Q (some (some (.int (nI 0)))) (uA μ 1030 (ldT g L hs gs t tk x (nI t.2.1))) := by
  obtain ⟨g1, g2, g3, g4, g5, g6⟩ := hL
  rw [in_53]
  simp (disch := first | omega | rfl) only [e_53_0, e_53_1, e_53_2, e_53_5, e_53_6, e_53_7, e_53_10, e_53_13, e_53_14, ge1, ule_t, true_or, or_true, nI_add, nI_mul, nI_sub, nI_clamp, nI_lt_t, nI_lt_f, nI_le_t, nI_le_f, nI_eq_t, nI_eq_f, vp_nI, tI, fI, not_true, not_false_iff, true_and, and_true, Classical.not_not, mS_uI, mS_uA, mS_uJ, mS_uR, mS_uX, mR_uI, mR_uA, mR_uJ, mR_uX, mX_uI, mX_uA, mX_uJ, mX_uR, mI_s, mI_n, mI_A, mI_An, mI_uJ, mI_uR, mI_uX, mJ_uI, mJ_uA, mJ_uR, mJ_uX, onR_s, kC_v, kC_n, kC_t, mI_A, ldT_7, g1, uIA, ldT_u11, ldT_u12]
theorem s_51t (hL : LdC μ f L) (ht : okTk f L t) (h1 : lo ≤ 9999) (h2 : hi ≤ 9999) (h : ckI lo hi t = nI 0) : Ev (d + 2) 51 [.ref 1030, .int (nI lo), .int (nI hi)] (uA μ 1030 (ldT g L hs gs t tk er ea)) Q = Q (some (some (.int (nI 1)))) (uA μ 1030 (ldT g L hs gs t tk er ea)) := by
  obtain ⟨c1, c2⟩ := ckI_t.mp h
  have e1 : (nI (ckk t.1) = nI 2) = True := (ckk2 ht.1).trans (eq_true c1)
  have e2 := Eq.mpr (cv_in (v := t.2.2.2) h1 h2) c2
  have g1 := hL.1
  rw [in_51]
  simp (disch := first | omega | rfl) only [e_51_0, e_51_1, e_51_4, e_51_5, e_51_8, e_51_9, e_51_11, e_51_14, e_51_15, e_51_16, e_51_19, e_51_20, e_51_21, e_51_24, e_51_27, e_51_28, e_51_30, e_51_33, e_51_36, e_51_37, e_51_40, e_51_41, ge1, ule_t, true_or, or_true, nI_add, nI_mul, nI_sub, nI_clamp, nI_lt_t, nI_lt_f, nI_le_t, nI_le_f, nI_eq_t, nI_eq_f, vp_nI, tI, fI, not_true, not_false_iff, true_and, and_true, Classical.not_not, mS_uI, mS_uA, mS_uJ, mS_uR, mS_uX, mR_uI, mR_uA, mR_uJ, mR_uX, mX_uI, mX_uA, mX_uJ, mX_uR, mI_s, mI_n, mI_A, mI_An, mI_uJ, mI_uR, mI_uX, mJ_uI, mJ_uA, mJ_uR, mJ_uX, onR_s, kC_v, kC_n, kC_t, mI_A, ldT_6, ldT_9, g1, e1, s_155, bI_ti e2]
theorem s_51f (hL : LdC μ f L) (ht : okTk f L t) (h1 : lo ≤ 9999) (h2 : hi ≤ 9999) (h : ¬ ckI lo hi t = nI 0) : Ev (d + 2) 51 [.ref 1030, .int (nI lo), .int (nI hi)] (uA μ 1030 (ldT g L hs gs t tk er ea)) Q = Q (some (some (.int (nI 0)))) (uA μ 1030 (ldT g L hs gs t tk (ckI lo hi t) (nI t.2.1))) := by
  have g1 := hL.1
  have h53 := fun (d : Nat) (Q : Po) (x : Int32) => s_53 (d := d) (Q := Q) (g := g) (hs := hs) (gs := gs) (tk := tk) (er := er) (ea := ea) (t := t) (x := x) hL
  rw [in_51]
  by_cases c1 : t.1 = 2
  · have e1 : (nI (ckk t.1) = nI 2) = True := (ckk2 ht.1).trans (eq_true c1)
    have c2 : ¬ (lo ≤ t.2.2.2 ∧ t.2.2.2 ≤ hi) := fun z => h (ckI_t.mpr ⟨c1, z⟩)
    have e2 : ¬ (nI lo ≤ nI (cvl t.2.2.2) ∧ nI (cvl t.2.2.2) ≤ nI hi) := fun z => c2 (Eq.mp (cv_in (v := t.2.2.2) h1 h2) z)
    rw [ckI_r c1 c2]
    simp (disch := first | omega | rfl) only [e_51_0, e_51_1, e_51_4, e_51_5, e_51_8, e_51_9, e_51_11, e_51_14, e_51_15, e_51_16, e_51_19, e_51_20, e_51_21, e_51_24, e_51_27, e_51_28, e_51_30, e_51_33, e_51_36, e_51_37, e_51_40, e_51_41, ge1, ule_t, true_or, or_true, nI_add, nI_mul, nI_sub, nI_clamp, nI_lt_t, nI_lt_f, nI_le_t, nI_le_f, nI_eq_t, nI_eq_f, vp_nI, tI, fI, not_true, not_false_iff, true_and, and_true, Classical.not_not, mS_uI, mS_uA, mS_uJ, mS_uR, mS_uX, mR_uI, mR_uA, mR_uJ, mR_uX, mX_uI, mX_uA, mX_uJ, mX_uR, mI_s, mI_n, mI_A, mI_An, mI_uJ, mI_uR, mI_uX, mJ_uI, mJ_uA, mJ_uR, mJ_uX, onR_s, kC_v, kC_n, kC_t, mI_A, ldT_6, ldT_9, g1, e1, s_155, bI_fi e2, h53]
  · have e1 : (nI (ckk t.1) = nI 2) = False := (ckk2 ht.1).trans (eq_false c1)
    rw [ckI_s c1]
    simp (disch := first | omega | rfl) only [e_51_0, e_51_1, e_51_4, e_51_5, e_51_8, e_51_9, e_51_11, e_51_14, e_51_15, e_51_16, e_51_19, e_51_20, e_51_21, e_51_24, e_51_27, e_51_28, e_51_30, e_51_33, e_51_36, e_51_37, e_51_40, e_51_41, ge1, ule_t, true_or, or_true, nI_add, nI_mul, nI_sub, nI_clamp, nI_lt_t, nI_lt_f, nI_le_t, nI_le_f, nI_eq_t, nI_eq_f, vp_nI, tI, fI, not_true, not_false_iff, true_and, and_true, Classical.not_not, mS_uI, mS_uA, mS_uJ, mS_uR, mS_uX, mR_uI, mR_uA, mR_uJ, mR_uX, mX_uI, mX_uA, mX_uJ, mX_uR, mI_s, mI_n, mI_A, mI_An, mI_uJ, mI_uR, mI_uX, mJ_uI, mJ_uA, mJ_uR, mJ_uX, onR_s, kC_v, kC_n, kC_t, mI_A, ldT_6, ldT_9, g1, e1, h53]
theorem s_50t (hL : LdC μ f L) (ht : okTk f L t) (h1 : lo ≤ 9999) (h2 : hi ≤ 9999) (h : ckI lo hi t = nI 0) : Ev (d + 3) 50 [.ref 1030, .int (nI lo), .int (nI hi)] (uA μ 1030 (ldT g L hs gs t tk er ea)) Q = Q (some (some (.int (nI 1)))) (uA μ 1030 (ldT g L hs gs (nx f L t) (nI t.2.2.2) er ea)) := by
  have h51 := fun (d : Nat) (Q : Po) => s_51t (d := d) (Q := Q) (g := g) (hs := hs) (gs := gs) (tk := tk) (er := er) (ea := ea) hL ht h1 h2 h
  have h57 := fun (d : Nat) (Q : Po) (tk : Int32) => s_57 (d := d) (Q := Q) (g := g) (hs := hs) (gs := gs) (tk := tk) (er := er) (ea := ea) hL ht
  obtain ⟨c1, c2, c3⟩ := ckI_t.mp h
  have e3 : cvl t.2.2.2 = t.2.2.2 := if_pos (by omega)
  have g1 := hL.1
  rw [in_50]
  simp (disch := first | omega | rfl) only [e_50_0, e_50_1, e_50_2, e_50_3, e_50_6, e_50_9, e_50_10, e_50_11, e_50_12, e_50_13, e_50_16, e_50_19, e_50_20, e_50_23, e_50_24, ge1, ule_t, true_or, or_true, nI_add, nI_mul, nI_sub, nI_clamp, nI_lt_t, nI_lt_f, nI_le_t, nI_le_f, nI_eq_t, nI_eq_f, vp_nI, tI, fI, not_true, not_false_iff, true_and, and_true, Classical.not_not, mS_uI, mS_uA, mS_uJ, mS_uR, mS_uX, mR_uI, mR_uA, mR_uJ, mR_uX, mX_uI, mX_uA, mX_uJ, mX_uR, mI_s, mI_n, mI_A, mI_An, mI_uJ, mI_uR, mI_uX, mJ_uI, mJ_uA, mJ_uR, mJ_uX, onR_s, kC_v, kC_n, kC_t, mI_A, ldT_9, e3, g1, h51, h57, uIA, ldT_u10]
theorem s_50f (hL : LdC μ f L) (ht : okTk f L t) (h1 : lo ≤ 9999) (h2 : hi ≤ 9999) (h : ¬ ckI lo hi t = nI 0) : Ev (d + 3) 50 [.ref 1030, .int (nI lo), .int (nI hi)] (uA μ 1030 (ldT g L hs gs t tk er ea)) Q = Q (some (some (.int (nI 0)))) (uA μ 1030 (ldT g L hs gs t tk (ckI lo hi t) (nI t.2.1))) := by
  have h51 := fun (d : Nat) (Q : Po) => s_51f (d := d) (Q := Q) (g := g) (hs := hs) (gs := gs) (tk := tk) (er := er) (ea := ea) hL ht h1 h2 h
  have g1 := hL.1
  rw [in_50]
  simp (disch := first | omega | rfl) only [e_50_0, e_50_1, e_50_2, e_50_3, e_50_6, e_50_9, e_50_10, e_50_11, e_50_12, e_50_13, e_50_16, e_50_19, e_50_20, e_50_23, e_50_24, ge1, ule_t, true_or, or_true, nI_add, nI_mul, nI_sub, nI_clamp, nI_lt_t, nI_lt_f, nI_le_t, nI_le_f, nI_eq_t, nI_eq_f, vp_nI, tI, fI, not_true, not_false_iff, true_and, and_true, Classical.not_not, mS_uI, mS_uA, mS_uJ, mS_uR, mS_uX, mR_uI, mR_uA, mR_uJ, mR_uX, mX_uI, mX_uA, mX_uJ, mX_uR, mI_s, mI_n, mI_A, mI_An, mI_uJ, mI_uR, mI_uX, mJ_uI, mJ_uA, mJ_uR, mJ_uX, onR_s, kC_v, kC_n, kC_t, mI_A, g1, h51]
theorem s_52t (hL : LdC μ f L) (ht : okTk f L t) (h : t.1 = 3) : Ev (d + 3) 52 [.ref 1030] (uA μ 1030 (ldT g L hs gs t tk er ea)) Q = Q (some (some (.int (nI 1)))) (uA μ 1030 (ldT g L hs gs (nx f L t) tk er ea)) := by
  have h57 := fun (d : Nat) (Q : Po) => s_57 (d := d) (Q := Q) (g := g) (hs := hs) (gs := gs) (tk := tk) (er := er) (ea := ea) hL ht
  have e1 : (nI (ckk t.1) = nI 3) = True := (ckk3 ht.1).trans (eq_true (by omega))
  have h59 := (ht.2.2.2.2.2.2.1 (by omega)).mpr h
  have hlt := ht.2.2.2.1 (by omega)
  have hle := ht.2.2.1
  obtain ⟨g1, g2, g3, g4, g5, g6⟩ := hL
  have e2 : sgB (f t.2.1) = nI 59 := by rw [h59]; rfl
  rw [in_52]
  simp (disch := first | omega | rfl) only [e_52_0, e_52_1, e_52_4, e_52_5, e_52_8, e_52_9, e_52_12, e_52_13, e_52_16, e_52_17, e_52_19, e_52_22, e_52_23, e_52_25, e_52_28, e_52_29, e_52_30, e_52_33, e_52_34, ge1, ule_t, true_or, or_true, nI_add, nI_mul, nI_sub, nI_clamp, nI_lt_t, nI_lt_f, nI_le_t, nI_le_f, nI_eq_t, nI_eq_f, vp_nI, tI, fI, not_true, not_false_iff, true_and, and_true, Classical.not_not, mS_uI, mS_uA, mS_uJ, mS_uR, mS_uX, mR_uI, mR_uA, mR_uJ, mR_uX, mX_uI, mX_uA, mX_uJ, mX_uR, mI_s, mI_n, mI_A, mI_An, mI_uJ, mI_uR, mI_uX, mJ_uI, mJ_uA, mJ_uR, mJ_uX, onR_s, kC_v, kC_n, kC_t, mI_An, mI_A, ldT_6, ldT_7, g1, g2, g3, g4 t.2.1 (by omega), e1, e2, h57]
theorem s_52f (hL : LdC μ f L) (ht : okTk f L t) (h : ¬ t.1 = 3) : Ev (d + 3) 52 [.ref 1030] (uA μ 1030 (ldT g L hs gs t tk er ea)) Q = Q (some (some (.int (nI 0)))) (uA μ 1030 (ldT g L hs gs t tk (-11) (nI t.2.1))) := by
  have h53 := fun (d : Nat) (Q : Po) (x : Int32) => s_53 (d := d) (Q := Q) (g := g) (hs := hs) (gs := gs) (tk := tk) (er := er) (ea := ea) (t := t) (x := x) hL
  obtain ⟨g1, g2, g3, g4, g5, g6⟩ := hL
  have h4 := ht.1
  rw [in_52]
  by_cases c1 : 3 ≤ t.1
  · have e1 : (nI (ckk t.1) = nI 3) = True := (ckk3 ht.1).trans (eq_true c1)
    have h59 : ¬ f t.2.1 = 59 := fun z => h ((ht.2.2.2.2.2.2.1 c1).mp z)
    have hlt := ht.2.2.2.1 (by omega)
    have hle := ht.2.2.1
    have e2 := sgB_eqc (b := f t.2.1) (c := 59) (g5 _) (by omega)
    rw [eq_false h59] at e2
    simp (disch := first | omega | rfl) only [e_52_0, e_52_1, e_52_4, e_52_5, e_52_8, e_52_9, e_52_12, e_52_13, e_52_16, e_52_17, e_52_19, e_52_22, e_52_23, e_52_25, e_52_28, e_52_29, e_52_30, e_52_33, e_52_34, ge1, ule_t, true_or, or_true, nI_add, nI_mul, nI_sub, nI_clamp, nI_lt_t, nI_lt_f, nI_le_t, nI_le_f, nI_eq_t, nI_eq_f, vp_nI, tI, fI, not_true, not_false_iff, true_and, and_true, Classical.not_not, mS_uI, mS_uA, mS_uJ, mS_uR, mS_uX, mR_uI, mR_uA, mR_uJ, mR_uX, mX_uI, mX_uA, mX_uJ, mX_uR, mI_s, mI_n, mI_A, mI_An, mI_uJ, mI_uR, mI_uX, mJ_uI, mJ_uA, mJ_uR, mJ_uX, onR_s, kC_v, kC_n, kC_t, mI_An, mI_A, ldT_6, ldT_7, g1, g2, g3, g4 t.2.1 (by omega), e1, e2, h53]
  · have e1 : (nI (ckk t.1) = nI 3) = False := (ckk3 ht.1).trans (eq_false c1)
    simp (disch := first | omega | rfl) only [e_52_0, e_52_1, e_52_4, e_52_5, e_52_8, e_52_9, e_52_12, e_52_13, e_52_16, e_52_17, e_52_19, e_52_22, e_52_23, e_52_25, e_52_28, e_52_29, e_52_30, e_52_33, e_52_34, ge1, ule_t, true_or, or_true, nI_add, nI_mul, nI_sub, nI_clamp, nI_lt_t, nI_lt_f, nI_le_t, nI_le_f, nI_eq_t, nI_eq_f, vp_nI, tI, fI, not_true, not_false_iff, true_and, and_true, Classical.not_not, mS_uI, mS_uA, mS_uJ, mS_uR, mS_uX, mR_uI, mR_uA, mR_uJ, mR_uX, mX_uI, mX_uA, mX_uJ, mX_uR, mI_s, mI_n, mI_A, mI_An, mI_uJ, mI_uR, mI_uX, mJ_uI, mJ_uA, mJ_uR, mJ_uX, onR_s, kC_v, kC_n, kC_t, mI_An, mI_A, ldT_6, ldT_7, g1, g2, g3, e1, h53]
theorem s_48 (hL : LdC μ f L) (hX : TxC μ) (ht : okTk f L t) : Ev (d + 7) 48 [.ref 1030] (uA μ 1030 (ldT g L hs gs t tk er ea)) Q = Q (some (some (.int (wIx f t Sort6 0)))) (uA μ 1030 (ldT g L hs gs t tk er ea)) := by
  have g1 := hL.1
  have h3 := fun (d : Nat) (Q : Po) => s_56 (d := d) (Q := Q) (g := g) (hs := hs) (gs := gs) (tk := tk) (er := er) (ea := ea) (i := 3) hL hX (by omega) (by omega) ht
  have h4 := fun (d : Nat) (Q : Po) => s_56 (d := d) (Q := Q) (g := g) (hs := hs) (gs := gs) (tk := tk) (er := er) (ea := ea) (i := 4) hL hX (by omega) (by omega) ht
  have h5 := fun (d : Nat) (Q : Po) => s_56 (d := d) (Q := Q) (g := g) (hs := hs) (gs := gs) (tk := tk) (er := er) (ea := ea) (i := 5) hL hX (by omega) (by omega) ht
  have h6 := fun (d : Nat) (Q : Po) => s_56 (d := d) (Q := Q) (g := g) (hs := hs) (gs := gs) (tk := tk) (er := er) (ea := ea) (i := 6) hL hX (by omega) (by omega) ht
  have h7 := fun (d : Nat) (Q : Po) => s_56 (d := d) (Q := Q) (g := g) (hs := hs) (gs := gs) (tk := tk) (er := er) (ea := ea) (i := 7) hL hX (by omega) (by omega) ht
  have h8 := fun (d : Nat) (Q : Po) => s_56 (d := d) (Q := Q) (g := g) (hs := hs) (gs := gs) (tk := tk) (er := er) (ea := ea) (i := 8) hL hX (by omega) (by omega) ht
  show _ = Q (some (some (.int (wIx f t [txB 3, txB 4, txB 5, txB 6, txB 7, txB 8] 0)))) _
  rw [in_48]
  by_cases c3 : isW f t (txB 3)
  · rw [wIx, if_pos c3]; simp only [bI_ti c3] at h3
    simp (disch := first | omega | rfl) only [e_48_0, e_48_1, e_48_3, e_48_6, e_48_9, e_48_10, e_48_11, e_48_12, e_48_14, e_48_17, e_48_20, e_48_21, e_48_22, e_48_23, e_48_25, e_48_28, e_48_31, e_48_32, e_48_33, e_48_34, e_48_36, e_48_39, e_48_42, e_48_43, e_48_44, e_48_45, e_48_47, e_48_50, e_48_53, e_48_54, e_48_55, e_48_56, e_48_58, e_48_61, e_48_64, e_48_65, e_48_68, e_48_69, ge1, ule_t, true_or, or_true, nI_add, nI_mul, nI_sub, nI_clamp, nI_lt_t, nI_lt_f, nI_le_t, nI_le_f, nI_eq_t, nI_eq_f, vp_nI, tI, fI, not_true, not_false_iff, true_and, and_true, Classical.not_not, mS_uI, mS_uA, mS_uJ, mS_uR, mS_uX, mR_uI, mR_uA, mR_uJ, mR_uX, mX_uI, mX_uA, mX_uJ, mX_uR, mI_s, mI_n, mI_A, mI_An, mI_uJ, mI_uR, mI_uX, mJ_uI, mJ_uA, mJ_uR, mJ_uX, onR_s, kC_v, kC_n, kC_t, g1, h3]
  · rw [wIx, if_neg c3]; simp only [bI_fi c3] at h3
    by_cases c4 : isW f t (txB 4)
    · rw [wIx, if_pos c4]; simp only [bI_ti c4] at h4
      simp (disch := first | omega | rfl) only [e_48_0, e_48_1, e_48_3, e_48_6, e_48_9, e_48_10, e_48_11, e_48_12, e_48_14, e_48_17, e_48_20, e_48_21, e_48_22, e_48_23, e_48_25, e_48_28, e_48_31, e_48_32, e_48_33, e_48_34, e_48_36, e_48_39, e_48_42, e_48_43, e_48_44, e_48_45, e_48_47, e_48_50, e_48_53, e_48_54, e_48_55, e_48_56, e_48_58, e_48_61, e_48_64, e_48_65, e_48_68, e_48_69, ge1, ule_t, true_or, or_true, nI_add, nI_mul, nI_sub, nI_clamp, nI_lt_t, nI_lt_f, nI_le_t, nI_le_f, nI_eq_t, nI_eq_f, vp_nI, tI, fI, not_true, not_false_iff, true_and, and_true, Classical.not_not, mS_uI, mS_uA, mS_uJ, mS_uR, mS_uX, mR_uI, mR_uA, mR_uJ, mR_uX, mX_uI, mX_uA, mX_uJ, mX_uR, mI_s, mI_n, mI_A, mI_An, mI_uJ, mI_uR, mI_uX, mJ_uI, mJ_uA, mJ_uR, mJ_uX, onR_s, kC_v, kC_n, kC_t, g1, h3, h4]
    · rw [wIx, if_neg c4]; simp only [bI_fi c4] at h4
      by_cases c5 : isW f t (txB 5)
      · rw [wIx, if_pos c5]; simp only [bI_ti c5] at h5
        simp (disch := first | omega | rfl) only [e_48_0, e_48_1, e_48_3, e_48_6, e_48_9, e_48_10, e_48_11, e_48_12, e_48_14, e_48_17, e_48_20, e_48_21, e_48_22, e_48_23, e_48_25, e_48_28, e_48_31, e_48_32, e_48_33, e_48_34, e_48_36, e_48_39, e_48_42, e_48_43, e_48_44, e_48_45, e_48_47, e_48_50, e_48_53, e_48_54, e_48_55, e_48_56, e_48_58, e_48_61, e_48_64, e_48_65, e_48_68, e_48_69, ge1, ule_t, true_or, or_true, nI_add, nI_mul, nI_sub, nI_clamp, nI_lt_t, nI_lt_f, nI_le_t, nI_le_f, nI_eq_t, nI_eq_f, vp_nI, tI, fI, not_true, not_false_iff, true_and, and_true, Classical.not_not, mS_uI, mS_uA, mS_uJ, mS_uR, mS_uX, mR_uI, mR_uA, mR_uJ, mR_uX, mX_uI, mX_uA, mX_uJ, mX_uR, mI_s, mI_n, mI_A, mI_An, mI_uJ, mI_uR, mI_uX, mJ_uI, mJ_uA, mJ_uR, mJ_uX, onR_s, kC_v, kC_n, kC_t, g1, h3, h4, h5]
      · rw [wIx, if_neg c5]; simp only [bI_fi c5] at h5
        by_cases c6 : isW f t (txB 6)
        · rw [wIx, if_pos c6]; simp only [bI_ti c6] at h6
          simp (disch := first | omega | rfl) only [e_48_0, e_48_1, e_48_3, e_48_6, e_48_9, e_48_10, e_48_11, e_48_12, e_48_14, e_48_17, e_48_20, e_48_21, e_48_22, e_48_23, e_48_25, e_48_28, e_48_31, e_48_32, e_48_33, e_48_34, e_48_36, e_48_39, e_48_42, e_48_43, e_48_44, e_48_45, e_48_47, e_48_50, e_48_53, e_48_54, e_48_55, e_48_56, e_48_58, e_48_61, e_48_64, e_48_65, e_48_68, e_48_69, ge1, ule_t, true_or, or_true, nI_add, nI_mul, nI_sub, nI_clamp, nI_lt_t, nI_lt_f, nI_le_t, nI_le_f, nI_eq_t, nI_eq_f, vp_nI, tI, fI, not_true, not_false_iff, true_and, and_true, Classical.not_not, mS_uI, mS_uA, mS_uJ, mS_uR, mS_uX, mR_uI, mR_uA, mR_uJ, mR_uX, mX_uI, mX_uA, mX_uJ, mX_uR, mI_s, mI_n, mI_A, mI_An, mI_uJ, mI_uR, mI_uX, mJ_uI, mJ_uA, mJ_uR, mJ_uX, onR_s, kC_v, kC_n, kC_t, g1, h3, h4, h5, h6]
        · rw [wIx, if_neg c6]; simp only [bI_fi c6] at h6
          by_cases c7 : isW f t (txB 7)
          · rw [wIx, if_pos c7]; simp only [bI_ti c7] at h7
            simp (disch := first | omega | rfl) only [e_48_0, e_48_1, e_48_3, e_48_6, e_48_9, e_48_10, e_48_11, e_48_12, e_48_14, e_48_17, e_48_20, e_48_21, e_48_22, e_48_23, e_48_25, e_48_28, e_48_31, e_48_32, e_48_33, e_48_34, e_48_36, e_48_39, e_48_42, e_48_43, e_48_44, e_48_45, e_48_47, e_48_50, e_48_53, e_48_54, e_48_55, e_48_56, e_48_58, e_48_61, e_48_64, e_48_65, e_48_68, e_48_69, ge1, ule_t, true_or, or_true, nI_add, nI_mul, nI_sub, nI_clamp, nI_lt_t, nI_lt_f, nI_le_t, nI_le_f, nI_eq_t, nI_eq_f, vp_nI, tI, fI, not_true, not_false_iff, true_and, and_true, Classical.not_not, mS_uI, mS_uA, mS_uJ, mS_uR, mS_uX, mR_uI, mR_uA, mR_uJ, mR_uX, mX_uI, mX_uA, mX_uJ, mX_uR, mI_s, mI_n, mI_A, mI_An, mI_uJ, mI_uR, mI_uX, mJ_uI, mJ_uA, mJ_uR, mJ_uX, onR_s, kC_v, kC_n, kC_t, g1, h3, h4, h5, h6, h7]
          · rw [wIx, if_neg c7]; simp only [bI_fi c7] at h7
            by_cases c8 : isW f t (txB 8)
            · rw [wIx, if_pos c8]; simp only [bI_ti c8] at h8
              simp (disch := first | omega | rfl) only [e_48_0, e_48_1, e_48_3, e_48_6, e_48_9, e_48_10, e_48_11, e_48_12, e_48_14, e_48_17, e_48_20, e_48_21, e_48_22, e_48_23, e_48_25, e_48_28, e_48_31, e_48_32, e_48_33, e_48_34, e_48_36, e_48_39, e_48_42, e_48_43, e_48_44, e_48_45, e_48_47, e_48_50, e_48_53, e_48_54, e_48_55, e_48_56, e_48_58, e_48_61, e_48_64, e_48_65, e_48_68, e_48_69, ge1, ule_t, true_or, or_true, nI_add, nI_mul, nI_sub, nI_clamp, nI_lt_t, nI_lt_f, nI_le_t, nI_le_f, nI_eq_t, nI_eq_f, vp_nI, tI, fI, not_true, not_false_iff, true_and, and_true, Classical.not_not, mS_uI, mS_uA, mS_uJ, mS_uR, mS_uX, mR_uI, mR_uA, mR_uJ, mR_uX, mX_uI, mX_uA, mX_uJ, mX_uR, mI_s, mI_n, mI_A, mI_An, mI_uJ, mI_uR, mI_uX, mJ_uI, mJ_uA, mJ_uR, mJ_uX, onR_s, kC_v, kC_n, kC_t, g1, h3, h4, h5, h6, h7, h8]
            · rw [wIx, if_neg c8, wIx]; simp only [bI_fi c8] at h8
              simp (disch := first | omega | rfl) only [e_48_0, e_48_1, e_48_3, e_48_6, e_48_9, e_48_10, e_48_11, e_48_12, e_48_14, e_48_17, e_48_20, e_48_21, e_48_22, e_48_23, e_48_25, e_48_28, e_48_31, e_48_32, e_48_33, e_48_34, e_48_36, e_48_39, e_48_42, e_48_43, e_48_44, e_48_45, e_48_47, e_48_50, e_48_53, e_48_54, e_48_55, e_48_56, e_48_58, e_48_61, e_48_64, e_48_65, e_48_68, e_48_69, ge1, ule_t, true_or, or_true, nI_add, nI_mul, nI_sub, nI_clamp, nI_lt_t, nI_lt_f, nI_le_t, nI_le_f, nI_eq_t, nI_eq_f, vp_nI, tI, fI, not_true, not_false_iff, true_and, and_true, Classical.not_not, mS_uI, mS_uA, mS_uJ, mS_uR, mS_uX, mR_uI, mR_uA, mR_uJ, mR_uX, mX_uI, mX_uA, mX_uJ, mX_uR, mI_s, mI_n, mI_A, mI_An, mI_uJ, mI_uR, mI_uX, mJ_uI, mJ_uA, mJ_uR, mJ_uX, onR_s, kC_v, kC_n, kC_t, g1, h3, h4, h5, h6, h7, h8]
/-- names that are known -/
theorem s_78 (hS : StS μ s) (hn : mI μ s 1 = nI n) (h6 : n ≤ 6) (hN : ∀ m, m < n → mI μ (s + 5 + 3 * m) 0 = tn (16 + m)) (hx : ¬ x = nI 0) : Ev (d + 1) 78 [.ref s, .int x] μ Q = Q (some (some (.int (fNm tn x n 0)))) μ := by
  rw [in_78]
  simp (disch := first | omega | rfl) only [e_78_0, e_78_1, e_78_4, e_78_5, e_78_6, e_78_7, e_78_9, e_78_10, e_78_13, e_78_16, e_78_17, e_78_20, e_78_21, e_78_22, e_78_25, e_78_26, e_78_29, e_78_30, e_78_31, e_78_34, e_78_37, e_78_38, hx, ge1, ule_t, true_or, or_true, nI_add, nI_mul, nI_sub, nI_clamp, nI_lt_t, nI_lt_f, nI_le_t, nI_le_f, nI_eq_t, nI_eq_f, vp_nI, tI, fI, not_true, not_false_iff, true_and, and_true, Classical.not_not]
  exact l_78 hS hn h6 hN n 0 (by omega)
theorem nm_ne (ht : okTk f L t) (h1 : t.1 = 1) : ¬ nI (nmQ f t 6) = nI 0 := by
  obtain ⟨a, b⟩ := nmQ_lt ht h1
  rw [nI_eq (by omega) (by omega)]
  omega
theorem StS_uA {a : Nat} (h : StS μ s) : StS (uA μ a F) s := h
theorem s_78l (hs9 : s + 22 < 1030 ∨ 1030 < s) (hS : StS μ s) (hn : mI μ s 1 = nI n) (h6 : n ≤ 6) (hN : ∀ m, m < n → mI μ (s + 5 + 3 * m) 0 = tn (16 + m)) (ht : okTk f L t) (h1 : t.1 = 1) : Ev (d + 1) 78 [.ref s, .int (nI (nmQ f t 6))] (uA μ 1030 F) Q = Q (some (some (.int (fnd f tn n t)))) (uA μ 1030 F) :=
  s_78 (μ := uA μ 1030 F) (StS_uA hS) (by rw [mI_An (by omega)]; exact hn) h6 (fun m hm => by rw [mI_An (by omega)]; exact hN m hm) (nm_ne ht h1)
theorem s_49t (hL : LdC μ f L) (hR1 : mR μ 1030 1 = some s) (hs9 : s + 22 < 1030 ∨ 1030 < s) (hS : StS μ s) (hn : mI μ s 1 = nI n) (h6 : n ≤ 6) (hN : ∀ m, m < n → mI μ (s + 5 + 3 * m) 0 = tn (16 + m)) (ht : okTk f L t) (h : ckM f tn n t = nI 0) : Ev (d + 3) 49 [.ref 1030] (uA μ 1030 (ldT g L hs gs t tk er ea)) Q = Q (some (some (.int (nI 1)))) (uA μ 1030 (ldT g L hs gs (nx f L t) (fnd f tn n t) er ea)) := by
  obtain ⟨c1, c2⟩ := ckM_t.mp h
  have h54 := fun (d : Nat) (Q : Po) => s_54 (d := d) (Q := Q) (g := g) (hs := hs) (gs := gs) (tk := tk) (er := er) (ea := ea) hL ht
  simp only [bI_ti c1] at h54
  have h55 := fun (d : Nat) (Q : Po) => s_55 (d := d) (Q := Q) (g := g) (hs := hs) (gs := gs) (tk := tk) (er := er) (ea := ea) hL ht c1.1
  have h57 := fun (d : Nat) (Q : Po) (tk : Int32) => s_57 (d := d) (Q := Q) (g := g) (hs := hs) (gs := gs) (tk := tk) (er := er) (ea := ea) hL ht
  have h78 := fun (d : Nat) (Q : Po) (F : Nat → Int32) => s_78l (d := d) (Q := Q) (F := F) (f := f) (L := L) hs9 hS hn h6 hN ht c1.1
  have g1 := hL.1
  have q1 := hS.2.1
  rw [in_49]
  simp (disch := first | omega | rfl) only [e_49_0, e_49_1, e_49_4, e_49_7, e_49_8, e_49_10, e_49_13, e_49_14, e_49_15, e_49_16, e_49_19, e_49_20, e_49_23, e_49_26, e_49_29, e_49_30, e_49_33, e_49_34, e_49_37, e_49_38, e_49_40, e_49_43, e_49_44, e_49_45, e_49_48, e_49_49, ge1, ule_t, true_or, or_true, nI_add, nI_mul, nI_sub, nI_clamp, nI_lt_t, nI_lt_f, nI_le_t, nI_le_f, nI_eq_t, nI_eq_f, vp_nI, tI, fI, not_true, not_false_iff, true_and, and_true, Classical.not_not, mS_uI, mS_uA, mS_uJ, mS_uR, mS_uX, mR_uI, mR_uA, mR_uJ, mR_uX, mX_uI, mX_uA, mX_uJ, mX_uR, mI_s, mI_n, mI_A, mI_An, mI_uJ, mI_uR, mI_uX, mJ_uI, mJ_uA, mJ_uR, mJ_uX, onR_s, kC_v, kC_n, kC_t, mI_A, ldT_10, g1, hR1, q1, h54, h55, h57, h78, uIA, ldT_u10, eq_false c2]
theorem s_49f (hL : LdC μ f L) (hR1 : mR μ 1030 1 = some s) (hs9 : s + 22 < 1030 ∨ 1030 < s) (hS : StS μ s) (hn : mI μ s 1 = nI n) (h6 : n ≤ 6) (hN : ∀ m, m < n → mI μ (s + 5 + 3 * m) 0 = tn (16 + m)) (ht : okTk f L t) (h : ¬ ckM f tn n t = nI 0) : Ev (d + 3) 49 [.ref 1030] (uA μ 1030 (ldT g L hs gs t tk er ea)) Q = Q (some (some (.int (nI 0)))) (uA μ 1030 (ldT g L hs gs t (if isN t then -1 else tk) (ckM f tn n t) (nI t.2.1))) := by
  have h54 := fun (d : Nat) (Q : Po) => s_54 (d := d) (Q := Q) (g := g) (hs := hs) (gs := gs) (tk := tk) (er := er) (ea := ea) hL ht
  have h53 := fun (d : Nat) (Q : Po) (x tk : Int32) => s_53 (d := d) (Q := Q) (g := g) (hs := hs) (gs := gs) (tk := tk) (er := er) (ea := ea) (t := t) (x := x) hL
  have g1 := hL.1
  have q1 := hS.2.1
  rw [in_49]
  by_cases c1 : isN t
  · have c2 : fnd f tn n t = -1 := Classical.byContradiction fun z => h (ckM_t.mpr ⟨c1, z⟩)
    have e1 : ckM f tn n t = -13 := by unfold ckM; rw [if_pos c1, if_pos c2]
    simp only [bI_ti c1] at h54
    have h55 := fun (d : Nat) (Q : Po) => s_55 (d := d) (Q := Q) (g := g) (hs := hs) (gs := gs) (tk := tk) (er := er) (ea := ea) hL ht c1.1
    have h78 := fun (d : Nat) (Q : Po) (F : Nat → Int32) => s_78l (d := d) (Q := Q) (F := F) (f := f) (L := L) hs9 hS hn h6 hN ht c1.1
    simp only [c2] at h78
    rw [if_pos c1, e1]
    simp (disch := first | omega | rfl) only [e_49_0, e_49_1, e_49_4, e_49_7, e_49_8, e_49_10, e_49_13, e_49_14, e_49_15, e_49_16, e_49_19, e_49_20, e_49_23, e_49_26, e_49_29, e_49_30, e_49_33, e_49_34, e_49_37, e_49_38, e_49_40, e_49_43, e_49_44, e_49_45, e_49_48, e_49_49, ge1, ule_t, true_or, or_true, nI_add, nI_mul, nI_sub, nI_clamp, nI_lt_t, nI_lt_f, nI_le_t, nI_le_f, nI_eq_t, nI_eq_f, vp_nI, tI, fI, not_true, not_false_iff, true_and, and_true, Classical.not_not, mS_uI, mS_uA, mS_uJ, mS_uR, mS_uX, mR_uI, mR_uA, mR_uJ, mR_uX, mX_uI, mX_uA, mX_uJ, mX_uR, mI_s, mI_n, mI_A, mI_An, mI_uJ, mI_uR, mI_uX, mJ_uI, mJ_uA, mJ_uR, mJ_uX, onR_s, kC_v, kC_n, kC_t, mI_A, ldT_10, g1, hR1, q1, h54, h55, h53, h78, uIA, ldT_u10]
  · have e1 : ckM f tn n t = -11 := if_neg c1
    simp only [bI_fi c1] at h54
    rw [if_neg c1, e1]
    simp (disch := first | omega | rfl) only [e_49_0, e_49_1, e_49_4, e_49_7, e_49_8, e_49_10, e_49_13, e_49_14, e_49_15, e_49_16, e_49_19, e_49_20, e_49_23, e_49_26, e_49_29, e_49_30, e_49_33, e_49_34, e_49_37, e_49_38, e_49_40, e_49_43, e_49_44, e_49_45, e_49_48, e_49_49, ge1, ule_t, true_or, or_true, nI_add, nI_mul, nI_sub, nI_clamp, nI_lt_t, nI_lt_f, nI_le_t, nI_le_f, nI_eq_t, nI_eq_f, vp_nI, tI, fI, not_true, not_false_iff, true_and, and_true, Classical.not_not, mS_uI, mS_uA, mS_uJ, mS_uR, mS_uX, mR_uI, mR_uA, mR_uJ, mR_uX, mX_uI, mX_uA, mX_uJ, mX_uR, mI_s, mI_n, mI_A, mI_An, mI_uJ, mI_uR, mI_uX, mJ_uI, mJ_uA, mJ_uR, mJ_uX, onR_s, kC_v, kC_n, kC_t, mI_A, g1, h54, h53]
end RdC

/-! reading: the reference's small steps -/
section MdU
variable {g : Nat → Int32} {L sm ts hs x : Nat} {er ep y : Int32} {t : TK}
theorem mdT_14 : mdT g L t er ep sm ts hs 14 = nI L := rfl
theorem mdT_u19 : upd (mdT g L t er ep sm ts hs) 19 y = mdT g L t y ep sm ts hs := md_u19
theorem mdT_u20 : upd (mdT g L t er ep sm ts hs) 20 y = mdT g L t er y sm ts hs := md_u20
theorem mdT_u22 : upd (mdT g L t er ep sm ts hs) 22 (nI x) = mdT g L t er ep x ts hs := md_u22
theorem mdT_u23 : upd (mdT g L t er ep sm ts hs) 23 (nI x) = mdT g L t er ep sm x hs := md_u23
theorem mdT_u24 : upd (mdT g L t er ep sm ts hs) 24 (nI x) = mdT g L t er ep sm ts x := md_u24
end MdU
section RdM
variable {d : Nat} {Q : Po} {μ : Mu} {f : Nat → Nat} {g F tn : Nat → Int32} {L i k lo hi n sm ts hs : Nat} {er ep x y : Int32} {t : TK}
theorem s_205n (hM : MdC μ f L) : Ev (d + 1) 205 [.ref 1298, .int (nI 0), .int x] (uA μ 1298 (mdT g L t er ep sm ts hs)) Q = Q (some none) (uA μ 1298 (mdT g L t er ep sm ts hs)) := by
  obtain ⟨hS, h4, h5, h6⟩ := hM
  obtain ⟨p1, p2, p3, p4, p5, p6, p7, p8, p9, p10, p11, p12, p13, p14, p15, p16, p17, p18, p19, p20, p21⟩ := hS
  rw [in_205]
  by_cases h : er = nI 0
  · simp (disch := first | omega | rfl) only [e_205_0, e_205_1, e_205_4, e_205_7, e_205_8, e_205_11, e_205_12, e_205_13, e_205_14, e_205_17, e_205_18, e_205_19, e_205_22, e_205_25, p1, p2, p3, p4, p5, p6, p7, p8, p9, p10, p11, p12, p13, p14, p15, p16, p17, p18, p19, p20, p21, ge1, ule_t, true_or, or_true, nI_add, nI_mul, nI_sub, nI_clamp, nI_lt_t, nI_lt_f, nI_le_t, nI_le_f, nI_eq_t, nI_eq_f, vp_nI, tI, fI, not_true, not_false_iff, true_and, and_true, Classical.not_not, mS_uI, mS_uA, mS_uJ, mS_uR, mS_uX, mR_uI, mR_uA, mR_uJ, mR_uX, mX_uI, mX_uA, mX_uJ, mX_uR, mI_s, mI_n, mI_A, mI_An, mI_uJ, mI_uR, mI_uX, mJ_uI, mJ_uA, mJ_uR, mJ_uX, onR_s, kC_v, kC_n, kC_t, mI_A, mdT_19, h]
  · simp (disch := first | omega | rfl) only [e_205_0, e_205_1, e_205_4, e_205_7, e_205_8, e_205_11, e_205_12, e_205_13, e_205_14, e_205_17, e_205_18, e_205_19, e_205_22, e_205_25, p1, p2, p3, p4, p5, p6, p7, p8, p9, p10, p11, p12, p13, p14, p15, p16, p17, p18, p19, p20, p21, ge1, ule_t, true_or, or_true, nI_add, nI_mul, nI_sub, nI_clamp, nI_lt_t, nI_lt_f, nI_le_t, nI_le_f, nI_eq_t, nI_eq_f, vp_nI, tI, fI, not_true, not_false_iff, true_and, and_true, Classical.not_not, mS_uI, mS_uA, mS_uJ, mS_uR, mS_uX, mR_uI, mR_uA, mR_uJ, mR_uX, mX_uI, mX_uA, mX_uJ, mX_uR, mI_s, mI_n, mI_A, mI_An, mI_uJ, mI_uR, mI_uX, mJ_uI, mJ_uA, mJ_uR, mJ_uX, onR_s, kC_v, kC_n, kC_t, mI_A, mdT_19, h]
theorem s_205t (hM : MdC μ f L) : Ev (d + 1) 205 [.ref 1298, .int (nI 1), .int x] (uA μ 1298 (mdT g L t (nI 0) ep sm ts hs)) Q = Q (some none) (uA μ 1298 (mdT g L t x (nI t.2.1) sm ts hs)) := by
  obtain ⟨hS, h4, h5, h6⟩ := hM
  obtain ⟨p1, p2, p3, p4, p5, p6, p7, p8, p9, p10, p11, p12, p13, p14, p15, p16, p17, p18, p19, p20, p21⟩ := hS
  rw [in_205]
  simp (disch := first | omega | rfl) only [e_205_0, e_205_1, e_205_4, e_205_7, e_205_8, e_205_11, e_205_12, e_205_13, e_205_14, e_205_17, e_205_18, e_205_19, e_205_22, e_205_25, p1, p2, p3, p4, p5, p6, p7, p8, p9, p10, p11, p12, p13, p14, p15, p16, p17, p18, p19, p20, p21, ge1, ule_t, true_or, or_true, nI_add, nI_mul, nI_sub, nI_clamp, nI_lt_t, nI_lt_f, nI_le_t, nI_le_f, nI_eq_t, nI_eq_f, vp_nI, tI, fI, not_true, not_false_iff, true_and, and_true, Classical.not_not, mS_uI, mS_uA, mS_uJ, mS_uR, mS_uX, mR_uI, mR_uA, mR_uJ, mR_uX, mX_uI, mX_uA, mX_uJ, mX_uR, mI_s, mI_n, mI_A, mI_An, mI_uJ, mI_uR, mI_uX, mJ_uI, mJ_uA, mJ_uR, mJ_uX, onR_s, kC_v, kC_n, kC_t, mI_A, mdT_19, mdT_16, uIA, mdT_u19, mdT_u20]
theorem s_205e (hM : MdC μ f L) (h : ¬ er = nI 0) : Ev (d + 1) 205 [.ref 1298, .int y, .int x] (uA μ 1298 (mdT g L t er ep sm ts hs)) Q = Q (some none) (uA μ 1298 (mdT g L t er ep sm ts hs)) := by
  obtain ⟨hS, h4, h5, h6⟩ := hM
  obtain ⟨p1, p2, p3, p4, p5, p6, p7, p8, p9, p10, p11, p12, p13, p14, p15, p16, p17, p18, p19, p20, p21⟩ := hS
  rw [in_205]
  simp (disch := first | omega | rfl) only [e_205_0, e_205_1, e_205_4, e_205_7, e_205_8, e_205_11, e_205_12, e_205_13, e_205_14, e_205_17, e_205_18, e_205_19, e_205_22, e_205_25, p1, p2, p3, p4, p5, p6, p7, p8, p9, p10, p11, p12, p13, p14, p15, p16, p17, p18, p19, p20, p21, ge1, ule_t, true_or, or_true, nI_add, nI_mul, nI_sub, nI_clamp, nI_lt_t, nI_lt_f, nI_le_t, nI_le_f, nI_eq_t, nI_eq_f, vp_nI, tI, fI, not_true, not_false_iff, true_and, and_true, Classical.not_not, mS_uI, mS_uA, mS_uJ, mS_uR, mS_uX, mR_uI, mR_uA, mR_uJ, mR_uX, mX_uI, mX_uA, mX_uJ, mX_uR, mI_s, mI_n, mI_A, mI_An, mI_uJ, mI_uR, mI_uX, mJ_uI, mJ_uA, mJ_uR, mJ_uX, onR_s, kC_v, kC_n, kC_t, mI_A, mdT_19, h]
theorem s_206 (hM : MdC μ f L) (ht : okTk f L t) : Ev (d + 3) 206 [.ref 1298] (uA μ 1298 (mdT g L t (nI 0) ep sm ts hs)) Q = Q (some none) (uA μ 1298 (mdT g L (nx f L t) (nI 0) ep sm ts hs)) := by
  have h203 := fun (d : Nat) (Q : Po) => s_203 (d := d) (Q := Q) (g := g) (er := nI 0) (ep := ep) (sm := sm) (ts := ts) (hs := hs) hM ht
  obtain ⟨hS, h4, h5, h6⟩ := hM
  obtain ⟨p1, p2, p3, p4, p5, p6, p7, p8, p9, p10, p11, p12, p13, p14, p15, p16, p17, p18, p19, p20, p21⟩ := hS
  rw [in_206]
  simp (disch := first | omega | rfl) only [e_206_0, e_206_1, e_206_4, e_206_7, e_206_8, e_206_11, p1, p2, p3, p4, p5, p6, p7, p8, p9, p10, p11, p12, p13, p14, p15, p16, p17, p18, p19, p20, p21, ge1, ule_t, true_or, or_true, nI_add, nI_mul, nI_sub, nI_clamp, nI_lt_t, nI_lt_f, nI_le_t, nI_le_f, nI_eq_t, nI_eq_f, vp_nI, tI, fI, not_true, not_false_iff, true_and, and_true, Classical.not_not, mS_uI, mS_uA, mS_uJ, mS_uR, mS_uX, mR_uI, mR_uA, mR_uJ, mR_uX, mX_uI, mX_uA, mX_uJ, mX_uR, mI_s, mI_n, mI_A, mI_An, mI_uJ, mI_uR, mI_uX, mJ_uI, mJ_uA, mJ_uR, mJ_uX, onR_s, kC_v, kC_n, kC_t, mI_A, mdT_19, h203]
theorem s_206e (hM : MdC μ f L) (h : ¬ er = nI 0) : Ev (d + 3) 206 [.ref 1298] (uA μ 1298 (mdT g L t er ep sm ts hs)) Q = Q (some none) (uA μ 1298 (mdT g L t er ep sm ts hs)) := by
  obtain ⟨hS, h4, h5, h6⟩ := hM
  obtain ⟨p1, p2, p3, p4, p5, p6, p7, p8, p9, p10, p11, p12, p13, p14, p15, p16, p17, p18, p19, p20, p21⟩ := hS
  rw [in_206]
  simp (disch := first | omega | rfl) only [e_206_0, e_206_1, e_206_4, e_206_7, e_206_8, e_206_11, p1, p2, p3, p4, p5, p6, p7, p8, p9, p10, p11, p12, p13, p14, p15, p16, p17, p18, p19, p20, p21, ge1, ule_t, true_or, or_true, nI_add, nI_mul, nI_sub, nI_clamp, nI_lt_t, nI_lt_f, nI_le_t, nI_le_f, nI_eq_t, nI_eq_f, vp_nI, tI, fI, not_true, not_false_iff, true_and, and_true, Classical.not_not, mS_uI, mS_uA, mS_uJ, mS_uR, mS_uX, mR_uI, mR_uA, mR_uJ, mR_uX, mX_uI, mX_uA, mX_uJ, mX_uR, mI_s, mI_n, mI_A, mI_An, mI_uJ, mI_uR, mI_uX, mJ_uI, mJ_uA, mJ_uR, mJ_uX, onR_s, kC_v, kC_n, kC_t, mI_A, mdT_19, h]
theorem s_207t (hM : MdC μ f L) (ht : okTk f L t) (h2 : hi ≤ 9999) (h : ckI lo hi t = nI 0) : Ev (d + 4) 207 [.ref 1298, .int (nI lo), .int (nI hi)] (uA μ 1298 (mdT g L t (nI 0) ep sm ts hs)) Q = Q (some (some (.int (nI t.2.2.2)))) (uA μ 1298 (mdT g L (nx f L t) (nI 0) ep sm ts hs)) := by
  obtain ⟨c1, c2, c3⟩ := ckI_t.mp h
  have e1 : (nI (mkk t.1) = nI 1) = True := (mkk2 ht.1).trans (eq_true c1)
  have h205 := fun (d : Nat) (Q : Po) (x : Int32) => s_205n (d := d) (Q := Q) (x := x) (g := g) (t := t) (er := nI 0) (ep := ep) (sm := sm) (ts := ts) (hs := hs) hM
  have h206 := fun (d : Nat) (Q : Po) => s_206 (d := d) (Q := Q) (g := g) (ep := ep) (sm := sm) (ts := ts) (hs := hs) hM ht
  obtain ⟨hS, h4, h5, h6⟩ := hM
  obtain ⟨p1, p2, p3, p4, p5, p6, p7, p8, p9, p10, p11, p12, p13, p14, p15, p16, p17, p18, p19, p20, p21⟩ := hS
  rw [in_207]
  simp (disch := first | omega | rfl) only [e_207_0, e_207_1, e_207_2, e_207_5, e_207_6, e_207_9, e_207_10, e_207_13, e_207_14, e_207_16, e_207_19, e_207_20, e_207_21, e_207_24, e_207_25, e_207_28, e_207_29, e_207_32, e_207_33, e_207_36, e_207_37, e_207_40, e_207_41, e_207_43, e_207_46, e_207_47, e_207_50, e_207_53, e_207_54, e_207_57, e_207_60, e_207_61, e_207_62, e_207_63, e_207_66, e_207_67, p1, p2, p3, p4, p5, p6, p7, p8, p9, p10, p11, p12, p13, p14, p15, p16, p17, p18, p19, p20, p21, ge1, ule_t, true_or, or_true, nI_add, nI_mul, nI_sub, nI_clamp, nI_lt_t, nI_lt_f, nI_le_t, nI_le_f, nI_eq_t, nI_eq_f, vp_nI, tI, fI, not_true, not_false_iff, true_and, and_true, Classical.not_not, mS_uI, mS_uA, mS_uJ, mS_uR, mS_uX, mR_uI, mR_uA, mR_uJ, mR_uX, mX_uI, mX_uA, mX_uJ, mX_uR, mI_s, mI_n, mI_A, mI_An, mI_uJ, mI_uR, mI_uX, mJ_uI, mJ_uA, mJ_uR, mJ_uX, onR_s, kC_v, kC_n, kC_t, mI_A, mdT_17, mdT_18, mdT_19, e1, h205, h206]
theorem s_207f (hM : MdC μ f L) (ht : okTk f L t) (h1 : lo ≤ 9999) (h2 : hi ≤ 9999) (h : ¬ ckI lo hi t = nI 0) : Ev (d + 4) 207 [.ref 1298, .int (nI lo), .int (nI hi)] (uA μ 1298 (mdT g L t (nI 0) ep sm ts hs)) Q = Q (some (some (.int (nI lo)))) (uA μ 1298 (mdT g L t (ckI lo hi t) (nI t.2.1) sm ts hs)) := by
  have hv := ht.2.2.2.2.2.2.2
  have h205 := fun (d : Nat) (Q : Po) (x : Int32) => s_205n (d := d) (Q := Q) (x := x) (g := g) (t := t) (er := nI 0) (ep := ep) (sm := sm) (ts := ts) (hs := hs) hM
  have h205t := fun (d : Nat) (Q : Po) (x : Int32) => s_205t (d := d) (Q := Q) (x := x) (g := g) (t := t) (ep := ep) (sm := sm) (ts := ts) (hs := hs) hM
  have h205e := fun (d : Nat) (Q : Po) (x y er : Int32) (h : ¬ er = nI 0) => s_205e (d := d) (Q := Q) (x := x) (y := y) (g := g) (t := t) (er := er) (ep := nI t.2.1) (sm := sm) (ts := ts) (hs := hs) hM h
  have h206e := fun (d : Nat) (Q : Po) (er : Int32) (h : ¬ er = nI 0) => s_206e (d := d) (Q := Q) (g := g) (t := t) (er := er) (ep := nI t.2.1) (sm := sm) (ts := ts) (hs := hs) hM h
  have m11 : ¬ (-11 : Int32) = nI 0 := by decide
  have m12 : ¬ (-12 : Int32) = nI 0 := by decide
  obtain ⟨hS, h4, h5, h6⟩ := hM
  obtain ⟨p1, p2, p3, p4, p5, p6, p7, p8, p9, p10, p11, p12, p13, p14, p15, p16, p17, p18, p19, p20, p21⟩ := hS
  rw [in_207]
  by_cases c1 : t.1 = 2
  · have e1 : (nI (mkk t.1) = nI 1) = True := (mkk2 ht.1).trans (eq_true c1)
    have c2 : ¬ (lo ≤ t.2.2.2 ∧ t.2.2.2 ≤ hi) := fun z => h (ckI_t.mpr ⟨c1, z⟩)
    rw [ckI_r c1 c2]
    by_cases c3 : lo ≤ t.2.2.2
    · have c4 : ¬ t.2.2.2 ≤ hi := fun z => c2 ⟨c3, z⟩
      simp (disch := first | omega | rfl) only [e_207_0, e_207_1, e_207_2, e_207_5, e_207_6, e_207_9, e_207_10, e_207_13, e_207_14, e_207_16, e_207_19, e_207_20, e_207_21, e_207_24, e_207_25, e_207_28, e_207_29, e_207_32, e_207_33, e_207_36, e_207_37, e_207_40, e_207_41, e_207_43, e_207_46, e_207_47, e_207_50, e_207_53, e_207_54, e_207_57, e_207_60, e_207_61, e_207_62, e_207_63, e_207_66, e_207_67, p1, p2, p3, p4, p5, p6, p7, p8, p9, p10, p11, p12, p13, p14, p15, p16, p17, p18, p19, p20, p21, ge1, ule_t, true_or, or_true, nI_add, nI_mul, nI_sub, nI_clamp, nI_lt_t, nI_lt_f, nI_le_t, nI_le_f, nI_eq_t, nI_eq_f, vp_nI, tI, fI, not_true, not_false_iff, true_and, and_true, Classical.not_not, mS_uI, mS_uA, mS_uJ, mS_uR, mS_uX, mR_uI, mR_uA, mR_uJ, mR_uX, mX_uI, mX_uA, mX_uJ, mX_uR, mI_s, mI_n, mI_A, mI_An, mI_uJ, mI_uR, mI_uX, mJ_uI, mJ_uA, mJ_uR, mJ_uX, onR_s, kC_v, kC_n, kC_t, mI_A, mdT_17, mdT_18, mdT_19, e1, h205, h205t, m12, h206e _ _ _ m12]
    · simp (disch := first | omega | rfl) only [e_207_0, e_207_1, e_207_2, e_207_5, e_207_6, e_207_9, e_207_10, e_207_13, e_207_14, e_207_16, e_207_19, e_207_20, e_207_21, e_207_24, e_207_25, e_207_28, e_207_29, e_207_32, e_207_33, e_207_36, e_207_37, e_207_40, e_207_41, e_207_43, e_207_46, e_207_47, e_207_50, e_207_53, e_207_54, e_207_57, e_207_60, e_207_61, e_207_62, e_207_63, e_207_66, e_207_67, p1, p2, p3, p4, p5, p6, p7, p8, p9, p10, p11, p12, p13, p14, p15, p16, p17, p18, p19, p20, p21, ge1, ule_t, true_or, or_true, nI_add, nI_mul, nI_sub, nI_clamp, nI_lt_t, nI_lt_f, nI_le_t, nI_le_f, nI_eq_t, nI_eq_f, vp_nI, tI, fI, not_true, not_false_iff, true_and, and_true, Classical.not_not, mS_uI, mS_uA, mS_uJ, mS_uR, mS_uX, mR_uI, mR_uA, mR_uJ, mR_uX, mX_uI, mX_uA, mX_uJ, mX_uR, mI_s, mI_n, mI_A, mI_An, mI_uJ, mI_uR, mI_uX, mJ_uI, mJ_uA, mJ_uR, mJ_uX, onR_s, kC_v, kC_n, kC_t, mI_A, mdT_17, mdT_18, mdT_19, e1, h205, h205t, m12, h206e _ _ _ m12]
  · have e1 : (nI (mkk t.1) = nI 1) = False := (mkk2 ht.1).trans (eq_false c1)
    rw [ckI_s c1]
    by_cases c3 : lo ≤ t.2.2.2
    · by_cases c4 : t.2.2.2 ≤ hi
      · simp (disch := first | omega | rfl) only [e_207_0, e_207_1, e_207_2, e_207_5, e_207_6, e_207_9, e_207_10, e_207_13, e_207_14, e_207_16, e_207_19, e_207_20, e_207_21, e_207_24, e_207_25, e_207_28, e_207_29, e_207_32, e_207_33, e_207_36, e_207_37, e_207_40, e_207_41, e_207_43, e_207_46, e_207_47, e_207_50, e_207_53, e_207_54, e_207_57, e_207_60, e_207_61, e_207_62, e_207_63, e_207_66, e_207_67, p1, p2, p3, p4, p5, p6, p7, p8, p9, p10, p11, p12, p13, p14, p15, p16, p17, p18, p19, p20, p21, ge1, ule_t, true_or, or_true, nI_add, nI_mul, nI_sub, nI_clamp, nI_lt_t, nI_lt_f, nI_le_t, nI_le_f, nI_eq_t, nI_eq_f, vp_nI, tI, fI, not_true, not_false_iff, true_and, and_true, Classical.not_not, mS_uI, mS_uA, mS_uJ, mS_uR, mS_uX, mR_uI, mR_uA, mR_uJ, mR_uX, mX_uI, mX_uA, mX_uJ, mX_uR, mI_s, mI_n, mI_A, mI_An, mI_uJ, mI_uR, mI_uX, mJ_uI, mJ_uA, mJ_uR, mJ_uX, onR_s, kC_v, kC_n, kC_t, mI_A, mdT_17, mdT_18, mdT_19, e1, h205t, m11, h205e _ _ _ _ _ m11, h206e _ _ _ m11]
      · simp (disch := first | omega | rfl) only [e_207_0, e_207_1, e_207_2, e_207_5, e_207_6, e_207_9, e_207_10, e_207_13, e_207_14, e_207_16, e_207_19, e_207_20, e_207_21, e_207_24, e_207_25, e_207_28, e_207_29, e_207_32, e_207_33, e_207_36, e_207_37, e_207_40, e_207_41, e_207_43, e_207_46, e_207_47, e_207_50, e_207_53, e_207_54, e_207_57, e_207_60, e_207_61, e_207_62, e_207_63, e_207_66, e_207_67, p1, p2, p3, p4, p5, p6, p7, p8, p9, p10, p11, p12, p13, p14, p15, p16, p17, p18, p19, p20, p21, ge1, ule_t, true_or, or_true, nI_add, nI_mul, nI_sub, nI_clamp, nI_lt_t, nI_lt_f, nI_le_t, nI_le_f, nI_eq_t, nI_eq_f, vp_nI, tI, fI, not_true, not_false_iff, true_and, and_true, Classical.not_not, mS_uI, mS_uA, mS_uJ, mS_uR, mS_uX, mR_uI, mR_uA, mR_uJ, mR_uX, mX_uI, mX_uA, mX_uJ, mX_uR, mI_s, mI_n, mI_A, mI_An, mI_uJ, mI_uR, mI_uX, mJ_uI, mJ_uA, mJ_uR, mJ_uX, onR_s, kC_v, kC_n, kC_t, mI_A, mdT_17, mdT_18, mdT_19, e1, h205t, m11, h205e _ _ _ _ _ m11, h206e _ _ _ m11]
    · simp (disch := first | omega | rfl) only [e_207_0, e_207_1, e_207_2, e_207_5, e_207_6, e_207_9, e_207_10, e_207_13, e_207_14, e_207_16, e_207_19, e_207_20, e_207_21, e_207_24, e_207_25, e_207_28, e_207_29, e_207_32, e_207_33, e_207_36, e_207_37, e_207_40, e_207_41, e_207_43, e_207_46, e_207_47, e_207_50, e_207_53, e_207_54, e_207_57, e_207_60, e_207_61, e_207_62, e_207_63, e_207_66, e_207_67, p1, p2, p3, p4, p5, p6, p7, p8, p9, p10, p11, p12, p13, p14, p15, p16, p17, p18, p19, p20, p21, ge1, ule_t, true_or, or_true, nI_add, nI_mul, nI_sub, nI_clamp, nI_lt_t, nI_lt_f, nI_le_t, nI_le_f, nI_eq_t, nI_eq_f, vp_nI, tI, fI, not_true, not_false_iff, true_and, and_true, Classical.not_not, mS_uI, mS_uA, mS_uJ, mS_uR, mS_uX, mR_uI, mR_uA, mR_uJ, mR_uX, mX_uI, mX_uA, mX_uJ, mX_uR, mI_s, mI_n, mI_A, mI_An, mI_uJ, mI_uR, mI_uX, mJ_uI, mJ_uA, mJ_uR, mJ_uX, onR_s, kC_v, kC_n, kC_t, mI_A, mdT_17, mdT_18, mdT_19, e1, h205t, m11, h205e _ _ _ _ _ m11, h206e _ _ _ m11]
/-- once there is an error -/
theorem s_207e (hM : MdC μ f L) (ht : okTk f L t) (h1 : lo ≤ 9999) (h2 : hi ≤ 9999) (h : ¬ er = nI 0) : Ev (d + 4) 207 [.ref 1298, .int (nI lo), .int (nI hi)] (uA μ 1298 (mdT g L t er ep sm ts hs)) Q = Q (some (some (.int (nI lo)))) (uA μ 1298 (mdT g L t er ep sm ts hs)) := by
  have hv := ht.2.2.2.2.2.2.2
  have h205e := fun (d : Nat) (Q : Po) (x y : Int32) => s_205e (d := d) (Q := Q) (x := x) (y := y) (g := g) (t := t) (er := er) (ep := ep) (sm := sm) (ts := ts) (hs := hs) hM h
  have h206e := fun (d : Nat) (Q : Po) => s_206e (d := d) (Q := Q) (g := g) (t := t) (er := er) (ep := ep) (sm := sm) (ts := ts) (hs := hs) hM h
  obtain ⟨hS, h4, h5, h6⟩ := hM
  obtain ⟨p1, p2, p3, p4, p5, p6, p7, p8, p9, p10, p11, p12, p13, p14, p15, p16, p17, p18, p19, p20, p21⟩ := hS
  rw [in_207]
  by_cases c1 : t.1 = 2
  · have e1 : (nI (mkk t.1) = nI 1) = True := (mkk2 ht.1).trans (eq_true c1)
    by_cases c3 : lo ≤ t.2.2.2
    · by_cases c4 : t.2.2.2 ≤ hi
      · simp (disch := first | omega | rfl) only [e_207_0, e_207_1, e_207_2, e_207_5, e_207_6, e_207_9, e_207_10, e_207_13, e_207_14, e_207_16, e_207_19, e_207_20, e_207_21, e_207_24, e_207_25, e_207_28, e_207_29, e_207_32, e_207_33, e_207_36, e_207_37, e_207_40, e_207_41, e_207_43, e_207_46, e_207_47, e_207_50, e_207_53, e_207_54, e_207_57, e_207_60, e_207_61, e_207_62, e_207_63, e_207_66, e_207_67, p1, p2, p3, p4, p5, p6, p7, p8, p9, p10, p11, p12, p13, p14, p15, p16, p17, p18, p19, p20, p21, ge1, ule_t, true_or, or_true, nI_add, nI_mul, nI_sub, nI_clamp, nI_lt_t, nI_lt_f, nI_le_t, nI_le_f, nI_eq_t, nI_eq_f, vp_nI, tI, fI, not_true, not_false_iff, true_and, and_true, Classical.not_not, mS_uI, mS_uA, mS_uJ, mS_uR, mS_uX, mR_uI, mR_uA, mR_uJ, mR_uX, mX_uI, mX_uA, mX_uJ, mX_uR, mI_s, mI_n, mI_A, mI_An, mI_uJ, mI_uR, mI_uX, mJ_uI, mJ_uA, mJ_uR, mJ_uX, onR_s, kC_v, kC_n, kC_t, mI_A, mdT_17, mdT_18, mdT_19, e1, h205e, h206e, h]
      · simp (disch := first | omega | rfl) only [e_207_0, e_207_1, e_207_2, e_207_5, e_207_6, e_207_9, e_207_10, e_207_13, e_207_14, e_207_16, e_207_19, e_207_20, e_207_21, e_207_24, e_207_25, e_207_28, e_207_29, e_207_32, e_207_33, e_207_36, e_207_37, e_207_40, e_207_41, e_207_43, e_207_46, e_207_47, e_207_50, e_207_53, e_207_54, e_207_57, e_207_60, e_207_61, e_207_62, e_207_63, e_207_66, e_207_67, p1, p2, p3, p4, p5, p6, p7, p8, p9, p10, p11, p12, p13, p14, p15, p16, p17, p18, p19, p20, p21, ge1, ule_t, true_or, or_true, nI_add, nI_mul, nI_sub, nI_clamp, nI_lt_t, nI_lt_f, nI_le_t, nI_le_f, nI_eq_t, nI_eq_f, vp_nI, tI, fI, not_true, not_false_iff, true_and, and_true, Classical.not_not, mS_uI, mS_uA, mS_uJ, mS_uR, mS_uX, mR_uI, mR_uA, mR_uJ, mR_uX, mX_uI, mX_uA, mX_uJ, mX_uR, mI_s, mI_n, mI_A, mI_An, mI_uJ, mI_uR, mI_uX, mJ_uI, mJ_uA, mJ_uR, mJ_uX, onR_s, kC_v, kC_n, kC_t, mI_A, mdT_17, mdT_18, mdT_19, e1, h205e, h206e, h]
    · simp (disch := first | omega | rfl) only [e_207_0, e_207_1, e_207_2, e_207_5, e_207_6, e_207_9, e_207_10, e_207_13, e_207_14, e_207_16, e_207_19, e_207_20, e_207_21, e_207_24, e_207_25, e_207_28, e_207_29, e_207_32, e_207_33, e_207_36, e_207_37, e_207_40, e_207_41, e_207_43, e_207_46, e_207_47, e_207_50, e_207_53, e_207_54, e_207_57, e_207_60, e_207_61, e_207_62, e_207_63, e_207_66, e_207_67, p1, p2, p3, p4, p5, p6, p7, p8, p9, p10, p11, p12, p13, p14, p15, p16, p17, p18, p19, p20, p21, ge1, ule_t, true_or, or_true, nI_add, nI_mul, nI_sub, nI_clamp, nI_lt_t, nI_lt_f, nI_le_t, nI_le_f, nI_eq_t, nI_eq_f, vp_nI, tI, fI, not_true, not_false_iff, true_and, and_true, Classical.not_not, mS_uI, mS_uA, mS_uJ, mS_uR, mS_uX, mR_uI, mR_uA, mR_uJ, mR_uX, mX_uI, mX_uA, mX_uJ, mX_uR, mI_s, mI_n, mI_A, mI_An, mI_uJ, mI_uR, mI_uX, mJ_uI, mJ_uA, mJ_uR, mJ_uX, onR_s, kC_v, kC_n, kC_t, mI_A, mdT_17, mdT_18, mdT_19, e1, h205e, h206e, h]
  · have e1 : (nI (mkk t.1) = nI 1) = False := (mkk2 ht.1).trans (eq_false c1)
    by_cases c3 : lo ≤ t.2.2.2
    · by_cases c4 : t.2.2.2 ≤ hi
      · simp (disch := first | omega | rfl) only [e_207_0, e_207_1, e_207_2, e_207_5, e_207_6, e_207_9, e_207_10, e_207_13, e_207_14, e_207_16, e_207_19, e_207_20, e_207_21, e_207_24, e_207_25, e_207_28, e_207_29, e_207_32, e_207_33, e_207_36, e_207_37, e_207_40, e_207_41, e_207_43, e_207_46, e_207_47, e_207_50, e_207_53, e_207_54, e_207_57, e_207_60, e_207_61, e_207_62, e_207_63, e_207_66, e_207_67, p1, p2, p3, p4, p5, p6, p7, p8, p9, p10, p11, p12, p13, p14, p15, p16, p17, p18, p19, p20, p21, ge1, ule_t, true_or, or_true, nI_add, nI_mul, nI_sub, nI_clamp, nI_lt_t, nI_lt_f, nI_le_t, nI_le_f, nI_eq_t, nI_eq_f, vp_nI, tI, fI, not_true, not_false_iff, true_and, and_true, Classical.not_not, mS_uI, mS_uA, mS_uJ, mS_uR, mS_uX, mR_uI, mR_uA, mR_uJ, mR_uX, mX_uI, mX_uA, mX_uJ, mX_uR, mI_s, mI_n, mI_A, mI_An, mI_uJ, mI_uR, mI_uX, mJ_uI, mJ_uA, mJ_uR, mJ_uX, onR_s, kC_v, kC_n, kC_t, mI_A, mdT_17, mdT_18, mdT_19, e1, h205e, h206e, h]
      · simp (disch := first | omega | rfl) only [e_207_0, e_207_1, e_207_2, e_207_5, e_207_6, e_207_9, e_207_10, e_207_13, e_207_14, e_207_16, e_207_19, e_207_20, e_207_21, e_207_24, e_207_25, e_207_28, e_207_29, e_207_32, e_207_33, e_207_36, e_207_37, e_207_40, e_207_41, e_207_43, e_207_46, e_207_47, e_207_50, e_207_53, e_207_54, e_207_57, e_207_60, e_207_61, e_207_62, e_207_63, e_207_66, e_207_67, p1, p2, p3, p4, p5, p6, p7, p8, p9, p10, p11, p12, p13, p14, p15, p16, p17, p18, p19, p20, p21, ge1, ule_t, true_or, or_true, nI_add, nI_mul, nI_sub, nI_clamp, nI_lt_t, nI_lt_f, nI_le_t, nI_le_f, nI_eq_t, nI_eq_f, vp_nI, tI, fI, not_true, not_false_iff, true_and, and_true, Classical.not_not, mS_uI, mS_uA, mS_uJ, mS_uR, mS_uX, mR_uI, mR_uA, mR_uJ, mR_uX, mX_uI, mX_uA, mX_uJ, mX_uR, mI_s, mI_n, mI_A, mI_An, mI_uJ, mI_uR, mI_uX, mJ_uI, mJ_uA, mJ_uR, mJ_uX, onR_s, kC_v, kC_n, kC_t, mI_A, mdT_17, mdT_18, mdT_19, e1, h205e, h206e, h]
    · simp (disch := first | omega | rfl) only [e_207_0, e_207_1, e_207_2, e_207_5, e_207_6, e_207_9, e_207_10, e_207_13, e_207_14, e_207_16, e_207_19, e_207_20, e_207_21, e_207_24, e_207_25, e_207_28, e_207_29, e_207_32, e_207_33, e_207_36, e_207_37, e_207_40, e_207_41, e_207_43, e_207_46, e_207_47, e_207_50, e_207_53, e_207_54, e_207_57, e_207_60, e_207_61, e_207_62, e_207_63, e_207_66, e_207_67, p1, p2, p3, p4, p5, p6, p7, p8, p9, p10, p11, p12, p13, p14, p15, p16, p17, p18, p19, p20, p21, ge1, ule_t, true_or, or_true, nI_add, nI_mul, nI_sub, nI_clamp, nI_lt_t, nI_lt_f, nI_le_t, nI_le_f, nI_eq_t, nI_eq_f, vp_nI, tI, fI, not_true, not_false_iff, true_and, and_true, Classical.not_not, mS_uI, mS_uA, mS_uJ, mS_uR, mS_uX, mR_uI, mR_uA, mR_uJ, mR_uX, mX_uI, mX_uA, mX_uJ, mX_uR, mI_s, mI_n, mI_A, mI_An, mI_uJ, mI_uR, mI_uX, mJ_uI, mJ_uA, mJ_uR, mJ_uX, onR_s, kC_v, kC_n, kC_t, mI_A, mdT_17, mdT_18, mdT_19, e1, h205e, h206e, h]
theorem l_208 (hM : MdC μ f L) (ht : okTk f L t) (h1 : t.1 = 1) : ∀ m k, k + m = 6 → EM 208 (d + 1) 36 [some (.ref 1298), some (.int (nI (nmQ f t k))), some (.int (nI k))] [] (uA μ 1298 (mdT g L t (nI 0) ep sm ts hs)) (0, 0) Q = Q (some (some (.int (nI (nmQ f t 6))))) (uA μ 1298 (mdT g L t (nI 0) ep sm ts hs)) := by
  have hx := fun j => nlx_lt (j := j) ht h1
  obtain ⟨hS, h4, h5, h6⟩ := hM
  obtain ⟨p1, p2, p3, p4, p5, p6, p7, p8, p9, p10, p11, p12, p13, p14, p15, p16, p17, p18, p19, p20, p21⟩ := hS
  obtain ⟨k1, k2, k3, k4, k5, k6, k7, k8⟩ := ht
  intro m
  induction m with
  | zero =>
    intro k hk
    obtain rfl : k = 6 := by omega
    rw [e_208_36]
    simp (disch := first | omega | rfl) only [e_208_0, e_208_1, e_208_2, e_208_5, e_208_8, e_208_9, e_208_12, e_208_13, e_208_16, e_208_17, e_208_19, e_208_22, e_208_23, e_208_26, e_208_27, e_208_29, e_208_32, e_208_33, e_208_34, e_208_35, e_208_37, e_208_39, e_208_42, e_208_43, e_208_46, e_208_49, e_208_50, e_208_51, e_208_52, e_208_53, e_208_56, e_208_57, e_208_58, e_208_59, e_208_62, e_208_65, e_208_66, e_208_69, e_208_70, e_208_73, e_208_74, e_208_75, e_208_76, e_208_78, e_208_79, e_208_80, e_208_81, e_208_84, e_208_85, e_208_86, e_208_87, e_208_90, e_208_93, e_208_94, ge1, ule_t, true_or, or_true, nI_add, nI_mul, nI_sub, nI_clamp, nI_lt_t, nI_lt_f, nI_le_t, nI_le_f, nI_eq_t, nI_eq_f, vp_nI, tI, fI, not_true, not_false_iff, true_and, and_true, Classical.not_not, mS_uI, mS_uA, mS_uJ, mS_uR, mS_uX, mR_uI, mR_uA, mR_uJ, mR_uX, mX_uI, mX_uA, mX_uJ, mX_uR, mI_s, mI_n, mI_A, mI_An, mI_uJ, mI_uR, mI_uX, mJ_uI, mJ_uA, mJ_uR, mJ_uX, onR_s, kC_v, kC_n, kC_t]
  | succ m ih =>
    intro k hk
    have hi := ih (k + 1) (by omega)
    rw [nmQ, ← nm_or5 (hx k)] at hi
    rw [e_208_36]
    by_cases c : t.2.1 + k < t.2.2.1
    · have hb := k6 h1 (t.2.1 + k) (by omega) c
      have e4 : f (t.2.1 + k) - 97 + 1 = nlx f t k := by unfold nlx; rw [if_pos c]; omega
      simp (disch := first | omega | rfl) only [e_208_0, e_208_1, e_208_2, e_208_5, e_208_8, e_208_9, e_208_12, e_208_13, e_208_16, e_208_17, e_208_19, e_208_22, e_208_23, e_208_26, e_208_27, e_208_29, e_208_32, e_208_33, e_208_34, e_208_35, e_208_37, e_208_39, e_208_42, e_208_43, e_208_46, e_208_49, e_208_50, e_208_51, e_208_52, e_208_53, e_208_56, e_208_57, e_208_58, e_208_59, e_208_62, e_208_65, e_208_66, e_208_69, e_208_70, e_208_73, e_208_74, e_208_75, e_208_76, e_208_78, e_208_79, e_208_80, e_208_81, e_208_84, e_208_85, e_208_86, e_208_87, e_208_90, e_208_93, e_208_94, p1, p2, p3, p4, p5, p6, p7, p8, p9, p10, p11, p12, p13, p14, p15, p16, p17, p18, p19, p20, p21, ge1, ule_t, true_or, or_true, nI_add, nI_mul, nI_sub, nI_clamp, nI_lt_t, nI_lt_f, nI_le_t, nI_le_f, nI_eq_t, nI_eq_f, vp_nI, tI, fI, not_true, not_false_iff, true_and, and_true, Classical.not_not, mS_uI, mS_uA, mS_uJ, mS_uR, mS_uX, mR_uI, mR_uA, mR_uJ, mR_uX, mX_uI, mX_uA, mX_uJ, mX_uR, mI_s, mI_n, mI_A, mI_An, mI_uJ, mI_uR, mI_uX, mJ_uI, mJ_uA, mJ_uR, mJ_uX, onR_s, kC_v, kC_n, kC_t, mI_An, mI_A, mdT_15, mdT_16, mdT_19, h4 (t.2.1 + k) (by omega), e4, nI_shl]
      exact hi
    · have e4 : nlx f t k = 0 := nlx_z (by omega)
      rw [e4] at hi
      simp (disch := first | omega | rfl) only [e_208_0, e_208_1, e_208_2, e_208_5, e_208_8, e_208_9, e_208_12, e_208_13, e_208_16, e_208_17, e_208_19, e_208_22, e_208_23, e_208_26, e_208_27, e_208_29, e_208_32, e_208_33, e_208_34, e_208_35, e_208_37, e_208_39, e_208_42, e_208_43, e_208_46, e_208_49, e_208_50, e_208_51, e_208_52, e_208_53, e_208_56, e_208_57, e_208_58, e_208_59, e_208_62, e_208_65, e_208_66, e_208_69, e_208_70, e_208_73, e_208_74, e_208_75, e_208_76, e_208_78, e_208_79, e_208_80, e_208_81, e_208_84, e_208_85, e_208_86, e_208_87, e_208_90, e_208_93, e_208_94, p1, p2, p3, p4, p5, p6, p7, p8, p9, p10, p11, p12, p13, p14, p15, p16, p17, p18, p19, p20, p21, ge1, ule_t, true_or, or_true, nI_add, nI_mul, nI_sub, nI_clamp, nI_lt_t, nI_lt_f, nI_le_t, nI_le_f, nI_eq_t, nI_eq_f, vp_nI, tI, fI, not_true, not_false_iff, true_and, and_true, Classical.not_not, mS_uI, mS_uA, mS_uJ, mS_uR, mS_uX, mR_uI, mR_uA, mR_uJ, mR_uX, mX_uI, mX_uA, mX_uJ, mX_uR, mI_s, mI_n, mI_A, mI_An, mI_uJ, mI_uR, mI_uX, mJ_uI, mJ_uA, mJ_uR, mJ_uX, onR_s, kC_v, kC_n, kC_t, mI_An, mI_A, mdT_15, mdT_16, mdT_19, nI_shl]
      exact hi
theorem s_208t (hM : MdC μ f L) (ht : okTk f L t) (h : isN t) : Ev (d + 2) 208 [.ref 1298] (uA μ 1298 (mdT g L t (nI 0) ep sm ts hs)) Q = Q (some (some (.int (nI (nmQ f t 6))))) (uA μ 1298 (mdT g L t (nI 0) ep sm ts hs)) := by
  have e1 : (nI (mkk t.1) = nI 0) = True := (mkk1 ht.1).trans (eq_true h.1)
  have h205 := fun (d : Nat) (Q : Po) (x : Int32) => s_205n (d := d) (Q := Q) (x := x) (g := g) (t := t) (er := nI 0) (ep := ep) (sm := sm) (ts := ts) (hs := hs) hM
  have hl := l_208 (d := d) (Q := Q) (g := g) (ep := ep) (sm := sm) (ts := ts) (hs := hs) hM ht h.1 6 0 (by omega)
  have h2 := h.2
  obtain ⟨hS, h4, h5, h6⟩ := hM
  obtain ⟨p1, p2, p3, p4, p5, p6, p7, p8, p9, p10, p11, p12, p13, p14, p15, p16, p17, p18, p19, p20, p21⟩ := hS
  obtain ⟨k1, k2, k3, k4, k5, k6, k7, k8⟩ := ht
  rw [in_208]
  simp (disch := first | omega | rfl) only [e_208_0, e_208_1, e_208_2, e_208_5, e_208_8, e_208_9, e_208_12, e_208_13, e_208_16, e_208_17, e_208_19, e_208_22, e_208_23, e_208_26, e_208_27, e_208_29, e_208_32, e_208_33, e_208_34, e_208_35, e_208_37, e_208_39, e_208_42, e_208_43, e_208_46, e_208_49, e_208_50, e_208_51, e_208_52, e_208_53, e_208_56, e_208_57, e_208_58, e_208_59, e_208_62, e_208_65, e_208_66, e_208_69, e_208_70, e_208_73, e_208_74, e_208_75, e_208_76, e_208_78, e_208_79, e_208_80, e_208_81, e_208_84, e_208_85, e_208_86, e_208_87, e_208_90, e_208_93, e_208_94, p1, p2, p3, p4, p5, p6, p7, p8, p9, p10, p11, p12, p13, p14, p15, p16, p17, p18, p19, p20, p21, ge1, ule_t, true_or, or_true, nI_add, nI_mul, nI_sub, nI_clamp, nI_lt_t, nI_lt_f, nI_le_t, nI_le_f, nI_eq_t, nI_eq_f, vp_nI, tI, fI, not_true, not_false_iff, true_and, and_true, Classical.not_not, mS_uI, mS_uA, mS_uJ, mS_uR, mS_uX, mR_uI, mR_uA, mR_uJ, mR_uX, mX_uI, mX_uA, mX_uJ, mX_uR, mI_s, mI_n, mI_A, mI_An, mI_uJ, mI_uR, mI_uX, mJ_uI, mJ_uA, mJ_uR, mJ_uX, onR_s, kC_v, kC_n, kC_t, mI_A, mdT_15, mdT_16, mdT_17, e1, h205]
  exact hl
theorem s_208f (hM : MdC μ f L) (ht : okTk f L t) (h : ¬ isN t) : Ev (d + 2) 208 [.ref 1298] (uA μ 1298 (mdT g L t (nI 0) ep sm ts hs)) Q = Q (some (some (.int (nI 0)))) (uA μ 1298 (mdT g L t (-11) (nI t.2.1) sm ts hs)) := by
  have h205t := fun (d : Nat) (Q : Po) (x : Int32) => s_205t (d := d) (Q := Q) (x := x) (g := g) (t := t) (ep := ep) (sm := sm) (ts := ts) (hs := hs) hM
  have m11 : ¬ (-11 : Int32) = nI 0 := by decide
  obtain ⟨hS, h4, h5, h6⟩ := hM
  obtain ⟨p1, p2, p3, p4, p5, p6, p7, p8, p9, p10, p11, p12, p13, p14, p15, p16, p17, p18, p19, p20, p21⟩ := hS
  obtain ⟨k1, k2, k3, k4, k5, k6, k7, k8⟩ := ht
  rw [in_208]
  by_cases c1 : t.1 = 1
  · have e1 : (nI (mkk t.1) = nI 0) = True := (mkk1 k1).trans (eq_true c1)
    have c2 : ¬ t.2.2.1 - t.2.1 ≤ 6 := fun z => h ⟨c1, z⟩
    simp (disch := first | omega | rfl) only [e_208_0, e_208_1, e_208_2, e_208_5, e_208_8, e_208_9, e_208_12, e_208_13, e_208_16, e_208_17, e_208_19, e_208_22, e_208_23, e_208_26, e_208_27, e_208_29, e_208_32, e_208_33, e_208_34, e_208_35, e_208_37, e_208_39, e_208_42, e_208_43, e_208_46, e_208_49, e_208_50, e_208_51, e_208_52, e_208_53, e_208_56, e_208_57, e_208_58, e_208_59, e_208_62, e_208_65, e_208_66, e_208_69, e_208_70, e_208_73, e_208_74, e_208_75, e_208_76, e_208_78, e_208_79, e_208_80, e_208_81, e_208_84, e_208_85, e_208_86, e_208_87, e_208_90, e_208_93, e_208_94, p1, p2, p3, p4, p5, p6, p7, p8, p9, p10, p11, p12, p13, p14, p15, p16, p17, p18, p19, p20, p21, ge1, ule_t, true_or, or_true, nI_add, nI_mul, nI_sub, nI_clamp, nI_lt_t, nI_lt_f, nI_le_t, nI_le_f, nI_eq_t, nI_eq_f, vp_nI, tI, fI, not_true, not_false_iff, true_and, and_true, Classical.not_not, mS_uI, mS_uA, mS_uJ, mS_uR, mS_uX, mR_uI, mR_uA, mR_uJ, mR_uX, mX_uI, mX_uA, mX_uJ, mX_uR, mI_s, mI_n, mI_A, mI_An, mI_uJ, mI_uR, mI_uX, mJ_uI, mJ_uA, mJ_uR, mJ_uX, onR_s, kC_v, kC_n, kC_t, mI_A, mdT_15, mdT_16, mdT_17, e1, h205t]
    rw [e_208_36]
    simp (disch := first | omega | rfl) only [e_208_0, e_208_1, e_208_2, e_208_5, e_208_8, e_208_9, e_208_12, e_208_13, e_208_16, e_208_17, e_208_19, e_208_22, e_208_23, e_208_26, e_208_27, e_208_29, e_208_32, e_208_33, e_208_34, e_208_35, e_208_37, e_208_39, e_208_42, e_208_43, e_208_46, e_208_49, e_208_50, e_208_51, e_208_52, e_208_53, e_208_56, e_208_57, e_208_58, e_208_59, e_208_62, e_208_65, e_208_66, e_208_69, e_208_70, e_208_73, e_208_74, e_208_75, e_208_76, e_208_78, e_208_79, e_208_80, e_208_81, e_208_84, e_208_85, e_208_86, e_208_87, e_208_90, e_208_93, e_208_94, p1, p2, p3, p4, p5, p6, p7, p8, p9, p10, p11, p12, p13, p14, p15, p16, p17, p18, p19, p20, p21, ge1, ule_t, true_or, or_true, nI_add, nI_mul, nI_sub, nI_clamp, nI_lt_t, nI_lt_f, nI_le_t, nI_le_f, nI_eq_t, nI_eq_f, vp_nI, tI, fI, not_true, not_false_iff, true_and, and_true, Classical.not_not, mS_uI, mS_uA, mS_uJ, mS_uR, mS_uX, mR_uI, mR_uA, mR_uJ, mR_uX, mX_uI, mX_uA, mX_uJ, mX_uR, mI_s, mI_n, mI_A, mI_An, mI_uJ, mI_uR, mI_uX, mJ_uI, mJ_uA, mJ_uR, mJ_uX, onR_s, kC_v, kC_n, kC_t, mI_A, mdT_19, m11]
  · have e1 : (nI (mkk t.1) = nI 0) = False := (mkk1 k1).trans (eq_false c1)
    simp (disch := first | omega | rfl) only [e_208_0, e_208_1, e_208_2, e_208_5, e_208_8, e_208_9, e_208_12, e_208_13, e_208_16, e_208_17, e_208_19, e_208_22, e_208_23, e_208_26, e_208_27, e_208_29, e_208_32, e_208_33, e_208_34, e_208_35, e_208_37, e_208_39, e_208_42, e_208_43, e_208_46, e_208_49, e_208_50, e_208_51, e_208_52, e_208_53, e_208_56, e_208_57, e_208_58, e_208_59, e_208_62, e_208_65, e_208_66, e_208_69, e_208_70, e_208_73, e_208_74, e_208_75, e_208_76, e_208_78, e_208_79, e_208_80, e_208_81, e_208_84, e_208_85, e_208_86, e_208_87, e_208_90, e_208_93, e_208_94, p1, p2, p3, p4, p5, p6, p7, p8, p9, p10, p11, p12, p13, p14, p15, p16, p17, p18, p19, p20, p21, ge1, ule_t, true_or, or_true, nI_add, nI_mul, nI_sub, nI_clamp, nI_lt_t, nI_lt_f, nI_le_t, nI_le_f, nI_eq_t, nI_eq_f, vp_nI, tI, fI, not_true, not_false_iff, true_and, and_true, Classical.not_not, mS_uI, mS_uA, mS_uJ, mS_uR, mS_uX, mR_uI, mR_uA, mR_uJ, mR_uX, mX_uI, mX_uA, mX_uJ, mX_uR, mI_s, mI_n, mI_A, mI_An, mI_uJ, mI_uR, mI_uX, mJ_uI, mJ_uA, mJ_uR, mJ_uX, onR_s, kC_v, kC_n, kC_t, mI_A, mdT_15, mdT_16, mdT_17, e1, h205t]
    rw [e_208_36]
    simp (disch := first | omega | rfl) only [e_208_0, e_208_1, e_208_2, e_208_5, e_208_8, e_208_9, e_208_12, e_208_13, e_208_16, e_208_17, e_208_19, e_208_22, e_208_23, e_208_26, e_208_27, e_208_29, e_208_32, e_208_33, e_208_34, e_208_35, e_208_37, e_208_39, e_208_42, e_208_43, e_208_46, e_208_49, e_208_50, e_208_51, e_208_52, e_208_53, e_208_56, e_208_57, e_208_58, e_208_59, e_208_62, e_208_65, e_208_66, e_208_69, e_208_70, e_208_73, e_208_74, e_208_75, e_208_76, e_208_78, e_208_79, e_208_80, e_208_81, e_208_84, e_208_85, e_208_86, e_208_87, e_208_90, e_208_93, e_208_94, p1, p2, p3, p4, p5, p6, p7, p8, p9, p10, p11, p12, p13, p14, p15, p16, p17, p18, p19, p20, p21, ge1, ule_t, true_or, or_true, nI_add, nI_mul, nI_sub, nI_clamp, nI_lt_t, nI_lt_f, nI_le_t, nI_le_f, nI_eq_t, nI_eq_f, vp_nI, tI, fI, not_true, not_false_iff, true_and, and_true, Classical.not_not, mS_uI, mS_uA, mS_uJ, mS_uR, mS_uX, mR_uI, mR_uA, mR_uJ, mR_uX, mX_uI, mX_uA, mX_uJ, mX_uR, mI_s, mI_n, mI_A, mI_An, mI_uJ, mI_uR, mI_uX, mJ_uI, mJ_uA, mJ_uR, mJ_uX, onR_s, kC_v, kC_n, kC_t, mI_A, mdT_19, m11]
theorem s_208e (hM : MdC μ f L) (ht : okTk f L t) (h : ¬ er = nI 0) : Ev (d + 2) 208 [.ref 1298] (uA μ 1298 (mdT g L t er ep sm ts hs)) Q = Q (some (some (.int (nI 0)))) (uA μ 1298 (mdT g L t er ep sm ts hs)) := by
  have h205e := fun (d : Nat) (Q : Po) (x y : Int32) => s_205e (d := d) (Q := Q) (x := x) (y := y) (g := g) (t := t) (er := er) (ep := ep) (sm := sm) (ts := ts) (hs := hs) hM h
  obtain ⟨hS, h4, h5, h6⟩ := hM
  obtain ⟨p1, p2, p3, p4, p5, p6, p7, p8, p9, p10, p11, p12, p13, p14, p15, p16, p17, p18, p19, p20, p21⟩ := hS
  obtain ⟨k1, k2, k3, k4, k5, k6, k7, k8⟩ := ht
  rw [in_208]
  by_cases c1 : t.1 = 1
  · have e1 : (nI (mkk t.1) = nI 0) = True := (mkk1 k1).trans (eq_true c1)
    by_cases c2 : t.2.2.1 - t.2.1 ≤ 6
    · simp (disch := first | omega | rfl) only [e_208_0, e_208_1, e_208_2, e_208_5, e_208_8, e_208_9, e_208_12, e_208_13, e_208_16, e_208_17, e_208_19, e_208_22, e_208_23, e_208_26, e_208_27, e_208_29, e_208_32, e_208_33, e_208_34, e_208_35, e_208_37, e_208_39, e_208_42, e_208_43, e_208_46, e_208_49, e_208_50, e_208_51, e_208_52, e_208_53, e_208_56, e_208_57, e_208_58, e_208_59, e_208_62, e_208_65, e_208_66, e_208_69, e_208_70, e_208_73, e_208_74, e_208_75, e_208_76, e_208_78, e_208_79, e_208_80, e_208_81, e_208_84, e_208_85, e_208_86, e_208_87, e_208_90, e_208_93, e_208_94, p1, p2, p3, p4, p5, p6, p7, p8, p9, p10, p11, p12, p13, p14, p15, p16, p17, p18, p19, p20, p21, ge1, ule_t, true_or, or_true, nI_add, nI_mul, nI_sub, nI_clamp, nI_lt_t, nI_lt_f, nI_le_t, nI_le_f, nI_eq_t, nI_eq_f, vp_nI, tI, fI, not_true, not_false_iff, true_and, and_true, Classical.not_not, mS_uI, mS_uA, mS_uJ, mS_uR, mS_uX, mR_uI, mR_uA, mR_uJ, mR_uX, mX_uI, mX_uA, mX_uJ, mX_uR, mI_s, mI_n, mI_A, mI_An, mI_uJ, mI_uR, mI_uX, mJ_uI, mJ_uA, mJ_uR, mJ_uX, onR_s, kC_v, kC_n, kC_t, mI_A, mdT_15, mdT_16, mdT_17, e1, h205e]
      rw [e_208_36]
      simp (disch := first | omega | rfl) only [e_208_0, e_208_1, e_208_2, e_208_5, e_208_8, e_208_9, e_208_12, e_208_13, e_208_16, e_208_17, e_208_19, e_208_22, e_208_23, e_208_26, e_208_27, e_208_29, e_208_32, e_208_33, e_208_34, e_208_35, e_208_37, e_208_39, e_208_42, e_208_43, e_208_46, e_208_49, e_208_50, e_208_51, e_208_52, e_208_53, e_208_56, e_208_57, e_208_58, e_208_59, e_208_62, e_208_65, e_208_66, e_208_69, e_208_70, e_208_73, e_208_74, e_208_75, e_208_76, e_208_78, e_208_79, e_208_80, e_208_81, e_208_84, e_208_85, e_208_86, e_208_87, e_208_90, e_208_93, e_208_94, p1, p2, p3, p4, p5, p6, p7, p8, p9, p10, p11, p12, p13, p14, p15, p16, p17, p18, p19, p20, p21, ge1, ule_t, true_or, or_true, nI_add, nI_mul, nI_sub, nI_clamp, nI_lt_t, nI_lt_f, nI_le_t, nI_le_f, nI_eq_t, nI_eq_f, vp_nI, tI, fI, not_true, not_false_iff, true_and, and_true, Classical.not_not, mS_uI, mS_uA, mS_uJ, mS_uR, mS_uX, mR_uI, mR_uA, mR_uJ, mR_uX, mX_uI, mX_uA, mX_uJ, mX_uR, mI_s, mI_n, mI_A, mI_An, mI_uJ, mI_uR, mI_uX, mJ_uI, mJ_uA, mJ_uR, mJ_uX, onR_s, kC_v, kC_n, kC_t, mI_A, mdT_19, h]
    · simp (disch := first | omega | rfl) only [e_208_0, e_208_1, e_208_2, e_208_5, e_208_8, e_208_9, e_208_12, e_208_13, e_208_16, e_208_17, e_208_19, e_208_22, e_208_23, e_208_26, e_208_27, e_208_29, e_208_32, e_208_33, e_208_34, e_208_35, e_208_37, e_208_39, e_208_42, e_208_43, e_208_46, e_208_49, e_208_50, e_208_51, e_208_52, e_208_53, e_208_56, e_208_57, e_208_58, e_208_59, e_208_62, e_208_65, e_208_66, e_208_69, e_208_70, e_208_73, e_208_74, e_208_75, e_208_76, e_208_78, e_208_79, e_208_80, e_208_81, e_208_84, e_208_85, e_208_86, e_208_87, e_208_90, e_208_93, e_208_94, p1, p2, p3, p4, p5, p6, p7, p8, p9, p10, p11, p12, p13, p14, p15, p16, p17, p18, p19, p20, p21, ge1, ule_t, true_or, or_true, nI_add, nI_mul, nI_sub, nI_clamp, nI_lt_t, nI_lt_f, nI_le_t, nI_le_f, nI_eq_t, nI_eq_f, vp_nI, tI, fI, not_true, not_false_iff, true_and, and_true, Classical.not_not, mS_uI, mS_uA, mS_uJ, mS_uR, mS_uX, mR_uI, mR_uA, mR_uJ, mR_uX, mX_uI, mX_uA, mX_uJ, mX_uR, mI_s, mI_n, mI_A, mI_An, mI_uJ, mI_uR, mI_uX, mJ_uI, mJ_uA, mJ_uR, mJ_uX, onR_s, kC_v, kC_n, kC_t, mI_A, mdT_15, mdT_16, mdT_17, e1, h205e]
      rw [e_208_36]
      simp (disch := first | omega | rfl) only [e_208_0, e_208_1, e_208_2, e_208_5, e_208_8, e_208_9, e_208_12, e_208_13, e_208_16, e_208_17, e_208_19, e_208_22, e_208_23, e_208_26, e_208_27, e_208_29, e_208_32, e_208_33, e_208_34, e_208_35, e_208_37, e_208_39, e_208_42, e_208_43, e_208_46, e_208_49, e_208_50, e_208_51, e_208_52, e_208_53, e_208_56, e_208_57, e_208_58, e_208_59, e_208_62, e_208_65, e_208_66, e_208_69, e_208_70, e_208_73, e_208_74, e_208_75, e_208_76, e_208_78, e_208_79, e_208_80, e_208_81, e_208_84, e_208_85, e_208_86, e_208_87, e_208_90, e_208_93, e_208_94, p1, p2, p3, p4, p5, p6, p7, p8, p9, p10, p11, p12, p13, p14, p15, p16, p17, p18, p19, p20, p21, ge1, ule_t, true_or, or_true, nI_add, nI_mul, nI_sub, nI_clamp, nI_lt_t, nI_lt_f, nI_le_t, nI_le_f, nI_eq_t, nI_eq_f, vp_nI, tI, fI, not_true, not_false_iff, true_and, and_true, Classical.not_not, mS_uI, mS_uA, mS_uJ, mS_uR, mS_uX, mR_uI, mR_uA, mR_uJ, mR_uX, mX_uI, mX_uA, mX_uJ, mX_uR, mI_s, mI_n, mI_A, mI_An, mI_uJ, mI_uR, mI_uX, mJ_uI, mJ_uA, mJ_uR, mJ_uX, onR_s, kC_v, kC_n, kC_t, mI_A, mdT_19, h]
  · have e1 : (nI (mkk t.1) = nI 0) = False := (mkk1 k1).trans (eq_false c1)
    simp (disch := first | omega | rfl) only [e_208_0, e_208_1, e_208_2, e_208_5, e_208_8, e_208_9, e_208_12, e_208_13, e_208_16, e_208_17, e_208_19, e_208_22, e_208_23, e_208_26, e_208_27, e_208_29, e_208_32, e_208_33, e_208_34, e_208_35, e_208_37, e_208_39, e_208_42, e_208_43, e_208_46, e_208_49, e_208_50, e_208_51, e_208_52, e_208_53, e_208_56, e_208_57, e_208_58, e_208_59, e_208_62, e_208_65, e_208_66, e_208_69, e_208_70, e_208_73, e_208_74, e_208_75, e_208_76, e_208_78, e_208_79, e_208_80, e_208_81, e_208_84, e_208_85, e_208_86, e_208_87, e_208_90, e_208_93, e_208_94, p1, p2, p3, p4, p5, p6, p7, p8, p9, p10, p11, p12, p13, p14, p15, p16, p17, p18, p19, p20, p21, ge1, ule_t, true_or, or_true, nI_add, nI_mul, nI_sub, nI_clamp, nI_lt_t, nI_lt_f, nI_le_t, nI_le_f, nI_eq_t, nI_eq_f, vp_nI, tI, fI, not_true, not_false_iff, true_and, and_true, Classical.not_not, mS_uI, mS_uA, mS_uJ, mS_uR, mS_uX, mR_uI, mR_uA, mR_uJ, mR_uX, mX_uI, mX_uA, mX_uJ, mX_uR, mI_s, mI_n, mI_A, mI_An, mI_uJ, mI_uR, mI_uX, mJ_uI, mJ_uA, mJ_uR, mJ_uX, onR_s, kC_v, kC_n, kC_t, mI_A, mdT_15, mdT_16, mdT_17, e1, h205e]
    rw [e_208_36]
    simp (disch := first | omega | rfl) only [e_208_0, e_208_1, e_208_2, e_208_5, e_208_8, e_208_9, e_208_12, e_208_13, e_208_16, e_208_17, e_208_19, e_208_22, e_208_23, e_208_26, e_208_27, e_208_29, e_208_32, e_208_33, e_208_34, e_208_35, e_208_37, e_208_39, e_208_42, e_208_43, e_208_46, e_208_49, e_208_50, e_208_51, e_208_52, e_208_53, e_208_56, e_208_57, e_208_58, e_208_59, e_208_62, e_208_65, e_208_66, e_208_69, e_208_70, e_208_73, e_208_74, e_208_75, e_208_76, e_208_78, e_208_79, e_208_80, e_208_81, e_208_84, e_208_85, e_208_86, e_208_87, e_208_90, e_208_93, e_208_94, p1, p2, p3, p4, p5, p6, p7, p8, p9, p10, p11, p12, p13, p14, p15, p16, p17, p18, p19, p20, p21, ge1, ule_t, true_or, or_true, nI_add, nI_mul, nI_sub, nI_clamp, nI_lt_t, nI_lt_f, nI_le_t, nI_le_f, nI_eq_t, nI_eq_f, vp_nI, tI, fI, not_true, not_false_iff, true_and, and_true, Classical.not_not, mS_uI, mS_uA, mS_uJ, mS_uR, mS_uX, mR_uI, mR_uA, mR_uJ, mR_uX, mX_uI, mX_uA, mX_uJ, mX_uR, mI_s, mI_n, mI_A, mI_An, mI_uJ, mI_uR, mI_uX, mJ_uI, mJ_uA, mJ_uR, mJ_uX, onR_s, kC_v, kC_n, kC_t, mI_A, mdT_19, h]
theorem l_209g (hM : ShM μ) (hn : mI μ 1302 2 = nI n) (h6 : n ≤ 6) (h : ¬ x = nI 0) : ∀ m k, k + m = n → EM 209 (d + 2) 2 [some (.ref 1298), some (.int x), some (.int (nI k))] [] μ (0, 0) Q = Q (some (some (.int (fNm (mI μ 1300) x m k)))) μ := by
  have hM0 := hM
  obtain ⟨p1, p2, p3, p4, p5, p6, p7, p8, p9, p10, p11, p12, p13, p14, p15, p16, p17, p18, p19, p20, p21⟩ := hM
  intro m
  induction m with
  | zero =>
    intro k hk
    obtain rfl : k = n := by omega
    rw [e_209_2]
    simp (disch := first | omega | rfl) only [e_209_0, e_209_1, e_209_3, e_209_4, e_209_7, e_209_10, e_209_11, e_209_14, e_209_15, e_209_18, e_209_20, e_209_21, e_209_22, e_209_23, e_209_24, e_209_27, e_209_28, e_209_29, e_209_32, e_209_35, e_209_36, p1, p2, p3, p4, p5, p6, p7, p8, p9, p10, p11, p12, p13, p14, p15, p16, p17, p18, p19, p20, p21, ge1, ule_t, true_or, or_true, nI_add, nI_mul, nI_sub, nI_clamp, nI_lt_t, nI_lt_f, nI_le_t, nI_le_f, nI_eq_t, nI_eq_f, vp_nI, tI, fI, not_true, not_false_iff, true_and, and_true, Classical.not_not, mS_uI, mS_uA, mS_uJ, mS_uR, mS_uX, mR_uI, mR_uA, mR_uJ, mR_uX, mX_uI, mX_uA, mX_uJ, mX_uR, mI_s, mI_n, mI_A, mI_An, mI_uJ, mI_uR, mI_uX, mJ_uI, mJ_uA, mJ_uR, mJ_uX, onR_s, kC_v, kC_n, kC_t, s_165 hM0, hn, fNm]
  | succ m ih =>
    intro k hk
    have hi := ih (k + 1) (by omega)
    rw [e_209_2, fNm]
    by_cases c : mI μ 1300 (16 + k) = x
    · rw [if_pos c]
      simp (disch := first | omega | rfl) only [e_209_0, e_209_1, e_209_3, e_209_4, e_209_7, e_209_10, e_209_11, e_209_14, e_209_15, e_209_18, e_209_20, e_209_21, e_209_22, e_209_23, e_209_24, e_209_27, e_209_28, e_209_29, e_209_32, e_209_35, e_209_36, p1, p2, p3, p4, p5, p6, p7, p8, p9, p10, p11, p12, p13, p14, p15, p16, p17, p18, p19, p20, p21, ge1, ule_t, true_or, or_true, nI_add, nI_mul, nI_sub, nI_clamp, nI_lt_t, nI_lt_f, nI_le_t, nI_le_f, nI_eq_t, nI_eq_f, vp_nI, tI, fI, not_true, not_false_iff, true_and, and_true, Classical.not_not, mS_uI, mS_uA, mS_uJ, mS_uR, mS_uX, mR_uI, mR_uA, mR_uJ, mR_uX, mX_uI, mX_uA, mX_uJ, mX_uR, mI_s, mI_n, mI_A, mI_An, mI_uJ, mI_uR, mI_uX, mJ_uI, mJ_uA, mJ_uR, mJ_uX, onR_s, kC_v, kC_n, kC_t, s_165 hM0, hn, h, c]
    · rw [if_neg c]
      simp (disch := first | omega | rfl) only [e_209_0, e_209_1, e_209_3, e_209_4, e_209_7, e_209_10, e_209_11, e_209_14, e_209_15, e_209_18, e_209_20, e_209_21, e_209_22, e_209_23, e_209_24, e_209_27, e_209_28, e_209_29, e_209_32, e_209_35, e_209_36, p1, p2, p3, p4, p5, p6, p7, p8, p9, p10, p11, p12, p13, p14, p15, p16, p17, p18, p19, p20, p21, ge1, ule_t, true_or, or_true, nI_add, nI_mul, nI_sub, nI_clamp, nI_lt_t, nI_lt_f, nI_le_t, nI_le_f, nI_eq_t, nI_eq_f, vp_nI, tI, fI, not_true, not_false_iff, true_and, and_true, Classical.not_not, mS_uI, mS_uA, mS_uJ, mS_uR, mS_uX, mR_uI, mR_uA, mR_uJ, mR_uX, mX_uI, mX_uA, mX_uJ, mX_uR, mI_s, mI_n, mI_A, mI_An, mI_uJ, mI_uR, mI_uX, mJ_uI, mJ_uA, mJ_uR, mJ_uX, onR_s, kC_v, kC_n, kC_t, s_165 hM0, hn, h, c]
      exact hi
theorem s_209 (hM : ShM μ) (hn : mI μ 1302 2 = nI n) (h6 : n ≤ 6) (h : ¬ x = nI 0) : Ev (d + 3) 209 [.ref 1298, .int x] μ Q = Q (some (some (.int (fNm (mI μ 1300) x n 0)))) μ := by
  rw [in_209]
  simp (disch := first | omega | rfl) only [e_209_0, e_209_1, e_209_3, e_209_4, e_209_7, e_209_10, e_209_11, e_209_14, e_209_15, e_209_18, e_209_20, e_209_21, e_209_22, e_209_23, e_209_24, e_209_27, e_209_28, e_209_29, e_209_32, e_209_35, e_209_36, ge1, ule_t, true_or, or_true, nI_add, nI_mul, nI_sub, nI_clamp, nI_lt_t, nI_lt_f, nI_le_t, nI_le_f, nI_eq_t, nI_eq_f, vp_nI, tI, fI, not_true, not_false_iff, true_and, and_true, Classical.not_not]
  exact l_209g hM hn h6 h n 0 (by omega)
theorem s_209l (hM : ShM μ) (hn : mI μ 1302 2 = nI n) (h6 : n ≤ 6) (ht : okTk f L t) (h1 : t.1 = 1) : Ev (d + 3) 209 [.ref 1298, .int (nI (nmQ f t 6))] (uA μ 1298 F) Q = Q (some (some (.int (fnd f (mI μ 1300) n t)))) (uA μ 1298 F) := by
  have := s_209 (d := d) (Q := Q) (μ := uA μ 1298 F) (x := nI (nmQ f t 6)) (n := n) hM (by rw [mI_An (by omega)]; exact hn) h6 (nm_ne ht h1)
  rw [mI_Anf (by omega)] at this
  exact this
theorem s_210t (hM : MdC μ f L) (hn : mI μ 1302 2 = nI n) (h6 : n ≤ 6) (ht : okTk f L t) (h : ckM f (mI μ 1300) n t = nI 0) : Ev (d + 4) 210 [.ref 1298] (uA μ 1298 (mdT g L t (nI 0) ep sm ts hs)) Q = Q (some (some (.int (fnd f (mI μ 1300) n t)))) (uA μ 1298 (mdT g L (nx f L t) (nI 0) ep sm ts hs)) := by
  obtain ⟨c1, c2⟩ := ckM_t.mp h
  have h208 := fun (d : Nat) (Q : Po) => s_208t (d := d) (Q := Q) (g := g) (ep := ep) (sm := sm) (ts := ts) (hs := hs) hM ht c1
  have h209 := fun (d : Nat) (Q : Po) (F : Nat → Int32) => s_209l (d := d) (Q := Q) (F := F) hM.1 hn h6 ht c1.1
  have h205 := fun (d : Nat) (Q : Po) (x : Int32) => s_205n (d := d) (Q := Q) (x := x) (g := g) (t := t) (er := nI 0) (ep := ep) (sm := sm) (ts := ts) (hs := hs) hM
  have h206 := fun (d : Nat) (Q : Po) => s_206 (d := d) (Q := Q) (g := g) (ep := ep) (sm := sm) (ts := ts) (hs := hs) hM ht
  obtain ⟨hS, h4, h5, h6⟩ := hM
  obtain ⟨p1, p2, p3, p4, p5, p6, p7, p8, p9, p10, p11, p12, p13, p14, p15, p16, p17, p18, p19, p20, p21⟩ := hS
  rw [in_210]
  simp (disch := first | omega | rfl) only [e_210_0, e_210_1, e_210_4, e_210_5, e_210_6, e_210_9, e_210_12, e_210_13, e_210_14, e_210_17, e_210_20, e_210_21, e_210_22, e_210_23, e_210_24, e_210_25, e_210_28, e_210_29, e_210_32, e_210_33, e_210_35, e_210_38, e_210_39, e_210_42, e_210_43, e_210_46, e_210_49, e_210_50, e_210_53, e_210_54, p1, p2, p3, p4, p5, p6, p7, p8, p9, p10, p11, p12, p13, p14, p15, p16, p17, p18, p19, p20, p21, ge1, ule_t, true_or, or_true, nI_add, nI_mul, nI_sub, nI_clamp, nI_lt_t, nI_lt_f, nI_le_t, nI_le_f, nI_eq_t, nI_eq_f, vp_nI, tI, fI, not_true, not_false_iff, true_and, and_true, Classical.not_not, mS_uI, mS_uA, mS_uJ, mS_uR, mS_uX, mR_uI, mR_uA, mR_uJ, mR_uX, mX_uI, mX_uA, mX_uJ, mX_uR, mI_s, mI_n, mI_A, mI_An, mI_uJ, mI_uR, mI_uX, mJ_uI, mJ_uA, mJ_uR, mJ_uX, onR_s, kC_v, kC_n, kC_t, mI_A, mdT_19, h208, h209, h205, h206, eq_false c2]
theorem s_210f (hM : MdC μ f L) (hn : mI μ 1302 2 = nI n) (h6 : n ≤ 6) (ht : okTk f L t) (h : ¬ ckM f (mI μ 1300) n t = nI 0) : Ev (d + 4) 210 [.ref 1298] (uA μ 1298 (mdT g L t (nI 0) ep sm ts hs)) Q = Q (some (some (.int (nI 0)))) (uA μ 1298 (mdT g L t (ckM f (mI μ 1300) n t) (nI t.2.1) sm ts hs)) := by
  have h205t := fun (d : Nat) (Q : Po) (x : Int32) => s_205t (d := d) (Q := Q) (x := x) (g := g) (t := t) (ep := ep) (sm := sm) (ts := ts) (hs := hs) hM
  have h206e := fun (d : Nat) (Q : Po) (er : Int32) (h : ¬ er = nI 0) => s_206e (d := d) (Q := Q) (g := g) (t := t) (er := er) (ep := nI t.2.1) (sm := sm) (ts := ts) (hs := hs) hM h
  have h205e := fun (d : Nat) (Q : Po) (x y er : Int32) (h : ¬ er = nI 0) => s_205e (d := d) (Q := Q) (x := x) (y := y) (g := g) (t := t) (er := er) (ep := nI t.2.1) (sm := sm) (ts := ts) (hs := hs) hM h
  have m11 : ¬ (-11 : Int32) = nI 0 := by decide
  have m13 : ¬ (-13 : Int32) = nI 0 := by decide
  have z1 : (nI 0 = (-1 : Int32)) = False := nI_m1 (by omega)
  rw [in_210]
  by_cases c1 : isN t
  · have c2 : fnd f (mI μ 1300) n t = -1 := Classical.byContradiction fun z => h (ckM_t.mpr ⟨c1, z⟩)
    have e1 : ckM f (mI μ 1300) n t = -13 := by unfold ckM; rw [if_pos c1, if_pos c2]
    have h208 := fun (d : Nat) (Q : Po) => s_208t (d := d) (Q := Q) (g := g) (ep := ep) (sm := sm) (ts := ts) (hs := hs) hM ht c1
    have h209 := fun (d : Nat) (Q : Po) (F : Nat → Int32) => s_209l (d := d) (Q := Q) (F := F) hM.1 hn h6 ht c1.1
    simp only [c2] at h209
    rw [e1]
    obtain ⟨hS, h4, h5, h6⟩ := hM
    obtain ⟨p1, p2, p3, p4, p5, p6, p7, p8, p9, p10, p11, p12, p13, p14, p15, p16, p17, p18, p19, p20, p21⟩ := hS
    simp (disch := first | omega | rfl) only [e_210_0, e_210_1, e_210_4, e_210_5, e_210_6, e_210_9, e_210_12, e_210_13, e_210_14, e_210_17, e_210_20, e_210_21, e_210_22, e_210_23, e_210_24, e_210_25, e_210_28, e_210_29, e_210_32, e_210_33, e_210_35, e_210_38, e_210_39, e_210_42, e_210_43, e_210_46, e_210_49, e_210_50, e_210_53, e_210_54, p1, p2, p3, p4, p5, p6, p7, p8, p9, p10, p11, p12, p13, p14, p15, p16, p17, p18, p19, p20, p21, ge1, ule_t, true_or, or_true, nI_add, nI_mul, nI_sub, nI_clamp, nI_lt_t, nI_lt_f, nI_le_t, nI_le_f, nI_eq_t, nI_eq_f, vp_nI, tI, fI, not_true, not_false_iff, true_and, and_true, Classical.not_not, mS_uI, mS_uA, mS_uJ, mS_uR, mS_uX, mR_uI, mR_uA, mR_uJ, mR_uX, mX_uI, mX_uA, mX_uJ, mX_uR, mI_s, mI_n, mI_A, mI_An, mI_uJ, mI_uR, mI_uX, mJ_uI, mJ_uA, mJ_uR, mJ_uX, onR_s, kC_v, kC_n, kC_t, mI_A, mdT_19, h208, h209, h205t, h206e _ _ _ m13, m13]
  · have e1 : ckM f (mI μ 1300) n t = -11 := if_neg c1
    have h208 := fun (d : Nat) (Q : Po) => s_208f (d := d) (Q := Q) (g := g) (ep := ep) (sm := sm) (ts := ts) (hs := hs) hM ht c1
    rw [e1]
    obtain ⟨hS, h4, h5, h6⟩ := hM
    obtain ⟨p1, p2, p3, p4, p5, p6, p7, p8, p9, p10, p11, p12, p13, p14, p15, p16, p17, p18, p19, p20, p21⟩ := hS
    simp (disch := first | omega | rfl) only [e_210_0, e_210_1, e_210_4, e_210_5, e_210_6, e_210_9, e_210_12, e_210_13, e_210_14, e_210_17, e_210_20, e_210_21, e_210_22, e_210_23, e_210_24, e_210_25, e_210_28, e_210_29, e_210_32, e_210_33, e_210_35, e_210_38, e_210_39, e_210_42, e_210_43, e_210_46, e_210_49, e_210_50, e_210_53, e_210_54, p1, p2, p3, p4, p5, p6, p7, p8, p9, p10, p11, p12, p13, p14, p15, p16, p17, p18, p19, p20, p21, ge1, ule_t, true_or, or_true, nI_add, nI_mul, nI_sub, nI_clamp, nI_lt_t, nI_lt_f, nI_le_t, nI_le_f, nI_eq_t, nI_eq_f, vp_nI, tI, fI, not_true, not_false_iff, true_and, and_true, Classical.not_not, mS_uI, mS_uA, mS_uJ, mS_uR, mS_uX, mR_uI, mR_uA, mR_uJ, mR_uX, mX_uI, mX_uA, mX_uJ, mX_uR, mI_s, mI_n, mI_A, mI_An, mI_uJ, mI_uR, mI_uX, mJ_uI, mJ_uA, mJ_uR, mJ_uX, onR_s, kC_v, kC_n, kC_t, mI_A, mdT_19, h208, h205e _ _ _ _ _ m11, h206e _ _ _ m11, m11, z1]
theorem s_210e (hM : MdC μ f L) (ht : okTk f L t) (h : ¬ er = nI 0) : Ev (d + 4) 210 [.ref 1298] (uA μ 1298 (mdT g L t er ep sm ts hs)) Q = Q (some (some (.int (nI 0)))) (uA μ 1298 (mdT g L t er ep sm ts hs)) := by
  have h205e := fun (d : Nat) (Q : Po) (x y : Int32) => s_205e (d := d) (Q := Q) (x := x) (y := y) (g := g) (t := t) (er := er) (ep := ep) (sm := sm) (ts := ts) (hs := hs) hM h
  have h206e := fun (d : Nat) (Q : Po) => s_206e (d := d) (Q := Q) (g := g) (t := t) (er := er) (ep := ep) (sm := sm) (ts := ts) (hs := hs) hM h
  have h208 := fun (d : Nat) (Q : Po) => s_208e (d := d) (Q := Q) (g := g) (er := er) (ep := ep) (sm := sm) (ts := ts) (hs := hs) hM ht h
  have z1 : (nI 0 = (-1 : Int32)) = False := nI_m1 (by omega)
  obtain ⟨hS, h4, h5, h6⟩ := hM
  obtain ⟨p1, p2, p3, p4, p5, p6, p7, p8, p9, p10, p11, p12, p13, p14, p15, p16, p17, p18, p19, p20, p21⟩ := hS
  rw [in_210]
  simp (disch := first | omega | rfl) only [e_210_0, e_210_1, e_210_4, e_210_5, e_210_6, e_210_9, e_210_12, e_210_13, e_210_14, e_210_17, e_210_20, e_210_21, e_210_22, e_210_23, e_210_24, e_210_25, e_210_28, e_210_29, e_210_32, e_210_33, e_210_35, e_210_38, e_210_39, e_210_42, e_210_43, e_210_46, e_210_49, e_210_50, e_210_53, e_210_54, p1, p2, p3, p4, p5, p6, p7, p8, p9, p10, p11, p12, p13, p14, p15, p16, p17, p18, p19, p20, p21, ge1, ule_t, true_or, or_true, nI_add, nI_mul, nI_sub, nI_clamp, nI_lt_t, nI_lt_f, nI_le_t, nI_le_f, nI_eq_t, nI_eq_f, vp_nI, tI, fI, not_true, not_false_iff, true_and, and_true, Classical.not_not, mS_uI, mS_uA, mS_uJ, mS_uR, mS_uX, mR_uI, mR_uA, mR_uJ, mR_uX, mX_uI, mX_uA, mX_uJ, mX_uR, mI_s, mI_n, mI_A, mI_An, mI_uJ, mI_uR, mI_uX, mJ_uI, mJ_uA, mJ_uR, mJ_uX, onR_s, kC_v, kC_n, kC_t, mI_A, mdT_19, h208, h205e, h206e, h, z1]
end RdM

