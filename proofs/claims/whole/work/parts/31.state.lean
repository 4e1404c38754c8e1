/-! views of members; small pure methods of the class and of its State -/
abbrev VW : Type := Nat → Nat → Int32
abbrev vAct (V : VW) (m : Nat) : Prop := ¬ V m 2 = nI 0
abbrev vHas (V : VW) (m : Nat) (t : Int32) : Prop := V m 6 ≤ t ∧ t ≤ V m 1
def vRec (V : VW) (m : Nat) (t : Int32) : Int32 := V m (23 + t.toNatClampNeg)
def fGroup (V : VW) (t root : Int32) : Nat → Nat
  | 0 => 0
  | n + 1 => fGroup V t root n + (if vAct V n ∧ vHas V n t ∧ vRec V n t = root then 1 else 0)
def fWinP (V : VW) (n : Nat) (t : Int32) : Nat → Option Nat × Nat
  | 0 => (none, 0)
  | k + 1 =>
    let g := if vAct V k ∧ vHas V k t then fGroup V t (vRec V k t) n else 0
    (if (fWinP V n t k).2 < g then some k else (fWinP V n t k).1, if (fWinP V n t k).2 < g then g else (fWinP V n t k).2)
def fWin (V : VW) (n q : Nat) (t : Int32) : Option Nat := if (fWinP V n t n).2 < q then none else (fWinP V n t n).1
def fOff (V : VW) (n q m : Nat) : Bool := match fWin V n q (V m 1) with
  | none => false
  | some w => decide (vAct V m) && !decide (vRec V m (V m 1) = vRec V w (V m 1))
def fGivP (V : VW) (t root but : Int32) : Nat → Option Nat
  | 0 => none
  | k + 1 => if ¬ nI k = but ∧ vAct V k ∧ V k 1 = t ∧ vRec V k t = root ∧ (match fGivP V t root but k with | none => true | some j => decide (V k 3 < V j 3)) = true then some k else fGivP V t root but k
def fGiv (V : VW) (n q : Nat) (t but : Int32) : Option Nat := match fWin V n q t with
  | none => none
  | some w => fGivP V t (vRec V w t) but n
def fExt (V : VW) (g : Int32) : Nat → Int32
  | 0 => -1
  | n + 1 => if V n 2 = nI 0 then fExt V g n else if fExt V g n = -1 then V n 1 else if g = nI 0 then (if V n 1 < fExt V g n then V n 1 else fExt V g n) else (if fExt V g n < V n 1 then V n 1 else fExt V g n)
def fActs (V : VW) : Nat → Nat
  | 0 => 0
  | n + 1 => fActs V n + (if V n 2 = nI 0 then 0 else 1)
/-- a place or none -/
def oN (o : Option Nat) : Int32 := match o with | none => -1 | some m => nI m
theorem nI_m1 {a : Nat} (h : a < 2147483648) : (nI a = -1) = False := by
  apply eq_false
  intro q
  have := congrArg Int32.toInt q
  rw [nI_toInt h] at this
  have h2 : (-1 : Int32).toInt = -1 := by decide
  omega
theorem oN_m1 {o : Option Nat} (h : ∀ m, o = some m → m < 2147483648) : (oN o = -1) = (o = none) := by
  cases o with
  | none => simp [oN]
  | some m => simp only [oN, nI_m1 (h m rfl)]; simp
/-- what views keep -/
def okV (V : VW) (n : Nat) : Prop := ∀ m, m < n → (V m 2 = nI 0 ∨ V m 2 = nI 1) ∧ nI 0 ≤ V m 6 ∧ V m 6 ≤ V m 1 ∧ V m 1 ≤ nI 40
theorem vp41 {t : Int32} (h1 : nI 0 ≤ t) (h2 : t ≤ nI 40) : vp_in t 41 = True := by
  have h3 : ¬ t < 0 := fun q => by rw [nI_0] at h1; exact Int32.not_le.mpr q h1
  obtain ⟨j, hj, rfl⟩ := nI_of2 (M := nI 40) (n := 40) (by decide) h3 h2
  exact vp_nI (by omega) (by omega)
/-- the class's view of a member -/
def cV (μ : Mu) (s m k : Nat) : Int32 := if k = 0 then mI μ (s + 5 + 3 * m) 1 else if k = 1 then mI μ (s + 5 + 3 * m) 3 else if k = 2 then mI μ (s + 5 + 3 * m) 4 else if k = 3 then mI μ (s + 5 + 3 * m) 5 else if k = 4 then mI μ (s + 5 + 3 * m) 6 else if k = 5 then mI μ (s + 5 + 3 * m) 7 else if k = 6 then mI μ (s + 5 + 3 * m) 2 else if k < 23 then mI μ (s + 6 + 3 * m) (k - 7) else mI μ (s + 7 + 3 * m) (k - 23)
section CV
variable {μ : Mu} {s m k : Nat} {t : Int32}
theorem cv0 : mI μ (s + 5 + 3 * m) 1 = cV μ s m 0 := rfl
theorem cv1 : mI μ (s + 5 + 3 * m) 3 = cV μ s m 1 := rfl
theorem cv2 : mI μ (s + 5 + 3 * m) 4 = cV μ s m 2 := rfl
theorem cv3 : mI μ (s + 5 + 3 * m) 5 = cV μ s m 3 := rfl
theorem cv4 : mI μ (s + 5 + 3 * m) 6 = cV μ s m 4 := rfl
theorem cv5 : mI μ (s + 5 + 3 * m) 7 = cV μ s m 5 := rfl
theorem cv6 : mI μ (s + 5 + 3 * m) 2 = cV μ s m 6 := rfl
theorem cvr : mI μ (s + 7 + 3 * m) k = cV μ s m (23 + k) := by
  unfold cV
  rw [if_neg (by omega), if_neg (by omega), if_neg (by omega), if_neg (by omega), if_neg (by omega), if_neg (by omega), if_neg (by omega), if_neg (by omega)]
  congr 1; omega
theorem cvrec : mI μ (s + 7 + 3 * m) t.toNatClampNeg = vRec (cV μ s) m t := cvr
theorem cvc (h : k < 16) : mI μ (s + 6 + 3 * m) k = cV μ s m (7 + k) := by
  unfold cV
  rw [if_neg (by omega), if_neg (by omega), if_neg (by omega), if_neg (by omega), if_neg (by omega), if_neg (by omega), if_neg (by omega), if_pos (by omega)]
  congr 1; omega
end CV
/-- a State stands at s -/
def StS (μ : Mu) (s : Nat) : Prop := 1000 ≤ s ∧ mS μ s = (9, 6) ∧ mR μ s 0 = some (s + 1) ∧ mR μ s 4 = some (s + 2) ∧ mR μ s 5 = some (s + 3) ∧ mS μ (s + 1) = (23, 6) ∧ mS μ (s + 2) = (20, 2) ∧ mS μ (s + 3) = (5, 2) ∧ mR μ (s + 3) 0 = some (s + 4) ∧ mS μ (s + 4) = (20, 40) ∧
  (∀ m, m < 6 → mR μ (s + 1) m = some (s + 5 + 3 * m)) ∧ (∀ m, m < 6 → mS μ (s + 5 + 3 * m) = (7, 10)) ∧ (∀ m, m < 6 → mR μ (s + 5 + 3 * m) 8 = some (s + 6 + 3 * m)) ∧ (∀ m, m < 6 → mR μ (s + 5 + 3 * m) 9 = some (s + 7 + 3 * m)) ∧ (∀ m, m < 6 → mS μ (s + 6 + 3 * m) = (20, 16)) ∧ (∀ m, m < 6 → mS μ (s + 7 + 3 * m) = (20, 41))
section PureC
variable {d : Nat} {Q : Po} {μ : Mu} {a b c s n m q : Nat} {x y z t root : Int32}
theorem s_155 : Ev (d + 1) 155 [.int x, .int y, .int z] μ Q = Q (some (some (.int (bI (y ≤ x ∧ x ≤ z))))) μ := by
  rw [in_155]
  simp (disch := omega) only [e_155_0, e_155_1, e_155_2, e_155_5, e_155_6, e_155_7, e_155_10, e_155_11, e_155_14, e_155_15, nI_add, nI_mul, nI_sub, nI_clamp, nI_lt_t, nI_lt_f, nI_le_t, nI_le_f, nI_eq_t, nI_eq_f, vp_nI, tI, fI, not_true, not_false_iff, true_and, and_true, bIn0, bI_ok, not_not]
  by_cases h1 : y ≤ x <;> by_cases h2 : x ≤ z <;> simp [h1, h2, bI, Int32.not_lt, Int32.not_le] <;> sorry
theorem s_153 : Ev (d + 2) 153 [.int x] μ Q = Q (some (some (.int (bI (nI 0 ≤ x ∧ x ≤ nI 15))))) μ := by
  rw [in_153]
  simp (disch := omega) only [e_153_0, e_153_1, e_153_2, e_153_4, e_153_7, nI_add, nI_mul, nI_sub, nI_clamp, nI_lt_t, nI_lt_f, nI_le_t, nI_le_f, nI_eq_t, nI_eq_f, vp_nI, tI, fI, not_true, not_false_iff, true_and, and_true, bIn0, bI_ok, not_not, mS_uI, mS_uA, mS_uJ, mS_uR, mS_uX, mR_uI, mR_uA, mR_uJ, mR_uX, mX_uI, mX_uA, mX_uJ, mX_uR, mI_s, mI_n, mI_A, mI_An, mI_uJ, mI_uR, mI_uX, mJ_uI, mJ_uA, mJ_uR, mJ_uX, onR_s, kC_v, kC_n, kC_t, s_155]
theorem s_154 : Ev (d + 2) 154 [.int x] μ Q = Q (some (some (.int (bI (nI 0 ≤ x ∧ x ≤ nI 1))))) μ := by
  rw [in_154]
  simp (disch := omega) only [e_154_0, e_154_1, e_154_2, e_154_3, e_154_6, nI_add, nI_mul, nI_sub, nI_clamp, nI_lt_t, nI_lt_f, nI_le_t, nI_le_f, nI_eq_t, nI_eq_f, vp_nI, tI, fI, not_true, not_false_iff, true_and, and_true, bIn0, bI_ok, not_not, mS_uI, mS_uA, mS_uJ, mS_uR, mS_uX, mR_uI, mR_uA, mR_uJ, mR_uX, mX_uI, mX_uA, mX_uJ, mX_uR, mI_s, mI_n, mI_A, mI_An, mI_uJ, mI_uR, mI_uX, mJ_uI, mJ_uA, mJ_uR, mJ_uX, onR_s, kC_v, kC_n, kC_t, s_155]
theorem s_63 (ha : mS μ a = (7, 10)) : Ev (d + 1) 63 [.ref a, .int x] μ Q = Q (some (some (.int (bI (mI μ a 2 ≤ x ∧ x ≤ mI μ a 3))))) μ := by
  rw [in_63]
  simp (disch := omega) only [e_63_0, e_63_1, e_63_2, e_63_5, e_63_8, e_63_9, e_63_10, e_63_13, e_63_16, e_63_17, e_63_20, e_63_21, nI_add, nI_mul, nI_sub, nI_clamp, nI_lt_t, nI_lt_f, nI_le_t, nI_le_f, nI_eq_t, nI_eq_f, vp_nI, tI, fI, not_true, not_false_iff, true_and, and_true, bIn0, bI_ok, not_not, mS_uI, mS_uA, mS_uJ, mS_uR, mS_uX, mR_uI, mR_uA, mR_uJ, mR_uX, mX_uI, mX_uA, mX_uJ, mX_uR, mI_s, mI_n, mI_A, mI_An, mI_uJ, mI_uR, mI_uX, mJ_uI, mJ_uA, mJ_uR, mJ_uX, onR_s, kC_v, kC_n, kC_t, ha]
  by_cases h1 : mI μ a 2 ≤ x <;> by_cases h2 : x ≤ mI μ a 3 <;> simp [h1, h2, bI, Int32.not_lt, Int32.not_le] <;> sorry
theorem s_81 (hS : StS μ s) (hm : m < 6) (hV : okV (cV μ s) (m + 1)) : Ev (d + 2) 81 [.ref s, .int (nI m), .int t, .int root] μ Q = Q (some (some (.int (bI (vAct (cV μ s) m ∧ vHas (cV μ s) m t ∧ vRec (cV μ s) m t = root))))) μ := by
  rw [in_81]
  obtain ⟨q0, q1, q2, q3, q4, q5, q6, q7, q8, q9, q10, q11, q12, q13, q14, q15⟩ := hS
  obtain ⟨v1, v2, v3, v4⟩ := hV m (by omega)
  by_cases hh : vHas (cV μ s) m t
  · have hv : vp_in t 41 = True := vp41 (Int32.le_trans v2 hh.1) (Int32.le_trans hh.2 v4)
    simp (disch := omega) only [e_81_0, e_81_1, e_81_4, e_81_5, e_81_6, e_81_8, e_81_10, e_81_13, e_81_16, e_81_18, e_81_19, e_81_22, e_81_25, e_81_27, e_81_30, e_81_31, e_81_32, e_81_33, e_81_36, e_81_37, e_81_40, e_81_41, s_63, q1, q2, q3, q4, q5, q6, q7, q8, q9, q10, q11, q12, q13, q14, q15, cv0, cv1, cv2, cv3, cv4, cv5, cv6, cvrec, hv, nI_add, nI_mul, nI_sub, nI_clamp, nI_lt_t, nI_lt_f, nI_le_t, nI_le_f, nI_eq_t, nI_eq_f, vp_nI, tI, fI, not_true, not_false_iff, true_and, and_true, bIn0, bI_ok, not_not, mS_uI, mS_uA, mS_uJ, mS_uR, mS_uX, mR_uI, mR_uA, mR_uJ, mR_uX, mX_uI, mX_uA, mX_uJ, mX_uR, mI_s, mI_n, mI_A, mI_An, mI_uJ, mI_uR, mI_uX, mJ_uI, mJ_uA, mJ_uR, mJ_uX, onR_s, kC_v, kC_n, kC_t]
    sorry
  · simp (disch := omega) only [e_81_0, e_81_1, e_81_4, e_81_5, e_81_6, e_81_8, e_81_10, e_81_13, e_81_16, e_81_18, e_81_19, e_81_22, e_81_25, e_81_27, e_81_30, e_81_31, e_81_32, e_81_33, e_81_36, e_81_37, e_81_40, e_81_41, s_63, q1, q2, q3, q4, q5, q6, q7, q8, q9, q10, q11, q12, q13, q14, q15, cv0, cv1, cv2, cv3, cv4, cv5, cv6, cvrec, nI_add, nI_mul, nI_sub, nI_clamp, nI_lt_t, nI_lt_f, nI_le_t, nI_le_f, nI_eq_t, nI_eq_f, vp_nI, tI, fI, not_true, not_false_iff, true_and, and_true, bIn0, bI_ok, not_not, mS_uI, mS_uA, mS_uJ, mS_uR, mS_uX, mR_uI, mR_uA, mR_uJ, mR_uX, mX_uI, mX_uA, mX_uJ, mX_uR, mI_s, mI_n, mI_A, mI_An, mI_uJ, mI_uR, mI_uX, mJ_uI, mJ_uA, mJ_uR, mJ_uX, onR_s, kC_v, kC_n, kC_t]
    sorry
end PureC
