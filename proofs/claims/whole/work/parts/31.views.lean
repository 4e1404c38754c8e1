/-! more rows -/
theorem bI_ok2 (p : Prop) [Decidable p] : (¬ p ∨ bI p = nI 1) = True := by
  unfold bI
  by_cases h : p
  · simp [h]
  · simp [h]
theorem ge1 {a : Nat} (h : 1000 ≤ a) : (1000 ≤ a) = True := eq_true h

/-! views of members; small pure methods of the class and of its State -/
abbrev VW : Type := Nat → Nat → Int32
abbrev vAct (V : VW) (m : Nat) : Prop := ¬ V m 2 = nI 0
abbrev vHas (V : VW) (m : Nat) (t : Int32) : Prop := V m 6 ≤ t ∧ t ≤ V m 1
def vRec (V : VW) (m : Nat) (t : Int32) : Int32 := V m (23 + t.toNatClampNeg)
def fGroup (V : VW) (t root : Int32) : Nat → Nat
  | 0 => 0
  | n + 1 => fGroup V t root n + (if vAct V n ∧ vHas V n t ∧ vRec V n t = root then 1 else 0)
def fWinP (V : VW) (n : Nat) (t : Int32) : Nat → Option Nat × Nat
  | 0 => (none, 0)
  | k + 1 =>
    let g := if vAct V k ∧ vHas V k t then fGroup V t (vRec V k t) n else 0
    (if (fWinP V n t k).2 < g then some k else (fWinP V n t k).1, if (fWinP V n t k).2 < g then g else (fWinP V n t k).2)
def fWin (V : VW) (n q : Nat) (t : Int32) : Option Nat := if (fWinP V n t n).2 < q then none else (fWinP V n t n).1
def fOff (V : VW) (n q m : Nat) : Bool := match fWin V n q (V m 1) with
  | none => false
  | some w => decide (vAct V m) && !decide (vRec V m (V m 1) = vRec V w (V m 1))
def fGivP (V : VW) (t root but : Int32) : Nat → Option Nat
  | 0 => none
  | k + 1 => if ¬ nI k = but ∧ vAct V k ∧ V k 1 = t ∧ vRec V k t = root ∧ (match fGivP V t root but k with | none => true | some j => decide (V k 3 < V j 3)) = true then some k else fGivP V t root but k
def fGiv (V : VW) (n q : Nat) (t but : Int32) : Option Nat := match fWin V n q t with
  | none => none
  | some w => fGivP V t (vRec V w t) but n
def fExt (V : VW) (g : Int32) : Nat → Int32
  | 0 => -1
  | n + 1 => if V n 2 = nI 0 then fExt V g n else if fExt V g n = -1 then V n 1 else if g = nI 0 then (if V n 1 < fExt V g n then V n 1 else fExt V g n) else (if fExt V g n < V n 1 then V n 1 else fExt V g n)
def fActs (V : VW) : Nat → Nat
  | 0 => 0
  | n + 1 => fActs V n + (if V n 2 = nI 0 then 0 else 1)
/-- a place or none -/
def oN (o : Option Nat) : Int32 := match o with | none => -1 | some m => nI m
theorem nI_m1 {a : Nat} (h : a < 2147483648) : (nI a = -1) = False := by
  apply eq_false
  intro q
  have := congrArg Int32.toInt q
  rw [nI_toInt h] at this
  have h2 : (-1 : Int32).toInt = -1 := by decide
  omega
theorem oN_m1 {o : Option Nat} (h : ∀ m, o = some m → m < 2147483648) : (oN o = -1) = (o = none) := by
  cases o with
  | none => simp [oN]
  | some m => simp only [oN, nI_m1 (h m rfl)]; simp
/-- what views keep -/
def okV (V : VW) (n : Nat) : Prop := ∀ m, m < n → (V m 2 = nI 0 ∨ V m 2 = nI 1) ∧ nI 0 ≤ V m 6 ∧ V m 6 ≤ V m 1 ∧ V m 1 ≤ nI 40
theorem vp41 {t : Int32} (h1 : nI 0 ≤ t) (h2 : t ≤ nI 40) : vp_in t 41 = True := by
  have h3 : ¬ t < 0 := fun q => by rw [nI_0] at h1; exact Int32.not_le.mpr q h1
  obtain ⟨j, hj, rfl⟩ := nI_of2 (M := nI 40) (n := 40) (by decide) h3 h2
  exact vp_nI (by omega) (by omega)
/-- the class's view of a member -/
def cV (μ : Mu) (s m k : Nat) : Int32 := if k = 0 then mI μ (s + 5 + 3 * m) 1 else if k = 1 then mI μ (s + 5 + 3 * m) 3 else if k = 2 then mI μ (s + 5 + 3 * m) 4 else if k = 3 then mI μ (s + 5 + 3 * m) 5 else if k = 4 then mI μ (s + 5 + 3 * m) 6 else if k = 5 then mI μ (s + 5 + 3 * m) 7 else if k = 6 then mI μ (s + 5 + 3 * m) 2 else if k < 23 then mI μ (s + 6 + 3 * m) (k - 7) else mI μ (s + 7 + 3 * m) (k - 23)
section CV
variable {μ : Mu} {s m k : Nat} {t : Int32}
theorem cv0 : mI μ (s + 5 + 3 * m) 1 = cV μ s m 0 := rfl
theorem cv1 : mI μ (s + 5 + 3 * m) 3 = cV μ s m 1 := rfl
theorem cv2 : mI μ (s + 5 + 3 * m) 4 = cV μ s m 2 := rfl
theorem cv3 : mI μ (s + 5 + 3 * m) 5 = cV μ s m 3 := rfl
theorem cv4 : mI μ (s + 5 + 3 * m) 6 = cV μ s m 4 := rfl
theorem cv5 : mI μ (s + 5 + 3 * m) 7 = cV μ s m 5 := rfl
theorem cv6 : mI μ (s + 5 + 3 * m) 2 = cV μ s m 6 := rfl
theorem cvr : mI μ (s + 7 + 3 * m) k = cV μ s m (23 + k) := by
  unfold cV
  rw [if_neg (by omega), if_neg (by omega), if_neg (by omega), if_neg (by omega), if_neg (by omega), if_neg (by omega), if_neg (by omega), if_neg (by omega)]
  congr 1; omega
theorem cvrec : mI μ (s + 7 + 3 * m) t.toNatClampNeg = vRec (cV μ s) m t := cvr
theorem cvc (h : k < 16) : mI μ (s + 6 + 3 * m) k = cV μ s m (7 + k) := by
  unfold cV
  rw [if_neg (by omega), if_neg (by omega), if_neg (by omega), if_neg (by omega), if_neg (by omega), if_neg (by omega), if_neg (by omega), if_pos (by omega)]
  congr 1; omega
end CV
/-- a State stands at s -/
def StS (μ : Mu) (s : Nat) : Prop := 1000 ≤ s ∧ mS μ s = (9, 6) ∧ mR μ s 0 = some (s + 1) ∧ mR μ s 4 = some (s + 2) ∧ mR μ s 5 = some (s + 3) ∧ mS μ (s + 1) = (23, 6) ∧ mS μ (s + 2) = (20, 2) ∧ mS μ (s + 3) = (5, 2) ∧ mR μ (s + 3) 0 = some (s + 4) ∧ mS μ (s + 4) = (20, 40) ∧
  (∀ m, m < 6 → mR μ (s + 1) m = some (s + 5 + 3 * m)) ∧ (∀ m, m < 6 → mS μ (s + 5 + 3 * m) = (7, 10)) ∧ (∀ m, m < 6 → mR μ (s + 5 + 3 * m) 8 = some (s + 6 + 3 * m)) ∧ (∀ m, m < 6 → mR μ (s + 5 + 3 * m) 9 = some (s + 7 + 3 * m)) ∧ (∀ m, m < 6 → mS μ (s + 6 + 3 * m) = (20, 16)) ∧ (∀ m, m < 6 → mS μ (s + 7 + 3 * m) = (20, 41))
section PureC
variable {d : Nat} {Q : Po} {μ : Mu} {a b c s n m q : Nat} {x y z t root : Int32}
theorem wp_in {A : Po} : ((x < y → A (some (some (.int (nI 0)))) μ) ∧ (¬ x < y → (z < x → A (some (some (.int (nI 0)))) μ) ∧ (¬ z < x → A (some (some (.int (nI 1)))) μ))) = A (some (some (.int (bI (y ≤ x ∧ x ≤ z))))) μ := by
  by_cases h1 : x < y
  · simp only [bI_f (show ¬ (y ≤ x ∧ x ≤ z) from fun q => Int32.not_le.mpr h1 q.1), h1, tI, fI, not_true, and_true]
  · by_cases h2 : z < x
    · simp only [bI_f (show ¬ (y ≤ x ∧ x ≤ z) from fun q => Int32.not_le.mpr h2 q.2), h1, h2, tI, fI, not_true, not_false_iff, and_true, true_and]
    · simp only [bI_t (show (y ≤ x ∧ x ≤ z) from ⟨Int32.not_lt.mp h1, Int32.not_lt.mp h2⟩), h1, h2, tI, fI, not_true, not_false_iff, and_true, true_and]
theorem s_155 : Ev (d + 1) 155 [.int x, .int y, .int z] μ Q = Q (some (some (.int (bI (y ≤ x ∧ x ≤ z))))) μ := by
  rw [in_155]
  simp (disch := omega) only [e_155_0, e_155_1, e_155_2, e_155_5, e_155_6, e_155_7, e_155_10, e_155_11, e_155_14, e_155_15, ge1, ule_t, true_or, or_true, nI_add, nI_mul, nI_sub, nI_clamp, nI_lt_t, nI_lt_f, nI_le_t, nI_le_f, nI_eq_t, nI_eq_f, vp_nI, tI, fI, not_true, not_false_iff, true_and, and_true, Classical.not_not, bI_ok]
  exact wp_in
theorem s_153 : Ev (d + 2) 153 [.int x] μ Q = Q (some (some (.int (bI (nI 0 ≤ x ∧ x ≤ nI 15))))) μ := by
  rw [in_153]
  simp (disch := omega) only [e_153_0, e_153_1, e_153_2, e_153_4, e_153_7, ge1, ule_t, true_or, or_true, nI_add, nI_mul, nI_sub, nI_clamp, nI_lt_t, nI_lt_f, nI_le_t, nI_le_f, nI_eq_t, nI_eq_f, vp_nI, tI, fI, not_true, not_false_iff, true_and, and_true, bIn0, bI_ok, bI_ok2, Classical.not_not, mS_uI, mS_uA, mS_uJ, mS_uR, mS_uX, mR_uI, mR_uA, mR_uJ, mR_uX, mX_uI, mX_uA, mX_uJ, mX_uR, mI_s, mI_n, mI_A, mI_An, mI_uJ, mI_uR, mI_uX, mJ_uI, mJ_uA, mJ_uR, mJ_uX, onR_s, kC_v, kC_n, kC_t, s_155]
theorem s_154 : Ev (d + 2) 154 [.int x] μ Q = Q (some (some (.int (bI (nI 0 ≤ x ∧ x ≤ nI 1))))) μ := by
  rw [in_154]
  simp (disch := omega) only [e_154_0, e_154_1, e_154_2, e_154_3, e_154_6, ge1, ule_t, true_or, or_true, nI_add, nI_mul, nI_sub, nI_clamp, nI_lt_t, nI_lt_f, nI_le_t, nI_le_f, nI_eq_t, nI_eq_f, vp_nI, tI, fI, not_true, not_false_iff, true_and, and_true, bIn0, bI_ok, bI_ok2, Classical.not_not, mS_uI, mS_uA, mS_uJ, mS_uR, mS_uX, mR_uI, mR_uA, mR_uJ, mR_uX, mX_uI, mX_uA, mX_uJ, mX_uR, mI_s, mI_n, mI_A, mI_An, mI_uJ, mI_uR, mI_uX, mJ_uI, mJ_uA, mJ_uR, mJ_uX, onR_s, kC_v, kC_n, kC_t, s_155]
theorem s_63 (ha : mS μ a = (7, 10)) : Ev (d + 1) 63 [.ref a, .int x] μ Q = Q (some (some (.int (bI (mI μ a 2 ≤ x ∧ x ≤ mI μ a 3))))) μ := by
  rw [in_63]
  simp (disch := omega) only [e_63_0, e_63_1, e_63_2, e_63_5, e_63_8, e_63_9, e_63_10, e_63_13, e_63_16, e_63_17, e_63_20, e_63_21, ge1, ule_t, true_or, or_true, nI_add, nI_mul, nI_sub, nI_clamp, nI_lt_t, nI_lt_f, nI_le_t, nI_le_f, nI_eq_t, nI_eq_f, vp_nI, tI, fI, not_true, not_false_iff, true_and, and_true, Classical.not_not, mS_uI, mS_uA, mS_uJ, mS_uR, mS_uX, mR_uI, mR_uA, mR_uJ, mR_uX, mX_uI, mX_uA, mX_uJ, mX_uR, mI_s, mI_n, mI_A, mI_An, mI_uJ, mI_uR, mI_uX, mJ_uI, mJ_uA, mJ_uR, mJ_uX, onR_s, kC_v, kC_n, kC_t, ha, bI_ok]
  exact wp_in
theorem s_81 (hS : StS μ s) (hm : m < 6) (hV : okV (cV μ s) (m + 1)) : Ev (d + 2) 81 [.ref s, .int (nI m), .int t, .int root] μ Q = Q (some (some (.int (bI (vAct (cV μ s) m ∧ vHas (cV μ s) m t ∧ vRec (cV μ s) m t = root))))) μ := by
  rw [in_81]
  obtain ⟨q0, q1, q2, q3, q4, q5, q6, q7, q8, q9, q10, q11, q12, q13, q14, q15⟩ := hS
  obtain ⟨v1, v2, v3, v4⟩ := hV m (by omega)
  have h63 := fun (Q : Po) => s_63 (d := d) (Q := Q) (x := t) (q11 m hm)
  rw [cv6, cv1] at h63
  by_cases ha : cV μ s m 2 = nI 0
  · rw [bI_f (fun z => z.1 ha)]
    simp (disch := omega) only [e_81_0, e_81_1, e_81_4, e_81_5, e_81_6, e_81_8, e_81_10, e_81_13, e_81_16, e_81_18, e_81_19, e_81_22, e_81_25, e_81_27, e_81_30, e_81_31, e_81_32, e_81_33, e_81_36, e_81_37, e_81_40, e_81_41, q1, q2, q3, q4, q5, q6, q7, q8, q9, q10, q11, q12, q13, q14, q15, cv0, cv1, cv2, cv3, cv4, cv5, cv6, cvrec, ha, ge1, ule_t, true_or, or_true, nI_add, nI_mul, nI_sub, nI_clamp, nI_lt_t, nI_lt_f, nI_le_t, nI_le_f, nI_eq_t, nI_eq_f, vp_nI, tI, fI, not_true, not_false_iff, true_and, and_true, Classical.not_not, mS_uI, mS_uA, mS_uJ, mS_uR, mS_uX, mR_uI, mR_uA, mR_uJ, mR_uX, mX_uI, mX_uA, mX_uJ, mX_uR, mI_s, mI_n, mI_A, mI_An, mI_uJ, mI_uR, mI_uX, mJ_uI, mJ_uA, mJ_uR, mJ_uX, onR_s, kC_v, kC_n, kC_t]
  · by_cases hh : vHas (cV μ s) m t
    · have hv : vp_in t 41 = True := vp41 (Int32.le_trans v2 hh.1) (Int32.le_trans hh.2 v4)
      rw [bI_t hh] at h63
      by_cases hr : vRec (cV μ s) m t = root
      · rw [bI_t (show vAct (cV μ s) m ∧ vHas (cV μ s) m t ∧ vRec (cV μ s) m t = root from ⟨ha, hh, hr⟩)]
        simp (disch := omega) only [e_81_0, e_81_1, e_81_4, e_81_5, e_81_6, e_81_8, e_81_10, e_81_13, e_81_16, e_81_18, e_81_19, e_81_22, e_81_25, e_81_27, e_81_30, e_81_31, e_81_32, e_81_33, e_81_36, e_81_37, e_81_40, e_81_41, h63, q1, q2, q3, q4, q5, q6, q7, q8, q9, q10, q11, q12, q13, q14, q15, cv0, cv1, cv2, cv3, cv4, cv5, cv6, cvrec, hv, ha, hr, ge1, ule_t, true_or, or_true, nI_add, nI_mul, nI_sub, nI_clamp, nI_lt_t, nI_lt_f, nI_le_t, nI_le_f, nI_eq_t, nI_eq_f, vp_nI, tI, fI, not_true, not_false_iff, true_and, and_true, Classical.not_not, mS_uI, mS_uA, mS_uJ, mS_uR, mS_uX, mR_uI, mR_uA, mR_uJ, mR_uX, mX_uI, mX_uA, mX_uJ, mX_uR, mI_s, mI_n, mI_A, mI_An, mI_uJ, mI_uR, mI_uX, mJ_uI, mJ_uA, mJ_uR, mJ_uX, onR_s, kC_v, kC_n, kC_t]
      · rw [bI_f (fun z => hr z.2.2)]
        simp (disch := omega) only [e_81_0, e_81_1, e_81_4, e_81_5, e_81_6, e_81_8, e_81_10, e_81_13, e_81_16, e_81_18, e_81_19, e_81_22, e_81_25, e_81_27, e_81_30, e_81_31, e_81_32, e_81_33, e_81_36, e_81_37, e_81_40, e_81_41, h63, q1, q2, q3, q4, q5, q6, q7, q8, q9, q10, q11, q12, q13, q14, q15, cv0, cv1, cv2, cv3, cv4, cv5, cv6, cvrec, hv, ha, hr, ge1, ule_t, true_or, or_true, nI_add, nI_mul, nI_sub, nI_clamp, nI_lt_t, nI_lt_f, nI_le_t, nI_le_f, nI_eq_t, nI_eq_f, vp_nI, tI, fI, not_true, not_false_iff, true_and, and_true, Classical.not_not, mS_uI, mS_uA, mS_uJ, mS_uR, mS_uX, mR_uI, mR_uA, mR_uJ, mR_uX, mX_uI, mX_uA, mX_uJ, mX_uR, mI_s, mI_n, mI_A, mI_An, mI_uJ, mI_uR, mI_uX, mJ_uI, mJ_uA, mJ_uR, mJ_uX, onR_s, kC_v, kC_n, kC_t]
    · rw [bI_f hh] at h63
      rw [bI_f (fun z => hh z.2.1)]
      simp (disch := omega) only [e_81_0, e_81_1, e_81_4, e_81_5, e_81_6, e_81_8, e_81_10, e_81_13, e_81_16, e_81_18, e_81_19, e_81_22, e_81_25, e_81_27, e_81_30, e_81_31, e_81_32, e_81_33, e_81_36, e_81_37, e_81_40, e_81_41, h63, q1, q2, q3, q4, q5, q6, q7, q8, q9, q10, q11, q12, q13, q14, q15, cv0, cv1, cv2, cv3, cv4, cv5, cv6, cvrec, ha, ge1, ule_t, true_or, or_true, nI_add, nI_mul, nI_sub, nI_clamp, nI_lt_t, nI_lt_f, nI_le_t, nI_le_f, nI_eq_t, nI_eq_f, vp_nI, tI, fI, not_true, not_false_iff, true_and, and_true, Classical.not_not, mS_uI, mS_uA, mS_uJ, mS_uR, mS_uX, mR_uI, mR_uA, mR_uJ, mR_uX, mX_uI, mX_uA, mX_uJ, mX_uR, mI_s, mI_n, mI_A, mI_An, mI_uJ, mI_uR, mI_uX, mJ_uI, mJ_uA, mJ_uR, mJ_uX, onR_s, kC_v, kC_n, kC_t]
end PureC

/-! the model's readers -/
def rW (r : Nat → Int32) (m k : Nat) : Int32 := r (3 + 64 * m + k)
/-- the model stands at 1298 -/
def ShM (μ : Mu) : Prop := mS μ 1298 = (12, 27) ∧ mR μ 1298 1 = some 1299 ∧ mR μ 1298 3 = some 1300 ∧ mR μ 1298 4 = some 1301 ∧ mR μ 1298 5 = some 1302 ∧ mR μ 1298 6 = some 1303 ∧ mR μ 1298 7 = some 1304 ∧ mR μ 1298 9 = some 1305 ∧ mR μ 1298 10 = some 1306 ∧ mR μ 1298 11 = some 1307 ∧ mR μ 1298 25 = some 1308 ∧
  mS μ 1299 = (20, 900) ∧ mS μ 1300 = (20, 22) ∧ mS μ 1301 = (20, 22) ∧ mS μ 1302 = (20, 1782) ∧ mS μ 1303 = (20, 1782) ∧ mS μ 1304 = (20, 17820) ∧ mS μ 1305 = (20, 16) ∧ mS μ 1306 = (20, 32) ∧ mS μ 1307 = (20, 32) ∧ mS μ 1308 = (20, 90)
theorem rv {μ : Mu} {a m k : Nat} : mI μ a (3 + 64 * m + k) = rW (mI μ a) m k := rfl
theorem t40 {t : Int32} (h1 : nI 0 ≤ t) (h2 : t ≤ nI 40) : ∃ j, j ≤ 40 ∧ t = nI j := by
  have h3 : ¬ t < 0 := fun q => by rw [nI_0] at h1; exact Int32.not_le.mpr q h1
  exact nI_of2 (M := nI 40) (n := 40) (by decide) h3 h2
section ModelR
variable {d : Nat} {Q : Po} {μ : Mu} {n m k q m0 : Nat} {x y z t root : Int32}
theorem s_165 (hM : ShM μ) : Ev (d + 1) 165 [.ref 1298] μ Q = Q (some (some (.int (mI μ 1302 2)))) μ := by
  obtain ⟨p1, p2, p3, p4, p5, p6, p7, p8, p9, p10, p11, p12, p13, p14, p15, p16, p17, p18, p19, p20, p21⟩ := hM
  rw [in_165]
  simp (disch := omega) only [e_165_0, e_165_1, e_165_4, e_165_5, e_165_6, p1, p2, p3, p4, p5, p6, p7, p8, p9, p10, p11, p12, p13, p14, p15, p16, p17, p18, p19, p20, p21, ge1, ule_t, true_or, or_true, nI_add, nI_mul, nI_sub, nI_clamp, nI_lt_t, nI_lt_f, nI_le_t, nI_le_f, nI_eq_t, nI_eq_f, vp_nI, tI, fI, not_true, not_false_iff, true_and, and_true, bIn0, bI_ok, bI_ok2, Classical.not_not, mS_uI, mS_uA, mS_uJ, mS_uR, mS_uX, mR_uI, mR_uA, mR_uJ, mR_uX, mX_uI, mX_uA, mX_uJ, mX_uR, mI_s, mI_n, mI_A, mI_An, mI_uJ, mI_uR, mI_uX, mJ_uI, mJ_uA, mJ_uR, mJ_uX, onR_s, kC_v, kC_n, kC_t]
theorem s_166 (hM : ShM μ) (h : 3 + 64 * m + k < 1782) : Ev (d + 1) 166 [.ref 1298, .int (nI m), .int (nI k)] μ Q = Q (some (some (.int (rW (mI μ 1302) m k)))) μ := by
  obtain ⟨p1, p2, p3, p4, p5, p6, p7, p8, p9, p10, p11, p12, p13, p14, p15, p16, p17, p18, p19, p20, p21⟩ := hM
  rw [in_166]
  simp (disch := omega) only [e_166_0, e_166_1, e_166_4, e_166_5, e_166_7, e_166_8, e_166_9, e_166_10, e_166_11, e_166_12, e_166_13, p1, p2, p3, p4, p5, p6, p7, p8, p9, p10, p11, p12, p13, p14, p15, p16, p17, p18, p19, p20, p21, ge1, ule_t, true_or, or_true, nI_add, nI_mul, nI_sub, nI_clamp, nI_lt_t, nI_lt_f, nI_le_t, nI_le_f, nI_eq_t, nI_eq_f, vp_nI, tI, fI, not_true, not_false_iff, true_and, and_true, bIn0, bI_ok, bI_ok2, Classical.not_not, mS_uI, mS_uA, mS_uJ, mS_uR, mS_uX, mR_uI, mR_uA, mR_uJ, mR_uX, mX_uI, mX_uA, mX_uJ, mX_uR, mI_s, mI_n, mI_A, mI_An, mI_uJ, mI_uR, mI_uX, mJ_uI, mJ_uA, mJ_uR, mJ_uX, onR_s, kC_v, kC_n, kC_t, rv]
theorem s_168 (hM : ShM μ) (h : m < 6) (hV : okV (rW (mI μ 1302)) (m + 1)) : Ev (d + 2) 168 [.ref 1298, .int (nI m)] μ Q = Q (some (some (.int (bI (vAct (rW (mI μ 1302)) m))))) μ := by
  have hM0 := hM
  obtain ⟨p1, p2, p3, p4, p5, p6, p7, p8, p9, p10, p11, p12, p13, p14, p15, p16, p17, p18, p19, p20, p21⟩ := hM
  rw [in_168]
  simp (disch := omega) only [e_168_0, e_168_1, e_168_2, e_168_3, e_168_6, e_168_7, e_168_10, e_168_11, e_168_14, e_168_15, p1, p2, p3, p4, p5, p6, p7, p8, p9, p10, p11, p12, p13, p14, p15, p16, p17, p18, p19, p20, p21, ge1, ule_t, true_or, or_true, nI_add, nI_mul, nI_sub, nI_clamp, nI_lt_t, nI_lt_f, nI_le_t, nI_le_f, nI_eq_t, nI_eq_f, vp_nI, tI, fI, not_true, not_false_iff, true_and, and_true, bIn0, bI_ok, bI_ok2, Classical.not_not, mS_uI, mS_uA, mS_uJ, mS_uR, mS_uX, mR_uI, mR_uA, mR_uJ, mR_uX, mX_uI, mX_uA, mX_uJ, mX_uR, mI_s, mI_n, mI_A, mI_An, mI_uJ, mI_uR, mI_uX, mJ_uI, mJ_uA, mJ_uR, mJ_uX, onR_s, kC_v, kC_n, kC_t, s_166 hM0]
  rcases (hV m (by omega)).1 with h1 | h1 <;> simp (disch := omega) [h1, bI, nI_eq_f]
theorem s_169 (hM : ShM μ) (h : m < 6) : Ev (d + 2) 169 [.ref 1298, .int (nI m)] μ Q = Q (some (some (.int (rW (mI μ 1302) m 1)))) μ := by
  have hM0 := hM
  obtain ⟨p1, p2, p3, p4, p5, p6, p7, p8, p9, p10, p11, p12, p13, p14, p15, p16, p17, p18, p19, p20, p21⟩ := hM
  rw [in_169]
  simp (disch := omega) only [e_169_0, e_169_1, e_169_2, e_169_3, e_169_6, p1, p2, p3, p4, p5, p6, p7, p8, p9, p10, p11, p12, p13, p14, p15, p16, p17, p18, p19, p20, p21, ge1, ule_t, true_or, or_true, nI_add, nI_mul, nI_sub, nI_clamp, nI_lt_t, nI_lt_f, nI_le_t, nI_le_f, nI_eq_t, nI_eq_f, vp_nI, tI, fI, not_true, not_false_iff, true_and, and_true, bIn0, bI_ok, bI_ok2, Classical.not_not, mS_uI, mS_uA, mS_uJ, mS_uR, mS_uX, mR_uI, mR_uA, mR_uJ, mR_uX, mX_uI, mX_uA, mX_uJ, mX_uR, mI_s, mI_n, mI_A, mI_An, mI_uJ, mI_uR, mI_uX, mJ_uI, mJ_uA, mJ_uR, mJ_uX, onR_s, kC_v, kC_n, kC_t, s_166 hM0]
theorem s_188 (hM : ShM μ) (h : m < 6) : Ev (d + 3) 188 [.ref 1298, .int (nI m), .int t] μ Q = Q (some (some (.int (bI (vHas (rW (mI μ 1302)) m t))))) μ := by
  have hM0 := hM
  obtain ⟨p1, p2, p3, p4, p5, p6, p7, p8, p9, p10, p11, p12, p13, p14, p15, p16, p17, p18, p19, p20, p21⟩ := hM
  rw [in_188]
  simp (disch := omega) only [e_188_0, e_188_1, e_188_2, e_188_3, e_188_5, e_188_8, e_188_11, e_188_12, e_188_13, e_188_14, e_188_17, e_188_20, e_188_21, e_188_24, e_188_25, p1, p2, p3, p4, p5, p6, p7, p8, p9, p10, p11, p12, p13, p14, p15, p16, p17, p18, p19, p20, p21, ge1, ule_t, true_or, or_true, nI_add, nI_mul, nI_sub, nI_clamp, nI_lt_t, nI_lt_f, nI_le_t, nI_le_f, nI_eq_t, nI_eq_f, vp_nI, tI, fI, not_true, not_false_iff, true_and, and_true, Classical.not_not, mS_uI, mS_uA, mS_uJ, mS_uR, mS_uX, mR_uI, mR_uA, mR_uJ, mR_uX, mX_uI, mX_uA, mX_uJ, mX_uR, mI_s, mI_n, mI_A, mI_An, mI_uJ, mI_uR, mI_uX, mJ_uI, mJ_uA, mJ_uR, mJ_uX, onR_s, kC_v, kC_n, kC_t, s_166 hM0, s_169 hM0]
  exact wp_in
theorem s_189 (hM : ShM μ) (h : m < 6) (h1 : nI 0 ≤ t) (h2 : t ≤ nI 40) : Ev (d + 2) 189 [.ref 1298, .int (nI m), .int t] μ Q = Q (some (some (.int (vRec (rW (mI μ 1302)) m t)))) μ := by
  have hM0 := hM
  obtain ⟨p1, p2, p3, p4, p5, p6, p7, p8, p9, p10, p11, p12, p13, p14, p15, p16, p17, p18, p19, p20, p21⟩ := hM
  obtain ⟨j, hj, rfl⟩ := t40 h1 h2
  rw [in_189]
  simp (disch := omega) only [e_189_0, e_189_1, e_189_2, e_189_4, e_189_5, e_189_6, e_189_9, p1, p2, p3, p4, p5, p6, p7, p8, p9, p10, p11, p12, p13, p14, p15, p16, p17, p18, p19, p20, p21, ge1, ule_t, true_or, or_true, nI_add, nI_mul, nI_sub, nI_clamp, nI_lt_t, nI_lt_f, nI_le_t, nI_le_f, nI_eq_t, nI_eq_f, vp_nI, tI, fI, not_true, not_false_iff, true_and, and_true, bIn0, bI_ok, bI_ok2, Classical.not_not, mS_uI, mS_uA, mS_uJ, mS_uR, mS_uX, mR_uI, mR_uA, mR_uJ, mR_uX, mX_uI, mX_uA, mX_uJ, mX_uR, mI_s, mI_n, mI_A, mI_An, mI_uJ, mI_uR, mI_uX, mJ_uI, mJ_uA, mJ_uR, mJ_uX, onR_s, kC_v, kC_n, kC_t, s_166 hM0, vRec]
end ModelR

/-! the State's own readers: votes, winners, donors -/
theorem okV_le {V : VW} {n k : Nat} (h : okV V n) (hk : k ≤ n) : okV V k := fun m hm => h m (by omega)
theorem fGroup_le (V : VW) (t root : Int32) : ∀ n, fGroup V t root n ≤ n
  | 0 => Nat.le_refl _
  | n + 1 => by
    have := fGroup_le V t root n
    rw [fGroup]
    split <;> omega
theorem fWinP_no {V : VW} {n : Nat} {t : Int32} {m : Nat} (h : ¬ (vAct V m ∧ vHas V m t)) : fWinP V n t (m + 1) = fWinP V n t m := by
  have e := fWinP.eq_2 V n t m
  simp only [if_neg h, Nat.not_lt_zero, if_false] at e
  exact e
theorem fWinP_yes {V : VW} {n : Nat} {t : Int32} {m : Nat} (h : vAct V m ∧ vHas V m t) : fWinP V n t (m + 1) = if (fWinP V n t m).2 < fGroup V t (vRec V m t) n then (some m, fGroup V t (vRec V m t) n) else fWinP V n t m := by
  have e := fWinP.eq_2 V n t m
  simp only [if_pos h] at e
  rw [e]
  split <;> rfl
theorem fWinP_le (V : VW) (n : Nat) (t : Int32) : ∀ k, (fWinP V n t k).2 ≤ n
  | 0 => Nat.zero_le _
  | k + 1 => by
    have h1 := fWinP_le V n t k
    by_cases h : vAct V k ∧ vHas V k t
    · rw [fWinP_yes h]
      split
      · exact fGroup_le V t _ n
      · exact h1
    · rw [fWinP_no h]
      exact h1
theorem fWinP_some {V : VW} {n : Nat} {t : Int32} : ∀ {k w}, (fWinP V n t k).1 = some w → w < k ∧ vAct V w ∧ vHas V w t
  | 0, w, h => by cases h
  | k + 1, w, h => by
    by_cases hc : vAct V k ∧ vHas V k t
    · rw [fWinP_yes hc] at h
      split at h
      · injection h with e
        subst e
        exact ⟨by omega, hc.1, hc.2⟩
      · obtain ⟨a, b⟩ := fWinP_some (k := k) h
        exact ⟨by omega, b⟩
    · rw [fWinP_no hc] at h
      obtain ⟨a, b⟩ := fWinP_some (k := k) h
      exact ⟨by omega, b⟩
theorem fWin_some {V : VW} {n q : Nat} {t : Int32} {w : Nat} (h : fWin V n q t = some w) : w < n ∧ vAct V w ∧ vHas V w t := by
  unfold fWin at h
  split at h
  · cases h
  · exact fWinP_some h
/-- the class's running winner -/
def cW (V : VW) (n q : Nat) (t : Int32) (m : Nat) : Option Nat × Nat := if (fWinP V n t m).2 < q then (none, q - 1) else fWinP V n t m
theorem cW_0 {V : VW} {n q : Nat} {t : Int32} (h : 1 ≤ q) : cW V n q t 0 = (none, q - 1) := if_pos (by show 0 < q; omega)
theorem cW_n {V : VW} {n q : Nat} {t : Int32} : (cW V n q t n).1 = fWin V n q t := by unfold cW fWin; split <;> rfl
theorem cW_no {V : VW} {n q : Nat} {t : Int32} {m : Nat} (h : ¬ (vAct V m ∧ vHas V m t)) : cW V n q t (m + 1) = cW V n q t m := by
  unfold cW
  rw [fWinP_no h]
theorem cW_yes {V : VW} {n q : Nat} {t : Int32} {m : Nat} (h : vAct V m ∧ vHas V m t) (hq : 1 ≤ q) : cW V n q t (m + 1) = if (cW V n q t m).2 < fGroup V t (vRec V m t) n then (some m, fGroup V t (vRec V m t) n) else cW V n q t m := by
  have e := fWinP_yes (n := n) h
  unfold cW
  rw [e]
  generalize fGroup V t (vRec V m t) n = g
  generalize fWinP V n t m = P
  by_cases h1 : P.2 < g
  · rw [if_pos h1]
    dsimp only
    by_cases h2 : P.2 < q
    · rw [if_pos h2]
      dsimp only
      by_cases h3 : g < q
      · rw [if_pos h3, if_neg (by omega)]
      · rw [if_neg h3, if_pos (by omega)]
    · rw [if_neg h2, if_neg (by omega), if_pos h1]
  · rw [if_neg h1]
    by_cases h2 : P.2 < q
    · rw [if_pos h2]
      dsimp only
      rw [if_neg (by omega)]
    · rw [if_neg h2, if_neg h1]
theorem cW_le {V : VW} {n q : Nat} {t : Int32} {m : Nat} : (cW V n q t m).2 ≤ n + q := by
  unfold cW
  split
  · dsimp only; omega
  · have := fWinP_le V n t m; omega
theorem fGivP_or {V : VW} {t root but : Int32} {k : Nat} : fGivP V t root but (k + 1) = some k ∨ fGivP V t root but (k + 1) = fGivP V t root but k := by
  rw [fGivP.eq_2]
  exact (Classical.em _).elim (fun c => Or.inl (if_pos c)) (fun c => Or.inr (if_neg c))
theorem fGivP_lt {V : VW} {t root but : Int32} : ∀ {k j}, fGivP V t root but k = some j → j < k
  | 0, j, h => by cases h
  | k + 1, j, h => by
    rcases fGivP_or (V := V) (t := t) (root := root) (but := but) (k := k) with e | e
    · rw [e] at h
      injection h with e
      omega
    · rw [e] at h
      have := fGivP_lt (k := k) h
      omega
section StateR
variable {d : Nat} {Q : Po} {μ : Mu} {s n m q : Nat} {t root but : Int32} {l5 l6 : Option Value}
theorem l_82 (hS : StS μ s) (hn : mI μ s 1 = nI n) (h6 : n ≤ 6) (hV : okV (cV μ s) n) : ∀ k m, m + k = n → EM 82 (d + 2) 5 [some (.ref s), some (.int t), some (.int root), some (.int (nI (fGroup (cV μ s) t root m))), some (.int (nI m))] [] μ (0, 0) Q = Q (some (some (.int (nI (fGroup (cV μ s) t root n))))) μ := by
  have hS0 := hS
  obtain ⟨q0, q1, q2, q3, q4, q5, q6, q7, q8, q9, q10, q11, q12, q13, q14, q15⟩ := hS
  intro k
  induction k with
  | zero =>
    intro m hm
    obtain rfl : m = n := by omega
    rw [e_82_5]
    simp (disch := omega) only [e_82_0, e_82_1, e_82_2, e_82_3, e_82_7, e_82_8, e_82_11, e_82_14, e_82_15, e_82_17, e_82_18, e_82_19, e_82_22, e_82_25, e_82_28, e_82_31, e_82_34, e_82_35, q1, q2, q3, q4, q5, q6, q7, q8, q9, q10, q11, q12, q13, q14, q15, hn, ge1, ule_t, true_or, or_true, nI_add, nI_mul, nI_sub, nI_clamp, nI_lt_t, nI_lt_f, nI_le_t, nI_le_f, nI_eq_t, nI_eq_f, vp_nI, tI, fI, not_true, not_false_iff, true_and, and_true, Classical.not_not, mS_uI, mS_uA, mS_uJ, mS_uR, mS_uX, mR_uI, mR_uA, mR_uJ, mR_uX, mX_uI, mX_uA, mX_uJ, mX_uR, mI_s, mI_n, mI_A, mI_An, mI_uJ, mI_uR, mI_uX, mJ_uI, mJ_uA, mJ_uR, mJ_uX, onR_s, kC_v, kC_n, kC_t]
  | succ k ih =>
    intro m hm
    rw [e_82_5]
    have h81 := fun (Q : Po) => s_81 (d := d) (Q := Q) (t := t) (root := root) hS0 (show m < 6 by omega) (okV_le hV (show m + 1 ≤ n by omega))
    by_cases hp : vAct (cV μ s) m ∧ vHas (cV μ s) m t ∧ vRec (cV μ s) m t = root
    · have hg : fGroup (cV μ s) t root (m + 1) = fGroup (cV μ s) t root m + 1 := by rw [fGroup, if_pos hp]
      rw [bI_t hp] at h81
      simp (disch := omega) only [e_82_0, e_82_1, e_82_2, e_82_3, e_82_7, e_82_8, e_82_11, e_82_14, e_82_15, e_82_17, e_82_18, e_82_19, e_82_22, e_82_25, e_82_28, e_82_31, e_82_34, e_82_35, q1, q2, q3, q4, q5, q6, q7, q8, q9, q10, q11, q12, q13, q14, q15, hn, h81, ge1, ule_t, true_or, or_true, nI_add, nI_mul, nI_sub, nI_clamp, nI_lt_t, nI_lt_f, nI_le_t, nI_le_f, nI_eq_t, nI_eq_f, vp_nI, tI, fI, not_true, not_false_iff, true_and, and_true, Classical.not_not, mS_uI, mS_uA, mS_uJ, mS_uR, mS_uX, mR_uI, mR_uA, mR_uJ, mR_uX, mX_uI, mX_uA, mX_uJ, mX_uR, mI_s, mI_n, mI_A, mI_An, mI_uJ, mI_uR, mI_uX, mJ_uI, mJ_uA, mJ_uR, mJ_uX, onR_s, kC_v, kC_n, kC_t]
      rw [← hg]
      exact ih (m + 1) (by omega)
    · have hg : fGroup (cV μ s) t root (m + 1) = fGroup (cV μ s) t root m := by rw [fGroup, if_neg hp]; rfl
      rw [bI_f hp] at h81
      simp (disch := omega) only [e_82_0, e_82_1, e_82_2, e_82_3, e_82_7, e_82_8, e_82_11, e_82_14, e_82_15, e_82_17, e_82_18, e_82_19, e_82_22, e_82_25, e_82_28, e_82_31, e_82_34, e_82_35, q1, q2, q3, q4, q5, q6, q7, q8, q9, q10, q11, q12, q13, q14, q15, hn, h81, ge1, ule_t, true_or, or_true, nI_add, nI_mul, nI_sub, nI_clamp, nI_lt_t, nI_lt_f, nI_le_t, nI_le_f, nI_eq_t, nI_eq_f, vp_nI, tI, fI, not_true, not_false_iff, true_and, and_true, Classical.not_not, mS_uI, mS_uA, mS_uJ, mS_uR, mS_uX, mR_uI, mR_uA, mR_uJ, mR_uX, mX_uI, mX_uA, mX_uJ, mX_uR, mI_s, mI_n, mI_A, mI_An, mI_uJ, mI_uR, mI_uX, mJ_uI, mJ_uA, mJ_uR, mJ_uX, onR_s, kC_v, kC_n, kC_t]
      rw [← hg]
      exact ih (m + 1) (by omega)
theorem s_82 (hS : StS μ s) (hn : mI μ s 1 = nI n) (h6 : n ≤ 6) (hV : okV (cV μ s) n) : Ev (d + 3) 82 [.ref s, .int t, .int root] μ Q = Q (some (some (.int (nI (fGroup (cV μ s) t root n))))) μ := by
  rw [in_82]
  simp (disch := omega) only [e_82_0, e_82_1, e_82_2, e_82_3, e_82_7, e_82_8, e_82_11, e_82_14, e_82_15, e_82_17, e_82_18, e_82_19, e_82_22, e_82_25, e_82_28, e_82_31, e_82_34, e_82_35, ge1, ule_t, true_or, or_true, nI_add, nI_mul, nI_sub, nI_clamp, nI_lt_t, nI_lt_f, nI_le_t, nI_le_f, nI_eq_t, nI_eq_f, vp_nI, tI, fI, not_true, not_false_iff, true_and, and_true, Classical.not_not]
  exact l_82 hS hn h6 hV n 0 (by omega)
theorem l_83 (hS : StS μ s) (hn : mI μ s 1 = nI n) (h6 : n ≤ 6) (hV : okV (cV μ s) n) (hq : 1 ≤ q) (hq6 : q ≤ 6) : ∀ k m l5 l6, m + k = n → EM 83 (d + 3) 14 [some (.ref s), some (.int t), some (.int (oN (cW (cV μ s) n q t m).1)), some (.int (nI (cW (cV μ s) n q t m).2)), some (.int (nI m)), l5, l6] [] μ (0, 0) Q = Q (some (some (.int (oN (fWin (cV μ s) n q t))))) μ := by
  have hS0 := hS
  obtain ⟨q0, q1, q2, q3, q4, q5, q6, q7, q8, q9, q10, q11, q12, q13, q14, q15⟩ := hS
  intro k
  induction k with
  | zero =>
    intro m l5 l6 hm
    obtain rfl : m = n := by omega
    rw [e_83_14]
    simp (disch := omega) only [e_83_0, e_83_1, e_83_2, e_83_3, e_83_6, e_83_7, e_83_8, e_83_9, e_83_10, e_83_11, e_83_12, e_83_16, e_83_17, e_83_20, e_83_23, e_83_24, e_83_27, e_83_29, e_83_30, e_83_32, e_83_34, e_83_37, e_83_40, e_83_42, e_83_43, e_83_46, e_83_49, e_83_50, e_83_51, e_83_53, e_83_56, e_83_57, e_83_58, e_83_61, e_83_63, e_83_65, e_83_66, e_83_69, e_83_71, e_83_72, e_83_74, e_83_75, e_83_78, e_83_81, e_83_82, q1, q2, q3, q4, q5, q6, q7, q8, q9, q10, q11, q12, q13, q14, q15, hn, ge1, ule_t, true_or, or_true, nI_add, nI_mul, nI_sub, nI_clamp, nI_lt_t, nI_lt_f, nI_le_t, nI_le_f, nI_eq_t, nI_eq_f, vp_nI, tI, fI, not_true, not_false_iff, true_and, and_true, Classical.not_not, mS_uI, mS_uA, mS_uJ, mS_uR, mS_uX, mR_uI, mR_uA, mR_uJ, mR_uX, mX_uI, mX_uA, mX_uJ, mX_uR, mI_s, mI_n, mI_A, mI_An, mI_uJ, mI_uR, mI_uX, mJ_uI, mJ_uA, mJ_uR, mJ_uX, onR_s, kC_v, kC_n, kC_t, cW_n]
  | succ k ih =>
    intro m l5 l6 hm
    rw [e_83_14]
    have hc := cW_le (V := cV μ s) (n := n) (q := q) (t := t) (m := m)
    have hg := fGroup_le (cV μ s) t (vRec (cV μ s) m t) n
    obtain ⟨v1, v2, v3, v4⟩ := hV m (by omega)
    have h63 := fun (Q : Po) => s_63 (d := d + 2) (Q := Q) (x := t) (q11 m (by omega))
    rw [cv6, cv1] at h63
    have h82 := fun (Q : Po) (root : Int32) => s_82 (d := d) (Q := Q) (t := t) (root := root) hS0 hn h6 hV
    by_cases ha : cV μ s m 2 = nI 0
    · have hno : ¬ (vAct (cV μ s) m ∧ vHas (cV μ s) m t) := fun z => z.1 ha
      simp (disch := omega) only [e_83_0, e_83_1, e_83_2, e_83_3, e_83_6, e_83_7, e_83_8, e_83_9, e_83_10, e_83_11, e_83_12, e_83_16, e_83_17, e_83_20, e_83_23, e_83_24, e_83_27, e_83_29, e_83_30, e_83_32, e_83_34, e_83_37, e_83_40, e_83_42, e_83_43, e_83_46, e_83_49, e_83_50, e_83_51, e_83_53, e_83_56, e_83_57, e_83_58, e_83_61, e_83_63, e_83_65, e_83_66, e_83_69, e_83_71, e_83_72, e_83_74, e_83_75, e_83_78, e_83_81, e_83_82, q1, q2, q3, q4, q5, q6, q7, q8, q9, q10, q11, q12, q13, q14, q15, hn, cv0, cv1, cv2, cv3, cv4, cv5, cv6, cvrec, ha, ge1, ule_t, true_or, or_true, nI_add, nI_mul, nI_sub, nI_clamp, nI_lt_t, nI_lt_f, nI_le_t, nI_le_f, nI_eq_t, nI_eq_f, vp_nI, tI, fI, not_true, not_false_iff, true_and, and_true, Classical.not_not, mS_uI, mS_uA, mS_uJ, mS_uR, mS_uX, mR_uI, mR_uA, mR_uJ, mR_uX, mX_uI, mX_uA, mX_uJ, mX_uR, mI_s, mI_n, mI_A, mI_An, mI_uJ, mI_uR, mI_uX, mJ_uI, mJ_uA, mJ_uR, mJ_uX, onR_s, kC_v, kC_n, kC_t]
      rw [← cW_no hno]
      exact ih (m + 1) _ _ (by omega)
    · by_cases hh : vHas (cV μ s) m t
      · have hv : vp_in t 41 = True := vp41 (Int32.le_trans v2 hh.1) (Int32.le_trans hh.2 v4)
        rw [bI_t hh] at h63
        have hy := cW_yes (n := n) (q := q) ⟨ha, hh⟩ hq
        by_cases hlt : (cW (cV μ s) n q t m).2 < fGroup (cV μ s) t (vRec (cV μ s) m t) n
        · rw [if_pos hlt] at hy
          simp (disch := omega) only [e_83_0, e_83_1, e_83_2, e_83_3, e_83_6, e_83_7, e_83_8, e_83_9, e_83_10, e_83_11, e_83_12, e_83_16, e_83_17, e_83_20, e_83_23, e_83_24, e_83_27, e_83_29, e_83_30, e_83_32, e_83_34, e_83_37, e_83_40, e_83_42, e_83_43, e_83_46, e_83_49, e_83_50, e_83_51, e_83_53, e_83_56, e_83_57, e_83_58, e_83_61, e_83_63, e_83_65, e_83_66, e_83_69, e_83_71, e_83_72, e_83_74, e_83_75, e_83_78, e_83_81, e_83_82, q1, q2, q3, q4, q5, q6, q7, q8, q9, q10, q11, q12, q13, q14, q15, hn, cv0, cv1, cv2, cv3, cv4, cv5, cv6, cvrec, ha, hv, h63, h82, ge1, ule_t, true_or, or_true, nI_add, nI_mul, nI_sub, nI_clamp, nI_lt_t, nI_lt_f, nI_le_t, nI_le_f, nI_eq_t, nI_eq_f, vp_nI, tI, fI, not_true, not_false_iff, true_and, and_true, Classical.not_not, mS_uI, mS_uA, mS_uJ, mS_uR, mS_uX, mR_uI, mR_uA, mR_uJ, mR_uX, mX_uI, mX_uA, mX_uJ, mX_uR, mI_s, mI_n, mI_A, mI_An, mI_uJ, mI_uR, mI_uX, mJ_uI, mJ_uA, mJ_uR, mJ_uX, onR_s, kC_v, kC_n, kC_t]
          have := ih (m + 1) (some (.ref (s + 5 + 3 * m))) (some (.int (nI (fGroup (cV μ s) t (vRec (cV μ s) m t) n)))) (by omega)
          rw [hy] at this
          exact this
        · rw [if_neg hlt] at hy
          simp (disch := omega) only [e_83_0, e_83_1, e_83_2, e_83_3, e_83_6, e_83_7, e_83_8, e_83_9, e_83_10, e_83_11, e_83_12, e_83_16, e_83_17, e_83_20, e_83_23, e_83_24, e_83_27, e_83_29, e_83_30, e_83_32, e_83_34, e_83_37, e_83_40, e_83_42, e_83_43, e_83_46, e_83_49, e_83_50, e_83_51, e_83_53, e_83_56, e_83_57, e_83_58, e_83_61, e_83_63, e_83_65, e_83_66, e_83_69, e_83_71, e_83_72, e_83_74, e_83_75, e_83_78, e_83_81, e_83_82, q1, q2, q3, q4, q5, q6, q7, q8, q9, q10, q11, q12, q13, q14, q15, hn, cv0, cv1, cv2, cv3, cv4, cv5, cv6, cvrec, ha, hv, h63, h82, ge1, ule_t, true_or, or_true, nI_add, nI_mul, nI_sub, nI_clamp, nI_lt_t, nI_lt_f, nI_le_t, nI_le_f, nI_eq_t, nI_eq_f, vp_nI, tI, fI, not_true, not_false_iff, true_and, and_true, Classical.not_not, mS_uI, mS_uA, mS_uJ, mS_uR, mS_uX, mR_uI, mR_uA, mR_uJ, mR_uX, mX_uI, mX_uA, mX_uJ, mX_uR, mI_s, mI_n, mI_A, mI_An, mI_uJ, mI_uR, mI_uX, mJ_uI, mJ_uA, mJ_uR, mJ_uX, onR_s, kC_v, kC_n, kC_t]
          rw [← hy]
          exact ih (m + 1) _ _ (by omega)
      · have hno : ¬ (vAct (cV μ s) m ∧ vHas (cV μ s) m t) := fun z => hh z.2
        rw [bI_f hh] at h63
        simp (disch := omega) only [e_83_0, e_83_1, e_83_2, e_83_3, e_83_6, e_83_7, e_83_8, e_83_9, e_83_10, e_83_11, e_83_12, e_83_16, e_83_17, e_83_20, e_83_23, e_83_24, e_83_27, e_83_29, e_83_30, e_83_32, e_83_34, e_83_37, e_83_40, e_83_42, e_83_43, e_83_46, e_83_49, e_83_50, e_83_51, e_83_53, e_83_56, e_83_57, e_83_58, e_83_61, e_83_63, e_83_65, e_83_66, e_83_69, e_83_71, e_83_72, e_83_74, e_83_75, e_83_78, e_83_81, e_83_82, q1, q2, q3, q4, q5, q6, q7, q8, q9, q10, q11, q12, q13, q14, q15, hn, cv0, cv1, cv2, cv3, cv4, cv5, cv6, cvrec, ha, h63, ge1, ule_t, true_or, or_true, nI_add, nI_mul, nI_sub, nI_clamp, nI_lt_t, nI_lt_f, nI_le_t, nI_le_f, nI_eq_t, nI_eq_f, vp_nI, tI, fI, not_true, not_false_iff, true_and, and_true, Classical.not_not, mS_uI, mS_uA, mS_uJ, mS_uR, mS_uX, mR_uI, mR_uA, mR_uJ, mR_uX, mX_uI, mX_uA, mX_uJ, mX_uR, mI_s, mI_n, mI_A, mI_An, mI_uJ, mI_uR, mI_uX, mJ_uI, mJ_uA, mJ_uR, mJ_uX, onR_s, kC_v, kC_n, kC_t]
        rw [← cW_no hno]
        exact ih (m + 1) _ _ (by omega)
theorem s_83 (hS : StS μ s) (hn : mI μ s 1 = nI n) (h6 : n ≤ 6) (hV : okV (cV μ s) n) (hq9 : mI μ (s + 2) 1 = nI q) (hq : 1 ≤ q) (hq6 : q ≤ 6) : Ev (d + 4) 83 [.ref s, .int t] μ Q = Q (some (some (.int (oN (fWin (cV μ s) n q t))))) μ := by
  have hS0 := hS
  obtain ⟨q0, q1, q2, q3, q4, q5, q6, q7, q8, q9, q10, q11, q12, q13, q14, q15⟩ := hS
  rw [in_83]
  simp (disch := omega) only [e_83_0, e_83_1, e_83_2, e_83_3, e_83_6, e_83_7, e_83_8, e_83_9, e_83_10, e_83_11, e_83_12, e_83_16, e_83_17, e_83_20, e_83_23, e_83_24, e_83_27, e_83_29, e_83_30, e_83_32, e_83_34, e_83_37, e_83_40, e_83_42, e_83_43, e_83_46, e_83_49, e_83_50, e_83_51, e_83_53, e_83_56, e_83_57, e_83_58, e_83_61, e_83_63, e_83_65, e_83_66, e_83_69, e_83_71, e_83_72, e_83_74, e_83_75, e_83_78, e_83_81, e_83_82, q1, q2, q3, q4, q5, q6, q7, q8, q9, q10, q11, q12, q13, q14, q15, hq9, ge1, ule_t, true_or, or_true, nI_add, nI_mul, nI_sub, nI_clamp, nI_lt_t, nI_lt_f, nI_le_t, nI_le_f, nI_eq_t, nI_eq_f, vp_nI, tI, fI, not_true, not_false_iff, true_and, and_true, Classical.not_not, mS_uI, mS_uA, mS_uJ, mS_uR, mS_uX, mR_uI, mR_uA, mR_uJ, mR_uX, mX_uI, mX_uA, mX_uJ, mX_uR, mI_s, mI_n, mI_A, mI_An, mI_uJ, mI_uR, mI_uX, mJ_uI, mJ_uA, mJ_uR, mJ_uX, onR_s, kC_v, kC_n, kC_t]
  have := l_83 (d := d) (Q := Q) (t := t) hS0 hn h6 hV hq hq6 n 0 none none (by omega)
  rw [cW_0 hq] at this
  exact this
end StateR

/-! State: outvoted, donors, extremes, names -/
section StateR2
variable {d : Nat} {Q : Po} {μ : Mu} {s n m q : Nat} {t root but x g : Int32} {l5 l6 : Option Value}
theorem s_84 (hS : StS μ s) (hn : mI μ s 1 = nI n) (h6 : n ≤ 6) (hV : okV (cV μ s) n) (hq9 : mI μ (s + 2) 1 = nI q) (hq : 1 ≤ q) (hq6 : q ≤ 6) (hm : m < n) : Ev (d + 5) 84 [.ref s, .ref (s + 5 + 3 * m)] μ Q = Q (some (some (.int (bI (fOff (cV μ s) n q m = true))))) μ := by
  have hS0 := hS
  obtain ⟨q0, q1, q2, q3, q4, q5, q6, q7, q8, q9, q10, q11, q12, q13, q14, q15⟩ := hS
  obtain ⟨v1, v2, v3, v4⟩ := hV m hm
  have hv : vp_in (cV μ s m 1) 41 = True := vp41 (Int32.le_trans v2 v3) v4
  have h83 := fun (Q : Po) (t : Int32) => s_83 (d := d) (Q := Q) (t := t) hS0 hn h6 hV hq9 hq hq6
  rw [in_84]
  cases hw : fWin (cV μ s) n q (cV μ s m 1) with
  | none =>
    have hf : fOff (cV μ s) n q m = false := by unfold fOff; rw [hw]
    simp (disch := omega) only [e_84_0, e_84_1, e_84_4, e_84_5, e_84_6, e_84_7, e_84_10, e_84_11, e_84_12, e_84_15, e_84_18, e_84_19, e_84_20, e_84_23, e_84_24, e_84_27, e_84_28, e_84_29, e_84_30, e_84_33, e_84_34, e_84_35, e_84_38, e_84_39, e_84_40, e_84_43, e_84_44, e_84_47, e_84_48, q1, q2, q3, q4, q5, q6, q7, q8, q9, q10, q11, q12, q13, q14, q15, cv0, cv1, cv2, cv3, cv4, cv5, cv6, cvrec, h83, hw, hf, oN, ge1, ule_t, true_or, or_true, nI_add, nI_mul, nI_sub, nI_clamp, nI_lt_t, nI_lt_f, nI_le_t, nI_le_f, nI_eq_t, nI_eq_f, vp_nI, tI, fI, not_true, not_false_iff, true_and, and_true, Classical.not_not, mS_uI, mS_uA, mS_uJ, mS_uR, mS_uX, mR_uI, mR_uA, mR_uJ, mR_uX, mX_uI, mX_uA, mX_uJ, mX_uR, mI_s, mI_n, mI_A, mI_An, mI_uJ, mI_uR, mI_uX, mJ_uI, mJ_uA, mJ_uR, mJ_uX, onR_s, kC_v, kC_n, kC_t]
    by_cases ha : cV μ s m 2 = nI 0 <;> simp [ha, bI]
  | some w =>
    obtain ⟨w1, w2, w3⟩ := fWin_some hw
    have hf : fOff (cV μ s) n q m = (decide (vAct (cV μ s) m) && !decide (vRec (cV μ s) m (cV μ s m 1) = vRec (cV μ s) w (cV μ s m 1))) := by unfold fOff; rw [hw]
    have hm1 : (nI w = -1) = False := nI_m1 (by omega)
    simp (disch := omega) only [e_84_0, e_84_1, e_84_4, e_84_5, e_84_6, e_84_7, e_84_10, e_84_11, e_84_12, e_84_15, e_84_18, e_84_19, e_84_20, e_84_23, e_84_24, e_84_27, e_84_28, e_84_29, e_84_30, e_84_33, e_84_34, e_84_35, e_84_38, e_84_39, e_84_40, e_84_43, e_84_44, e_84_47, e_84_48, q1, q2, q3, q4, q5, q6, q7, q8, q9, q10, q11, q12, q13, q14, q15, cv0, cv1, cv2, cv3, cv4, cv5, cv6, cvrec, h83, hw, hf, hv, oN, hm1, ge1, ule_t, true_or, or_true, nI_add, nI_mul, nI_sub, nI_clamp, nI_lt_t, nI_lt_f, nI_le_t, nI_le_f, nI_eq_t, nI_eq_f, vp_nI, tI, fI, not_true, not_false_iff, true_and, and_true, Classical.not_not, mS_uI, mS_uA, mS_uJ, mS_uR, mS_uX, mR_uI, mR_uA, mR_uJ, mR_uX, mX_uI, mX_uA, mX_uJ, mX_uR, mI_s, mI_n, mI_A, mI_An, mI_uJ, mI_uR, mI_uX, mJ_uI, mJ_uA, mJ_uR, mJ_uX, onR_s, kC_v, kC_n, kC_t]
    by_cases ha : cV μ s m 2 = nI 0 <;> by_cases hr : vRec (cV μ s) m (cV μ s m 1) = vRec (cV μ s) w (cV μ s m 1) <;> simp [ha, hr, bI]
theorem l_85 (hS : StS μ s) (hn : mI μ s 1 = nI n) (h6 : n ≤ 6) (hV : okV (cV μ s) n) : ∀ k m, m + k = n → EM 85 (d + 4) 32 [some (.ref s), some (.int t), some (.int but), l5, some (.int root), some (.int (oN (fGivP (cV μ s) t root but m))), some (.int (nI m))] [] μ (0, 0) Q = Q (some (some (.int (oN (fGivP (cV μ s) t root but n))))) μ := by
  have hS0 := hS
  obtain ⟨q0, q1, q2, q3, q4, q5, q6, q7, q8, q9, q10, q11, q12, q13, q14, q15⟩ := hS
  intro k
  induction k with
  | zero =>
    intro m hm
    obtain rfl : m = n := by omega
    rw [e_85_32]
    simp (disch := omega) only [e_85_0, e_85_1, e_85_2, e_85_5, e_85_6, e_85_7, e_85_8, e_85_11, e_85_12, e_85_13, e_85_14, e_85_17, e_85_18, e_85_19, e_85_22, e_85_23, e_85_24, e_85_26, e_85_27, e_85_29, e_85_30, e_85_34, e_85_35, e_85_38, e_85_41, e_85_43, e_85_44, e_85_47, e_85_48, e_85_51, e_85_53, e_85_54, e_85_57, e_85_58, e_85_61, e_85_62, e_85_64, e_85_65, e_85_67, e_85_70, e_85_73, e_85_75, e_85_76, e_85_79, e_85_80, e_85_83, e_85_85, e_85_86, e_85_89, e_85_90, e_85_93, e_85_95, e_85_96, e_85_99, e_85_102, e_85_104, e_85_106, e_85_109, e_85_112, e_85_114, q1, q2, q3, q4, q5, q6, q7, q8, q9, q10, q11, q12, q13, q14, q15, hn, ge1, ule_t, true_or, or_true, nI_add, nI_mul, nI_sub, nI_clamp, nI_lt_t, nI_lt_f, nI_le_t, nI_le_f, nI_eq_t, nI_eq_f, vp_nI, tI, fI, not_true, not_false_iff, true_and, and_true, Classical.not_not, mS_uI, mS_uA, mS_uJ, mS_uR, mS_uX, mR_uI, mR_uA, mR_uJ, mR_uX, mX_uI, mX_uA, mX_uJ, mX_uR, mI_s, mI_n, mI_A, mI_An, mI_uJ, mI_uR, mI_uX, mJ_uI, mJ_uA, mJ_uR, mJ_uX, onR_s, kC_v, kC_n, kC_t]
  | succ k ih =>
    intro m hm
    rw [e_85_32]
    have h81 := fun (Q : Po) (t root : Int32) => s_81 (d := d + 2) (Q := Q) (t := t) (root := root) hS0 (show m < 6 by omega) (okV_le hV (show m + 1 ≤ n by omega))
    obtain ⟨v1, v2, v3, v4⟩ := hV m (by omega)
    have e1 := fGivP.eq_2 (cV μ s) t root but m
    by_cases hb : nI m = but
    · have e : fGivP (cV μ s) t root but (m + 1) = fGivP (cV μ s) t root but m := by rw [e1, if_neg (fun z => z.1 hb)]
      simp (disch := omega) only [e_85_0, e_85_1, e_85_2, e_85_5, e_85_6, e_85_7, e_85_8, e_85_11, e_85_12, e_85_13, e_85_14, e_85_17, e_85_18, e_85_19, e_85_22, e_85_23, e_85_24, e_85_26, e_85_27, e_85_29, e_85_30, e_85_34, e_85_35, e_85_38, e_85_41, e_85_43, e_85_44, e_85_47, e_85_48, e_85_51, e_85_53, e_85_54, e_85_57, e_85_58, e_85_61, e_85_62, e_85_64, e_85_65, e_85_67, e_85_70, e_85_73, e_85_75, e_85_76, e_85_79, e_85_80, e_85_83, e_85_85, e_85_86, e_85_89, e_85_90, e_85_93, e_85_95, e_85_96, e_85_99, e_85_102, e_85_104, e_85_106, e_85_109, e_85_112, e_85_114, q1, q2, q3, q4, q5, q6, q7, q8, q9, q10, q11, q12, q13, q14, q15, hn, eq_true hb, ge1, ule_t, true_or, or_true, nI_add, nI_mul, nI_sub, nI_clamp, nI_lt_t, nI_lt_f, nI_le_t, nI_le_f, nI_eq_t, nI_eq_f, vp_nI, tI, fI, not_true, not_false_iff, true_and, and_true, Classical.not_not, mS_uI, mS_uA, mS_uJ, mS_uR, mS_uX, mR_uI, mR_uA, mR_uJ, mR_uX, mX_uI, mX_uA, mX_uJ, mX_uR, mI_s, mI_n, mI_A, mI_An, mI_uJ, mI_uR, mI_uX, mJ_uI, mJ_uA, mJ_uR, mJ_uX, onR_s, kC_v, kC_n, kC_t]
      rw [← e]
      exact ih (m + 1) (by omega)
    · by_cases hx : cV μ s m 1 = t
      · by_cases hp : vAct (cV μ s) m ∧ vHas (cV μ s) m t ∧ vRec (cV μ s) m t = root
        · have hp9 := hp
          cases hd : fGivP (cV μ s) t root but m with
          | none =>
            have e : fGivP (cV μ s) t root but (m + 1) = some m := by rw [e1, if_pos ⟨hb, hp.1, hx, hp.2.2, by rw [hd]⟩]
            have h81' := fun (Q : Po) => h81 Q t root
            simp only [bI_t hp] at h81'
            simp (disch := omega) only [e_85_0, e_85_1, e_85_2, e_85_5, e_85_6, e_85_7, e_85_8, e_85_11, e_85_12, e_85_13, e_85_14, e_85_17, e_85_18, e_85_19, e_85_22, e_85_23, e_85_24, e_85_26, e_85_27, e_85_29, e_85_30, e_85_34, e_85_35, e_85_38, e_85_41, e_85_43, e_85_44, e_85_47, e_85_48, e_85_51, e_85_53, e_85_54, e_85_57, e_85_58, e_85_61, e_85_62, e_85_64, e_85_65, e_85_67, e_85_70, e_85_73, e_85_75, e_85_76, e_85_79, e_85_80, e_85_83, e_85_85, e_85_86, e_85_89, e_85_90, e_85_93, e_85_95, e_85_96, e_85_99, e_85_102, e_85_104, e_85_106, e_85_109, e_85_112, e_85_114, q1, q2, q3, q4, q5, q6, q7, q8, q9, q10, q11, q12, q13, q14, q15, hn, eq_false hb, cv0, cv1, cv2, cv3, cv4, cv5, cv6, cvrec, hx, h81', oN, ge1, ule_t, true_or, or_true, nI_add, nI_mul, nI_sub, nI_clamp, nI_lt_t, nI_lt_f, nI_le_t, nI_le_f, nI_eq_t, nI_eq_f, vp_nI, tI, fI, not_true, not_false_iff, true_and, and_true, Classical.not_not, mS_uI, mS_uA, mS_uJ, mS_uR, mS_uX, mR_uI, mR_uA, mR_uJ, mR_uX, mX_uI, mX_uA, mX_uJ, mX_uR, mI_s, mI_n, mI_A, mI_An, mI_uJ, mI_uR, mI_uX, mJ_uI, mJ_uA, mJ_uR, mJ_uX, onR_s, kC_v, kC_n, kC_t]
            have := ih (m + 1) (by omega)
            rw [e] at this
            exact this
          | some j =>
            have hj := fGivP_lt hd
            have hm1 : (nI j = -1) = False := nI_m1 (by omega)
            have h81' := fun (Q : Po) => h81 Q t root
            simp only [bI_t hp] at h81'
            by_cases hlt : cV μ s m 3 < cV μ s j 3
            · have e : fGivP (cV μ s) t root but (m + 1) = some m := by rw [e1, if_pos ⟨hb, hp.1, hx, hp.2.2, by rw [hd]; exact decide_eq_true hlt⟩]
              simp (disch := omega) only [e_85_0, e_85_1, e_85_2, e_85_5, e_85_6, e_85_7, e_85_8, e_85_11, e_85_12, e_85_13, e_85_14, e_85_17, e_85_18, e_85_19, e_85_22, e_85_23, e_85_24, e_85_26, e_85_27, e_85_29, e_85_30, e_85_34, e_85_35, e_85_38, e_85_41, e_85_43, e_85_44, e_85_47, e_85_48, e_85_51, e_85_53, e_85_54, e_85_57, e_85_58, e_85_61, e_85_62, e_85_64, e_85_65, e_85_67, e_85_70, e_85_73, e_85_75, e_85_76, e_85_79, e_85_80, e_85_83, e_85_85, e_85_86, e_85_89, e_85_90, e_85_93, e_85_95, e_85_96, e_85_99, e_85_102, e_85_104, e_85_106, e_85_109, e_85_112, e_85_114, q1, q2, q3, q4, q5, q6, q7, q8, q9, q10, q11, q12, q13, q14, q15, hn, eq_false hb, cv0, cv1, cv2, cv3, cv4, cv5, cv6, cvrec, hx, h81', oN, hm1, Int32.not_le.mpr hlt, ge1, ule_t, true_or, or_true, nI_add, nI_mul, nI_sub, nI_clamp, nI_lt_t, nI_lt_f, nI_le_t, nI_le_f, nI_eq_t, nI_eq_f, vp_nI, tI, fI, not_true, not_false_iff, true_and, and_true, Classical.not_not, mS_uI, mS_uA, mS_uJ, mS_uR, mS_uX, mR_uI, mR_uA, mR_uJ, mR_uX, mX_uI, mX_uA, mX_uJ, mX_uR, mI_s, mI_n, mI_A, mI_An, mI_uJ, mI_uR, mI_uX, mJ_uI, mJ_uA, mJ_uR, mJ_uX, onR_s, kC_v, kC_n, kC_t]
              have := ih (m + 1) (by omega)
              rw [e] at this
              exact this
            · have e : fGivP (cV μ s) t root but (m + 1) = some j := by rw [e1, if_neg (fun z => by have := z.2.2.2.2; rw [hd] at this; exact hlt (of_decide_eq_true this)), hd]
              have hle := Int32.not_lt.mp hlt
              simp (disch := omega) only [e_85_0, e_85_1, e_85_2, e_85_5, e_85_6, e_85_7, e_85_8, e_85_11, e_85_12, e_85_13, e_85_14, e_85_17, e_85_18, e_85_19, e_85_22, e_85_23, e_85_24, e_85_26, e_85_27, e_85_29, e_85_30, e_85_34, e_85_35, e_85_38, e_85_41, e_85_43, e_85_44, e_85_47, e_85_48, e_85_51, e_85_53, e_85_54, e_85_57, e_85_58, e_85_61, e_85_62, e_85_64, e_85_65, e_85_67, e_85_70, e_85_73, e_85_75, e_85_76, e_85_79, e_85_80, e_85_83, e_85_85, e_85_86, e_85_89, e_85_90, e_85_93, e_85_95, e_85_96, e_85_99, e_85_102, e_85_104, e_85_106, e_85_109, e_85_112, e_85_114, q1, q2, q3, q4, q5, q6, q7, q8, q9, q10, q11, q12, q13, q14, q15, hn, eq_false hb, cv0, cv1, cv2, cv3, cv4, cv5, cv6, cvrec, hx, h81', oN, hm1, hle, ge1, ule_t, true_or, or_true, nI_add, nI_mul, nI_sub, nI_clamp, nI_lt_t, nI_lt_f, nI_le_t, nI_le_f, nI_eq_t, nI_eq_f, vp_nI, tI, fI, not_true, not_false_iff, true_and, and_true, Classical.not_not, mS_uI, mS_uA, mS_uJ, mS_uR, mS_uX, mR_uI, mR_uA, mR_uJ, mR_uX, mX_uI, mX_uA, mX_uJ, mX_uR, mI_s, mI_n, mI_A, mI_An, mI_uJ, mI_uR, mI_uX, mJ_uI, mJ_uA, mJ_uR, mJ_uX, onR_s, kC_v, kC_n, kC_t]
              have := ih (m + 1) (by omega)
              rw [e] at this
              exact this
        · have e : fGivP (cV μ s) t root but (m + 1) = fGivP (cV μ s) t root but m := by
            rw [e1, if_neg (fun z => hp ⟨z.2.1, ⟨by rw [← hx]; exact v3, by rw [← hx]; exact Int32.le_refl _⟩, z.2.2.2.1⟩)]
          have h81' := fun (Q : Po) => h81 Q t root
          simp only [bI_f hp] at h81'
          simp (disch := omega) only [e_85_0, e_85_1, e_85_2, e_85_5, e_85_6, e_85_7, e_85_8, e_85_11, e_85_12, e_85_13, e_85_14, e_85_17, e_85_18, e_85_19, e_85_22, e_85_23, e_85_24, e_85_26, e_85_27, e_85_29, e_85_30, e_85_34, e_85_35, e_85_38, e_85_41, e_85_43, e_85_44, e_85_47, e_85_48, e_85_51, e_85_53, e_85_54, e_85_57, e_85_58, e_85_61, e_85_62, e_85_64, e_85_65, e_85_67, e_85_70, e_85_73, e_85_75, e_85_76, e_85_79, e_85_80, e_85_83, e_85_85, e_85_86, e_85_89, e_85_90, e_85_93, e_85_95, e_85_96, e_85_99, e_85_102, e_85_104, e_85_106, e_85_109, e_85_112, e_85_114, q1, q2, q3, q4, q5, q6, q7, q8, q9, q10, q11, q12, q13, q14, q15, hn, eq_false hb, cv0, cv1, cv2, cv3, cv4, cv5, cv6, cvrec, hx, h81', ge1, ule_t, true_or, or_true, nI_add, nI_mul, nI_sub, nI_clamp, nI_lt_t, nI_lt_f, nI_le_t, nI_le_f, nI_eq_t, nI_eq_f, vp_nI, tI, fI, not_true, not_false_iff, true_and, and_true, Classical.not_not, mS_uI, mS_uA, mS_uJ, mS_uR, mS_uX, mR_uI, mR_uA, mR_uJ, mR_uX, mX_uI, mX_uA, mX_uJ, mX_uR, mI_s, mI_n, mI_A, mI_An, mI_uJ, mI_uR, mI_uX, mJ_uI, mJ_uA, mJ_uR, mJ_uX, onR_s, kC_v, kC_n, kC_t]
          rw [← e]
          exact ih (m + 1) (by omega)
      · have e : fGivP (cV μ s) t root but (m + 1) = fGivP (cV μ s) t root but m := by rw [e1, if_neg (fun z => hx z.2.2.1)]
        simp (disch := omega) only [e_85_0, e_85_1, e_85_2, e_85_5, e_85_6, e_85_7, e_85_8, e_85_11, e_85_12, e_85_13, e_85_14, e_85_17, e_85_18, e_85_19, e_85_22, e_85_23, e_85_24, e_85_26, e_85_27, e_85_29, e_85_30, e_85_34, e_85_35, e_85_38, e_85_41, e_85_43, e_85_44, e_85_47, e_85_48, e_85_51, e_85_53, e_85_54, e_85_57, e_85_58, e_85_61, e_85_62, e_85_64, e_85_65, e_85_67, e_85_70, e_85_73, e_85_75, e_85_76, e_85_79, e_85_80, e_85_83, e_85_85, e_85_86, e_85_89, e_85_90, e_85_93, e_85_95, e_85_96, e_85_99, e_85_102, e_85_104, e_85_106, e_85_109, e_85_112, e_85_114, q1, q2, q3, q4, q5, q6, q7, q8, q9, q10, q11, q12, q13, q14, q15, hn, eq_false hb, cv0, cv1, cv2, cv3, cv4, cv5, cv6, cvrec, hx, ge1, ule_t, true_or, or_true, nI_add, nI_mul, nI_sub, nI_clamp, nI_lt_t, nI_lt_f, nI_le_t, nI_le_f, nI_eq_t, nI_eq_f, vp_nI, tI, fI, not_true, not_false_iff, true_and, and_true, Classical.not_not, mS_uI, mS_uA, mS_uJ, mS_uR, mS_uX, mR_uI, mR_uA, mR_uJ, mR_uX, mX_uI, mX_uA, mX_uJ, mX_uR, mI_s, mI_n, mI_A, mI_An, mI_uJ, mI_uR, mI_uX, mJ_uI, mJ_uA, mJ_uR, mJ_uX, onR_s, kC_v, kC_n, kC_t]
        rw [← e]
        exact ih (m + 1) (by omega)
theorem s_85 (hS : StS μ s) (hn : mI μ s 1 = nI n) (h6 : n ≤ 6) (hV : okV (cV μ s) n) (hq9 : mI μ (s + 2) 1 = nI q) (hq : 1 ≤ q) (hq6 : q ≤ 6) : Ev (d + 5) 85 [.ref s, .int t, .int but] μ Q = Q (some (some (.int (oN (fGiv (cV μ s) n q t but))))) μ := by
  have hS0 := hS
  obtain ⟨q0, q1, q2, q3, q4, q5, q6, q7, q8, q9, q10, q11, q12, q13, q14, q15⟩ := hS
  have h83 := fun (Q : Po) (t : Int32) => s_83 (d := d) (Q := Q) (t := t) hS0 hn h6 hV hq9 hq hq6
  rw [in_85]
  cases hw : fWin (cV μ s) n q t with
  | none =>
    simp (disch := omega) only [e_85_0, e_85_1, e_85_2, e_85_5, e_85_6, e_85_7, e_85_8, e_85_11, e_85_12, e_85_13, e_85_14, e_85_17, e_85_18, e_85_19, e_85_22, e_85_23, e_85_24, e_85_26, e_85_27, e_85_29, e_85_30, e_85_34, e_85_35, e_85_38, e_85_41, e_85_43, e_85_44, e_85_47, e_85_48, e_85_51, e_85_53, e_85_54, e_85_57, e_85_58, e_85_61, e_85_62, e_85_64, e_85_65, e_85_67, e_85_70, e_85_73, e_85_75, e_85_76, e_85_79, e_85_80, e_85_83, e_85_85, e_85_86, e_85_89, e_85_90, e_85_93, e_85_95, e_85_96, e_85_99, e_85_102, e_85_104, e_85_106, e_85_109, e_85_112, e_85_114, q1, q2, q3, q4, q5, q6, q7, q8, q9, q10, q11, q12, q13, q14, q15, cv0, cv1, cv2, cv3, cv4, cv5, cv6, cvrec, h83, hw, oN, fGiv, ge1, ule_t, true_or, or_true, nI_add, nI_mul, nI_sub, nI_clamp, nI_lt_t, nI_lt_f, nI_le_t, nI_le_f, nI_eq_t, nI_eq_f, vp_nI, tI, fI, not_true, not_false_iff, true_and, and_true, Classical.not_not, mS_uI, mS_uA, mS_uJ, mS_uR, mS_uX, mR_uI, mR_uA, mR_uJ, mR_uX, mX_uI, mX_uA, mX_uJ, mX_uR, mI_s, mI_n, mI_A, mI_An, mI_uJ, mI_uR, mI_uX, mJ_uI, mJ_uA, mJ_uR, mJ_uX, onR_s, kC_v, kC_n, kC_t]
  | some w =>
    obtain ⟨w1, w2, w3⟩ := fWin_some hw
    obtain ⟨v1, v2, v3, v4⟩ := hV w w1
    have hv : vp_in t 41 = True := vp41 (Int32.le_trans v2 w3.1) (Int32.le_trans w3.2 v4)
    have hm1 : (nI w = -1) = False := nI_m1 (by omega)
    simp (disch := omega) only [e_85_0, e_85_1, e_85_2, e_85_5, e_85_6, e_85_7, e_85_8, e_85_11, e_85_12, e_85_13, e_85_14, e_85_17, e_85_18, e_85_19, e_85_22, e_85_23, e_85_24, e_85_26, e_85_27, e_85_29, e_85_30, e_85_34, e_85_35, e_85_38, e_85_41, e_85_43, e_85_44, e_85_47, e_85_48, e_85_51, e_85_53, e_85_54, e_85_57, e_85_58, e_85_61, e_85_62, e_85_64, e_85_65, e_85_67, e_85_70, e_85_73, e_85_75, e_85_76, e_85_79, e_85_80, e_85_83, e_85_85, e_85_86, e_85_89, e_85_90, e_85_93, e_85_95, e_85_96, e_85_99, e_85_102, e_85_104, e_85_106, e_85_109, e_85_112, e_85_114, q1, q2, q3, q4, q5, q6, q7, q8, q9, q10, q11, q12, q13, q14, q15, cv0, cv1, cv2, cv3, cv4, cv5, cv6, cvrec, h83, hw, hv, oN, fGiv, hm1, ge1, ule_t, true_or, or_true, nI_add, nI_mul, nI_sub, nI_clamp, nI_lt_t, nI_lt_f, nI_le_t, nI_le_f, nI_eq_t, nI_eq_f, vp_nI, tI, fI, not_true, not_false_iff, true_and, and_true, Classical.not_not, mS_uI, mS_uA, mS_uJ, mS_uR, mS_uX, mR_uI, mR_uA, mR_uJ, mR_uX, mX_uI, mX_uA, mX_uJ, mX_uR, mI_s, mI_n, mI_A, mI_An, mI_uJ, mI_uR, mI_uX, mJ_uI, mJ_uA, mJ_uR, mJ_uX, onR_s, kC_v, kC_n, kC_t]
    exact l_85 hS0 hn h6 hV n 0 (by omega)
theorem l_79 (hS : StS μ s) (hn : mI μ s 1 = nI n) (h6 : n ≤ 6) : ∀ k m, m + k = n → EM 79 d 4 [some (.ref s), some (.int (nI (fActs (cV μ s) m))), some (.int (nI m))] [] μ (0, 0) Q = Q (some (some (.int (nI (fActs (cV μ s) n))))) μ := by
  have hS0 := hS
  obtain ⟨q0, q1, q2, q3, q4, q5, q6, q7, q8, q9, q10, q11, q12, q13, q14, q15⟩ := hS
  intro k
  induction k with
  | zero =>
    intro m hm
    obtain rfl : m = n := by omega
    rw [e_79_4]
    simp (disch := omega) only [e_79_0, e_79_1, e_79_2, e_79_3, e_79_5, e_79_6, e_79_9, e_79_12, e_79_13, e_79_16, e_79_17, e_79_18, e_79_21, e_79_24, e_79_27, e_79_30, e_79_33, e_79_34, q1, q2, q3, q4, q5, q6, q7, q8, q9, q10, q11, q12, q13, q14, q15, hn, ge1, ule_t, true_or, or_true, nI_add, nI_mul, nI_sub, nI_clamp, nI_lt_t, nI_lt_f, nI_le_t, nI_le_f, nI_eq_t, nI_eq_f, vp_nI, tI, fI, not_true, not_false_iff, true_and, and_true, Classical.not_not, mS_uI, mS_uA, mS_uJ, mS_uR, mS_uX, mR_uI, mR_uA, mR_uJ, mR_uX, mX_uI, mX_uA, mX_uJ, mX_uR, mI_s, mI_n, mI_A, mI_An, mI_uJ, mI_uR, mI_uX, mJ_uI, mJ_uA, mJ_uR, mJ_uX, onR_s, kC_v, kC_n, kC_t]
  | succ k ih =>
    intro m hm
    rw [e_79_4]
    have e1 := fActs.eq_2 (cV μ s) m
    by_cases ha : cV μ s m 2 = nI 0
    · rw [if_pos ha] at e1
      simp (disch := omega) only [e_79_0, e_79_1, e_79_2, e_79_3, e_79_5, e_79_6, e_79_9, e_79_12, e_79_13, e_79_16, e_79_17, e_79_18, e_79_21, e_79_24, e_79_27, e_79_30, e_79_33, e_79_34, q1, q2, q3, q4, q5, q6, q7, q8, q9, q10, q11, q12, q13, q14, q15, hn, cv0, cv1, cv2, cv3, cv4, cv5, cv6, cvrec, ha, ge1, ule_t, true_or, or_true, nI_add, nI_mul, nI_sub, nI_clamp, nI_lt_t, nI_lt_f, nI_le_t, nI_le_f, nI_eq_t, nI_eq_f, vp_nI, tI, fI, not_true, not_false_iff, true_and, and_true, Classical.not_not, mS_uI, mS_uA, mS_uJ, mS_uR, mS_uX, mR_uI, mR_uA, mR_uJ, mR_uX, mX_uI, mX_uA, mX_uJ, mX_uR, mI_s, mI_n, mI_A, mI_An, mI_uJ, mI_uR, mI_uX, mJ_uI, mJ_uA, mJ_uR, mJ_uX, onR_s, kC_v, kC_n, kC_t]
      have := ih (m + 1) (by omega)
      rw [e1] at this
      exact this
    · rw [if_neg ha] at e1
      simp (disch := omega) only [e_79_0, e_79_1, e_79_2, e_79_3, e_79_5, e_79_6, e_79_9, e_79_12, e_79_13, e_79_16, e_79_17, e_79_18, e_79_21, e_79_24, e_79_27, e_79_30, e_79_33, e_79_34, q1, q2, q3, q4, q5, q6, q7, q8, q9, q10, q11, q12, q13, q14, q15, hn, cv0, cv1, cv2, cv3, cv4, cv5, cv6, cvrec, ha, ge1, ule_t, true_or, or_true, nI_add, nI_mul, nI_sub, nI_clamp, nI_lt_t, nI_lt_f, nI_le_t, nI_le_f, nI_eq_t, nI_eq_f, vp_nI, tI, fI, not_true, not_false_iff, true_and, and_true, Classical.not_not, mS_uI, mS_uA, mS_uJ, mS_uR, mS_uX, mR_uI, mR_uA, mR_uJ, mR_uX, mX_uI, mX_uA, mX_uJ, mX_uR, mI_s, mI_n, mI_A, mI_An, mI_uJ, mI_uR, mI_uX, mJ_uI, mJ_uA, mJ_uR, mJ_uX, onR_s, kC_v, kC_n, kC_t]
      have := ih (m + 1) (by omega)
      rw [e1] at this
      exact this
theorem s_79 (hS : StS μ s) (hn : mI μ s 1 = nI n) (h6 : n ≤ 6) : Ev (d + 1) 79 [.ref s] μ Q = Q (some (some (.int (nI (fActs (cV μ s) n))))) μ := by
  rw [in_79]
  simp (disch := omega) only [e_79_0, e_79_1, e_79_2, e_79_3, e_79_5, e_79_6, e_79_9, e_79_12, e_79_13, e_79_16, e_79_17, e_79_18, e_79_21, e_79_24, e_79_27, e_79_30, e_79_33, e_79_34, ge1, ule_t, true_or, or_true, nI_add, nI_mul, nI_sub, nI_clamp, nI_lt_t, nI_lt_f, nI_le_t, nI_le_f, nI_eq_t, nI_eq_f, vp_nI, tI, fI, not_true, not_false_iff, true_and, and_true, Classical.not_not]
  exact l_79 hS hn h6 n 0 (by omega)
theorem l_80 (hS : StS μ s) (hn : mI μ s 1 = nI n) (h6 : n ≤ 6) : ∀ k m l5 l6, m + k = n → EM 80 d 4 [some (.ref s), some (.int g), some (.int (fExt (cV μ s) g m)), some (.int (nI m)), l5, l6] [] μ (0, 0) Q = Q (some (some (.int (fExt (cV μ s) g n)))) μ := by
  have hS0 := hS
  obtain ⟨q0, q1, q2, q3, q4, q5, q6, q7, q8, q9, q10, q11, q12, q13, q14, q15⟩ := hS
  intro k
  induction k with
  | zero =>
    intro m l5 l6 hm
    obtain rfl : m = n := by omega
    rw [e_80_4]
    simp (disch := omega) only [e_80_0, e_80_1, e_80_2, e_80_3, e_80_5, e_80_6, e_80_9, e_80_12, e_80_13, e_80_16, e_80_17, e_80_18, e_80_20, e_80_22, e_80_25, e_80_28, e_80_29, e_80_32, e_80_34, e_80_37, e_80_38, e_80_41, e_80_42, e_80_45, e_80_46, e_80_49, e_80_51, e_80_54, e_80_55, e_80_58, e_80_59, e_80_62, e_80_63, e_80_65, e_80_66, e_80_67, e_80_70, e_80_72, e_80_75, e_80_77, e_80_80, e_80_81, e_80_84, e_80_87, e_80_88, q1, q2, q3, q4, q5, q6, q7, q8, q9, q10, q11, q12, q13, q14, q15, hn, ge1, ule_t, true_or, or_true, nI_add, nI_mul, nI_sub, nI_clamp, nI_lt_t, nI_lt_f, nI_le_t, nI_le_f, nI_eq_t, nI_eq_f, vp_nI, tI, fI, not_true, not_false_iff, true_and, and_true, Classical.not_not, mS_uI, mS_uA, mS_uJ, mS_uR, mS_uX, mR_uI, mR_uA, mR_uJ, mR_uX, mX_uI, mX_uA, mX_uJ, mX_uR, mI_s, mI_n, mI_A, mI_An, mI_uJ, mI_uR, mI_uX, mJ_uI, mJ_uA, mJ_uR, mJ_uX, onR_s, kC_v, kC_n, kC_t]
  | succ k ih =>
    intro m l5 l6 hm
    rw [e_80_4]
    have e1 := fExt.eq_2 (cV μ s) g m
    have hi := fun l5 l6 => ih (m + 1) l5 l6 (by omega)
    by_cases ha : cV μ s m 2 = nI 0
    · rw [if_pos ha] at e1
      simp (disch := omega) only [e_80_0, e_80_1, e_80_2, e_80_3, e_80_5, e_80_6, e_80_9, e_80_12, e_80_13, e_80_16, e_80_17, e_80_18, e_80_20, e_80_22, e_80_25, e_80_28, e_80_29, e_80_32, e_80_34, e_80_37, e_80_38, e_80_41, e_80_42, e_80_45, e_80_46, e_80_49, e_80_51, e_80_54, e_80_55, e_80_58, e_80_59, e_80_62, e_80_63, e_80_65, e_80_66, e_80_67, e_80_70, e_80_72, e_80_75, e_80_77, e_80_80, e_80_81, e_80_84, e_80_87, e_80_88, q1, q2, q3, q4, q5, q6, q7, q8, q9, q10, q11, q12, q13, q14, q15, hn, cv0, cv1, cv2, cv3, cv4, cv5, cv6, cvrec, ha, ge1, ule_t, true_or, or_true, nI_add, nI_mul, nI_sub, nI_clamp, nI_lt_t, nI_lt_f, nI_le_t, nI_le_f, nI_eq_t, nI_eq_f, vp_nI, tI, fI, not_true, not_false_iff, true_and, and_true, Classical.not_not, mS_uI, mS_uA, mS_uJ, mS_uR, mS_uX, mR_uI, mR_uA, mR_uJ, mR_uX, mX_uI, mX_uA, mX_uJ, mX_uR, mI_s, mI_n, mI_A, mI_An, mI_uJ, mI_uR, mI_uX, mJ_uI, mJ_uA, mJ_uR, mJ_uX, onR_s, kC_v, kC_n, kC_t]
      simp only [e1] at hi
      exact hi _ _
    · rw [if_neg ha] at e1
      by_cases hb : fExt (cV μ s) g m = -1
      · rw [if_pos hb] at e1
        simp only [e1] at hi
        by_cases hg : g = nI 0
        · subst hg
          by_cases hc : fExt (cV μ s) (nI 0) m ≤ cV μ s m 1
          · rw [hb] at hc
            simp (disch := omega) only [e_80_0, e_80_1, e_80_2, e_80_3, e_80_5, e_80_6, e_80_9, e_80_12, e_80_13, e_80_16, e_80_17, e_80_18, e_80_20, e_80_22, e_80_25, e_80_28, e_80_29, e_80_32, e_80_34, e_80_37, e_80_38, e_80_41, e_80_42, e_80_45, e_80_46, e_80_49, e_80_51, e_80_54, e_80_55, e_80_58, e_80_59, e_80_62, e_80_63, e_80_65, e_80_66, e_80_67, e_80_70, e_80_72, e_80_75, e_80_77, e_80_80, e_80_81, e_80_84, e_80_87, e_80_88, q1, q2, q3, q4, q5, q6, q7, q8, q9, q10, q11, q12, q13, q14, q15, hn, cv0, cv1, cv2, cv3, cv4, cv5, cv6, cvrec, ha, hb, hc, ge1, ule_t, true_or, or_true, nI_add, nI_mul, nI_sub, nI_clamp, nI_lt_t, nI_lt_f, nI_le_t, nI_le_f, nI_eq_t, nI_eq_f, vp_nI, tI, fI, not_true, not_false_iff, true_and, and_true, Classical.not_not, mS_uI, mS_uA, mS_uJ, mS_uR, mS_uX, mR_uI, mR_uA, mR_uJ, mR_uX, mX_uI, mX_uA, mX_uJ, mX_uR, mI_s, mI_n, mI_A, mI_An, mI_uJ, mI_uR, mI_uX, mJ_uI, mJ_uA, mJ_uR, mJ_uX, onR_s, kC_v, kC_n, kC_t]
            exact hi _ _
          · rw [hb] at hc
            simp (disch := omega) only [e_80_0, e_80_1, e_80_2, e_80_3, e_80_5, e_80_6, e_80_9, e_80_12, e_80_13, e_80_16, e_80_17, e_80_18, e_80_20, e_80_22, e_80_25, e_80_28, e_80_29, e_80_32, e_80_34, e_80_37, e_80_38, e_80_41, e_80_42, e_80_45, e_80_46, e_80_49, e_80_51, e_80_54, e_80_55, e_80_58, e_80_59, e_80_62, e_80_63, e_80_65, e_80_66, e_80_67, e_80_70, e_80_72, e_80_75, e_80_77, e_80_80, e_80_81, e_80_84, e_80_87, e_80_88, q1, q2, q3, q4, q5, q6, q7, q8, q9, q10, q11, q12, q13, q14, q15, hn, cv0, cv1, cv2, cv3, cv4, cv5, cv6, cvrec, ha, hb, hc, ge1, ule_t, true_or, or_true, nI_add, nI_mul, nI_sub, nI_clamp, nI_lt_t, nI_lt_f, nI_le_t, nI_le_f, nI_eq_t, nI_eq_f, vp_nI, tI, fI, not_true, not_false_iff, true_and, and_true, Classical.not_not, mS_uI, mS_uA, mS_uJ, mS_uR, mS_uX, mR_uI, mR_uA, mR_uJ, mR_uX, mX_uI, mX_uA, mX_uJ, mX_uR, mI_s, mI_n, mI_A, mI_An, mI_uJ, mI_uR, mI_uX, mJ_uI, mJ_uA, mJ_uR, mJ_uX, onR_s, kC_v, kC_n, kC_t]
            exact hi _ _
        · by_cases hc : cV μ s m 1 ≤ fExt (cV μ s) g m
          · rw [hb] at hc
            simp (disch := omega) only [e_80_0, e_80_1, e_80_2, e_80_3, e_80_5, e_80_6, e_80_9, e_80_12, e_80_13, e_80_16, e_80_17, e_80_18, e_80_20, e_80_22, e_80_25, e_80_28, e_80_29, e_80_32, e_80_34, e_80_37, e_80_38, e_80_41, e_80_42, e_80_45, e_80_46, e_80_49, e_80_51, e_80_54, e_80_55, e_80_58, e_80_59, e_80_62, e_80_63, e_80_65, e_80_66, e_80_67, e_80_70, e_80_72, e_80_75, e_80_77, e_80_80, e_80_81, e_80_84, e_80_87, e_80_88, q1, q2, q3, q4, q5, q6, q7, q8, q9, q10, q11, q12, q13, q14, q15, hn, cv0, cv1, cv2, cv3, cv4, cv5, cv6, cvrec, ha, hb, hg, hc, ge1, ule_t, true_or, or_true, nI_add, nI_mul, nI_sub, nI_clamp, nI_lt_t, nI_lt_f, nI_le_t, nI_le_f, nI_eq_t, nI_eq_f, vp_nI, tI, fI, not_true, not_false_iff, true_and, and_true, Classical.not_not, mS_uI, mS_uA, mS_uJ, mS_uR, mS_uX, mR_uI, mR_uA, mR_uJ, mR_uX, mX_uI, mX_uA, mX_uJ, mX_uR, mI_s, mI_n, mI_A, mI_An, mI_uJ, mI_uR, mI_uX, mJ_uI, mJ_uA, mJ_uR, mJ_uX, onR_s, kC_v, kC_n, kC_t]
            exact hi _ _
          · rw [hb] at hc
            simp (disch := omega) only [e_80_0, e_80_1, e_80_2, e_80_3, e_80_5, e_80_6, e_80_9, e_80_12, e_80_13, e_80_16, e_80_17, e_80_18, e_80_20, e_80_22, e_80_25, e_80_28, e_80_29, e_80_32, e_80_34, e_80_37, e_80_38, e_80_41, e_80_42, e_80_45, e_80_46, e_80_49, e_80_51, e_80_54, e_80_55, e_80_58, e_80_59, e_80_62, e_80_63, e_80_65, e_80_66, e_80_67, e_80_70, e_80_72, e_80_75, e_80_77, e_80_80, e_80_81, e_80_84, e_80_87, e_80_88, q1, q2, q3, q4, q5, q6, q7, q8, q9, q10, q11, q12, q13, q14, q15, hn, cv0, cv1, cv2, cv3, cv4, cv5, cv6, cvrec, ha, hb, hg, hc, ge1, ule_t, true_or, or_true, nI_add, nI_mul, nI_sub, nI_clamp, nI_lt_t, nI_lt_f, nI_le_t, nI_le_f, nI_eq_t, nI_eq_f, vp_nI, tI, fI, not_true, not_false_iff, true_and, and_true, Classical.not_not, mS_uI, mS_uA, mS_uJ, mS_uR, mS_uX, mR_uI, mR_uA, mR_uJ, mR_uX, mX_uI, mX_uA, mX_uJ, mX_uR, mI_s, mI_n, mI_A, mI_An, mI_uJ, mI_uR, mI_uX, mJ_uI, mJ_uA, mJ_uR, mJ_uX, onR_s, kC_v, kC_n, kC_t]
            exact hi _ _
      · rw [if_neg hb] at e1
        by_cases hg : g = nI 0
        · rw [if_pos hg] at e1
          subst hg
          by_cases hc : fExt (cV μ s) (nI 0) m ≤ cV μ s m 1
          · rw [if_neg (Int32.not_lt.mpr hc)] at e1
            rw [e1] at hi
            simp (disch := omega) only [e_80_0, e_80_1, e_80_2, e_80_3, e_80_5, e_80_6, e_80_9, e_80_12, e_80_13, e_80_16, e_80_17, e_80_18, e_80_20, e_80_22, e_80_25, e_80_28, e_80_29, e_80_32, e_80_34, e_80_37, e_80_38, e_80_41, e_80_42, e_80_45, e_80_46, e_80_49, e_80_51, e_80_54, e_80_55, e_80_58, e_80_59, e_80_62, e_80_63, e_80_65, e_80_66, e_80_67, e_80_70, e_80_72, e_80_75, e_80_77, e_80_80, e_80_81, e_80_84, e_80_87, e_80_88, q1, q2, q3, q4, q5, q6, q7, q8, q9, q10, q11, q12, q13, q14, q15, hn, cv0, cv1, cv2, cv3, cv4, cv5, cv6, cvrec, ha, hb, hc, ge1, ule_t, true_or, or_true, nI_add, nI_mul, nI_sub, nI_clamp, nI_lt_t, nI_lt_f, nI_le_t, nI_le_f, nI_eq_t, nI_eq_f, vp_nI, tI, fI, not_true, not_false_iff, true_and, and_true, Classical.not_not, mS_uI, mS_uA, mS_uJ, mS_uR, mS_uX, mR_uI, mR_uA, mR_uJ, mR_uX, mX_uI, mX_uA, mX_uJ, mX_uR, mI_s, mI_n, mI_A, mI_An, mI_uJ, mI_uR, mI_uX, mJ_uI, mJ_uA, mJ_uR, mJ_uX, onR_s, kC_v, kC_n, kC_t]
            exact hi _ _
          · rw [if_pos (Int32.not_le.mp hc)] at e1
            rw [e1] at hi
            simp (disch := omega) only [e_80_0, e_80_1, e_80_2, e_80_3, e_80_5, e_80_6, e_80_9, e_80_12, e_80_13, e_80_16, e_80_17, e_80_18, e_80_20, e_80_22, e_80_25, e_80_28, e_80_29, e_80_32, e_80_34, e_80_37, e_80_38, e_80_41, e_80_42, e_80_45, e_80_46, e_80_49, e_80_51, e_80_54, e_80_55, e_80_58, e_80_59, e_80_62, e_80_63, e_80_65, e_80_66, e_80_67, e_80_70, e_80_72, e_80_75, e_80_77, e_80_80, e_80_81, e_80_84, e_80_87, e_80_88, q1, q2, q3, q4, q5, q6, q7, q8, q9, q10, q11, q12, q13, q14, q15, hn, cv0, cv1, cv2, cv3, cv4, cv5, cv6, cvrec, ha, hb, hc, ge1, ule_t, true_or, or_true, nI_add, nI_mul, nI_sub, nI_clamp, nI_lt_t, nI_lt_f, nI_le_t, nI_le_f, nI_eq_t, nI_eq_f, vp_nI, tI, fI, not_true, not_false_iff, true_and, and_true, Classical.not_not, mS_uI, mS_uA, mS_uJ, mS_uR, mS_uX, mR_uI, mR_uA, mR_uJ, mR_uX, mX_uI, mX_uA, mX_uJ, mX_uR, mI_s, mI_n, mI_A, mI_An, mI_uJ, mI_uR, mI_uX, mJ_uI, mJ_uA, mJ_uR, mJ_uX, onR_s, kC_v, kC_n, kC_t]
            exact hi _ _
        · rw [if_neg hg] at e1
          by_cases hc : cV μ s m 1 ≤ fExt (cV μ s) g m
          · rw [if_neg (Int32.not_lt.mpr hc)] at e1
            rw [e1] at hi
            simp (disch := omega) only [e_80_0, e_80_1, e_80_2, e_80_3, e_80_5, e_80_6, e_80_9, e_80_12, e_80_13, e_80_16, e_80_17, e_80_18, e_80_20, e_80_22, e_80_25, e_80_28, e_80_29, e_80_32, e_80_34, e_80_37, e_80_38, e_80_41, e_80_42, e_80_45, e_80_46, e_80_49, e_80_51, e_80_54, e_80_55, e_80_58, e_80_59, e_80_62, e_80_63, e_80_65, e_80_66, e_80_67, e_80_70, e_80_72, e_80_75, e_80_77, e_80_80, e_80_81, e_80_84, e_80_87, e_80_88, q1, q2, q3, q4, q5, q6, q7, q8, q9, q10, q11, q12, q13, q14, q15, hn, cv0, cv1, cv2, cv3, cv4, cv5, cv6, cvrec, ha, hb, hg, hc, ge1, ule_t, true_or, or_true, nI_add, nI_mul, nI_sub, nI_clamp, nI_lt_t, nI_lt_f, nI_le_t, nI_le_f, nI_eq_t, nI_eq_f, vp_nI, tI, fI, not_true, not_false_iff, true_and, and_true, Classical.not_not, mS_uI, mS_uA, mS_uJ, mS_uR, mS_uX, mR_uI, mR_uA, mR_uJ, mR_uX, mX_uI, mX_uA, mX_uJ, mX_uR, mI_s, mI_n, mI_A, mI_An, mI_uJ, mI_uR, mI_uX, mJ_uI, mJ_uA, mJ_uR, mJ_uX, onR_s, kC_v, kC_n, kC_t]
            exact hi _ _
          · rw [if_pos (Int32.not_le.mp hc)] at e1
            rw [e1] at hi
            simp (disch := omega) only [e_80_0, e_80_1, e_80_2, e_80_3, e_80_5, e_80_6, e_80_9, e_80_12, e_80_13, e_80_16, e_80_17, e_80_18, e_80_20, e_80_22, e_80_25, e_80_28, e_80_29, e_80_32, e_80_34, e_80_37, e_80_38, e_80_41, e_80_42, e_80_45, e_80_46, e_80_49, e_80_51, e_80_54, e_80_55, e_80_58, e_80_59, e_80_62, e_80_63, e_80_65, e_80_66, e_80_67, e_80_70, e_80_72, e_80_75, e_80_77, e_80_80, e_80_81, e_80_84, e_80_87, e_80_88, q1, q2, q3, q4, q5, q6, q7, q8, q9, q10, q11, q12, q13, q14, q15, hn, cv0, cv1, cv2, cv3, cv4, cv5, cv6, cvrec, ha, hb, hg, hc, ge1, ule_t, true_or, or_true, nI_add, nI_mul, nI_sub, nI_clamp, nI_lt_t, nI_lt_f, nI_le_t, nI_le_f, nI_eq_t, nI_eq_f, vp_nI, tI, fI, not_true, not_false_iff, true_and, and_true, Classical.not_not, mS_uI, mS_uA, mS_uJ, mS_uR, mS_uX, mR_uI, mR_uA, mR_uJ, mR_uX, mX_uI, mX_uA, mX_uJ, mX_uR, mI_s, mI_n, mI_A, mI_An, mI_uJ, mI_uR, mI_uX, mJ_uI, mJ_uA, mJ_uR, mJ_uX, onR_s, kC_v, kC_n, kC_t]
            exact hi _ _
theorem s_80 (hS : StS μ s) (hn : mI μ s 1 = nI n) (h6 : n ≤ 6) : Ev (d + 1) 80 [.ref s, .int g] μ Q = Q (some (some (.int (fExt (cV μ s) g n)))) μ := by
  rw [in_80]
  simp (disch := omega) only [e_80_0, e_80_1, e_80_2, e_80_3, e_80_5, e_80_6, e_80_9, e_80_12, e_80_13, e_80_16, e_80_17, e_80_18, e_80_20, e_80_22, e_80_25, e_80_28, e_80_29, e_80_32, e_80_34, e_80_37, e_80_38, e_80_41, e_80_42, e_80_45, e_80_46, e_80_49, e_80_51, e_80_54, e_80_55, e_80_58, e_80_59, e_80_62, e_80_63, e_80_65, e_80_66, e_80_67, e_80_70, e_80_72, e_80_75, e_80_77, e_80_80, e_80_81, e_80_84, e_80_87, e_80_88, ge1, ule_t, true_or, or_true, nI_add, nI_mul, nI_sub, nI_clamp, nI_lt_t, nI_lt_f, nI_le_t, nI_le_f, nI_eq_t, nI_eq_f, vp_nI, tI, fI, not_true, not_false_iff, true_and, and_true, Classical.not_not]
  exact l_80 hS hn h6 n 0 none none (by omega)
end StateR2

/-! the model's votes, winners, givers -/
section ModelR2
variable {d : Nat} {Q : Po} {μ : Mu} {n m q m0 : Nat} {t root but g : Int32} {l4 l5 : Option Value}
theorem vAct1 {V : VW} {n m : Nat} (hV : okV V n) (hm : m < n) : (V m 2 = nI 1) = vAct V m := by
  rcases (hV m hm).1 with h | h
  · rw [h]; simp (disch := omega) [vAct, h, nI_eq_f]
  · rw [h]; simp (disch := omega) [vAct, h, nI_eq_f]
theorem l_190 (hM : ShM μ) (hn : mI μ 1302 2 = nI n) (h6 : n ≤ 6) (hV : okV (rW (mI μ 1302)) n) (hm0 : m0 < 6) : ∀ k m, m + k = n → EM 190 (d + 3) 5 [some (.ref 1298), some (.int (nI m0)), some (.int t), some (.int (nI (fGroup (rW (mI μ 1302)) t (vRec (rW (mI μ 1302)) m0 t) m))), some (.int (nI m))] [] μ (0, 0) Q = Q (some (some (.int (nI (fGroup (rW (mI μ 1302)) t (vRec (rW (mI μ 1302)) m0 t) n))))) μ := by
  intro k
  induction k with
  | zero =>
    intro m hm
    obtain rfl : m = n := by omega
    rw [e_190_5]
    simp (disch := omega) only [e_190_0, e_190_1, e_190_2, e_190_3, e_190_7, e_190_8, e_190_11, e_190_14, e_190_15, e_190_16, e_190_18, e_190_21, e_190_24, e_190_25, e_190_27, e_190_28, e_190_31, e_190_34, e_190_35, e_190_37, e_190_38, e_190_41, e_190_42, e_190_43, e_190_44, e_190_47, e_190_50, e_190_51, e_190_54, e_190_55, e_190_56, e_190_57, e_190_60, e_190_63, e_190_64, hM.1, Nat.add_zero, s_165 hM, hn, ge1, ule_t, true_or, or_true, nI_add, nI_mul, nI_sub, nI_clamp, nI_lt_t, nI_lt_f, nI_le_t, nI_le_f, nI_eq_t, nI_eq_f, vp_nI, tI, fI, not_true, not_false_iff, true_and, and_true, Classical.not_not, mS_uI, mS_uA, mS_uJ, mS_uR, mS_uX, mR_uI, mR_uA, mR_uJ, mR_uX, mX_uI, mX_uA, mX_uJ, mX_uR, mI_s, mI_n, mI_A, mI_An, mI_uJ, mI_uR, mI_uX, mJ_uI, mJ_uA, mJ_uR, mJ_uX, onR_s, kC_v, kC_n, kC_t]
  | succ k ih =>
    intro m hm
    rw [e_190_5]
    obtain ⟨v1, v2, v3, v4⟩ := hV m (by omega)
    have hi := ih (m + 1) (by omega)
    rw [fGroup.eq_2] at hi
    have h168 := fun (Q : Po) => s_168 (d := d + 1) (Q := Q) hM (show m < 6 by omega) (okV_le hV (show m + 1 ≤ n by omega))
    have h188 := fun (Q : Po) => s_188 (d := d) (Q := Q) (t := t) hM (show m < 6 by omega)
    by_cases ha : vAct (rW (mI μ 1302)) m
    · simp only [bI_t ha] at h168
      by_cases hh : vHas (rW (mI μ 1302)) m t
      · simp only [bI_t hh] at h188
        have t1 := Int32.le_trans v2 hh.1
        have t2 := Int32.le_trans hh.2 v4
        have h189 := fun (Q : Po) (m : Nat) (hm : m < 6) => s_189 (d := d + 1) (Q := Q) (t := t) hM hm t1 t2
        by_cases hr : vRec (rW (mI μ 1302)) m t = vRec (rW (mI μ 1302)) m0 t
        · rw [if_pos ⟨ha, hh, hr⟩] at hi
          simp (disch := omega) only [e_190_0, e_190_1, e_190_2, e_190_3, e_190_7, e_190_8, e_190_11, e_190_14, e_190_15, e_190_16, e_190_18, e_190_21, e_190_24, e_190_25, e_190_27, e_190_28, e_190_31, e_190_34, e_190_35, e_190_37, e_190_38, e_190_41, e_190_42, e_190_43, e_190_44, e_190_47, e_190_50, e_190_51, e_190_54, e_190_55, e_190_56, e_190_57, e_190_60, e_190_63, e_190_64, hM.1, Nat.add_zero, s_165 hM, hn, h168, h188, h189, hr, ge1, ule_t, true_or, or_true, nI_add, nI_mul, nI_sub, nI_clamp, nI_lt_t, nI_lt_f, nI_le_t, nI_le_f, nI_eq_t, nI_eq_f, vp_nI, tI, fI, not_true, not_false_iff, true_and, and_true, Classical.not_not, mS_uI, mS_uA, mS_uJ, mS_uR, mS_uX, mR_uI, mR_uA, mR_uJ, mR_uX, mX_uI, mX_uA, mX_uJ, mX_uR, mI_s, mI_n, mI_A, mI_An, mI_uJ, mI_uR, mI_uX, mJ_uI, mJ_uA, mJ_uR, mJ_uX, onR_s, kC_v, kC_n, kC_t]
          exact hi
        · rw [if_neg (fun z => hr z.2.2)] at hi
          simp (disch := omega) only [e_190_0, e_190_1, e_190_2, e_190_3, e_190_7, e_190_8, e_190_11, e_190_14, e_190_15, e_190_16, e_190_18, e_190_21, e_190_24, e_190_25, e_190_27, e_190_28, e_190_31, e_190_34, e_190_35, e_190_37, e_190_38, e_190_41, e_190_42, e_190_43, e_190_44, e_190_47, e_190_50, e_190_51, e_190_54, e_190_55, e_190_56, e_190_57, e_190_60, e_190_63, e_190_64, hM.1, Nat.add_zero, s_165 hM, hn, h168, h188, h189, hr, ge1, ule_t, true_or, or_true, nI_add, nI_mul, nI_sub, nI_clamp, nI_lt_t, nI_lt_f, nI_le_t, nI_le_f, nI_eq_t, nI_eq_f, vp_nI, tI, fI, not_true, not_false_iff, true_and, and_true, Classical.not_not, mS_uI, mS_uA, mS_uJ, mS_uR, mS_uX, mR_uI, mR_uA, mR_uJ, mR_uX, mX_uI, mX_uA, mX_uJ, mX_uR, mI_s, mI_n, mI_A, mI_An, mI_uJ, mI_uR, mI_uX, mJ_uI, mJ_uA, mJ_uR, mJ_uX, onR_s, kC_v, kC_n, kC_t]
          exact hi
      · simp only [bI_f hh] at h188
        rw [if_neg (fun z => hh z.2.1)] at hi
        simp (disch := omega) only [e_190_0, e_190_1, e_190_2, e_190_3, e_190_7, e_190_8, e_190_11, e_190_14, e_190_15, e_190_16, e_190_18, e_190_21, e_190_24, e_190_25, e_190_27, e_190_28, e_190_31, e_190_34, e_190_35, e_190_37, e_190_38, e_190_41, e_190_42, e_190_43, e_190_44, e_190_47, e_190_50, e_190_51, e_190_54, e_190_55, e_190_56, e_190_57, e_190_60, e_190_63, e_190_64, hM.1, Nat.add_zero, s_165 hM, hn, h168, h188, ge1, ule_t, true_or, or_true, nI_add, nI_mul, nI_sub, nI_clamp, nI_lt_t, nI_lt_f, nI_le_t, nI_le_f, nI_eq_t, nI_eq_f, vp_nI, tI, fI, not_true, not_false_iff, true_and, and_true, Classical.not_not, mS_uI, mS_uA, mS_uJ, mS_uR, mS_uX, mR_uI, mR_uA, mR_uJ, mR_uX, mX_uI, mX_uA, mX_uJ, mX_uR, mI_s, mI_n, mI_A, mI_An, mI_uJ, mI_uR, mI_uX, mJ_uI, mJ_uA, mJ_uR, mJ_uX, onR_s, kC_v, kC_n, kC_t]
        exact hi
    · simp only [bI_f ha] at h168
      rw [if_neg (fun z => ha z.1)] at hi
      simp (disch := omega) only [e_190_0, e_190_1, e_190_2, e_190_3, e_190_7, e_190_8, e_190_11, e_190_14, e_190_15, e_190_16, e_190_18, e_190_21, e_190_24, e_190_25, e_190_27, e_190_28, e_190_31, e_190_34, e_190_35, e_190_37, e_190_38, e_190_41, e_190_42, e_190_43, e_190_44, e_190_47, e_190_50, e_190_51, e_190_54, e_190_55, e_190_56, e_190_57, e_190_60, e_190_63, e_190_64, hM.1, Nat.add_zero, s_165 hM, hn, h168, ge1, ule_t, true_or, or_true, nI_add, nI_mul, nI_sub, nI_clamp, nI_lt_t, nI_lt_f, nI_le_t, nI_le_f, nI_eq_t, nI_eq_f, vp_nI, tI, fI, not_true, not_false_iff, true_and, and_true, Classical.not_not, mS_uI, mS_uA, mS_uJ, mS_uR, mS_uX, mR_uI, mR_uA, mR_uJ, mR_uX, mX_uI, mX_uA, mX_uJ, mX_uR, mI_s, mI_n, mI_A, mI_An, mI_uJ, mI_uR, mI_uX, mJ_uI, mJ_uA, mJ_uR, mJ_uX, onR_s, kC_v, kC_n, kC_t]
      exact hi
theorem s_190 (hM : ShM μ) (hn : mI μ 1302 2 = nI n) (h6 : n ≤ 6) (hV : okV (rW (mI μ 1302)) n) (hm0 : m0 < 6) : Ev (d + 4) 190 [.ref 1298, .int (nI m0), .int t] μ Q = Q (some (some (.int (nI (fGroup (rW (mI μ 1302)) t (vRec (rW (mI μ 1302)) m0 t) n))))) μ := by
  rw [in_190]
  simp (disch := omega) only [e_190_0, e_190_1, e_190_2, e_190_3, e_190_7, e_190_8, e_190_11, e_190_14, e_190_15, e_190_16, e_190_18, e_190_21, e_190_24, e_190_25, e_190_27, e_190_28, e_190_31, e_190_34, e_190_35, e_190_37, e_190_38, e_190_41, e_190_42, e_190_43, e_190_44, e_190_47, e_190_50, e_190_51, e_190_54, e_190_55, e_190_56, e_190_57, e_190_60, e_190_63, e_190_64, ge1, ule_t, true_or, or_true, nI_add, nI_mul, nI_sub, nI_clamp, nI_lt_t, nI_lt_f, nI_le_t, nI_le_f, nI_eq_t, nI_eq_f, vp_nI, tI, fI, not_true, not_false_iff, true_and, and_true, Classical.not_not]
  exact l_190 hM hn h6 hV hm0 n 0 (by omega)
theorem l_191 (hM : ShM μ) (hn : mI μ 1302 2 = nI n) (h6 : n ≤ 6) (hV : okV (rW (mI μ 1302)) n) (hq9 : mI μ 1302 1 = nI q) (hq6 : q ≤ 6) : ∀ k m l5, m + k = n → EM 191 (d + 4) 7 [some (.ref 1298), some (.int t), some (.int (oN (fWinP (rW (mI μ 1302)) n t m).1)), some (.int (nI (fWinP (rW (mI μ 1302)) n t m).2)), some (.int (nI m)), l5] [] μ (0, 0) Q = Q (some (some (.int (oN (fWin (rW (mI μ 1302)) n q t))))) μ := by
  have hM0 := hM
  obtain ⟨p1, p2, p3, p4, p5, p6, p7, p8, p9, p10, p11, p12, p13, p14, p15, p16, p17, p18, p19, p20, p21⟩ := hM0
  intro k
  induction k with
  | zero =>
    intro m l5 hm
    obtain rfl : m = n := by omega
    rw [e_191_7]
    have hb := fWinP_le (rW (mI μ 1302)) m t m
    unfold fWin
    by_cases hlt : (fWinP (rW (mI μ 1302)) m t m).2 < q
    · rw [if_pos hlt]
      simp (disch := omega) only [e_191_0, e_191_1, e_191_2, e_191_3, e_191_4, e_191_5, e_191_9, e_191_10, e_191_13, e_191_16, e_191_17, e_191_19, e_191_22, e_191_25, e_191_26, e_191_28, e_191_29, e_191_32, e_191_35, e_191_36, e_191_38, e_191_39, e_191_42, e_191_45, e_191_46, e_191_48, e_191_50, e_191_51, e_191_54, e_191_56, e_191_59, e_191_60, e_191_61, e_191_62, e_191_64, e_191_67, e_191_68, e_191_71, e_191_74, e_191_75, e_191_76, e_191_79, e_191_80, e_191_81, e_191_84, e_191_85, e_191_88, e_191_89, hM.1, Nat.add_zero, s_165 hM, hn, hq9, p1, p2, p3, p4, p5, p6, p7, p8, p9, p10, p11, p12, p13, p14, p15, p16, p17, p18, p19, p20, p21, ge1, ule_t, true_or, or_true, nI_add, nI_mul, nI_sub, nI_clamp, nI_lt_t, nI_lt_f, nI_le_t, nI_le_f, nI_eq_t, nI_eq_f, vp_nI, tI, fI, not_true, not_false_iff, true_and, and_true, Classical.not_not, mS_uI, mS_uA, mS_uJ, mS_uR, mS_uX, mR_uI, mR_uA, mR_uJ, mR_uX, mX_uI, mX_uA, mX_uJ, mX_uR, mI_s, mI_n, mI_A, mI_An, mI_uJ, mI_uR, mI_uX, mJ_uI, mJ_uA, mJ_uR, mJ_uX, onR_s, kC_v, kC_n, kC_t, oN]
    · rw [if_neg hlt]
      simp (disch := omega) only [e_191_0, e_191_1, e_191_2, e_191_3, e_191_4, e_191_5, e_191_9, e_191_10, e_191_13, e_191_16, e_191_17, e_191_19, e_191_22, e_191_25, e_191_26, e_191_28, e_191_29, e_191_32, e_191_35, e_191_36, e_191_38, e_191_39, e_191_42, e_191_45, e_191_46, e_191_48, e_191_50, e_191_51, e_191_54, e_191_56, e_191_59, e_191_60, e_191_61, e_191_62, e_191_64, e_191_67, e_191_68, e_191_71, e_191_74, e_191_75, e_191_76, e_191_79, e_191_80, e_191_81, e_191_84, e_191_85, e_191_88, e_191_89, hM.1, Nat.add_zero, s_165 hM, hn, hq9, p1, p2, p3, p4, p5, p6, p7, p8, p9, p10, p11, p12, p13, p14, p15, p16, p17, p18, p19, p20, p21, ge1, ule_t, true_or, or_true, nI_add, nI_mul, nI_sub, nI_clamp, nI_lt_t, nI_lt_f, nI_le_t, nI_le_f, nI_eq_t, nI_eq_f, vp_nI, tI, fI, not_true, not_false_iff, true_and, and_true, Classical.not_not, mS_uI, mS_uA, mS_uJ, mS_uR, mS_uX, mR_uI, mR_uA, mR_uJ, mR_uX, mX_uI, mX_uA, mX_uJ, mX_uR, mI_s, mI_n, mI_A, mI_An, mI_uJ, mI_uR, mI_uX, mJ_uI, mJ_uA, mJ_uR, mJ_uX, onR_s, kC_v, kC_n, kC_t]
  | succ k ih =>
    intro m l5 hm
    rw [e_191_7]
    obtain ⟨v1, v2, v3, v4⟩ := hV m (by omega)
    have hb := fWinP_le (rW (mI μ 1302)) n t m
    have hg := fGroup_le (rW (mI μ 1302)) t (vRec (rW (mI μ 1302)) m t) n
    have hi := fun l5 => ih (m + 1) l5 (by omega)
    have h168 := fun (Q : Po) => s_168 (d := d + 2) (Q := Q) hM (show m < 6 by omega) (okV_le hV (show m + 1 ≤ n by omega))
    have h188 := fun (Q : Po) => s_188 (d := d + 1) (Q := Q) (t := t) hM (show m < 6 by omega)
    have h190 := fun (Q : Po) => s_190 (d := d) (Q := Q) (t := t) hM hn h6 hV (show m < 6 by omega)
    by_cases ha : vAct (rW (mI μ 1302)) m
    · simp only [bI_t ha] at h168
      by_cases hh : vHas (rW (mI μ 1302)) m t
      · simp only [bI_t hh] at h188
        rw [fWinP_yes ⟨ha, hh⟩] at hi
        by_cases hlt : (fWinP (rW (mI μ 1302)) n t m).2 < fGroup (rW (mI μ 1302)) t (vRec (rW (mI μ 1302)) m t) n
        · rw [if_pos hlt] at hi
          simp (disch := omega) only [e_191_0, e_191_1, e_191_2, e_191_3, e_191_4, e_191_5, e_191_9, e_191_10, e_191_13, e_191_16, e_191_17, e_191_19, e_191_22, e_191_25, e_191_26, e_191_28, e_191_29, e_191_32, e_191_35, e_191_36, e_191_38, e_191_39, e_191_42, e_191_45, e_191_46, e_191_48, e_191_50, e_191_51, e_191_54, e_191_56, e_191_59, e_191_60, e_191_61, e_191_62, e_191_64, e_191_67, e_191_68, e_191_71, e_191_74, e_191_75, e_191_76, e_191_79, e_191_80, e_191_81, e_191_84, e_191_85, e_191_88, e_191_89, hM.1, Nat.add_zero, s_165 hM, hn, h168, h188, h190, ge1, ule_t, true_or, or_true, nI_add, nI_mul, nI_sub, nI_clamp, nI_lt_t, nI_lt_f, nI_le_t, nI_le_f, nI_eq_t, nI_eq_f, vp_nI, tI, fI, not_true, not_false_iff, true_and, and_true, Classical.not_not, mS_uI, mS_uA, mS_uJ, mS_uR, mS_uX, mR_uI, mR_uA, mR_uJ, mR_uX, mX_uI, mX_uA, mX_uJ, mX_uR, mI_s, mI_n, mI_A, mI_An, mI_uJ, mI_uR, mI_uX, mJ_uI, mJ_uA, mJ_uR, mJ_uX, onR_s, kC_v, kC_n, kC_t, if_true]
          exact hi _
        · rw [if_neg hlt] at hi
          simp (disch := omega) only [e_191_0, e_191_1, e_191_2, e_191_3, e_191_4, e_191_5, e_191_9, e_191_10, e_191_13, e_191_16, e_191_17, e_191_19, e_191_22, e_191_25, e_191_26, e_191_28, e_191_29, e_191_32, e_191_35, e_191_36, e_191_38, e_191_39, e_191_42, e_191_45, e_191_46, e_191_48, e_191_50, e_191_51, e_191_54, e_191_56, e_191_59, e_191_60, e_191_61, e_191_62, e_191_64, e_191_67, e_191_68, e_191_71, e_191_74, e_191_75, e_191_76, e_191_79, e_191_80, e_191_81, e_191_84, e_191_85, e_191_88, e_191_89, hM.1, Nat.add_zero, s_165 hM, hn, h168, h188, h190, ge1, ule_t, true_or, or_true, nI_add, nI_mul, nI_sub, nI_clamp, nI_lt_t, nI_lt_f, nI_le_t, nI_le_f, nI_eq_t, nI_eq_f, vp_nI, tI, fI, not_true, not_false_iff, true_and, and_true, Classical.not_not, mS_uI, mS_uA, mS_uJ, mS_uR, mS_uX, mR_uI, mR_uA, mR_uJ, mR_uX, mX_uI, mX_uA, mX_uJ, mX_uR, mI_s, mI_n, mI_A, mI_An, mI_uJ, mI_uR, mI_uX, mJ_uI, mJ_uA, mJ_uR, mJ_uX, onR_s, kC_v, kC_n, kC_t, if_false]
          exact hi _
      · simp only [bI_f hh] at h188
        rw [fWinP_no (fun z => hh z.2)] at hi
        simp (disch := omega) only [e_191_0, e_191_1, e_191_2, e_191_3, e_191_4, e_191_5, e_191_9, e_191_10, e_191_13, e_191_16, e_191_17, e_191_19, e_191_22, e_191_25, e_191_26, e_191_28, e_191_29, e_191_32, e_191_35, e_191_36, e_191_38, e_191_39, e_191_42, e_191_45, e_191_46, e_191_48, e_191_50, e_191_51, e_191_54, e_191_56, e_191_59, e_191_60, e_191_61, e_191_62, e_191_64, e_191_67, e_191_68, e_191_71, e_191_74, e_191_75, e_191_76, e_191_79, e_191_80, e_191_81, e_191_84, e_191_85, e_191_88, e_191_89, hM.1, Nat.add_zero, s_165 hM, hn, h168, h188, ge1, ule_t, true_or, or_true, nI_add, nI_mul, nI_sub, nI_clamp, nI_lt_t, nI_lt_f, nI_le_t, nI_le_f, nI_eq_t, nI_eq_f, vp_nI, tI, fI, not_true, not_false_iff, true_and, and_true, Classical.not_not, mS_uI, mS_uA, mS_uJ, mS_uR, mS_uX, mR_uI, mR_uA, mR_uJ, mR_uX, mX_uI, mX_uA, mX_uJ, mX_uR, mI_s, mI_n, mI_A, mI_An, mI_uJ, mI_uR, mI_uX, mJ_uI, mJ_uA, mJ_uR, mJ_uX, onR_s, kC_v, kC_n, kC_t, if_false]
        exact hi _
    · simp only [bI_f ha] at h168
      rw [fWinP_no (fun z => ha z.1)] at hi
      simp (disch := omega) only [e_191_0, e_191_1, e_191_2, e_191_3, e_191_4, e_191_5, e_191_9, e_191_10, e_191_13, e_191_16, e_191_17, e_191_19, e_191_22, e_191_25, e_191_26, e_191_28, e_191_29, e_191_32, e_191_35, e_191_36, e_191_38, e_191_39, e_191_42, e_191_45, e_191_46, e_191_48, e_191_50, e_191_51, e_191_54, e_191_56, e_191_59, e_191_60, e_191_61, e_191_62, e_191_64, e_191_67, e_191_68, e_191_71, e_191_74, e_191_75, e_191_76, e_191_79, e_191_80, e_191_81, e_191_84, e_191_85, e_191_88, e_191_89, hM.1, Nat.add_zero, s_165 hM, hn, h168, ge1, ule_t, true_or, or_true, nI_add, nI_mul, nI_sub, nI_clamp, nI_lt_t, nI_lt_f, nI_le_t, nI_le_f, nI_eq_t, nI_eq_f, vp_nI, tI, fI, not_true, not_false_iff, true_and, and_true, Classical.not_not, mS_uI, mS_uA, mS_uJ, mS_uR, mS_uX, mR_uI, mR_uA, mR_uJ, mR_uX, mX_uI, mX_uA, mX_uJ, mX_uR, mI_s, mI_n, mI_A, mI_An, mI_uJ, mI_uR, mI_uX, mJ_uI, mJ_uA, mJ_uR, mJ_uX, onR_s, kC_v, kC_n, kC_t, if_false]
      exact hi _
theorem s_191 (hM : ShM μ) (hn : mI μ 1302 2 = nI n) (h6 : n ≤ 6) (hV : okV (rW (mI μ 1302)) n) (hq9 : mI μ 1302 1 = nI q) (hq6 : q ≤ 6) : Ev (d + 5) 191 [.ref 1298, .int t] μ Q = Q (some (some (.int (oN (fWin (rW (mI μ 1302)) n q t))))) μ := by
  rw [in_191]
  simp (disch := omega) only [e_191_0, e_191_1, e_191_2, e_191_3, e_191_4, e_191_5, e_191_9, e_191_10, e_191_13, e_191_16, e_191_17, e_191_19, e_191_22, e_191_25, e_191_26, e_191_28, e_191_29, e_191_32, e_191_35, e_191_36, e_191_38, e_191_39, e_191_42, e_191_45, e_191_46, e_191_48, e_191_50, e_191_51, e_191_54, e_191_56, e_191_59, e_191_60, e_191_61, e_191_62, e_191_64, e_191_67, e_191_68, e_191_71, e_191_74, e_191_75, e_191_76, e_191_79, e_191_80, e_191_81, e_191_84, e_191_85, e_191_88, e_191_89, ge1, ule_t, true_or, or_true, nI_add, nI_mul, nI_sub, nI_clamp, nI_lt_t, nI_lt_f, nI_le_t, nI_le_f, nI_eq_t, nI_eq_f, vp_nI, tI, fI, not_true, not_false_iff, true_and, and_true, Classical.not_not]
  exact l_191 hM hn h6 hV hq9 hq6 n 0 none (by omega)
theorem s_192 (hM : ShM μ) (hn : mI μ 1302 2 = nI n) (h6 : n ≤ 6) (hV : okV (rW (mI μ 1302)) n) (hq9 : mI μ 1302 1 = nI q) (hq6 : q ≤ 6) (hm : m < n) : Ev (d + 6) 192 [.ref 1298, .int (nI m)] μ Q = Q (some (some (.int (bI (fOff (rW (mI μ 1302)) n q m = true))))) μ := by
  have h168 := fun (Q : Po) => s_168 (d := d + 3) (Q := Q) hM (show m < 6 by omega) (okV_le hV (show m + 1 ≤ n by omega))
  have h191 := fun (Q : Po) (t : Int32) => s_191 (d := d) (Q := Q) (t := t) hM hn h6 hV hq9 hq6
  obtain ⟨v1, v2, v3, v4⟩ := hV m hm
  have t1 := Int32.le_trans v2 v3
  rw [in_192]
  cases hw : fWin (rW (mI μ 1302)) n q (rW (mI μ 1302) m 1) with
  | none =>
    have hf : fOff (rW (mI μ 1302)) n q m = false := by unfold fOff; rw [hw]
    by_cases ha : vAct (rW (mI μ 1302)) m
    · simp only [bI_t ha] at h168
      simp (disch := omega) only [e_192_0, e_192_1, e_192_2, e_192_5, e_192_6, e_192_7, e_192_8, e_192_11, e_192_12, e_192_13, e_192_14, e_192_17, e_192_20, e_192_21, e_192_22, e_192_25, e_192_26, e_192_27, e_192_28, e_192_31, e_192_32, e_192_33, e_192_34, e_192_37, e_192_40, e_192_41, e_192_44, e_192_45, hM.1, s_169 hM, h168, h191, hw, hf, oN, ge1, ule_t, true_or, or_true, nI_add, nI_mul, nI_sub, nI_clamp, nI_lt_t, nI_lt_f, nI_le_t, nI_le_f, nI_eq_t, nI_eq_f, vp_nI, tI, fI, not_true, not_false_iff, true_and, and_true, Classical.not_not, mS_uI, mS_uA, mS_uJ, mS_uR, mS_uX, mR_uI, mR_uA, mR_uJ, mR_uX, mX_uI, mX_uA, mX_uJ, mX_uR, mI_s, mI_n, mI_A, mI_An, mI_uJ, mI_uR, mI_uX, mJ_uI, mJ_uA, mJ_uR, mJ_uX, onR_s, kC_v, kC_n, kC_t]
      simp [bI]
    · simp only [bI_f ha] at h168
      simp (disch := omega) only [e_192_0, e_192_1, e_192_2, e_192_5, e_192_6, e_192_7, e_192_8, e_192_11, e_192_12, e_192_13, e_192_14, e_192_17, e_192_20, e_192_21, e_192_22, e_192_25, e_192_26, e_192_27, e_192_28, e_192_31, e_192_32, e_192_33, e_192_34, e_192_37, e_192_40, e_192_41, e_192_44, e_192_45, hM.1, s_169 hM, h168, h191, hw, hf, oN, ge1, ule_t, true_or, or_true, nI_add, nI_mul, nI_sub, nI_clamp, nI_lt_t, nI_lt_f, nI_le_t, nI_le_f, nI_eq_t, nI_eq_f, vp_nI, tI, fI, not_true, not_false_iff, true_and, and_true, Classical.not_not, mS_uI, mS_uA, mS_uJ, mS_uR, mS_uX, mR_uI, mR_uA, mR_uJ, mR_uX, mX_uI, mX_uA, mX_uJ, mX_uR, mI_s, mI_n, mI_A, mI_An, mI_uJ, mI_uR, mI_uX, mJ_uI, mJ_uA, mJ_uR, mJ_uX, onR_s, kC_v, kC_n, kC_t]
      simp [bI]
  | some w =>
    obtain ⟨w1, w2, w3⟩ := fWin_some hw
    have hf : fOff (rW (mI μ 1302)) n q m = (decide (vAct (rW (mI μ 1302)) m) && !decide (vRec (rW (mI μ 1302)) m (rW (mI μ 1302) m 1) = vRec (rW (mI μ 1302)) w (rW (mI μ 1302) m 1))) := by unfold fOff; rw [hw]
    have hm1 : (nI w = -1) = False := nI_m1 (by omega)
    have h189 := fun (Q : Po) (m9 : Nat) (hm9 : m9 < 6) => s_189 (d := d + 3) (Q := Q) hM hm9 t1 v4
    by_cases ha : vAct (rW (mI μ 1302)) m
    · simp only [bI_t ha] at h168
      by_cases hr : vRec (rW (mI μ 1302)) m (rW (mI μ 1302) m 1) = vRec (rW (mI μ 1302)) w (rW (mI μ 1302) m 1)
      · simp (disch := omega) only [e_192_0, e_192_1, e_192_2, e_192_5, e_192_6, e_192_7, e_192_8, e_192_11, e_192_12, e_192_13, e_192_14, e_192_17, e_192_20, e_192_21, e_192_22, e_192_25, e_192_26, e_192_27, e_192_28, e_192_31, e_192_32, e_192_33, e_192_34, e_192_37, e_192_40, e_192_41, e_192_44, e_192_45, hM.1, s_169 hM, h168, h191, h189, hw, hf, oN, hm1, hr, ge1, ule_t, true_or, or_true, nI_add, nI_mul, nI_sub, nI_clamp, nI_lt_t, nI_lt_f, nI_le_t, nI_le_f, nI_eq_t, nI_eq_f, vp_nI, tI, fI, not_true, not_false_iff, true_and, and_true, Classical.not_not, mS_uI, mS_uA, mS_uJ, mS_uR, mS_uX, mR_uI, mR_uA, mR_uJ, mR_uX, mX_uI, mX_uA, mX_uJ, mX_uR, mI_s, mI_n, mI_A, mI_An, mI_uJ, mI_uR, mI_uX, mJ_uI, mJ_uA, mJ_uR, mJ_uX, onR_s, kC_v, kC_n, kC_t]
        simp [bI]
      · rw [bI_t (show fOff (rW (mI μ 1302)) n q m = true by rw [hf, decide_eq_true ha, decide_eq_false hr]; rfl)]
        simp (disch := omega) only [e_192_0, e_192_1, e_192_2, e_192_5, e_192_6, e_192_7, e_192_8, e_192_11, e_192_12, e_192_13, e_192_14, e_192_17, e_192_20, e_192_21, e_192_22, e_192_25, e_192_26, e_192_27, e_192_28, e_192_31, e_192_32, e_192_33, e_192_34, e_192_37, e_192_40, e_192_41, e_192_44, e_192_45, hM.1, s_169 hM, h168, h191, h189, hw, oN, hm1, hr, ge1, ule_t, true_or, or_true, nI_add, nI_mul, nI_sub, nI_clamp, nI_lt_t, nI_lt_f, nI_le_t, nI_le_f, nI_eq_t, nI_eq_f, vp_nI, tI, fI, not_true, not_false_iff, true_and, and_true, Classical.not_not, mS_uI, mS_uA, mS_uJ, mS_uR, mS_uX, mR_uI, mR_uA, mR_uJ, mR_uX, mX_uI, mX_uA, mX_uJ, mX_uR, mI_s, mI_n, mI_A, mI_An, mI_uJ, mI_uR, mI_uX, mJ_uI, mJ_uA, mJ_uR, mJ_uX, onR_s, kC_v, kC_n, kC_t]
    · simp only [bI_f ha] at h168
      rw [bI_f (show ¬ fOff (rW (mI μ 1302)) n q m = true by rw [hf, decide_eq_false ha]; exact Bool.false_ne_true)]
      simp (disch := omega) only [e_192_0, e_192_1, e_192_2, e_192_5, e_192_6, e_192_7, e_192_8, e_192_11, e_192_12, e_192_13, e_192_14, e_192_17, e_192_20, e_192_21, e_192_22, e_192_25, e_192_26, e_192_27, e_192_28, e_192_31, e_192_32, e_192_33, e_192_34, e_192_37, e_192_40, e_192_41, e_192_44, e_192_45, hM.1, s_169 hM, h168, h191, hw, oN, hm1, ge1, ule_t, true_or, or_true, nI_add, nI_mul, nI_sub, nI_clamp, nI_lt_t, nI_lt_f, nI_le_t, nI_le_f, nI_eq_t, nI_eq_f, vp_nI, tI, fI, not_true, not_false_iff, true_and, and_true, Classical.not_not, mS_uI, mS_uA, mS_uJ, mS_uR, mS_uX, mR_uI, mR_uA, mR_uJ, mR_uX, mX_uI, mX_uA, mX_uJ, mX_uR, mI_s, mI_n, mI_A, mI_An, mI_uJ, mI_uR, mI_uX, mJ_uI, mJ_uA, mJ_uR, mJ_uX, onR_s, kC_v, kC_n, kC_t]
theorem l_193 (hM : ShM μ) (hn : mI μ 1302 2 = nI n) (h6 : n ≤ 6) (hV : okV (rW (mI μ 1302)) n) {w : Nat} (hw : w < n) (hwt : vHas (rW (mI μ 1302)) w t) : ∀ k m, m + k = n → EM 193 (d + 5) 12 [some (.ref 1298), some (.int t), some (.int but), some (.int (nI w)), some (.int (oN (fGivP (rW (mI μ 1302)) t (vRec (rW (mI μ 1302)) w t) but m))), some (.int (nI m))] [] μ (0, 0) Q = Q (some (some (.int (oN (fGivP (rW (mI μ 1302)) t (vRec (rW (mI μ 1302)) w t) but n))))) μ := by
  have hM0 := hM
  obtain ⟨p1, p2, p3, p4, p5, p6, p7, p8, p9, p10, p11, p12, p13, p14, p15, p16, p17, p18, p19, p20, p21⟩ := hM0
  have hwm1 : (nI w = -1) = False := nI_m1 (by omega)
  intro k
  induction k with
  | zero =>
    intro m hm
    obtain rfl : m = n := by omega
    rw [e_193_12]
    simp (disch := omega) only [e_193_0, e_193_1, e_193_2, e_193_5, e_193_6, e_193_7, e_193_9, e_193_10, e_193_14, e_193_15, e_193_18, e_193_21, e_193_22, e_193_23, e_193_26, e_193_28, e_193_29, e_193_32, e_193_33, e_193_35, e_193_38, e_193_41, e_193_42, e_193_44, e_193_47, e_193_48, e_193_51, e_193_52, e_193_54, e_193_55, e_193_58, e_193_59, e_193_60, e_193_61, e_193_64, e_193_67, e_193_70, e_193_72, e_193_73, e_193_76, e_193_77, e_193_79, e_193_80, e_193_83, e_193_84, e_193_86, e_193_87, e_193_90, e_193_93, e_193_95, e_193_97, e_193_100, e_193_103, e_193_105, hM.1, Nat.add_zero, s_165 hM, hn, ge1, ule_t, true_or, or_true, nI_add, nI_mul, nI_sub, nI_clamp, nI_lt_t, nI_lt_f, nI_le_t, nI_le_f, nI_eq_t, nI_eq_f, vp_nI, tI, fI, not_true, not_false_iff, true_and, and_true, Classical.not_not, mS_uI, mS_uA, mS_uJ, mS_uR, mS_uX, mR_uI, mR_uA, mR_uJ, mR_uX, mX_uI, mX_uA, mX_uJ, mX_uR, mI_s, mI_n, mI_A, mI_An, mI_uJ, mI_uR, mI_uX, mJ_uI, mJ_uA, mJ_uR, mJ_uX, onR_s, kC_v, kC_n, kC_t]
  | succ k ih =>
    intro m hm
    rw [e_193_12]
    have h168 := fun (Q : Po) => s_168 (d := d + 3) (Q := Q) hM (show m < 6 by omega) (okV_le hV (show m + 1 ≤ n by omega))
    obtain ⟨v1, v2, v3, v4⟩ := hV m (by omega)
    obtain ⟨u1, u2, u3, u4⟩ := hV w hw
    have h189 := fun (Q : Po) (m9 : Nat) (hm9 : m9 < 6) => s_189 (d := d + 3) (Q := Q) hM hm9 (Int32.le_trans u2 hwt.1) (Int32.le_trans hwt.2 u4)
    have h166 := fun (Q : Po) (m9 : Nat) (hm9 : 3 + 64 * m9 + 3 < 1782) => s_166 (d := d + 4) (Q := Q) (m := m9) (k := 3) hM hm9
    have e1 := fGivP.eq_2 (rW (mI μ 1302)) t (vRec (rW (mI μ 1302)) w t) but m
    have hi := ih (m + 1) (by omega)
    by_cases hb : nI m = but
    · rw [if_neg (fun z => z.1 hb)] at e1
      rw [e1] at hi
      simp (disch := omega) only [e_193_0, e_193_1, e_193_2, e_193_5, e_193_6, e_193_7, e_193_9, e_193_10, e_193_14, e_193_15, e_193_18, e_193_21, e_193_22, e_193_23, e_193_26, e_193_28, e_193_29, e_193_32, e_193_33, e_193_35, e_193_38, e_193_41, e_193_42, e_193_44, e_193_47, e_193_48, e_193_51, e_193_52, e_193_54, e_193_55, e_193_58, e_193_59, e_193_60, e_193_61, e_193_64, e_193_67, e_193_70, e_193_72, e_193_73, e_193_76, e_193_77, e_193_79, e_193_80, e_193_83, e_193_84, e_193_86, e_193_87, e_193_90, e_193_93, e_193_95, e_193_97, e_193_100, e_193_103, e_193_105, hM.1, Nat.add_zero, s_165 hM, hn, hwm1, eq_true hb, ge1, ule_t, true_or, or_true, nI_add, nI_mul, nI_sub, nI_clamp, nI_lt_t, nI_lt_f, nI_le_t, nI_le_f, nI_eq_t, nI_eq_f, vp_nI, tI, fI, not_true, not_false_iff, true_and, and_true, Classical.not_not, mS_uI, mS_uA, mS_uJ, mS_uR, mS_uX, mR_uI, mR_uA, mR_uJ, mR_uX, mX_uI, mX_uA, mX_uJ, mX_uR, mI_s, mI_n, mI_A, mI_An, mI_uJ, mI_uR, mI_uX, mJ_uI, mJ_uA, mJ_uR, mJ_uX, onR_s, kC_v, kC_n, kC_t]
      exact hi
    · by_cases ha : vAct (rW (mI μ 1302)) m
      · simp only [bI_t ha] at h168
        by_cases hx : rW (mI μ 1302) m 1 = t
        · by_cases hr : vRec (rW (mI μ 1302)) m t = vRec (rW (mI μ 1302)) w t
          · cases hd : fGivP (rW (mI μ 1302)) t (vRec (rW (mI μ 1302)) w t) but m with
            | none =>
              rw [if_pos ⟨hb, ha, hx, hr, by rw [hd]⟩] at e1
              rw [e1] at hi
              simp (disch := omega) only [e_193_0, e_193_1, e_193_2, e_193_5, e_193_6, e_193_7, e_193_9, e_193_10, e_193_14, e_193_15, e_193_18, e_193_21, e_193_22, e_193_23, e_193_26, e_193_28, e_193_29, e_193_32, e_193_33, e_193_35, e_193_38, e_193_41, e_193_42, e_193_44, e_193_47, e_193_48, e_193_51, e_193_52, e_193_54, e_193_55, e_193_58, e_193_59, e_193_60, e_193_61, e_193_64, e_193_67, e_193_70, e_193_72, e_193_73, e_193_76, e_193_77, e_193_79, e_193_80, e_193_83, e_193_84, e_193_86, e_193_87, e_193_90, e_193_93, e_193_95, e_193_97, e_193_100, e_193_103, e_193_105, hM.1, Nat.add_zero, s_165 hM, s_169 hM, hn, hwm1, eq_false hb, h168, h189, hx, hr, oN, ge1, ule_t, true_or, or_true, nI_add, nI_mul, nI_sub, nI_clamp, nI_lt_t, nI_lt_f, nI_le_t, nI_le_f, nI_eq_t, nI_eq_f, vp_nI, tI, fI, not_true, not_false_iff, true_and, and_true, Classical.not_not, mS_uI, mS_uA, mS_uJ, mS_uR, mS_uX, mR_uI, mR_uA, mR_uJ, mR_uX, mX_uI, mX_uA, mX_uJ, mX_uR, mI_s, mI_n, mI_A, mI_An, mI_uJ, mI_uR, mI_uX, mJ_uI, mJ_uA, mJ_uR, mJ_uX, onR_s, kC_v, kC_n, kC_t]
              exact hi
            | some j =>
              have hj := fGivP_lt hd
              have hm1 : (nI j = -1) = False := nI_m1 (by omega)
              by_cases hlt : rW (mI μ 1302) m 3 < rW (mI μ 1302) j 3
              · rw [if_pos ⟨hb, ha, hx, hr, by rw [hd]; exact decide_eq_true hlt⟩] at e1
                rw [e1] at hi
                simp (disch := omega) only [e_193_0, e_193_1, e_193_2, e_193_5, e_193_6, e_193_7, e_193_9, e_193_10, e_193_14, e_193_15, e_193_18, e_193_21, e_193_22, e_193_23, e_193_26, e_193_28, e_193_29, e_193_32, e_193_33, e_193_35, e_193_38, e_193_41, e_193_42, e_193_44, e_193_47, e_193_48, e_193_51, e_193_52, e_193_54, e_193_55, e_193_58, e_193_59, e_193_60, e_193_61, e_193_64, e_193_67, e_193_70, e_193_72, e_193_73, e_193_76, e_193_77, e_193_79, e_193_80, e_193_83, e_193_84, e_193_86, e_193_87, e_193_90, e_193_93, e_193_95, e_193_97, e_193_100, e_193_103, e_193_105, hM.1, Nat.add_zero, s_165 hM, s_169 hM, hn, hwm1, eq_false hb, h168, h189, h166, hx, hr, oN, hm1, Int32.not_le.mpr hlt, ge1, ule_t, true_or, or_true, nI_add, nI_mul, nI_sub, nI_clamp, nI_lt_t, nI_lt_f, nI_le_t, nI_le_f, nI_eq_t, nI_eq_f, vp_nI, tI, fI, not_true, not_false_iff, true_and, and_true, Classical.not_not, mS_uI, mS_uA, mS_uJ, mS_uR, mS_uX, mR_uI, mR_uA, mR_uJ, mR_uX, mX_uI, mX_uA, mX_uJ, mX_uR, mI_s, mI_n, mI_A, mI_An, mI_uJ, mI_uR, mI_uX, mJ_uI, mJ_uA, mJ_uR, mJ_uX, onR_s, kC_v, kC_n, kC_t]
                exact hi
              · rw [if_neg (fun z => by have := z.2.2.2.2; rw [hd] at this; exact hlt (of_decide_eq_true this)), hd] at e1
                rw [e1] at hi
                simp (disch := omega) only [e_193_0, e_193_1, e_193_2, e_193_5, e_193_6, e_193_7, e_193_9, e_193_10, e_193_14, e_193_15, e_193_18, e_193_21, e_193_22, e_193_23, e_193_26, e_193_28, e_193_29, e_193_32, e_193_33, e_193_35, e_193_38, e_193_41, e_193_42, e_193_44, e_193_47, e_193_48, e_193_51, e_193_52, e_193_54, e_193_55, e_193_58, e_193_59, e_193_60, e_193_61, e_193_64, e_193_67, e_193_70, e_193_72, e_193_73, e_193_76, e_193_77, e_193_79, e_193_80, e_193_83, e_193_84, e_193_86, e_193_87, e_193_90, e_193_93, e_193_95, e_193_97, e_193_100, e_193_103, e_193_105, hM.1, Nat.add_zero, s_165 hM, s_169 hM, hn, hwm1, eq_false hb, h168, h189, h166, hx, hr, oN, hm1, Int32.not_lt.mp hlt, ge1, ule_t, true_or, or_true, nI_add, nI_mul, nI_sub, nI_clamp, nI_lt_t, nI_lt_f, nI_le_t, nI_le_f, nI_eq_t, nI_eq_f, vp_nI, tI, fI, not_true, not_false_iff, true_and, and_true, Classical.not_not, mS_uI, mS_uA, mS_uJ, mS_uR, mS_uX, mR_uI, mR_uA, mR_uJ, mR_uX, mX_uI, mX_uA, mX_uJ, mX_uR, mI_s, mI_n, mI_A, mI_An, mI_uJ, mI_uR, mI_uX, mJ_uI, mJ_uA, mJ_uR, mJ_uX, onR_s, kC_v, kC_n, kC_t]
                exact hi
          · rw [if_neg (fun z => hr z.2.2.2.1)] at e1
            rw [e1] at hi
            simp (disch := omega) only [e_193_0, e_193_1, e_193_2, e_193_5, e_193_6, e_193_7, e_193_9, e_193_10, e_193_14, e_193_15, e_193_18, e_193_21, e_193_22, e_193_23, e_193_26, e_193_28, e_193_29, e_193_32, e_193_33, e_193_35, e_193_38, e_193_41, e_193_42, e_193_44, e_193_47, e_193_48, e_193_51, e_193_52, e_193_54, e_193_55, e_193_58, e_193_59, e_193_60, e_193_61, e_193_64, e_193_67, e_193_70, e_193_72, e_193_73, e_193_76, e_193_77, e_193_79, e_193_80, e_193_83, e_193_84, e_193_86, e_193_87, e_193_90, e_193_93, e_193_95, e_193_97, e_193_100, e_193_103, e_193_105, hM.1, Nat.add_zero, s_165 hM, s_169 hM, hn, hwm1, eq_false hb, h168, h189, hx, hr, ge1, ule_t, true_or, or_true, nI_add, nI_mul, nI_sub, nI_clamp, nI_lt_t, nI_lt_f, nI_le_t, nI_le_f, nI_eq_t, nI_eq_f, vp_nI, tI, fI, not_true, not_false_iff, true_and, and_true, Classical.not_not, mS_uI, mS_uA, mS_uJ, mS_uR, mS_uX, mR_uI, mR_uA, mR_uJ, mR_uX, mX_uI, mX_uA, mX_uJ, mX_uR, mI_s, mI_n, mI_A, mI_An, mI_uJ, mI_uR, mI_uX, mJ_uI, mJ_uA, mJ_uR, mJ_uX, onR_s, kC_v, kC_n, kC_t]
            exact hi
        · rw [if_neg (fun z => hx z.2.2.1)] at e1
          rw [e1] at hi
          simp (disch := omega) only [e_193_0, e_193_1, e_193_2, e_193_5, e_193_6, e_193_7, e_193_9, e_193_10, e_193_14, e_193_15, e_193_18, e_193_21, e_193_22, e_193_23, e_193_26, e_193_28, e_193_29, e_193_32, e_193_33, e_193_35, e_193_38, e_193_41, e_193_42, e_193_44, e_193_47, e_193_48, e_193_51, e_193_52, e_193_54, e_193_55, e_193_58, e_193_59, e_193_60, e_193_61, e_193_64, e_193_67, e_193_70, e_193_72, e_193_73, e_193_76, e_193_77, e_193_79, e_193_80, e_193_83, e_193_84, e_193_86, e_193_87, e_193_90, e_193_93, e_193_95, e_193_97, e_193_100, e_193_103, e_193_105, hM.1, Nat.add_zero, s_165 hM, s_169 hM, hn, hwm1, eq_false hb, h168, hx, ge1, ule_t, true_or, or_true, nI_add, nI_mul, nI_sub, nI_clamp, nI_lt_t, nI_lt_f, nI_le_t, nI_le_f, nI_eq_t, nI_eq_f, vp_nI, tI, fI, not_true, not_false_iff, true_and, and_true, Classical.not_not, mS_uI, mS_uA, mS_uJ, mS_uR, mS_uX, mR_uI, mR_uA, mR_uJ, mR_uX, mX_uI, mX_uA, mX_uJ, mX_uR, mI_s, mI_n, mI_A, mI_An, mI_uJ, mI_uR, mI_uX, mJ_uI, mJ_uA, mJ_uR, mJ_uX, onR_s, kC_v, kC_n, kC_t]
          exact hi
      · simp only [bI_f ha] at h168
        rw [if_neg (fun z => ha z.2.1)] at e1
        rw [e1] at hi
        simp (disch := omega) only [e_193_0, e_193_1, e_193_2, e_193_5, e_193_6, e_193_7, e_193_9, e_193_10, e_193_14, e_193_15, e_193_18, e_193_21, e_193_22, e_193_23, e_193_26, e_193_28, e_193_29, e_193_32, e_193_33, e_193_35, e_193_38, e_193_41, e_193_42, e_193_44, e_193_47, e_193_48, e_193_51, e_193_52, e_193_54, e_193_55, e_193_58, e_193_59, e_193_60, e_193_61, e_193_64, e_193_67, e_193_70, e_193_72, e_193_73, e_193_76, e_193_77, e_193_79, e_193_80, e_193_83, e_193_84, e_193_86, e_193_87, e_193_90, e_193_93, e_193_95, e_193_97, e_193_100, e_193_103, e_193_105, hM.1, Nat.add_zero, s_165 hM, hn, hwm1, eq_false hb, h168, ge1, ule_t, true_or, or_true, nI_add, nI_mul, nI_sub, nI_clamp, nI_lt_t, nI_lt_f, nI_le_t, nI_le_f, nI_eq_t, nI_eq_f, vp_nI, tI, fI, not_true, not_false_iff, true_and, and_true, Classical.not_not, mS_uI, mS_uA, mS_uJ, mS_uR, mS_uX, mR_uI, mR_uA, mR_uJ, mR_uX, mX_uI, mX_uA, mX_uJ, mX_uR, mI_s, mI_n, mI_A, mI_An, mI_uJ, mI_uR, mI_uX, mJ_uI, mJ_uA, mJ_uR, mJ_uX, onR_s, kC_v, kC_n, kC_t]
        exact hi
theorem s_193 (hM : ShM μ) (hn : mI μ 1302 2 = nI n) (h6 : n ≤ 6) (hV : okV (rW (mI μ 1302)) n) (hq9 : mI μ 1302 1 = nI q) (hq6 : q ≤ 6) : Ev (d + 6) 193 [.ref 1298, .int t, .int but] μ Q = Q (some (some (.int (oN (fGiv (rW (mI μ 1302)) n q t but))))) μ := by
  have h191 := fun (Q : Po) (t : Int32) => s_191 (d := d) (Q := Q) (t := t) hM hn h6 hV hq9 hq6
  rw [in_193]
  cases hw : fWin (rW (mI μ 1302)) n q t with
  | none =>
    simp (disch := omega) only [e_193_0, e_193_1, e_193_2, e_193_5, e_193_6, e_193_7, e_193_9, e_193_10, e_193_14, e_193_15, e_193_18, e_193_21, e_193_22, e_193_23, e_193_26, e_193_28, e_193_29, e_193_32, e_193_33, e_193_35, e_193_38, e_193_41, e_193_42, e_193_44, e_193_47, e_193_48, e_193_51, e_193_52, e_193_54, e_193_55, e_193_58, e_193_59, e_193_60, e_193_61, e_193_64, e_193_67, e_193_70, e_193_72, e_193_73, e_193_76, e_193_77, e_193_79, e_193_80, e_193_83, e_193_84, e_193_86, e_193_87, e_193_90, e_193_93, e_193_95, e_193_97, e_193_100, e_193_103, e_193_105, hM.1, h191, hw, oN, fGiv, ge1, ule_t, true_or, or_true, nI_add, nI_mul, nI_sub, nI_clamp, nI_lt_t, nI_lt_f, nI_le_t, nI_le_f, nI_eq_t, nI_eq_f, vp_nI, tI, fI, not_true, not_false_iff, true_and, and_true, Classical.not_not, mS_uI, mS_uA, mS_uJ, mS_uR, mS_uX, mR_uI, mR_uA, mR_uJ, mR_uX, mX_uI, mX_uA, mX_uJ, mX_uR, mI_s, mI_n, mI_A, mI_An, mI_uJ, mI_uR, mI_uX, mJ_uI, mJ_uA, mJ_uR, mJ_uX, onR_s, kC_v, kC_n, kC_t]
    rw [e_193_12]
    by_cases hn0 : n = 0
    · subst hn0
      simp (disch := omega) only [e_193_0, e_193_1, e_193_2, e_193_5, e_193_6, e_193_7, e_193_9, e_193_10, e_193_14, e_193_15, e_193_18, e_193_21, e_193_22, e_193_23, e_193_26, e_193_28, e_193_29, e_193_32, e_193_33, e_193_35, e_193_38, e_193_41, e_193_42, e_193_44, e_193_47, e_193_48, e_193_51, e_193_52, e_193_54, e_193_55, e_193_58, e_193_59, e_193_60, e_193_61, e_193_64, e_193_67, e_193_70, e_193_72, e_193_73, e_193_76, e_193_77, e_193_79, e_193_80, e_193_83, e_193_84, e_193_86, e_193_87, e_193_90, e_193_93, e_193_95, e_193_97, e_193_100, e_193_103, e_193_105, hM.1, s_165 hM, hn, ge1, ule_t, true_or, or_true, nI_add, nI_mul, nI_sub, nI_clamp, nI_lt_t, nI_lt_f, nI_le_t, nI_le_f, nI_eq_t, nI_eq_f, vp_nI, tI, fI, not_true, not_false_iff, true_and, and_true, Classical.not_not, mS_uI, mS_uA, mS_uJ, mS_uR, mS_uX, mR_uI, mR_uA, mR_uJ, mR_uX, mX_uI, mX_uA, mX_uJ, mX_uR, mI_s, mI_n, mI_A, mI_An, mI_uJ, mI_uR, mI_uX, mJ_uI, mJ_uA, mJ_uR, mJ_uX, onR_s, kC_v, kC_n, kC_t]
    · simp (disch := omega) only [e_193_0, e_193_1, e_193_2, e_193_5, e_193_6, e_193_7, e_193_9, e_193_10, e_193_14, e_193_15, e_193_18, e_193_21, e_193_22, e_193_23, e_193_26, e_193_28, e_193_29, e_193_32, e_193_33, e_193_35, e_193_38, e_193_41, e_193_42, e_193_44, e_193_47, e_193_48, e_193_51, e_193_52, e_193_54, e_193_55, e_193_58, e_193_59, e_193_60, e_193_61, e_193_64, e_193_67, e_193_70, e_193_72, e_193_73, e_193_76, e_193_77, e_193_79, e_193_80, e_193_83, e_193_84, e_193_86, e_193_87, e_193_90, e_193_93, e_193_95, e_193_97, e_193_100, e_193_103, e_193_105, hM.1, s_165 hM, hn, ge1, ule_t, true_or, or_true, nI_add, nI_mul, nI_sub, nI_clamp, nI_lt_t, nI_lt_f, nI_le_t, nI_le_f, nI_eq_t, nI_eq_f, vp_nI, tI, fI, not_true, not_false_iff, true_and, and_true, Classical.not_not, mS_uI, mS_uA, mS_uJ, mS_uR, mS_uX, mR_uI, mR_uA, mR_uJ, mR_uX, mX_uI, mX_uA, mX_uJ, mX_uR, mI_s, mI_n, mI_A, mI_An, mI_uJ, mI_uR, mI_uX, mJ_uI, mJ_uA, mJ_uR, mJ_uX, onR_s, kC_v, kC_n, kC_t]
  | some w =>
    obtain ⟨w1, w2, w3⟩ := fWin_some hw
    simp (disch := omega) only [e_193_0, e_193_1, e_193_2, e_193_5, e_193_6, e_193_7, e_193_9, e_193_10, e_193_14, e_193_15, e_193_18, e_193_21, e_193_22, e_193_23, e_193_26, e_193_28, e_193_29, e_193_32, e_193_33, e_193_35, e_193_38, e_193_41, e_193_42, e_193_44, e_193_47, e_193_48, e_193_51, e_193_52, e_193_54, e_193_55, e_193_58, e_193_59, e_193_60, e_193_61, e_193_64, e_193_67, e_193_70, e_193_72, e_193_73, e_193_76, e_193_77, e_193_79, e_193_80, e_193_83, e_193_84, e_193_86, e_193_87, e_193_90, e_193_93, e_193_95, e_193_97, e_193_100, e_193_103, e_193_105, hM.1, h191, hw, oN, fGiv, ge1, ule_t, true_or, or_true, nI_add, nI_mul, nI_sub, nI_clamp, nI_lt_t, nI_lt_f, nI_le_t, nI_le_f, nI_eq_t, nI_eq_f, vp_nI, tI, fI, not_true, not_false_iff, true_and, and_true, Classical.not_not, mS_uI, mS_uA, mS_uJ, mS_uR, mS_uX, mR_uI, mR_uA, mR_uJ, mR_uX, mX_uI, mX_uA, mX_uJ, mX_uR, mI_s, mI_n, mI_A, mI_An, mI_uJ, mI_uR, mI_uX, mJ_uI, mJ_uA, mJ_uR, mJ_uX, onR_s, kC_v, kC_n, kC_t]
    exact l_193 (d := d) hM hn h6 hV w1 w3 n 0 (by omega)
/-- why a member cannot be healed -/
def fStop (V : VW) (n q m : Nat) : Nat := if V m 2 = nI 0 then 1 else if fWin V n q (V m 1) = none then 2 else if fOff V n q m = false then 3 else if fGiv V n q (V m 1) (nI m) = none then 4 else 0
theorem fGiv_lt {V : VW} {n q : Nat} {t but : Int32} {j : Nat} (h : fGiv V n q t but = some j) : j < n := by
  unfold fGiv at h
  split at h
  · cases h
  · exact fGivP_lt h
theorem s_194 (hM : ShM μ) (hn : mI μ 1302 2 = nI n) (h6 : n ≤ 6) (hV : okV (rW (mI μ 1302)) n) (hq9 : mI μ 1302 1 = nI q) (hq6 : q ≤ 6) (hm : m < n) : Ev (d + 7) 194 [.ref 1298, .int (nI m)] μ Q = Q (some (some (.int (nI (fStop (rW (mI μ 1302)) n q m))))) μ := by
  have h168 := fun (Q : Po) => s_168 (d := d + 4) (Q := Q) hM (show m < 6 by omega) (okV_le hV (show m + 1 ≤ n by omega))
  have h191 := fun (Q : Po) (t : Int32) => s_191 (d := d + 1) (Q := Q) (t := t) hM hn h6 hV hq9 hq6
  have h192 := fun (Q : Po) => s_192 (d := d) (Q := Q) hM hn h6 hV hq9 hq6 hm
  have h193 := fun (Q : Po) (t but : Int32) => s_193 (d := d) (Q := Q) (t := t) (but := but) hM hn h6 hV hq9 hq6
  rw [in_194]
  unfold fStop
  by_cases ha : rW (mI μ 1302) m 2 = nI 0
  · simp only [bI_f (show ¬ vAct (rW (mI μ 1302)) m from fun z => z ha)] at h168
    rw [if_pos ha]
    simp (disch := omega) only [e_194_0, e_194_1, e_194_2, e_194_5, e_194_8, e_194_9, e_194_10, e_194_11, e_194_12, e_194_13, e_194_16, e_194_19, e_194_20, e_194_23, e_194_24, e_194_25, e_194_26, e_194_27, e_194_30, e_194_33, e_194_34, e_194_35, e_194_36, e_194_37, e_194_38, e_194_41, e_194_42, e_194_45, e_194_46, e_194_49, e_194_50, e_194_53, e_194_54, hM.1, h168, ge1, ule_t, true_or, or_true, nI_add, nI_mul, nI_sub, nI_clamp, nI_lt_t, nI_lt_f, nI_le_t, nI_le_f, nI_eq_t, nI_eq_f, vp_nI, tI, fI, not_true, not_false_iff, true_and, and_true, Classical.not_not, mS_uI, mS_uA, mS_uJ, mS_uR, mS_uX, mR_uI, mR_uA, mR_uJ, mR_uX, mX_uI, mX_uA, mX_uJ, mX_uR, mI_s, mI_n, mI_A, mI_An, mI_uJ, mI_uR, mI_uX, mJ_uI, mJ_uA, mJ_uR, mJ_uX, onR_s, kC_v, kC_n, kC_t]
  · simp only [bI_t (show vAct (rW (mI μ 1302)) m from ha)] at h168
    rw [if_neg ha]
    cases hw : fWin (rW (mI μ 1302)) n q (rW (mI μ 1302) m 1) with
    | none =>
      rw [if_pos rfl]
      simp (disch := omega) only [e_194_0, e_194_1, e_194_2, e_194_5, e_194_8, e_194_9, e_194_10, e_194_11, e_194_12, e_194_13, e_194_16, e_194_19, e_194_20, e_194_23, e_194_24, e_194_25, e_194_26, e_194_27, e_194_30, e_194_33, e_194_34, e_194_35, e_194_36, e_194_37, e_194_38, e_194_41, e_194_42, e_194_45, e_194_46, e_194_49, e_194_50, e_194_53, e_194_54, hM.1, s_169 hM, h168, h191, hw, oN, ge1, ule_t, true_or, or_true, nI_add, nI_mul, nI_sub, nI_clamp, nI_lt_t, nI_lt_f, nI_le_t, nI_le_f, nI_eq_t, nI_eq_f, vp_nI, tI, fI, not_true, not_false_iff, true_and, and_true, Classical.not_not, mS_uI, mS_uA, mS_uJ, mS_uR, mS_uX, mR_uI, mR_uA, mR_uJ, mR_uX, mX_uI, mX_uA, mX_uJ, mX_uR, mI_s, mI_n, mI_A, mI_An, mI_uJ, mI_uR, mI_uX, mJ_uI, mJ_uA, mJ_uR, mJ_uX, onR_s, kC_v, kC_n, kC_t]
    | some w =>
      have hw1 := (fWin_some hw).1
      have hm1 : (nI w = -1) = False := nI_m1 (by omega)
      rw [if_neg (fun z => by cases z)]
      cases hf : fOff (rW (mI μ 1302)) n q m with
      | false =>
        simp only [bI_f (show ¬ fOff (rW (mI μ 1302)) n q m = true by rw [hf]; exact Bool.false_ne_true)] at h192
        rw [if_pos rfl]
        simp (disch := omega) only [e_194_0, e_194_1, e_194_2, e_194_5, e_194_8, e_194_9, e_194_10, e_194_11, e_194_12, e_194_13, e_194_16, e_194_19, e_194_20, e_194_23, e_194_24, e_194_25, e_194_26, e_194_27, e_194_30, e_194_33, e_194_34, e_194_35, e_194_36, e_194_37, e_194_38, e_194_41, e_194_42, e_194_45, e_194_46, e_194_49, e_194_50, e_194_53, e_194_54, hM.1, s_169 hM, h168, h191, h192, hw, oN, hm1, ge1, ule_t, true_or, or_true, nI_add, nI_mul, nI_sub, nI_clamp, nI_lt_t, nI_lt_f, nI_le_t, nI_le_f, nI_eq_t, nI_eq_f, vp_nI, tI, fI, not_true, not_false_iff, true_and, and_true, Classical.not_not, mS_uI, mS_uA, mS_uJ, mS_uR, mS_uX, mR_uI, mR_uA, mR_uJ, mR_uX, mX_uI, mX_uA, mX_uJ, mX_uR, mI_s, mI_n, mI_A, mI_An, mI_uJ, mI_uR, mI_uX, mJ_uI, mJ_uA, mJ_uR, mJ_uX, onR_s, kC_v, kC_n, kC_t]
      | true =>
        simp only [bI_t hf] at h192
        rw [if_neg (by decide)]
        cases hg : fGiv (rW (mI μ 1302)) n q (rW (mI μ 1302) m 1) (nI m) with
        | none =>
          rw [if_pos rfl]
          simp (disch := omega) only [e_194_0, e_194_1, e_194_2, e_194_5, e_194_8, e_194_9, e_194_10, e_194_11, e_194_12, e_194_13, e_194_16, e_194_19, e_194_20, e_194_23, e_194_24, e_194_25, e_194_26, e_194_27, e_194_30, e_194_33, e_194_34, e_194_35, e_194_36, e_194_37, e_194_38, e_194_41, e_194_42, e_194_45, e_194_46, e_194_49, e_194_50, e_194_53, e_194_54, hM.1, s_169 hM, h168, h191, h192, h193, hw, hg, oN, hm1, ge1, ule_t, true_or, or_true, nI_add, nI_mul, nI_sub, nI_clamp, nI_lt_t, nI_lt_f, nI_le_t, nI_le_f, nI_eq_t, nI_eq_f, vp_nI, tI, fI, not_true, not_false_iff, true_and, and_true, Classical.not_not, mS_uI, mS_uA, mS_uJ, mS_uR, mS_uX, mR_uI, mR_uA, mR_uJ, mR_uX, mX_uI, mX_uA, mX_uJ, mX_uR, mI_s, mI_n, mI_A, mI_An, mI_uJ, mI_uR, mI_uX, mJ_uI, mJ_uA, mJ_uR, mJ_uX, onR_s, kC_v, kC_n, kC_t]
        | some j =>
          have hj := fGiv_lt hg
          have hm2 : (nI j = -1) = False := nI_m1 (by omega)
          rw [if_neg (fun z => by cases z)]
          simp (disch := omega) only [e_194_0, e_194_1, e_194_2, e_194_5, e_194_8, e_194_9, e_194_10, e_194_11, e_194_12, e_194_13, e_194_16, e_194_19, e_194_20, e_194_23, e_194_24, e_194_25, e_194_26, e_194_27, e_194_30, e_194_33, e_194_34, e_194_35, e_194_36, e_194_37, e_194_38, e_194_41, e_194_42, e_194_45, e_194_46, e_194_49, e_194_50, e_194_53, e_194_54, hM.1, s_169 hM, h168, h191, h192, h193, hw, hg, oN, hm1, hm2, ge1, ule_t, true_or, or_true, nI_add, nI_mul, nI_sub, nI_clamp, nI_lt_t, nI_lt_f, nI_le_t, nI_le_f, nI_eq_t, nI_eq_f, vp_nI, tI, fI, not_true, not_false_iff, true_and, and_true, Classical.not_not, mS_uI, mS_uA, mS_uJ, mS_uR, mS_uX, mR_uI, mR_uA, mR_uJ, mR_uX, mX_uI, mX_uA, mX_uJ, mX_uR, mI_s, mI_n, mI_A, mI_An, mI_uJ, mI_uR, mI_uX, mJ_uI, mJ_uA, mJ_uR, mJ_uX, onR_s, kC_v, kC_n, kC_t]
theorem l_185 (hM : ShM μ) (hn : mI μ 1302 2 = nI n) (h6 : n ≤ 6) (hV : okV (rW (mI μ 1302)) n) : ∀ k m l4, m + k = n → EM 185 (d + 2) 4 [some (.ref 1298), some (.int g), some (.int (fExt (rW (mI μ 1302)) g m)), some (.int (nI m)), l4] [] μ (0, 0) Q = Q (some (some (.int (fExt (rW (mI μ 1302)) g n)))) μ := by
  intro k
  induction k with
  | zero =>
    intro m l4 hm
    obtain rfl : m = n := by omega
    rw [e_185_4]
    simp (disch := omega) only [e_185_0, e_185_1, e_185_2, e_185_3, e_185_5, e_185_6, e_185_9, e_185_12, e_185_13, e_185_14, e_185_17, e_185_20, e_185_23, e_185_24, e_185_25, e_185_28, e_185_30, e_185_31, e_185_32, e_185_35, e_185_37, e_185_40, e_185_41, e_185_44, e_185_45, e_185_47, e_185_50, e_185_53, e_185_54, e_185_56, e_185_59, e_185_60, e_185_63, e_185_66, e_185_67, hM.1, Nat.add_zero, s_165 hM, hn, ge1, ule_t, true_or, or_true, nI_add, nI_mul, nI_sub, nI_clamp, nI_lt_t, nI_lt_f, nI_le_t, nI_le_f, nI_eq_t, nI_eq_f, vp_nI, tI, fI, not_true, not_false_iff, true_and, and_true, Classical.not_not, mS_uI, mS_uA, mS_uJ, mS_uR, mS_uX, mR_uI, mR_uA, mR_uJ, mR_uX, mX_uI, mX_uA, mX_uJ, mX_uR, mI_s, mI_n, mI_A, mI_An, mI_uJ, mI_uR, mI_uX, mJ_uI, mJ_uA, mJ_uR, mJ_uX, onR_s, kC_v, kC_n, kC_t]
  | succ k ih =>
    intro m l4 hm
    rw [e_185_4]
    have h168 := fun (Q : Po) => s_168 (d := d) (Q := Q) hM (show m < 6 by omega) (okV_le hV (show m + 1 ≤ n by omega))
    have e1 := fExt.eq_2 (rW (mI μ 1302)) g m
    have hi := fun l4 => ih (m + 1) l4 (by omega)
    by_cases ha : rW (mI μ 1302) m 2 = nI 0
    · rw [if_pos ha] at e1
      simp only [e1] at hi
      simp only [bI_f (show ¬ vAct (rW (mI μ 1302)) m from fun z => z ha)] at h168
      simp (disch := omega) only [e_185_0, e_185_1, e_185_2, e_185_3, e_185_5, e_185_6, e_185_9, e_185_12, e_185_13, e_185_14, e_185_17, e_185_20, e_185_23, e_185_24, e_185_25, e_185_28, e_185_30, e_185_31, e_185_32, e_185_35, e_185_37, e_185_40, e_185_41, e_185_44, e_185_45, e_185_47, e_185_50, e_185_53, e_185_54, e_185_56, e_185_59, e_185_60, e_185_63, e_185_66, e_185_67, hM.1, Nat.add_zero, s_165 hM, hn, h168, ge1, ule_t, true_or, or_true, nI_add, nI_mul, nI_sub, nI_clamp, nI_lt_t, nI_lt_f, nI_le_t, nI_le_f, nI_eq_t, nI_eq_f, vp_nI, tI, fI, not_true, not_false_iff, true_and, and_true, Classical.not_not, mS_uI, mS_uA, mS_uJ, mS_uR, mS_uX, mR_uI, mR_uA, mR_uJ, mR_uX, mX_uI, mX_uA, mX_uJ, mX_uR, mI_s, mI_n, mI_A, mI_An, mI_uJ, mI_uR, mI_uX, mJ_uI, mJ_uA, mJ_uR, mJ_uX, onR_s, kC_v, kC_n, kC_t]
      exact hi _
    · rw [if_neg ha] at e1
      simp only [bI_t (show vAct (rW (mI μ 1302)) m from ha)] at h168
      by_cases hb : fExt (rW (mI μ 1302)) g m = -1
      · rw [if_pos hb] at e1
        simp only [e1] at hi
        simp (disch := omega) only [e_185_0, e_185_1, e_185_2, e_185_3, e_185_5, e_185_6, e_185_9, e_185_12, e_185_13, e_185_14, e_185_17, e_185_20, e_185_23, e_185_24, e_185_25, e_185_28, e_185_30, e_185_31, e_185_32, e_185_35, e_185_37, e_185_40, e_185_41, e_185_44, e_185_45, e_185_47, e_185_50, e_185_53, e_185_54, e_185_56, e_185_59, e_185_60, e_185_63, e_185_66, e_185_67, hM.1, Nat.add_zero, s_165 hM, s_169 hM, hn, h168, hb, ge1, ule_t, true_or, or_true, nI_add, nI_mul, nI_sub, nI_clamp, nI_lt_t, nI_lt_f, nI_le_t, nI_le_f, nI_eq_t, nI_eq_f, vp_nI, tI, fI, not_true, not_false_iff, true_and, and_true, Classical.not_not, mS_uI, mS_uA, mS_uJ, mS_uR, mS_uX, mR_uI, mR_uA, mR_uJ, mR_uX, mX_uI, mX_uA, mX_uJ, mX_uR, mI_s, mI_n, mI_A, mI_An, mI_uJ, mI_uR, mI_uX, mJ_uI, mJ_uA, mJ_uR, mJ_uX, onR_s, kC_v, kC_n, kC_t]
        exact hi _
      · rw [if_neg hb] at e1
        by_cases hg : g = nI 0
        · rw [if_pos hg] at e1
          simp only [e1] at hi
          subst hg
          simp (disch := omega) only [e_185_0, e_185_1, e_185_2, e_185_3, e_185_5, e_185_6, e_185_9, e_185_12, e_185_13, e_185_14, e_185_17, e_185_20, e_185_23, e_185_24, e_185_25, e_185_28, e_185_30, e_185_31, e_185_32, e_185_35, e_185_37, e_185_40, e_185_41, e_185_44, e_185_45, e_185_47, e_185_50, e_185_53, e_185_54, e_185_56, e_185_59, e_185_60, e_185_63, e_185_66, e_185_67, hM.1, Nat.add_zero, s_165 hM, s_169 hM, hn, h168, hb, ge1, ule_t, true_or, or_true, nI_add, nI_mul, nI_sub, nI_clamp, nI_lt_t, nI_lt_f, nI_le_t, nI_le_f, nI_eq_t, nI_eq_f, vp_nI, tI, fI, not_true, not_false_iff, true_and, and_true, Classical.not_not, mS_uI, mS_uA, mS_uJ, mS_uR, mS_uX, mR_uI, mR_uA, mR_uJ, mR_uX, mX_uI, mX_uA, mX_uJ, mX_uR, mI_s, mI_n, mI_A, mI_An, mI_uJ, mI_uR, mI_uX, mJ_uI, mJ_uA, mJ_uR, mJ_uX, onR_s, kC_v, kC_n, kC_t]
          exact hi _
        · rw [if_neg hg] at e1
          simp only [e1] at hi
          simp (disch := omega) only [e_185_0, e_185_1, e_185_2, e_185_3, e_185_5, e_185_6, e_185_9, e_185_12, e_185_13, e_185_14, e_185_17, e_185_20, e_185_23, e_185_24, e_185_25, e_185_28, e_185_30, e_185_31, e_185_32, e_185_35, e_185_37, e_185_40, e_185_41, e_185_44, e_185_45, e_185_47, e_185_50, e_185_53, e_185_54, e_185_56, e_185_59, e_185_60, e_185_63, e_185_66, e_185_67, hM.1, Nat.add_zero, s_165 hM, s_169 hM, hn, h168, hb, hg, ge1, ule_t, true_or, or_true, nI_add, nI_mul, nI_sub, nI_clamp, nI_lt_t, nI_lt_f, nI_le_t, nI_le_f, nI_eq_t, nI_eq_f, vp_nI, tI, fI, not_true, not_false_iff, true_and, and_true, Classical.not_not, mS_uI, mS_uA, mS_uJ, mS_uR, mS_uX, mR_uI, mR_uA, mR_uJ, mR_uX, mX_uI, mX_uA, mX_uJ, mX_uR, mI_s, mI_n, mI_A, mI_An, mI_uJ, mI_uR, mI_uX, mJ_uI, mJ_uA, mJ_uR, mJ_uX, onR_s, kC_v, kC_n, kC_t]
          exact hi _
theorem s_185 (hM : ShM μ) (hn : mI μ 1302 2 = nI n) (h6 : n ≤ 6) (hV : okV (rW (mI μ 1302)) n) : Ev (d + 3) 185 [.ref 1298, .int g] μ Q = Q (some (some (.int (fExt (rW (mI μ 1302)) g n)))) μ := by
  rw [in_185]
  simp (disch := omega) only [e_185_0, e_185_1, e_185_2, e_185_3, e_185_5, e_185_6, e_185_9, e_185_12, e_185_13, e_185_14, e_185_17, e_185_20, e_185_23, e_185_24, e_185_25, e_185_28, e_185_30, e_185_31, e_185_32, e_185_35, e_185_37, e_185_40, e_185_41, e_185_44, e_185_45, e_185_47, e_185_50, e_185_53, e_185_54, e_185_56, e_185_59, e_185_60, e_185_63, e_185_66, e_185_67, ge1, ule_t, true_or, or_true, nI_add, nI_mul, nI_sub, nI_clamp, nI_lt_t, nI_lt_f, nI_le_t, nI_le_f, nI_eq_t, nI_eq_f, vp_nI, tI, fI, not_true, not_false_iff, true_and, and_true, Classical.not_not]
  exact l_185 hM hn h6 hV n 0 none (by omega)
end ModelR2

/-! what the functions of a view look at -/
def VEq (V V' : VW) (n : Nat) : Prop := ∀ m, m < n → (∀ k, k < 23 → V m k = V' m k) ∧ ∀ t : Int32, vHas V m t → vRec V m t = vRec V' m t
theorem VEq.le {V V' : VW} {n k : Nat} (h : VEq V V' n) (hk : k ≤ n) : VEq V V' k := fun m hm => h m (by omega)
theorem VEq.act {V V' : VW} {n m : Nat} (h : VEq V V' n) (hm : m < n) : vAct V m ↔ vAct V' m := by
  unfold vAct
  rw [(h m hm).1 2 (by omega)]
theorem VEq.has {V V' : VW} {n m : Nat} {t : Int32} (h : VEq V V' n) (hm : m < n) : vHas V m t ↔ vHas V' m t := by
  unfold vHas
  rw [(h m hm).1 1 (by omega), (h m hm).1 6 (by omega)]
theorem VEq.group {V V' : VW} {n : Nat} {t root : Int32} (h : VEq V V' n) : ∀ k, k ≤ n → fGroup V t root k = fGroup V' t root k
  | 0, _ => rfl
  | k + 1, hk => by
    rw [fGroup, fGroup, VEq.group h k (by omega)]
    congr 1
    by_cases hh : vHas V k t
    · have e := (h k (by omega)).2 t hh
      have ha := h.act (m := k) (by omega)
      have h2 := h.has (m := k) (t := t) (by omega)
      by_cases c : vAct V k ∧ vHas V k t ∧ vRec V k t = root
      · rw [if_pos c, if_pos ⟨ha.mp c.1, h2.mp c.2.1, by rw [← e]; exact c.2.2⟩]
      · rw [if_neg c, if_neg (fun z => c ⟨ha.mpr z.1, h2.mpr z.2.1, by rw [e]; exact z.2.2⟩)]
    · have h2 := h.has (m := k) (t := t) (by omega)
      rw [if_neg (fun z => hh z.2.1), if_neg (fun z => hh (h2.mpr z.2.1))]
theorem VEq.winP {V V' : VW} {n : Nat} {t : Int32} (h : VEq V V' n) : ∀ k, k ≤ n → fWinP V n t k = fWinP V' n t k
  | 0, _ => rfl
  | k + 1, hk => by
    have ih := VEq.winP (t := t) h k (by omega)
    have ha := h.act (m := k) (by omega)
    have h2 := h.has (m := k) (t := t) (by omega)
    by_cases c : vAct V k ∧ vHas V k t
    · have e := (h k (by omega)).2 t c.2
      rw [fWinP_yes c, fWinP_yes ⟨ha.mp c.1, h2.mp c.2⟩, ih, e, h.group n (Nat.le_refl _)]
    · rw [fWinP_no c, fWinP_no (fun z => c ⟨ha.mpr z.1, h2.mpr z.2⟩), ih]
theorem VEq.win {V V' : VW} {n q : Nat} {t : Int32} (h : VEq V V' n) : fWin V n q t = fWin V' n q t := by
  unfold fWin
  rw [h.winP n (Nat.le_refl _)]
theorem VEq.rec1 {V V' : VW} {n m : Nat} (h : VEq V V' n) (hV : okV V n) (hm : m < n) : vRec V m (V m 1) = vRec V' m (V m 1) := (h m hm).2 _ ⟨(hV m hm).2.2.1, Int32.le_refl _⟩
theorem VEq.off {V V' : VW} {n q m : Nat} (h : VEq V V' n) (hV : okV V n) (hm : m < n) : fOff V n q m = fOff V' n q m := by
  unfold fOff
  rw [← (h m hm).1 1 (by omega), ← h.win]
  cases hw : fWin V n q (V m 1) with
  | none => rfl
  | some w =>
    obtain ⟨w1, w2, w3⟩ := fWin_some hw
    dsimp only
    rw [h.rec1 hV hm, (h w w1).2 _ w3]
    congr 1
    exact decide_eq_decide.mpr (h.act hm)
theorem VEq.givP {V V' : VW} {n : Nat} {t root but : Int32} (h : VEq V V' n) (hV : okV V n) : ∀ k, k ≤ n → fGivP V t root but k = fGivP V' t root but k
  | 0, _ => rfl
  | k + 1, hk => by
    have ih := VEq.givP (t := t) (root := root) (but := but) h hV k (by omega)
    rw [fGivP, fGivP, ← ih]
    have ha := h.act (m := k) (by omega)
    have e1 := (h k (by omega)).1 1 (by omega)
    have e3 := (h k (by omega)).1 3 (by omega)
    have em : (match fGivP V t root but k with | none => true | some j => decide (V k 3 < V j 3)) = (match fGivP V t root but k with | none => true | some j => decide (V' k 3 < V' j 3)) := by
      cases hd : fGivP V t root but k with
      | none => rfl
      | some j =>
        have hj := fGivP_lt hd
        dsimp only
        rw [e3, (h j (by omega)).1 3 (by omega)]
    by_cases hx : V k 1 = t
    · have er : vRec V k t = vRec V' k t := by
        have := h.rec1 hV (m := k) (by omega)
        rw [hx] at this
        exact this
      by_cases c : ¬ nI k = but ∧ vAct V k ∧ V k 1 = t ∧ vRec V k t = root ∧ (match fGivP V t root but k with | none => true | some j => decide (V k 3 < V j 3)) = true
      · rw [if_pos c, if_pos ⟨c.1, ha.mp c.2.1, by rw [← e1]; exact hx, by rw [← er]; exact c.2.2.2.1, by rw [← em]; exact c.2.2.2.2⟩]
      · rw [if_neg c, if_neg (fun z => c ⟨z.1, ha.mpr z.2.1, hx, by rw [er]; exact z.2.2.2.1, by rw [em]; exact z.2.2.2.2⟩)]
    · rw [if_neg (fun z => hx z.2.2.1), if_neg (fun z => hx (by rw [e1]; exact z.2.2.1))]
theorem VEq.giv {V V' : VW} {n q : Nat} {t but : Int32} (h : VEq V V' n) (hV : okV V n) : fGiv V n q t but = fGiv V' n q t but := by
  unfold fGiv
  rw [← h.win]
  cases hw : fWin V n q t with
  | none => rfl
  | some w =>
    obtain ⟨w1, w2, w3⟩ := fWin_some hw
    dsimp only
    rw [← (h w w1).2 _ w3]
    exact h.givP hV n (Nat.le_refl _)
theorem VEq.ext {V V' : VW} {n : Nat} {g : Int32} (h : VEq V V' n) : ∀ k, k ≤ n → fExt V g k = fExt V' g k
  | 0, _ => rfl
  | k + 1, hk => by
    rw [fExt, fExt, VEq.ext h k (by omega), (h k (by omega)).1 1 (by omega), (h k (by omega)).1 2 (by omega)]
theorem VEq.acts {V V' : VW} {n : Nat} (h : VEq V V' n) : ∀ k, k ≤ n → fActs V k = fActs V' k
  | 0, _ => rfl
  | k + 1, hk => by rw [fActs, fActs, VEq.acts h k (by omega), (h k (by omega)).1 2 (by omega)]
theorem VEq.ok {V V' : VW} {n : Nat} (h : VEq V V' n) (hV : okV V n) : okV V' n := fun m hm => by
  obtain ⟨e, -⟩ := h m hm
  rw [← e 1 (by omega), ← e 2 (by omega), ← e 6 (by omega)]
  exact hV m hm

/-! commands: what they do to a row of cells -/
def rem4 (x : Int32) : Int32 := x - x / nI 10000 * nI 10000
def fChg (σ c : Nat) (o : Int32) (f : Nat → Int32) : Nat → Int32 := match σ with
  | 0 => upd f c o
  | 1 => upd f c (rem4 (f c + o))
  | 2 => upd f c (f o.toNatClampNeg)
  | 3 => upd f c (rem4 (f c + f o.toNatClampNeg))
  | 4 => upd (upd f c (f o.toNatClampNeg)) o.toNatClampNeg (f c)
  | _ => upd f c (rem4 (f c * f o.toNatClampNeg))
def okC (σ c : Nat) (o : Int32) : Prop := σ ≤ 5 ∧ c < 16 ∧ (2 ≤ σ → ∃ j, j < 16 ∧ o = nI j)
def okCmd (cmd : Nat → Nat → Int32) (z : Nat) : Prop := ∀ k, k < z → ∃ σ c, cmd k 1 = nI σ ∧ cmd k 2 = nI c ∧ okC σ c (cmd k 3)
def fTurn (cmd : Nat → Nat → Int32) (f : Nat → Int32) : Nat → (Nat → Int32)
  | 0 => f
  | k + 1 => fChg (cmd k 1).toNatClampNeg (cmd k 2).toNatClampNeg (cmd k 3) (fTurn cmd f k)
/-- a Script stands at c -/
def ScS (μ : Mu) (c : Nat) : Prop := 1000 ≤ c ∧ mS μ c = (8, 4) ∧ mR μ c 0 = some (c + 1) ∧ mR μ c 1 = some (c + 2) ∧ mR μ c 2 = some (c + 3) ∧ mR μ c 3 = some (c + 4) ∧ mS μ (c + 1) = (20, 16) ∧ mS μ (c + 2) = (20, 40) ∧ mS μ (c + 3) = (20, 1312) ∧ mS μ (c + 4) = (20, 320)
def cCmd (μ : Mu) (c t k w : Nat) : Int32 := mI μ (c + 3) ((mI μ (c + 4) (8 * t + k)).toNatClampNeg + w)
section Cmds
variable {d : Nat} {Q : Po} {μ : Mu} {a c t k σ i j w ω z : Nat} {o : Int32} {l4 : Option Value}
theorem s_70 (ha : mS μ a = (20, 16)) (h1 : 1000 ≤ a) (hi : i < 16) (hj : j < 16) : Ev (d + 1) 70 [.ref a, .int (nI i), .int (nI j)] μ Q = Q (some none) (uA μ a (upd (upd (mI μ a) i (mI μ a j)) j (mI μ a i))) := by
  rw [in_70]
  simp (disch := omega) only [e_70_0, e_70_1, e_70_2, e_70_3, e_70_4, e_70_5, e_70_6, e_70_7, e_70_8, e_70_9, e_70_10, e_70_11, e_70_12, e_70_13, e_70_14, ha, ge1, ule_t, true_or, or_true, nI_add, nI_mul, nI_sub, nI_clamp, nI_lt_t, nI_lt_f, nI_le_t, nI_le_f, nI_eq_t, nI_eq_f, vp_nI, tI, fI, not_true, not_false_iff, true_and, and_true, Classical.not_not, mS_uI, mS_uA, mS_uJ, mS_uR, mS_uX, mR_uI, mR_uA, mR_uJ, mR_uX, mX_uI, mX_uA, mX_uJ, mX_uR, mI_s, mI_n, mI_A, mI_An, mI_uJ, mI_uR, mI_uX, mJ_uI, mJ_uA, mJ_uR, mJ_uX, onR_s, kC_v, kC_n, kC_t, uI_A, uA_A, mI_Af]
theorem s_69 (ha : mS μ a = (20, 16)) (h1 : 1000 ≤ a) (hc : okC σ i o) : Ev (d + 2) 69 [.ref a, .int (nI σ), .int (nI i), .int o] μ Q = Q (some none) (uA μ a (fChg σ i o (mI μ a))) := by
  obtain ⟨c1, c2, c3⟩ := hc
  rw [in_69]
  rcases (by omega : σ = 0 ∨ σ = 1 ∨ σ = 2 ∨ σ = 3 ∨ σ = 4 ∨ σ = 5) with rfl | rfl | rfl | rfl | rfl | rfl
  · simp (disch := omega) only [e_69_0, e_69_1_0, e_69_1_1, e_69_1_2, e_69_1_3, e_69_1_4, e_69_36, e_69_37, e_69_38, e_69_39, e_69_40, e_69_43, e_69_44, e_69_45, e_69_46, e_69_47, e_69_48, e_69_49, e_69_50, e_69_53, e_69_54, e_69_55, e_69_58, e_69_59, e_69_60, e_69_61, e_69_62, e_69_63, e_69_64, e_69_67, e_69_68, e_69_69, e_69_70, e_69_71, e_69_72, e_69_73, e_69_74, e_69_75, e_69_76, e_69_79, e_69_80, e_69_81, e_69_84, e_69_85, e_69_86, e_69_87, e_69_90, e_69_93, e_69_94, e_69_95, e_69_96, e_69_97, e_69_98, e_69_99, e_69_100, e_69_101, e_69_102, e_69_105, e_69_106, e_69_107, ha, ge1, ule_t, true_or, or_true, nI_add, nI_mul, nI_sub, nI_clamp, nI_lt_t, nI_lt_f, nI_le_t, nI_le_f, nI_eq_t, nI_eq_f, vp_nI, tI, fI, not_true, not_false_iff, true_and, and_true, Classical.not_not, mS_uI, mS_uA, mS_uJ, mS_uR, mS_uX, mR_uI, mR_uA, mR_uJ, mR_uX, mX_uI, mX_uA, mX_uJ, mX_uR, mI_s, mI_n, mI_A, mI_An, mI_uJ, mI_uR, mI_uX, mJ_uI, mJ_uA, mJ_uR, mJ_uX, onR_s, kC_v, kC_n, kC_t, uI_A, fChg]
  · simp (disch := omega) only [e_69_0, e_69_1_0, e_69_1_1, e_69_1_2, e_69_1_3, e_69_1_4, e_69_36, e_69_37, e_69_38, e_69_39, e_69_40, e_69_43, e_69_44, e_69_45, e_69_46, e_69_47, e_69_48, e_69_49, e_69_50, e_69_53, e_69_54, e_69_55, e_69_58, e_69_59, e_69_60, e_69_61, e_69_62, e_69_63, e_69_64, e_69_67, e_69_68, e_69_69, e_69_70, e_69_71, e_69_72, e_69_73, e_69_74, e_69_75, e_69_76, e_69_79, e_69_80, e_69_81, e_69_84, e_69_85, e_69_86, e_69_87, e_69_90, e_69_93, e_69_94, e_69_95, e_69_96, e_69_97, e_69_98, e_69_99, e_69_100, e_69_101, e_69_102, e_69_105, e_69_106, e_69_107, ha, ge1, ule_t, true_or, or_true, nI_add, nI_mul, nI_sub, nI_clamp, nI_lt_t, nI_lt_f, nI_le_t, nI_le_f, nI_eq_t, nI_eq_f, vp_nI, tI, fI, not_true, not_false_iff, true_and, and_true, Classical.not_not, mS_uI, mS_uA, mS_uJ, mS_uR, mS_uX, mR_uI, mR_uA, mR_uJ, mR_uX, mX_uI, mX_uA, mX_uJ, mX_uR, mI_s, mI_n, mI_A, mI_An, mI_uJ, mI_uR, mI_uX, mJ_uI, mJ_uA, mJ_uR, mJ_uX, onR_s, kC_v, kC_n, kC_t, uI_A, fChg, rem4]
  · obtain ⟨j, hj, rfl⟩ := c3 (by omega)
    simp (disch := omega) only [e_69_0, e_69_1_0, e_69_1_1, e_69_1_2, e_69_1_3, e_69_1_4, e_69_36, e_69_37, e_69_38, e_69_39, e_69_40, e_69_43, e_69_44, e_69_45, e_69_46, e_69_47, e_69_48, e_69_49, e_69_50, e_69_53, e_69_54, e_69_55, e_69_58, e_69_59, e_69_60, e_69_61, e_69_62, e_69_63, e_69_64, e_69_67, e_69_68, e_69_69, e_69_70, e_69_71, e_69_72, e_69_73, e_69_74, e_69_75, e_69_76, e_69_79, e_69_80, e_69_81, e_69_84, e_69_85, e_69_86, e_69_87, e_69_90, e_69_93, e_69_94, e_69_95, e_69_96, e_69_97, e_69_98, e_69_99, e_69_100, e_69_101, e_69_102, e_69_105, e_69_106, e_69_107, ha, ge1, ule_t, true_or, or_true, nI_add, nI_mul, nI_sub, nI_clamp, nI_lt_t, nI_lt_f, nI_le_t, nI_le_f, nI_eq_t, nI_eq_f, vp_nI, tI, fI, not_true, not_false_iff, true_and, and_true, Classical.not_not, mS_uI, mS_uA, mS_uJ, mS_uR, mS_uX, mR_uI, mR_uA, mR_uJ, mR_uX, mX_uI, mX_uA, mX_uJ, mX_uR, mI_s, mI_n, mI_A, mI_An, mI_uJ, mI_uR, mI_uX, mJ_uI, mJ_uA, mJ_uR, mJ_uX, onR_s, kC_v, kC_n, kC_t, uI_A, fChg]
  · obtain ⟨j, hj, rfl⟩ := c3 (by omega)
    simp (disch := omega) only [e_69_0, e_69_1_0, e_69_1_1, e_69_1_2, e_69_1_3, e_69_1_4, e_69_36, e_69_37, e_69_38, e_69_39, e_69_40, e_69_43, e_69_44, e_69_45, e_69_46, e_69_47, e_69_48, e_69_49, e_69_50, e_69_53, e_69_54, e_69_55, e_69_58, e_69_59, e_69_60, e_69_61, e_69_62, e_69_63, e_69_64, e_69_67, e_69_68, e_69_69, e_69_70, e_69_71, e_69_72, e_69_73, e_69_74, e_69_75, e_69_76, e_69_79, e_69_80, e_69_81, e_69_84, e_69_85, e_69_86, e_69_87, e_69_90, e_69_93, e_69_94, e_69_95, e_69_96, e_69_97, e_69_98, e_69_99, e_69_100, e_69_101, e_69_102, e_69_105, e_69_106, e_69_107, ha, ge1, ule_t, true_or, or_true, nI_add, nI_mul, nI_sub, nI_clamp, nI_lt_t, nI_lt_f, nI_le_t, nI_le_f, nI_eq_t, nI_eq_f, vp_nI, tI, fI, not_true, not_false_iff, true_and, and_true, Classical.not_not, mS_uI, mS_uA, mS_uJ, mS_uR, mS_uX, mR_uI, mR_uA, mR_uJ, mR_uX, mX_uI, mX_uA, mX_uJ, mX_uR, mI_s, mI_n, mI_A, mI_An, mI_uJ, mI_uR, mI_uX, mJ_uI, mJ_uA, mJ_uR, mJ_uX, onR_s, kC_v, kC_n, kC_t, uI_A, fChg, rem4]
  · obtain ⟨j, hj, rfl⟩ := c3 (by omega)
    simp (disch := omega) only [e_69_0, e_69_1_0, e_69_1_1, e_69_1_2, e_69_1_3, e_69_1_4, e_69_36, e_69_37, e_69_38, e_69_39, e_69_40, e_69_43, e_69_44, e_69_45, e_69_46, e_69_47, e_69_48, e_69_49, e_69_50, e_69_53, e_69_54, e_69_55, e_69_58, e_69_59, e_69_60, e_69_61, e_69_62, e_69_63, e_69_64, e_69_67, e_69_68, e_69_69, e_69_70, e_69_71, e_69_72, e_69_73, e_69_74, e_69_75, e_69_76, e_69_79, e_69_80, e_69_81, e_69_84, e_69_85, e_69_86, e_69_87, e_69_90, e_69_93, e_69_94, e_69_95, e_69_96, e_69_97, e_69_98, e_69_99, e_69_100, e_69_101, e_69_102, e_69_105, e_69_106, e_69_107, ha, s_70 ha h1 c2 hj, ge1, ule_t, true_or, or_true, nI_add, nI_mul, nI_sub, nI_clamp, nI_lt_t, nI_lt_f, nI_le_t, nI_le_f, nI_eq_t, nI_eq_f, vp_nI, tI, fI, not_true, not_false_iff, true_and, and_true, Classical.not_not, mS_uI, mS_uA, mS_uJ, mS_uR, mS_uX, mR_uI, mR_uA, mR_uJ, mR_uX, mX_uI, mX_uA, mX_uJ, mX_uR, mI_s, mI_n, mI_A, mI_An, mI_uJ, mI_uR, mI_uX, mJ_uI, mJ_uA, mJ_uR, mJ_uX, onR_s, kC_v, kC_n, kC_t, uI_A, fChg]
  · obtain ⟨j, hj, rfl⟩ := c3 (by omega)
    simp (disch := omega) only [e_69_0, e_69_1_0, e_69_1_1, e_69_1_2, e_69_1_3, e_69_1_4, e_69_36, e_69_37, e_69_38, e_69_39, e_69_40, e_69_43, e_69_44, e_69_45, e_69_46, e_69_47, e_69_48, e_69_49, e_69_50, e_69_53, e_69_54, e_69_55, e_69_58, e_69_59, e_69_60, e_69_61, e_69_62, e_69_63, e_69_64, e_69_67, e_69_68, e_69_69, e_69_70, e_69_71, e_69_72, e_69_73, e_69_74, e_69_75, e_69_76, e_69_79, e_69_80, e_69_81, e_69_84, e_69_85, e_69_86, e_69_87, e_69_90, e_69_93, e_69_94, e_69_95, e_69_96, e_69_97, e_69_98, e_69_99, e_69_100, e_69_101, e_69_102, e_69_105, e_69_106, e_69_107, e_69_1_d (x := nI 5) (Or.inr (by decide)), ha, ge1, ule_t, true_or, or_true, nI_add, nI_mul, nI_sub, nI_clamp, nI_lt_t, nI_lt_f, nI_le_t, nI_le_f, nI_eq_t, nI_eq_f, vp_nI, tI, fI, not_true, not_false_iff, true_and, and_true, Classical.not_not, mS_uI, mS_uA, mS_uJ, mS_uR, mS_uX, mR_uI, mR_uA, mR_uJ, mR_uX, mX_uI, mX_uA, mX_uJ, mX_uR, mI_s, mI_n, mI_A, mI_An, mI_uJ, mI_uR, mI_uX, mJ_uI, mJ_uA, mJ_uR, mJ_uX, onR_s, kC_v, kC_n, kC_t, uI_A, fChg, rem4]
theorem s_172 (hM : ShM μ) (hc : okC σ i o) : Ev (d + 1) 172 [.ref 1298, .int (nI σ), .int (nI i), .int o] μ Q = Q (some none) (uA μ 1305 (fChg σ i o (mI μ 1305))) := by
  obtain ⟨p1, p2, p3, p4, p5, p6, p7, p8, p9, p10, p11, p12, p13, p14, p15, p16, p17, p18, p19, p20, p21⟩ := hM
  obtain ⟨c1, c2, c3⟩ := hc
  rw [in_172]
  rcases (by omega : σ = 0 ∨ σ = 1 ∨ σ = 2 ∨ σ = 3 ∨ σ = 4 ∨ σ = 5) with rfl | rfl | rfl | rfl | rfl | rfl
  · simp (disch := omega) only [e_172_0, e_172_1, e_172_4, e_172_5, e_172_6, e_172_8, e_172_9_0, e_172_9_1, e_172_9_2, e_172_9_3, e_172_9_4, e_172_44, e_172_45, e_172_48, e_172_49, e_172_50, e_172_51, e_172_54, e_172_55, e_172_58, e_172_59, e_172_61, e_172_62, e_172_63, e_172_66, e_172_67, e_172_68, e_172_71, e_172_72, e_172_75, e_172_76, e_172_77, e_172_80, e_172_81, e_172_82, e_172_83, e_172_86, e_172_87, e_172_90, e_172_91, e_172_93, e_172_94, e_172_97, e_172_98, e_172_99, e_172_100, e_172_103, e_172_104, e_172_105, e_172_108, e_172_109, e_172_112, e_172_113, e_172_114, e_172_117, e_172_118, e_172_119, e_172_120, e_172_121, e_172_124, e_172_125, e_172_127, e_172_128, e_172_131, e_172_132, e_172_135, e_172_136, e_172_138, e_172_139, e_172_142, e_172_143, e_172_144, e_172_145, e_172_148, e_172_149, e_172_150, p1, p2, p3, p4, p5, p6, p7, p8, p9, p10, p11, p12, p13, p14, p15, p16, p17, p18, p19, p20, p21, ge1, ule_t, true_or, or_true, nI_add, nI_mul, nI_sub, nI_clamp, nI_lt_t, nI_lt_f, nI_le_t, nI_le_f, nI_eq_t, nI_eq_f, vp_nI, tI, fI, not_true, not_false_iff, true_and, and_true, Classical.not_not, mS_uI, mS_uA, mS_uJ, mS_uR, mS_uX, mR_uI, mR_uA, mR_uJ, mR_uX, mX_uI, mX_uA, mX_uJ, mX_uR, mI_s, mI_n, mI_A, mI_An, mI_uJ, mI_uR, mI_uX, mJ_uI, mJ_uA, mJ_uR, mJ_uX, onR_s, kC_v, kC_n, kC_t, uI_A, fChg]
  · simp (disch := omega) only [e_172_0, e_172_1, e_172_4, e_172_5, e_172_6, e_172_8, e_172_9_0, e_172_9_1, e_172_9_2, e_172_9_3, e_172_9_4, e_172_44, e_172_45, e_172_48, e_172_49, e_172_50, e_172_51, e_172_54, e_172_55, e_172_58, e_172_59, e_172_61, e_172_62, e_172_63, e_172_66, e_172_67, e_172_68, e_172_71, e_172_72, e_172_75, e_172_76, e_172_77, e_172_80, e_172_81, e_172_82, e_172_83, e_172_86, e_172_87, e_172_90, e_172_91, e_172_93, e_172_94, e_172_97, e_172_98, e_172_99, e_172_100, e_172_103, e_172_104, e_172_105, e_172_108, e_172_109, e_172_112, e_172_113, e_172_114, e_172_117, e_172_118, e_172_119, e_172_120, e_172_121, e_172_124, e_172_125, e_172_127, e_172_128, e_172_131, e_172_132, e_172_135, e_172_136, e_172_138, e_172_139, e_172_142, e_172_143, e_172_144, e_172_145, e_172_148, e_172_149, e_172_150, p1, p2, p3, p4, p5, p6, p7, p8, p9, p10, p11, p12, p13, p14, p15, p16, p17, p18, p19, p20, p21, ge1, ule_t, true_or, or_true, nI_add, nI_mul, nI_sub, nI_clamp, nI_lt_t, nI_lt_f, nI_le_t, nI_le_f, nI_eq_t, nI_eq_f, vp_nI, tI, fI, not_true, not_false_iff, true_and, and_true, Classical.not_not, mS_uI, mS_uA, mS_uJ, mS_uR, mS_uX, mR_uI, mR_uA, mR_uJ, mR_uX, mX_uI, mX_uA, mX_uJ, mX_uR, mI_s, mI_n, mI_A, mI_An, mI_uJ, mI_uR, mI_uX, mJ_uI, mJ_uA, mJ_uR, mJ_uX, onR_s, kC_v, kC_n, kC_t, uI_A, fChg, rem4]
  · obtain ⟨j, hj, rfl⟩ := c3 (by omega)
    simp (disch := omega) only [e_172_0, e_172_1, e_172_4, e_172_5, e_172_6, e_172_8, e_172_9_0, e_172_9_1, e_172_9_2, e_172_9_3, e_172_9_4, e_172_44, e_172_45, e_172_48, e_172_49, e_172_50, e_172_51, e_172_54, e_172_55, e_172_58, e_172_59, e_172_61, e_172_62, e_172_63, e_172_66, e_172_67, e_172_68, e_172_71, e_172_72, e_172_75, e_172_76, e_172_77, e_172_80, e_172_81, e_172_82, e_172_83, e_172_86, e_172_87, e_172_90, e_172_91, e_172_93, e_172_94, e_172_97, e_172_98, e_172_99, e_172_100, e_172_103, e_172_104, e_172_105, e_172_108, e_172_109, e_172_112, e_172_113, e_172_114, e_172_117, e_172_118, e_172_119, e_172_120, e_172_121, e_172_124, e_172_125, e_172_127, e_172_128, e_172_131, e_172_132, e_172_135, e_172_136, e_172_138, e_172_139, e_172_142, e_172_143, e_172_144, e_172_145, e_172_148, e_172_149, e_172_150, p1, p2, p3, p4, p5, p6, p7, p8, p9, p10, p11, p12, p13, p14, p15, p16, p17, p18, p19, p20, p21, ge1, ule_t, true_or, or_true, nI_add, nI_mul, nI_sub, nI_clamp, nI_lt_t, nI_lt_f, nI_le_t, nI_le_f, nI_eq_t, nI_eq_f, vp_nI, tI, fI, not_true, not_false_iff, true_and, and_true, Classical.not_not, mS_uI, mS_uA, mS_uJ, mS_uR, mS_uX, mR_uI, mR_uA, mR_uJ, mR_uX, mX_uI, mX_uA, mX_uJ, mX_uR, mI_s, mI_n, mI_A, mI_An, mI_uJ, mI_uR, mI_uX, mJ_uI, mJ_uA, mJ_uR, mJ_uX, onR_s, kC_v, kC_n, kC_t, uI_A, fChg]
  · obtain ⟨j, hj, rfl⟩ := c3 (by omega)
    simp (disch := omega) only [e_172_0, e_172_1, e_172_4, e_172_5, e_172_6, e_172_8, e_172_9_0, e_172_9_1, e_172_9_2, e_172_9_3, e_172_9_4, e_172_44, e_172_45, e_172_48, e_172_49, e_172_50, e_172_51, e_172_54, e_172_55, e_172_58, e_172_59, e_172_61, e_172_62, e_172_63, e_172_66, e_172_67, e_172_68, e_172_71, e_172_72, e_172_75, e_172_76, e_172_77, e_172_80, e_172_81, e_172_82, e_172_83, e_172_86, e_172_87, e_172_90, e_172_91, e_172_93, e_172_94, e_172_97, e_172_98, e_172_99, e_172_100, e_172_103, e_172_104, e_172_105, e_172_108, e_172_109, e_172_112, e_172_113, e_172_114, e_172_117, e_172_118, e_172_119, e_172_120, e_172_121, e_172_124, e_172_125, e_172_127, e_172_128, e_172_131, e_172_132, e_172_135, e_172_136, e_172_138, e_172_139, e_172_142, e_172_143, e_172_144, e_172_145, e_172_148, e_172_149, e_172_150, p1, p2, p3, p4, p5, p6, p7, p8, p9, p10, p11, p12, p13, p14, p15, p16, p17, p18, p19, p20, p21, ge1, ule_t, true_or, or_true, nI_add, nI_mul, nI_sub, nI_clamp, nI_lt_t, nI_lt_f, nI_le_t, nI_le_f, nI_eq_t, nI_eq_f, vp_nI, tI, fI, not_true, not_false_iff, true_and, and_true, Classical.not_not, mS_uI, mS_uA, mS_uJ, mS_uR, mS_uX, mR_uI, mR_uA, mR_uJ, mR_uX, mX_uI, mX_uA, mX_uJ, mX_uR, mI_s, mI_n, mI_A, mI_An, mI_uJ, mI_uR, mI_uX, mJ_uI, mJ_uA, mJ_uR, mJ_uX, onR_s, kC_v, kC_n, kC_t, uI_A, fChg, rem4]
  · obtain ⟨j, hj, rfl⟩ := c3 (by omega)
    simp (disch := omega) only [e_172_0, e_172_1, e_172_4, e_172_5, e_172_6, e_172_8, e_172_9_0, e_172_9_1, e_172_9_2, e_172_9_3, e_172_9_4, e_172_44, e_172_45, e_172_48, e_172_49, e_172_50, e_172_51, e_172_54, e_172_55, e_172_58, e_172_59, e_172_61, e_172_62, e_172_63, e_172_66, e_172_67, e_172_68, e_172_71, e_172_72, e_172_75, e_172_76, e_172_77, e_172_80, e_172_81, e_172_82, e_172_83, e_172_86, e_172_87, e_172_90, e_172_91, e_172_93, e_172_94, e_172_97, e_172_98, e_172_99, e_172_100, e_172_103, e_172_104, e_172_105, e_172_108, e_172_109, e_172_112, e_172_113, e_172_114, e_172_117, e_172_118, e_172_119, e_172_120, e_172_121, e_172_124, e_172_125, e_172_127, e_172_128, e_172_131, e_172_132, e_172_135, e_172_136, e_172_138, e_172_139, e_172_142, e_172_143, e_172_144, e_172_145, e_172_148, e_172_149, e_172_150, p1, p2, p3, p4, p5, p6, p7, p8, p9, p10, p11, p12, p13, p14, p15, p16, p17, p18, p19, p20, p21, ge1, ule_t, true_or, or_true, nI_add, nI_mul, nI_sub, nI_clamp, nI_lt_t, nI_lt_f, nI_le_t, nI_le_f, nI_eq_t, nI_eq_f, vp_nI, tI, fI, not_true, not_false_iff, true_and, and_true, Classical.not_not, mS_uI, mS_uA, mS_uJ, mS_uR, mS_uX, mR_uI, mR_uA, mR_uJ, mR_uX, mX_uI, mX_uA, mX_uJ, mX_uR, mI_s, mI_n, mI_A, mI_An, mI_uJ, mI_uR, mI_uX, mJ_uI, mJ_uA, mJ_uR, mJ_uX, onR_s, kC_v, kC_n, kC_t, uI_A, uA_A, mI_Af, fChg]
  · obtain ⟨j, hj, rfl⟩ := c3 (by omega)
    simp (disch := omega) only [e_172_0, e_172_1, e_172_4, e_172_5, e_172_6, e_172_8, e_172_9_0, e_172_9_1, e_172_9_2, e_172_9_3, e_172_9_4, e_172_44, e_172_45, e_172_48, e_172_49, e_172_50, e_172_51, e_172_54, e_172_55, e_172_58, e_172_59, e_172_61, e_172_62, e_172_63, e_172_66, e_172_67, e_172_68, e_172_71, e_172_72, e_172_75, e_172_76, e_172_77, e_172_80, e_172_81, e_172_82, e_172_83, e_172_86, e_172_87, e_172_90, e_172_91, e_172_93, e_172_94, e_172_97, e_172_98, e_172_99, e_172_100, e_172_103, e_172_104, e_172_105, e_172_108, e_172_109, e_172_112, e_172_113, e_172_114, e_172_117, e_172_118, e_172_119, e_172_120, e_172_121, e_172_124, e_172_125, e_172_127, e_172_128, e_172_131, e_172_132, e_172_135, e_172_136, e_172_138, e_172_139, e_172_142, e_172_143, e_172_144, e_172_145, e_172_148, e_172_149, e_172_150, e_172_9_d (x := nI 5) (Or.inr (by decide)), p1, p2, p3, p4, p5, p6, p7, p8, p9, p10, p11, p12, p13, p14, p15, p16, p17, p18, p19, p20, p21, ge1, ule_t, true_or, or_true, nI_add, nI_mul, nI_sub, nI_clamp, nI_lt_t, nI_lt_f, nI_le_t, nI_le_f, nI_eq_t, nI_eq_f, vp_nI, tI, fI, not_true, not_false_iff, true_and, and_true, Classical.not_not, mS_uI, mS_uA, mS_uJ, mS_uR, mS_uX, mR_uI, mR_uA, mR_uJ, mR_uX, mX_uI, mX_uA, mX_uJ, mX_uR, mI_s, mI_n, mI_A, mI_An, mI_uJ, mI_uR, mI_uX, mJ_uI, mJ_uA, mJ_uR, mJ_uX, onR_s, kC_v, kC_n, kC_t, uI_A, fChg, rem4]
def mCmd (r : Nat → Int32) (t k w : Nat) : Int32 := r (388 + 33 * t + 1 + 4 * k + w)
theorem l_173 (hM : ShM μ) (ht : t < 40) (hz : mI μ 1302 (388 + 33 * t) = nI z) (h8 : z ≤ 8) (hk : okCmd (mCmd (mI μ 1302) t) z) : ∀ n k l4, k + n = z → EM 173 (d + 1) 11 [some (.ref 1298), some (.int (nI t)), some (.int (nI (388 + 33 * t))), some (.int (nI k)), l4] [] (uA μ 1305 (fTurn (mCmd (mI μ 1302) t) (mI μ 1305) k)) (0, 0) Q = Q (some none) (uA μ 1305 (fTurn (mCmd (mI μ 1302) t) (mI μ 1305) z)) := by
  have hM0 := hM
  obtain ⟨p1, p2, p3, p4, p5, p6, p7, p8, p9, p10, p11, p12, p13, p14, p15, p16, p17, p18, p19, p20, p21⟩ := hM0
  intro n
  induction n with
  | zero =>
    intro k l4 h
    obtain rfl : k = z := by omega
    rw [e_173_11]
    simp (disch := omega) only [e_173_0, e_173_3, e_173_5, e_173_6, e_173_7, e_173_8, e_173_9, e_173_10, e_173_12, e_173_13, e_173_16, e_173_17, e_173_18, e_173_21, e_173_22, e_173_23, e_173_24, e_173_25, e_173_26, e_173_27, e_173_28, e_173_30, e_173_31, e_173_32, e_173_35, e_173_37, e_173_38, e_173_39, e_173_40, e_173_41, e_173_44, e_173_46, e_173_47, e_173_48, e_173_49, e_173_50, e_173_53, e_173_55, e_173_56, e_173_57, e_173_58, e_173_61, e_173_64, e_173_67, p1, p2, p3, p4, p5, p6, p7, p8, p9, p10, p11, p12, p13, p14, p15, p16, p17, p18, p19, p20, p21, hz, ge1, ule_t, true_or, or_true, nI_add, nI_mul, nI_sub, nI_clamp, nI_lt_t, nI_lt_f, nI_le_t, nI_le_f, nI_eq_t, nI_eq_f, vp_nI, tI, fI, not_true, not_false_iff, true_and, and_true, Classical.not_not, mS_uI, mS_uA, mS_uJ, mS_uR, mS_uX, mR_uI, mR_uA, mR_uJ, mR_uX, mX_uI, mX_uA, mX_uJ, mX_uR, mI_s, mI_n, mI_A, mI_An, mI_uJ, mI_uR, mI_uX, mJ_uI, mJ_uA, mJ_uR, mJ_uX, onR_s, kC_v, kC_n, kC_t]
  | succ n ih =>
    intro k l4 h
    rw [e_173_11]
    obtain ⟨σ, c, g1, g2, g3⟩ := hk k (by omega)
    have hM2 : ShM (uA μ 1305 (fTurn (mCmd (mI μ 1302) t) (mI μ 1305) k)) := hM
    have h172 := fun (Q : Po) => s_172 (d := d) (Q := Q) hM2 g3
    have e1 : mI μ 1302 (388 + 33 * t + 1 + 4 * k + 1) = nI σ := g1
    have e2 : mI μ 1302 (388 + 33 * t + 1 + 4 * k + 2) = nI c := g2
    have e3 : mI μ 1302 (388 + 33 * t + 1 + 4 * k + 3) = mCmd (mI μ 1302) t k 3 := rfl
    simp (disch := omega) only [e_173_0, e_173_3, e_173_5, e_173_6, e_173_7, e_173_8, e_173_9, e_173_10, e_173_12, e_173_13, e_173_16, e_173_17, e_173_18, e_173_21, e_173_22, e_173_23, e_173_24, e_173_25, e_173_26, e_173_27, e_173_28, e_173_30, e_173_31, e_173_32, e_173_35, e_173_37, e_173_38, e_173_39, e_173_40, e_173_41, e_173_44, e_173_46, e_173_47, e_173_48, e_173_49, e_173_50, e_173_53, e_173_55, e_173_56, e_173_57, e_173_58, e_173_61, e_173_64, e_173_67, p1, p2, p3, p4, p5, p6, p7, p8, p9, p10, p11, p12, p13, p14, p15, p16, p17, p18, p19, p20, p21, hz, e1, e2, e3, h172, ge1, ule_t, true_or, or_true, nI_add, nI_mul, nI_sub, nI_clamp, nI_lt_t, nI_lt_f, nI_le_t, nI_le_f, nI_eq_t, nI_eq_f, vp_nI, tI, fI, not_true, not_false_iff, true_and, and_true, Classical.not_not, mS_uI, mS_uA, mS_uJ, mS_uR, mS_uX, mR_uI, mR_uA, mR_uJ, mR_uX, mX_uI, mX_uA, mX_uJ, mX_uR, mI_s, mI_n, mI_A, mI_An, mI_uJ, mI_uR, mI_uX, mJ_uI, mJ_uA, mJ_uR, mJ_uX, onR_s, kC_v, kC_n, kC_t, uA_A, mI_Af]
    have := ih (k + 1) (some (.int (nI (388 + 33 * t + 1 + 4 * k)))) (by omega)
    rw [fTurn, g1, g2, nI_clamp (by have := g3.1; omega), nI_clamp (by have := g3.2.1; omega)] at this
    exact this
theorem s_173 (hM : ShM μ) (ht : t < 40) (hz : mI μ 1302 (388 + 33 * t) = nI z) (h8 : z ≤ 8) (hk : okCmd (mCmd (mI μ 1302) t) z) : Ev (d + 2) 173 [.ref 1298, .int (nI t)] μ Q = Q (some none) (uA μ 1305 (fTurn (mCmd (mI μ 1302) t) (mI μ 1305) z)) := by
  rw [in_173]
  simp (disch := omega) only [e_173_0, e_173_3, e_173_5, e_173_6, e_173_7, e_173_8, e_173_9, e_173_10, e_173_12, e_173_13, e_173_16, e_173_17, e_173_18, e_173_21, e_173_22, e_173_23, e_173_24, e_173_25, e_173_26, e_173_27, e_173_28, e_173_30, e_173_31, e_173_32, e_173_35, e_173_37, e_173_38, e_173_39, e_173_40, e_173_41, e_173_44, e_173_46, e_173_47, e_173_48, e_173_49, e_173_50, e_173_53, e_173_55, e_173_56, e_173_57, e_173_58, e_173_61, e_173_64, e_173_67, ge1, ule_t, true_or, or_true, nI_add, nI_mul, nI_sub, nI_clamp, nI_lt_t, nI_lt_f, nI_le_t, nI_le_f, nI_eq_t, nI_eq_f, vp_nI, tI, fI, not_true, not_false_iff, true_and, and_true, Classical.not_not]
  have := l_173 (d := d) (Q := Q) hM ht hz h8 hk z 0 none (by omega)
  rw [show fTurn (mCmd (mI μ 1302) t) (mI μ 1305) 0 = mI μ 1305 from rfl, uA_self] at this
  exact this
end Cmds

