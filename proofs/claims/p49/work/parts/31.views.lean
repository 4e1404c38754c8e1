/-! more rows -/
theorem bI_ok2 (p : Prop) [Decidable p] : (¬ p ∨ bI p = nI 1) = True := by
  unfold bI
  by_cases h : p
  · simp [h]
  · simp [h]
theorem ge1 {a : Nat} (h : 1000 ≤ a) : (1000 ≤ a) = True := eq_true h

/-! views of members; small pure methods of the class and of its State -/
abbrev VW : Type := Nat → Nat → Int32
abbrev vAct (V : VW) (m : Nat) : Prop := ¬ V m 2 = nI 0
abbrev vHas (V : VW) (m : Nat) (t : Int32) : Prop := V m 6 ≤ t ∧ t ≤ V m 1
def vRec (V : VW) (m : Nat) (t : Int32) : Int32 := V m (23 + t.toNatClampNeg)
def fGroup (V : VW) (t root : Int32) : Nat → Nat
  | 0 => 0
  | n + 1 => fGroup V t root n + (if vAct V n ∧ vHas V n t ∧ vRec V n t = root then 1 else 0)
def fWinP (V : VW) (n : Nat) (t : Int32) : Nat → Option Nat × Nat
  | 0 => (none, 0)
  | k + 1 =>
    let g := if vAct V k ∧ vHas V k t then fGroup V t (vRec V k t) n else 0
    (if (fWinP V n t k).2 < g then some k else (fWinP V n t k).1, if (fWinP V n t k).2 < g then g else (fWinP V n t k).2)
def fWin (V : VW) (n q : Nat) (t : Int32) : Option Nat := if (fWinP V n t n).2 < q then none else (fWinP V n t n).1
def fOff (V : VW) (n q m : Nat) : Bool := match fWin V n q (V m 1) with
  | none => false
  | some w => decide (vAct V m) && !decide (vRec V m (V m 1) = vRec V w (V m 1))
def fGivP (V : VW) (t root but : Int32) : Nat → Option Nat
  | 0 => none
  | k + 1 => if ¬ nI k = but ∧ vAct V k ∧ V k 1 = t ∧ vRec V k t = root ∧ (match fGivP V t root but k with | none => true | some j => decide (V k 3 < V j 3)) = true then some k else fGivP V t root but k
def fGiv (V : VW) (n q : Nat) (t but : Int32) : Option Nat := match fWin V n q t with
  | none => none
  | some w => fGivP V t (vRec V w t) but n
def fExt (V : VW) (g : Int32) : Nat → Int32
  | 0 => -1
  | n + 1 => if V n 2 = nI 0 then fExt V g n else if fExt V g n = -1 then V n 1 else if g = nI 0 then (if V n 1 < fExt V g n then V n 1 else fExt V g n) else (if fExt V g n < V n 1 then V n 1 else fExt V g n)
def fActs (V : VW) : Nat → Nat
  | 0 => 0
  | n + 1 => fActs V n + (if V n 2 = nI 0 then 0 else 1)
/-- a place or none -/
def oN (o : Option Nat) : Int32 := match o with | none => -1 | some m => nI m
theorem nI_m1 {a : Nat} (h : a < 2147483648) : (nI a = -1) = False := by
  apply eq_false
  intro q
  have := congrArg Int32.toInt q
  rw [nI_toInt h] at this
  have h2 : (-1 : Int32).toInt = -1 := by decide
  omega
theorem oN_m1 {o : Option Nat} (h : ∀ m, o = some m → m < 2147483648) : (oN o = -1) = (o = none) := by
  cases o with
  | none => simp [oN]
  | some m => simp only [oN, nI_m1 (h m rfl)]; simp
/-- what views keep -/
def okV (V : VW) (n : Nat) : Prop := ∀ m, m < n → (V m 2 = nI 0 ∨ V m 2 = nI 1) ∧ nI 0 ≤ V m 6 ∧ V m 6 ≤ V m 1 ∧ V m 1 ≤ nI 40
theorem vp41 {t : Int32} (h1 : nI 0 ≤ t) (h2 : t ≤ nI 40) : vp_in t 41 = True := by
  have h3 : ¬ t < 0 := fun q => by rw [nI_0] at h1; exact Int32.not_le.mpr q h1
  obtain ⟨j, hj, rfl⟩ := nI_of2 (M := nI 40) (n := 40) (by decide) h3 h2
  exact vp_nI (by omega) (by omega)
/-- the class's view of a member -/
def cV (μ : Mu) (s m k : Nat) : Int32 := if k = 0 then mI μ (s + 5 + 3 * m) 1 else if k = 1 then mI μ (s + 5 + 3 * m) 3 else if k = 2 then mI μ (s + 5 + 3 * m) 4 else if k = 3 then mI μ (s + 5 + 3 * m) 5 else if k = 4 then mI μ (s + 5 + 3 * m) 6 else if k = 5 then mI μ (s + 5 + 3 * m) 7 else if k = 6 then mI μ (s + 5 + 3 * m) 2 else if k < 23 then mI μ (s + 6 + 3 * m) (k - 7) else mI μ (s + 7 + 3 * m) (k - 23)
section CV
variable {μ : Mu} {s m k : Nat} {t : Int32}
theorem cv0 : mI μ (s + 5 + 3 * m) 1 = cV μ s m 0 := rfl
theorem cv1 : mI μ (s + 5 + 3 * m) 3 = cV μ s m 1 := rfl
theorem cv2 : mI μ (s + 5 + 3 * m) 4 = cV μ s m 2 := rfl
theorem cv3 : mI μ (s + 5 + 3 * m) 5 = cV μ s m 3 := rfl
theorem cv4 : mI μ (s + 5 + 3 * m) 6 = cV μ s m 4 := rfl
theorem cv5 : mI μ (s + 5 + 3 * m) 7 = cV μ s m 5 := rfl
theorem cv6 : mI μ (s + 5 + 3 * m) 2 = cV μ s m 6 := rfl
theorem cvr : mI μ (s + 7 + 3 * m) k = cV μ s m (23 + k) := by
  unfold cV
  rw [if_neg (by omega), if_neg (by omega), if_neg (by omega), if_neg (by omega), if_neg (by omega), if_neg (by omega), if_neg (by omega), if_neg (by omega)]
  congr 1; omega
theorem cvrec : mI μ (s + 7 + 3 * m) t.toNatClampNeg = vRec (cV μ s) m t := cvr
theorem cvc (h : k < 16) : mI μ (s + 6 + 3 * m) k = cV μ s m (7 + k) := by
  unfold cV
  rw [if_neg (by omega), if_neg (by omega), if_neg (by omega), if_neg (by omega), if_neg (by omega), if_neg (by omega), if_neg (by omega), if_pos (by omega)]
  congr 1; omega
end CV
/-- a State stands at s -/
def StS (μ : Mu) (s : Nat) : Prop := 1000 ≤ s ∧ mS μ s = (9, 6) ∧ mR μ s 0 = some (s + 1) ∧ mR μ s 4 = some (s + 2) ∧ mR μ s 5 = some (s + 3) ∧ mS μ (s + 1) = (23, 6) ∧ mS μ (s + 2) = (20, 2) ∧ mS μ (s + 3) = (5, 2) ∧ mR μ (s + 3) 0 = some (s + 4) ∧ mS μ (s + 4) = (20, 40) ∧
  (∀ m, m < 6 → mR μ (s + 1) m = some (s + 5 + 3 * m)) ∧ (∀ m, m < 6 → mS μ (s + 5 + 3 * m) = (7, 10)) ∧ (∀ m, m < 6 → mR μ (s + 5 + 3 * m) 8 = some (s + 6 + 3 * m)) ∧ (∀ m, m < 6 → mR μ (s + 5 + 3 * m) 9 = some (s + 7 + 3 * m)) ∧ (∀ m, m < 6 → mS μ (s + 6 + 3 * m) = (20, 16)) ∧ (∀ m, m < 6 → mS μ (s + 7 + 3 * m) = (20, 41))
section PureC
variable {d : Nat} {Q : Po} {μ : Mu} {a b c s n m q : Nat} {x y z t root : Int32}
theorem wp_in {A : Po} : ((x < y → A (some (some (.int (nI 0)))) μ) ∧ (¬ x < y → (z < x → A (some (some (.int (nI 0)))) μ) ∧ (¬ z < x → A (some (some (.int (nI 1)))) μ))) = A (some (some (.int (bI (y ≤ x ∧ x ≤ z))))) μ := by
  by_cases h1 : x < y
  · simp only [bI_f (show ¬ (y ≤ x ∧ x ≤ z) from fun q => Int32.not_le.mpr h1 q.1), h1, tI, fI, not_true, and_true]
  · by_cases h2 : z < x
    · simp only [bI_f (show ¬ (y ≤ x ∧ x ≤ z) from fun q => Int32.not_le.mpr h2 q.2), h1, h2, tI, fI, not_true, not_false_iff, and_true, true_and]
    · simp only [bI_t (show (y ≤ x ∧ x ≤ z) from ⟨Int32.not_lt.mp h1, Int32.not_lt.mp h2⟩), h1, h2, tI, fI, not_true, not_false_iff, and_true, true_and]
theorem s_155 : Ev (d + 1) 155 [.int x, .int y, .int z] μ Q = Q (some (some (.int (bI (y ≤ x ∧ x ≤ z))))) μ := by
  rw [in_155]
  simp (disch := omega) only [e_155_0, e_155_1, e_155_2, e_155_5, e_155_6, e_155_7, e_155_10, e_155_11, e_155_14, e_155_15, ge1, ule_t, true_or, or_true, nI_add, nI_mul, nI_sub, nI_clamp, nI_lt_t, nI_lt_f, nI_le_t, nI_le_f, nI_eq_t, nI_eq_f, vp_nI, tI, fI, not_true, not_false_iff, true_and, and_true, Classical.not_not, bI_ok]
  exact wp_in
theorem s_153 : Ev (d + 2) 153 [.int x] μ Q = Q (some (some (.int (bI (nI 0 ≤ x ∧ x ≤ nI 15))))) μ := by
  rw [in_153]
  simp (disch := omega) only [e_153_0, e_153_1, e_153_2, e_153_4, e_153_7, ge1, ule_t, true_or, or_true, nI_add, nI_mul, nI_sub, nI_clamp, nI_lt_t, nI_lt_f, nI_le_t, nI_le_f, nI_eq_t, nI_eq_f, vp_nI, tI, fI, not_true, not_false_iff, true_and, and_true, bIn0, bI_ok, bI_ok2, Classical.not_not, mS_uI, mS_uA, mS_uJ, mS_uR, mS_uX, mR_uI, mR_uA, mR_uJ, mR_uX, mX_uI, mX_uA, mX_uJ, mX_uR, mI_s, mI_n, mI_A, mI_An, mI_uJ, mI_uR, mI_uX, mJ_uI, mJ_uA, mJ_uR, mJ_uX, onR_s, kC_v, kC_n, kC_t, s_155]
theorem s_154 : Ev (d + 2) 154 [.int x] μ Q = Q (some (some (.int (bI (nI 0 ≤ x ∧ x ≤ nI 1))))) μ := by
  rw [in_154]
  simp (disch := omega) only [e_154_0, e_154_1, e_154_2, e_154_3, e_154_6, ge1, ule_t, true_or, or_true, nI_add, nI_mul, nI_sub, nI_clamp, nI_lt_t, nI_lt_f, nI_le_t, nI_le_f, nI_eq_t, nI_eq_f, vp_nI, tI, fI, not_true, not_false_iff, true_and, and_true, bIn0, bI_ok, bI_ok2, Classical.not_not, mS_uI, mS_uA, mS_uJ, mS_uR, mS_uX, mR_uI, mR_uA, mR_uJ, mR_uX, mX_uI, mX_uA, mX_uJ, mX_uR, mI_s, mI_n, mI_A, mI_An, mI_uJ, mI_uR, mI_uX, mJ_uI, mJ_uA, mJ_uR, mJ_uX, onR_s, kC_v, kC_n, kC_t, s_155]
theorem s_63 (ha : mS μ a = (7, 10)) : Ev (d + 1) 63 [.ref a, .int x] μ Q = Q (some (some (.int (bI (mI μ a 2 ≤ x ∧ x ≤ mI μ a 3))))) μ := by
  rw [in_63]
  simp (disch := omega) only [e_63_0, e_63_1, e_63_2, e_63_5, e_63_8, e_63_9, e_63_10, e_63_13, e_63_16, e_63_17, e_63_20, e_63_21, ge1, ule_t, true_or, or_true, nI_add, nI_mul, nI_sub, nI_clamp, nI_lt_t, nI_lt_f, nI_le_t, nI_le_f, nI_eq_t, nI_eq_f, vp_nI, tI, fI, not_true, not_false_iff, true_and, and_true, Classical.not_not, mS_uI, mS_uA, mS_uJ, mS_uR, mS_uX, mR_uI, mR_uA, mR_uJ, mR_uX, mX_uI, mX_uA, mX_uJ, mX_uR, mI_s, mI_n, mI_A, mI_An, mI_uJ, mI_uR, mI_uX, mJ_uI, mJ_uA, mJ_uR, mJ_uX, onR_s, kC_v, kC_n, kC_t, ha, bI_ok]
  exact wp_in
theorem s_81 (hS : StS μ s) (hm : m < 6) (hV : okV (cV μ s) (m + 1)) : Ev (d + 2) 81 [.ref s, .int (nI m), .int t, .int root] μ Q = Q (some (some (.int (bI (vAct (cV μ s) m ∧ vHas (cV μ s) m t ∧ vRec (cV μ s) m t = root))))) μ := by
  rw [in_81]
  obtain ⟨q0, q1, q2, q3, q4, q5, q6, q7, q8, q9, q10, q11, q12, q13, q14, q15⟩ := hS
  obtain ⟨v1, v2, v3, v4⟩ := hV m (by omega)
  have h63 := fun (Q : Po) => s_63 (d := d) (Q := Q) (x := t) (q11 m hm)
  rw [cv6, cv1] at h63
  by_cases ha : cV μ s m 2 = nI 0
  · rw [bI_f (fun z => z.1 ha)]
    simp (disch := omega) only [e_81_0, e_81_1, e_81_4, e_81_5, e_81_6, e_81_8, e_81_10, e_81_13, e_81_16, e_81_18, e_81_19, e_81_22, e_81_25, e_81_27, e_81_30, e_81_31, e_81_32, e_81_33, e_81_36, e_81_37, e_81_40, e_81_41, q1, q2, q3, q4, q5, q6, q7, q8, q9, q10, q11, q12, q13, q14, q15, cv0, cv1, cv2, cv3, cv4, cv5, cv6, cvrec, ha, ge1, ule_t, true_or, or_true, nI_add, nI_mul, nI_sub, nI_clamp, nI_lt_t, nI_lt_f, nI_le_t, nI_le_f, nI_eq_t, nI_eq_f, vp_nI, tI, fI, not_true, not_false_iff, true_and, and_true, Classical.not_not, mS_uI, mS_uA, mS_uJ, mS_uR, mS_uX, mR_uI, mR_uA, mR_uJ, mR_uX, mX_uI, mX_uA, mX_uJ, mX_uR, mI_s, mI_n, mI_A, mI_An, mI_uJ, mI_uR, mI_uX, mJ_uI, mJ_uA, mJ_uR, mJ_uX, onR_s, kC_v, kC_n, kC_t]
  · by_cases hh : vHas (cV μ s) m t
    · have hv : vp_in t 41 = True := vp41 (Int32.le_trans v2 hh.1) (Int32.le_trans hh.2 v4)
      rw [bI_t hh] at h63
      by_cases hr : vRec (cV μ s) m t = root
      · rw [bI_t (show vAct (cV μ s) m ∧ vHas (cV μ s) m t ∧ vRec (cV μ s) m t = root from ⟨ha, hh, hr⟩)]
        simp (disch := omega) only [e_81_0, e_81_1, e_81_4, e_81_5, e_81_6, e_81_8, e_81_10, e_81_13, e_81_16, e_81_18, e_81_19, e_81_22, e_81_25, e_81_27, e_81_30, e_81_31, e_81_32, e_81_33, e_81_36, e_81_37, e_81_40, e_81_41, h63, q1, q2, q3, q4, q5, q6, q7, q8, q9, q10, q11, q12, q13, q14, q15, cv0, cv1, cv2, cv3, cv4, cv5, cv6, cvrec, hv, ha, hr, ge1, ule_t, true_or, or_true, nI_add, nI_mul, nI_sub, nI_clamp, nI_lt_t, nI_lt_f, nI_le_t, nI_le_f, nI_eq_t, nI_eq_f, vp_nI, tI, fI, not_true, not_false_iff, true_and, and_true, Classical.not_not, mS_uI, mS_uA, mS_uJ, mS_uR, mS_uX, mR_uI, mR_uA, mR_uJ, mR_uX, mX_uI, mX_uA, mX_uJ, mX_uR, mI_s, mI_n, mI_A, mI_An, mI_uJ, mI_uR, mI_uX, mJ_uI, mJ_uA, mJ_uR, mJ_uX, onR_s, kC_v, kC_n, kC_t]
      · rw [bI_f (fun z => hr z.2.2)]
        simp (disch := omega) only [e_81_0, e_81_1, e_81_4, e_81_5, e_81_6, e_81_8, e_81_10, e_81_13, e_81_16, e_81_18, e_81_19, e_81_22, e_81_25, e_81_27, e_81_30, e_81_31, e_81_32, e_81_33, e_81_36, e_81_37, e_81_40, e_81_41, h63, q1, q2, q3, q4, q5, q6, q7, q8, q9, q10, q11, q12, q13, q14, q15, cv0, cv1, cv2, cv3, cv4, cv5, cv6, cvrec, hv, ha, hr, ge1, ule_t, true_or, or_true, nI_add, nI_mul, nI_sub, nI_clamp, nI_lt_t, nI_lt_f, nI_le_t, nI_le_f, nI_eq_t, nI_eq_f, vp_nI, tI, fI, not_true, not_false_iff, true_and, and_true, Classical.not_not, mS_uI, mS_uA, mS_uJ, mS_uR, mS_uX, mR_uI, mR_uA, mR_uJ, mR_uX, mX_uI, mX_uA, mX_uJ, mX_uR, mI_s, mI_n, mI_A, mI_An, mI_uJ, mI_uR, mI_uX, mJ_uI, mJ_uA, mJ_uR, mJ_uX, onR_s, kC_v, kC_n, kC_t]
    · rw [bI_f hh] at h63
      rw [bI_f (fun z => hh z.2.1)]
      simp (disch := omega) only [e_81_0, e_81_1, e_81_4, e_81_5, e_81_6, e_81_8, e_81_10, e_81_13, e_81_16, e_81_18, e_81_19, e_81_22, e_81_25, e_81_27, e_81_30, e_81_31, e_81_32, e_81_33, e_81_36, e_81_37, e_81_40, e_81_41, h63, q1, q2, q3, q4, q5, q6, q7, q8, q9, q10, q11, q12, q13, q14, q15, cv0, cv1, cv2, cv3, cv4, cv5, cv6, cvrec, ha, ge1, ule_t, true_or, or_true, nI_add, nI_mul, nI_sub, nI_clamp, nI_lt_t, nI_lt_f, nI_le_t, nI_le_f, nI_eq_t, nI_eq_f, vp_nI, tI, fI, not_true, not_false_iff, true_and, and_true, Classical.not_not, mS_uI, mS_uA, mS_uJ, mS_uR, mS_uX, mR_uI, mR_uA, mR_uJ, mR_uX, mX_uI, mX_uA, mX_uJ, mX_uR, mI_s, mI_n, mI_A, mI_An, mI_uJ, mI_uR, mI_uX, mJ_uI, mJ_uA, mJ_uR, mJ_uX, onR_s, kC_v, kC_n, kC_t]
end PureC

/-! the model's readers -/
def rW (r : Nat → Int32) (m k : Nat) : Int32 := r (3 + 64 * m + k)
theorem rv {μ : Mu} {a m k : Nat} : mI μ a (3 + 64 * m + k) = rW (mI μ a) m k := rfl
theorem t40 {t : Int32} (h1 : nI 0 ≤ t) (h2 : t ≤ nI 40) : ∃ j, j ≤ 40 ∧ t = nI j := by
  have h3 : ¬ t < 0 := fun q => by rw [nI_0] at h1; exact Int32.not_le.mpr q h1
  exact nI_of2 (M := nI 40) (n := 40) (by decide) h3 h2
section ModelR
variable {d : Nat} {Q : Po} {μ : Mu} {n m k q m0 : Nat} {x y z t root : Int32}
end ModelR

/-! the State's own readers: votes, winners, donors -/
theorem okV_le {V : VW} {n k : Nat} (h : okV V n) (hk : k ≤ n) : okV V k := fun m hm => h m (by omega)
theorem fGroup_le (V : VW) (t root : Int32) : ∀ n, fGroup V t root n ≤ n
  | 0 => Nat.le_refl _
  | n + 1 => by
    have := fGroup_le V t root n
    rw [fGroup]
    split <;> omega
theorem fWinP_no {V : VW} {n : Nat} {t : Int32} {m : Nat} (h : ¬ (vAct V m ∧ vHas V m t)) : fWinP V n t (m + 1) = fWinP V n t m := by
  have e := fWinP.eq_2 V n t m
  simp only [if_neg h, Nat.not_lt_zero, if_false] at e
  exact e
theorem fWinP_yes {V : VW} {n : Nat} {t : Int32} {m : Nat} (h : vAct V m ∧ vHas V m t) : fWinP V n t (m + 1) = if (fWinP V n t m).2 < fGroup V t (vRec V m t) n then (some m, fGroup V t (vRec V m t) n) else fWinP V n t m := by
  have e := fWinP.eq_2 V n t m
  simp only [if_pos h] at e
  rw [e]
  split <;> rfl
theorem fWinP_le (V : VW) (n : Nat) (t : Int32) : ∀ k, (fWinP V n t k).2 ≤ n
  | 0 => Nat.zero_le _
  | k + 1 => by
    have h1 := fWinP_le V n t k
    by_cases h : vAct V k ∧ vHas V k t
    · rw [fWinP_yes h]
      split
      · exact fGroup_le V t _ n
      · exact h1
    · rw [fWinP_no h]
      exact h1
theorem fWinP_some {V : VW} {n : Nat} {t : Int32} : ∀ {k w}, (fWinP V n t k).1 = some w → w < k ∧ vAct V w ∧ vHas V w t
  | 0, w, h => by cases h
  | k + 1, w, h => by
    by_cases hc : vAct V k ∧ vHas V k t
    · rw [fWinP_yes hc] at h
      split at h
      · injection h with e
        subst e
        exact ⟨by omega, hc.1, hc.2⟩
      · obtain ⟨a, b⟩ := fWinP_some (k := k) h
        exact ⟨by omega, b⟩
    · rw [fWinP_no hc] at h
      obtain ⟨a, b⟩ := fWinP_some (k := k) h
      exact ⟨by omega, b⟩
theorem fWin_some {V : VW} {n q : Nat} {t : Int32} {w : Nat} (h : fWin V n q t = some w) : w < n ∧ vAct V w ∧ vHas V w t := by
  unfold fWin at h
  split at h
  · cases h
  · exact fWinP_some h
/-- the class's running winner -/
def cW (V : VW) (n q : Nat) (t : Int32) (m : Nat) : Option Nat × Nat := if (fWinP V n t m).2 < q then (none, q - 1) else fWinP V n t m
theorem cW_0 {V : VW} {n q : Nat} {t : Int32} (h : 1 ≤ q) : cW V n q t 0 = (none, q - 1) := if_pos (by show 0 < q; omega)
theorem cW_n {V : VW} {n q : Nat} {t : Int32} : (cW V n q t n).1 = fWin V n q t := by unfold cW fWin; split <;> rfl
theorem cW_no {V : VW} {n q : Nat} {t : Int32} {m : Nat} (h : ¬ (vAct V m ∧ vHas V m t)) : cW V n q t (m + 1) = cW V n q t m := by
  unfold cW
  rw [fWinP_no h]
theorem cW_yes {V : VW} {n q : Nat} {t : Int32} {m : Nat} (h : vAct V m ∧ vHas V m t) (hq : 1 ≤ q) : cW V n q t (m + 1) = if (cW V n q t m).2 < fGroup V t (vRec V m t) n then (some m, fGroup V t (vRec V m t) n) else cW V n q t m := by
  have e := fWinP_yes (n := n) h
  unfold cW
  rw [e]
  generalize fGroup V t (vRec V m t) n = g
  generalize fWinP V n t m = P
  by_cases h1 : P.2 < g
  · rw [if_pos h1]
    dsimp only
    by_cases h2 : P.2 < q
    · rw [if_pos h2]
      dsimp only
      by_cases h3 : g < q
      · rw [if_pos h3, if_neg (by omega)]
      · rw [if_neg h3, if_pos (by omega)]
    · rw [if_neg h2, if_neg (by omega), if_pos h1]
  · rw [if_neg h1]
    by_cases h2 : P.2 < q
    · rw [if_pos h2]
      dsimp only
      rw [if_neg (by omega)]
    · rw [if_neg h2, if_neg h1]
theorem cW_le {V : VW} {n q : Nat} {t : Int32} {m : Nat} : (cW V n q t m).2 ≤ n + q := by
  unfold cW
  split
  · dsimp only; omega
  · have := fWinP_le V n t m; omega
theorem fGivP_or {V : VW} {t root but : Int32} {k : Nat} : fGivP V t root but (k + 1) = some k ∨ fGivP V t root but (k + 1) = fGivP V t root but k := by
  rw [fGivP.eq_2]
  exact (Classical.em _).elim (fun c => Or.inl (if_pos c)) (fun c => Or.inr (if_neg c))
theorem fGivP_lt {V : VW} {t root but : Int32} : ∀ {k j}, fGivP V t root but k = some j → j < k
  | 0, j, h => by cases h
  | k + 1, j, h => by
    rcases fGivP_or (V := V) (t := t) (root := root) (but := but) (k := k) with e | e
    · rw [e] at h
      injection h with e
      omega
    · rw [e] at h
      have := fGivP_lt (k := k) h
      omega
section StateR
variable {d : Nat} {Q : Po} {μ : Mu} {s n m q : Nat} {t root but : Int32} {l5 l6 : Option Value}
theorem l_82 (hS : StS μ s) (hn : mI μ s 1 = nI n) (h6 : n ≤ 6) (hV : okV (cV μ s) n) : ∀ k m, m + k = n → EM 82 (d + 2) 5 [some (.ref s), some (.int t), some (.int root), some (.int (nI (fGroup (cV μ s) t root m))), some (.int (nI m))] [] μ (0, 0) Q = Q (some (some (.int (nI (fGroup (cV μ s) t root n))))) μ := by
  have hS0 := hS
  obtain ⟨q0, q1, q2, q3, q4, q5, q6, q7, q8, q9, q10, q11, q12, q13, q14, q15⟩ := hS
  intro k
  induction k with
  | zero =>
    intro m hm
    obtain rfl : m = n := by omega
    rw [e_82_5]
    simp (disch := omega) only [e_82_0, e_82_1, e_82_2, e_82_3, e_82_7, e_82_8, e_82_11, e_82_14, e_82_15, e_82_17, e_82_18, e_82_19, e_82_22, e_82_25, e_82_28, e_82_31, e_82_34, e_82_35, q1, q2, q3, q4, q5, q6, q7, q8, q9, q10, q11, q12, q13, q14, q15, hn, ge1, ule_t, true_or, or_true, nI_add, nI_mul, nI_sub, nI_clamp, nI_lt_t, nI_lt_f, nI_le_t, nI_le_f, nI_eq_t, nI_eq_f, vp_nI, tI, fI, not_true, not_false_iff, true_and, and_true, Classical.not_not, mS_uI, mS_uA, mS_uJ, mS_uR, mS_uX, mR_uI, mR_uA, mR_uJ, mR_uX, mX_uI, mX_uA, mX_uJ, mX_uR, mI_s, mI_n, mI_A, mI_An, mI_uJ, mI_uR, mI_uX, mJ_uI, mJ_uA, mJ_uR, mJ_uX, onR_s, kC_v, kC_n, kC_t]
  | succ k ih =>
    intro m hm
    rw [e_82_5]
    have h81 := fun (Q : Po) => s_81 (d := d) (Q := Q) (t := t) (root := root) hS0 (show m < 6 by omega) (okV_le hV (show m + 1 ≤ n by omega))
    by_cases hp : vAct (cV μ s) m ∧ vHas (cV μ s) m t ∧ vRec (cV μ s) m t = root
    · have hg : fGroup (cV μ s) t root (m + 1) = fGroup (cV μ s) t root m + 1 := by rw [fGroup, if_pos hp]
      rw [bI_t hp] at h81
      simp (disch := omega) only [e_82_0, e_82_1, e_82_2, e_82_3, e_82_7, e_82_8, e_82_11, e_82_14, e_82_15, e_82_17, e_82_18, e_82_19, e_82_22, e_82_25, e_82_28, e_82_31, e_82_34, e_82_35, q1, q2, q3, q4, q5, q6, q7, q8, q9, q10, q11, q12, q13, q14, q15, hn, h81, ge1, ule_t, true_or, or_true, nI_add, nI_mul, nI_sub, nI_clamp, nI_lt_t, nI_lt_f, nI_le_t, nI_le_f, nI_eq_t, nI_eq_f, vp_nI, tI, fI, not_true, not_false_iff, true_and, and_true, Classical.not_not, mS_uI, mS_uA, mS_uJ, mS_uR, mS_uX, mR_uI, mR_uA, mR_uJ, mR_uX, mX_uI, mX_uA, mX_uJ, mX_uR, mI_s, mI_n, mI_A, mI_An, mI_uJ, mI_uR, mI_uX, mJ_uI, mJ_uA, mJ_uR, mJ_uX, onR_s, kC_v, kC_n, kC_t]
      rw [← hg]
      exact ih (m + 1) (by omega)
    · have hg : fGroup (cV μ s) t root (m + 1) = fGroup (cV μ s) t root m := by rw [fGroup, if_neg hp]; rfl
      rw [bI_f hp] at h81
      simp (disch := omega) only [e_82_0, e_82_1, e_82_2, e_82_3, e_82_7, e_82_8, e_82_11, e_82_14, e_82_15, e_82_17, e_82_18, e_82_19, e_82_22, e_82_25, e_82_28, e_82_31, e_82_34, e_82_35, q1, q2, q3, q4, q5, q6, q7, q8, q9, q10, q11, q12, q13, q14, q15, hn, h81, ge1, ule_t, true_or, or_true, nI_add, nI_mul, nI_sub, nI_clamp, nI_lt_t, nI_lt_f, nI_le_t, nI_le_f, nI_eq_t, nI_eq_f, vp_nI, tI, fI, not_true, not_false_iff, true_and, and_true, Classical.not_not, mS_uI, mS_uA, mS_uJ, mS_uR, mS_uX, mR_uI, mR_uA, mR_uJ, mR_uX, mX_uI, mX_uA, mX_uJ, mX_uR, mI_s, mI_n, mI_A, mI_An, mI_uJ, mI_uR, mI_uX, mJ_uI, mJ_uA, mJ_uR, mJ_uX, onR_s, kC_v, kC_n, kC_t]
      rw [← hg]
      exact ih (m + 1) (by omega)
theorem s_82 (hS : StS μ s) (hn : mI μ s 1 = nI n) (h6 : n ≤ 6) (hV : okV (cV μ s) n) : Ev (d + 3) 82 [.ref s, .int t, .int root] μ Q = Q (some (some (.int (nI (fGroup (cV μ s) t root n))))) μ := by
  rw [in_82]
  simp (disch := omega) only [e_82_0, e_82_1, e_82_2, e_82_3, e_82_7, e_82_8, e_82_11, e_82_14, e_82_15, e_82_17, e_82_18, e_82_19, e_82_22, e_82_25, e_82_28, e_82_31, e_82_34, e_82_35, ge1, ule_t, true_or, or_true, nI_add, nI_mul, nI_sub, nI_clamp, nI_lt_t, nI_lt_f, nI_le_t, nI_le_f, nI_eq_t, nI_eq_f, vp_nI, tI, fI, not_true, not_false_iff, true_and, and_true, Classical.not_not]
  exact l_82 hS hn h6 hV n 0 (by omega)
theorem l_83 (hS : StS μ s) (hn : mI μ s 1 = nI n) (h6 : n ≤ 6) (hV : okV (cV μ s) n) (hq : 1 ≤ q) (hq6 : q ≤ 6) : ∀ k m l5 l6, m + k = n → EM 83 (d + 3) 14 [some (.ref s), some (.int t), some (.int (oN (cW (cV μ s) n q t m).1)), some (.int (nI (cW (cV μ s) n q t m).2)), some (.int (nI m)), l5, l6] [] μ (0, 0) Q = Q (some (some (.int (oN (fWin (cV μ s) n q t))))) μ := by
  have hS0 := hS
  obtain ⟨q0, q1, q2, q3, q4, q5, q6, q7, q8, q9, q10, q11, q12, q13, q14, q15⟩ := hS
  intro k
  induction k with
  | zero =>
    intro m l5 l6 hm
    obtain rfl : m = n := by omega
    rw [e_83_14]
    simp (disch := omega) only [e_83_0, e_83_1, e_83_2, e_83_3, e_83_6, e_83_7, e_83_8, e_83_9, e_83_10, e_83_11, e_83_12, e_83_16, e_83_17, e_83_20, e_83_23, e_83_24, e_83_27, e_83_29, e_83_30, e_83_32, e_83_34, e_83_37, e_83_40, e_83_42, e_83_43, e_83_46, e_83_49, e_83_50, e_83_51, e_83_53, e_83_56, e_83_57, e_83_58, e_83_61, e_83_63, e_83_65, e_83_66, e_83_69, e_83_71, e_83_72, e_83_74, e_83_75, e_83_78, e_83_81, e_83_82, q1, q2, q3, q4, q5, q6, q7, q8, q9, q10, q11, q12, q13, q14, q15, hn, ge1, ule_t, true_or, or_true, nI_add, nI_mul, nI_sub, nI_clamp, nI_lt_t, nI_lt_f, nI_le_t, nI_le_f, nI_eq_t, nI_eq_f, vp_nI, tI, fI, not_true, not_false_iff, true_and, and_true, Classical.not_not, mS_uI, mS_uA, mS_uJ, mS_uR, mS_uX, mR_uI, mR_uA, mR_uJ, mR_uX, mX_uI, mX_uA, mX_uJ, mX_uR, mI_s, mI_n, mI_A, mI_An, mI_uJ, mI_uR, mI_uX, mJ_uI, mJ_uA, mJ_uR, mJ_uX, onR_s, kC_v, kC_n, kC_t, cW_n]
  | succ k ih =>
    intro m l5 l6 hm
    rw [e_83_14]
    have hc := cW_le (V := cV μ s) (n := n) (q := q) (t := t) (m := m)
    have hg := fGroup_le (cV μ s) t (vRec (cV μ s) m t) n
    obtain ⟨v1, v2, v3, v4⟩ := hV m (by omega)
    have h63 := fun (Q : Po) => s_63 (d := d + 2) (Q := Q) (x := t) (q11 m (by omega))
    rw [cv6, cv1] at h63
    have h82 := fun (Q : Po) (root : Int32) => s_82 (d := d) (Q := Q) (t := t) (root := root) hS0 hn h6 hV
    by_cases ha : cV μ s m 2 = nI 0
    · have hno : ¬ (vAct (cV μ s) m ∧ vHas (cV μ s) m t) := fun z => z.1 ha
      simp (disch := omega) only [e_83_0, e_83_1, e_83_2, e_83_3, e_83_6, e_83_7, e_83_8, e_83_9, e_83_10, e_83_11, e_83_12, e_83_16, e_83_17, e_83_20, e_83_23, e_83_24, e_83_27, e_83_29, e_83_30, e_83_32, e_83_34, e_83_37, e_83_40, e_83_42, e_83_43, e_83_46, e_83_49, e_83_50, e_83_51, e_83_53, e_83_56, e_83_57, e_83_58, e_83_61, e_83_63, e_83_65, e_83_66, e_83_69, e_83_71, e_83_72, e_83_74, e_83_75, e_83_78, e_83_81, e_83_82, q1, q2, q3, q4, q5, q6, q7, q8, q9, q10, q11, q12, q13, q14, q15, hn, cv0, cv1, cv2, cv3, cv4, cv5, cv6, cvrec, ha, ge1, ule_t, true_or, or_true, nI_add, nI_mul, nI_sub, nI_clamp, nI_lt_t, nI_lt_f, nI_le_t, nI_le_f, nI_eq_t, nI_eq_f, vp_nI, tI, fI, not_true, not_false_iff, true_and, and_true, Classical.not_not, mS_uI, mS_uA, mS_uJ, mS_uR, mS_uX, mR_uI, mR_uA, mR_uJ, mR_uX, mX_uI, mX_uA, mX_uJ, mX_uR, mI_s, mI_n, mI_A, mI_An, mI_uJ, mI_uR, mI_uX, mJ_uI, mJ_uA, mJ_uR, mJ_uX, onR_s, kC_v, kC_n, kC_t]
      rw [← cW_no hno]
      exact ih (m + 1) _ _ (by omega)
    · by_cases hh : vHas (cV μ s) m t
      · have hv : vp_in t 41 = True := vp41 (Int32.le_trans v2 hh.1) (Int32.le_trans hh.2 v4)
        rw [bI_t hh] at h63
        have hy := cW_yes (n := n) (q := q) ⟨ha, hh⟩ hq
        by_cases hlt : (cW (cV μ s) n q t m).2 < fGroup (cV μ s) t (vRec (cV μ s) m t) n
        · rw [if_pos hlt] at hy
          simp (disch := omega) only [e_83_0, e_83_1, e_83_2, e_83_3, e_83_6, e_83_7, e_83_8, e_83_9, e_83_10, e_83_11, e_83_12, e_83_16, e_83_17, e_83_20, e_83_23, e_83_24, e_83_27, e_83_29, e_83_30, e_83_32, e_83_34, e_83_37, e_83_40, e_83_42, e_83_43, e_83_46, e_83_49, e_83_50, e_83_51, e_83_53, e_83_56, e_83_57, e_83_58, e_83_61, e_83_63, e_83_65, e_83_66, e_83_69, e_83_71, e_83_72, e_83_74, e_83_75, e_83_78, e_83_81, e_83_82, q1, q2, q3, q4, q5, q6, q7, q8, q9, q10, q11, q12, q13, q14, q15, hn, cv0, cv1, cv2, cv3, cv4, cv5, cv6, cvrec, ha, hv, h63, h82, ge1, ule_t, true_or, or_true, nI_add, nI_mul, nI_sub, nI_clamp, nI_lt_t, nI_lt_f, nI_le_t, nI_le_f, nI_eq_t, nI_eq_f, vp_nI, tI, fI, not_true, not_false_iff, true_and, and_true, Classical.not_not, mS_uI, mS_uA, mS_uJ, mS_uR, mS_uX, mR_uI, mR_uA, mR_uJ, mR_uX, mX_uI, mX_uA, mX_uJ, mX_uR, mI_s, mI_n, mI_A, mI_An, mI_uJ, mI_uR, mI_uX, mJ_uI, mJ_uA, mJ_uR, mJ_uX, onR_s, kC_v, kC_n, kC_t]
          have := ih (m + 1) (some (.ref (s + 5 + 3 * m))) (some (.int (nI (fGroup (cV μ s) t (vRec (cV μ s) m t) n)))) (by omega)
          rw [hy] at this
          exact this
        · rw [if_neg hlt] at hy
          simp (disch := omega) only [e_83_0, e_83_1, e_83_2, e_83_3, e_83_6, e_83_7, e_83_8, e_83_9, e_83_10, e_83_11, e_83_12, e_83_16, e_83_17, e_83_20, e_83_23, e_83_24, e_83_27, e_83_29, e_83_30, e_83_32, e_83_34, e_83_37, e_83_40, e_83_42, e_83_43, e_83_46, e_83_49, e_83_50, e_83_51, e_83_53, e_83_56, e_83_57, e_83_58, e_83_61, e_83_63, e_83_65, e_83_66, e_83_69, e_83_71, e_83_72, e_83_74, e_83_75, e_83_78, e_83_81, e_83_82, q1, q2, q3, q4, q5, q6, q7, q8, q9, q10, q11, q12, q13, q14, q15, hn, cv0, cv1, cv2, cv3, cv4, cv5, cv6, cvrec, ha, hv, h63, h82, ge1, ule_t, true_or, or_true, nI_add, nI_mul, nI_sub, nI_clamp, nI_lt_t, nI_lt_f, nI_le_t, nI_le_f, nI_eq_t, nI_eq_f, vp_nI, tI, fI, not_true, not_false_iff, true_and, and_true, Classical.not_not, mS_uI, mS_uA, mS_uJ, mS_uR, mS_uX, mR_uI, mR_uA, mR_uJ, mR_uX, mX_uI, mX_uA, mX_uJ, mX_uR, mI_s, mI_n, mI_A, mI_An, mI_uJ, mI_uR, mI_uX, mJ_uI, mJ_uA, mJ_uR, mJ_uX, onR_s, kC_v, kC_n, kC_t]
          rw [← hy]
          exact ih (m + 1) _ _ (by omega)
      · have hno : ¬ (vAct (cV μ s) m ∧ vHas (cV μ s) m t) := fun z => hh z.2
        rw [bI_f hh] at h63
        simp (disch := omega) only [e_83_0, e_83_1, e_83_2, e_83_3, e_83_6, e_83_7, e_83_8, e_83_9, e_83_10, e_83_11, e_83_12, e_83_16, e_83_17, e_83_20, e_83_23, e_83_24, e_83_27, e_83_29, e_83_30, e_83_32, e_83_34, e_83_37, e_83_40, e_83_42, e_83_43, e_83_46, e_83_49, e_83_50, e_83_51, e_83_53, e_83_56, e_83_57, e_83_58, e_83_61, e_83_63, e_83_65, e_83_66, e_83_69, e_83_71, e_83_72, e_83_74, e_83_75, e_83_78, e_83_81, e_83_82, q1, q2, q3, q4, q5, q6, q7, q8, q9, q10, q11, q12, q13, q14, q15, hn, cv0, cv1, cv2, cv3, cv4, cv5, cv6, cvrec, ha, h63, ge1, ule_t, true_or, or_true, nI_add, nI_mul, nI_sub, nI_clamp, nI_lt_t, nI_lt_f, nI_le_t, nI_le_f, nI_eq_t, nI_eq_f, vp_nI, tI, fI, not_true, not_false_iff, true_and, and_true, Classical.not_not, mS_uI, mS_uA, mS_uJ, mS_uR, mS_uX, mR_uI, mR_uA, mR_uJ, mR_uX, mX_uI, mX_uA, mX_uJ, mX_uR, mI_s, mI_n, mI_A, mI_An, mI_uJ, mI_uR, mI_uX, mJ_uI, mJ_uA, mJ_uR, mJ_uX, onR_s, kC_v, kC_n, kC_t]
        rw [← cW_no hno]
        exact ih (m + 1) _ _ (by omega)
theorem s_83 (hS : StS μ s) (hn : mI μ s 1 = nI n) (h6 : n ≤ 6) (hV : okV (cV μ s) n) (hq9 : mI μ (s + 2) 1 = nI q) (hq : 1 ≤ q) (hq6 : q ≤ 6) : Ev (d + 4) 83 [.ref s, .int t] μ Q = Q (some (some (.int (oN (fWin (cV μ s) n q t))))) μ := by
  have hS0 := hS
  obtain ⟨q0, q1, q2, q3, q4, q5, q6, q7, q8, q9, q10, q11, q12, q13, q14, q15⟩ := hS
  rw [in_83]
  simp (disch := omega) only [e_83_0, e_83_1, e_83_2, e_83_3, e_83_6, e_83_7, e_83_8, e_83_9, e_83_10, e_83_11, e_83_12, e_83_16, e_83_17, e_83_20, e_83_23, e_83_24, e_83_27, e_83_29, e_83_30, e_83_32, e_83_34, e_83_37, e_83_40, e_83_42, e_83_43, e_83_46, e_83_49, e_83_50, e_83_51, e_83_53, e_83_56, e_83_57, e_83_58, e_83_61, e_83_63, e_83_65, e_83_66, e_83_69, e_83_71, e_83_72, e_83_74, e_83_75, e_83_78, e_83_81, e_83_82, q1, q2, q3, q4, q5, q6, q7, q8, q9, q10, q11, q12, q13, q14, q15, hq9, ge1, ule_t, true_or, or_true, nI_add, nI_mul, nI_sub, nI_clamp, nI_lt_t, nI_lt_f, nI_le_t, nI_le_f, nI_eq_t, nI_eq_f, vp_nI, tI, fI, not_true, not_false_iff, true_and, and_true, Classical.not_not, mS_uI, mS_uA, mS_uJ, mS_uR, mS_uX, mR_uI, mR_uA, mR_uJ, mR_uX, mX_uI, mX_uA, mX_uJ, mX_uR, mI_s, mI_n, mI_A, mI_An, mI_uJ, mI_uR, mI_uX, mJ_uI, mJ_uA, mJ_uR, mJ_uX, onR_s, kC_v, kC_n, kC_t]
  have := l_83 (d := d) (Q := Q) (t := t) hS0 hn h6 hV hq hq6 n 0 none none (by omega)
  rw [cW_0 hq] at this
  exact this
end StateR

/-! State: outvoted, donors, extremes, names -/
section StateR2
variable {d : Nat} {Q : Po} {μ : Mu} {s n m q : Nat} {t root but x g : Int32} {l5 l6 : Option Value}
theorem s_84 (hS : StS μ s) (hn : mI μ s 1 = nI n) (h6 : n ≤ 6) (hV : okV (cV μ s) n) (hq9 : mI μ (s + 2) 1 = nI q) (hq : 1 ≤ q) (hq6 : q ≤ 6) (hm : m < n) : Ev (d + 5) 84 [.ref s, .ref (s + 5 + 3 * m)] μ Q = Q (some (some (.int (bI (fOff (cV μ s) n q m = true))))) μ := by
  have hS0 := hS
  obtain ⟨q0, q1, q2, q3, q4, q5, q6, q7, q8, q9, q10, q11, q12, q13, q14, q15⟩ := hS
  obtain ⟨v1, v2, v3, v4⟩ := hV m hm
  have hv : vp_in (cV μ s m 1) 41 = True := vp41 (Int32.le_trans v2 v3) v4
  have h83 := fun (Q : Po) (t : Int32) => s_83 (d := d) (Q := Q) (t := t) hS0 hn h6 hV hq9 hq hq6
  rw [in_84]
  cases hw : fWin (cV μ s) n q (cV μ s m 1) with
  | none =>
    have hf : fOff (cV μ s) n q m = false := by unfold fOff; rw [hw]
    simp (disch := omega) only [e_84_0, e_84_1, e_84_4, e_84_5, e_84_6, e_84_7, e_84_10, e_84_11, e_84_12, e_84_15, e_84_18, e_84_19, e_84_20, e_84_23, e_84_24, e_84_27, e_84_28, e_84_29, e_84_30, e_84_33, e_84_34, e_84_35, e_84_38, e_84_39, e_84_40, e_84_43, e_84_44, e_84_47, e_84_48, q1, q2, q3, q4, q5, q6, q7, q8, q9, q10, q11, q12, q13, q14, q15, cv0, cv1, cv2, cv3, cv4, cv5, cv6, cvrec, h83, hw, hf, oN, ge1, ule_t, true_or, or_true, nI_add, nI_mul, nI_sub, nI_clamp, nI_lt_t, nI_lt_f, nI_le_t, nI_le_f, nI_eq_t, nI_eq_f, vp_nI, tI, fI, not_true, not_false_iff, true_and, and_true, Classical.not_not, mS_uI, mS_uA, mS_uJ, mS_uR, mS_uX, mR_uI, mR_uA, mR_uJ, mR_uX, mX_uI, mX_uA, mX_uJ, mX_uR, mI_s, mI_n, mI_A, mI_An, mI_uJ, mI_uR, mI_uX, mJ_uI, mJ_uA, mJ_uR, mJ_uX, onR_s, kC_v, kC_n, kC_t]
    by_cases ha : cV μ s m 2 = nI 0 <;> simp [ha, bI]
  | some w =>
    obtain ⟨w1, w2, w3⟩ := fWin_some hw
    have hf : fOff (cV μ s) n q m = (decide (vAct (cV μ s) m) && !decide (vRec (cV μ s) m (cV μ s m 1) = vRec (cV μ s) w (cV μ s m 1))) := by unfold fOff; rw [hw]
    have hm1 : (nI w = -1) = False := nI_m1 (by omega)
    simp (disch := omega) only [e_84_0, e_84_1, e_84_4, e_84_5, e_84_6, e_84_7, e_84_10, e_84_11, e_84_12, e_84_15, e_84_18, e_84_19, e_84_20, e_84_23, e_84_24, e_84_27, e_84_28, e_84_29, e_84_30, e_84_33, e_84_34, e_84_35, e_84_38, e_84_39, e_84_40, e_84_43, e_84_44, e_84_47, e_84_48, q1, q2, q3, q4, q5, q6, q7, q8, q9, q10, q11, q12, q13, q14, q15, cv0, cv1, cv2, cv3, cv4, cv5, cv6, cvrec, h83, hw, hf, hv, oN, hm1, ge1, ule_t, true_or, or_true, nI_add, nI_mul, nI_sub, nI_clamp, nI_lt_t, nI_lt_f, nI_le_t, nI_le_f, nI_eq_t, nI_eq_f, vp_nI, tI, fI, not_true, not_false_iff, true_and, and_true, Classical.not_not, mS_uI, mS_uA, mS_uJ, mS_uR, mS_uX, mR_uI, mR_uA, mR_uJ, mR_uX, mX_uI, mX_uA, mX_uJ, mX_uR, mI_s, mI_n, mI_A, mI_An, mI_uJ, mI_uR, mI_uX, mJ_uI, mJ_uA, mJ_uR, mJ_uX, onR_s, kC_v, kC_n, kC_t]
    by_cases ha : cV μ s m 2 = nI 0 <;> by_cases hr : vRec (cV μ s) m (cV μ s m 1) = vRec (cV μ s) w (cV μ s m 1) <;> simp [ha, hr, bI]
theorem l_85 (hS : StS μ s) (hn : mI μ s 1 = nI n) (h6 : n ≤ 6) (hV : okV (cV μ s) n) : ∀ k m, m + k = n → EM 85 (d + 4) 32 [some (.ref s), some (.int t), some (.int but), l5, some (.int root), some (.int (oN (fGivP (cV μ s) t root but m))), some (.int (nI m))] [] μ (0, 0) Q = Q (some (some (.int (oN (fGivP (cV μ s) t root but n))))) μ := by
  have hS0 := hS
  obtain ⟨q0, q1, q2, q3, q4, q5, q6, q7, q8, q9, q10, q11, q12, q13, q14, q15⟩ := hS
  intro k
  induction k with
  | zero =>
    intro m hm
    obtain rfl : m = n := by omega
    rw [e_85_32]
    simp (disch := omega) only [e_85_0, e_85_1, e_85_2, e_85_5, e_85_6, e_85_7, e_85_8, e_85_11, e_85_12, e_85_13, e_85_14, e_85_17, e_85_18, e_85_19, e_85_22, e_85_23, e_85_24, e_85_26, e_85_27, e_85_29, e_85_30, e_85_34, e_85_35, e_85_38, e_85_41, e_85_43, e_85_44, e_85_47, e_85_48, e_85_51, e_85_53, e_85_54, e_85_57, e_85_58, e_85_61, e_85_62, e_85_64, e_85_65, e_85_67, e_85_70, e_85_73, e_85_75, e_85_76, e_85_79, e_85_80, e_85_83, e_85_85, e_85_86, e_85_89, e_85_90, e_85_93, e_85_95, e_85_96, e_85_99, e_85_102, e_85_104, e_85_106, e_85_109, e_85_112, e_85_114, q1, q2, q3, q4, q5, q6, q7, q8, q9, q10, q11, q12, q13, q14, q15, hn, ge1, ule_t, true_or, or_true, nI_add, nI_mul, nI_sub, nI_clamp, nI_lt_t, nI_lt_f, nI_le_t, nI_le_f, nI_eq_t, nI_eq_f, vp_nI, tI, fI, not_true, not_false_iff, true_and, and_true, Classical.not_not, mS_uI, mS_uA, mS_uJ, mS_uR, mS_uX, mR_uI, mR_uA, mR_uJ, mR_uX, mX_uI, mX_uA, mX_uJ, mX_uR, mI_s, mI_n, mI_A, mI_An, mI_uJ, mI_uR, mI_uX, mJ_uI, mJ_uA, mJ_uR, mJ_uX, onR_s, kC_v, kC_n, kC_t]
  | succ k ih =>
    intro m hm
    rw [e_85_32]
    have h81 := fun (Q : Po) (t root : Int32) => s_81 (d := d + 2) (Q := Q) (t := t) (root := root) hS0 (show m < 6 by omega) (okV_le hV (show m + 1 ≤ n by omega))
    obtain ⟨v1, v2, v3, v4⟩ := hV m (by omega)
    have e1 := fGivP.eq_2 (cV μ s) t root but m
    by_cases hb : nI m = but
    · have e : fGivP (cV μ s) t root but (m + 1) = fGivP (cV μ s) t root but m := by rw [e1, if_neg (fun z => z.1 hb)]
      simp (disch := omega) only [e_85_0, e_85_1, e_85_2, e_85_5, e_85_6, e_85_7, e_85_8, e_85_11, e_85_12, e_85_13, e_85_14, e_85_17, e_85_18, e_85_19, e_85_22, e_85_23, e_85_24, e_85_26, e_85_27, e_85_29, e_85_30, e_85_34, e_85_35, e_85_38, e_85_41, e_85_43, e_85_44, e_85_47, e_85_48, e_85_51, e_85_53, e_85_54, e_85_57, e_85_58, e_85_61, e_85_62, e_85_64, e_85_65, e_85_67, e_85_70, e_85_73, e_85_75, e_85_76, e_85_79, e_85_80, e_85_83, e_85_85, e_85_86, e_85_89, e_85_90, e_85_93, e_85_95, e_85_96, e_85_99, e_85_102, e_85_104, e_85_106, e_85_109, e_85_112, e_85_114, q1, q2, q3, q4, q5, q6, q7, q8, q9, q10, q11, q12, q13, q14, q15, hn, eq_true hb, ge1, ule_t, true_or, or_true, nI_add, nI_mul, nI_sub, nI_clamp, nI_lt_t, nI_lt_f, nI_le_t, nI_le_f, nI_eq_t, nI_eq_f, vp_nI, tI, fI, not_true, not_false_iff, true_and, and_true, Classical.not_not, mS_uI, mS_uA, mS_uJ, mS_uR, mS_uX, mR_uI, mR_uA, mR_uJ, mR_uX, mX_uI, mX_uA, mX_uJ, mX_uR, mI_s, mI_n, mI_A, mI_An, mI_uJ, mI_uR, mI_uX, mJ_uI, mJ_uA, mJ_uR, mJ_uX, onR_s, kC_v, kC_n, kC_t]
      rw [← e]
      exact ih (m + 1) (by omega)
    · by_cases hx : cV μ s m 1 = t
      · by_cases hp : vAct (cV μ s) m ∧ vHas (cV μ s) m t ∧ vRec (cV μ s) m t = root
        · have hp9 := hp
          cases hd : fGivP (cV μ s) t root but m with
          | none =>
            have e : fGivP (cV μ s) t root but (m + 1) = some m := by rw [e1, if_pos ⟨hb, hp.1, hx, hp.2.2, by rw [hd]⟩]
            have h81' := fun (Q : Po) => h81 Q t root
            simp only [bI_t hp] at h81'
            simp (disch := omega) only [e_85_0, e_85_1, e_85_2, e_85_5, e_85_6, e_85_7, e_85_8, e_85_11, e_85_12, e_85_13, e_85_14, e_85_17, e_85_18, e_85_19, e_85_22, e_85_23, e_85_24, e_85_26, e_85_27, e_85_29, e_85_30, e_85_34, e_85_35, e_85_38, e_85_41, e_85_43, e_85_44, e_85_47, e_85_48, e_85_51, e_85_53, e_85_54, e_85_57, e_85_58, e_85_61, e_85_62, e_85_64, e_85_65, e_85_67, e_85_70, e_85_73, e_85_75, e_85_76, e_85_79, e_85_80, e_85_83, e_85_85, e_85_86, e_85_89, e_85_90, e_85_93, e_85_95, e_85_96, e_85_99, e_85_102, e_85_104, e_85_106, e_85_109, e_85_112, e_85_114, q1, q2, q3, q4, q5, q6, q7, q8, q9, q10, q11, q12, q13, q14, q15, hn, eq_false hb, cv0, cv1, cv2, cv3, cv4, cv5, cv6, cvrec, hx, h81', oN, ge1, ule_t, true_or, or_true, nI_add, nI_mul, nI_sub, nI_clamp, nI_lt_t, nI_lt_f, nI_le_t, nI_le_f, nI_eq_t, nI_eq_f, vp_nI, tI, fI, not_true, not_false_iff, true_and, and_true, Classical.not_not, mS_uI, mS_uA, mS_uJ, mS_uR, mS_uX, mR_uI, mR_uA, mR_uJ, mR_uX, mX_uI, mX_uA, mX_uJ, mX_uR, mI_s, mI_n, mI_A, mI_An, mI_uJ, mI_uR, mI_uX, mJ_uI, mJ_uA, mJ_uR, mJ_uX, onR_s, kC_v, kC_n, kC_t]
            have := ih (m + 1) (by omega)
            rw [e] at this
            exact this
          | some j =>
            have hj := fGivP_lt hd
            have hm1 : (nI j = -1) = False := nI_m1 (by omega)
            have h81' := fun (Q : Po) => h81 Q t root
            simp only [bI_t hp] at h81'
            by_cases hlt : cV μ s m 3 < cV μ s j 3
            · have e : fGivP (cV μ s) t root but (m + 1) = some m := by rw [e1, if_pos ⟨hb, hp.1, hx, hp.2.2, by rw [hd]; exact decide_eq_true hlt⟩]
              simp (disch := omega) only [e_85_0, e_85_1, e_85_2, e_85_5, e_85_6, e_85_7, e_85_8, e_85_11, e_85_12, e_85_13, e_85_14, e_85_17, e_85_18, e_85_19, e_85_22, e_85_23, e_85_24, e_85_26, e_85_27, e_85_29, e_85_30, e_85_34, e_85_35, e_85_38, e_85_41, e_85_43, e_85_44, e_85_47, e_85_48, e_85_51, e_85_53, e_85_54, e_85_57, e_85_58, e_85_61, e_85_62, e_85_64, e_85_65, e_85_67, e_85_70, e_85_73, e_85_75, e_85_76, e_85_79, e_85_80, e_85_83, e_85_85, e_85_86, e_85_89, e_85_90, e_85_93, e_85_95, e_85_96, e_85_99, e_85_102, e_85_104, e_85_106, e_85_109, e_85_112, e_85_114, q1, q2, q3, q4, q5, q6, q7, q8, q9, q10, q11, q12, q13, q14, q15, hn, eq_false hb, cv0, cv1, cv2, cv3, cv4, cv5, cv6, cvrec, hx, h81', oN, hm1, Int32.not_le.mpr hlt, ge1, ule_t, true_or, or_true, nI_add, nI_mul, nI_sub, nI_clamp, nI_lt_t, nI_lt_f, nI_le_t, nI_le_f, nI_eq_t, nI_eq_f, vp_nI, tI, fI, not_true, not_false_iff, true_and, and_true, Classical.not_not, mS_uI, mS_uA, mS_uJ, mS_uR, mS_uX, mR_uI, mR_uA, mR_uJ, mR_uX, mX_uI, mX_uA, mX_uJ, mX_uR, mI_s, mI_n, mI_A, mI_An, mI_uJ, mI_uR, mI_uX, mJ_uI, mJ_uA, mJ_uR, mJ_uX, onR_s, kC_v, kC_n, kC_t]
              have := ih (m + 1) (by omega)
              rw [e] at this
              exact this
            · have e : fGivP (cV μ s) t root but (m + 1) = some j := by rw [e1, if_neg (fun z => by have := z.2.2.2.2; rw [hd] at this; exact hlt (of_decide_eq_true this)), hd]
              have hle := Int32.not_lt.mp hlt
              simp (disch := omega) only [e_85_0, e_85_1, e_85_2, e_85_5, e_85_6, e_85_7, e_85_8, e_85_11, e_85_12, e_85_13, e_85_14, e_85_17, e_85_18, e_85_19, e_85_22, e_85_23, e_85_24, e_85_26, e_85_27, e_85_29, e_85_30, e_85_34, e_85_35, e_85_38, e_85_41, e_85_43, e_85_44, e_85_47, e_85_48, e_85_51, e_85_53, e_85_54, e_85_57, e_85_58, e_85_61, e_85_62, e_85_64, e_85_65, e_85_67, e_85_70, e_85_73, e_85_75, e_85_76, e_85_79, e_85_80, e_85_83, e_85_85, e_85_86, e_85_89, e_85_90, e_85_93, e_85_95, e_85_96, e_85_99, e_85_102, e_85_104, e_85_106, e_85_109, e_85_112, e_85_114, q1, q2, q3, q4, q5, q6, q7, q8, q9, q10, q11, q12, q13, q14, q15, hn, eq_false hb, cv0, cv1, cv2, cv3, cv4, cv5, cv6, cvrec, hx, h81', oN, hm1, hle, ge1, ule_t, true_or, or_true, nI_add, nI_mul, nI_sub, nI_clamp, nI_lt_t, nI_lt_f, nI_le_t, nI_le_f, nI_eq_t, nI_eq_f, vp_nI, tI, fI, not_true, not_false_iff, true_and, and_true, Classical.not_not, mS_uI, mS_uA, mS_uJ, mS_uR, mS_uX, mR_uI, mR_uA, mR_uJ, mR_uX, mX_uI, mX_uA, mX_uJ, mX_uR, mI_s, mI_n, mI_A, mI_An, mI_uJ, mI_uR, mI_uX, mJ_uI, mJ_uA, mJ_uR, mJ_uX, onR_s, kC_v, kC_n, kC_t]
              have := ih (m + 1) (by omega)
              rw [e] at this
              exact this
        · have e : fGivP (cV μ s) t root but (m + 1) = fGivP (cV μ s) t root but m := by
            rw [e1, if_neg (fun z => hp ⟨z.2.1, ⟨by rw [← hx]; exact v3, by rw [← hx]; exact Int32.le_refl _⟩, z.2.2.2.1⟩)]
          have h81' := fun (Q : Po) => h81 Q t root
          simp only [bI_f hp] at h81'
          simp (disch := omega) only [e_85_0, e_85_1, e_85_2, e_85_5, e_85_6, e_85_7, e_85_8, e_85_11, e_85_12, e_85_13, e_85_14, e_85_17, e_85_18, e_85_19, e_85_22, e_85_23, e_85_24, e_85_26, e_85_27, e_85_29, e_85_30, e_85_34, e_85_35, e_85_38, e_85_41, e_85_43, e_85_44, e_85_47, e_85_48, e_85_51, e_85_53, e_85_54, e_85_57, e_85_58, e_85_61, e_85_62, e_85_64, e_85_65, e_85_67, e_85_70, e_85_73, e_85_75, e_85_76, e_85_79, e_85_80, e_85_83, e_85_85, e_85_86, e_85_89, e_85_90, e_85_93, e_85_95, e_85_96, e_85_99, e_85_102, e_85_104, e_85_106, e_85_109, e_85_112, e_85_114, q1, q2, q3, q4, q5, q6, q7, q8, q9, q10, q11, q12, q13, q14, q15, hn, eq_false hb, cv0, cv1, cv2, cv3, cv4, cv5, cv6, cvrec, hx, h81', ge1, ule_t, true_or, or_true, nI_add, nI_mul, nI_sub, nI_clamp, nI_lt_t, nI_lt_f, nI_le_t, nI_le_f, nI_eq_t, nI_eq_f, vp_nI, tI, fI, not_true, not_false_iff, true_and, and_true, Classical.not_not, mS_uI, mS_uA, mS_uJ, mS_uR, mS_uX, mR_uI, mR_uA, mR_uJ, mR_uX, mX_uI, mX_uA, mX_uJ, mX_uR, mI_s, mI_n, mI_A, mI_An, mI_uJ, mI_uR, mI_uX, mJ_uI, mJ_uA, mJ_uR, mJ_uX, onR_s, kC_v, kC_n, kC_t]
          rw [← e]
          exact ih (m + 1) (by omega)
      · have e : fGivP (cV μ s) t root but (m + 1) = fGivP (cV μ s) t root but m := by rw [e1, if_neg (fun z => hx z.2.2.1)]
        simp (disch := omega) only [e_85_0, e_85_1, e_85_2, e_85_5, e_85_6, e_85_7, e_85_8, e_85_11, e_85_12, e_85_13, e_85_14, e_85_17, e_85_18, e_85_19, e_85_22, e_85_23, e_85_24, e_85_26, e_85_27, e_85_29, e_85_30, e_85_34, e_85_35, e_85_38, e_85_41, e_85_43, e_85_44, e_85_47, e_85_48, e_85_51, e_85_53, e_85_54, e_85_57, e_85_58, e_85_61, e_85_62, e_85_64, e_85_65, e_85_67, e_85_70, e_85_73, e_85_75, e_85_76, e_85_79, e_85_80, e_85_83, e_85_85, e_85_86, e_85_89, e_85_90, e_85_93, e_85_95, e_85_96, e_85_99, e_85_102, e_85_104, e_85_106, e_85_109, e_85_112, e_85_114, q1, q2, q3, q4, q5, q6, q7, q8, q9, q10, q11, q12, q13, q14, q15, hn, eq_false hb, cv0, cv1, cv2, cv3, cv4, cv5, cv6, cvrec, hx, ge1, ule_t, true_or, or_true, nI_add, nI_mul, nI_sub, nI_clamp, nI_lt_t, nI_lt_f, nI_le_t, nI_le_f, nI_eq_t, nI_eq_f, vp_nI, tI, fI, not_true, not_false_iff, true_and, and_true, Classical.not_not, mS_uI, mS_uA, mS_uJ, mS_uR, mS_uX, mR_uI, mR_uA, mR_uJ, mR_uX, mX_uI, mX_uA, mX_uJ, mX_uR, mI_s, mI_n, mI_A, mI_An, mI_uJ, mI_uR, mI_uX, mJ_uI, mJ_uA, mJ_uR, mJ_uX, onR_s, kC_v, kC_n, kC_t]
        rw [← e]
        exact ih (m + 1) (by omega)
theorem s_85 (hS : StS μ s) (hn : mI μ s 1 = nI n) (h6 : n ≤ 6) (hV : okV (cV μ s) n) (hq9 : mI μ (s + 2) 1 = nI q) (hq : 1 ≤ q) (hq6 : q ≤ 6) : Ev (d + 5) 85 [.ref s, .int t, .int but] μ Q = Q (some (some (.int (oN (fGiv (cV μ s) n q t but))))) μ := by
  have hS0 := hS
  obtain ⟨q0, q1, q2, q3, q4, q5, q6, q7, q8, q9, q10, q11, q12, q13, q14, q15⟩ := hS
  have h83 := fun (Q : Po) (t : Int32) => s_83 (d := d) (Q := Q) (t := t) hS0 hn h6 hV hq9 hq hq6
  rw [in_85]
  cases hw : fWin (cV μ s) n q t with
  | none =>
    simp (disch := omega) only [e_85_0, e_85_1, e_85_2, e_85_5, e_85_6, e_85_7, e_85_8, e_85_11, e_85_12, e_85_13, e_85_14, e_85_17, e_85_18, e_85_19, e_85_22, e_85_23, e_85_24, e_85_26, e_85_27, e_85_29, e_85_30, e_85_34, e_85_35, e_85_38, e_85_41, e_85_43, e_85_44, e_85_47, e_85_48, e_85_51, e_85_53, e_85_54, e_85_57, e_85_58, e_85_61, e_85_62, e_85_64, e_85_65, e_85_67, e_85_70, e_85_73, e_85_75, e_85_76, e_85_79, e_85_80, e_85_83, e_85_85, e_85_86, e_85_89, e_85_90, e_85_93, e_85_95, e_85_96, e_85_99, e_85_102, e_85_104, e_85_106, e_85_109, e_85_112, e_85_114, q1, q2, q3, q4, q5, q6, q7, q8, q9, q10, q11, q12, q13, q14, q15, cv0, cv1, cv2, cv3, cv4, cv5, cv6, cvrec, h83, hw, oN, fGiv, ge1, ule_t, true_or, or_true, nI_add, nI_mul, nI_sub, nI_clamp, nI_lt_t, nI_lt_f, nI_le_t, nI_le_f, nI_eq_t, nI_eq_f, vp_nI, tI, fI, not_true, not_false_iff, true_and, and_true, Classical.not_not, mS_uI, mS_uA, mS_uJ, mS_uR, mS_uX, mR_uI, mR_uA, mR_uJ, mR_uX, mX_uI, mX_uA, mX_uJ, mX_uR, mI_s, mI_n, mI_A, mI_An, mI_uJ, mI_uR, mI_uX, mJ_uI, mJ_uA, mJ_uR, mJ_uX, onR_s, kC_v, kC_n, kC_t]
  | some w =>
    obtain ⟨w1, w2, w3⟩ := fWin_some hw
    obtain ⟨v1, v2, v3, v4⟩ := hV w w1
    have hv : vp_in t 41 = True := vp41 (Int32.le_trans v2 w3.1) (Int32.le_trans w3.2 v4)
    have hm1 : (nI w = -1) = False := nI_m1 (by omega)
    simp (disch := omega) only [e_85_0, e_85_1, e_85_2, e_85_5, e_85_6, e_85_7, e_85_8, e_85_11, e_85_12, e_85_13, e_85_14, e_85_17, e_85_18, e_85_19, e_85_22, e_85_23, e_85_24, e_85_26, e_85_27, e_85_29, e_85_30, e_85_34, e_85_35, e_85_38, e_85_41, e_85_43, e_85_44, e_85_47, e_85_48, e_85_51, e_85_53, e_85_54, e_85_57, e_85_58, e_85_61, e_85_62, e_85_64, e_85_65, e_85_67, e_85_70, e_85_73, e_85_75, e_85_76, e_85_79, e_85_80, e_85_83, e_85_85, e_85_86, e_85_89, e_85_90, e_85_93, e_85_95, e_85_96, e_85_99, e_85_102, e_85_104, e_85_106, e_85_109, e_85_112, e_85_114, q1, q2, q3, q4, q5, q6, q7, q8, q9, q10, q11, q12, q13, q14, q15, cv0, cv1, cv2, cv3, cv4, cv5, cv6, cvrec, h83, hw, hv, oN, fGiv, hm1, ge1, ule_t, true_or, or_true, nI_add, nI_mul, nI_sub, nI_clamp, nI_lt_t, nI_lt_f, nI_le_t, nI_le_f, nI_eq_t, nI_eq_f, vp_nI, tI, fI, not_true, not_false_iff, true_and, and_true, Classical.not_not, mS_uI, mS_uA, mS_uJ, mS_uR, mS_uX, mR_uI, mR_uA, mR_uJ, mR_uX, mX_uI, mX_uA, mX_uJ, mX_uR, mI_s, mI_n, mI_A, mI_An, mI_uJ, mI_uR, mI_uX, mJ_uI, mJ_uA, mJ_uR, mJ_uX, onR_s, kC_v, kC_n, kC_t]
    exact l_85 hS0 hn h6 hV n 0 (by omega)
theorem l_79 (hS : StS μ s) (hn : mI μ s 1 = nI n) (h6 : n ≤ 6) : ∀ k m, m + k = n → EM 79 d 4 [some (.ref s), some (.int (nI (fActs (cV μ s) m))), some (.int (nI m))] [] μ (0, 0) Q = Q (some (some (.int (nI (fActs (cV μ s) n))))) μ := by
  have hS0 := hS
  obtain ⟨q0, q1, q2, q3, q4, q5, q6, q7, q8, q9, q10, q11, q12, q13, q14, q15⟩ := hS
  intro k
  induction k with
  | zero =>
    intro m hm
    obtain rfl : m = n := by omega
    rw [e_79_4]
    simp (disch := omega) only [e_79_0, e_79_1, e_79_2, e_79_3, e_79_5, e_79_6, e_79_9, e_79_12, e_79_13, e_79_16, e_79_17, e_79_18, e_79_21, e_79_24, e_79_27, e_79_30, e_79_33, e_79_34, q1, q2, q3, q4, q5, q6, q7, q8, q9, q10, q11, q12, q13, q14, q15, hn, ge1, ule_t, true_or, or_true, nI_add, nI_mul, nI_sub, nI_clamp, nI_lt_t, nI_lt_f, nI_le_t, nI_le_f, nI_eq_t, nI_eq_f, vp_nI, tI, fI, not_true, not_false_iff, true_and, and_true, Classical.not_not, mS_uI, mS_uA, mS_uJ, mS_uR, mS_uX, mR_uI, mR_uA, mR_uJ, mR_uX, mX_uI, mX_uA, mX_uJ, mX_uR, mI_s, mI_n, mI_A, mI_An, mI_uJ, mI_uR, mI_uX, mJ_uI, mJ_uA, mJ_uR, mJ_uX, onR_s, kC_v, kC_n, kC_t]
  | succ k ih =>
    intro m hm
    rw [e_79_4]
    have e1 := fActs.eq_2 (cV μ s) m
    by_cases ha : cV μ s m 2 = nI 0
    · rw [if_pos ha] at e1
      simp (disch := omega) only [e_79_0, e_79_1, e_79_2, e_79_3, e_79_5, e_79_6, e_79_9, e_79_12, e_79_13, e_79_16, e_79_17, e_79_18, e_79_21, e_79_24, e_79_27, e_79_30, e_79_33, e_79_34, q1, q2, q3, q4, q5, q6, q7, q8, q9, q10, q11, q12, q13, q14, q15, hn, cv0, cv1, cv2, cv3, cv4, cv5, cv6, cvrec, ha, ge1, ule_t, true_or, or_true, nI_add, nI_mul, nI_sub, nI_clamp, nI_lt_t, nI_lt_f, nI_le_t, nI_le_f, nI_eq_t, nI_eq_f, vp_nI, tI, fI, not_true, not_false_iff, true_and, and_true, Classical.not_not, mS_uI, mS_uA, mS_uJ, mS_uR, mS_uX, mR_uI, mR_uA, mR_uJ, mR_uX, mX_uI, mX_uA, mX_uJ, mX_uR, mI_s, mI_n, mI_A, mI_An, mI_uJ, mI_uR, mI_uX, mJ_uI, mJ_uA, mJ_uR, mJ_uX, onR_s, kC_v, kC_n, kC_t]
      have := ih (m + 1) (by omega)
      rw [e1] at this
      exact this
    · rw [if_neg ha] at e1
      simp (disch := omega) only [e_79_0, e_79_1, e_79_2, e_79_3, e_79_5, e_79_6, e_79_9, e_79_12, e_79_13, e_79_16, e_79_17, e_79_18, e_79_21, e_79_24, e_79_27, e_79_30, e_79_33, e_79_34, q1, q2, q3, q4, q5, q6, q7, q8, q9, q10, q11, q12, q13, q14, q15, hn, cv0, cv1, cv2, cv3, cv4, cv5, cv6, cvrec, ha, ge1, ule_t, true_or, or_true, nI_add, nI_mul, nI_sub, nI_clamp, nI_lt_t, nI_lt_f, nI_le_t, nI_le_f, nI_eq_t, nI_eq_f, vp_nI, tI, fI, not_true, not_false_iff, true_and, and_true, Classical.not_not, mS_uI, mS_uA, mS_uJ, mS_uR, mS_uX, mR_uI, mR_uA, mR_uJ, mR_uX, mX_uI, mX_uA, mX_uJ, mX_uR, mI_s, mI_n, mI_A, mI_An, mI_uJ, mI_uR, mI_uX, mJ_uI, mJ_uA, mJ_uR, mJ_uX, onR_s, kC_v, kC_n, kC_t]
      have := ih (m + 1) (by omega)
      rw [e1] at this
      exact this
theorem s_79 (hS : StS μ s) (hn : mI μ s 1 = nI n) (h6 : n ≤ 6) : Ev (d + 1) 79 [.ref s] μ Q = Q (some (some (.int (nI (fActs (cV μ s) n))))) μ := by
  rw [in_79]
  simp (disch := omega) only [e_79_0, e_79_1, e_79_2, e_79_3, e_79_5, e_79_6, e_79_9, e_79_12, e_79_13, e_79_16, e_79_17, e_79_18, e_79_21, e_79_24, e_79_27, e_79_30, e_79_33, e_79_34, ge1, ule_t, true_or, or_true, nI_add, nI_mul, nI_sub, nI_clamp, nI_lt_t, nI_lt_f, nI_le_t, nI_le_f, nI_eq_t, nI_eq_f, vp_nI, tI, fI, not_true, not_false_iff, true_and, and_true, Classical.not_not]
  exact l_79 hS hn h6 n 0 (by omega)
theorem l_80 (hS : StS μ s) (hn : mI μ s 1 = nI n) (h6 : n ≤ 6) : ∀ k m l5 l6, m + k = n → EM 80 d 4 [some (.ref s), some (.int g), some (.int (fExt (cV μ s) g m)), some (.int (nI m)), l5, l6] [] μ (0, 0) Q = Q (some (some (.int (fExt (cV μ s) g n)))) μ := by
  have hS0 := hS
  obtain ⟨q0, q1, q2, q3, q4, q5, q6, q7, q8, q9, q10, q11, q12, q13, q14, q15⟩ := hS
  intro k
  induction k with
  | zero =>
    intro m l5 l6 hm
    obtain rfl : m = n := by omega
    rw [e_80_4]
    simp (disch := omega) only [e_80_0, e_80_1, e_80_2, e_80_3, e_80_5, e_80_6, e_80_9, e_80_12, e_80_13, e_80_16, e_80_17, e_80_18, e_80_20, e_80_22, e_80_25, e_80_28, e_80_29, e_80_32, e_80_34, e_80_37, e_80_38, e_80_41, e_80_42, e_80_45, e_80_46, e_80_49, e_80_51, e_80_54, e_80_55, e_80_58, e_80_59, e_80_62, e_80_63, e_80_65, e_80_66, e_80_67, e_80_70, e_80_72, e_80_75, e_80_77, e_80_80, e_80_81, e_80_84, e_80_87, e_80_88, q1, q2, q3, q4, q5, q6, q7, q8, q9, q10, q11, q12, q13, q14, q15, hn, ge1, ule_t, true_or, or_true, nI_add, nI_mul, nI_sub, nI_clamp, nI_lt_t, nI_lt_f, nI_le_t, nI_le_f, nI_eq_t, nI_eq_f, vp_nI, tI, fI, not_true, not_false_iff, true_and, and_true, Classical.not_not, mS_uI, mS_uA, mS_uJ, mS_uR, mS_uX, mR_uI, mR_uA, mR_uJ, mR_uX, mX_uI, mX_uA, mX_uJ, mX_uR, mI_s, mI_n, mI_A, mI_An, mI_uJ, mI_uR, mI_uX, mJ_uI, mJ_uA, mJ_uR, mJ_uX, onR_s, kC_v, kC_n, kC_t]
  | succ k ih =>
    intro m l5 l6 hm
    rw [e_80_4]
    have e1 := fExt.eq_2 (cV μ s) g m
    have hi := fun l5 l6 => ih (m + 1) l5 l6 (by omega)
    by_cases ha : cV μ s m 2 = nI 0
    · rw [if_pos ha] at e1
      simp (disch := omega) only [e_80_0, e_80_1, e_80_2, e_80_3, e_80_5, e_80_6, e_80_9, e_80_12, e_80_13, e_80_16, e_80_17, e_80_18, e_80_20, e_80_22, e_80_25, e_80_28, e_80_29, e_80_32, e_80_34, e_80_37, e_80_38, e_80_41, e_80_42, e_80_45, e_80_46, e_80_49, e_80_51, e_80_54, e_80_55, e_80_58, e_80_59, e_80_62, e_80_63, e_80_65, e_80_66, e_80_67, e_80_70, e_80_72, e_80_75, e_80_77, e_80_80, e_80_81, e_80_84, e_80_87, e_80_88, q1, q2, q3, q4, q5, q6, q7, q8, q9, q10, q11, q12, q13, q14, q15, hn, cv0, cv1, cv2, cv3, cv4, cv5, cv6, cvrec, ha, ge1, ule_t, true_or, or_true, nI_add, nI_mul, nI_sub, nI_clamp, nI_lt_t, nI_lt_f, nI_le_t, nI_le_f, nI_eq_t, nI_eq_f, vp_nI, tI, fI, not_true, not_false_iff, true_and, and_true, Classical.not_not, mS_uI, mS_uA, mS_uJ, mS_uR, mS_uX, mR_uI, mR_uA, mR_uJ, mR_uX, mX_uI, mX_uA, mX_uJ, mX_uR, mI_s, mI_n, mI_A, mI_An, mI_uJ, mI_uR, mI_uX, mJ_uI, mJ_uA, mJ_uR, mJ_uX, onR_s, kC_v, kC_n, kC_t]
      simp only [e1] at hi
      exact hi _ _
    · rw [if_neg ha] at e1
      by_cases hb : fExt (cV μ s) g m = -1
      · rw [if_pos hb] at e1
        simp only [e1] at hi
        by_cases hg : g = nI 0
        · subst hg
          by_cases hc : fExt (cV μ s) (nI 0) m ≤ cV μ s m 1
          · rw [hb] at hc
            simp (disch := omega) only [e_80_0, e_80_1, e_80_2, e_80_3, e_80_5, e_80_6, e_80_9, e_80_12, e_80_13, e_80_16, e_80_17, e_80_18, e_80_20, e_80_22, e_80_25, e_80_28, e_80_29, e_80_32, e_80_34, e_80_37, e_80_38, e_80_41, e_80_42, e_80_45, e_80_46, e_80_49, e_80_51, e_80_54, e_80_55, e_80_58, e_80_59, e_80_62, e_80_63, e_80_65, e_80_66, e_80_67, e_80_70, e_80_72, e_80_75, e_80_77, e_80_80, e_80_81, e_80_84, e_80_87, e_80_88, q1, q2, q3, q4, q5, q6, q7, q8, q9, q10, q11, q12, q13, q14, q15, hn, cv0, cv1, cv2, cv3, cv4, cv5, cv6, cvrec, ha, hb, hc, ge1, ule_t, true_or, or_true, nI_add, nI_mul, nI_sub, nI_clamp, nI_lt_t, nI_lt_f, nI_le_t, nI_le_f, nI_eq_t, nI_eq_f, vp_nI, tI, fI, not_true, not_false_iff, true_and, and_true, Classical.not_not, mS_uI, mS_uA, mS_uJ, mS_uR, mS_uX, mR_uI, mR_uA, mR_uJ, mR_uX, mX_uI, mX_uA, mX_uJ, mX_uR, mI_s, mI_n, mI_A, mI_An, mI_uJ, mI_uR, mI_uX, mJ_uI, mJ_uA, mJ_uR, mJ_uX, onR_s, kC_v, kC_n, kC_t]
            exact hi _ _
          · rw [hb] at hc
            simp (disch := omega) only [e_80_0, e_80_1, e_80_2, e_80_3, e_80_5, e_80_6, e_80_9, e_80_12, e_80_13, e_80_16, e_80_17, e_80_18, e_80_20, e_80_22, e_80_25, e_80_28, e_80_29, e_80_32, e_80_34, e_80_37, e_80_38, e_80_41, e_80_42, e_80_45, e_80_46, e_80_49, e_80_51, e_80_54, e_80_55, e_80_58, e_80_59, e_80_62, e_80_63, e_80_65, e_80_66, e_80_67, e_80_70, e_80_72, e_80_75, e_80_77, e_80_80, e_80_81, e_80_84, e_80_87, e_80_88, q1, q2, q3, q4, q5, q6, q7, q8, q9, q10, q11, q12, q13, q14, q15, hn, cv0, cv1, cv2, cv3, cv4, cv5, cv6, cvrec, ha, hb, hc, ge1, ule_t, true_or, or_true, nI_add, nI_mul, nI_sub, nI_clamp, nI_lt_t, nI_lt_f, nI_le_t, nI_le_f, nI_eq_t, nI_eq_f, vp_nI, tI, fI, not_true, not_false_iff, true_and, and_true, Classical.not_not, mS_uI, mS_uA, mS_uJ, mS_uR, mS_uX, mR_uI, mR_uA, mR_uJ, mR_uX, mX_uI, mX_uA, mX_uJ, mX_uR, mI_s, mI_n, mI_A, mI_An, mI_uJ, mI_uR, mI_uX, mJ_uI, mJ_uA, mJ_uR, mJ_uX, onR_s, kC_v, kC_n, kC_t]
            exact hi _ _
        · by_cases hc : cV μ s m 1 ≤ fExt (cV μ s) g m
          · rw [hb] at hc
            simp (disch := omega) only [e_80_0, e_80_1, e_80_2, e_80_3, e_80_5, e_80_6, e_80_9, e_80_12, e_80_13, e_80_16, e_80_17, e_80_18, e_80_20, e_80_22, e_80_25, e_80_28, e_80_29, e_80_32, e_80_34, e_80_37, e_80_38, e_80_41, e_80_42, e_80_45, e_80_46, e_80_49, e_80_51, e_80_54, e_80_55, e_80_58, e_80_59, e_80_62, e_80_63, e_80_65, e_80_66, e_80_67, e_80_70, e_80_72, e_80_75, e_80_77, e_80_80, e_80_81, e_80_84, e_80_87, e_80_88, q1, q2, q3, q4, q5, q6, q7, q8, q9, q10, q11, q12, q13, q14, q15, hn, cv0, cv1, cv2, cv3, cv4, cv5, cv6, cvrec, ha, hb, hg, hc, ge1, ule_t, true_or, or_true, nI_add, nI_mul, nI_sub, nI_clamp, nI_lt_t, nI_lt_f, nI_le_t, nI_le_f, nI_eq_t, nI_eq_f, vp_nI, tI, fI, not_true, not_false_iff, true_and, and_true, Classical.not_not, mS_uI, mS_uA, mS_uJ, mS_uR, mS_uX, mR_uI, mR_uA, mR_uJ, mR_uX, mX_uI, mX_uA, mX_uJ, mX_uR, mI_s, mI_n, mI_A, mI_An, mI_uJ, mI_uR, mI_uX, mJ_uI, mJ_uA, mJ_uR, mJ_uX, onR_s, kC_v, kC_n, kC_t]
            exact hi _ _
          · rw [hb] at hc
            simp (disch := omega) only [e_80_0, e_80_1, e_80_2, e_80_3, e_80_5, e_80_6, e_80_9, e_80_12, e_80_13, e_80_16, e_80_17, e_80_18, e_80_20, e_80_22, e_80_25, e_80_28, e_80_29, e_80_32, e_80_34, e_80_37, e_80_38, e_80_41, e_80_42, e_80_45, e_80_46, e_80_49, e_80_51, e_80_54, e_80_55, e_80_58, e_80_59, e_80_62, e_80_63, e_80_65, e_80_66, e_80_67, e_80_70, e_80_72, e_80_75, e_80_77, e_80_80, e_80_81, e_80_84, e_80_87, e_80_88, q1, q2, q3, q4, q5, q6, q7, q8, q9, q10, q11, q12, q13, q14, q15, hn, cv0, cv1, cv2, cv3, cv4, cv5, cv6, cvrec, ha, hb, hg, hc, ge1, ule_t, true_or, or_true, nI_add, nI_mul, nI_sub, nI_clamp, nI_lt_t, nI_lt_f, nI_le_t, nI_le_f, nI_eq_t, nI_eq_f, vp_nI, tI, fI, not_true, not_false_iff, true_and, and_true, Classical.not_not, mS_uI, mS_uA, mS_uJ, mS_uR, mS_uX, mR_uI, mR_uA, mR_uJ, mR_uX, mX_uI, mX_uA, mX_uJ, mX_uR, mI_s, mI_n, mI_A, mI_An, mI_uJ, mI_uR, mI_uX, mJ_uI, mJ_uA, mJ_uR, mJ_uX, onR_s, kC_v, kC_n, kC_t]
            exact hi _ _
      · rw [if_neg hb] at e1
        by_cases hg : g = nI 0
        · rw [if_pos hg] at e1
          subst hg
          by_cases hc : fExt (cV μ s) (nI 0) m ≤ cV μ s m 1
          · rw [if_neg (Int32.not_lt.mpr hc)] at e1
            rw [e1] at hi
            simp (disch := omega) only [e_80_0, e_80_1, e_80_2, e_80_3, e_80_5, e_80_6, e_80_9, e_80_12, e_80_13, e_80_16, e_80_17, e_80_18, e_80_20, e_80_22, e_80_25, e_80_28, e_80_29, e_80_32, e_80_34, e_80_37, e_80_38, e_80_41, e_80_42, e_80_45, e_80_46, e_80_49, e_80_51, e_80_54, e_80_55, e_80_58, e_80_59, e_80_62, e_80_63, e_80_65, e_80_66, e_80_67, e_80_70, e_80_72, e_80_75, e_80_77, e_80_80, e_80_81, e_80_84, e_80_87, e_80_88, q1, q2, q3, q4, q5, q6, q7, q8, q9, q10, q11, q12, q13, q14, q15, hn, cv0, cv1, cv2, cv3, cv4, cv5, cv6, cvrec, ha, hb, hc, ge1, ule_t, true_or, or_true, nI_add, nI_mul, nI_sub, nI_clamp, nI_lt_t, nI_lt_f, nI_le_t, nI_le_f, nI_eq_t, nI_eq_f, vp_nI, tI, fI, not_true, not_false_iff, true_and, and_true, Classical.not_not, mS_uI, mS_uA, mS_uJ, mS_uR, mS_uX, mR_uI, mR_uA, mR_uJ, mR_uX, mX_uI, mX_uA, mX_uJ, mX_uR, mI_s, mI_n, mI_A, mI_An, mI_uJ, mI_uR, mI_uX, mJ_uI, mJ_uA, mJ_uR, mJ_uX, onR_s, kC_v, kC_n, kC_t]
            exact hi _ _
          · rw [if_pos (Int32.not_le.mp hc)] at e1
            rw [e1] at hi
            simp (disch := omega) only [e_80_0, e_80_1, e_80_2, e_80_3, e_80_5, e_80_6, e_80_9, e_80_12, e_80_13, e_80_16, e_80_17, e_80_18, e_80_20, e_80_22, e_80_25, e_80_28, e_80_29, e_80_32, e_80_34, e_80_37, e_80_38, e_80_41, e_80_42, e_80_45, e_80_46, e_80_49, e_80_51, e_80_54, e_80_55, e_80_58, e_80_59, e_80_62, e_80_63, e_80_65, e_80_66, e_80_67, e_80_70, e_80_72, e_80_75, e_80_77, e_80_80, e_80_81, e_80_84, e_80_87, e_80_88, q1, q2, q3, q4, q5, q6, q7, q8, q9, q10, q11, q12, q13, q14, q15, hn, cv0, cv1, cv2, cv3, cv4, cv5, cv6, cvrec, ha, hb, hc, ge1, ule_t, true_or, or_true, nI_add, nI_mul, nI_sub, nI_clamp, nI_lt_t, nI_lt_f, nI_le_t, nI_le_f, nI_eq_t, nI_eq_f, vp_nI, tI, fI, not_true, not_false_iff, true_and, and_true, Classical.not_not, mS_uI, mS_uA, mS_uJ, mS_uR, mS_uX, mR_uI, mR_uA, mR_uJ, mR_uX, mX_uI, mX_uA, mX_uJ, mX_uR, mI_s, mI_n, mI_A, mI_An, mI_uJ, mI_uR, mI_uX, mJ_uI, mJ_uA, mJ_uR, mJ_uX, onR_s, kC_v, kC_n, kC_t]
            exact hi _ _
        · rw [if_neg hg] at e1
          by_cases hc : cV μ s m 1 ≤ fExt (cV μ s) g m
          · rw [if_neg (Int32.not_lt.mpr hc)] at e1
            rw [e1] at hi
            simp (disch := omega) only [e_80_0, e_80_1, e_80_2, e_80_3, e_80_5, e_80_6, e_80_9, e_80_12, e_80_13, e_80_16, e_80_17, e_80_18, e_80_20, e_80_22, e_80_25, e_80_28, e_80_29, e_80_32, e_80_34, e_80_37, e_80_38, e_80_41, e_80_42, e_80_45, e_80_46, e_80_49, e_80_51, e_80_54, e_80_55, e_80_58, e_80_59, e_80_62, e_80_63, e_80_65, e_80_66, e_80_67, e_80_70, e_80_72, e_80_75, e_80_77, e_80_80, e_80_81, e_80_84, e_80_87, e_80_88, q1, q2, q3, q4, q5, q6, q7, q8, q9, q10, q11, q12, q13, q14, q15, hn, cv0, cv1, cv2, cv3, cv4, cv5, cv6, cvrec, ha, hb, hg, hc, ge1, ule_t, true_or, or_true, nI_add, nI_mul, nI_sub, nI_clamp, nI_lt_t, nI_lt_f, nI_le_t, nI_le_f, nI_eq_t, nI_eq_f, vp_nI, tI, fI, not_true, not_false_iff, true_and, and_true, Classical.not_not, mS_uI, mS_uA, mS_uJ, mS_uR, mS_uX, mR_uI, mR_uA, mR_uJ, mR_uX, mX_uI, mX_uA, mX_uJ, mX_uR, mI_s, mI_n, mI_A, mI_An, mI_uJ, mI_uR, mI_uX, mJ_uI, mJ_uA, mJ_uR, mJ_uX, onR_s, kC_v, kC_n, kC_t]
            exact hi _ _
          · rw [if_pos (Int32.not_le.mp hc)] at e1
            rw [e1] at hi
            simp (disch := omega) only [e_80_0, e_80_1, e_80_2, e_80_3, e_80_5, e_80_6, e_80_9, e_80_12, e_80_13, e_80_16, e_80_17, e_80_18, e_80_20, e_80_22, e_80_25, e_80_28, e_80_29, e_80_32, e_80_34, e_80_37, e_80_38, e_80_41, e_80_42, e_80_45, e_80_46, e_80_49, e_80_51, e_80_54, e_80_55, e_80_58, e_80_59, e_80_62, e_80_63, e_80_65, e_80_66, e_80_67, e_80_70, e_80_72, e_80_75, e_80_77, e_80_80, e_80_81, e_80_84, e_80_87, e_80_88, q1, q2, q3, q4, q5, q6, q7, q8, q9, q10, q11, q12, q13, q14, q15, hn, cv0, cv1, cv2, cv3, cv4, cv5, cv6, cvrec, ha, hb, hg, hc, ge1, ule_t, true_or, or_true, nI_add, nI_mul, nI_sub, nI_clamp, nI_lt_t, nI_lt_f, nI_le_t, nI_le_f, nI_eq_t, nI_eq_f, vp_nI, tI, fI, not_true, not_false_iff, true_and, and_true, Classical.not_not, mS_uI, mS_uA, mS_uJ, mS_uR, mS_uX, mR_uI, mR_uA, mR_uJ, mR_uX, mX_uI, mX_uA, mX_uJ, mX_uR, mI_s, mI_n, mI_A, mI_An, mI_uJ, mI_uR, mI_uX, mJ_uI, mJ_uA, mJ_uR, mJ_uX, onR_s, kC_v, kC_n, kC_t]
            exact hi _ _
theorem s_80 (hS : StS μ s) (hn : mI μ s 1 = nI n) (h6 : n ≤ 6) : Ev (d + 1) 80 [.ref s, .int g] μ Q = Q (some (some (.int (fExt (cV μ s) g n)))) μ := by
  rw [in_80]
  simp (disch := omega) only [e_80_0, e_80_1, e_80_2, e_80_3, e_80_5, e_80_6, e_80_9, e_80_12, e_80_13, e_80_16, e_80_17, e_80_18, e_80_20, e_80_22, e_80_25, e_80_28, e_80_29, e_80_32, e_80_34, e_80_37, e_80_38, e_80_41, e_80_42, e_80_45, e_80_46, e_80_49, e_80_51, e_80_54, e_80_55, e_80_58, e_80_59, e_80_62, e_80_63, e_80_65, e_80_66, e_80_67, e_80_70, e_80_72, e_80_75, e_80_77, e_80_80, e_80_81, e_80_84, e_80_87, e_80_88, ge1, ule_t, true_or, or_true, nI_add, nI_mul, nI_sub, nI_clamp, nI_lt_t, nI_lt_f, nI_le_t, nI_le_f, nI_eq_t, nI_eq_f, vp_nI, tI, fI, not_true, not_false_iff, true_and, and_true, Classical.not_not]
  exact l_80 hS hn h6 n 0 none none (by omega)
end StateR2

/-! the model's votes, winners, givers -/
section ModelR2
variable {d : Nat} {Q : Po} {μ : Mu} {n m q m0 : Nat} {t root but g : Int32} {l4 l5 : Option Value}
theorem vAct1 {V : VW} {n m : Nat} (hV : okV V n) (hm : m < n) : (V m 2 = nI 1) = vAct V m := by
  rcases (hV m hm).1 with h | h
  · rw [h]; simp (disch := omega) [vAct, h, nI_eq_f]
  · rw [h]; simp (disch := omega) [vAct, h, nI_eq_f]
/-- why a member cannot be healed -/
def fStop (V : VW) (n q m : Nat) : Nat := if V m 2 = nI 0 then 1 else if fWin V n q (V m 1) = none then 2 else if fOff V n q m = false then 3 else if fGiv V n q (V m 1) (nI m) = none then 4 else 0
theorem fGiv_lt {V : VW} {n q : Nat} {t but : Int32} {j : Nat} (h : fGiv V n q t but = some j) : j < n := by
  unfold fGiv at h
  split at h
  · cases h
  · exact fGivP_lt h
end ModelR2

/-! what the functions of a view look at -/
def VEq (V V' : VW) (n : Nat) : Prop := ∀ m, m < n → (∀ k, k < 23 → V m k = V' m k) ∧ ∀ t : Int32, vHas V m t → vRec V m t = vRec V' m t
theorem VEq.le {V V' : VW} {n k : Nat} (h : VEq V V' n) (hk : k ≤ n) : VEq V V' k := fun m hm => h m (by omega)
theorem VEq.act {V V' : VW} {n m : Nat} (h : VEq V V' n) (hm : m < n) : vAct V m ↔ vAct V' m := by
  unfold vAct
  rw [(h m hm).1 2 (by omega)]
theorem VEq.has {V V' : VW} {n m : Nat} {t : Int32} (h : VEq V V' n) (hm : m < n) : vHas V m t ↔ vHas V' m t := by
  unfold vHas
  rw [(h m hm).1 1 (by omega), (h m hm).1 6 (by omega)]
theorem VEq.group {V V' : VW} {n : Nat} {t root : Int32} (h : VEq V V' n) : ∀ k, k ≤ n → fGroup V t root k = fGroup V' t root k
  | 0, _ => rfl
  | k + 1, hk => by
    rw [fGroup, fGroup, VEq.group h k (by omega)]
    congr 1
    by_cases hh : vHas V k t
    · have e := (h k (by omega)).2 t hh
      have ha := h.act (m := k) (by omega)
      have h2 := h.has (m := k) (t := t) (by omega)
      by_cases c : vAct V k ∧ vHas V k t ∧ vRec V k t = root
      · rw [if_pos c, if_pos ⟨ha.mp c.1, h2.mp c.2.1, by rw [← e]; exact c.2.2⟩]
      · rw [if_neg c, if_neg (fun z => c ⟨ha.mpr z.1, h2.mpr z.2.1, by rw [e]; exact z.2.2⟩)]
    · have h2 := h.has (m := k) (t := t) (by omega)
      rw [if_neg (fun z => hh z.2.1), if_neg (fun z => hh (h2.mpr z.2.1))]
theorem VEq.winP {V V' : VW} {n : Nat} {t : Int32} (h : VEq V V' n) : ∀ k, k ≤ n → fWinP V n t k = fWinP V' n t k
  | 0, _ => rfl
  | k + 1, hk => by
    have ih := VEq.winP (t := t) h k (by omega)
    have ha := h.act (m := k) (by omega)
    have h2 := h.has (m := k) (t := t) (by omega)
    by_cases c : vAct V k ∧ vHas V k t
    · have e := (h k (by omega)).2 t c.2
      rw [fWinP_yes c, fWinP_yes ⟨ha.mp c.1, h2.mp c.2⟩, ih, e, h.group n (Nat.le_refl _)]
    · rw [fWinP_no c, fWinP_no (fun z => c ⟨ha.mpr z.1, h2.mpr z.2⟩), ih]
theorem VEq.win {V V' : VW} {n q : Nat} {t : Int32} (h : VEq V V' n) : fWin V n q t = fWin V' n q t := by
  unfold fWin
  rw [h.winP n (Nat.le_refl _)]
theorem VEq.rec1 {V V' : VW} {n m : Nat} (h : VEq V V' n) (hV : okV V n) (hm : m < n) : vRec V m (V m 1) = vRec V' m (V m 1) := (h m hm).2 _ ⟨(hV m hm).2.2.1, Int32.le_refl _⟩
theorem VEq.off {V V' : VW} {n q m : Nat} (h : VEq V V' n) (hV : okV V n) (hm : m < n) : fOff V n q m = fOff V' n q m := by
  unfold fOff
  rw [← (h m hm).1 1 (by omega), ← h.win]
  cases hw : fWin V n q (V m 1) with
  | none => rfl
  | some w =>
    obtain ⟨w1, w2, w3⟩ := fWin_some hw
    dsimp only
    rw [h.rec1 hV hm, (h w w1).2 _ w3]
    congr 1
    exact decide_eq_decide.mpr (h.act hm)
theorem VEq.givP {V V' : VW} {n : Nat} {t root but : Int32} (h : VEq V V' n) (hV : okV V n) : ∀ k, k ≤ n → fGivP V t root but k = fGivP V' t root but k
  | 0, _ => rfl
  | k + 1, hk => by
    have ih := VEq.givP (t := t) (root := root) (but := but) h hV k (by omega)
    rw [fGivP, fGivP, ← ih]
    have ha := h.act (m := k) (by omega)
    have e1 := (h k (by omega)).1 1 (by omega)
    have e3 := (h k (by omega)).1 3 (by omega)
    have em : (match fGivP V t root but k with | none => true | some j => decide (V k 3 < V j 3)) = (match fGivP V t root but k with | none => true | some j => decide (V' k 3 < V' j 3)) := by
      cases hd : fGivP V t root but k with
      | none => rfl
      | some j =>
        have hj := fGivP_lt hd
        dsimp only
        rw [e3, (h j (by omega)).1 3 (by omega)]
    by_cases hx : V k 1 = t
    · have er : vRec V k t = vRec V' k t := by
        have := h.rec1 hV (m := k) (by omega)
        rw [hx] at this
        exact this
      by_cases c : ¬ nI k = but ∧ vAct V k ∧ V k 1 = t ∧ vRec V k t = root ∧ (match fGivP V t root but k with | none => true | some j => decide (V k 3 < V j 3)) = true
      · rw [if_pos c, if_pos ⟨c.1, ha.mp c.2.1, by rw [← e1]; exact hx, by rw [← er]; exact c.2.2.2.1, by rw [← em]; exact c.2.2.2.2⟩]
      · rw [if_neg c, if_neg (fun z => c ⟨z.1, ha.mpr z.2.1, hx, by rw [er]; exact z.2.2.2.1, by rw [em]; exact z.2.2.2.2⟩)]
    · rw [if_neg (fun z => hx z.2.2.1), if_neg (fun z => hx (by rw [e1]; exact z.2.2.1))]
theorem VEq.giv {V V' : VW} {n q : Nat} {t but : Int32} (h : VEq V V' n) (hV : okV V n) : fGiv V n q t but = fGiv V' n q t but := by
  unfold fGiv
  rw [← h.win]
  cases hw : fWin V n q t with
  | none => rfl
  | some w =>
    obtain ⟨w1, w2, w3⟩ := fWin_some hw
    dsimp only
    rw [← (h w w1).2 _ w3]
    exact h.givP hV n (Nat.le_refl _)
theorem VEq.ext {V V' : VW} {n : Nat} {g : Int32} (h : VEq V V' n) : ∀ k, k ≤ n → fExt V g k = fExt V' g k
  | 0, _ => rfl
  | k + 1, hk => by
    rw [fExt, fExt, VEq.ext h k (by omega), (h k (by omega)).1 1 (by omega), (h k (by omega)).1 2 (by omega)]
theorem VEq.acts {V V' : VW} {n : Nat} (h : VEq V V' n) : ∀ k, k ≤ n → fActs V k = fActs V' k
  | 0, _ => rfl
  | k + 1, hk => by rw [fActs, fActs, VEq.acts h k (by omega), (h k (by omega)).1 2 (by omega)]
theorem VEq.ok {V V' : VW} {n : Nat} (h : VEq V V' n) (hV : okV V n) : okV V' n := fun m hm => by
  obtain ⟨e, -⟩ := h m hm
  rw [← e 1 (by omega), ← e 2 (by omega), ← e 6 (by omega)]
  exact hV m hm

/-! commands: what they do to a row of cells -/
def rem4 (x : Int32) : Int32 := x - x / nI 10000 * nI 10000
def fChg (σ c : Nat) (o : Int32) (f : Nat → Int32) : Nat → Int32 := match σ with
  | 0 => upd f c o
  | 1 => upd f c (rem4 (f c + o))
  | 2 => upd f c (f o.toNatClampNeg)
  | 3 => upd f c (rem4 (f c + f o.toNatClampNeg))
  | 4 => upd (upd f c (f o.toNatClampNeg)) o.toNatClampNeg (f c)
  | _ => upd f c (rem4 (f c * f o.toNatClampNeg))
def okC (σ c : Nat) (o : Int32) : Prop := σ ≤ 5 ∧ c < 16 ∧ (2 ≤ σ → ∃ j, j < 16 ∧ o = nI j)
def okCmd (cmd : Nat → Nat → Int32) (z : Nat) : Prop := ∀ k, k < z → ∃ σ c, cmd k 1 = nI σ ∧ cmd k 2 = nI c ∧ okC σ c (cmd k 3)
def fTurn (cmd : Nat → Nat → Int32) (f : Nat → Int32) : Nat → (Nat → Int32)
  | 0 => f
  | k + 1 => fChg (cmd k 1).toNatClampNeg (cmd k 2).toNatClampNeg (cmd k 3) (fTurn cmd f k)
/-- a Script stands at c -/
def ScS (μ : Mu) (c : Nat) : Prop := 1000 ≤ c ∧ mS μ c = (8, 4) ∧ mR μ c 0 = some (c + 1) ∧ mR μ c 1 = some (c + 2) ∧ mR μ c 2 = some (c + 3) ∧ mR μ c 3 = some (c + 4) ∧ mS μ (c + 1) = (20, 16) ∧ mS μ (c + 2) = (20, 40) ∧ mS μ (c + 3) = (20, 1312) ∧ mS μ (c + 4) = (20, 320)
def cCmd (μ : Mu) (c t k w : Nat) : Int32 := mI μ (c + 3) ((mI μ (c + 4) (8 * t + k)).toNatClampNeg + w)
section Cmds
variable {d : Nat} {Q : Po} {μ : Mu} {a c t k σ i j w ω z : Nat} {o : Int32} {l4 : Option Value}
theorem s_70 (ha : mS μ a = (20, 16)) (h1 : 1000 ≤ a) (hi : i < 16) (hj : j < 16) : Ev (d + 1) 70 [.ref a, .int (nI i), .int (nI j)] μ Q = Q (some none) (uA μ a (upd (upd (mI μ a) i (mI μ a j)) j (mI μ a i))) := by
  rw [in_70]
  simp (disch := omega) only [e_70_0, e_70_1, e_70_2, e_70_3, e_70_4, e_70_5, e_70_6, e_70_7, e_70_8, e_70_9, e_70_10, e_70_11, e_70_12, e_70_13, e_70_14, ha, ge1, ule_t, true_or, or_true, nI_add, nI_mul, nI_sub, nI_clamp, nI_lt_t, nI_lt_f, nI_le_t, nI_le_f, nI_eq_t, nI_eq_f, vp_nI, tI, fI, not_true, not_false_iff, true_and, and_true, Classical.not_not, mS_uI, mS_uA, mS_uJ, mS_uR, mS_uX, mR_uI, mR_uA, mR_uJ, mR_uX, mX_uI, mX_uA, mX_uJ, mX_uR, mI_s, mI_n, mI_A, mI_An, mI_uJ, mI_uR, mI_uX, mJ_uI, mJ_uA, mJ_uR, mJ_uX, onR_s, kC_v, kC_n, kC_t, uI_A, uA_A, mI_Af]
theorem s_69 (ha : mS μ a = (20, 16)) (h1 : 1000 ≤ a) (hc : okC σ i o) : Ev (d + 2) 69 [.ref a, .int (nI σ), .int (nI i), .int o] μ Q = Q (some none) (uA μ a (fChg σ i o (mI μ a))) := by
  obtain ⟨c1, c2, c3⟩ := hc
  rw [in_69]
  rcases (by omega : σ = 0 ∨ σ = 1 ∨ σ = 2 ∨ σ = 3 ∨ σ = 4 ∨ σ = 5) with rfl | rfl | rfl | rfl | rfl | rfl
  · simp (disch := omega) only [e_69_0, e_69_1_0, e_69_1_1, e_69_1_2, e_69_1_3, e_69_1_4, e_69_36, e_69_37, e_69_38, e_69_39, e_69_40, e_69_43, e_69_44, e_69_45, e_69_46, e_69_47, e_69_48, e_69_49, e_69_50, e_69_53, e_69_54, e_69_55, e_69_58, e_69_59, e_69_60, e_69_61, e_69_62, e_69_63, e_69_64, e_69_67, e_69_68, e_69_69, e_69_70, e_69_71, e_69_72, e_69_73, e_69_74, e_69_75, e_69_76, e_69_79, e_69_80, e_69_81, e_69_84, e_69_85, e_69_86, e_69_87, e_69_90, e_69_93, e_69_94, e_69_95, e_69_96, e_69_97, e_69_98, e_69_99, e_69_100, e_69_101, e_69_102, e_69_105, e_69_106, e_69_107, ha, ge1, ule_t, true_or, or_true, nI_add, nI_mul, nI_sub, nI_clamp, nI_lt_t, nI_lt_f, nI_le_t, nI_le_f, nI_eq_t, nI_eq_f, vp_nI, tI, fI, not_true, not_false_iff, true_and, and_true, Classical.not_not, mS_uI, mS_uA, mS_uJ, mS_uR, mS_uX, mR_uI, mR_uA, mR_uJ, mR_uX, mX_uI, mX_uA, mX_uJ, mX_uR, mI_s, mI_n, mI_A, mI_An, mI_uJ, mI_uR, mI_uX, mJ_uI, mJ_uA, mJ_uR, mJ_uX, onR_s, kC_v, kC_n, kC_t, uI_A, fChg]
  · simp (disch := omega) only [e_69_0, e_69_1_0, e_69_1_1, e_69_1_2, e_69_1_3, e_69_1_4, e_69_36, e_69_37, e_69_38, e_69_39, e_69_40, e_69_43, e_69_44, e_69_45, e_69_46, e_69_47, e_69_48, e_69_49, e_69_50, e_69_53, e_69_54, e_69_55, e_69_58, e_69_59, e_69_60, e_69_61, e_69_62, e_69_63, e_69_64, e_69_67, e_69_68, e_69_69, e_69_70, e_69_71, e_69_72, e_69_73, e_69_74, e_69_75, e_69_76, e_69_79, e_69_80, e_69_81, e_69_84, e_69_85, e_69_86, e_69_87, e_69_90, e_69_93, e_69_94, e_69_95, e_69_96, e_69_97, e_69_98, e_69_99, e_69_100, e_69_101, e_69_102, e_69_105, e_69_106, e_69_107, ha, ge1, ule_t, true_or, or_true, nI_add, nI_mul, nI_sub, nI_clamp, nI_lt_t, nI_lt_f, nI_le_t, nI_le_f, nI_eq_t, nI_eq_f, vp_nI, tI, fI, not_true, not_false_iff, true_and, and_true, Classical.not_not, mS_uI, mS_uA, mS_uJ, mS_uR, mS_uX, mR_uI, mR_uA, mR_uJ, mR_uX, mX_uI, mX_uA, mX_uJ, mX_uR, mI_s, mI_n, mI_A, mI_An, mI_uJ, mI_uR, mI_uX, mJ_uI, mJ_uA, mJ_uR, mJ_uX, onR_s, kC_v, kC_n, kC_t, uI_A, fChg, rem4]
  · obtain ⟨j, hj, rfl⟩ := c3 (by omega)
    simp (disch := omega) only [e_69_0, e_69_1_0, e_69_1_1, e_69_1_2, e_69_1_3, e_69_1_4, e_69_36, e_69_37, e_69_38, e_69_39, e_69_40, e_69_43, e_69_44, e_69_45, e_69_46, e_69_47, e_69_48, e_69_49, e_69_50, e_69_53, e_69_54, e_69_55, e_69_58, e_69_59, e_69_60, e_69_61, e_69_62, e_69_63, e_69_64, e_69_67, e_69_68, e_69_69, e_69_70, e_69_71, e_69_72, e_69_73, e_69_74, e_69_75, e_69_76, e_69_79, e_69_80, e_69_81, e_69_84, e_69_85, e_69_86, e_69_87, e_69_90, e_69_93, e_69_94, e_69_95, e_69_96, e_69_97, e_69_98, e_69_99, e_69_100, e_69_101, e_69_102, e_69_105, e_69_106, e_69_107, ha, ge1, ule_t, true_or, or_true, nI_add, nI_mul, nI_sub, nI_clamp, nI_lt_t, nI_lt_f, nI_le_t, nI_le_f, nI_eq_t, nI_eq_f, vp_nI, tI, fI, not_true, not_false_iff, true_and, and_true, Classical.not_not, mS_uI, mS_uA, mS_uJ, mS_uR, mS_uX, mR_uI, mR_uA, mR_uJ, mR_uX, mX_uI, mX_uA, mX_uJ, mX_uR, mI_s, mI_n, mI_A, mI_An, mI_uJ, mI_uR, mI_uX, mJ_uI, mJ_uA, mJ_uR, mJ_uX, onR_s, kC_v, kC_n, kC_t, uI_A, fChg]
  · obtain ⟨j, hj, rfl⟩ := c3 (by omega)
    simp (disch := omega) only [e_69_0, e_69_1_0, e_69_1_1, e_69_1_2, e_69_1_3, e_69_1_4, e_69_36, e_69_37, e_69_38, e_69_39, e_69_40, e_69_43, e_69_44, e_69_45, e_69_46, e_69_47, e_69_48, e_69_49, e_69_50, e_69_53, e_69_54, e_69_55, e_69_58, e_69_59, e_69_60, e_69_61, e_69_62, e_69_63, e_69_64, e_69_67, e_69_68, e_69_69, e_69_70, e_69_71, e_69_72, e_69_73, e_69_74, e_69_75, e_69_76, e_69_79, e_69_80, e_69_81, e_69_84, e_69_85, e_69_86, e_69_87, e_69_90, e_69_93, e_69_94, e_69_95, e_69_96, e_69_97, e_69_98, e_69_99, e_69_100, e_69_101, e_69_102, e_69_105, e_69_106, e_69_107, ha, ge1, ule_t, true_or, or_true, nI_add, nI_mul, nI_sub, nI_clamp, nI_lt_t, nI_lt_f, nI_le_t, nI_le_f, nI_eq_t, nI_eq_f, vp_nI, tI, fI, not_true, not_false_iff, true_and, and_true, Classical.not_not, mS_uI, mS_uA, mS_uJ, mS_uR, mS_uX, mR_uI, mR_uA, mR_uJ, mR_uX, mX_uI, mX_uA, mX_uJ, mX_uR, mI_s, mI_n, mI_A, mI_An, mI_uJ, mI_uR, mI_uX, mJ_uI, mJ_uA, mJ_uR, mJ_uX, onR_s, kC_v, kC_n, kC_t, uI_A, fChg, rem4]
  · obtain ⟨j, hj, rfl⟩ := c3 (by omega)
    simp (disch := omega) only [e_69_0, e_69_1_0, e_69_1_1, e_69_1_2, e_69_1_3, e_69_1_4, e_69_36, e_69_37, e_69_38, e_69_39, e_69_40, e_69_43, e_69_44, e_69_45, e_69_46, e_69_47, e_69_48, e_69_49, e_69_50, e_69_53, e_69_54, e_69_55, e_69_58, e_69_59, e_69_60, e_69_61, e_69_62, e_69_63, e_69_64, e_69_67, e_69_68, e_69_69, e_69_70, e_69_71, e_69_72, e_69_73, e_69_74, e_69_75, e_69_76, e_69_79, e_69_80, e_69_81, e_69_84, e_69_85, e_69_86, e_69_87, e_69_90, e_69_93, e_69_94, e_69_95, e_69_96, e_69_97, e_69_98, e_69_99, e_69_100, e_69_101, e_69_102, e_69_105, e_69_106, e_69_107, ha, s_70 ha h1 c2 hj, ge1, ule_t, true_or, or_true, nI_add, nI_mul, nI_sub, nI_clamp, nI_lt_t, nI_lt_f, nI_le_t, nI_le_f, nI_eq_t, nI_eq_f, vp_nI, tI, fI, not_true, not_false_iff, true_and, and_true, Classical.not_not, mS_uI, mS_uA, mS_uJ, mS_uR, mS_uX, mR_uI, mR_uA, mR_uJ, mR_uX, mX_uI, mX_uA, mX_uJ, mX_uR, mI_s, mI_n, mI_A, mI_An, mI_uJ, mI_uR, mI_uX, mJ_uI, mJ_uA, mJ_uR, mJ_uX, onR_s, kC_v, kC_n, kC_t, uI_A, fChg]
  · obtain ⟨j, hj, rfl⟩ := c3 (by omega)
    simp (disch := omega) only [e_69_0, e_69_1_0, e_69_1_1, e_69_1_2, e_69_1_3, e_69_1_4, e_69_36, e_69_37, e_69_38, e_69_39, e_69_40, e_69_43, e_69_44, e_69_45, e_69_46, e_69_47, e_69_48, e_69_49, e_69_50, e_69_53, e_69_54, e_69_55, e_69_58, e_69_59, e_69_60, e_69_61, e_69_62, e_69_63, e_69_64, e_69_67, e_69_68, e_69_69, e_69_70, e_69_71, e_69_72, e_69_73, e_69_74, e_69_75, e_69_76, e_69_79, e_69_80, e_69_81, e_69_84, e_69_85, e_69_86, e_69_87, e_69_90, e_69_93, e_69_94, e_69_95, e_69_96, e_69_97, e_69_98, e_69_99, e_69_100, e_69_101, e_69_102, e_69_105, e_69_106, e_69_107, e_69_1_d (x := nI 5) (Or.inr (by decide)), ha, ge1, ule_t, true_or, or_true, nI_add, nI_mul, nI_sub, nI_clamp, nI_lt_t, nI_lt_f, nI_le_t, nI_le_f, nI_eq_t, nI_eq_f, vp_nI, tI, fI, not_true, not_false_iff, true_and, and_true, Classical.not_not, mS_uI, mS_uA, mS_uJ, mS_uR, mS_uX, mR_uI, mR_uA, mR_uJ, mR_uX, mX_uI, mX_uA, mX_uJ, mX_uR, mI_s, mI_n, mI_A, mI_An, mI_uJ, mI_uR, mI_uX, mJ_uI, mJ_uA, mJ_uR, mJ_uX, onR_s, kC_v, kC_n, kC_t, uI_A, fChg, rem4]
def mCmd (r : Nat → Int32) (t k w : Nat) : Int32 := r (388 + 33 * t + 1 + 4 * k + w)
end Cmds


