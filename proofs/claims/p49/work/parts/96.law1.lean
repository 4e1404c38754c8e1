/-! the law's own numbers -/
def ScR (L : Nat) (xs : Nat → Int32) (μ : Mu) : Prop := mS μ 300 = (20, L) ∧ ∀ k, mI μ 300 k = xs k
def cel (L : Nat) (xs : Nat → Int32) (k : Nat) : Int32 := if k < L then xs k else nI 0
def ofM (x : Int32) (n : Nat) : Nat := (x &&& nI 2147483647).toNatClampNeg % n
theorem ofM_lt {x : Int32} {n : Nat} (h : 0 < n) : ofM x n < n := Nat.mod_lt _ h
theorem and_pos (x : Int32) : x &&& nI 2147483647 = nI (x &&& nI 2147483647).toNatClampNeg ∧ (x &&& nI 2147483647).toNatClampNeg < 2147483648 := by
  have hm : (x &&& nI 2147483647).toBitVec.msb = false := by
    rw [Int32.toBitVec_and, BitVec.msb_and]
    have : (nI 2147483647).toBitVec.msb = false := by decide
    rw [this, Bool.and_false]
  have h0 : ¬ (x &&& nI 2147483647) < 0 := by
    intro h
    rw [Int32.lt_iff_toInt_lt] at h
    rw [BitVec.msb_eq_toInt] at hm
    exact absurd h (of_decide_eq_false hm)
  obtain ⟨j, hj, e⟩ := nI_of h0
  rw [e, nI_clamp hj]
  exact ⟨rfl, hj⟩
def paceN (L : Nat) (xs : Nat → Int32) (m : Nat) : Nat := 1 + ofM (cel L xs 0 >>> (nI (3 + 2 * m) &&& 31)) 4
def memN (L : Nat) (xs : Nat → Int32) : Nat := 2 + ofM (cel L xs 0) 4
def staN (L : Nat) (xs : Nat → Int32) (c : Nat) : Nat := if c < 8 then ofM (cel L xs (1 + c % 2) >>> (nI c &&& 31)) 10000 else 0
def turN (L : Nat) (xs : Nat → Int32) : Nat := ofM (cel L xs 0 / nI 64) 5
def comN (L : Nat) (xs : Nat → Int32) (t : Nat) : Nat := ofM (cel L xs 3 >>> (nI (3 * t) &&& 31)) 5
def cmX (L : Nat) (xs : Nat → Int32) (t k : Nat) : Int32 := cel L xs (4 + (t + k) % 5) >>> (nI (t + 3 * k) &&& 31)
def cmA (L : Nat) (xs : Nat → Int32) (t k : Nat) : Nat := ofM (cmX L xs t k) (memN L xs)
def cmS (L : Nat) (xs : Nat → Int32) (t k : Nat) : Nat := ofM (cmX L xs t k / nI 8) 6
def cmC (L : Nat) (xs : Nat → Int32) (t k : Nat) : Nat := ofM (cmX L xs t k / nI 64) 16
def cmO (L : Nat) (xs : Nat → Int32) (t k : Nat) : Nat := if cmS L xs t k < 2 then ofM (cmX L xs t k / nI 32) 10000 else ofM (cmX L xs t k / nI 1024) 16
def setN (L : Nat) (xs : Nat → Int32) (k : Nat) : Nat := if k = 0 then 1 + ofM (cel L xs 9) 12 else 1 + ofM (cel L xs 9 / nI 16) 3
section Law1
variable {d : Nat} {Q : Po} {μ : Mu} {L k m n c t w : Nat} {xs : Nat → Int32} {x : Int32}
theorem w_172 (h : ScR L xs μ) (hL : L ≤ 260) (hk : k < 1000) : Ev (d + 1) 172 [.ref 300, .int (nI k)] μ Q = Q (some (some (.int (cel L xs k)))) μ := by
  obtain ⟨h1, h2⟩ := h
  rw [in_172]
  unfold cel
  by_cases hc : k < L
  · rw [if_pos hc]
    simp (disch := first | omega | rfl) only [e_172_0, e_172_1, e_172_2, e_172_3, e_172_6, e_172_7, e_172_8, e_172_9, e_172_12, e_172_13, ge1, ule_t, true_or, or_true, nI_add, nI_mul, nI_sub, nI_clamp, nI_lt_t, nI_lt_f, nI_le_t, nI_le_f, nI_eq_t, nI_eq_f, vp_nI, tI, fI, not_true, not_false_iff, true_and, and_true, Classical.not_not, mS_uI, mS_uA, mS_uJ, mS_uR, mS_uX, mR_uI, mR_uA, mR_uJ, mR_uX, mX_uI, mX_uA, mX_uJ, mX_uR, mI_s, mI_n, mI_A, mI_An, mI_uJ, mI_uR, mI_uX, mJ_uI, mJ_uA, mJ_uR, mJ_uX, onR_s, kC_v, kC_n, kC_t, h1, h2, ofI, Nat.reduceLeDiff, and_self]
  · rw [if_neg hc]
    simp (disch := first | omega | rfl) only [e_172_0, e_172_1, e_172_2, e_172_3, e_172_6, e_172_7, e_172_8, e_172_9, e_172_12, e_172_13, ge1, ule_t, true_or, or_true, nI_add, nI_mul, nI_sub, nI_clamp, nI_lt_t, nI_lt_f, nI_le_t, nI_le_f, nI_eq_t, nI_eq_f, vp_nI, tI, fI, not_true, not_false_iff, true_and, and_true, Classical.not_not, mS_uI, mS_uA, mS_uJ, mS_uR, mS_uX, mR_uI, mR_uA, mR_uJ, mR_uX, mX_uI, mX_uA, mX_uJ, mX_uR, mI_s, mI_n, mI_A, mI_An, mI_uJ, mI_uR, mI_uX, mJ_uI, mJ_uA, mJ_uR, mJ_uX, onR_s, kC_v, kC_n, kC_t, h1, h2, ofI, Nat.reduceLeDiff, and_self, show (L ≤ k) = True from eq_true (by omega)]
theorem w_173 (hn : 0 < n) (hn2 : n < 100000) : Ev (d + 1) 173 [.int x, .int (nI n)] μ Q = Q (some (some (.int (nI (ofM x n))))) μ := by
  obtain ⟨h1, h2⟩ := and_pos x
  have e : nI (x &&& nI 2147483647).toNatClampNeg - nI (x &&& nI 2147483647).toNatClampNeg / nI n * nI n = nI (ofM x n) := by
    rw [nI_div h2 hn (by omega), nI_remG h2 hn (by omega)]; rfl
  rw [← h1] at e
  rw [in_173]
  simp (disch := first | omega | rfl) only [e_173_0, e_173_1, e_173_3, e_173_4, e_173_5, e_173_6, nI_eq_f, not_false_iff, true_and, e]
theorem w_174 (h : ScR L xs μ) (hL : L ≤ 260) : Ev (d + 2) 174 [.ref 300] μ Q = Q (some (some (.int (nI (memN L xs))))) μ := by
  have h1 := fun (d : Nat) (Q : Po) => w_172 (d := d) (Q := Q) (k := 0) h hL (by omega)
  have h2 := fun (d : Nat) (Q : Po) (x : Int32) => w_173 (d := d) (Q := Q) (μ := μ) (x := x) (n := 4) (by omega) (by omega)
  rw [in_174]
  simp (disch := first | omega | rfl) only [e_174_0, e_174_1, e_174_2, e_174_3, e_174_6, e_174_7, e_174_10, e_174_11, ge1, ule_t, true_or, or_true, nI_add, nI_mul, nI_sub, nI_clamp, nI_lt_t, nI_lt_f, nI_le_t, nI_le_f, nI_eq_t, nI_eq_f, vp_nI, tI, fI, not_true, not_false_iff, true_and, and_true, Classical.not_not, mS_uI, mS_uA, mS_uJ, mS_uR, mS_uX, mR_uI, mR_uA, mR_uJ, mR_uX, mX_uI, mX_uA, mX_uJ, mX_uR, mI_s, mI_n, mI_A, mI_An, mI_uJ, mI_uR, mI_uX, mJ_uI, mJ_uA, mJ_uR, mJ_uX, onR_s, kC_v, kC_n, kC_t, h1, h2]
  rfl
theorem w_175 (h : ScR L xs μ) (hL : L ≤ 260) (hm : m < 10) : Ev (d + 2) 175 [.ref 300, .int (nI m)] μ Q = Q (some (some (.int (nI (paceN L xs m))))) μ := by
  have h1 := fun (d : Nat) (Q : Po) => w_172 (d := d) (Q := Q) (k := 0) h hL (by omega)
  have h2 := fun (d : Nat) (Q : Po) (x : Int32) => w_173 (d := d) (Q := Q) (μ := μ) (x := x) (n := 4) (by omega) (by omega)
  rw [in_175]
  simp (disch := first | omega | rfl) only [e_175_0, e_175_1, e_175_2, e_175_3, e_175_6, e_175_7, e_175_8, e_175_9, e_175_10, e_175_11, e_175_12, e_175_13, e_175_16, e_175_17, ge1, ule_t, true_or, or_true, nI_add, nI_mul, nI_sub, nI_clamp, nI_lt_t, nI_lt_f, nI_le_t, nI_le_f, nI_eq_t, nI_eq_f, vp_nI, tI, fI, not_true, not_false_iff, true_and, and_true, Classical.not_not, mS_uI, mS_uA, mS_uJ, mS_uR, mS_uX, mR_uI, mR_uA, mR_uJ, mR_uX, mX_uI, mX_uA, mX_uJ, mX_uR, mI_s, mI_n, mI_A, mI_An, mI_uJ, mI_uR, mI_uX, mJ_uI, mJ_uA, mJ_uR, mJ_uX, onR_s, kC_v, kC_n, kC_t, h1, h2]
  rfl
theorem w_176 (h : ScR L xs μ) (hL : L ≤ 260) (hc : c < 16) : Ev (d + 2) 176 [.ref 300, .int (nI c)] μ Q = Q (some (some (.int (nI (staN L xs c))))) μ := by
  have h1 := fun (d : Nat) (Q : Po) => w_172 (d := d) (Q := Q) (k := 1 + c % 2) h hL (by omega)
  have h2 := fun (d : Nat) (Q : Po) (x : Int32) => w_173 (d := d) (Q := Q) (μ := μ) (x := x) (n := 10000) (by omega) (by omega)
  have e : nI c - nI c / nI 2 * nI 2 = nI (c % 2) := by rw [nI_div2 (by omega), nI_remG (by omega) (by omega) (by omega)]
  rw [in_176]
  unfold staN
  by_cases h8 : c < 8
  · rw [if_pos h8]
    simp (disch := first | omega | rfl) only [e_176_0, e_176_1, e_176_3, e_176_6, e_176_7, e_176_8, e_176_9, e_176_10, e_176_11, e_176_12, e_176_15, e_176_16, e_176_17, e_176_20, e_176_23, e_176_26, e_176_27, nI_eq_f, nI_le_f, nI_lt_t, not_false_iff, not_true, true_and, and_true, forall_const, false_implies, e, nI_add, mS_uI, mS_uA, mS_uJ, mS_uR, mS_uX, mR_uI, mR_uA, mR_uJ, mR_uX, mX_uI, mX_uA, mX_uJ, mX_uR, mI_s, mI_n, mI_A, mI_An, mI_uJ, mI_uR, mI_uX, mJ_uI, mJ_uA, mJ_uR, mJ_uX, onR_s, kC_v, kC_n, kC_t, h1, h2, show (8 ≤ c) = False from eq_false (by omega)]
  · rw [if_neg h8]
    simp (disch := first | omega | rfl) only [e_176_0, e_176_1, e_176_3, e_176_6, e_176_7, e_176_8, e_176_9, e_176_10, e_176_11, e_176_12, e_176_15, e_176_16, e_176_17, e_176_20, e_176_23, e_176_26, e_176_27, ge1, ule_t, true_or, or_true, nI_add, nI_mul, nI_sub, nI_clamp, nI_lt_t, nI_lt_f, nI_le_t, nI_le_f, nI_eq_t, nI_eq_f, vp_nI, tI, fI, not_true, not_false_iff, true_and, and_true, Classical.not_not, mS_uI, mS_uA, mS_uJ, mS_uR, mS_uX, mR_uI, mR_uA, mR_uJ, mR_uX, mX_uI, mX_uA, mX_uJ, mX_uR, mI_s, mI_n, mI_A, mI_An, mI_uJ, mI_uR, mI_uX, mJ_uI, mJ_uA, mJ_uR, mJ_uX, onR_s, kC_v, kC_n, kC_t]
theorem w_177 (h : ScR L xs μ) (hL : L ≤ 260) : Ev (d + 2) 177 [.ref 300] μ Q = Q (some (some (.int (nI (turN L xs))))) μ := by
  have h1 := fun (d : Nat) (Q : Po) => w_172 (d := d) (Q := Q) (k := 0) h hL (by omega)
  have h2 := fun (d : Nat) (Q : Po) (x : Int32) => w_173 (d := d) (Q := Q) (μ := μ) (x := x) (n := 5) (by omega) (by omega)
  rw [in_177]
  simp (disch := first | omega | rfl) only [e_177_0, e_177_1, e_177_2, e_177_5, e_177_7, e_177_8, e_177_9, e_177_12, ge1, ule_t, true_or, or_true, nI_add, nI_mul, nI_sub, nI_clamp, nI_lt_t, nI_lt_f, nI_le_t, nI_le_f, nI_eq_t, nI_eq_f, vp_nI, tI, fI, not_true, not_false_iff, true_and, and_true, Classical.not_not, mS_uI, mS_uA, mS_uJ, mS_uR, mS_uX, mR_uI, mR_uA, mR_uJ, mR_uX, mX_uI, mX_uA, mX_uJ, mX_uR, mI_s, mI_n, mI_A, mI_An, mI_uJ, mI_uR, mI_uX, mJ_uI, mJ_uA, mJ_uR, mJ_uX, onR_s, kC_v, kC_n, kC_t, h1, h2]
  rfl
theorem w_178 (h : ScR L xs μ) (hL : L ≤ 260) (ht : t < 10) : Ev (d + 2) 178 [.ref 300, .int (nI t)] μ Q = Q (some (some (.int (nI (comN L xs t))))) μ := by
  have h1 := fun (d : Nat) (Q : Po) => w_172 (d := d) (Q := Q) (k := 3) h hL (by omega)
  have h2 := fun (d : Nat) (Q : Po) (x : Int32) => w_173 (d := d) (Q := Q) (μ := μ) (x := x) (n := 5) (by omega) (by omega)
  rw [in_178]
  simp (disch := first | omega | rfl) only [e_178_0, e_178_1, e_178_2, e_178_5, e_178_6, e_178_7, e_178_8, e_178_9, e_178_10, e_178_13, ge1, ule_t, true_or, or_true, nI_add, nI_mul, nI_sub, nI_clamp, nI_lt_t, nI_lt_f, nI_le_t, nI_le_f, nI_eq_t, nI_eq_f, vp_nI, tI, fI, not_true, not_false_iff, true_and, and_true, Classical.not_not, mS_uI, mS_uA, mS_uJ, mS_uR, mS_uX, mR_uI, mR_uA, mR_uJ, mR_uX, mX_uI, mX_uA, mX_uJ, mX_uR, mI_s, mI_n, mI_A, mI_An, mI_uJ, mI_uR, mI_uX, mJ_uI, mJ_uA, mJ_uR, mJ_uX, onR_s, kC_v, kC_n, kC_t, h1, h2]
  rfl
theorem memN_in : 2 ≤ memN L xs ∧ memN L xs ≤ 5 := by
  have := ofM_lt (x := cel L xs 0) (n := 4) (by omega)
  unfold memN; omega
/-- author, sort, cell, operand -/
def cmV (L : Nat) (xs : Nat → Int32) (t k w : Nat) : Nat := if w = 0 then cmA L xs t k else if w = 1 then cmS L xs t k else if w = 2 then cmC L xs t k else cmO L xs t k
theorem w_179 (h : ScR L xs μ) (hL : L ≤ 260) (ht : t < 10) (hk : k < 10) (hw : w < 4) : Ev (d + 3) 179 [.ref 300, .int (nI t), .int (nI k), .int (nI w)] μ Q = Q (some (some (.int (nI (cmV L xs t k w))))) μ := by
  have h1 := fun (d : Nat) (Q : Po) => w_172 (d := d) (Q := Q) (k := 4 + (t + k) % 5) h hL (by omega)
  have h2 := fun (d : Nat) (Q : Po) (x : Int32) => w_173 (d := d) (Q := Q) (μ := μ) (x := x) (n := 6) (by omega) (by omega)
  have h3 := fun (d : Nat) (Q : Po) (x : Int32) => w_173 (d := d) (Q := Q) (μ := μ) (x := x) (n := 16) (by omega) (by omega)
  have h4 := fun (d : Nat) (Q : Po) (x : Int32) => w_173 (d := d) (Q := Q) (μ := μ) (x := x) (n := 10000) (by omega) (by omega)
  have h5 := fun (d : Nat) (Q : Po) (x : Int32) => w_173 (d := d) (Q := Q) (μ := μ) (x := x) (n := memN L xs) (by have := memN_in (L := L) (xs := xs); omega) (by have := memN_in (L := L) (xs := xs); omega)
  have h6 := fun (d : Nat) (Q : Po) => w_174 (d := d) (Q := Q) h hL
  have e : nI (t + k) - nI (t + k) / nI 5 * nI 5 = nI ((t + k) % 5) := by rw [nI_div (by omega) (by omega) (by omega), nI_remG (by omega) (by omega) (by omega)]
  have hX : cel L xs (4 + (t + k) % 5) >>> (nI (t + 3 * k) &&& 31) = cmX L xs t k := rfl
  have hS : ofM (cmX L xs t k / nI 8) 6 = cmS L xs t k := rfl
  have hs6 : cmS L xs t k < 6 := ofM_lt (by omega)
  rw [in_179]
  rcases (by omega : w = 0 ∨ w = 1 ∨ w = 2 ∨ w = 3) with rfl | rfl | rfl | rfl
  · simp (disch := first | omega | rfl) only [e_179_0, e_179_1, e_179_2, e_179_3, e_179_4, e_179_5, e_179_6, e_179_7, e_179_8, e_179_11, e_179_12, e_179_13, e_179_14, e_179_15, e_179_16, e_179_17, e_179_19, e_179_21, e_179_23, e_179_24, e_179_26, e_179_29, e_179_31, e_179_32, e_179_35, e_179_37, e_179_38, e_179_41, e_179_44, e_179_47, e_179_48, e_179_49, e_179_52, e_179_54, e_179_57, e_179_58, e_179_59, e_179_62, e_179_64, e_179_66, e_179_67, e_179_69, e_179_72, e_179_75, e_179_77, e_179_78, e_179_81, e_179_83, e_179_85, e_179_86, e_179_89, e_179_92, e_179_95, e_179_97, e_179_100, e_179_101, e_179_103, e_179_106, ge1, ule_t, true_or, or_true, nI_add, nI_mul, nI_sub, nI_clamp, nI_lt_t, nI_lt_f, nI_le_t, nI_le_f, nI_eq_t, nI_eq_f, vp_nI, tI, fI, not_true, not_false_iff, true_and, and_true, Classical.not_not, mS_uI, mS_uA, mS_uJ, mS_uR, mS_uX, mR_uI, mR_uA, mR_uJ, mR_uX, mX_uI, mX_uA, mX_uJ, mX_uR, mI_s, mI_n, mI_A, mI_An, mI_uJ, mI_uR, mI_uX, mJ_uI, mJ_uA, mJ_uR, mJ_uX, onR_s, kC_v, kC_n, kC_t, e, h1, h2, h3, h4, h5, h6, hX, hS]
    rfl
  · simp (disch := first | omega | rfl) only [e_179_0, e_179_1, e_179_2, e_179_3, e_179_4, e_179_5, e_179_6, e_179_7, e_179_8, e_179_11, e_179_12, e_179_13, e_179_14, e_179_15, e_179_16, e_179_17, e_179_19, e_179_21, e_179_23, e_179_24, e_179_26, e_179_29, e_179_31, e_179_32, e_179_35, e_179_37, e_179_38, e_179_41, e_179_44, e_179_47, e_179_48, e_179_49, e_179_52, e_179_54, e_179_57, e_179_58, e_179_59, e_179_62, e_179_64, e_179_66, e_179_67, e_179_69, e_179_72, e_179_75, e_179_77, e_179_78, e_179_81, e_179_83, e_179_85, e_179_86, e_179_89, e_179_92, e_179_95, e_179_97, e_179_100, e_179_101, e_179_103, e_179_106, ge1, ule_t, true_or, or_true, nI_add, nI_mul, nI_sub, nI_clamp, nI_lt_t, nI_lt_f, nI_le_t, nI_le_f, nI_eq_t, nI_eq_f, vp_nI, tI, fI, not_true, not_false_iff, true_and, and_true, Classical.not_not, mS_uI, mS_uA, mS_uJ, mS_uR, mS_uX, mR_uI, mR_uA, mR_uJ, mR_uX, mX_uI, mX_uA, mX_uJ, mX_uR, mI_s, mI_n, mI_A, mI_An, mI_uJ, mI_uR, mI_uX, mJ_uI, mJ_uA, mJ_uR, mJ_uX, onR_s, kC_v, kC_n, kC_t, e, h1, h2, h3, h4, h5, h6, hX, hS]
    rfl
  · simp (disch := first | omega | rfl) only [e_179_0, e_179_1, e_179_2, e_179_3, e_179_4, e_179_5, e_179_6, e_179_7, e_179_8, e_179_11, e_179_12, e_179_13, e_179_14, e_179_15, e_179_16, e_179_17, e_179_19, e_179_21, e_179_23, e_179_24, e_179_26, e_179_29, e_179_31, e_179_32, e_179_35, e_179_37, e_179_38, e_179_41, e_179_44, e_179_47, e_179_48, e_179_49, e_179_52, e_179_54, e_179_57, e_179_58, e_179_59, e_179_62, e_179_64, e_179_66, e_179_67, e_179_69, e_179_72, e_179_75, e_179_77, e_179_78, e_179_81, e_179_83, e_179_85, e_179_86, e_179_89, e_179_92, e_179_95, e_179_97, e_179_100, e_179_101, e_179_103, e_179_106, ge1, ule_t, true_or, or_true, nI_add, nI_mul, nI_sub, nI_clamp, nI_lt_t, nI_lt_f, nI_le_t, nI_le_f, nI_eq_t, nI_eq_f, vp_nI, tI, fI, not_true, not_false_iff, true_and, and_true, Classical.not_not, mS_uI, mS_uA, mS_uJ, mS_uR, mS_uX, mR_uI, mR_uA, mR_uJ, mR_uX, mX_uI, mX_uA, mX_uJ, mX_uR, mI_s, mI_n, mI_A, mI_An, mI_uJ, mI_uR, mI_uX, mJ_uI, mJ_uA, mJ_uR, mJ_uX, onR_s, kC_v, kC_n, kC_t, e, h1, h2, h3, h4, h5, h6, hX, hS]
    rfl
  · by_cases hc : cmS L xs t k < 2
    · simp (disch := first | omega | rfl) only [e_179_0, e_179_1, e_179_2, e_179_3, e_179_4, e_179_5, e_179_6, e_179_7, e_179_8, e_179_11, e_179_12, e_179_13, e_179_14, e_179_15, e_179_16, e_179_17, e_179_19, e_179_21, e_179_23, e_179_24, e_179_26, e_179_29, e_179_31, e_179_32, e_179_35, e_179_37, e_179_38, e_179_41, e_179_44, e_179_47, e_179_48, e_179_49, e_179_52, e_179_54, e_179_57, e_179_58, e_179_59, e_179_62, e_179_64, e_179_66, e_179_67, e_179_69, e_179_72, e_179_75, e_179_77, e_179_78, e_179_81, e_179_83, e_179_85, e_179_86, e_179_89, e_179_92, e_179_95, e_179_97, e_179_100, e_179_101, e_179_103, e_179_106, ge1, ule_t, true_or, or_true, nI_add, nI_mul, nI_sub, nI_clamp, nI_lt_t, nI_lt_f, nI_le_t, nI_le_f, nI_eq_t, nI_eq_f, vp_nI, tI, fI, not_true, not_false_iff, true_and, and_true, Classical.not_not, mS_uI, mS_uA, mS_uJ, mS_uR, mS_uX, mR_uI, mR_uA, mR_uJ, mR_uX, mX_uI, mX_uA, mX_uJ, mX_uR, mI_s, mI_n, mI_A, mI_An, mI_uJ, mI_uR, mI_uX, mJ_uI, mJ_uA, mJ_uR, mJ_uX, onR_s, kC_v, kC_n, kC_t, e, h1, h2, h3, h4, h5, h6, hX, hS, show (2 ≤ cmS L xs t k) = False from eq_false (by omega)]
      have : cmV L xs t k 3 = ofM (cmX L xs t k / nI 32) 10000 := by unfold cmV cmO; rw [if_neg (by omega), if_neg (by omega), if_neg (by omega), if_pos hc]
      rw [this]
    · simp (disch := first | omega | rfl) only [e_179_0, e_179_1, e_179_2, e_179_3, e_179_4, e_179_5, e_179_6, e_179_7, e_179_8, e_179_11, e_179_12, e_179_13, e_179_14, e_179_15, e_179_16, e_179_17, e_179_19, e_179_21, e_179_23, e_179_24, e_179_26, e_179_29, e_179_31, e_179_32, e_179_35, e_179_37, e_179_38, e_179_41, e_179_44, e_179_47, e_179_48, e_179_49, e_179_52, e_179_54, e_179_57, e_179_58, e_179_59, e_179_62, e_179_64, e_179_66, e_179_67, e_179_69, e_179_72, e_179_75, e_179_77, e_179_78, e_179_81, e_179_83, e_179_85, e_179_86, e_179_89, e_179_92, e_179_95, e_179_97, e_179_100, e_179_101, e_179_103, e_179_106, ge1, ule_t, true_or, or_true, nI_add, nI_mul, nI_sub, nI_clamp, nI_lt_t, nI_lt_f, nI_le_t, nI_le_f, nI_eq_t, nI_eq_f, vp_nI, tI, fI, not_true, not_false_iff, true_and, and_true, Classical.not_not, mS_uI, mS_uA, mS_uJ, mS_uR, mS_uX, mR_uI, mR_uA, mR_uJ, mR_uX, mX_uI, mX_uA, mX_uJ, mX_uR, mI_s, mI_n, mI_A, mI_An, mI_uJ, mI_uR, mI_uX, mJ_uI, mJ_uA, mJ_uR, mJ_uX, onR_s, kC_v, kC_n, kC_t, e, h1, h2, h3, h4, h5, h6, hX, hS, show (2 ≤ cmS L xs t k) = True from eq_true (by omega)]
      have : cmV L xs t k 3 = ofM (cmX L xs t k / nI 1024) 16 := by unfold cmV cmO; rw [if_neg (by omega), if_neg (by omega), if_neg (by omega), if_neg hc]
      rw [this]
theorem w_180 (h : ScR L xs μ) (hL : L ≤ 260) (hk : k < 2) : Ev (d + 2) 180 [.ref 300, .int (nI k)] μ Q = Q (some (some (.int (nI (setN L xs k))))) μ := by
  have h1 := fun (d : Nat) (Q : Po) => w_172 (d := d) (Q := Q) (k := 9) h hL (by omega)
  have h2 := fun (d : Nat) (Q : Po) (x : Int32) => w_173 (d := d) (Q := Q) (μ := μ) (x := x) (n := 12) (by omega) (by omega)
  have h3 := fun (d : Nat) (Q : Po) (x : Int32) => w_173 (d := d) (Q := Q) (μ := μ) (x := x) (n := 3) (by omega) (by omega)
  rw [in_180]
  rcases (by omega : k = 0 ∨ k = 1) with rfl | rfl
  · simp (disch := first | omega | rfl) only [e_180_0, e_180_1, e_180_4, e_180_5, e_180_6, e_180_8, e_180_11, e_180_13, e_180_16, e_180_17, e_180_20, e_180_21, e_180_22, e_180_24, e_180_27, e_180_29, e_180_30, e_180_31, e_180_34, e_180_35, ge1, ule_t, true_or, or_true, nI_add, nI_mul, nI_sub, nI_clamp, nI_lt_t, nI_lt_f, nI_le_t, nI_le_f, nI_eq_t, nI_eq_f, vp_nI, tI, fI, not_true, not_false_iff, true_and, and_true, Classical.not_not, mS_uI, mS_uA, mS_uJ, mS_uR, mS_uX, mR_uI, mR_uA, mR_uJ, mR_uX, mX_uI, mX_uA, mX_uJ, mX_uR, mI_s, mI_n, mI_A, mI_An, mI_uJ, mI_uR, mI_uX, mJ_uI, mJ_uA, mJ_uR, mJ_uX, onR_s, kC_v, kC_n, kC_t, h1, h2, h3]
    rfl
  · simp (disch := first | omega | rfl) only [e_180_0, e_180_1, e_180_4, e_180_5, e_180_6, e_180_8, e_180_11, e_180_13, e_180_16, e_180_17, e_180_20, e_180_21, e_180_22, e_180_24, e_180_27, e_180_29, e_180_30, e_180_31, e_180_34, e_180_35, ge1, ule_t, true_or, or_true, nI_add, nI_mul, nI_sub, nI_clamp, nI_lt_t, nI_lt_f, nI_le_t, nI_le_f, nI_eq_t, nI_eq_f, vp_nI, tI, fI, not_true, not_false_iff, true_and, and_true, Classical.not_not, mS_uI, mS_uA, mS_uJ, mS_uR, mS_uX, mR_uI, mR_uA, mR_uJ, mR_uX, mX_uI, mX_uA, mX_uJ, mX_uR, mI_s, mI_n, mI_A, mI_An, mI_uJ, mI_uR, mI_uX, mJ_uI, mJ_uA, mJ_uR, mJ_uX, onR_s, kC_v, kC_n, kC_t, h1, h2, h3]
    rfl
theorem w_186 (hm : m < 4294967296) (hc : c < 16) (hm2 : m < 2147483648) : Ev (d + 1) 186 [.int (nI m), .int (nI c)] μ Q = Q (some (some (.int (bI (m.testBit c = true))))) μ := by
  have e1 : nI m >>> (nI c &&& 31) &&& nI 1 = nI (m / 2 ^ c % 2) := by rw [nI_shr hm2 (by omega), nI_and1]
  have e2 : (m.testBit c = true) = (m / 2 ^ c % 2 = 1) := by
    rw [Nat.testBit_eq_decide_div_mod_eq]; simp
  rw [in_186]
  by_cases hb : m / 2 ^ c % 2 = 1
  · simp (disch := first | omega | rfl) only [e_186_0, e_186_1, e_186_2, e_186_3, e_186_4, e_186_5, e_186_6, e_186_9, e_186_10, e_186_13, e_186_14, ge1, ule_t, true_or, or_true, nI_add, nI_mul, nI_sub, nI_clamp, nI_lt_t, nI_lt_f, nI_le_t, nI_le_f, nI_eq_t, nI_eq_f, vp_nI, tI, fI, not_true, not_false_iff, true_and, and_true, Classical.not_not, e1, hb]
    rw [bI_t (by rw [e2]; exact hb)]
  · have hb0 : m / 2 ^ c % 2 = 0 := by omega
    simp (disch := first | omega | rfl) only [e_186_0, e_186_1, e_186_2, e_186_3, e_186_4, e_186_5, e_186_6, e_186_9, e_186_10, e_186_13, e_186_14, ge1, ule_t, true_or, or_true, nI_add, nI_mul, nI_sub, nI_clamp, nI_lt_t, nI_lt_f, nI_le_t, nI_le_f, nI_eq_t, nI_eq_f, vp_nI, tI, fI, not_true, not_false_iff, true_and, and_true, Classical.not_not, e1, hb0]
    rw [bI_f (by rw [e2]; exact hb)]
end Law1

