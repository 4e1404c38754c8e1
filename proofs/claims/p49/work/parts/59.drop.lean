/-! faults that wait no more -/
def kL (P : Nat → Bool) : Nat → Nat
  | 0 => 0
  | k + 1 => kL P k + (if P k = true then 1 else 0)
def kS (P : Nat → Bool) : Nat → (Nat → Nat)
  | 0 => fun _ => 0
  | k + 1 => if P k = true then pN (kS P k) (kL P k) k else kS P k
theorem kL_le (P : Nat → Bool) : ∀ k, kL P k ≤ k
  | 0 => Nat.le_refl _
  | k + 1 => by
    have := kL_le P k
    rw [kL]
    split <;> omega
theorem kS_lt (P : Nat → Bool) : ∀ n i, i < kL P n → kS P n i < n
  | 0, i, h => absurd h (Nat.not_lt_zero i)
  | n + 1, i, h => by
    rw [kL] at h
    rw [kS]
    by_cases hp : P n = true
    · rw [if_pos hp] at h ⊢
      by_cases hi : i = kL P n
      · rw [hi, pN_s]; omega
      · rw [pN_n hi]
        have := kS_lt P n i (by omega)
        omega
    · rw [if_neg hp] at h ⊢
      have := kS_lt P n i (by omega)
      omega
theorem kLS_eq {P P' : Nat → Bool} : ∀ n, (∀ k, k < n → P k = P' k) → kL P n = kL P' n ∧ kS P n = kS P' n
  | 0, _ => ⟨rfl, rfl⟩
  | n + 1, h => by
    obtain ⟨h1, h2⟩ := kLS_eq n (fun k hk => h k (by omega))
    rw [kL, kL, kS, kS, h1, h2, h n (by omega)]
    exact ⟨rfl, rfl⟩
def dF (nums : Nat → Int32) (P : Nat → Bool) (k : Nat) : Nat → Int32 := fun x => if x < 4 * kL P k then nums (4 * kS P k (x / 4) + x % 4) else nums x
theorem dF_0 {nums : Nat → Int32} {P : Nat → Bool} : dF nums P 0 = nums := funext fun x => if_neg (by simp [kL])
theorem dF_at {nums : Nat → Int32} {P : Nat → Bool} {k x : Nat} (h : 4 * k ≤ x) : dF nums P k x = nums x := if_neg (by have := kL_le P k; omega)
theorem dF_s {nums : Nat → Int32} {P : Nat → Bool} {k : Nat} (hp : P k = true) : va_cpy (dF nums P k) (dF nums P k) (4 * k) (4 * kL P k) 4 = dF nums P (k + 1) := by
  have hle := kL_le P k
  funext x
  unfold va_cpy
  by_cases h : 4 * kL P k ≤ x ∧ x < 4 * kL P k + 4
  · rw [if_pos h, dF_at (by omega)]
    unfold dF
    rw [kL, kS, if_pos hp, if_pos hp, if_pos (by omega), show x / 4 = kL P k by omega, pN_s]
    congr 1; omega
  · rw [if_neg h]
    unfold dF
    rw [kL, kS, if_pos hp, if_pos hp]
    by_cases h2 : x < 4 * kL P k
    · rw [if_pos h2, if_pos (by omega), pN_n (by omega)]
    · rw [if_neg h2, if_neg (by omega)]
theorem dF_n {nums : Nat → Int32} {P : Nat → Bool} {k : Nat} (hp : ¬ P k = true) : dF nums P (k + 1) = dF nums P k := by
  unfold dF
  rw [kL, kS, if_neg hp, if_neg hp, Nat.add_zero]
theorem dF_lo {nums : Nat → Int32} {P : Nat → Bool} {n i w : Nat} (hi : i < kL P n) (hw : w < 4) : dF nums P n (4 * i + w) = nums (4 * kS P n i + w) := by
  unfold dF
  rw [if_pos (by omega), show (4 * i + w) / 4 = i by omega, show (4 * i + w) % 4 = w by omega]
theorem dF_eq {f g : Nat → Int32} {P P' : Nat → Bool} {n x : Nat} (hP : ∀ k, k < n → P k = P' k) (h : ∀ k, k < 4 * n → f k = g k) (hx : x < 4 * kL P n) : dF f P n x = dF g P' n x := by
  obtain ⟨e1, e2⟩ := kLS_eq n hP
  unfold dF
  rw [← e1, ← e2, if_pos hx, if_pos hx]
  have := kS_lt P n (x / 4) (by omega)
  exact h _ (by omega)
/-- which faults stay -/
def pK (nums : Nat → Int32) (x y g : Int32) (k : Nat) : Bool := !decide (nums (4 * k) = x ∧ y ≤ nums (4 * k + 1) ∧ nums (4 * k + 1) ≤ g)
def pM (nums : Nat → Int32) (x y : Int32) (k : Nat) : Bool := !decide (nums (4 * k) = x ∧ (y = -1 ∨ nums (4 * k + 1) = y))
section DropC
variable {d : Nat} {Q : Po} {μ : Mu} {s c m n q i j k t z u σ o : Nat} {x y g v w : Int32} {r tn : Nat → Int32} {pr : Nat → Nat → Int32}
theorem mI_Ax {a : Nat} {f : Nat → Int32} : mI (uA μ a f) a k = f k := mI_A
theorem s_38 (hS : FaS μ s) (hn : mI μ (s + 3) 1 = nI n) (hn10 : n ≤ 10) : Ev (d + 3) 38 [.ref (s + 3), .int x, .int y, .int g] μ Q = Q (some none) (uI (uA μ (s + 4) (dF (mI μ (s + 4)) (pK (mI μ (s + 4)) x y g) n)) (s + 3) 1 (nI (kL (pK (mI μ (s + 4)) x y g) n))) := by
  have hS0 := hS
  obtain ⟨f1, f2, f3, f4⟩ := hS
  have key : ∀ f k, k + f = n → EM 38 (d + 2) 6 [some (.ref (s + 3)), some (.int x), some (.int y), some (.int g), some (.int (nI (kL (pK (mI μ (s + 4)) x y g) k))), some (.int (nI k))] [] (uA μ (s + 4) (dF (mI μ (s + 4)) (pK (mI μ (s + 4)) x y g) k)) (0, 0) Q = Q (some none) (uI (uA μ (s + 4) (dF (mI μ (s + 4)) (pK (mI μ (s + 4)) x y g) n)) (s + 3) 1 (nI (kL (pK (mI μ (s + 4)) x y g) n))) := by
    intro f
    induction f with
    | zero =>
      intro k hk
      obtain rfl : k = n := by omega
      rw [e_38_6]
      simp (disch := first | omega | rfl) only [e_38_0, e_38_1, e_38_3, e_38_4, e_38_8, e_38_9, e_38_12, e_38_15, e_38_16, e_38_18, e_38_19, e_38_20, e_38_21, e_38_24, e_38_27, e_38_28, e_38_31, e_38_33, e_38_34, e_38_35, e_38_36, e_38_39, e_38_41, e_38_42, e_38_43, e_38_44, e_38_47, e_38_50, e_38_53, e_38_56, e_38_57, e_38_59, e_38_62, ge1, ule_t, true_or, or_true, nI_add, nI_mul, nI_sub, nI_clamp, nI_lt_t, nI_lt_f, nI_le_t, nI_le_f, nI_eq_t, nI_eq_f, vp_nI, tI, fI, not_true, not_false_iff, true_and, and_true, Classical.not_not, mS_uI, mS_uA, mS_uJ, mS_uR, mS_uX, mR_uI, mR_uA, mR_uJ, mR_uX, mX_uI, mX_uA, mX_uJ, mX_uR, mI_s, mI_n, mI_A, mI_An, mI_uJ, mI_uR, mI_uX, mJ_uI, mJ_uA, mJ_uR, mJ_uX, onR_s, kC_v, kC_n, kC_t, f2, f3, f4, hn]
    | succ f ih =>
      intro k hk
      rw [e_38_6]
      have hle := kL_le (pK (mI μ (s + 4)) x y g) k
      have h36 := fun (d : Nat) (Q : Po) => s_36 (d := d) (Q := Q) (μ := uA μ (s + 4) (dF (mI μ (s + 4)) (pK (mI μ (s + 4)) x y g) k)) (s := s) (x := x) (y := y) (g := g) hS0 (show k < 10 by omega)
      simp only [mI_A, dF_at (Nat.le_refl (4 * k)), dF_at (Nat.le_succ (4 * k))] at h36
      have hi := ih (k + 1) (by omega)
      have e7 : k * 4 = 4 * k := by omega
      have e9 : kL (pK (mI μ (s + 4)) x y g) k * 4 = 4 * kL (pK (mI μ (s + 4)) x y g) k := by omega
      by_cases hh : mI μ (s + 4) (4 * k) = x ∧ y ≤ mI μ (s + 4) (4 * k + 1) ∧ mI μ (s + 4) (4 * k + 1) ≤ g
      · have hp : ¬ pK (mI μ (s + 4)) x y g k = true := by unfold pK; rw [decide_eq_true hh]; exact Bool.false_ne_true
        simp only [bI_ti hh] at h36
        rw [dF_n hp, kL, if_neg hp, Nat.add_zero] at hi
        simp (disch := first | omega | rfl) only [e_38_0, e_38_1, e_38_3, e_38_4, e_38_8, e_38_9, e_38_12, e_38_15, e_38_16, e_38_18, e_38_19, e_38_20, e_38_21, e_38_24, e_38_27, e_38_28, e_38_31, e_38_33, e_38_34, e_38_35, e_38_36, e_38_39, e_38_41, e_38_42, e_38_43, e_38_44, e_38_47, e_38_50, e_38_53, e_38_56, e_38_57, e_38_59, e_38_62, ge1, ule_t, true_or, or_true, nI_add, nI_mul, nI_sub, nI_clamp, nI_lt_t, nI_lt_f, nI_le_t, nI_le_f, nI_eq_t, nI_eq_f, vp_nI, tI, fI, not_true, not_false_iff, true_and, and_true, Classical.not_not, mS_uI, mS_uA, mS_uJ, mS_uR, mS_uX, mR_uI, mR_uA, mR_uJ, mR_uX, mX_uI, mX_uA, mX_uJ, mX_uR, mI_s, mI_n, mI_A, mI_An, mI_uJ, mI_uR, mI_uX, mJ_uI, mJ_uA, mJ_uR, mJ_uX, onR_s, kC_v, kC_n, kC_t, f2, f3, f4, hn, h36]
        exact hi
      · have hp : pK (mI μ (s + 4)) x y g k = true := by unfold pK; rw [decide_eq_false hh]; rfl
        simp only [bI_fi hh] at h36
        rw [← dF_s hp, kL, if_pos hp] at hi
        simp (disch := first | omega | rfl) only [e_38_0, e_38_1, e_38_3, e_38_4, e_38_8, e_38_9, e_38_12, e_38_15, e_38_16, e_38_18, e_38_19, e_38_20, e_38_21, e_38_24, e_38_27, e_38_28, e_38_31, e_38_33, e_38_34, e_38_35, e_38_36, e_38_39, e_38_41, e_38_42, e_38_43, e_38_44, e_38_47, e_38_50, e_38_53, e_38_56, e_38_57, e_38_59, e_38_62, ge1, ule_t, true_or, or_true, nI_add, nI_mul, nI_sub, nI_clamp, nI_lt_t, nI_lt_f, nI_le_t, nI_le_f, nI_eq_t, nI_eq_f, vp_nI, tI, fI, not_true, not_false_iff, true_and, and_true, Classical.not_not, mS_uI, mS_uA, mS_uJ, mS_uR, mS_uX, mR_uI, mR_uA, mR_uJ, mR_uX, mX_uI, mX_uA, mX_uJ, mX_uR, mI_s, mI_n, mI_A, mI_An, mI_uJ, mI_uR, mI_uX, mJ_uI, mJ_uA, mJ_uR, mJ_uX, onR_s, kC_v, kC_n, kC_t, f2, f3, f4, hn, h36, e7, e9, leT, uA_A, mI_Af]
        exact hi
  rw [in_38]
  simp (disch := first | omega | rfl) only [e_38_0, e_38_1, e_38_3, e_38_4, e_38_8, e_38_9, e_38_12, e_38_15, e_38_16, e_38_18, e_38_19, e_38_20, e_38_21, e_38_24, e_38_27, e_38_28, e_38_31, e_38_33, e_38_34, e_38_35, e_38_36, e_38_39, e_38_41, e_38_42, e_38_43, e_38_44, e_38_47, e_38_50, e_38_53, e_38_56, e_38_57, e_38_59, e_38_62, ge1, ule_t, true_or, or_true, nI_add, nI_mul, nI_sub, nI_clamp, nI_lt_t, nI_lt_f, nI_le_t, nI_le_f, nI_eq_t, nI_eq_f, vp_nI, tI, fI, not_true, not_false_iff, true_and, and_true, Classical.not_not]
  have := key n 0 (by omega)
  rw [dF_0, uA_self] at this
  exact this
/-- the reference's row without some faults -/
def rFo (r : Nat → Int32) (P : Nat → Bool) : Nat → Int32 := fun x => if x = 1741 then nI (kL P (nF r)) else if 1742 + 4 * kL P (nF r) ≤ x ∧ x < 1742 + 4 * nF r then nI 0 else if 1742 ≤ x then dF (flt r) P (nF r) (x - 1742) else r x
theorem rFo_lo {P : Nat → Bool} {x : Nat} (h : x < 1741) : rFo r P x = r x := by
  unfold rFo
  rw [if_neg (by omega), if_neg (by omega), if_neg (by omega)]
theorem rFo_n {P : Nat → Bool} : rFo r P 1741 = nI (kL P (nF r)) := if_pos rfl
theorem rFo_k {P : Nat → Bool} {k w : Nat} (hk : k < kL P (nF r)) (hw : w < 4) : rFo r P (1742 + 4 * k + w) = r (1742 + 4 * kS P (nF r) k + w) := by
  have := kL_le P (nF r)
  unfold rFo
  rw [if_neg (by omega), if_neg (by omega), if_pos (by omega), show 1742 + 4 * k + w - 1742 = 4 * k + w by omega, dF_lo hk hw]
  unfold flt
  rw [Nat.add_assoc]
theorem rFo_hi {P : Nat → Bool} {x : Nat} (h10 : nF r ≤ 10) (h : 1782 ≤ x) : rFo r P x = r x := by
  have := kL_le P (nF r)
  unfold rFo
  rw [if_neg (by omega), if_neg (by omega), if_pos (by omega), dF_at (by omega)]
  unfold flt
  rw [show 1742 + (x - 1742) = x by omega]
theorem rFo_k0 {P : Nat → Bool} {k : Nat} (hk : k < kL P (nF r)) : rFo r P (1742 + 4 * k) = r (1742 + 4 * kS P (nF r) k) := rFo_k (w := 0) hk (by omega)
theorem okF_fo {P : Nat → Bool} (h : okF r) (h10 : nF r ≤ 10) : okF (rFo r P) := by
  have hle := kL_le P (nF r)
  have n5 : nF (rFo r P) = kL P (nF r) := by
    show (rFo r P 1741).toNatClampNeg = _
    rw [rFo_n]
    exact nI_clamp (by omega)
  intro k hk
  rw [n5] at hk
  have := h (kS P (nF r) k) (kS_lt P _ k hk)
  rw [rFo_k0 hk, rFo_k hk (by omega), rFo_k hk (by omega), rFo_k hk (by omega)]
  exact this
end DropC
section DropM
variable {d : Nat} {Q : Po} {μ : Mu} {n i j k t u T N : Nat} {x y : Int32} {r : Nat → Int32}
def fgR (r : Nat → Int32) (P : Nat → Bool) (k : Nat) : Nat → Int32 := fun x => if 1742 ≤ x then dF (flt r) P k (x - 1742) else r x
def fgI (r : Nat → Int32) (P : Nat → Bool) (k i : Nat) : Nat → Int32 := fun x => if 1742 + 4 * kL P k ≤ x ∧ x < 1742 + 4 * kL P k + i then r (1742 + 4 * k + (x - (1742 + 4 * kL P k))) else fgR r P k x
theorem fgR_0 {P : Nat → Bool} : fgR r P 0 = r := by
  funext x
  unfold fgR
  rw [dF_0]
  by_cases h : 1742 ≤ x
  · rw [if_pos h]; unfold flt; rw [show 1742 + (x - 1742) = x by omega]
  · rw [if_neg h]
theorem fgR_lo {P : Nat → Bool} {x : Nat} (h : x < 1742) : fgR r P k x = r x := if_neg (by omega)
theorem fgR_at {P : Nat → Bool} {x : Nat} (h : 1742 + 4 * k ≤ x) : fgR r P k x = r x := by
  unfold fgR
  rw [if_pos (by omega), dF_at (by omega)]
  unfold flt
  rw [show 1742 + (x - 1742) = x by omega]
theorem fgI_0 {P : Nat → Bool} : fgI r P k 0 = fgR r P k := funext fun x => if_neg (by omega)
theorem fgI_lo {P : Nat → Bool} {x : Nat} (h : x < 1742) : fgI r P k i x = r x := by
  unfold fgI
  rw [if_neg (by omega), fgR_lo h]
theorem fgI_at {P : Nat → Bool} (hi : i < 4) : fgI r P k i (1742 + 4 * k + i) = r (1742 + 4 * k + i) := by
  have := kL_le P k
  unfold fgI
  rw [if_neg (by omega), fgR_at (by omega)]
theorem fgI_s {P : Nat → Bool} : upd (fgI r P k i) (1742 + 4 * kL P k + i) (r (1742 + 4 * k + i)) = fgI r P k (i + 1) := by
  funext x
  unfold upd fgI
  by_cases h : x = 1742 + 4 * kL P k + i
  · rw [h, if_pos rfl, if_pos (by omega), show 1742 + 4 * kL P k + i - (1742 + 4 * kL P k) = i by omega]
  · rw [if_neg h]
    by_cases h2 : 1742 + 4 * kL P k ≤ x ∧ x < 1742 + 4 * kL P k + i
    · rw [if_pos h2, if_pos (by omega)]
    · rw [if_neg h2, if_neg (by omega)]
theorem fgI_4 {P : Nat → Bool} (hp : P k = true) : fgI r P k 4 = fgR r P (k + 1) := by
  have hle := kL_le P k
  funext x
  unfold fgI fgR dF
  rw [kL, kS, if_pos hp, if_pos hp]
  by_cases h : 1742 + 4 * kL P k ≤ x ∧ x < 1742 + 4 * kL P k + 4
  · rw [if_pos h, if_pos (by omega), if_pos (by omega), show (x - 1742) / 4 = kL P k by omega, pN_s]
    unfold flt
    rw [show 1742 + 4 * k + (x - (1742 + 4 * kL P k)) = 1742 + (4 * k + (x - 1742) % 4) by omega]
  · rw [if_neg h]
    by_cases h3 : 1742 ≤ x
    · rw [if_pos h3, if_pos h3]
      by_cases h2 : x - 1742 < 4 * kL P k
      · rw [if_pos h2, if_pos (by omega), pN_n (by omega)]
      · rw [if_neg h2, if_neg (by omega)]
    · rw [if_neg h3, if_neg h3]
theorem fgR_n {P : Nat → Bool} (hp : ¬ P k = true) : fgR r P (k + 1) = fgR r P k := by
  unfold fgR
  rw [dF_n hp]
def fgZ (r : Nat → Int32) (P : Nat → Bool) (n k : Nat) : Nat → Int32 := fun x => if 1742 + 4 * kL P n ≤ x ∧ x < k then nI 0 else fgR r P n x
theorem fgZ_s {P : Nat → Bool} (h : 1742 + 4 * kL P n ≤ k) : upd (fgZ r P n k) k (nI 0) = fgZ r P n (k + 1) := by
  funext x
  unfold upd fgZ
  by_cases h1 : x = k
  · rw [if_pos h1, if_pos (by omega)]
  · rw [if_neg h1]
    by_cases h2 : 1742 + 4 * kL P n ≤ x ∧ x < k
    · rw [if_pos h2, if_pos (by omega)]
    · rw [if_neg h2, if_neg (by omega)]
theorem fgZ_0 {P : Nat → Bool} : fgZ r P n (1742 + 4 * kL P n) = fgR r P n := funext fun x => if_neg (by omega)
theorem fgZ_lo {P : Nat → Bool} {x : Nat} (h : x < 1742) : fgZ r P n k x = r x := by
  unfold fgZ
  rw [if_neg (by omega), fgR_lo h]
theorem rFo_eq {P : Nat → Bool} : upd (fgZ r P (nF r) (1742 + 4 * nF r)) 1741 (nI (kL P (nF r))) = rFo r P := by
  funext x
  unfold upd fgZ rFo fgR
  rfl
end DropM


