/-! numbers and the small heap: rows for simp, side conditions by omega -/
theorem nI_mul (a b : Nat) : nI a * nI b = nI (a * b) := (Int32.ofNat_mul a b).symm
theorem nI_sub {a b : Nat} (h : b ≤ a) : nI a - nI b = nI (a - b) := by
  have h1 : nI a = nI (a - b) + nI b := by rw [nI_add]; congr 1; omega
  rw [h1]
  simp
theorem tI (P : Prop) : (True → P) = P := by simp
theorem fI (P : Prop) : (False → P) = True := by simp
theorem nI_lt_t {a b : Nat} (h : a < b) (hb : b < 2147483648) : (nI a < nI b) = True := eq_true (nI_lt h hb)
theorem nI_lt_f {a b : Nat} (h : b ≤ a) (ha : a < 2147483648) : (nI a < nI b) = False := eq_false (nI_nlt h ha)
theorem nI_le_t {a b : Nat} (h : a ≤ b) (hb : b < 2147483648) : (nI a ≤ nI b) = True := eq_true (nI_le h hb)
theorem nI_le_f {a b : Nat} (h : b < a) (ha : a < 2147483648) : (nI a ≤ nI b) = False := eq_false (nI_ge h ha)
theorem nI_eq_t {a b : Nat} (h : a = b) : (nI a = nI b) = True := eq_true (by rw [h])
theorem nI_eq_f {a b : Nat} (h : a ≠ b) (ha : a < 2147483648) (hb : b < 2147483648) : (nI a = nI b) = False := eq_false (fun q => h ((nI_eq ha hb).mp q))
theorem vp_nI {e N : Nat} (h : e < N) (hN : N < 2147483648) : vp_in (nI e) N = True := eq_true (nI_in h hN)
/-- a truth value of the machine -/
def bI (p : Prop) [Decidable p] : Int32 := if p then nI 1 else nI 0
theorem bIn0 (p : Prop) [Decidable p] : (bI p = nI 0) = ¬ p := by
  unfold bI
  by_cases h : p
  · simp [h]; decide
  · simp [h]
theorem bI_ok (p : Prop) [Decidable p] : (bI p = nI 0 ∨ bI p = nI 1) = True := by
  unfold bI
  by_cases h : p
  · simp [h]
  · simp [h]
theorem bI_t {p : Prop} [Decidable p] (h : p) : bI p = nI 1 := if_pos h
theorem bI_f {p : Prop} [Decidable p] (h : ¬ p) : bI p = nI 0 := if_neg h
section HeapEq
variable {μ : Mu} {a b k j : Nat} {v : Int32} {w : Int64} {o : Option Nat} {f : Nat → Int32} {x : Nat}
theorem mS_uI : mS (uI μ a k v) b = mS μ b := rfl
theorem mS_uA : mS (uA μ a f) b = mS μ b := rfl
theorem mS_uJ : mS (uJ μ a k w) b = mS μ b := rfl
theorem mS_uR : mS (uR μ a k o) b = mS μ b := rfl
theorem mS_uX : mS (uX μ x) b = mS μ b := rfl
theorem mR_uI : mR (uI μ a k v) b j = mR μ b j := rfl
theorem mR_uA : mR (uA μ a f) b j = mR μ b j := rfl
theorem mR_uJ : mR (uJ μ a k w) b j = mR μ b j := rfl
theorem mR_uX : mR (uX μ x) b j = mR μ b j := rfl
theorem mX_uI : mX (uI μ a k v) = mX μ := rfl
theorem mX_uA : mX (uA μ a f) = mX μ := rfl
theorem mX_uJ : mX (uJ μ a k w) = mX μ := rfl
theorem mX_uR : mX (uR μ a k o) = mX μ := rfl
theorem mI_uJ : mI (uJ μ a k w) b j = mI μ b j := rfl
theorem mI_uR : mI (uR μ a k o) b j = mI μ b j := rfl
theorem mI_uX : mI (uX μ x) b j = mI μ b j := rfl
theorem mJ_uI : mJ (uI μ a k v) b j = mJ μ b j := rfl
theorem mJ_uA : mJ (uA μ a f) b j = mJ μ b j := rfl
theorem mJ_uR : mJ (uR μ a k o) b j = mJ μ b j := rfl
theorem mJ_uX : mJ (uX μ x) b j = mJ μ b j := rfl
theorem mI_uI : mI (uI μ a k v) b j = if b = a ∧ j = k then v else mI μ b j := rfl
theorem mI_s : mI (uI μ a k v) a k = v := if_pos ⟨rfl, rfl⟩
theorem mI_n (h : b ≠ a ∨ j ≠ k) : mI (uI μ a k v) b j = mI μ b j := if_neg (fun q => h.elim (fun z => z q.1) (fun z => z q.2))
theorem mI_A : mI (uA μ a f) a j = f j := if_pos rfl
theorem mI_An (h : b ≠ a) : mI (uA μ a f) b j = mI μ b j := if_neg h
theorem mI_Af : mI (uA μ a f) a = f := by funext j; exact mI_A
theorem mI_Anf (h : b ≠ a) : mI (uA μ a f) b = mI μ b := by funext j; exact mI_An h
theorem mI_nf (h : b ≠ a) : mI (uI μ a k v) b = mI μ b := by funext j; exact mI_n (Or.inl h)
theorem mI_sf : mI (uI μ a k v) a = upd (mI μ a) k v := by funext j; simp [mI_uI, upd]
theorem onR_s {P : Nat → Prop} : onR (some a) P = P a := rfl
theorem uI_A : uI μ a k v = uA μ a (upd (mI μ a) k v) := by
  unfold uI uA mI upd
  congr 3
  funext b j
  by_cases h : b = a
  · subst h; simp
  · simp [h]
theorem uA_A {g : Nat → Int32} : uA (uA μ a f) a g = uA μ a g := by
  unfold uA
  congr 3
  funext b j
  by_cases h : b = a
  · subst h; simp
  · simp [h]
theorem uA_self : uA μ a (mI μ a) = μ := by
  unfold uA mI
  have : (fun b j => if b = a then μ.2.2.1 a j else μ.2.2.1 b j) = μ.2.2.1 := by
    funext b j
    by_cases h : b = a
    · subst h; simp
    · simp [h]
  rw [this]
end HeapEq
/-- a row partly filled -/
def fil (F G : Nat → Int32) (n : Nat) : Nat → Int32 := fun k => if k < n then F k else G k
theorem fil_0 (F G : Nat → Int32) : fil F G 0 = G := funext fun k => if_neg (Nat.not_lt_zero k)
theorem fil_s (F G : Nat → Int32) (n : Nat) : upd (fil F G n) n (F n) = fil F G (n + 1) := by
  funext k
  unfold upd fil
  by_cases h : k = n
  · subst h; simp
  · by_cases h2 : k < n
    · simp [h, h2, show k < n + 1 by omega]
    · simp [h, h2, show ¬ k < n + 1 by omega]

