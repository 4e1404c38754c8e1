/-! the reference's rows of the past -/
def prM (μ : Mu) (j : Nat) : Nat → Int32 := fun x => if x < 1782 then mI μ 1304 (1782 * j + x) else 0
section Keeps
variable {d : Nat} {Q : Po} {μ : Mu} {s c m n q i j k t z u : Nat} {x y g : Int32}
/-- rows taken down by one -/
def shF (f : Nat → Int32) (k : Nat) : Nat → Int32 := fun x => if x + 1782 < k then f (x + 1782) else f x
theorem shF_s (f : Nat → Int32) {k : Nat} (h : 1782 ≤ k) : upd (shF f k) (k - 1782) (f k) = shF f (k + 1) := by
  obtain ⟨y, rfl⟩ : ∃ y, k = y + 1782 := ⟨k - 1782, by omega⟩
  rw [Nat.add_sub_cancel]
  funext x
  unfold upd shF
  by_cases h1 : x = y
  · rw [h1, if_pos rfl, if_pos (by omega)]
  · rw [if_neg h1]
    by_cases h2 : x + 1782 < y + 1782
    · rw [if_pos h2, if_pos (by omega)]
    · rw [if_neg h2, if_neg (by omega)]
theorem uIA {μ : Mu} {a k : Nat} {f : Nat → Int32} {v : Int32} : uI (uA μ a f) a k v = uA μ a (upd f k v) := by rw [uI_A, uA_A, mI_Af]
theorem prM_at {μ : Mu} {j x : Nat} (h : x < 1782) : prM μ j x = mI μ 1304 (1782 * j + x) := if_pos h
theorem prM_n {μ : Mu} {j x : Nat} (h : ¬ x < 1782) : prM μ j x = 0 := if_neg h
theorem pr2_a {u j : Nat} {pr : Nat → Nat → Int32} {r : Nat → Int32} (h : u < 10) (hj : j < u) : pr2 u pr r j = pr j := by unfold pr2; rw [if_pos h, if_pos hj]
theorem pr2_b {u j : Nat} {pr : Nat → Nat → Int32} {r : Nat → Int32} (h : u < 10) (hj : ¬ j < u) : pr2 u pr r j = r := by unfold pr2; rw [if_pos h, if_neg hj]
theorem pr2_c {j : Nat} {pr : Nat → Nat → Int32} {r : Nat → Int32} (hj : j < 9) : pr2 10 pr r j = pr (j + 1) := by unfold pr2; rw [if_neg (by omega), if_pos hj]
theorem pr2_d {j : Nat} {pr : Nat → Nat → Int32} {r : Nat → Int32} (hj : ¬ j < 9) : pr2 10 pr r j = r := by unfold pr2; rw [if_neg (by omega), if_neg hj]
theorem shF_at (f : Nat → Int32) {k x : Nat} (h : k ≤ x + 1782) : shF f k x = f x := if_neg (by omega)
theorem shF_0 (f : Nat → Int32) : shF f 1782 = f := funext fun x => if_neg (by omega)
/-- a row put in -/
def puF (f r : Nat → Int32) (u k : Nat) : Nat → Int32 := fun x => if 1782 * u ≤ x ∧ x < 1782 * u + k then r (x - 1782 * u) else f x
theorem puF_0 (f r : Nat → Int32) (u : Nat) : puF f r u 0 = f := funext fun x => if_neg (by omega)
theorem puF_s (f r : Nat → Int32) (u k : Nat) : upd (puF f r u k) (1782 * u + k) (r k) = puF f r u (k + 1) := by
  funext x
  unfold upd puF
  by_cases h1 : x = 1782 * u + k
  · subst h1
    rw [if_pos rfl, if_pos (by omega), show 1782 * u + k - 1782 * u = k by omega]
  · rw [if_neg h1]
    by_cases h2 : 1782 * u ≤ x ∧ x < 1782 * u + k
    · rw [if_pos h2, if_pos (by omega)]
    · rw [if_neg h2, if_neg (by omega)]
end Keeps


