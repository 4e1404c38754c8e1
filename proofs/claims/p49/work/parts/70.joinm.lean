/-! joining: model -/
def zRw (r : Nat → Int32) (n k : Nat) : Nat → Int32 := fun x => if 3 + 64 * n ≤ x ∧ x < 3 + 64 * n + k then nI 0 else r x
theorem zRw_0 {r : Nat → Int32} {n : Nat} : zRw r n 0 = r := funext fun x => if_neg (by omega)
theorem zRw_s {r : Nat → Int32} {n k : Nat} : upd (zRw r n k) (3 + 64 * n + k) (nI 0) = zRw r n (k + 1) := by
  funext x
  unfold upd zRw
  by_cases hx : x = 3 + 64 * n + k
  · rw [if_pos hx, if_pos ⟨by omega, by omega⟩]
  · rw [if_neg hx]
    by_cases h2 : 3 + 64 * n ≤ x ∧ x < 3 + 64 * n + k
    · rw [if_pos h2, if_pos ⟨h2.1, by omega⟩]
    · rw [if_neg h2, if_neg (by omega)]
section JnM
variable {d : Nat} {Q : Po} {μ : Mu} {m n p i j k t u N dn w : Nat} {x y z : Int32} {r : Nat → Int32} {l1 l2 l3 l4 l5 : Option Value}
end JnM


