/-! a turn executed: the reference -/
section ExM
variable {d : Nat} {Q : Po} {μ : Mu} {m n i j k t u N : Nat} {x y z : Int32} {r : Nat → Int32} {l3 l4 l5 : Option Value}
def xcF (r F : Nat → Int32) (m k : Nat) : Nat → Int32 := fun x => if 3 + 64 * m + 7 ≤ x ∧ x < 3 + 64 * m + 7 + k then F (x - (3 + 64 * m + 7)) else r x
theorem xcF_s {F : Nat → Int32} : upd (xcF r F m k) (3 + 64 * m + (7 + k)) (F k) = xcF r F m (k + 1) := by
  funext x
  unfold upd xcF
  by_cases h : x = 3 + 64 * m + (7 + k)
  · rw [h, if_pos rfl, if_pos (by omega), show 3 + 64 * m + (7 + k) - (3 + 64 * m + 7) = k by omega]
  · rw [if_neg h]
    by_cases h2 : 3 + 64 * m + 7 ≤ x ∧ x < 3 + 64 * m + 7 + k
    · rw [if_pos h2, if_pos (by omega)]
    · rw [if_neg h2, if_neg (by omega)]
theorem xcF_0 {F : Nat → Int32} : xcF r F m 0 = r := funext fun x => if_neg (by omega)
theorem xcF_16 {F G : Nat → Int32} (h : EqL F G) : xcF r F m 16 = rX1 r m G := by
  funext x
  unfold xcF rX1
  by_cases h2 : 3 + 64 * m + 7 ≤ x ∧ x < 3 + 64 * m + 7 + 16
  · rw [if_pos h2, if_pos (by omega)]; exact h _ (by omega)
  · rw [if_neg h2, if_neg (by omega)]
def PX (a : Nat) : Prop := a = 1302 ∨ a = 1305 ∨ a = 1306
theorem mTree_fr : Fr (fun a => a = 1305 ∨ a = 1306) μ (mTree μ m) := by
  unfold mTree
  exact (Fr.refl.au (Or.inl rfl)).au (Or.inr rfl)
end ExM


