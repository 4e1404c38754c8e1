/-! throws, allowances -/
theorem ule_t {u v : Nat × Nat} (h : (Nat.ble u.1 v.1 && Nat.ble u.2 v.2) = true) : ule u v = True := by
  rw [Bool.and_eq_true] at h
  exact eq_true (zub h.1 h.2)
section TTs
variable {d pc : Nat} {Q : Po} {μ : Mu} {u : Nat × Nat} {ls : LV} {l0 l1 l2 l3 l4 l5 l6 : Option Value}
theorem TT_101 : TT 101 d pc ls u Q μ = (ule u (1, 6) ∧ Q none μ) := by
  unfold TT
  rw [minfo_101]
  exact propext ⟨fun h => h.2, fun h => ⟨rfl, h⟩⟩
theorem TT_103 : TT 103 d pc ls u Q μ = (ule u (2, 12) ∧ Q none μ) := by
  unfold TT
  rw [minfo_103]
  exact propext ⟨fun h => h.2, fun h => ⟨rfl, h⟩⟩
theorem TT_104 : TT 104 d pc ls u Q μ = (ule u (1, 6) ∧ Q none μ) := by
  unfold TT
  rw [minfo_104]
  exact propext ⟨fun h => h.2, fun h => ⟨rfl, h⟩⟩
theorem TT_105 : TT 105 d pc ls u Q μ = (ule u (1, 6) ∧ Q none μ) := by
  unfold TT
  rw [minfo_105]
  exact propext ⟨fun h => h.2, fun h => ⟨rfl, h⟩⟩
theorem TT_106 : TT 106 d pc ls u Q μ = (ule u (1, 6) ∧ Q none μ) := by
  unfold TT
  rw [minfo_106]
  exact propext ⟨fun h => h.2, fun h => ⟨rfl, h⟩⟩
theorem TT_107 : TT 107 d pc ls u Q μ = (ule u (1, 6) ∧ Q none μ) := by
  unfold TT
  rw [minfo_107]
  exact propext ⟨fun h => h.2, fun h => ⟨rfl, h⟩⟩
theorem TT_108 : TT 108 d pc ls u Q μ = (ule u (1, 6) ∧ Q none μ) := by
  unfold TT
  rw [minfo_108]
  exact propext ⟨fun h => h.2, fun h => ⟨rfl, h⟩⟩
theorem TT_109 : TT 109 d pc ls u Q μ = (ule u (2, 12) ∧ Q none μ) := by
  unfold TT
  rw [minfo_109]
  exact propext ⟨fun h => h.2, fun h => ⟨rfl, h⟩⟩
theorem TT_110 : TT 110 d pc ls u Q μ = (ule u (2, 12) ∧ Q none μ) := by
  unfold TT
  rw [minfo_110]
  exact propext ⟨fun h => h.2, fun h => ⟨rfl, h⟩⟩
theorem TT_113 : TT 113 d pc ls u Q μ = (ule u (4, 24) ∧ Q none μ) := by
  unfold TT
  rw [minfo_113]
  exact propext ⟨fun h => h.2, fun h => ⟨rfl, h⟩⟩
theorem TT_114 : TT 114 d pc ls u Q μ = (ule u (2, 12) ∧ Q none μ) := by
  unfold TT
  rw [minfo_114]
  exact propext ⟨fun h => h.2, fun h => ⟨rfl, h⟩⟩
theorem TT_115 : TT 115 d pc ls u Q μ = (ule u (2, 12) ∧ Q none μ) := by
  unfold TT
  rw [minfo_115]
  exact propext ⟨fun h => h.2, fun h => ⟨rfl, h⟩⟩
theorem TT_116 : TT 116 d pc ls u Q μ = (ule u (2, 12) ∧ Q none μ) := by
  unfold TT
  rw [minfo_116]
  exact propext ⟨fun h => h.2, fun h => ⟨rfl, h⟩⟩
theorem TT_122 : TT 122 d pc ls u Q μ = (ule u (1, 6) ∧ Q none μ) := by
  unfold TT
  rw [minfo_122]
  exact propext ⟨fun h => h.2, fun h => ⟨rfl, h⟩⟩
theorem TT_123 : TT 123 d pc ls u Q μ = (ule u (1, 6) ∧ Q none μ) := by
  unfold TT
  rw [minfo_123]
  exact propext ⟨fun h => h.2, fun h => ⟨rfl, h⟩⟩
theorem TT_124 : TT 124 d pc ls u Q μ = (ule u (6, 36) ∧ Q none μ) := by
  unfold TT
  rw [minfo_124]
  exact propext ⟨fun h => h.2, fun h => ⟨rfl, h⟩⟩
theorem TT_130 : TT 130 d pc ls u Q μ = (ule u (1, 6) ∧ Q none μ) := by
  unfold TT
  rw [minfo_130]
  exact propext ⟨fun h => h.2, fun h => ⟨rfl, h⟩⟩
theorem TT_134 : TT 134 d pc ls u Q μ = (ule u (1, 6) ∧ Q none μ) := by
  unfold TT
  rw [minfo_134]
  exact propext ⟨fun h => h.2, fun h => ⟨rfl, h⟩⟩
theorem TT_138 : TT 138 d pc ls u Q μ = (ule u (2, 12) ∧ Q none μ) := by
  unfold TT
  rw [minfo_138]
  exact propext ⟨fun h => h.2, fun h => ⟨rfl, h⟩⟩
theorem TT_142 : TT 142 d pc ls u Q μ = (ule u (1, 6) ∧ Q none μ) := by
  unfold TT
  rw [minfo_142]
  exact propext ⟨fun h => h.2, fun h => ⟨rfl, h⟩⟩
theorem TT_150 : TT 150 d pc ls u Q μ = (ule u (1, 6) ∧ Q none μ) := by
  unfold TT
  rw [minfo_150]
  exact propext ⟨fun h => h.2, fun h => ⟨rfl, h⟩⟩
theorem TT_151 : TT 151 d pc ls u Q μ = (ule u (1, 6) ∧ Q none μ) := by
  unfold TT
  rw [minfo_151]
  exact propext ⟨fun h => h.2, fun h => ⟨rfl, h⟩⟩
theorem TT_152 : TT 152 d pc ls u Q μ = (ule u (1, 6) ∧ Q none μ) := by
  unfold TT
  rw [minfo_152]
  exact propext ⟨fun h => h.2, fun h => ⟨rfl, h⟩⟩
end TTs
