/-! throws, allowances -/
theorem ule_t {u v : Nat × Nat} (h : (Nat.ble u.1 v.1 && Nat.ble u.2 v.2) = true) : ule u v = True := by
  rw [Bool.and_eq_true] at h
  exact eq_true (zub h.1 h.2)
section TTs
variable {d pc : Nat} {Q : Po} {μ : Mu} {u : Nat × Nat} {ls : LV} {l0 l1 l2 l3 l4 l5 l6 : Option Value}
theorem TT_95 : TT 95 d pc ls u Q μ = (ule u (42, 7140) ∧ Q none μ) := by
  unfold TT
  rw [minfo_95]
  exact propext ⟨fun h => h.2, fun h => ⟨rfl, h⟩⟩
theorem TT_101 : TT 101 d pc ls u Q μ = (ule u (1, 6) ∧ Q none μ) := by
  unfold TT
  rw [minfo_101]
  exact propext ⟨fun h => h.2, fun h => ⟨rfl, h⟩⟩
theorem TT_103 : TT 103 d pc ls u Q μ = (ule u (2, 12) ∧ Q none μ) := by
  unfold TT
  rw [minfo_103]
  exact propext ⟨fun h => h.2, fun h => ⟨rfl, h⟩⟩
theorem TT_104 : TT 104 d pc ls u Q μ = (ule u (1, 6) ∧ Q none μ) := by
  unfold TT
  rw [minfo_104]
  exact propext ⟨fun h => h.2, fun h => ⟨rfl, h⟩⟩
theorem TT_105 : TT 105 d pc ls u Q μ = (ule u (1, 6) ∧ Q none μ) := by
  unfold TT
  rw [minfo_105]
  exact propext ⟨fun h => h.2, fun h => ⟨rfl, h⟩⟩
theorem TT_106 : TT 106 d pc ls u Q μ = (ule u (1, 6) ∧ Q none μ) := by
  unfold TT
  rw [minfo_106]
  exact propext ⟨fun h => h.2, fun h => ⟨rfl, h⟩⟩
theorem TT_107 : TT 107 d pc ls u Q μ = (ule u (1, 6) ∧ Q none μ) := by
  unfold TT
  rw [minfo_107]
  exact propext ⟨fun h => h.2, fun h => ⟨rfl, h⟩⟩
theorem TT_108 : TT 108 d pc ls u Q μ = (ule u (1, 6) ∧ Q none μ) := by
  unfold TT
  rw [minfo_108]
  exact propext ⟨fun h => h.2, fun h => ⟨rfl, h⟩⟩
theorem TT_109 : TT 109 d pc ls u Q μ = (ule u (2, 12) ∧ Q none μ) := by
  unfold TT
  rw [minfo_109]
  exact propext ⟨fun h => h.2, fun h => ⟨rfl, h⟩⟩
theorem TT_110 : TT 110 d pc ls u Q μ = (ule u (2, 12) ∧ Q none μ) := by
  unfold TT
  rw [minfo_110]
  exact propext ⟨fun h => h.2, fun h => ⟨rfl, h⟩⟩
theorem TT_113 : TT 113 d pc ls u Q μ = (ule u (4, 24) ∧ Q none μ) := by
  unfold TT
  rw [minfo_113]
  exact propext ⟨fun h => h.2, fun h => ⟨rfl, h⟩⟩
theorem TT_114 : TT 114 d pc ls u Q μ = (ule u (2, 12) ∧ Q none μ) := by
  unfold TT
  rw [minfo_114]
  exact propext ⟨fun h => h.2, fun h => ⟨rfl, h⟩⟩
theorem TT_115 : TT 115 d pc ls u Q μ = (ule u (2, 12) ∧ Q none μ) := by
  unfold TT
  rw [minfo_115]
  exact propext ⟨fun h => h.2, fun h => ⟨rfl, h⟩⟩
theorem TT_116 : TT 116 d pc ls u Q μ = (ule u (2, 12) ∧ Q none μ) := by
  unfold TT
  rw [minfo_116]
  exact propext ⟨fun h => h.2, fun h => ⟨rfl, h⟩⟩
theorem TT_117 : TT 117 d pc ls u Q μ = (ule u (1, 6) ∧ Q none μ) := by
  unfold TT
  rw [minfo_117]
  exact propext ⟨fun h => h.2, fun h => ⟨rfl, h⟩⟩
theorem TT_119 : TT 119 d pc ls u Q μ = (ule u (1, 6) ∧ Q none μ) := by
  unfold TT
  rw [minfo_119]
  exact propext ⟨fun h => h.2, fun h => ⟨rfl, h⟩⟩
theorem TT_121 : TT 121 d pc ls u Q μ = (ule u (1, 6) ∧ Q none μ) := by
  unfold TT
  rw [minfo_121]
  exact propext ⟨fun h => h.2, fun h => ⟨rfl, h⟩⟩
theorem TT_122 : TT 122 d pc ls u Q μ = (ule u (1, 6) ∧ Q none μ) := by
  unfold TT
  rw [minfo_122]
  exact propext ⟨fun h => h.2, fun h => ⟨rfl, h⟩⟩
theorem TT_123 : TT 123 d pc ls u Q μ = (ule u (1, 6) ∧ Q none μ) := by
  unfold TT
  rw [minfo_123]
  exact propext ⟨fun h => h.2, fun h => ⟨rfl, h⟩⟩
theorem TT_124 : TT 124 d pc ls u Q μ = (ule u (6, 36) ∧ Q none μ) := by
  unfold TT
  rw [minfo_124]
  exact propext ⟨fun h => h.2, fun h => ⟨rfl, h⟩⟩
theorem TT_130 : TT 130 d pc ls u Q μ = (ule u (1, 6) ∧ Q none μ) := by
  unfold TT
  rw [minfo_130]
  exact propext ⟨fun h => h.2, fun h => ⟨rfl, h⟩⟩
theorem TT_134 : TT 134 d pc ls u Q μ = (ule u (1, 6) ∧ Q none μ) := by
  unfold TT
  rw [minfo_134]
  exact propext ⟨fun h => h.2, fun h => ⟨rfl, h⟩⟩
theorem TT_138 : TT 138 d pc ls u Q μ = (ule u (2, 12) ∧ Q none μ) := by
  unfold TT
  rw [minfo_138]
  exact propext ⟨fun h => h.2, fun h => ⟨rfl, h⟩⟩
theorem TT_139 : TT 139 d pc ls u Q μ = (ule u (2, 12) ∧ Q none μ) := by
  unfold TT
  rw [minfo_139]
  exact propext ⟨fun h => h.2, fun h => ⟨rfl, h⟩⟩
theorem TT_142 : TT 142 d pc ls u Q μ = (ule u (1, 6) ∧ Q none μ) := by
  unfold TT
  rw [minfo_142]
  exact propext ⟨fun h => h.2, fun h => ⟨rfl, h⟩⟩
theorem TT_150 : TT 150 d pc ls u Q μ = (ule u (1, 6) ∧ Q none μ) := by
  unfold TT
  rw [minfo_150]
  exact propext ⟨fun h => h.2, fun h => ⟨rfl, h⟩⟩
theorem TT_151 : TT 151 d pc ls u Q μ = (ule u (1, 6) ∧ Q none μ) := by
  unfold TT
  rw [minfo_151]
  exact propext ⟨fun h => h.2, fun h => ⟨rfl, h⟩⟩
theorem TT_152 : TT 152 d pc ls u Q μ = (ule u (1, 6) ∧ Q none μ) := by
  unfold TT
  rw [minfo_152]
  exact propext ⟨fun h => h.2, fun h => ⟨rfl, h⟩⟩
theorem TT_282 (h1 : 0 ≤ pc) (h2 : pc < 10) : TT 282 d pc [l0, l1, l2, l3, none] u Q μ = EM 282 d 15 [l0, l1, l2, l3, none] [] μ u Q := by
  unfold TT
  rw [minfo_282]
  exact propext ⟨fun h => h.2.2.2, fun h => ⟨h1, h2, rfl, h⟩⟩
theorem TT_283 (h1 : 0 ≤ pc) (h2 : pc < 10) : TT 283 d pc [l0, l1, l2, l3, none] u Q μ = EM 283 d 15 [l0, l1, l2, l3, none] [] μ u Q := by
  unfold TT
  rw [minfo_283]
  exact propext ⟨fun h => h.2.2.2, fun h => ⟨h1, h2, rfl, h⟩⟩
theorem TT_284 (h1 : 0 ≤ pc) (h2 : pc < 9) : TT 284 d pc [l0, l1, l2, none] u Q μ = EM 284 d 13 [l0, l1, l2, none] [] μ u Q := by
  unfold TT
  rw [minfo_284]
  exact propext ⟨fun h => h.2.2.2, fun h => ⟨h1, h2, rfl, h⟩⟩
theorem TT_285 (h1 : 0 ≤ pc) (h2 : pc < 12) : TT 285 d pc [l0, l1, l2, l3, l4, none] u Q μ = EM 285 d 17 [l0, l1, l2, l3, l4, none] [] μ u Q := by
  unfold TT
  rw [minfo_285]
  exact propext ⟨fun h => h.2.2.2, fun h => ⟨h1, h2, rfl, h⟩⟩
theorem TT_286 (h1 : 0 ≤ pc) (h2 : pc < 10) : TT 286 d pc [l0, l1, l2, l3, none] u Q μ = EM 286 d 15 [l0, l1, l2, l3, none] [] μ u Q := by
  unfold TT
  rw [minfo_286]
  exact propext ⟨fun h => h.2.2.2, fun h => ⟨h1, h2, rfl, h⟩⟩
theorem TT_287 (h1 : 0 ≤ pc) (h2 : pc < 10) : TT 287 d pc [l0, l1, l2, l3, none] u Q μ = EM 287 d 15 [l0, l1, l2, l3, none] [] μ u Q := by
  unfold TT
  rw [minfo_287]
  exact propext ⟨fun h => h.2.2.2, fun h => ⟨h1, h2, rfl, h⟩⟩
theorem TT_288 (h1 : 0 ≤ pc) (h2 : pc < 10) : TT 288 d pc [l0, l1, l2, l3, none] u Q μ = EM 288 d 15 [l0, l1, l2, l3, none] [] μ u Q := by
  unfold TT
  rw [minfo_288]
  exact propext ⟨fun h => h.2.2.2, fun h => ⟨h1, h2, rfl, h⟩⟩
theorem TT_289 (h1 : 0 ≤ pc) (h2 : pc < 10) : TT 289 d pc [l0, l1, l2, l3, none] u Q μ = EM 289 d 15 [l0, l1, l2, l3, none] [] μ u Q := by
  unfold TT
  rw [minfo_289]
  exact propext ⟨fun h => h.2.2.2, fun h => ⟨h1, h2, rfl, h⟩⟩
theorem TT_290 (h1 : 0 ≤ pc) (h2 : pc < 10) : TT 290 d pc [l0, l1, l2, l3, none] u Q μ = EM 290 d 15 [l0, l1, l2, l3, none] [] μ u Q := by
  unfold TT
  rw [minfo_290]
  exact propext ⟨fun h => h.2.2.2, fun h => ⟨h1, h2, rfl, h⟩⟩
theorem TT_291 (h1 : 0 ≤ pc) (h2 : pc < 17) : TT 291 d pc [l0, l1, l2, l3, none] u Q μ = EM 291 d 22 [l0, l1, l2, l3, none] [] μ u Q := by
  unfold TT
  rw [minfo_291]
  exact propext ⟨fun h => h.2.2.2, fun h => ⟨h1, h2, rfl, h⟩⟩
theorem TT_292 (h1 : 0 ≤ pc) (h2 : pc < 10) : TT 292 d pc [l0, l1, l2, l3, none] u Q μ = EM 292 d 15 [l0, l1, l2, l3, none] [] μ u Q := by
  unfold TT
  rw [minfo_292]
  exact propext ⟨fun h => h.2.2.2, fun h => ⟨h1, h2, rfl, h⟩⟩
theorem TT_293 (h1 : 0 ≤ pc) (h2 : pc < 10) : TT 293 d pc [l0, l1, l2, l3, none] u Q μ = EM 293 d 15 [l0, l1, l2, l3, none] [] μ u Q := by
  unfold TT
  rw [minfo_293]
  exact propext ⟨fun h => h.2.2.2, fun h => ⟨h1, h2, rfl, h⟩⟩
theorem TT_294 (h1 : 0 ≤ pc) (h2 : pc < 10) : TT 294 d pc [l0, l1, l2, l3, none] u Q μ = EM 294 d 15 [l0, l1, l2, l3, none] [] μ u Q := by
  unfold TT
  rw [minfo_294]
  exact propext ⟨fun h => h.2.2.2, fun h => ⟨h1, h2, rfl, h⟩⟩
theorem TT_295 (h1 : 0 ≤ pc) (h2 : pc < 10) : TT 295 d pc [l0, l1, l2, l3, none] u Q μ = EM 295 d 15 [l0, l1, l2, l3, none] [] μ u Q := by
  unfold TT
  rw [minfo_295]
  exact propext ⟨fun h => h.2.2.2, fun h => ⟨h1, h2, rfl, h⟩⟩
theorem TT_296 (h1 : 0 ≤ pc) (h2 : pc < 16) : TT 296 d pc [l0, l1, l2, none] u Q μ = EM 296 d 20 [l0, l1, l2, none] [] μ u Q := by
  unfold TT
  rw [minfo_296]
  exact propext ⟨fun h => h.2.2.2, fun h => ⟨h1, h2, rfl, h⟩⟩
theorem TT_297 (h1 : 0 ≤ pc) (h2 : pc < 9) : TT 297 d pc [l0, l1, l2, none] u Q μ = EM 297 d 13 [l0, l1, l2, none] [] μ u Q := by
  unfold TT
  rw [minfo_297]
  exact propext ⟨fun h => h.2.2.2, fun h => ⟨h1, h2, rfl, h⟩⟩
theorem TT_298 (h1 : 0 ≤ pc) (h2 : pc < 9) : TT 298 d pc [l0, l1, l2, none] u Q μ = EM 298 d 13 [l0, l1, l2, none] [] μ u Q := by
  unfold TT
  rw [minfo_298]
  exact propext ⟨fun h => h.2.2.2, fun h => ⟨h1, h2, rfl, h⟩⟩
theorem TT_299 (h1 : 0 ≤ pc) (h2 : pc < 9) : TT 299 d pc [l0, l1, l2, none] u Q μ = EM 299 d 13 [l0, l1, l2, none] [] μ u Q := by
  unfold TT
  rw [minfo_299]
  exact propext ⟨fun h => h.2.2.2, fun h => ⟨h1, h2, rfl, h⟩⟩
theorem TT_300 (h1 : 0 ≤ pc) (h2 : pc < 10) : TT 300 d pc [l0, l1, l2, l3, none] u Q μ = EM 300 d 15 [l0, l1, l2, l3, none] [] μ u Q := by
  unfold TT
  rw [minfo_300]
  exact propext ⟨fun h => h.2.2.2, fun h => ⟨h1, h2, rfl, h⟩⟩
theorem TT_301 (h1 : 0 ≤ pc) (h2 : pc < 10) : TT 301 d pc [l0, l1, l2, l3, none] u Q μ = EM 301 d 15 [l0, l1, l2, l3, none] [] μ u Q := by
  unfold TT
  rw [minfo_301]
  exact propext ⟨fun h => h.2.2.2, fun h => ⟨h1, h2, rfl, h⟩⟩
theorem TT_302 (h1 : 0 ≤ pc) (h2 : pc < 10) : TT 302 d pc [l0, l1, l2, l3, none] u Q μ = EM 302 d 15 [l0, l1, l2, l3, none] [] μ u Q := by
  unfold TT
  rw [minfo_302]
  exact propext ⟨fun h => h.2.2.2, fun h => ⟨h1, h2, rfl, h⟩⟩
theorem TT_303 (h1 : 0 ≤ pc) (h2 : pc < 9) : TT 303 d pc [l0, l1, l2, none] u Q μ = EM 303 d 13 [l0, l1, l2, none] [] μ u Q := by
  unfold TT
  rw [minfo_303]
  exact propext ⟨fun h => h.2.2.2, fun h => ⟨h1, h2, rfl, h⟩⟩
end TTs
