/-! WHAT THE SMALL HEAP IS IN THE MACHINE'S: names to addresses, things to cells -/
def rA (base : Nat) (ro : Nat → Nat) (a : Nat) : Nat := if a < 1000 then ro a else base + (a - 1000)
def rV (base : Nat) (ro : Nat → Nat) (v : Value) : Value := match v with
  | .ref a => .ref (rA base ro a)
  | v => v
theorem rA_big {base a : Nat} {ro : Nat → Nat} (h : 1000 ≤ a) : rA base ro a = base + (a - 1000) := if_neg (by omega)
theorem rA_ro {base a : Nat} {ro : Nat → Nat} (h : a < 1000) : rA base ro a = ro a := if_pos h
theorem rA_inj {base a b : Nat} {ro : Nat → Nat} (ha : 1000 ≤ a) (hb : 1000 ≤ b) (h : rA base ro a = rA base ro b) : a = b := by
  rw [rA_big ha, rA_big hb] at h; omega
abbrev isO (base : Nat) : Nat → Prop := fun q => base ≤ q
def fV (base : Nat) (ro : Nat → Nat) (μ : Mu) (a c j : Nat) : Value := match fref c j with
  | true => va_rf ((mR μ a j).map (rA base ro))
  | false => .int (mI μ a j)
def cE (cA : Nat → ClassId) (base : Nat) (ro : Nat → Nat) (μ : Mu) (a : Nat) : va_E :=
  if (mS μ a).1 = 20 then .inl (cA 20, (mS μ a).2, .inl (mI μ a))
  else if (mS μ a).1 = 21 then .inl (cA 21, (mS μ a).2, .inl (mI μ a))
  else if (mS μ a).1 = 22 then .inl (cA 21, (mS μ a).2, .inl (mI μ a))
  else if (mS μ a).1 = 23 then .inl (cA 23, (mS μ a).2, .inr (.inr (.inr (.inr fun j => (mR μ a j).map (rA base ro)))))
  else if (mS μ a).1 = 24 then .inl (cA 24, (mS μ a).2, .inr (.inr (.inr (.inr fun j => (mR μ a j).map (rA base ro)))))
  else if (mS μ a).1 = 25 then .inl (cA 25, (mS μ a).2, .inl (mI μ a))
  else if (mS μ a).1 = 26 then .inl (cA 26, (mS μ a).2, .inr (.inr (.inr (.inr fun j => (mR μ a j).map (rA base ro)))))
  else .inr ((mS μ a).1, (List.range (cnf (mS μ a).1)).map (fV base ro μ a (mS μ a).1))
def Pic (D : va_G) (cA : Nat → ClassId) (base : Nat) (ro : Nat → Nat) (μ : Mu) (H : Heap) : Prop :=
  H.size + 1000 = base + mX μ ∧ 1000 ≤ mX μ ∧ ∀ a, 1000 ≤ a → (mS μ a).1 < 90 → a < mX μ ∧ va_at D vwCl (rA base ro a, cE cA base ro μ a) H ∧ ((mS μ a).1 = 21 → ∀ j, (mI μ a j).toInt8.toInt32 = mI μ a j)
/-- the classes of the arrays -/
def tysL (cA : Nat → ClassId) : List (ClassId × FieldType) := [(cA 20, .int), (cA 21, .byte), (cA 21, .byte), (cA 23, .object "LockstepRoom$Member"), (cA 24, .object "LockstepRoom$State"), (cA 25, .boolean), (cA 26, .object "java/lang/String")]
/-- what is only read: texts, tables, the script, static fields; what the launch says of nest mates and of the throw -/
def RO (base : Nat) (ro : Nat → Nat) (μ : Mu) (U : State) (H : Heap) : Prop :=
  (∀ a, a < 1000 →
    ((mS μ a).1 = 20 → va_T .int (ro a) (mS μ a).2 (fun j => .int (mI μ a j)) (isO base) U H) ∧
    ((mS μ a).1 = 21 → va_T .byte (ro a) (mS μ a).2 (fun j => .int (mI μ a j)) (isO base) U H) ∧
    ((mS μ a).1 = 0 → va_O "java/lang/String" (ro a) (isO base) U H ∧ va_OF "java/lang/String" "coder" "B" (.int (mI μ a 1)) (ro a) (isO base) U H ∧ ∃ v, mR μ a 0 = some v ∧ v < 1000 ∧ va_OF "java/lang/String" "value" "[B" (.ref (ro v)) (ro a) (isO base) U H) ∧
    ((mS μ a).1 = 0 ∨ (mS μ a).1 = 20 ∨ (mS μ a).1 = 21 ∨ (mS μ a).1 = 99)) ∧
  (∀ k, k < 4 → ∃ v, (v = sval k ∨ k = 3 ∧ v = .null) ∧ va_Z (snm k).1 (snm k).2.1 (snm k).2.2 (rV base ro v) (isO base) U H) ∧
  (vx_Zq Bundle.tN "UNASSIGNED_STACK" Bundle.steD (isO base) U H ∧ vx_Zq Bundle.tN "SUPPRESSED_SENTINEL" Bundle.listD (isO base) U H) ∧
  (∀ n, n < 20 → ∀ r ∈ ktab.getD n [], ∀ k, r.2 = .inr k → k < 100 ∧ vk_R (cnm.getD n "") r.1 (txts.getD k "") (ro k) U) ∧
  (∀ n, n < 20 → ∀ r ∈ ctab.getD n [], r.2.1 = 3 ∨ r.2.1 = 4 → va_Nw (.methodLinkNest (cnm.getD n "") r.1 (mi_y (minfo r.2.2)) "LockstepRoom") U) ∧
  (va_Nw (.castable IOB IOB) U ∧ ∀ Y ∈ ["java/lang/RuntimeException", "java/lang/Exception", "java/lang/Throwable"], va_Nw (.declares (Bundle.initS Y)) U) ∧ va_AO "LockstepRoom$Member" U ∧ va_AO "LockstepRoom$State" U ∧ va_AO "java/lang/String" U ∧ va_Nw (.castable "[B" "java/lang/Cloneable") U
theorem RO.kept {base : Nat} {ro : Nat → Nat} {μ : Mu} {U : State} {H H1 : Heap} (h : RO base ro μ U H) (hq : ∀ a : Nat, a < H.size → ¬ isO base a → H1[a]? = H[a]?) : RO base ro μ U H1 := by
  obtain ⟨h1, h2, h3, h4⟩ := h
  refine ⟨fun a ha => ?_, fun k hk => (h2 k hk).imp fun v hv => ⟨hv.1, hv.2.kept hq⟩, ⟨h3.1.kept hq, h3.2.kept hq⟩, h4⟩
  obtain ⟨g1, g2, g3, g4⟩ := h1 a ha
  refine ⟨fun z => (g1 z).kept hq, fun z => (g2 z).kept hq, fun z => ?_, g4⟩
  obtain ⟨k1, k2, v, k3, k4, k5⟩ := g3 z
  exact ⟨k1.kept hq, k2.kept hq, v, k3, k4, k5.kept hq⟩
theorem RO.warm {base : Nat} {ro : Nat → Nat} {μ : Mu} {s U : State} {H : Heap} (hW : s.WarmedH U.vm) (h : RO base ro μ s H) : RO base ro μ U H := by
  obtain ⟨h1, h2, h3, h4, h5, h6⟩ := h
  have hvm := hW.alike
  refine ⟨fun a ha => ?_, fun k hk => (h2 k hk).imp fun v hv => ⟨hv.1, hv.2.moved hvm⟩, ⟨h3.1.moved hvm, h3.2.moved hvm⟩, fun n hn r hr k hk => ⟨(h4 n hn r hr k hk).1, (h4 n hn r hr k hk).2.warm hW⟩, fun n hn r hr hk => va_Nw.warmM hW (h5 n hn r hr hk), ⟨va_Nw.warmC hW h6.1.1, fun Y hY => va_Nw.warmD hW (h6.1.2 Y hY)⟩, h6.2.1.moved hvm, h6.2.2.1.moved hvm, h6.2.2.2.1.moved hvm, va_Nw.warmC hW h6.2.2.2.2⟩
  obtain ⟨g1, g2, g3, g4⟩ := h1 a ha
  refine ⟨fun z => (g1 z).moved hvm, fun z => (g2 z).moved hvm, fun z => ?_, g4⟩
  obtain ⟨k1, k2, v, k3, k4, k5⟩ := g3 z
  exact ⟨k1.moved hvm, k2.moved hvm, v, k3, k4, k5.moved hvm⟩
theorem RO.same {base : Nat} {ro : Nat → Nat} {μ μ' : Mu} {U : State} {H : Heap} (h : RO base ro μ U H) (hS : ∀ a, a < 1000 → mS μ' a = mS μ a) (hI : ∀ a, a < 1000 → mI μ' a = mI μ a) (hR : ∀ a, a < 1000 → mR μ' a = mR μ a) : RO base ro μ' U H := by
  refine ⟨fun a ha => ?_, h.2⟩
  have h1 := h.1 a ha
  rw [hS a ha, hI a ha, hR a ha]
  exact h1
/-- the world of a method: at its start, and for every call -/
def Wd (D : va_G) (cA : Nat → ClassId) (base : Nat) (ro : Nat → Nat) (μ : Mu) (U : State) : Prop := Pic D cA base ro μ U.heap ∧ va_K D vwCl (tysL cA) U ∧ RO base ro μ U U.heap
theorem setMap {α : Type} (f : Nat → α) (N k : Nat) (v : α) : ((List.range N).map f).set k v = (List.range N).map (fun j => if j = k then v else f j) := by
  apply List.ext_getElem?
  intro i
  rw [List.getElem?_set]
  simp only [List.length_map, List.length_range, List.getElem?_map]
  by_cases hi : i < N
  · rw [List.getElem?_range hi]
    by_cases hk : k = i
    · subst hk; simp [hi]
    · rw [if_neg hk]; simp [Ne.symm hk]
  · rw [List.getElem?_eq_none (by simpa using Nat.le_of_not_lt hi)]
    by_cases hk : k = i
    · subst hk; simp [hi]
    · rw [if_neg hk]; rfl
section PicRows
variable {D : va_G} {cA : Nat → ClassId} {base : Nat} {ro : Nat → Nat} {μ μ' : Mu} {H H1 : Heap}
theorem Pic.upd {a : Nat} (hP : Pic D cA base ro μ H) (ha : 1000 ≤ a) (hz : H1.size = H.size) (ho : ∀ q, q ≠ rA base ro a → H1[q]? = H[q]?)
    (hX : mX μ' = mX μ) (hS : mS μ' = mS μ) (hI : ∀ b, b ≠ a → mI μ' b = mI μ b) (hJ : ∀ b, b ≠ a → mJ μ' b = mJ μ b) (hR : ∀ b, b ≠ a → mR μ' b = mR μ b)
    (hat : va_at D vwCl (rA base ro a, cE cA base ro μ' a) H1) (hb : (mS μ a).1 = 21 → ∀ j, (mI μ' a j).toInt8.toInt32 = mI μ' a j) : Pic D cA base ro μ' H1 := by
  obtain ⟨p1, p2, p3⟩ := hP
  refine ⟨by rw [hz, hX]; exact p1, by rw [hX]; exact p2, fun b hb1 hb2 => ?_⟩
  rw [hS] at hb2
  obtain ⟨g1, g2, g3⟩ := p3 b hb1 hb2
  by_cases e : b = a
  · subst e
    exact ⟨by rw [hX]; exact g1, hat, fun z => hb (by rw [← hS]; exact z)⟩
  · have ce : cE cA base ro μ' b = cE cA base ro μ b := by
      have : fV base ro μ' b = fV base ro μ b := by funext c j; simp only [fV, hI b e, hR b e]
      simp only [cE, hS, hI b e, hJ b e, hR b e, this]
    refine ⟨by rw [hX]; exact g1, ?_, fun z j => ?_⟩
    · rw [ce]
      exact g2.kept (ho _ fun q => e (rA_inj hb1 ha q))
    · rw [hS] at z
      rw [hI b e]
      exact g3 z j
theorem Pic.new {k n : Nat} (hP : Pic D cA base ro μ H) (hz : H1.size = H.size + 1) (ho : ∀ q, q < H.size → H1[q]? = H[q]?) (hat : va_at D vwCl (H.size, cE cA base ro (uN μ k n) (mX μ)) H1) : Pic D cA base ro (uN μ k n) H1 := by
  obtain ⟨p1, p2, p3⟩ := hP
  have eX : mX (uN μ k n) = mX μ + 1 := rfl
  have hs : H.size = rA base ro (mX μ) := by rw [rA_big p2]; omega
  refine ⟨by rw [hz, eX]; omega, by rw [eX]; omega, fun b hb1 hb2 => ?_⟩
  by_cases e : b = mX μ
  · subst e
    refine ⟨by rw [eX]; omega, by rw [← hs]; exact hat, fun _ j => ?_⟩
    have : mI (uN μ k n) (mX μ) j = 0 := by simp [mI, uN, mX]
    rw [this]; decide
  · have e' : b ≠ μ.1 := e
    have hS : mS (uN μ k n) b = mS μ b := by simp [mS, uN, e']
    have hI : mI (uN μ k n) b = mI μ b := by funext j; simp [mI, uN, e']
    have hJ : mJ (uN μ k n) b = mJ μ b := by funext j; simp [mJ, uN, e']
    have hR : mR (uN μ k n) b = mR μ b := by funext j; simp [mR, uN, e']
    rw [hS] at hb2
    obtain ⟨g1, g2, g3⟩ := p3 b hb1 hb2
    have ce : cE cA base ro (uN μ k n) b = cE cA base ro μ b := by
      have : fV base ro (uN μ k n) b = fV base ro μ b := by funext c j; simp only [fV, hI, hR]
      simp only [cE, hS, hI, hJ, hR, this]
    refine ⟨by rw [eX]; omega, ?_, fun z j => ?_⟩
    · rw [ce]
      exact g2.kept (ho _ g2.lt)
    · rw [hS] at z; rw [hI]; exact g3 z j
theorem Pic.skip {x : Nat} (hP : Pic D cA base ro μ H) (hx : H1.size + 1000 = base + x) (hle : mX μ ≤ x) (ho : ∀ q, q < H.size → H1[q]? = H[q]?) : Pic D cA base ro (uX μ x) H1 := by
  obtain ⟨p1, p2, p3⟩ := hP
  refine ⟨hx, Nat.le_trans p2 hle, fun b hb1 hb2 => ?_⟩
  obtain ⟨g1, g2, g3⟩ := p3 b hb1 hb2
  exact ⟨Nat.lt_of_lt_of_le g1 hle, g2.kept (ho _ g2.lt), g3⟩
end PicRows
