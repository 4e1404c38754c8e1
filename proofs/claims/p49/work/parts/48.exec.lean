/-! executing: the room's script, faults -/
theorem bI_ti {p : Prop} (h : p) (i : Decidable p) : @bI p i = nI 1 := if_pos h
theorem bI_fi {p : Prop} (h : ¬ p) (i : Decidable p) : @bI p i = nI 0 := if_neg h
theorem leT {a b : Nat} (h : a ≤ b) : (a ≤ b) = True := eq_true h
def EqL (f g : Nat → Int32) : Prop := ∀ k, k < 16 → f k = g k
theorem EqL.chg {f g : Nat → Int32} {σ c : Nat} {o : Int32} (h : EqL f g) (hc : okC σ c o) : EqL (fChg σ c o f) (fChg σ c o g) := by
  obtain ⟨c1, c2, c3⟩ := hc
  intro k hk
  rcases (by omega : σ = 0 ∨ σ = 1 ∨ σ = 2 ∨ σ = 3 ∨ σ = 4 ∨ σ = 5) with rfl | rfl | rfl | rfl | rfl | rfl
  · show upd f c o k = upd g c o k
    unfold upd
    rw [h k hk]
  · show upd f c _ k = upd g c _ k
    unfold upd
    rw [h k hk, h c c2]
  all_goals (obtain ⟨j, hj, rfl⟩ := c3 (by omega))
  · show upd f c _ k = upd g c _ k
    unfold upd
    rw [h k hk, nI_clamp (by omega), h j hj]
  · show upd f c _ k = upd g c _ k
    unfold upd
    rw [h k hk, nI_clamp (by omega), h j hj, h c c2]
  · show upd (upd f c _) _ _ k = upd (upd g c _) _ _ k
    unfold upd
    rw [h k hk, nI_clamp (by omega), h j hj, h c c2]
  · show upd f c _ k = upd g c _ k
    unfold upd
    rw [h k hk, nI_clamp (by omega), h j hj, h c c2]
theorem EqL.turn {f g : Nat → Int32} {cmd : Nat → Nat → Int32} {z : Nat} (h : EqL f g) (hk : okCmd cmd z) : ∀ k, k ≤ z → EqL (fTurn cmd f k) (fTurn cmd g k)
  | 0, _ => h
  | k + 1, h1 => by
    obtain ⟨σ, c, g1, g2, g3⟩ := hk k (by omega)
    have ih := EqL.turn h hk k (by omega)
    show EqL (fChg (cmd k 1).toNatClampNeg (cmd k 2).toNatClampNeg (cmd k 3) (fTurn cmd f k)) (fChg (cmd k 1).toNatClampNeg (cmd k 2).toNatClampNeg (cmd k 3) (fTurn cmd g k))
    obtain ⟨c1, c2, c3⟩ := g3
    rw [g1, g2, nI_clamp (by omega), nI_clamp (by omega)]
    exact ih.chg ⟨c1, c2, c3⟩
def nZ (r : Nat → Int32) (t : Nat) : Nat := (r (388 + 33 * t)).toNatClampNeg
/-- a turn's commands -/
def fT (r : Nat → Int32) (t : Nat) (f : Nat → Int32) : Nat → Int32 := fTurn (mCmd r t) f (nZ r t)
def fTru (r : Nat → Int32) (st : Nat → Int32) : Nat → (Nat → Int32)
  | 0 => st
  | t + 1 => fT r t (fTru r st t)
def fErr (nums : Nat → Int32) (m t : Int32) : Nat → (Nat → Int32) → (Nat → Int32)
  | 0, g => g
  | k + 1, g => if nums (4 * k) = m ∧ nums (4 * k + 1) = t then upd (fErr nums m t k g) (nums (4 * k + 2)).toNatClampNeg (rem4 (fErr nums m t k g (nums (4 * k + 2)).toNatClampNeg + nums (4 * k + 3))) else fErr nums m t k g
def flt (r : Nat → Int32) (k : Nat) : Int32 := r (1742 + k)
def fSee (r : Nat → Int32) (m : Nat) (st : Nat → Int32) (b : Nat) : Nat → (Nat → Int32)
  | 0 => st
  | k + 1 => fErr (flt r) (nI m) (nI (b + k)) (nF r) (fT r (b + k) (fSee r m st b k))
def fHit (cmd : Nat → Nat → Int32) (cell : Int32) : Nat → Bool
  | 0 => false
  | k + 1 => fHit cmd cell k || (decide (cmd k 2 = cell) || (decide (cmd k 1 = nI 4) && decide (cmd k 3 = cell)))
theorem fHit_up {cmd : Nat → Nat → Int32} {cell : Int32} {k : Nat} (h : fHit cmd cell k = true) : ∀ n, fHit cmd cell (k + n) = true
  | 0 => h
  | n + 1 => by
    show (fHit cmd cell (k + n) || _) = true
    rw [fHit_up h n, Bool.true_or]
def fLW (r : Nat → Int32) (cell : Int32) : Nat → Option Nat
  | 0 => none
  | t + 1 => if fHit (mCmd r t) cell (nZ r t) = true then some t else fLW r cell t
theorem EqL.err {f g nums : Nat → Int32} {m t : Int32} {n : Nat} (h : EqL f g) (hc : ∀ k, k < n → (nums (4 * k + 2)).toNatClampNeg < 16) : ∀ k, k ≤ n → EqL (fErr nums m t k f) (fErr nums m t k g)
  | 0, _ => h
  | k + 1, h1 => by
    have ih := EqL.err (m := m) (t := t) h hc k (by omega)
    intro j hj
    rw [fErr, fErr]
    split
    · unfold upd
      rw [ih j hj, ih _ (hc k (by omega))]
    · exact ih j hj
theorem okP_z {r : Nat → Int32} (h : okP r) {t : Nat} (ht : t < nT r) : r (388 + 33 * t) = nI (nZ r t) ∧ nZ r t ≤ 8 ∧ okCmd (mCmd r t) (nZ r t) := by
  obtain ⟨z, hz, e, hk⟩ := h.1 t ht
  have : nZ r t = z := by unfold nZ; rw [e, nI_clamp (by omega)]
  rw [this]
  exact ⟨e, hz, hk⟩
theorem EqL.tru {r : Nat → Int32} {f g : Nat → Int32} (h : EqL f g) (hP : okP r) : ∀ t, t ≤ nT r → EqL (fTru r f t) (fTru r g t)
  | 0, _ => h
  | t + 1, ht => (EqL.tru h hP t (by omega)).turn (okP_z hP (by omega)).2.2 _ (Nat.le_refl _)
theorem okF_c {r : Nat → Int32} (h : okF r) : ∀ k, k < nF r → (flt r (4 * k + 2)).toNatClampNeg < 16 := by
  intro k hk
  obtain ⟨-, -, ⟨c, hc, e⟩, -⟩ := h k hk
  show (r (1742 + (4 * k + 2))).toNatClampNeg < 16
  rw [← Nat.add_assoc, e, nI_clamp (by omega)]
  exact hc
theorem EqL.see {r : Nat → Int32} {f g : Nat → Int32} {m b : Nat} (h : EqL f g) (hP : okP r) (hF : okF r) : ∀ k, b + k ≤ nT r → EqL (fSee r m f b k) (fSee r m g b k)
  | 0, _ => h
  | k + 1, hk => by
    have h1 := EqL.see (m := m) (b := b) h hP hF k (by omega)
    have h2 := h1.turn (okP_z hP (show b + k < nT r by omega)).2.2 _ (Nat.le_refl _)
    exact EqL.err h2 (okF_c hF) _ (Nat.le_refl _)
theorem fil_EqL (f g : Nat → Int32) : EqL (fil f g 16) f := fun k hk => if_pos hk
theorem cpy_fil (f g : Nat → Int32) (n : Nat) : va_cpy f g 0 0 n = fil f g n := by
  funext k
  unfold va_cpy fil
  by_cases h : k < n
  · rw [if_pos (by omega), if_pos h]; congr 1; omega
  · rw [if_neg (by omega), if_neg h]
/-- the script is not touched -/
theorem RelC.au {μ : Mu} {c a : Nat} {r f : Nat → Int32} (h : RelC μ c r) (h2 : c + 2 ≠ a) (h3 : c + 3 ≠ a) (h4 : c + 4 ≠ a) : RelC (uA μ a f) c r := by
  unfold RelC
  simp only [mI_An h2, mI_An h3, mI_An h4]
  exact h
theorem ScS_uA {μ : Mu} {c a : Nat} {f : Nat → Int32} (h : ScS μ c) : ScS (uA μ a f) c := h
section ExecC
variable {d : Nat} {Q : Po} {μ : Mu} {s c m n q i j k t z a b w : Nat} {x y g tt : Int32} {r : Nat → Int32} {l4 l5 : Option Value}
theorem c_67 (hS : ScS μ c) (hC : RelC μ c r) (hO : okR r) (ht : t < nT r) (hk : k < nZ r t) (hw : w < 4) : Ev (d + 1) 67 [.ref c, .int (nI t), .int (nI k), .int (nI w)] μ Q = Q (some (some (.int (mCmd r t k w)))) μ := by
  obtain ⟨o2, o6, o387, oT, o1708, oO, o1741, oF, o1, oq1, oq6, o0, ol1, ol40, oV, oN1, oP1, oF1⟩ := hO
  obtain ⟨r0, r1, r2, r3, r4, r5, r6, r7, r8, r9⟩ := hS
  obtain ⟨z1, z2, z3⟩ := okP_z oP1 ht
  obtain ⟨j, hj, e1, e2⟩ := (hC.1 t ht).2 k hk
  have e3 := e2 w hw
  have e4 : t * 8 + k = 8 * t + k := by omega
  rw [in_67]
  simp (disch := first | omega | rfl) only [e_67_0, e_67_1, e_67_4, e_67_5, e_67_8, e_67_9, e_67_11, e_67_12, e_67_13, e_67_14, e_67_15, e_67_16, e_67_17, e_67_18, r1, r2, r3, r4, r5, r6, r7, r8, r9, ge1, ule_t, true_or, or_true, nI_add, nI_mul, nI_sub, nI_clamp, nI_lt_t, nI_lt_f, nI_le_t, nI_le_f, nI_eq_t, nI_eq_f, vp_nI, tI, fI, not_true, not_false_iff, true_and, and_true, Classical.not_not, mS_uI, mS_uA, mS_uJ, mS_uR, mS_uX, mR_uI, mR_uA, mR_uJ, mR_uX, mX_uI, mX_uA, mX_uJ, mX_uR, mI_s, mI_n, mI_A, mI_An, mI_uJ, mI_uR, mI_uX, mJ_uI, mJ_uA, mJ_uR, mJ_uX, onR_s, kC_v, kC_n, kC_t, e1, e3, e4, mCmd]
theorem l_68 (hS : ScS μ c) (hC : RelC μ c r) (hO : okR r) (ht : t < nT r) (ha : mS μ a = (20, 16)) (ha1 : 1000 ≤ a) (hca : c + 4 < a ∨ a < c) : ∀ n k, k + n = nZ r t → EM 68 (d + 2) 2 [some (.ref c), some (.int (nI t)), some (.ref a), some (.int (nI k))] [] (uA μ a (fTurn (mCmd r t) (mI μ a) k)) (0, 0) Q = Q (some none) (uA μ a (fT r t (mI μ a))) := by
  have hS0 := hS
  have hO0 := hO
  obtain ⟨o2, o6, o387, oT, o1708, oO, o1741, oF, o1, oq1, oq6, o0, ol1, ol40, oV, oN1, oP1, oF1⟩ := hO
  obtain ⟨r0, r1, r2, r3, r4, r5, r6, r7, r8, r9⟩ := hS
  obtain ⟨z1, z2, z3⟩ := okP_z oP1 ht
  have hsz : mI μ (c + 2) t = nI (nZ r t) := ((hC.1 t ht).1).trans z1
  intro n
  induction n with
  | zero =>
    intro k hk
    obtain rfl : k = nZ r t := by omega
    rw [e_68_2]
    simp (disch := first | omega | rfl) only [e_68_0, e_68_1, e_68_3, e_68_4, e_68_7, e_68_8, e_68_9, e_68_12, e_68_13, e_68_14, e_68_15, e_68_16, e_68_17, e_68_20, e_68_21, e_68_22, e_68_23, e_68_24, e_68_27, e_68_28, e_68_29, e_68_30, e_68_31, e_68_34, e_68_37, e_68_40, e_68_43, r1, r2, r3, r4, r5, r6, r7, r8, r9, ge1, ule_t, true_or, or_true, nI_add, nI_mul, nI_sub, nI_clamp, nI_lt_t, nI_lt_f, nI_le_t, nI_le_f, nI_eq_t, nI_eq_f, vp_nI, tI, fI, not_true, not_false_iff, true_and, and_true, Classical.not_not, mS_uI, mS_uA, mS_uJ, mS_uR, mS_uX, mR_uI, mR_uA, mR_uJ, mR_uX, mX_uI, mX_uA, mX_uJ, mX_uR, mI_s, mI_n, mI_A, mI_An, mI_uJ, mI_uR, mI_uX, mJ_uI, mJ_uA, mJ_uR, mJ_uX, onR_s, kC_v, kC_n, kC_t, mI_Anf, hsz, fT]
  | succ n ih =>
    intro k hk
    rw [e_68_2]
    have hC2 := hC.au (a := a) (f := fTurn (mCmd r t) (mI μ a) k) (by omega) (by omega) (by omega)
    have h67 := fun (d : Nat) (Q : Po) (w : Nat) (hw : w < 4) => c_67 (d := d) (Q := Q) (ScS_uA (a := a) (f := fTurn (mCmd r t) (mI μ a) k) hS0) hC2 hO0 ht (show k < nZ r t by omega) hw
    obtain ⟨σ, i, g1, g2, g3⟩ := z3 k (by omega)
    have h69 := fun (d : Nat) (Q : Po) => s_69 (d := d) (Q := Q) (μ := uA μ a (fTurn (mCmd r t) (mI μ a) k)) (a := a) ha ha1 g3
    simp (disch := first | omega | rfl) only [e_68_0, e_68_1, e_68_3, e_68_4, e_68_7, e_68_8, e_68_9, e_68_12, e_68_13, e_68_14, e_68_15, e_68_16, e_68_17, e_68_20, e_68_21, e_68_22, e_68_23, e_68_24, e_68_27, e_68_28, e_68_29, e_68_30, e_68_31, e_68_34, e_68_37, e_68_40, e_68_43, r1, r2, r3, r4, r5, r6, r7, r8, r9, ge1, ule_t, true_or, or_true, nI_add, nI_mul, nI_sub, nI_clamp, nI_lt_t, nI_lt_f, nI_le_t, nI_le_f, nI_eq_t, nI_eq_f, vp_nI, tI, fI, not_true, not_false_iff, true_and, and_true, Classical.not_not, mS_uI, mS_uA, mS_uJ, mS_uR, mS_uX, mR_uI, mR_uA, mR_uJ, mR_uX, mX_uI, mX_uA, mX_uJ, mX_uR, mI_s, mI_n, mI_A, mI_An, mI_uJ, mI_uR, mI_uX, mJ_uI, mJ_uA, mJ_uR, mJ_uX, onR_s, kC_v, kC_n, kC_t, mI_Anf, hsz, h67, g1, g2, h69, mI_Af, uA_A]
    have hi := ih (k + 1) (by omega)
    rw [fTurn, g1, g2, nI_clamp (by have := g3.1; omega), nI_clamp (by have := g3.2.1; omega)] at hi
    exact hi
theorem c_68 (hS : ScS μ c) (hC : RelC μ c r) (hO : okR r) (ht : t < nT r) (ha : mS μ a = (20, 16)) (ha1 : 1000 ≤ a) (hca : c + 4 < a ∨ a < c) : Ev (d + 3) 68 [.ref c, .int (nI t), .ref a] μ Q = Q (some none) (uA μ a (fT r t (mI μ a))) := by
  rw [in_68]
  simp (disch := first | omega | rfl) only [e_68_0, e_68_1, e_68_3, e_68_4, e_68_7, e_68_8, e_68_9, e_68_12, e_68_13, e_68_14, e_68_15, e_68_16, e_68_17, e_68_20, e_68_21, e_68_22, e_68_23, e_68_24, e_68_27, e_68_28, e_68_29, e_68_30, e_68_31, e_68_34, e_68_37, e_68_40, e_68_43, ge1, ule_t, true_or, or_true, nI_add, nI_mul, nI_sub, nI_clamp, nI_lt_t, nI_lt_f, nI_le_t, nI_le_f, nI_eq_t, nI_eq_f, vp_nI, tI, fI, not_true, not_false_iff, true_and, and_true, Classical.not_not]
  have := l_68 (d := d) (Q := Q) hS hC hO ht ha ha1 hca (nZ r t) 0 (by omega)
  rw [show fTurn (mCmd r t) (mI μ a) 0 = mI μ a from rfl, uA_self] at this
  exact this
/-- faults -/
def FaS (μ : Mu) (s : Nat) : Prop := 1000 ≤ s ∧ mS μ (s + 3) = (5, 2) ∧ mR μ (s + 3) 0 = some (s + 4) ∧ mS μ (s + 4) = (20, 40)
theorem StS.fa (h : StS μ s) : FaS μ s := by
  obtain ⟨q0, q1, q2, q3, q4, q5, q6, q7, q8, q9, q10, q11, q12, q13, q14, q15⟩ := h
  exact ⟨q0, q7, q8, q9⟩
theorem eq_ge {x y : Int32} : (y ≤ x ∧ x ≤ y) = (x = y) := by
  apply propext
  constructor
  · intro h; exact Int32.le_antisymm h.2 h.1
  · rintro rfl; exact ⟨Int32.le_refl _, Int32.le_refl _⟩
theorem s_36 (hS : FaS μ s) (hk : k < 10) : Ev (d + 2) 36 [.ref (s + 3), .int (nI k), .int x, .int y, .int g] μ Q = Q (some (some (.int (bI (mI μ (s + 4) (4 * k) = x ∧ y ≤ mI μ (s + 4) (4 * k + 1) ∧ mI μ (s + 4) (4 * k + 1) ≤ g))))) μ := by
  obtain ⟨f1, f2, f3, f4⟩ := hS
  have e7 : k * 4 = 4 * k := by omega
  rw [in_36]
  by_cases h1 : mI μ (s + 4) (4 * k) = x
  · by_cases h2 : y ≤ mI μ (s + 4) (4 * k + 1) ∧ mI μ (s + 4) (4 * k + 1) ≤ g
    · rw [bI_t ⟨h1, h2⟩]
      simp (disch := first | omega | rfl) only [e_36_0, e_36_1, e_36_4, e_36_5, e_36_6, e_36_7, e_36_8, e_36_9, e_36_12, e_36_13, e_36_16, e_36_17, e_36_18, e_36_19, e_36_20, e_36_21, e_36_22, e_36_23, e_36_25, e_36_28, e_36_31, e_36_32, e_36_35, e_36_36, ge1, ule_t, true_or, or_true, nI_add, nI_mul, nI_sub, nI_clamp, nI_lt_t, nI_lt_f, nI_le_t, nI_le_f, nI_eq_t, nI_eq_f, vp_nI, tI, fI, not_true, not_false_iff, true_and, and_true, Classical.not_not, mS_uI, mS_uA, mS_uJ, mS_uR, mS_uX, mR_uI, mR_uA, mR_uJ, mR_uX, mX_uI, mX_uA, mX_uJ, mX_uR, mI_s, mI_n, mI_A, mI_An, mI_uJ, mI_uR, mI_uX, mJ_uI, mJ_uA, mJ_uR, mJ_uX, onR_s, kC_v, kC_n, kC_t, f2, f3, f4, e7, h1, s_155, bI_t h2]
    · rw [bI_f (fun z => h2 z.2)]
      simp (disch := first | omega | rfl) only [e_36_0, e_36_1, e_36_4, e_36_5, e_36_6, e_36_7, e_36_8, e_36_9, e_36_12, e_36_13, e_36_16, e_36_17, e_36_18, e_36_19, e_36_20, e_36_21, e_36_22, e_36_23, e_36_25, e_36_28, e_36_31, e_36_32, e_36_35, e_36_36, ge1, ule_t, true_or, or_true, nI_add, nI_mul, nI_sub, nI_clamp, nI_lt_t, nI_lt_f, nI_le_t, nI_le_f, nI_eq_t, nI_eq_f, vp_nI, tI, fI, not_true, not_false_iff, true_and, and_true, Classical.not_not, mS_uI, mS_uA, mS_uJ, mS_uR, mS_uX, mR_uI, mR_uA, mR_uJ, mR_uX, mX_uI, mX_uA, mX_uJ, mX_uR, mI_s, mI_n, mI_A, mI_An, mI_uJ, mI_uR, mI_uX, mJ_uI, mJ_uA, mJ_uR, mJ_uX, onR_s, kC_v, kC_n, kC_t, f2, f3, f4, e7, h1, s_155, bI_f h2]
  · rw [bI_f (fun z => h1 z.1)]
    simp (disch := first | omega | rfl) only [e_36_0, e_36_1, e_36_4, e_36_5, e_36_6, e_36_7, e_36_8, e_36_9, e_36_12, e_36_13, e_36_16, e_36_17, e_36_18, e_36_19, e_36_20, e_36_21, e_36_22, e_36_23, e_36_25, e_36_28, e_36_31, e_36_32, e_36_35, e_36_36, ge1, ule_t, true_or, or_true, nI_add, nI_mul, nI_sub, nI_clamp, nI_lt_t, nI_lt_f, nI_le_t, nI_le_f, nI_eq_t, nI_eq_f, vp_nI, tI, fI, not_true, not_false_iff, true_and, and_true, Classical.not_not, mS_uI, mS_uA, mS_uJ, mS_uR, mS_uX, mR_uI, mR_uA, mR_uJ, mR_uX, mX_uI, mX_uA, mX_uJ, mX_uR, mI_s, mI_n, mI_A, mI_An, mI_uJ, mI_uR, mI_uX, mJ_uI, mJ_uA, mJ_uR, mJ_uX, onR_s, kC_v, kC_n, kC_t, f2, f3, f4, e7, h1]
theorem l_37 (hS : FaS μ s) (hn : mI μ (s + 3) 1 = nI n) (hn10 : n ≤ 10) (hc : ∀ k, k < n → (mI μ (s + 4) (4 * k + 2)).toNatClampNeg < 16 ∧ mI μ (s + 4) (4 * k + 2) = nI (mI μ (s + 4) (4 * k + 2)).toNatClampNeg) (ha : mS μ a = (20, 16)) (ha1 : 1000 ≤ a) (hne : s + 3 ≠ a) (hne2 : s + 4 ≠ a) : ∀ f k l5, k + f = n → EM 37 (d + 2) 3 [some (.ref (s + 3)), some (.ref a), some (.int x), some (.int y), some (.int (nI k)), l5] [] (uA μ a (fErr (mI μ (s + 4)) x y k (mI μ a))) (0, 0) Q = Q (some none) (uA μ a (fErr (mI μ (s + 4)) x y n (mI μ a))) := by
  have hS0 := hS
  obtain ⟨f1, f2, f3, f4⟩ := hS
  intro f
  induction f with
  | zero =>
    intro k l5 hk
    obtain rfl : k = n := by omega
    rw [e_37_3]
    simp (disch := first | omega | rfl) only [e_37_0, e_37_1, e_37_5, e_37_6, e_37_9, e_37_12, e_37_13, e_37_15, e_37_16, e_37_17, e_37_18, e_37_21, e_37_24, e_37_25, e_37_28, e_37_30, e_37_31, e_37_32, e_37_33, e_37_34, e_37_35, e_37_37, e_37_38, e_37_40, e_37_41, e_37_43, e_37_44, e_37_45, e_37_48, e_37_50, e_37_51, e_37_52, e_37_53, e_37_54, e_37_55, e_37_56, e_37_59, e_37_60, e_37_61, e_37_64, e_37_67, ge1, ule_t, true_or, or_true, nI_add, nI_mul, nI_sub, nI_clamp, nI_lt_t, nI_lt_f, nI_le_t, nI_le_f, nI_eq_t, nI_eq_f, vp_nI, tI, fI, not_true, not_false_iff, true_and, and_true, Classical.not_not, mS_uI, mS_uA, mS_uJ, mS_uR, mS_uX, mR_uI, mR_uA, mR_uJ, mR_uX, mX_uI, mX_uA, mX_uJ, mX_uR, mI_s, mI_n, mI_A, mI_An, mI_uJ, mI_uR, mI_uX, mJ_uI, mJ_uA, mJ_uR, mJ_uX, onR_s, kC_v, kC_n, kC_t, f2, f3, f4, hn]
  | succ f ih =>
    intro k l5 hk
    rw [e_37_3]
    have h36 := fun (d : Nat) (Q : Po) => s_36 (d := d) (Q := Q) (μ := uA μ a (fErr (mI μ (s + 4)) x y k (mI μ a))) (s := s) (x := x) (y := y) (g := y) hS0 (show k < 10 by omega)
    simp only [mI_An hne2] at h36
    have hi := fun l5 => ih (k + 1) l5 (by omega)
    have e7 : k * 4 = 4 * k := by omega
    obtain ⟨c1, c2⟩ := hc k (by omega)
    by_cases hh : mI μ (s + 4) (4 * k) = x ∧ mI μ (s + 4) (4 * k + 1) = y
    · have hh' : mI μ (s + 4) (4 * k) = x ∧ y ≤ mI μ (s + 4) (4 * k + 1) ∧ mI μ (s + 4) (4 * k + 1) ≤ y := ⟨hh.1, Eq.mpr eq_ge hh.2⟩
      simp only [bI_ti hh'] at h36
      simp only [fErr, if_pos hh] at hi
      generalize hcl : (mI μ (s + 4) (4 * k + 2)).toNatClampNeg = cl at *
      simp (disch := first | omega | rfl) only [e_37_0, e_37_1, e_37_5, e_37_6, e_37_9, e_37_12, e_37_13, e_37_15, e_37_16, e_37_17, e_37_18, e_37_21, e_37_24, e_37_25, e_37_28, e_37_30, e_37_31, e_37_32, e_37_33, e_37_34, e_37_35, e_37_37, e_37_38, e_37_40, e_37_41, e_37_43, e_37_44, e_37_45, e_37_48, e_37_50, e_37_51, e_37_52, e_37_53, e_37_54, e_37_55, e_37_56, e_37_59, e_37_60, e_37_61, e_37_64, e_37_67, ge1, ule_t, true_or, or_true, nI_add, nI_mul, nI_sub, nI_clamp, nI_lt_t, nI_lt_f, nI_le_t, nI_le_f, nI_eq_t, nI_eq_f, vp_nI, tI, fI, not_true, not_false_iff, true_and, and_true, Classical.not_not, mS_uI, mS_uA, mS_uJ, mS_uR, mS_uX, mR_uI, mR_uA, mR_uJ, mR_uX, mX_uI, mX_uA, mX_uJ, mX_uR, mI_s, mI_n, mI_A, mI_An, mI_uJ, mI_uR, mI_uX, mJ_uI, mJ_uA, mJ_uR, mJ_uX, onR_s, kC_v, kC_n, kC_t, f2, f3, f4, hn, h36, ha, e7, c2, uI_A, uA_A, mI_Af]
      exact hi _
    · have hh' : ¬ (mI μ (s + 4) (4 * k) = x ∧ y ≤ mI μ (s + 4) (4 * k + 1) ∧ mI μ (s + 4) (4 * k + 1) ≤ y) := fun z => hh ⟨z.1, Eq.mp eq_ge z.2⟩
      simp only [bI_fi hh'] at h36
      simp only [fErr, if_neg hh] at hi
      simp (disch := first | omega | rfl) only [e_37_0, e_37_1, e_37_5, e_37_6, e_37_9, e_37_12, e_37_13, e_37_15, e_37_16, e_37_17, e_37_18, e_37_21, e_37_24, e_37_25, e_37_28, e_37_30, e_37_31, e_37_32, e_37_33, e_37_34, e_37_35, e_37_37, e_37_38, e_37_40, e_37_41, e_37_43, e_37_44, e_37_45, e_37_48, e_37_50, e_37_51, e_37_52, e_37_53, e_37_54, e_37_55, e_37_56, e_37_59, e_37_60, e_37_61, e_37_64, e_37_67, ge1, ule_t, true_or, or_true, nI_add, nI_mul, nI_sub, nI_clamp, nI_lt_t, nI_lt_f, nI_le_t, nI_le_f, nI_eq_t, nI_eq_f, vp_nI, tI, fI, not_true, not_false_iff, true_and, and_true, Classical.not_not, mS_uI, mS_uA, mS_uJ, mS_uR, mS_uX, mR_uI, mR_uA, mR_uJ, mR_uX, mX_uI, mX_uA, mX_uJ, mX_uR, mI_s, mI_n, mI_A, mI_An, mI_uJ, mI_uR, mI_uX, mJ_uI, mJ_uA, mJ_uR, mJ_uX, onR_s, kC_v, kC_n, kC_t, f2, f3, f4, hn, h36]
      exact hi _
theorem s_37 (hS : FaS μ s) (hn : mI μ (s + 3) 1 = nI n) (hn10 : n ≤ 10) (hc : ∀ k, k < n → (mI μ (s + 4) (4 * k + 2)).toNatClampNeg < 16 ∧ mI μ (s + 4) (4 * k + 2) = nI (mI μ (s + 4) (4 * k + 2)).toNatClampNeg) (ha : mS μ a = (20, 16)) (ha1 : 1000 ≤ a) (hne : s + 3 ≠ a) (hne2 : s + 4 ≠ a) : Ev (d + 3) 37 [.ref (s + 3), .ref a, .int x, .int y] μ Q = Q (some none) (uA μ a (fErr (mI μ (s + 4)) x y n (mI μ a))) := by
  rw [in_37]
  simp (disch := first | omega | rfl) only [e_37_0, e_37_1, e_37_5, e_37_6, e_37_9, e_37_12, e_37_13, e_37_15, e_37_16, e_37_17, e_37_18, e_37_21, e_37_24, e_37_25, e_37_28, e_37_30, e_37_31, e_37_32, e_37_33, e_37_34, e_37_35, e_37_37, e_37_38, e_37_40, e_37_41, e_37_43, e_37_44, e_37_45, e_37_48, e_37_50, e_37_51, e_37_52, e_37_53, e_37_54, e_37_55, e_37_56, e_37_59, e_37_60, e_37_61, e_37_64, e_37_67, ge1, ule_t, true_or, or_true, nI_add, nI_mul, nI_sub, nI_clamp, nI_lt_t, nI_lt_f, nI_le_t, nI_le_f, nI_eq_t, nI_eq_f, vp_nI, tI, fI, not_true, not_false_iff, true_and, and_true, Classical.not_not]
  have := l_37 (d := d) (Q := Q) (x := x) (y := y) hS hn hn10 hc ha ha1 hne hne2 n 0 none (by omega)
  rw [show fErr (mI μ (s + 4)) x y 0 (mI μ a) = mI μ a from rfl, uA_self] at this
  exact this
theorem fErr_eq {f g : Nat → Int32} {m t : Int32} {h : Nat → Int32} : ∀ n, (∀ k, k < 4 * n → f k = g k) → fErr f m t n h = fErr g m t n h
  | 0, _ => rfl
  | n + 1, e => by
    have ih := fErr_eq (m := m) (t := t) (h := h) n (fun k hk => e k (by omega))
    rw [fErr, fErr, ih, e (4 * n) (by omega), e (4 * n + 1) (by omega), e (4 * n + 2) (by omega), e (4 * n + 3) (by omega)]
/-- faults of the room -/
theorem c_37 (hW : ShR μ s c) (hB : RelB μ s r) (hO : okR r) (ha : mS μ a = (20, 16)) (ha1 : 1000 ≤ a) (hne : s + 3 ≠ a) (hne2 : s + 4 ≠ a) : Ev (d + 3) 37 [.ref (s + 3), .ref a, .int x, .int y] μ Q = Q (some none) (uA μ a (fErr (flt r) x y (nF r) (mI μ a))) := by
  have hW0 := hW
  obtain ⟨w0, w1, w2, w3, w4, w5, w6, w7, w8, w9, w10, w11, w12, w13, w14, w15⟩ := hW
  have hS0 := w12
  obtain ⟨q0, q1, q2, q3, q4, q5, q6, q7, q8, q9, q10, q11, q12, q13, q14, q15⟩ := w12
  have hB9 := hB
  obtain ⟨b1, b2, b3, b4, b5, b6, b7, b8⟩ := hB
  have hO0 := hO
  obtain ⟨o2, o6, o387, oT, o1708, oO, o1741, oF, o1, oq1, oq6, o0, ol1, ol40, oV, oN1, oP1, oF1⟩ := hO
  have hn : mI μ s 1 = nI (nM r) := b1.trans o2
  have hq9 : mI μ (s + 2) 1 = nI (nQ r) := b6.trans o1
  have hV := b7.ok' oV
  have e0 := s_37 (d := d) (Q := Q) (x := x) (y := y) (n := nF r) hS0.fa (b4.trans o1741) oF (fun k hk => by
    obtain ⟨-, -, ⟨c, hc, e⟩, -⟩ := oF1 k hk
    have e2 := b8 (4 * k + 2) (by omega)
    rw [← Nat.add_assoc] at e2
    rw [e2, e, nI_clamp (by omega)]
    exact ⟨hc, rfl⟩) ha ha1 hne hne2
  rw [e0]
  rw [fErr_eq (g := flt r) (nF r) (fun k hk => b8 k hk)]
end ExecC

/-! executing: what is asked -/
def eqU (f g : Nat → Int32) : Nat → Bool
  | 0 => true
  | n + 1 => eqU f g n && decide (f n = g n)
theorem eqU_dn {f g : Nat → Int32} {k : Nat} (h : eqU f g k = false) : ∀ n, eqU f g (k + n) = false
  | 0 => h
  | n + 1 => by
    show (eqU f g (k + n) && _) = false
    rw [eqU_dn h n, Bool.false_and]
theorem eqU_eq {f g f' g' : Nat → Int32} : ∀ n, (∀ k, k < n → f k = f' k) → (∀ k, k < n → g k = g' k) → eqU f g n = eqU f' g' n
  | 0, _, _ => rfl
  | n + 1, h, h' => by rw [eqU, eqU, eqU_eq n (fun k hk => h k (by omega)) (fun k hk => h' k (by omega)), h n (by omega), h' n (by omega)]
def fIsT (r st : Nat → Int32) (m : Nat) : Bool := eqU (fun c => rW r m (7 + c)) (fTru r st (nE (rW r) m)) 16
theorem fSet_eq {P P' : Nat → Bool} : ∀ n, (∀ m, m < n → P m = P' m) → fSet P n = fSet P' n
  | 0, _ => rfl
  | n + 1, h => by rw [fSet, fSet, fSet_eq n (fun m hm => h m (by omega)), h n (by omega)]
theorem fSet_or (P P' : Nat → Bool) : ∀ n, fSet P n ||| fSet P' n = fSet (fun m => P m || P' m) n
  | 0 => by simp [fSet]
  | n + 1 => by
    have ih := fSet_or P P' n
    have h1 := fSet_lt P n
    have h2 := fSet_lt P' n
    have h3 := fSet_lt (fun m => P m || P' m) n
    have e : ∀ b, b < 2 ^ n → b + 2 ^ n = 2 ^ n ||| b := fun b hb => by
      have := Nat.two_pow_add_eq_or_of_lt hb 1
      rw [Nat.mul_one] at this
      rw [Nat.add_comm]
      exact this
    rw [fSet, fSet, fSet]
    cases P n <;> cases P' n
    · simp only [Bool.or_self, if_neg Bool.false_ne_true, Nat.add_zero]
      exact ih
    · simp only [Bool.or_true, Bool.false_or, if_neg Bool.false_ne_true, if_true, Nat.add_zero]
      rw [e _ h2, e _ h3, ← ih, ← Nat.or_assoc, Nat.or_comm (fSet P n), Nat.or_assoc]
    · simp only [Bool.or_false, Bool.true_or, if_neg Bool.false_ne_true, if_true, Nat.add_zero]
      rw [e _ h1, e _ h3, ← ih, Nat.or_assoc]
    · simp only [Bool.or_self, if_true]
      rw [e _ h1, e _ h2, e _ h3, ← ih, Nat.or_assoc, ← Nat.or_assoc (fSet P n), Nat.or_comm (fSet P n), Nat.or_assoc, ← Nat.or_assoc, Nat.or_self]
section Exec2C
variable {d : Nat} {Q : Po} {μ : Mu} {s c m n q i j k t z a b w : Nat} {x y g tt : Int32} {r st : Nat → Int32} {l4 l5 : Option Value}
theorem c_68a (hS : ScS μ c) (hC : RelC μ c r) (hO : okR r) (ht : t < nT r) (ha : mS μ a = (20, 16)) (ha1 : 1000 ≤ a) (hca : c + 4 < a ∨ a < c) (F : Nat → Int32) : Ev (d + 3) 68 [.ref c, .int (nI t), .ref a] (uA μ a F) Q = Q (some none) (uA μ a (fT r t F)) := by
  have := c_68 (d := d) (Q := Q) (μ := uA μ a F) (ScS_uA hS) (hC.au (by omega) (by omega) (by omega)) hO ht ha ha1 hca
  rw [uA_A, mI_Af] at this
  exact this
theorem c_37a (hF : FaS μ s) (h4 : mI μ (s + 3) 1 = r 1741) (h8 : ∀ k, k < 4 * nF r → mI μ (s + 4) k = r (1742 + k)) (hO : okR r) (ha : mS μ a = (20, 16)) (ha1 : 1000 ≤ a) (hne : s + 3 ≠ a) (hne2 : s + 4 ≠ a) (F : Nat → Int32) : Ev (d + 3) 37 [.ref (s + 3), .ref a, .int x, .int y] (uA μ a F) Q = Q (some none) (uA μ a (fErr (flt r) x y (nF r) F)) := by
  obtain ⟨o2, o6, o387, oT, o1708, oO, o1741, oF, o1, oq1, oq6, o0, ol1, ol40, oV, oN1, oP1, oF1⟩ := hO
  have e0 := s_37 (d := d) (Q := Q) (μ := uA μ a F) (s := s) (a := a) (x := x) (y := y) (n := nF r) hF (by rw [mI_An hne]; exact h4.trans o1741) oF (fun k hk => by
    obtain ⟨-, -, ⟨c, hc, e⟩, -⟩ := oF1 k hk
    have e2 := h8 (4 * k + 2) (by omega)
    rw [← Nat.add_assoc] at e2
    rw [mI_An hne2, e2, e, nI_clamp (by omega)]
    exact ⟨hc, rfl⟩) ha ha1 hne hne2
  rw [mI_Anf hne2, mI_Af, uA_A, fErr_eq (g := flt r) (nF r) (fun k hk => h8 k hk)] at e0
  exact e0
theorem l_134 (hW : ShR μ s c) (hB : RelB μ s r) (hO : okR r) (hC : RelC μ c r) (hi : i < 16) (htT : t ≤ nT r) (F : Nat → Int32) : ∀ n k, k + n = t → EM 134 (d + 3) 41 [some (.ref 1000), some (.int (nI t)), some (.int (nI i)), some (.int (nI k))] [] (uA μ 1067 (fTru r F k)) (uad (0, 0) (1, 6)) Q = Q (some (some (.int (fTru r F t i)))) (uA μ 1067 (fTru r F t)) := by
  have hW0 := hW
  obtain ⟨w0, w1, w2, w3, w4, w5, w6, w7, w8, w9, w10, w11, w12, w13, w14, w15⟩ := hW
  have hS0 := w12
  obtain ⟨q0, q1, q2, q3, q4, q5, q6, q7, q8, q9, q10, q11, q12, q13, q14, q15⟩ := w12
  have hB9 := hB
  obtain ⟨b1, b2, b3, b4, b5, b6, b7, b8⟩ := hB
  have hO0 := hO
  obtain ⟨o2, o6, o387, oT, o1708, oO, o1741, oF, o1, oq1, oq6, o0, ol1, ol40, oV, oN1, oP1, oF1⟩ := hO
  have hn : mI μ s 1 = nI (nM r) := b1.trans o2
  have hq9 : mI μ (s + 2) 1 = nI (nQ r) := b6.trans o1
  have hV := b7.ok' oV
  intro n
  induction n with
  | zero =>
    intro k hk
    obtain rfl : k = t := by omega
    rw [e_134_41]
    simp (disch := first | omega | rfl) only [e_134_0, e_134_1, e_134_4, e_134_5, e_134_6, e_134_7, e_134_10, e_134_13, e_134_16, e_134_19, e_134_20, e_134_21, e_134_22, e_134_25, e_134_28, e_134_29, e_134_30, e_134_33, e_134_34, e_134_36, e_134_39, e_134_40, e_134_42, e_134_43, e_134_46, e_134_47, e_134_50, e_134_51, e_134_52, e_134_55, e_134_58, e_134_61, e_134_64, e_134_65, e_134_68, e_134_69, e_134_70, w0, w1, w2, w3, w4, w5, w6, w7, w8, w9, w10, q1, q2, q3, q4, q5, q6, q7, q8, q9, q10, q11, q12, q13, q14, q15, b1, b2, b3, b4, b5, b6, o2, o387, o1708, o1741, o1, o0, ge1, ule_t, true_or, or_true, nI_add, nI_mul, nI_sub, nI_clamp, nI_lt_t, nI_lt_f, nI_le_t, nI_le_f, nI_eq_t, nI_eq_f, vp_nI, tI, fI, not_true, not_false_iff, true_and, and_true, Classical.not_not, mS_uI, mS_uA, mS_uJ, mS_uR, mS_uX, mR_uI, mR_uA, mR_uJ, mR_uX, mX_uI, mX_uA, mX_uJ, mX_uR, mI_s, mI_n, mI_A, mI_An, mI_uJ, mI_uR, mI_uX, mJ_uI, mJ_uA, mJ_uR, mJ_uX, onR_s, kC_v, kC_n, kC_t, ul0, ula1, ula2, ula3, ula4, ulb2, ulb3, ulb4, ulc2, ulc3, ulc4, ule4, ulf3, ulf4]
  | succ n ih =>
    intro k hk
    rw [e_134_41]
    simp (disch := first | omega | rfl) only [e_134_0, e_134_1, e_134_4, e_134_5, e_134_6, e_134_7, e_134_10, e_134_13, e_134_16, e_134_19, e_134_20, e_134_21, e_134_22, e_134_25, e_134_28, e_134_29, e_134_30, e_134_33, e_134_34, e_134_36, e_134_39, e_134_40, e_134_42, e_134_43, e_134_46, e_134_47, e_134_50, e_134_51, e_134_52, e_134_55, e_134_58, e_134_61, e_134_64, e_134_65, e_134_68, e_134_69, e_134_70, w0, w1, w2, w3, w4, w5, w6, w7, w8, w9, w10, q1, q2, q3, q4, q5, q6, q7, q8, q9, q10, q11, q12, q13, q14, q15, b1, b2, b3, b4, b5, b6, o2, o387, o1708, o1741, o1, o0, ge1, ule_t, true_or, or_true, nI_add, nI_mul, nI_sub, nI_clamp, nI_lt_t, nI_lt_f, nI_le_t, nI_le_f, nI_eq_t, nI_eq_f, vp_nI, tI, fI, not_true, not_false_iff, true_and, and_true, Classical.not_not, mS_uI, mS_uA, mS_uJ, mS_uR, mS_uX, mR_uI, mR_uA, mR_uJ, mR_uX, mX_uI, mX_uA, mX_uJ, mX_uR, mI_s, mI_n, mI_A, mI_An, mI_uJ, mI_uR, mI_uX, mJ_uI, mJ_uA, mJ_uR, mJ_uX, onR_s, kC_v, kC_n, kC_t, ul0, ula1, ula2, ula3, ula4, ulb2, ulb3, ulb4, ulc2, ulc3, ulc4, ule4, ulf3, ulf4, w13.2.1, c_68a w13 hC hO0 (show k < nT r by omega) w8 (by omega) (by omega)]
    exact ih (k + 1) (by omega)
theorem c_134 (hW : ShR μ s c) (hB : RelB μ s r) (hO : okR r) (hC : RelC μ c r) (hi : i < 16) (htT : t ≤ nT r) (hst : EqL (mI μ (c + 1)) st) : Ev (d + 4) 134 [.ref 1000, .int (nI t), .int (nI i)] μ Q = Q (some (some (.int (fTru r st t i)))) (uA μ 1067 (fTru r (fil (mI μ (c + 1)) (mI μ 1067) 16) t)) := by
  have hP := hO.2.2.2.2.2.2.2.2.2.2.2.2.2.2.2.2.1
  have e9 := EqL.tru (fil_EqL (mI μ (c + 1)) (mI μ 1067)) hP t htT i hi
  have e8 := EqL.tru hst hP t htT i hi
  have hW0 := hW
  obtain ⟨w0, w1, w2, w3, w4, w5, w6, w7, w8, w9, w10, w11, w12, w13, w14, w15⟩ := hW
  have hS0 := w12
  obtain ⟨q0, q1, q2, q3, q4, q5, q6, q7, q8, q9, q10, q11, q12, q13, q14, q15⟩ := w12
  have hB9 := hB
  obtain ⟨b1, b2, b3, b4, b5, b6, b7, b8⟩ := hB
  have hO0 := hO
  obtain ⟨o2, o6, o387, oT, o1708, oO, o1741, oF, o1, oq1, oq6, o0, ol1, ol40, oV, oN1, oP1, oF1⟩ := hO
  have hn : mI μ s 1 = nI (nM r) := b1.trans o2
  have hq9 : mI μ (s + 2) 1 = nI (nQ r) := b6.trans o1
  have hV := b7.ok' oV
  have hS9 := w13
  obtain ⟨r0, r1, r2, r3, r4, r5, r6, r7, r8, r9⟩ := w13
  rw [in_134]
  simp (disch := first | omega | rfl) only [e_134_0, e_134_1, e_134_4, e_134_5, e_134_6, e_134_7, e_134_10, e_134_13, e_134_16, e_134_19, e_134_20, e_134_21, e_134_22, e_134_25, e_134_28, e_134_29, e_134_30, e_134_33, e_134_34, e_134_36, e_134_39, e_134_40, e_134_42, e_134_43, e_134_46, e_134_47, e_134_50, e_134_51, e_134_52, e_134_55, e_134_58, e_134_61, e_134_64, e_134_65, e_134_68, e_134_69, e_134_70, w0, w1, w2, w3, w4, w5, w6, w7, w8, w9, w10, q1, q2, q3, q4, q5, q6, q7, q8, q9, q10, q11, q12, q13, q14, q15, b1, b2, b3, b4, b5, b6, o2, o387, o1708, o1741, o1, o0, ge1, ule_t, true_or, or_true, nI_add, nI_mul, nI_sub, nI_clamp, nI_lt_t, nI_lt_f, nI_le_t, nI_le_f, nI_eq_t, nI_eq_f, vp_nI, tI, fI, not_true, not_false_iff, true_and, and_true, Classical.not_not, mS_uI, mS_uA, mS_uJ, mS_uR, mS_uX, mR_uI, mR_uA, mR_uJ, mR_uX, mX_uI, mX_uA, mX_uJ, mX_uR, mI_s, mI_n, mI_A, mI_An, mI_uJ, mI_uR, mI_uX, mJ_uI, mJ_uA, mJ_uR, mJ_uX, onR_s, kC_v, kC_n, kC_t, ul0, ula1, ula2, ula3, ula4, ulb2, ulb3, ulb4, ulc2, ulc3, ulc4, ule4, ulf3, ulf4, r1, r2, r3, r4, r5, r6, r7, r8, r9, c_152t hi, s_155, good_ik htT (show nT r < 2147483648 by omega), bI_T, leT, cpy_fil]
  have := l_134 (d := d) (Q := Q) hW0 hB9 hO0 hC hi htT (fil (mI μ (c + 1)) (mI μ 1067) 16) t 0 (by omega)
  rw [e9, e8] at this
  exact this
theorem c_134n (hW : ShR μ s c) (hB : RelB μ s r) (hO : okR r) (hi : i < 16) (hx : bad x (nT r + 1)) : Ev (d + 4) 134 [.ref 1000, .int x, .int (nI i)] μ Q = Q (some (some (.int (-1)))) μ := by
  have hW0 := hW
  obtain ⟨w0, w1, w2, w3, w4, w5, w6, w7, w8, w9, w10, w11, w12, w13, w14, w15⟩ := hW
  have hS0 := w12
  obtain ⟨q0, q1, q2, q3, q4, q5, q6, q7, q8, q9, q10, q11, q12, q13, q14, q15⟩ := w12
  have hB9 := hB
  obtain ⟨b1, b2, b3, b4, b5, b6, b7, b8⟩ := hB
  have hO0 := hO
  obtain ⟨o2, o6, o387, oT, o1708, oO, o1741, oF, o1, oq1, oq6, o0, ol1, ol40, oV, oN1, oP1, oF1⟩ := hO
  have hn : mI μ s 1 = nI (nM r) := b1.trans o2
  have hq9 : mI μ (s + 2) 1 = nI (nQ r) := b6.trans o1
  have hV := b7.ok' oV
  rw [in_134]
  simp (disch := first | omega | rfl) only [e_134_0, e_134_1, e_134_4, e_134_5, e_134_6, e_134_7, e_134_10, e_134_13, e_134_16, e_134_19, e_134_20, e_134_21, e_134_22, e_134_25, e_134_28, e_134_29, e_134_30, e_134_33, e_134_34, e_134_36, e_134_39, e_134_40, e_134_42, e_134_43, e_134_46, e_134_47, e_134_50, e_134_51, e_134_52, e_134_55, e_134_58, e_134_61, e_134_64, e_134_65, e_134_68, e_134_69, e_134_70, w0, w1, w2, w3, w4, w5, w6, w7, w8, w9, w10, q1, q2, q3, q4, q5, q6, q7, q8, q9, q10, q11, q12, q13, q14, q15, b1, b2, b3, b4, b5, b6, o2, o387, o1708, o1741, o1, o0, ge1, ule_t, true_or, or_true, nI_add, nI_mul, nI_sub, nI_clamp, nI_lt_t, nI_lt_f, nI_le_t, nI_le_f, nI_eq_t, nI_eq_f, vp_nI, tI, fI, not_true, not_false_iff, true_and, and_true, Classical.not_not, mS_uI, mS_uA, mS_uJ, mS_uR, mS_uX, mR_uI, mR_uA, mR_uJ, mR_uX, mX_uI, mX_uA, mX_uJ, mX_uR, mI_s, mI_n, mI_A, mI_An, mI_uJ, mI_uR, mI_uX, mJ_uI, mJ_uA, mJ_uR, mJ_uX, onR_s, kC_v, kC_n, kC_t, ul0, ula1, ula2, ula3, ula4, ulb2, ulb3, ulb4, ulc2, ulc3, ulc4, ule4, ulf3, ulf4, c_152t hi, s_155, bad_ik hx rfl (by omega), bI_F]
theorem c_134t (hW : ShR μ s c) (hB : RelB μ s r) (hO : okR r) (hx : bad y 16) : Ev (d + 4) 134 [.ref 1000, .int x, .int y] μ Q = (∀ x, mX μ ≤ x → Q none (uX μ x)) := by
  have hW0 := hW
  obtain ⟨w0, w1, w2, w3, w4, w5, w6, w7, w8, w9, w10, w11, w12, w13, w14, w15⟩ := hW
  have hS0 := w12
  obtain ⟨q0, q1, q2, q3, q4, q5, q6, q7, q8, q9, q10, q11, q12, q13, q14, q15⟩ := w12
  have hB9 := hB
  obtain ⟨b1, b2, b3, b4, b5, b6, b7, b8⟩ := hB
  have hO0 := hO
  obtain ⟨o2, o6, o387, oT, o1708, oO, o1741, oF, o1, oq1, oq6, o0, ol1, ol40, oV, oN1, oP1, oF1⟩ := hO
  have hn : mI μ s 1 = nI (nM r) := b1.trans o2
  have hq9 : mI μ (s + 2) 1 = nI (nQ r) := b6.trans o1
  have hV := b7.ok' oV
  rw [in_134]
  simp (disch := first | omega | rfl) only [e_134_0, e_134_1, e_134_4, e_134_5, e_134_6, e_134_7, e_134_10, e_134_13, e_134_16, e_134_19, e_134_20, e_134_21, e_134_22, e_134_25, e_134_28, e_134_29, e_134_30, e_134_33, e_134_34, e_134_36, e_134_39, e_134_40, e_134_42, e_134_43, e_134_46, e_134_47, e_134_50, e_134_51, e_134_52, e_134_55, e_134_58, e_134_61, e_134_64, e_134_65, e_134_68, e_134_69, e_134_70, w0, w1, w2, w3, w4, w5, w6, w7, w8, w9, w10, q1, q2, q3, q4, q5, q6, q7, q8, q9, q10, q11, q12, q13, q14, q15, b1, b2, b3, b4, b5, b6, o2, o387, o1708, o1741, o1, o0, ge1, ule_t, true_or, or_true, nI_add, nI_mul, nI_sub, nI_clamp, nI_lt_t, nI_lt_f, nI_le_t, nI_le_f, nI_eq_t, nI_eq_f, vp_nI, tI, fI, not_true, not_false_iff, true_and, and_true, Classical.not_not, mS_uI, mS_uA, mS_uJ, mS_uR, mS_uX, mR_uI, mR_uA, mR_uJ, mR_uX, mX_uI, mX_uA, mX_uJ, mX_uR, mI_s, mI_n, mI_A, mI_An, mI_uJ, mI_uR, mI_uX, mJ_uI, mJ_uA, mJ_uR, mJ_uX, onR_s, kC_v, kC_n, kC_t, ul0, ula1, ula2, ula3, ula4, ulb2, ulb3, ulb4, ulc2, ulc3, ulc4, ule4, ulf3, ulf4, c_152f hx, TT_134]
theorem s_137 (ha : mS μ a = (20, 16)) (hb : mS μ b = (20, 16)) : Ev (d + 1) 137 [.ref a, .ref b] μ Q = Q (some (some (.int (bI (eqU (mI μ a) (mI μ b) 16 = true))))) μ := by
  rw [in_137]
  simp (disch := first | omega | rfl) only [e_137_0, e_137_1, e_137_3, e_137_5, e_137_8, e_137_9, e_137_10, e_137_11, e_137_12, e_137_13, e_137_14, e_137_17, e_137_18, e_137_19, e_137_22, e_137_25, e_137_26, ge1, ule_t, true_or, or_true, nI_add, nI_mul, nI_sub, nI_clamp, nI_lt_t, nI_lt_f, nI_le_t, nI_le_f, nI_eq_t, nI_eq_f, vp_nI, tI, fI, not_true, not_false_iff, true_and, and_true, Classical.not_not]
  have : ∀ n k, k + n = 16 → eqU (mI μ a) (mI μ b) k = true → EM 137 d 2 [some (.ref a), some (.ref b), some (.int (nI k))] [] μ (0, 0) Q = Q (some (some (.int (bI (eqU (mI μ a) (mI μ b) 16 = true))))) μ := by
    intro n
    induction n with
    | zero =>
      intro k hk h
      obtain rfl : k = 16 := by omega
      rw [e_137_2, bI_t h]
      simp (disch := first | omega | rfl) only [e_137_0, e_137_1, e_137_3, e_137_5, e_137_8, e_137_9, e_137_10, e_137_11, e_137_12, e_137_13, e_137_14, e_137_17, e_137_18, e_137_19, e_137_22, e_137_25, e_137_26, ge1, ule_t, true_or, or_true, nI_add, nI_mul, nI_sub, nI_clamp, nI_lt_t, nI_lt_f, nI_le_t, nI_le_f, nI_eq_t, nI_eq_f, vp_nI, tI, fI, not_true, not_false_iff, true_and, and_true, Classical.not_not]
    | succ n ih =>
      intro k hk h
      rw [e_137_2]
      by_cases he : mI μ a k = mI μ b k
      · simp (disch := first | omega | rfl) only [e_137_0, e_137_1, e_137_3, e_137_5, e_137_8, e_137_9, e_137_10, e_137_11, e_137_12, e_137_13, e_137_14, e_137_17, e_137_18, e_137_19, e_137_22, e_137_25, e_137_26, ge1, ule_t, true_or, or_true, nI_add, nI_mul, nI_sub, nI_clamp, nI_lt_t, nI_lt_f, nI_le_t, nI_le_f, nI_eq_t, nI_eq_f, vp_nI, tI, fI, not_true, not_false_iff, true_and, and_true, Classical.not_not, ha, hb, he]
        exact ih (k + 1) (by omega) (by rw [eqU, h, decide_eq_true he]; rfl)
      · have h2 : eqU (mI μ a) (mI μ b) (k + 1) = false := by rw [eqU, decide_eq_false he, Bool.and_false]
        have h3 := eqU_dn h2 (15 - k)
        rw [show k + 1 + (15 - k) = 16 by omega] at h3
        rw [bI_f (by rw [h3]; exact Bool.false_ne_true)]
        simp (disch := first | omega | rfl) only [e_137_0, e_137_1, e_137_3, e_137_5, e_137_8, e_137_9, e_137_10, e_137_11, e_137_12, e_137_13, e_137_14, e_137_17, e_137_18, e_137_19, e_137_22, e_137_25, e_137_26, ge1, ule_t, true_or, or_true, nI_add, nI_mul, nI_sub, nI_clamp, nI_lt_t, nI_lt_f, nI_le_t, nI_le_f, nI_eq_t, nI_eq_f, vp_nI, tI, fI, not_true, not_false_iff, true_and, and_true, Classical.not_not, ha, hb, he]
  exact this 16 0 (by omega) rfl
def fLk (r g : Nat → Int32) (t : Nat) (m : Nat) : Bool := decide (rW r m 1 = nI t) && eqU (fun c => rW r m (7 + c)) g 16
theorem l_136 (hW : ShR μ s c) (hB : RelB μ s r) (hO : okR r) (F : Nat → Int32) : ∀ n m l5, m + n = nM r → EM 136 (d + 1) 5 [some (.ref 1000), some (.ref 1067), some (.int (nI t)), some (.int (nI (fSet (fLk r F t) m))), some (.int (nI m)), l5] [] (uA μ 1067 F) (0, 0) Q = Q (some (some (.int (nI (fSet (fLk r F t) (nM r)))))) (uA μ 1067 F) := by
  have hcells := fun m (hm : m < nM r) c (hc : c < 16) => c_cells hW hB hO hm hc
  have hW0 := hW
  obtain ⟨w0, w1, w2, w3, w4, w5, w6, w7, w8, w9, w10, w11, w12, w13, w14, w15⟩ := hW
  have hS0 := w12
  obtain ⟨q0, q1, q2, q3, q4, q5, q6, q7, q8, q9, q10, q11, q12, q13, q14, q15⟩ := w12
  have hB9 := hB
  obtain ⟨b1, b2, b3, b4, b5, b6, b7, b8⟩ := hB
  have hO0 := hO
  obtain ⟨o2, o6, o387, oT, o1708, oO, o1741, oF, o1, oq1, oq6, o0, ol1, ol40, oV, oN1, oP1, oF1⟩ := hO
  have hn : mI μ s 1 = nI (nM r) := b1.trans o2
  have hq9 : mI μ (s + 2) 1 = nI (nQ r) := b6.trans o1
  have hV := b7.ok' oV
  intro n
  induction n with
  | zero =>
    intro m l5 hm
    obtain rfl : m = nM r := by omega
    rw [e_136_5]
    simp (disch := first | omega | rfl) only [e_136_0, e_136_1, e_136_2, e_136_3, e_136_7, e_136_8, e_136_11, e_136_14, e_136_17, e_136_18, e_136_21, e_136_24, e_136_26, e_136_27, e_136_29, e_136_31, e_136_34, e_136_35, e_136_38, e_136_40, e_136_43, e_136_44, e_136_47, e_136_50, e_136_51, e_136_52, e_136_54, e_136_55, e_136_56, e_136_57, e_136_60, e_136_63, e_136_64, w0, w1, w2, w3, w4, w5, w6, w7, w8, w9, w10, q1, q2, q3, q4, q5, q6, q7, q8, q9, q10, q11, q12, q13, q14, q15, b1, b2, b3, b4, b5, b6, o2, o387, o1708, o1741, o1, o0, ge1, ule_t, true_or, or_true, nI_add, nI_mul, nI_sub, nI_clamp, nI_lt_t, nI_lt_f, nI_le_t, nI_le_f, nI_eq_t, nI_eq_f, vp_nI, tI, fI, not_true, not_false_iff, true_and, and_true, Classical.not_not, mS_uI, mS_uA, mS_uJ, mS_uR, mS_uX, mR_uI, mR_uA, mR_uJ, mR_uX, mX_uI, mX_uA, mX_uJ, mX_uR, mI_s, mI_n, mI_A, mI_An, mI_uJ, mI_uR, mI_uX, mJ_uI, mJ_uA, mJ_uR, mJ_uX, onR_s, kC_v, kC_n, kC_t, ul0, ula1, ula2, ula3, ula4, ulb2, ulb3, ulb4, ulc2, ulc3, ulc4, ule4, ulf3, ulf4]
  | succ n ih =>
    intro m l5 hk
    have hm : m < nM r := by omega
    rw [e_136_5]
    have e1 : mI μ (s + 5 + 3 * m) 3 = rW r m 1 := (b7 m hm).1 1 (by omega)
    have h137 := fun (d : Nat) (Q : Po) => s_137 (d := d) (Q := Q) (μ := uA μ 1067 F) (a := s + 6 + 3 * m) (b := 1067) (q14 m (by omega)) w8
    have e2 : eqU (mI (uA μ 1067 F) (s + 6 + 3 * m)) (mI (uA μ 1067 F) 1067) 16 = eqU (fun c => rW r m (7 + c)) F 16 := eqU_eq 16 (fun c hc => by rw [mI_An (by omega)]; exact hcells m hm c hc) (fun c hc => by rw [mI_A])
    simp only [e2] at h137
    have hi := fun l5 => ih (m + 1) l5 (by omega)
    have e7 : 1 * 2 ^ m = 2 ^ m := Nat.one_mul _
    by_cases he : rW r m 1 = nI t
    · cases hf : eqU (fun c => rW r m (7 + c)) F 16 with
      | false =>
        simp only [bI_f (show ¬ eqU (fun c => rW r m (7 + c)) F 16 = true by rw [hf]; exact Bool.false_ne_true)] at h137
        have e3 : fSet (fLk r F t) (m + 1) = fSet (fLk r F t) m := by rw [fSet, show fLk r F t m = false by unfold fLk; rw [hf, Bool.and_false]]; rfl
        simp only [e3] at hi
        simp (disch := first | omega | rfl) only [e_136_0, e_136_1, e_136_2, e_136_3, e_136_7, e_136_8, e_136_11, e_136_14, e_136_17, e_136_18, e_136_21, e_136_24, e_136_26, e_136_27, e_136_29, e_136_31, e_136_34, e_136_35, e_136_38, e_136_40, e_136_43, e_136_44, e_136_47, e_136_50, e_136_51, e_136_52, e_136_54, e_136_55, e_136_56, e_136_57, e_136_60, e_136_63, e_136_64, w0, w1, w2, w3, w4, w5, w6, w7, w8, w9, w10, q1, q2, q3, q4, q5, q6, q7, q8, q9, q10, q11, q12, q13, q14, q15, b1, b2, b3, b4, b5, b6, o2, o387, o1708, o1741, o1, o0, ge1, ule_t, true_or, or_true, nI_add, nI_mul, nI_sub, nI_clamp, nI_lt_t, nI_lt_f, nI_le_t, nI_le_f, nI_eq_t, nI_eq_f, vp_nI, tI, fI, not_true, not_false_iff, true_and, and_true, Classical.not_not, mS_uI, mS_uA, mS_uJ, mS_uR, mS_uX, mR_uI, mR_uA, mR_uJ, mR_uX, mX_uI, mX_uA, mX_uJ, mX_uR, mI_s, mI_n, mI_A, mI_An, mI_uJ, mI_uR, mI_uX, mJ_uI, mJ_uA, mJ_uR, mJ_uX, onR_s, kC_v, kC_n, kC_t, ul0, ula1, ula2, ula3, ula4, ulb2, ulb3, ulb4, ulc2, ulc3, ulc4, ule4, ulf3, ulf4, e1, he, h137]
        exact hi _
      | true =>
        simp only [bI_t hf] at h137
        have e3 : fSet (fLk r F t) (m + 1) = fSet (fLk r F t) m + 2 ^ m := by rw [fSet, show fLk r F t m = true by unfold fLk; rw [hf, decide_eq_true he]; rfl]; rfl
        simp only [e3] at hi
        simp (disch := first | omega | rfl) only [e_136_0, e_136_1, e_136_2, e_136_3, e_136_7, e_136_8, e_136_11, e_136_14, e_136_17, e_136_18, e_136_21, e_136_24, e_136_26, e_136_27, e_136_29, e_136_31, e_136_34, e_136_35, e_136_38, e_136_40, e_136_43, e_136_44, e_136_47, e_136_50, e_136_51, e_136_52, e_136_54, e_136_55, e_136_56, e_136_57, e_136_60, e_136_63, e_136_64, w0, w1, w2, w3, w4, w5, w6, w7, w8, w9, w10, q1, q2, q3, q4, q5, q6, q7, q8, q9, q10, q11, q12, q13, q14, q15, b1, b2, b3, b4, b5, b6, o2, o387, o1708, o1741, o1, o0, ge1, ule_t, true_or, or_true, nI_add, nI_mul, nI_sub, nI_clamp, nI_lt_t, nI_lt_f, nI_le_t, nI_le_f, nI_eq_t, nI_eq_f, vp_nI, tI, fI, not_true, not_false_iff, true_and, and_true, Classical.not_not, mS_uI, mS_uA, mS_uJ, mS_uR, mS_uX, mR_uI, mR_uA, mR_uJ, mR_uX, mX_uI, mX_uA, mX_uJ, mX_uR, mI_s, mI_n, mI_A, mI_An, mI_uJ, mI_uR, mI_uX, mJ_uI, mJ_uA, mJ_uR, mJ_uX, onR_s, kC_v, kC_n, kC_t, ul0, ula1, ula2, ula3, ula4, ulb2, ulb3, ulb4, ulc2, ulc3, ulc4, ule4, ulf3, ulf4, e1, he, h137, nI_shl, e7, nI_or_add (fSet_lt (fLk r F t) m)]
        exact hi _
    · have e3 : fSet (fLk r F t) (m + 1) = fSet (fLk r F t) m := by rw [fSet, show fLk r F t m = false by unfold fLk; rw [decide_eq_false he]; rfl]; rfl
      simp only [e3] at hi
      simp (disch := first | omega | rfl) only [e_136_0, e_136_1, e_136_2, e_136_3, e_136_7, e_136_8, e_136_11, e_136_14, e_136_17, e_136_18, e_136_21, e_136_24, e_136_26, e_136_27, e_136_29, e_136_31, e_136_34, e_136_35, e_136_38, e_136_40, e_136_43, e_136_44, e_136_47, e_136_50, e_136_51, e_136_52, e_136_54, e_136_55, e_136_56, e_136_57, e_136_60, e_136_63, e_136_64, w0, w1, w2, w3, w4, w5, w6, w7, w8, w9, w10, q1, q2, q3, q4, q5, q6, q7, q8, q9, q10, q11, q12, q13, q14, q15, b1, b2, b3, b4, b5, b6, o2, o387, o1708, o1741, o1, o0, ge1, ule_t, true_or, or_true, nI_add, nI_mul, nI_sub, nI_clamp, nI_lt_t, nI_lt_f, nI_le_t, nI_le_f, nI_eq_t, nI_eq_f, vp_nI, tI, fI, not_true, not_false_iff, true_and, and_true, Classical.not_not, mS_uI, mS_uA, mS_uJ, mS_uR, mS_uX, mR_uI, mR_uA, mR_uJ, mR_uX, mX_uI, mX_uA, mX_uJ, mX_uR, mI_s, mI_n, mI_A, mI_An, mI_uJ, mI_uR, mI_uX, mJ_uI, mJ_uA, mJ_uR, mJ_uX, onR_s, kC_v, kC_n, kC_t, ul0, ula1, ula2, ula3, ula4, ulb2, ulb3, ulb4, ulc2, ulc3, ulc4, ule4, ulf3, ulf4, e1, he]
      exact hi _
theorem c_136 (hW : ShR μ s c) (hB : RelB μ s r) (hO : okR r) (F : Nat → Int32) : Ev (d + 2) 136 [.ref 1000, .ref 1067, .int (nI t)] (uA μ 1067 F) Q = Q (some (some (.int (nI (fSet (fLk r F t) (nM r)))))) (uA μ 1067 F) := by
  rw [in_136]
  simp (disch := first | omega | rfl) only [e_136_0, e_136_1, e_136_2, e_136_3, e_136_7, e_136_8, e_136_11, e_136_14, e_136_17, e_136_18, e_136_21, e_136_24, e_136_26, e_136_27, e_136_29, e_136_31, e_136_34, e_136_35, e_136_38, e_136_40, e_136_43, e_136_44, e_136_47, e_136_50, e_136_51, e_136_52, e_136_54, e_136_55, e_136_56, e_136_57, e_136_60, e_136_63, e_136_64, ge1, ule_t, true_or, or_true, nI_add, nI_mul, nI_sub, nI_clamp, nI_lt_t, nI_lt_f, nI_le_t, nI_le_f, nI_eq_t, nI_eq_f, vp_nI, tI, fI, not_true, not_false_iff, true_and, and_true, Classical.not_not]
  exact l_136 hW hB hO F (nM r) 0 none (by omega)
/-- members like the truth, of those who have executed fewer turns -/
def fTm (r st : Nat → Int32) (t : Nat) (m : Nat) : Bool := decide (nE (rW r) m < t) && fIsT r st m
theorem fTm_s {r st : Nat → Int32} {F : Nat → Int32} (hO : okR r) (hst : EqL F st) {t : Nat} (ht : t ≤ nT r) : ∀ m, m < nM r → (fTm r st t m || fLk r (fTru r F t) t m) = fTm r st (t + 1) m := by
  intro m hm
  have hP := hO.2.2.2.2.2.2.2.2.2.2.2.2.2.2.2.2.1
  obtain ⟨v1, v2, v3, v4⟩ := okBE hO.2.2.2.2.2.2.2.2.2.2.2.2.2.2.1 hm
  unfold fTm fLk
  rw [v2]
  by_cases h : nE (rW r) m = t
  · have e1 : eqU (fun c => rW r m (7 + c)) (fTru r F t) 16 = fIsT r st m := by
      unfold fIsT
      rw [h]
      exact eqU_eq 16 (fun _ _ => rfl) (fun k hk => EqL.tru hst hP t ht k hk)
    rw [e1, h, decide_eq_false (by omega : ¬ t < t), decide_eq_true (by omega : t < t + 1), decide_eq_true rfl]
    simp
  · have e2 : decide (nI (nE (rW r) m) = nI t) = false := decide_eq_false (fun z => h ((nI_eq (by omega) (by have := hO.2.2.2.1; omega)).mp z))
    rw [e2, Bool.false_and, Bool.or_false]
    congr 1
    exact decide_eq_decide.mpr (by omega)
theorem fTm_all {r st : Nat → Int32} (hO : okR r) : fSet (fTm r st (nT r + 1)) (nM r) = fSet (fIsT r st) (nM r) := fSet_eq _ (fun m hm => by
  obtain ⟨v1, v2, v3, v4⟩ := okBE hO.2.2.2.2.2.2.2.2.2.2.2.2.2.2.1 hm
  have h := (hO.2.2.2.2.2.2.2.2.2.2.2.2.2.2.2.1 m hm).1
  rw [v2] at h
  have := (nI_leI (a := nE (rW r) m) (b := nT r) (by omega) (by have := hO.2.2.2.1; omega)).mp h
  unfold fTm
  rw [decide_eq_true (by omega : nE (rW r) m < nT r + 1), Bool.true_and])
theorem fTm_0 {r st : Nat → Int32} (n : Nat) : fSet (fTm r st 0) n = 0 := by
  induction n with
  | zero => rfl
  | succ n ih => rw [fSet, ih]; rfl
theorem l_135 (hW : ShR μ s c) (hB : RelB μ s r) (hO : okR r) (hC : RelC μ c r) (F : Nat → Int32) (hst : EqL F st) : ∀ n t, t + n = nT r + 1 → EM 135 (d + 3) 22 [some (.ref 1000), some (.int (nI (fSet (fTm r st t) (nM r)))), some (.int (nI t))] [] (uA μ 1067 (fTru r F (t - 1))) (0, 0) Q = Q (some (some (.int (nI (fSet (fIsT r st) (nM r)))))) (uA μ 1067 (fTru r F (nT r))) := by
  have hO8 := hO
  have hW0 := hW
  obtain ⟨w0, w1, w2, w3, w4, w5, w6, w7, w8, w9, w10, w11, w12, w13, w14, w15⟩ := hW
  have hS0 := w12
  obtain ⟨q0, q1, q2, q3, q4, q5, q6, q7, q8, q9, q10, q11, q12, q13, q14, q15⟩ := w12
  have hB9 := hB
  obtain ⟨b1, b2, b3, b4, b5, b6, b7, b8⟩ := hB
  have hO0 := hO
  obtain ⟨o2, o6, o387, oT, o1708, oO, o1741, oF, o1, oq1, oq6, o0, ol1, ol40, oV, oN1, oP1, oF1⟩ := hO
  have hn : mI μ s 1 = nI (nM r) := b1.trans o2
  have hq9 : mI μ (s + 2) 1 = nI (nQ r) := b6.trans o1
  have hV := b7.ok' oV
  intro n
  induction n with
  | zero =>
    intro t ht
    obtain rfl : t = nT r + 1 := by omega
    rw [e_135_22]
    simp (disch := first | omega | rfl) only [e_135_0, e_135_1, e_135_2, e_135_3, e_135_6, e_135_9, e_135_10, e_135_11, e_135_14, e_135_15, e_135_17, e_135_20, e_135_21, e_135_23, e_135_24, e_135_27, e_135_30, e_135_33, e_135_34, e_135_37, e_135_38, e_135_41, e_135_42, e_135_43, e_135_44, e_135_45, e_135_48, e_135_51, e_135_52, e_135_53, e_135_54, e_135_57, e_135_58, e_135_61, e_135_62, e_135_63, e_135_66, e_135_69, e_135_70, w0, w1, w2, w3, w4, w5, w6, w7, w8, w9, w10, q1, q2, q3, q4, q5, q6, q7, q8, q9, q10, q11, q12, q13, q14, q15, b1, b2, b3, b4, b5, b6, o2, o387, o1708, o1741, o1, o0, ge1, ule_t, true_or, or_true, nI_add, nI_mul, nI_sub, nI_clamp, nI_lt_t, nI_lt_f, nI_le_t, nI_le_f, nI_eq_t, nI_eq_f, vp_nI, tI, fI, not_true, not_false_iff, true_and, and_true, Classical.not_not, mS_uI, mS_uA, mS_uJ, mS_uR, mS_uX, mR_uI, mR_uA, mR_uJ, mR_uX, mX_uI, mX_uA, mX_uJ, mX_uR, mI_s, mI_n, mI_A, mI_An, mI_uJ, mI_uR, mI_uX, mJ_uI, mJ_uA, mJ_uR, mJ_uX, onR_s, kC_v, kC_n, kC_t, ul0, ula1, ula2, ula3, ula4, ulb2, ulb3, ulb4, ulc2, ulc3, ulc4, ule4, ulf3, ulf4, fTm_all hO8, Nat.add_sub_cancel]
  | succ n ih =>
    intro t ht
    rw [e_135_22]
    have hi := ih (t + 1) (by omega)
    rw [← fSet_eq _ (fTm_s hO8 hst (show t ≤ nT r by omega)), ← fSet_or, ← nI_or] at hi
    by_cases h0 : t = 0
    · subst h0
      simp (disch := first | omega | rfl) only [e_135_0, e_135_1, e_135_2, e_135_3, e_135_6, e_135_9, e_135_10, e_135_11, e_135_14, e_135_15, e_135_17, e_135_20, e_135_21, e_135_23, e_135_24, e_135_27, e_135_30, e_135_33, e_135_34, e_135_37, e_135_38, e_135_41, e_135_42, e_135_43, e_135_44, e_135_45, e_135_48, e_135_51, e_135_52, e_135_53, e_135_54, e_135_57, e_135_58, e_135_61, e_135_62, e_135_63, e_135_66, e_135_69, e_135_70, w0, w1, w2, w3, w4, w5, w6, w7, w8, w9, w10, q1, q2, q3, q4, q5, q6, q7, q8, q9, q10, q11, q12, q13, q14, q15, b1, b2, b3, b4, b5, b6, o2, o387, o1708, o1741, o1, o0, ge1, ule_t, true_or, or_true, nI_add, nI_mul, nI_sub, nI_clamp, nI_lt_t, nI_lt_f, nI_le_t, nI_le_f, nI_eq_t, nI_eq_f, vp_nI, tI, fI, not_true, not_false_iff, true_and, and_true, Classical.not_not, mS_uI, mS_uA, mS_uJ, mS_uR, mS_uX, mR_uI, mR_uA, mR_uJ, mR_uX, mX_uI, mX_uA, mX_uJ, mX_uR, mI_s, mI_n, mI_A, mI_An, mI_uJ, mI_uR, mI_uX, mJ_uI, mJ_uA, mJ_uR, mJ_uX, onR_s, kC_v, kC_n, kC_t, ul0, ula1, ula2, ula3, ula4, ulb2, ulb3, ulb4, ulc2, ulc3, ulc4, ule4, ulf3, ulf4, c_136 hW0 hB9 hO0, show (0 : Nat) - 1 = 0 from rfl]
      exact hi
    · have e5 : fT r (t - 1) (fTru r F (t - 1)) = fTru r F t := by
        obtain ⟨k, rfl⟩ : ∃ k, t = k + 1 := ⟨t - 1, by omega⟩
        rfl
      simp (disch := first | omega | rfl) only [e_135_0, e_135_1, e_135_2, e_135_3, e_135_6, e_135_9, e_135_10, e_135_11, e_135_14, e_135_15, e_135_17, e_135_20, e_135_21, e_135_23, e_135_24, e_135_27, e_135_30, e_135_33, e_135_34, e_135_37, e_135_38, e_135_41, e_135_42, e_135_43, e_135_44, e_135_45, e_135_48, e_135_51, e_135_52, e_135_53, e_135_54, e_135_57, e_135_58, e_135_61, e_135_62, e_135_63, e_135_66, e_135_69, e_135_70, w0, w1, w2, w3, w4, w5, w6, w7, w8, w9, w10, q1, q2, q3, q4, q5, q6, q7, q8, q9, q10, q11, q12, q13, q14, q15, b1, b2, b3, b4, b5, b6, o2, o387, o1708, o1741, o1, o0, ge1, ule_t, true_or, or_true, nI_add, nI_mul, nI_sub, nI_clamp, nI_lt_t, nI_lt_f, nI_le_t, nI_le_f, nI_eq_t, nI_eq_f, vp_nI, tI, fI, not_true, not_false_iff, true_and, and_true, Classical.not_not, mS_uI, mS_uA, mS_uJ, mS_uR, mS_uX, mR_uI, mR_uA, mR_uJ, mR_uX, mX_uI, mX_uA, mX_uJ, mX_uR, mI_s, mI_n, mI_A, mI_An, mI_uJ, mI_uR, mI_uX, mJ_uI, mJ_uA, mJ_uR, mJ_uX, onR_s, kC_v, kC_n, kC_t, ul0, ula1, ula2, ula3, ula4, ulb2, ulb3, ulb4, ulc2, ulc3, ulc4, ule4, ulf3, ulf4, w13.2.1, c_136 hW0 hB9 hO0, c_68a w13 hC hO0 (show t - 1 < nT r by omega) w8 (by omega) (by omega), e5]
      rw [show t + 1 - 1 = t by omega] at hi
      exact hi
theorem c_135 (hW : ShR μ s c) (hB : RelB μ s r) (hO : okR r) (hC : RelC μ c r) (hst : EqL (mI μ (c + 1)) st) : Ev (d + 4) 135 [.ref 1000] μ Q = Q (some (some (.int (nI (fSet (fIsT r st) (nM r)))))) (uA μ 1067 (fTru r (fil (mI μ (c + 1)) (mI μ 1067) 16) (nT r))) := by
  have hW0 := hW
  obtain ⟨w0, w1, w2, w3, w4, w5, w6, w7, w8, w9, w10, w11, w12, w13, w14, w15⟩ := hW
  have hS0 := w12
  obtain ⟨q0, q1, q2, q3, q4, q5, q6, q7, q8, q9, q10, q11, q12, q13, q14, q15⟩ := w12
  have hB9 := hB
  obtain ⟨b1, b2, b3, b4, b5, b6, b7, b8⟩ := hB
  have hO0 := hO
  obtain ⟨o2, o6, o387, oT, o1708, oO, o1741, oF, o1, oq1, oq6, o0, ol1, ol40, oV, oN1, oP1, oF1⟩ := hO
  have hn : mI μ s 1 = nI (nM r) := b1.trans o2
  have hq9 : mI μ (s + 2) 1 = nI (nQ r) := b6.trans o1
  have hV := b7.ok' oV
  have hS9 := w13
  obtain ⟨r0, r1, r2, r3, r4, r5, r6, r7, r8, r9⟩ := w13
  rw [in_135]
  simp (disch := first | omega | rfl) only [e_135_0, e_135_1, e_135_2, e_135_3, e_135_6, e_135_9, e_135_10, e_135_11, e_135_14, e_135_15, e_135_17, e_135_20, e_135_21, e_135_23, e_135_24, e_135_27, e_135_30, e_135_33, e_135_34, e_135_37, e_135_38, e_135_41, e_135_42, e_135_43, e_135_44, e_135_45, e_135_48, e_135_51, e_135_52, e_135_53, e_135_54, e_135_57, e_135_58, e_135_61, e_135_62, e_135_63, e_135_66, e_135_69, e_135_70, w0, w1, w2, w3, w4, w5, w6, w7, w8, w9, w10, q1, q2, q3, q4, q5, q6, q7, q8, q9, q10, q11, q12, q13, q14, q15, b1, b2, b3, b4, b5, b6, o2, o387, o1708, o1741, o1, o0, ge1, ule_t, true_or, or_true, nI_add, nI_mul, nI_sub, nI_clamp, nI_lt_t, nI_lt_f, nI_le_t, nI_le_f, nI_eq_t, nI_eq_f, vp_nI, tI, fI, not_true, not_false_iff, true_and, and_true, Classical.not_not, mS_uI, mS_uA, mS_uJ, mS_uR, mS_uX, mR_uI, mR_uA, mR_uJ, mR_uX, mX_uI, mX_uA, mX_uJ, mX_uR, mI_s, mI_n, mI_A, mI_An, mI_uJ, mI_uR, mI_uX, mJ_uI, mJ_uA, mJ_uR, mJ_uX, onR_s, kC_v, kC_n, kC_t, ul0, ula1, ula2, ula3, ula4, ulb2, ulb3, ulb4, ulc2, ulc3, ulc4, ule4, ulf3, ulf4, r1, r2, r3, r4, r5, r6, r7, r8, r9, leT, cpy_fil]
  have := l_135 (d := d) (Q := Q) hW0 hB9 hO0 hC (st := st) (fil (mI μ (c + 1)) (mI μ 1067) 16) (fun k hk => (fil_EqL _ _ k hk).trans (hst k hk)) (nT r + 1) 0 (by omega)
  rw [fTm_0] at this
  exact this
theorem l_138 (hW : ShR μ s c) (hB : RelB μ s r) (hO : okR r) (hC : RelC μ c r) (hm : m < nM r) (hi : i < 16) (F : Nat → Int32) (l3 : Option Value) : ∀ n k, nE (rW r) m + k + n = nT r → EM 138 (d + 3) 31 [some (.ref 1000), some (.int (nI m)), some (.int (nI i)), l3, some (.int (nI (nE (rW r) m + k)))] [] (uA μ 1067 (fSee r m F (nE (rW r) m) k)) (uad (uad (0, 0) (1, 6)) (1, 6)) Q = Q (some (some (.int (fSee r m F (nE (rW r) m) (nT r - nE (rW r) m) i)))) (uA μ 1067 (fSee r m F (nE (rW r) m) (nT r - nE (rW r) m))) := by
  have hW0 := hW
  obtain ⟨w0, w1, w2, w3, w4, w5, w6, w7, w8, w9, w10, w11, w12, w13, w14, w15⟩ := hW
  have hS0 := w12
  obtain ⟨q0, q1, q2, q3, q4, q5, q6, q7, q8, q9, q10, q11, q12, q13, q14, q15⟩ := w12
  have hB9 := hB
  obtain ⟨b1, b2, b3, b4, b5, b6, b7, b8⟩ := hB
  have hO0 := hO
  obtain ⟨o2, o6, o387, oT, o1708, oO, o1741, oF, o1, oq1, oq6, o0, ol1, ol40, oV, oN1, oP1, oF1⟩ := hO
  have hn : mI μ s 1 = nI (nM r) := b1.trans o2
  have hq9 : mI μ (s + 2) 1 = nI (nQ r) := b6.trans o1
  have hV := b7.ok' oV
  intro n
  induction n with
  | zero =>
    intro k hk
    obtain rfl : k = nT r - nE (rW r) m := by omega
    rw [e_138_31]
    simp (disch := first | omega | rfl) only [e_138_0, e_138_1, e_138_2, e_138_5, e_138_6, e_138_7, e_138_10, e_138_11, e_138_14, e_138_15, e_138_16, e_138_19, e_138_20, e_138_22, e_138_25, e_138_26, e_138_29, e_138_33, e_138_34, e_138_37, e_138_40, e_138_43, e_138_44, e_138_47, e_138_49, e_138_50, e_138_53, e_138_56, e_138_57, e_138_60, e_138_63, e_138_64, e_138_67, e_138_68, e_138_70, e_138_73, e_138_76, e_138_79, e_138_80, e_138_83, e_138_84, e_138_85, w0, w1, w2, w3, w4, w5, w6, w7, w8, w9, w10, q1, q2, q3, q4, q5, q6, q7, q8, q9, q10, q11, q12, q13, q14, q15, b1, b2, b3, b4, b5, b6, o2, o387, o1708, o1741, o1, o0, ge1, ule_t, true_or, or_true, nI_add, nI_mul, nI_sub, nI_clamp, nI_lt_t, nI_lt_f, nI_le_t, nI_le_f, nI_eq_t, nI_eq_f, vp_nI, tI, fI, not_true, not_false_iff, true_and, and_true, Classical.not_not, mS_uI, mS_uA, mS_uJ, mS_uR, mS_uX, mR_uI, mR_uA, mR_uJ, mR_uX, mX_uI, mX_uA, mX_uJ, mX_uR, mI_s, mI_n, mI_A, mI_An, mI_uJ, mI_uR, mI_uX, mJ_uI, mJ_uA, mJ_uR, mJ_uX, onR_s, kC_v, kC_n, kC_t, ul0, ula1, ula2, ula3, ula4, ulb2, ulb3, ulb4, ulc2, ulc3, ulc4, ule4, ulf3, ulf4]
  | succ n ih =>
    intro k hk
    rw [e_138_31]
    simp (disch := first | omega | rfl) only [e_138_0, e_138_1, e_138_2, e_138_5, e_138_6, e_138_7, e_138_10, e_138_11, e_138_14, e_138_15, e_138_16, e_138_19, e_138_20, e_138_22, e_138_25, e_138_26, e_138_29, e_138_33, e_138_34, e_138_37, e_138_40, e_138_43, e_138_44, e_138_47, e_138_49, e_138_50, e_138_53, e_138_56, e_138_57, e_138_60, e_138_63, e_138_64, e_138_67, e_138_68, e_138_70, e_138_73, e_138_76, e_138_79, e_138_80, e_138_83, e_138_84, e_138_85, w0, w1, w2, w3, w4, w5, w6, w7, w8, w9, w10, q1, q2, q3, q4, q5, q6, q7, q8, q9, q10, q11, q12, q13, q14, q15, b1, b2, b3, b4, b5, b6, o2, o387, o1708, o1741, o1, o0, ge1, ule_t, true_or, or_true, nI_add, nI_mul, nI_sub, nI_clamp, nI_lt_t, nI_lt_f, nI_le_t, nI_le_f, nI_eq_t, nI_eq_f, vp_nI, tI, fI, not_true, not_false_iff, true_and, and_true, Classical.not_not, mS_uI, mS_uA, mS_uJ, mS_uR, mS_uX, mR_uI, mR_uA, mR_uJ, mR_uX, mX_uI, mX_uA, mX_uJ, mX_uR, mI_s, mI_n, mI_A, mI_An, mI_uJ, mI_uR, mI_uX, mJ_uI, mJ_uA, mJ_uR, mJ_uX, onR_s, kC_v, kC_n, kC_t, ul0, ula1, ula2, ula3, ula4, ulb2, ulb3, ulb4, ulc2, ulc3, ulc4, ule4, ulf3, ulf4, w13.2.1, c_68a w13 hC hO0 (show nE (rW r) m + k < nT r by omega) w8 (by omega) (by omega), c_37a hS0.fa b4 b8 hO0 w8]
    exact ih (k + 1) (by omega)
theorem nE_le {r : Nat → Int32} (hO : okR r) {m : Nat} (hm : m < nM r) : nE (rW r) m ≤ nT r := by
  obtain ⟨v1, v2, v3, v4⟩ := okBE hO.2.2.2.2.2.2.2.2.2.2.2.2.2.2.1 hm
  have h := (hO.2.2.2.2.2.2.2.2.2.2.2.2.2.2.2.1 m hm).1
  rw [v2] at h
  exact (nI_leI (a := nE (rW r) m) (b := nT r) (by omega) (by have := hO.2.2.2.1; omega)).mp h
def vC (r : Nat → Int32) (m : Nat) : Nat → Int32 := fun c => rW r m (7 + c)
theorem c_138 (hW : ShR μ s c) (hB : RelB μ s r) (hO : okR r) (hC : RelC μ c r) (hm : m < nM r) (hi : i < 16) : Ev (d + 4) 138 [.ref 1000, .int (nI m), .int (nI i)] μ Q = Q (some (some (.int (fSee r m (vC r m) (nE (rW r) m) (nT r - nE (rW r) m) i)))) (uA μ 1067 (fSee r m (fil (mI μ (s + 6 + 3 * m)) (mI μ 1067) 16) (nE (rW r) m) (nT r - nE (rW r) m))) := by
  have hle := nE_le hO hm
  have hcells := fun c (hc : c < 16) => c_cells hW hB hO hm hc
  have hW0 := hW
  obtain ⟨w0, w1, w2, w3, w4, w5, w6, w7, w8, w9, w10, w11, w12, w13, w14, w15⟩ := hW
  have hS0 := w12
  obtain ⟨q0, q1, q2, q3, q4, q5, q6, q7, q8, q9, q10, q11, q12, q13, q14, q15⟩ := w12
  have hB9 := hB
  obtain ⟨b1, b2, b3, b4, b5, b6, b7, b8⟩ := hB
  have hO0 := hO
  obtain ⟨o2, o6, o387, oT, o1708, oO, o1741, oF, o1, oq1, oq6, o0, ol1, ol40, oV, oN1, oP1, oF1⟩ := hO
  have hn : mI μ s 1 = nI (nM r) := b1.trans o2
  have hq9 : mI μ (s + 2) 1 = nI (nQ r) := b6.trans o1
  have hV := b7.ok' oV
  have e1 : mI μ (s + 5 + 3 * m) 3 = rW r m 1 := (b7 m hm).1 1 (by omega)
  obtain ⟨v1, v2, v3, v4⟩ := okBE oV hm
  have e9 : fSee r m (fil (mI μ (s + 6 + 3 * m)) (mI μ 1067) 16) (nE (rW r) m) (nT r - nE (rW r) m) i = fSee r m (vC r m) (nE (rW r) m) (nT r - nE (rW r) m) i := EqL.see (fun k hk => (fil_EqL _ _ k hk).trans (hcells k hk)) oP1 oF1 _ (by omega) i hi
  rw [in_138]
  simp (disch := first | omega | rfl) only [e_138_0, e_138_1, e_138_2, e_138_5, e_138_6, e_138_7, e_138_10, e_138_11, e_138_14, e_138_15, e_138_16, e_138_19, e_138_20, e_138_22, e_138_25, e_138_26, e_138_29, e_138_33, e_138_34, e_138_37, e_138_40, e_138_43, e_138_44, e_138_47, e_138_49, e_138_50, e_138_53, e_138_56, e_138_57, e_138_60, e_138_63, e_138_64, e_138_67, e_138_68, e_138_70, e_138_73, e_138_76, e_138_79, e_138_80, e_138_83, e_138_84, e_138_85, w0, w1, w2, w3, w4, w5, w6, w7, w8, w9, w10, q1, q2, q3, q4, q5, q6, q7, q8, q9, q10, q11, q12, q13, q14, q15, b1, b2, b3, b4, b5, b6, o2, o387, o1708, o1741, o1, o0, ge1, ule_t, true_or, or_true, nI_add, nI_mul, nI_sub, nI_clamp, nI_lt_t, nI_lt_f, nI_le_t, nI_le_f, nI_eq_t, nI_eq_f, vp_nI, tI, fI, not_true, not_false_iff, true_and, and_true, Classical.not_not, mS_uI, mS_uA, mS_uJ, mS_uR, mS_uX, mR_uI, mR_uA, mR_uJ, mR_uX, mX_uI, mX_uA, mX_uJ, mX_uR, mI_s, mI_n, mI_A, mI_An, mI_uJ, mI_uR, mI_uX, mJ_uI, mJ_uA, mJ_uR, mJ_uX, onR_s, kC_v, kC_n, kC_t, ul0, ula1, ula2, ula3, ula4, ulb2, ulb3, ulb4, ulc2, ulc3, ulc4, ule4, ulf3, ulf4, e1, v2, c_150t hW0 hB9 hO0 hm, c_152t hi, leT, cpy_fil]
  have := l_138 (d := d) (Q := Q) hW0 hB9 hO0 hC hm hi (fil (mI μ (s + 6 + 3 * m)) (mI μ 1067) 16) (some (.ref (s + 5 + 3 * m))) (nT r - nE (rW r) m) 0 (by omega)
  rw [e9] at this
  exact this
theorem c_138t (hW : ShR μ s c) (hB : RelB μ s r) (hO : okR r) (hx : bad x (nM r)) : Ev (d + 4) 138 [.ref 1000, .int x, .int y] μ Q = (∀ x, mX μ ≤ x → Q none (uX μ x)) := by
  have hW0 := hW
  obtain ⟨w0, w1, w2, w3, w4, w5, w6, w7, w8, w9, w10, w11, w12, w13, w14, w15⟩ := hW
  have hS0 := w12
  obtain ⟨q0, q1, q2, q3, q4, q5, q6, q7, q8, q9, q10, q11, q12, q13, q14, q15⟩ := w12
  have hB9 := hB
  obtain ⟨b1, b2, b3, b4, b5, b6, b7, b8⟩ := hB
  have hO0 := hO
  obtain ⟨o2, o6, o387, oT, o1708, oO, o1741, oF, o1, oq1, oq6, o0, ol1, ol40, oV, oN1, oP1, oF1⟩ := hO
  have hn : mI μ s 1 = nI (nM r) := b1.trans o2
  have hq9 : mI μ (s + 2) 1 = nI (nQ r) := b6.trans o1
  have hV := b7.ok' oV
  rw [in_138]
  simp (disch := first | omega | rfl) only [e_138_0, e_138_1, e_138_2, e_138_5, e_138_6, e_138_7, e_138_10, e_138_11, e_138_14, e_138_15, e_138_16, e_138_19, e_138_20, e_138_22, e_138_25, e_138_26, e_138_29, e_138_33, e_138_34, e_138_37, e_138_40, e_138_43, e_138_44, e_138_47, e_138_49, e_138_50, e_138_53, e_138_56, e_138_57, e_138_60, e_138_63, e_138_64, e_138_67, e_138_68, e_138_70, e_138_73, e_138_76, e_138_79, e_138_80, e_138_83, e_138_84, e_138_85, w0, w1, w2, w3, w4, w5, w6, w7, w8, w9, w10, q1, q2, q3, q4, q5, q6, q7, q8, q9, q10, q11, q12, q13, q14, q15, b1, b2, b3, b4, b5, b6, o2, o387, o1708, o1741, o1, o0, ge1, ule_t, true_or, or_true, nI_add, nI_mul, nI_sub, nI_clamp, nI_lt_t, nI_lt_f, nI_le_t, nI_le_f, nI_eq_t, nI_eq_f, vp_nI, tI, fI, not_true, not_false_iff, true_and, and_true, Classical.not_not, mS_uI, mS_uA, mS_uJ, mS_uR, mS_uX, mR_uI, mR_uA, mR_uJ, mR_uX, mX_uI, mX_uA, mX_uJ, mX_uR, mI_s, mI_n, mI_A, mI_An, mI_uJ, mI_uR, mI_uX, mJ_uI, mJ_uA, mJ_uR, mJ_uX, onR_s, kC_v, kC_n, kC_t, ul0, ula1, ula2, ula3, ula4, ulb2, ulb3, ulb4, ulc2, ulc3, ulc4, ule4, ulf3, ulf4, c_150f hW0 hB9 hO0 hx, TT_138]
theorem c_138f (hW : ShR μ s c) (hB : RelB μ s r) (hO : okR r) (hm : m < nM r) (hx : bad x 16) : Ev (d + 4) 138 [.ref 1000, .int (nI m), .int x] μ Q = (∀ x, mX μ ≤ x → Q none (uX μ x)) := by
  have hW0 := hW
  obtain ⟨w0, w1, w2, w3, w4, w5, w6, w7, w8, w9, w10, w11, w12, w13, w14, w15⟩ := hW
  have hS0 := w12
  obtain ⟨q0, q1, q2, q3, q4, q5, q6, q7, q8, q9, q10, q11, q12, q13, q14, q15⟩ := w12
  have hB9 := hB
  obtain ⟨b1, b2, b3, b4, b5, b6, b7, b8⟩ := hB
  have hO0 := hO
  obtain ⟨o2, o6, o387, oT, o1708, oO, o1741, oF, o1, oq1, oq6, o0, ol1, ol40, oV, oN1, oP1, oF1⟩ := hO
  have hn : mI μ s 1 = nI (nM r) := b1.trans o2
  have hq9 : mI μ (s + 2) 1 = nI (nQ r) := b6.trans o1
  have hV := b7.ok' oV
  rw [in_138]
  simp (disch := first | omega | rfl) only [e_138_0, e_138_1, e_138_2, e_138_5, e_138_6, e_138_7, e_138_10, e_138_11, e_138_14, e_138_15, e_138_16, e_138_19, e_138_20, e_138_22, e_138_25, e_138_26, e_138_29, e_138_33, e_138_34, e_138_37, e_138_40, e_138_43, e_138_44, e_138_47, e_138_49, e_138_50, e_138_53, e_138_56, e_138_57, e_138_60, e_138_63, e_138_64, e_138_67, e_138_68, e_138_70, e_138_73, e_138_76, e_138_79, e_138_80, e_138_83, e_138_84, e_138_85, w0, w1, w2, w3, w4, w5, w6, w7, w8, w9, w10, q1, q2, q3, q4, q5, q6, q7, q8, q9, q10, q11, q12, q13, q14, q15, b1, b2, b3, b4, b5, b6, o2, o387, o1708, o1741, o1, o0, ge1, ule_t, true_or, or_true, nI_add, nI_mul, nI_sub, nI_clamp, nI_lt_t, nI_lt_f, nI_le_t, nI_le_f, nI_eq_t, nI_eq_f, vp_nI, tI, fI, not_true, not_false_iff, true_and, and_true, Classical.not_not, mS_uI, mS_uA, mS_uJ, mS_uR, mS_uX, mR_uI, mR_uA, mR_uJ, mR_uX, mX_uI, mX_uA, mX_uJ, mX_uR, mI_s, mI_n, mI_A, mI_An, mI_uJ, mI_uR, mI_uX, mJ_uI, mJ_uA, mJ_uR, mJ_uX, onR_s, kC_v, kC_n, kC_t, ul0, ula1, ula2, ula3, ula4, ulb2, ulb3, ulb4, ulc2, ulc3, ulc4, ule4, ulf3, ulf4, c_150t hW0 hB9 hO0 hm, c_152f hx, TT_138]
theorem m1_lt : ((-1 : Int32) < nI 0) = True := eq_true (by decide)
theorem nI0m : nI 0 + -1 = (-1 : Int32) := by decide
theorem nI_s1 (a : Nat) : nI a - nI 1 = nI a + -1 := by rw [Int32.sub_eq_add_neg]; congr 1
end Exec2C

/-! executing: the reference -/
section Exec2M
variable {d : Nat} {Q : Po} {μ : Mu} {s c m n q i j k t z a b w : Nat} {x y g tt : Int32} {r st : Nat → Int32} {l4 l5 : Option Value}
/-- laid cells of the truth -/
def mTru (μ : Mu) (t : Nat) : Mu := uA μ 1305 (fTru (mI μ 1302) (fil (mI μ 1300) (mI μ 1305) 16) t)
theorem eqU_0 {f g : Nat → Int32} : eqU f g 0 = true := rfl
end Exec2M

/-! copies of states -/
/-- only numbers of the named things have changed -/
def Fr (P : Nat → Prop) (μ μ' : Mu) : Prop := μ'.1 = μ.1 ∧ μ'.2.1 = μ.2.1 ∧ μ'.2.2.2 = μ.2.2.2 ∧ ∀ a, ¬ P a → ∀ k, mI μ' a k = mI μ a k
section FrS
variable {P P' : Nat → Prop} {μ μ' μ2 : Mu} {a k j b : Nat} {v : Int32} {f : Nat → Int32}
theorem Fr.refl : Fr P μ μ := ⟨rfl, rfl, rfl, fun _ _ _ => rfl⟩
theorem Fr.trans (h : Fr P μ μ') (h' : Fr P μ' μ2) : Fr P μ μ2 := ⟨h'.1.trans h.1, h'.2.1.trans h.2.1, h'.2.2.1.trans h.2.2.1, fun a ha k => (h'.2.2.2 a ha k).trans (h.2.2.2 a ha k)⟩
theorem Fr.mono (h : Fr P μ μ') (hp : ∀ a, P a → P' a) : Fr P' μ μ' := ⟨h.1, h.2.1, h.2.2.1, fun a ha k => h.2.2.2 a (fun z => ha (hp a z)) k⟩
theorem Fr.iu (h : Fr P μ μ') (ha : P a) : Fr P μ (uI μ' a k v) := ⟨h.1, h.2.1, h.2.2.1, fun b hb j => by rw [mI_n (Or.inl (fun z => hb (by rw [z]; exact ha)))]; exact h.2.2.2 b hb j⟩
theorem Fr.au (h : Fr P μ μ') (ha : P a) : Fr P μ (uA μ' a f) := ⟨h.1, h.2.1, h.2.2.1, fun b hb j => by rw [mI_An (fun z => hb (by rw [z]; exact ha))]; exact h.2.2.2 b hb j⟩
theorem Fr.nx (h : Fr P μ μ') : mX μ' = mX μ := h.1
theorem Fr.sh (h : Fr P μ μ') : mS μ' = mS μ := by funext a; unfold mS; rw [h.2.1]
theorem Fr.rf (h : Fr P μ μ') : mR μ' = mR μ := by funext a k; unfold mR; rw [h.2.2.1]
theorem Fr.lg (h : Fr P μ μ') : mJ μ' = mJ μ := by funext a k; unfold mJ; rw [h.2.2.1]
theorem Fr.st {s : Nat} (h : Fr P μ μ') (hS : StS μ s) : StS μ' s := by unfold StS; rw [h.sh, h.rf]; exact hS
theorem Fr.sc {s : Nat} (h : Fr P μ μ') (hS : ScS μ s) : ScS μ' s := by unfold ScS; rw [h.sh, h.rf]; exact hS
theorem Fr.sd (h : Fr P μ μ') (hS : ShD μ) : ShD μ' := by unfold ShD; rw [h.sh, h.rf]; exact hS
theorem Fr.sr {s c : Nat} (h : Fr P μ μ') (hS : ShR μ s c) : ShR μ' s c := by
  unfold ShR
  rw [h.sh, h.rf]
  obtain ⟨w0, w1, w2, w3, w4, w5, w6, w7, w8, w9, w10, w11, w12, w13, w14, w15⟩ := hS
  exact ⟨w0, w1, w2, w3, w4, w5, w6, w7, w8, w9, w10, h.sd w11, h.st w12, h.sc w13, w14, w15⟩
end FrS
def cpM (μ : Mu) (a ca ta b cb tb : Nat) : Mu := uA (uA (uI (uI (uI (uI (uI (uI (uI (uI μ a 0 (mI μ b 0)) a 1 (mI μ b 1)) a 2 (mI μ b 2)) a 3 (mI μ b 3)) a 4 (mI μ b 4)) a 5 (mI μ b 5)) a 6 (mI μ b 6)) a 7 (mI μ b 7)) ca (fil (mI μ cb) (mI μ ca) 16)) ta (fil (mI μ tb) (mI μ ta) 41)
section CopyS
variable {d : Nat} {Q : Po} {μ : Mu} {s s' n m a b ca ta cb tb : Nat} {l2 : Option Value}
theorem s_61 (ha : mS μ a = (7, 10)) (hb : mS μ b = (7, 10)) (a1 : 1000 ≤ a) (b1 : 1000 ≤ b) (hca : mR μ a 8 = some ca) (hta : mR μ a 9 = some ta) (hcb : mR μ b 8 = some cb) (htb : mR μ b 9 = some tb) (sca : mS μ ca = (20, 16)) (sta : mS μ ta = (20, 41)) (scb : mS μ cb = (20, 16)) (stb : mS μ tb = (20, 41)) (h4 : mI μ b 4 = nI 0 ∨ mI μ b 4 = nI 1) (d1 : a + 3 ≤ b ∨ b + 3 ≤ a) (e1 : ca = a + 1) (e2 : ta = a + 2) (e3 : cb = b + 1) (e4 : tb = b + 2) : Ev (d + 1) 61 [.ref a, .ref b] μ Q = Q (some none) (cpM μ a ca ta b cb tb) := by
  rw [in_61]
  simp (disch := first | omega | rfl) only [e_61_0, e_61_1, e_61_2, e_61_5, e_61_8, e_61_9, e_61_10, e_61_13, e_61_16, e_61_17, e_61_18, e_61_21, e_61_24, e_61_25, e_61_26, e_61_29, e_61_32, e_61_33, e_61_34, e_61_37, e_61_40, e_61_41, e_61_42, e_61_45, e_61_48, e_61_49, e_61_50, e_61_53, e_61_56, e_61_57, e_61_58, e_61_61, e_61_64, e_61_65, e_61_68, e_61_69, e_61_70, e_61_73, e_61_74, e_61_76, e_61_79, e_61_80, e_61_83, e_61_84, e_61_85, e_61_88, e_61_89, e_61_91, e_61_94, ge1, ule_t, true_or, or_true, nI_add, nI_mul, nI_sub, nI_clamp, nI_lt_t, nI_lt_f, nI_le_t, nI_le_f, nI_eq_t, nI_eq_f, vp_nI, tI, fI, not_true, not_false_iff, true_and, and_true, Classical.not_not, mS_uI, mS_uA, mS_uJ, mS_uR, mS_uX, mR_uI, mR_uA, mR_uJ, mR_uX, mX_uI, mX_uA, mX_uJ, mX_uR, mI_s, mI_n, mI_A, mI_An, mI_uJ, mI_uR, mI_uX, mJ_uI, mJ_uA, mJ_uR, mJ_uX, onR_s, kC_v, kC_n, kC_t, ha, hb, hca, hta, hcb, htb, sca, sta, scb, stb, h4, mI_nf, mI_Anf, leT, cpy_fil]
  rfl
/-- a state has been copied -/
def CpS (μ μ' : Mu) (s' s m : Nat) : Prop := Fr (fun a => s' ≤ a ∧ a ≤ s' + 22) μ μ' ∧ mI μ' s' 1 = mI μ s 1 ∧ ∀ i, i < m → (∀ k, k < 8 → mI μ' (s' + 5 + 3 * i) k = mI μ (s + 5 + 3 * i) k) ∧ (∀ k, k < 16 → mI μ' (s' + 6 + 3 * i) k = mI μ (s + 6 + 3 * i) k) ∧ ∀ k, k < 41 → mI μ' (s' + 7 + 3 * i) k = mI μ (s + 7 + 3 * i) k
theorem cpM_a {μ : Mu} {a b k : Nat} (hk : k < 8) : mI (cpM μ a (a + 1) (a + 2) b (b + 1) (b + 2)) a k = mI μ b k := by
  unfold cpM
  rw [mI_An (by omega), mI_An (by omega)]
  rcases (by omega : k = 0 ∨ k = 1 ∨ k = 2 ∨ k = 3 ∨ k = 4 ∨ k = 5 ∨ k = 6 ∨ k = 7) with rfl | rfl | rfl | rfl | rfl | rfl | rfl | rfl <;> simp (disch := omega) only [mI_s, mI_n]
theorem cpM_c {μ : Mu} {a b k : Nat} (hk : k < 16) : mI (cpM μ a (a + 1) (a + 2) b (b + 1) (b + 2)) (a + 1) k = mI μ (b + 1) k := by
  unfold cpM
  rw [mI_An (by omega), mI_A, fil, if_pos hk]
theorem cpM_t {μ : Mu} {a b k : Nat} (hk : k < 41) : mI (cpM μ a (a + 1) (a + 2) b (b + 1) (b + 2)) (a + 2) k = mI μ (b + 2) k := by
  unfold cpM
  rw [mI_A, fil, if_pos hk]
theorem cpM_fr {μ : Mu} {a b : Nat} : Fr (fun x => x = a ∨ x = a + 1 ∨ x = a + 2) μ (cpM μ a (a + 1) (a + 2) b (b + 1) (b + 2)) := by
  unfold cpM
  exact ((((((((((Fr.refl.iu (Or.inl rfl)).iu (Or.inl rfl)).iu (Or.inl rfl)).iu (Or.inl rfl)).iu (Or.inl rfl)).iu (Or.inl rfl)).iu (Or.inl rfl)).iu (Or.inl rfl)).au (Or.inr (Or.inl rfl))).au (Or.inr (Or.inr rfl)))
theorem l_74 (hS' : StS μ s') (hS : StS μ s) (hd : s + 23 ≤ s' ∨ s' + 23 ≤ s) (hn : mI μ s 1 = nI n) (h6 : n ≤ 6) (hV : ∀ m, m < n → cV μ s m 2 = nI 0 ∨ cV μ s m 2 = nI 1) : ∀ k m μ1, m + k = n → CpS μ μ1 s' s m → (∀ μ2, CpS μ μ2 s' s n → EM 74 (d + 1) 39 [some (.ref s'), some (.ref s), some (.int (nI n))] [] μ2 (0, 0) Q) → EM 74 (d + 1) 10 [some (.ref s'), some (.ref s), some (.int (nI m))] [] μ1 (0, 0) Q := by
  have hS0 := hS
  obtain ⟨q0, q1, q2, q3, q4, q5, q6, q7, q8, q9, q10, q11, q12, q13, q14, q15⟩ := hS
  obtain ⟨t0, t1, t2, t3, t4, t5, t6, t7, t8, t9, t10, t11, t12, t13, t14, t15⟩ := hS'
  intro k
  induction k with
  | zero =>
    intro m μ1 hm h1 hq
    obtain rfl : m = n := by omega
    rw [e_74_10]
    have hsn : mI μ1 s' 1 = nI m := h1.2.1.trans hn
    simp (disch := first | omega | rfl) only [e_74_0, e_74_1, e_74_2, e_74_5, e_74_8, e_74_9, e_74_11, e_74_12, e_74_15, e_74_18, e_74_19, e_74_22, e_74_23, e_74_24, e_74_25, e_74_28, e_74_29, e_74_30, e_74_33, e_74_36, ge1, ule_t, true_or, or_true, nI_add, nI_mul, nI_sub, nI_clamp, nI_lt_t, nI_lt_f, nI_le_t, nI_le_f, nI_eq_t, nI_eq_f, vp_nI, tI, fI, not_true, not_false_iff, true_and, and_true, Classical.not_not, mS_uI, mS_uA, mS_uJ, mS_uR, mS_uX, mR_uI, mR_uA, mR_uJ, mR_uX, mX_uI, mX_uA, mX_uJ, mX_uR, mI_s, mI_n, mI_A, mI_An, mI_uJ, mI_uR, mI_uX, mJ_uI, mJ_uA, mJ_uR, mJ_uX, onR_s, kC_v, kC_n, kC_t, h1.1.sh, h1.1.rf, t1, hsn]
    exact hq μ1 h1
  | succ k ih =>
    intro m μ1 hm h1 hq
    rw [e_74_10]
    have hsn : mI μ1 s' 1 = nI n := h1.2.1.trans hn
    have hf := h1.1
    have g1 : mI μ1 (s + 5 + 3 * m) 4 = mI μ (s + 5 + 3 * m) 4 := hf.2.2.2 _ (by omega) _
    have h61 := fun (d : Nat) (Q : Po) => s_61 (d := d) (Q := Q) (μ := μ1) (a := s' + 5 + 3 * m) (b := s + 5 + 3 * m) (ca := s' + 6 + 3 * m) (ta := s' + 7 + 3 * m) (cb := s + 6 + 3 * m) (tb := s + 7 + 3 * m) (by rw [hf.sh]; exact t11 m (by omega)) (by rw [hf.sh]; exact q11 m (by omega)) (by omega) (by omega) (by rw [hf.rf]; exact t12 m (by omega)) (by rw [hf.rf]; exact t13 m (by omega)) (by rw [hf.rf]; exact q12 m (by omega)) (by rw [hf.rf]; exact q13 m (by omega)) (by rw [hf.sh]; exact t14 m (by omega)) (by rw [hf.sh]; exact t15 m (by omega)) (by rw [hf.sh]; exact q14 m (by omega)) (by rw [hf.sh]; exact q15 m (by omega)) (by rw [g1]; exact hV m (by omega)) (by omega) (by omega) (by omega) (by omega) (by omega)
    have ee : ∀ x, x + 6 + 3 * m = x + 5 + 3 * m + 1 ∧ x + 7 + 3 * m = x + 5 + 3 * m + 2 := fun x => by omega
    have hcp : CpS μ (cpM μ1 (s' + 5 + 3 * m) (s' + 6 + 3 * m) (s' + 7 + 3 * m) (s + 5 + 3 * m) (s + 6 + 3 * m) (s + 7 + 3 * m)) s' s (m + 1) := by
      rw [(ee s').1, (ee s').2, (ee s).1, (ee s).2]
      have hfr := cpM_fr (μ := μ1) (a := s' + 5 + 3 * m) (b := s + 5 + 3 * m)
      refine ⟨hf.trans (hfr.mono (fun a ha => by omega)), ?_, ?_⟩
      · rw [hfr.2.2.2 s' (by omega)]; exact h1.2.1
      · intro i hi
        by_cases him : i = m
        · subst him
          refine ⟨fun k hk => ?_, fun k hk => ?_, fun k hk => ?_⟩
          · rw [cpM_a hk]; exact hf.2.2.2 _ (by omega) _
          · rw [(ee s').1, (ee s).1, cpM_c hk]; exact hf.2.2.2 _ (by omega) _
          · rw [(ee s').2, (ee s).2, cpM_t hk]; exact hf.2.2.2 _ (by omega) _
        · obtain ⟨c1, c2, c3⟩ := h1.2.2 i (by omega)
          refine ⟨fun k hk => ?_, fun k hk => ?_, fun k hk => ?_⟩
          · rw [hfr.2.2.2 _ (by omega)]; exact c1 k hk
          · rw [hfr.2.2.2 _ (by omega)]; exact c2 k hk
          · rw [hfr.2.2.2 _ (by omega)]; exact c3 k hk
    simp (disch := first | omega | rfl) only [e_74_0, e_74_1, e_74_2, e_74_5, e_74_8, e_74_9, e_74_11, e_74_12, e_74_15, e_74_18, e_74_19, e_74_22, e_74_23, e_74_24, e_74_25, e_74_28, e_74_29, e_74_30, e_74_33, e_74_36, e_74_39, e_74_40, e_74_41, e_74_44, e_74_47, e_74_48, e_74_49, e_74_52, e_74_55, e_74_56, e_74_59, e_74_60, e_74_61, e_74_64, e_74_65, e_74_66, e_74_69, e_74_70, e_74_73, e_74_74, e_74_77, e_74_80, ge1, ule_t, true_or, or_true, nI_add, nI_mul, nI_sub, nI_clamp, nI_lt_t, nI_lt_f, nI_le_t, nI_le_f, nI_eq_t, nI_eq_f, vp_nI, tI, fI, not_true, not_false_iff, true_and, and_true, Classical.not_not, mS_uI, mS_uA, mS_uJ, mS_uR, mS_uX, mR_uI, mR_uA, mR_uJ, mR_uX, mX_uI, mX_uA, mX_uJ, mX_uR, mI_s, mI_n, mI_A, mI_An, mI_uJ, mI_uR, mI_uX, mJ_uI, mJ_uA, mJ_uR, mJ_uX, onR_s, kC_v, kC_n, kC_t, hf.sh, hf.rf, t1, t2, t5, t10, t11, q1, q2, q5, q10, q11, hsn, h61]
    exact ih (m + 1) _ (by omega) hcp hq
/-- a whole state has been copied -/
def CpW (μ μ' : Mu) (s' s n : Nat) : Prop := CpS μ μ' s' s n ∧ mI μ' s' 2 = mI μ s 2 ∧ mI μ' s' 3 = mI μ s 3 ∧ (∀ k, k < 2 → mI μ' (s' + 2) k = mI μ (s + 2) k) ∧ mI μ' (s' + 3) 1 = mI μ (s + 3) 1 ∧ ∀ k, k < 40 → mI μ' (s' + 4) k = mI μ (s + 4) k
theorem s_74 (hS' : StS μ s') (hS : StS μ s) (hd : s + 23 ≤ s' ∨ s' + 23 ≤ s) (hn : mI μ s 1 = nI n) (h6 : n ≤ 6) (hV : ∀ m, m < n → cV μ s m 2 = nI 0 ∨ cV μ s m 2 = nI 1) (hq : ∀ μ2, CpW μ μ2 s' s n → Q (some none) μ2) : Ev (d + 2) 74 [.ref s', .ref s] μ Q := by
  have hS0 := hS
  have hS1 := hS'
  obtain ⟨q0, q1, q2, q3, q4, q5, q6, q7, q8, q9, q10, q11, q12, q13, q14, q15⟩ := hS
  obtain ⟨t0, t1, t2, t3, t4, t5, t6, t7, t8, t9, t10, t11, t12, t13, t14, t15⟩ := hS'
  rw [in_74]
  simp (disch := first | omega | rfl) only [e_74_0, e_74_1, e_74_2, e_74_5, e_74_8, e_74_9, e_74_11, e_74_12, e_74_15, e_74_18, e_74_19, e_74_22, e_74_23, e_74_24, e_74_25, e_74_28, e_74_29, e_74_30, e_74_33, e_74_36, e_74_39, e_74_40, e_74_41, e_74_44, e_74_47, e_74_48, e_74_49, e_74_52, e_74_55, e_74_56, e_74_59, e_74_60, e_74_61, e_74_64, e_74_65, e_74_66, e_74_69, e_74_70, e_74_73, e_74_74, e_74_77, e_74_80, ge1, ule_t, true_or, or_true, nI_add, nI_mul, nI_sub, nI_clamp, nI_lt_t, nI_lt_f, nI_le_t, nI_le_f, nI_eq_t, nI_eq_f, vp_nI, tI, fI, not_true, not_false_iff, true_and, and_true, Classical.not_not, mS_uI, mS_uA, mS_uJ, mS_uR, mS_uX, mR_uI, mR_uA, mR_uJ, mR_uX, mX_uI, mX_uA, mX_uJ, mX_uR, mI_s, mI_n, mI_A, mI_An, mI_uJ, mI_uR, mI_uX, mJ_uI, mJ_uA, mJ_uR, mJ_uX, onR_s, kC_v, kC_n, kC_t, q1, t1]
  refine l_74 hS1 hS0 hd hn h6 hV n 0 _ (by omega) ⟨Fr.refl.iu (by omega), by rw [mI_s, hn], fun i hi => absurd hi (Nat.not_lt_zero i)⟩ ?_
  intro μ2 hc
  have hf := hc.1
  simp (disch := first | omega | rfl) only [e_74_0, e_74_1, e_74_2, e_74_5, e_74_8, e_74_9, e_74_10, e_74_11, e_74_12, e_74_15, e_74_18, e_74_19, e_74_22, e_74_23, e_74_24, e_74_25, e_74_28, e_74_29, e_74_30, e_74_33, e_74_36, e_74_39, e_74_40, e_74_41, e_74_44, e_74_47, e_74_48, e_74_49, e_74_52, e_74_55, e_74_56, e_74_59, e_74_60, e_74_61, e_74_64, e_74_65, e_74_66, e_74_69, e_74_70, e_74_73, e_74_74, e_74_77, e_74_80, ge1, ule_t, true_or, or_true, nI_add, nI_mul, nI_sub, nI_clamp, nI_lt_t, nI_lt_f, nI_le_t, nI_le_f, nI_eq_t, nI_eq_f, vp_nI, tI, fI, not_true, not_false_iff, true_and, and_true, Classical.not_not, mS_uI, mS_uA, mS_uJ, mS_uR, mS_uX, mR_uI, mR_uA, mR_uJ, mR_uX, mX_uI, mX_uA, mX_uJ, mX_uR, mI_s, mI_n, mI_A, mI_An, mI_uJ, mI_uR, mI_uX, mJ_uI, mJ_uA, mJ_uR, mJ_uX, onR_s, kC_v, kC_n, kC_t, hf.sh, hf.rf, t0, t1, t3, t4, t6, t7, t8, t9, q0, q1, q3, q4, q6, q7, q8, q9, in_34, e_34_0, e_34_1, e_34_2, e_34_5, e_34_8, e_34_9, e_34_12, e_34_13, e_34_14, e_34_17, e_34_18, e_34_20, e_34_23, mI_nf, mI_Anf, leT, cpy_fil]
  refine hq _ ⟨⟨?_, ?_, ?_⟩, ?_, ?_, ?_, ?_, ?_⟩
  · exact ((((hf.iu (by omega)).iu (by omega)).au (by omega)).iu (by omega)).au (by omega)
  · simp (disch := first | omega | rfl) only [mS_uI, mS_uA, mS_uJ, mS_uR, mS_uX, mR_uI, mR_uA, mR_uJ, mR_uX, mX_uI, mX_uA, mX_uJ, mX_uR, mI_s, mI_n, mI_A, mI_An, mI_uJ, mI_uR, mI_uX, mJ_uI, mJ_uA, mJ_uR, mJ_uX, onR_s, kC_v, kC_n, kC_t]
    exact hc.2.1
  · intro i hi
    obtain ⟨c1, c2, c3⟩ := hc.2.2 i hi
    refine ⟨fun k hk => ?_, fun k hk => ?_, fun k hk => ?_⟩
    · simp (disch := first | omega | rfl) only [mS_uI, mS_uA, mS_uJ, mS_uR, mS_uX, mR_uI, mR_uA, mR_uJ, mR_uX, mX_uI, mX_uA, mX_uJ, mX_uR, mI_s, mI_n, mI_A, mI_An, mI_uJ, mI_uR, mI_uX, mJ_uI, mJ_uA, mJ_uR, mJ_uX, onR_s, kC_v, kC_n, kC_t, mI_An]
      exact c1 k hk
    · simp (disch := first | omega | rfl) only [mS_uI, mS_uA, mS_uJ, mS_uR, mS_uX, mR_uI, mR_uA, mR_uJ, mR_uX, mX_uI, mX_uA, mX_uJ, mX_uR, mI_s, mI_n, mI_A, mI_An, mI_uJ, mI_uR, mI_uX, mJ_uI, mJ_uA, mJ_uR, mJ_uX, onR_s, kC_v, kC_n, kC_t, mI_An]
      exact c2 k hk
    · simp (disch := first | omega | rfl) only [mS_uI, mS_uA, mS_uJ, mS_uR, mS_uX, mR_uI, mR_uA, mR_uJ, mR_uX, mX_uI, mX_uA, mX_uJ, mX_uR, mI_s, mI_n, mI_A, mI_An, mI_uJ, mI_uR, mI_uX, mJ_uI, mJ_uA, mJ_uR, mJ_uX, onR_s, kC_v, kC_n, kC_t, mI_An]
      exact c3 k hk
  · simp (disch := first | omega | rfl) only [mS_uI, mS_uA, mS_uJ, mS_uR, mS_uX, mR_uI, mR_uA, mR_uJ, mR_uX, mX_uI, mX_uA, mX_uJ, mX_uR, mI_s, mI_n, mI_A, mI_An, mI_uJ, mI_uR, mI_uX, mJ_uI, mJ_uA, mJ_uR, mJ_uX, onR_s, kC_v, kC_n, kC_t, mI_An]
    exact hf.2.2.2 _ (by omega) _
  · simp (disch := first | omega | rfl) only [mS_uI, mS_uA, mS_uJ, mS_uR, mS_uX, mR_uI, mR_uA, mR_uJ, mR_uX, mX_uI, mX_uA, mX_uJ, mX_uR, mI_s, mI_n, mI_A, mI_An, mI_uJ, mI_uR, mI_uX, mJ_uI, mJ_uA, mJ_uR, mJ_uX, onR_s, kC_v, kC_n, kC_t, mI_An]
    exact hf.2.2.2 _ (by omega) _
  · intro k hk
    simp (disch := first | omega | rfl) only [mS_uI, mS_uA, mS_uJ, mS_uR, mS_uX, mR_uI, mR_uA, mR_uJ, mR_uX, mX_uI, mX_uA, mX_uJ, mX_uR, mI_s, mI_n, mI_A, mI_An, mI_uJ, mI_uR, mI_uX, mJ_uI, mJ_uA, mJ_uR, mJ_uX, onR_s, kC_v, kC_n, kC_t, mI_An, fil, hk, if_true]
    exact hf.2.2.2 _ (by omega) _
  · simp (disch := first | omega | rfl) only [mS_uI, mS_uA, mS_uJ, mS_uR, mS_uX, mR_uI, mR_uA, mR_uJ, mR_uX, mX_uI, mX_uA, mX_uJ, mX_uR, mI_s, mI_n, mI_A, mI_An, mI_uJ, mI_uR, mI_uX, mJ_uI, mJ_uA, mJ_uR, mJ_uX, onR_s, kC_v, kC_n, kC_t, mI_An]
    exact hf.2.2.2 _ (by omega) _
  · intro k hk
    simp (disch := first | omega | rfl) only [mS_uI, mS_uA, mS_uJ, mS_uR, mS_uX, mR_uI, mR_uA, mR_uJ, mR_uX, mX_uI, mX_uA, mX_uJ, mX_uR, mI_s, mI_n, mI_A, mI_An, mI_uJ, mI_uR, mI_uX, mJ_uI, mJ_uA, mJ_uR, mJ_uX, onR_s, kC_v, kC_n, kC_t, mI_An, fil, hk, if_true]
    exact hf.2.2.2 _ (by omega) _
end CopyS


