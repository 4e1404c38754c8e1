/-! reading: tokens -/
abbrev isLr (b : Nat) : Prop := 97 ≤ b ∧ b ≤ 122
abbrev isD (b : Nat) : Prop := 48 ≤ b ∧ b ≤ 57
abbrev isB (b : Nat) : Prop := b = 32 ∨ b = 10
/-- kind (0 end, 1 word, 2 integer, 3 semicolon, 4 other), where it begins, where it ends, the integer read last -/
abbrev TK : Type := Nat × Nat × Nat × Nat
def mstep (v b : Nat) : Nat := if 100000 < v then v else 10 * v + b - 48
def cvl (v : Nat) : Nat := if v < 10000 then v else 10000
def skF (f : Nat → Nat) : Nat → Nat → Nat
  | 0, p => p
  | n + 1, p => if isB (f p) then skF f n (p + 1) else p
def wdF (f : Nat → Nat) : Nat → Nat → Nat
  | 0, p => p
  | n + 1, p => if isLr (f p) then wdF f n (p + 1) else p
def dgF (f : Nat → Nat) : Nat → Nat → Nat → Nat × Nat
  | 0, p, v => (p, v)
  | n + 1, p, v => if isD (f p) then dgF f n (p + 1) (mstep v (f p)) else (p, v)
def tkA (f : Nat → Nat) (L a v : Nat) : TK := if L ≤ a then (0, a, a, v) else if isLr (f a) then (1, a, wdF f (L - a) a, v) else if isD (f a) then (2, a, (dgF f (L - a) a 0).1, (dgF f (L - a) a 0).2) else ((if f a = 59 then 3 else 4), a, a + 1, v)
def tkn (f : Nat → Nat) (L e v : Nat) : TK := tkA f L (skF f (L - e) e) v
def nx (f : Nat → Nat) (L : Nat) (t : TK) : TK := tkn f L t.2.2.1 t.2.2.2
theorem skF_le {f : Nat → Nat} : ∀ n p, p ≤ skF f n p ∧ skF f n p ≤ p + n
  | 0, p => ⟨Nat.le_refl _, Nat.le_refl _⟩
  | n + 1, p => by
    have := skF_le (f := f) n (p + 1)
    rw [skF]
    split <;> omega
theorem wdF_le {f : Nat → Nat} : ∀ n p, p ≤ wdF f n p ∧ wdF f n p ≤ p + n
  | 0, p => ⟨Nat.le_refl _, Nat.le_refl _⟩
  | n + 1, p => by
    have := wdF_le (f := f) n (p + 1)
    rw [wdF]
    split <;> omega
theorem wdF_lt {f : Nat → Nat} {n p : Nat} (h : isLr (f p)) (hn : 0 < n) : p < wdF f n p := by
  obtain ⟨m, rfl⟩ : ∃ m, n = m + 1 := ⟨n - 1, by omega⟩
  rw [wdF, if_pos h]
  have := wdF_le (f := f) m (p + 1)
  omega
theorem wdF_all {f : Nat → Nat} : ∀ n p k, p ≤ k → k < wdF f n p → isLr (f k)
  | 0, p, k, h1, h2 => absurd h2 (by rw [wdF]; omega)
  | n + 1, p, k, h1, h2 => by
    rw [wdF] at h2
    by_cases h : isLr (f p)
    · rw [if_pos h] at h2
      by_cases hk : k = p
      · rw [hk]; exact h
      · exact wdF_all n (p + 1) k (by omega) h2
    · rw [if_neg h] at h2
      omega
theorem mstep_le {v b : Nat} (hv : v ≤ 1000009) (hb : b ≤ 57) : mstep v b ≤ 1000009 := by
  unfold mstep
  split <;> omega
theorem dgF_le {f : Nat → Nat} : ∀ n p v, p ≤ (dgF f n p v).1 ∧ (dgF f n p v).1 ≤ p + n
  | 0, p, v => ⟨Nat.le_refl _, Nat.le_refl _⟩
  | n + 1, p, v => by
    have := dgF_le (f := f) n (p + 1) (mstep v (f p))
    rw [dgF]
    split
    · omega
    · exact ⟨Nat.le_refl _, by omega⟩
theorem dgF_v {f : Nat → Nat} : ∀ n p v, v ≤ 1000009 → (dgF f n p v).2 ≤ 1000009
  | 0, p, v, h => h
  | n + 1, p, v, h => by
    rw [dgF]
    split
    · rename_i h1
      exact dgF_v n (p + 1) _ (mstep_le h h1.2)
    · exact h
theorem dgF_lt {f : Nat → Nat} {n p v : Nat} (h : isD (f p)) (hn : 0 < n) : p < (dgF f n p v).1 := by
  obtain ⟨m, rfl⟩ : ∃ m, n = m + 1 := ⟨n - 1, by omega⟩
  rw [dgF, if_pos h]
  have := dgF_le (f := f) m (p + 1) (mstep v (f p))
  omega
/-- what a token keeps -/
def okTk (f : Nat → Nat) (L : Nat) (t : TK) : Prop := t.1 ≤ 4 ∧ t.2.1 ≤ t.2.2.1 ∧ t.2.2.1 ≤ L ∧ (¬ t.1 = 0 → t.2.1 < t.2.2.1) ∧ (t.1 = 0 → L ≤ t.2.1) ∧ (t.1 = 1 → ∀ k, t.2.1 ≤ k → k < t.2.2.1 → isLr (f k)) ∧ (3 ≤ t.1 → (f t.2.1 = 59 ↔ t.1 = 3)) ∧ t.2.2.2 ≤ 1000009
theorem tkA_0 {f : Nat → Nat} {L a v : Nat} (h : L ≤ a) : tkA f L a v = (0, a, a, v) := if_pos h
theorem tkA_1 {f : Nat → Nat} {L a v : Nat} (h : ¬ L ≤ a) (h1 : isLr (f a)) : tkA f L a v = (1, a, wdF f (L - a) a, v) := by unfold tkA; rw [if_neg h, if_pos h1]
theorem tkA_2 {f : Nat → Nat} {L a v : Nat} (h : ¬ L ≤ a) (h1 : ¬ isLr (f a)) (h2 : isD (f a)) : tkA f L a v = (2, a, (dgF f (L - a) a 0).1, (dgF f (L - a) a 0).2) := by unfold tkA; rw [if_neg h, if_neg h1, if_pos h2]
theorem tkA_3 {f : Nat → Nat} {L a v : Nat} (h : ¬ L ≤ a) (h1 : ¬ isLr (f a)) (h2 : ¬ isD (f a)) : tkA f L a v = ((if f a = 59 then 3 else 4), a, a + 1, v) := by unfold tkA; rw [if_neg h, if_neg h1, if_neg h2]
theorem ok_tkA {f : Nat → Nat} {L a v : Nat} (ha : a ≤ L) (hv : v ≤ 1000009) : okTk f L (tkA f L a v) := by
  by_cases h : L ≤ a
  · rw [tkA_0 h]
    exact ⟨by omega, Nat.le_refl _, ha, fun z => absurd rfl z, fun _ => h, fun z => absurd z (by omega), fun z => absurd z (by omega), hv⟩
  · by_cases h1 : isLr (f a)
    · rw [tkA_1 h h1]
      have := wdF_le (f := f) (L - a) a
      exact ⟨by omega, this.1, by show wdF f (L - a) a ≤ L; omega, fun _ => wdF_lt h1 (by omega), fun z => absurd z (by omega), fun _ k k1 k2 => wdF_all _ _ k k1 k2, fun z => absurd z (by omega), hv⟩
    · by_cases h2 : isD (f a)
      · rw [tkA_2 h h1 h2]
        have := dgF_le (f := f) (L - a) a 0
        exact ⟨by omega, this.1, by show (dgF f (L - a) a 0).1 ≤ L; omega, fun _ => dgF_lt h2 (by omega), fun z => absurd z (by omega), fun z => absurd z (by omega), fun z => absurd z (by omega), dgF_v _ _ _ (by omega)⟩
      · rw [tkA_3 h h1 h2]
        by_cases h3 : f a = 59
        · rw [if_pos h3]
          exact ⟨by omega, by show a ≤ a + 1; omega, by show a + 1 ≤ L; omega, fun _ => by show a < a + 1; omega, fun z => absurd z (by omega), fun z => absurd z (by omega), fun _ => ⟨fun _ => rfl, fun _ => h3⟩, hv⟩
        · rw [if_neg h3]
          exact ⟨by omega, by show a ≤ a + 1; omega, by show a + 1 ≤ L; omega, fun _ => by show a < a + 1; omega, fun z => absurd z (by omega), fun z => absurd z (by omega), fun _ => ⟨fun z => absurd z h3, fun z => absurd z (by omega)⟩, hv⟩
theorem ok_tkn {f : Nat → Nat} {L e v : Nat} (he : e ≤ L) (hv : v ≤ 1000009) : okTk f L (tkn f L e v) ∧ e ≤ (tkn f L e v).2.1 := by
  have := skF_le (f := f) (L - e) e
  refine ⟨ok_tkA (by omega) hv, ?_⟩
  have h : ∀ a, (tkA f L a v).2.1 = a := fun a => by
    unfold tkA
    split
    · rfl
    · split
      · rfl
      · split <;> rfl
  unfold tkn
  rw [h]
  exact this.1
theorem ok_nx {f : Nat → Nat} {L : Nat} {t : TK} (h : okTk f L t) : okTk f L (nx f L t) ∧ t.2.2.1 ≤ (nx f L t).2.1 := ok_tkn h.2.2.1 h.2.2.2.2.2.2.2
/-! bytes of the class -/
theorem sgB_toInt : ∀ b, b < 256 → (sgB b).toInt = if b < 128 then (b : Int) else (b : Int) - 256 := by decide +kernel
theorem sgB_s {b : Nat} (h : b < 128) : sgB b = nI b := if_pos h
theorem sgB_eqc {b c : Nat} (hb : b < 256) (hc : c < 128) : (sgB b = nI c) = (b = c) := by
  apply propext
  rw [← Int32.toInt_inj, sgB_toInt b hb, nI_toInt (by omega)]
  split <;> omega
theorem sgB_ltc {b c : Nat} (hb : b < 256) (hc : c < 128) : (sgB b < nI c) = (b < c ∨ 128 ≤ b) := by
  apply propext
  rw [Int32.lt_iff_toInt_lt, sgB_toInt b hb, nI_toInt (by omega)]
  split <;> omega
theorem sgB_gtc {b c : Nat} (hb : b < 256) (hc : c < 128) : (nI c < sgB b) = (c < b ∧ b < 128) := by
  apply propext
  rw [Int32.lt_iff_toInt_lt, sgB_toInt b hb, nI_toInt (by omega)]
  split <;> omega
/-! the loader's numbers -/
def ldG (g : Nat → Int32) (L hs gs k a e v : Nat) (tk er ea : Int32) : Nat → Int32 := fun j => if j = 3 then nI L else if j = 4 then nI hs else if j = 5 then nI gs else if j = 6 then nI k else if j = 7 then nI a else if j = 8 then nI e else if j = 9 then nI (cvl v) else if j = 10 then tk else if j = 11 then er else if j = 12 then ea else g j
section LdG
variable {g : Nat → Int32} {L hs gs k a e v x : Nat} {tk er ea y : Int32}
theorem ld_3 : ldG g L hs gs k a e v tk er ea 3 = nI L := rfl
theorem ld_4 : ldG g L hs gs k a e v tk er ea 4 = nI hs := rfl
theorem ld_5 : ldG g L hs gs k a e v tk er ea 5 = nI gs := rfl
theorem ld_6 : ldG g L hs gs k a e v tk er ea 6 = nI k := rfl
theorem ld_7 : ldG g L hs gs k a e v tk er ea 7 = nI a := rfl
theorem ld_8 : ldG g L hs gs k a e v tk er ea 8 = nI e := rfl
theorem ld_9 : ldG g L hs gs k a e v tk er ea 9 = nI (cvl v) := rfl
theorem ld_10 : ldG g L hs gs k a e v tk er ea 10 = tk := rfl
theorem ld_11 : ldG g L hs gs k a e v tk er ea 11 = er := rfl
theorem ld_12 : ldG g L hs gs k a e v tk er ea 12 = ea := rfl
theorem ld_u4 : upd (ldG g L hs gs k a e v tk er ea) 4 (nI x) = ldG g L x gs k a e v tk er ea := by
  funext j; unfold upd ldG; by_cases h : j = 4
  · subst h; rfl
  · rw [if_neg h, if_neg h, if_neg h]
theorem ld_u5 : upd (ldG g L hs gs k a e v tk er ea) 5 (nI x) = ldG g L hs x k a e v tk er ea := by
  funext j; unfold upd ldG; by_cases h : j = 5
  · subst h; rfl
  · rw [if_neg h, if_neg h, if_neg h]
theorem ld_u6 : upd (ldG g L hs gs k a e v tk er ea) 6 (nI x) = ldG g L hs gs x a e v tk er ea := by
  funext j; unfold upd ldG; by_cases h : j = 6
  · subst h; rfl
  · rw [if_neg h, if_neg h, if_neg h]
theorem ld_u7 : upd (ldG g L hs gs k a e v tk er ea) 7 (nI x) = ldG g L hs gs k x e v tk er ea := by
  funext j; unfold upd ldG; by_cases h : j = 7
  · subst h; rfl
  · rw [if_neg h, if_neg h, if_neg h]
theorem ld_u8 : upd (ldG g L hs gs k a e v tk er ea) 8 (nI x) = ldG g L hs gs k a x v tk er ea := by
  funext j; unfold upd ldG; by_cases h : j = 8
  · subst h; rfl
  · rw [if_neg h, if_neg h, if_neg h]
theorem ld_u9 : upd (ldG g L hs gs k a e v tk er ea) 9 (nI (cvl x)) = ldG g L hs gs k a e x tk er ea := by
  funext j; unfold upd ldG; by_cases h : j = 9
  · subst h; rfl
  · rw [if_neg h, if_neg h, if_neg h]
theorem ld_u9z : upd (ldG g L hs gs k a e v tk er ea) 9 (nI 0) = ldG g L hs gs k a e 0 tk er ea := ld_u9 (x := 0)
theorem ld_u10 : upd (ldG g L hs gs k a e v tk er ea) 10 y = ldG g L hs gs k a e v y er ea := by
  funext j; unfold upd ldG; by_cases h : j = 10
  · subst h; rfl
  · rw [if_neg h, if_neg h, if_neg h]
theorem ld_u11 : upd (ldG g L hs gs k a e v tk er ea) 11 y = ldG g L hs gs k a e v tk y ea := by
  funext j; unfold upd ldG; by_cases h : j = 11
  · subst h; rfl
  · rw [if_neg h, if_neg h, if_neg h]
theorem ld_u12 : upd (ldG g L hs gs k a e v tk er ea) 12 y = ldG g L hs gs k a e v tk er y := by
  funext j; unfold upd ldG; by_cases h : j = 12
  · subst h; rfl
  · rw [if_neg h, if_neg h, if_neg h]
end LdG
theorem cvl_le (v : Nat) : cvl v ≤ 10000 := by unfold cvl; split <;> omega
theorem nI_minc {x : Nat} (hx : x < 2147483648) : (if nI x < nI 10000 then nI x else nI 10000) = nI (if x < 10000 then x else 10000) := by
  by_cases h : x < 10000
  · rw [if_pos h, if_pos (nI_lt h (by omega))]
  · rw [if_neg h, if_neg (nI_nlt (by omega) hx)]
theorem cst_eq {v b : Nat} (hb : isD b) : (if cvl v * 10 + b - 48 < 10000 then cvl v * 10 + b - 48 else 10000) = cvl (mstep v b) := by
  obtain ⟨h1, h2⟩ := hb
  unfold cvl mstep
  by_cases hv : v < 10000
  · rw [if_pos hv, if_neg (show ¬ 100000 < v by omega), show 10 * v + b - 48 = v * 10 + b - 48 by omega]
  · rw [if_neg hv]
    by_cases h3 : 100000 < v
    · rw [if_pos h3, if_neg hv, if_neg (by omega)]
    · rw [if_neg h3, if_neg (show ¬ 10 * v + b - 48 < 10000 by omega), if_neg (by omega)]
/-- the class's loader over a text -/
def LdC (μ : Mu) (f : Nat → Nat) (L : Nat) : Prop := mS μ 1030 = (6, 13) ∧ mR μ 1030 0 = some 1031 ∧ mS μ 1031 = (21, 900) ∧ (∀ k, k < L → mI μ 1031 k = sgB (f k)) ∧ (∀ k, f k < 256) ∧ L ≤ 900
section TokC
variable {d : Nat} {Q : Po} {μ : Mu} {f : Nat → Nat} {g F : Nat → Int32} {L hs gs k a e v p b : Nat} {tk er ea : Int32} {t : TK}
theorem s_58 (hL : LdC μ f L) (hp : p < L) : Ev (d + 1) 58 [.ref 1030, .int (nI p)] (uA μ 1030 F) Q = Q (some (some (.int (bI (isLr (f p)))))) (uA μ 1030 F) := by
  obtain ⟨h1, h2, h3, h4, h5, h6⟩ := hL
  have e1 := sgB_ltc (b := f p) (c := 97) (h5 p) (by omega)
  have e2 := sgB_gtc (b := f p) (c := 122) (h5 p) (by omega)
  have hb := h5 p
  rw [in_58]
  by_cases c1 : f p < 97 ∨ 128 ≤ f p
  · rw [eq_true c1] at e1
    simp (disch := first | omega | rfl) only [e_58_0, e_58_1, e_58_4, e_58_5, e_58_6, e_58_8, e_58_11, e_58_12, e_58_15, e_58_16, e_58_17, e_58_19, e_58_22, e_58_23, e_58_26, e_58_27, ge1, ule_t, true_or, or_true, nI_add, nI_mul, nI_sub, nI_clamp, nI_lt_t, nI_lt_f, nI_le_t, nI_le_f, nI_eq_t, nI_eq_f, vp_nI, tI, fI, not_true, not_false_iff, true_and, and_true, Classical.not_not, mS_uI, mS_uA, mS_uJ, mS_uR, mS_uX, mR_uI, mR_uA, mR_uJ, mR_uX, mX_uI, mX_uA, mX_uJ, mX_uR, mI_s, mI_n, mI_A, mI_An, mI_uJ, mI_uR, mI_uX, mJ_uI, mJ_uA, mJ_uR, mJ_uX, onR_s, kC_v, kC_n, kC_t, mI_An, h1, h2, h3, h4 p hp, e1, e2, bI_fi (show ¬ isLr (f p) by omega)]
  · rw [eq_false c1] at e1
    by_cases c2 : 122 < f p ∧ f p < 128
    · rw [eq_true c2] at e2
      simp (disch := first | omega | rfl) only [e_58_0, e_58_1, e_58_4, e_58_5, e_58_6, e_58_8, e_58_11, e_58_12, e_58_15, e_58_16, e_58_17, e_58_19, e_58_22, e_58_23, e_58_26, e_58_27, ge1, ule_t, true_or, or_true, nI_add, nI_mul, nI_sub, nI_clamp, nI_lt_t, nI_lt_f, nI_le_t, nI_le_f, nI_eq_t, nI_eq_f, vp_nI, tI, fI, not_true, not_false_iff, true_and, and_true, Classical.not_not, mS_uI, mS_uA, mS_uJ, mS_uR, mS_uX, mR_uI, mR_uA, mR_uJ, mR_uX, mX_uI, mX_uA, mX_uJ, mX_uR, mI_s, mI_n, mI_A, mI_An, mI_uJ, mI_uR, mI_uX, mJ_uI, mJ_uA, mJ_uR, mJ_uX, onR_s, kC_v, kC_n, kC_t, mI_An, h1, h2, h3, h4 p hp, e1, e2, bI_fi (show ¬ isLr (f p) by omega)]
    · rw [eq_false c2] at e2
      simp (disch := first | omega | rfl) only [e_58_0, e_58_1, e_58_4, e_58_5, e_58_6, e_58_8, e_58_11, e_58_12, e_58_15, e_58_16, e_58_17, e_58_19, e_58_22, e_58_23, e_58_26, e_58_27, ge1, ule_t, true_or, or_true, nI_add, nI_mul, nI_sub, nI_clamp, nI_lt_t, nI_lt_f, nI_le_t, nI_le_f, nI_eq_t, nI_eq_f, vp_nI, tI, fI, not_true, not_false_iff, true_and, and_true, Classical.not_not, mS_uI, mS_uA, mS_uJ, mS_uR, mS_uX, mR_uI, mR_uA, mR_uJ, mR_uX, mX_uI, mX_uA, mX_uJ, mX_uR, mI_s, mI_n, mI_A, mI_An, mI_uJ, mI_uR, mI_uX, mJ_uI, mJ_uA, mJ_uR, mJ_uX, onR_s, kC_v, kC_n, kC_t, mI_An, h1, h2, h3, h4 p hp, e1, e2, bI_ti (show isLr (f p) by omega)]
theorem s_59 (hL : LdC μ f L) (hp : p < L) : Ev (d + 1) 59 [.ref 1030, .int (nI p)] (uA μ 1030 F) Q = Q (some (some (.int (bI (isD (f p)))))) (uA μ 1030 F) := by
  obtain ⟨h1, h2, h3, h4, h5, h6⟩ := hL
  have e1 := sgB_ltc (b := f p) (c := 48) (h5 p) (by omega)
  have e2 := sgB_gtc (b := f p) (c := 57) (h5 p) (by omega)
  have hb := h5 p
  rw [in_59]
  by_cases c1 : f p < 48 ∨ 128 ≤ f p
  · rw [eq_true c1] at e1
    simp (disch := first | omega | rfl) only [e_59_0, e_59_1, e_59_4, e_59_5, e_59_6, e_59_8, e_59_11, e_59_12, e_59_15, e_59_16, e_59_17, e_59_19, e_59_22, e_59_23, e_59_26, e_59_27, ge1, ule_t, true_or, or_true, nI_add, nI_mul, nI_sub, nI_clamp, nI_lt_t, nI_lt_f, nI_le_t, nI_le_f, nI_eq_t, nI_eq_f, vp_nI, tI, fI, not_true, not_false_iff, true_and, and_true, Classical.not_not, mS_uI, mS_uA, mS_uJ, mS_uR, mS_uX, mR_uI, mR_uA, mR_uJ, mR_uX, mX_uI, mX_uA, mX_uJ, mX_uR, mI_s, mI_n, mI_A, mI_An, mI_uJ, mI_uR, mI_uX, mJ_uI, mJ_uA, mJ_uR, mJ_uX, onR_s, kC_v, kC_n, kC_t, mI_An, h1, h2, h3, h4 p hp, e1, e2, bI_fi (show ¬ isD (f p) by omega)]
  · rw [eq_false c1] at e1
    by_cases c2 : 57 < f p ∧ f p < 128
    · rw [eq_true c2] at e2
      simp (disch := first | omega | rfl) only [e_59_0, e_59_1, e_59_4, e_59_5, e_59_6, e_59_8, e_59_11, e_59_12, e_59_15, e_59_16, e_59_17, e_59_19, e_59_22, e_59_23, e_59_26, e_59_27, ge1, ule_t, true_or, or_true, nI_add, nI_mul, nI_sub, nI_clamp, nI_lt_t, nI_lt_f, nI_le_t, nI_le_f, nI_eq_t, nI_eq_f, vp_nI, tI, fI, not_true, not_false_iff, true_and, and_true, Classical.not_not, mS_uI, mS_uA, mS_uJ, mS_uR, mS_uX, mR_uI, mR_uA, mR_uJ, mR_uX, mX_uI, mX_uA, mX_uJ, mX_uR, mI_s, mI_n, mI_A, mI_An, mI_uJ, mI_uR, mI_uX, mJ_uI, mJ_uA, mJ_uR, mJ_uX, onR_s, kC_v, kC_n, kC_t, mI_An, h1, h2, h3, h4 p hp, e1, e2, bI_fi (show ¬ isD (f p) by omega)]
    · rw [eq_false c2] at e2
      simp (disch := first | omega | rfl) only [e_59_0, e_59_1, e_59_4, e_59_5, e_59_6, e_59_8, e_59_11, e_59_12, e_59_15, e_59_16, e_59_17, e_59_19, e_59_22, e_59_23, e_59_26, e_59_27, ge1, ule_t, true_or, or_true, nI_add, nI_mul, nI_sub, nI_clamp, nI_lt_t, nI_lt_f, nI_le_t, nI_le_f, nI_eq_t, nI_eq_f, vp_nI, tI, fI, not_true, not_false_iff, true_and, and_true, Classical.not_not, mS_uI, mS_uA, mS_uJ, mS_uR, mS_uX, mR_uI, mR_uA, mR_uJ, mR_uX, mX_uI, mX_uA, mX_uJ, mX_uR, mI_s, mI_n, mI_A, mI_An, mI_uJ, mI_uR, mI_uX, mJ_uI, mJ_uA, mJ_uR, mJ_uX, onR_s, kC_v, kC_n, kC_t, mI_An, h1, h2, h3, h4 p hp, e1, e2, bI_ti (show isD (f p) by omega)]
theorem l_57a (hL : LdC μ f L) : ∀ n a, a + n = L → EM 57 (d + 1) 8 [some (.ref 1030)] [] (uA μ 1030 (ldG g L hs gs k a e v tk er ea)) (0, 0) Q = EM 57 (d + 1) 60 [some (.ref 1030)] [] (uA μ 1030 (ldG g L hs gs k (skF f n a) e v tk er ea)) (0, 0) Q := by
  obtain ⟨h1, h2, h3, h4, h5, h6⟩ := hL
  intro n
  induction n with
  | zero =>
    intro a ha
    obtain rfl : a = L := by omega
    rw [e_57_8]
    simp (disch := first | omega | rfl) only [e_57_0, e_57_1, e_57_2, e_57_5, e_57_9, e_57_12, e_57_13, e_57_16, e_57_19, e_57_20, e_57_23, e_57_24, e_57_27, e_57_28, e_57_30, e_57_33, e_57_34, e_57_37, e_57_38, e_57_41, e_57_42, e_57_44, e_57_47, e_57_48, e_57_49, e_57_52, e_57_53, e_57_54, e_57_57, e_57_61, e_57_62, e_57_65, e_57_68, e_57_69, e_57_72, e_57_73, e_57_76, e_57_79, e_57_80, e_57_81, e_57_84, e_57_87, e_57_88, e_57_89, e_57_92, e_57_95, e_57_98, e_57_99, e_57_100, e_57_104, e_57_107, e_57_108, e_57_111, e_57_114, e_57_115, e_57_116, e_57_119, e_57_122, e_57_125, e_57_126, e_57_127, e_57_130, e_57_131, e_57_132, e_57_135, e_57_138, e_57_139, e_57_140, e_57_143, e_57_146, e_57_149, e_57_150, e_57_151, e_57_154, e_57_155, e_57_156, e_57_160, e_57_163, e_57_164, e_57_167, e_57_170, e_57_171, e_57_172, e_57_175, e_57_178, e_57_181, e_57_182, e_57_185, e_57_186, e_57_189, e_57_191, e_57_192, e_57_193, e_57_196, e_57_197, e_57_200, e_57_201, e_57_202, e_57_204, e_57_205, e_57_208, e_57_211, e_57_212, e_57_213, e_57_216, e_57_217, e_57_218, e_57_221, e_57_224, e_57_225, e_57_226, e_57_229, e_57_230, e_57_231, e_57_234, e_57_235, e_57_236, e_57_239, ge1, ule_t, true_or, or_true, nI_add, nI_mul, nI_sub, nI_clamp, nI_lt_t, nI_lt_f, nI_le_t, nI_le_f, nI_eq_t, nI_eq_f, vp_nI, tI, fI, not_true, not_false_iff, true_and, and_true, Classical.not_not, mS_uI, mS_uA, mS_uJ, mS_uR, mS_uX, mR_uI, mR_uA, mR_uJ, mR_uX, mX_uI, mX_uA, mX_uJ, mX_uR, mI_s, mI_n, mI_A, mI_An, mI_uJ, mI_uR, mI_uX, mJ_uI, mJ_uA, mJ_uR, mJ_uX, onR_s, kC_v, kC_n, kC_t, h1, mI_A, ld_3, ld_7, skF]
  | succ n ih =>
    intro a ha
    have hi := ih (a + 1) (by omega)
    have hb := h5 a
    have e1 := sgB_eqc (b := f a) (c := 32) hb (by omega)
    have e2 := sgB_eqc (b := f a) (c := 10) hb (by omega)
    rw [e_57_8, skF]
    by_cases c1 : f a = 32
    · rw [eq_true c1] at e1
      rw [if_pos (Or.inl c1)]
      simp (disch := first | omega | rfl) only [e_57_0, e_57_1, e_57_2, e_57_5, e_57_9, e_57_12, e_57_13, e_57_16, e_57_19, e_57_20, e_57_23, e_57_24, e_57_27, e_57_28, e_57_30, e_57_33, e_57_34, e_57_37, e_57_38, e_57_41, e_57_42, e_57_44, e_57_47, e_57_48, e_57_49, e_57_52, e_57_53, e_57_54, e_57_57, e_57_61, e_57_62, e_57_65, e_57_68, e_57_69, e_57_72, e_57_73, e_57_76, e_57_79, e_57_80, e_57_81, e_57_84, e_57_87, e_57_88, e_57_89, e_57_92, e_57_95, e_57_98, e_57_99, e_57_100, e_57_104, e_57_107, e_57_108, e_57_111, e_57_114, e_57_115, e_57_116, e_57_119, e_57_122, e_57_125, e_57_126, e_57_127, e_57_130, e_57_131, e_57_132, e_57_135, e_57_138, e_57_139, e_57_140, e_57_143, e_57_146, e_57_149, e_57_150, e_57_151, e_57_154, e_57_155, e_57_156, e_57_160, e_57_163, e_57_164, e_57_167, e_57_170, e_57_171, e_57_172, e_57_175, e_57_178, e_57_181, e_57_182, e_57_185, e_57_186, e_57_189, e_57_191, e_57_192, e_57_193, e_57_196, e_57_197, e_57_200, e_57_201, e_57_202, e_57_204, e_57_205, e_57_208, e_57_211, e_57_212, e_57_213, e_57_216, e_57_217, e_57_218, e_57_221, e_57_224, e_57_225, e_57_226, e_57_229, e_57_230, e_57_231, e_57_234, e_57_235, e_57_236, e_57_239, ge1, ule_t, true_or, or_true, nI_add, nI_mul, nI_sub, nI_clamp, nI_lt_t, nI_lt_f, nI_le_t, nI_le_f, nI_eq_t, nI_eq_f, vp_nI, tI, fI, not_true, not_false_iff, true_and, and_true, Classical.not_not, mS_uI, mS_uA, mS_uJ, mS_uR, mS_uX, mR_uI, mR_uA, mR_uJ, mR_uX, mX_uI, mX_uA, mX_uJ, mX_uR, mI_s, mI_n, mI_A, mI_An, mI_uJ, mI_uR, mI_uX, mJ_uI, mJ_uA, mJ_uR, mJ_uX, onR_s, kC_v, kC_n, kC_t, mI_An, h1, h2, h3, h4 a (by omega), mI_A, ld_3, ld_7, e1, uIA, ld_u7]
      exact hi
    · rw [eq_false c1] at e1
      by_cases c2 : f a = 10
      · rw [eq_true c2] at e2
        rw [if_pos (Or.inr c2)]
        simp (disch := first | omega | rfl) only [e_57_0, e_57_1, e_57_2, e_57_5, e_57_9, e_57_12, e_57_13, e_57_16, e_57_19, e_57_20, e_57_23, e_57_24, e_57_27, e_57_28, e_57_30, e_57_33, e_57_34, e_57_37, e_57_38, e_57_41, e_57_42, e_57_44, e_57_47, e_57_48, e_57_49, e_57_52, e_57_53, e_57_54, e_57_57, e_57_61, e_57_62, e_57_65, e_57_68, e_57_69, e_57_72, e_57_73, e_57_76, e_57_79, e_57_80, e_57_81, e_57_84, e_57_87, e_57_88, e_57_89, e_57_92, e_57_95, e_57_98, e_57_99, e_57_100, e_57_104, e_57_107, e_57_108, e_57_111, e_57_114, e_57_115, e_57_116, e_57_119, e_57_122, e_57_125, e_57_126, e_57_127, e_57_130, e_57_131, e_57_132, e_57_135, e_57_138, e_57_139, e_57_140, e_57_143, e_57_146, e_57_149, e_57_150, e_57_151, e_57_154, e_57_155, e_57_156, e_57_160, e_57_163, e_57_164, e_57_167, e_57_170, e_57_171, e_57_172, e_57_175, e_57_178, e_57_181, e_57_182, e_57_185, e_57_186, e_57_189, e_57_191, e_57_192, e_57_193, e_57_196, e_57_197, e_57_200, e_57_201, e_57_202, e_57_204, e_57_205, e_57_208, e_57_211, e_57_212, e_57_213, e_57_216, e_57_217, e_57_218, e_57_221, e_57_224, e_57_225, e_57_226, e_57_229, e_57_230, e_57_231, e_57_234, e_57_235, e_57_236, e_57_239, ge1, ule_t, true_or, or_true, nI_add, nI_mul, nI_sub, nI_clamp, nI_lt_t, nI_lt_f, nI_le_t, nI_le_f, nI_eq_t, nI_eq_f, vp_nI, tI, fI, not_true, not_false_iff, true_and, and_true, Classical.not_not, mS_uI, mS_uA, mS_uJ, mS_uR, mS_uX, mR_uI, mR_uA, mR_uJ, mR_uX, mX_uI, mX_uA, mX_uJ, mX_uR, mI_s, mI_n, mI_A, mI_An, mI_uJ, mI_uR, mI_uX, mJ_uI, mJ_uA, mJ_uR, mJ_uX, onR_s, kC_v, kC_n, kC_t, mI_An, h1, h2, h3, h4 a (by omega), mI_A, ld_3, ld_7, e1, e2, uIA, ld_u7]
        exact hi
      · rw [eq_false c2] at e2
        rw [if_neg (by omega)]
        simp (disch := first | omega | rfl) only [e_57_0, e_57_1, e_57_2, e_57_5, e_57_9, e_57_12, e_57_13, e_57_16, e_57_19, e_57_20, e_57_23, e_57_24, e_57_27, e_57_28, e_57_30, e_57_33, e_57_34, e_57_37, e_57_38, e_57_41, e_57_42, e_57_44, e_57_47, e_57_48, e_57_49, e_57_52, e_57_53, e_57_54, e_57_57, e_57_61, e_57_62, e_57_65, e_57_68, e_57_69, e_57_72, e_57_73, e_57_76, e_57_79, e_57_80, e_57_81, e_57_84, e_57_87, e_57_88, e_57_89, e_57_92, e_57_95, e_57_98, e_57_99, e_57_100, e_57_104, e_57_107, e_57_108, e_57_111, e_57_114, e_57_115, e_57_116, e_57_119, e_57_122, e_57_125, e_57_126, e_57_127, e_57_130, e_57_131, e_57_132, e_57_135, e_57_138, e_57_139, e_57_140, e_57_143, e_57_146, e_57_149, e_57_150, e_57_151, e_57_154, e_57_155, e_57_156, e_57_160, e_57_163, e_57_164, e_57_167, e_57_170, e_57_171, e_57_172, e_57_175, e_57_178, e_57_181, e_57_182, e_57_185, e_57_186, e_57_189, e_57_191, e_57_192, e_57_193, e_57_196, e_57_197, e_57_200, e_57_201, e_57_202, e_57_204, e_57_205, e_57_208, e_57_211, e_57_212, e_57_213, e_57_216, e_57_217, e_57_218, e_57_221, e_57_224, e_57_225, e_57_226, e_57_229, e_57_230, e_57_231, e_57_234, e_57_235, e_57_236, e_57_239, ge1, ule_t, true_or, or_true, nI_add, nI_mul, nI_sub, nI_clamp, nI_lt_t, nI_lt_f, nI_le_t, nI_le_f, nI_eq_t, nI_eq_f, vp_nI, tI, fI, not_true, not_false_iff, true_and, and_true, Classical.not_not, mS_uI, mS_uA, mS_uJ, mS_uR, mS_uX, mR_uI, mR_uA, mR_uJ, mR_uX, mX_uI, mX_uA, mX_uJ, mX_uR, mI_s, mI_n, mI_A, mI_An, mI_uJ, mI_uR, mI_uX, mJ_uI, mJ_uA, mJ_uR, mJ_uX, onR_s, kC_v, kC_n, kC_t, mI_An, h1, h2, h3, h4 a (by omega), mI_A, ld_3, ld_7, e1, e2, uIA, ld_u7]
theorem l_57b (hL : LdC μ f L) : ∀ n e, e + n = L → EM 57 (d + 1) 103 [some (.ref 1030)] [] (uA μ 1030 (ldG g L hs gs k a e v tk er ea)) (0, 0) Q = Q (some none) (uA μ 1030 (ldG g L hs gs k a (wdF f n e) v tk er ea)) := by
  have hL0 := hL
  obtain ⟨h1, h2, h3, h4, h5, h6⟩ := hL
  intro n
  induction n with
  | zero =>
    intro e he
    obtain rfl : e = L := by omega
    rw [e_57_103]
    simp (disch := first | omega | rfl) only [e_57_0, e_57_1, e_57_2, e_57_5, e_57_9, e_57_12, e_57_13, e_57_16, e_57_19, e_57_20, e_57_23, e_57_24, e_57_27, e_57_28, e_57_30, e_57_33, e_57_34, e_57_37, e_57_38, e_57_41, e_57_42, e_57_44, e_57_47, e_57_48, e_57_49, e_57_52, e_57_53, e_57_54, e_57_57, e_57_60, e_57_61, e_57_62, e_57_65, e_57_68, e_57_69, e_57_72, e_57_73, e_57_76, e_57_79, e_57_80, e_57_81, e_57_84, e_57_87, e_57_88, e_57_89, e_57_92, e_57_95, e_57_98, e_57_99, e_57_100, e_57_104, e_57_107, e_57_108, e_57_111, e_57_114, e_57_115, e_57_116, e_57_119, e_57_122, e_57_125, e_57_126, e_57_127, e_57_130, e_57_131, e_57_132, e_57_135, e_57_138, e_57_139, e_57_140, e_57_143, e_57_146, e_57_149, e_57_150, e_57_151, e_57_154, e_57_155, e_57_156, e_57_160, e_57_163, e_57_164, e_57_167, e_57_170, e_57_171, e_57_172, e_57_175, e_57_178, e_57_181, e_57_182, e_57_185, e_57_186, e_57_189, e_57_191, e_57_192, e_57_193, e_57_196, e_57_197, e_57_200, e_57_201, e_57_202, e_57_204, e_57_205, e_57_208, e_57_211, e_57_212, e_57_213, e_57_216, e_57_217, e_57_218, e_57_221, e_57_224, e_57_225, e_57_226, e_57_229, e_57_230, e_57_231, e_57_234, e_57_235, e_57_236, e_57_239, ge1, ule_t, true_or, or_true, nI_add, nI_mul, nI_sub, nI_clamp, nI_lt_t, nI_lt_f, nI_le_t, nI_le_f, nI_eq_t, nI_eq_f, vp_nI, tI, fI, not_true, not_false_iff, true_and, and_true, Classical.not_not, mS_uI, mS_uA, mS_uJ, mS_uR, mS_uX, mR_uI, mR_uA, mR_uJ, mR_uX, mX_uI, mX_uA, mX_uJ, mX_uR, mI_s, mI_n, mI_A, mI_An, mI_uJ, mI_uR, mI_uX, mJ_uI, mJ_uA, mJ_uR, mJ_uX, onR_s, kC_v, kC_n, kC_t, h1, mI_A, ld_3, ld_8, wdF]
  | succ n ih =>
    intro e he
    have hi := ih (e + 1) (by omega)
    have h58 := fun (d : Nat) (Q : Po) (F : Nat → Int32) => s_58 (d := d) (Q := Q) (F := F) (p := e) hL0 (by omega)
    rw [e_57_103, wdF]
    by_cases c1 : isLr (f e)
    · simp only [bI_ti c1] at h58
      rw [if_pos c1]
      simp (disch := first | omega | rfl) only [e_57_0, e_57_1, e_57_2, e_57_5, e_57_9, e_57_12, e_57_13, e_57_16, e_57_19, e_57_20, e_57_23, e_57_24, e_57_27, e_57_28, e_57_30, e_57_33, e_57_34, e_57_37, e_57_38, e_57_41, e_57_42, e_57_44, e_57_47, e_57_48, e_57_49, e_57_52, e_57_53, e_57_54, e_57_57, e_57_60, e_57_61, e_57_62, e_57_65, e_57_68, e_57_69, e_57_72, e_57_73, e_57_76, e_57_79, e_57_80, e_57_81, e_57_84, e_57_87, e_57_88, e_57_89, e_57_92, e_57_95, e_57_98, e_57_99, e_57_100, e_57_104, e_57_107, e_57_108, e_57_111, e_57_114, e_57_115, e_57_116, e_57_119, e_57_122, e_57_125, e_57_126, e_57_127, e_57_130, e_57_131, e_57_132, e_57_135, e_57_138, e_57_139, e_57_140, e_57_143, e_57_146, e_57_149, e_57_150, e_57_151, e_57_154, e_57_155, e_57_156, e_57_160, e_57_163, e_57_164, e_57_167, e_57_170, e_57_171, e_57_172, e_57_175, e_57_178, e_57_181, e_57_182, e_57_185, e_57_186, e_57_189, e_57_191, e_57_192, e_57_193, e_57_196, e_57_197, e_57_200, e_57_201, e_57_202, e_57_204, e_57_205, e_57_208, e_57_211, e_57_212, e_57_213, e_57_216, e_57_217, e_57_218, e_57_221, e_57_224, e_57_225, e_57_226, e_57_229, e_57_230, e_57_231, e_57_234, e_57_235, e_57_236, e_57_239, ge1, ule_t, true_or, or_true, nI_add, nI_mul, nI_sub, nI_clamp, nI_lt_t, nI_lt_f, nI_le_t, nI_le_f, nI_eq_t, nI_eq_f, vp_nI, tI, fI, not_true, not_false_iff, true_and, and_true, Classical.not_not, mS_uI, mS_uA, mS_uJ, mS_uR, mS_uX, mR_uI, mR_uA, mR_uJ, mR_uX, mX_uI, mX_uA, mX_uJ, mX_uR, mI_s, mI_n, mI_A, mI_An, mI_uJ, mI_uR, mI_uX, mJ_uI, mJ_uA, mJ_uR, mJ_uX, onR_s, kC_v, kC_n, kC_t, h1, h2, h3, mI_A, ld_3, ld_8, h58, uIA, ld_u8]
      exact hi
    · simp only [bI_fi c1] at h58
      rw [if_neg c1]
      simp (disch := first | omega | rfl) only [e_57_0, e_57_1, e_57_2, e_57_5, e_57_9, e_57_12, e_57_13, e_57_16, e_57_19, e_57_20, e_57_23, e_57_24, e_57_27, e_57_28, e_57_30, e_57_33, e_57_34, e_57_37, e_57_38, e_57_41, e_57_42, e_57_44, e_57_47, e_57_48, e_57_49, e_57_52, e_57_53, e_57_54, e_57_57, e_57_60, e_57_61, e_57_62, e_57_65, e_57_68, e_57_69, e_57_72, e_57_73, e_57_76, e_57_79, e_57_80, e_57_81, e_57_84, e_57_87, e_57_88, e_57_89, e_57_92, e_57_95, e_57_98, e_57_99, e_57_100, e_57_104, e_57_107, e_57_108, e_57_111, e_57_114, e_57_115, e_57_116, e_57_119, e_57_122, e_57_125, e_57_126, e_57_127, e_57_130, e_57_131, e_57_132, e_57_135, e_57_138, e_57_139, e_57_140, e_57_143, e_57_146, e_57_149, e_57_150, e_57_151, e_57_154, e_57_155, e_57_156, e_57_160, e_57_163, e_57_164, e_57_167, e_57_170, e_57_171, e_57_172, e_57_175, e_57_178, e_57_181, e_57_182, e_57_185, e_57_186, e_57_189, e_57_191, e_57_192, e_57_193, e_57_196, e_57_197, e_57_200, e_57_201, e_57_202, e_57_204, e_57_205, e_57_208, e_57_211, e_57_212, e_57_213, e_57_216, e_57_217, e_57_218, e_57_221, e_57_224, e_57_225, e_57_226, e_57_229, e_57_230, e_57_231, e_57_234, e_57_235, e_57_236, e_57_239, ge1, ule_t, true_or, or_true, nI_add, nI_mul, nI_sub, nI_clamp, nI_lt_t, nI_lt_f, nI_le_t, nI_le_f, nI_eq_t, nI_eq_f, vp_nI, tI, fI, not_true, not_false_iff, true_and, and_true, Classical.not_not, mS_uI, mS_uA, mS_uJ, mS_uR, mS_uX, mR_uI, mR_uA, mR_uJ, mR_uX, mX_uI, mX_uA, mX_uJ, mX_uR, mI_s, mI_n, mI_A, mI_An, mI_uJ, mI_uR, mI_uX, mJ_uI, mJ_uA, mJ_uR, mJ_uX, onR_s, kC_v, kC_n, kC_t, h1, h2, h3, mI_A, ld_3, ld_8, h58, uIA, ld_u8]
theorem l_57c (hL : LdC μ f L) : ∀ n e v, e + n = L → EM 57 (d + 1) 159 [some (.ref 1030)] [] (uA μ 1030 (ldG g L hs gs k a e v tk er ea)) (0, 0) Q = Q (some none) (uA μ 1030 (ldG g L hs gs k a (dgF f n e v).1 (dgF f n e v).2 tk er ea)) := by
  have hL0 := hL
  obtain ⟨h1, h2, h3, h4, h5, h6⟩ := hL
  intro n
  induction n with
  | zero =>
    intro e v he
    obtain rfl : e = L := by omega
    rw [e_57_159]
    simp (disch := first | omega | rfl) only [e_57_0, e_57_1, e_57_2, e_57_5, e_57_9, e_57_12, e_57_13, e_57_16, e_57_19, e_57_20, e_57_23, e_57_24, e_57_27, e_57_28, e_57_30, e_57_33, e_57_34, e_57_37, e_57_38, e_57_41, e_57_42, e_57_44, e_57_47, e_57_48, e_57_49, e_57_52, e_57_53, e_57_54, e_57_57, e_57_60, e_57_61, e_57_62, e_57_65, e_57_68, e_57_69, e_57_72, e_57_73, e_57_76, e_57_79, e_57_80, e_57_81, e_57_84, e_57_87, e_57_88, e_57_89, e_57_92, e_57_95, e_57_98, e_57_99, e_57_100, e_57_104, e_57_107, e_57_108, e_57_111, e_57_114, e_57_115, e_57_116, e_57_119, e_57_122, e_57_125, e_57_126, e_57_127, e_57_130, e_57_131, e_57_132, e_57_135, e_57_138, e_57_139, e_57_140, e_57_143, e_57_146, e_57_149, e_57_150, e_57_151, e_57_154, e_57_155, e_57_156, e_57_160, e_57_163, e_57_164, e_57_167, e_57_170, e_57_171, e_57_172, e_57_175, e_57_178, e_57_181, e_57_182, e_57_185, e_57_186, e_57_189, e_57_191, e_57_192, e_57_193, e_57_196, e_57_197, e_57_200, e_57_201, e_57_202, e_57_204, e_57_205, e_57_208, e_57_211, e_57_212, e_57_213, e_57_216, e_57_217, e_57_218, e_57_221, e_57_224, e_57_225, e_57_226, e_57_229, e_57_230, e_57_231, e_57_234, e_57_235, e_57_236, e_57_239, ge1, ule_t, true_or, or_true, nI_add, nI_mul, nI_sub, nI_clamp, nI_lt_t, nI_lt_f, nI_le_t, nI_le_f, nI_eq_t, nI_eq_f, vp_nI, tI, fI, not_true, not_false_iff, true_and, and_true, Classical.not_not, mS_uI, mS_uA, mS_uJ, mS_uR, mS_uX, mR_uI, mR_uA, mR_uJ, mR_uX, mX_uI, mX_uA, mX_uJ, mX_uR, mI_s, mI_n, mI_A, mI_An, mI_uJ, mI_uR, mI_uX, mJ_uI, mJ_uA, mJ_uR, mJ_uX, onR_s, kC_v, kC_n, kC_t, h1, mI_A, ld_3, ld_8, dgF]
  | succ n ih =>
    intro e v he
    have hi := ih (e + 1) (mstep v (f e)) (by omega)
    have h59 := fun (d : Nat) (Q : Po) (F : Nat → Int32) => s_59 (d := d) (Q := Q) (F := F) (p := e) hL0 (by omega)
    rw [e_57_159, dgF]
    by_cases c1 : isD (f e)
    · simp only [bI_ti c1] at h59
      rw [if_pos c1]
      have hv := cvl_le v
      have e3 : sgB (f e) = nI (f e) := sgB_s (by omega)
      have e4 := nI_minc (x := cvl v * 10 + f e - 48) (by omega)
      have e5 := cst_eq (v := v) c1
      rw [e5] at e4
      simp (disch := first | omega | rfl) only [e_57_0, e_57_1, e_57_2, e_57_5, e_57_9, e_57_12, e_57_13, e_57_16, e_57_19, e_57_20, e_57_23, e_57_24, e_57_27, e_57_28, e_57_30, e_57_33, e_57_34, e_57_37, e_57_38, e_57_41, e_57_42, e_57_44, e_57_47, e_57_48, e_57_49, e_57_52, e_57_53, e_57_54, e_57_57, e_57_60, e_57_61, e_57_62, e_57_65, e_57_68, e_57_69, e_57_72, e_57_73, e_57_76, e_57_79, e_57_80, e_57_81, e_57_84, e_57_87, e_57_88, e_57_89, e_57_92, e_57_95, e_57_98, e_57_99, e_57_100, e_57_104, e_57_107, e_57_108, e_57_111, e_57_114, e_57_115, e_57_116, e_57_119, e_57_122, e_57_125, e_57_126, e_57_127, e_57_130, e_57_131, e_57_132, e_57_135, e_57_138, e_57_139, e_57_140, e_57_143, e_57_146, e_57_149, e_57_150, e_57_151, e_57_154, e_57_155, e_57_156, e_57_160, e_57_163, e_57_164, e_57_167, e_57_170, e_57_171, e_57_172, e_57_175, e_57_178, e_57_181, e_57_182, e_57_185, e_57_186, e_57_189, e_57_191, e_57_192, e_57_193, e_57_196, e_57_197, e_57_200, e_57_201, e_57_202, e_57_204, e_57_205, e_57_208, e_57_211, e_57_212, e_57_213, e_57_216, e_57_217, e_57_218, e_57_221, e_57_224, e_57_225, e_57_226, e_57_229, e_57_230, e_57_231, e_57_234, e_57_235, e_57_236, e_57_239, ge1, ule_t, true_or, or_true, nI_add, nI_mul, nI_sub, nI_clamp, nI_lt_t, nI_lt_f, nI_le_t, nI_le_f, nI_eq_t, nI_eq_f, vp_nI, tI, fI, not_true, not_false_iff, true_and, and_true, Classical.not_not, mS_uI, mS_uA, mS_uJ, mS_uR, mS_uX, mR_uI, mR_uA, mR_uJ, mR_uX, mX_uI, mX_uA, mX_uJ, mX_uR, mI_s, mI_n, mI_A, mI_An, mI_uJ, mI_uR, mI_uX, mJ_uI, mJ_uA, mJ_uR, mJ_uX, onR_s, kC_v, kC_n, kC_t, mI_An, h1, h2, h3, h4 e (by omega), mI_A, ld_3, ld_8, ld_9, h59, e3, e4, uIA, ld_u8, ld_u9]
      exact hi
    · simp only [bI_fi c1] at h59
      rw [if_neg c1]
      simp (disch := first | omega | rfl) only [e_57_0, e_57_1, e_57_2, e_57_5, e_57_9, e_57_12, e_57_13, e_57_16, e_57_19, e_57_20, e_57_23, e_57_24, e_57_27, e_57_28, e_57_30, e_57_33, e_57_34, e_57_37, e_57_38, e_57_41, e_57_42, e_57_44, e_57_47, e_57_48, e_57_49, e_57_52, e_57_53, e_57_54, e_57_57, e_57_60, e_57_61, e_57_62, e_57_65, e_57_68, e_57_69, e_57_72, e_57_73, e_57_76, e_57_79, e_57_80, e_57_81, e_57_84, e_57_87, e_57_88, e_57_89, e_57_92, e_57_95, e_57_98, e_57_99, e_57_100, e_57_104, e_57_107, e_57_108, e_57_111, e_57_114, e_57_115, e_57_116, e_57_119, e_57_122, e_57_125, e_57_126, e_57_127, e_57_130, e_57_131, e_57_132, e_57_135, e_57_138, e_57_139, e_57_140, e_57_143, e_57_146, e_57_149, e_57_150, e_57_151, e_57_154, e_57_155, e_57_156, e_57_160, e_57_163, e_57_164, e_57_167, e_57_170, e_57_171, e_57_172, e_57_175, e_57_178, e_57_181, e_57_182, e_57_185, e_57_186, e_57_189, e_57_191, e_57_192, e_57_193, e_57_196, e_57_197, e_57_200, e_57_201, e_57_202, e_57_204, e_57_205, e_57_208, e_57_211, e_57_212, e_57_213, e_57_216, e_57_217, e_57_218, e_57_221, e_57_224, e_57_225, e_57_226, e_57_229, e_57_230, e_57_231, e_57_234, e_57_235, e_57_236, e_57_239, ge1, ule_t, true_or, or_true, nI_add, nI_mul, nI_sub, nI_clamp, nI_lt_t, nI_lt_f, nI_le_t, nI_le_f, nI_eq_t, nI_eq_f, vp_nI, tI, fI, not_true, not_false_iff, true_and, and_true, Classical.not_not, mS_uI, mS_uA, mS_uJ, mS_uR, mS_uX, mR_uI, mR_uA, mR_uJ, mR_uX, mX_uI, mX_uA, mX_uJ, mX_uR, mI_s, mI_n, mI_A, mI_An, mI_uJ, mI_uR, mI_uX, mJ_uI, mJ_uA, mJ_uR, mJ_uX, onR_s, kC_v, kC_n, kC_t, mI_An, h1, h2, h3, mI_A, ld_3, ld_8, h59, uIA, ld_u8]
/-- the class's numbers of kinds -/
def ckk (k : Nat) : Nat := if k ≤ 3 then k else 3
def ldT (g : Nat → Int32) (L hs gs : Nat) (t : TK) (tk er ea : Int32) : Nat → Int32 := ldG g L hs gs (ckk t.1) t.2.1 t.2.2.1 t.2.2.2 tk er ea
theorem s_57e (hL : LdC μ f L) (he : e ≤ L) : Ev (d + 2) 57 [.ref 1030] (uA μ 1030 (ldG g L hs gs k a e v tk er ea)) Q = Q (some none) (uA μ 1030 (ldT g L hs gs (tkn f L e v) tk er ea)) := by
  have hL0 := hL
  obtain ⟨h1, h2, h3, h4, h5, h6⟩ := hL
  have hs1 := skF_le (f := f) (L - e) e
  rw [in_57]
  simp (disch := first | omega | rfl) only [e_57_0, e_57_1, e_57_2, e_57_5, e_57_9, e_57_12, e_57_13, e_57_16, e_57_19, e_57_20, e_57_23, e_57_24, e_57_27, e_57_28, e_57_30, e_57_33, e_57_34, e_57_37, e_57_38, e_57_41, e_57_42, e_57_44, e_57_47, e_57_48, e_57_49, e_57_52, e_57_53, e_57_54, e_57_57, e_57_60, e_57_61, e_57_62, e_57_65, e_57_68, e_57_69, e_57_72, e_57_73, e_57_76, e_57_79, e_57_80, e_57_81, e_57_84, e_57_87, e_57_88, e_57_89, e_57_92, e_57_95, e_57_98, e_57_99, e_57_100, e_57_104, e_57_107, e_57_108, e_57_111, e_57_114, e_57_115, e_57_116, e_57_119, e_57_122, e_57_125, e_57_126, e_57_127, e_57_130, e_57_131, e_57_132, e_57_135, e_57_138, e_57_139, e_57_140, e_57_143, e_57_146, e_57_149, e_57_150, e_57_151, e_57_154, e_57_155, e_57_156, e_57_160, e_57_163, e_57_164, e_57_167, e_57_170, e_57_171, e_57_172, e_57_175, e_57_178, e_57_181, e_57_182, e_57_185, e_57_186, e_57_189, e_57_191, e_57_192, e_57_193, e_57_196, e_57_197, e_57_200, e_57_201, e_57_202, e_57_204, e_57_205, e_57_208, e_57_211, e_57_212, e_57_213, e_57_216, e_57_217, e_57_218, e_57_221, e_57_224, e_57_225, e_57_226, e_57_229, e_57_230, e_57_231, e_57_234, e_57_235, e_57_236, e_57_239, ge1, ule_t, true_or, or_true, nI_add, nI_mul, nI_sub, nI_clamp, nI_lt_t, nI_lt_f, nI_le_t, nI_le_f, nI_eq_t, nI_eq_f, vp_nI, tI, fI, not_true, not_false_iff, true_and, and_true, Classical.not_not, mS_uI, mS_uA, mS_uJ, mS_uR, mS_uX, mR_uI, mR_uA, mR_uJ, mR_uX, mX_uI, mX_uA, mX_uJ, mX_uR, mI_s, mI_n, mI_A, mI_An, mI_uJ, mI_uR, mI_uX, mJ_uI, mJ_uA, mJ_uR, mJ_uX, onR_s, kC_v, kC_n, kC_t, h1, mI_A, ld_8, uIA, ld_u7]
  rw [l_57a hL0 (L - e) e (by omega)]
  unfold tkn
  generalize skF f (L - e) e = a' at *
  have hb := h5 a'
  by_cases c0 : L ≤ a'
  · rw [tkA_0 c0]
    obtain rfl : a' = L := by omega
    simp (disch := first | omega | rfl) only [e_57_0, e_57_1, e_57_2, e_57_5, e_57_9, e_57_12, e_57_13, e_57_16, e_57_19, e_57_20, e_57_23, e_57_24, e_57_27, e_57_28, e_57_30, e_57_33, e_57_34, e_57_37, e_57_38, e_57_41, e_57_42, e_57_44, e_57_47, e_57_48, e_57_49, e_57_52, e_57_53, e_57_54, e_57_57, e_57_60, e_57_61, e_57_62, e_57_65, e_57_68, e_57_69, e_57_72, e_57_73, e_57_76, e_57_79, e_57_80, e_57_81, e_57_84, e_57_87, e_57_88, e_57_89, e_57_92, e_57_95, e_57_98, e_57_99, e_57_100, e_57_104, e_57_107, e_57_108, e_57_111, e_57_114, e_57_115, e_57_116, e_57_119, e_57_122, e_57_125, e_57_126, e_57_127, e_57_130, e_57_131, e_57_132, e_57_135, e_57_138, e_57_139, e_57_140, e_57_143, e_57_146, e_57_149, e_57_150, e_57_151, e_57_154, e_57_155, e_57_156, e_57_160, e_57_163, e_57_164, e_57_167, e_57_170, e_57_171, e_57_172, e_57_175, e_57_178, e_57_181, e_57_182, e_57_185, e_57_186, e_57_189, e_57_191, e_57_192, e_57_193, e_57_196, e_57_197, e_57_200, e_57_201, e_57_202, e_57_204, e_57_205, e_57_208, e_57_211, e_57_212, e_57_213, e_57_216, e_57_217, e_57_218, e_57_221, e_57_224, e_57_225, e_57_226, e_57_229, e_57_230, e_57_231, e_57_234, e_57_235, e_57_236, e_57_239, ge1, ule_t, true_or, or_true, nI_add, nI_mul, nI_sub, nI_clamp, nI_lt_t, nI_lt_f, nI_le_t, nI_le_f, nI_eq_t, nI_eq_f, vp_nI, tI, fI, not_true, not_false_iff, true_and, and_true, Classical.not_not, mS_uI, mS_uA, mS_uJ, mS_uR, mS_uX, mR_uI, mR_uA, mR_uJ, mR_uX, mX_uI, mX_uA, mX_uJ, mX_uR, mI_s, mI_n, mI_A, mI_An, mI_uJ, mI_uR, mI_uX, mJ_uI, mJ_uA, mJ_uR, mJ_uX, onR_s, kC_v, kC_n, kC_t, h1, mI_A, ld_3, ld_7, uIA, ld_u8, ld_u6]
    rfl
  · have h58 := fun (d : Nat) (Q : Po) (F : Nat → Int32) => s_58 (d := d) (Q := Q) (F := F) (p := a') hL0 (by omega)
    have h59 := fun (d : Nat) (Q : Po) (F : Nat → Int32) => s_59 (d := d) (Q := Q) (F := F) (p := a') hL0 (by omega)
    by_cases c1 : isLr (f a')
    · rw [tkA_1 c0 c1]
      simp only [bI_ti c1] at h58
      simp (disch := first | omega | rfl) only [e_57_0, e_57_1, e_57_2, e_57_5, e_57_9, e_57_12, e_57_13, e_57_16, e_57_19, e_57_20, e_57_23, e_57_24, e_57_27, e_57_28, e_57_30, e_57_33, e_57_34, e_57_37, e_57_38, e_57_41, e_57_42, e_57_44, e_57_47, e_57_48, e_57_49, e_57_52, e_57_53, e_57_54, e_57_57, e_57_60, e_57_61, e_57_62, e_57_65, e_57_68, e_57_69, e_57_72, e_57_73, e_57_76, e_57_79, e_57_80, e_57_81, e_57_84, e_57_87, e_57_88, e_57_89, e_57_92, e_57_95, e_57_98, e_57_99, e_57_100, e_57_104, e_57_107, e_57_108, e_57_111, e_57_114, e_57_115, e_57_116, e_57_119, e_57_122, e_57_125, e_57_126, e_57_127, e_57_130, e_57_131, e_57_132, e_57_135, e_57_138, e_57_139, e_57_140, e_57_143, e_57_146, e_57_149, e_57_150, e_57_151, e_57_154, e_57_155, e_57_156, e_57_160, e_57_163, e_57_164, e_57_167, e_57_170, e_57_171, e_57_172, e_57_175, e_57_178, e_57_181, e_57_182, e_57_185, e_57_186, e_57_189, e_57_191, e_57_192, e_57_193, e_57_196, e_57_197, e_57_200, e_57_201, e_57_202, e_57_204, e_57_205, e_57_208, e_57_211, e_57_212, e_57_213, e_57_216, e_57_217, e_57_218, e_57_221, e_57_224, e_57_225, e_57_226, e_57_229, e_57_230, e_57_231, e_57_234, e_57_235, e_57_236, e_57_239, ge1, ule_t, true_or, or_true, nI_add, nI_mul, nI_sub, nI_clamp, nI_lt_t, nI_lt_f, nI_le_t, nI_le_f, nI_eq_t, nI_eq_f, vp_nI, tI, fI, not_true, not_false_iff, true_and, and_true, Classical.not_not, mS_uI, mS_uA, mS_uJ, mS_uR, mS_uX, mR_uI, mR_uA, mR_uJ, mR_uX, mX_uI, mX_uA, mX_uJ, mX_uR, mI_s, mI_n, mI_A, mI_An, mI_uJ, mI_uR, mI_uX, mJ_uI, mJ_uA, mJ_uR, mJ_uX, onR_s, kC_v, kC_n, kC_t, h1, mI_A, ld_3, ld_7, uIA, ld_u8, ld_u6, h58]
      rw [l_57b hL0 (L - a') a' (by omega)]
      rfl
    · simp only [bI_fi c1] at h58
      by_cases c2 : isD (f a')
      · rw [tkA_2 c0 c1 c2]
        simp only [bI_ti c2] at h59
        simp (disch := first | omega | rfl) only [e_57_0, e_57_1, e_57_2, e_57_5, e_57_9, e_57_12, e_57_13, e_57_16, e_57_19, e_57_20, e_57_23, e_57_24, e_57_27, e_57_28, e_57_30, e_57_33, e_57_34, e_57_37, e_57_38, e_57_41, e_57_42, e_57_44, e_57_47, e_57_48, e_57_49, e_57_52, e_57_53, e_57_54, e_57_57, e_57_60, e_57_61, e_57_62, e_57_65, e_57_68, e_57_69, e_57_72, e_57_73, e_57_76, e_57_79, e_57_80, e_57_81, e_57_84, e_57_87, e_57_88, e_57_89, e_57_92, e_57_95, e_57_98, e_57_99, e_57_100, e_57_104, e_57_107, e_57_108, e_57_111, e_57_114, e_57_115, e_57_116, e_57_119, e_57_122, e_57_125, e_57_126, e_57_127, e_57_130, e_57_131, e_57_132, e_57_135, e_57_138, e_57_139, e_57_140, e_57_143, e_57_146, e_57_149, e_57_150, e_57_151, e_57_154, e_57_155, e_57_156, e_57_160, e_57_163, e_57_164, e_57_167, e_57_170, e_57_171, e_57_172, e_57_175, e_57_178, e_57_181, e_57_182, e_57_185, e_57_186, e_57_189, e_57_191, e_57_192, e_57_193, e_57_196, e_57_197, e_57_200, e_57_201, e_57_202, e_57_204, e_57_205, e_57_208, e_57_211, e_57_212, e_57_213, e_57_216, e_57_217, e_57_218, e_57_221, e_57_224, e_57_225, e_57_226, e_57_229, e_57_230, e_57_231, e_57_234, e_57_235, e_57_236, e_57_239, ge1, ule_t, true_or, or_true, nI_add, nI_mul, nI_sub, nI_clamp, nI_lt_t, nI_lt_f, nI_le_t, nI_le_f, nI_eq_t, nI_eq_f, vp_nI, tI, fI, not_true, not_false_iff, true_and, and_true, Classical.not_not, mS_uI, mS_uA, mS_uJ, mS_uR, mS_uX, mR_uI, mR_uA, mR_uJ, mR_uX, mX_uI, mX_uA, mX_uJ, mX_uR, mI_s, mI_n, mI_A, mI_An, mI_uJ, mI_uR, mI_uX, mJ_uI, mJ_uA, mJ_uR, mJ_uX, onR_s, kC_v, kC_n, kC_t, h1, mI_A, ld_3, ld_7, uIA, ld_u8, ld_u6, ld_u9z, h58, h59]
        rw [l_57c hL0 (L - a') a' 0 (by omega)]
        rfl
      · rw [tkA_3 c0 c1 c2]
        simp only [bI_fi c2] at h59
        simp (disch := first | omega | rfl) only [e_57_0, e_57_1, e_57_2, e_57_5, e_57_9, e_57_12, e_57_13, e_57_16, e_57_19, e_57_20, e_57_23, e_57_24, e_57_27, e_57_28, e_57_30, e_57_33, e_57_34, e_57_37, e_57_38, e_57_41, e_57_42, e_57_44, e_57_47, e_57_48, e_57_49, e_57_52, e_57_53, e_57_54, e_57_57, e_57_60, e_57_61, e_57_62, e_57_65, e_57_68, e_57_69, e_57_72, e_57_73, e_57_76, e_57_79, e_57_80, e_57_81, e_57_84, e_57_87, e_57_88, e_57_89, e_57_92, e_57_95, e_57_98, e_57_99, e_57_100, e_57_104, e_57_107, e_57_108, e_57_111, e_57_114, e_57_115, e_57_116, e_57_119, e_57_122, e_57_125, e_57_126, e_57_127, e_57_130, e_57_131, e_57_132, e_57_135, e_57_138, e_57_139, e_57_140, e_57_143, e_57_146, e_57_149, e_57_150, e_57_151, e_57_154, e_57_155, e_57_156, e_57_160, e_57_163, e_57_164, e_57_167, e_57_170, e_57_171, e_57_172, e_57_175, e_57_178, e_57_181, e_57_182, e_57_185, e_57_186, e_57_189, e_57_191, e_57_192, e_57_193, e_57_196, e_57_197, e_57_200, e_57_201, e_57_202, e_57_204, e_57_205, e_57_208, e_57_211, e_57_212, e_57_213, e_57_216, e_57_217, e_57_218, e_57_221, e_57_224, e_57_225, e_57_226, e_57_229, e_57_230, e_57_231, e_57_234, e_57_235, e_57_236, e_57_239, ge1, ule_t, true_or, or_true, nI_add, nI_mul, nI_sub, nI_clamp, nI_lt_t, nI_lt_f, nI_le_t, nI_le_f, nI_eq_t, nI_eq_f, vp_nI, tI, fI, not_true, not_false_iff, true_and, and_true, Classical.not_not, mS_uI, mS_uA, mS_uJ, mS_uR, mS_uX, mR_uI, mR_uA, mR_uJ, mR_uX, mX_uI, mX_uA, mX_uJ, mX_uR, mI_s, mI_n, mI_A, mI_An, mI_uJ, mI_uR, mI_uX, mJ_uI, mJ_uA, mJ_uR, mJ_uX, onR_s, kC_v, kC_n, kC_t, h1, mI_A, ld_3, ld_7, ld_8, uIA, ld_u8, ld_u6, h58, h59]
        by_cases c3 : f a' = 59
        · rw [if_pos c3]; rfl
        · rw [if_neg c3]; rfl
theorem s_57 (hL : LdC μ f L) (ht : okTk f L t) : Ev (d + 2) 57 [.ref 1030] (uA μ 1030 (ldT g L hs gs t tk er ea)) Q = Q (some none) (uA μ 1030 (ldT g L hs gs (nx f L t) tk er ea)) := s_57e hL ht.2.2.1
end TokC
/-! the reference's numbers -/
def mdG (g : Nat → Int32) (L p a k v : Nat) (er ep : Int32) (sm ts hs : Nat) : Nat → Int32 := fun j => if j = 14 then nI L else if j = 15 then nI p else if j = 16 then nI a else if j = 17 then nI k else if j = 18 then nI v else if j = 19 then er else if j = 20 then ep else if j = 22 then nI sm else if j = 23 then nI ts else if j = 24 then nI hs else g j
section MdG
variable {g : Nat → Int32} {L p a k v sm ts hs x : Nat} {er ep y : Int32}
theorem md_14 : mdG g L p a k v er ep sm ts hs 14 = nI L := rfl
theorem md_15 : mdG g L p a k v er ep sm ts hs 15 = nI p := rfl
theorem md_16 : mdG g L p a k v er ep sm ts hs 16 = nI a := rfl
theorem md_17 : mdG g L p a k v er ep sm ts hs 17 = nI k := rfl
theorem md_18 : mdG g L p a k v er ep sm ts hs 18 = nI v := rfl
theorem md_19 : mdG g L p a k v er ep sm ts hs 19 = er := rfl
theorem md_20 : mdG g L p a k v er ep sm ts hs 20 = ep := rfl
theorem md_22 : mdG g L p a k v er ep sm ts hs 22 = nI sm := rfl
theorem md_23 : mdG g L p a k v er ep sm ts hs 23 = nI ts := rfl
theorem md_24 : mdG g L p a k v er ep sm ts hs 24 = nI hs := rfl
theorem md_u15 : upd (mdG g L p a k v er ep sm ts hs) 15 (nI x) = mdG g L x a k v er ep sm ts hs := by
  funext j; unfold upd mdG; by_cases h : j = 15
  · subst h; rfl
  · rw [if_neg h, if_neg h, if_neg h]
theorem md_u16 : upd (mdG g L p a k v er ep sm ts hs) 16 (nI x) = mdG g L p x k v er ep sm ts hs := by
  funext j; unfold upd mdG; by_cases h : j = 16
  · subst h; rfl
  · rw [if_neg h, if_neg h, if_neg h]
theorem md_u17 : upd (mdG g L p a k v er ep sm ts hs) 17 (nI x) = mdG g L p a x v er ep sm ts hs := by
  funext j; unfold upd mdG; by_cases h : j = 17
  · subst h; rfl
  · rw [if_neg h, if_neg h, if_neg h]
theorem md_u18 : upd (mdG g L p a k v er ep sm ts hs) 18 (nI x) = mdG g L p a k x er ep sm ts hs := by
  funext j; unfold upd mdG; by_cases h : j = 18
  · subst h; rfl
  · rw [if_neg h, if_neg h, if_neg h]
theorem md_u19 : upd (mdG g L p a k v er ep sm ts hs) 19 y = mdG g L p a k v y ep sm ts hs := by
  funext j; unfold upd mdG; by_cases h : j = 19
  · subst h; rfl
  · rw [if_neg h, if_neg h, if_neg h]
theorem md_u20 : upd (mdG g L p a k v er ep sm ts hs) 20 y = mdG g L p a k v er y sm ts hs := by
  funext j; unfold upd mdG; by_cases h : j = 20
  · subst h; rfl
  · rw [if_neg h, if_neg h, if_neg h]
theorem md_u22 : upd (mdG g L p a k v er ep sm ts hs) 22 (nI x) = mdG g L p a k v er ep x ts hs := by
  funext j; unfold upd mdG; by_cases h : j = 22
  · subst h; rfl
  · rw [if_neg h, if_neg h, if_neg h]
theorem md_u23 : upd (mdG g L p a k v er ep sm ts hs) 23 (nI x) = mdG g L p a k v er ep sm x hs := by
  funext j; unfold upd mdG; by_cases h : j = 23
  · subst h; rfl
  · rw [if_neg h, if_neg h, if_neg h]
theorem md_u24 : upd (mdG g L p a k v er ep sm ts hs) 24 (nI x) = mdG g L p a k v er ep sm ts x := by
  funext j; unfold upd mdG; by_cases h : j = 24
  · subst h; rfl
  · rw [if_neg h, if_neg h, if_neg h]
end MdG
def hre (f : Nat → Nat) (L p : Nat) : Int32 := if p < L then nI (f p) else -1
theorem hre_t {f : Nat → Nat} {L p : Nat} (h : p < L) : hre f L p = nI (f p) := if_pos h
theorem hre_f {f : Nat → Nat} {L p : Nat} (h : L ≤ p) : hre f L p = -1 := if_neg (by omega)
theorem m1_eq {a : Nat} (h : a < 2147483648) : ((-1 : Int32) = nI a) = False := eq_false (fun q => by
  have := nI_m1 h
  rw [q.symm] at this
  simp at this)
section TokM
variable {d : Nat} {Q : Po} {μ : Mu} {f : Nat → Nat} {g F : Nat → Int32} {L p a k v sm ts hs b : Nat} {er ep : Int32} {l1 : Option Value} {t : TK}
theorem wp_lu {A : Po} {x y z : Int32} : ((x < y → A (some (some (.int (nI 0)))) μ) ∧ (¬ x < y → (z < x → A (some (some (.int (nI 0)))) μ) ∧ (¬ z < x → A (some (some (.int (nI 1)))) μ))) = A (some (some (.int (bI (y ≤ x ∧ x ≤ z))))) μ := wp_in
theorem m1_ltc {a : Nat} (h : a < 2147483648) : ((-1 : Int32) < nI a) = True := eq_true (by
  rw [Int32.lt_iff_toInt_lt, nI_toInt h]
  have : (-1 : Int32).toInt = -1 := by decide
  omega)
/-- the reference's numbers of kinds -/
def mkk (k : Nat) : Nat := if k = 0 then 3 else if k = 1 then 0 else if k = 2 then 1 else if k = 3 then 2 else 4
def mdT (g : Nat → Int32) (L : Nat) (t : TK) (er ep : Int32) (sm ts hs : Nat) : Nat → Int32 := mdG g L t.2.2.1 t.2.1 (mkk t.1) t.2.2.2 er ep sm ts hs
end TokM


