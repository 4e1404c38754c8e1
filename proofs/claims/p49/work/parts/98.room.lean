/-! the law's room: counting statements, feeding the text, loading it -/
def pkN (b : Nat → Nat) (q : Nat) : Nat → Nat
  | 0 => 0
  | n + 1 => pkN b q n + b (4 * q + n) * 2 ^ (24 - 8 * n)
def pkW (b : Nat → Nat) (i q : Nat) : Nat := pkN b q (if i ≤ 4 * q then 0 else if 4 * q + 4 ≤ i then 4 else i - 4 * q)
theorem pkN_or {b : Nat → Nat} {q n : Nat} (hb : ∀ i, b i < 128) (hn : n < 4) : nI (pkN b q n) ||| nI (b (4 * q + n) * 2 ^ (24 - 8 * n)) = nI (pkN b q (n + 1)) := by
  have h : ∃ A, pkN b q n = 2 ^ (32 - 8 * n) * A := by
    have h0 := hb (4 * q)
    rcases (by omega : n = 0 ∨ n = 1 ∨ n = 2 ∨ n = 3) with rfl | rfl | rfl | rfl
    · exact ⟨0, rfl⟩
    · exact ⟨b (4 * q + 0), by simp only [pkN]; omega⟩
    · exact ⟨b (4 * q + 0) * 256 + b (4 * q + 1), by simp only [pkN]; omega⟩
    · exact ⟨b (4 * q + 0) * 65536 + b (4 * q + 1) * 256 + b (4 * q + 2), by simp only [pkN]; omega⟩
  obtain ⟨A, hA⟩ := h
  have hx := hb (4 * q + n)
  have hlt : b (4 * q + n) * 2 ^ (24 - 8 * n) < 2 ^ (32 - 8 * n) := by
    rcases (by omega : n = 0 ∨ n = 1 ∨ n = 2 ∨ n = 3) with rfl | rfl | rfl | rfl <;> omega
  rw [nI_or, pkN, hA, Nat.two_pow_add_eq_or_of_lt hlt]
theorem pkW_s {b : Nat → Nat} {i : Nat} (hb : ∀ i, b i < 128) : upd (fun q => nI (pkW b i q)) (i / 4) (nI (pkW b i (i / 4)) ||| nI (b i * 2 ^ (24 - 8 * (i % 4)))) = fun q => nI (pkW b (i + 1) q) := by
  have e1 : pkW b i (i / 4) = pkN b (i / 4) (i % 4) := by
    unfold pkW
    congr 1
    split
    · omega
    · split <;> omega
  have e2 : 4 * (i / 4) + i % 4 = i := by omega
  have h := pkN_or (b := b) (q := i / 4) (n := i % 4) hb (by omega)
  rw [e2] at h
  rw [e1, h]
  funext q
  by_cases hq : q = i / 4
  · subst hq
    rw [upd_s]
    unfold pkW
    congr 2
    split
    · omega
    · split <;> omega
  · rw [upd_n hq]
    unfold pkW
    congr 2
    by_cases h1 : i ≤ 4 * q
    · rw [if_pos h1]
      by_cases h2 : i + 1 ≤ 4 * q
      · rw [if_pos h2]
      · omega
    · rw [if_neg h1, if_neg (show ¬ i + 1 ≤ 4 * q by omega)]
      rw [if_pos (show 4 * q + 4 ≤ i by omega), if_pos (show 4 * q + 4 ≤ i + 1 by omega)]
theorem fB_pk {b : Nat → Nat} {q r : Nat} (hb : ∀ i, b i < 128) (hr : r < 4) : fB (nI (pkW b 20 q)) (24 - 8 * r) = if q < 5 then b (4 * q + r) else fB (nI (pkW b 20 q)) (24 - 8 * r) := by
  by_cases hq : q < 5
  · rw [if_pos hq]
    have e : pkW b 20 q = b (4 * q) * 16777216 + b (4 * q + 1) * 65536 + b (4 * q + 2) * 256 + b (4 * q + 3) := by
      unfold pkW
      rw [if_neg (by omega), if_pos (by omega)]
      simp only [pkN, Nat.add_zero]
      omega
    have h0 := hb (4 * q)
    have h1 := hb (4 * q + 1)
    have h2 := hb (4 * q + 2)
    have h3 := hb (4 * q + 3)
    unfold fB
    have hlt : b (4 * q) * 16777216 + b (4 * q + 1) * 65536 + b (4 * q + 2) * 256 + b (4 * q + 3) < 2 ^ 32 := by omega
    rw [nI_bv, BitVec.toNat_ofNat, e, Nat.mod_eq_of_lt hlt]
    rcases (by omega : r = 0 ∨ r = 1 ∨ r = 2 ∨ r = 3) with rfl | rfl | rfl | rfl
    · show (b (4 * q) * 16777216 + b (4 * q + 1) * 65536 + b (4 * q + 2) * 256 + b (4 * q + 3)) / 16777216 % 256 = b (4 * q); omega
    · show (b (4 * q) * 16777216 + b (4 * q + 1) * 65536 + b (4 * q + 2) * 256 + b (4 * q + 3)) / 65536 % 256 = b (4 * q + 1); omega
    · show (b (4 * q) * 16777216 + b (4 * q + 1) * 65536 + b (4 * q + 2) * 256 + b (4 * q + 3)) / 256 % 256 = b (4 * q + 2); omega
    · show (b (4 * q) * 16777216 + b (4 * q + 1) * 65536 + b (4 * q + 2) * 256 + b (4 * q + 3)) / 1 % 256 = b (4 * q + 3); omega
  · rw [if_neg hq]
theorem fB5_pk {b : Nat → Nat} {j : Nat} (hb : ∀ i, b i < 128) (hj : j < 20) : fB5 (nI (pkW b 20 0)) (nI (pkW b 20 1)) (nI (pkW b 20 2)) (nI (pkW b 20 3)) (nI (pkW b 20 4)) j = b j := by
  unfold fB5
  have h : ∀ q, q < 5 → 4 * q ≤ j → j < 4 * q + 4 → fB (nI (pkW b 20 q)) (24 - 8 * (j % 4)) = b j := by
    intro q h1 h2 h3
    rw [fB_pk hb (by omega), if_pos h1]
    congr 1
    omega
  split
  · exact h 0 (by omega) (by omega) (by omega)
  · split
    · exact h 1 (by omega) (by omega) (by omega)
    · split
      · exact h 2 (by omega) (by omega) (by omega)
      · split
        · exact h 3 (by omega) (by omega) (by omega)
        · exact h 4 (by omega) (by omega) (by omega)
theorem take_cnt {l : List Nat} {k : Nat} (h : k < l.length) : (l.take (k + 1)).count 59 = (l.take k).count 59 + (if l.getD k 0 = 59 then 1 else 0) := by
  rw [List.take_add_one, List.count_append, List.getElem?_eq_getElem h, List.getD_eq_getElem?_getD, List.getElem?_eq_getElem h]
  simp only [Option.toList_some, Option.getD_some]
  rw [List.count_cons, List.count_nil]
  by_cases e : l[k] = 59 <;> simp [e]
section Room
variable {d : Nat} {Q : Po} {μ μ' : Mu} {u9 : Nat × Nat} {L a k m n c t w q sq z0 hi : Nat} {xs : Nat → Int32} {x : Int32} {l0 l1 l3 l4 l5 : Option Value} {l : List Nat} {r tn : Nat → Int32}
theorem l_183 (hT : StL μ hi a l) (hl : l.length < 1000) : ∀ m k, k + m = l.length → EM 183 (d + 6) 4 [some (.ref a), some (.int (nI ((l.take k).count 59))), some (.int (nI k))] [] μ (0, 0) Q = Q (some (some (.int (nI (l.count 59))))) μ := by
  obtain ⟨w, -, -, -, -, ht, hc, hb⟩ := hT
  have h18 := fun (d : Nat) (Q : Po) => s_18 (d := d) (Q := Q) ht (by omega)
  have sh := ht.1
  intro m
  induction m with
  | zero =>
    intro k hk
    obtain rfl : k = l.length := by omega
    rw [e_183_4]
    simp (disch := first | omega | rfl) only [e_183_0, e_183_1, e_183_2, e_183_3, e_183_5, e_183_6, e_183_9, e_183_12, e_183_13, e_183_14, e_183_15, e_183_18, e_183_20, e_183_23, e_183_24, e_183_27, e_183_28, e_183_29, e_183_30, e_183_33, e_183_36, e_183_37, ge1, ule_t, true_or, or_true, nI_add, nI_mul, nI_sub, nI_clamp, nI_lt_t, nI_lt_f, nI_le_t, nI_le_f, nI_eq_t, nI_eq_f, vp_nI, tI, fI, not_true, not_false_iff, true_and, and_true, Classical.not_not, mS_uI, mS_uA, mS_uJ, mS_uR, mS_uX, mR_uI, mR_uA, mR_uJ, mR_uX, mX_uI, mX_uA, mX_uJ, mX_uR, mI_s, mI_n, mI_A, mI_An, mI_uJ, mI_uR, mI_uX, mJ_uI, mJ_uA, mJ_uR, mJ_uX, onR_s, kC_v, kC_n, kC_t, sh, h18]
    rw [List.take_length]
  | succ m ih =>
    intro k hk
    have h19 := fun (d : Nat) (Q : Po) => s_19 (d := d) (Q := Q) (k := k) ht (by omega) (by omega) (hc k (by omega)) (getD_lt hb (by omega))
    have hlt := getD_lt hb (show k < l.length by omega)
    have ih1 := ih (k + 1) (by omega)
    rw [take_cnt (by omega)] at ih1
    rw [e_183_4]
    by_cases e : l.getD k 0 = 59
    · rw [if_pos e] at ih1
      simp (disch := first | omega | rfl) only [e_183_0, e_183_1, e_183_2, e_183_3, e_183_5, e_183_6, e_183_9, e_183_12, e_183_13, e_183_14, e_183_15, e_183_18, e_183_20, e_183_23, e_183_24, e_183_27, e_183_28, e_183_29, e_183_30, e_183_33, e_183_36, e_183_37, ge1, ule_t, true_or, or_true, nI_add, nI_mul, nI_sub, nI_clamp, nI_lt_t, nI_lt_f, nI_le_t, nI_le_f, nI_eq_t, nI_eq_f, vp_nI, tI, fI, not_true, not_false_iff, true_and, and_true, Classical.not_not, mS_uI, mS_uA, mS_uJ, mS_uR, mS_uX, mR_uI, mR_uA, mR_uJ, mR_uX, mX_uI, mX_uA, mX_uJ, mX_uR, mI_s, mI_n, mI_A, mI_An, mI_uJ, mI_uR, mI_uX, mJ_uI, mJ_uA, mJ_uR, mJ_uX, onR_s, kC_v, kC_n, kC_t, sh, h18, h19, e, show (l.length ≤ k) = False from eq_false (by omega)]
      exact ih1
    · rw [if_neg e, Nat.add_zero] at ih1
      simp (disch := first | omega | rfl) only [e_183_0, e_183_1, e_183_2, e_183_3, e_183_5, e_183_6, e_183_9, e_183_12, e_183_13, e_183_14, e_183_15, e_183_18, e_183_20, e_183_23, e_183_24, e_183_27, e_183_28, e_183_29, e_183_30, e_183_33, e_183_36, e_183_37, ge1, ule_t, true_or, or_true, nI_add, nI_mul, nI_sub, nI_clamp, nI_lt_t, nI_lt_f, nI_le_t, nI_le_f, nI_eq_t, nI_eq_f, vp_nI, tI, fI, not_true, not_false_iff, true_and, and_true, Classical.not_not, mS_uI, mS_uA, mS_uJ, mS_uR, mS_uX, mR_uI, mR_uA, mR_uJ, mR_uX, mX_uI, mX_uA, mX_uJ, mX_uR, mI_s, mI_n, mI_A, mI_An, mI_uJ, mI_uR, mI_uX, mJ_uI, mJ_uA, mJ_uR, mJ_uX, onR_s, kC_v, kC_n, kC_t, sh, h18, h19, e, Nat.add_zero, show (l.length ≤ k) = False from eq_false (by omega), show (nI (l.getD k 0) = nI 59) = False from nI_eq_f e (by omega) (by omega)]
      exact ih1
theorem w_183 (hT : StL μ hi a l) (hl : l.length < 1000) : Ev (d + 7) 183 [.ref a] μ Q = Q (some (some (.int (nI (l.count 59))))) μ := by
  have h := l_183 (d := d) (Q := Q) hT hl l.length 0 (by omega)
  rw [in_183]
  simp (disch := first | omega | rfl) only [e_183_0, e_183_1, e_183_2, e_183_3, e_183_5, e_183_6, e_183_9, e_183_12, e_183_13, e_183_14, e_183_15, e_183_18, e_183_20, e_183_23, e_183_24, e_183_27, e_183_28, e_183_29, e_183_30, e_183_33, e_183_36, e_183_37, ge1, ule_t, true_or, or_true, nI_add, nI_mul, nI_sub, nI_clamp, nI_lt_t, nI_lt_f, nI_le_t, nI_le_f, nI_eq_t, nI_eq_f, vp_nI, tI, fI, not_true, not_false_iff, true_and, and_true, Classical.not_not, mS_uI, mS_uA, mS_uJ, mS_uR, mS_uX, mR_uI, mR_uA, mR_uJ, mR_uX, mX_uI, mX_uA, mX_uJ, mX_uR, mI_s, mI_n, mI_A, mI_An, mI_uJ, mI_uR, mI_uX, mJ_uI, mJ_uA, mJ_uR, mJ_uX, onR_s, kC_v, kC_n, kC_t]
  exact h

theorem l_184a : ∀ n (μ : Mu) (u : Nat × Nat) (ta : Nat) (l : List Nat) (q : Nat), (l.length + n) % 20 = 0 → LwW L xs μ → 1000 ≤ mX μ → z0 ≤ mX μ → StB μ z0 (mX μ) ta l → n < 20 ∧ l.length + n ≤ 640 → ub u (10 * q) (13000 * q) → q + n ≤ 20 → (∀ μ' u' ta' p, FrG (mX μ) μ μ' → StB μ' z0 (mX μ') ta' (l ++ p) → (l ++ p).length % 20 = 0 → p.length ≤ n → ub u' (10 * 20) (13000 * 20) → EM 184 (d + 8) 35 [l0, l1, some (.ref ta'), l3, l4, l5] [] μ' u' Q) → EM 184 (d + 8) 2 [l0, l1, some (.ref ta), l3, l4, l5] [] μ u Q := by
  intro n
  induction n with
  | zero =>
    intro μ u ta l q hin hW hX hz0 hT hl hu hq10 hq
    have hT0 := hT
    obtain ⟨w, -, -, -, -, ht, -⟩ := hT0
    have h18 := fun (d : Nat) (Q : Po) => s_18 (d := d) (Q := Q) ht (by omega)
    have sh := ht.1
    have er : nI l.length - nI l.length / nI 20 * nI 20 = nI 0 := by rw [nI_div (by omega) (by omega) (by omega), nI_remG (by omega) (by omega) (by omega), show l.length % 20 = 0 by omega]
    have ku : ule u (400, 900000) = True := hu.le (by omega) (by omega)
    rw [e_184_2]
    simp (disch := first | omega | rfl) only [e_184_3, e_184_6, e_184_8, e_184_9, e_184_12, e_184_15, e_184_16, e_184_19, e_184_20, e_184_23, e_184_25, e_184_28, e_184_31, e_184_32, mS_uI, mS_uA, mS_uJ, mS_uR, mS_uX, mR_uI, mR_uA, mR_uJ, mR_uX, mX_uI, mX_uA, mX_uJ, mX_uR, mI_s, mI_n, mI_A, mI_An, mI_uJ, mI_uR, mI_uX, mJ_uI, mJ_uA, mJ_uR, mJ_uX, onR_s, kC_v, kC_n, kC_t, sh, h18, er, ku, nI_eq_f, nI_eq_t, not_true, not_false_iff, true_and, and_true, forall_const, false_implies]
    exact hq μ u ta [] FrG.refl (by rw [List.append_nil]; exact hT) (by rw [List.append_nil]; omega) (by simp) (hu.mono (by omega) (by omega))
  | succ n ih =>
    intro μ u ta l q hin hW hX hz0 hT hl hu hq10 hq
    have hT0 := hT
    obtain ⟨w, -, -, -, -, ht, -⟩ := hT0
    have h18 := fun (d : Nat) (Q : Po) => s_18 (d := d) (Q := Q) ht (by omega)
    have sh := ht.1
    have er : nI l.length - nI l.length / nI 20 * nI 20 = nI (l.length % 20) := by rw [nI_div (by omega) (by omega) (by omega), nI_remG (by omega) (by omega) (by omega)]
    have ku : ule u (400, 900000) = True := hu.le (by omega) (by omega)
    have hne : (nI (l.length % 20) = nI 0) = False := nI_eq_f (by omega) (by omega) (by omega)
    rw [e_184_2]
    have kn1 : ule (uad u (1, 4)) (400, 900000) = True := (hu.ad).le (by omega) (by omega)
    have kn2 : ule (uad (uad u (1, 4)) (1, 16)) (400, 900000) = True := (hu.ad.ad).le (by omega) (by omega)
    simp (disch := first | omega | rfl) only [e_184_3, e_184_6, e_184_8, e_184_9, e_184_12, e_184_15, e_184_16, e_184_19, e_184_20, e_184_23, e_184_25, e_184_28, e_184_31, e_184_32, mS_uI, mS_uA, mS_uJ, mS_uR, mS_uX, mR_uI, mR_uA, mR_uJ, mR_uX, mX_uI, mX_uA, mX_uJ, mX_uR, mI_s, mI_n, mI_A, mI_An, mI_uJ, mI_uR, mI_uX, mJ_uI, mJ_uA, mJ_uR, mJ_uX, onR_s, kC_v, kC_n, kC_t, sh, kn1, kn2, h18, er, hne, ku, nI_eq_f, not_true, not_false_iff, true_and, and_true, forall_const, false_implies]
    refine L_new (by omega) (fun n1 g1 s1 => ?_)
    rw [kC_n]
    have b1 : ub (cg (uN μ 1 4) n1 (uad u (1, 4)) (1, 16)) (10 * q + 2) (13000 * q + 20) := (hu.ad.ch).mono (by omega) (by omega)
    generalize cg (uN μ 1 4) n1 (uad u (1, 4)) (1, 16) = v1 at b1 ⊢
    have kk2 : ule (uad v1 (1, 2000)) (400, 900000) = True := (b1.ad).le (by omega) (by omega)
    have sh2 := s1.sh
    simp (disch := first | omega | rfl) only [e_184_3, e_184_6, e_184_8, e_184_9, e_184_12, e_184_15, e_184_16, e_184_19, e_184_20, e_184_23, e_184_25, e_184_28, e_184_31, e_184_32, ge1, ule_t, true_or, or_true, nI_add, nI_mul, nI_sub, nI_clamp, nI_lt_t, nI_lt_f, nI_le_t, nI_le_f, nI_eq_t, nI_eq_f, vp_nI, tI, fI, not_true, not_false_iff, true_and, and_true, Classical.not_not, mS_uI, mS_uA, mS_uJ, mS_uR, mS_uX, mR_uI, mR_uA, mR_uJ, mR_uX, mX_uI, mX_uA, mX_uJ, mX_uR, mI_s, mI_n, mI_A, mI_An, mI_uJ, mI_uR, mI_uX, mJ_uI, mJ_uA, mJ_uR, mJ_uX, onR_s, kC_v, kC_n, kC_t, kk2, sh2]
    refine L_str s1 ((hT.up (Nat.le_refl _) (Nat.zero_le _)).fr g1) (by simp only [List.length_append, dgs_len, List.length_nil, tl24, tl25, tl26, tl27, tl28, tl29, tl30, tl31, tl32, nml, List.length_cons]; omega) (fun n2 g2 s2 => ?_)
    have h2 := g1.trans g2
    rw [kC_v]
    have b2 : ub (cg n1 n2 v1 (1, 2000)) (10 * q + 3) (13000 * q + 2020) := (b1.ch).mono (by omega) (by omega)
    generalize cg n1 n2 v1 (1, 2000) = v2 at b2 ⊢
    have kk3 : ule (uad v2 (1, 2000)) (400, 900000) = True := (b2.ad).le (by omega) (by omega)
    have sh3 := s2.sh
    simp (disch := first | omega | rfl) only [e_184_3, e_184_6, e_184_8, e_184_9, e_184_12, e_184_15, e_184_16, e_184_19, e_184_20, e_184_23, e_184_25, e_184_28, e_184_31, e_184_32, ge1, ule_t, true_or, or_true, nI_add, nI_mul, nI_sub, nI_clamp, nI_lt_t, nI_lt_f, nI_le_t, nI_le_f, nI_eq_t, nI_eq_f, vp_nI, tI, fI, not_true, not_false_iff, true_and, and_true, Classical.not_not, mS_uI, mS_uA, mS_uJ, mS_uR, mS_uX, mR_uI, mR_uA, mR_uJ, mR_uX, mX_uI, mX_uA, mX_uJ, mX_uR, mI_s, mI_n, mI_A, mI_An, mI_uJ, mI_uR, mI_uX, mJ_uI, mJ_uA, mJ_uR, mJ_uX, onR_s, kC_v, kC_n, kC_t, kk3, sh3]
    refine L_str s2 (((hW.2.2 27 (by omega)).fr (h2.le (by omega))).up (by omega) (Nat.le_refl _)) (by simp only [List.length_append, dgs_len, List.length_nil, tl24, tl25, tl26, tl27, tl28, tl29, tl30, tl31, tl32, nml, List.length_cons]; omega) (fun n3 g3 s3 => ?_)
    have h3 := h2.trans g3
    rw [kC_v]
    have b3 : ub (cg n2 n3 v2 (1, 2000)) (10 * q + 4) (13000 * q + 4020) := (b2.ch).mono (by omega) (by omega)
    generalize cg n2 n3 v2 (1, 2000) = v3 at b3 ⊢
    have kk4 : ule (uad v3 (5, 8004)) (400, 900000) = True := (b3.ad).le (by omega) (by omega)
    have sh4 := s3.sh
    simp (disch := first | omega | rfl) only [e_184_3, e_184_6, e_184_8, e_184_9, e_184_12, e_184_15, e_184_16, e_184_19, e_184_20, e_184_23, e_184_25, e_184_28, e_184_31, e_184_32, ge1, ule_t, true_or, or_true, nI_add, nI_mul, nI_sub, nI_clamp, nI_lt_t, nI_lt_f, nI_le_t, nI_le_f, nI_eq_t, nI_eq_f, vp_nI, tI, fI, not_true, not_false_iff, true_and, and_true, Classical.not_not, mS_uI, mS_uA, mS_uJ, mS_uR, mS_uX, mR_uI, mR_uA, mR_uJ, mR_uX, mX_uI, mX_uA, mX_uJ, mX_uR, mI_s, mI_n, mI_A, mI_An, mI_uJ, mI_uR, mI_uX, mJ_uI, mJ_uA, mJ_uR, mJ_uX, onR_s, kC_v, kC_n, kC_t, kk4, sh4]
    have lw4 := s3.lw
    refine L_toS s3 (fun n4 g4 g0 gx t4 => ?_)
    have hz := h3.trans g4
    rw [kC_v]
    have bz : ub (cg n3 n4 v3 (5, 8004)) (10 * q + 9) (13000 * q + 12024) := (b3.ch).mono (by omega) (by omega)
    generalize cg n3 n4 v3 (5, 8004) = vz at bz ⊢
    have tz := t4
    have kf : ule vz (400, 900000) = True := bz.le (by omega) (by omega)
    simp (disch := first | omega | rfl) only [e_184_3, e_184_6, e_184_8, e_184_9, e_184_12, e_184_15, e_184_16, e_184_19, e_184_20, e_184_23, e_184_25, e_184_28, e_184_31, e_184_32, ge1, ule_t, true_or, or_true, nI_add, nI_mul, nI_sub, nI_clamp, nI_lt_t, nI_lt_f, nI_le_t, nI_le_f, nI_eq_t, nI_eq_f, vp_nI, tI, fI, not_true, not_false_iff, true_and, and_true, Classical.not_not, mS_uI, mS_uA, mS_uJ, mS_uR, mS_uX, mR_uI, mR_uA, mR_uJ, mR_uX, mX_uI, mX_uA, mX_uJ, mX_uR, mI_s, mI_n, mI_A, mI_An, mI_uJ, mI_uR, mI_uX, mJ_uI, mJ_uA, mJ_uR, mJ_uX, onR_s, kC_v, kC_n, kC_t, kf]
    have hX2 := hz.1
    have el : [] ++ l ++ txB 27 = l ++ [32] := by rw [t27e]; rfl
    rw [el] at tz
    have ll : (l ++ [32]).length = l.length + 1 := by simp
    refine ih _ _ _ (l ++ [32]) (q + 1) ?_ (hW.fr hz hX) (by omega) (by omega) (tz.up (Nat.le_refl _) (by omega)) (by omega) ⟨by have := bz.1; omega, by have := bz.2; omega⟩ (by omega) (fun μ' u' ta' p h1 h2 h3 h4 h5 => hq _ _ _ ([32] ++ p) (hz.trans (h1.le hX2)) (by rw [← List.append_assoc]; exact h2) (by rw [← List.append_assoc]; exact h3) (by rw [List.length_append]; simp; omega) h5)
    rw [ll]; omega
/-- the int array of a line, filled -/
theorem l_184c {ν : Mu} {w k : Nat} (hT : StL ν hi a l) (hl : l.length < 1000) (hw : mS ν w = (20, 5)) (hw1 : 1000 ≤ w) (hk : k + 20 ≤ l.length) (b : Nat → Nat) (hb : ∀ i, b i < 128) (hbl : ∀ i, i < 20 → b i = l.getD (k + i) 0) (hwv : ∀ v, (mR ν a 0 = some v) → v ≠ w) (ku : ule u9 (400, 900000) = True) (haw : a ≠ w) : ∀ m i, i + m = 20 → EM 184 (d + 8) 53 [l0, l1, some (.ref a), some (.int (nI k)), some (.ref w), some (.int (nI i))] [] (uA ν w (fun q => nI (pkW b i q))) u9 Q = EM 184 (d + 8) 95 [l0, l1, some (.ref a), some (.int (nI k)), some (.ref w), some (.int (nI 20))] [] (uA ν w (fun q => nI (pkW b 20 q))) u9 Q := by
  obtain ⟨v, -, -, -, -, ⟨t1, t2, t3, t4⟩, hc, hb9⟩ := hT
  have hvw := hwv v t2
  intro m
  induction m with
  | zero =>
    intro i hi
    obtain rfl : i = 20 := by omega
    rw [e_184_53]
    simp (disch := first | omega | rfl) only [e_184_55, e_184_57, e_184_60, e_184_62, e_184_64, e_184_65, e_184_66, e_184_67, e_184_68, e_184_69, e_184_70, e_184_72, e_184_73, e_184_76, e_184_78, e_184_80, e_184_82, e_184_83, e_184_84, e_184_85, e_184_86, e_184_87, e_184_88, e_184_89, e_184_92, ge1, ule_t, true_or, or_true, nI_add, nI_mul, nI_sub, nI_clamp, nI_lt_t, nI_lt_f, nI_le_t, nI_le_f, nI_eq_t, nI_eq_f, vp_nI, tI, fI, not_true, not_false_iff, true_and, and_true, Classical.not_not, mS_uI, mS_uA, mS_uJ, mS_uR, mS_uX, mR_uI, mR_uA, mR_uJ, mR_uX, mX_uI, mX_uA, mX_uJ, mX_uR, mI_s, mI_n, mI_A, mI_An, mI_uJ, mI_uR, mI_uX, mJ_uI, mJ_uA, mJ_uR, mJ_uX, onR_s, kC_v, kC_n, kC_t, ku]
  | succ m ih =>
    intro i hi
    have ht : TxS (uA ν w (fun q => nI (pkW b i q))) a v l.length := ⟨t1, t2, (mI_An haw).trans t3, t4⟩
    have h19 := fun (d : Nat) (Q : Po) => s_19 (d := d) (Q := Q) (k := k + i) (c := l.getD (k + i) 0) ht (by omega) (by omega) ((mI_An hvw).trans (hc _ (by omega))) (getD_lt hb9 (by omega))
    have sh : mS ν a = (0, 4) := t1
    have e4 : nI i / nI 4 = nI (i / 4) := nI_div (by omega) (by omega) (by omega)
    have e5 : i - i / 4 * 4 = i % 4 := by omega
    have hlt := getD_lt hb9 (show k + i < l.length by omega)
    have e6 : nI (l.getD (k + i) 0) <<< (nI (24 - 8 * (i % 4)) &&& 31) = nI (b i * 2 ^ (24 - 8 * (i % 4))) := by rw [nI_shl (by omega), hbl i (by omega)]
    have e7 := pkW_s (b := b) (i := i) hb
    rw [e_184_53]
    simp (disch := first | omega | rfl) only [e_184_55, e_184_57, e_184_60, e_184_62, e_184_64, e_184_65, e_184_66, e_184_67, e_184_68, e_184_69, e_184_70, e_184_72, e_184_73, e_184_76, e_184_78, e_184_80, e_184_82, e_184_83, e_184_84, e_184_85, e_184_86, e_184_87, e_184_88, e_184_89, e_184_92, ge1, ule_t, true_or, or_true, nI_add, nI_mul, nI_sub, nI_clamp, nI_lt_t, nI_lt_f, nI_le_t, nI_le_f, nI_eq_t, nI_eq_f, vp_nI, tI, fI, not_true, not_false_iff, true_and, and_true, Classical.not_not, mS_uI, mS_uA, mS_uJ, mS_uR, mS_uX, mR_uI, mR_uA, mR_uJ, mR_uX, mX_uI, mX_uA, mX_uJ, mX_uR, mI_s, mI_n, mI_A, mI_An, mI_uJ, mI_uR, mI_uX, mJ_uI, mJ_uA, mJ_uR, mJ_uX, onR_s, kC_v, kC_n, kC_t, ku, sh, hw, hw1, e4, e5, h19, e6, mI_A, uIA, e7, show (20 ≤ i) = False from eq_false (by omega)]
    exact ih (i + 1) (by omega)
/-- only the text and its size change among the things of before -/
def FrP (μ μ' : Mu) : Prop := mX μ ≤ mX μ' ∧ (∀ a, a < mX μ → mS μ' a = mS μ a ∧ ∀ k, mR μ' a k = mR μ a k) ∧ ∀ a, a < mX μ → a ≠ 1031 → ∀ k, (a = 1000 → k ≠ 6) → mI μ' a k = mI μ a k
theorem FrP.refl : FrP μ μ := ⟨Nat.le_refl _, fun _ _ => ⟨rfl, fun _ => rfl⟩, fun _ _ _ _ _ => rfl⟩
theorem FrP.trans {μ2 : Mu} (h : FrP μ μ') (h' : FrP μ' μ2) : FrP μ μ2 := by
  have := h.1
  exact ⟨Nat.le_trans h.1 h'.1, fun a ha => ⟨(h'.2.1 a (by omega)).1.trans (h.2.1 a ha).1, fun k => ((h'.2.1 a (by omega)).2 k).trans ((h.2.1 a ha).2 k)⟩, fun a h1 h2 k h3 => (h'.2.2 a (by omega) h2 k h3).trans (h.2.2 a h1 h2 k h3)⟩
theorem FrP.g (h : FrG (mX μ) μ μ') : FrP μ μ' := ⟨h.1, fun a ha => ⟨(h.2 a ha).1, (h.2 a ha).2.2⟩, fun a ha _ k _ => (h.2 a ha).2.1 k⟩
theorem FrP.st {z0 : Nat} (h : FrP μ μ') (hT : StB μ z0 (mX μ) a l) (hz : 1032 ≤ z0) : StB μ' z0 (mX μ') a l := by
  obtain ⟨v, z1, z2, z3, z4, ⟨t1, t2, t3, t4⟩, hc, hb9⟩ := hT
  have := h.1
  exact ⟨v, z1, z2, by omega, by omega, ⟨(h.2.1 a z3).1.trans t1, ((h.2.1 a z3).2 0).trans t2, (h.2.2 a z3 (by omega) 1 (by omega)).trans t3, (h.2.1 v z4).1.trans t4⟩, fun j hj => (h.2.2 v z4 (by omega) j (by omega)).trans (hc j hj), hb9⟩
theorem l_184b {μ0 : Mu} {z0 : Nat} (hz : 1032 ≤ z0) (hX0 : 1032 ≤ mX μ0) (k0 : mS μ0 1000 = (11, 11)) (k5 : mR μ0 1000 5 = some 1030) (kT : ShT μ0) (hT0 : StB μ0 z0 (mX μ0) a l) (hl : l.length ≤ 640) (h20 : l.length % 20 = 0) (hq : ∀ μ', FrP μ0 μ' → mI μ' 1000 6 = nI l.length → (∀ j, j < l.length → mI μ' 1031 j = nI (l.getD j 0)) → Q (some none) μ') : ∀ m j (μ : Mu) (u : Nat × Nat) (l4 l5 : Option Value), 20 * j + 20 * m = l.length → FrP μ0 μ → mI μ 1000 6 = nI (20 * j) → (∀ i, i < 20 * j → mI μ 1031 i = nI (l.getD i 0)) → ub u (200 + j) (260000 + 5 * j) → EM 184 (d + 8) 37 [some (.ref 1000), l1, some (.ref a), some (.int (nI (20 * j))), l4, l5] [] μ u Q := by
  intro m
  induction m with
  | zero =>
    intro j μ u l4 l5 hj hf h6 hb hu
    have hT := hf.st hT0 hz
    obtain ⟨v, -, -, -, -, ht, -⟩ := hT
    have h18 := fun (d : Nat) (Q : Po) => s_18 (d := d) (Q := Q) ht (by omega)
    have sh := ht.1
    have ku : ule u (400, 900000) = True := hu.le (by omega) (by omega)
    rw [e_184_37]
    simp (disch := first | omega | rfl) only [e_184_38, e_184_39, e_184_42, e_184_45, e_184_46, e_184_48, e_184_50, e_184_51, e_184_126, ge1, ule_t, true_or, or_true, nI_add, nI_mul, nI_sub, nI_clamp, nI_lt_t, nI_lt_f, nI_le_t, nI_le_f, nI_eq_t, nI_eq_f, vp_nI, tI, fI, not_true, not_false_iff, true_and, and_true, Classical.not_not, mS_uI, mS_uA, mS_uJ, mS_uR, mS_uX, mR_uI, mR_uA, mR_uJ, mR_uX, mX_uI, mX_uA, mX_uJ, mX_uR, mI_s, mI_n, mI_A, mI_An, mI_uJ, mI_uR, mI_uX, mJ_uI, mJ_uA, mJ_uR, mJ_uX, onR_s, kC_v, kC_n, kC_t, sh, h18, ku, show (l.length ≤ 20 * j) = True from eq_true (by omega)]
    exact hq μ hf (by rw [h6, show 20 * j = l.length by omega]) (fun i hi => hb i (by omega))
  | succ m ih =>
    intro j μ u l4 l5 hj hf h6 hb hu
    have hX := hf.1
    have hT := hf.st hT0 hz
    have hT1 := hT
    obtain ⟨v, z1, z2, z3, z4, ht, hc, hb9⟩ := hT1
    have h18 := fun (d : Nat) (Q : Po) => s_18 (d := d) (Q := Q) ht (by omega)
    have sh := ht.1
    have ku : ule u (400, 900000) = True := hu.le (by omega) (by omega)
    have ku2 : ule (uad u (1, 5)) (400, 900000) = True := hu.ad.le (by omega) (by omega)
    have hgw : ∀ i, (if i < 20 then l.getD (20 * j + i) 0 else 0) < 128 := by
      intro i
      split
      · exact getD_lt hb9 (by omega)
      · omega
    have fw : FrG (mX μ) μ (uN μ 20 5) := FrG.refl.uN (Nat.le_refl _)
    have hTw : StL (uN μ 20 5) (mX μ) a l := (hT.fr fw).up (Nat.le_refl _) (Nat.zero_le _)
    have hw : mS (uN μ 20 5) (mX μ) = (20, 5) := mS_uNs
    have e0 : uN μ 20 5 = uA (uN μ 20 5) (mX μ) (fun q => nI (pkW (fun i => if i < 20 then l.getD (20 * j + i) 0 else 0) 0 q)) := by
      have : (fun q => nI (pkW (fun i => if i < 20 then l.getD (20 * j + i) 0 else 0) 0 q)) = mI (uN μ 20 5) (mX μ) := by
        funext q
        show nI 0 = _
        rw [nI_0]; exact (if_pos rfl).symm
      rw [this, uA_self]
    have hlc := l_184c (d := d) (Q := Q) (l0 := some (.ref 1000)) (l1 := l1) (u9 := uad u (1, 5)) (k := 20 * j) hTw (by omega) hw (by omega) (by omega) (fun i => if i < 20 then l.getD (20 * j + i) 0 else 0) hgw (fun i hi => if_pos hi) (fun v9 hv9 => by
      have e1 : mR (uN μ 20 5) a 0 = mR μ a 0 := mR_uN (by omega)
      rw [e1, ht.2.1] at hv9
      cases hv9; omega) ku2 (by omega) 20 0 (by omega)
    rw [← e0] at hlc
    rw [e_184_37]
    simp (disch := first | omega | rfl) only [e_184_38, e_184_39, e_184_42, e_184_45, e_184_46, e_184_48, e_184_50, e_184_51, ge1, ule_t, true_or, or_true, nI_add, nI_mul, nI_sub, nI_clamp, nI_lt_t, nI_lt_f, nI_le_t, nI_le_f, nI_eq_t, nI_eq_f, vp_nI, tI, fI, not_true, not_false_iff, true_and, and_true, Classical.not_not, mS_uI, mS_uA, mS_uJ, mS_uR, mS_uX, mR_uI, mR_uA, mR_uJ, mR_uX, mX_uI, mX_uA, mX_uJ, mX_uR, mI_s, mI_n, mI_A, mI_An, mI_uJ, mI_uR, mI_uX, mJ_uI, mJ_uA, mJ_uR, mJ_uX, onR_s, kC_v, kC_n, kC_t, sh, h18, ku, ku2, show (l.length ≤ 20 * j) = False from eq_false (by omega), Nat.reduceLeDiff]
    rw [hlc]
    generalize hν : uA (uN μ 20 5) (mX μ) (fun q => nI (pkW (fun i => if i < 20 then l.getD (20 * j + i) 0 else 0) 20 q)) = ν
    have fν : FrG (mX μ) μ ν := by rw [← hν]; exact fw.uA (Nat.le_refl _)
    have hfν := hf.trans (FrP.g fν)
    have xν : mX ν = mX μ + 1 := by rw [← hν]; rfl
    have hwν : mS ν (mX μ) = (20, 5) := by rw [← hν]; exact hw
    have iν : ∀ q, mI ν (mX μ) q = nI (pkW (fun i => if i < 20 then l.getD (20 * j + i) 0 else 0) 20 q) := fun q => by rw [← hν, mI_A]
    have i0 := iν 0
    have i1 := iν 1
    have i2 := iν 2
    have i3 := iν 3
    have i4 := iν 4
    have s0 : mS ν 1000 = (11, 11) := (hfν.2.1 1000 (by omega)).1.trans k0
    have s5 : mR ν 1000 5 = some 1030 := ((hfν.2.1 1000 (by omega)).2 5).trans k5
    have sT : ShT ν := ⟨(hfν.2.1 1030 (by omega)).1.trans kT.1, ((hfν.2.1 1030 (by omega)).2 0).trans kT.2.1, (hfν.2.1 1031 (by omega)).1.trans kT.2.2⟩
    have s6 : mI ν 1000 6 = nI (20 * j) := ((fν.2 1000 (by omega)).2.1 6).trans h6
    have hb' : ∀ i, i < 20 * j → mI ν 1031 i = nI (l.getD i 0) := fun i hi => ((fν.2 1031 (by omega)).2.1 i).trans (hb i hi)
    have h1000 : (1000 ≤ mX μ) = True := eq_true (by omega)
    simp (disch := first | omega | rfl) only [e_184_95, e_184_96, e_184_98, e_184_99, e_184_100, e_184_102, e_184_103, e_184_104, e_184_106, e_184_107, e_184_108, e_184_110, e_184_111, e_184_112, e_184_114, e_184_115, e_184_116, e_184_119, e_184_120, e_184_123, ge1, ule_t, true_or, or_true, nI_add, nI_mul, nI_sub, nI_clamp, nI_lt_t, nI_lt_f, nI_le_t, nI_le_f, nI_eq_t, nI_eq_f, vp_nI, tI, fI, not_true, not_false_iff, true_and, and_true, Classical.not_not, mS_uI, mS_uA, mS_uJ, mS_uR, mS_uX, mR_uI, mR_uA, mR_uJ, mR_uX, mX_uI, mX_uA, mX_uJ, mX_uR, mI_s, mI_n, mI_A, mI_An, mI_uJ, mI_uR, mI_uX, mJ_uI, mJ_uA, mJ_uR, mJ_uX, onR_s, kC_v, kC_n, kC_t, ku2, hwν, i0, i1, i2, i3, i4, s0, h1000, Nat.reduceLeDiff]
    refine c_89 s0 s5 sT s6 (by omega) (fun μ2 g1 g2 g3 g4 g5 => ?_)
    simp (disch := first | omega | rfl) only [e_184_95, e_184_96, e_184_98, e_184_99, e_184_100, e_184_102, e_184_103, e_184_104, e_184_106, e_184_107, e_184_108, e_184_110, e_184_111, e_184_112, e_184_114, e_184_115, e_184_116, e_184_119, e_184_120, e_184_123, ge1, ule_t, true_or, or_true, nI_add, nI_mul, nI_sub, nI_clamp, nI_lt_t, nI_lt_f, nI_le_t, nI_le_f, nI_eq_t, nI_eq_f, vp_nI, tI, fI, not_true, not_false_iff, true_and, and_true, Classical.not_not, mS_uI, mS_uA, mS_uJ, mS_uR, mS_uX, mR_uI, mR_uA, mR_uJ, mR_uX, mX_uI, mX_uA, mX_uJ, mX_uR, mI_s, mI_n, mI_A, mI_An, mI_uJ, mI_uR, mI_uX, mJ_uI, mJ_uA, mJ_uR, mJ_uX, onR_s, kC_v, kC_n, kC_t, ku2, cg0]
    have hX2 : mX μ2 = mX ν := g1.nx
    have fμ2 : FrP ν μ2 := ⟨by omega, fun b hb => ⟨by rw [g1.sh], fun k => by rw [g1.rf]⟩, fun b h1 h2 k h3 => by
      by_cases e : b = 1000
      · subst e; exact g2 k (h3 rfl)
      · exact g1.2.2.2 b (by unfold FT; omega) k⟩
    have e20 : 20 * j + 20 = 20 * (j + 1) := by omega
    have := ih (j + 1) μ2 (uad u (1, 5)) (some (.ref (mX μ))) (some (.int (nI 20))) (by omega) (hfν.trans fμ2) (by rw [← e20]; exact g3) (fun i hi => ?_) ⟨by have := hu.ad (a := 1) (b := 5); exact Nat.le_trans this.1 (by omega), by have := hu.ad (a := 1) (b := 5); exact Nat.le_trans this.2 (by omega)⟩
    · rw [← e20] at this
      exact this
    · by_cases hlo : i < 20 * j
      · rw [g4 i hlo]; exact hb' i hlo
      · obtain ⟨i', rfl⟩ : ∃ i', i = 20 * j + i' := ⟨i - 20 * j, by omega⟩
        rw [g5 i' (by omega), fB5_pk hgw (by omega), sgB_s (hgw i'), if_pos (by omega)]
theorem w_184 {z0 : Nat} (hW : LwW L xs μ) (hz : 1032 ≤ z0) (hX : z0 ≤ mX μ) (k0 : mS μ 1000 = (11, 11)) (k5 : mR μ 1000 5 = some 1030) (kT : ShT μ) (k6 : mI μ 1000 6 = nI 0) (hT : StB μ z0 (mX μ) a l) (hl : l.length ≤ 600) (hq : ∀ μ' p, FrP μ μ' → mI μ' 1000 6 = nI (l ++ p).length → (l ++ p).length ≤ 640 → (∀ j, j < (l ++ p).length → mI μ' 1031 j = nI ((l ++ p).getD j 0)) → (∀ x ∈ l ++ p, x < 128) → Q (some none) μ') : Ev (d + 9) 184 [.ref 1000, .ref a] μ Q := by
  have u0 : ub (0, 0) (10 * 0) (13000 * 0) := ⟨Nat.le_refl _, Nat.le_refl _⟩
  rw [in_184]
  simp (disch := first | omega | rfl) only [e_184_0, e_184_1, ge1, ule_t, true_or, or_true, nI_add, nI_mul, nI_sub, nI_clamp, nI_lt_t, nI_lt_f, nI_le_t, nI_le_f, nI_eq_t, nI_eq_f, vp_nI, tI, fI, not_true, not_false_iff, true_and, and_true, Classical.not_not, mS_uI, mS_uA, mS_uJ, mS_uR, mS_uX, mR_uI, mR_uA, mR_uJ, mR_uX, mX_uI, mX_uA, mX_uJ, mX_uR, mI_s, mI_n, mI_A, mI_An, mI_uJ, mI_uR, mI_uX, mJ_uI, mJ_uA, mJ_uR, mJ_uX, onR_s, kC_v, kC_n, kC_t]
  have hn : ∃ n, n < 20 ∧ (l.length + n) % 20 = 0 := by
    by_cases h : l.length % 20 = 0
    · exact ⟨0, by omega, by omega⟩
    · exact ⟨20 - l.length % 20, by omega, by omega⟩
  obtain ⟨n, hn1, hn2⟩ := hn
  refine l_184a n μ (0, 0) a l 0 hn2 hW (by omega) hX hT ⟨hn1, by omega⟩ u0 (by omega) (fun μ1 u1 ta1 p g1 T1 m1 p1 b1 => ?_)
  have hx := g1.1
  have lp : (l ++ p).length ≤ 640 := by rw [List.length_append]; omega
  have T2 := T1
  obtain ⟨-, -, -, -, -, -, -, hb9⟩ := T2
  simp (disch := first | omega | rfl) only [e_184_35, e_184_36, ge1, ule_t, true_or, or_true, nI_add, nI_mul, nI_sub, nI_clamp, nI_lt_t, nI_lt_f, nI_le_t, nI_le_f, nI_eq_t, nI_eq_f, vp_nI, tI, fI, not_true, not_false_iff, true_and, and_true, Classical.not_not, mS_uI, mS_uA, mS_uJ, mS_uR, mS_uX, mR_uI, mR_uA, mR_uJ, mR_uX, mX_uI, mX_uA, mX_uJ, mX_uR, mI_s, mI_n, mI_A, mI_An, mI_uJ, mI_uR, mI_uX, mJ_uI, mJ_uA, mJ_uR, mJ_uX, onR_s, kC_v, kC_n, kC_t]
  have s5 : ShT μ1 := ⟨(g1.2 1030 (by omega)).1.trans kT.1, ((g1.2 1030 (by omega)).2.2 0).trans kT.2.1, (g1.2 1031 (by omega)).1.trans kT.2.2⟩
  exact l_184b hz (by omega) ((g1.2 1000 (by omega)).1.trans k0) (((g1.2 1000 (by omega)).2.2 5).trans k5) s5 T1 lp m1 (fun μ' h1 h2 h3 => hq μ' p ((FrP.g g1).trans h1) h2 lp h3 hb9) ((l ++ p).length / 20) 0 μ1 u1 _ _ (by omega) FrP.refl (((g1.2 1000 (by omega)).2.1 6).trans k6) (fun i hi => by omega) (b1.mono (by omega) (by omega))
end Room

