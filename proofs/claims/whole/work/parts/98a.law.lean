/-! the law's loop -/
section Lup
variable {d L k u1 u2 : Nat} {Q : Po} {xs : Nat → Int32} {μ : Mu} {l5 l6 l7 l8 : Option Value}

theorem w_all (h : Inv L xs μ) (hL : L ≤ 3072) (hk : 6 * k + 6 ≤ L) (h1 : u1 ≤ 310 + 1000 * k) (h2 : u2 ≤ 32446 + 14000 * k) (hq : Nxt (d + 20) L xs k Q) : ∀ c, c < 46 → EM 304 (d + 20) 40 [some (.ref 300), some (.ref 1000), some (.ref 1298), some (.ref 1309), some (.int (nI (6 * k))), l5, l6, l7, l8] [.int (nI c)] μ (u1, u2) Q
  | 0, _ => by rw [e_304_40_0]; exact w_0 h hL hk h1 h2 hq
  | 1, _ => by rw [e_304_40_1]; exact w_1 h hL hk h1 h2 hq
  | 2, _ => by rw [e_304_40_2]; exact w_2 h hL hk h1 h2 hq
  | 3, _ => by rw [e_304_40_3]; exact w_3 h hL hk h1 h2 hq
  | 4, _ => by rw [e_304_40_4]; exact w_4 h hL hk h1 h2 hq
  | 5, _ => by rw [e_304_40_5]; exact w_5 h hL hk h1 h2 hq
  | 6, _ => by rw [e_304_40_6]; exact w_6 h hL hk h1 h2 hq
  | 7, _ => by rw [e_304_40_7]; exact w_7 h hL hk h1 h2 hq
  | 8, _ => by rw [e_304_40_8]; exact w_8 h hL hk h1 h2 hq
  | 9, _ => by rw [e_304_40_9]; exact w_9 h hL hk h1 h2 hq
  | 10, _ => by rw [e_304_40_10]; exact w_10 h hL hk h1 h2 hq
  | 11, _ => by rw [e_304_40_11]; exact w_11 h hL hk h1 h2 hq
  | 12, _ => by rw [e_304_40_12]; exact w_12 h hL hk h1 h2 hq
  | 13, _ => by rw [e_304_40_13]; exact w_13 h hL hk h1 h2 hq
  | 14, _ => by rw [e_304_40_14]; exact w_14 h hL hk h1 h2 hq
  | 15, _ => by rw [e_304_40_15]; exact w_15 h hL hk h1 h2 hq
  | 16, _ => by rw [e_304_40_16]; exact w_16 h hL hk h1 h2 hq
  | 17, _ => by rw [e_304_40_17]; exact w_17 h hL hk h1 h2 hq
  | 18, _ => by rw [e_304_40_18]; exact w_18 h hL hk h1 h2 hq
  | 19, _ => by rw [e_304_40_19]; exact w_19 h hL hk h1 h2 hq
  | 20, _ => by rw [e_304_40_20]; exact w_20 h hL hk h1 h2 hq
  | 21, _ => by rw [e_304_40_21]; exact w_21 h hL hk h1 h2 hq
  | 22, _ => by rw [e_304_40_22]; exact w_22 h hL hk h1 h2 hq
  | 23, _ => by rw [e_304_40_23]; exact w_23 h hL hk h1 h2 hq
  | 24, _ => by rw [e_304_40_24]; exact w_24 h hL hk h1 h2 hq
  | 25, _ => by rw [e_304_40_25]; exact w_25 h hL hk h1 h2 hq
  | 26, _ => by rw [e_304_40_26]; exact w_26 h hL hk h1 h2 hq
  | 27, _ => by rw [e_304_40_27]; exact w_27 h hL hk h1 h2 hq
  | 28, _ => by rw [e_304_40_28]; exact w_28 h hL hk h1 h2 hq
  | 29, _ => by rw [e_304_40_29]; exact w_29 h hL hk h1 h2 hq
  | 30, _ => by rw [e_304_40_30]; exact w_30 h hL hk h1 h2 hq
  | 31, _ => by rw [e_304_40_31]; exact w_31 h hL hk h1 h2 hq
  | 32, _ => by rw [e_304_40_32]; exact w_32 h hL hk h1 h2 hq
  | 33, _ => by rw [e_304_40_33]; exact w_33 h hL hk h1 h2 hq
  | 34, _ => by rw [e_304_40_34]; exact w_34 h hL hk h1 h2 hq
  | 35, _ => by rw [e_304_40_35]; exact w_35 h hL hk h1 h2 hq
  | 36, _ => by rw [e_304_40_36]; exact w_36 h hL hk h1 h2 hq
  | 37, _ => by rw [e_304_40_37]; exact w_37 h hL hk h1 h2 hq
  | 38, _ => by rw [e_304_40_38]; exact w_38 h hL hk h1 h2 hq
  | 39, _ => by rw [e_304_40_39]; exact w_39 h hL hk h1 h2 hq
  | 40, _ => by rw [e_304_40_40]; exact w_40 h hL hk h1 h2 hq
  | 41, _ => by rw [e_304_40_41]; exact w_41 h hL hk h1 h2 hq
  | 42, _ => by rw [e_304_40_42]; exact w_42 h hL hk h1 h2 hq
  | 43, _ => by rw [e_304_40_43]; exact w_43 h hL hk h1 h2 hq
  | 44, _ => by rw [e_304_40_44]; exact w_44 h hL hk h1 h2 hq
  | 45, _ => by rw [e_304_40_45]; exact w_45 h hL hk h1 h2 hq
  | c + 46, hc => absurd hc (by omega)

theorem l_304 (hL : L ≤ 3072) (hQ : ∀ μ, Q (some (some (.int (nI 1)))) μ) : ∀ n k μ u1 u2 l5 l6 l7 l8, L < 6 * k + 6 * n + 6 → 6 * k ≤ L → Inv L xs μ → u1 ≤ 310 + 1000 * k → u2 ≤ 32446 + 14000 * k → EM 304 (d + 20) 23 [some (.ref 300), some (.ref 1000), some (.ref 1298), some (.ref 1309), some (.int (nI (6 * k))), l5, l6, l7, l8] [] μ (u1, u2) Q := by
  intro n
  induction n with
  | zero =>
    intro k μ u1 u2 l5 l6 l7 l8 hn hk hI h1 h2
    obtain ⟨s0, s98, s3, x0, s9⟩ := hI.bas
    have h6 := lt6t hL hk (show L < 6 * k + 6 by omega)
    rw [e_304_23]
    simp (disch := first | omega | rfl) only [e_304_25, e_304_26, e_304_27, e_304_29, e_304_30, e_304_2376, e_304_2377, s3, ofI, h6, Nat.reduceLeDiff, and_self, tI, fI, not_true, true_and, and_true, or_true, ule_p, leT]
    exact hQ μ
  | succ n ih =>
    intro k μ u1 u2 l5 l6 l7 l8 hn hk hI h1 h2
    obtain ⟨s0, s98, s3, x0, s9⟩ := hI.bas
    by_cases hlt : L < 6 * k + 6
    · have h6 := lt6t hL hk hlt
      rw [e_304_23]
      simp (disch := first | omega | rfl) only [e_304_25, e_304_26, e_304_27, e_304_29, e_304_30, e_304_2376, e_304_2377, s3, ofI, h6, Nat.reduceLeDiff, and_self, tI, fI, not_true, true_and, and_true, or_true, ule_p, leT]
      exact hQ μ
    · have h6 := lt6f hL (show 6 * k + 6 ≤ L by omega)
      have hq : Nxt (d + 20) L xs k Q := fun μ' v1 v2 m5 m6 m7 m8 hI' g1 g2 => ih (k + 1) μ' v1 v2 m5 m6 m7 m8 (by omega) (by omega) hI' g1 g2
      obtain ⟨c, hc, ec⟩ := and63 (xs (6 * k))
      rw [e_304_23]
      simp (disch := first | omega | rfl) only [e_304_25, e_304_26, e_304_27, e_304_29, e_304_30, e_304_33, e_304_34, e_304_36, e_304_37, e_304_39, s3, x0, ofI, h6, Nat.reduceLeDiff, and_self, tI, fI, not_true, not_false_iff, true_and, and_true, vp_nI, nI_clamp, ec]
      by_cases hc6 : c < 46
      · exact w_all hI hL (by omega) h1 h2 hq c hc6
      · rw [e_304_40_d (by rw [nI_toInt (by omega)]; omega)]
        simp (disch := first | omega | rfl) only [e_304_2370, e_304_2373, ge1, ule_t, true_or, or_true, nI_add, nI_mul, nI_sub, nI_clamp, nI_lt_t, nI_lt_f, nI_le_t, nI_le_f, nI_eq_t, nI_eq_f, vp_nI, tI, fI, not_true, not_false_iff, true_and, and_true, Classical.not_not]
        exact hq _ _ _ _ _ _ _ hI (by omega) (by omega)
theorem law_fin (hL : L ≤ 3072) (hQ : ∀ μ, Q (some (some (.int (nI 1)))) μ) : EM 304 (d + 20) 0 [some (.ref 300), none, none, none, none, none, none, none, none] [] (mu0 L xs) (0, 0) Q :=
  law_s (fun μ hI => l_304 hL hQ 512 0 μ 310 32446 none none none none (by omega) (by omega) hI (by omega) (by omega))
end Lup
theorem law_E {L : Nat} {xs : Nat → Int32} (hL : L ≤ 3072) : E (Ev 1000) mi304 0 (ent [.ref 300] 9) [] (mu0 L xs) (0, 0) (fun o _ => o = some (some (.int 1))) :=
  law_fin (d := 980) hL (fun _ => rfl)

