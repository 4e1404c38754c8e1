/-! reading: the reference's statements, the start and all -/
section RowW
variable {f : Nat → Nat} {t : TK}
theorem wIx_s0 (h : isW f t (txB 0)) : wIx f t Stm6 0 = nI 0 := if_pos h
theorem wIx_s1 (h0 : ¬ isW f t (txB 0)) (h : isW f t (txB 1)) : wIx f t Stm6 0 = nI 1 := (if_neg h0).trans (if_pos h)
theorem wIx_s2 (h0 : ¬ isW f t (txB 0)) (h1 : ¬ isW f t (txB 1)) (h : isW f t (txB 2)) : wIx f t Stm6 0 = nI 2 := (if_neg h0).trans ((if_neg h1).trans (if_pos h))
theorem wIx_s3 (h0 : ¬ isW f t (txB 0)) (h1 : ¬ isW f t (txB 1)) (h2 : ¬ isW f t (txB 2)) (h : isW f t (txB 9)) : wIx f t Stm6 0 = nI 3 := (if_neg h0).trans ((if_neg h1).trans ((if_neg h2).trans (if_pos h)))
theorem wIx_s4 (h0 : ¬ isW f t (txB 0)) (h1 : ¬ isW f t (txB 1)) (h2 : ¬ isW f t (txB 2)) (h3 : ¬ isW f t (txB 9)) (h : isW f t (txB 10)) : wIx f t Stm6 0 = nI 4 := (if_neg h0).trans ((if_neg h1).trans ((if_neg h2).trans ((if_neg h3).trans (if_pos h))))
theorem wIx_s5 (h0 : ¬ isW f t (txB 0)) (h1 : ¬ isW f t (txB 1)) (h2 : ¬ isW f t (txB 2)) (h3 : ¬ isW f t (txB 9)) (h4 : ¬ isW f t (txB 10)) (h : isW f t (txB 11)) : wIx f t Stm6 0 = nI 5 := (if_neg h0).trans ((if_neg h1).trans ((if_neg h2).trans ((if_neg h3).trans ((if_neg h4).trans (if_pos h)))))
theorem wIx_sn (h0 : ¬ isW f t (txB 0)) (h1 : ¬ isW f t (txB 1)) (h2 : ¬ isW f t (txB 2)) (h3 : ¬ isW f t (txB 9)) (h4 : ¬ isW f t (txB 10)) (h5 : ¬ isW f t (txB 11)) : wIx f t Stm6 0 = -1 := (if_neg h0).trans ((if_neg h1).trans ((if_neg h2).trans ((if_neg h3).trans ((if_neg h4).trans (if_neg h5)))))
end RowW
section RstM2
variable {d : Nat} {Q : Po} {μ : Mu} {f : Nat → Nat} {g F T : Nat → Int32} {L hs gs sm m n σ i k p w : Nat} {ep x : Int32} {t : TK}
theorem l_211 (hM : MdC μ f L) (hRN : RN (mI μ 1302)) : ∀ F n tn t l2, n + F = 17 → n ≤ 16 → (n = 0 ∨ t.1 = 2) → okTk f L t → (∀ j, 22 ≤ j → tn j = 0) → PoM L g ep sm μ Q (rdStaE (mI μ 1302) gs (stB f L F n tn t)) → EM 211 (d + 4) 21 [some (.ref 1298), some (.int (nI n)), l2] [] (uA (uA μ 1300 tn) 1298 (mdT g L t (nI 0) ep sm gs 1)) (0, 0) Q := by
  intro F
  induction F with
  | zero => intro n tn t l2 h1 h2; omega
  | succ F ih =>
    intro n tn t l2 h1 h2 h3 ht htn hq
    have hM2 : MdC (uA μ 1300 tn) f L := ⟨hM.1, fun k hk => by rw [mI_An (by omega)]; exact hM.2.1 k hk, hM.2.2⟩
    have k1 := (ok_nx ht).1
    have h205n := fun (d : Nat) (Q : Po) (x : Int32) (t : TK) => s_205n (d := d) (Q := Q) (x := x) (g := g) (t := t) (er := nI 0) (ep := ep) (sm := sm) (ts := gs) (hs := 1) hM2
    have h205t := fun (d : Nat) (Q : Po) (x : Int32) (t : TK) => s_205t (d := d) (Q := Q) (x := x) (g := g) (t := t) (ep := ep) (sm := sm) (ts := gs) (hs := 1) hM2
    have h207e := fun (d : Nat) (Q : Po) (hi : Nat) (er ep : Int32) (t : TK) (ht : okTk f L t) (h : ¬ er = nI 0) (h9 : hi ≤ 9999) => s_207e (d := d) (Q := Q) (lo := 0) (hi := hi) (g := g) (t := t) (er := er) (ep := ep) (sm := sm) (ts := gs) (hs := 1) hM2 ht (by omega) h9 h
    have m15 : ¬ (-15 : Int32) = nI 0 := by decide
    have hv := ht.2.2.2.2.2.2.2
    have hS := hM.1
    obtain ⟨p1, p2, p3, p4, p5, p6, p7, p8, p9, p10, p11, p12, p13, p14, p15, p16, p17, p18, p19, p20, p21⟩ := hS
    have er : ∀ (er : Int32), PoM L g ep sm μ Q (.inl (er, t.2)) → Q (some none) (uA (uA μ 1300 tn) 1298 (mdT g L t er (nI t.2.1) sm gs 1)) := fun er hq => by
      have := hq (mI μ 1302) tn t.1 gs 1 hRN htn
      rw [keepR] at this
      exact this
    rw [stB] at hq
    rw [e_211_21]
    by_cases c1 : ckI 0 9999 t = nI 0
    · rw [if_pos c1] at hq
      obtain ⟨v1, v2, v3⟩ := ckI_t.mp c1
      have e1 : (nI (mkk t.1) = nI 1) = True := (mkk2 ht.1).trans (eq_true v1)
      by_cases c2 : n = 16
      · rw [if_pos c2] at hq
        simp (disch := first | omega | rfl) only [e_211_0, e_211_1, e_211_2, e_211_5, e_211_7, e_211_10, e_211_11, e_211_12, e_211_15, e_211_16, e_211_19, e_211_20, e_211_22, e_211_23, e_211_26, e_211_27, e_211_30, e_211_31, e_211_33, e_211_36, e_211_37, e_211_40, e_211_43, e_211_46, e_211_47, e_211_50, e_211_51, e_211_53, e_211_56, e_211_57, e_211_58, e_211_61, e_211_64, e_211_65, e_211_66, e_211_69, e_211_72, e_211_73, e_211_76, e_211_77, e_211_78, e_211_79, e_211_82, e_211_83, e_211_86, e_211_89, e_211_90, e_211_93, e_211_94, e_211_97, p1, p2, p3, p4, p5, p6, p7, p8, p9, p10, p11, p12, p13, p14, p15, p16, p17, p18, p19, p20, p21, ge1, ule_t, true_or, or_true, nI_add, nI_mul, nI_sub, nI_clamp, nI_lt_t, nI_lt_f, nI_le_t, nI_le_f, nI_eq_t, nI_eq_f, vp_nI, tI, fI, not_true, not_false_iff, true_and, and_true, Classical.not_not, mS_uI, mS_uA, mS_uJ, mS_uR, mS_uX, mR_uI, mR_uA, mR_uJ, mR_uX, mX_uI, mX_uA, mX_uJ, mX_uR, mI_s, mI_n, mI_A, mI_An, mI_uJ, mI_uR, mI_uX, mJ_uI, mJ_uA, mJ_uR, mJ_uX, onR_s, kC_v, kC_n, kC_t, mI_A, mdT_17, mdT_18, mdT_19, e1, c2, h205t, h207e _ _ _ _ _ _ ht m15, m15]
        exact er _ hq
      · rw [if_neg c2] at hq
        have h207 := fun (d : Nat) (Q : Po) => s_207t (d := d) (Q := Q) (lo := 0) (hi := 9999) (g := g) (ep := ep) (sm := sm) (ts := gs) (hs := 1) hM2 ht (by omega) c1
        by_cases c3 : (nx f L t).1 = 2
        · rw [if_pos c3] at hq
          have e2 : (nI (mkk (nx f L t).1) = nI 1) = True := (mkk2 k1.1).trans (eq_true c3)
          simp (disch := first | omega | rfl) only [e_211_0, e_211_1, e_211_2, e_211_5, e_211_7, e_211_10, e_211_11, e_211_12, e_211_15, e_211_16, e_211_19, e_211_20, e_211_22, e_211_23, e_211_26, e_211_27, e_211_30, e_211_31, e_211_33, e_211_36, e_211_37, e_211_40, e_211_43, e_211_46, e_211_47, e_211_50, e_211_51, e_211_53, e_211_56, e_211_57, e_211_58, e_211_61, e_211_64, e_211_65, e_211_66, e_211_69, e_211_72, e_211_73, e_211_76, e_211_77, e_211_78, e_211_79, e_211_82, e_211_83, e_211_86, e_211_89, e_211_90, e_211_93, e_211_94, e_211_97, p1, p2, p3, p4, p5, p6, p7, p8, p9, p10, p11, p12, p13, p14, p15, p16, p17, p18, p19, p20, p21, ge1, ule_t, true_or, or_true, nI_add, nI_mul, nI_sub, nI_clamp, nI_lt_t, nI_lt_f, nI_le_t, nI_le_f, nI_eq_t, nI_eq_f, vp_nI, tI, fI, not_true, not_false_iff, true_and, and_true, Classical.not_not, mS_uI, mS_uA, mS_uJ, mS_uR, mS_uX, mR_uI, mR_uA, mR_uJ, mR_uX, mX_uI, mX_uA, mX_uJ, mX_uR, mI_s, mI_n, mI_A, mI_An, mI_uJ, mI_uR, mI_uX, mJ_uI, mJ_uA, mJ_uR, mJ_uX, onR_s, kC_v, kC_n, kC_t, mI_A, mdT_17, mdT_18, mdT_19, e1, h205n, h207, uI_20, mI_Af, uA_A, e2]
          exact ih (n + 1) _ _ _ (by omega) (by omega) (Or.inr c3) k1 (fun j hj => by rw [upd_n (by omega)]; exact htn j hj) hq
        · rw [if_neg c3] at hq
          have e2 : (nI (mkk (nx f L t).1) = nI 1) = False := (mkk2 k1.1).trans (eq_false c3)
          simp (disch := first | omega | rfl) only [e_211_0, e_211_1, e_211_2, e_211_5, e_211_7, e_211_10, e_211_11, e_211_12, e_211_15, e_211_16, e_211_19, e_211_20, e_211_22, e_211_23, e_211_26, e_211_27, e_211_30, e_211_31, e_211_33, e_211_36, e_211_37, e_211_40, e_211_43, e_211_46, e_211_47, e_211_50, e_211_51, e_211_53, e_211_56, e_211_57, e_211_58, e_211_61, e_211_64, e_211_65, e_211_66, e_211_69, e_211_72, e_211_73, e_211_76, e_211_77, e_211_78, e_211_79, e_211_82, e_211_83, e_211_86, e_211_89, e_211_90, e_211_93, e_211_94, e_211_97, p1, p2, p3, p4, p5, p6, p7, p8, p9, p10, p11, p12, p13, p14, p15, p16, p17, p18, p19, p20, p21, ge1, ule_t, true_or, or_true, nI_add, nI_mul, nI_sub, nI_clamp, nI_lt_t, nI_lt_f, nI_le_t, nI_le_f, nI_eq_t, nI_eq_f, vp_nI, tI, fI, not_true, not_false_iff, true_and, and_true, Classical.not_not, mS_uI, mS_uA, mS_uJ, mS_uR, mS_uX, mR_uI, mR_uA, mR_uJ, mR_uX, mX_uI, mX_uA, mX_uJ, mX_uR, mI_s, mI_n, mI_A, mI_An, mI_uJ, mI_uR, mI_uX, mJ_uI, mJ_uA, mJ_uR, mJ_uX, onR_s, kC_v, kC_n, kC_t, mI_A, mdT_17, mdT_18, mdT_19, e1, h205n, h207, uI_20, mI_Af, uA_A, e2]
          have hq2 : Q (some none) (uA (uA (uA μ 1302 (mI μ 1302)) 1300 (upd tn n (nI t.2.2.2))) 1298 (mdT g L (nx f L t) (nI 0) ep sm gs 1)) := hq
          rw [keepR] at hq2
          exact hq2
    · rw [if_neg c1] at hq
      have h207 := fun (d : Nat) (Q : Po) => s_207f (d := d) (Q := Q) (lo := 0) (hi := 9999) (g := g) (ep := ep) (sm := sm) (ts := gs) (hs := 1) hM2 ht (by omega) (by omega) c1
      by_cases v1 : t.1 = 2
      · have e1 : (nI (mkk t.1) = nI 1) = True := (mkk2 ht.1).trans (eq_true v1)
        have v2 : ¬ t.2.2.2 < 10000 := fun z => c1 (ckI_t.mpr ⟨v1, by omega, by omega⟩)
        by_cases c2 : n = 16
        · simp (disch := first | omega | rfl) only [e_211_0, e_211_1, e_211_2, e_211_5, e_211_7, e_211_10, e_211_11, e_211_12, e_211_15, e_211_16, e_211_19, e_211_20, e_211_22, e_211_23, e_211_26, e_211_27, e_211_30, e_211_31, e_211_33, e_211_36, e_211_37, e_211_40, e_211_43, e_211_46, e_211_47, e_211_50, e_211_51, e_211_53, e_211_56, e_211_57, e_211_58, e_211_61, e_211_64, e_211_65, e_211_66, e_211_69, e_211_72, e_211_73, e_211_76, e_211_77, e_211_78, e_211_79, e_211_82, e_211_83, e_211_86, e_211_89, e_211_90, e_211_93, e_211_94, e_211_97, p1, p2, p3, p4, p5, p6, p7, p8, p9, p10, p11, p12, p13, p14, p15, p16, p17, p18, p19, p20, p21, ge1, ule_t, true_or, or_true, nI_add, nI_mul, nI_sub, nI_clamp, nI_lt_t, nI_lt_f, nI_le_t, nI_le_f, nI_eq_t, nI_eq_f, vp_nI, tI, fI, not_true, not_false_iff, true_and, and_true, Classical.not_not, mS_uI, mS_uA, mS_uJ, mS_uR, mS_uX, mR_uI, mR_uA, mR_uJ, mR_uX, mX_uI, mX_uA, mX_uJ, mX_uR, mI_s, mI_n, mI_A, mI_An, mI_uJ, mI_uR, mI_uX, mJ_uI, mJ_uA, mJ_uR, mJ_uX, onR_s, kC_v, kC_n, kC_t, mI_A, mdT_17, mdT_18, mdT_19, e1, c2, h205n, h207, eq_false c1]
          exact er _ hq
        · simp (disch := first | omega | rfl) only [e_211_0, e_211_1, e_211_2, e_211_5, e_211_7, e_211_10, e_211_11, e_211_12, e_211_15, e_211_16, e_211_19, e_211_20, e_211_22, e_211_23, e_211_26, e_211_27, e_211_30, e_211_31, e_211_33, e_211_36, e_211_37, e_211_40, e_211_43, e_211_46, e_211_47, e_211_50, e_211_51, e_211_53, e_211_56, e_211_57, e_211_58, e_211_61, e_211_64, e_211_65, e_211_66, e_211_69, e_211_72, e_211_73, e_211_76, e_211_77, e_211_78, e_211_79, e_211_82, e_211_83, e_211_86, e_211_89, e_211_90, e_211_93, e_211_94, e_211_97, p1, p2, p3, p4, p5, p6, p7, p8, p9, p10, p11, p12, p13, p14, p15, p16, p17, p18, p19, p20, p21, ge1, ule_t, true_or, or_true, nI_add, nI_mul, nI_sub, nI_clamp, nI_lt_t, nI_lt_f, nI_le_t, nI_le_f, nI_eq_t, nI_eq_f, vp_nI, tI, fI, not_true, not_false_iff, true_and, and_true, Classical.not_not, mS_uI, mS_uA, mS_uJ, mS_uR, mS_uX, mR_uI, mR_uA, mR_uJ, mR_uX, mX_uI, mX_uA, mX_uJ, mX_uR, mI_s, mI_n, mI_A, mI_An, mI_uJ, mI_uR, mI_uX, mJ_uI, mJ_uA, mJ_uR, mJ_uX, onR_s, kC_v, kC_n, kC_t, mI_A, mdT_17, mdT_18, mdT_19, e1, h205n, h207, eq_false c1]
          exact er _ hq
      · have e1 : (nI (mkk t.1) = nI 1) = False := (mkk2 ht.1).trans (eq_false v1)
        simp (disch := first | omega | rfl) only [e_211_0, e_211_1, e_211_2, e_211_5, e_211_7, e_211_10, e_211_11, e_211_12, e_211_15, e_211_16, e_211_19, e_211_20, e_211_22, e_211_23, e_211_26, e_211_27, e_211_30, e_211_31, e_211_33, e_211_36, e_211_37, e_211_40, e_211_43, e_211_46, e_211_47, e_211_50, e_211_51, e_211_53, e_211_56, e_211_57, e_211_58, e_211_61, e_211_64, e_211_65, e_211_66, e_211_69, e_211_72, e_211_73, e_211_76, e_211_77, e_211_78, e_211_79, e_211_82, e_211_83, e_211_86, e_211_89, e_211_90, e_211_93, e_211_94, e_211_97, p1, p2, p3, p4, p5, p6, p7, p8, p9, p10, p11, p12, p13, p14, p15, p16, p17, p18, p19, p20, p21, ge1, ule_t, true_or, or_true, nI_add, nI_mul, nI_sub, nI_clamp, nI_lt_t, nI_lt_f, nI_le_t, nI_le_f, nI_eq_t, nI_eq_f, vp_nI, tI, fI, not_true, not_false_iff, true_and, and_true, Classical.not_not, mS_uI, mS_uA, mS_uJ, mS_uR, mS_uX, mR_uI, mR_uA, mR_uJ, mR_uX, mX_uI, mX_uA, mX_uJ, mX_uR, mI_s, mI_n, mI_A, mI_An, mI_uJ, mI_uR, mI_uX, mJ_uI, mJ_uA, mJ_uR, mJ_uX, onR_s, kC_v, kC_n, kC_t, mI_A, mdT_17, mdT_18, mdT_19, e1, h205n, h207, eq_false c1]
        exact er _ hq
theorem m_211 (hM : MdC μ f L) (hA : AL (mI μ 1302) (mI μ 1300)) (ht : okTk f L t) (hh : hs ≤ 1) (hq : PoM L g ep sm μ Q (rdSta f L (mI μ 1302) (mI μ 1300) hs gs t)) : Ev (d + 5) 211 [.ref 1298] (uA μ 1298 (mdT g L t (nI 0) ep sm gs hs)) Q := by
  have k1 := (ok_nx ht).1
  have h205n := fun (d : Nat) (Q : Po) (x : Int32) (t : TK) => s_205n (d := d) (Q := Q) (x := x) (g := g) (t := t) (er := nI 0) (ep := ep) (sm := sm) (ts := gs) (hs := hs) hM
  have h205t := fun (d : Nat) (Q : Po) (x : Int32) (t : TK) => s_205t (d := d) (Q := Q) (x := x) (g := g) (t := t) (ep := ep) (sm := sm) (ts := gs) (hs := hs) hM
  have h206e := fun (d : Nat) (Q : Po) (er ep : Int32) (t : TK) (h : ¬ er = nI 0) => s_206e (d := d) (Q := Q) (g := g) (t := t) (er := er) (ep := ep) (sm := sm) (ts := gs) (hs := 1) hM h
  have h205e := fun (d : Nat) (Q : Po) (x y er ep : Int32) (t : TK) (h : ¬ er = nI 0) => s_205e (d := d) (Q := Q) (x := x) (y := y) (g := g) (t := t) (er := er) (ep := ep) (sm := sm) (ts := gs) (hs := 1) hM h
  have h206 := fun (d : Nat) (Q : Po) => s_206 (d := d) (Q := Q) (t := t) (g := g) (ep := ep) (sm := sm) (ts := gs) (hs := 1) hM ht
  have h207e := fun (d : Nat) (Q : Po) (hi : Nat) (er ep : Int32) (t : TK) (ht : okTk f L t) (h : ¬ er = nI 0) (h9 : hi ≤ 9999) => s_207e (d := d) (Q := Q) (lo := 0) (hi := hi) (g := g) (t := t) (er := er) (ep := ep) (sm := sm) (ts := gs) (hs := 1) hM ht (by omega) h9 h
  have m14 : ¬ (-14 : Int32) = nI 0 := by decide
  have hM0 := hM
  have hv := ht.2.2.2.2.2.2.2
  have hS := hM.1
  obtain ⟨p1, p2, p3, p4, p5, p6, p7, p8, p9, p10, p11, p12, p13, p14, p15, p16, p17, p18, p19, p20, p21⟩ := hS
  unfold rdSta at hq
  rw [in_211]
  by_cases c1 : hs = 1
  · subst c1
    rw [if_pos rfl] at hq
    simp (disch := first | omega | rfl) only [e_211_0, e_211_1, e_211_2, e_211_5, e_211_7, e_211_10, e_211_11, e_211_12, e_211_15, e_211_16, e_211_19, e_211_20, e_211_22, e_211_23, e_211_26, e_211_27, e_211_30, e_211_31, e_211_33, e_211_36, e_211_37, e_211_40, e_211_43, e_211_46, e_211_47, e_211_50, e_211_51, e_211_53, e_211_56, e_211_57, e_211_58, e_211_61, e_211_64, e_211_65, e_211_66, e_211_69, e_211_72, e_211_73, e_211_76, e_211_77, e_211_78, e_211_79, e_211_82, e_211_83, e_211_86, e_211_89, e_211_90, e_211_93, e_211_94, e_211_97, p1, p2, p3, p4, p5, p6, p7, p8, p9, p10, p11, p12, p13, p14, p15, p16, p17, p18, p19, p20, p21, ge1, ule_t, true_or, or_true, nI_add, nI_mul, nI_sub, nI_clamp, nI_lt_t, nI_lt_f, nI_le_t, nI_le_f, nI_eq_t, nI_eq_f, vp_nI, tI, fI, not_true, not_false_iff, true_and, and_true, Classical.not_not, mS_uI, mS_uA, mS_uJ, mS_uR, mS_uX, mR_uI, mR_uA, mR_uJ, mR_uX, mX_uI, mX_uA, mX_uJ, mX_uR, mI_s, mI_n, mI_A, mI_An, mI_uJ, mI_uR, mI_uX, mJ_uI, mJ_uA, mJ_uR, mJ_uX, onR_s, kC_v, kC_n, kC_t, mI_A, mdT_24, h205t, uIA, mdT_u24, h206e _ _ _ _ _ m14]
    rw [e_211_21]
    by_cases v1 : t.1 = 2
    · have e1 : (nI (mkk t.1) = nI 1) = True := (mkk2 ht.1).trans (eq_true v1)
      simp (disch := first | omega | rfl) only [e_211_0, e_211_1, e_211_2, e_211_5, e_211_7, e_211_10, e_211_11, e_211_12, e_211_15, e_211_16, e_211_19, e_211_20, e_211_22, e_211_23, e_211_26, e_211_27, e_211_30, e_211_31, e_211_33, e_211_36, e_211_37, e_211_40, e_211_43, e_211_46, e_211_47, e_211_50, e_211_51, e_211_53, e_211_56, e_211_57, e_211_58, e_211_61, e_211_64, e_211_65, e_211_66, e_211_69, e_211_72, e_211_73, e_211_76, e_211_77, e_211_78, e_211_79, e_211_82, e_211_83, e_211_86, e_211_89, e_211_90, e_211_93, e_211_94, e_211_97, p1, p2, p3, p4, p5, p6, p7, p8, p9, p10, p11, p12, p13, p14, p15, p16, p17, p18, p19, p20, p21, ge1, ule_t, true_or, or_true, nI_add, nI_mul, nI_sub, nI_clamp, nI_lt_t, nI_lt_f, nI_le_t, nI_le_f, nI_eq_t, nI_eq_f, vp_nI, tI, fI, not_true, not_false_iff, true_and, and_true, Classical.not_not, mS_uI, mS_uA, mS_uJ, mS_uR, mS_uX, mR_uI, mR_uA, mR_uJ, mR_uX, mX_uI, mX_uA, mX_uJ, mX_uR, mI_s, mI_n, mI_A, mI_An, mI_uJ, mI_uR, mI_uX, mJ_uI, mJ_uA, mJ_uR, mJ_uX, onR_s, kC_v, kC_n, kC_t, mI_A, mdT_17, mdT_18, mdT_19, e1, h205e _ _ _ _ _ _ _ m14, h207e _ _ _ _ _ _ ht m14, m14]
      exact PoM.err hA hq gs 1
    · have e1 : (nI (mkk t.1) = nI 1) = False := (mkk2 ht.1).trans (eq_false v1)
      simp (disch := first | omega | rfl) only [e_211_0, e_211_1, e_211_2, e_211_5, e_211_7, e_211_10, e_211_11, e_211_12, e_211_15, e_211_16, e_211_19, e_211_20, e_211_22, e_211_23, e_211_26, e_211_27, e_211_30, e_211_31, e_211_33, e_211_36, e_211_37, e_211_40, e_211_43, e_211_46, e_211_47, e_211_50, e_211_51, e_211_53, e_211_56, e_211_57, e_211_58, e_211_61, e_211_64, e_211_65, e_211_66, e_211_69, e_211_72, e_211_73, e_211_76, e_211_77, e_211_78, e_211_79, e_211_82, e_211_83, e_211_86, e_211_89, e_211_90, e_211_93, e_211_94, e_211_97, p1, p2, p3, p4, p5, p6, p7, p8, p9, p10, p11, p12, p13, p14, p15, p16, p17, p18, p19, p20, p21, ge1, ule_t, true_or, or_true, nI_add, nI_mul, nI_sub, nI_clamp, nI_lt_t, nI_lt_f, nI_le_t, nI_le_f, nI_eq_t, nI_eq_f, vp_nI, tI, fI, not_true, not_false_iff, true_and, and_true, Classical.not_not, mS_uI, mS_uA, mS_uJ, mS_uR, mS_uX, mR_uI, mR_uA, mR_uJ, mR_uX, mX_uI, mX_uA, mX_uJ, mX_uR, mI_s, mI_n, mI_A, mI_An, mI_uJ, mI_uR, mI_uX, mJ_uI, mJ_uA, mJ_uR, mJ_uX, onR_s, kC_v, kC_n, kC_t, mI_A, mdT_17, mdT_18, mdT_19, e1, h205e _ _ _ _ _ _ _ m14, h207e _ _ _ _ _ _ ht m14, m14]
      exact PoM.err hA hq gs 1
  · rw [if_neg c1] at hq
    obtain rfl : hs = 0 := by omega
    have hl := l_211 (d := d) (Q := Q) (g := g) (gs := gs) (sm := sm) (ep := ep) hM0 hA.2.1.1 17 0 (mI μ 1300) (nx f L t) none (by omega) (by omega) (Or.inl rfl) k1 hA.2.2.2.2.2.1 hq
    rw [uA_self] at hl
    simp (disch := first | omega | rfl) only [e_211_0, e_211_1, e_211_2, e_211_5, e_211_7, e_211_10, e_211_11, e_211_12, e_211_15, e_211_16, e_211_19, e_211_20, e_211_22, e_211_23, e_211_26, e_211_27, e_211_30, e_211_31, e_211_33, e_211_36, e_211_37, e_211_40, e_211_43, e_211_46, e_211_47, e_211_50, e_211_51, e_211_53, e_211_56, e_211_57, e_211_58, e_211_61, e_211_64, e_211_65, e_211_66, e_211_69, e_211_72, e_211_73, e_211_76, e_211_77, e_211_78, e_211_79, e_211_82, e_211_83, e_211_86, e_211_89, e_211_90, e_211_93, e_211_94, e_211_97, p1, p2, p3, p4, p5, p6, p7, p8, p9, p10, p11, p12, p13, p14, p15, p16, p17, p18, p19, p20, p21, ge1, ule_t, true_or, or_true, nI_add, nI_mul, nI_sub, nI_clamp, nI_lt_t, nI_lt_f, nI_le_t, nI_le_f, nI_eq_t, nI_eq_f, vp_nI, tI, fI, not_true, not_false_iff, true_and, and_true, Classical.not_not, mS_uI, mS_uA, mS_uJ, mS_uR, mS_uX, mR_uI, mR_uA, mR_uJ, mR_uX, mX_uI, mX_uA, mX_uJ, mX_uR, mI_s, mI_n, mI_A, mI_An, mI_uJ, mI_uR, mI_uX, mJ_uI, mJ_uA, mJ_uR, mJ_uX, onR_s, kC_v, kC_n, kC_t, mI_A, mdT_24, h205n, uIA, mdT_u24, h206]
    exact hl
/-- one statement and its semicolon -/
def rdOneE (f : Nat → Nat) (L : Nat) (z : RE) : RE := match z with
  | .inl e => .inl e
  | .inr z => if z.2.2.2.2.1 = 3 then .inr (z.1, z.2.1, z.2.2.1, z.2.2.2.1, nx f L z.2.2.2.2) else .inl (-11, z.2.2.2.2.2)
def rdOne (f : Nat → Nat) (L : Nat) (r tn : Nat → Int32) (hs gs : Nat) (t : TK) : RE := rdOneE f L (rdStm f L r tn hs gs t)
/-- what a step keeps -/
def okE (e : Int32) : Prop := e = -11 ∨ e = -12 ∨ e = -13 ∨ e = -14 ∨ e = -15
def okRE (f : Nat → Nat) (L a : Nat) (z : RE) : Prop := match z with
  | .inl e => okE e.1 ∧ e.2.2.2 ≤ 1000009
  | .inr z => AL z.1 z.2.1 ∧ okTk f L z.2.2.2.2 ∧ z.2.2.1 ≤ 1 ∧ z.2.2.2.1 < 4 ∧ a ≤ z.2.2.2.2.2.1
end RstM2
section OkRd
variable {f : Nat → Nat} {r tn : Nat → Int32} {L hs gs a m σ i w tt : Nat} {t t1 : TK}
theorem okE_I {lo hi : Nat} (h : ¬ ckI lo hi t = nI 0) : okE (ckI lo hi t) := by
  unfold ckI at h ⊢
  split
  · split
    · rename_i h1 h2
      rw [if_pos h1, if_pos h2] at h
      exact absurd rfl h
    · exact Or.inr (Or.inl rfl)
  · exact Or.inl rfl
theorem okE_M {n : Nat} (h : ¬ ckM f tn n t = nI 0) : okE (ckM f tn n t) := by
  unfold ckM at h ⊢
  split
  · split
    · exact Or.inr (Or.inr (Or.inl rfl))
    · rename_i h1 h2
      rw [if_pos h1, if_neg h2] at h
      exact absurd rfl h
  · exact Or.inl rfl
theorem okE_11 : okE (-11) := Or.inl rfl
theorem okE_14 : okE (-14) := Or.inr (Or.inr (Or.inr (Or.inl rfl)))
theorem okE_15 : okE (-15) := Or.inr (Or.inr (Or.inr (Or.inr rfl)))
theorem okE_n {e : Int32} (h : okE e) : ¬ e = nI 0 ∧ e < nI 0 := by
  rcases h with rfl | rfl | rfl | rfl | rfl <;> decide
theorem okTk.v (h : okTk f L t) : t.2.2.2 ≤ 1000009 := h.2.2.2.2.2.2.2
theorem ok_up (ht : okTk f L t) (h : a ≤ t.2.1) : okTk f L (nx f L t) ∧ a ≤ (nx f L t).2.1 := by
  have := ok_nx ht
  have := ht.2.1
  exact ⟨(ok_nx ht).1, by omega⟩
theorem ok_stB (hA : ∀ n v, n < 16 → v < 10000 → ∀ tn, AL r tn → AL r (upd tn n (nI v))) (hg : gs < 4) : ∀ F n tn t, n + F = 17 → n ≤ 16 → AL r tn → okTk f L t → a ≤ t.2.1 → okRE f L a (rdStaE r gs (stB f L F n tn t)) := by
  intro F
  induction F with
  | zero => intro n tn t h1 h2; omega
  | succ F ih =>
    intro n tn t h1 h2 hT ht ha
    rw [stB]
    obtain ⟨k1, k2⟩ := ok_up ht ha
    by_cases c1 : ckI 0 9999 t = nI 0
    · rw [if_pos c1]
      obtain ⟨v1, v2, v3⟩ := ckI_t.mp c1
      by_cases c2 : n = 16
      · rw [if_pos c2]; exact ⟨okE_15, ht.v⟩
      · rw [if_neg c2]
        have hT2 := hA n t.2.2.2 (by omega) (by omega) tn hT
        by_cases c3 : (nx f L t).1 = 2
        · rw [if_pos c3]
          exact ih (n + 1) _ _ (by omega) (by omega) hT2 k1 k2
        · rw [if_neg c3]
          exact ⟨hT2, k1, Nat.le_refl _, hg, k2⟩
    · rw [if_neg c1]; exact ⟨okE_I c1, ht.v⟩
theorem ok_rdSta (hA : AL r tn) (ht : okTk f L t) (hg : gs < 4) : okRE f L t.2.2.1 (rdSta f L r tn hs gs t) := by
  unfold rdSta
  obtain ⟨k1, k2⟩ := ok_nx ht
  split
  · exact ⟨okE_14, ht.v⟩
  · exact ok_stB (fun n v hn hv tn h => h.told hn hv) hg 17 0 tn _ (by omega) (by omega) hA k1 k2
theorem ok_rdMem (hA : AL r tn) (ht : okTk f L t) (hh : hs ≤ 1) (hg : gs < 4) : okRE f L t.2.2.1 (rdMem f L r tn hs gs t) := by
  unfold rdMem
  obtain ⟨k1, a1⟩ := ok_nx ht
  have n6 := hA.1.2.1
  split
  · exact ⟨okE_15, ht.v⟩
  · unfold rdMem1
    split
    · rename_i c2
      split
      · unfold rdMem2
        obtain ⟨k2, a2⟩ := ok_up k1 a1
        obtain ⟨k3, a3⟩ := ok_up k2 a2
        split
        · rename_i c4
          obtain ⟨v1, v2, v3⟩ := ckI_t.mp c4
          exact ⟨hA.adm (by omega) v2 v3 (nmQ_lt k1 c2.1).1, k3, hh, hg, a3⟩
        · rename_i c4; exact ⟨okE_I c4, k2.v⟩
      · exact ⟨okE_14, k1.v⟩
    · exact ⟨okE_11, k1.v⟩
theorem ok_rdCom (hA : AL r tn) (ht : okTk f L t) (hh : hs ≤ 1) (hg : gs < 4) : okRE f L t.2.2.1 (rdCom f L r tn hs gs t) := by
  unfold rdCom
  obtain ⟨k1, a1⟩ := ok_nx ht
  obtain ⟨k2, a2⟩ := ok_up k1 a1
  obtain ⟨k3, a3⟩ := ok_up k2 a2
  obtain ⟨k4, a4⟩ := ok_up k3 a3
  obtain ⟨k5, a5⟩ := ok_up k4 a4
  have n6 := hA.1.2.1
  have oO := hA.1.2.2.2.2.2.1
  split
  · exact ⟨okE_15, ht.v⟩
  · rename_i c0
    unfold rdCom1
    split
    · rename_i c2
      obtain ⟨m, m1, m2⟩ := fnd_c (ckM_t.mp c2).2
      rw [m2, nI_clamp (by omega)]
      unfold rdCom2
      split
      · exact ⟨okE_11, k2.v⟩
      · rename_i c3
        obtain ⟨σ, σ1, σ2⟩ := wIx_6 c3
        rw [σ2, nI_clamp (by omega)]
        have hgo := gOp_le σ
        unfold rdCom3
        split
        · rename_i c4
          obtain ⟨v1, v2, v3⟩ := ckI_t.mp c4
          unfold rdCom4
          split
          · rename_i c5
            obtain ⟨w1, w2, w3⟩ := ckI_t.mp c5
            exact ⟨hA.give m1 σ1 (by omega) (by omega) (by omega), k5, hh, hg, a5⟩
          · rename_i c5; exact ⟨okE_I c5, k4.v⟩
        · rename_i c4; exact ⟨okE_I c4, k3.v⟩
    · rename_i c2; exact ⟨okE_M c2, k1.v⟩
theorem ok_rdSea (hA : AL r tn) (ht : okTk f L t) (hh : hs ≤ 1) (hg : gs < 4) : okRE f L t.2.2.1 (rdSea f L r tn hs gs t) := by
  unfold rdSea
  obtain ⟨k1, a1⟩ := ok_nx ht
  have oT := hA.1.2.2.2.1
  split
  · exact ⟨okE_15, ht.v⟩
  · exact ⟨hA.seal (by omega), k1, hh, hg, a1⟩
theorem ok_rdFau (hA : AL r tn) (ht : okTk f L t) (hh : hs ≤ 1) (hg : gs < 4) : okRE f L t.2.2.1 (rdFau f L r tn hs gs t) := by
  unfold rdFau
  obtain ⟨k1, a1⟩ := ok_nx ht
  obtain ⟨k2, a2⟩ := ok_up k1 a1
  obtain ⟨k3, a3⟩ := ok_up k2 a2
  obtain ⟨k4, a4⟩ := ok_up k3 a3
  obtain ⟨k5, a5⟩ := ok_up k4 a4
  have n6 := hA.1.2.1
  have oF := hA.1.2.2.2.2.2.2.2.1
  split
  · exact ⟨okE_15, ht.v⟩
  · rename_i c0
    unfold rdFau1
    split
    · rename_i c2
      obtain ⟨m, m1, m2⟩ := fnd_c (ckM_t.mp c2).2
      rw [m2, nI_clamp (by omega)]
      unfold rdFau2
      split
      · rename_i c3
        obtain ⟨u1, u2, u3⟩ := ckI_t.mp c3
        unfold rdFau3
        split
        · rename_i c4
          obtain ⟨v1, v2, v3⟩ := ckI_t.mp c4
          unfold rdFau4
          split
          · rename_i c5
            obtain ⟨w1, w2, w3⟩ := ckI_t.mp c5
            exact ⟨hA.fault m1 (by omega) (by omega) (by omega) (by omega), k5, hh, hg, a5⟩
          · rename_i c5; exact ⟨okE_I c5, k4.v⟩
        · rename_i c4; exact ⟨okE_I c4, k3.v⟩
      · rename_i c3; exact ⟨okE_I c3, k2.v⟩
    · rename_i c2; exact ⟨okE_M c2, k1.v⟩
theorem ok_rdSet (hA : AL r tn) (ht : okTk f L t) (hh : hs ≤ 1) (hg : gs < 4) : okRE f L t.2.2.1 (rdSet f L r tn hs gs t) := by
  unfold rdSet rdSet1
  obtain ⟨k1, a1⟩ := ok_nx ht
  obtain ⟨k2, a2⟩ := ok_up k1 a1
  obtain ⟨k3, a3⟩ := ok_up k2 a2
  split
  · exact ⟨okE_11, k1.v⟩
  · rename_i c3
    obtain ⟨w, w1, w2⟩ := wIx_2 c3
    rw [w2, nI_clamp (by omega)]
    unfold rdSet2
    split
    · exact ⟨okE_14, k1.v⟩
    · unfold rdSet3
      split
      · rename_i c4
        obtain ⟨v1, v2, v3⟩ := ckI_t.mp c4
        have h2 : 2 ^ w < 2 ^ 2 := Nat.pow_lt_pow_right (by omega) w1
        exact ⟨hA.set w1 v2 v3, k3, hh, Nat.or_lt_two_pow (n := 2) hg h2, a3⟩
      · rename_i c4; exact ⟨okE_I c4, k2.v⟩
theorem ok_rdStm (hA : AL r tn) (ht : okTk f L t) (hh : hs ≤ 1) (hg : gs < 4) : okRE f L t.2.2.1 (rdStm f L r tn hs gs t) := by
  unfold rdStm
  split
  · exact ok_rdSta hA ht hg
  · split
    · exact ok_rdMem hA ht hh hg
    · split
      · exact ok_rdCom hA ht hh hg
      · split
        · exact ok_rdSea hA ht hh hg
        · split
          · exact ok_rdFau hA ht hh hg
          · split
            · exact ok_rdSet hA ht hh hg
            · exact ⟨okE_11, ht.v⟩
theorem ok_rdOne (hA : AL r tn) (ht : okTk f L t) (hh : hs ≤ 1) (hg : gs < 4) (h0 : ¬ t.1 = 0) : okRE f L (t.2.1 + 1) (rdOne f L r tn hs gs t) := by
  have h := ok_rdStm hA ht hh hg
  have hlt := ht.2.2.2.1 h0
  unfold rdOne
  generalize rdStm f L r tn hs gs t = z at *
  cases z with
  | inl e => exact h
  | inr z =>
    obtain ⟨h1, h2, h3, h4, h5⟩ := h
    show okRE f L (t.2.1 + 1) (if z.2.2.2.2.1 = 3 then _ else _)
    split
    · obtain ⟨k1, k2⟩ := ok_up h2 (show t.2.1 + 1 ≤ z.2.2.2.2.2.1 by omega)
      exact ⟨h1, k1, h3, h4, k2⟩
    · exact ⟨okE_11, h2.v⟩
end OkRd
section RstM3
variable {d : Nat} {Q : Po} {μ : Mu} {f : Nat → Nat} {g F T : Nat → Int32} {L hs gs sm m n σ i k p w : Nat} {ep x : Int32} {t : TK}
theorem m_220 (hM : MdC μ f L) (hX : TxC μ) (hA : AL (mI μ 1302) (mI μ 1300)) (ht : okTk f L t) (hg4 : gs < 4) (hh : hs ≤ 1) (hsm : sm < 1000) (hq : PoM L g ep (sm + 1) μ Q (rdOne f L (mI μ 1302) (mI μ 1300) hs gs t)) : Ev (d + 7) 220 [.ref 1298] (uA μ 1298 (mdT g L t (nI 0) ep sm gs hs)) Q := by
  have hM0 := hM
  have h205t := fun (d : Nat) (Q : Po) (x : Int32) (t : TK) => s_205t (d := d) (Q := Q) (x := x) (g := g) (t := t) (ep := ep) (sm := sm) (ts := gs) (hs := hs) hM
  have hw := fun (d : Nat) (Q : Po) => s_204 (d := d) (Q := Q) (i := 18) (g := g) (t := t) (er := nI 0) (ep := ep) (sm := sm) (ts := gs) (hs := hs) hM hX (by omega) (by omega) ht Stm6 row_18
  have hok := ok_rdStm hA ht hh hg4
  have hS := hM.1
  obtain ⟨p1, p2, p3, p4, p5, p6, p7, p8, p9, p10, p11, p12, p13, p14, p15, p16, p17, p18, p19, p20, p21⟩ := hS
  have tE : ∀ (r' tn' : Nat → Int32) (t : TK) (er : Int32) (ts hs : Nat), okE er → PoM L g ep (sm + 1) μ Q (.inl (er, t.2)) → RN r' → (∀ j, 22 ≤ j → tn' j = 0) → EM 220 (d + 6) 93 [some (.ref 1298)] [] (uA (uA (uA μ 1302 r') 1300 tn') 1298 (mdT g L t er (nI t.2.1) sm ts hs)) (0, 0) Q := by
    intro r' tn' t er ts hs he hq hrn htn
    have hne := (okE_n he).1
    have hM2 : MdC (uA (uA μ 1302 r') 1300 tn') f L := ⟨hM.1, fun k hk => by rw [mI_An (by omega), mI_An (by omega)]; exact hM.2.1 k hk, hM.2.2⟩
    have h205e := fun (d : Nat) (Q : Po) (x y : Int32) => s_205e (d := d) (Q := Q) (x := x) (y := y) (g := g) (t := t) (er := er) (ep := nI t.2.1) (sm := sm) (ts := ts) (hs := hs) hM2 hne
    have h206e := fun (d : Nat) (Q : Po) => s_206e (d := d) (Q := Q) (g := g) (t := t) (er := er) (ep := nI t.2.1) (sm := sm) (ts := ts) (hs := hs) hM2 hne
    have hq2 := hq r' tn' t.1 ts hs hrn htn
    by_cases c : nI (mkk t.1) = nI 2
    · simp (disch := first | omega | rfl) only [e_220_0, e_220_1, e_220_4, e_220_7_0, e_220_7_1, e_220_7_2, e_220_7_3, e_220_7_4, e_220_7_5, e_220_44, e_220_45, e_220_48, e_220_51, e_220_52, e_220_55, e_220_58, e_220_59, e_220_62, e_220_65, e_220_66, e_220_69, e_220_72, e_220_73, e_220_76, e_220_79, e_220_80, e_220_83, e_220_86, e_220_87, e_220_88, e_220_90, e_220_93, e_220_94, e_220_95, e_220_98, e_220_99, e_220_102, e_220_103, e_220_106, e_220_107, e_220_109, e_220_112, e_220_113, e_220_116, e_220_117, e_220_118, e_220_121, e_220_122, e_220_123, e_220_126, p1, p2, p3, p4, p5, p6, p7, p8, p9, p10, p11, p12, p13, p14, p15, p16, p17, p18, p19, p20, p21, ge1, ule_t, true_or, or_true, nI_add, nI_mul, nI_sub, nI_clamp, nI_lt_t, nI_lt_f, nI_le_t, nI_le_f, nI_eq_t, nI_eq_f, vp_nI, tI, fI, not_true, not_false_iff, true_and, and_true, Classical.not_not, mS_uI, mS_uA, mS_uJ, mS_uR, mS_uX, mR_uI, mR_uA, mR_uJ, mR_uX, mX_uI, mX_uA, mX_uJ, mX_uR, mI_s, mI_n, mI_A, mI_An, mI_uJ, mI_uR, mI_uX, mJ_uI, mJ_uA, mJ_uR, mJ_uX, onR_s, kC_v, kC_n, kC_t, mI_A, mdT_17, mdT_22, c, h205e, h206e, uIA, mdT_u22]
      exact hq2
    · simp (disch := first | omega | rfl) only [e_220_0, e_220_1, e_220_4, e_220_7_0, e_220_7_1, e_220_7_2, e_220_7_3, e_220_7_4, e_220_7_5, e_220_44, e_220_45, e_220_48, e_220_51, e_220_52, e_220_55, e_220_58, e_220_59, e_220_62, e_220_65, e_220_66, e_220_69, e_220_72, e_220_73, e_220_76, e_220_79, e_220_80, e_220_83, e_220_86, e_220_87, e_220_88, e_220_90, e_220_93, e_220_94, e_220_95, e_220_98, e_220_99, e_220_102, e_220_103, e_220_106, e_220_107, e_220_109, e_220_112, e_220_113, e_220_116, e_220_117, e_220_118, e_220_121, e_220_122, e_220_123, e_220_126, p1, p2, p3, p4, p5, p6, p7, p8, p9, p10, p11, p12, p13, p14, p15, p16, p17, p18, p19, p20, p21, ge1, ule_t, true_or, or_true, nI_add, nI_mul, nI_sub, nI_clamp, nI_lt_t, nI_lt_f, nI_le_t, nI_le_f, nI_eq_t, nI_eq_f, vp_nI, tI, fI, not_true, not_false_iff, true_and, and_true, Classical.not_not, mS_uI, mS_uA, mS_uJ, mS_uR, mS_uX, mR_uI, mR_uA, mR_uJ, mR_uX, mX_uI, mX_uA, mX_uJ, mX_uR, mI_s, mI_n, mI_A, mI_An, mI_uJ, mI_uR, mI_uX, mJ_uI, mJ_uA, mJ_uR, mJ_uX, onR_s, kC_v, kC_n, kC_t, mI_A, mdT_17, mdT_22, c, h205e, h206e, uIA, mdT_u22]
      exact hq2
  have tl : ∀ z, okRE f L t.2.2.1 z → PoM L g ep (sm + 1) μ Q (rdOneE f L z) → ∀ Q' : Po, (∀ μ', EM 220 (d + 6) 93 [some (.ref 1298)] [] μ' (0, 0) Q → Q' (some none) μ') → PoM L g ep sm μ Q' z := by
    intro z hz hq Q' hQ
    cases z with
    | inl e =>
      intro r' tn' k ts hs hrn htn
      exact hQ _ (tE r' tn' (k, e.2) e.1 ts hs hz.1 hq hrn htn)
    | inr z =>
      obtain ⟨h1, h2, h3, h4, h5⟩ := hz
      refine hQ _ ?_
      have hM2 : MdC (uA (uA μ 1302 z.1) 1300 z.2.1) f L := ⟨hM.1, fun k hk => by rw [mI_An (by omega), mI_An (by omega)]; exact hM.2.1 k hk, hM.2.2⟩
      have h205n := fun (d : Nat) (Q : Po) (x : Int32) => s_205n (d := d) (Q := Q) (x := x) (g := g) (t := z.2.2.2.2) (er := nI 0) (ep := ep) (sm := sm) (ts := z.2.2.2.1) (hs := z.2.2.1) hM2
      have h205t := fun (d : Nat) (Q : Po) (x : Int32) => s_205t (d := d) (Q := Q) (x := x) (g := g) (t := z.2.2.2.2) (ep := ep) (sm := sm) (ts := z.2.2.2.1) (hs := z.2.2.1) hM2
      have h206 := fun (d : Nat) (Q : Po) => s_206 (d := d) (Q := Q) (g := g) (t := z.2.2.2.2) (ep := ep) (sm := sm) (ts := z.2.2.2.1) (hs := z.2.2.1) hM2 h2
      have m11 : ¬ (-11 : Int32) = nI 0 := by decide
      have h206e := fun (d : Nat) (Q : Po) => s_206e (d := d) (Q := Q) (g := g) (t := z.2.2.2.2) (er := -11) (ep := nI z.2.2.2.2.2.1) (sm := sm) (ts := z.2.2.2.1) (hs := z.2.2.1) hM2 m11
      have hq3 : PoM L g ep (sm + 1) μ Q (if z.2.2.2.2.1 = 3 then .inr (z.1, z.2.1, z.2.2.1, z.2.2.2.1, nx f L z.2.2.2.2) else .inl (-11, z.2.2.2.2.2)) := hq
      by_cases c : z.2.2.2.2.1 = 3
      · rw [if_pos c] at hq3
        have e1 : (nI (mkk z.2.2.2.2.1) = nI 2) = True := (mkk3 h2.1).trans (eq_true c)
        simp (disch := first | omega | rfl) only [e_220_0, e_220_1, e_220_4, e_220_7_0, e_220_7_1, e_220_7_2, e_220_7_3, e_220_7_4, e_220_7_5, e_220_44, e_220_45, e_220_48, e_220_51, e_220_52, e_220_55, e_220_58, e_220_59, e_220_62, e_220_65, e_220_66, e_220_69, e_220_72, e_220_73, e_220_76, e_220_79, e_220_80, e_220_83, e_220_86, e_220_87, e_220_88, e_220_90, e_220_93, e_220_94, e_220_95, e_220_98, e_220_99, e_220_102, e_220_103, e_220_106, e_220_107, e_220_109, e_220_112, e_220_113, e_220_116, e_220_117, e_220_118, e_220_121, e_220_122, e_220_123, e_220_126, p1, p2, p3, p4, p5, p6, p7, p8, p9, p10, p11, p12, p13, p14, p15, p16, p17, p18, p19, p20, p21, ge1, ule_t, true_or, or_true, nI_add, nI_mul, nI_sub, nI_clamp, nI_lt_t, nI_lt_f, nI_le_t, nI_le_f, nI_eq_t, nI_eq_f, vp_nI, tI, fI, not_true, not_false_iff, true_and, and_true, Classical.not_not, mS_uI, mS_uA, mS_uJ, mS_uR, mS_uX, mR_uI, mR_uA, mR_uJ, mR_uX, mX_uI, mX_uA, mX_uJ, mX_uR, mI_s, mI_n, mI_A, mI_An, mI_uJ, mI_uR, mI_uX, mJ_uI, mJ_uA, mJ_uR, mJ_uX, onR_s, kC_v, kC_n, kC_t, mI_A, mdT_17, mdT_22, e1, h205n, h206, uIA, mdT_u22]
        exact hq3
      · rw [if_neg c] at hq3
        have e1 : (nI (mkk z.2.2.2.2.1) = nI 2) = False := (mkk3 h2.1).trans (eq_false c)
        simp (disch := first | omega | rfl) only [e_220_0, e_220_1, e_220_4, e_220_7_0, e_220_7_1, e_220_7_2, e_220_7_3, e_220_7_4, e_220_7_5, e_220_44, e_220_45, e_220_48, e_220_51, e_220_52, e_220_55, e_220_58, e_220_59, e_220_62, e_220_65, e_220_66, e_220_69, e_220_72, e_220_73, e_220_76, e_220_79, e_220_80, e_220_83, e_220_86, e_220_87, e_220_88, e_220_90, e_220_93, e_220_94, e_220_95, e_220_98, e_220_99, e_220_102, e_220_103, e_220_106, e_220_107, e_220_109, e_220_112, e_220_113, e_220_116, e_220_117, e_220_118, e_220_121, e_220_122, e_220_123, e_220_126, p1, p2, p3, p4, p5, p6, p7, p8, p9, p10, p11, p12, p13, p14, p15, p16, p17, p18, p19, p20, p21, ge1, ule_t, true_or, or_true, nI_add, nI_mul, nI_sub, nI_clamp, nI_lt_t, nI_lt_f, nI_le_t, nI_le_f, nI_eq_t, nI_eq_f, vp_nI, tI, fI, not_true, not_false_iff, true_and, and_true, Classical.not_not, mS_uI, mS_uA, mS_uJ, mS_uR, mS_uX, mR_uI, mR_uA, mR_uJ, mR_uX, mX_uI, mX_uA, mX_uJ, mX_uR, mI_s, mI_n, mI_A, mI_An, mI_uJ, mI_uR, mI_uX, mJ_uI, mJ_uA, mJ_uR, mJ_uX, onR_s, kC_v, kC_n, kC_t, mI_A, mdT_17, mdT_22, e1, h205t, h206e, uIA, mdT_u22]
        exact hq3 _ _ _ _ _ h1.2.1.1 h1.2.2.2.2.2.1
  unfold rdOne at hq
  have tl2 := tl _ hok hq
  clear tl hok
  unfold rdStm at tl2
  rw [in_220]
  by_cases c0 : isW f t (txB 0)
  · rw [if_pos c0] at tl2; simp only [wIx_s0 c0] at hw
    simp (disch := first | omega | rfl) only [e_220_0, e_220_1, e_220_4, e_220_7_0, e_220_7_1, e_220_7_2, e_220_7_3, e_220_7_4, e_220_7_5, e_220_44, e_220_45, e_220_48, e_220_51, e_220_52, e_220_55, e_220_58, e_220_59, e_220_62, e_220_65, e_220_66, e_220_69, e_220_72, e_220_73, e_220_76, e_220_79, e_220_80, e_220_83, e_220_86, e_220_87, e_220_88, e_220_90, e_220_94, e_220_95, e_220_98, e_220_99, e_220_102, e_220_103, e_220_106, e_220_107, e_220_109, e_220_112, e_220_113, e_220_116, e_220_117, e_220_118, e_220_121, e_220_122, e_220_123, e_220_126, p1, p2, p3, p4, p5, p6, p7, p8, p9, p10, p11, p12, p13, p14, p15, p16, p17, p18, p19, p20, p21, ge1, ule_t, true_or, or_true, nI_add, nI_mul, nI_sub, nI_clamp, nI_lt_t, nI_lt_f, nI_le_t, nI_le_f, nI_eq_t, nI_eq_f, vp_nI, tI, fI, not_true, not_false_iff, true_and, and_true, Classical.not_not, mS_uI, mS_uA, mS_uJ, mS_uR, mS_uX, mR_uI, mR_uA, mR_uJ, mR_uX, mX_uI, mX_uA, mX_uJ, mX_uR, mI_s, mI_n, mI_A, mI_An, mI_uJ, mI_uR, mI_uX, mJ_uI, mJ_uA, mJ_uR, mJ_uX, onR_s, kC_v, kC_n, kC_t, hw]
    exact m_211 hM0 hA ht hh (tl2 _ (fun μ' h => by simp (disch := first | omega | rfl) only [e_220_0, e_220_1, e_220_4, e_220_7_0, e_220_7_1, e_220_7_2, e_220_7_3, e_220_7_4, e_220_7_5, e_220_44, e_220_45, e_220_48, e_220_51, e_220_52, e_220_55, e_220_58, e_220_59, e_220_62, e_220_65, e_220_66, e_220_69, e_220_72, e_220_73, e_220_76, e_220_79, e_220_80, e_220_83, e_220_86, e_220_87, e_220_88, e_220_90, e_220_94, e_220_95, e_220_98, e_220_99, e_220_102, e_220_103, e_220_106, e_220_107, e_220_109, e_220_112, e_220_113, e_220_116, e_220_117, e_220_118, e_220_121, e_220_122, e_220_123, e_220_126, ge1, ule_t, true_or, or_true, nI_add, nI_mul, nI_sub, nI_clamp, nI_lt_t, nI_lt_f, nI_le_t, nI_le_f, nI_eq_t, nI_eq_f, vp_nI, tI, fI, not_true, not_false_iff, true_and, and_true, Classical.not_not, kC_n]; exact h))
  · rw [if_neg c0] at tl2
    by_cases c1 : isW f t (txB 1)
    · rw [if_pos c1] at tl2; simp only [wIx_s1 c0 c1] at hw
      simp (disch := first | omega | rfl) only [e_220_0, e_220_1, e_220_4, e_220_7_0, e_220_7_1, e_220_7_2, e_220_7_3, e_220_7_4, e_220_7_5, e_220_44, e_220_45, e_220_48, e_220_51, e_220_52, e_220_55, e_220_58, e_220_59, e_220_62, e_220_65, e_220_66, e_220_69, e_220_72, e_220_73, e_220_76, e_220_79, e_220_80, e_220_83, e_220_86, e_220_87, e_220_88, e_220_90, e_220_94, e_220_95, e_220_98, e_220_99, e_220_102, e_220_103, e_220_106, e_220_107, e_220_109, e_220_112, e_220_113, e_220_116, e_220_117, e_220_118, e_220_121, e_220_122, e_220_123, e_220_126, p1, p2, p3, p4, p5, p6, p7, p8, p9, p10, p11, p12, p13, p14, p15, p16, p17, p18, p19, p20, p21, ge1, ule_t, true_or, or_true, nI_add, nI_mul, nI_sub, nI_clamp, nI_lt_t, nI_lt_f, nI_le_t, nI_le_f, nI_eq_t, nI_eq_f, vp_nI, tI, fI, not_true, not_false_iff, true_and, and_true, Classical.not_not, mS_uI, mS_uA, mS_uJ, mS_uR, mS_uX, mR_uI, mR_uA, mR_uJ, mR_uX, mX_uI, mX_uA, mX_uJ, mX_uR, mI_s, mI_n, mI_A, mI_An, mI_uJ, mI_uR, mI_uX, mJ_uI, mJ_uA, mJ_uR, mJ_uX, onR_s, kC_v, kC_n, kC_t, hw]
      exact m_213 hM0 hA ht (tl2 _ (fun μ' h => by simp (disch := first | omega | rfl) only [e_220_0, e_220_1, e_220_4, e_220_7_0, e_220_7_1, e_220_7_2, e_220_7_3, e_220_7_4, e_220_7_5, e_220_44, e_220_45, e_220_48, e_220_51, e_220_52, e_220_55, e_220_58, e_220_59, e_220_62, e_220_65, e_220_66, e_220_69, e_220_72, e_220_73, e_220_76, e_220_79, e_220_80, e_220_83, e_220_86, e_220_87, e_220_88, e_220_90, e_220_94, e_220_95, e_220_98, e_220_99, e_220_102, e_220_103, e_220_106, e_220_107, e_220_109, e_220_112, e_220_113, e_220_116, e_220_117, e_220_118, e_220_121, e_220_122, e_220_123, e_220_126, ge1, ule_t, true_or, or_true, nI_add, nI_mul, nI_sub, nI_clamp, nI_lt_t, nI_lt_f, nI_le_t, nI_le_f, nI_eq_t, nI_eq_f, vp_nI, tI, fI, not_true, not_false_iff, true_and, and_true, Classical.not_not, kC_n]; exact h))
    · rw [if_neg c1] at tl2
      by_cases c2 : isW f t (txB 2)
      · rw [if_pos c2] at tl2; simp only [wIx_s2 c0 c1 c2] at hw
        simp (disch := first | omega | rfl) only [e_220_0, e_220_1, e_220_4, e_220_7_0, e_220_7_1, e_220_7_2, e_220_7_3, e_220_7_4, e_220_7_5, e_220_44, e_220_45, e_220_48, e_220_51, e_220_52, e_220_55, e_220_58, e_220_59, e_220_62, e_220_65, e_220_66, e_220_69, e_220_72, e_220_73, e_220_76, e_220_79, e_220_80, e_220_83, e_220_86, e_220_87, e_220_88, e_220_90, e_220_94, e_220_95, e_220_98, e_220_99, e_220_102, e_220_103, e_220_106, e_220_107, e_220_109, e_220_112, e_220_113, e_220_116, e_220_117, e_220_118, e_220_121, e_220_122, e_220_123, e_220_126, p1, p2, p3, p4, p5, p6, p7, p8, p9, p10, p11, p12, p13, p14, p15, p16, p17, p18, p19, p20, p21, ge1, ule_t, true_or, or_true, nI_add, nI_mul, nI_sub, nI_clamp, nI_lt_t, nI_lt_f, nI_le_t, nI_le_f, nI_eq_t, nI_eq_f, vp_nI, tI, fI, not_true, not_false_iff, true_and, and_true, Classical.not_not, mS_uI, mS_uA, mS_uJ, mS_uR, mS_uX, mR_uI, mR_uA, mR_uJ, mR_uX, mX_uI, mX_uA, mX_uJ, mX_uR, mI_s, mI_n, mI_A, mI_An, mI_uJ, mI_uR, mI_uX, mJ_uI, mJ_uA, mJ_uR, mJ_uX, onR_s, kC_v, kC_n, kC_t, hw]
        exact m_214 hM0 hX hA ht (tl2 _ (fun μ' h => by simp (disch := first | omega | rfl) only [e_220_0, e_220_1, e_220_4, e_220_7_0, e_220_7_1, e_220_7_2, e_220_7_3, e_220_7_4, e_220_7_5, e_220_44, e_220_45, e_220_48, e_220_51, e_220_52, e_220_55, e_220_58, e_220_59, e_220_62, e_220_65, e_220_66, e_220_69, e_220_72, e_220_73, e_220_76, e_220_79, e_220_80, e_220_83, e_220_86, e_220_87, e_220_88, e_220_90, e_220_94, e_220_95, e_220_98, e_220_99, e_220_102, e_220_103, e_220_106, e_220_107, e_220_109, e_220_112, e_220_113, e_220_116, e_220_117, e_220_118, e_220_121, e_220_122, e_220_123, e_220_126, ge1, ule_t, true_or, or_true, nI_add, nI_mul, nI_sub, nI_clamp, nI_lt_t, nI_lt_f, nI_le_t, nI_le_f, nI_eq_t, nI_eq_f, vp_nI, tI, fI, not_true, not_false_iff, true_and, and_true, Classical.not_not, kC_n]; exact h))
      · rw [if_neg c2] at tl2
        by_cases c3 : isW f t (txB 9)
        · rw [if_pos c3] at tl2; simp only [wIx_s3 c0 c1 c2 c3] at hw
          simp (disch := first | omega | rfl) only [e_220_0, e_220_1, e_220_4, e_220_7_0, e_220_7_1, e_220_7_2, e_220_7_3, e_220_7_4, e_220_7_5, e_220_44, e_220_45, e_220_48, e_220_51, e_220_52, e_220_55, e_220_58, e_220_59, e_220_62, e_220_65, e_220_66, e_220_69, e_220_72, e_220_73, e_220_76, e_220_79, e_220_80, e_220_83, e_220_86, e_220_87, e_220_88, e_220_90, e_220_94, e_220_95, e_220_98, e_220_99, e_220_102, e_220_103, e_220_106, e_220_107, e_220_109, e_220_112, e_220_113, e_220_116, e_220_117, e_220_118, e_220_121, e_220_122, e_220_123, e_220_126, p1, p2, p3, p4, p5, p6, p7, p8, p9, p10, p11, p12, p13, p14, p15, p16, p17, p18, p19, p20, p21, ge1, ule_t, true_or, or_true, nI_add, nI_mul, nI_sub, nI_clamp, nI_lt_t, nI_lt_f, nI_le_t, nI_le_f, nI_eq_t, nI_eq_f, vp_nI, tI, fI, not_true, not_false_iff, true_and, and_true, Classical.not_not, mS_uI, mS_uA, mS_uJ, mS_uR, mS_uX, mR_uI, mR_uA, mR_uJ, mR_uX, mX_uI, mX_uA, mX_uJ, mX_uR, mI_s, mI_n, mI_A, mI_An, mI_uJ, mI_uR, mI_uX, mJ_uI, mJ_uA, mJ_uR, mJ_uX, onR_s, kC_v, kC_n, kC_t, hw]
          exact m_215 hM0 hA ht (tl2 _ (fun μ' h => by simp (disch := first | omega | rfl) only [e_220_0, e_220_1, e_220_4, e_220_7_0, e_220_7_1, e_220_7_2, e_220_7_3, e_220_7_4, e_220_7_5, e_220_44, e_220_45, e_220_48, e_220_51, e_220_52, e_220_55, e_220_58, e_220_59, e_220_62, e_220_65, e_220_66, e_220_69, e_220_72, e_220_73, e_220_76, e_220_79, e_220_80, e_220_83, e_220_86, e_220_87, e_220_88, e_220_90, e_220_94, e_220_95, e_220_98, e_220_99, e_220_102, e_220_103, e_220_106, e_220_107, e_220_109, e_220_112, e_220_113, e_220_116, e_220_117, e_220_118, e_220_121, e_220_122, e_220_123, e_220_126, ge1, ule_t, true_or, or_true, nI_add, nI_mul, nI_sub, nI_clamp, nI_lt_t, nI_lt_f, nI_le_t, nI_le_f, nI_eq_t, nI_eq_f, vp_nI, tI, fI, not_true, not_false_iff, true_and, and_true, Classical.not_not, kC_n]; exact h))
        · rw [if_neg c3] at tl2
          by_cases c4 : isW f t (txB 10)
          · rw [if_pos c4] at tl2; simp only [wIx_s4 c0 c1 c2 c3 c4] at hw
            simp (disch := first | omega | rfl) only [e_220_0, e_220_1, e_220_4, e_220_7_0, e_220_7_1, e_220_7_2, e_220_7_3, e_220_7_4, e_220_7_5, e_220_44, e_220_45, e_220_48, e_220_51, e_220_52, e_220_55, e_220_58, e_220_59, e_220_62, e_220_65, e_220_66, e_220_69, e_220_72, e_220_73, e_220_76, e_220_79, e_220_80, e_220_83, e_220_86, e_220_87, e_220_88, e_220_90, e_220_94, e_220_95, e_220_98, e_220_99, e_220_102, e_220_103, e_220_106, e_220_107, e_220_109, e_220_112, e_220_113, e_220_116, e_220_117, e_220_118, e_220_121, e_220_122, e_220_123, e_220_126, p1, p2, p3, p4, p5, p6, p7, p8, p9, p10, p11, p12, p13, p14, p15, p16, p17, p18, p19, p20, p21, ge1, ule_t, true_or, or_true, nI_add, nI_mul, nI_sub, nI_clamp, nI_lt_t, nI_lt_f, nI_le_t, nI_le_f, nI_eq_t, nI_eq_f, vp_nI, tI, fI, not_true, not_false_iff, true_and, and_true, Classical.not_not, mS_uI, mS_uA, mS_uJ, mS_uR, mS_uX, mR_uI, mR_uA, mR_uJ, mR_uX, mX_uI, mX_uA, mX_uJ, mX_uR, mI_s, mI_n, mI_A, mI_An, mI_uJ, mI_uR, mI_uX, mJ_uI, mJ_uA, mJ_uR, mJ_uX, onR_s, kC_v, kC_n, kC_t, hw]
            exact m_216 hM0 hA ht (tl2 _ (fun μ' h => by simp (disch := first | omega | rfl) only [e_220_0, e_220_1, e_220_4, e_220_7_0, e_220_7_1, e_220_7_2, e_220_7_3, e_220_7_4, e_220_7_5, e_220_44, e_220_45, e_220_48, e_220_51, e_220_52, e_220_55, e_220_58, e_220_59, e_220_62, e_220_65, e_220_66, e_220_69, e_220_72, e_220_73, e_220_76, e_220_79, e_220_80, e_220_83, e_220_86, e_220_87, e_220_88, e_220_90, e_220_94, e_220_95, e_220_98, e_220_99, e_220_102, e_220_103, e_220_106, e_220_107, e_220_109, e_220_112, e_220_113, e_220_116, e_220_117, e_220_118, e_220_121, e_220_122, e_220_123, e_220_126, ge1, ule_t, true_or, or_true, nI_add, nI_mul, nI_sub, nI_clamp, nI_lt_t, nI_lt_f, nI_le_t, nI_le_f, nI_eq_t, nI_eq_f, vp_nI, tI, fI, not_true, not_false_iff, true_and, and_true, Classical.not_not, kC_n]; exact h))
          · rw [if_neg c4] at tl2
            by_cases c5 : isW f t (txB 11)
            · rw [if_pos c5] at tl2; simp only [wIx_s5 c0 c1 c2 c3 c4 c5] at hw
              simp (disch := first | omega | rfl) only [e_220_0, e_220_1, e_220_4, e_220_7_0, e_220_7_1, e_220_7_2, e_220_7_3, e_220_7_4, e_220_7_5, e_220_44, e_220_45, e_220_48, e_220_51, e_220_52, e_220_55, e_220_58, e_220_59, e_220_62, e_220_65, e_220_66, e_220_69, e_220_72, e_220_73, e_220_76, e_220_79, e_220_80, e_220_83, e_220_86, e_220_87, e_220_88, e_220_90, e_220_94, e_220_95, e_220_98, e_220_99, e_220_102, e_220_103, e_220_106, e_220_107, e_220_109, e_220_112, e_220_113, e_220_116, e_220_117, e_220_118, e_220_121, e_220_122, e_220_123, e_220_126, p1, p2, p3, p4, p5, p6, p7, p8, p9, p10, p11, p12, p13, p14, p15, p16, p17, p18, p19, p20, p21, ge1, ule_t, true_or, or_true, nI_add, nI_mul, nI_sub, nI_clamp, nI_lt_t, nI_lt_f, nI_le_t, nI_le_f, nI_eq_t, nI_eq_f, vp_nI, tI, fI, not_true, not_false_iff, true_and, and_true, Classical.not_not, mS_uI, mS_uA, mS_uJ, mS_uR, mS_uX, mR_uI, mR_uA, mR_uJ, mR_uX, mX_uI, mX_uA, mX_uJ, mX_uR, mI_s, mI_n, mI_A, mI_An, mI_uJ, mI_uR, mI_uX, mJ_uI, mJ_uA, mJ_uR, mJ_uX, onR_s, kC_v, kC_n, kC_t, hw]
              exact m_219 hM0 hX hA ht hg4 (tl2 _ (fun μ' h => by simp (disch := first | omega | rfl) only [e_220_0, e_220_1, e_220_4, e_220_7_0, e_220_7_1, e_220_7_2, e_220_7_3, e_220_7_4, e_220_7_5, e_220_44, e_220_45, e_220_48, e_220_51, e_220_52, e_220_55, e_220_58, e_220_59, e_220_62, e_220_65, e_220_66, e_220_69, e_220_72, e_220_73, e_220_76, e_220_79, e_220_80, e_220_83, e_220_86, e_220_87, e_220_88, e_220_90, e_220_94, e_220_95, e_220_98, e_220_99, e_220_102, e_220_103, e_220_106, e_220_107, e_220_109, e_220_112, e_220_113, e_220_116, e_220_117, e_220_118, e_220_121, e_220_122, e_220_123, e_220_126, ge1, ule_t, true_or, or_true, nI_add, nI_mul, nI_sub, nI_clamp, nI_lt_t, nI_lt_f, nI_le_t, nI_le_f, nI_eq_t, nI_eq_f, vp_nI, tI, fI, not_true, not_false_iff, true_and, and_true, Classical.not_not, kC_n]; exact h))
            · rw [if_neg c5] at tl2; simp only [wIx_sn c0 c1 c2 c3 c4 c5] at hw
              have hp := PoM.err hA (tl2 (fun o μ' => o = some none ∧ EM 220 (d + 6) 93 [some (.ref 1298)] [] μ' (0, 0) Q) (fun μ' h => ⟨rfl, h⟩)) gs hs
              simp (disch := first | omega | rfl) only [e_220_0, e_220_1, e_220_4, e_220_7_0, e_220_7_1, e_220_7_2, e_220_7_3, e_220_7_4, e_220_7_5, e_220_44, e_220_45, e_220_48, e_220_51, e_220_52, e_220_55, e_220_58, e_220_59, e_220_62, e_220_65, e_220_66, e_220_69, e_220_72, e_220_73, e_220_76, e_220_79, e_220_80, e_220_83, e_220_86, e_220_87, e_220_88, e_220_90, e_220_94, e_220_95, e_220_98, e_220_99, e_220_102, e_220_103, e_220_106, e_220_107, e_220_109, e_220_112, e_220_113, e_220_116, e_220_117, e_220_118, e_220_121, e_220_122, e_220_123, e_220_126, p1, p2, p3, p4, p5, p6, p7, p8, p9, p10, p11, p12, p13, p14, p15, p16, p17, p18, p19, p20, p21, ge1, ule_t, true_or, or_true, nI_add, nI_mul, nI_sub, nI_clamp, nI_lt_t, nI_lt_f, nI_le_t, nI_le_f, nI_eq_t, nI_eq_f, vp_nI, tI, fI, not_true, not_false_iff, true_and, and_true, Classical.not_not, mS_uI, mS_uA, mS_uJ, mS_uR, mS_uX, mR_uI, mR_uA, mR_uJ, mR_uX, mX_uI, mX_uA, mX_uJ, mX_uR, mI_s, mI_n, mI_A, mI_An, mI_uJ, mI_uR, mI_uX, mJ_uI, mJ_uA, mJ_uR, mJ_uX, onR_s, kC_v, kC_n, kC_t, hw, e_220_7_d (x := -1) (Or.inl (by decide)), h205t]
              exact hp.2
end RstM3

