/-! reading: the reference's statements -/
def PoM (L : Nat) (g : Nat → Int32) (ep : Int32) (sm : Nat) (μ : Mu) (Q : Po) (z : RE) : Prop := match z with
  | .inl z => ∀ r' tn' k ts hs, RN r' → (∀ j, 22 ≤ j → tn' j = 0) → Q (some none) (uA (uA (uA μ 1302 r') 1300 tn') 1298 (mdT g L (k, z.2) z.1 (nI z.2.1) sm ts hs))
  | .inr z => Q (some none) (uA (uA (uA μ 1302 z.1) 1300 z.2.1) 1298 (mdT g L z.2.2.2.2 (nI 0) ep sm z.2.2.2.1 z.2.2.1))
section HeapM
variable {μ : Mu} {k : Nat} {F X T : Nat → Int32} {v : Int32}
theorem uA_28 : uA (uA μ 1298 F) 1302 X = uA (uA μ 1302 X) 1298 F := uAuA (by omega)
theorem uA_20 : uA (uA μ 1298 F) 1300 T = uA (uA μ 1300 T) 1298 F := uAuA (by omega)
theorem uA_02 : uA (uA μ 1300 T) 1302 X = uA (uA μ 1302 X) 1300 T := uAuA (by omega)
theorem uI_20 : uI (uA μ 1298 F) 1300 k v = uA (uA μ 1300 (upd (mI μ 1300) k v)) 1298 F := by rw [uIuA (by omega), uI_A]
theorem uI_28 : uI (uA μ 1298 F) 1302 k v = uA (uA μ 1302 (upd (mI μ 1302) k v)) 1298 F := by rw [uIuA (by omega), uI_A]
theorem keepT : uA (uA μ 1302 X) 1300 (mI μ 1300) = uA μ 1302 X := by
  have h : mI (uA μ 1302 X) 1300 = mI μ 1300 := mI_Anf (by omega)
  rw [← h, uA_self]
theorem keepR : uA (uA μ 1302 (mI μ 1302)) 1300 T = uA μ 1300 T := by rw [uA_self]
theorem keepRT : uA (uA μ 1302 (mI μ 1302)) 1300 (mI μ 1300) = μ := by rw [uA_self, uA_self]
end HeapM
section RstM
variable {d : Nat} {Q : Po} {μ : Mu} {f : Nat → Nat} {g F T : Nat → Int32} {L hs gs sm m n σ i k p w : Nat} {ep x : Int32} {t : TK}
theorem n_212 (hM : ShM μ) (hn : mI μ 1302 2 = nI (nM (mI μ 1302))) (h6 : nM (mI μ 1302) < 6) : Ev (d + 3) 212 [.ref 1298, .int (nI p), .int (nI k)] (uA (uA μ 1300 T) 1298 F) Q = Q (some none) (uA (uA (uA μ 1302 (rJ1 (mI μ 1302) (nM (mI μ 1302)) p k)) 1300 T) 1298 F) := by
  have em : mI (uA (uA μ 1300 T) 1298 F) 1302 = mI μ 1302 := by rw [mI_Anf (by omega), mI_Anf (by omega)]
  have := s_212 (d := d) (Q := Q) (μ := uA (uA μ 1300 T) 1298 F) (p := p) (t := k) hM (by rw [em]; exact hn) (by rw [em]; exact h6)
  rw [em, uA_28, uA_02] at this
  exact this
theorem n_197 (hM : ShM μ) (ho : mI μ 1302 1708 = nI (nO (mI μ 1302))) (ho8 : nO (mI μ 1302) < 8) : Ev (d + 1) 197 [.ref 1298, .int (nI m), .int (nI σ), .int (nI i), .int (nI k)] (uA μ 1298 F) Q = Q (some none) (uA (uA μ 1302 (rGive (mI μ 1302) m σ i k)) 1298 F) := by
  have em : mI (uA μ 1298 F) 1302 = mI μ 1302 := mI_Anf (by omega)
  have := s_197 (d := d) (Q := Q) (μ := uA μ 1298 F) (m := m) (σ := σ) (i := i) (k := k) hM (by rw [em]; exact ho) (by rw [em]; exact ho8)
  rw [em, uA_28] at this
  exact this
theorem n_199 (hM : ShM μ) (ho : mI μ 1302 1741 = nI (nF (mI μ 1302))) (ho8 : nF (mI μ 1302) < 10) : Ev (d + 1) 199 [.ref 1298, .int (nI m), .int (nI σ), .int (nI i), .int (nI k)] (uA μ 1298 F) Q = Q (some none) (uA (uA μ 1302 (rFault (mI μ 1302) m σ i k)) 1298 F) := by
  have em : mI (uA μ 1298 F) 1302 = mI μ 1302 := mI_Anf (by omega)
  have := s_199 (d := d) (Q := Q) (μ := uA μ 1298 F) (m := m) (t := σ) (i := i) (k := k) hM (by rw [em]; exact ho) (by rw [em]; exact ho8)
  rw [em, uA_28] at this
  exact this
theorem n_198 (hM : ShM μ) (hO : okR (mI μ 1302)) (hT : nT (mI μ 1302) < 40) : Ev (d + 2) 198 [.ref 1298] (uA μ 1298 F) Q = Q (some none) (uA (uA μ 1302 (rSeal (mI μ 1302))) 1298 F) := by
  have em : mI (uA μ 1298 F) 1302 = mI μ 1302 := mI_Anf (by omega)
  have := s_198 (d := d) (Q := Q) (μ := uA μ 1298 F) hM (by rw [em]; exact hO) (by rw [em]; exact hT)
  rw [em, uA_28] at this
  exact this
theorem n_165 (hM : ShM μ) : Ev (d + 1) 165 [.ref 1298] (uA μ 1298 F) Q = Q (some (some (.int (mI μ 1302 2)))) (uA μ 1298 F) := by
  have := s_165 (d := d) (Q := Q) (μ := uA μ 1298 F) hM
  rw [mI_An (by omega)] at this
  exact this
theorem PoM.err {er : Int32} {t : TK} (hA : AL (mI μ 1302) (mI μ 1300)) (hq : PoM L g ep sm μ Q (.inl (er, t.2))) (ts hs : Nat) : Q (some none) (uA μ 1298 (mdT g L t er (nI t.2.1) sm ts hs)) := by
  have := hq (mI μ 1302) (mI μ 1300) t.1 ts hs hA.2.1.1 hA.2.2.2.2.2.1
  rw [keepRT] at this
  exact this
theorem m_213 (hM : MdC μ f L) (hA : AL (mI μ 1302) (mI μ 1300)) (ht : okTk f L t) (hq : PoM L g ep sm μ Q (rdMem f L (mI μ 1302) (mI μ 1300) hs gs t)) : Ev (d + 5) 213 [.ref 1298] (uA μ 1298 (mdT g L t (nI 0) ep sm gs hs)) Q := by
  have hM0 := hM
  have hO := hA.1
  have o2 := hO.1
  have n6 := hO.2.1
  have k1 := (ok_nx ht).1
  have k2 := (ok_nx k1).1
  have h205n := fun (d : Nat) (Q : Po) (x : Int32) (t : TK) => s_205n (d := d) (Q := Q) (x := x) (g := g) (t := t) (er := nI 0) (ep := ep) (sm := sm) (ts := gs) (hs := hs) hM
  have h205t := fun (d : Nat) (Q : Po) (x : Int32) (t : TK) => s_205t (d := d) (Q := Q) (x := x) (g := g) (t := t) (ep := ep) (sm := sm) (ts := gs) (hs := hs) hM
  have h206 := fun (d : Nat) (Q : Po) (t : TK) => s_206 (d := d) (Q := Q) (t := t) (g := g) (ep := ep) (sm := sm) (ts := gs) (hs := hs) hM
  have h205e := fun (d : Nat) (Q : Po) (x y er ep : Int32) (t : TK) (h : ¬ er = nI 0) => s_205e (d := d) (Q := Q) (x := x) (y := y) (g := g) (t := t) (er := er) (ep := ep) (sm := sm) (ts := gs) (hs := hs) hM h
  have h206e := fun (d : Nat) (Q : Po) (er ep : Int32) (t : TK) (h : ¬ er = nI 0) => s_206e (d := d) (Q := Q) (g := g) (t := t) (er := er) (ep := ep) (sm := sm) (ts := gs) (hs := hs) hM h
  have h207e := fun (d : Nat) (Q : Po) (er ep : Int32) (t : TK) (ht : okTk f L t) (h : ¬ er = nI 0) => s_207e (d := d) (Q := Q) (lo := 1) (hi := 4) (g := g) (t := t) (er := er) (ep := ep) (sm := sm) (ts := gs) (hs := hs) hM ht (by omega) (by omega) h
  have h208e := fun (d : Nat) (Q : Po) (er ep : Int32) (t : TK) (ht : okTk f L t) (h : ¬ er = nI 0) => s_208e (d := d) (Q := Q) (g := g) (t := t) (er := er) (ep := ep) (sm := sm) (ts := gs) (hs := hs) hM ht h
  have h165 := fun (d : Nat) (Q : Po) (F : Nat → Int32) => n_165 (d := d) (Q := Q) (F := F) hM.1
  have m11 : ¬ (-11 : Int32) = nI 0 := by decide
  have m14 : ¬ (-14 : Int32) = nI 0 := by decide
  have m15 : ¬ (-15 : Int32) = nI 0 := by decide
  have hS := hM.1
  obtain ⟨p1, p2, p3, p4, p5, p6, p7, p8, p9, p10, p11, p12, p13, p14, p15, p16, p17, p18, p19, p20, p21⟩ := hS
  unfold rdMem at hq
  rw [in_213]
  by_cases c1 : nM (mI μ 1302) = 6
  · rw [if_pos c1] at hq
    simp (disch := first | omega | rfl) only [e_213_0, e_213_1, e_213_2, e_213_5, e_213_7, e_213_10, e_213_11, e_213_14, e_213_15, e_213_17, e_213_20, e_213_21, e_213_24, e_213_25, e_213_28, e_213_29, e_213_30, e_213_31, e_213_34, e_213_37, e_213_38, e_213_39, e_213_42, e_213_43, e_213_46, e_213_47, e_213_50, e_213_51, e_213_53, e_213_56, e_213_57, e_213_60, e_213_61, e_213_62, e_213_63, e_213_66, e_213_67, e_213_68, e_213_71, e_213_74, e_213_75, e_213_76, e_213_79, e_213_81, e_213_82, e_213_85, e_213_86, e_213_87, e_213_88, e_213_89, e_213_90, e_213_91, e_213_94, p1, p2, p3, p4, p5, p6, p7, p8, p9, p10, p11, p12, p13, p14, p15, p16, p17, p18, p19, p20, p21, ge1, ule_t, true_or, or_true, nI_add, nI_mul, nI_sub, nI_clamp, nI_lt_t, nI_lt_f, nI_le_t, nI_le_f, nI_eq_t, nI_eq_f, vp_nI, tI, fI, not_true, not_false_iff, true_and, and_true, Classical.not_not, mS_uI, mS_uA, mS_uJ, mS_uR, mS_uX, mR_uI, mR_uA, mR_uJ, mR_uX, mX_uI, mX_uA, mX_uJ, mX_uR, mI_s, mI_n, mI_A, mI_An, mI_uJ, mI_uR, mI_uX, mJ_uI, mJ_uA, mJ_uR, mJ_uX, onR_s, kC_v, kC_n, kC_t, mI_A, mdT_19, h165, o2, c1, h205t, h206e _ _ _ _ _ m15, h208e _ _ _ _ _ ht m15, h205e _ _ _ _ _ _ _ m15, h207e _ _ _ _ _ ht m15, m15]
    exact PoM.err hA hq gs hs
  · rw [if_neg c1] at hq
    unfold rdMem1 at hq
    have s1 := h206 (t := t)
    generalize hT1 : nx f L t = t1 at *
    by_cases c2 : isN t1
    · rw [if_pos c2] at hq
      have h208 := fun (d : Nat) (Q : Po) => s_208t (d := d) (Q := Q) (g := g) (ep := ep) (sm := sm) (ts := gs) (hs := hs) hM k1 c2
      have h209 := fun (d : Nat) (Q : Po) (F : Nat → Int32) => s_209l (d := d) (Q := Q) (F := F) hM.1 o2 n6 k1 c2.1
      by_cases c3 : fnd f (mI μ 1300) (nM (mI μ 1302)) t1 = -1
      · rw [if_pos c3] at hq
        simp only [c3] at h209
        unfold rdMem2 at hq
        have s2 := h206 (t := t1)
        generalize hT2 : nx f L t1 = t2 at *
        by_cases c4 : ckI 1 4 t2 = nI 0
        · rw [if_pos c4] at hq
          have h207 := fun (d : Nat) (Q : Po) => s_207t (d := d) (Q := Q) (lo := 1) (hi := 4) (g := g) (ep := ep) (sm := sm) (ts := gs) (hs := hs) hM k2 (by omega) c4
          have h212 := fun (d : Nat) (Q : Po) (T F : Nat → Int32) => n_212 (d := d) (Q := Q) (T := T) (F := F) (p := t2.2.2.2) (k := 0) hM.1 o2 (by omega)
          simp (disch := first | omega | rfl) only [e_213_0, e_213_1, e_213_2, e_213_5, e_213_7, e_213_10, e_213_11, e_213_14, e_213_15, e_213_17, e_213_20, e_213_21, e_213_24, e_213_25, e_213_28, e_213_29, e_213_30, e_213_31, e_213_34, e_213_37, e_213_38, e_213_39, e_213_42, e_213_43, e_213_46, e_213_47, e_213_50, e_213_51, e_213_53, e_213_56, e_213_57, e_213_60, e_213_61, e_213_62, e_213_63, e_213_66, e_213_67, e_213_68, e_213_71, e_213_74, e_213_75, e_213_76, e_213_79, e_213_81, e_213_82, e_213_85, e_213_86, e_213_87, e_213_88, e_213_89, e_213_90, e_213_91, e_213_94, p1, p2, p3, p4, p5, p6, p7, p8, p9, p10, p11, p12, p13, p14, p15, p16, p17, p18, p19, p20, p21, ge1, ule_t, true_or, or_true, nI_add, nI_mul, nI_sub, nI_clamp, nI_lt_t, nI_lt_f, nI_le_t, nI_le_f, nI_eq_t, nI_eq_f, vp_nI, tI, fI, not_true, not_false_iff, true_and, and_true, Classical.not_not, mS_uI, mS_uA, mS_uJ, mS_uR, mS_uX, mR_uI, mR_uA, mR_uJ, mR_uX, mX_uI, mX_uA, mX_uJ, mX_uR, mI_s, mI_n, mI_A, mI_An, mI_uJ, mI_uR, mI_uX, mJ_uI, mJ_uA, mJ_uR, mJ_uX, onR_s, kC_v, kC_n, kC_t, mI_A, mdT_19, h165, o2, h205n, hT1, hT2, s1 _ _ ht, h208, h209, s2 _ _ k1, h207, uI_20, h212]
          exact hq
        · rw [if_neg c4] at hq
          have h207 := fun (d : Nat) (Q : Po) => s_207f (d := d) (Q := Q) (lo := 1) (hi := 4) (g := g) (ep := ep) (sm := sm) (ts := gs) (hs := hs) hM k2 (by omega) (by omega) c4
          simp (disch := first | omega | rfl) only [e_213_0, e_213_1, e_213_2, e_213_5, e_213_7, e_213_10, e_213_11, e_213_14, e_213_15, e_213_17, e_213_20, e_213_21, e_213_24, e_213_25, e_213_28, e_213_29, e_213_30, e_213_31, e_213_34, e_213_37, e_213_38, e_213_39, e_213_42, e_213_43, e_213_46, e_213_47, e_213_50, e_213_51, e_213_53, e_213_56, e_213_57, e_213_60, e_213_61, e_213_62, e_213_63, e_213_66, e_213_67, e_213_68, e_213_71, e_213_74, e_213_75, e_213_76, e_213_79, e_213_81, e_213_82, e_213_85, e_213_86, e_213_87, e_213_88, e_213_89, e_213_90, e_213_91, e_213_94, p1, p2, p3, p4, p5, p6, p7, p8, p9, p10, p11, p12, p13, p14, p15, p16, p17, p18, p19, p20, p21, ge1, ule_t, true_or, or_true, nI_add, nI_mul, nI_sub, nI_clamp, nI_lt_t, nI_lt_f, nI_le_t, nI_le_f, nI_eq_t, nI_eq_f, vp_nI, tI, fI, not_true, not_false_iff, true_and, and_true, Classical.not_not, mS_uI, mS_uA, mS_uJ, mS_uR, mS_uX, mR_uI, mR_uA, mR_uJ, mR_uX, mX_uI, mX_uA, mX_uJ, mX_uR, mI_s, mI_n, mI_A, mI_An, mI_uJ, mI_uR, mI_uX, mJ_uI, mJ_uA, mJ_uR, mJ_uX, onR_s, kC_v, kC_n, kC_t, mI_A, mdT_19, h165, o2, h205n, hT1, hT2, s1 _ _ ht, h208, h209, s2 _ _ k1, h207, eq_false c4]
          exact PoM.err hA hq gs hs
      · rw [if_neg c3] at hq
        simp (disch := first | omega | rfl) only [e_213_0, e_213_1, e_213_2, e_213_5, e_213_7, e_213_10, e_213_11, e_213_14, e_213_15, e_213_17, e_213_20, e_213_21, e_213_24, e_213_25, e_213_28, e_213_29, e_213_30, e_213_31, e_213_34, e_213_37, e_213_38, e_213_39, e_213_42, e_213_43, e_213_46, e_213_47, e_213_50, e_213_51, e_213_53, e_213_56, e_213_57, e_213_60, e_213_61, e_213_62, e_213_63, e_213_66, e_213_67, e_213_68, e_213_71, e_213_74, e_213_75, e_213_76, e_213_79, e_213_81, e_213_82, e_213_85, e_213_86, e_213_87, e_213_88, e_213_89, e_213_90, e_213_91, e_213_94, p1, p2, p3, p4, p5, p6, p7, p8, p9, p10, p11, p12, p13, p14, p15, p16, p17, p18, p19, p20, p21, ge1, ule_t, true_or, or_true, nI_add, nI_mul, nI_sub, nI_clamp, nI_lt_t, nI_lt_f, nI_le_t, nI_le_f, nI_eq_t, nI_eq_f, vp_nI, tI, fI, not_true, not_false_iff, true_and, and_true, Classical.not_not, mS_uI, mS_uA, mS_uJ, mS_uR, mS_uX, mR_uI, mR_uA, mR_uJ, mR_uX, mX_uI, mX_uA, mX_uJ, mX_uR, mI_s, mI_n, mI_A, mI_An, mI_uJ, mI_uR, mI_uX, mJ_uI, mJ_uA, mJ_uR, mJ_uX, onR_s, kC_v, kC_n, kC_t, mI_A, mdT_19, h165, o2, h205n, hT1, s1 _ _ ht, h208, h209, eq_false c3, h205t, h206e _ _ _ _ _ m14, h207e _ _ _ _ _ k1 m14, m14]
        exact PoM.err hA hq gs hs
    · rw [if_neg c2] at hq
      have h208 := fun (d : Nat) (Q : Po) => s_208f (d := d) (Q := Q) (g := g) (ep := ep) (sm := sm) (ts := gs) (hs := hs) hM k1 c2
      simp (disch := first | omega | rfl) only [e_213_0, e_213_1, e_213_2, e_213_5, e_213_7, e_213_10, e_213_11, e_213_14, e_213_15, e_213_17, e_213_20, e_213_21, e_213_24, e_213_25, e_213_28, e_213_29, e_213_30, e_213_31, e_213_34, e_213_37, e_213_38, e_213_39, e_213_42, e_213_43, e_213_46, e_213_47, e_213_50, e_213_51, e_213_53, e_213_56, e_213_57, e_213_60, e_213_61, e_213_62, e_213_63, e_213_66, e_213_67, e_213_68, e_213_71, e_213_74, e_213_75, e_213_76, e_213_79, e_213_81, e_213_82, e_213_85, e_213_86, e_213_87, e_213_88, e_213_89, e_213_90, e_213_91, e_213_94, p1, p2, p3, p4, p5, p6, p7, p8, p9, p10, p11, p12, p13, p14, p15, p16, p17, p18, p19, p20, p21, ge1, ule_t, true_or, or_true, nI_add, nI_mul, nI_sub, nI_clamp, nI_lt_t, nI_lt_f, nI_le_t, nI_le_f, nI_eq_t, nI_eq_f, vp_nI, tI, fI, not_true, not_false_iff, true_and, and_true, Classical.not_not, mS_uI, mS_uA, mS_uJ, mS_uR, mS_uX, mR_uI, mR_uA, mR_uJ, mR_uX, mX_uI, mX_uA, mX_uJ, mX_uR, mI_s, mI_n, mI_A, mI_An, mI_uJ, mI_uR, mI_uX, mJ_uI, mJ_uA, mJ_uR, mJ_uX, onR_s, kC_v, kC_n, kC_t, mI_A, mdT_19, h165, o2, h205n, hT1, s1 _ _ ht, h208, h206e _ _ _ _ _ m11, h205e _ _ _ _ _ _ _ m11, h207e _ _ _ _ _ k1 m11, m11]
      exact PoM.err hA hq gs hs
theorem m_215 (hM : MdC μ f L) (hA : AL (mI μ 1302) (mI μ 1300)) (ht : okTk f L t) (hq : PoM L g ep sm μ Q (rdSea f L (mI μ 1302) (mI μ 1300) hs gs t)) : Ev (d + 4) 215 [.ref 1298] (uA μ 1298 (mdT g L t (nI 0) ep sm gs hs)) Q := by
  have hO := hA.1
  have o387 := hO.2.2.1
  have oT := hO.2.2.2.1
  have h205n := fun (d : Nat) (Q : Po) (x : Int32) (t : TK) => s_205n (d := d) (Q := Q) (x := x) (g := g) (t := t) (er := nI 0) (ep := ep) (sm := sm) (ts := gs) (hs := hs) hM
  have h205t := fun (d : Nat) (Q : Po) (x : Int32) (t : TK) => s_205t (d := d) (Q := Q) (x := x) (g := g) (t := t) (ep := ep) (sm := sm) (ts := gs) (hs := hs) hM
  have h206e := fun (d : Nat) (Q : Po) (er ep : Int32) (t : TK) (h : ¬ er = nI 0) => s_206e (d := d) (Q := Q) (g := g) (t := t) (er := er) (ep := ep) (sm := sm) (ts := gs) (hs := hs) hM h
  have m15 : ¬ (-15 : Int32) = nI 0 := by decide
  have hS := hM.1
  have hS0 := hS
  obtain ⟨p1, p2, p3, p4, p5, p6, p7, p8, p9, p10, p11, p12, p13, p14, p15, p16, p17, p18, p19, p20, p21⟩ := hS
  unfold rdSea at hq
  rw [in_215]
  by_cases c1 : nT (mI μ 1302) = 40
  · rw [if_pos c1] at hq
    simp (disch := first | omega | rfl) only [e_215_0, e_215_1, e_215_2, e_215_5, e_215_8, e_215_9, e_215_11, e_215_14, e_215_15, e_215_18, e_215_19, e_215_21, e_215_24, e_215_25, e_215_28, e_215_31, e_215_32, e_215_35, e_215_36, e_215_39, p1, p2, p3, p4, p5, p6, p7, p8, p9, p10, p11, p12, p13, p14, p15, p16, p17, p18, p19, p20, p21, ge1, ule_t, true_or, or_true, nI_add, nI_mul, nI_sub, nI_clamp, nI_lt_t, nI_lt_f, nI_le_t, nI_le_f, nI_eq_t, nI_eq_f, vp_nI, tI, fI, not_true, not_false_iff, true_and, and_true, Classical.not_not, mS_uI, mS_uA, mS_uJ, mS_uR, mS_uX, mR_uI, mR_uA, mR_uJ, mR_uX, mX_uI, mX_uA, mX_uJ, mX_uR, mI_s, mI_n, mI_A, mI_An, mI_uJ, mI_uR, mI_uX, mJ_uI, mJ_uA, mJ_uR, mJ_uX, onR_s, kC_v, kC_n, kC_t, mI_An, mI_A, mdT_19, o387, c1, h205t, h206e _ _ _ _ _ m15, m15]
    exact PoM.err hA hq gs hs
  · rw [if_neg c1] at hq
    have h198 := fun (d : Nat) (Q : Po) (F : Nat → Int32) => n_198 (d := d) (Q := Q) (F := F) hS0 hO (by omega)
    have hM2 : MdC (uA μ 1302 (rSeal (mI μ 1302))) f L := ⟨hM.1, fun k hk => by rw [mI_An (by omega)]; exact hM.2.1 k hk, hM.2.2⟩
    have h206 := fun (d : Nat) (Q : Po) => s_206 (d := d) (Q := Q) (t := t) (g := g) (ep := ep) (sm := sm) (ts := gs) (hs := hs) hM2 ht
    simp (disch := first | omega | rfl) only [e_215_0, e_215_1, e_215_2, e_215_5, e_215_8, e_215_9, e_215_11, e_215_14, e_215_15, e_215_18, e_215_19, e_215_21, e_215_24, e_215_25, e_215_28, e_215_31, e_215_32, e_215_35, e_215_36, e_215_39, p1, p2, p3, p4, p5, p6, p7, p8, p9, p10, p11, p12, p13, p14, p15, p16, p17, p18, p19, p20, p21, ge1, ule_t, true_or, or_true, nI_add, nI_mul, nI_sub, nI_clamp, nI_lt_t, nI_lt_f, nI_le_t, nI_le_f, nI_eq_t, nI_eq_f, vp_nI, tI, fI, not_true, not_false_iff, true_and, and_true, Classical.not_not, mS_uI, mS_uA, mS_uJ, mS_uR, mS_uX, mR_uI, mR_uA, mR_uJ, mR_uX, mX_uI, mX_uA, mX_uJ, mX_uR, mI_s, mI_n, mI_A, mI_An, mI_uJ, mI_uR, mI_uX, mJ_uI, mJ_uA, mJ_uR, mJ_uX, onR_s, kC_v, kC_n, kC_t, mI_An, mI_A, mdT_19, o387, h205n, h198, h206]
    have hq2 : Q (some none) (uA (uA (uA μ 1302 (rSeal (mI μ 1302))) 1300 (mI μ 1300)) 1298 (mdT g L (nx f L t) (nI 0) ep sm gs hs)) := hq
    rw [keepT] at hq2
    exact hq2
theorem m_214 (hM : MdC μ f L) (hX : TxC μ) (hA : AL (mI μ 1302) (mI μ 1300)) (ht : okTk f L t) (hq : PoM L g ep sm μ Q (rdCom f L (mI μ 1302) (mI μ 1300) hs gs t)) : Ev (d + 6) 214 [.ref 1298] (uA μ 1298 (mdT g L t (nI 0) ep sm gs hs)) Q := by
  have hO := hA.1
  have o2 := hO.1
  have n6 := hO.2.1
  have o1708 := hO.2.2.2.2.1
  have oO := hO.2.2.2.2.2.1
  have k1 := (ok_nx ht).1
  have k2 := (ok_nx k1).1
  have k3 := (ok_nx k2).1
  have k4 := (ok_nx k3).1
  have h205n := fun (d : Nat) (Q : Po) (x : Int32) (t : TK) => s_205n (d := d) (Q := Q) (x := x) (g := g) (t := t) (er := nI 0) (ep := ep) (sm := sm) (ts := gs) (hs := hs) hM
  have h205t := fun (d : Nat) (Q : Po) (x : Int32) (t : TK) => s_205t (d := d) (Q := Q) (x := x) (g := g) (t := t) (ep := ep) (sm := sm) (ts := gs) (hs := hs) hM
  have h206 := fun (d : Nat) (Q : Po) (t : TK) => s_206 (d := d) (Q := Q) (t := t) (g := g) (ep := ep) (sm := sm) (ts := gs) (hs := hs) hM
  have h205e := fun (d : Nat) (Q : Po) (x y er ep : Int32) (t : TK) (h : ¬ er = nI 0) => s_205e (d := d) (Q := Q) (x := x) (y := y) (g := g) (t := t) (er := er) (ep := ep) (sm := sm) (ts := gs) (hs := hs) hM h
  have h206e := fun (d : Nat) (Q : Po) (er ep : Int32) (t : TK) (h : ¬ er = nI 0) => s_206e (d := d) (Q := Q) (g := g) (t := t) (er := er) (ep := ep) (sm := sm) (ts := gs) (hs := hs) hM h
  have h207e := fun (d : Nat) (Q : Po) (hi : Nat) (er ep : Int32) (t : TK) (ht : okTk f L t) (h : ¬ er = nI 0) (h9 : hi ≤ 9999) => s_207e (d := d) (Q := Q) (lo := 0) (hi := hi) (g := g) (t := t) (er := er) (ep := ep) (sm := sm) (ts := gs) (hs := hs) hM ht (by omega) h9 h
  have h210e := fun (d : Nat) (Q : Po) (er ep : Int32) (t : TK) (ht : okTk f L t) (h : ¬ er = nI 0) => s_210e (d := d) (Q := Q) (g := g) (t := t) (er := er) (ep := ep) (sm := sm) (ts := gs) (hs := hs) hM ht h
  have h204 := fun (d : Nat) (Q : Po) (er ep : Int32) (t : TK) (ht : okTk f L t) => s_204 (d := d) (Q := Q) (i := 19) (g := g) (t := t) (er := er) (ep := ep) (sm := sm) (ts := gs) (hs := hs) hM hX (by omega) (by omega) ht Sort6 row_19
  have m11 : ¬ (-11 : Int32) = nI 0 := by decide
  have m15 : ¬ (-15 : Int32) = nI 0 := by decide
  have hS := hM.1
  have hS0 := hS
  obtain ⟨p1, p2, p3, p4, p5, p6, p7, p8, p9, p10, p11, p12, p13, p14, p15, p16, p17, p18, p19, p20, p21⟩ := hS
  have tail : ∀ (er : Int32) (l1 : Int32) (t : TK), okTk f L t → ¬ er = nI 0 → PoM L g ep sm μ Q (.inl (er, t.2)) → EM 214 (d + 5) 33 [some (.ref 1298), some (.int l1), none, none, none] [] (uA μ 1298 (mdT g L t er (nI t.2.1) sm gs hs)) (0, 0) Q := by
    intro er l1 t ht hne hq
    have hw := h204 (t := t) (ht := ht)
    generalize wIx f t Sort6 0 = x at *
    by_cases c : nI 1 < x
    · by_cases c9 : x = -1
      · simp (disch := first | omega | rfl) only [e_214_0, e_214_1, e_214_2, e_214_5, e_214_8, e_214_9, e_214_11, e_214_14, e_214_15, e_214_18, e_214_19, e_214_21, e_214_24, e_214_25, e_214_28, e_214_29, e_214_32, e_214_33, e_214_34, e_214_36, e_214_39, e_214_40, e_214_41, e_214_42, e_214_43, e_214_46, e_214_47, e_214_50, e_214_51, e_214_53, e_214_56, e_214_57, e_214_60, e_214_61, e_214_62, e_214_64, e_214_67, e_214_68, e_214_69, e_214_70, e_214_71, e_214_72, e_214_75, e_214_78, e_214_81, e_214_83, e_214_86, e_214_88, e_214_89, e_214_92, e_214_95, e_214_96, e_214_97, e_214_98, e_214_99, e_214_101, e_214_104, p1, p2, p3, p4, p5, p6, p7, p8, p9, p10, p11, p12, p13, p14, p15, p16, p17, p18, p19, p20, p21, ge1, ule_t, true_or, or_true, nI_add, nI_mul, nI_sub, nI_clamp, nI_lt_t, nI_lt_f, nI_le_t, nI_le_f, nI_eq_t, nI_eq_f, vp_nI, tI, fI, not_true, not_false_iff, true_and, and_true, Classical.not_not, mS_uI, mS_uA, mS_uJ, mS_uR, mS_uX, mR_uI, mR_uA, mR_uJ, mR_uX, mX_uI, mX_uA, mX_uJ, mX_uR, mI_s, mI_n, mI_A, mI_An, mI_uJ, mI_uR, mI_uX, mJ_uI, mJ_uA, mJ_uR, mJ_uX, onR_s, kC_v, kC_n, kC_t, mI_A, mdT_19, hw, c9, h205e _ _ _ _ _ _ _ hne, h206e _ _ _ _ _ hne, h207e _ _ _ _ _ _ ht hne, hne]
        rw [c9] at c
        exact absurd c (by decide)
      · simp (disch := first | omega | rfl) only [e_214_0, e_214_1, e_214_2, e_214_5, e_214_8, e_214_9, e_214_11, e_214_14, e_214_15, e_214_18, e_214_19, e_214_21, e_214_24, e_214_25, e_214_28, e_214_29, e_214_32, e_214_33, e_214_34, e_214_36, e_214_39, e_214_40, e_214_41, e_214_42, e_214_43, e_214_46, e_214_47, e_214_50, e_214_51, e_214_53, e_214_56, e_214_57, e_214_60, e_214_61, e_214_62, e_214_64, e_214_67, e_214_68, e_214_69, e_214_70, e_214_71, e_214_72, e_214_75, e_214_78, e_214_81, e_214_83, e_214_86, e_214_88, e_214_89, e_214_92, e_214_95, e_214_96, e_214_97, e_214_98, e_214_99, e_214_101, e_214_104, p1, p2, p3, p4, p5, p6, p7, p8, p9, p10, p11, p12, p13, p14, p15, p16, p17, p18, p19, p20, p21, ge1, ule_t, true_or, or_true, nI_add, nI_mul, nI_sub, nI_clamp, nI_lt_t, nI_lt_f, nI_le_t, nI_le_f, nI_eq_t, nI_eq_f, vp_nI, tI, fI, not_true, not_false_iff, true_and, and_true, Classical.not_not, mS_uI, mS_uA, mS_uJ, mS_uR, mS_uX, mR_uI, mR_uA, mR_uJ, mR_uX, mX_uI, mX_uA, mX_uJ, mX_uR, mI_s, mI_n, mI_A, mI_An, mI_uJ, mI_uR, mI_uX, mJ_uI, mJ_uA, mJ_uR, mJ_uX, onR_s, kC_v, kC_n, kC_t, mI_A, mdT_19, hw, eq_false c9, c, h205e _ _ _ _ _ _ _ hne, h206e _ _ _ _ _ hne, h207e _ _ _ _ _ _ ht hne, hne]
        exact PoM.err hA hq gs hs
    · by_cases c9 : x = -1
      · have cc : ¬ nI 1 < (-1 : Int32) := by decide
        simp (disch := first | omega | rfl) only [e_214_0, e_214_1, e_214_2, e_214_5, e_214_8, e_214_9, e_214_11, e_214_14, e_214_15, e_214_18, e_214_19, e_214_21, e_214_24, e_214_25, e_214_28, e_214_29, e_214_32, e_214_33, e_214_34, e_214_36, e_214_39, e_214_40, e_214_41, e_214_42, e_214_43, e_214_46, e_214_47, e_214_50, e_214_51, e_214_53, e_214_56, e_214_57, e_214_60, e_214_61, e_214_62, e_214_64, e_214_67, e_214_68, e_214_69, e_214_70, e_214_71, e_214_72, e_214_75, e_214_78, e_214_81, e_214_83, e_214_86, e_214_88, e_214_89, e_214_92, e_214_95, e_214_96, e_214_97, e_214_98, e_214_99, e_214_101, e_214_104, p1, p2, p3, p4, p5, p6, p7, p8, p9, p10, p11, p12, p13, p14, p15, p16, p17, p18, p19, p20, p21, ge1, ule_t, true_or, or_true, nI_add, nI_mul, nI_sub, nI_clamp, nI_lt_t, nI_lt_f, nI_le_t, nI_le_f, nI_eq_t, nI_eq_f, vp_nI, tI, fI, not_true, not_false_iff, true_and, and_true, Classical.not_not, mS_uI, mS_uA, mS_uJ, mS_uR, mS_uX, mR_uI, mR_uA, mR_uJ, mR_uX, mX_uI, mX_uA, mX_uJ, mX_uR, mI_s, mI_n, mI_A, mI_An, mI_uJ, mI_uR, mI_uX, mJ_uI, mJ_uA, mJ_uR, mJ_uX, onR_s, kC_v, kC_n, kC_t, mI_A, mdT_19, hw, c9, cc, h205e _ _ _ _ _ _ _ hne, h206e _ _ _ _ _ hne, h207e _ _ _ _ _ _ ht hne, hne]
        exact PoM.err hA hq gs hs
      · simp (disch := first | omega | rfl) only [e_214_0, e_214_1, e_214_2, e_214_5, e_214_8, e_214_9, e_214_11, e_214_14, e_214_15, e_214_18, e_214_19, e_214_21, e_214_24, e_214_25, e_214_28, e_214_29, e_214_32, e_214_33, e_214_34, e_214_36, e_214_39, e_214_40, e_214_41, e_214_42, e_214_43, e_214_46, e_214_47, e_214_50, e_214_51, e_214_53, e_214_56, e_214_57, e_214_60, e_214_61, e_214_62, e_214_64, e_214_67, e_214_68, e_214_69, e_214_70, e_214_71, e_214_72, e_214_75, e_214_78, e_214_81, e_214_83, e_214_86, e_214_88, e_214_89, e_214_92, e_214_95, e_214_96, e_214_97, e_214_98, e_214_99, e_214_101, e_214_104, p1, p2, p3, p4, p5, p6, p7, p8, p9, p10, p11, p12, p13, p14, p15, p16, p17, p18, p19, p20, p21, ge1, ule_t, true_or, or_true, nI_add, nI_mul, nI_sub, nI_clamp, nI_lt_t, nI_lt_f, nI_le_t, nI_le_f, nI_eq_t, nI_eq_f, vp_nI, tI, fI, not_true, not_false_iff, true_and, and_true, Classical.not_not, mS_uI, mS_uA, mS_uJ, mS_uR, mS_uX, mR_uI, mR_uA, mR_uJ, mR_uX, mX_uI, mX_uA, mX_uJ, mX_uR, mI_s, mI_n, mI_A, mI_An, mI_uJ, mI_uR, mI_uX, mJ_uI, mJ_uA, mJ_uR, mJ_uX, onR_s, kC_v, kC_n, kC_t, mI_A, mdT_19, hw, eq_false c9, c, h205e _ _ _ _ _ _ _ hne, h206e _ _ _ _ _ hne, h207e _ _ _ _ _ _ ht hne, hne]
        exact PoM.err hA hq gs hs
  unfold rdCom at hq
  rw [in_214]
  by_cases c1 : nO (mI μ 1302) = 8
  · rw [if_pos c1] at hq
    simp (disch := first | omega | rfl) only [e_214_0, e_214_1, e_214_2, e_214_5, e_214_8, e_214_9, e_214_11, e_214_14, e_214_15, e_214_18, e_214_19, e_214_21, e_214_24, e_214_25, e_214_28, e_214_29, e_214_32, e_214_34, e_214_36, e_214_39, e_214_40, e_214_41, e_214_42, e_214_43, e_214_46, e_214_47, e_214_50, e_214_51, e_214_53, e_214_56, e_214_57, e_214_60, e_214_61, e_214_62, e_214_64, e_214_67, e_214_68, e_214_69, e_214_70, e_214_71, e_214_72, e_214_75, e_214_78, e_214_81, e_214_83, e_214_86, e_214_88, e_214_89, e_214_92, e_214_95, e_214_96, e_214_97, e_214_98, e_214_99, e_214_101, e_214_104, p1, p2, p3, p4, p5, p6, p7, p8, p9, p10, p11, p12, p13, p14, p15, p16, p17, p18, p19, p20, p21, ge1, ule_t, true_or, or_true, nI_add, nI_mul, nI_sub, nI_clamp, nI_lt_t, nI_lt_f, nI_le_t, nI_le_f, nI_eq_t, nI_eq_f, vp_nI, tI, fI, not_true, not_false_iff, true_and, and_true, Classical.not_not, mS_uI, mS_uA, mS_uJ, mS_uR, mS_uX, mR_uI, mR_uA, mR_uJ, mR_uX, mX_uI, mX_uA, mX_uJ, mX_uR, mI_s, mI_n, mI_A, mI_An, mI_uJ, mI_uR, mI_uX, mJ_uI, mJ_uA, mJ_uR, mJ_uX, onR_s, kC_v, kC_n, kC_t, mI_An, mI_A, mdT_19, o1708, c1, h205t, h206e _ _ _ _ _ m15, h210e _ _ _ _ _ ht m15, m15]
    exact tail _ _ _ ht m15 hq
  · rw [if_neg c1] at hq
    unfold rdCom1 at hq
    have s1 := h206 (t := t)
    generalize hT1 : nx f L t = t1 at *
    by_cases c2 : ckM f (mI μ 1300) (nM (mI μ 1302)) t1 = nI 0
    · rw [if_pos c2] at hq
      have h210 := fun (d : Nat) (Q : Po) => s_210t (d := d) (Q := Q) (g := g) (ep := ep) (sm := sm) (ts := gs) (hs := hs) hM o2 n6 k1 c2
      obtain ⟨m, m1, m2⟩ := fnd_c (ckM_t.mp c2).2
      rw [m2] at h210 hq
      rw [nI_clamp (by omega)] at hq
      unfold rdCom2 at hq
      generalize hT2 : nx f L t1 = t2 at *
      have hw := h204 (t := t2) (ht := k2)
      by_cases c3 : wIx f t2 Sort6 0 = -1
      · rw [if_pos c3] at hq
        simp only [c3] at hw
        have cc : ¬ nI 1 < (-1 : Int32) := by decide
        simp (disch := first | omega | rfl) only [e_214_0, e_214_1, e_214_2, e_214_5, e_214_8, e_214_9, e_214_11, e_214_14, e_214_15, e_214_18, e_214_19, e_214_21, e_214_24, e_214_25, e_214_28, e_214_29, e_214_32, e_214_33, e_214_34, e_214_36, e_214_39, e_214_40, e_214_41, e_214_42, e_214_43, e_214_46, e_214_47, e_214_50, e_214_51, e_214_53, e_214_56, e_214_57, e_214_60, e_214_61, e_214_62, e_214_64, e_214_67, e_214_68, e_214_69, e_214_70, e_214_71, e_214_72, e_214_75, e_214_78, e_214_81, e_214_83, e_214_86, e_214_88, e_214_89, e_214_92, e_214_95, e_214_96, e_214_97, e_214_98, e_214_99, e_214_101, e_214_104, p1, p2, p3, p4, p5, p6, p7, p8, p9, p10, p11, p12, p13, p14, p15, p16, p17, p18, p19, p20, p21, ge1, ule_t, true_or, or_true, nI_add, nI_mul, nI_sub, nI_clamp, nI_lt_t, nI_lt_f, nI_le_t, nI_le_f, nI_eq_t, nI_eq_f, vp_nI, tI, fI, not_true, not_false_iff, true_and, and_true, Classical.not_not, mS_uI, mS_uA, mS_uJ, mS_uR, mS_uX, mR_uI, mR_uA, mR_uJ, mR_uX, mX_uI, mX_uA, mX_uJ, mX_uR, mI_s, mI_n, mI_A, mI_An, mI_uJ, mI_uR, mI_uX, mJ_uI, mJ_uA, mJ_uR, mJ_uX, onR_s, kC_v, kC_n, kC_t, mI_An, mI_A, mdT_19, o1708, hT1, hT2, h205n, s1 _ _ ht, h210, hw, h205t, cc, h206e _ _ _ _ _ m11, h207e _ _ _ _ _ _ k2 m11, m11]
        exact PoM.err hA hq gs hs
      · rw [if_neg c3] at hq
        obtain ⟨σ, σ1, σ2⟩ := wIx_6 c3
        rw [σ2] at hq
        rw [nI_clamp (by omega)] at hq
        simp only [σ2] at hw
        have hσ1 : (nI σ = -1) = False := nI_m1 (by omega)
        have hg := gOp_le σ
        unfold rdCom3 at hq
        have s2 := h206 (t := t2)
        generalize hT3 : nx f L t2 = t3 at *
        by_cases c4 : ckI 0 15 t3 = nI 0
        · rw [if_pos c4] at hq
          have h207 := fun (d : Nat) (Q : Po) => s_207t (d := d) (Q := Q) (lo := 0) (hi := 15) (g := g) (ep := ep) (sm := sm) (ts := gs) (hs := hs) hM k3 (by omega) c4
          unfold rdCom4 at hq
          generalize hT4 : nx f L t3 = t4 at *
          have fin : ∀ h, h = gOp σ - 1 → EM 214 (d + 5) 83 [some (.ref 1298), some (.int (nI m)), some (.int (nI σ)), some (.int (nI t3.2.2.2)), none] [.int (nI h), .int (nI 0), .ref 1298] (uA μ 1298 (mdT g L t4 (nI 0) ep sm gs hs)) (0, 0) Q := by
            intro h hh
            subst hh
            by_cases c5 : ckI 0 (gOp σ - 1) t4 = nI 0
            · rw [if_pos c5] at hq
              have h207b := fun (d : Nat) (Q : Po) => s_207t (d := d) (Q := Q) (lo := 0) (hi := gOp σ - 1) (g := g) (ep := ep) (sm := sm) (ts := gs) (hs := hs) hM k4 (by omega) c5
              have h197 := fun (d : Nat) (Q : Po) (F : Nat → Int32) => n_197 (d := d) (Q := Q) (F := F) (m := m) (σ := σ) (i := t3.2.2.2) (k := t4.2.2.2) hS0 o1708 (by omega)
              simp (disch := first | omega | rfl) only [e_214_0, e_214_1, e_214_2, e_214_5, e_214_8, e_214_9, e_214_11, e_214_14, e_214_15, e_214_18, e_214_19, e_214_21, e_214_24, e_214_25, e_214_28, e_214_29, e_214_32, e_214_33, e_214_34, e_214_36, e_214_39, e_214_40, e_214_41, e_214_42, e_214_43, e_214_46, e_214_47, e_214_50, e_214_51, e_214_53, e_214_56, e_214_57, e_214_60, e_214_61, e_214_62, e_214_64, e_214_67, e_214_68, e_214_69, e_214_70, e_214_71, e_214_72, e_214_75, e_214_78, e_214_81, e_214_83, e_214_86, e_214_88, e_214_89, e_214_92, e_214_95, e_214_96, e_214_97, e_214_98, e_214_99, e_214_101, e_214_104, p1, p2, p3, p4, p5, p6, p7, p8, p9, p10, p11, p12, p13, p14, p15, p16, p17, p18, p19, p20, p21, ge1, ule_t, true_or, or_true, nI_add, nI_mul, nI_sub, nI_clamp, nI_lt_t, nI_lt_f, nI_le_t, nI_le_f, nI_eq_t, nI_eq_f, vp_nI, tI, fI, not_true, not_false_iff, true_and, and_true, Classical.not_not, mS_uI, mS_uA, mS_uJ, mS_uR, mS_uX, mR_uI, mR_uA, mR_uJ, mR_uX, mX_uI, mX_uA, mX_uJ, mX_uR, mI_s, mI_n, mI_A, mI_An, mI_uJ, mI_uR, mI_uX, mJ_uI, mJ_uA, mJ_uR, mJ_uX, onR_s, kC_v, kC_n, kC_t, mI_A, mdT_19, h207b, h197]
              have hq2 : Q (some none) (uA (uA (uA μ 1302 (rGive (mI μ 1302) m σ t3.2.2.2 t4.2.2.2)) 1300 (mI μ 1300)) 1298 (mdT g L (nx f L t4) (nI 0) ep sm gs hs)) := hq
              rw [keepT] at hq2
              exact hq2
            · rw [if_neg c5] at hq
              have h207b := fun (d : Nat) (Q : Po) => s_207f (d := d) (Q := Q) (lo := 0) (hi := gOp σ - 1) (g := g) (ep := ep) (sm := sm) (ts := gs) (hs := hs) hM k4 (by omega) (by omega) c5
              simp (disch := first | omega | rfl) only [e_214_0, e_214_1, e_214_2, e_214_5, e_214_8, e_214_9, e_214_11, e_214_14, e_214_15, e_214_18, e_214_19, e_214_21, e_214_24, e_214_25, e_214_28, e_214_29, e_214_32, e_214_33, e_214_34, e_214_36, e_214_39, e_214_40, e_214_41, e_214_42, e_214_43, e_214_46, e_214_47, e_214_50, e_214_51, e_214_53, e_214_56, e_214_57, e_214_60, e_214_61, e_214_62, e_214_64, e_214_67, e_214_68, e_214_69, e_214_70, e_214_71, e_214_72, e_214_75, e_214_78, e_214_81, e_214_83, e_214_86, e_214_88, e_214_89, e_214_92, e_214_95, e_214_96, e_214_97, e_214_98, e_214_99, e_214_101, e_214_104, p1, p2, p3, p4, p5, p6, p7, p8, p9, p10, p11, p12, p13, p14, p15, p16, p17, p18, p19, p20, p21, ge1, ule_t, true_or, or_true, nI_add, nI_mul, nI_sub, nI_clamp, nI_lt_t, nI_lt_f, nI_le_t, nI_le_f, nI_eq_t, nI_eq_f, vp_nI, tI, fI, not_true, not_false_iff, true_and, and_true, Classical.not_not, mS_uI, mS_uA, mS_uJ, mS_uR, mS_uX, mR_uI, mR_uA, mR_uJ, mR_uX, mX_uI, mX_uA, mX_uJ, mX_uR, mI_s, mI_n, mI_A, mI_An, mI_uJ, mI_uR, mI_uX, mJ_uI, mJ_uA, mJ_uR, mJ_uX, onR_s, kC_v, kC_n, kC_t, mI_A, mdT_19, h207b, eq_false c5]
              exact PoM.err hA hq gs hs
          by_cases c9 : σ ≤ 1
          · have fin2 := fin 9999 (by unfold gOp; rw [if_pos c9])
            simp (disch := first | omega | rfl) only [e_214_0, e_214_1, e_214_2, e_214_5, e_214_8, e_214_9, e_214_11, e_214_14, e_214_15, e_214_18, e_214_19, e_214_21, e_214_24, e_214_25, e_214_28, e_214_29, e_214_32, e_214_33, e_214_34, e_214_36, e_214_39, e_214_40, e_214_41, e_214_42, e_214_43, e_214_46, e_214_47, e_214_50, e_214_51, e_214_53, e_214_56, e_214_57, e_214_60, e_214_61, e_214_62, e_214_64, e_214_67, e_214_68, e_214_69, e_214_70, e_214_71, e_214_72, e_214_75, e_214_78, e_214_81, e_214_86, e_214_88, e_214_89, e_214_92, e_214_95, e_214_96, e_214_97, e_214_98, e_214_99, e_214_101, e_214_104, p1, p2, p3, p4, p5, p6, p7, p8, p9, p10, p11, p12, p13, p14, p15, p16, p17, p18, p19, p20, p21, ge1, ule_t, true_or, or_true, nI_add, nI_mul, nI_sub, nI_clamp, nI_lt_t, nI_lt_f, nI_le_t, nI_le_f, nI_eq_t, nI_eq_f, vp_nI, tI, fI, not_true, not_false_iff, true_and, and_true, Classical.not_not, mS_uI, mS_uA, mS_uJ, mS_uR, mS_uX, mR_uI, mR_uA, mR_uJ, mR_uX, mX_uI, mX_uA, mX_uJ, mX_uR, mI_s, mI_n, mI_A, mI_An, mI_uJ, mI_uR, mI_uX, mJ_uI, mJ_uA, mJ_uR, mJ_uX, onR_s, kC_v, kC_n, kC_t, mI_An, mI_A, mdT_19, o1708, hT1, hT2, hT3, hT4, h205n, s1 _ _ ht, h210, hw, hσ1, s2 _ _ k2, h207]
            exact fin2
          · have fin2 := fin 15 (by unfold gOp; rw [if_neg c9])
            simp (disch := first | omega | rfl) only [e_214_0, e_214_1, e_214_2, e_214_5, e_214_8, e_214_9, e_214_11, e_214_14, e_214_15, e_214_18, e_214_19, e_214_21, e_214_24, e_214_25, e_214_28, e_214_29, e_214_32, e_214_33, e_214_34, e_214_36, e_214_39, e_214_40, e_214_41, e_214_42, e_214_43, e_214_46, e_214_47, e_214_50, e_214_51, e_214_53, e_214_56, e_214_57, e_214_60, e_214_61, e_214_62, e_214_64, e_214_67, e_214_68, e_214_69, e_214_70, e_214_71, e_214_72, e_214_75, e_214_78, e_214_81, e_214_86, e_214_88, e_214_89, e_214_92, e_214_95, e_214_96, e_214_97, e_214_98, e_214_99, e_214_101, e_214_104, p1, p2, p3, p4, p5, p6, p7, p8, p9, p10, p11, p12, p13, p14, p15, p16, p17, p18, p19, p20, p21, ge1, ule_t, true_or, or_true, nI_add, nI_mul, nI_sub, nI_clamp, nI_lt_t, nI_lt_f, nI_le_t, nI_le_f, nI_eq_t, nI_eq_f, vp_nI, tI, fI, not_true, not_false_iff, true_and, and_true, Classical.not_not, mS_uI, mS_uA, mS_uJ, mS_uR, mS_uX, mR_uI, mR_uA, mR_uJ, mR_uX, mX_uI, mX_uA, mX_uJ, mX_uR, mI_s, mI_n, mI_A, mI_An, mI_uJ, mI_uR, mI_uX, mJ_uI, mJ_uA, mJ_uR, mJ_uX, onR_s, kC_v, kC_n, kC_t, mI_An, mI_A, mdT_19, o1708, hT1, hT2, hT3, hT4, h205n, s1 _ _ ht, h210, hw, hσ1, s2 _ _ k2, h207]
            exact fin2
        · rw [if_neg c4] at hq
          have h207 := fun (d : Nat) (Q : Po) => s_207f (d := d) (Q := Q) (lo := 0) (hi := 15) (g := g) (ep := ep) (sm := sm) (ts := gs) (hs := hs) hM k3 (by omega) (by omega) c4
          by_cases c9 : σ ≤ 1
          · simp (disch := first | omega | rfl) only [e_214_0, e_214_1, e_214_2, e_214_5, e_214_8, e_214_9, e_214_11, e_214_14, e_214_15, e_214_18, e_214_19, e_214_21, e_214_24, e_214_25, e_214_28, e_214_29, e_214_32, e_214_33, e_214_34, e_214_36, e_214_39, e_214_40, e_214_41, e_214_42, e_214_43, e_214_46, e_214_47, e_214_50, e_214_51, e_214_53, e_214_56, e_214_57, e_214_60, e_214_61, e_214_62, e_214_64, e_214_67, e_214_68, e_214_69, e_214_70, e_214_71, e_214_72, e_214_75, e_214_78, e_214_81, e_214_83, e_214_86, e_214_88, e_214_89, e_214_92, e_214_95, e_214_96, e_214_97, e_214_98, e_214_99, e_214_101, e_214_104, p1, p2, p3, p4, p5, p6, p7, p8, p9, p10, p11, p12, p13, p14, p15, p16, p17, p18, p19, p20, p21, ge1, ule_t, true_or, or_true, nI_add, nI_mul, nI_sub, nI_clamp, nI_lt_t, nI_lt_f, nI_le_t, nI_le_f, nI_eq_t, nI_eq_f, vp_nI, tI, fI, not_true, not_false_iff, true_and, and_true, Classical.not_not, mS_uI, mS_uA, mS_uJ, mS_uR, mS_uX, mR_uI, mR_uA, mR_uJ, mR_uX, mX_uI, mX_uA, mX_uJ, mX_uR, mI_s, mI_n, mI_A, mI_An, mI_uJ, mI_uR, mI_uX, mJ_uI, mJ_uA, mJ_uR, mJ_uX, onR_s, kC_v, kC_n, kC_t, mI_An, mI_A, mdT_19, o1708, hT1, hT2, hT3, h205n, s1 _ _ ht, h210, hw, hσ1, s2 _ _ k2, h207, h207e _ _ _ _ _ _ k3 c4, eq_false c4]
            exact PoM.err hA hq gs hs
          · simp (disch := first | omega | rfl) only [e_214_0, e_214_1, e_214_2, e_214_5, e_214_8, e_214_9, e_214_11, e_214_14, e_214_15, e_214_18, e_214_19, e_214_21, e_214_24, e_214_25, e_214_28, e_214_29, e_214_32, e_214_33, e_214_34, e_214_36, e_214_39, e_214_40, e_214_41, e_214_42, e_214_43, e_214_46, e_214_47, e_214_50, e_214_51, e_214_53, e_214_56, e_214_57, e_214_60, e_214_61, e_214_62, e_214_64, e_214_67, e_214_68, e_214_69, e_214_70, e_214_71, e_214_72, e_214_75, e_214_78, e_214_81, e_214_83, e_214_86, e_214_88, e_214_89, e_214_92, e_214_95, e_214_96, e_214_97, e_214_98, e_214_99, e_214_101, e_214_104, p1, p2, p3, p4, p5, p6, p7, p8, p9, p10, p11, p12, p13, p14, p15, p16, p17, p18, p19, p20, p21, ge1, ule_t, true_or, or_true, nI_add, nI_mul, nI_sub, nI_clamp, nI_lt_t, nI_lt_f, nI_le_t, nI_le_f, nI_eq_t, nI_eq_f, vp_nI, tI, fI, not_true, not_false_iff, true_and, and_true, Classical.not_not, mS_uI, mS_uA, mS_uJ, mS_uR, mS_uX, mR_uI, mR_uA, mR_uJ, mR_uX, mX_uI, mX_uA, mX_uJ, mX_uR, mI_s, mI_n, mI_A, mI_An, mI_uJ, mI_uR, mI_uX, mJ_uI, mJ_uA, mJ_uR, mJ_uX, onR_s, kC_v, kC_n, kC_t, mI_An, mI_A, mdT_19, o1708, hT1, hT2, hT3, h205n, s1 _ _ ht, h210, hw, hσ1, s2 _ _ k2, h207, h207e _ _ _ _ _ _ k3 c4, eq_false c4]
            exact PoM.err hA hq gs hs
    · rw [if_neg c2] at hq
      have h210 := fun (d : Nat) (Q : Po) => s_210f (d := d) (Q := Q) (g := g) (ep := ep) (sm := sm) (ts := gs) (hs := hs) hM o2 n6 k1 c2
      simp (disch := first | omega | rfl) only [e_214_0, e_214_1, e_214_2, e_214_5, e_214_8, e_214_9, e_214_11, e_214_14, e_214_15, e_214_18, e_214_19, e_214_21, e_214_24, e_214_25, e_214_28, e_214_29, e_214_32, e_214_34, e_214_36, e_214_39, e_214_40, e_214_41, e_214_42, e_214_43, e_214_46, e_214_47, e_214_50, e_214_51, e_214_53, e_214_56, e_214_57, e_214_60, e_214_61, e_214_62, e_214_64, e_214_67, e_214_68, e_214_69, e_214_70, e_214_71, e_214_72, e_214_75, e_214_78, e_214_81, e_214_83, e_214_86, e_214_88, e_214_89, e_214_92, e_214_95, e_214_96, e_214_97, e_214_98, e_214_99, e_214_101, e_214_104, p1, p2, p3, p4, p5, p6, p7, p8, p9, p10, p11, p12, p13, p14, p15, p16, p17, p18, p19, p20, p21, ge1, ule_t, true_or, or_true, nI_add, nI_mul, nI_sub, nI_clamp, nI_lt_t, nI_lt_f, nI_le_t, nI_le_f, nI_eq_t, nI_eq_f, vp_nI, tI, fI, not_true, not_false_iff, true_and, and_true, Classical.not_not, mS_uI, mS_uA, mS_uJ, mS_uR, mS_uX, mR_uI, mR_uA, mR_uJ, mR_uX, mX_uI, mX_uA, mX_uJ, mX_uR, mI_s, mI_n, mI_A, mI_An, mI_uJ, mI_uR, mI_uX, mJ_uI, mJ_uA, mJ_uR, mJ_uX, onR_s, kC_v, kC_n, kC_t, mI_An, mI_A, mdT_19, o1708, hT1, h205n, s1 _ _ ht, h210]
      exact tail _ _ _ k1 c2 hq
theorem m_216 (hM : MdC μ f L) (hA : AL (mI μ 1302) (mI μ 1300)) (ht : okTk f L t) (hq : PoM L g ep sm μ Q (rdFau f L (mI μ 1302) (mI μ 1300) hs gs t)) : Ev (d + 5) 216 [.ref 1298] (uA μ 1298 (mdT g L t (nI 0) ep sm gs hs)) Q := by
  have hO := hA.1
  have o2 := hO.1
  have n6 := hO.2.1
  have o1741 := hO.2.2.2.2.2.2.1
  have oF := hO.2.2.2.2.2.2.2.1
  have k1 := (ok_nx ht).1
  have k2 := (ok_nx k1).1
  have k3 := (ok_nx k2).1
  have k4 := (ok_nx k3).1
  have h205n := fun (d : Nat) (Q : Po) (x : Int32) (t : TK) => s_205n (d := d) (Q := Q) (x := x) (g := g) (t := t) (er := nI 0) (ep := ep) (sm := sm) (ts := gs) (hs := hs) hM
  have h205t := fun (d : Nat) (Q : Po) (x : Int32) (t : TK) => s_205t (d := d) (Q := Q) (x := x) (g := g) (t := t) (ep := ep) (sm := sm) (ts := gs) (hs := hs) hM
  have h206 := fun (d : Nat) (Q : Po) (t : TK) => s_206 (d := d) (Q := Q) (t := t) (g := g) (ep := ep) (sm := sm) (ts := gs) (hs := hs) hM
  have h206e := fun (d : Nat) (Q : Po) (er ep : Int32) (t : TK) (h : ¬ er = nI 0) => s_206e (d := d) (Q := Q) (g := g) (t := t) (er := er) (ep := ep) (sm := sm) (ts := gs) (hs := hs) hM h
  have h207e := fun (d : Nat) (Q : Po) (lo hi : Nat) (er ep : Int32) (t : TK) (ht : okTk f L t) (h : ¬ er = nI 0) (h8 : lo ≤ 9999) (h9 : hi ≤ 9999) => s_207e (d := d) (Q := Q) (lo := lo) (hi := hi) (g := g) (t := t) (er := er) (ep := ep) (sm := sm) (ts := gs) (hs := hs) hM ht h8 h9 h
  have h210e := fun (d : Nat) (Q : Po) (er ep : Int32) (t : TK) (ht : okTk f L t) (h : ¬ er = nI 0) => s_210e (d := d) (Q := Q) (g := g) (t := t) (er := er) (ep := ep) (sm := sm) (ts := gs) (hs := hs) hM ht h
  have m15 : ¬ (-15 : Int32) = nI 0 := by decide
  have hS := hM.1
  have hS0 := hS
  obtain ⟨p1, p2, p3, p4, p5, p6, p7, p8, p9, p10, p11, p12, p13, p14, p15, p16, p17, p18, p19, p20, p21⟩ := hS
  unfold rdFau at hq
  rw [in_216]
  by_cases c1 : nF (mI μ 1302) = 10
  · rw [if_pos c1] at hq
    simp (disch := first | omega | rfl) only [e_216_0, e_216_1, e_216_2, e_216_5, e_216_8, e_216_9, e_216_11, e_216_14, e_216_15, e_216_18, e_216_19, e_216_21, e_216_24, e_216_25, e_216_28, e_216_29, e_216_32, e_216_33, e_216_34, e_216_35, e_216_37, e_216_40, e_216_41, e_216_42, e_216_43, e_216_45, e_216_48, e_216_49, e_216_50, e_216_51, e_216_54, e_216_57, e_216_59, e_216_60, e_216_63, e_216_66, e_216_67, e_216_68, e_216_69, e_216_70, e_216_72, e_216_75, p1, p2, p3, p4, p5, p6, p7, p8, p9, p10, p11, p12, p13, p14, p15, p16, p17, p18, p19, p20, p21, ge1, ule_t, true_or, or_true, nI_add, nI_mul, nI_sub, nI_clamp, nI_lt_t, nI_lt_f, nI_le_t, nI_le_f, nI_eq_t, nI_eq_f, vp_nI, tI, fI, not_true, not_false_iff, true_and, and_true, Classical.not_not, mS_uI, mS_uA, mS_uJ, mS_uR, mS_uX, mR_uI, mR_uA, mR_uJ, mR_uX, mX_uI, mX_uA, mX_uJ, mX_uR, mI_s, mI_n, mI_A, mI_An, mI_uJ, mI_uR, mI_uX, mJ_uI, mJ_uA, mJ_uR, mJ_uX, onR_s, kC_v, kC_n, kC_t, mI_An, mI_A, mdT_19, o1741, c1, h205t, h206e _ _ _ _ _ m15, h210e _ _ _ _ _ ht m15, h207e _ _ _ _ _ _ _ ht m15, m15]
    exact PoM.err hA hq gs hs
  · rw [if_neg c1] at hq
    unfold rdFau1 at hq
    have s1 := h206 (t := t)
    generalize hT1 : nx f L t = t1 at *
    by_cases c2 : ckM f (mI μ 1300) (nM (mI μ 1302)) t1 = nI 0
    · rw [if_pos c2] at hq
      have h210 := fun (d : Nat) (Q : Po) => s_210t (d := d) (Q := Q) (g := g) (ep := ep) (sm := sm) (ts := gs) (hs := hs) hM o2 n6 k1 c2
      obtain ⟨m, m1, m2⟩ := fnd_c (ckM_t.mp c2).2
      rw [m2] at h210 hq
      rw [nI_clamp (by omega)] at hq
      unfold rdFau2 at hq
      generalize hT2 : nx f L t1 = t2 at *
      by_cases c3 : ckI 0 39 t2 = nI 0
      · rw [if_pos c3] at hq
        have h207 := fun (d : Nat) (Q : Po) => s_207t (d := d) (Q := Q) (lo := 0) (hi := 39) (g := g) (ep := ep) (sm := sm) (ts := gs) (hs := hs) hM k2 (by omega) c3
        unfold rdFau3 at hq
        generalize hT3 : nx f L t2 = t3 at *
        by_cases c4 : ckI 0 15 t3 = nI 0
        · rw [if_pos c4] at hq
          have h207b := fun (d : Nat) (Q : Po) => s_207t (d := d) (Q := Q) (lo := 0) (hi := 15) (g := g) (ep := ep) (sm := sm) (ts := gs) (hs := hs) hM k3 (by omega) c4
          unfold rdFau4 at hq
          generalize hT4 : nx f L t3 = t4 at *
          by_cases c5 : ckI 1 9999 t4 = nI 0
          · rw [if_pos c5] at hq
            have h207c := fun (d : Nat) (Q : Po) => s_207t (d := d) (Q := Q) (lo := 1) (hi := 9999) (g := g) (ep := ep) (sm := sm) (ts := gs) (hs := hs) hM k4 (by omega) c5
            have h199 := fun (d : Nat) (Q : Po) (F : Nat → Int32) => n_199 (d := d) (Q := Q) (F := F) (m := m) (σ := t2.2.2.2) (i := t3.2.2.2) (k := t4.2.2.2) hS0 o1741 (by omega)
            simp (disch := first | omega | rfl) only [e_216_0, e_216_1, e_216_2, e_216_5, e_216_8, e_216_9, e_216_11, e_216_14, e_216_15, e_216_18, e_216_19, e_216_21, e_216_24, e_216_25, e_216_28, e_216_29, e_216_32, e_216_33, e_216_34, e_216_35, e_216_37, e_216_40, e_216_41, e_216_42, e_216_43, e_216_45, e_216_48, e_216_49, e_216_50, e_216_51, e_216_54, e_216_57, e_216_59, e_216_60, e_216_63, e_216_66, e_216_67, e_216_68, e_216_69, e_216_70, e_216_72, e_216_75, p1, p2, p3, p4, p5, p6, p7, p8, p9, p10, p11, p12, p13, p14, p15, p16, p17, p18, p19, p20, p21, ge1, ule_t, true_or, or_true, nI_add, nI_mul, nI_sub, nI_clamp, nI_lt_t, nI_lt_f, nI_le_t, nI_le_f, nI_eq_t, nI_eq_f, vp_nI, tI, fI, not_true, not_false_iff, true_and, and_true, Classical.not_not, mS_uI, mS_uA, mS_uJ, mS_uR, mS_uX, mR_uI, mR_uA, mR_uJ, mR_uX, mX_uI, mX_uA, mX_uJ, mX_uR, mI_s, mI_n, mI_A, mI_An, mI_uJ, mI_uR, mI_uX, mJ_uI, mJ_uA, mJ_uR, mJ_uX, onR_s, kC_v, kC_n, kC_t, mI_An, mI_A, mdT_19, o1741, hT1, hT2, hT3, hT4, h205n, s1 _ _ ht, h210, h207, h207b, h207c, h199]
            have hq2 : Q (some none) (uA (uA (uA μ 1302 (rFault (mI μ 1302) m t2.2.2.2 t3.2.2.2 t4.2.2.2)) 1300 (mI μ 1300)) 1298 (mdT g L (nx f L t4) (nI 0) ep sm gs hs)) := hq
            rw [keepT] at hq2
            exact hq2
          · rw [if_neg c5] at hq
            have h207c := fun (d : Nat) (Q : Po) => s_207f (d := d) (Q := Q) (lo := 1) (hi := 9999) (g := g) (ep := ep) (sm := sm) (ts := gs) (hs := hs) hM k4 (by omega) (by omega) c5
            simp (disch := first | omega | rfl) only [e_216_0, e_216_1, e_216_2, e_216_5, e_216_8, e_216_9, e_216_11, e_216_14, e_216_15, e_216_18, e_216_19, e_216_21, e_216_24, e_216_25, e_216_28, e_216_29, e_216_32, e_216_33, e_216_34, e_216_35, e_216_37, e_216_40, e_216_41, e_216_42, e_216_43, e_216_45, e_216_48, e_216_49, e_216_50, e_216_51, e_216_54, e_216_57, e_216_59, e_216_60, e_216_63, e_216_66, e_216_67, e_216_68, e_216_69, e_216_70, e_216_72, e_216_75, p1, p2, p3, p4, p5, p6, p7, p8, p9, p10, p11, p12, p13, p14, p15, p16, p17, p18, p19, p20, p21, ge1, ule_t, true_or, or_true, nI_add, nI_mul, nI_sub, nI_clamp, nI_lt_t, nI_lt_f, nI_le_t, nI_le_f, nI_eq_t, nI_eq_f, vp_nI, tI, fI, not_true, not_false_iff, true_and, and_true, Classical.not_not, mS_uI, mS_uA, mS_uJ, mS_uR, mS_uX, mR_uI, mR_uA, mR_uJ, mR_uX, mX_uI, mX_uA, mX_uJ, mX_uR, mI_s, mI_n, mI_A, mI_An, mI_uJ, mI_uR, mI_uX, mJ_uI, mJ_uA, mJ_uR, mJ_uX, onR_s, kC_v, kC_n, kC_t, mI_An, mI_A, mdT_19, o1741, hT1, hT2, hT3, hT4, h205n, s1 _ _ ht, h210, h207, h207b, h207c, eq_false c5]
            exact PoM.err hA hq gs hs
        · rw [if_neg c4] at hq
          have h207b := fun (d : Nat) (Q : Po) => s_207f (d := d) (Q := Q) (lo := 0) (hi := 15) (g := g) (ep := ep) (sm := sm) (ts := gs) (hs := hs) hM k3 (by omega) (by omega) c4
          simp (disch := first | omega | rfl) only [e_216_0, e_216_1, e_216_2, e_216_5, e_216_8, e_216_9, e_216_11, e_216_14, e_216_15, e_216_18, e_216_19, e_216_21, e_216_24, e_216_25, e_216_28, e_216_29, e_216_32, e_216_33, e_216_34, e_216_35, e_216_37, e_216_40, e_216_41, e_216_42, e_216_43, e_216_45, e_216_48, e_216_49, e_216_50, e_216_51, e_216_54, e_216_57, e_216_59, e_216_60, e_216_63, e_216_66, e_216_67, e_216_68, e_216_69, e_216_70, e_216_72, e_216_75, p1, p2, p3, p4, p5, p6, p7, p8, p9, p10, p11, p12, p13, p14, p15, p16, p17, p18, p19, p20, p21, ge1, ule_t, true_or, or_true, nI_add, nI_mul, nI_sub, nI_clamp, nI_lt_t, nI_lt_f, nI_le_t, nI_le_f, nI_eq_t, nI_eq_f, vp_nI, tI, fI, not_true, not_false_iff, true_and, and_true, Classical.not_not, mS_uI, mS_uA, mS_uJ, mS_uR, mS_uX, mR_uI, mR_uA, mR_uJ, mR_uX, mX_uI, mX_uA, mX_uJ, mX_uR, mI_s, mI_n, mI_A, mI_An, mI_uJ, mI_uR, mI_uX, mJ_uI, mJ_uA, mJ_uR, mJ_uX, onR_s, kC_v, kC_n, kC_t, mI_An, mI_A, mdT_19, o1741, hT1, hT2, hT3, h205n, s1 _ _ ht, h210, h207, h207b, h207e _ _ _ _ _ _ _ k3 c4, eq_false c4]
          exact PoM.err hA hq gs hs
      · rw [if_neg c3] at hq
        have h207 := fun (d : Nat) (Q : Po) => s_207f (d := d) (Q := Q) (lo := 0) (hi := 39) (g := g) (ep := ep) (sm := sm) (ts := gs) (hs := hs) hM k2 (by omega) (by omega) c3
        simp (disch := first | omega | rfl) only [e_216_0, e_216_1, e_216_2, e_216_5, e_216_8, e_216_9, e_216_11, e_216_14, e_216_15, e_216_18, e_216_19, e_216_21, e_216_24, e_216_25, e_216_28, e_216_29, e_216_32, e_216_33, e_216_34, e_216_35, e_216_37, e_216_40, e_216_41, e_216_42, e_216_43, e_216_45, e_216_48, e_216_49, e_216_50, e_216_51, e_216_54, e_216_57, e_216_59, e_216_60, e_216_63, e_216_66, e_216_67, e_216_68, e_216_69, e_216_70, e_216_72, e_216_75, p1, p2, p3, p4, p5, p6, p7, p8, p9, p10, p11, p12, p13, p14, p15, p16, p17, p18, p19, p20, p21, ge1, ule_t, true_or, or_true, nI_add, nI_mul, nI_sub, nI_clamp, nI_lt_t, nI_lt_f, nI_le_t, nI_le_f, nI_eq_t, nI_eq_f, vp_nI, tI, fI, not_true, not_false_iff, true_and, and_true, Classical.not_not, mS_uI, mS_uA, mS_uJ, mS_uR, mS_uX, mR_uI, mR_uA, mR_uJ, mR_uX, mX_uI, mX_uA, mX_uJ, mX_uR, mI_s, mI_n, mI_A, mI_An, mI_uJ, mI_uR, mI_uX, mJ_uI, mJ_uA, mJ_uR, mJ_uX, onR_s, kC_v, kC_n, kC_t, mI_An, mI_A, mdT_19, o1741, hT1, hT2, h205n, s1 _ _ ht, h210, h207, h207e _ _ _ _ _ _ _ k2 c3, eq_false c3]
        exact PoM.err hA hq gs hs
    · rw [if_neg c2] at hq
      have h210 := fun (d : Nat) (Q : Po) => s_210f (d := d) (Q := Q) (g := g) (ep := ep) (sm := sm) (ts := gs) (hs := hs) hM o2 n6 k1 c2
      simp (disch := first | omega | rfl) only [e_216_0, e_216_1, e_216_2, e_216_5, e_216_8, e_216_9, e_216_11, e_216_14, e_216_15, e_216_18, e_216_19, e_216_21, e_216_24, e_216_25, e_216_28, e_216_29, e_216_32, e_216_33, e_216_34, e_216_35, e_216_37, e_216_40, e_216_41, e_216_42, e_216_43, e_216_45, e_216_48, e_216_49, e_216_50, e_216_51, e_216_54, e_216_57, e_216_59, e_216_60, e_216_63, e_216_66, e_216_67, e_216_68, e_216_69, e_216_70, e_216_72, e_216_75, p1, p2, p3, p4, p5, p6, p7, p8, p9, p10, p11, p12, p13, p14, p15, p16, p17, p18, p19, p20, p21, ge1, ule_t, true_or, or_true, nI_add, nI_mul, nI_sub, nI_clamp, nI_lt_t, nI_lt_f, nI_le_t, nI_le_f, nI_eq_t, nI_eq_f, vp_nI, tI, fI, not_true, not_false_iff, true_and, and_true, Classical.not_not, mS_uI, mS_uA, mS_uJ, mS_uR, mS_uX, mR_uI, mR_uA, mR_uJ, mR_uX, mX_uI, mX_uA, mX_uJ, mX_uR, mI_s, mI_n, mI_A, mI_An, mI_uJ, mI_uR, mI_uX, mJ_uI, mJ_uA, mJ_uR, mJ_uX, onR_s, kC_v, kC_n, kC_t, mI_An, mI_A, mdT_19, o1741, hT1, h205n, s1 _ _ ht, h210, h207e _ _ _ _ _ _ _ k1 c2, eq_false c2]
      exact PoM.err hA hq gs hs
theorem m_219 (hM : MdC μ f L) (hX : TxC μ) (hA : AL (mI μ 1302) (mI μ 1300)) (ht : okTk f L t) (hg4 : gs < 4) (hq : PoM L g ep sm μ Q (rdSet f L (mI μ 1302) (mI μ 1300) hs gs t)) : Ev (d + 6) 219 [.ref 1298] (uA μ 1298 (mdT g L t (nI 0) ep sm gs hs)) Q := by
  have k1 := (ok_nx ht).1
  have k2 := (ok_nx k1).1
  have h205n := fun (d : Nat) (Q : Po) (x : Int32) (t : TK) => s_205n (d := d) (Q := Q) (x := x) (g := g) (t := t) (er := nI 0) (ep := ep) (sm := sm) (ts := gs) (hs := hs) hM
  have h205t := fun (d : Nat) (Q : Po) (x : Int32) (t : TK) => s_205t (d := d) (Q := Q) (x := x) (g := g) (t := t) (ep := ep) (sm := sm) (ts := gs) (hs := hs) hM
  have h206 := fun (d : Nat) (Q : Po) (gs : Nat) (t : TK) => s_206 (d := d) (Q := Q) (t := t) (g := g) (ep := ep) (sm := sm) (ts := gs) (hs := hs) hM
  have h205e := fun (d : Nat) (Q : Po) (x y er ep : Int32) (gs : Nat) (t : TK) (h : ¬ er = nI 0) => s_205e (d := d) (Q := Q) (x := x) (y := y) (g := g) (t := t) (er := er) (ep := ep) (sm := sm) (ts := gs) (hs := hs) hM h
  have h206e := fun (d : Nat) (Q : Po) (er ep : Int32) (gs : Nat) (t : TK) (h : ¬ er = nI 0) => s_206e (d := d) (Q := Q) (g := g) (t := t) (er := er) (ep := ep) (sm := sm) (ts := gs) (hs := hs) hM h
  have h207e := fun (d : Nat) (Q : Po) (hi gs : Nat) (er ep : Int32) (t : TK) (ht : okTk f L t) (h : ¬ er = nI 0) (h9 : hi ≤ 9999) => s_207e (d := d) (Q := Q) (lo := 1) (hi := hi) (g := g) (t := t) (er := er) (ep := ep) (sm := sm) (ts := gs) (hs := hs) hM ht (by omega) h9 h
  have hw := fun (d : Nat) (Q : Po) => s_204 (d := d) (Q := Q) (i := 20) (g := g) (t := nx f L t) (er := nI 0) (ep := ep) (sm := sm) (ts := gs) (hs := hs) hM hX (by omega) (by omega) k1 Set2 row_20
  have m11 : ¬ (-11 : Int32) = nI 0 := by decide
  have m14 : ¬ (-14 : Int32) = nI 0 := by decide
  have g40 : ∀ w, gSet w ≤ 9999 := fun w => by unfold gSet; split <;> omega
  have hS := hM.1
  have hS0 := hS
  obtain ⟨p1, p2, p3, p4, p5, p6, p7, p8, p9, p10, p11, p12, p13, p14, p15, p16, p17, p18, p19, p20, p21⟩ := hS
  unfold rdSet rdSet1 at hq
  have s1 := h206 (t := t)
  rw [in_219]
  generalize hT1 : nx f L t = t1 at *
  by_cases c3 : wIx f t1 Set2 0 = -1
  · rw [if_pos c3] at hq
    simp only [c3] at hw
    have hg0 := g40 0
    by_cases c5 : gs.testBit 0 = true
    · have c6 : (nI (gs / 2 ^ 0 % 2) = nI 1) = True := tb_mod.trans (eq_true c5)
      simp (disch := first | omega | rfl) only [e_219_0, e_219_1, e_219_4, e_219_5, e_219_7, e_219_10, e_219_11, e_219_12, e_219_13, e_219_14, e_219_17, e_219_18, e_219_21, e_219_22, e_219_24, e_219_27, e_219_28, e_219_31, e_219_34, e_219_35, e_219_38, e_219_39, e_219_40, e_219_41, e_219_42, e_219_45, e_219_46, e_219_47, e_219_48, e_219_49, e_219_50, e_219_53, e_219_54, e_219_57, e_219_58, e_219_60, e_219_63, e_219_64, e_219_65, e_219_68, e_219_69, e_219_70, e_219_71, e_219_72, e_219_75, e_219_76, e_219_79, e_219_80, e_219_81, e_219_84, e_219_85, e_219_88, e_219_91, e_219_92, e_219_93, e_219_96, e_219_99, e_219_100, e_219_103, e_219_104, e_219_105, e_219_106, e_219_107, e_219_108, p1, p2, p3, p4, p5, p6, p7, p8, p9, p10, p11, p12, p13, p14, p15, p16, p17, p18, p19, p20, p21, ge1, ule_t, true_or, or_true, nI_add, nI_mul, nI_sub, nI_clamp, nI_lt_t, nI_lt_f, nI_le_t, nI_le_f, nI_eq_t, nI_eq_f, vp_nI, tI, fI, not_true, not_false_iff, true_and, and_true, Classical.not_not, mS_uI, mS_uA, mS_uJ, mS_uR, mS_uX, mR_uI, mR_uA, mR_uJ, mR_uX, mX_uI, mX_uA, mX_uJ, mX_uR, mI_s, mI_n, mI_A, mI_An, mI_uJ, mI_uR, mI_uX, mJ_uI, mJ_uA, mJ_uR, mJ_uX, onR_s, kC_v, kC_n, kC_t, mI_A, mdT_19, mdT_23, hT1, s1 _ _ _ ht, hw, h205t, m11, nI_shr, nI_shl, nI_and1, nI_or, c6, h205e _ _ _ _ _ _ _ _ m11, h206e _ _ _ _ _ _ m11, uIA, mdT_u23, s_217, s_218, h207e _ _ _ _ _ _ _ k1 m11]
      exact PoM.err hA hq _ hs
    · have c6 : (nI (gs / 2 ^ 0 % 2) = nI 1) = False := tb_mod.trans (eq_false c5)
      simp (disch := first | omega | rfl) only [e_219_0, e_219_1, e_219_4, e_219_5, e_219_7, e_219_10, e_219_11, e_219_12, e_219_13, e_219_14, e_219_17, e_219_18, e_219_21, e_219_22, e_219_24, e_219_27, e_219_28, e_219_31, e_219_34, e_219_35, e_219_38, e_219_39, e_219_40, e_219_41, e_219_42, e_219_45, e_219_46, e_219_47, e_219_48, e_219_49, e_219_50, e_219_53, e_219_54, e_219_57, e_219_58, e_219_60, e_219_63, e_219_64, e_219_65, e_219_68, e_219_69, e_219_70, e_219_71, e_219_72, e_219_75, e_219_76, e_219_79, e_219_80, e_219_81, e_219_84, e_219_85, e_219_88, e_219_91, e_219_92, e_219_93, e_219_96, e_219_99, e_219_100, e_219_103, e_219_104, e_219_105, e_219_106, e_219_107, e_219_108, p1, p2, p3, p4, p5, p6, p7, p8, p9, p10, p11, p12, p13, p14, p15, p16, p17, p18, p19, p20, p21, ge1, ule_t, true_or, or_true, nI_add, nI_mul, nI_sub, nI_clamp, nI_lt_t, nI_lt_f, nI_le_t, nI_le_f, nI_eq_t, nI_eq_f, vp_nI, tI, fI, not_true, not_false_iff, true_and, and_true, Classical.not_not, mS_uI, mS_uA, mS_uJ, mS_uR, mS_uX, mR_uI, mR_uA, mR_uJ, mR_uX, mX_uI, mX_uA, mX_uJ, mX_uR, mI_s, mI_n, mI_A, mI_An, mI_uJ, mI_uR, mI_uX, mJ_uI, mJ_uA, mJ_uR, mJ_uX, onR_s, kC_v, kC_n, kC_t, mI_A, mdT_19, mdT_23, hT1, s1 _ _ _ ht, hw, h205t, m11, nI_shr, nI_shl, nI_and1, nI_or, c6, h205e _ _ _ _ _ _ _ _ m11, h206e _ _ _ _ _ _ m11, uIA, mdT_u23, s_217, s_218, h207e _ _ _ _ _ _ _ k1 m11]
      exact PoM.err hA hq _ hs
  · rw [if_neg c3] at hq
    obtain ⟨w, w1, w2⟩ := wIx_2 c3
    rw [w2] at hq
    rw [nI_clamp (by omega)] at hq
    simp only [w2] at hw
    have hw1 : (nI w = -1) = False := nI_m1 (by omega)
    have hgw := g40 w
    unfold rdSet2 at hq
    by_cases c5 : gs.testBit w = true
    · rw [if_pos c5] at hq
      have c6 : (nI (gs / 2 ^ w % 2) = nI 1) = True := tb_mod.trans (eq_true c5)
      simp (disch := first | omega | rfl) only [e_219_0, e_219_1, e_219_4, e_219_5, e_219_7, e_219_10, e_219_11, e_219_12, e_219_13, e_219_14, e_219_17, e_219_18, e_219_21, e_219_22, e_219_24, e_219_27, e_219_28, e_219_31, e_219_34, e_219_35, e_219_38, e_219_39, e_219_40, e_219_41, e_219_42, e_219_45, e_219_46, e_219_47, e_219_48, e_219_49, e_219_50, e_219_53, e_219_54, e_219_57, e_219_58, e_219_60, e_219_63, e_219_64, e_219_65, e_219_68, e_219_69, e_219_70, e_219_71, e_219_72, e_219_75, e_219_76, e_219_79, e_219_80, e_219_81, e_219_84, e_219_85, e_219_88, e_219_91, e_219_92, e_219_93, e_219_96, e_219_99, e_219_100, e_219_103, e_219_104, e_219_105, e_219_106, e_219_107, e_219_108, p1, p2, p3, p4, p5, p6, p7, p8, p9, p10, p11, p12, p13, p14, p15, p16, p17, p18, p19, p20, p21, ge1, ule_t, true_or, or_true, nI_add, nI_mul, nI_sub, nI_clamp, nI_lt_t, nI_lt_f, nI_le_t, nI_le_f, nI_eq_t, nI_eq_f, vp_nI, tI, fI, not_true, not_false_iff, true_and, and_true, Classical.not_not, mS_uI, mS_uA, mS_uJ, mS_uR, mS_uX, mR_uI, mR_uA, mR_uJ, mR_uX, mX_uI, mX_uA, mX_uJ, mX_uR, mI_s, mI_n, mI_A, mI_An, mI_uJ, mI_uR, mI_uX, mJ_uI, mJ_uA, mJ_uR, mJ_uX, onR_s, kC_v, kC_n, kC_t, mI_A, mdT_19, mdT_23, hT1, s1 _ _ _ ht, hw, hw1, h205n, h205t, m14, nI_shr, nI_shl, nI_and1, nI_or, c6, h206e _ _ _ _ _ _ m14, uIA, mdT_u23, s_217, s_218, h207e _ _ _ _ _ _ _ k1 m14]
      exact PoM.err hA hq _ hs
    · rw [if_neg c5] at hq
      have c6 : (nI (gs / 2 ^ w % 2) = nI 1) = False := tb_mod.trans (eq_false c5)
      unfold rdSet3 at hq
      have s2 := h206 (t := t1)
      generalize hT2 : nx f L t1 = t2 at *
      by_cases c7 : ckI 1 (gSet w) t2 = nI 0
      · rw [if_pos c7] at hq
        have h207 := fun (d : Nat) (Q : Po) (gs : Nat) => s_207t (d := d) (Q := Q) (lo := 1) (hi := gSet w) (g := g) (ep := ep) (sm := sm) (ts := gs) (hs := hs) hM k2 hgw c7
        simp (disch := first | omega | rfl) only [e_219_0, e_219_1, e_219_4, e_219_5, e_219_7, e_219_10, e_219_11, e_219_12, e_219_13, e_219_14, e_219_17, e_219_18, e_219_21, e_219_22, e_219_24, e_219_27, e_219_28, e_219_31, e_219_34, e_219_35, e_219_38, e_219_39, e_219_40, e_219_41, e_219_42, e_219_45, e_219_46, e_219_47, e_219_48, e_219_49, e_219_50, e_219_53, e_219_54, e_219_57, e_219_58, e_219_60, e_219_63, e_219_64, e_219_65, e_219_68, e_219_69, e_219_70, e_219_71, e_219_72, e_219_75, e_219_76, e_219_79, e_219_80, e_219_81, e_219_84, e_219_85, e_219_88, e_219_91, e_219_92, e_219_93, e_219_96, e_219_99, e_219_100, e_219_103, e_219_104, e_219_105, e_219_106, e_219_107, e_219_108, p1, p2, p3, p4, p5, p6, p7, p8, p9, p10, p11, p12, p13, p14, p15, p16, p17, p18, p19, p20, p21, ge1, ule_t, true_or, or_true, nI_add, nI_mul, nI_sub, nI_clamp, nI_lt_t, nI_lt_f, nI_le_t, nI_le_f, nI_eq_t, nI_eq_f, vp_nI, tI, fI, not_true, not_false_iff, true_and, and_true, Classical.not_not, mS_uI, mS_uA, mS_uJ, mS_uR, mS_uX, mR_uI, mR_uA, mR_uJ, mR_uX, mX_uI, mX_uA, mX_uJ, mX_uR, mI_s, mI_n, mI_A, mI_An, mI_uJ, mI_uR, mI_uX, mJ_uI, mJ_uA, mJ_uR, mJ_uX, onR_s, kC_v, kC_n, kC_t, mI_A, mdT_19, mdT_23, hT1, hT2, s1 _ _ _ ht, hw, hw1, h205n, nI_shr, nI_shl, nI_and1, nI_or, Nat.one_mul, Nat.zero_add, c6, s2 _ _ _ k1, uIA, mdT_u23, s_217, s_218, h207, uI_28]
        have hq2 : Q (some none) (uA (uA (uA μ 1302 (rSet (mI μ 1302) w t2.2.2.2)) 1300 (mI μ 1300)) 1298 (mdT g L (nx f L t2) (nI 0) ep sm (gs ||| 2 ^ w) hs)) := hq
        rw [keepT] at hq2
        exact hq2
      · rw [if_neg c7] at hq
        have h207 := fun (d : Nat) (Q : Po) (gs : Nat) => s_207f (d := d) (Q := Q) (lo := 1) (hi := gSet w) (g := g) (ep := ep) (sm := sm) (ts := gs) (hs := hs) hM k2 (by omega) hgw c7
        simp (disch := first | omega | rfl) only [e_219_0, e_219_1, e_219_4, e_219_5, e_219_7, e_219_10, e_219_11, e_219_12, e_219_13, e_219_14, e_219_17, e_219_18, e_219_21, e_219_22, e_219_24, e_219_27, e_219_28, e_219_31, e_219_34, e_219_35, e_219_38, e_219_39, e_219_40, e_219_41, e_219_42, e_219_45, e_219_46, e_219_47, e_219_48, e_219_49, e_219_50, e_219_53, e_219_54, e_219_57, e_219_58, e_219_60, e_219_63, e_219_64, e_219_65, e_219_68, e_219_69, e_219_70, e_219_71, e_219_72, e_219_75, e_219_76, e_219_79, e_219_80, e_219_81, e_219_84, e_219_85, e_219_88, e_219_91, e_219_92, e_219_93, e_219_96, e_219_99, e_219_100, e_219_103, e_219_104, e_219_105, e_219_106, e_219_107, e_219_108, p1, p2, p3, p4, p5, p6, p7, p8, p9, p10, p11, p12, p13, p14, p15, p16, p17, p18, p19, p20, p21, ge1, ule_t, true_or, or_true, nI_add, nI_mul, nI_sub, nI_clamp, nI_lt_t, nI_lt_f, nI_le_t, nI_le_f, nI_eq_t, nI_eq_f, vp_nI, tI, fI, not_true, not_false_iff, true_and, and_true, Classical.not_not, mS_uI, mS_uA, mS_uJ, mS_uR, mS_uX, mR_uI, mR_uA, mR_uJ, mR_uX, mX_uI, mX_uA, mX_uJ, mX_uR, mI_s, mI_n, mI_A, mI_An, mI_uJ, mI_uR, mI_uX, mJ_uI, mJ_uA, mJ_uR, mJ_uX, onR_s, kC_v, kC_n, kC_t, mI_A, mdT_19, mdT_23, hT1, hT2, s1 _ _ _ ht, hw, hw1, h205n, nI_shr, nI_shl, nI_and1, nI_or, Nat.one_mul, Nat.zero_add, c6, s2 _ _ _ k1, uIA, mdT_u23, s_217, s_218, h207, eq_false c7]
        exact PoM.err hA hq _ hs
end RstM

