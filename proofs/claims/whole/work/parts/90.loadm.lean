/-! loading in the reference -/
def PLm (a : Nat) : Prop := a = 1298 ∨ a = 1300 ∨ a = 1301 ∨ a = 1302 ∨ a = 1303 ∨ a = 1305 ∨ a = 1306
section LoM
variable {d : Nat} {Q : Po} {μ μ' μ1 B : Mu} {f : Nat → Nat} {g F r tn R T : Nat → Int32} {L n a b k v m c N sm gs hs : Nat} {x rt ep er : Int32} {t : TK} {z : RS} {l1 l2 l3 : Option Value}
def PoLm (μ : Mu) (Q : Po) (z : (Int32 × Nat × Nat × Nat) ⊕ (Nat × RS)) : Prop := match z with
  | .inl e => ∀ μ', Fr PLm μ μ' → mI μ' 1302 = mI μ 1302 → mI μ' 1300 = mI μ 1300 → mI μ' 1298 2 = nI 0 → mI μ' 1298 8 = mI μ 1298 8 → mI μ' 1298 18 = nI e.2.2.2 → mI μ' 1298 21 = nI e.2.1 → mI μ' 1298 26 = mI μ 1298 26 → Q (some (some (.int e.1))) μ'
  | .inr z => ∀ μ', Fr PLm μ μ' → mI μ' 1302 = rBg z.2.1 z.2.2.1 (rtT z.2.2.1) (nM z.2.1) → mI μ' 1300 = z.2.2.1 → mI μ' 1298 2 = nI 0 → mI μ' 1298 8 = nI 0 → mI μ' 1298 18 = nI z.2.2.2.2.2.2.2.2 → mI μ' 1298 21 = -1 → mI μ' 1298 26 = mI μ 1298 26 → Q (some (some (.int (nI z.1)))) μ'
theorem l_163 (ha : mS μ a = (20, N)) (hb : mS μ b = (20, N)) (hb1 : 1000 ≤ b) (hne : a ≠ b) (hN : N < 100000) : ∀ j k, k + j = N → EM 163 d 2 [some (.ref a), some (.ref b), some (.int (nI k))] [] (uA μ b (fil (mI μ a) (mI μ b) k)) (0, 0) Q = Q (some none) (uA μ b (fil (mI μ a) (mI μ b) N)) := by
  intro j
  induction j with
  | zero =>
    intro k hk
    obtain rfl : k = N := by omega
    rw [e_163_2]
    simp (disch := first | omega | rfl) only [e_163_0, e_163_1, e_163_3, e_163_4, e_163_5, e_163_8, e_163_9, e_163_10, e_163_11, e_163_12, e_163_13, e_163_14, e_163_17, e_163_20, ge1, ule_t, true_or, or_true, nI_add, nI_mul, nI_sub, nI_clamp, nI_lt_t, nI_lt_f, nI_le_t, nI_le_f, nI_eq_t, nI_eq_f, vp_nI, tI, fI, not_true, not_false_iff, true_and, and_true, Classical.not_not, mS_uI, mS_uA, mS_uJ, mS_uR, mS_uX, mR_uI, mR_uA, mR_uJ, mR_uX, mX_uI, mX_uA, mX_uJ, mX_uR, mI_s, mI_n, mI_A, mI_An, mI_uJ, mI_uR, mI_uX, mJ_uI, mJ_uA, mJ_uR, mJ_uX, onR_s, kC_v, kC_n, kC_t, ha, ofI, Nat.reduceLeDiff, and_self]
  | succ j ih =>
    intro k hk
    have hi := ih (k + 1) (by omega)
    rw [← fil_s] at hi
    rw [e_163_2]
    simp (disch := first | omega | rfl) only [e_163_0, e_163_1, e_163_3, e_163_4, e_163_5, e_163_8, e_163_9, e_163_10, e_163_11, e_163_12, e_163_13, e_163_14, e_163_17, e_163_20, ge1, ule_t, true_or, or_true, nI_add, nI_mul, nI_sub, nI_clamp, nI_lt_t, nI_lt_f, nI_le_t, nI_le_f, nI_eq_t, nI_eq_f, vp_nI, tI, fI, not_true, not_false_iff, true_and, and_true, Classical.not_not, mS_uI, mS_uA, mS_uJ, mS_uR, mS_uX, mR_uI, mR_uA, mR_uJ, mR_uX, mX_uI, mX_uA, mX_uJ, mX_uR, mI_s, mI_n, mI_A, mI_An, mI_uJ, mI_uR, mI_uX, mJ_uI, mJ_uA, mJ_uR, mJ_uX, onR_s, kC_v, kC_n, kC_t, ha, hb, ofI, Nat.reduceLeDiff, and_self, mI_An, uIA]
    exact hi
theorem s_163 (ha : mS μ a = (20, N)) (hb : mS μ b = (20, N)) (hb1 : 1000 ≤ b) (hne : a ≠ b) (hN : N < 100000) : Ev (d + 1) 163 [.ref a, .ref b] μ Q = Q (some none) (uA μ b (fil (mI μ a) (mI μ b) N)) := by
  have := l_163 (d := d) (Q := Q) ha hb hb1 hne hN N 0 (by omega)
  rw [fil_0, uA_self] at this
  rw [in_163]
  simp (disch := first | omega | rfl) only [e_163_0, e_163_1, e_163_3, e_163_4, e_163_5, e_163_8, e_163_9, e_163_10, e_163_11, e_163_12, e_163_13, e_163_14, e_163_17, e_163_20, ge1, ule_t, true_or, or_true, nI_add, nI_mul, nI_sub, nI_clamp, nI_lt_t, nI_lt_f, nI_le_t, nI_le_f, nI_eq_t, nI_eq_f, vp_nI, tI, fI, not_true, not_false_iff, true_and, and_true, Classical.not_not]
  exact this
theorem l_164b (hM : ShM μ) : ∀ j k, k + j = 1782 → EM 164 d 26 [some (.ref 1298), some (.int (nI k))] [] (uA μ 1302 (fil (fun _ => nI 0) (mI μ 1302) k)) (0, 0) Q = Q (some none) (uA μ 1302 (upd (upd (fil (fun _ => nI 0) (mI μ 1302) 1782) 0 (nI 40)) 1 (nI 2))) := by
  obtain ⟨p1, p2, p3, p4, p5, p6, p7, p8, p9, p10, p11, p12, p13, p14, p15, p16, p17, p18, p19, p20, p21⟩ := hM
  intro j
  induction j with
  | zero =>
    intro k hk
    obtain rfl : k = 1782 := by omega
    rw [e_164_26]
    simp (disch := first | omega | rfl) only [e_164_0, e_164_1, e_164_3, e_164_4, e_164_7, e_164_8, e_164_11, e_164_12, e_164_15, e_164_16, e_164_17, e_164_18, e_164_21, e_164_24, e_164_25, e_164_27, e_164_30, e_164_33, e_164_34, e_164_37, e_164_38, e_164_39, e_164_40, e_164_43, e_164_46, e_164_47, e_164_50, e_164_51, e_164_53, e_164_54, e_164_55, e_164_58, e_164_59, e_164_60, e_164_61, p1, p2, p3, p4, p5, p6, p7, p8, p9, p10, p11, p12, p13, p14, p15, p16, p17, p18, p19, p20, p21, ge1, ule_t, true_or, or_true, nI_add, nI_mul, nI_sub, nI_clamp, nI_lt_t, nI_lt_f, nI_le_t, nI_le_f, nI_eq_t, nI_eq_f, vp_nI, tI, fI, not_true, not_false_iff, true_and, and_true, Classical.not_not, mS_uI, mS_uA, mS_uJ, mS_uR, mS_uX, mR_uI, mR_uA, mR_uJ, mR_uX, mX_uI, mX_uA, mX_uJ, mX_uR, mI_s, mI_n, mI_A, mI_An, mI_uJ, mI_uR, mI_uX, mJ_uI, mJ_uA, mJ_uR, mJ_uX, onR_s, kC_v, kC_n, kC_t, uIA]
  | succ j ih =>
    intro k hk
    have hi := ih (k + 1) (by omega)
    rw [← fil_s] at hi
    rw [e_164_26]
    simp (disch := first | omega | rfl) only [e_164_0, e_164_1, e_164_3, e_164_4, e_164_7, e_164_8, e_164_11, e_164_12, e_164_15, e_164_16, e_164_17, e_164_18, e_164_21, e_164_24, e_164_25, e_164_27, e_164_30, e_164_33, e_164_34, e_164_37, e_164_38, e_164_39, e_164_40, e_164_43, e_164_46, e_164_47, e_164_50, e_164_51, e_164_53, e_164_54, e_164_55, e_164_58, e_164_59, e_164_60, e_164_61, p1, p2, p3, p4, p5, p6, p7, p8, p9, p10, p11, p12, p13, p14, p15, p16, p17, p18, p19, p20, p21, ge1, ule_t, true_or, or_true, nI_add, nI_mul, nI_sub, nI_clamp, nI_lt_t, nI_lt_f, nI_le_t, nI_le_f, nI_eq_t, nI_eq_f, vp_nI, tI, fI, not_true, not_false_iff, true_and, and_true, Classical.not_not, mS_uI, mS_uA, mS_uJ, mS_uR, mS_uX, mR_uI, mR_uA, mR_uJ, mR_uX, mX_uI, mX_uA, mX_uJ, mX_uR, mI_s, mI_n, mI_A, mI_An, mI_uJ, mI_uR, mI_uX, mJ_uI, mJ_uA, mJ_uR, mJ_uX, onR_s, kC_v, kC_n, kC_t, uIA]
    exact hi
theorem l_164a (hM : ShM μ) : ∀ j k, k + j = 22 → EM 164 d 2 [some (.ref 1298), some (.int (nI k))] [] (uA μ 1300 (fil (fun _ => nI 0) (mI μ 1300) k)) (0, 0) Q = EM 164 d 26 [some (.ref 1298), some (.int (nI 0))] [] (uA μ 1300 (fil (fun _ => nI 0) (mI μ 1300) 22)) (0, 0) Q := by
  obtain ⟨p1, p2, p3, p4, p5, p6, p7, p8, p9, p10, p11, p12, p13, p14, p15, p16, p17, p18, p19, p20, p21⟩ := hM
  intro j
  induction j with
  | zero =>
    intro k hk
    obtain rfl : k = 22 := by omega
    rw [e_164_2]
    simp (disch := first | omega | rfl) only [e_164_0, e_164_1, e_164_3, e_164_4, e_164_7, e_164_8, e_164_11, e_164_12, e_164_15, e_164_16, e_164_17, e_164_18, e_164_21, e_164_24, e_164_25, e_164_27, e_164_30, e_164_33, e_164_34, e_164_37, e_164_38, e_164_39, e_164_40, e_164_43, e_164_46, e_164_47, e_164_50, e_164_51, e_164_53, e_164_54, e_164_55, e_164_58, e_164_59, e_164_60, e_164_61, p1, p2, p3, p4, p5, p6, p7, p8, p9, p10, p11, p12, p13, p14, p15, p16, p17, p18, p19, p20, p21, ge1, ule_t, true_or, or_true, nI_add, nI_mul, nI_sub, nI_clamp, nI_lt_t, nI_lt_f, nI_le_t, nI_le_f, nI_eq_t, nI_eq_f, vp_nI, tI, fI, not_true, not_false_iff, true_and, and_true, Classical.not_not, mS_uI, mS_uA, mS_uJ, mS_uR, mS_uX, mR_uI, mR_uA, mR_uJ, mR_uX, mX_uI, mX_uA, mX_uJ, mX_uR, mI_s, mI_n, mI_A, mI_An, mI_uJ, mI_uR, mI_uX, mJ_uI, mJ_uA, mJ_uR, mJ_uX, onR_s, kC_v, kC_n, kC_t, ofI, Nat.reduceLeDiff, and_self]
  | succ j ih =>
    intro k hk
    have hi := ih (k + 1) (by omega)
    rw [← fil_s] at hi
    rw [e_164_2]
    simp (disch := first | omega | rfl) only [e_164_0, e_164_1, e_164_3, e_164_4, e_164_7, e_164_8, e_164_11, e_164_12, e_164_15, e_164_16, e_164_17, e_164_18, e_164_21, e_164_24, e_164_25, e_164_27, e_164_30, e_164_33, e_164_34, e_164_37, e_164_38, e_164_39, e_164_40, e_164_43, e_164_46, e_164_47, e_164_50, e_164_51, e_164_53, e_164_54, e_164_55, e_164_58, e_164_59, e_164_60, e_164_61, p1, p2, p3, p4, p5, p6, p7, p8, p9, p10, p11, p12, p13, p14, p15, p16, p17, p18, p19, p20, p21, ge1, ule_t, true_or, or_true, nI_add, nI_mul, nI_sub, nI_clamp, nI_lt_t, nI_lt_f, nI_le_t, nI_le_f, nI_eq_t, nI_eq_f, vp_nI, tI, fI, not_true, not_false_iff, true_and, and_true, Classical.not_not, mS_uI, mS_uA, mS_uJ, mS_uR, mS_uX, mR_uI, mR_uA, mR_uJ, mR_uX, mX_uI, mX_uA, mX_uJ, mX_uR, mI_s, mI_n, mI_A, mI_An, mI_uJ, mI_uR, mI_uX, mJ_uI, mJ_uA, mJ_uR, mJ_uX, onR_s, kC_v, kC_n, kC_t, ofI, Nat.reduceLeDiff, and_self, uIA]
    exact hi
theorem rZ_eq (hR : RN r) : upd (upd (fil (fun _ => nI 0) r 1782) 0 (nI 40)) 1 (nI 2) = rZ := by
  funext x
  unfold upd fil rZ
  by_cases h1 : x = 1
  · rw [if_pos h1, if_neg (by omega), if_pos h1]
  · rw [if_neg h1]
    by_cases h0 : x = 0
    · rw [if_pos h0, if_pos h0]
    · rw [if_neg h0, if_neg h0, if_neg h1]
      by_cases h2 : x < 1782
      · rw [if_pos h2]
      · rw [if_neg h2]; exact hR x (by omega)
theorem s_164 (hM : ShM μ) (hR : RN (mI μ 1302)) : Ev (d + 1) 164 [.ref 1298] μ Q = Q (some none) (uA (uA μ 1302 rZ) 1300 (tZ (mI μ 1300))) := by
  have ha := l_164a (d := d) (Q := Q) hM 22 0 (by omega)
  have hM2 : ShM (uA μ 1300 (fil (fun _ => nI 0) (mI μ 1300) 22)) := hM
  have hb := l_164b (d := d) (Q := Q) hM2 1782 0 (by omega)
  rw [fil_0, uA_self] at ha hb
  rw [hb, mI_Anf (by omega), rZ_eq hR, uA_02] at ha
  rw [in_164]
  simp (disch := first | omega | rfl) only [e_164_0, e_164_1, e_164_3, e_164_4, e_164_7, e_164_8, e_164_11, e_164_12, e_164_15, e_164_16, e_164_17, e_164_18, e_164_21, e_164_24, e_164_25, e_164_27, e_164_30, e_164_33, e_164_34, e_164_37, e_164_38, e_164_39, e_164_40, e_164_43, e_164_46, e_164_47, e_164_50, e_164_51, e_164_53, e_164_54, e_164_55, e_164_58, e_164_59, e_164_60, e_164_61, ge1, ule_t, true_or, or_true, nI_add, nI_mul, nI_sub, nI_clamp, nI_lt_t, nI_lt_f, nI_le_t, nI_le_f, nI_eq_t, nI_eq_f, vp_nI, tI, fI, not_true, not_false_iff, true_and, and_true, Classical.not_not]
  exact ha
theorem md_any {g : Nat → Int32} (hv : g 18 = nI v) : upd (upd (upd (upd (upd (upd g 14 (nI L)) 15 (nI 0)) 19 (nI 0)) 22 (nI 0)) 23 (nI 0)) 24 (nI 0) = mdG g L 0 (g 16).toBitVec.toNat (g 17).toBitVec.toNat v (nI 0) (g 20) 0 0 0 := by
  funext j
  unfold upd mdG
  by_cases h14 : j = 14
  · subst h14; rfl
  · by_cases h15 : j = 15
    · subst h15; rfl
    · by_cases h16 : j = 16
      · subst h16; exact (nI_u _).symm
      · by_cases h17 : j = 17
        · subst h17; exact (nI_u _).symm
        · by_cases h18 : j = 18
          · subst h18; exact hv
          · by_cases h19 : j = 19
            · subst h19; rfl
            · by_cases h20 : j = 20
              · subst h20; rfl
              · by_cases h22 : j = 22
                · subst h22; rfl
                · by_cases h23 : j = 23
                  · subst h23; rfl
                  · by_cases h24 : j = 24
                    · subst h24; rfl
                    · simp only [h14, h15, h16, h17, h18, h19, h20, h22, h23, h24, if_false]
theorem uA_c {r' t' : Nat → Int32} : uA (uA (uA (uA B 1302 R) 1300 T) 1302 r') 1300 t' = uA (uA B 1302 r') 1300 t' := by rw [uA_02, uA_A, uA_A]
theorem eR : mI (uA (uA B 1302 R) 1300 T) 1302 = R := by rw [mI_Anf (by omega), mI_Af]
theorem eT : mI (uA (uA B 1302 R) 1300 T) 1300 = T := mI_Af
/-- what the loop leaves -/
def PoB (L : Nat) (g : Nat → Int32) (ep : Int32) (B : Mu) (E : Mu → Prop) (z : (Int32 × Nat × Nat × Nat) ⊕ (Nat × RS)) : Prop := match z with
  | .inl e => ∀ r' tn' k sm ts hs, RN r' → (∀ j, 22 ≤ j → tn' j = 0) → E (uA (uA (uA B 1302 r') 1300 tn') 1298 (mdT g L (k, e.2) e.1 (nI e.2.1) sm ts hs))
  | .inr z => E (uA (uA (uA B 1302 z.2.1) 1300 z.2.2.1) 1298 (mdT g L z.2.2.2.2.2 (nI 0) ep z.1 z.2.2.2.2.1 z.2.2.2.1))
theorem l_221 (hM : ShM B) (hb : ∀ k, k < L → mI B 1299 k = nI (f k)) (hf : ∀ k, f k < 256) (hL : L ≤ 900) (hX : TxC B) : ∀ F n z, okRS f L z → L - z.2.2.2.2.2.1 < F → n ≤ z.2.2.2.2.2.1 → PoB L g ep B (fun μ' => EM 221 (d + 7) 102 [some (.ref 1298), l1, l2, l3] [] μ' (0, 0) Q) (rdAll f L F n z) → EM 221 (d + 7) 80 [some (.ref 1298), l1, l2, l3] [] (uA (uA (uA B 1302 z.1) 1300 z.2.1) 1298 (mdT g L z.2.2.2.2 (nI 0) ep n z.2.2.2.1 z.2.2.1)) (0, 0) Q := by
  intro F
  induction F with
  | zero => intro n z h1 h2; omega
  | succ F ih =>
    intro n z h1 h2 h3 hq
    obtain ⟨a1, a2, a3, a4⟩ := h1
    have hM2 : MdC (uA (uA B 1302 z.1) 1300 z.2.1) f L := ⟨hM, fun k hk => by rw [mI_An (by omega), mI_An (by omega)]; exact hb k hk, hf, hL⟩
    have hX2 : TxC (uA (uA B 1302 z.1) 1300 z.2.1) := (hX.uA (by omega)).uA (by omega)
    have hle := a2.2.1
    have hle2 := a2.2.2.1
    have hM0 := hM
    obtain ⟨p1, p2, p3, p4, p5, p6, p7, p8, p9, p10, p11, p12, p13, p14, p15, p16, p17, p18, p19, p20, p21⟩ := hM
    rw [rdAll] at hq
    rw [e_221_80]
    by_cases c0 : z.2.2.2.2.1 = 0
    · rw [if_pos c0] at hq
      have e1 : (nI (mkk z.2.2.2.2.1) = nI 3) = True := (mkk0 a2.1).trans (eq_true c0)
      simp (disch := first | omega | rfl) only [e_221_0, e_221_1, e_221_2, e_221_5, e_221_6, e_221_9, e_221_10, e_221_11, e_221_14, e_221_17, e_221_19, e_221_20, e_221_21, e_221_24, e_221_25, e_221_28, e_221_31, e_221_32, e_221_35, e_221_36, e_221_39, e_221_42, e_221_43, e_221_46, e_221_47, e_221_48, e_221_51, e_221_52, e_221_53, e_221_56, e_221_57, e_221_58, e_221_61, e_221_62, e_221_63, e_221_66, e_221_67, e_221_68, e_221_71, e_221_72, e_221_73, e_221_76, e_221_77, e_221_81, e_221_84, e_221_87, e_221_88, e_221_91, e_221_92, e_221_95, e_221_96, e_221_99, e_221_103, e_221_104, e_221_107, e_221_108, e_221_109, e_221_112, e_221_115, e_221_116, e_221_119, e_221_120, e_221_123, e_221_126, e_221_127, e_221_130, e_221_133, e_221_134, e_221_137, e_221_138, e_221_141, e_221_144, e_221_145, e_221_148, e_221_149, e_221_152, e_221_155, e_221_156, e_221_159, e_221_160, e_221_161, e_221_163, e_221_164, e_221_167, e_221_170, e_221_171, e_221_173, e_221_175, e_221_178, e_221_179, e_221_180, e_221_182, e_221_183, e_221_184, e_221_185, e_221_188, e_221_189, e_221_190, e_221_193, e_221_196, e_221_199, e_221_200, e_221_201, e_221_204, e_221_207, e_221_210, e_221_211, e_221_212, e_221_215, e_221_216, e_221_219, p1, p2, p3, p4, p5, p6, p7, p8, p9, p10, p11, p12, p13, p14, p15, p16, p17, p18, p19, p20, p21, ge1, ule_t, true_or, or_true, nI_add, nI_mul, nI_sub, nI_clamp, nI_lt_t, nI_lt_f, nI_le_t, nI_le_f, nI_eq_t, nI_eq_f, vp_nI, tI, fI, not_true, not_false_iff, true_and, and_true, Classical.not_not, mS_uI, mS_uA, mS_uJ, mS_uR, mS_uX, mR_uI, mR_uA, mR_uJ, mR_uX, mX_uI, mX_uA, mX_uJ, mX_uR, mI_s, mI_n, mI_A, mI_An, mI_uJ, mI_uR, mI_uX, mJ_uI, mJ_uA, mJ_uR, mJ_uX, onR_s, kC_v, kC_n, kC_t, mI_A, mdT_19, mdT_17, e1]
      exact hq
    · rw [if_neg c0] at hq
      have e1 : (nI (mkk z.2.2.2.2.1) = nI 3) = False := (mkk0 a2.1).trans (eq_false c0)
      have hlt := a2.2.2.2.1 c0
      have hok := ok_rdOne (f := f) (L := L) a1 a2 a3 a4 c0
      simp (disch := first | omega | rfl) only [e_221_0, e_221_1, e_221_2, e_221_5, e_221_6, e_221_9, e_221_10, e_221_11, e_221_14, e_221_17, e_221_19, e_221_20, e_221_21, e_221_24, e_221_25, e_221_28, e_221_31, e_221_32, e_221_35, e_221_36, e_221_39, e_221_42, e_221_43, e_221_46, e_221_47, e_221_48, e_221_51, e_221_52, e_221_53, e_221_56, e_221_57, e_221_58, e_221_61, e_221_62, e_221_63, e_221_66, e_221_67, e_221_68, e_221_71, e_221_72, e_221_73, e_221_76, e_221_77, e_221_81, e_221_84, e_221_87, e_221_88, e_221_91, e_221_92, e_221_95, e_221_96, e_221_99, e_221_103, e_221_104, e_221_107, e_221_108, e_221_109, e_221_112, e_221_115, e_221_116, e_221_119, e_221_120, e_221_123, e_221_126, e_221_127, e_221_130, e_221_133, e_221_134, e_221_137, e_221_138, e_221_141, e_221_144, e_221_145, e_221_148, e_221_149, e_221_152, e_221_155, e_221_156, e_221_159, e_221_160, e_221_161, e_221_163, e_221_164, e_221_167, e_221_170, e_221_171, e_221_173, e_221_175, e_221_178, e_221_179, e_221_180, e_221_182, e_221_183, e_221_184, e_221_185, e_221_188, e_221_189, e_221_190, e_221_193, e_221_196, e_221_199, e_221_200, e_221_201, e_221_204, e_221_207, e_221_210, e_221_211, e_221_212, e_221_215, e_221_216, e_221_219, p1, p2, p3, p4, p5, p6, p7, p8, p9, p10, p11, p12, p13, p14, p15, p16, p17, p18, p19, p20, p21, ge1, ule_t, true_or, or_true, nI_add, nI_mul, nI_sub, nI_clamp, nI_lt_t, nI_lt_f, nI_le_t, nI_le_f, nI_eq_t, nI_eq_f, vp_nI, tI, fI, not_true, not_false_iff, true_and, and_true, Classical.not_not, mS_uI, mS_uA, mS_uJ, mS_uR, mS_uX, mR_uI, mR_uA, mR_uJ, mR_uX, mX_uI, mX_uA, mX_uJ, mX_uR, mI_s, mI_n, mI_A, mI_An, mI_uJ, mI_uR, mI_uX, mJ_uI, mJ_uA, mJ_uR, mJ_uX, onR_s, kC_v, kC_n, kC_t, mI_A, mdT_19, mdT_17, e1]
      refine m_220 hM2 hX2 (by rw [eR, eT]; exact a1) a2 a4 a3 (by omega) ?_
      rw [eR, eT]
      generalize rdOne f L z.1 z.2.1 z.2.2.1 z.2.2.2.1 z.2.2.2.2 = y at *
      cases y with
      | inl e =>
        have hne := (okE_n hok.1).1
        intro r' tn' k ts hs hr ht
        rw [uA_c]
        simp (disch := first | omega | rfl) only [e_221_0, e_221_1, e_221_2, e_221_5, e_221_6, e_221_9, e_221_10, e_221_11, e_221_14, e_221_17, e_221_19, e_221_20, e_221_21, e_221_24, e_221_25, e_221_28, e_221_31, e_221_32, e_221_35, e_221_36, e_221_39, e_221_42, e_221_43, e_221_46, e_221_47, e_221_48, e_221_51, e_221_52, e_221_53, e_221_56, e_221_57, e_221_58, e_221_61, e_221_62, e_221_63, e_221_66, e_221_67, e_221_68, e_221_71, e_221_72, e_221_73, e_221_76, e_221_77, e_221_81, e_221_84, e_221_87, e_221_88, e_221_91, e_221_92, e_221_95, e_221_96, e_221_99, e_221_103, e_221_104, e_221_107, e_221_108, e_221_109, e_221_112, e_221_115, e_221_116, e_221_119, e_221_120, e_221_123, e_221_126, e_221_127, e_221_130, e_221_133, e_221_134, e_221_137, e_221_138, e_221_141, e_221_144, e_221_145, e_221_148, e_221_149, e_221_152, e_221_155, e_221_156, e_221_159, e_221_160, e_221_161, e_221_163, e_221_164, e_221_167, e_221_170, e_221_171, e_221_173, e_221_175, e_221_178, e_221_179, e_221_180, e_221_182, e_221_183, e_221_184, e_221_185, e_221_188, e_221_189, e_221_190, e_221_193, e_221_196, e_221_199, e_221_200, e_221_201, e_221_204, e_221_207, e_221_210, e_221_211, e_221_212, e_221_215, e_221_216, e_221_219, p1, p2, p3, p4, p5, p6, p7, p8, p9, p10, p11, p12, p13, p14, p15, p16, p17, p18, p19, p20, p21, ge1, ule_t, true_or, or_true, nI_add, nI_mul, nI_sub, nI_clamp, nI_lt_t, nI_lt_f, nI_le_t, nI_le_f, nI_eq_t, nI_eq_f, vp_nI, tI, fI, not_true, not_false_iff, true_and, and_true, Classical.not_not, mS_uI, mS_uA, mS_uJ, mS_uR, mS_uX, mR_uI, mR_uA, mR_uJ, mR_uX, mX_uI, mX_uA, mX_uJ, mX_uR, mI_s, mI_n, mI_A, mI_An, mI_uJ, mI_uR, mI_uX, mJ_uI, mJ_uA, mJ_uR, mJ_uX, onR_s, kC_v, kC_n, kC_t, kC_n]
        rw [e_221_80]
        simp (disch := first | omega | rfl) only [e_221_0, e_221_1, e_221_2, e_221_5, e_221_6, e_221_9, e_221_10, e_221_11, e_221_14, e_221_17, e_221_19, e_221_20, e_221_21, e_221_24, e_221_25, e_221_28, e_221_31, e_221_32, e_221_35, e_221_36, e_221_39, e_221_42, e_221_43, e_221_46, e_221_47, e_221_48, e_221_51, e_221_52, e_221_53, e_221_56, e_221_57, e_221_58, e_221_61, e_221_62, e_221_63, e_221_66, e_221_67, e_221_68, e_221_71, e_221_72, e_221_73, e_221_76, e_221_77, e_221_81, e_221_84, e_221_87, e_221_88, e_221_91, e_221_92, e_221_95, e_221_96, e_221_99, e_221_103, e_221_104, e_221_107, e_221_108, e_221_109, e_221_112, e_221_115, e_221_116, e_221_119, e_221_120, e_221_123, e_221_126, e_221_127, e_221_130, e_221_133, e_221_134, e_221_137, e_221_138, e_221_141, e_221_144, e_221_145, e_221_148, e_221_149, e_221_152, e_221_155, e_221_156, e_221_159, e_221_160, e_221_161, e_221_163, e_221_164, e_221_167, e_221_170, e_221_171, e_221_173, e_221_175, e_221_178, e_221_179, e_221_180, e_221_182, e_221_183, e_221_184, e_221_185, e_221_188, e_221_189, e_221_190, e_221_193, e_221_196, e_221_199, e_221_200, e_221_201, e_221_204, e_221_207, e_221_210, e_221_211, e_221_212, e_221_215, e_221_216, e_221_219, p1, p2, p3, p4, p5, p6, p7, p8, p9, p10, p11, p12, p13, p14, p15, p16, p17, p18, p19, p20, p21, ge1, ule_t, true_or, or_true, nI_add, nI_mul, nI_sub, nI_clamp, nI_lt_t, nI_lt_f, nI_le_t, nI_le_f, nI_eq_t, nI_eq_f, vp_nI, tI, fI, not_true, not_false_iff, true_and, and_true, Classical.not_not, mS_uI, mS_uA, mS_uJ, mS_uR, mS_uX, mR_uI, mR_uA, mR_uJ, mR_uX, mX_uI, mX_uA, mX_uJ, mX_uR, mI_s, mI_n, mI_A, mI_An, mI_uJ, mI_uR, mI_uX, mJ_uI, mJ_uA, mJ_uR, mJ_uX, onR_s, kC_v, kC_n, kC_t, mI_A, mdT_19, hne]
        exact hq r' tn' k (n + 1) ts hs hr ht
      | inr y =>
        obtain ⟨b1, b2, b3, b4, b5⟩ := hok
        unfold PoM
        dsimp only
        rw [uA_c]
        simp (disch := first | omega | rfl) only [e_221_0, e_221_1, e_221_2, e_221_5, e_221_6, e_221_9, e_221_10, e_221_11, e_221_14, e_221_17, e_221_19, e_221_20, e_221_21, e_221_24, e_221_25, e_221_28, e_221_31, e_221_32, e_221_35, e_221_36, e_221_39, e_221_42, e_221_43, e_221_46, e_221_47, e_221_48, e_221_51, e_221_52, e_221_53, e_221_56, e_221_57, e_221_58, e_221_61, e_221_62, e_221_63, e_221_66, e_221_67, e_221_68, e_221_71, e_221_72, e_221_73, e_221_76, e_221_77, e_221_81, e_221_84, e_221_87, e_221_88, e_221_91, e_221_92, e_221_95, e_221_96, e_221_99, e_221_103, e_221_104, e_221_107, e_221_108, e_221_109, e_221_112, e_221_115, e_221_116, e_221_119, e_221_120, e_221_123, e_221_126, e_221_127, e_221_130, e_221_133, e_221_134, e_221_137, e_221_138, e_221_141, e_221_144, e_221_145, e_221_148, e_221_149, e_221_152, e_221_155, e_221_156, e_221_159, e_221_160, e_221_161, e_221_163, e_221_164, e_221_167, e_221_170, e_221_171, e_221_173, e_221_175, e_221_178, e_221_179, e_221_180, e_221_182, e_221_183, e_221_184, e_221_185, e_221_188, e_221_189, e_221_190, e_221_193, e_221_196, e_221_199, e_221_200, e_221_201, e_221_204, e_221_207, e_221_210, e_221_211, e_221_212, e_221_215, e_221_216, e_221_219, p1, p2, p3, p4, p5, p6, p7, p8, p9, p10, p11, p12, p13, p14, p15, p16, p17, p18, p19, p20, p21, ge1, ule_t, true_or, or_true, nI_add, nI_mul, nI_sub, nI_clamp, nI_lt_t, nI_lt_f, nI_le_t, nI_le_f, nI_eq_t, nI_eq_f, vp_nI, tI, fI, not_true, not_false_iff, true_and, and_true, Classical.not_not, mS_uI, mS_uA, mS_uJ, mS_uR, mS_uX, mR_uI, mR_uA, mR_uJ, mR_uX, mX_uI, mX_uA, mX_uJ, mX_uR, mI_s, mI_n, mI_A, mI_An, mI_uJ, mI_uR, mI_uX, mJ_uI, mJ_uA, mJ_uR, mJ_uX, onR_s, kC_v, kC_n, kC_t, kC_n]
        exact ih (n + 1) y ⟨b1, b2, b3, b4⟩ (by have := b2.2.1; have := b2.2.2.1; omega) (by omega) hq
theorem rBg_s (hm : m < 6) : upd (xcF (rBg R T rt m) T m 16) (3 + 64 * m + (23 + 0)) rt = rBg R T rt (m + 1) := by
  funext x
  unfold upd xcF rBg
  by_cases h1 : x = 3 + 64 * m + (23 + 0)
  · rw [if_pos h1, if_neg (by omega), if_pos (by omega)]
  · rw [if_neg h1]
    by_cases h2 : 3 + 64 * m + 7 ≤ x ∧ x < 3 + 64 * m + 7 + 16
    · rw [if_pos h2, if_pos (by omega)]
      congr 1
      omega
    · rw [if_neg h2]
      by_cases h3 : 3 ≤ x ∧ x < 3 + 64 * m ∧ 7 ≤ (x - 3) % 64 ∧ (x - 3) % 64 < 23
      · rw [if_pos h3, if_pos (by omega)]
      · rw [if_neg h3]
        by_cases h4 : 3 ≤ x ∧ x < 3 + 64 * m ∧ (x - 3) % 64 = 23
        · rw [if_pos h4, if_neg (by omega), if_pos (by omega)]
        · rw [if_neg h4, if_neg (by omega), if_neg (by omega)]
theorem l_221c (hM : ShM μ1) (hm : m < 6) (hT : mI μ1 1300 = T) : ∀ j k, k + j = 16 → EM 221 (d + 7) 172 [some (.ref 1298), l1, some (.int (nI m)), some (.int (nI k))] [] (uA μ1 1302 (xcF R T m k)) (0, 0) Q = EM 221 (d + 7) 199 [some (.ref 1298), l1, some (.int (nI m)), some (.int (nI 16))] [] (uA μ1 1302 (xcF R T m 16)) (0, 0) Q := by
  have hM0 := hM
  obtain ⟨p1, p2, p3, p4, p5, p6, p7, p8, p9, p10, p11, p12, p13, p14, p15, p16, p17, p18, p19, p20, p21⟩ := hM
  intro j
  induction j with
  | zero =>
    intro k hk
    obtain rfl : k = 16 := by omega
    rw [e_221_172]
    simp (disch := first | omega | rfl) only [e_221_0, e_221_1, e_221_2, e_221_5, e_221_6, e_221_9, e_221_10, e_221_11, e_221_14, e_221_17, e_221_19, e_221_20, e_221_21, e_221_24, e_221_25, e_221_28, e_221_31, e_221_32, e_221_35, e_221_36, e_221_39, e_221_42, e_221_43, e_221_46, e_221_47, e_221_48, e_221_51, e_221_52, e_221_53, e_221_56, e_221_57, e_221_58, e_221_61, e_221_62, e_221_63, e_221_66, e_221_67, e_221_68, e_221_71, e_221_72, e_221_73, e_221_76, e_221_77, e_221_81, e_221_84, e_221_87, e_221_88, e_221_91, e_221_92, e_221_95, e_221_96, e_221_99, e_221_102, e_221_103, e_221_104, e_221_107, e_221_108, e_221_109, e_221_112, e_221_115, e_221_116, e_221_119, e_221_120, e_221_123, e_221_126, e_221_127, e_221_130, e_221_133, e_221_134, e_221_137, e_221_138, e_221_141, e_221_144, e_221_145, e_221_148, e_221_149, e_221_152, e_221_155, e_221_156, e_221_159, e_221_160, e_221_161, e_221_163, e_221_164, e_221_167, e_221_170, e_221_171, e_221_173, e_221_175, e_221_178, e_221_179, e_221_180, e_221_182, e_221_183, e_221_184, e_221_185, e_221_188, e_221_189, e_221_190, e_221_193, e_221_196, e_221_200, e_221_201, e_221_204, e_221_207, e_221_210, e_221_211, e_221_212, e_221_215, e_221_216, e_221_219, ge1, ule_t, true_or, or_true, nI_add, nI_mul, nI_sub, nI_clamp, nI_lt_t, nI_lt_f, nI_le_t, nI_le_f, nI_eq_t, nI_eq_f, vp_nI, tI, fI, not_true, not_false_iff, true_and, and_true, Classical.not_not, mS_uI, mS_uA, mS_uJ, mS_uR, mS_uX, mR_uI, mR_uA, mR_uJ, mR_uX, mX_uI, mX_uA, mX_uJ, mX_uR, mI_s, mI_n, mI_A, mI_An, mI_uJ, mI_uR, mI_uX, mJ_uI, mJ_uA, mJ_uR, mJ_uX, onR_s, kC_v, kC_n, kC_t]
  | succ j ih =>
    intro k hk
    have hi := ih (k + 1) (by omega)
    rw [← xcF_s] at hi
    rw [e_221_172]
    simp (disch := first | omega | rfl) only [e_221_0, e_221_1, e_221_2, e_221_5, e_221_6, e_221_9, e_221_10, e_221_11, e_221_14, e_221_17, e_221_19, e_221_20, e_221_21, e_221_24, e_221_25, e_221_28, e_221_31, e_221_32, e_221_35, e_221_36, e_221_39, e_221_42, e_221_43, e_221_46, e_221_47, e_221_48, e_221_51, e_221_52, e_221_53, e_221_56, e_221_57, e_221_58, e_221_61, e_221_62, e_221_63, e_221_66, e_221_67, e_221_68, e_221_71, e_221_72, e_221_73, e_221_76, e_221_77, e_221_81, e_221_84, e_221_87, e_221_88, e_221_91, e_221_92, e_221_95, e_221_96, e_221_99, e_221_102, e_221_103, e_221_104, e_221_107, e_221_108, e_221_109, e_221_112, e_221_115, e_221_116, e_221_119, e_221_120, e_221_123, e_221_126, e_221_127, e_221_130, e_221_133, e_221_134, e_221_137, e_221_138, e_221_141, e_221_144, e_221_145, e_221_148, e_221_149, e_221_152, e_221_155, e_221_156, e_221_159, e_221_160, e_221_161, e_221_163, e_221_164, e_221_167, e_221_170, e_221_171, e_221_173, e_221_175, e_221_178, e_221_179, e_221_180, e_221_182, e_221_183, e_221_184, e_221_185, e_221_188, e_221_189, e_221_190, e_221_193, e_221_196, e_221_200, e_221_201, e_221_204, e_221_207, e_221_210, e_221_211, e_221_212, e_221_215, e_221_216, e_221_219, p1, p2, p3, p4, p5, p6, p7, p8, p9, p10, p11, p12, p13, p14, p15, p16, p17, p18, p19, p20, p21, ge1, ule_t, true_or, or_true, nI_add, nI_mul, nI_sub, nI_clamp, nI_lt_t, nI_lt_f, nI_le_t, nI_le_f, nI_eq_t, nI_eq_f, vp_nI, tI, fI, not_true, not_false_iff, true_and, and_true, Classical.not_not, mS_uI, mS_uA, mS_uJ, mS_uR, mS_uX, mR_uI, mR_uA, mR_uJ, mR_uX, mX_uI, mX_uA, mX_uJ, mX_uR, mI_s, mI_n, mI_A, mI_An, mI_uJ, mI_uR, mI_uX, mJ_uI, mJ_uA, mJ_uR, mJ_uX, onR_s, kC_v, kC_n, kC_t, mI_An, hT, s_167 (ShM_uA hM0), uIA]
    exact hi
theorem l_221b {H : Mu} (hM : ShM H) (hT : mI H 1300 = T) (hn : R 2 = nI n) (h6 : n ≤ 6) (h1 : ∀ m, m < n → R (3 + 64 * m + 1) = nI 0) (hq : ∀ μ', Fr PX H μ' → mI μ' 1302 = rBg R T (rtT T) n → EM 221 (d + 7) 210 [some (.ref 1298), l1, some (.int (nI n)), some (.int (nI 16))] [] μ' (0, 0) Q) (hq0 : n = 0 → EM 221 (d + 7) 210 [some (.ref 1298), l1, some (.int (nI 0)), none] [] H (0, 0) Q) (hR : mI H 1302 = R) : EM 221 (d + 7) 162 [some (.ref 1298), l1, some (.int (nI 0)), none] [] H (0, 0) Q := by
  have key : ∀ j m μ' l3, m + j = n → (m = 0 → l3 = none ∧ μ' = H) → (0 < m → l3 = some (.int (nI 16))) → Fr PX H μ' → mI μ' 1302 = rBg R T (rtT T) m → EM 221 (d + 7) 162 [some (.ref 1298), l1, some (.int (nI m)), l3] [] μ' (0, 0) Q := by
    intro j
    induction j with
    | zero =>
      intro m μ' l3 hm h0 hl hf hr
      obtain rfl : m = n := by omega
      have hM2 : ShM μ' := hf.sm hM
      have e2 : mI μ' 1302 2 = nI m := by rw [hr, rBg_o h6 (by omega)]; exact hn
      have hM0 := hM2
      obtain ⟨p1, p2, p3, p4, p5, p6, p7, p8, p9, p10, p11, p12, p13, p14, p15, p16, p17, p18, p19, p20, p21⟩ := hM2
      rw [e_221_162]
      simp (disch := first | omega | rfl) only [e_221_0, e_221_1, e_221_2, e_221_5, e_221_6, e_221_9, e_221_10, e_221_11, e_221_14, e_221_17, e_221_19, e_221_20, e_221_21, e_221_24, e_221_25, e_221_28, e_221_31, e_221_32, e_221_35, e_221_36, e_221_39, e_221_42, e_221_43, e_221_46, e_221_47, e_221_48, e_221_51, e_221_52, e_221_53, e_221_56, e_221_57, e_221_58, e_221_61, e_221_62, e_221_63, e_221_66, e_221_67, e_221_68, e_221_71, e_221_72, e_221_73, e_221_76, e_221_77, e_221_81, e_221_84, e_221_87, e_221_88, e_221_91, e_221_92, e_221_95, e_221_96, e_221_99, e_221_102, e_221_103, e_221_104, e_221_107, e_221_108, e_221_109, e_221_112, e_221_115, e_221_116, e_221_119, e_221_120, e_221_123, e_221_126, e_221_127, e_221_130, e_221_133, e_221_134, e_221_137, e_221_138, e_221_141, e_221_144, e_221_145, e_221_148, e_221_149, e_221_152, e_221_155, e_221_156, e_221_159, e_221_160, e_221_161, e_221_163, e_221_164, e_221_167, e_221_170, e_221_171, e_221_173, e_221_175, e_221_178, e_221_179, e_221_180, e_221_182, e_221_183, e_221_184, e_221_185, e_221_188, e_221_189, e_221_190, e_221_193, e_221_196, e_221_199, e_221_200, e_221_201, e_221_204, e_221_207, e_221_211, e_221_212, e_221_215, e_221_216, e_221_219, p1, p2, p3, p4, p5, p6, p7, p8, p9, p10, p11, p12, p13, p14, p15, p16, p17, p18, p19, p20, p21, ge1, ule_t, true_or, or_true, nI_add, nI_mul, nI_sub, nI_clamp, nI_lt_t, nI_lt_f, nI_le_t, nI_le_f, nI_eq_t, nI_eq_f, vp_nI, tI, fI, not_true, not_false_iff, true_and, and_true, Classical.not_not, mS_uI, mS_uA, mS_uJ, mS_uR, mS_uX, mR_uI, mR_uA, mR_uJ, mR_uX, mX_uI, mX_uA, mX_uJ, mX_uR, mI_s, mI_n, mI_A, mI_An, mI_uJ, mI_uR, mI_uX, mJ_uI, mJ_uA, mJ_uR, mJ_uX, onR_s, kC_v, kC_n, kC_t, s_165 hM0, e2]
      by_cases hz : m = 0
      · obtain ⟨rfl, rfl⟩ := h0 hz
        subst hz
        exact hq0 rfl
      · rw [hl (by omega)]
        exact hq μ' hf hr
    | succ j ih =>
      intro m μ' l3 hm h0 hl hf hr
      have hM2 : ShM μ' := hf.sm hM
      have e2 : mI μ' 1302 2 = nI n := by rw [hr, rBg_o (by omega) (by omega)]; exact hn
      have eT : mI μ' 1300 = T := by rw [← hT]; funext k; exact hf.2.2.2 1300 (by unfold PX; omega) k
      have hc := l_221c (d := d) (Q := Q) (R := rBg R T (rtT T) m) (l1 := l1) hM2 (show m < 6 by omega) eT 16 0 (by omega)
      rw [xcF_0, ← hr, uA_self, hr] at hc
      have hM0 := hM2
      have z1 : rW (xcF (rBg R T (rtT T) m) T m 16) m 1 = nI 0 := by
        show xcF (rBg R T (rtT T) m) T m 16 (3 + 64 * m + 1) = nI 0
        unfold xcF
        rw [if_neg (by omega), rBg_k (by omega)]
        exact h1 m (by omega)
      have hrt : fCk (rW (xcF (rBg R T (rtT T) m) T m 16)) m 1 = rtT T := fTree_eq (fun c hc => by
        show xcF (rBg R T (rtT T) m) T m 16 (3 + 64 * m + (7 + c)) = T c
        unfold xcF
        rw [if_pos (by omega)]
        congr 1
        omega) (by omega) (by omega)
      have h183 := fun (d : Nat) (Q : Po) => s_183 (d := d) (Q := Q) (μ := uA μ' 1302 (xcF (rBg R T (rtT T) m) T m 16)) (m := m) (t := 0) (ShM_uA hM2) (by omega) (by rw [mI_Af]; exact z1) (by omega)
      simp only [mI_Af, hrt] at h183
      obtain ⟨p1, p2, p3, p4, p5, p6, p7, p8, p9, p10, p11, p12, p13, p14, p15, p16, p17, p18, p19, p20, p21⟩ := hM2
      rw [e_221_162]
      simp (disch := first | omega | rfl) only [e_221_0, e_221_1, e_221_2, e_221_5, e_221_6, e_221_9, e_221_10, e_221_11, e_221_14, e_221_17, e_221_19, e_221_20, e_221_21, e_221_24, e_221_25, e_221_28, e_221_31, e_221_32, e_221_35, e_221_36, e_221_39, e_221_42, e_221_43, e_221_46, e_221_47, e_221_48, e_221_51, e_221_52, e_221_53, e_221_56, e_221_57, e_221_58, e_221_61, e_221_62, e_221_63, e_221_66, e_221_67, e_221_68, e_221_71, e_221_72, e_221_73, e_221_76, e_221_77, e_221_81, e_221_84, e_221_87, e_221_88, e_221_91, e_221_92, e_221_95, e_221_96, e_221_99, e_221_102, e_221_103, e_221_104, e_221_107, e_221_108, e_221_109, e_221_112, e_221_115, e_221_116, e_221_119, e_221_120, e_221_123, e_221_126, e_221_127, e_221_130, e_221_133, e_221_134, e_221_137, e_221_138, e_221_141, e_221_144, e_221_145, e_221_148, e_221_149, e_221_152, e_221_155, e_221_156, e_221_159, e_221_160, e_221_161, e_221_163, e_221_164, e_221_167, e_221_170, e_221_171, e_221_173, e_221_175, e_221_178, e_221_179, e_221_180, e_221_182, e_221_183, e_221_184, e_221_185, e_221_188, e_221_189, e_221_190, e_221_193, e_221_196, e_221_200, e_221_201, e_221_204, e_221_207, e_221_210, e_221_211, e_221_212, e_221_215, e_221_216, e_221_219, p1, p2, p3, p4, p5, p6, p7, p8, p9, p10, p11, p12, p13, p14, p15, p16, p17, p18, p19, p20, p21, ge1, ule_t, true_or, or_true, nI_add, nI_mul, nI_sub, nI_clamp, nI_lt_t, nI_lt_f, nI_le_t, nI_le_f, nI_eq_t, nI_eq_f, vp_nI, tI, fI, not_true, not_false_iff, true_and, and_true, Classical.not_not, mS_uI, mS_uA, mS_uJ, mS_uR, mS_uX, mR_uI, mR_uA, mR_uJ, mR_uX, mX_uI, mX_uA, mX_uJ, mX_uR, mI_s, mI_n, mI_A, mI_An, mI_uJ, mI_uR, mI_uX, mJ_uI, mJ_uA, mJ_uR, mJ_uX, onR_s, kC_v, kC_n, kC_t, s_165 hM0, e2]
      rw [hc]
      simp (disch := first | omega | rfl) only [e_221_0, e_221_1, e_221_2, e_221_5, e_221_6, e_221_9, e_221_10, e_221_11, e_221_14, e_221_17, e_221_19, e_221_20, e_221_21, e_221_24, e_221_25, e_221_28, e_221_31, e_221_32, e_221_35, e_221_36, e_221_39, e_221_42, e_221_43, e_221_46, e_221_47, e_221_48, e_221_51, e_221_52, e_221_53, e_221_56, e_221_57, e_221_58, e_221_61, e_221_62, e_221_63, e_221_66, e_221_67, e_221_68, e_221_71, e_221_72, e_221_73, e_221_76, e_221_77, e_221_81, e_221_84, e_221_87, e_221_88, e_221_91, e_221_92, e_221_95, e_221_96, e_221_99, e_221_102, e_221_103, e_221_104, e_221_107, e_221_108, e_221_109, e_221_112, e_221_115, e_221_116, e_221_119, e_221_120, e_221_123, e_221_126, e_221_127, e_221_130, e_221_133, e_221_134, e_221_137, e_221_138, e_221_141, e_221_144, e_221_145, e_221_148, e_221_149, e_221_152, e_221_155, e_221_156, e_221_159, e_221_160, e_221_161, e_221_163, e_221_164, e_221_167, e_221_170, e_221_171, e_221_173, e_221_175, e_221_178, e_221_179, e_221_180, e_221_182, e_221_183, e_221_184, e_221_185, e_221_188, e_221_189, e_221_190, e_221_193, e_221_196, e_221_199, e_221_200, e_221_201, e_221_204, e_221_207, e_221_210, e_221_211, e_221_212, e_221_215, e_221_216, e_221_219, p1, p2, p3, p4, p5, p6, p7, p8, p9, p10, p11, p12, p13, p14, p15, p16, p17, p18, p19, p20, p21, ge1, ule_t, true_or, or_true, nI_add, nI_mul, nI_sub, nI_clamp, nI_lt_t, nI_lt_f, nI_le_t, nI_le_f, nI_eq_t, nI_eq_f, vp_nI, tI, fI, not_true, not_false_iff, true_and, and_true, Classical.not_not, mS_uI, mS_uA, mS_uJ, mS_uR, mS_uX, mR_uI, mR_uA, mR_uJ, mR_uX, mX_uI, mX_uA, mX_uJ, mX_uR, mI_s, mI_n, mI_A, mI_An, mI_uJ, mI_uR, mI_uX, mJ_uI, mJ_uA, mJ_uR, mJ_uX, onR_s, kC_v, kC_n, kC_t, h183]
      have hT3 := mTree_fr (μ := uA μ' 1302 (xcF (rBg R T (rtT T) m) T m 16)) (m := m)
      refine ih (m + 1) _ _ (by omega) (fun z => absurd z (by omega)) (fun _ => rfl) ?_ ?_
      · exact ((hf.au (Or.inl rfl)).trans (hT3.mono (fun a ha => by unfold PX; omega))).iu (Or.inl rfl)
      · have e3 : mI (mTree (uA μ' 1302 (xcF (rBg R T (rtT T) m) T m 16)) m) 1302 = xcF (rBg R T (rtT T) m) T m 16 := by
          funext k
          rw [hT3.2.2.2 1302 (by omega), mI_A]
        rw [mI_sf, e3]
        exact rBg_s (by omega)
  exact key n 0 H none (by omega) (fun _ => ⟨rfl, rfl⟩) (fun z => absurd z (by omega)) Fr.refl (by
    rw [hR]
    funext x
    unfold rBg
    rw [if_neg (by omega), if_neg (by omega)])
theorem m_221f (hM : ShM μ) (hn : mI μ 1298 2 = nI n) (hn9 : n ≤ 900) (hx : bad x (n + 1)) : Ev (d + 8) 221 [.ref 1298, .int x] μ Q = Q (some (some (.int (-2)))) (uI μ 1298 0 (nI 0)) := by
  obtain ⟨p1, p2, p3, p4, p5, p6, p7, p8, p9, p10, p11, p12, p13, p14, p15, p16, p17, p18, p19, p20, p21⟩ := hM
  rw [in_221]
  rcases bad2 hx with h1 | ⟨h1, h2, h3⟩
  · simp (disch := first | omega | rfl) only [e_221_0, e_221_1, e_221_2, e_221_5, e_221_6, e_221_9, e_221_10, e_221_11, e_221_14, e_221_17, e_221_19, e_221_20, e_221_21, e_221_24, e_221_25, e_221_28, e_221_31, e_221_32, e_221_35, e_221_36, e_221_39, e_221_42, e_221_43, e_221_46, e_221_47, e_221_48, e_221_51, e_221_52, e_221_53, e_221_56, e_221_57, e_221_58, e_221_61, e_221_62, e_221_63, e_221_66, e_221_67, e_221_68, e_221_71, e_221_72, e_221_73, e_221_76, e_221_77, e_221_81, e_221_84, e_221_87, e_221_88, e_221_91, e_221_92, e_221_95, e_221_96, e_221_99, e_221_102, e_221_103, e_221_104, e_221_107, e_221_108, e_221_109, e_221_112, e_221_115, e_221_116, e_221_119, e_221_120, e_221_123, e_221_126, e_221_127, e_221_130, e_221_133, e_221_134, e_221_137, e_221_138, e_221_141, e_221_144, e_221_145, e_221_148, e_221_149, e_221_152, e_221_155, e_221_156, e_221_159, e_221_160, e_221_161, e_221_163, e_221_164, e_221_167, e_221_170, e_221_171, e_221_173, e_221_175, e_221_178, e_221_179, e_221_180, e_221_182, e_221_183, e_221_184, e_221_185, e_221_188, e_221_189, e_221_190, e_221_193, e_221_196, e_221_199, e_221_200, e_221_201, e_221_204, e_221_207, e_221_210, e_221_211, e_221_212, e_221_215, e_221_216, e_221_219, p1, p2, p3, p4, p5, p6, p7, p8, p9, p10, p11, p12, p13, p14, p15, p16, p17, p18, p19, p20, p21, ge1, ule_t, true_or, or_true, nI_add, nI_mul, nI_sub, nI_clamp, nI_lt_t, nI_lt_f, nI_le_t, nI_le_f, nI_eq_t, nI_eq_f, vp_nI, tI, fI, not_true, not_false_iff, true_and, and_true, Classical.not_not, mS_uI, mS_uA, mS_uJ, mS_uR, mS_uX, mR_uI, mR_uA, mR_uJ, mR_uX, mX_uI, mX_uA, mX_uJ, mX_uR, mI_s, mI_n, mI_A, mI_An, mI_uJ, mI_uR, mI_uX, mJ_uI, mJ_uA, mJ_uR, mJ_uX, onR_s, kC_v, kC_n, kC_t, hn, h1]
  · have h4 : ¬ x ≤ nI n := fun z => by
      have e1 := Int32.le_iff_toInt_le.mp h3
      have e2 := Int32.le_iff_toInt_le.mp z
      rw [nI_toInt (by omega)] at e1
      rw [nI_toInt (by omega)] at e2
      omega
    simp (disch := first | omega | rfl) only [e_221_0, e_221_1, e_221_2, e_221_5, e_221_6, e_221_9, e_221_10, e_221_11, e_221_14, e_221_17, e_221_19, e_221_20, e_221_21, e_221_24, e_221_25, e_221_28, e_221_31, e_221_32, e_221_35, e_221_36, e_221_39, e_221_42, e_221_43, e_221_46, e_221_47, e_221_48, e_221_51, e_221_52, e_221_53, e_221_56, e_221_57, e_221_58, e_221_61, e_221_62, e_221_63, e_221_66, e_221_67, e_221_68, e_221_71, e_221_72, e_221_73, e_221_76, e_221_77, e_221_81, e_221_84, e_221_87, e_221_88, e_221_91, e_221_92, e_221_95, e_221_96, e_221_99, e_221_102, e_221_103, e_221_104, e_221_107, e_221_108, e_221_109, e_221_112, e_221_115, e_221_116, e_221_119, e_221_120, e_221_123, e_221_126, e_221_127, e_221_130, e_221_133, e_221_134, e_221_137, e_221_138, e_221_141, e_221_144, e_221_145, e_221_148, e_221_149, e_221_152, e_221_155, e_221_156, e_221_159, e_221_160, e_221_161, e_221_163, e_221_164, e_221_167, e_221_170, e_221_171, e_221_173, e_221_175, e_221_178, e_221_179, e_221_180, e_221_182, e_221_183, e_221_184, e_221_185, e_221_188, e_221_189, e_221_190, e_221_193, e_221_196, e_221_199, e_221_200, e_221_201, e_221_204, e_221_207, e_221_210, e_221_211, e_221_212, e_221_215, e_221_216, e_221_219, p1, p2, p3, p4, p5, p6, p7, p8, p9, p10, p11, p12, p13, p14, p15, p16, p17, p18, p19, p20, p21, ge1, ule_t, true_or, or_true, nI_add, nI_mul, nI_sub, nI_clamp, nI_lt_t, nI_lt_f, nI_le_t, nI_le_f, nI_eq_t, nI_eq_f, vp_nI, tI, fI, not_true, not_false_iff, true_and, and_true, Classical.not_not, mS_uI, mS_uA, mS_uJ, mS_uR, mS_uX, mR_uI, mR_uA, mR_uJ, mR_uX, mX_uI, mX_uA, mX_uJ, mX_uR, mI_s, mI_n, mI_A, mI_An, mI_uJ, mI_uR, mI_uX, mJ_uI, mJ_uA, mJ_uR, mJ_uX, onR_s, kC_v, kC_n, kC_t, hn, h1, h4]
theorem fil_back {r old r' : Nat → Int32} {N : Nat} (h : ∀ x, N ≤ x → r x = 0) (h' : ∀ x, N ≤ x → r' x = 0) : fil (fil r old N) r' N = r := by
  funext x
  unfold fil
  by_cases hx : x < N
  · rw [if_pos hx, if_pos hx]
  · rw [if_neg hx, h' x (by omega), h x (by omega)]
def mBs (μ : Mu) : Mu := uA (uA (uI μ 1298 0 (nI 0)) 1301 (fil (mI μ 1300) (mI μ 1301) 22)) 1303 (fil (mI μ 1302) (mI μ 1303) 1782)
theorem mS_mBs : mS (mBs μ) = mS μ := rfl
theorem mR_mBs : mR (mBs μ) = mR μ := rfl
theorem mBs_fr : Fr PLm μ (mBs μ) := by
  unfold mBs
  exact ((Fr.refl.iu (Or.inl rfl)).au (Or.inr (Or.inr (Or.inl rfl)))).au (Or.inr (Or.inr (Or.inr (Or.inr (Or.inl rfl)))))
theorem mBs_I (h1 : a ≠ 1298) (h2 : a ≠ 1301) (h3 : a ≠ 1303) : mI (mBs μ) a = mI μ a := by
  unfold mBs
  rw [mI_Anf h3, mI_Anf h2, mI_nf h1]
theorem mBs_98 : mI (mBs μ) 1298 = upd (mI μ 1298) 0 (nI 0) := by
  unfold mBs
  rw [mI_Anf (by omega), mI_Anf (by omega), mI_sf]
theorem mBs_1 : mI (mBs μ) 1301 = fil (mI μ 1300) (mI μ 1301) 22 := by
  unfold mBs
  rw [mI_Anf (by omega), mI_Af]
theorem mBs_3 : mI (mBs μ) 1303 = fil (mI μ 1302) (mI μ 1303) 1782 := by
  unfold mBs
  rw [mI_Af]
theorem uA_back {G r' t' : Nat → Int32} (hR : RN (mI μ 1302)) (hT : ∀ j, 22 ≤ j → mI μ 1300 j = 0) (hr : RN r') (ht : ∀ j, 22 ≤ j → t' j = 0) : uA (uA (uA (uA (uA (mBs μ) 1302 r') 1300 t') 1298 G) 1300 (mI μ 1300)) 1302 (mI μ 1302) = uA (mBs μ) 1298 G := by
  have e2 : mI (mBs μ) 1302 = mI μ 1302 := mBs_I (by omega) (by omega) (by omega)
  have e0 : mI (mBs μ) 1300 = mI μ 1300 := mBs_I (by omega) (by omega) (by omega)
  rw [uA_20, uA_28, uA_A, uA_02, uA_A, ← e2, ← e0, keepRT]
theorem m_221 (hM : ShM μ) (hb : ∀ k, k < n → mI μ 1299 k = nI (f k)) (hf : ∀ k, f k < 256) (hn9 : n ≤ 900) (hX : TxC μ) (hn : mI μ 1298 2 = nI n) (hv : mI μ 1298 18 = nI v) (hv9 : v ≤ 1000009) (hR : RN (mI μ 1302)) (hT : ∀ j, 22 ≤ j → mI μ 1300 j = 0) (hLn : L ≤ n) (hq : PoLm μ Q (rdAll f L (L + 1) 0 (rZ, tZ (mI μ 1300), 0, 0, tkn f L 0 v))) : Ev (d + 8) 221 [.ref 1298, .int (nI L)] μ Q := by
  have hM0 := hM
  have hMB : ShM (mBs μ) := hM
  have hXB : TxC (mBs μ) := hX.fr mBs_fr (fun a ha => by unfold PLm at ha; omega)
  have e2 : mI (mBs μ) 1302 = mI μ 1302 := mBs_I (by omega) (by omega) (by omega)
  have e0 : mI (mBs μ) 1300 = mI μ 1300 := mBs_I (by omega) (by omega) (by omega)
  have e9 : mI (mBs μ) 1299 = mI μ 1299 := mBs_I (by omega) (by omega) (by omega)
  have hMC : MdC (uA (uA (mBs μ) 1302 rZ) 1300 (tZ (mI μ 1300))) f L := ⟨hMB, fun k hk => by rw [mI_An (by omega), mI_An (by omega), e9]; exact hb k (by omega), hf, by omega⟩
  have h164 : ∀ (d : Nat) (Q : Po), Ev (d + 1) 164 [.ref 1298] (mBs μ) Q = Q (some none) (uA (uA (uA (mBs μ) 1302 rZ) 1300 (tZ (mI μ 1300))) 1298 (upd (mI μ 1298) 0 (nI 0))) := fun d Q => by
    have h := s_164 (d := d) (Q := Q) hMB (by rw [e2]; exact hR)
    rw [e0] at h
    rw [h]
    have e5 : mI (uA (uA (mBs μ) 1302 rZ) 1300 (tZ (mI μ 1300))) 1298 = upd (mI μ 1298) 0 (nI 0) := by rw [mI_Anf (by omega), mI_Anf (by omega), mBs_98]
    rw [← e5, uA_self]
  have h163a : ∀ (d : Nat) (Q : Po), Ev (d + 1) 163 [.ref 1300, .ref 1301] (uI μ 1298 0 (nI 0)) Q = Q (some none) (uA (uI μ 1298 0 (nI 0)) 1301 (fil (mI μ 1300) (mI μ 1301) 22)) := fun d Q => by
    have := s_163 (d := d) (Q := Q) (μ := (uI μ 1298 0 (nI 0))) (a := 1300) (b := 1301) (N := 22) hM.2.2.2.2.2.2.2.2.2.2.2.2.1 hM.2.2.2.2.2.2.2.2.2.2.2.2.2.1 (by omega) (by omega) (by omega)
    rw [mI_nf (by omega), mI_nf (by omega)] at this
    exact this
  have h163b : ∀ (d : Nat) (Q : Po), Ev (d + 1) 163 [.ref 1302, .ref 1303] (uA (uI μ 1298 0 (nI 0)) 1301 (fil (mI μ 1300) (mI μ 1301) 22)) Q = Q (some none) (mBs μ) := fun d Q => by
    have := s_163 (d := d) (Q := Q) (μ := uA (uI μ 1298 0 (nI 0)) 1301 (fil (mI μ 1300) (mI μ 1301) 22)) (a := 1302) (b := 1303) (N := 1782) hM.2.2.2.2.2.2.2.2.2.2.2.2.2.2.1 hM.2.2.2.2.2.2.2.2.2.2.2.2.2.2.2.1 (by omega) (by omega) (by omega)
    rw [mI_Anf (by omega), mI_Anf (by omega), mI_nf (by omega), mI_nf (by omega)] at this
    exact this
  have hmd := md_any (L := L) (v := v) (g := upd (mI μ 1298) 0 (nI 0)) (by rw [upd_n (by omega)]; exact hv)
  have h203 := fun (d : Nat) (Q : Po) => s_203e (d := d) (Q := Q) (g := upd (mI μ 1298) 0 (nI 0)) (p := 0) (a := (upd (mI μ 1298) 0 (nI 0) 16).toBitVec.toNat) (k := (upd (mI μ 1298) 0 (nI 0) 17).toBitVec.toNat) (v := v) (er := nI 0) (ep := upd (mI μ 1298) 0 (nI 0) 20) (sm := 0) (ts := 0) (hs := 0) hMC (Nat.zero_le L)
  have hok0 : okRS f L (rZ, tZ (mI μ 1300), 0, 0, tkn f L 0 v) := ⟨AL_Z hT, (ok_tkn (Nat.zero_le L) hv9).1, (show 0 ≤ 1 by omega), (show 0 < 4 by omega)⟩
  have hok := ok_rdAll (f := f) (L := L) (L + 1) 0 (rZ, tZ (mI μ 1300), 0, 0, tkn f L 0 v) hok0 (by omega) (Nat.zero_le _)
  have hloop := l_221 (d := d) (Q := Q) (g := upd (mI μ 1298) 0 (nI 0)) (ep := upd (mI μ 1298) 0 (nI 0) 20) (l1 := some (.int (nI L))) (l2 := none) (l3 := none) hMB (fun k hk => by rw [e9]; exact hb k (by omega)) hf (show L ≤ 900 by omega) hXB (L + 1) 0 (rZ, tZ (mI μ 1300), 0, 0, tkn f L 0 v) hok0 (by omega) (Nat.zero_le _)
  generalize hg : upd (mI μ 1298) 0 (nI 0) = g at *
  have g8 : g 8 = mI μ 1298 8 := by rw [← hg, upd_n (by omega)]
  have g26 : g 26 = mI μ 1298 26 := by rw [← hg, upd_n (by omega)]
  obtain ⟨p1, p2, p3, p4, p5, p6, p7, p8, p9, p10, p11, p12, p13, p14, p15, p16, p17, p18, p19, p20, p21⟩ := hM
  rw [in_221]
  simp (disch := first | omega | rfl) only [e_221_0, e_221_1, e_221_2, e_221_5, e_221_6, e_221_9, e_221_10, e_221_11, e_221_14, e_221_17, e_221_19, e_221_20, e_221_21, e_221_24, e_221_25, e_221_28, e_221_31, e_221_32, e_221_35, e_221_36, e_221_39, e_221_42, e_221_43, e_221_46, e_221_47, e_221_48, e_221_51, e_221_52, e_221_53, e_221_56, e_221_57, e_221_58, e_221_61, e_221_62, e_221_63, e_221_66, e_221_67, e_221_68, e_221_71, e_221_72, e_221_73, e_221_76, e_221_77, e_221_81, e_221_84, e_221_87, e_221_88, e_221_91, e_221_92, e_221_95, e_221_96, e_221_99, e_221_102, e_221_103, e_221_104, e_221_107, e_221_108, e_221_109, e_221_112, e_221_115, e_221_116, e_221_119, e_221_120, e_221_123, e_221_126, e_221_127, e_221_130, e_221_133, e_221_134, e_221_137, e_221_138, e_221_141, e_221_144, e_221_145, e_221_148, e_221_149, e_221_152, e_221_155, e_221_156, e_221_159, e_221_160, e_221_161, e_221_163, e_221_164, e_221_167, e_221_170, e_221_171, e_221_173, e_221_175, e_221_178, e_221_179, e_221_180, e_221_182, e_221_183, e_221_184, e_221_185, e_221_188, e_221_189, e_221_190, e_221_193, e_221_196, e_221_199, e_221_200, e_221_201, e_221_204, e_221_207, e_221_210, e_221_211, e_221_212, e_221_215, e_221_216, e_221_219, p1, p2, p3, p4, p5, p6, p7, p8, p9, p10, p11, p12, p13, p14, p15, p16, p17, p18, p19, p20, p21, ge1, ule_t, true_or, or_true, nI_add, nI_mul, nI_sub, nI_clamp, nI_lt_t, nI_lt_f, nI_le_t, nI_le_f, nI_eq_t, nI_eq_f, vp_nI, tI, fI, not_true, not_false_iff, true_and, and_true, Classical.not_not, mS_uI, mS_uA, mS_uJ, mS_uR, mS_uX, mR_uI, mR_uA, mR_uJ, mR_uX, mX_uI, mX_uA, mX_uJ, mX_uR, mI_s, mI_n, mI_A, mI_An, mI_uJ, mI_uR, mI_uX, mJ_uI, mJ_uA, mJ_uR, mJ_uX, onR_s, kC_v, kC_n, kC_t, mS_mBs, mR_mBs, hn, h163a, h163b, h164, uIA, hmd, h203]
  refine hloop ?_
  clear hloop h203 h164 h163a h163b hmd
  generalize rdAll f L (L + 1) 0 (rZ, tZ (mI μ 1300), 0, 0, tkn f L 0 v) = y at *
  cases y with
  | inl e =>
    intro r' t' k sm ts hs hr ht
    have hne := (okE_n hok.1).1
    have h163c : ∀ (d : Nat) (Q : Po) (G : Nat → Int32), Ev (d + 1) 163 [.ref 1301, .ref 1300] (uA (uA (uA (mBs μ) 1302 r') 1300 t') 1298 G) Q = Q (some none) (uA (uA (uA (uA (mBs μ) 1302 r') 1300 t') 1298 G) 1300 (mI μ 1300)) := fun d Q G => by
      have := s_163 (d := d) (Q := Q) (μ := uA (uA (uA (mBs μ) 1302 r') 1300 t') 1298 G) (a := 1301) (b := 1300) (N := 22) p14 p13 (by omega) (by omega) (by omega)
      rw [mI_Anf (show (1301 : Nat) ≠ 1298 by omega), mI_Anf (show (1301 : Nat) ≠ 1300 by omega), mI_Anf (show (1301 : Nat) ≠ 1302 by omega), mBs_1, mI_Anf (show (1300 : Nat) ≠ 1298 by omega), mI_Af, fil_back hT ht] at this
      exact this
    have h163d : ∀ (d : Nat) (Q : Po) (G : Nat → Int32), Ev (d + 1) 163 [.ref 1303, .ref 1302] (uA (uA (uA (uA (mBs μ) 1302 r') 1300 t') 1298 G) 1300 (mI μ 1300)) Q = Q (some none) (uA (mBs μ) 1298 G) := fun d Q G => by
      have := s_163 (d := d) (Q := Q) (μ := uA (uA (uA (uA (mBs μ) 1302 r') 1300 t') 1298 G) 1300 (mI μ 1300)) (a := 1303) (b := 1302) (N := 1782) p16 p15 (by omega) (by omega) (by omega)
      rw [mI_Anf (show (1303 : Nat) ≠ 1300 by omega), mI_Anf (show (1303 : Nat) ≠ 1298 by omega), mI_Anf (show (1303 : Nat) ≠ 1300 by omega), mI_Anf (show (1303 : Nat) ≠ 1302 by omega), mBs_3, mI_Anf (show (1302 : Nat) ≠ 1300 by omega), mI_Anf (show (1302 : Nat) ≠ 1298 by omega), mI_Anf (show (1302 : Nat) ≠ 1300 by omega), mI_Af, fil_back hR hr, uA_back hR hT hr ht] at this
      exact this
    simp (disch := first | omega | rfl) only [e_221_0, e_221_1, e_221_2, e_221_5, e_221_6, e_221_9, e_221_10, e_221_11, e_221_14, e_221_17, e_221_19, e_221_20, e_221_21, e_221_24, e_221_25, e_221_28, e_221_31, e_221_32, e_221_35, e_221_36, e_221_39, e_221_42, e_221_43, e_221_46, e_221_47, e_221_48, e_221_51, e_221_52, e_221_53, e_221_56, e_221_57, e_221_58, e_221_61, e_221_62, e_221_63, e_221_66, e_221_67, e_221_68, e_221_71, e_221_72, e_221_73, e_221_76, e_221_77, e_221_81, e_221_84, e_221_87, e_221_88, e_221_91, e_221_92, e_221_95, e_221_96, e_221_99, e_221_102, e_221_103, e_221_104, e_221_107, e_221_108, e_221_109, e_221_112, e_221_115, e_221_116, e_221_119, e_221_120, e_221_123, e_221_126, e_221_127, e_221_130, e_221_133, e_221_134, e_221_137, e_221_138, e_221_141, e_221_144, e_221_145, e_221_148, e_221_149, e_221_152, e_221_155, e_221_156, e_221_159, e_221_160, e_221_161, e_221_163, e_221_164, e_221_167, e_221_170, e_221_171, e_221_173, e_221_175, e_221_178, e_221_179, e_221_180, e_221_182, e_221_183, e_221_184, e_221_185, e_221_188, e_221_189, e_221_190, e_221_193, e_221_196, e_221_199, e_221_200, e_221_201, e_221_204, e_221_207, e_221_210, e_221_211, e_221_212, e_221_215, e_221_216, e_221_219, p1, p2, p3, p4, p5, p6, p7, p8, p9, p10, p11, p12, p13, p14, p15, p16, p17, p18, p19, p20, p21, ge1, ule_t, true_or, or_true, nI_add, nI_mul, nI_sub, nI_clamp, nI_lt_t, nI_lt_f, nI_le_t, nI_le_f, nI_eq_t, nI_eq_f, vp_nI, tI, fI, not_true, not_false_iff, true_and, and_true, Classical.not_not, mS_uI, mS_uA, mS_uJ, mS_uR, mS_uX, mR_uI, mR_uA, mR_uJ, mR_uX, mX_uI, mX_uA, mX_uJ, mX_uR, mI_s, mI_n, mI_A, mI_An, mI_uJ, mI_uR, mI_uX, mJ_uI, mJ_uA, mJ_uR, mJ_uX, onR_s, kC_v, kC_n, kC_t, mS_mBs, mR_mBs, mI_A, mdT_19, mdT_20, uIA, upd_n, hne, h163c, h163d]
    refine hq _ (mBs_fr.au (Or.inl rfl)) ?_ ?_ ?_ ?_ ?_ ?_ ?_
    · rw [mI_Anf (by omega), e2]
    · rw [mI_Anf (by omega), e0]
    · rw [mI_A, upd_n (by omega), upd_s]
    · rw [mI_A, upd_n (by omega), upd_n (by omega)]; exact g8
    · rw [mI_A, upd_n (by omega), upd_n (by omega)]; rfl
    · rw [mI_A, upd_s]
    · rw [mI_A, upd_n (by omega), upd_n (by omega)]; exact g26
  | inr y =>
    obtain ⟨⟨hA, ht, -, -⟩, hyL⟩ := hok
    have hO := hA.1
    have o2 := hO.1
    have n6 := hO.2.1
    show EM 221 (d + 7) 102 _ _ (uA (uA (uA (mBs μ) 1302 y.2.1) 1300 y.2.2.1) 1298 _) _ Q
    simp (disch := first | omega | rfl) only [e_221_0, e_221_1, e_221_2, e_221_5, e_221_6, e_221_9, e_221_10, e_221_11, e_221_14, e_221_17, e_221_19, e_221_20, e_221_21, e_221_24, e_221_25, e_221_28, e_221_31, e_221_32, e_221_35, e_221_36, e_221_39, e_221_42, e_221_43, e_221_46, e_221_47, e_221_48, e_221_51, e_221_52, e_221_53, e_221_56, e_221_57, e_221_58, e_221_61, e_221_62, e_221_63, e_221_66, e_221_67, e_221_68, e_221_71, e_221_72, e_221_73, e_221_76, e_221_77, e_221_81, e_221_84, e_221_87, e_221_88, e_221_91, e_221_92, e_221_95, e_221_96, e_221_99, e_221_102, e_221_103, e_221_104, e_221_107, e_221_108, e_221_109, e_221_112, e_221_115, e_221_116, e_221_119, e_221_120, e_221_123, e_221_126, e_221_127, e_221_130, e_221_133, e_221_134, e_221_137, e_221_138, e_221_141, e_221_144, e_221_145, e_221_148, e_221_149, e_221_152, e_221_155, e_221_156, e_221_159, e_221_160, e_221_161, e_221_163, e_221_164, e_221_167, e_221_170, e_221_171, e_221_173, e_221_175, e_221_178, e_221_179, e_221_180, e_221_182, e_221_183, e_221_184, e_221_185, e_221_188, e_221_189, e_221_190, e_221_193, e_221_196, e_221_199, e_221_200, e_221_201, e_221_204, e_221_207, e_221_210, e_221_211, e_221_212, e_221_215, e_221_216, e_221_219, p1, p2, p3, p4, p5, p6, p7, p8, p9, p10, p11, p12, p13, p14, p15, p16, p17, p18, p19, p20, p21, ge1, ule_t, true_or, or_true, nI_add, nI_mul, nI_sub, nI_clamp, nI_lt_t, nI_lt_f, nI_le_t, nI_le_f, nI_eq_t, nI_eq_f, vp_nI, tI, fI, not_true, not_false_iff, true_and, and_true, Classical.not_not, mS_uI, mS_uA, mS_uJ, mS_uR, mS_uX, mR_uI, mR_uA, mR_uJ, mR_uX, mX_uI, mX_uA, mX_uJ, mX_uR, mI_s, mI_n, mI_A, mI_An, mI_uJ, mI_uR, mI_uX, mJ_uI, mJ_uA, mJ_uR, mJ_uX, onR_s, kC_v, kC_n, kC_t, mS_mBs, mR_mBs, mI_A, mdT_19, mdT_20, uIA, upd_n]
    generalize hG : upd (upd (mdT g L y.2.2.2.2.2 (nI 0) (g 20) y.1 y.2.2.2.2.1 y.2.2.2.1) 2 (nI 0)) 21 (-1) = G
    have gk : ∀ k, k ≠ 2 → k ≠ 21 → G k = mdT g L y.2.2.2.2.2 (nI 0) (g 20) y.1 y.2.2.2.2.1 y.2.2.2.1 k := fun k h1 h2 => by rw [← hG, upd_n h2, upd_n h1]
    have g2 : G 2 = nI 0 := by rw [← hG, upd_n (by omega), upd_s]
    have g21 : G 21 = -1 := by rw [← hG, upd_s]
    have gs : G 22 = nI y.1 := gk 22 (by omega) (by omega)
    have f0 : Fr PLm μ (uA (uA (uA (mBs μ) 1302 y.2.1) 1300 y.2.2.1) 1298 G) := ((mBs_fr.au (Or.inr (Or.inr (Or.inr (Or.inl rfl))))).au (Or.inr (Or.inl rfl))).au (Or.inl rfl)
    have fin : ∀ μ', Fr PX (uA (uA (uA (mBs μ) 1302 y.2.1) 1300 y.2.2.1) 1298 G) μ' → mI μ' 1302 = rBg y.2.1 y.2.2.1 (rtT y.2.2.1) (nM y.2.1) → ∀ l2 l3, EM 221 (d + 7) 210 [some (.ref 1298), some (.int (nI L)), l2, l3] [] μ' (0, 0) Q := by
      intro μ' hf hr l2 l3
      have hsm : ShM μ' := hf.sm (f0.sm hM0)
      have k98 : mI μ' 1298 = G := by
        funext k
        rw [hf.2.2.2 1298 (by unfold PX; omega), mI_A]
      have k00 : mI μ' 1300 = y.2.2.1 := by
        funext k
        rw [hf.2.2.2 1300 (by unfold PX; omega), mI_An (by omega), mI_A]
      obtain ⟨p1, p2, p3, p4, p5, p6, p7, p8, p9, p10, p11, p12, p13, p14, p15, p16, p17, p18, p19, p20, p21⟩ := hsm
      simp (disch := first | omega | rfl) only [e_221_0, e_221_1, e_221_2, e_221_5, e_221_6, e_221_9, e_221_10, e_221_11, e_221_14, e_221_17, e_221_19, e_221_20, e_221_21, e_221_24, e_221_25, e_221_28, e_221_31, e_221_32, e_221_35, e_221_36, e_221_39, e_221_42, e_221_43, e_221_46, e_221_47, e_221_48, e_221_51, e_221_52, e_221_53, e_221_56, e_221_57, e_221_58, e_221_61, e_221_62, e_221_63, e_221_66, e_221_67, e_221_68, e_221_71, e_221_72, e_221_73, e_221_76, e_221_77, e_221_81, e_221_84, e_221_87, e_221_88, e_221_91, e_221_92, e_221_95, e_221_96, e_221_99, e_221_102, e_221_103, e_221_104, e_221_107, e_221_108, e_221_109, e_221_112, e_221_115, e_221_116, e_221_119, e_221_120, e_221_123, e_221_126, e_221_127, e_221_130, e_221_133, e_221_134, e_221_137, e_221_138, e_221_141, e_221_144, e_221_145, e_221_148, e_221_149, e_221_152, e_221_155, e_221_156, e_221_159, e_221_160, e_221_161, e_221_163, e_221_164, e_221_167, e_221_170, e_221_171, e_221_173, e_221_175, e_221_178, e_221_179, e_221_180, e_221_182, e_221_183, e_221_184, e_221_185, e_221_188, e_221_189, e_221_190, e_221_193, e_221_196, e_221_199, e_221_200, e_221_201, e_221_204, e_221_207, e_221_210, e_221_211, e_221_212, e_221_215, e_221_216, e_221_219, p1, p2, p3, p4, p5, p6, p7, p8, p9, p10, p11, p12, p13, p14, p15, p16, p17, p18, p19, p20, p21, ge1, ule_t, true_or, or_true, nI_add, nI_mul, nI_sub, nI_clamp, nI_lt_t, nI_lt_f, nI_le_t, nI_le_f, nI_eq_t, nI_eq_f, vp_nI, tI, fI, not_true, not_false_iff, true_and, and_true, Classical.not_not, mS_uI, mS_uA, mS_uJ, mS_uR, mS_uX, mR_uI, mR_uA, mR_uJ, mR_uX, mX_uI, mX_uA, mX_uJ, mX_uR, mI_s, mI_n, mI_A, mI_An, mI_uJ, mI_uR, mI_uX, mJ_uI, mJ_uA, mJ_uR, mJ_uX, onR_s, kC_v, kC_n, kC_t, mS_mBs, mR_mBs, k98, gs, uI_A, upd_n]
      refine hq _ ((f0.trans (hf.mono (fun a ha => by unfold PX at ha; unfold PLm; omega))).au (Or.inl rfl)) ?_ ?_ ?_ ?_ ?_ ?_ ?_
      · rw [mI_Anf (by omega)]; exact hr
      · rw [mI_Anf (by omega)]; exact k00
      · rw [mI_A, upd_n (by omega)]; exact g2
      · rw [mI_A, upd_s]
      · rw [mI_A, upd_n (by omega), gk 18 (by omega) (by omega)]; rfl
      · rw [mI_A, upd_n (by omega)]; exact g21
      · rw [mI_A, upd_n (by omega), gk 26 (by omega) (by omega)]; exact g26
    refine l_221b (T := y.2.2.1) (R := y.2.1) (n := nM y.2.1) (f0.sm hM0) (by rw [mI_Anf (by omega), mI_Af]) o2 n6 (fun m hm => (hA.2.2.1 m hm).2 1 (by omega) (by omega) (by omega)) (fun μ' h1 h2 => fin μ' h1 h2 _ _) (fun hz => fin _ Fr.refl ?_ _ _) (by rw [mI_Anf (by omega), mI_Anf (by omega), mI_Af])
    rw [mI_Anf (by omega), mI_Anf (by omega), mI_Af, hz]
    funext x
    unfold rBg
    rw [if_neg (by omega), if_neg (by omega)]
end LoM

