/-! reading: statements -/
abbrev RS : Type := (Nat → Int32) × (Nat → Int32) × Nat × Nat × TK
abbrev RE : Type := (Int32 × Nat × Nat × Nat) ⊕ RS
section RdP
variable (f : Nat → Nat) (L : Nat) (r tn : Nat → Int32) (hs gs : Nat)
def stB : Nat → Nat → (Nat → Int32) → TK → (Int32 × Nat × Nat × Nat) ⊕ ((Nat → Int32) × TK)
  | 0, _, _, _ => .inl (0, 0, 0, 0)
  | F + 1, n, tn, t => if ckI 0 9999 t = nI 0 then (if n = 16 then .inl (-15, t.2) else if (nx f L t).1 = 2 then stB F (n + 1) (upd tn n (nI t.2.2.2)) (nx f L t) else .inr (upd tn n (nI t.2.2.2), nx f L t)) else .inl (ckI 0 9999 t, t.2)
def rdStaE (z : (Int32 × Nat × Nat × Nat) ⊕ ((Nat → Int32) × TK)) : RE := match z with
  | .inl e => .inl e
  | .inr z => .inr (r, z.1, 1, gs, z.2)
def rdSta (t : TK) : RE := if hs = 1 then .inl (-14, t.2) else rdStaE r gs (stB f L 17 0 tn (nx f L t))
def rdMem2 (t1 t : TK) : RE := if ckI 1 4 t = nI 0 then .inr (rJ1 r (nM r) t.2.2.2 0, upd tn (16 + nM r) (nI (nmQ f t1 6)), hs, gs, nx f L t) else .inl (ckI 1 4 t, t.2)
def rdMem1 (t : TK) : RE := if isN t then (if fnd f tn (nM r) t = -1 then rdMem2 f L r tn hs gs t (nx f L t) else .inl (-14, t.2)) else .inl (-11, t.2)
def rdMem (t : TK) : RE := if nM r = 6 then .inl (-15, t.2) else rdMem1 f L r tn hs gs (nx f L t)
def rdCom4 (m σ i : Nat) (t : TK) : RE := if ckI 0 (gOp σ - 1) t = nI 0 then .inr (rGive r m σ i t.2.2.2, tn, hs, gs, nx f L t) else .inl (ckI 0 (gOp σ - 1) t, t.2)
def rdCom3 (m σ : Nat) (t : TK) : RE := if ckI 0 15 t = nI 0 then rdCom4 f L r tn hs gs m σ t.2.2.2 (nx f L t) else .inl (ckI 0 15 t, t.2)
def rdCom2 (m : Nat) (t : TK) : RE := if wIx f t Sort6 0 = -1 then .inl (-11, t.2) else rdCom3 f L r tn hs gs m (wIx f t Sort6 0).toNatClampNeg (nx f L t)
def rdCom1 (t : TK) : RE := if ckM f tn (nM r) t = nI 0 then rdCom2 f L r tn hs gs (fnd f tn (nM r) t).toNatClampNeg (nx f L t) else .inl (ckM f tn (nM r) t, t.2)
def rdCom (t : TK) : RE := if nO r = 8 then .inl (-15, t.2) else rdCom1 f L r tn hs gs (nx f L t)
def rdSea (t : TK) : RE := if nT r = 40 then .inl (-15, t.2) else .inr (rSeal r, tn, hs, gs, nx f L t)
def rdFau4 (m tt i : Nat) (t : TK) : RE := if ckI 1 9999 t = nI 0 then .inr (rFault r m tt i t.2.2.2, tn, hs, gs, nx f L t) else .inl (ckI 1 9999 t, t.2)
def rdFau3 (m tt : Nat) (t : TK) : RE := if ckI 0 15 t = nI 0 then rdFau4 f L r tn hs gs m tt t.2.2.2 (nx f L t) else .inl (ckI 0 15 t, t.2)
def rdFau2 (m : Nat) (t : TK) : RE := if ckI 0 39 t = nI 0 then rdFau3 f L r tn hs gs m t.2.2.2 (nx f L t) else .inl (ckI 0 39 t, t.2)
def rdFau1 (t : TK) : RE := if ckM f tn (nM r) t = nI 0 then rdFau2 f L r tn hs gs (fnd f tn (nM r) t).toNatClampNeg (nx f L t) else .inl (ckM f tn (nM r) t, t.2)
def rdFau (t : TK) : RE := if nF r = 10 then .inl (-15, t.2) else rdFau1 f L r tn hs gs (nx f L t)
def rdSet3 (w : Nat) (t : TK) : RE := if ckI 1 (gSet w) t = nI 0 then .inr (rSet r w t.2.2.2, tn, hs, gs ||| 2 ^ w, nx f L t) else .inl (ckI 1 (gSet w) t, t.2)
def rdSet2 (w : Nat) (t : TK) : RE := if gs.testBit w = true then .inl (-14, t.2) else rdSet3 f L r tn hs gs w (nx f L t)
def rdSet1 (t : TK) : RE := if wIx f t Set2 0 = -1 then .inl (-11, t.2) else rdSet2 f L r tn hs gs (wIx f t Set2 0).toNatClampNeg t
def rdSet (t : TK) : RE := rdSet1 f L r tn hs gs (nx f L t)
def rdStm (t : TK) : RE := if isW f t (txB 0) then rdSta f L r tn hs gs t else if isW f t (txB 1) then rdMem f L r tn hs gs t else if isW f t (txB 2) then rdCom f L r tn hs gs t else if isW f t (txB 9) then rdSea f L r tn hs gs t else if isW f t (txB 10) then rdFau f L r tn hs gs t else if isW f t (txB 11) then rdSet f L r tn hs gs t else .inl (-11, t.2)
end RdP
theorem wIx_c {f : Nat → Nat} {t : TK} : ∀ (ws : List (List Nat)) (n : Nat), wIx f t ws n = -1 ∨ ∃ k, k < ws.length ∧ wIx f t ws n = nI (n + k)
  | [], n => Or.inl rfl
  | w :: ws, n => by
    rw [wIx]
    by_cases h : isW f t w
    · rw [if_pos h]; exact Or.inr ⟨0, by rw [List.length_cons]; omega, rfl⟩
    · rw [if_neg h]
      rcases wIx_c (f := f) (t := t) ws (n + 1) with h1 | ⟨k, h1, h2⟩
      · exact Or.inl h1
      · exact Or.inr ⟨k + 1, by rw [List.length_cons]; omega, by rw [h2, Nat.add_assoc, Nat.add_comm 1 k]⟩
theorem wIx_6 {f : Nat → Nat} {t : TK} (h : ¬ wIx f t Sort6 0 = -1) : ∃ σ, σ < 6 ∧ wIx f t Sort6 0 = nI σ := by
  rcases wIx_c (f := f) (t := t) Sort6 0 with h1 | ⟨k, h1, h2⟩
  · exact absurd h1 h
  · exact ⟨k, h1, by rw [h2, Nat.zero_add]⟩
theorem wIx_2 {f : Nat → Nat} {t : TK} (h : ¬ wIx f t Set2 0 = -1) : ∃ σ, σ < 2 ∧ wIx f t Set2 0 = nI σ := by
  rcases wIx_c (f := f) (t := t) Set2 0 with h1 | ⟨k, h1, h2⟩
  · exact absurd h1 h
  · exact ⟨k, h1, by rw [h2, Nat.zero_add]⟩
/-! the class reads statements -/
def LdS (μ : Mu) (f : Nat → Nat) (L s c : Nat) : Prop := LdC μ f L ∧ TxC μ ∧ mR μ 1030 1 = some s ∧ mR μ 1030 2 = some c ∧ StS μ s ∧ ScS μ c ∧ (s = 1001 ∨ s = 1032) ∧ (c = 1024 ∨ c = 1055)
theorem LdS.fr {μ μ' : Mu} {f : Nat → Nat} {L s c : Nat} (h : LdS μ f L s c) (hf : FrX s c μ μ') : LdS μ' f L s c := by
  obtain ⟨⟨g1, g2, g3, g4, g5, g6⟩, h2, h3, h4, h5, h6, h7, h8⟩ := h
  refine ⟨⟨by rw [hf.sh]; exact g1, by rw [hf.rf]; exact g2, by rw [hf.sh]; exact g3, fun k hk => by rw [hf.2.2.2 1031 (by omega)]; exact g4 k hk, g5, g6⟩, h2.fr hf (fun a ha => by omega), by rw [hf.rf]; exact h3, by rw [hf.rf]; exact h4, hf.st h5, hf.sc h6, h7, h8⟩
def PoC (L s c : Nat) (g : Nat → Int32) (er ea : Int32) (μ : Mu) (Q : Po) (z : RE) : Prop := match z with
  | .inl z => ∀ μ' F, FrX s c μ μ' → F 11 = z.1 → F 12 = nI z.2.1 → F 9 = nI (cvl z.2.2.2) → Q (some (some (.int (nI 0)))) (uA μ' 1030 F)
  | .inr z => ∀ μ' tk, FrX s c μ μ' → RelL μ' s c z.1 z.2.1 → Q (some (some (.int (nI 1)))) (uA μ' 1030 (ldT g L z.2.2.1 z.2.2.2.1 z.2.2.2.2 tk er ea))
section HeapC
variable {μ : Mu} {s c a b k m n σ i p o t T : Nat} {F G : Nat → Int32} {v x : Int32} {ff : Nat → Nat}
theorem uIuA (h : a ≠ b) : uI (uA μ b F) a k v = uA (uI μ a k v) b F := by
  refine Prod.ext rfl (Prod.ext rfl (Prod.ext ?_ rfl))
  funext x j
  show (if x = a ∧ j = k then v else if x = b then F j else μ.2.2.1 x j) = (if x = b then F j else if x = a ∧ j = k then v else μ.2.2.1 x j)
  by_cases h1 : x = b
  · rw [if_neg (show ¬ (x = a ∧ j = k) by omega), if_pos h1, if_pos h1]
  · rw [if_neg h1, if_neg h1]
theorem uAuA (h : a ≠ b) : uA (uA μ b F) a G = uA (uA μ a G) b F := by
  refine Prod.ext rfl (Prod.ext rfl (Prod.ext ?_ rfl))
  funext x j
  show (if x = a then G j else if x = b then F j else μ.2.2.1 x j) = (if x = b then F j else if x = a then G j else μ.2.2.1 x j)
  by_cases h1 : x = b
  · rw [if_neg (show ¬ x = a by omega), if_pos h1, if_pos h1]
  · rw [if_neg h1, if_neg h1]
theorem uA30 (h : a ≠ 1030) : uA (uA μ 1030 F) a G = uA (uA μ a G) 1030 F := uAuA h
theorem cAdm_A (hs : s = 1001 ∨ s = 1032) (hn : n < 6) : cAdm (uA μ 1030 F) s n p t x = uA (cAdm μ s n p t x) 1030 F := by
  unfold cAdm
  simp (disch := omega) only [uIuA]
theorem cGive_A (hs : s = 1001 ∨ s = 1032) (hc : c = 1024 ∨ c = 1055) : cGive (uA μ 1030 F) s c T o m σ i k = uA (cGive μ s c T o m σ i k) 1030 F := by
  unfold cGive
  rw [mI_Anf (by omega), uAuA (by omega), uIuA (by omega)]
theorem cFault_A (hs : s = 1001 ∨ s = 1032) : cFault (uA μ 1030 F) s o m σ i k = uA (cFault μ s o m σ i k) 1030 F := by
  unfold cFault
  rw [mI_Anf (by omega), uAuA (by omega), uIuA (by omega)]
theorem cSeal_A (hs : s = 1001 ∨ s = 1032) (hc : c = 1024 ∨ c = 1055) : cSeal (uA μ 1030 F) s c T o ff = uA (cSeal μ s c T o ff) 1030 F := by
  unfold cSeal
  rw [mI_Anf (by omega)]
  simp (disch := omega) only [uIuA, uA30]
end HeapC
section RstC
variable {d : Nat} {Q : Po} {μ : Mu} {f : Nat → Nat} {g tn r : Nat → Int32} {L hs gs s c : Nat} {tk er ea : Int32} {t : TK}
theorem c_43 (hL : LdS μ f L s c) (hR : RelL μ s c r tn) (hA : AL r tn) (ht : okTk f L t) (hq : PoC L s c g er ea μ Q (rdMem f L r tn hs gs t)) : Ev (d + 5) 43 [.ref 1030] (uA μ 1030 (ldT g L hs gs t tk er ea)) Q := by
  obtain ⟨hC, hX, hr1, hr2, hS, hSc, hs9, hc9⟩ := hL
  have hO := hA.1
  have n1 := hR.n1 hO
  have n6 := hO.2.1
  have hnm := hR.nm n6
  have k1 := (ok_nx ht).1
  have k2 := (ok_nx k1).1
  have h53 := fun (d : Nat) (Q : Po) (hs gs : Nat) (tk x : Int32) (t : TK) => s_53 (d := d) (Q := Q) (g := g) (hs := hs) (gs := gs) (tk := tk) (er := er) (ea := ea) (t := t) (x := x) hC
  have h57 := fun (d : Nat) (Q : Po) (hs gs : Nat) (tk : Int32) (t : TK) => s_57 (d := d) (Q := Q) (t := t) (g := g) (hs := hs) (gs := gs) (tk := tk) (er := er) (ea := ea) hC
  have h54 := fun (d : Nat) (Q : Po) => s_54 (d := d) (Q := Q) (t := nx f L t) (g := g) (hs := hs) (gs := gs) (tk := tk) (er := er) (ea := ea) hC k1
  have q1 := hS.2.1
  have g1 := hC.1
  unfold rdMem at hq
  rw [in_43]
  by_cases c1 : nM r = 6
  · rw [if_pos c1] at hq
    simp (disch := first | omega | rfl) only [e_43_0, e_43_1, e_43_4, e_43_7, e_43_9, e_43_12, e_43_13, e_43_15, e_43_18, e_43_19, e_43_20, e_43_23, e_43_24, e_43_27, e_43_30, e_43_31, e_43_33, e_43_36, e_43_37, e_43_38, e_43_41, e_43_42, e_43_43, e_43_46, e_43_47, e_43_50, e_43_51, e_43_54, e_43_55, e_43_57, e_43_60, e_43_61, e_43_62, e_43_65, e_43_66, e_43_67, e_43_68, e_43_71, e_43_74, e_43_75, e_43_76, e_43_77, e_43_80, e_43_81, e_43_82, e_43_85, e_43_86, e_43_89, e_43_90, e_43_91, ge1, ule_t, true_or, or_true, nI_add, nI_mul, nI_sub, nI_clamp, nI_lt_t, nI_lt_f, nI_le_t, nI_le_f, nI_eq_t, nI_eq_f, vp_nI, tI, fI, not_true, not_false_iff, true_and, and_true, Classical.not_not, mS_uI, mS_uA, mS_uJ, mS_uR, mS_uX, mR_uI, mR_uA, mR_uJ, mR_uX, mX_uI, mX_uA, mX_uJ, mX_uR, mI_s, mI_n, mI_A, mI_An, mI_uJ, mI_uR, mI_uX, mJ_uI, mJ_uA, mJ_uR, mJ_uX, onR_s, kC_v, kC_n, kC_t, mI_An, g1, hr1, q1, n1, h53]
    exact hq μ _ Fr.refl rfl rfl rfl
  · rw [if_neg c1] at hq
    unfold rdMem1 at hq
    generalize hT1 : nx f L t = t1 at *
    by_cases c2 : isN t1
    · rw [if_pos c2] at hq
      simp only [bI_ti c2] at h54
      have h55 := fun (d : Nat) (Q : Po) => s_55 (d := d) (Q := Q) (g := g) (hs := hs) (gs := gs) (tk := tk) (er := er) (ea := ea) hC k1 c2.1
      have h78 := fun (d : Nat) (Q : Po) (F : Nat → Int32) => s_78l (d := d) (Q := Q) (F := F) (f := f) (L := L) (by omega) hS n1 n6 hnm k1 c2.1
      by_cases c3 : fnd f tn (nM r) t1 = -1
      · rw [if_pos c3] at hq
        simp only [c3] at h78
        unfold rdMem2 at hq
        generalize hT2 : nx f L t1 = t2 at *
        by_cases c4 : ckI 1 4 t2 = nI 0
        · rw [if_pos c4] at hq
          obtain ⟨v1, v2, v3⟩ := ckI_t.mp c4
          have h50 := fun (d : Nat) (Q : Po) => s_50t (d := d) (Q := Q) (g := g) (hs := hs) (gs := gs) (tk := tk) (er := er) (ea := ea) hC k2 (by omega) (by omega) c4
          have h75 := fun (d : Nat) (Q : Po) (F : Nat → Int32) => s_75 (d := d) (Q := Q) (μ := uA μ 1030 F) (p := t2.2.2.2) (t := 0) (x := nI (nmQ f t1 6)) (StS_uA hS) ((mI_An (by omega)).trans n1) (by omega)
          simp only [cAdm_A hs9 (show nM r < 6 by omega)] at h75
          simp (disch := first | omega | rfl) only [e_43_0, e_43_1, e_43_4, e_43_7, e_43_9, e_43_12, e_43_13, e_43_15, e_43_18, e_43_19, e_43_20, e_43_23, e_43_24, e_43_27, e_43_30, e_43_31, e_43_33, e_43_36, e_43_37, e_43_38, e_43_41, e_43_42, e_43_43, e_43_46, e_43_47, e_43_50, e_43_51, e_43_54, e_43_55, e_43_57, e_43_60, e_43_61, e_43_62, e_43_65, e_43_66, e_43_67, e_43_68, e_43_71, e_43_74, e_43_75, e_43_76, e_43_77, e_43_80, e_43_81, e_43_82, e_43_85, e_43_86, e_43_89, e_43_90, e_43_91, ge1, ule_t, true_or, or_true, nI_add, nI_mul, nI_sub, nI_clamp, nI_lt_t, nI_lt_f, nI_le_t, nI_le_f, nI_eq_t, nI_eq_f, vp_nI, tI, fI, not_true, not_false_iff, true_and, and_true, Classical.not_not, mS_uI, mS_uA, mS_uJ, mS_uR, mS_uX, mR_uI, mR_uA, mR_uJ, mR_uX, mX_uI, mX_uA, mX_uJ, mX_uR, mI_s, mI_n, mI_A, mI_An, mI_uJ, mI_uR, mI_uX, mJ_uI, mJ_uA, mJ_uR, mJ_uX, onR_s, kC_v, kC_n, kC_t, mI_An, mI_A, g1, hr1, q1, n1, h57 _ _ _ _ _ _ ht, h57 _ _ _ _ _ _ k1, hT1, hT2, h54, h55, h78, h50, ldT_10, h75]
          exact hq _ _ (cAdm_fr (by omega)) (relL_adm hR hO (by omega) (by omega))
        · rw [if_neg c4] at hq
          have h50 := fun (d : Nat) (Q : Po) => s_50f (d := d) (Q := Q) (g := g) (hs := hs) (gs := gs) (tk := tk) (er := er) (ea := ea) hC k2 (by omega) (by omega) c4
          simp (disch := first | omega | rfl) only [e_43_0, e_43_1, e_43_4, e_43_7, e_43_9, e_43_12, e_43_13, e_43_15, e_43_18, e_43_19, e_43_20, e_43_23, e_43_24, e_43_27, e_43_30, e_43_31, e_43_33, e_43_36, e_43_37, e_43_38, e_43_41, e_43_42, e_43_43, e_43_46, e_43_47, e_43_50, e_43_51, e_43_54, e_43_55, e_43_57, e_43_60, e_43_61, e_43_62, e_43_65, e_43_66, e_43_67, e_43_68, e_43_71, e_43_74, e_43_75, e_43_76, e_43_77, e_43_80, e_43_81, e_43_82, e_43_85, e_43_86, e_43_89, e_43_90, e_43_91, ge1, ule_t, true_or, or_true, nI_add, nI_mul, nI_sub, nI_clamp, nI_lt_t, nI_lt_f, nI_le_t, nI_le_f, nI_eq_t, nI_eq_f, vp_nI, tI, fI, not_true, not_false_iff, true_and, and_true, Classical.not_not, mS_uI, mS_uA, mS_uJ, mS_uR, mS_uX, mR_uI, mR_uA, mR_uJ, mR_uX, mX_uI, mX_uA, mX_uJ, mX_uR, mI_s, mI_n, mI_A, mI_An, mI_uJ, mI_uR, mI_uX, mJ_uI, mJ_uA, mJ_uR, mJ_uX, onR_s, kC_v, kC_n, kC_t, mI_An, mI_A, g1, hr1, q1, n1, h57 _ _ _ _ _ _ ht, h57 _ _ _ _ _ _ k1, hT1, hT2, h54, h55, h78, h50]
          exact hq μ _ Fr.refl rfl rfl rfl
      · rw [if_neg c3] at hq
        obtain ⟨m, m1, m2⟩ := fnd_c c3
        simp (disch := first | omega | rfl) only [e_43_0, e_43_1, e_43_4, e_43_7, e_43_9, e_43_12, e_43_13, e_43_15, e_43_18, e_43_19, e_43_20, e_43_23, e_43_24, e_43_27, e_43_30, e_43_31, e_43_33, e_43_36, e_43_37, e_43_38, e_43_41, e_43_42, e_43_43, e_43_46, e_43_47, e_43_50, e_43_51, e_43_54, e_43_55, e_43_57, e_43_60, e_43_61, e_43_62, e_43_65, e_43_66, e_43_67, e_43_68, e_43_71, e_43_74, e_43_75, e_43_76, e_43_77, e_43_80, e_43_81, e_43_82, e_43_85, e_43_86, e_43_89, e_43_90, e_43_91, ge1, ule_t, true_or, or_true, nI_add, nI_mul, nI_sub, nI_clamp, nI_lt_t, nI_lt_f, nI_le_t, nI_le_f, nI_eq_t, nI_eq_f, vp_nI, tI, fI, not_true, not_false_iff, true_and, and_true, Classical.not_not, mS_uI, mS_uA, mS_uJ, mS_uR, mS_uX, mR_uI, mR_uA, mR_uJ, mR_uX, mX_uI, mX_uA, mX_uJ, mX_uR, mI_s, mI_n, mI_A, mI_An, mI_uJ, mI_uR, mI_uX, mJ_uI, mJ_uA, mJ_uR, mJ_uX, onR_s, kC_v, kC_n, kC_t, mI_An, mI_A, g1, hr1, q1, n1, h57 _ _ _ _ _ _ ht, hT1, h54, h55, h78, eq_false c3, h53]
        exact hq μ _ Fr.refl rfl rfl rfl
    · rw [if_neg c2] at hq
      simp only [bI_fi c2] at h54
      simp (disch := first | omega | rfl) only [e_43_0, e_43_1, e_43_4, e_43_7, e_43_9, e_43_12, e_43_13, e_43_15, e_43_18, e_43_19, e_43_20, e_43_23, e_43_24, e_43_27, e_43_30, e_43_31, e_43_33, e_43_36, e_43_37, e_43_38, e_43_41, e_43_42, e_43_43, e_43_46, e_43_47, e_43_50, e_43_51, e_43_54, e_43_55, e_43_57, e_43_60, e_43_61, e_43_62, e_43_65, e_43_66, e_43_67, e_43_68, e_43_71, e_43_74, e_43_75, e_43_76, e_43_77, e_43_80, e_43_81, e_43_82, e_43_85, e_43_86, e_43_89, e_43_90, e_43_91, ge1, ule_t, true_or, or_true, nI_add, nI_mul, nI_sub, nI_clamp, nI_lt_t, nI_lt_f, nI_le_t, nI_le_f, nI_eq_t, nI_eq_f, vp_nI, tI, fI, not_true, not_false_iff, true_and, and_true, Classical.not_not, mS_uI, mS_uA, mS_uJ, mS_uR, mS_uX, mR_uI, mR_uA, mR_uJ, mR_uX, mX_uI, mX_uA, mX_uJ, mX_uR, mI_s, mI_n, mI_A, mI_An, mI_uJ, mI_uR, mI_uX, mJ_uI, mJ_uA, mJ_uR, mJ_uX, onR_s, kC_v, kC_n, kC_t, mI_An, mI_A, g1, hr1, q1, n1, h57 _ _ _ _ _ _ ht, hT1, h54, h53]
      exact hq μ _ Fr.refl rfl rfl rfl
theorem c_45 (hL : LdS μ f L s c) (hR : RelL μ s c r tn) (hA : AL r tn) (ht : okTk f L t) (hq : PoC L s c g er ea μ Q (rdSea f L r tn hs gs t)) : Ev (d + 3) 45 [.ref 1030] (uA μ 1030 (ldT g L hs gs t tk er ea)) Q := by
  obtain ⟨hC, hX, hr1, hr2, hS, hSc, hs9, hc9⟩ := hL
  have hO := hA.1
  have n2 := hR.n2 hO
  have n3 := hR.n3 hO
  have h53 := fun (d : Nat) (Q : Po) (hs gs : Nat) (tk x : Int32) (t : TK) => s_53 (d := d) (Q := Q) (g := g) (hs := hs) (gs := gs) (tk := tk) (er := er) (ea := ea) (t := t) (x := x) hC
  have h57 := fun (d : Nat) (Q : Po) => s_57 (d := d) (Q := Q) (t := t) (g := g) (hs := hs) (gs := gs) (tk := tk) (er := er) (ea := ea) hC ht
  have q1 := hS.2.1
  have g1 := hC.1
  have hsc : s + 22 < c ∨ c + 4 < s := by omega
  have hT40 := hO.2.2.2.1
  have hO8 := hO.2.2.2.2.2.1
  unfold rdSea at hq
  rw [in_45]
  by_cases c1 : nT r = 40
  · rw [if_pos c1] at hq
    simp (disch := first | omega | rfl) only [e_45_0, e_45_1, e_45_4, e_45_7, e_45_9, e_45_12, e_45_13, e_45_15, e_45_18, e_45_19, e_45_20, e_45_23, e_45_24, e_45_27, e_45_28, e_45_31, e_45_34, e_45_35, ge1, ule_t, true_or, or_true, nI_add, nI_mul, nI_sub, nI_clamp, nI_lt_t, nI_lt_f, nI_le_t, nI_le_f, nI_eq_t, nI_eq_f, vp_nI, tI, fI, not_true, not_false_iff, true_and, and_true, Classical.not_not, mS_uI, mS_uA, mS_uJ, mS_uR, mS_uX, mR_uI, mR_uA, mR_uJ, mR_uX, mX_uI, mX_uA, mX_uJ, mX_uR, mI_s, mI_n, mI_A, mI_An, mI_uJ, mI_uR, mI_uX, mJ_uI, mJ_uA, mJ_uR, mJ_uX, onR_s, kC_v, kC_n, kC_t, mI_An, g1, hr1, q1, n2, h53]
    exact hq μ _ Fr.refl rfl rfl rfl
  · rw [if_neg c1] at hq
    have h77 := fun (d : Nat) (Q : Po) (F : Nat → Int32) => s_77 (d := d) (Q := Q) (μ := uA μ 1030 F) (t := nT r) (o := nO r) (StS_uA hS) (ScS_uA hSc) hsc ((mI_An (by omega)).trans n2) ((mI_An (by omega)).trans n3) (by omega) hO8 (auR r) (fun k hk => by
      have := hR.2.1.2 k hk 0 (by omega)
      rw [Nat.add_zero, Nat.add_zero] at this
      exact (mI_An (by omega)).trans this) (fun k hk => hO.2.2.2.2.2.2.2.2.2.2.2.2.2.2.2.2.1.2.2 k hk)
    simp only [cSeal_A hs9 hc9] at h77
    simp (disch := first | omega | rfl) only [e_45_0, e_45_1, e_45_4, e_45_7, e_45_9, e_45_12, e_45_13, e_45_15, e_45_18, e_45_19, e_45_20, e_45_23, e_45_24, e_45_27, e_45_28, e_45_31, e_45_34, e_45_35, ge1, ule_t, true_or, or_true, nI_add, nI_mul, nI_sub, nI_clamp, nI_lt_t, nI_lt_f, nI_le_t, nI_le_f, nI_eq_t, nI_eq_f, vp_nI, tI, fI, not_true, not_false_iff, true_and, and_true, Classical.not_not, mS_uI, mS_uA, mS_uJ, mS_uR, mS_uX, mR_uI, mR_uA, mR_uJ, mR_uX, mX_uI, mX_uA, mX_uJ, mX_uR, mI_s, mI_n, mI_A, mI_An, mI_uJ, mI_uR, mI_uX, mJ_uI, mJ_uA, mJ_uR, mJ_uX, onR_s, kC_v, kC_n, kC_t, mI_An, g1, hr1, hr2, q1, n2, h57, h77]
    exact hq _ tk cSeal_fr (relL_seal hR hO hA.2.1 hsc (by omega))
theorem c_44 (hL : LdS μ f L s c) (hR : RelL μ s c r tn) (hA : AL r tn) (ht : okTk f L t) (hq : PoC L s c g er ea μ Q (rdCom f L r tn hs gs t)) : Ev (d + 8) 44 [.ref 1030] (uA μ 1030 (ldT g L hs gs t tk er ea)) Q := by
  obtain ⟨hC, hX, hr1, hr2, hS, hSc, hs9, hc9⟩ := hL
  have hO := hA.1
  have n1 := hR.n1 hO
  have n2 := hR.n2 hO
  have n3 := hR.n3 hO
  have n6 := hO.2.1
  have hnm := hR.nm n6
  have hT40 := hO.2.2.2.1
  have hO8 := hO.2.2.2.2.2.1
  have hsc : s + 22 < c ∨ c + 4 < s := by omega
  have k1 := (ok_nx ht).1
  have k2 := (ok_nx k1).1
  have k3 := (ok_nx k2).1
  have k4 := (ok_nx k3).1
  have h53 := fun (d : Nat) (Q : Po) (hs gs : Nat) (tk x : Int32) (t : TK) => s_53 (d := d) (Q := Q) (g := g) (hs := hs) (gs := gs) (tk := tk) (er := er) (ea := ea) (t := t) (x := x) hC
  have h57 := fun (d : Nat) (Q : Po) (hs gs : Nat) (tk : Int32) (t : TK) => s_57 (d := d) (Q := Q) (t := t) (g := g) (hs := hs) (gs := gs) (tk := tk) (er := er) (ea := ea) hC
  have q1 := hS.2.1
  have g1 := hC.1
  unfold rdCom at hq
  rw [in_44]
  by_cases c1 : nO r = 8
  · rw [if_pos c1] at hq
    simp (disch := first | omega | rfl) only [e_44_0, e_44_1, e_44_4, e_44_7, e_44_9, e_44_12, e_44_13, e_44_15, e_44_18, e_44_19, e_44_20, e_44_23, e_44_24, e_44_27, e_44_30, e_44_31, e_44_32, e_44_33, e_44_36, e_44_37, e_44_38, e_44_41, e_44_42, e_44_43, e_44_44, e_44_47, e_44_48, e_44_50, e_44_53, e_44_54, e_44_55, e_44_58, e_44_59, e_44_60, e_44_62, e_44_65, e_44_68, e_44_69, e_44_70, e_44_71, e_44_74, e_44_75, e_44_76, e_44_77, e_44_78, e_44_81, e_44_84, e_44_87, e_44_88, e_44_89, e_44_90, e_44_93, e_44_94, e_44_97, e_44_98, e_44_99, e_44_100, e_44_101, e_44_104, e_44_107, e_44_108, ge1, ule_t, true_or, or_true, nI_add, nI_mul, nI_sub, nI_clamp, nI_lt_t, nI_lt_f, nI_le_t, nI_le_f, nI_eq_t, nI_eq_f, vp_nI, tI, fI, not_true, not_false_iff, true_and, and_true, Classical.not_not, mS_uI, mS_uA, mS_uJ, mS_uR, mS_uX, mR_uI, mR_uA, mR_uJ, mR_uX, mX_uI, mX_uA, mX_uJ, mX_uR, mI_s, mI_n, mI_A, mI_An, mI_uJ, mI_uR, mI_uX, mJ_uI, mJ_uA, mJ_uR, mJ_uX, onR_s, kC_v, kC_n, kC_t, mI_An, g1, hr1, q1, n3, h53]
    exact hq μ _ Fr.refl rfl rfl rfl
  · rw [if_neg c1] at hq
    unfold rdCom1 at hq
    generalize hT1 : nx f L t = t1 at *
    by_cases c2 : ckM f tn (nM r) t1 = nI 0
    · rw [if_pos c2] at hq
      have h49 := fun (d : Nat) (Q : Po) => s_49t (d := d) (Q := Q) (g := g) (hs := hs) (gs := gs) (tk := tk) (er := er) (ea := ea) hC hr1 (by omega) hS n1 n6 hnm k1 c2
      obtain ⟨m, m1, m2⟩ := fnd_c (ckM_t.mp c2).2
      rw [m2] at h49 hq
      rw [nI_clamp (by omega)] at hq
      unfold rdCom2 at hq
      generalize hT2 : nx f L t1 = t2 at *
      have h48 := fun (d : Nat) (Q : Po) (tk : Int32) => s_48 (d := d) (Q := Q) (g := g) (hs := hs) (gs := gs) (tk := tk) (er := er) (ea := ea) hC hX k2
      by_cases c3 : wIx f t2 Sort6 0 = -1
      · rw [if_pos c3] at hq
        simp only [c3] at h48
        simp (disch := first | omega | rfl) only [e_44_0, e_44_1, e_44_4, e_44_7, e_44_9, e_44_12, e_44_13, e_44_15, e_44_18, e_44_19, e_44_20, e_44_23, e_44_24, e_44_27, e_44_30, e_44_31, e_44_32, e_44_33, e_44_36, e_44_37, e_44_38, e_44_41, e_44_42, e_44_43, e_44_44, e_44_47, e_44_48, e_44_50, e_44_53, e_44_54, e_44_55, e_44_58, e_44_59, e_44_60, e_44_62, e_44_65, e_44_68, e_44_69, e_44_70, e_44_71, e_44_74, e_44_75, e_44_76, e_44_77, e_44_78, e_44_81, e_44_84, e_44_87, e_44_88, e_44_89, e_44_90, e_44_93, e_44_94, e_44_97, e_44_98, e_44_99, e_44_100, e_44_101, e_44_104, e_44_107, e_44_108, ge1, ule_t, true_or, or_true, nI_add, nI_mul, nI_sub, nI_clamp, nI_lt_t, nI_lt_f, nI_le_t, nI_le_f, nI_eq_t, nI_eq_f, vp_nI, tI, fI, not_true, not_false_iff, true_and, and_true, Classical.not_not, mS_uI, mS_uA, mS_uJ, mS_uR, mS_uX, mR_uI, mR_uA, mR_uJ, mR_uX, mX_uI, mX_uA, mX_uJ, mX_uR, mI_s, mI_n, mI_A, mI_An, mI_uJ, mI_uR, mI_uX, mJ_uI, mJ_uA, mJ_uR, mJ_uX, onR_s, kC_v, kC_n, kC_t, mI_An, mI_A, g1, hr1, q1, n3, h57 _ _ _ _ _ _ ht, hT1, hT2, h49, h48, ldT_10, h53]
        exact hq μ _ Fr.refl rfl rfl rfl
      · rw [if_neg c3] at hq
        obtain ⟨σ, σ1, σ2⟩ := wIx_6 c3
        rw [σ2] at hq
        rw [nI_clamp (by omega)] at hq
        simp only [σ2] at h48
        have hσ1 : (nI σ = -1) = False := nI_m1 (by omega)
        have hg := gOp_le σ
        unfold rdCom3 at hq
        generalize hT3 : nx f L t2 = t3 at *
        by_cases c4 : ckI 0 15 t3 = nI 0
        · rw [if_pos c4] at hq
          obtain ⟨v1, v2, v3⟩ := ckI_t.mp c4
          have h50 := fun (d : Nat) (Q : Po) (tk : Int32) => s_50t (d := d) (Q := Q) (g := g) (hs := hs) (gs := gs) (tk := tk) (er := er) (ea := ea) hC k3 (by omega) (by omega) c4
          unfold rdCom4 at hq
          generalize hT4 : nx f L t3 = t4 at *
          by_cases c5 : ckI 0 (gOp σ - 1) t4 = nI 0
          · rw [if_pos c5] at hq
            obtain ⟨w1, w2, w3⟩ := ckI_t.mp c5
            have h50b := fun (d : Nat) (Q : Po) (tk : Int32) => s_50t (d := d) (Q := Q) (g := g) (hs := hs) (gs := gs) (tk := tk) (er := er) (ea := ea) hC k4 (by omega) (by omega) c5
            have h76 := fun (d : Nat) (Q : Po) (F : Nat → Int32) => s_76 (d := d) (Q := Q) (μ := uA μ 1030 F) (t := nT r) (o := nO r) (m := m) (σ := σ) (i := t3.2.2.2) (k := t4.2.2.2) (StS_uA hS) (ScS_uA hSc) hsc ((mI_An (by omega)).trans n2) ((mI_An (by omega)).trans n3) (by omega) (by omega)
            simp only [cGive_A hs9 hc9] at h76
            simp (disch := first | omega | rfl) only [e_44_0, e_44_1, e_44_4, e_44_7, e_44_9, e_44_12, e_44_13, e_44_15, e_44_18, e_44_19, e_44_20, e_44_23, e_44_24, e_44_27, e_44_30, e_44_31, e_44_32, e_44_33, e_44_36, e_44_37, e_44_38, e_44_41, e_44_42, e_44_43, e_44_44, e_44_47, e_44_48, e_44_50, e_44_53, e_44_54, e_44_55, e_44_58, e_44_59, e_44_60, e_44_62, e_44_65, e_44_68, e_44_69, e_44_70, e_44_71, e_44_74, e_44_75, e_44_76, e_44_77, e_44_78, e_44_81, e_44_84, e_44_87, e_44_88, e_44_89, e_44_90, e_44_93, e_44_94, e_44_97, e_44_98, e_44_99, e_44_100, e_44_101, e_44_104, e_44_107, e_44_108, ge1, ule_t, true_or, or_true, nI_add, nI_mul, nI_sub, nI_clamp, nI_lt_t, nI_lt_f, nI_le_t, nI_le_f, nI_eq_t, nI_eq_f, vp_nI, tI, fI, not_true, not_false_iff, true_and, and_true, Classical.not_not, mS_uI, mS_uA, mS_uJ, mS_uR, mS_uX, mR_uI, mR_uA, mR_uJ, mR_uX, mX_uI, mX_uA, mX_uJ, mX_uR, mI_s, mI_n, mI_A, mI_An, mI_uJ, mI_uR, mI_uX, mJ_uI, mJ_uA, mJ_uR, mJ_uX, onR_s, kC_v, kC_n, kC_t, mI_An, mI_A, g1, hr1, hr2, q1, n3, h57 _ _ _ _ _ _ ht, h57 _ _ _ _ _ _ k2, hT1, hT2, hT3, hT4, h49, h48, hσ1, ldT_10, h50, s_157, h50b, h76]
            exact hq _ _ cGive_fr (relL_give hR hO hsc (by omega))
          · rw [if_neg c5] at hq
            have h50b := fun (d : Nat) (Q : Po) (tk : Int32) => s_50f (d := d) (Q := Q) (g := g) (hs := hs) (gs := gs) (tk := tk) (er := er) (ea := ea) hC k4 (by omega) (by omega) c5
            simp (disch := first | omega | rfl) only [e_44_0, e_44_1, e_44_4, e_44_7, e_44_9, e_44_12, e_44_13, e_44_15, e_44_18, e_44_19, e_44_20, e_44_23, e_44_24, e_44_27, e_44_30, e_44_31, e_44_32, e_44_33, e_44_36, e_44_37, e_44_38, e_44_41, e_44_42, e_44_43, e_44_44, e_44_47, e_44_48, e_44_50, e_44_53, e_44_54, e_44_55, e_44_58, e_44_59, e_44_60, e_44_62, e_44_65, e_44_68, e_44_69, e_44_70, e_44_71, e_44_74, e_44_75, e_44_76, e_44_77, e_44_78, e_44_81, e_44_84, e_44_87, e_44_88, e_44_89, e_44_90, e_44_93, e_44_94, e_44_97, e_44_98, e_44_99, e_44_100, e_44_101, e_44_104, e_44_107, e_44_108, ge1, ule_t, true_or, or_true, nI_add, nI_mul, nI_sub, nI_clamp, nI_lt_t, nI_lt_f, nI_le_t, nI_le_f, nI_eq_t, nI_eq_f, vp_nI, tI, fI, not_true, not_false_iff, true_and, and_true, Classical.not_not, mS_uI, mS_uA, mS_uJ, mS_uR, mS_uX, mR_uI, mR_uA, mR_uJ, mR_uX, mX_uI, mX_uA, mX_uJ, mX_uR, mI_s, mI_n, mI_A, mI_An, mI_uJ, mI_uR, mI_uX, mJ_uI, mJ_uA, mJ_uR, mJ_uX, onR_s, kC_v, kC_n, kC_t, mI_An, mI_A, g1, hr1, hr2, q1, n3, h57 _ _ _ _ _ _ ht, h57 _ _ _ _ _ _ k2, hT1, hT2, hT3, hT4, h49, h48, hσ1, ldT_10, h50, s_157, h50b]
            exact hq μ _ Fr.refl rfl rfl rfl
        · rw [if_neg c4] at hq
          have h50 := fun (d : Nat) (Q : Po) (tk : Int32) => s_50f (d := d) (Q := Q) (g := g) (hs := hs) (gs := gs) (tk := tk) (er := er) (ea := ea) hC k3 (by omega) (by omega) c4
          simp (disch := first | omega | rfl) only [e_44_0, e_44_1, e_44_4, e_44_7, e_44_9, e_44_12, e_44_13, e_44_15, e_44_18, e_44_19, e_44_20, e_44_23, e_44_24, e_44_27, e_44_30, e_44_31, e_44_32, e_44_33, e_44_36, e_44_37, e_44_38, e_44_41, e_44_42, e_44_43, e_44_44, e_44_47, e_44_48, e_44_50, e_44_53, e_44_54, e_44_55, e_44_58, e_44_59, e_44_60, e_44_62, e_44_65, e_44_68, e_44_69, e_44_70, e_44_71, e_44_74, e_44_75, e_44_76, e_44_77, e_44_78, e_44_81, e_44_84, e_44_87, e_44_88, e_44_89, e_44_90, e_44_93, e_44_94, e_44_97, e_44_98, e_44_99, e_44_100, e_44_101, e_44_104, e_44_107, e_44_108, ge1, ule_t, true_or, or_true, nI_add, nI_mul, nI_sub, nI_clamp, nI_lt_t, nI_lt_f, nI_le_t, nI_le_f, nI_eq_t, nI_eq_f, vp_nI, tI, fI, not_true, not_false_iff, true_and, and_true, Classical.not_not, mS_uI, mS_uA, mS_uJ, mS_uR, mS_uX, mR_uI, mR_uA, mR_uJ, mR_uX, mX_uI, mX_uA, mX_uJ, mX_uR, mI_s, mI_n, mI_A, mI_An, mI_uJ, mI_uR, mI_uX, mJ_uI, mJ_uA, mJ_uR, mJ_uX, onR_s, kC_v, kC_n, kC_t, mI_An, mI_A, g1, hr1, hr2, q1, n3, h57 _ _ _ _ _ _ ht, h57 _ _ _ _ _ _ k2, hT1, hT2, hT3, h49, h48, hσ1, ldT_10, h50]
          exact hq μ _ Fr.refl rfl rfl rfl
    · rw [if_neg c2] at hq
      have h49 := fun (d : Nat) (Q : Po) => s_49f (d := d) (Q := Q) (g := g) (hs := hs) (gs := gs) (tk := tk) (er := er) (ea := ea) hC hr1 (by omega) hS n1 n6 hnm k1 c2
      simp (disch := first | omega | rfl) only [e_44_0, e_44_1, e_44_4, e_44_7, e_44_9, e_44_12, e_44_13, e_44_15, e_44_18, e_44_19, e_44_20, e_44_23, e_44_24, e_44_27, e_44_30, e_44_31, e_44_32, e_44_33, e_44_36, e_44_37, e_44_38, e_44_41, e_44_42, e_44_43, e_44_44, e_44_47, e_44_48, e_44_50, e_44_53, e_44_54, e_44_55, e_44_58, e_44_59, e_44_60, e_44_62, e_44_65, e_44_68, e_44_69, e_44_70, e_44_71, e_44_74, e_44_75, e_44_76, e_44_77, e_44_78, e_44_81, e_44_84, e_44_87, e_44_88, e_44_89, e_44_90, e_44_93, e_44_94, e_44_97, e_44_98, e_44_99, e_44_100, e_44_101, e_44_104, e_44_107, e_44_108, ge1, ule_t, true_or, or_true, nI_add, nI_mul, nI_sub, nI_clamp, nI_lt_t, nI_lt_f, nI_le_t, nI_le_f, nI_eq_t, nI_eq_f, vp_nI, tI, fI, not_true, not_false_iff, true_and, and_true, Classical.not_not, mS_uI, mS_uA, mS_uJ, mS_uR, mS_uX, mR_uI, mR_uA, mR_uJ, mR_uX, mX_uI, mX_uA, mX_uJ, mX_uR, mI_s, mI_n, mI_A, mI_An, mI_uJ, mI_uR, mI_uX, mJ_uI, mJ_uA, mJ_uR, mJ_uX, onR_s, kC_v, kC_n, kC_t, mI_An, mI_A, g1, hr1, q1, n3, h57 _ _ _ _ _ _ ht, hT1, h49]
      exact hq μ _ Fr.refl rfl rfl rfl
theorem c_46 (hL : LdS μ f L s c) (hR : RelL μ s c r tn) (hA : AL r tn) (ht : okTk f L t) (hq : PoC L s c g er ea μ Q (rdFau f L r tn hs gs t)) : Ev (d + 4) 46 [.ref 1030] (uA μ 1030 (ldT g L hs gs t tk er ea)) Q := by
  obtain ⟨hC, hX, hr1, hr2, hS, hSc, hs9, hc9⟩ := hL
  have hO := hA.1
  have n1 := hR.n1 hO
  have n4 := hR.n4 hO
  have n6 := hO.2.1
  have hnm := hR.nm n6
  have hF10 := hO.2.2.2.2.2.2.2.1
  have hsc : s + 22 < c ∨ c + 4 < s := by omega
  have k1 := (ok_nx ht).1
  have k2 := (ok_nx k1).1
  have k3 := (ok_nx k2).1
  have k4 := (ok_nx k3).1
  have h53 := fun (d : Nat) (Q : Po) (hs gs : Nat) (tk x : Int32) (t : TK) => s_53 (d := d) (Q := Q) (g := g) (hs := hs) (gs := gs) (tk := tk) (er := er) (ea := ea) (t := t) (x := x) hC
  have h57 := fun (d : Nat) (Q : Po) (hs gs : Nat) (tk : Int32) (t : TK) => s_57 (d := d) (Q := Q) (t := t) (g := g) (hs := hs) (gs := gs) (tk := tk) (er := er) (ea := ea) hC
  have q1 := hS.2.1
  have q4 := hS.2.2.2.2.1
  have q7 := hS.2.2.2.2.2.2.2.1
  have g1 := hC.1
  unfold rdFau at hq
  rw [in_46]
  by_cases c1 : nF r = 10
  · rw [if_pos c1] at hq
    simp (disch := first | omega | rfl) only [e_46_0, e_46_1, e_46_4, e_46_7, e_46_10, e_46_12, e_46_15, e_46_16, e_46_18, e_46_21, e_46_22, e_46_23, e_46_26, e_46_27, e_46_30, e_46_33, e_46_34, e_46_35, e_46_36, e_46_39, e_46_40, e_46_41, e_46_42, e_46_44, e_46_47, e_46_50, e_46_51, e_46_52, e_46_53, e_46_56, e_46_57, e_46_58, e_46_59, e_46_61, e_46_64, e_46_67, e_46_68, e_46_69, e_46_70, e_46_73, e_46_74, e_46_75, e_46_76, e_46_79, e_46_82, e_46_85, e_46_86, e_46_87, e_46_88, e_46_91, e_46_94, e_46_95, e_46_96, e_46_97, e_46_98, e_46_101, e_46_104, e_46_105, ge1, ule_t, true_or, or_true, nI_add, nI_mul, nI_sub, nI_clamp, nI_lt_t, nI_lt_f, nI_le_t, nI_le_f, nI_eq_t, nI_eq_f, vp_nI, tI, fI, not_true, not_false_iff, true_and, and_true, Classical.not_not, mS_uI, mS_uA, mS_uJ, mS_uR, mS_uX, mR_uI, mR_uA, mR_uJ, mR_uX, mX_uI, mX_uA, mX_uJ, mX_uR, mI_s, mI_n, mI_A, mI_An, mI_uJ, mI_uR, mI_uX, mJ_uI, mJ_uA, mJ_uR, mJ_uX, onR_s, kC_v, kC_n, kC_t, mI_An, g1, hr1, q1, q4, q7, n4, h53]
    exact hq μ _ Fr.refl rfl rfl rfl
  · rw [if_neg c1] at hq
    unfold rdFau1 at hq
    generalize hT1 : nx f L t = t1 at *
    by_cases c2 : ckM f tn (nM r) t1 = nI 0
    · rw [if_pos c2] at hq
      have h49 := fun (d : Nat) (Q : Po) => s_49t (d := d) (Q := Q) (g := g) (hs := hs) (gs := gs) (tk := tk) (er := er) (ea := ea) hC hr1 (by omega) hS n1 n6 hnm k1 c2
      obtain ⟨m, m1, m2⟩ := fnd_c (ckM_t.mp c2).2
      rw [m2] at h49 hq
      rw [nI_clamp (by omega)] at hq
      unfold rdFau2 at hq
      generalize hT2 : nx f L t1 = t2 at *
      by_cases c3 : ckI 0 39 t2 = nI 0
      · rw [if_pos c3] at hq
        obtain ⟨u1, u2, u3⟩ := ckI_t.mp c3
        have h50 := fun (d : Nat) (Q : Po) (tk : Int32) => s_50t (d := d) (Q := Q) (g := g) (hs := hs) (gs := gs) (tk := tk) (er := er) (ea := ea) hC k2 (by omega) (by omega) c3
        unfold rdFau3 at hq
        generalize hT3 : nx f L t2 = t3 at *
        by_cases c4 : ckI 0 15 t3 = nI 0
        · rw [if_pos c4] at hq
          obtain ⟨v1, v2, v3⟩ := ckI_t.mp c4
          have h50b := fun (d : Nat) (Q : Po) (tk : Int32) => s_50t (d := d) (Q := Q) (g := g) (hs := hs) (gs := gs) (tk := tk) (er := er) (ea := ea) hC k3 (by omega) (by omega) c4
          unfold rdFau4 at hq
          generalize hT4 : nx f L t3 = t4 at *
          by_cases c5 : ckI 1 9999 t4 = nI 0
          · rw [if_pos c5] at hq
            obtain ⟨w1, w2, w3⟩ := ckI_t.mp c5
            have h50c := fun (d : Nat) (Q : Po) (tk : Int32) => s_50t (d := d) (Q := Q) (g := g) (hs := hs) (gs := gs) (tk := tk) (er := er) (ea := ea) hC k4 (by omega) (by omega) c5
            have h35 := fun (d : Nat) (Q : Po) (F : Nat → Int32) => s_35 (d := d) (Q := Q) (μ := uA μ 1030 F) (s := s) (o := nF r) (m := m) (σ := t2.2.2.2) (i := t3.2.2.2) (k := t4.2.2.2) (StS_uA hS).fa ((mI_An (by omega)).trans n4) (by omega)
            simp only [cFault_A hs9] at h35
            simp (disch := first | omega | rfl) only [e_46_0, e_46_1, e_46_4, e_46_7, e_46_10, e_46_12, e_46_15, e_46_16, e_46_18, e_46_21, e_46_22, e_46_23, e_46_26, e_46_27, e_46_30, e_46_33, e_46_34, e_46_35, e_46_36, e_46_39, e_46_40, e_46_41, e_46_42, e_46_44, e_46_47, e_46_50, e_46_51, e_46_52, e_46_53, e_46_56, e_46_57, e_46_58, e_46_59, e_46_61, e_46_64, e_46_67, e_46_68, e_46_69, e_46_70, e_46_73, e_46_74, e_46_75, e_46_76, e_46_79, e_46_82, e_46_85, e_46_86, e_46_87, e_46_88, e_46_91, e_46_94, e_46_95, e_46_96, e_46_97, e_46_98, e_46_101, e_46_104, e_46_105, ge1, ule_t, true_or, or_true, nI_add, nI_mul, nI_sub, nI_clamp, nI_lt_t, nI_lt_f, nI_le_t, nI_le_f, nI_eq_t, nI_eq_f, vp_nI, tI, fI, not_true, not_false_iff, true_and, and_true, Classical.not_not, mS_uI, mS_uA, mS_uJ, mS_uR, mS_uX, mR_uI, mR_uA, mR_uJ, mR_uX, mX_uI, mX_uA, mX_uJ, mX_uR, mI_s, mI_n, mI_A, mI_An, mI_uJ, mI_uR, mI_uX, mJ_uI, mJ_uA, mJ_uR, mJ_uX, onR_s, kC_v, kC_n, kC_t, mI_An, mI_A, g1, hr1, hr2, q1, q4, q7, n4, h57 _ _ _ _ _ _ ht, hT1, hT2, hT3, hT4, h49, ldT_10, h50, h50b, h50c, h35]
            exact hq _ _ cFault_fr (relL_fault hR hO hsc (by omega))
          · rw [if_neg c5] at hq
            have h50c := fun (d : Nat) (Q : Po) (tk : Int32) => s_50f (d := d) (Q := Q) (g := g) (hs := hs) (gs := gs) (tk := tk) (er := er) (ea := ea) hC k4 (by omega) (by omega) c5
            simp (disch := first | omega | rfl) only [e_46_0, e_46_1, e_46_4, e_46_7, e_46_10, e_46_12, e_46_15, e_46_16, e_46_18, e_46_21, e_46_22, e_46_23, e_46_26, e_46_27, e_46_30, e_46_33, e_46_34, e_46_35, e_46_36, e_46_39, e_46_40, e_46_41, e_46_42, e_46_44, e_46_47, e_46_50, e_46_51, e_46_52, e_46_53, e_46_56, e_46_57, e_46_58, e_46_59, e_46_61, e_46_64, e_46_67, e_46_68, e_46_69, e_46_70, e_46_73, e_46_74, e_46_75, e_46_76, e_46_79, e_46_82, e_46_85, e_46_86, e_46_87, e_46_88, e_46_91, e_46_94, e_46_95, e_46_96, e_46_97, e_46_98, e_46_101, e_46_104, e_46_105, ge1, ule_t, true_or, or_true, nI_add, nI_mul, nI_sub, nI_clamp, nI_lt_t, nI_lt_f, nI_le_t, nI_le_f, nI_eq_t, nI_eq_f, vp_nI, tI, fI, not_true, not_false_iff, true_and, and_true, Classical.not_not, mS_uI, mS_uA, mS_uJ, mS_uR, mS_uX, mR_uI, mR_uA, mR_uJ, mR_uX, mX_uI, mX_uA, mX_uJ, mX_uR, mI_s, mI_n, mI_A, mI_An, mI_uJ, mI_uR, mI_uX, mJ_uI, mJ_uA, mJ_uR, mJ_uX, onR_s, kC_v, kC_n, kC_t, mI_An, mI_A, g1, hr1, hr2, q1, q4, q7, n4, h57 _ _ _ _ _ _ ht, hT1, hT2, hT3, hT4, h49, ldT_10, h50, h50b, h50c]
            exact hq μ _ Fr.refl rfl rfl rfl
        · rw [if_neg c4] at hq
          have h50b := fun (d : Nat) (Q : Po) (tk : Int32) => s_50f (d := d) (Q := Q) (g := g) (hs := hs) (gs := gs) (tk := tk) (er := er) (ea := ea) hC k3 (by omega) (by omega) c4
          simp (disch := first | omega | rfl) only [e_46_0, e_46_1, e_46_4, e_46_7, e_46_10, e_46_12, e_46_15, e_46_16, e_46_18, e_46_21, e_46_22, e_46_23, e_46_26, e_46_27, e_46_30, e_46_33, e_46_34, e_46_35, e_46_36, e_46_39, e_46_40, e_46_41, e_46_42, e_46_44, e_46_47, e_46_50, e_46_51, e_46_52, e_46_53, e_46_56, e_46_57, e_46_58, e_46_59, e_46_61, e_46_64, e_46_67, e_46_68, e_46_69, e_46_70, e_46_73, e_46_74, e_46_75, e_46_76, e_46_79, e_46_82, e_46_85, e_46_86, e_46_87, e_46_88, e_46_91, e_46_94, e_46_95, e_46_96, e_46_97, e_46_98, e_46_101, e_46_104, e_46_105, ge1, ule_t, true_or, or_true, nI_add, nI_mul, nI_sub, nI_clamp, nI_lt_t, nI_lt_f, nI_le_t, nI_le_f, nI_eq_t, nI_eq_f, vp_nI, tI, fI, not_true, not_false_iff, true_and, and_true, Classical.not_not, mS_uI, mS_uA, mS_uJ, mS_uR, mS_uX, mR_uI, mR_uA, mR_uJ, mR_uX, mX_uI, mX_uA, mX_uJ, mX_uR, mI_s, mI_n, mI_A, mI_An, mI_uJ, mI_uR, mI_uX, mJ_uI, mJ_uA, mJ_uR, mJ_uX, onR_s, kC_v, kC_n, kC_t, mI_An, mI_A, g1, hr1, hr2, q1, q4, q7, n4, h57 _ _ _ _ _ _ ht, hT1, hT2, hT3, h49, ldT_10, h50, h50b]
          exact hq μ _ Fr.refl rfl rfl rfl
      · rw [if_neg c3] at hq
        have h50 := fun (d : Nat) (Q : Po) (tk : Int32) => s_50f (d := d) (Q := Q) (g := g) (hs := hs) (gs := gs) (tk := tk) (er := er) (ea := ea) hC k2 (by omega) (by omega) c3
        simp (disch := first | omega | rfl) only [e_46_0, e_46_1, e_46_4, e_46_7, e_46_10, e_46_12, e_46_15, e_46_16, e_46_18, e_46_21, e_46_22, e_46_23, e_46_26, e_46_27, e_46_30, e_46_33, e_46_34, e_46_35, e_46_36, e_46_39, e_46_40, e_46_41, e_46_42, e_46_44, e_46_47, e_46_50, e_46_51, e_46_52, e_46_53, e_46_56, e_46_57, e_46_58, e_46_59, e_46_61, e_46_64, e_46_67, e_46_68, e_46_69, e_46_70, e_46_73, e_46_74, e_46_75, e_46_76, e_46_79, e_46_82, e_46_85, e_46_86, e_46_87, e_46_88, e_46_91, e_46_94, e_46_95, e_46_96, e_46_97, e_46_98, e_46_101, e_46_104, e_46_105, ge1, ule_t, true_or, or_true, nI_add, nI_mul, nI_sub, nI_clamp, nI_lt_t, nI_lt_f, nI_le_t, nI_le_f, nI_eq_t, nI_eq_f, vp_nI, tI, fI, not_true, not_false_iff, true_and, and_true, Classical.not_not, mS_uI, mS_uA, mS_uJ, mS_uR, mS_uX, mR_uI, mR_uA, mR_uJ, mR_uX, mX_uI, mX_uA, mX_uJ, mX_uR, mI_s, mI_n, mI_A, mI_An, mI_uJ, mI_uR, mI_uX, mJ_uI, mJ_uA, mJ_uR, mJ_uX, onR_s, kC_v, kC_n, kC_t, mI_An, mI_A, g1, hr1, hr2, q1, q4, q7, n4, h57 _ _ _ _ _ _ ht, hT1, hT2, h49, ldT_10, h50]
        exact hq μ _ Fr.refl rfl rfl rfl
    · rw [if_neg c2] at hq
      have h49 := fun (d : Nat) (Q : Po) => s_49f (d := d) (Q := Q) (g := g) (hs := hs) (gs := gs) (tk := tk) (er := er) (ea := ea) hC hr1 (by omega) hS n1 n6 hnm k1 c2
      simp (disch := first | omega | rfl) only [e_46_0, e_46_1, e_46_4, e_46_7, e_46_10, e_46_12, e_46_15, e_46_16, e_46_18, e_46_21, e_46_22, e_46_23, e_46_26, e_46_27, e_46_30, e_46_33, e_46_34, e_46_35, e_46_36, e_46_39, e_46_40, e_46_41, e_46_42, e_46_44, e_46_47, e_46_50, e_46_51, e_46_52, e_46_53, e_46_56, e_46_57, e_46_58, e_46_59, e_46_61, e_46_64, e_46_67, e_46_68, e_46_69, e_46_70, e_46_73, e_46_74, e_46_75, e_46_76, e_46_79, e_46_82, e_46_85, e_46_86, e_46_87, e_46_88, e_46_91, e_46_94, e_46_95, e_46_96, e_46_97, e_46_98, e_46_101, e_46_104, e_46_105, ge1, ule_t, true_or, or_true, nI_add, nI_mul, nI_sub, nI_clamp, nI_lt_t, nI_lt_f, nI_le_t, nI_le_f, nI_eq_t, nI_eq_f, vp_nI, tI, fI, not_true, not_false_iff, true_and, and_true, Classical.not_not, mS_uI, mS_uA, mS_uJ, mS_uR, mS_uX, mR_uI, mR_uA, mR_uJ, mR_uX, mX_uI, mX_uA, mX_uJ, mX_uR, mI_s, mI_n, mI_A, mI_An, mI_uJ, mI_uR, mI_uX, mJ_uI, mJ_uA, mJ_uR, mJ_uX, onR_s, kC_v, kC_n, kC_t, mI_An, mI_A, g1, hr1, q1, q4, q7, n4, h57 _ _ _ _ _ _ ht, hT1, h49]
      exact hq μ _ Fr.refl rfl rfl rfl
theorem c_47 (hL : LdS μ f L s c) (hR : RelL μ s c r tn) (hA : AL r tn) (ht : okTk f L t) (hg4 : gs < 4) (hq : PoC L s c g er ea μ Q (rdSet f L r tn hs gs t)) : Ev (d + 7) 47 [.ref 1030] (uA μ 1030 (ldT g L hs gs t tk er ea)) Q := by
  obtain ⟨hC, hX, hr1, hr2, hS, hSc, hs9, hc9⟩ := hL
  have hO := hA.1
  have hsc : s + 22 < c ∨ c + 4 < s := by omega
  have k1 := (ok_nx ht).1
  have k2 := (ok_nx k1).1
  have h53 := fun (d : Nat) (Q : Po) (hs gs : Nat) (tk x : Int32) (t : TK) => s_53 (d := d) (Q := Q) (g := g) (hs := hs) (gs := gs) (tk := tk) (er := er) (ea := ea) (t := t) (x := x) hC
  have h57 := fun (d : Nat) (Q : Po) (hs gs : Nat) (tk : Int32) (t : TK) => s_57 (d := d) (Q := Q) (t := t) (g := g) (hs := hs) (gs := gs) (tk := tk) (er := er) (ea := ea) hC
  have h12 := fun (d : Nat) (Q : Po) => s_56 (d := d) (Q := Q) (g := g) (hs := hs) (gs := gs) (tk := tk) (er := er) (ea := ea) (i := 12) hC hX (by omega) (by omega) k1
  have h13 := fun (d : Nat) (Q : Po) => s_56 (d := d) (Q := Q) (g := g) (hs := hs) (gs := gs) (tk := tk) (er := er) (ea := ea) (i := 13) hC hX (by omega) (by omega) k1
  have q1 := hS.2.1
  have q3 := hS.2.2.2.1
  have q6 := hS.2.2.2.2.2.2.1
  have g1 := hC.1
  unfold rdSet rdSet1 at hq
  rw [in_47]
  generalize hT1 : nx f L t = t1 at *
  have key : ∀ w, w < 2 → PoC L s c g er ea μ Q (rdSet2 f L r tn hs gs w t1) → EM 47 (d + 6) 32 [some (.ref 1030), some (.int (nI w))] [] (uA μ 1030 (ldT g L hs gs t1 tk er ea)) (0, 0) Q := by
    intro w hw hq
    unfold rdSet2 at hq
    have hw1 : (nI w = -1) = False := nI_m1 (by omega)
    have hg40 : gSet w ≤ 40 := by unfold gSet; split <;> omega
    have h156 := fun (d : Nat) (Q : Po) (μ : Mu) => s_156 (d := d) (Q := Q) (μ := μ) (x := nI gs) (k := w) (by omega)
    simp only [bS_nI (w := gs) (show w < 32 by omega)] at h156
    by_cases c1 : gs.testBit w = true
    · rw [if_pos c1] at hq
      simp only [bI_ti c1] at h156
      simp (disch := first | omega | rfl) only [e_47_0, e_47_1, e_47_4, e_47_5, e_47_7, e_47_10, e_47_13, e_47_14, e_47_17, e_47_18, e_47_20, e_47_23, e_47_26, e_47_27, e_47_30, e_47_31, e_47_32, e_47_33, e_47_34, e_47_37, e_47_38, e_47_40, e_47_43, e_47_44, e_47_45, e_47_48, e_47_49, e_47_52, e_47_55, e_47_56, e_47_58, e_47_61, e_47_62, e_47_63, e_47_64, e_47_67, e_47_68, e_47_69, e_47_70, e_47_71, e_47_74, e_47_75, e_47_78, e_47_79, e_47_80, e_47_81, e_47_84, e_47_87, e_47_90, e_47_91, e_47_92, e_47_93, e_47_96, e_47_99, e_47_100, e_47_101, e_47_104, e_47_105, e_47_106, ge1, ule_t, true_or, or_true, nI_add, nI_mul, nI_sub, nI_clamp, nI_lt_t, nI_lt_f, nI_le_t, nI_le_f, nI_eq_t, nI_eq_f, vp_nI, tI, fI, not_true, not_false_iff, true_and, and_true, Classical.not_not, mS_uI, mS_uA, mS_uJ, mS_uR, mS_uX, mR_uI, mR_uA, mR_uJ, mR_uX, mX_uI, mX_uA, mX_uJ, mX_uR, mI_s, mI_n, mI_A, mI_An, mI_uJ, mI_uR, mI_uX, mJ_uI, mJ_uA, mJ_uR, mJ_uX, onR_s, kC_v, kC_n, kC_t, mI_An, mI_A, g1, hw1, ldT_5, h156, h53]
      exact hq μ _ Fr.refl rfl rfl rfl
    · rw [if_neg c1] at hq
      simp only [bI_fi c1] at h156
      unfold rdSet3 at hq
      generalize hT2 : nx f L t1 = t2 at *
      by_cases c2 : ckI 1 (gSet w) t2 = nI 0
      · rw [if_pos c2] at hq
        obtain ⟨v1, v2, v3⟩ := ckI_t.mp c2
        have h50 := fun (d : Nat) (Q : Po) (tk : Int32) (gs : Nat) => s_50t (d := d) (Q := Q) (g := g) (hs := hs) (gs := gs) (tk := tk) (er := er) (ea := ea) hC k2 (by omega) (by omega) c2
        simp (disch := first | omega | rfl) only [e_47_0, e_47_1, e_47_4, e_47_5, e_47_7, e_47_10, e_47_13, e_47_14, e_47_17, e_47_18, e_47_20, e_47_23, e_47_26, e_47_27, e_47_30, e_47_31, e_47_32, e_47_33, e_47_34, e_47_37, e_47_38, e_47_40, e_47_43, e_47_44, e_47_45, e_47_48, e_47_49, e_47_52, e_47_55, e_47_56, e_47_58, e_47_61, e_47_62, e_47_63, e_47_64, e_47_67, e_47_68, e_47_69, e_47_70, e_47_71, e_47_74, e_47_75, e_47_78, e_47_79, e_47_80, e_47_81, e_47_84, e_47_87, e_47_90, e_47_91, e_47_92, e_47_93, e_47_96, e_47_99, e_47_100, e_47_101, e_47_104, e_47_105, e_47_106, ge1, ule_t, true_or, or_true, nI_add, nI_mul, nI_sub, nI_clamp, nI_lt_t, nI_lt_f, nI_le_t, nI_le_f, nI_eq_t, nI_eq_f, vp_nI, tI, fI, not_true, not_false_iff, true_and, and_true, Classical.not_not, mS_uI, mS_uA, mS_uJ, mS_uR, mS_uX, mR_uI, mR_uA, mR_uJ, mR_uX, mX_uI, mX_uA, mX_uJ, mX_uR, mI_s, mI_n, mI_A, mI_An, mI_uJ, mI_uR, mI_uX, mJ_uI, mJ_uA, mJ_uR, mJ_uX, onR_s, kC_v, kC_n, kC_t, mI_An, mI_A, g1, hr1, q1, q3, q6, hw1, ldT_5, h156, nI_shl, Nat.one_mul, nI_or, uIA, ldT_u5, h57 _ _ _ _ _ _ k1, hT2, s_158, h50, ldT_10, uIuA]
        exact hq _ _ (Fr.refl.iu (Or.inl (by omega))) (relL_set hR hO hw hsc)
      · rw [if_neg c2] at hq
        have h50 := fun (d : Nat) (Q : Po) (tk : Int32) (gs : Nat) => s_50f (d := d) (Q := Q) (g := g) (hs := hs) (gs := gs) (tk := tk) (er := er) (ea := ea) hC k2 (by omega) (by omega) c2
        simp (disch := first | omega | rfl) only [e_47_0, e_47_1, e_47_4, e_47_5, e_47_7, e_47_10, e_47_13, e_47_14, e_47_17, e_47_18, e_47_20, e_47_23, e_47_26, e_47_27, e_47_30, e_47_31, e_47_32, e_47_33, e_47_34, e_47_37, e_47_38, e_47_40, e_47_43, e_47_44, e_47_45, e_47_48, e_47_49, e_47_52, e_47_55, e_47_56, e_47_58, e_47_61, e_47_62, e_47_63, e_47_64, e_47_67, e_47_68, e_47_69, e_47_70, e_47_71, e_47_74, e_47_75, e_47_78, e_47_79, e_47_80, e_47_81, e_47_84, e_47_87, e_47_90, e_47_91, e_47_92, e_47_93, e_47_96, e_47_99, e_47_100, e_47_101, e_47_104, e_47_105, e_47_106, ge1, ule_t, true_or, or_true, nI_add, nI_mul, nI_sub, nI_clamp, nI_lt_t, nI_lt_f, nI_le_t, nI_le_f, nI_eq_t, nI_eq_f, vp_nI, tI, fI, not_true, not_false_iff, true_and, and_true, Classical.not_not, mS_uI, mS_uA, mS_uJ, mS_uR, mS_uX, mR_uI, mR_uA, mR_uJ, mR_uX, mX_uI, mX_uA, mX_uJ, mX_uR, mI_s, mI_n, mI_A, mI_An, mI_uJ, mI_uR, mI_uX, mJ_uI, mJ_uA, mJ_uR, mJ_uX, onR_s, kC_v, kC_n, kC_t, mI_An, mI_A, g1, hr1, q1, q3, q6, hw1, ldT_5, h156, nI_shl, Nat.one_mul, nI_or, uIA, ldT_u5, h57 _ _ _ _ _ _ k1, hT2, s_158, h50]
        exact hq μ _ Fr.refl rfl rfl rfl
  by_cases c1 : isW f t1 (txB 12)
  · have e1 : wIx f t1 Set2 0 = nI 0 := if_pos c1
    rw [e1, if_neg (by decide)] at hq
    rw [nI_clamp (by omega)] at hq
    simp only [bI_ti c1] at h12
    have hk := key 0 (by omega) hq
    simp (disch := first | omega | rfl) only [e_47_0, e_47_1, e_47_4, e_47_5, e_47_7, e_47_10, e_47_13, e_47_14, e_47_17, e_47_18, e_47_20, e_47_23, e_47_26, e_47_27, e_47_30, e_47_31, e_47_33, e_47_34, e_47_37, e_47_38, e_47_40, e_47_43, e_47_44, e_47_45, e_47_48, e_47_49, e_47_52, e_47_55, e_47_56, e_47_58, e_47_61, e_47_62, e_47_63, e_47_64, e_47_67, e_47_68, e_47_69, e_47_70, e_47_71, e_47_74, e_47_75, e_47_78, e_47_79, e_47_80, e_47_81, e_47_84, e_47_87, e_47_90, e_47_91, e_47_92, e_47_93, e_47_96, e_47_99, e_47_100, e_47_101, e_47_104, e_47_105, e_47_106, ge1, ule_t, true_or, or_true, nI_add, nI_mul, nI_sub, nI_clamp, nI_lt_t, nI_lt_f, nI_le_t, nI_le_f, nI_eq_t, nI_eq_f, vp_nI, tI, fI, not_true, not_false_iff, true_and, and_true, Classical.not_not, mS_uI, mS_uA, mS_uJ, mS_uR, mS_uX, mR_uI, mR_uA, mR_uJ, mR_uX, mX_uI, mX_uA, mX_uJ, mX_uR, mI_s, mI_n, mI_A, mI_An, mI_uJ, mI_uR, mI_uX, mJ_uI, mJ_uA, mJ_uR, mJ_uX, onR_s, kC_v, kC_n, kC_t, g1, h57 _ _ _ _ _ _ ht, hT1, h12]
    exact hk
  · simp only [bI_fi c1] at h12
    by_cases c2 : isW f t1 (txB 13)
    · have e1 : wIx f t1 Set2 0 = nI 1 := (if_neg c1).trans (if_pos c2)
      rw [e1, if_neg (by decide)] at hq
      rw [nI_clamp (by omega)] at hq
      simp only [bI_ti c2] at h13
      have hk := key 1 (by omega) hq
      simp (disch := first | omega | rfl) only [e_47_0, e_47_1, e_47_4, e_47_5, e_47_7, e_47_10, e_47_13, e_47_14, e_47_17, e_47_18, e_47_20, e_47_23, e_47_26, e_47_27, e_47_30, e_47_31, e_47_33, e_47_34, e_47_37, e_47_38, e_47_40, e_47_43, e_47_44, e_47_45, e_47_48, e_47_49, e_47_52, e_47_55, e_47_56, e_47_58, e_47_61, e_47_62, e_47_63, e_47_64, e_47_67, e_47_68, e_47_69, e_47_70, e_47_71, e_47_74, e_47_75, e_47_78, e_47_79, e_47_80, e_47_81, e_47_84, e_47_87, e_47_90, e_47_91, e_47_92, e_47_93, e_47_96, e_47_99, e_47_100, e_47_101, e_47_104, e_47_105, e_47_106, ge1, ule_t, true_or, or_true, nI_add, nI_mul, nI_sub, nI_clamp, nI_lt_t, nI_lt_f, nI_le_t, nI_le_f, nI_eq_t, nI_eq_f, vp_nI, tI, fI, not_true, not_false_iff, true_and, and_true, Classical.not_not, mS_uI, mS_uA, mS_uJ, mS_uR, mS_uX, mR_uI, mR_uA, mR_uJ, mR_uX, mX_uI, mX_uA, mX_uJ, mX_uR, mI_s, mI_n, mI_A, mI_An, mI_uJ, mI_uR, mI_uX, mJ_uI, mJ_uA, mJ_uR, mJ_uX, onR_s, kC_v, kC_n, kC_t, g1, h57 _ _ _ _ _ _ ht, hT1, h12, h13]
      exact hk
    · have e1 : wIx f t1 Set2 0 = -1 := (if_neg c1).trans (if_neg c2)
      rw [if_pos e1] at hq
      simp only [bI_fi c2] at h13
      simp (disch := first | omega | rfl) only [e_47_0, e_47_1, e_47_4, e_47_5, e_47_7, e_47_10, e_47_13, e_47_14, e_47_17, e_47_18, e_47_20, e_47_23, e_47_26, e_47_27, e_47_30, e_47_31, e_47_32, e_47_33, e_47_34, e_47_37, e_47_38, e_47_40, e_47_43, e_47_44, e_47_45, e_47_48, e_47_49, e_47_52, e_47_55, e_47_56, e_47_58, e_47_61, e_47_62, e_47_63, e_47_64, e_47_67, e_47_68, e_47_69, e_47_70, e_47_71, e_47_74, e_47_75, e_47_78, e_47_79, e_47_80, e_47_81, e_47_84, e_47_87, e_47_90, e_47_91, e_47_92, e_47_93, e_47_96, e_47_99, e_47_100, e_47_101, e_47_104, e_47_105, e_47_106, ge1, ule_t, true_or, or_true, nI_add, nI_mul, nI_sub, nI_clamp, nI_lt_t, nI_lt_f, nI_le_t, nI_le_f, nI_eq_t, nI_eq_f, vp_nI, tI, fI, not_true, not_false_iff, true_and, and_true, Classical.not_not, mS_uI, mS_uA, mS_uJ, mS_uR, mS_uX, mR_uI, mR_uA, mR_uJ, mR_uX, mX_uI, mX_uA, mX_uJ, mX_uR, mI_s, mI_n, mI_A, mI_An, mI_uJ, mI_uR, mI_uX, mJ_uI, mJ_uA, mJ_uR, mJ_uX, onR_s, kC_v, kC_n, kC_t, g1, h57 _ _ _ _ _ _ ht, hT1, h12, h13, h53]
      exact hq μ _ Fr.refl rfl rfl rfl
theorem RelL.start {n : Nat} {x : Int32} (h : RelL μ s c r tn) (h6 : nM r ≤ 6) (hsc : s + 22 < c ∨ c + 4 < s) (hn : n < 16) : RelL (uI μ (c + 1) n x) s c r (upd tn n x) := by
  obtain ⟨⟨h1, h2⟩, h3, h4⟩ := h
  refine ⟨⟨?_, fun m hm => ?_⟩, ?_, fun k hk => ?_⟩
  · have e : ∀ a, s ≤ a → a ≤ s + 22 → ∀ k, mI (fxH (uI μ (c + 1) n x) s) a k = mI (fxH μ s) a k := fun a a1 a2 k => by
      by_cases hc : CRs s a
      · rw [fx_z hc, fx_z hc]
      · rw [fx_n hc, fx_n hc, mI_n (by omega)]
    exact ((show RelN (fxH μ s) s r (fun j => if 16 ≤ j then mI (fxH μ s) (s + 5 + 3 * (j - 16)) 0 else 0) from ⟨h1, fun m hm => by show _ = if 16 ≤ 16 + m then mI (fxH μ s) (s + 5 + 3 * (16 + m - 16)) 0 else 0; rw [if_pos (by omega), show 16 + m - 16 = m by omega]⟩).fr h6 e).1
  · rw [upd_n (by omega), fx_n (by omega), mI_n (by omega)]
    have := h2 m hm
    rw [fx_n (by omega)] at this
    exact this
  · obtain ⟨g1, g2⟩ := h3
    refine ⟨fun t ht => ?_, fun k hk w hw => by rw [mI_n (by omega)]; exact g2 k hk w hw⟩
    obtain ⟨a1, a2⟩ := g1 t ht
    refine ⟨by rw [mI_n (by omega)]; exact a1, fun k hk => ?_⟩
    obtain ⟨j, hj, a3, a4⟩ := a2 k hk
    exact ⟨j, hj, by rw [mI_n (by omega)]; exact a3, fun w hw => by rw [mI_n (by omega)]; exact a4 w hw⟩
  · by_cases hkn : k = n
    · subst hkn; rw [mI_s, upd_s]
    · rw [mI_n (by omega), upd_n hkn]; exact h4 k hk
theorem l_42 {μ0 : Mu} (hL0 : LdS μ0 f L s c) (h6 : nM r ≤ 6) : ∀ F n (μ : Mu) tn t tk, n + F = 17 → n ≤ 16 → (n = 0 ∨ t.1 = 2) → FrX s c μ0 μ → okTk f L t → RelL μ s c r tn → PoC L s c g er ea μ0 Q (rdStaE r gs (stB f L F n tn t)) → EM 42 (d + 4) 25 [some (.ref 1030), some (.int (nI n))] [] (uA μ 1030 (ldT g L 1 gs t tk er ea)) (0, 0) Q := by
  intro F
  induction F with
  | zero => intro n μ tn t tk h1 h2; omega
  | succ F ih =>
    intro n μ tn t tk h1 h2 h3 hf ht hR hq
    obtain ⟨hC, hX, hr1, hr2, hS, hSc, hs9, hc9⟩ := hL0.fr hf
    have hsc : s + 22 < c ∨ c + 4 < s := by omega
    have k1 := (ok_nx ht).1
    have h53 := fun (d : Nat) (Q : Po) (hs gs : Nat) (tk x : Int32) (t : TK) => s_53 (d := d) (Q := Q) (g := g) (hs := hs) (gs := gs) (tk := tk) (er := er) (ea := ea) (t := t) (x := x) hC
    have g1 := hC.1
    have r0 := hSc.2.1
    have r1 := hSc.2.2.1
    have r6 := hSc.2.2.2.2.2.2.1
    rw [stB] at hq
    have head : ∀ X : Prop, EM 42 (d + 4) 43 [some (.ref 1030), some (.int (nI n))] [] (uA μ 1030 (ldT g L 1 gs t tk er ea)) (0, 0) Q = X → EM 42 (d + 4) 25 [some (.ref 1030), some (.int (nI n))] [] (uA μ 1030 (ldT g L 1 gs t tk er ea)) (0, 0) Q = X := by
      intro X hX
      rw [e_42_25]
      by_cases n0 : n = 0
      · simp (disch := first | omega | rfl) only [e_42_0, e_42_1, e_42_4, e_42_7, e_42_8, e_42_10, e_42_13, e_42_14, e_42_15, e_42_16, e_42_19, e_42_20, e_42_23, e_42_24, e_42_26, e_42_28, e_42_31, e_42_32, e_42_35, e_42_36, e_42_39, e_42_40, e_42_44, e_42_45, e_42_48, e_42_51, e_42_54, e_42_55, e_42_56, e_42_57, e_42_59, e_42_62, e_42_63, e_42_65, e_42_68, e_42_69, e_42_70, e_42_73, e_42_76, e_42_77, e_42_78, e_42_81, e_42_82, e_42_85, e_42_86, e_42_89, e_42_92, e_42_93, ge1, ule_t, true_or, or_true, nI_add, nI_mul, nI_sub, nI_clamp, nI_lt_t, nI_lt_f, nI_le_t, nI_le_f, nI_eq_t, nI_eq_f, vp_nI, tI, fI, not_true, not_false_iff, true_and, and_true, Classical.not_not, mS_uI, mS_uA, mS_uJ, mS_uR, mS_uX, mR_uI, mR_uA, mR_uJ, mR_uX, mX_uI, mX_uA, mX_uJ, mX_uR, mI_s, mI_n, mI_A, mI_An, mI_uJ, mI_uR, mI_uX, mJ_uI, mJ_uA, mJ_uR, mJ_uX, onR_s, kC_v, kC_n, kC_t, n0]
        rw [n0] at hX
        exact hX
      · have e1 : (nI (ckk t.1) = nI 2) = True := (ckk2 ht.1).trans (eq_true (by omega))
        simp (disch := first | omega | rfl) only [e_42_0, e_42_1, e_42_4, e_42_7, e_42_8, e_42_10, e_42_13, e_42_14, e_42_15, e_42_16, e_42_19, e_42_20, e_42_23, e_42_24, e_42_26, e_42_28, e_42_31, e_42_32, e_42_35, e_42_36, e_42_39, e_42_40, e_42_44, e_42_45, e_42_48, e_42_51, e_42_54, e_42_55, e_42_56, e_42_57, e_42_59, e_42_62, e_42_63, e_42_65, e_42_68, e_42_69, e_42_70, e_42_73, e_42_76, e_42_77, e_42_78, e_42_81, e_42_82, e_42_85, e_42_86, e_42_89, e_42_92, e_42_93, ge1, ule_t, true_or, or_true, nI_add, nI_mul, nI_sub, nI_clamp, nI_lt_t, nI_lt_f, nI_le_t, nI_le_f, nI_eq_t, nI_eq_f, vp_nI, tI, fI, not_true, not_false_iff, true_and, and_true, Classical.not_not, mS_uI, mS_uA, mS_uJ, mS_uR, mS_uX, mR_uI, mR_uA, mR_uJ, mR_uX, mX_uI, mX_uA, mX_uJ, mX_uR, mI_s, mI_n, mI_A, mI_An, mI_uJ, mI_uR, mI_uX, mJ_uI, mJ_uA, mJ_uR, mJ_uX, onR_s, kC_v, kC_n, kC_t, mI_A, ldT_6, g1, e1]
        exact hX
    rw [head _ rfl]
    by_cases c1 : ckI 0 9999 t = nI 0
    · rw [if_pos c1] at hq
      obtain ⟨v1, v2, v3⟩ := ckI_t.mp c1
      have h51 := fun (d : Nat) (Q : Po) => s_51t (d := d) (Q := Q) (g := g) (hs := 1) (gs := gs) (tk := tk) (er := er) (ea := ea) hC ht (by omega) (by omega) c1
      by_cases c2 : n = 16
      · rw [if_pos c2] at hq
        simp (disch := first | omega | rfl) only [e_42_0, e_42_1, e_42_4, e_42_7, e_42_8, e_42_10, e_42_13, e_42_14, e_42_15, e_42_16, e_42_19, e_42_20, e_42_23, e_42_24, e_42_26, e_42_28, e_42_31, e_42_32, e_42_35, e_42_36, e_42_39, e_42_40, e_42_43, e_42_44, e_42_45, e_42_48, e_42_51, e_42_54, e_42_55, e_42_56, e_42_57, e_42_59, e_42_62, e_42_63, e_42_65, e_42_68, e_42_69, e_42_70, e_42_73, e_42_76, e_42_77, e_42_78, e_42_81, e_42_82, e_42_85, e_42_86, e_42_89, e_42_92, e_42_93, ge1, ule_t, true_or, or_true, nI_add, nI_mul, nI_sub, nI_clamp, nI_lt_t, nI_lt_f, nI_le_t, nI_le_f, nI_eq_t, nI_eq_f, vp_nI, tI, fI, not_true, not_false_iff, true_and, and_true, Classical.not_not, mS_uI, mS_uA, mS_uJ, mS_uR, mS_uX, mR_uI, mR_uA, mR_uJ, mR_uX, mX_uI, mX_uA, mX_uJ, mX_uR, mI_s, mI_n, mI_A, mI_An, mI_uJ, mI_uR, mI_uX, mJ_uI, mJ_uA, mJ_uR, mJ_uX, onR_s, kC_v, kC_n, kC_t, g1, h51, c2, h53]
        exact hq μ _ hf rfl rfl rfl
      · rw [if_neg c2] at hq
        have e3 : cvl t.2.2.2 = t.2.2.2 := if_pos (by omega)
        have hC2 : LdC (uI μ (c + 1) n (nI t.2.2.2)) f L := by
          obtain ⟨g1, g2, g3, g4, g5, g6⟩ := hC
          exact ⟨g1, g2, g3, fun k hk => by rw [mI_n (by omega)]; exact g4 k hk, g5, g6⟩
        have h57 := fun (d : Nat) (Q : Po) => s_57 (d := d) (Q := Q) (t := t) (g := g) (hs := 1) (gs := gs) (tk := tk) (er := er) (ea := ea) hC2 ht
        have hf2 : FrX s c μ0 (uI μ (c + 1) n (nI t.2.2.2)) := hf.iu (Or.inr (Or.inl (by omega)))
        have hR2 := hR.start (x := nI t.2.2.2) h6 hsc (show n < 16 by omega)
        by_cases c3 : (nx f L t).1 = 2
        · rw [if_pos c3] at hq
          simp (disch := first | omega | rfl) only [e_42_0, e_42_1, e_42_4, e_42_7, e_42_8, e_42_10, e_42_13, e_42_14, e_42_15, e_42_16, e_42_19, e_42_20, e_42_23, e_42_24, e_42_26, e_42_28, e_42_31, e_42_32, e_42_35, e_42_36, e_42_39, e_42_40, e_42_43, e_42_44, e_42_45, e_42_48, e_42_51, e_42_54, e_42_55, e_42_56, e_42_57, e_42_59, e_42_62, e_42_63, e_42_65, e_42_68, e_42_69, e_42_70, e_42_73, e_42_76, e_42_77, e_42_78, e_42_81, e_42_82, e_42_85, e_42_86, e_42_89, e_42_92, e_42_93, ge1, ule_t, true_or, or_true, nI_add, nI_mul, nI_sub, nI_clamp, nI_lt_t, nI_lt_f, nI_le_t, nI_le_f, nI_eq_t, nI_eq_f, vp_nI, tI, fI, not_true, not_false_iff, true_and, and_true, Classical.not_not, mS_uI, mS_uA, mS_uJ, mS_uR, mS_uX, mR_uI, mR_uA, mR_uJ, mR_uX, mX_uI, mX_uA, mX_uJ, mX_uR, mI_s, mI_n, mI_A, mI_An, mI_uJ, mI_uR, mI_uX, mJ_uI, mJ_uA, mJ_uR, mJ_uX, onR_s, kC_v, kC_n, kC_t, mI_A, ldT_9, e3, g1, hr2, r0, r1, r6, h51, uIuA, h57]
          exact ih (n + 1) _ _ _ _ (by omega) (by omega) (Or.inr c3) hf2 k1 hR2 hq
        · rw [if_neg c3] at hq
          have e1 : (nI (ckk (nx f L t).1) = nI 2) = False := (ckk2 k1.1).trans (eq_false c3)
          simp (disch := first | omega | rfl) only [e_42_0, e_42_1, e_42_4, e_42_7, e_42_8, e_42_10, e_42_13, e_42_14, e_42_15, e_42_16, e_42_19, e_42_20, e_42_23, e_42_24, e_42_26, e_42_28, e_42_31, e_42_32, e_42_35, e_42_36, e_42_39, e_42_40, e_42_43, e_42_44, e_42_45, e_42_48, e_42_51, e_42_54, e_42_55, e_42_56, e_42_57, e_42_59, e_42_62, e_42_63, e_42_65, e_42_68, e_42_69, e_42_70, e_42_73, e_42_76, e_42_77, e_42_78, e_42_81, e_42_82, e_42_85, e_42_86, e_42_89, e_42_92, e_42_93, ge1, ule_t, true_or, or_true, nI_add, nI_mul, nI_sub, nI_clamp, nI_lt_t, nI_lt_f, nI_le_t, nI_le_f, nI_eq_t, nI_eq_f, vp_nI, tI, fI, not_true, not_false_iff, true_and, and_true, Classical.not_not, mS_uI, mS_uA, mS_uJ, mS_uR, mS_uX, mR_uI, mR_uA, mR_uJ, mR_uX, mX_uI, mX_uA, mX_uJ, mX_uR, mI_s, mI_n, mI_A, mI_An, mI_uJ, mI_uR, mI_uX, mJ_uI, mJ_uA, mJ_uR, mJ_uX, onR_s, kC_v, kC_n, kC_t, mI_A, ldT_9, e3, g1, hr2, r0, r1, r6, h51, uIuA, h57]
          rw [e_42_25]
          simp (disch := first | omega | rfl) only [e_42_0, e_42_1, e_42_4, e_42_7, e_42_8, e_42_10, e_42_13, e_42_14, e_42_15, e_42_16, e_42_19, e_42_20, e_42_23, e_42_24, e_42_26, e_42_28, e_42_31, e_42_32, e_42_35, e_42_36, e_42_39, e_42_40, e_42_43, e_42_44, e_42_45, e_42_48, e_42_51, e_42_54, e_42_55, e_42_56, e_42_57, e_42_59, e_42_62, e_42_63, e_42_65, e_42_68, e_42_69, e_42_70, e_42_73, e_42_76, e_42_77, e_42_78, e_42_81, e_42_82, e_42_85, e_42_86, e_42_89, e_42_92, e_42_93, ge1, ule_t, true_or, or_true, nI_add, nI_mul, nI_sub, nI_clamp, nI_lt_t, nI_lt_f, nI_le_t, nI_le_f, nI_eq_t, nI_eq_f, vp_nI, tI, fI, not_true, not_false_iff, true_and, and_true, Classical.not_not, mS_uI, mS_uA, mS_uJ, mS_uR, mS_uX, mR_uI, mR_uA, mR_uJ, mR_uX, mX_uI, mX_uA, mX_uJ, mX_uR, mI_s, mI_n, mI_A, mI_An, mI_uJ, mI_uR, mI_uX, mJ_uI, mJ_uA, mJ_uR, mJ_uX, onR_s, kC_v, kC_n, kC_t, mI_A, ldT_6, g1, e1]
          exact hq _ _ hf2 hR2
    · rw [if_neg c1] at hq
      have h51 := fun (d : Nat) (Q : Po) => s_51f (d := d) (Q := Q) (g := g) (hs := 1) (gs := gs) (tk := tk) (er := er) (ea := ea) hC ht (by omega) (by omega) c1
      simp (disch := first | omega | rfl) only [e_42_0, e_42_1, e_42_4, e_42_7, e_42_8, e_42_10, e_42_13, e_42_14, e_42_15, e_42_16, e_42_19, e_42_20, e_42_23, e_42_24, e_42_26, e_42_28, e_42_31, e_42_32, e_42_35, e_42_36, e_42_39, e_42_40, e_42_43, e_42_44, e_42_45, e_42_48, e_42_51, e_42_54, e_42_55, e_42_56, e_42_57, e_42_59, e_42_62, e_42_63, e_42_65, e_42_68, e_42_69, e_42_70, e_42_73, e_42_76, e_42_77, e_42_78, e_42_81, e_42_82, e_42_85, e_42_86, e_42_89, e_42_92, e_42_93, ge1, ule_t, true_or, or_true, nI_add, nI_mul, nI_sub, nI_clamp, nI_lt_t, nI_lt_f, nI_le_t, nI_le_f, nI_eq_t, nI_eq_f, vp_nI, tI, fI, not_true, not_false_iff, true_and, and_true, Classical.not_not, mS_uI, mS_uA, mS_uJ, mS_uR, mS_uX, mR_uI, mR_uA, mR_uJ, mR_uX, mX_uI, mX_uA, mX_uJ, mX_uR, mI_s, mI_n, mI_A, mI_An, mI_uJ, mI_uR, mI_uX, mJ_uI, mJ_uA, mJ_uR, mJ_uX, onR_s, kC_v, kC_n, kC_t, g1, h51]
      exact hq μ _ hf rfl rfl rfl
theorem c_42 (hL : LdS μ f L s c) (hR : RelL μ s c r tn) (hA : AL r tn) (ht : okTk f L t) (hh : hs ≤ 1) (hq : PoC L s c g er ea μ Q (rdSta f L r tn hs gs t)) : Ev (d + 5) 42 [.ref 1030] (uA μ 1030 (ldT g L hs gs t tk er ea)) Q := by
  have hL0 := hL
  obtain ⟨hC, hX, hr1, hr2, hS, hSc, hs9, hc9⟩ := hL
  have k1 := (ok_nx ht).1
  have h53 := fun (d : Nat) (Q : Po) (hs gs : Nat) (tk x : Int32) (t : TK) => s_53 (d := d) (Q := Q) (g := g) (hs := hs) (gs := gs) (tk := tk) (er := er) (ea := ea) (t := t) (x := x) hC
  have h57 := fun (d : Nat) (Q : Po) => s_57 (d := d) (Q := Q) (t := t) (g := g) (hs := 1) (gs := gs) (tk := tk) (er := er) (ea := ea) hC ht
  have g1 := hC.1
  unfold rdSta at hq
  rw [in_42]
  by_cases c1 : hs = 1
  · rw [if_pos c1] at hq
    simp (disch := first | omega | rfl) only [e_42_0, e_42_1, e_42_4, e_42_7, e_42_8, e_42_10, e_42_13, e_42_14, e_42_15, e_42_16, e_42_19, e_42_20, e_42_23, e_42_24, e_42_26, e_42_28, e_42_31, e_42_32, e_42_35, e_42_36, e_42_39, e_42_40, e_42_43, e_42_44, e_42_45, e_42_48, e_42_51, e_42_54, e_42_55, e_42_56, e_42_57, e_42_59, e_42_62, e_42_63, e_42_65, e_42_68, e_42_69, e_42_70, e_42_73, e_42_76, e_42_77, e_42_78, e_42_81, e_42_82, e_42_85, e_42_86, e_42_89, e_42_92, e_42_93, ge1, ule_t, true_or, or_true, nI_add, nI_mul, nI_sub, nI_clamp, nI_lt_t, nI_lt_f, nI_le_t, nI_le_f, nI_eq_t, nI_eq_f, vp_nI, tI, fI, not_true, not_false_iff, true_and, and_true, Classical.not_not, mS_uI, mS_uA, mS_uJ, mS_uR, mS_uX, mR_uI, mR_uA, mR_uJ, mR_uX, mX_uI, mX_uA, mX_uJ, mX_uR, mI_s, mI_n, mI_A, mI_An, mI_uJ, mI_uR, mI_uX, mJ_uI, mJ_uA, mJ_uR, mJ_uX, onR_s, kC_v, kC_n, kC_t, mI_A, ldT_4, g1, c1, h53]
    exact hq μ _ Fr.refl rfl rfl rfl
  · rw [if_neg c1] at hq
    obtain rfl : hs = 0 := by omega
    simp (disch := first | omega | rfl) only [e_42_0, e_42_1, e_42_4, e_42_7, e_42_8, e_42_10, e_42_13, e_42_14, e_42_15, e_42_16, e_42_19, e_42_20, e_42_23, e_42_24, e_42_26, e_42_28, e_42_31, e_42_32, e_42_35, e_42_36, e_42_39, e_42_40, e_42_43, e_42_44, e_42_45, e_42_48, e_42_51, e_42_54, e_42_55, e_42_56, e_42_57, e_42_59, e_42_62, e_42_63, e_42_65, e_42_68, e_42_69, e_42_70, e_42_73, e_42_76, e_42_77, e_42_78, e_42_81, e_42_82, e_42_85, e_42_86, e_42_89, e_42_92, e_42_93, ge1, ule_t, true_or, or_true, nI_add, nI_mul, nI_sub, nI_clamp, nI_lt_t, nI_lt_f, nI_le_t, nI_le_f, nI_eq_t, nI_eq_f, vp_nI, tI, fI, not_true, not_false_iff, true_and, and_true, Classical.not_not, mS_uI, mS_uA, mS_uJ, mS_uR, mS_uX, mR_uI, mR_uA, mR_uJ, mR_uX, mX_uI, mX_uA, mX_uJ, mX_uR, mI_s, mI_n, mI_A, mI_An, mI_uJ, mI_uR, mI_uX, mJ_uI, mJ_uA, mJ_uR, mJ_uX, onR_s, kC_v, kC_n, kC_t, mI_A, ldT_4, g1, uIA, ldT_u4, h57]
    exact l_42 hL0 hA.1.2.1 17 0 μ tn (nx f L t) tk (by omega) (by omega) (Or.inl rfl) Fr.refl k1 hR hq
theorem c_41 (hL : LdS μ f L s c) (hR : RelL μ s c r tn) (hA : AL r tn) (ht : okTk f L t) (hg4 : gs < 4) (hh : hs ≤ 1) (hq : PoC L s c g er ea μ Q (rdStm f L r tn hs gs t)) : Ev (d + 9) 41 [.ref 1030] (uA μ 1030 (ldT g L hs gs t tk er ea)) Q := by
  have hL0 := hL
  obtain ⟨hC, hX, hr1, hr2, hS, hSc, hs9, hc9⟩ := hL
  have h53 := fun (d : Nat) (Q : Po) (hs gs : Nat) (tk x : Int32) (t : TK) => s_53 (d := d) (Q := Q) (g := g) (hs := hs) (gs := gs) (tk := tk) (er := er) (ea := ea) (t := t) (x := x) hC
  have h0 := fun (d : Nat) (Q : Po) => s_56 (d := d) (Q := Q) (g := g) (hs := hs) (gs := gs) (tk := tk) (er := er) (ea := ea) (i := 0) hC hX (by omega) (by omega) ht
  have h1 := fun (d : Nat) (Q : Po) => s_56 (d := d) (Q := Q) (g := g) (hs := hs) (gs := gs) (tk := tk) (er := er) (ea := ea) (i := 1) hC hX (by omega) (by omega) ht
  have h2 := fun (d : Nat) (Q : Po) => s_56 (d := d) (Q := Q) (g := g) (hs := hs) (gs := gs) (tk := tk) (er := er) (ea := ea) (i := 2) hC hX (by omega) (by omega) ht
  have h9 := fun (d : Nat) (Q : Po) => s_56 (d := d) (Q := Q) (g := g) (hs := hs) (gs := gs) (tk := tk) (er := er) (ea := ea) (i := 9) hC hX (by omega) (by omega) ht
  have h10 := fun (d : Nat) (Q : Po) => s_56 (d := d) (Q := Q) (g := g) (hs := hs) (gs := gs) (tk := tk) (er := er) (ea := ea) (i := 10) hC hX (by omega) (by omega) ht
  have h11 := fun (d : Nat) (Q : Po) => s_56 (d := d) (Q := Q) (g := g) (hs := hs) (gs := gs) (tk := tk) (er := er) (ea := ea) (i := 11) hC hX (by omega) (by omega) ht
  have g1 := hC.1
  unfold rdStm at hq
  rw [in_41]
  have up : ∀ z, PoC L s c g er ea μ Q z → ∀ Q' : Po, (∀ x : Int32, ∀ μ', (x = nI 0 ∨ x = nI 1) → Q (some (some (.int x))) μ' → Q' (some (some (.int x))) μ') → PoC L s c g er ea μ Q' z := by
    intro z hz Q' h
    cases z with
    | inl z => exact fun μ' F a b c e => h _ _ (Or.inl rfl) (hz μ' F a b c e)
    | inr z => exact fun μ' tk a b => h _ _ (Or.inr rfl) (hz μ' tk a b)
  by_cases c0 : isW f t (txB 0)
  · rw [if_pos c0] at hq; simp only [bI_ti c0] at h0
    simp (disch := first | omega | rfl) only [e_41_0, e_41_1, e_41_3, e_41_6, e_41_9, e_41_10, e_41_13, e_41_14, e_41_15, e_41_17, e_41_20, e_41_23, e_41_24, e_41_27, e_41_28, e_41_29, e_41_31, e_41_34, e_41_37, e_41_38, e_41_41, e_41_42, e_41_43, e_41_45, e_41_48, e_41_51, e_41_52, e_41_55, e_41_56, e_41_57, e_41_59, e_41_62, e_41_65, e_41_66, e_41_69, e_41_70, e_41_71, e_41_73, e_41_76, e_41_79, e_41_80, e_41_83, e_41_84, e_41_85, e_41_87, e_41_90, ge1, ule_t, true_or, or_true, nI_add, nI_mul, nI_sub, nI_clamp, nI_lt_t, nI_lt_f, nI_le_t, nI_le_f, nI_eq_t, nI_eq_f, vp_nI, tI, fI, not_true, not_false_iff, true_and, and_true, Classical.not_not, mS_uI, mS_uA, mS_uJ, mS_uR, mS_uX, mR_uI, mR_uA, mR_uJ, mR_uX, mX_uI, mX_uA, mX_uJ, mX_uR, mI_s, mI_n, mI_A, mI_An, mI_uJ, mI_uR, mI_uX, mJ_uI, mJ_uA, mJ_uR, mJ_uX, onR_s, kC_v, kC_n, kC_t, g1, h0]
    exact c_42 hL0 hR hA ht hh (up _ hq _ (fun x μ' hx h => by simp (disch := first | omega | rfl) only [e_41_0, e_41_1, e_41_3, e_41_6, e_41_9, e_41_10, e_41_13, e_41_14, e_41_15, e_41_17, e_41_20, e_41_23, e_41_24, e_41_27, e_41_28, e_41_29, e_41_31, e_41_34, e_41_37, e_41_38, e_41_41, e_41_42, e_41_43, e_41_45, e_41_48, e_41_51, e_41_52, e_41_55, e_41_56, e_41_57, e_41_59, e_41_62, e_41_65, e_41_66, e_41_69, e_41_70, e_41_71, e_41_73, e_41_76, e_41_79, e_41_80, e_41_83, e_41_84, e_41_85, e_41_87, e_41_90, ge1, ule_t, true_or, or_true, nI_add, nI_mul, nI_sub, nI_clamp, nI_lt_t, nI_lt_f, nI_le_t, nI_le_f, nI_eq_t, nI_eq_f, vp_nI, tI, fI, not_true, not_false_iff, true_and, and_true, Classical.not_not, kC_v, hx]; exact h))
  · rw [if_neg c0] at hq; simp only [bI_fi c0] at h0
    by_cases c1 : isW f t (txB 1)
    · rw [if_pos c1] at hq; simp only [bI_ti c1] at h1
      simp (disch := first | omega | rfl) only [e_41_0, e_41_1, e_41_3, e_41_6, e_41_9, e_41_10, e_41_13, e_41_14, e_41_15, e_41_17, e_41_20, e_41_23, e_41_24, e_41_27, e_41_28, e_41_29, e_41_31, e_41_34, e_41_37, e_41_38, e_41_41, e_41_42, e_41_43, e_41_45, e_41_48, e_41_51, e_41_52, e_41_55, e_41_56, e_41_57, e_41_59, e_41_62, e_41_65, e_41_66, e_41_69, e_41_70, e_41_71, e_41_73, e_41_76, e_41_79, e_41_80, e_41_83, e_41_84, e_41_85, e_41_87, e_41_90, ge1, ule_t, true_or, or_true, nI_add, nI_mul, nI_sub, nI_clamp, nI_lt_t, nI_lt_f, nI_le_t, nI_le_f, nI_eq_t, nI_eq_f, vp_nI, tI, fI, not_true, not_false_iff, true_and, and_true, Classical.not_not, mS_uI, mS_uA, mS_uJ, mS_uR, mS_uX, mR_uI, mR_uA, mR_uJ, mR_uX, mX_uI, mX_uA, mX_uJ, mX_uR, mI_s, mI_n, mI_A, mI_An, mI_uJ, mI_uR, mI_uX, mJ_uI, mJ_uA, mJ_uR, mJ_uX, onR_s, kC_v, kC_n, kC_t, g1, h0, h1]
      exact c_43 hL0 hR hA ht (up _ hq _ (fun x μ' hx h => by simp (disch := first | omega | rfl) only [e_41_0, e_41_1, e_41_3, e_41_6, e_41_9, e_41_10, e_41_13, e_41_14, e_41_15, e_41_17, e_41_20, e_41_23, e_41_24, e_41_27, e_41_28, e_41_29, e_41_31, e_41_34, e_41_37, e_41_38, e_41_41, e_41_42, e_41_43, e_41_45, e_41_48, e_41_51, e_41_52, e_41_55, e_41_56, e_41_57, e_41_59, e_41_62, e_41_65, e_41_66, e_41_69, e_41_70, e_41_71, e_41_73, e_41_76, e_41_79, e_41_80, e_41_83, e_41_84, e_41_85, e_41_87, e_41_90, ge1, ule_t, true_or, or_true, nI_add, nI_mul, nI_sub, nI_clamp, nI_lt_t, nI_lt_f, nI_le_t, nI_le_f, nI_eq_t, nI_eq_f, vp_nI, tI, fI, not_true, not_false_iff, true_and, and_true, Classical.not_not, kC_v, hx]; exact h))
    · rw [if_neg c1] at hq; simp only [bI_fi c1] at h1
      by_cases c2 : isW f t (txB 2)
      · rw [if_pos c2] at hq; simp only [bI_ti c2] at h2
        simp (disch := first | omega | rfl) only [e_41_0, e_41_1, e_41_3, e_41_6, e_41_9, e_41_10, e_41_13, e_41_14, e_41_15, e_41_17, e_41_20, e_41_23, e_41_24, e_41_27, e_41_28, e_41_29, e_41_31, e_41_34, e_41_37, e_41_38, e_41_41, e_41_42, e_41_43, e_41_45, e_41_48, e_41_51, e_41_52, e_41_55, e_41_56, e_41_57, e_41_59, e_41_62, e_41_65, e_41_66, e_41_69, e_41_70, e_41_71, e_41_73, e_41_76, e_41_79, e_41_80, e_41_83, e_41_84, e_41_85, e_41_87, e_41_90, ge1, ule_t, true_or, or_true, nI_add, nI_mul, nI_sub, nI_clamp, nI_lt_t, nI_lt_f, nI_le_t, nI_le_f, nI_eq_t, nI_eq_f, vp_nI, tI, fI, not_true, not_false_iff, true_and, and_true, Classical.not_not, mS_uI, mS_uA, mS_uJ, mS_uR, mS_uX, mR_uI, mR_uA, mR_uJ, mR_uX, mX_uI, mX_uA, mX_uJ, mX_uR, mI_s, mI_n, mI_A, mI_An, mI_uJ, mI_uR, mI_uX, mJ_uI, mJ_uA, mJ_uR, mJ_uX, onR_s, kC_v, kC_n, kC_t, g1, h0, h1, h2]
        exact c_44 hL0 hR hA ht (up _ hq _ (fun x μ' hx h => by simp (disch := first | omega | rfl) only [e_41_0, e_41_1, e_41_3, e_41_6, e_41_9, e_41_10, e_41_13, e_41_14, e_41_15, e_41_17, e_41_20, e_41_23, e_41_24, e_41_27, e_41_28, e_41_29, e_41_31, e_41_34, e_41_37, e_41_38, e_41_41, e_41_42, e_41_43, e_41_45, e_41_48, e_41_51, e_41_52, e_41_55, e_41_56, e_41_57, e_41_59, e_41_62, e_41_65, e_41_66, e_41_69, e_41_70, e_41_71, e_41_73, e_41_76, e_41_79, e_41_80, e_41_83, e_41_84, e_41_85, e_41_87, e_41_90, ge1, ule_t, true_or, or_true, nI_add, nI_mul, nI_sub, nI_clamp, nI_lt_t, nI_lt_f, nI_le_t, nI_le_f, nI_eq_t, nI_eq_f, vp_nI, tI, fI, not_true, not_false_iff, true_and, and_true, Classical.not_not, kC_v, hx]; exact h))
      · rw [if_neg c2] at hq; simp only [bI_fi c2] at h2
        by_cases c9 : isW f t (txB 9)
        · rw [if_pos c9] at hq; simp only [bI_ti c9] at h9
          simp (disch := first | omega | rfl) only [e_41_0, e_41_1, e_41_3, e_41_6, e_41_9, e_41_10, e_41_13, e_41_14, e_41_15, e_41_17, e_41_20, e_41_23, e_41_24, e_41_27, e_41_28, e_41_29, e_41_31, e_41_34, e_41_37, e_41_38, e_41_41, e_41_42, e_41_43, e_41_45, e_41_48, e_41_51, e_41_52, e_41_55, e_41_56, e_41_57, e_41_59, e_41_62, e_41_65, e_41_66, e_41_69, e_41_70, e_41_71, e_41_73, e_41_76, e_41_79, e_41_80, e_41_83, e_41_84, e_41_85, e_41_87, e_41_90, ge1, ule_t, true_or, or_true, nI_add, nI_mul, nI_sub, nI_clamp, nI_lt_t, nI_lt_f, nI_le_t, nI_le_f, nI_eq_t, nI_eq_f, vp_nI, tI, fI, not_true, not_false_iff, true_and, and_true, Classical.not_not, mS_uI, mS_uA, mS_uJ, mS_uR, mS_uX, mR_uI, mR_uA, mR_uJ, mR_uX, mX_uI, mX_uA, mX_uJ, mX_uR, mI_s, mI_n, mI_A, mI_An, mI_uJ, mI_uR, mI_uX, mJ_uI, mJ_uA, mJ_uR, mJ_uX, onR_s, kC_v, kC_n, kC_t, g1, h0, h1, h2, h9]
          exact c_45 hL0 hR hA ht (up _ hq _ (fun x μ' hx h => by simp (disch := first | omega | rfl) only [e_41_0, e_41_1, e_41_3, e_41_6, e_41_9, e_41_10, e_41_13, e_41_14, e_41_15, e_41_17, e_41_20, e_41_23, e_41_24, e_41_27, e_41_28, e_41_29, e_41_31, e_41_34, e_41_37, e_41_38, e_41_41, e_41_42, e_41_43, e_41_45, e_41_48, e_41_51, e_41_52, e_41_55, e_41_56, e_41_57, e_41_59, e_41_62, e_41_65, e_41_66, e_41_69, e_41_70, e_41_71, e_41_73, e_41_76, e_41_79, e_41_80, e_41_83, e_41_84, e_41_85, e_41_87, e_41_90, ge1, ule_t, true_or, or_true, nI_add, nI_mul, nI_sub, nI_clamp, nI_lt_t, nI_lt_f, nI_le_t, nI_le_f, nI_eq_t, nI_eq_f, vp_nI, tI, fI, not_true, not_false_iff, true_and, and_true, Classical.not_not, kC_v, hx]; exact h))
        · rw [if_neg c9] at hq; simp only [bI_fi c9] at h9
          by_cases c10 : isW f t (txB 10)
          · rw [if_pos c10] at hq; simp only [bI_ti c10] at h10
            simp (disch := first | omega | rfl) only [e_41_0, e_41_1, e_41_3, e_41_6, e_41_9, e_41_10, e_41_13, e_41_14, e_41_15, e_41_17, e_41_20, e_41_23, e_41_24, e_41_27, e_41_28, e_41_29, e_41_31, e_41_34, e_41_37, e_41_38, e_41_41, e_41_42, e_41_43, e_41_45, e_41_48, e_41_51, e_41_52, e_41_55, e_41_56, e_41_57, e_41_59, e_41_62, e_41_65, e_41_66, e_41_69, e_41_70, e_41_71, e_41_73, e_41_76, e_41_79, e_41_80, e_41_83, e_41_84, e_41_85, e_41_87, e_41_90, ge1, ule_t, true_or, or_true, nI_add, nI_mul, nI_sub, nI_clamp, nI_lt_t, nI_lt_f, nI_le_t, nI_le_f, nI_eq_t, nI_eq_f, vp_nI, tI, fI, not_true, not_false_iff, true_and, and_true, Classical.not_not, mS_uI, mS_uA, mS_uJ, mS_uR, mS_uX, mR_uI, mR_uA, mR_uJ, mR_uX, mX_uI, mX_uA, mX_uJ, mX_uR, mI_s, mI_n, mI_A, mI_An, mI_uJ, mI_uR, mI_uX, mJ_uI, mJ_uA, mJ_uR, mJ_uX, onR_s, kC_v, kC_n, kC_t, g1, h0, h1, h2, h9, h10]
            exact c_46 hL0 hR hA ht (up _ hq _ (fun x μ' hx h => by simp (disch := first | omega | rfl) only [e_41_0, e_41_1, e_41_3, e_41_6, e_41_9, e_41_10, e_41_13, e_41_14, e_41_15, e_41_17, e_41_20, e_41_23, e_41_24, e_41_27, e_41_28, e_41_29, e_41_31, e_41_34, e_41_37, e_41_38, e_41_41, e_41_42, e_41_43, e_41_45, e_41_48, e_41_51, e_41_52, e_41_55, e_41_56, e_41_57, e_41_59, e_41_62, e_41_65, e_41_66, e_41_69, e_41_70, e_41_71, e_41_73, e_41_76, e_41_79, e_41_80, e_41_83, e_41_84, e_41_85, e_41_87, e_41_90, ge1, ule_t, true_or, or_true, nI_add, nI_mul, nI_sub, nI_clamp, nI_lt_t, nI_lt_f, nI_le_t, nI_le_f, nI_eq_t, nI_eq_f, vp_nI, tI, fI, not_true, not_false_iff, true_and, and_true, Classical.not_not, kC_v, hx]; exact h))
          · rw [if_neg c10] at hq; simp only [bI_fi c10] at h10
            by_cases c11 : isW f t (txB 11)
            · rw [if_pos c11] at hq; simp only [bI_ti c11] at h11
              simp (disch := first | omega | rfl) only [e_41_0, e_41_1, e_41_3, e_41_6, e_41_9, e_41_10, e_41_13, e_41_14, e_41_15, e_41_17, e_41_20, e_41_23, e_41_24, e_41_27, e_41_28, e_41_29, e_41_31, e_41_34, e_41_37, e_41_38, e_41_41, e_41_42, e_41_43, e_41_45, e_41_48, e_41_51, e_41_52, e_41_55, e_41_56, e_41_57, e_41_59, e_41_62, e_41_65, e_41_66, e_41_69, e_41_70, e_41_71, e_41_73, e_41_76, e_41_79, e_41_80, e_41_83, e_41_84, e_41_85, e_41_87, e_41_90, ge1, ule_t, true_or, or_true, nI_add, nI_mul, nI_sub, nI_clamp, nI_lt_t, nI_lt_f, nI_le_t, nI_le_f, nI_eq_t, nI_eq_f, vp_nI, tI, fI, not_true, not_false_iff, true_and, and_true, Classical.not_not, mS_uI, mS_uA, mS_uJ, mS_uR, mS_uX, mR_uI, mR_uA, mR_uJ, mR_uX, mX_uI, mX_uA, mX_uJ, mX_uR, mI_s, mI_n, mI_A, mI_An, mI_uJ, mI_uR, mI_uX, mJ_uI, mJ_uA, mJ_uR, mJ_uX, onR_s, kC_v, kC_n, kC_t, g1, h0, h1, h2, h9, h10, h11]
              exact c_47 hL0 hR hA ht hg4 (up _ hq _ (fun x μ' hx h => by simp (disch := first | omega | rfl) only [e_41_0, e_41_1, e_41_3, e_41_6, e_41_9, e_41_10, e_41_13, e_41_14, e_41_15, e_41_17, e_41_20, e_41_23, e_41_24, e_41_27, e_41_28, e_41_29, e_41_31, e_41_34, e_41_37, e_41_38, e_41_41, e_41_42, e_41_43, e_41_45, e_41_48, e_41_51, e_41_52, e_41_55, e_41_56, e_41_57, e_41_59, e_41_62, e_41_65, e_41_66, e_41_69, e_41_70, e_41_71, e_41_73, e_41_76, e_41_79, e_41_80, e_41_83, e_41_84, e_41_85, e_41_87, e_41_90, ge1, ule_t, true_or, or_true, nI_add, nI_mul, nI_sub, nI_clamp, nI_lt_t, nI_lt_f, nI_le_t, nI_le_f, nI_eq_t, nI_eq_f, vp_nI, tI, fI, not_true, not_false_iff, true_and, and_true, Classical.not_not, kC_v, hx]; exact h))
            · rw [if_neg c11] at hq; simp only [bI_fi c11] at h11
              simp (disch := first | omega | rfl) only [e_41_0, e_41_1, e_41_3, e_41_6, e_41_9, e_41_10, e_41_13, e_41_14, e_41_15, e_41_17, e_41_20, e_41_23, e_41_24, e_41_27, e_41_28, e_41_29, e_41_31, e_41_34, e_41_37, e_41_38, e_41_41, e_41_42, e_41_43, e_41_45, e_41_48, e_41_51, e_41_52, e_41_55, e_41_56, e_41_57, e_41_59, e_41_62, e_41_65, e_41_66, e_41_69, e_41_70, e_41_71, e_41_73, e_41_76, e_41_79, e_41_80, e_41_83, e_41_84, e_41_85, e_41_87, e_41_90, ge1, ule_t, true_or, or_true, nI_add, nI_mul, nI_sub, nI_clamp, nI_lt_t, nI_lt_f, nI_le_t, nI_le_f, nI_eq_t, nI_eq_f, vp_nI, tI, fI, not_true, not_false_iff, true_and, and_true, Classical.not_not, mS_uI, mS_uA, mS_uJ, mS_uR, mS_uX, mR_uI, mR_uA, mR_uJ, mR_uX, mX_uI, mX_uA, mX_uJ, mX_uR, mI_s, mI_n, mI_A, mI_An, mI_uJ, mI_uR, mI_uX, mJ_uI, mJ_uA, mJ_uR, mJ_uX, onR_s, kC_v, kC_n, kC_t, g1, h0, h1, h2, h9, h10, h11, h53]
              exact hq μ _ Fr.refl rfl rfl rfl
end RstC


