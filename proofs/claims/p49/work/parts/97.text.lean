/-! the law's text: how it is built -/
def ub (u : Nat × Nat) (A B : Nat) : Prop := u.1 ≤ A ∧ u.2 ≤ B
theorem ub.ad {u : Nat × Nat} {A B a b : Nat} (h : ub u A B) : ub (uad u (a, b)) (A + a) (B + b) := ⟨Nat.add_le_add_right h.1 _, Nat.add_le_add_right h.2 _⟩
theorem ub.ch {μ μ2 : Mu} {u : Nat × Nat} {A B a b : Nat} (h : ub u A B) : ub (cg μ μ2 u (a, b)) (A + a) (B + b) := by
  unfold cg
  split
  · exact ⟨Nat.le_trans h.1 (Nat.le_add_right _ _), Nat.le_trans h.2 (Nat.le_add_right _ _)⟩
  · exact h.ad
theorem ub.mono {u : Nat × Nat} {A B C D : Nat} (h : ub u A B) (h1 : A ≤ C) (h2 : B ≤ D) : ub u C D := ⟨Nat.le_trans h.1 h1, Nat.le_trans h.2 h2⟩
theorem ub.le {u : Nat × Nat} {A B C D : Nat} (h : ub u A B) (h1 : A ≤ C) (h2 : B ≤ D) : ule u (C, D) = True := eq_true (h.mono h1 h2)
/-- what the law reads all the time -/
def LwW (L : Nat) (xs : Nat → Int32) (μ : Mu) : Prop := ScR L xs μ ∧ DgS μ ∧ ∀ i, i < 33 → StL μ 1000 i (txB i)
theorem LwW.fr {L lo : Nat} {xs : Nat → Int32} {μ μ' : Mu} (h : LwW L xs μ) (hf : FrG lo μ μ') (hl : 1000 ≤ lo) : LwW L xs μ' := by
  obtain ⟨⟨h1, h2⟩, h3, h4⟩ := h
  obtain ⟨f1, f2, -⟩ := hf.2 300 (by omega)
  exact ⟨⟨f1.trans h1, fun k => (f2 k).trans (h2 k)⟩, h3.g hf hl, fun i hi => (h4 i hi).fr (hf.le hl)⟩
/-- the words of the sorts -/
def SqS (μ : Mu) (q : Nat) : Prop := (mS μ q = (26, 6)) ∧ 1000 ≤ q ∧ ∀ k, k < 6 → mR μ q k = some (18 + k)
theorem SqS.gz {μ μ' : Mu} {q lo : Nat} (h : SqS μ q) (hf : FrG lo μ μ') (hq : q < lo) : SqS μ' q := by
  obtain ⟨h1, h2, h3⟩ := h
  obtain ⟨f1, f2, f3⟩ := hf.2 q hq
  exact ⟨f1.trans h1, h2, fun k hk => (f3 k).trans (h3 k hk)⟩
theorem t27e : txB 27 = [32] := by decide
theorem t28e : txB 28 = [59] := by decide
theorem t29e : txB 29 = txB 1 ++ [32] := by decide
theorem t31e : txB 31 = txB 2 ++ [32] := by decide
theorem t24e : txB 24 = txB 11 ++ (32 :: (txB 12 ++ [32])) := by decide
theorem t25e : txB 25 = 59 :: (txB 11 ++ (32 :: (txB 13 ++ [32]))) := by decide
theorem t26e : txB 26 = 59 :: txB 0 := by decide
theorem t32e : txB 32 = stSeal := by decide
theorem t18e {σ : Nat} (h : σ < 6) : txB (18 + σ) = txB (3 + σ) := by
  have : ∀ σ, σ < 6 → txB (18 + σ) = txB (3 + σ) := by decide
  exact this σ h
theorem t27 : (txB 27).length = 1 := rfl
theorem t1l : (txB 1).length = 6 := rfl
theorem t2l : (txB 2).length = 2 := rfl
theorem t18l {σ : Nat} (h : σ < 6) : (txB (18 + σ)).length ≤ 4 := by
  have : ∀ σ, σ < 6 → (txB (18 + σ)).length ≤ 4 := by decide
  exact this σ h
theorem t3l {σ : Nat} (h : σ < 6) : (txB (3 + σ)).length ≤ 4 := by
  have : ∀ σ, σ < 6 → (txB (3 + σ)).length ≤ 4 := by decide
  exact this σ h
theorem tl24 : (txB 24).length = 8 := rfl
theorem tl25 : (txB 25).length = 12 := rfl
theorem tl26 : (txB 26).length = 6 := rfl
theorem tl27 : (txB 27).length = 1 := rfl
theorem tl28 : (txB 28).length = 1 := rfl
theorem tl29 : (txB 29).length = 7 := rfl
theorem tl30 : (txB 30).length = 1 := rfl
theorem tl31 : (txB 31).length = 3 := rfl
theorem tl32 : (txB 32).length = 5 := rfl
theorem nml {k : Nat} : (nmW k).length = 2 := rfl
theorem tcl : (txB 28).length = 1 ∧ (txB 29).length = 7 ∧ (txB 30).length = 1 ∧ (txB 31).length = 3 ∧ (txB 32).length = 5 ∧ (txB 24).length = 8 ∧ (txB 25).length = 12 ∧ (txB 26).length = 6 := by decide
/-- the numbers of the start, from the i-th on -/
def sts (L : Nat) (xs : Nat → Int32) : Nat → Nat → List Nat
  | _, 0 => []
  | i, n + 1 => 32 :: (dgs (staN L xs i) ++ sts L xs (i + 1) n)
/-- what is known of a text at the end of a statement: m members, t turns sealed, k commands since -/
def TxR (L : Nat) (xs : Nat → Int32) (l : List Nat) (n : Nat) (r tn : Nat → Int32) (m t k : Nat) : Prop := RnP l n r tn 1 3 ∧ l.count 59 = n ∧ nM r = m ∧ nT r = t ∧ nO r = k ∧ NmT tn m ∧ AL r tn ∧ ∀ c, c < 16 → tn c = nI (staN L xs c)
section Text
variable {d : Nat} {Q : Po} {μ : Mu} {L k m n c t w q sq z0 : Nat} {xs : Nat → Int32} {x : Int32} {l1 l4 : Option Value} {l : List Nat} {r tn : Nat → Int32}
theorem cnt_n {x : Nat} : (dgs x).count 59 = 0 := by
  apply List.count_eq_zero_of_not_mem
  intro h
  unfold dgs at h
  obtain ⟨j, -, e⟩ := List.mem_map.mp h
  have := fDg_d (x := x) (j := j)
  omega
theorem cnt_w : ∀ i, i < 14 → (txB i).count 59 = 0 := by decide
theorem cnt_c {a : Nat} {l : List Nat} (h : a ≠ 59) : (a :: l).count 59 = l.count 59 := by rw [List.count_cons]; simp [h]
theorem cnt_nm {k : Nat} (h : k < 6) : (nmW k).count 59 = 0 := by
  unfold nmW
  rw [cnt_c (by omega), cnt_c (by omega)]; rfl
theorem cnt_mem {k p : Nat} (h : k < 6) : (stMem k p).count 59 = 1 := by
  unfold stMem
  rw [List.count_append, cnt_w 1 (by omega), cnt_c (by omega), List.count_append, cnt_nm h, cnt_c (by omega), List.count_append, cnt_n]; rfl
theorem cnt_do {k σ i o : Nat} (h : k < 6) (hσ : σ < 6) : (stDo k σ i o).count 59 = 1 := by
  unfold stDo
  rw [List.count_append, cnt_w 2 (by omega), cnt_c (by omega), List.count_append, cnt_nm h, cnt_c (by omega), List.count_append, cnt_w (3 + σ) (by omega), cnt_c (by omega), List.count_append, cnt_n, cnt_c (by omega), List.count_append, cnt_n]; rfl
theorem cnt_set {w x : Nat} (hw : w < 2) : (stSet w x).count 59 = 1 := by
  unfold stSet
  rw [List.count_append, cnt_w 11 (by omega), cnt_c (by omega), List.count_append, cnt_w (12 + w) (by omega), cnt_c (by omega), List.count_append, cnt_n]; rfl
theorem cnt_num : ∀ cs, (stNum cs).count 59 = 1
  | [] => rfl
  | c :: cs => by rw [stNum, cnt_c (by omega), List.count_append, cnt_n, cnt_num cs]
theorem cnt_sta {cs : List Nat} : (stSta cs).count 59 = 1 := by
  unfold stSta
  rw [List.count_append, cnt_w 0 (by omega), cnt_num]
theorem TxR.mem {p : Nat} (h : TxR L xs l n r tn m t k) (hm : m < 6) (h1 : 1 ≤ p) (h4 : p ≤ 4) : TxR L xs (l ++ stMem m p) (n + 1) (rJ1 r (nM r) p 0) (upd tn (16 + nM r) (nI (nmv m))) (m + 1) t k := by
  obtain ⟨a1, a2, a3, a4, a5, a6, a7, a8⟩ := h
  have hA := a7.adm (p := p) (w := nmv m) (by omega) h1 h4 (by unfold nmv; omega)
  have lo : ∀ x, x < 2 ∨ 387 ≤ x → rJ1 r (nM r) p 0 x = r x := fun x hx => rJ1_n (by omega) (by omega)
  refine ⟨a1.add (rd_mem a3.symm hm (by rw [a3]; exact a6) h1 h4), ?_, ?_, ?_, ?_, ?_, hA, fun c hc => ?_⟩
  · rw [List.count_append, a2, cnt_mem hm]
  · show (rJ1 r (nM r) p 0 2).toNatClampNeg = _
    rw [rJ1_2, a3]; exact nI_clamp (by omega)
  · unfold nT; rw [lo _ (by omega)]; exact a4
  · unfold nO; rw [lo _ (by omega)]; exact a5
  · intro i hi
    by_cases e : i = m
    · subst e; rw [a3]; exact upd_s
    · rw [upd_n (by omega)]; exact a6 i (by omega)
  · rw [upd_n (by omega)]; exact a8 c hc
theorem TxR.com (h : TxR L xs l n r tn (memN L xs) t k) (hk : k < 4) : TxR L xs (l ++ stDo (cmA L xs t k) (cmS L xs t k) (cmC L xs t k) (cmO L xs t k)) (n + 1) (rGive r (cmA L xs t k) (cmS L xs t k) (cmC L xs t k) (cmO L xs t k)) tn (memN L xs) t (k + 1) := by
  obtain ⟨a1, a2, a3, a4, a5, a6, a7, a8⟩ := h
  have hm5 := memN_in (L := L) (xs := xs)
  have h1 : cmA L xs t k < memN L xs := ofM_lt (by omega)
  have h2 : cmS L xs t k < 6 := ofM_lt (by omega)
  have h3 : cmC L xs t k < 16 := ofM_lt (by omega)
  have h4 : cmO L xs t k < gOp (cmS L xs t k) := by
    unfold cmO gOp
    by_cases c : cmS L xs t k < 2
    · rw [if_pos c, if_pos (by omega)]; exact ofM_lt (by omega)
    · rw [if_neg c, if_neg (by omega)]; exact ofM_lt (by omega)
  obtain ⟨q1, q2, q3, q4⟩ := ok_give a7.1 a7.2.1 (m := cmA L xs t k) (by omega) h2 h3 h4 (by omega)
  refine ⟨a1.add (rd_do (by omega) (by omega) (by rw [a3]; exact a6) h2 h3 h4 (by omega)), ?_, by rw [q4]; exact a3, ?_, ?_, a6, a7.give (by omega) h2 h3 h4 (by omega), a8⟩
  · rw [List.count_append, a2, cnt_do (by omega) h2]
  · unfold nT rGive
    rw [upd_n (by omega), upd_n (by omega), upd_n (by omega), upd_n (by omega), upd_n (by omega)]; exact a4
  · unfold nO rGive
    rw [upd_s, a5]; exact nI_clamp (by omega)
theorem TxR.seal (h : TxR L xs l n r tn m t k) (ht : t < 40) : TxR L xs (l ++ stSeal) (n + 1) (rSeal r) tn m (t + 1) 0 := by
  obtain ⟨a1, a2, a3, a4, a5, a6, a7, a8⟩ := h
  obtain ⟨q1, q2, q3, q4, q5, q6, q7⟩ := ok_seal a7.1 a7.2.1 (by omega)
  refine ⟨a1.add (rd_seal (by omega)), ?_, by rw [q4]; exact a3, by rw [q5, a4], q6, a6, a7.seal (by omega), a8⟩
  rw [List.count_append, a2]; rfl

theorem w_181 (hW : LwW L xs μ) (hm : m < 6) (hX : 1000 ≤ mX μ) (hq : ∀ μ' p, FrG (mX μ) μ μ' → StB μ' (mX μ) (mX μ') p (nmW m) → Q (some (some (.ref p))) μ') : Ev (d + 8) 181 [.int (nI m)] μ Q := by
  have u0 : ub (0, 0) 0 0 := ⟨Nat.le_refl _, Nat.le_refl _⟩
  have e97 : ((nI (97 + m)).toUInt32 % 65536).toInt32 = nI (97 + m) := c16 _ (by omega)
  rw [in_181]
  have kn1 : ule (uad (0, 0) (1, 4)) (9, 12024) = True := (u0.ad).le (by omega) (by omega)
  have kn2 : ule (uad (uad (0, 0) (1, 4)) (1, 16)) (9, 12024) = True := (u0.ad.ad).le (by omega) (by omega)
  simp (disch := first | omega | rfl) only [e_181_0, e_181_3, e_181_4, e_181_7, e_181_9, e_181_12, e_181_14, e_181_15, e_181_16, e_181_17, e_181_20, e_181_23, ge1, ule_t, true_or, or_true, nI_add, nI_mul, nI_sub, nI_clamp, nI_lt_t, nI_lt_f, nI_le_t, nI_le_f, nI_eq_t, nI_eq_f, vp_nI, tI, fI, not_true, not_false_iff, true_and, and_true, Classical.not_not, mS_uI, mS_uA, mS_uJ, mS_uR, mS_uX, mR_uI, mR_uA, mR_uJ, mR_uX, mX_uI, mX_uA, mX_uJ, mX_uR, mI_s, mI_n, mI_A, mI_An, mI_uJ, mI_uR, mI_uX, mJ_uI, mJ_uA, mJ_uR, mJ_uX, onR_s, kC_v, kC_n, kC_t, kn1, kn2]
  refine L_new (by omega) (fun n1 g1 s1 => ?_)
  rw [kC_n]
  have b1 : ub (cg (uN μ 1 4) n1 (uad (0, 0) (1, 4)) (1, 16)) (0 + 2) (0 + 20) := (u0.ad.ch).mono (by omega) (by omega)
  generalize cg (uN μ 1 4) n1 (uad (0, 0) (1, 4)) (1, 16) = v1 at b1 ⊢
  have kk2 : ule (uad v1 (1, 2000)) (9, 12024) = True := (b1.ad).le (by omega) (by omega)
  have sh2 := s1.sh
  simp (disch := first | omega | rfl) only [e_181_0, e_181_3, e_181_4, e_181_7, e_181_9, e_181_12, e_181_14, e_181_15, e_181_16, e_181_17, e_181_20, e_181_23, ge1, ule_t, true_or, or_true, nI_add, nI_mul, nI_sub, nI_clamp, nI_lt_t, nI_lt_f, nI_le_t, nI_le_f, nI_eq_t, nI_eq_f, vp_nI, tI, fI, not_true, not_false_iff, true_and, and_true, Classical.not_not, mS_uI, mS_uA, mS_uJ, mS_uR, mS_uX, mR_uI, mR_uA, mR_uJ, mR_uX, mX_uI, mX_uA, mX_uJ, mX_uR, mI_s, mI_n, mI_A, mI_An, mI_uJ, mI_uR, mI_uX, mJ_uI, mJ_uA, mJ_uR, mJ_uX, onR_s, kC_v, kC_n, kC_t, kk2, sh2]
  refine L_str s1 (((hW.2.2 30 (by omega)).fr (g1.le (by omega))).up (by omega) (Nat.le_refl _)) (by simp only [List.length_append, dgs_len, List.length_nil, tl24, tl25, tl26, tl27, tl28, tl29, tl30, tl31, tl32, nml, List.length_cons]; omega) (fun n2 g2 s2 => ?_)
  have h2 := g1.trans g2
  rw [kC_v]
  have b2 : ub (cg n1 n2 v1 (1, 2000)) (0 + 3) (0 + 2020) := (b1.ch).mono (by omega) (by omega)
  generalize cg n1 n2 v1 (1, 2000) = v2 at b2 ⊢
  have kk3 : ule (uad v2 (1, 2000)) (9, 12024) = True := (b2.ad).le (by omega) (by omega)
  have sh3 := s2.sh
  simp (disch := first | omega | rfl) only [e_181_0, e_181_3, e_181_4, e_181_7, e_181_9, e_181_12, e_181_14, e_181_15, e_181_16, e_181_17, e_181_20, e_181_23, ge1, ule_t, true_or, or_true, nI_add, nI_mul, nI_sub, nI_clamp, nI_lt_t, nI_lt_f, nI_le_t, nI_le_f, nI_eq_t, nI_eq_f, vp_nI, tI, fI, not_true, not_false_iff, true_and, and_true, Classical.not_not, mS_uI, mS_uA, mS_uJ, mS_uR, mS_uX, mR_uI, mR_uA, mR_uJ, mR_uX, mX_uI, mX_uA, mX_uJ, mX_uR, mI_s, mI_n, mI_A, mI_An, mI_uJ, mI_uR, mI_uX, mJ_uI, mJ_uA, mJ_uR, mJ_uX, onR_s, kC_v, kC_n, kC_t, kk3, sh3, e97]
  refine L_chr s2 (by omega) (by simp only [List.length_append, dgs_len, List.length_nil, tl24, tl25, tl26, tl27, tl28, tl29, tl30, tl31, tl32, nml, List.length_cons]; omega) (fun n3 g3 s3 => ?_)
  have h3 := h2.trans g3
  rw [kC_v]
  have b3 : ub (cg n2 n3 v2 (1, 2000)) (0 + 4) (0 + 4020) := (b2.ch).mono (by omega) (by omega)
  generalize cg n2 n3 v2 (1, 2000) = v3 at b3 ⊢
  have kk4 : ule (uad v3 (5, 8004)) (9, 12024) = True := (b3.ad).le (by omega) (by omega)
  have sh4 := s3.sh
  simp (disch := first | omega | rfl) only [e_181_0, e_181_3, e_181_4, e_181_7, e_181_9, e_181_12, e_181_14, e_181_15, e_181_16, e_181_17, e_181_20, e_181_23, ge1, ule_t, true_or, or_true, nI_add, nI_mul, nI_sub, nI_clamp, nI_lt_t, nI_lt_f, nI_le_t, nI_le_f, nI_eq_t, nI_eq_f, vp_nI, tI, fI, not_true, not_false_iff, true_and, and_true, Classical.not_not, mS_uI, mS_uA, mS_uJ, mS_uR, mS_uX, mR_uI, mR_uA, mR_uJ, mR_uX, mX_uI, mX_uA, mX_uJ, mX_uR, mI_s, mI_n, mI_A, mI_An, mI_uJ, mI_uR, mI_uX, mJ_uI, mJ_uA, mJ_uR, mJ_uX, onR_s, kC_v, kC_n, kC_t, kk4, sh4]
  have lw4 := s3.lw
  refine L_toS s3 (fun n4 g4 g0 gx t4 => ?_)
  have hz := h3.trans g4
  rw [kC_v]
  have bz : ub (cg n3 n4 v3 (5, 8004)) (0 + 9) (0 + 12024) := (b3.ch).mono (by omega) (by omega)
  generalize cg n3 n4 v3 (5, 8004) = vz at bz ⊢
  have tz := t4
  have kf : ule vz (9, 12024) = True := bz.le (by omega) (by omega)
  simp (disch := first | omega | rfl) only [e_181_0, e_181_3, e_181_4, e_181_7, e_181_9, e_181_12, e_181_14, e_181_15, e_181_16, e_181_17, e_181_20, e_181_23, ge1, ule_t, true_or, or_true, nI_add, nI_mul, nI_sub, nI_clamp, nI_lt_t, nI_lt_f, nI_le_t, nI_le_f, nI_eq_t, nI_eq_f, vp_nI, tI, fI, not_true, not_false_iff, true_and, and_true, Classical.not_not, mS_uI, mS_uA, mS_uJ, mS_uR, mS_uX, mR_uI, mR_uA, mR_uJ, mR_uX, mX_uI, mX_uA, mX_uJ, mX_uR, mI_s, mI_n, mI_A, mI_An, mI_uJ, mI_uR, mI_uX, mJ_uI, mJ_uA, mJ_uR, mJ_uX, onR_s, kC_v, kC_n, kC_t, kf]
  refine hq _ _ hz (tz.up (Nat.le_refl _) lw4.1)
theorem l_182a (hL : L ≤ 260) : ∀ n i (μ : Mu) (u : Nat × Nat) (ta : Nat) (l : List Nat) (q : Nat), i + n = 8 → LwW L xs μ → 1000 ≤ mX μ → z0 ≤ mX μ → StB μ z0 (mX μ) ta l → l.length ≤ 100 + 5 * i → ub u (27 * q) (45000 * q) → q ≤ 10 + i → (∀ μ' u' ta', FrG (mX μ) μ μ' → StB μ' z0 (mX μ') ta' (l ++ sts L xs i n) → ub u' (27 * (q + n)) (45000 * (q + n)) → EM 182 (d + 8) 120 [some (.ref 300), l1, some (.ref ta'), some (.int (nI 8)), l4] [] μ' u' Q) → EM 182 (d + 8) 80 [some (.ref 300), l1, some (.ref ta), some (.int (nI i)), l4] [] μ u Q := by
  intro n
  induction n with
  | zero =>
    intro i μ u ta l q hin hW hX hz0 hT hl hu hq10 hq
    obtain rfl : i = 8 := by omega
    rw [e_182_80]
    simp (disch := first | omega | rfl) only [e_182_81, e_182_83, e_182_86, e_182_89, e_182_90, e_182_93, e_182_94, e_182_97, e_182_99, e_182_102, e_182_103, e_182_104, e_182_107, e_182_110, e_182_113, e_182_114, e_182_117, ge1, ule_t, true_or, or_true, nI_add, nI_mul, nI_sub, nI_clamp, nI_lt_t, nI_lt_f, nI_le_t, nI_le_f, nI_eq_t, nI_eq_f, vp_nI, tI, fI, not_true, not_false_iff, true_and, and_true, Classical.not_not, mS_uI, mS_uA, mS_uJ, mS_uR, mS_uX, mR_uI, mR_uA, mR_uJ, mR_uX, mX_uI, mX_uA, mX_uJ, mX_uR, mI_s, mI_n, mI_A, mI_An, mI_uJ, mI_uR, mI_uX, mJ_uI, mJ_uA, mJ_uR, mJ_uX, onR_s, kC_v, kC_n, kC_t]
    have := hq μ u ta FrG.refl (by rw [sts, List.append_nil]; exact hT) hu
    exact this
  | succ n ih =>
    intro i μ u ta l q hin hW hX hz0 hT hl hu hq10 hq
    have st9 : staN L xs i < 10000 := by unfold staN; split <;> first | exact ofM_lt (by omega) | omega
    have hi8 : (8 ≤ i) = False := eq_false (by omega)
    have f4 := fNd_le4 (x := staN L xs i)
    rw [e_182_80]
    have kn1 : ule (uad u (1, 4)) (1000, 2000000) = True := (hu.ad).le (by omega) (by omega)
    have kn2 : ule (uad (uad u (1, 4)) (1, 16)) (1000, 2000000) = True := (hu.ad.ad).le (by omega) (by omega)
    simp (disch := first | omega | rfl) only [e_182_81, e_182_83, e_182_86, e_182_89, e_182_90, e_182_93, e_182_94, e_182_97, e_182_99, e_182_102, e_182_103, e_182_104, e_182_107, e_182_110, e_182_113, e_182_114, e_182_117, ge1, ule_t, true_or, or_true, nI_add, nI_mul, nI_sub, nI_clamp, nI_lt_t, nI_lt_f, nI_le_t, nI_le_f, nI_eq_t, nI_eq_f, vp_nI, tI, fI, not_true, not_false_iff, true_and, and_true, Classical.not_not, mS_uI, mS_uA, mS_uJ, mS_uR, mS_uX, mR_uI, mR_uA, mR_uJ, mR_uX, mX_uI, mX_uA, mX_uJ, mX_uR, mI_s, mI_n, mI_A, mI_An, mI_uJ, mI_uR, mI_uX, mJ_uI, mJ_uA, mJ_uR, mJ_uX, onR_s, kC_v, kC_n, kC_t, kn1, kn2, hi8]
    refine L_new (by omega) (fun n1 g1 s1 => ?_)
    rw [kC_n]
    have b1 : ub (cg (uN μ 1 4) n1 (uad u (1, 4)) (1, 16)) (27 * q + 2) (45000 * q + 20) := (hu.ad.ch).mono (by omega) (by omega)
    generalize cg (uN μ 1 4) n1 (uad u (1, 4)) (1, 16) = v1 at b1 ⊢
    have kk2 : ule (uad v1 (1, 2000)) (1000, 2000000) = True := (b1.ad).le (by omega) (by omega)
    have sh2 := s1.sh
    simp (disch := first | omega | rfl) only [e_182_81, e_182_83, e_182_86, e_182_89, e_182_90, e_182_93, e_182_94, e_182_97, e_182_99, e_182_102, e_182_103, e_182_104, e_182_107, e_182_110, e_182_113, e_182_114, e_182_117, ge1, ule_t, true_or, or_true, nI_add, nI_mul, nI_sub, nI_clamp, nI_lt_t, nI_lt_f, nI_le_t, nI_le_f, nI_eq_t, nI_eq_f, vp_nI, tI, fI, not_true, not_false_iff, true_and, and_true, Classical.not_not, mS_uI, mS_uA, mS_uJ, mS_uR, mS_uX, mR_uI, mR_uA, mR_uJ, mR_uX, mX_uI, mX_uA, mX_uJ, mX_uR, mI_s, mI_n, mI_A, mI_An, mI_uJ, mI_uR, mI_uX, mJ_uI, mJ_uA, mJ_uR, mJ_uX, onR_s, kC_v, kC_n, kC_t, kk2, sh2]
    refine L_str s1 ((hT.up (Nat.le_refl _) (Nat.zero_le _)).fr g1) (by simp only [List.length_append, dgs_len, List.length_nil, tl24, tl25, tl26, tl27, tl28, tl29, tl30, tl31, tl32, nml, List.length_cons]; omega) (fun n2 g2 s2 => ?_)
    have h2 := g1.trans g2
    rw [kC_v]
    have b2 : ub (cg n1 n2 v1 (1, 2000)) (27 * q + 3) (45000 * q + 2020) := (b1.ch).mono (by omega) (by omega)
    generalize cg n1 n2 v1 (1, 2000) = v2 at b2 ⊢
    have kk3 : ule (uad v2 (1, 2000)) (1000, 2000000) = True := (b2.ad).le (by omega) (by omega)
    have sh3 := s2.sh
    simp (disch := first | omega | rfl) only [e_182_81, e_182_83, e_182_86, e_182_89, e_182_90, e_182_93, e_182_94, e_182_97, e_182_99, e_182_102, e_182_103, e_182_104, e_182_107, e_182_110, e_182_113, e_182_114, e_182_117, ge1, ule_t, true_or, or_true, nI_add, nI_mul, nI_sub, nI_clamp, nI_lt_t, nI_lt_f, nI_le_t, nI_le_f, nI_eq_t, nI_eq_f, vp_nI, tI, fI, not_true, not_false_iff, true_and, and_true, Classical.not_not, mS_uI, mS_uA, mS_uJ, mS_uR, mS_uX, mR_uI, mR_uA, mR_uJ, mR_uX, mX_uI, mX_uA, mX_uJ, mX_uR, mI_s, mI_n, mI_A, mI_An, mI_uJ, mI_uR, mI_uX, mJ_uI, mJ_uA, mJ_uR, mJ_uX, onR_s, kC_v, kC_n, kC_t, kk3, sh3]
    refine L_str s2 (((hW.2.2 27 (by omega)).fr (h2.le (by omega))).up (by omega) (Nat.le_refl _)) (by simp only [List.length_append, dgs_len, List.length_nil, tl24, tl25, tl26, tl27, tl28, tl29, tl30, tl31, tl32, nml, List.length_cons]; omega) (fun n3 g3 s3 => ?_)
    have h3 := h2.trans g3
    rw [kC_v]
    have b3 : ub (cg n2 n3 v2 (1, 2000)) (27 * q + 4) (45000 * q + 4020) := (b2.ch).mono (by omega) (by omega)
    generalize cg n2 n3 v2 (1, 2000) = v3 at b3 ⊢
    have x4_0 := fun (d : Nat) (Q : Po) => w_176 (d := d) (Q := Q) (c := i) (hW.fr h3 (by omega)).1 hL (by omega)
    have kk4 : ule (uad v3 (1, 2000)) (1000, 2000000) = True := (b3.ad).le (by omega) (by omega)
    have sh4 := s3.sh
    have kz4 : ule v3 (1000, 2000000) = True := b3.le (by omega) (by omega)
    simp (disch := first | omega | rfl) only [e_182_81, e_182_83, e_182_86, e_182_89, e_182_90, e_182_93, e_182_94, e_182_97, e_182_99, e_182_102, e_182_103, e_182_104, e_182_107, e_182_110, e_182_113, e_182_114, e_182_117, ge1, ule_t, true_or, or_true, nI_add, nI_mul, nI_sub, nI_clamp, nI_lt_t, nI_lt_f, nI_le_t, nI_le_f, nI_eq_t, nI_eq_f, vp_nI, tI, fI, not_true, not_false_iff, true_and, and_true, Classical.not_not, mS_uI, mS_uA, mS_uJ, mS_uR, mS_uX, mR_uI, mR_uA, mR_uJ, mR_uX, mX_uI, mX_uA, mX_uJ, mX_uR, mI_s, mI_n, mI_A, mI_An, mI_uJ, mI_uR, mI_uX, mJ_uI, mJ_uA, mJ_uR, mJ_uX, onR_s, kC_v, kC_n, kC_t, kk4, sh4, kz4, x4_0]
    refine L_num s3 (hW.fr h3 (by omega)).2.1 (st9) (by simp only [List.length_append, dgs_len, List.length_nil, tl24, tl25, tl26, tl27, tl28, tl29, tl30, tl31, tl32, nml, List.length_cons]; omega) (fun n4 g4 s4 => ?_)
    have h4 := h3.trans g4
    rw [kC_v]
    have b4 : ub (cg n3 n4 v3 (1, 2000)) (27 * q + 5) (45000 * q + 6020) := (b3.ch).mono (by omega) (by omega)
    generalize cg n3 n4 v3 (1, 2000) = v4 at b4 ⊢
    have kk5 : ule (uad v4 (5, 8004)) (1000, 2000000) = True := (b4.ad).le (by omega) (by omega)
    have sh5 := s4.sh
    simp (disch := first | omega | rfl) only [e_182_81, e_182_83, e_182_86, e_182_89, e_182_90, e_182_93, e_182_94, e_182_97, e_182_99, e_182_102, e_182_103, e_182_104, e_182_107, e_182_110, e_182_113, e_182_114, e_182_117, ge1, ule_t, true_or, or_true, nI_add, nI_mul, nI_sub, nI_clamp, nI_lt_t, nI_lt_f, nI_le_t, nI_le_f, nI_eq_t, nI_eq_f, vp_nI, tI, fI, not_true, not_false_iff, true_and, and_true, Classical.not_not, mS_uI, mS_uA, mS_uJ, mS_uR, mS_uX, mR_uI, mR_uA, mR_uJ, mR_uX, mX_uI, mX_uA, mX_uJ, mX_uR, mI_s, mI_n, mI_A, mI_An, mI_uJ, mI_uR, mI_uX, mJ_uI, mJ_uA, mJ_uR, mJ_uX, onR_s, kC_v, kC_n, kC_t, kk5, sh5]
    have lw5 := s4.lw
    refine L_toS s4 (fun n5 g5 g0 gx t5 => ?_)
    have hz := h4.trans g5
    rw [kC_v]
    have bz : ub (cg n4 n5 v4 (5, 8004)) (27 * q + 10) (45000 * q + 14024) := (b4.ch).mono (by omega) (by omega)
    generalize cg n4 n5 v4 (5, 8004) = vz at bz ⊢
    have tz := t5
    have kf : ule vz (1000, 2000000) = True := bz.le (by omega) (by omega)
    simp (disch := first | omega | rfl) only [e_182_81, e_182_83, e_182_86, e_182_89, e_182_90, e_182_93, e_182_94, e_182_97, e_182_99, e_182_102, e_182_103, e_182_104, e_182_107, e_182_110, e_182_113, e_182_114, e_182_117, ge1, ule_t, true_or, or_true, nI_add, nI_mul, nI_sub, nI_clamp, nI_lt_t, nI_lt_f, nI_le_t, nI_le_f, nI_eq_t, nI_eq_f, vp_nI, tI, fI, not_true, not_false_iff, true_and, and_true, Classical.not_not, mS_uI, mS_uA, mS_uJ, mS_uR, mS_uX, mR_uI, mR_uA, mR_uJ, mR_uX, mX_uI, mX_uA, mX_uJ, mX_uR, mI_s, mI_n, mI_A, mI_An, mI_uJ, mI_uR, mI_uX, mJ_uI, mJ_uA, mJ_uR, mJ_uX, onR_s, kC_v, kC_n, kC_t, kf]
    have hX2 := hz.1
    have eq9 : q + 1 + n = q + (n + 1) := by omega
    refine ih (i + 1) _ _ _ _ (q + 1) (by omega) (hW.fr hz hX) (by omega) (by omega) (tz.up (Nat.le_refl _) (by omega)) ?_ ⟨by have := bz.1; omega, by have := bz.2; omega⟩ (by omega) (fun μ' u' ta' h1 h2 h3 => hq _ _ _ (hz.trans (h1.le hX2))  ?_ (eq9 ▸ h3))
    · simp only [List.length_append, dgs_len, List.length_nil, tl24, tl25, tl26, tl27, tl28, tl29, tl30, tl31, tl32, nml, List.length_cons]; omega
    · have e : ([] ++ l ++ txB 27 ++ dgs (staN L xs i)) ++ sts L xs (i + 1) n = l ++ sts L xs i (n + 1) := by
        rw [t27e]; simp only [sts, List.nil_append, List.append_assoc, List.cons_append]
      rw [← e]; exact h2
theorem l_182b (hL : L ≤ 260) : ∀ n m (μ : Mu) (u : Nat × Nat) (ta : Nat) (l : List Nat) (nn : Nat) (r tn : Nat → Int32) (q : Nat), m + n = memN L xs → LwW L xs μ → 1000 ≤ mX μ → z0 ≤ mX μ → StB μ z0 (mX μ) ta l → l.length ≤ 150 + 15 * m → ub u (27 * q) (45000 * q) → q ≤ 20 + m → TxR L xs l nn r tn m 0 0 → (∀ μ' u' ta' l' n' r' tn', FrG (mX μ) μ μ' → StB μ' z0 (mX μ') ta' l' → l'.length ≤ 225 → ub u' (27 * (q + n)) (45000 * (q + n)) → TxR L xs l' n' r' tn' (memN L xs) 0 0 → EM 182 (d + 8) 203 [some (.ref 300), l1, some (.ref ta'), some (.int (nI 0)), l4] [] μ' u' Q) → EM 182 (d + 8) 142 [some (.ref 300), l1, some (.ref ta), some (.int (nI m)), l4] [] μ u Q := by
  intro n
  have hm5 := memN_in (L := L) (xs := xs)
  induction n with
  | zero =>
    intro m μ u ta l nn r tn q hin hW hX hz0 hT hl hu hq10 hR hq
    obtain rfl : m = memN L xs := by omega
    have h174 := fun (d : Nat) (Q : Po) => w_174 (d := d) (Q := Q) hW.1 hL
    have ku : ule u (1000, 2000000) = True := hu.le (by omega) (by omega)
    rw [e_182_142]
    simp (disch := first | omega | rfl) only [e_182_143, e_182_144, e_182_147, e_182_150, e_182_153, e_182_154, e_182_157, e_182_158, e_182_161, e_182_163, e_182_166, e_182_167, e_182_170, e_182_173, e_182_175, e_182_178, e_182_179, e_182_180, e_182_183, e_182_186, e_182_188, e_182_191, e_182_194, e_182_195, e_182_198, e_182_201, e_182_202, ge1, ule_t, true_or, or_true, nI_add, nI_mul, nI_sub, nI_clamp, nI_lt_t, nI_lt_f, nI_le_t, nI_le_f, nI_eq_t, nI_eq_f, vp_nI, tI, fI, not_true, not_false_iff, true_and, and_true, Classical.not_not, mS_uI, mS_uA, mS_uJ, mS_uR, mS_uX, mR_uI, mR_uA, mR_uJ, mR_uX, mX_uI, mX_uA, mX_uJ, mX_uR, mI_s, mI_n, mI_A, mI_An, mI_uJ, mI_uR, mI_uX, mJ_uI, mJ_uA, mJ_uR, mJ_uX, onR_s, kC_v, kC_n, kC_t, h174, ku]
    exact hq μ u ta l nn r tn FrG.refl hT (by omega) hu hR
  | succ n ih =>
    intro m μ u ta l nn r tn q hin hW hX hz0 hT hl hu hq10 hR hq
    have h174 := fun (d : Nat) (Q : Po) => w_174 (d := d) (Q := Q) hW.1 hL
    have ku : ule u (1000, 2000000) = True := hu.le (by omega) (by omega)
    have hmf : (memN L xs ≤ m) = False := eq_false (by omega)
    have hp4 : paceN L xs m ≤ 4 := by have := ofM_lt (x := cel L xs 0 >>> (nI (3 + 2 * m) &&& 31)) (n := 4) (by omega); unfold paceN; omega
    have f4 := fNd_le4 (x := paceN L xs m)
    rw [e_182_142]
    have kn1 : ule (uad u (1, 4)) (1000, 2000000) = True := (hu.ad).le (by omega) (by omega)
    have kn2 : ule (uad (uad u (1, 4)) (1, 16)) (1000, 2000000) = True := (hu.ad.ad).le (by omega) (by omega)
    simp (disch := first | omega | rfl) only [e_182_143, e_182_144, e_182_147, e_182_150, e_182_153, e_182_154, e_182_157, e_182_158, e_182_161, e_182_163, e_182_166, e_182_167, e_182_170, e_182_173, e_182_175, e_182_178, e_182_179, e_182_180, e_182_183, e_182_186, e_182_188, e_182_191, e_182_194, e_182_195, e_182_198, ge1, ule_t, true_or, or_true, nI_add, nI_mul, nI_sub, nI_clamp, nI_lt_t, nI_lt_f, nI_le_t, nI_le_f, nI_eq_t, nI_eq_f, vp_nI, tI, fI, not_true, not_false_iff, true_and, and_true, Classical.not_not, mS_uI, mS_uA, mS_uJ, mS_uR, mS_uX, mR_uI, mR_uA, mR_uJ, mR_uX, mX_uI, mX_uA, mX_uJ, mX_uR, mI_s, mI_n, mI_A, mI_An, mI_uJ, mI_uR, mI_uX, mJ_uI, mJ_uA, mJ_uR, mJ_uX, onR_s, kC_v, kC_n, kC_t, kn1, kn2, hmf, h174, ku]
    refine L_new (by omega) (fun n1 g1 s1 => ?_)
    rw [kC_n]
    have b1 : ub (cg (uN μ 1 4) n1 (uad u (1, 4)) (1, 16)) (27 * q + 2) (45000 * q + 20) := (hu.ad.ch).mono (by omega) (by omega)
    generalize cg (uN μ 1 4) n1 (uad u (1, 4)) (1, 16) = v1 at b1 ⊢
    have kk2 : ule (uad v1 (1, 2000)) (1000, 2000000) = True := (b1.ad).le (by omega) (by omega)
    have sh2 := s1.sh
    simp (disch := first | omega | rfl) only [e_182_143, e_182_144, e_182_147, e_182_150, e_182_153, e_182_154, e_182_157, e_182_158, e_182_161, e_182_163, e_182_166, e_182_167, e_182_170, e_182_173, e_182_175, e_182_178, e_182_179, e_182_180, e_182_183, e_182_186, e_182_188, e_182_191, e_182_194, e_182_195, e_182_198, ge1, ule_t, true_or, or_true, nI_add, nI_mul, nI_sub, nI_clamp, nI_lt_t, nI_lt_f, nI_le_t, nI_le_f, nI_eq_t, nI_eq_f, vp_nI, tI, fI, not_true, not_false_iff, true_and, and_true, Classical.not_not, mS_uI, mS_uA, mS_uJ, mS_uR, mS_uX, mR_uI, mR_uA, mR_uJ, mR_uX, mX_uI, mX_uA, mX_uJ, mX_uR, mI_s, mI_n, mI_A, mI_An, mI_uJ, mI_uR, mI_uX, mJ_uI, mJ_uA, mJ_uR, mJ_uX, onR_s, kC_v, kC_n, kC_t, kk2, sh2]
    refine L_str s1 ((hT.up (Nat.le_refl _) (Nat.zero_le _)).fr g1) (by simp only [List.length_append, dgs_len, List.length_nil, tl24, tl25, tl26, tl27, tl28, tl29, tl30, tl31, tl32, nml, List.length_cons]; omega) (fun n2 g2 s2 => ?_)
    have h2 := g1.trans g2
    rw [kC_v]
    have b2 : ub (cg n1 n2 v1 (1, 2000)) (27 * q + 3) (45000 * q + 2020) := (b1.ch).mono (by omega) (by omega)
    generalize cg n1 n2 v1 (1, 2000) = v2 at b2 ⊢
    have kk3 : ule (uad v2 (1, 2000)) (1000, 2000000) = True := (b2.ad).le (by omega) (by omega)
    have sh3 := s2.sh
    simp (disch := first | omega | rfl) only [e_182_143, e_182_144, e_182_147, e_182_150, e_182_153, e_182_154, e_182_157, e_182_158, e_182_161, e_182_163, e_182_166, e_182_167, e_182_170, e_182_173, e_182_175, e_182_178, e_182_179, e_182_180, e_182_183, e_182_186, e_182_188, e_182_191, e_182_194, e_182_195, e_182_198, ge1, ule_t, true_or, or_true, nI_add, nI_mul, nI_sub, nI_clamp, nI_lt_t, nI_lt_f, nI_le_t, nI_le_f, nI_eq_t, nI_eq_f, vp_nI, tI, fI, not_true, not_false_iff, true_and, and_true, Classical.not_not, mS_uI, mS_uA, mS_uJ, mS_uR, mS_uX, mR_uI, mR_uA, mR_uJ, mR_uX, mX_uI, mX_uA, mX_uJ, mX_uR, mI_s, mI_n, mI_A, mI_An, mI_uJ, mI_uR, mI_uX, mJ_uI, mJ_uA, mJ_uR, mJ_uX, onR_s, kC_v, kC_n, kC_t, kk3, sh3]
    refine L_str s2 (((hW.2.2 29 (by omega)).fr (h2.le (by omega))).up (by omega) (Nat.le_refl _)) (by simp only [List.length_append, dgs_len, List.length_nil, tl24, tl25, tl26, tl27, tl28, tl29, tl30, tl31, tl32, nml, List.length_cons]; omega) (fun n3 g3 s3 => ?_)
    have h3 := h2.trans g3
    rw [kC_v]
    have b3 : ub (cg n2 n3 v2 (1, 2000)) (27 * q + 4) (45000 * q + 4020) := (b2.ch).mono (by omega) (by omega)
    generalize cg n2 n3 v2 (1, 2000) = v3 at b3 ⊢
    have kk4 : ule (uad v3 (9, 12024)) (1000, 2000000) = True := (b3.ad).le (by omega) (by omega)
    have kz4 : ule v3 (1000, 2000000) = True := b3.le (by omega) (by omega)
    simp (disch := first | omega | rfl) only [e_182_143, e_182_144, e_182_147, e_182_150, e_182_153, e_182_154, e_182_157, e_182_158, e_182_161, e_182_163, e_182_166, e_182_167, e_182_170, e_182_173, e_182_175, e_182_178, e_182_179, e_182_180, e_182_183, e_182_186, e_182_188, e_182_191, e_182_194, e_182_195, e_182_198, ge1, ule_t, true_or, or_true, nI_add, nI_mul, nI_sub, nI_clamp, nI_lt_t, nI_lt_f, nI_le_t, nI_le_f, nI_eq_t, nI_eq_f, vp_nI, tI, fI, not_true, not_false_iff, true_and, and_true, Classical.not_not, mS_uI, mS_uA, mS_uJ, mS_uR, mS_uX, mR_uI, mR_uA, mR_uJ, mR_uX, mX_uI, mX_uA, mX_uJ, mX_uR, mI_s, mI_n, mI_A, mI_An, mI_uJ, mI_uR, mI_uX, mJ_uI, mJ_uA, mJ_uR, mJ_uX, onR_s, kC_v, kC_n, kC_t, kk4, kz4]
    have lw4 := s3.lw
    refine w_181 (hW.fr h3 (by omega)) (by omega) (by omega) (fun n4 p4 g4 t4 => ?_)
    rw [kC_v]
    have b4 : ub (cg n3 n4 v3 (9, 12024)) (27 * q + 13) (45000 * q + 16044) := (b3.ch).mono (by omega) (by omega)
    generalize cg n3 n4 v3 (9, 12024) = v4 at b4 ⊢
    have s4 := s3.fr g4
    have kk5 : ule (uad v4 (1, 2000)) (1000, 2000000) = True := (b4.ad).le (by omega) (by omega)
    have sh5 := s4.sh
    simp (disch := first | omega | rfl) only [e_182_143, e_182_144, e_182_147, e_182_150, e_182_153, e_182_154, e_182_157, e_182_158, e_182_161, e_182_163, e_182_166, e_182_167, e_182_170, e_182_173, e_182_175, e_182_178, e_182_179, e_182_180, e_182_183, e_182_186, e_182_188, e_182_191, e_182_194, e_182_195, e_182_198, ge1, ule_t, true_or, or_true, nI_add, nI_mul, nI_sub, nI_clamp, nI_lt_t, nI_lt_f, nI_le_t, nI_le_f, nI_eq_t, nI_eq_f, vp_nI, tI, fI, not_true, not_false_iff, true_and, and_true, Classical.not_not, mS_uI, mS_uA, mS_uJ, mS_uR, mS_uX, mR_uI, mR_uA, mR_uJ, mR_uX, mX_uI, mX_uA, mX_uJ, mX_uR, mI_s, mI_n, mI_A, mI_An, mI_uJ, mI_uR, mI_uX, mJ_uI, mJ_uA, mJ_uR, mJ_uX, onR_s, kC_v, kC_n, kC_t, kk5, sh5]
    refine L_strN s3 g4 t4 (by simp only [List.length_append, dgs_len, List.length_nil, tl24, tl25, tl26, tl27, tl28, tl29, tl30, tl31, tl32, nml, List.length_cons]; omega) (fun n5 g5 s5 => ?_)
    have h5 := (h3.trans (g4.le lw4.1)).trans g5
    rw [kC_v]
    have b5 : ub (cg n4 n5 v4 (1, 2000)) (27 * q + 14) (45000 * q + 18044) := (b4.ch).mono (by omega) (by omega)
    generalize cg n4 n5 v4 (1, 2000) = v5 at b5 ⊢
    have kk6 : ule (uad v5 (1, 2000)) (1000, 2000000) = True := (b5.ad).le (by omega) (by omega)
    have sh6 := s5.sh
    simp (disch := first | omega | rfl) only [e_182_143, e_182_144, e_182_147, e_182_150, e_182_153, e_182_154, e_182_157, e_182_158, e_182_161, e_182_163, e_182_166, e_182_167, e_182_170, e_182_173, e_182_175, e_182_178, e_182_179, e_182_180, e_182_183, e_182_186, e_182_188, e_182_191, e_182_194, e_182_195, e_182_198, ge1, ule_t, true_or, or_true, nI_add, nI_mul, nI_sub, nI_clamp, nI_lt_t, nI_lt_f, nI_le_t, nI_le_f, nI_eq_t, nI_eq_f, vp_nI, tI, fI, not_true, not_false_iff, true_and, and_true, Classical.not_not, mS_uI, mS_uA, mS_uJ, mS_uR, mS_uX, mR_uI, mR_uA, mR_uJ, mR_uX, mX_uI, mX_uA, mX_uJ, mX_uR, mI_s, mI_n, mI_A, mI_An, mI_uJ, mI_uR, mI_uX, mJ_uI, mJ_uA, mJ_uR, mJ_uX, onR_s, kC_v, kC_n, kC_t, kk6, sh6]
    refine L_str s5 (((hW.2.2 27 (by omega)).fr (h5.le (by omega))).up (by omega) (Nat.le_refl _)) (by simp only [List.length_append, dgs_len, List.length_nil, tl24, tl25, tl26, tl27, tl28, tl29, tl30, tl31, tl32, nml, List.length_cons]; omega) (fun n6 g6 s6 => ?_)
    have h6 := h5.trans g6
    rw [kC_v]
    have b6 : ub (cg n5 n6 v5 (1, 2000)) (27 * q + 15) (45000 * q + 20044) := (b5.ch).mono (by omega) (by omega)
    generalize cg n5 n6 v5 (1, 2000) = v6 at b6 ⊢
    have x7_0 := fun (d : Nat) (Q : Po) => w_175 (d := d) (Q := Q) (m := m) (hW.fr h6 (by omega)).1 hL (by omega)
    have kk7 : ule (uad v6 (1, 2000)) (1000, 2000000) = True := (b6.ad).le (by omega) (by omega)
    have sh7 := s6.sh
    have kz7 : ule v6 (1000, 2000000) = True := b6.le (by omega) (by omega)
    simp (disch := first | omega | rfl) only [e_182_143, e_182_144, e_182_147, e_182_150, e_182_153, e_182_154, e_182_157, e_182_158, e_182_161, e_182_163, e_182_166, e_182_167, e_182_170, e_182_173, e_182_175, e_182_178, e_182_179, e_182_180, e_182_183, e_182_186, e_182_188, e_182_191, e_182_194, e_182_195, e_182_198, ge1, ule_t, true_or, or_true, nI_add, nI_mul, nI_sub, nI_clamp, nI_lt_t, nI_lt_f, nI_le_t, nI_le_f, nI_eq_t, nI_eq_f, vp_nI, tI, fI, not_true, not_false_iff, true_and, and_true, Classical.not_not, mS_uI, mS_uA, mS_uJ, mS_uR, mS_uX, mR_uI, mR_uA, mR_uJ, mR_uX, mX_uI, mX_uA, mX_uJ, mX_uR, mI_s, mI_n, mI_A, mI_An, mI_uJ, mI_uR, mI_uX, mJ_uI, mJ_uA, mJ_uR, mJ_uX, onR_s, kC_v, kC_n, kC_t, kk7, sh7, kz7, x7_0]
    refine L_num s6 (hW.fr h6 (by omega)).2.1 (by omega) (by simp only [List.length_append, dgs_len, List.length_nil, tl24, tl25, tl26, tl27, tl28, tl29, tl30, tl31, tl32, nml, List.length_cons]; omega) (fun n7 g7 s7 => ?_)
    have h7 := h6.trans g7
    rw [kC_v]
    have b7 : ub (cg n6 n7 v6 (1, 2000)) (27 * q + 16) (45000 * q + 22044) := (b6.ch).mono (by omega) (by omega)
    generalize cg n6 n7 v6 (1, 2000) = v7 at b7 ⊢
    have kk8 : ule (uad v7 (1, 2000)) (1000, 2000000) = True := (b7.ad).le (by omega) (by omega)
    have sh8 := s7.sh
    simp (disch := first | omega | rfl) only [e_182_143, e_182_144, e_182_147, e_182_150, e_182_153, e_182_154, e_182_157, e_182_158, e_182_161, e_182_163, e_182_166, e_182_167, e_182_170, e_182_173, e_182_175, e_182_178, e_182_179, e_182_180, e_182_183, e_182_186, e_182_188, e_182_191, e_182_194, e_182_195, e_182_198, ge1, ule_t, true_or, or_true, nI_add, nI_mul, nI_sub, nI_clamp, nI_lt_t, nI_lt_f, nI_le_t, nI_le_f, nI_eq_t, nI_eq_f, vp_nI, tI, fI, not_true, not_false_iff, true_and, and_true, Classical.not_not, mS_uI, mS_uA, mS_uJ, mS_uR, mS_uX, mR_uI, mR_uA, mR_uJ, mR_uX, mX_uI, mX_uA, mX_uJ, mX_uR, mI_s, mI_n, mI_A, mI_An, mI_uJ, mI_uR, mI_uX, mJ_uI, mJ_uA, mJ_uR, mJ_uX, onR_s, kC_v, kC_n, kC_t, kk8, sh8]
    refine L_str s7 (((hW.2.2 28 (by omega)).fr (h7.le (by omega))).up (by omega) (Nat.le_refl _)) (by simp only [List.length_append, dgs_len, List.length_nil, tl24, tl25, tl26, tl27, tl28, tl29, tl30, tl31, tl32, nml, List.length_cons]; omega) (fun n8 g8 s8 => ?_)
    have h8 := h7.trans g8
    rw [kC_v]
    have b8 : ub (cg n7 n8 v7 (1, 2000)) (27 * q + 17) (45000 * q + 24044) := (b7.ch).mono (by omega) (by omega)
    generalize cg n7 n8 v7 (1, 2000) = v8 at b8 ⊢
    have kk9 : ule (uad v8 (5, 8004)) (1000, 2000000) = True := (b8.ad).le (by omega) (by omega)
    have sh9 := s8.sh
    simp (disch := first | omega | rfl) only [e_182_143, e_182_144, e_182_147, e_182_150, e_182_153, e_182_154, e_182_157, e_182_158, e_182_161, e_182_163, e_182_166, e_182_167, e_182_170, e_182_173, e_182_175, e_182_178, e_182_179, e_182_180, e_182_183, e_182_186, e_182_188, e_182_191, e_182_194, e_182_195, e_182_198, ge1, ule_t, true_or, or_true, nI_add, nI_mul, nI_sub, nI_clamp, nI_lt_t, nI_lt_f, nI_le_t, nI_le_f, nI_eq_t, nI_eq_f, vp_nI, tI, fI, not_true, not_false_iff, true_and, and_true, Classical.not_not, mS_uI, mS_uA, mS_uJ, mS_uR, mS_uX, mR_uI, mR_uA, mR_uJ, mR_uX, mX_uI, mX_uA, mX_uJ, mX_uR, mI_s, mI_n, mI_A, mI_An, mI_uJ, mI_uR, mI_uX, mJ_uI, mJ_uA, mJ_uR, mJ_uX, onR_s, kC_v, kC_n, kC_t, kk9, sh9]
    have lw9 := s8.lw
    refine L_toS s8 (fun n9 g9 g0 gx t9 => ?_)
    have hz := h8.trans g9
    rw [kC_v]
    have bz : ub (cg n8 n9 v8 (5, 8004)) (27 * q + 22) (45000 * q + 32048) := (b8.ch).mono (by omega) (by omega)
    generalize cg n8 n9 v8 (5, 8004) = vz at bz ⊢
    have tz := t9
    have kf : ule vz (1000, 2000000) = True := bz.le (by omega) (by omega)
    simp (disch := first | omega | rfl) only [e_182_143, e_182_144, e_182_147, e_182_150, e_182_153, e_182_154, e_182_157, e_182_158, e_182_161, e_182_163, e_182_166, e_182_167, e_182_170, e_182_173, e_182_175, e_182_178, e_182_179, e_182_180, e_182_183, e_182_186, e_182_188, e_182_191, e_182_194, e_182_195, e_182_198, ge1, ule_t, true_or, or_true, nI_add, nI_mul, nI_sub, nI_clamp, nI_lt_t, nI_lt_f, nI_le_t, nI_le_f, nI_eq_t, nI_eq_f, vp_nI, tI, fI, not_true, not_false_iff, true_and, and_true, Classical.not_not, mS_uI, mS_uA, mS_uJ, mS_uR, mS_uX, mR_uI, mR_uA, mR_uJ, mR_uX, mX_uI, mX_uA, mX_uJ, mX_uR, mI_s, mI_n, mI_A, mI_An, mI_uJ, mI_uR, mI_uX, mJ_uI, mJ_uA, mJ_uR, mJ_uX, onR_s, kC_v, kC_n, kC_t, kf]
    have hX2 := hz.1
    have eq9 : q + 1 + n = q + (n + 1) := by omega
    have el : [] ++ l ++ txB 29 ++ nmW m ++ txB 27 ++ dgs (paceN L xs m) ++ txB 28 = l ++ stMem m (paceN L xs m) := by
      rw [t29e, t27e, t28e]; unfold stMem; simp only [List.nil_append, List.append_assoc, List.cons_append]
    rw [el] at tz
    refine ih (m + 1) _ _ _ _ (nn + 1) _ _ (q + 1) (by omega) (hW.fr hz hX) (by omega) (by omega) (tz.up (Nat.le_refl _) (by omega)) ?_ ⟨by have := bz.1; omega, by have := bz.2; omega⟩ (by omega) (hR.mem (by omega) (by unfold paceN; omega) hp4) (fun μ' u' ta' l' n' r' tn' h1 h2 h3 h4 h5 => hq _ _ _ _ _ _ _ (hz.trans (h1.le hX2)) h2 h3 (eq9 ▸ h4) h5)
    unfold stMem; simp only [List.length_append, List.length_cons, dgs_len, List.length_nil, t1l, show (nmW m).length = 2 from rfl]; omega
theorem l_182c (hL : L ≤ 260) {t : Nat} (ht : t < 5) {tn : Nat → Int32} : ∀ n k (μ : Mu) (u : Nat × Nat) (ta : Nat) (l : List Nat) (nn : Nat) (r : Nat → Int32) (q : Nat), k + n = comN L xs t → LwW L xs μ → 1000 ≤ mX μ → SqS μ sq → sq < mX μ → z0 ≤ mX μ → StB μ z0 (mX μ) ta l → l.length ≤ 230 + 90 * t + 21 * k → ub u (27 * q) (45000 * q) → q ≤ 31 + k → TxR L xs l nn r tn (memN L xs) t k → (∀ μ' u' ta' l' n' r', FrG (mX μ) μ μ' → StB μ' z0 (mX μ') ta' l' → l'.length ≤ 230 + 90 * t + 84 → ub u' (27 * (q + n)) (45000 * (q + n)) → TxR L xs l' n' r' tn (memN L xs) t (comN L xs t) → EM 182 (d + 8) 319 [some (.ref 300), some (.ref sq), some (.ref ta'), some (.int (nI t)), some (.int (nI (comN L xs t)))] [] μ' u' Q) → EM 182 (d + 8) 214 [some (.ref 300), some (.ref sq), some (.ref ta), some (.int (nI t)), some (.int (nI k))] [] μ u Q := by
  intro n
  have hm5 := memN_in (L := L) (xs := xs)
  have hc5 : comN L xs t < 5 := ofM_lt (by omega)
  induction n with
  | zero =>
    intro k μ u ta l nn r q hin hW hX hq6 hqx hz0 hT hl hu hq10 hR hq
    obtain rfl : k = comN L xs t := by omega
    have h178 := fun (d : Nat) (Q : Po) => w_178 (d := d) (Q := Q) (t := t) hW.1 hL (by omega)
    have ku : ule u (1000, 2000000) = True := hu.le (by omega) (by omega)
    rw [e_182_214]
    simp (disch := first | omega | rfl) only [e_182_216, e_182_217, e_182_218, e_182_221, e_182_224, e_182_227, e_182_228, e_182_231, e_182_232, e_182_235, e_182_237, e_182_240, e_182_241, e_182_242, e_182_244, e_182_245, e_182_248, e_182_251, e_182_254, e_182_256, e_182_259, e_182_260, e_182_261, e_182_262, e_182_264, e_182_265, e_182_268, e_182_269, e_182_272, e_182_274, e_182_277, e_182_278, e_182_279, e_182_281, e_182_282, e_182_285, e_182_288, e_182_290, e_182_293, e_182_294, e_182_295, e_182_297, e_182_298, e_182_301, e_182_304, e_182_306, e_182_309, e_182_312, e_182_313, e_182_316, ge1, ule_t, true_or, or_true, nI_add, nI_mul, nI_sub, nI_clamp, nI_lt_t, nI_lt_f, nI_le_t, nI_le_f, nI_eq_t, nI_eq_f, vp_nI, tI, fI, not_true, not_false_iff, true_and, and_true, Classical.not_not, mS_uI, mS_uA, mS_uJ, mS_uR, mS_uX, mR_uI, mR_uA, mR_uJ, mR_uX, mX_uI, mX_uA, mX_uJ, mX_uR, mI_s, mI_n, mI_A, mI_An, mI_uJ, mI_uR, mI_uX, mJ_uI, mJ_uA, mJ_uR, mJ_uX, onR_s, kC_v, kC_n, kC_t, h178, ku]
    exact hq μ u ta l nn r FrG.refl hT (by omega) hu hR
  | succ n ih =>
    intro k μ u ta l nn r q hin hW hX hq6 hqx hz0 hT hl hu hq10 hR hq
    have h178 := fun (d : Nat) (Q : Po) => w_178 (d := d) (Q := Q) (t := t) hW.1 hL (by omega)
    have ku : ule u (1000, 2000000) = True := hu.le (by omega) (by omega)
    have hmf : (comN L xs t ≤ k) = False := eq_false (by omega)
    have ha6 : cmA L xs t k < memN L xs := ofM_lt (by omega)
    have hs6 : cmS L xs t k < 6 := ofM_lt (by omega)
    have hc16 : cmC L xs t k < 16 := ofM_lt (by omega)
    have ho9 : cmO L xs t k < 10000 := by unfold cmO; split; exact ofM_lt (by omega); have := ofM_lt (x := cmX L xs t k / nI 1024) (n := 16) (by omega); omega
    have f4 := fNd_le4 (x := cmC L xs t k)
    have f5 := fNd_le4 (x := cmO L xs t k)
    have w4 := t18l hs6
    have w5 := t3l hs6
    have cv0 : cmV L xs t k 0 = cmA L xs t k := rfl
    have cv1 : cmV L xs t k 1 = cmS L xs t k := rfl
    have cv2 : cmV L xs t k 2 = cmC L xs t k := rfl
    have cv3 : cmV L xs t k 3 = cmO L xs t k := rfl
    have sq1 : (1000 ≤ sq) = True := eq_true hq6.2.1
    rw [e_182_214]
    have kn1 : ule (uad u (1, 4)) (1000, 2000000) = True := (hu.ad).le (by omega) (by omega)
    have kn2 : ule (uad (uad u (1, 4)) (1, 16)) (1000, 2000000) = True := (hu.ad.ad).le (by omega) (by omega)
    simp (disch := first | omega | rfl) only [e_182_216, e_182_217, e_182_218, e_182_221, e_182_224, e_182_227, e_182_228, e_182_231, e_182_232, e_182_235, e_182_237, e_182_240, e_182_241, e_182_242, e_182_244, e_182_245, e_182_248, e_182_251, e_182_254, e_182_256, e_182_259, e_182_260, e_182_261, e_182_262, e_182_264, e_182_265, e_182_268, e_182_269, e_182_272, e_182_274, e_182_277, e_182_278, e_182_279, e_182_281, e_182_282, e_182_285, e_182_288, e_182_290, e_182_293, e_182_294, e_182_295, e_182_297, e_182_298, e_182_301, e_182_304, e_182_306, e_182_309, e_182_312, e_182_313, e_182_316, ge1, ule_t, true_or, or_true, nI_add, nI_mul, nI_sub, nI_clamp, nI_lt_t, nI_lt_f, nI_le_t, nI_le_f, nI_eq_t, nI_eq_f, vp_nI, tI, fI, not_true, not_false_iff, true_and, and_true, Classical.not_not, mS_uI, mS_uA, mS_uJ, mS_uR, mS_uX, mR_uI, mR_uA, mR_uJ, mR_uX, mX_uI, mX_uA, mX_uJ, mX_uR, mI_s, mI_n, mI_A, mI_An, mI_uJ, mI_uR, mI_uX, mJ_uI, mJ_uA, mJ_uR, mJ_uX, onR_s, kC_v, kC_n, kC_t, kn1, kn2, hmf, h178, ku]
    refine L_new (by omega) (fun n1 g1 s1 => ?_)
    rw [kC_n]
    have b1 : ub (cg (uN μ 1 4) n1 (uad u (1, 4)) (1, 16)) (27 * q + 2) (45000 * q + 20) := (hu.ad.ch).mono (by omega) (by omega)
    generalize cg (uN μ 1 4) n1 (uad u (1, 4)) (1, 16) = v1 at b1 ⊢
    have kk2 : ule (uad v1 (1, 2000)) (1000, 2000000) = True := (b1.ad).le (by omega) (by omega)
    have sh2 := s1.sh
    simp (disch := first | omega | rfl) only [e_182_216, e_182_217, e_182_218, e_182_221, e_182_224, e_182_227, e_182_228, e_182_231, e_182_232, e_182_235, e_182_237, e_182_240, e_182_241, e_182_242, e_182_244, e_182_245, e_182_248, e_182_251, e_182_254, e_182_256, e_182_259, e_182_260, e_182_261, e_182_262, e_182_264, e_182_265, e_182_268, e_182_269, e_182_272, e_182_274, e_182_277, e_182_278, e_182_279, e_182_281, e_182_282, e_182_285, e_182_288, e_182_290, e_182_293, e_182_294, e_182_295, e_182_297, e_182_298, e_182_301, e_182_304, e_182_306, e_182_309, e_182_312, e_182_313, e_182_316, ge1, ule_t, true_or, or_true, nI_add, nI_mul, nI_sub, nI_clamp, nI_lt_t, nI_lt_f, nI_le_t, nI_le_f, nI_eq_t, nI_eq_f, vp_nI, tI, fI, not_true, not_false_iff, true_and, and_true, Classical.not_not, mS_uI, mS_uA, mS_uJ, mS_uR, mS_uX, mR_uI, mR_uA, mR_uJ, mR_uX, mX_uI, mX_uA, mX_uJ, mX_uR, mI_s, mI_n, mI_A, mI_An, mI_uJ, mI_uR, mI_uX, mJ_uI, mJ_uA, mJ_uR, mJ_uX, onR_s, kC_v, kC_n, kC_t, kk2, sh2]
    refine L_str s1 ((hT.up (Nat.le_refl _) (Nat.zero_le _)).fr g1) (by simp only [List.length_append, dgs_len, List.length_nil, tl24, tl25, tl26, tl27, tl28, tl29, tl30, tl31, tl32, nml, List.length_cons]; omega) (fun n2 g2 s2 => ?_)
    have h2 := g1.trans g2
    rw [kC_v]
    have b2 : ub (cg n1 n2 v1 (1, 2000)) (27 * q + 3) (45000 * q + 2020) := (b1.ch).mono (by omega) (by omega)
    generalize cg n1 n2 v1 (1, 2000) = v2 at b2 ⊢
    have kk3 : ule (uad v2 (1, 2000)) (1000, 2000000) = True := (b2.ad).le (by omega) (by omega)
    have sh3 := s2.sh
    simp (disch := first | omega | rfl) only [e_182_216, e_182_217, e_182_218, e_182_221, e_182_224, e_182_227, e_182_228, e_182_231, e_182_232, e_182_235, e_182_237, e_182_240, e_182_241, e_182_242, e_182_244, e_182_245, e_182_248, e_182_251, e_182_254, e_182_256, e_182_259, e_182_260, e_182_261, e_182_262, e_182_264, e_182_265, e_182_268, e_182_269, e_182_272, e_182_274, e_182_277, e_182_278, e_182_279, e_182_281, e_182_282, e_182_285, e_182_288, e_182_290, e_182_293, e_182_294, e_182_295, e_182_297, e_182_298, e_182_301, e_182_304, e_182_306, e_182_309, e_182_312, e_182_313, e_182_316, ge1, ule_t, true_or, or_true, nI_add, nI_mul, nI_sub, nI_clamp, nI_lt_t, nI_lt_f, nI_le_t, nI_le_f, nI_eq_t, nI_eq_f, vp_nI, tI, fI, not_true, not_false_iff, true_and, and_true, Classical.not_not, mS_uI, mS_uA, mS_uJ, mS_uR, mS_uX, mR_uI, mR_uA, mR_uJ, mR_uX, mX_uI, mX_uA, mX_uJ, mX_uR, mI_s, mI_n, mI_A, mI_An, mI_uJ, mI_uR, mI_uX, mJ_uI, mJ_uA, mJ_uR, mJ_uX, onR_s, kC_v, kC_n, kC_t, kk3, sh3]
    refine L_str s2 (((hW.2.2 31 (by omega)).fr (h2.le (by omega))).up (by omega) (Nat.le_refl _)) (by simp only [List.length_append, dgs_len, List.length_nil, tl24, tl25, tl26, tl27, tl28, tl29, tl30, tl31, tl32, nml, List.length_cons]; omega) (fun n3 g3 s3 => ?_)
    have h3 := h2.trans g3
    rw [kC_v]
    have b3 : ub (cg n2 n3 v2 (1, 2000)) (27 * q + 4) (45000 * q + 4020) := (b2.ch).mono (by omega) (by omega)
    generalize cg n2 n3 v2 (1, 2000) = v3 at b3 ⊢
    have x4_0 := fun (d : Nat) (Q : Po) => w_179 (d := d) (Q := Q) (t := t) (k := k) (w := 0) (hW.fr h3 (by omega)).1 hL (by omega) (by omega) (by omega)
    have x4_1 := cv0
    have kk4 : ule (uad v3 (9, 12024)) (1000, 2000000) = True := (b3.ad).le (by omega) (by omega)
    have kz4 : ule v3 (1000, 2000000) = True := b3.le (by omega) (by omega)
    simp (disch := first | omega | rfl) only [e_182_216, e_182_217, e_182_218, e_182_221, e_182_224, e_182_227, e_182_228, e_182_231, e_182_232, e_182_235, e_182_237, e_182_240, e_182_241, e_182_242, e_182_244, e_182_245, e_182_248, e_182_251, e_182_254, e_182_256, e_182_259, e_182_260, e_182_261, e_182_262, e_182_264, e_182_265, e_182_268, e_182_269, e_182_272, e_182_274, e_182_277, e_182_278, e_182_279, e_182_281, e_182_282, e_182_285, e_182_288, e_182_290, e_182_293, e_182_294, e_182_295, e_182_297, e_182_298, e_182_301, e_182_304, e_182_306, e_182_309, e_182_312, e_182_313, e_182_316, ge1, ule_t, true_or, or_true, nI_add, nI_mul, nI_sub, nI_clamp, nI_lt_t, nI_lt_f, nI_le_t, nI_le_f, nI_eq_t, nI_eq_f, vp_nI, tI, fI, not_true, not_false_iff, true_and, and_true, Classical.not_not, mS_uI, mS_uA, mS_uJ, mS_uR, mS_uX, mR_uI, mR_uA, mR_uJ, mR_uX, mX_uI, mX_uA, mX_uJ, mX_uR, mI_s, mI_n, mI_A, mI_An, mI_uJ, mI_uR, mI_uX, mJ_uI, mJ_uA, mJ_uR, mJ_uX, onR_s, kC_v, kC_n, kC_t, kk4, kz4, x4_0, x4_1]
    have lw4 := s3.lw
    refine w_181 (hW.fr h3 (by omega)) (by omega) (by omega) (fun n4 p4 g4 t4 => ?_)
    rw [kC_v]
    have b4 : ub (cg n3 n4 v3 (9, 12024)) (27 * q + 13) (45000 * q + 16044) := (b3.ch).mono (by omega) (by omega)
    generalize cg n3 n4 v3 (9, 12024) = v4 at b4 ⊢
    have s4 := s3.fr g4
    have kk5 : ule (uad v4 (1, 2000)) (1000, 2000000) = True := (b4.ad).le (by omega) (by omega)
    have sh5 := s4.sh
    simp (disch := first | omega | rfl) only [e_182_216, e_182_217, e_182_218, e_182_221, e_182_224, e_182_227, e_182_228, e_182_231, e_182_232, e_182_235, e_182_237, e_182_240, e_182_241, e_182_242, e_182_244, e_182_245, e_182_248, e_182_251, e_182_254, e_182_256, e_182_259, e_182_260, e_182_261, e_182_262, e_182_264, e_182_265, e_182_268, e_182_269, e_182_272, e_182_274, e_182_277, e_182_278, e_182_279, e_182_281, e_182_282, e_182_285, e_182_288, e_182_290, e_182_293, e_182_294, e_182_295, e_182_297, e_182_298, e_182_301, e_182_304, e_182_306, e_182_309, e_182_312, e_182_313, e_182_316, ge1, ule_t, true_or, or_true, nI_add, nI_mul, nI_sub, nI_clamp, nI_lt_t, nI_lt_f, nI_le_t, nI_le_f, nI_eq_t, nI_eq_f, vp_nI, tI, fI, not_true, not_false_iff, true_and, and_true, Classical.not_not, mS_uI, mS_uA, mS_uJ, mS_uR, mS_uX, mR_uI, mR_uA, mR_uJ, mR_uX, mX_uI, mX_uA, mX_uJ, mX_uR, mI_s, mI_n, mI_A, mI_An, mI_uJ, mI_uR, mI_uX, mJ_uI, mJ_uA, mJ_uR, mJ_uX, onR_s, kC_v, kC_n, kC_t, kk5, sh5]
    refine L_strN s3 g4 t4 (by simp only [List.length_append, dgs_len, List.length_nil, tl24, tl25, tl26, tl27, tl28, tl29, tl30, tl31, tl32, nml, List.length_cons]; omega) (fun n5 g5 s5 => ?_)
    have h5 := (h3.trans (g4.le lw4.1)).trans g5
    rw [kC_v]
    have b5 : ub (cg n4 n5 v4 (1, 2000)) (27 * q + 14) (45000 * q + 18044) := (b4.ch).mono (by omega) (by omega)
    generalize cg n4 n5 v4 (1, 2000) = v5 at b5 ⊢
    have kk6 : ule (uad v5 (1, 2000)) (1000, 2000000) = True := (b5.ad).le (by omega) (by omega)
    have sh6 := s5.sh
    simp (disch := first | omega | rfl) only [e_182_216, e_182_217, e_182_218, e_182_221, e_182_224, e_182_227, e_182_228, e_182_231, e_182_232, e_182_235, e_182_237, e_182_240, e_182_241, e_182_242, e_182_244, e_182_245, e_182_248, e_182_251, e_182_254, e_182_256, e_182_259, e_182_260, e_182_261, e_182_262, e_182_264, e_182_265, e_182_268, e_182_269, e_182_272, e_182_274, e_182_277, e_182_278, e_182_279, e_182_281, e_182_282, e_182_285, e_182_288, e_182_290, e_182_293, e_182_294, e_182_295, e_182_297, e_182_298, e_182_301, e_182_304, e_182_306, e_182_309, e_182_312, e_182_313, e_182_316, ge1, ule_t, true_or, or_true, nI_add, nI_mul, nI_sub, nI_clamp, nI_lt_t, nI_lt_f, nI_le_t, nI_le_f, nI_eq_t, nI_eq_f, vp_nI, tI, fI, not_true, not_false_iff, true_and, and_true, Classical.not_not, mS_uI, mS_uA, mS_uJ, mS_uR, mS_uX, mR_uI, mR_uA, mR_uJ, mR_uX, mX_uI, mX_uA, mX_uJ, mX_uR, mI_s, mI_n, mI_A, mI_An, mI_uJ, mI_uR, mI_uX, mJ_uI, mJ_uA, mJ_uR, mJ_uX, onR_s, kC_v, kC_n, kC_t, kk6, sh6]
    refine L_str s5 (((hW.2.2 27 (by omega)).fr (h5.le (by omega))).up (by omega) (Nat.le_refl _)) (by simp only [List.length_append, dgs_len, List.length_nil, tl24, tl25, tl26, tl27, tl28, tl29, tl30, tl31, tl32, nml, List.length_cons]; omega) (fun n6 g6 s6 => ?_)
    have h6 := h5.trans g6
    rw [kC_v]
    have b6 : ub (cg n5 n6 v5 (1, 2000)) (27 * q + 15) (45000 * q + 20044) := (b5.ch).mono (by omega) (by omega)
    generalize cg n5 n6 v5 (1, 2000) = v6 at b6 ⊢
    have kk7 : ule (uad v6 (1, 2000)) (1000, 2000000) = True := (b6.ad).le (by omega) (by omega)
    have sh7 := s6.sh
    have x7_0 := fun (d : Nat) (Q : Po) => w_179 (d := d) (Q := Q) (t := t) (k := k) (w := 1) (hW.fr h6 (by omega)).1 hL (by omega) (by omega) (by omega)
    have x7_1 := cv1
    have x7_2 := sq1
    have x7_3 := (hq6.gz h6 (by omega)).1
    have x7_4 := (hq6.gz h6 (by omega)).2.2 _ hs6
    have kz7 : ule v6 (1000, 2000000) = True := b6.le (by omega) (by omega)
    simp (disch := first | omega | rfl) only [e_182_216, e_182_217, e_182_218, e_182_221, e_182_224, e_182_227, e_182_228, e_182_231, e_182_232, e_182_235, e_182_237, e_182_240, e_182_241, e_182_242, e_182_244, e_182_245, e_182_248, e_182_251, e_182_254, e_182_256, e_182_259, e_182_260, e_182_261, e_182_262, e_182_264, e_182_265, e_182_268, e_182_269, e_182_272, e_182_274, e_182_277, e_182_278, e_182_279, e_182_281, e_182_282, e_182_285, e_182_288, e_182_290, e_182_293, e_182_294, e_182_295, e_182_297, e_182_298, e_182_301, e_182_304, e_182_306, e_182_309, e_182_312, e_182_313, e_182_316, ge1, ule_t, true_or, or_true, nI_add, nI_mul, nI_sub, nI_clamp, nI_lt_t, nI_lt_f, nI_le_t, nI_le_f, nI_eq_t, nI_eq_f, vp_nI, tI, fI, not_true, not_false_iff, true_and, and_true, Classical.not_not, mS_uI, mS_uA, mS_uJ, mS_uR, mS_uX, mR_uI, mR_uA, mR_uJ, mR_uX, mX_uI, mX_uA, mX_uJ, mX_uR, mI_s, mI_n, mI_A, mI_An, mI_uJ, mI_uR, mI_uX, mJ_uI, mJ_uA, mJ_uR, mJ_uX, onR_s, kC_v, kC_n, kC_t, kk7, sh7, x7_0, x7_1, x7_2, x7_3, x7_4, kz7]
    refine L_str s6 (((hW.2.2 (18 + cmS L xs t k) (by omega)).fr (h6.le (by omega))).up (by omega) (Nat.le_refl _)) (by simp only [List.length_append, dgs_len, List.length_nil, tl24, tl25, tl26, tl27, tl28, tl29, tl30, tl31, tl32, nml, List.length_cons]; omega) (fun n7 g7 s7 => ?_)
    have h7 := h6.trans g7
    rw [kC_v]
    have b7 : ub (cg n6 n7 v6 (1, 2000)) (27 * q + 16) (45000 * q + 22044) := (b6.ch).mono (by omega) (by omega)
    generalize cg n6 n7 v6 (1, 2000) = v7 at b7 ⊢
    have kk8 : ule (uad v7 (1, 2000)) (1000, 2000000) = True := (b7.ad).le (by omega) (by omega)
    have sh8 := s7.sh
    simp (disch := first | omega | rfl) only [e_182_216, e_182_217, e_182_218, e_182_221, e_182_224, e_182_227, e_182_228, e_182_231, e_182_232, e_182_235, e_182_237, e_182_240, e_182_241, e_182_242, e_182_244, e_182_245, e_182_248, e_182_251, e_182_254, e_182_256, e_182_259, e_182_260, e_182_261, e_182_262, e_182_264, e_182_265, e_182_268, e_182_269, e_182_272, e_182_274, e_182_277, e_182_278, e_182_279, e_182_281, e_182_282, e_182_285, e_182_288, e_182_290, e_182_293, e_182_294, e_182_295, e_182_297, e_182_298, e_182_301, e_182_304, e_182_306, e_182_309, e_182_312, e_182_313, e_182_316, ge1, ule_t, true_or, or_true, nI_add, nI_mul, nI_sub, nI_clamp, nI_lt_t, nI_lt_f, nI_le_t, nI_le_f, nI_eq_t, nI_eq_f, vp_nI, tI, fI, not_true, not_false_iff, true_and, and_true, Classical.not_not, mS_uI, mS_uA, mS_uJ, mS_uR, mS_uX, mR_uI, mR_uA, mR_uJ, mR_uX, mX_uI, mX_uA, mX_uJ, mX_uR, mI_s, mI_n, mI_A, mI_An, mI_uJ, mI_uR, mI_uX, mJ_uI, mJ_uA, mJ_uR, mJ_uX, onR_s, kC_v, kC_n, kC_t, kk8, sh8]
    refine L_str s7 (((hW.2.2 27 (by omega)).fr (h7.le (by omega))).up (by omega) (Nat.le_refl _)) (by simp only [List.length_append, dgs_len, List.length_nil, tl24, tl25, tl26, tl27, tl28, tl29, tl30, tl31, tl32, nml, List.length_cons]; omega) (fun n8 g8 s8 => ?_)
    have h8 := h7.trans g8
    rw [kC_v]
    have b8 : ub (cg n7 n8 v7 (1, 2000)) (27 * q + 17) (45000 * q + 24044) := (b7.ch).mono (by omega) (by omega)
    generalize cg n7 n8 v7 (1, 2000) = v8 at b8 ⊢
    have x9_0 := fun (d : Nat) (Q : Po) => w_179 (d := d) (Q := Q) (t := t) (k := k) (w := 2) (hW.fr h8 (by omega)).1 hL (by omega) (by omega) (by omega)
    have x9_1 := cv2
    have kk9 : ule (uad v8 (1, 2000)) (1000, 2000000) = True := (b8.ad).le (by omega) (by omega)
    have sh9 := s8.sh
    have kz9 : ule v8 (1000, 2000000) = True := b8.le (by omega) (by omega)
    simp (disch := first | omega | rfl) only [e_182_216, e_182_217, e_182_218, e_182_221, e_182_224, e_182_227, e_182_228, e_182_231, e_182_232, e_182_235, e_182_237, e_182_240, e_182_241, e_182_242, e_182_244, e_182_245, e_182_248, e_182_251, e_182_254, e_182_256, e_182_259, e_182_260, e_182_261, e_182_262, e_182_264, e_182_265, e_182_268, e_182_269, e_182_272, e_182_274, e_182_277, e_182_278, e_182_279, e_182_281, e_182_282, e_182_285, e_182_288, e_182_290, e_182_293, e_182_294, e_182_295, e_182_297, e_182_298, e_182_301, e_182_304, e_182_306, e_182_309, e_182_312, e_182_313, e_182_316, ge1, ule_t, true_or, or_true, nI_add, nI_mul, nI_sub, nI_clamp, nI_lt_t, nI_lt_f, nI_le_t, nI_le_f, nI_eq_t, nI_eq_f, vp_nI, tI, fI, not_true, not_false_iff, true_and, and_true, Classical.not_not, mS_uI, mS_uA, mS_uJ, mS_uR, mS_uX, mR_uI, mR_uA, mR_uJ, mR_uX, mX_uI, mX_uA, mX_uJ, mX_uR, mI_s, mI_n, mI_A, mI_An, mI_uJ, mI_uR, mI_uX, mJ_uI, mJ_uA, mJ_uR, mJ_uX, onR_s, kC_v, kC_n, kC_t, kk9, sh9, kz9, x9_0, x9_1]
    refine L_num s8 (hW.fr h8 (by omega)).2.1 (by omega) (by simp only [List.length_append, dgs_len, List.length_nil, tl24, tl25, tl26, tl27, tl28, tl29, tl30, tl31, tl32, nml, List.length_cons]; omega) (fun n9 g9 s9 => ?_)
    have h9 := h8.trans g9
    rw [kC_v]
    have b9 : ub (cg n8 n9 v8 (1, 2000)) (27 * q + 18) (45000 * q + 26044) := (b8.ch).mono (by omega) (by omega)
    generalize cg n8 n9 v8 (1, 2000) = v9 at b9 ⊢
    have kk10 : ule (uad v9 (1, 2000)) (1000, 2000000) = True := (b9.ad).le (by omega) (by omega)
    have sh10 := s9.sh
    simp (disch := first | omega | rfl) only [e_182_216, e_182_217, e_182_218, e_182_221, e_182_224, e_182_227, e_182_228, e_182_231, e_182_232, e_182_235, e_182_237, e_182_240, e_182_241, e_182_242, e_182_244, e_182_245, e_182_248, e_182_251, e_182_254, e_182_256, e_182_259, e_182_260, e_182_261, e_182_262, e_182_264, e_182_265, e_182_268, e_182_269, e_182_272, e_182_274, e_182_277, e_182_278, e_182_279, e_182_281, e_182_282, e_182_285, e_182_288, e_182_290, e_182_293, e_182_294, e_182_295, e_182_297, e_182_298, e_182_301, e_182_304, e_182_306, e_182_309, e_182_312, e_182_313, e_182_316, ge1, ule_t, true_or, or_true, nI_add, nI_mul, nI_sub, nI_clamp, nI_lt_t, nI_lt_f, nI_le_t, nI_le_f, nI_eq_t, nI_eq_f, vp_nI, tI, fI, not_true, not_false_iff, true_and, and_true, Classical.not_not, mS_uI, mS_uA, mS_uJ, mS_uR, mS_uX, mR_uI, mR_uA, mR_uJ, mR_uX, mX_uI, mX_uA, mX_uJ, mX_uR, mI_s, mI_n, mI_A, mI_An, mI_uJ, mI_uR, mI_uX, mJ_uI, mJ_uA, mJ_uR, mJ_uX, onR_s, kC_v, kC_n, kC_t, kk10, sh10]
    refine L_str s9 (((hW.2.2 27 (by omega)).fr (h9.le (by omega))).up (by omega) (Nat.le_refl _)) (by simp only [List.length_append, dgs_len, List.length_nil, tl24, tl25, tl26, tl27, tl28, tl29, tl30, tl31, tl32, nml, List.length_cons]; omega) (fun n10 g10 s10 => ?_)
    have h10 := h9.trans g10
    rw [kC_v]
    have b10 : ub (cg n9 n10 v9 (1, 2000)) (27 * q + 19) (45000 * q + 28044) := (b9.ch).mono (by omega) (by omega)
    generalize cg n9 n10 v9 (1, 2000) = v10 at b10 ⊢
    have x11_0 := fun (d : Nat) (Q : Po) => w_179 (d := d) (Q := Q) (t := t) (k := k) (w := 3) (hW.fr h10 (by omega)).1 hL (by omega) (by omega) (by omega)
    have x11_1 := cv3
    have kk11 : ule (uad v10 (1, 2000)) (1000, 2000000) = True := (b10.ad).le (by omega) (by omega)
    have sh11 := s10.sh
    have kz11 : ule v10 (1000, 2000000) = True := b10.le (by omega) (by omega)
    simp (disch := first | omega | rfl) only [e_182_216, e_182_217, e_182_218, e_182_221, e_182_224, e_182_227, e_182_228, e_182_231, e_182_232, e_182_235, e_182_237, e_182_240, e_182_241, e_182_242, e_182_244, e_182_245, e_182_248, e_182_251, e_182_254, e_182_256, e_182_259, e_182_260, e_182_261, e_182_262, e_182_264, e_182_265, e_182_268, e_182_269, e_182_272, e_182_274, e_182_277, e_182_278, e_182_279, e_182_281, e_182_282, e_182_285, e_182_288, e_182_290, e_182_293, e_182_294, e_182_295, e_182_297, e_182_298, e_182_301, e_182_304, e_182_306, e_182_309, e_182_312, e_182_313, e_182_316, ge1, ule_t, true_or, or_true, nI_add, nI_mul, nI_sub, nI_clamp, nI_lt_t, nI_lt_f, nI_le_t, nI_le_f, nI_eq_t, nI_eq_f, vp_nI, tI, fI, not_true, not_false_iff, true_and, and_true, Classical.not_not, mS_uI, mS_uA, mS_uJ, mS_uR, mS_uX, mR_uI, mR_uA, mR_uJ, mR_uX, mX_uI, mX_uA, mX_uJ, mX_uR, mI_s, mI_n, mI_A, mI_An, mI_uJ, mI_uR, mI_uX, mJ_uI, mJ_uA, mJ_uR, mJ_uX, onR_s, kC_v, kC_n, kC_t, kk11, sh11, kz11, x11_0, x11_1]
    refine L_num s10 (hW.fr h10 (by omega)).2.1 (by omega) (by simp only [List.length_append, dgs_len, List.length_nil, tl24, tl25, tl26, tl27, tl28, tl29, tl30, tl31, tl32, nml, List.length_cons]; omega) (fun n11 g11 s11 => ?_)
    have h11 := h10.trans g11
    rw [kC_v]
    have b11 : ub (cg n10 n11 v10 (1, 2000)) (27 * q + 20) (45000 * q + 30044) := (b10.ch).mono (by omega) (by omega)
    generalize cg n10 n11 v10 (1, 2000) = v11 at b11 ⊢
    have kk12 : ule (uad v11 (1, 2000)) (1000, 2000000) = True := (b11.ad).le (by omega) (by omega)
    have sh12 := s11.sh
    simp (disch := first | omega | rfl) only [e_182_216, e_182_217, e_182_218, e_182_221, e_182_224, e_182_227, e_182_228, e_182_231, e_182_232, e_182_235, e_182_237, e_182_240, e_182_241, e_182_242, e_182_244, e_182_245, e_182_248, e_182_251, e_182_254, e_182_256, e_182_259, e_182_260, e_182_261, e_182_262, e_182_264, e_182_265, e_182_268, e_182_269, e_182_272, e_182_274, e_182_277, e_182_278, e_182_279, e_182_281, e_182_282, e_182_285, e_182_288, e_182_290, e_182_293, e_182_294, e_182_295, e_182_297, e_182_298, e_182_301, e_182_304, e_182_306, e_182_309, e_182_312, e_182_313, e_182_316, ge1, ule_t, true_or, or_true, nI_add, nI_mul, nI_sub, nI_clamp, nI_lt_t, nI_lt_f, nI_le_t, nI_le_f, nI_eq_t, nI_eq_f, vp_nI, tI, fI, not_true, not_false_iff, true_and, and_true, Classical.not_not, mS_uI, mS_uA, mS_uJ, mS_uR, mS_uX, mR_uI, mR_uA, mR_uJ, mR_uX, mX_uI, mX_uA, mX_uJ, mX_uR, mI_s, mI_n, mI_A, mI_An, mI_uJ, mI_uR, mI_uX, mJ_uI, mJ_uA, mJ_uR, mJ_uX, onR_s, kC_v, kC_n, kC_t, kk12, sh12]
    refine L_str s11 (((hW.2.2 28 (by omega)).fr (h11.le (by omega))).up (by omega) (Nat.le_refl _)) (by simp only [List.length_append, dgs_len, List.length_nil, tl24, tl25, tl26, tl27, tl28, tl29, tl30, tl31, tl32, nml, List.length_cons]; omega) (fun n12 g12 s12 => ?_)
    have h12 := h11.trans g12
    rw [kC_v]
    have b12 : ub (cg n11 n12 v11 (1, 2000)) (27 * q + 21) (45000 * q + 32044) := (b11.ch).mono (by omega) (by omega)
    generalize cg n11 n12 v11 (1, 2000) = v12 at b12 ⊢
    have kk13 : ule (uad v12 (5, 8004)) (1000, 2000000) = True := (b12.ad).le (by omega) (by omega)
    have sh13 := s12.sh
    simp (disch := first | omega | rfl) only [e_182_216, e_182_217, e_182_218, e_182_221, e_182_224, e_182_227, e_182_228, e_182_231, e_182_232, e_182_235, e_182_237, e_182_240, e_182_241, e_182_242, e_182_244, e_182_245, e_182_248, e_182_251, e_182_254, e_182_256, e_182_259, e_182_260, e_182_261, e_182_262, e_182_264, e_182_265, e_182_268, e_182_269, e_182_272, e_182_274, e_182_277, e_182_278, e_182_279, e_182_281, e_182_282, e_182_285, e_182_288, e_182_290, e_182_293, e_182_294, e_182_295, e_182_297, e_182_298, e_182_301, e_182_304, e_182_306, e_182_309, e_182_312, e_182_313, e_182_316, ge1, ule_t, true_or, or_true, nI_add, nI_mul, nI_sub, nI_clamp, nI_lt_t, nI_lt_f, nI_le_t, nI_le_f, nI_eq_t, nI_eq_f, vp_nI, tI, fI, not_true, not_false_iff, true_and, and_true, Classical.not_not, mS_uI, mS_uA, mS_uJ, mS_uR, mS_uX, mR_uI, mR_uA, mR_uJ, mR_uX, mX_uI, mX_uA, mX_uJ, mX_uR, mI_s, mI_n, mI_A, mI_An, mI_uJ, mI_uR, mI_uX, mJ_uI, mJ_uA, mJ_uR, mJ_uX, onR_s, kC_v, kC_n, kC_t, kk13, sh13]
    have lw13 := s12.lw
    refine L_toS s12 (fun n13 g13 g0 gx t13 => ?_)
    have hz := h12.trans g13
    rw [kC_v]
    have bz : ub (cg n12 n13 v12 (5, 8004)) (27 * q + 26) (45000 * q + 40048) := (b12.ch).mono (by omega) (by omega)
    generalize cg n12 n13 v12 (5, 8004) = vz at bz ⊢
    have tz := t13
    have kf : ule vz (1000, 2000000) = True := bz.le (by omega) (by omega)
    simp (disch := first | omega | rfl) only [e_182_216, e_182_217, e_182_218, e_182_221, e_182_224, e_182_227, e_182_228, e_182_231, e_182_232, e_182_235, e_182_237, e_182_240, e_182_241, e_182_242, e_182_244, e_182_245, e_182_248, e_182_251, e_182_254, e_182_256, e_182_259, e_182_260, e_182_261, e_182_262, e_182_264, e_182_265, e_182_268, e_182_269, e_182_272, e_182_274, e_182_277, e_182_278, e_182_279, e_182_281, e_182_282, e_182_285, e_182_288, e_182_290, e_182_293, e_182_294, e_182_295, e_182_297, e_182_298, e_182_301, e_182_304, e_182_306, e_182_309, e_182_312, e_182_313, e_182_316, ge1, ule_t, true_or, or_true, nI_add, nI_mul, nI_sub, nI_clamp, nI_lt_t, nI_lt_f, nI_le_t, nI_le_f, nI_eq_t, nI_eq_f, vp_nI, tI, fI, not_true, not_false_iff, true_and, and_true, Classical.not_not, mS_uI, mS_uA, mS_uJ, mS_uR, mS_uX, mR_uI, mR_uA, mR_uJ, mR_uX, mX_uI, mX_uA, mX_uJ, mX_uR, mI_s, mI_n, mI_A, mI_An, mI_uJ, mI_uR, mI_uX, mJ_uI, mJ_uA, mJ_uR, mJ_uX, onR_s, kC_v, kC_n, kC_t, kf]
    have hX2 := hz.1
    have eq9 : q + 1 + n = q + (n + 1) := by omega
    have el : [] ++ l ++ txB 31 ++ nmW (cmA L xs t k) ++ txB 27 ++ txB (18 + cmS L xs t k) ++ txB 27 ++ dgs (cmC L xs t k) ++ txB 27 ++ dgs (cmO L xs t k) ++ txB 28 = l ++ stDo (cmA L xs t k) (cmS L xs t k) (cmC L xs t k) (cmO L xs t k) := by
      rw [t31e, t27e, t28e, t18e hs6]; unfold stDo; simp only [List.nil_append, List.append_assoc, List.cons_append]
    rw [el] at tz
    refine ih (k + 1) _ _ _ _ (nn + 1) _ (q + 1) (by omega) (hW.fr hz hX) (by omega) (hq6.gz hz (by omega)) (by omega) (by omega) (tz.up (Nat.le_refl _) (by omega)) ?_ ⟨by have := bz.1; omega, by have := bz.2; omega⟩ (by omega) (hR.com (by omega)) (fun μ' u' ta' l' n' r' h1 h2 h3 h4 h5 => hq _ _ _ _ _ _ (hz.trans (h1.le hX2)) h2 h3 (eq9 ▸ h4) h5)
    unfold stDo; simp only [List.length_append, List.length_cons, dgs_len, List.length_nil, t2l, show (nmW (cmA L xs t k)).length = 2 from rfl]; omega
theorem l_182d (hL : L ≤ 260) {tn : Nat → Int32} : ∀ n t (μ : Mu) (u : Nat × Nat) (ta : Nat) (l : List Nat) (nn : Nat) (r : Nat → Int32) (q : Nat) (l4 : Option Value), t + n = turN L xs → LwW L xs μ → 1000 ≤ mX μ → SqS μ sq → sq < mX μ → z0 ≤ mX μ → StB μ z0 (mX μ) ta l → l.length ≤ 230 + 90 * t → ub u (27 * q) (45000 * q) → q ≤ 16 + 5 * t → TxR L xs l nn r tn (memN L xs) t 0 → (∀ μ' ta' l' n' r', FrG (mX μ) μ μ' → StB μ' z0 (mX μ') ta' l' → l'.length ≤ 600 → TxR L xs l' n' r' tn (memN L xs) (turN L xs) 0 → Q (some (some (.ref ta'))) μ') → EM 182 (d + 8) 203 [some (.ref 300), some (.ref sq), some (.ref ta), some (.int (nI t)), l4] [] μ u Q := by
  intro n
  have hm5 := memN_in (L := L) (xs := xs)
  have ht5 : turN L xs < 5 := ofM_lt (by omega)
  induction n with
  | zero =>
    intro t μ u ta l nn r q l4 hin hW hX hq6 hqx hz0 hT hl hu hq10 hR hq
    obtain rfl : t = turN L xs := by omega
    have h177 := fun (d : Nat) (Q : Po) => w_177 (d := d) (Q := Q) hW.1 hL
    have ku : ule u (1000, 2000000) = True := hu.le (by omega) (by omega)
    rw [e_182_203]
    simp (disch := first | omega | rfl) only [e_182_204, e_182_205, e_182_208, e_182_211, e_182_212, e_182_345, e_182_346, ge1, ule_t, true_or, or_true, nI_add, nI_mul, nI_sub, nI_clamp, nI_lt_t, nI_lt_f, nI_le_t, nI_le_f, nI_eq_t, nI_eq_f, vp_nI, tI, fI, not_true, not_false_iff, true_and, and_true, Classical.not_not, mS_uI, mS_uA, mS_uJ, mS_uR, mS_uX, mR_uI, mR_uA, mR_uJ, mR_uX, mX_uI, mX_uA, mX_uJ, mX_uR, mI_s, mI_n, mI_A, mI_An, mI_uJ, mI_uR, mI_uX, mJ_uI, mJ_uA, mJ_uR, mJ_uX, onR_s, kC_v, kC_n, kC_t, h177, ku]
    exact hq μ ta l nn r FrG.refl hT (by omega) hR
  | succ n ih =>
    intro t μ u ta l nn r q l4 hin hW hX hq6 hqx hz0 hT hl hu hq10 hR hq
    have h177 := fun (d : Nat) (Q : Po) => w_177 (d := d) (Q := Q) hW.1 hL
    have ku : ule u (1000, 2000000) = True := hu.le (by omega) (by omega)
    have hmf : (turN L xs ≤ t) = False := eq_false (by omega)
    have hc5 : comN L xs t < 5 := ofM_lt (by omega)
    rw [e_182_203]
    simp (disch := first | omega | rfl) only [e_182_204, e_182_205, e_182_208, e_182_211, e_182_212, ge1, ule_t, true_or, or_true, nI_add, nI_mul, nI_sub, nI_clamp, nI_lt_t, nI_lt_f, nI_le_t, nI_le_f, nI_eq_t, nI_eq_f, vp_nI, tI, fI, not_true, not_false_iff, true_and, and_true, Classical.not_not, mS_uI, mS_uA, mS_uJ, mS_uR, mS_uX, mR_uI, mR_uA, mR_uJ, mR_uX, mX_uI, mX_uA, mX_uJ, mX_uR, mI_s, mI_n, mI_A, mI_An, mI_uJ, mI_uR, mI_uX, mJ_uI, mJ_uA, mJ_uR, mJ_uX, onR_s, kC_v, kC_n, kC_t, h177, ku, hmf]
    refine l_182c hL (by omega) (comN L xs t) 0 μ u ta l nn r q (by omega) hW hX hq6 hqx hz0 hT (by omega) hu (by omega) hR (fun μc uc tc lc nc rc gc Tc Lc bu Rc => ?_)
    have buc : ub uc (27 * (q + 4)) (45000 * (q + 4)) := bu.mono (by omega) (by omega)
    have hWc := hW.fr gc hX
    have hX9 := gc.1
    have hXc : 1000 ≤ mX μc := by omega
    have kn1 : ule (uad uc (1, 4)) (1000, 2000000) = True := (buc.ad).le (by omega) (by omega)
    have kn2 : ule (uad (uad uc (1, 4)) (1, 16)) (1000, 2000000) = True := (buc.ad.ad).le (by omega) (by omega)
    simp (disch := first | omega | rfl) only [e_182_319, e_182_322, e_182_323, e_182_326, e_182_327, e_182_330, e_182_332, e_182_335, e_182_338, e_182_339, e_182_342, ge1, ule_t, true_or, or_true, nI_add, nI_mul, nI_sub, nI_clamp, nI_lt_t, nI_lt_f, nI_le_t, nI_le_f, nI_eq_t, nI_eq_f, vp_nI, tI, fI, not_true, not_false_iff, true_and, and_true, Classical.not_not, mS_uI, mS_uA, mS_uJ, mS_uR, mS_uX, mR_uI, mR_uA, mR_uJ, mR_uX, mX_uI, mX_uA, mX_uJ, mX_uR, mI_s, mI_n, mI_A, mI_An, mI_uJ, mI_uR, mI_uX, mJ_uI, mJ_uA, mJ_uR, mJ_uX, onR_s, kC_v, kC_n, kC_t, kn1, kn2]
    refine L_new (by omega) (fun n1 g1 s1 => ?_)
    rw [kC_n]
    have b1 : ub (cg (uN μc 1 4) n1 (uad uc (1, 4)) (1, 16)) (27 * (q + 4) + 2) (45000 * (q + 4) + 20) := (buc.ad.ch).mono (by omega) (by omega)
    generalize cg (uN μc 1 4) n1 (uad uc (1, 4)) (1, 16) = v1 at b1 ⊢
    have kk2 : ule (uad v1 (1, 2000)) (1000, 2000000) = True := (b1.ad).le (by omega) (by omega)
    have sh2 := s1.sh
    simp (disch := first | omega | rfl) only [e_182_319, e_182_322, e_182_323, e_182_326, e_182_327, e_182_330, e_182_332, e_182_335, e_182_338, e_182_339, e_182_342, ge1, ule_t, true_or, or_true, nI_add, nI_mul, nI_sub, nI_clamp, nI_lt_t, nI_lt_f, nI_le_t, nI_le_f, nI_eq_t, nI_eq_f, vp_nI, tI, fI, not_true, not_false_iff, true_and, and_true, Classical.not_not, mS_uI, mS_uA, mS_uJ, mS_uR, mS_uX, mR_uI, mR_uA, mR_uJ, mR_uX, mX_uI, mX_uA, mX_uJ, mX_uR, mI_s, mI_n, mI_A, mI_An, mI_uJ, mI_uR, mI_uX, mJ_uI, mJ_uA, mJ_uR, mJ_uX, onR_s, kC_v, kC_n, kC_t, kk2, sh2]
    refine L_str s1 ((Tc.up (Nat.le_refl _) (Nat.zero_le _)).fr g1) (by simp only [List.length_append, dgs_len, List.length_nil, tl24, tl25, tl26, tl27, tl28, tl29, tl30, tl31, tl32, nml, List.length_cons]; omega) (fun n2 g2 s2 => ?_)
    have h2 := g1.trans g2
    rw [kC_v]
    have b2 : ub (cg n1 n2 v1 (1, 2000)) (27 * (q + 4) + 3) (45000 * (q + 4) + 2020) := (b1.ch).mono (by omega) (by omega)
    generalize cg n1 n2 v1 (1, 2000) = v2 at b2 ⊢
    have kk3 : ule (uad v2 (1, 2000)) (1000, 2000000) = True := (b2.ad).le (by omega) (by omega)
    have sh3 := s2.sh
    simp (disch := first | omega | rfl) only [e_182_319, e_182_322, e_182_323, e_182_326, e_182_327, e_182_330, e_182_332, e_182_335, e_182_338, e_182_339, e_182_342, ge1, ule_t, true_or, or_true, nI_add, nI_mul, nI_sub, nI_clamp, nI_lt_t, nI_lt_f, nI_le_t, nI_le_f, nI_eq_t, nI_eq_f, vp_nI, tI, fI, not_true, not_false_iff, true_and, and_true, Classical.not_not, mS_uI, mS_uA, mS_uJ, mS_uR, mS_uX, mR_uI, mR_uA, mR_uJ, mR_uX, mX_uI, mX_uA, mX_uJ, mX_uR, mI_s, mI_n, mI_A, mI_An, mI_uJ, mI_uR, mI_uX, mJ_uI, mJ_uA, mJ_uR, mJ_uX, onR_s, kC_v, kC_n, kC_t, kk3, sh3]
    refine L_str s2 (((hWc.2.2 32 (by omega)).fr (h2.le (by omega))).up (by omega) (Nat.le_refl _)) (by simp only [List.length_append, dgs_len, List.length_nil, tl24, tl25, tl26, tl27, tl28, tl29, tl30, tl31, tl32, nml, List.length_cons]; omega) (fun n3 g3 s3 => ?_)
    have h3 := h2.trans g3
    rw [kC_v]
    have b3 : ub (cg n2 n3 v2 (1, 2000)) (27 * (q + 4) + 4) (45000 * (q + 4) + 4020) := (b2.ch).mono (by omega) (by omega)
    generalize cg n2 n3 v2 (1, 2000) = v3 at b3 ⊢
    have kk4 : ule (uad v3 (5, 8004)) (1000, 2000000) = True := (b3.ad).le (by omega) (by omega)
    have sh4 := s3.sh
    simp (disch := first | omega | rfl) only [e_182_319, e_182_322, e_182_323, e_182_326, e_182_327, e_182_330, e_182_332, e_182_335, e_182_338, e_182_339, e_182_342, ge1, ule_t, true_or, or_true, nI_add, nI_mul, nI_sub, nI_clamp, nI_lt_t, nI_lt_f, nI_le_t, nI_le_f, nI_eq_t, nI_eq_f, vp_nI, tI, fI, not_true, not_false_iff, true_and, and_true, Classical.not_not, mS_uI, mS_uA, mS_uJ, mS_uR, mS_uX, mR_uI, mR_uA, mR_uJ, mR_uX, mX_uI, mX_uA, mX_uJ, mX_uR, mI_s, mI_n, mI_A, mI_An, mI_uJ, mI_uR, mI_uX, mJ_uI, mJ_uA, mJ_uR, mJ_uX, onR_s, kC_v, kC_n, kC_t, kk4, sh4]
    have lw4 := s3.lw
    refine L_toS s3 (fun n4 g4 g0 gx t4 => ?_)
    have hz := h3.trans g4
    rw [kC_v]
    have bz : ub (cg n3 n4 v3 (5, 8004)) (27 * (q + 4) + 9) (45000 * (q + 4) + 12024) := (b3.ch).mono (by omega) (by omega)
    generalize cg n3 n4 v3 (5, 8004) = vz at bz ⊢
    have tz := t4
    have kf : ule vz (1000, 2000000) = True := bz.le (by omega) (by omega)
    simp (disch := first | omega | rfl) only [e_182_319, e_182_322, e_182_323, e_182_326, e_182_327, e_182_330, e_182_332, e_182_335, e_182_338, e_182_339, e_182_342, ge1, ule_t, true_or, or_true, nI_add, nI_mul, nI_sub, nI_clamp, nI_lt_t, nI_lt_f, nI_le_t, nI_le_f, nI_eq_t, nI_eq_f, vp_nI, tI, fI, not_true, not_false_iff, true_and, and_true, Classical.not_not, mS_uI, mS_uA, mS_uJ, mS_uR, mS_uX, mR_uI, mR_uA, mR_uJ, mR_uX, mX_uI, mX_uA, mX_uJ, mX_uR, mI_s, mI_n, mI_A, mI_An, mI_uJ, mI_uR, mI_uX, mJ_uI, mJ_uA, mJ_uR, mJ_uX, onR_s, kC_v, kC_n, kC_t, kf]
    have hX2 := hz.1
    have hX3 := gc.1
    have el : [] ++ lc ++ txB 32 = lc ++ stSeal := by rw [t32e]; rfl
    rw [el] at tz
    refine ih (t + 1) _ _ _ _ _ _ (q + 5) _ (by omega) (hWc.fr hz (by omega)) (by omega) ((hq6.gz gc hqx).gz hz (by omega)) (by omega) (by omega) (tz.up (Nat.le_refl _) (by omega)) ?_ ⟨by have := bz.1; omega, by have := bz.2; omega⟩ (by omega) (Rc.seal (by omega)) (fun μ' ta' l' n' r' h1 h2 h3 h4 => hq _ _ _ _ _ ((gc.trans (hz.le hX3)).trans (h1.le (by omega))) h2 h3 h4)
    rw [List.length_append, show stSeal.length = 5 from rfl]; omega
theorem sts8 : sts L xs 0 8 = 32 :: (dgs (staN L xs 0) ++ (32 :: (dgs (staN L xs 1) ++ (32 :: (dgs (staN L xs 2) ++ (32 :: (dgs (staN L xs 3) ++ (32 :: (dgs (staN L xs 4) ++ (32 :: (dgs (staN L xs 5) ++ (32 :: (dgs (staN L xs 6) ++ (32 :: (dgs (staN L xs 7) ++ []))))))))))))))) := rfl
def stas (L : Nat) (xs : Nat → Int32) : List Nat := [staN L xs 1, staN L xs 2, staN L xs 3, staN L xs 4, staN L xs 5, staN L xs 6, staN L xs 7]
def tx0 (L : Nat) (xs : Nat → Int32) : List Nat := (([] ++ stSet 0 (setN L xs 0)) ++ stSet 1 (setN L xs 1)) ++ stSta (staN L xs 0 :: stas L xs)
theorem tx0_e : [] ++ ([] ++ txB 24 ++ dgs (setN L xs 0) ++ txB 25 ++ dgs (setN L xs 1) ++ txB 26 ++ sts L xs 0 8) ++ txB 28 = tx0 L xs := by
  rw [sts8, t24e, t25e, t26e, t28e]
  unfold tx0 stSet stSta stas
  simp only [stNum, List.nil_append, List.append_assoc, List.cons_append, List.append_nil, Nat.add_zero, Nat.reduceAdd]
theorem AL_up {r : Nat → Int32} : ∀ (cs : List Nat) (n : Nat) (tn : Nat → Int32), (∀ y ∈ cs, y < 10000) → n + cs.length ≤ 16 → AL r tn → AL r (updL tn n cs)
  | [], _, _, _, _, h => h
  | c :: cs, n, tn, hc, hl, h => AL_up cs (n + 1) _ (fun y hy => hc y (List.mem_cons_of_mem _ hy)) (by simp at hl; omega) (h.told (by simp at hl; omega) (hc c List.mem_cons_self))
theorem sta9 (c : Nat) : staN L xs c < 10000 := by unfold staN; split; exact ofM_lt (by omega); omega
theorem set_in : 1 ≤ setN L xs 0 ∧ setN L xs 0 ≤ 12 ∧ 1 ≤ setN L xs 1 ∧ setN L xs 1 ≤ 3 := by
  have h1 := ofM_lt (x := cel L xs 9) (n := 12) (by omega)
  have h2 := ofM_lt (x := cel L xs 9 / nI 16) (n := 3) (by omega)
  have e0 : setN L xs 0 = 1 + ofM (cel L xs 9) 12 := rfl
  have e1 : setN L xs 1 = 1 + ofM (cel L xs 9 / nI 16) 3 := rfl
  omega
theorem tx0_R : TxR L xs (tx0 L xs) 3 (rSet (rSet rZ 0 (setN L xs 0)) 1 (setN L xs 1)) (updL (tZ (fun _ => 0)) 0 (staN L xs 0 :: stas L xs)) 0 0 0 := by
  obtain ⟨s1, s2, s3, s4⟩ := set_in (L := L) (xs := xs)
  have hc : ∀ y ∈ staN L xs 0 :: stas L xs, y < 10000 := by
    intro y hy
    simp only [stas, List.mem_cons, List.not_mem_nil, or_false] at hy
    rcases hy with rfl | rfl | rfl | rfl | rfl | rfl | rfl | rfl <;> exact sta9 _
  have g0 : gSet 0 = 40 := rfl
  have g1 : gSet 1 = 6 := rfl
  have hA := ((AL_Z (tn := fun _ => 0) (fun _ _ => rfl)).set (i := 0) (v := setN L xs 0) (by omega) s1 (by omega)).set (i := 1) (v := setN L xs 1) (by omega) s3 (by omega)
  have R1 := (RnP.nil.add (rd_set (w := 0) (x := setN L xs 0) (by omega) s1 (by omega) (by decide))).add (rd_set (w := 1) (x := setN L xs 1) (by omega) s3 (by omega) (by decide))
  have R2 := R1.add (rd_sta (c := staN L xs 0) (cs := stas L xs) hc (by simp [stas]) rfl)
  refine ⟨R2, ?_, rfl, rfl, rfl, fun i hi => absurd hi (Nat.not_lt_zero i), AL_up _ _ _ hc (by simp [stas]) hA, fun c hc => ?_⟩
  · unfold tx0
    rw [List.count_append, List.count_append, List.count_append, cnt_set (by omega), cnt_set (by omega), cnt_sta]; rfl
  · rcases (by omega : c = 0 ∨ c = 1 ∨ c = 2 ∨ c = 3 ∨ c = 4 ∨ c = 5 ∨ c = 6 ∨ c = 7 ∨ c = 8 ∨ c = 9 ∨ c = 10 ∨ c = 11 ∨ c = 12 ∨ c = 13 ∨ c = 14 ∨ c = 15) with rfl | rfl | rfl | rfl | rfl | rfl | rfl | rfl | rfl | rfl | rfl | rfl | rfl | rfl | rfl | rfl <;> rfl
theorem w_182 (hL : L ≤ 260) (hW0 : LwW L xs μ) (hX0 : 1000 ≤ mX μ) (hq : ∀ μ' p l n r tn, FrG (mX μ) μ μ' → StB μ' (mX μ) (mX μ') p l → l.length ≤ 600 → TxR L xs l n r tn (memN L xs) (turN L xs) 0 → Q (some (some (.ref p))) μ') : Ev (d + 9) 182 [.ref 300] μ Q := by
  have u0 : ub (0, 0) 0 0 := ⟨Nat.le_refl _, Nat.le_refl _⟩
  obtain ⟨s1, s2, s3, s4⟩ := set_in (L := L) (xs := xs)
  have hm5 := memN_in (L := L) (xs := xs)
  have ht5 : turN L xs < 5 := ofM_lt (by omega)
  have hc0 : ∀ i, i < 33 → (mS (uN μ 26 6) i).1 = 0 := by
    intro i hi
    obtain ⟨w, -, -, -, -, ⟨t1, -⟩, -⟩ := hW0.2.2 i hi
    rw [mS_uN (by omega), t1]
  have k1 : ule (uad (0, 0) (1, 6)) (1000, 2000000) = True := u0.ad.le (by omega) (by omega)
  have e0 : mS (uN μ 26 6) (mX μ) = (26, 6) := mS_uNs
  have d18 := hc0 18 (by omega)
  have d19 := hc0 19 (by omega)
  have d20 := hc0 20 (by omega)
  have d21 := hc0 21 (by omega)
  have d22 := hc0 22 (by omega)
  have d23 := hc0 23 (by omega)
  rw [in_182]
  simp (disch := first | omega | rfl) only [e_182_0, e_182_2, e_182_5, e_182_6, e_182_7, e_182_9, e_182_10, e_182_11, e_182_12, e_182_14, e_182_15, e_182_16, e_182_17, e_182_19, e_182_20, e_182_21, e_182_22, e_182_24, e_182_25, e_182_26, e_182_27, e_182_29, e_182_30, e_182_31, e_182_32, e_182_34, e_182_35, ge1, ule_t, true_or, or_true, nI_add, nI_mul, nI_sub, nI_clamp, nI_lt_t, nI_lt_f, nI_le_t, nI_le_f, nI_eq_t, nI_eq_f, vp_nI, tI, fI, not_true, not_false_iff, true_and, and_true, Classical.not_not, mS_uI, mS_uA, mS_uJ, mS_uR, mS_uX, mR_uI, mR_uA, mR_uJ, mR_uX, mX_uI, mX_uA, mX_uJ, mX_uR, mI_s, mI_n, mI_A, mI_An, mI_uJ, mI_uR, mI_uX, mJ_uI, mJ_uA, mJ_uR, mJ_uX, onR_s, kC_v, kC_n, kC_t, k1, e0, hX0, d18, d19, d20, d21, d22, d23, and_self, Nat.reduceLeDiff, show (18 < 1000) = True from eq_true (by omega), show (19 < 1000) = True from eq_true (by omega), show (20 < 1000) = True from eq_true (by omega), show (21 < 1000) = True from eq_true (by omega), show (22 < 1000) = True from eq_true (by omega), show (23 < 1000) = True from eq_true (by omega)]
  have hs1 : FrG (mX μ) μ (uR (uR (uR (uR (uR (uR (uN μ 26 6) (mX μ) 0 (some 18)) (mX μ) 1 (some 19)) (mX μ) 2 (some 20)) (mX μ) 3 (some 21)) (mX μ) 4 (some 22)) (mX μ) 5 (some 23)) := ((((((FrG.refl.uN (Nat.le_refl _)).uR (Nat.le_refl _)).uR (Nat.le_refl _)).uR (Nat.le_refl _)).uR (Nat.le_refl _)).uR (Nat.le_refl _)).uR (Nat.le_refl _)
  have hq6 : SqS (uR (uR (uR (uR (uR (uR (uN μ 26 6) (mX μ) 0 (some 18)) (mX μ) 1 (some 19)) (mX μ) 2 (some 20)) (mX μ) 3 (some 21)) (mX μ) 4 (some 22)) (mX μ) 5 (some 23)) (mX μ) := by
    refine ⟨e0, hX0, fun k hk => ?_⟩
    rcases (by omega : k = 0 ∨ k = 1 ∨ k = 2 ∨ k = 3 ∨ k = 4 ∨ k = 5) with rfl | rfl | rfl | rfl | rfl | rfl
    · rw [mR_nR (by omega), mR_nR (by omega), mR_nR (by omega), mR_nR (by omega), mR_nR (by omega), mR_sR]
    · rw [mR_nR (by omega), mR_nR (by omega), mR_nR (by omega), mR_nR (by omega), mR_sR]
    · rw [mR_nR (by omega), mR_nR (by omega), mR_nR (by omega), mR_sR]
    · rw [mR_nR (by omega), mR_nR (by omega), mR_sR]
    · rw [mR_nR (by omega), mR_sR]
    · rw [mR_sR]
  have hx1 : mX (uR (uR (uR (uR (uR (uR (uN μ 26 6) (mX μ) 0 (some 18)) (mX μ) 1 (some 19)) (mX μ) 2 (some 20)) (mX μ) 3 (some 21)) (mX μ) 4 (some 22)) (mX μ) 5 (some 23)) = mX μ + 1 := rfl
  generalize uR (uR (uR (uR (uR (uR (uN μ 26 6) (mX μ) 0 (some 18)) (mX μ) 1 (some 19)) (mX μ) 2 (some 20)) (mX μ) 3 (some 21)) (mX μ) 4 (some 22)) (mX μ) 5 (some 23) = ν at hs1 hq6 hx1 ⊢
  have hu1 : ub (uad (0, 0) (1, 6)) (27 * 1) (45000 * 1) := u0.ad.mono (by omega) (by omega)
  generalize uad (0, 0) (1, 6) = u1 at hu1 ⊢
  have hW := hW0.fr hs1 hX0
  have hX : 1000 ≤ mX ν := by omega
  have f4 := fNd_le4 (x := setN L xs 0)
  have f5 := fNd_le4 (x := setN L xs 1)
  have kn1 : ule (uad u1 (1, 4)) (1000, 2000000) = True := (hu1.ad).le (by omega) (by omega)
  have kn2 : ule (uad (uad u1 (1, 4)) (1, 16)) (1000, 2000000) = True := (hu1.ad.ad).le (by omega) (by omega)
  simp (disch := first | omega | rfl) only [e_182_36, e_182_39, e_182_40, e_182_43, e_182_45, e_182_48, e_182_49, e_182_50, e_182_53, e_182_56, e_182_58, e_182_61, e_182_62, e_182_63, e_182_66, e_182_69, e_182_71, e_182_74, e_182_77, e_182_78, e_182_79, ge1, ule_t, true_or, or_true, nI_add, nI_mul, nI_sub, nI_clamp, nI_lt_t, nI_lt_f, nI_le_t, nI_le_f, nI_eq_t, nI_eq_f, vp_nI, tI, fI, not_true, not_false_iff, true_and, and_true, Classical.not_not, mS_uI, mS_uA, mS_uJ, mS_uR, mS_uX, mR_uI, mR_uA, mR_uJ, mR_uX, mX_uI, mX_uA, mX_uJ, mX_uR, mI_s, mI_n, mI_A, mI_An, mI_uJ, mI_uR, mI_uX, mJ_uI, mJ_uA, mJ_uR, mJ_uX, onR_s, kC_v, kC_n, kC_t, kn1, kn2]
  refine L_new (by omega) (fun n1 g1 s1 => ?_)
  rw [kC_n]
  have b1 : ub (cg (uN ν 1 4) n1 (uad u1 (1, 4)) (1, 16)) (27 * 1 + 2) (45000 * 1 + 20) := (hu1.ad.ch).mono (by omega) (by omega)
  generalize cg (uN ν 1 4) n1 (uad u1 (1, 4)) (1, 16) = v1 at b1 ⊢
  have kk2 : ule (uad v1 (1, 2000)) (1000, 2000000) = True := (b1.ad).le (by omega) (by omega)
  have sh2 := s1.sh
  simp (disch := first | omega | rfl) only [e_182_36, e_182_39, e_182_40, e_182_43, e_182_45, e_182_48, e_182_49, e_182_50, e_182_53, e_182_56, e_182_58, e_182_61, e_182_62, e_182_63, e_182_66, e_182_69, e_182_71, e_182_74, e_182_77, e_182_78, e_182_79, ge1, ule_t, true_or, or_true, nI_add, nI_mul, nI_sub, nI_clamp, nI_lt_t, nI_lt_f, nI_le_t, nI_le_f, nI_eq_t, nI_eq_f, vp_nI, tI, fI, not_true, not_false_iff, true_and, and_true, Classical.not_not, mS_uI, mS_uA, mS_uJ, mS_uR, mS_uX, mR_uI, mR_uA, mR_uJ, mR_uX, mX_uI, mX_uA, mX_uJ, mX_uR, mI_s, mI_n, mI_A, mI_An, mI_uJ, mI_uR, mI_uX, mJ_uI, mJ_uA, mJ_uR, mJ_uX, onR_s, kC_v, kC_n, kC_t, kk2, sh2]
  refine L_str s1 (((hW.2.2 24 (by omega)).fr (g1.le (by omega))).up (by omega) (Nat.le_refl _)) (by simp only [List.length_append, dgs_len, List.length_nil, tl24, tl25, tl26, tl27, tl28, tl29, tl30, tl31, tl32, nml, List.length_cons]; omega) (fun n2 g2 s2 => ?_)
  have h2 := g1.trans g2
  rw [kC_v]
  have b2 : ub (cg n1 n2 v1 (1, 2000)) (27 * 1 + 3) (45000 * 1 + 2020) := (b1.ch).mono (by omega) (by omega)
  generalize cg n1 n2 v1 (1, 2000) = v2 at b2 ⊢
  have x3_0 := fun (d : Nat) (Q : Po) => w_180 (d := d) (Q := Q) (k := 0) (hW.fr h2 (by omega)).1 hL (by omega)
  have kk3 : ule (uad v2 (1, 2000)) (1000, 2000000) = True := (b2.ad).le (by omega) (by omega)
  have sh3 := s2.sh
  have kz3 : ule v2 (1000, 2000000) = True := b2.le (by omega) (by omega)
  simp (disch := first | omega | rfl) only [e_182_36, e_182_39, e_182_40, e_182_43, e_182_45, e_182_48, e_182_49, e_182_50, e_182_53, e_182_56, e_182_58, e_182_61, e_182_62, e_182_63, e_182_66, e_182_69, e_182_71, e_182_74, e_182_77, e_182_78, e_182_79, ge1, ule_t, true_or, or_true, nI_add, nI_mul, nI_sub, nI_clamp, nI_lt_t, nI_lt_f, nI_le_t, nI_le_f, nI_eq_t, nI_eq_f, vp_nI, tI, fI, not_true, not_false_iff, true_and, and_true, Classical.not_not, mS_uI, mS_uA, mS_uJ, mS_uR, mS_uX, mR_uI, mR_uA, mR_uJ, mR_uX, mX_uI, mX_uA, mX_uJ, mX_uR, mI_s, mI_n, mI_A, mI_An, mI_uJ, mI_uR, mI_uX, mJ_uI, mJ_uA, mJ_uR, mJ_uX, onR_s, kC_v, kC_n, kC_t, kk3, sh3, kz3, x3_0]
  refine L_num s2 (hW.fr h2 (by omega)).2.1 (by omega) (by simp only [List.length_append, dgs_len, List.length_nil, tl24, tl25, tl26, tl27, tl28, tl29, tl30, tl31, tl32, nml, List.length_cons]; omega) (fun n3 g3 s3 => ?_)
  have h3 := h2.trans g3
  rw [kC_v]
  have b3 : ub (cg n2 n3 v2 (1, 2000)) (27 * 1 + 4) (45000 * 1 + 4020) := (b2.ch).mono (by omega) (by omega)
  generalize cg n2 n3 v2 (1, 2000) = v3 at b3 ⊢
  have kk4 : ule (uad v3 (1, 2000)) (1000, 2000000) = True := (b3.ad).le (by omega) (by omega)
  have sh4 := s3.sh
  simp (disch := first | omega | rfl) only [e_182_36, e_182_39, e_182_40, e_182_43, e_182_45, e_182_48, e_182_49, e_182_50, e_182_53, e_182_56, e_182_58, e_182_61, e_182_62, e_182_63, e_182_66, e_182_69, e_182_71, e_182_74, e_182_77, e_182_78, e_182_79, ge1, ule_t, true_or, or_true, nI_add, nI_mul, nI_sub, nI_clamp, nI_lt_t, nI_lt_f, nI_le_t, nI_le_f, nI_eq_t, nI_eq_f, vp_nI, tI, fI, not_true, not_false_iff, true_and, and_true, Classical.not_not, mS_uI, mS_uA, mS_uJ, mS_uR, mS_uX, mR_uI, mR_uA, mR_uJ, mR_uX, mX_uI, mX_uA, mX_uJ, mX_uR, mI_s, mI_n, mI_A, mI_An, mI_uJ, mI_uR, mI_uX, mJ_uI, mJ_uA, mJ_uR, mJ_uX, onR_s, kC_v, kC_n, kC_t, kk4, sh4]
  refine L_str s3 (((hW.2.2 25 (by omega)).fr (h3.le (by omega))).up (by omega) (Nat.le_refl _)) (by simp only [List.length_append, dgs_len, List.length_nil, tl24, tl25, tl26, tl27, tl28, tl29, tl30, tl31, tl32, nml, List.length_cons]; omega) (fun n4 g4 s4 => ?_)
  have h4 := h3.trans g4
  rw [kC_v]
  have b4 : ub (cg n3 n4 v3 (1, 2000)) (27 * 1 + 5) (45000 * 1 + 6020) := (b3.ch).mono (by omega) (by omega)
  generalize cg n3 n4 v3 (1, 2000) = v4 at b4 ⊢
  have x5_0 := fun (d : Nat) (Q : Po) => w_180 (d := d) (Q := Q) (k := 1) (hW.fr h4 (by omega)).1 hL (by omega)
  have kk5 : ule (uad v4 (1, 2000)) (1000, 2000000) = True := (b4.ad).le (by omega) (by omega)
  have sh5 := s4.sh
  have kz5 : ule v4 (1000, 2000000) = True := b4.le (by omega) (by omega)
  simp (disch := first | omega | rfl) only [e_182_36, e_182_39, e_182_40, e_182_43, e_182_45, e_182_48, e_182_49, e_182_50, e_182_53, e_182_56, e_182_58, e_182_61, e_182_62, e_182_63, e_182_66, e_182_69, e_182_71, e_182_74, e_182_77, e_182_78, e_182_79, ge1, ule_t, true_or, or_true, nI_add, nI_mul, nI_sub, nI_clamp, nI_lt_t, nI_lt_f, nI_le_t, nI_le_f, nI_eq_t, nI_eq_f, vp_nI, tI, fI, not_true, not_false_iff, true_and, and_true, Classical.not_not, mS_uI, mS_uA, mS_uJ, mS_uR, mS_uX, mR_uI, mR_uA, mR_uJ, mR_uX, mX_uI, mX_uA, mX_uJ, mX_uR, mI_s, mI_n, mI_A, mI_An, mI_uJ, mI_uR, mI_uX, mJ_uI, mJ_uA, mJ_uR, mJ_uX, onR_s, kC_v, kC_n, kC_t, kk5, sh5, kz5, x5_0]
  refine L_num s4 (hW.fr h4 (by omega)).2.1 (by omega) (by simp only [List.length_append, dgs_len, List.length_nil, tl24, tl25, tl26, tl27, tl28, tl29, tl30, tl31, tl32, nml, List.length_cons]; omega) (fun n5 g5 s5 => ?_)
  have h5 := h4.trans g5
  rw [kC_v]
  have b5 : ub (cg n4 n5 v4 (1, 2000)) (27 * 1 + 6) (45000 * 1 + 8020) := (b4.ch).mono (by omega) (by omega)
  generalize cg n4 n5 v4 (1, 2000) = v5 at b5 ⊢
  have kk6 : ule (uad v5 (1, 2000)) (1000, 2000000) = True := (b5.ad).le (by omega) (by omega)
  have sh6 := s5.sh
  simp (disch := first | omega | rfl) only [e_182_36, e_182_39, e_182_40, e_182_43, e_182_45, e_182_48, e_182_49, e_182_50, e_182_53, e_182_56, e_182_58, e_182_61, e_182_62, e_182_63, e_182_66, e_182_69, e_182_71, e_182_74, e_182_77, e_182_78, e_182_79, ge1, ule_t, true_or, or_true, nI_add, nI_mul, nI_sub, nI_clamp, nI_lt_t, nI_lt_f, nI_le_t, nI_le_f, nI_eq_t, nI_eq_f, vp_nI, tI, fI, not_true, not_false_iff, true_and, and_true, Classical.not_not, mS_uI, mS_uA, mS_uJ, mS_uR, mS_uX, mR_uI, mR_uA, mR_uJ, mR_uX, mX_uI, mX_uA, mX_uJ, mX_uR, mI_s, mI_n, mI_A, mI_An, mI_uJ, mI_uR, mI_uX, mJ_uI, mJ_uA, mJ_uR, mJ_uX, onR_s, kC_v, kC_n, kC_t, kk6, sh6]
  refine L_str s5 (((hW.2.2 26 (by omega)).fr (h5.le (by omega))).up (by omega) (Nat.le_refl _)) (by simp only [List.length_append, dgs_len, List.length_nil, tl24, tl25, tl26, tl27, tl28, tl29, tl30, tl31, tl32, nml, List.length_cons]; omega) (fun n6 g6 s6 => ?_)
  have h6 := h5.trans g6
  rw [kC_v]
  have b6 : ub (cg n5 n6 v5 (1, 2000)) (27 * 1 + 7) (45000 * 1 + 10020) := (b5.ch).mono (by omega) (by omega)
  generalize cg n5 n6 v5 (1, 2000) = v6 at b6 ⊢
  have kk7 : ule (uad v6 (5, 8004)) (1000, 2000000) = True := (b6.ad).le (by omega) (by omega)
  have sh7 := s6.sh
  simp (disch := first | omega | rfl) only [e_182_36, e_182_39, e_182_40, e_182_43, e_182_45, e_182_48, e_182_49, e_182_50, e_182_53, e_182_56, e_182_58, e_182_61, e_182_62, e_182_63, e_182_66, e_182_69, e_182_71, e_182_74, e_182_77, e_182_78, e_182_79, ge1, ule_t, true_or, or_true, nI_add, nI_mul, nI_sub, nI_clamp, nI_lt_t, nI_lt_f, nI_le_t, nI_le_f, nI_eq_t, nI_eq_f, vp_nI, tI, fI, not_true, not_false_iff, true_and, and_true, Classical.not_not, mS_uI, mS_uA, mS_uJ, mS_uR, mS_uX, mR_uI, mR_uA, mR_uJ, mR_uX, mX_uI, mX_uA, mX_uJ, mX_uR, mI_s, mI_n, mI_A, mI_An, mI_uJ, mI_uR, mI_uX, mJ_uI, mJ_uA, mJ_uR, mJ_uX, onR_s, kC_v, kC_n, kC_t, kk7, sh7]
  have lw7 := s6.lw
  refine L_toS s6 (fun n7 g7 g0 gx t7 => ?_)
  have hz := h6.trans g7
  rw [kC_v]
  have bz : ub (cg n6 n7 v6 (5, 8004)) (27 * 1 + 12) (45000 * 1 + 18024) := (b6.ch).mono (by omega) (by omega)
  generalize cg n6 n7 v6 (5, 8004) = vz at bz ⊢
  have tz := t7
  have kf : ule vz (1000, 2000000) = True := bz.le (by omega) (by omega)
  simp (disch := first | omega | rfl) only [e_182_36, e_182_39, e_182_40, e_182_43, e_182_45, e_182_48, e_182_49, e_182_50, e_182_53, e_182_56, e_182_58, e_182_61, e_182_62, e_182_63, e_182_66, e_182_69, e_182_71, e_182_74, e_182_77, e_182_78, e_182_79, ge1, ule_t, true_or, or_true, nI_add, nI_mul, nI_sub, nI_clamp, nI_lt_t, nI_lt_f, nI_le_t, nI_le_f, nI_eq_t, nI_eq_f, vp_nI, tI, fI, not_true, not_false_iff, true_and, and_true, Classical.not_not, mS_uI, mS_uA, mS_uJ, mS_uR, mS_uX, mR_uI, mR_uA, mR_uJ, mR_uX, mX_uI, mX_uA, mX_uJ, mX_uR, mI_s, mI_n, mI_A, mI_An, mI_uJ, mI_uR, mI_uX, mJ_uI, mJ_uA, mJ_uR, mJ_uX, onR_s, kC_v, kC_n, kC_t, kf]
  have hX2 := hz.1
  have hW2 := hW.fr hz (by omega)
  have hq2 := hq6.gz hz (by omega)
  refine l_182a (z0 := mX μ) hL 8 0 _ _ _ _ 2 (by omega) hW2 (by omega) (by omega) (tz.up (Nat.le_refl _) (by omega)) ?_ ⟨by have := bz.1; omega, by have := bz.2; omega⟩ (by omega) (fun μa ua ta ga Ta bua => ?_)
  · simp only [List.length_append, dgs_len, List.length_nil, tl24, tl25, tl26, tl27, tl28, tl29, tl30, tl31, tl32, nml, List.length_cons]; omega
  have hX3 := ga.1
  have hWa := hW2.fr ga (by omega)
  have hXa : 1000 ≤ mX μa := by omega
  have hqa := hq2.gz ga (by omega)
  have La : ([] ++ txB 24 ++ dgs (setN L xs 0) ++ txB 25 ++ dgs (setN L xs 1) ++ txB 26 ++ sts L xs 0 8).length ≤ 90 := by
    simp only [List.length_append, dgs_len, List.length_nil, tl24, tl25, tl26, tl27, tl28, tl29, tl30, tl31, tl32, nml, List.length_cons, sts8, fNd_le4]; have := fNd_le4 (x := staN L xs 0); have := fNd_le4 (x := staN L xs 1); have := fNd_le4 (x := staN L xs 2); have := fNd_le4 (x := staN L xs 3); have := fNd_le4 (x := staN L xs 4); have := fNd_le4 (x := staN L xs 5); have := fNd_le4 (x := staN L xs 6); have := fNd_le4 (x := staN L xs 7); omega
  generalize hla : [] ++ txB 24 ++ dgs (setN L xs 0) ++ txB 25 ++ dgs (setN L xs 1) ++ txB 26 ++ sts L xs 0 8 = la at Ta La
  clear kf
  --B2
  have kn1 : ule (uad ua (1, 4)) (1000, 2000000) = True := (bua.ad).le (by omega) (by omega)
  have kn2 : ule (uad (uad ua (1, 4)) (1, 16)) (1000, 2000000) = True := (bua.ad.ad).le (by omega) (by omega)
  simp (disch := first | omega | rfl) only [e_182_120, e_182_123, e_182_124, e_182_127, e_182_128, e_182_131, e_182_133, e_182_136, e_182_139, e_182_140, e_182_141, ge1, ule_t, true_or, or_true, nI_add, nI_mul, nI_sub, nI_clamp, nI_lt_t, nI_lt_f, nI_le_t, nI_le_f, nI_eq_t, nI_eq_f, vp_nI, tI, fI, not_true, not_false_iff, true_and, and_true, Classical.not_not, mS_uI, mS_uA, mS_uJ, mS_uR, mS_uX, mR_uI, mR_uA, mR_uJ, mR_uX, mX_uI, mX_uA, mX_uJ, mX_uR, mI_s, mI_n, mI_A, mI_An, mI_uJ, mI_uR, mI_uX, mJ_uI, mJ_uA, mJ_uR, mJ_uX, onR_s, kC_v, kC_n, kC_t, kn1, kn2]
  refine L_new (by omega) (fun n1 g1 s1 => ?_)
  rw [kC_n]
  have b1 : ub (cg (uN μa 1 4) n1 (uad ua (1, 4)) (1, 16)) (27 * (2 + 8) + 2) (45000 * (2 + 8) + 20) := (bua.ad.ch).mono (by omega) (by omega)
  generalize cg (uN μa 1 4) n1 (uad ua (1, 4)) (1, 16) = v1 at b1 ⊢
  have kk2 : ule (uad v1 (1, 2000)) (1000, 2000000) = True := (b1.ad).le (by omega) (by omega)
  have sh2 := s1.sh
  simp (disch := first | omega | rfl) only [e_182_120, e_182_123, e_182_124, e_182_127, e_182_128, e_182_131, e_182_133, e_182_136, e_182_139, e_182_140, e_182_141, ge1, ule_t, true_or, or_true, nI_add, nI_mul, nI_sub, nI_clamp, nI_lt_t, nI_lt_f, nI_le_t, nI_le_f, nI_eq_t, nI_eq_f, vp_nI, tI, fI, not_true, not_false_iff, true_and, and_true, Classical.not_not, mS_uI, mS_uA, mS_uJ, mS_uR, mS_uX, mR_uI, mR_uA, mR_uJ, mR_uX, mX_uI, mX_uA, mX_uJ, mX_uR, mI_s, mI_n, mI_A, mI_An, mI_uJ, mI_uR, mI_uX, mJ_uI, mJ_uA, mJ_uR, mJ_uX, onR_s, kC_v, kC_n, kC_t, kk2, sh2]
  refine L_str s1 ((Ta.up (Nat.le_refl _) (Nat.zero_le _)).fr g1) (by simp only [List.length_append, dgs_len, List.length_nil, tl24, tl25, tl26, tl27, tl28, tl29, tl30, tl31, tl32, nml, List.length_cons]; omega) (fun n2 g2 s2 => ?_)
  have h2 := g1.trans g2
  rw [kC_v]
  have b2 : ub (cg n1 n2 v1 (1, 2000)) (27 * (2 + 8) + 3) (45000 * (2 + 8) + 2020) := (b1.ch).mono (by omega) (by omega)
  generalize cg n1 n2 v1 (1, 2000) = v2 at b2 ⊢
  have kk3 : ule (uad v2 (1, 2000)) (1000, 2000000) = True := (b2.ad).le (by omega) (by omega)
  have sh3 := s2.sh
  simp (disch := first | omega | rfl) only [e_182_120, e_182_123, e_182_124, e_182_127, e_182_128, e_182_131, e_182_133, e_182_136, e_182_139, e_182_140, e_182_141, ge1, ule_t, true_or, or_true, nI_add, nI_mul, nI_sub, nI_clamp, nI_lt_t, nI_lt_f, nI_le_t, nI_le_f, nI_eq_t, nI_eq_f, vp_nI, tI, fI, not_true, not_false_iff, true_and, and_true, Classical.not_not, mS_uI, mS_uA, mS_uJ, mS_uR, mS_uX, mR_uI, mR_uA, mR_uJ, mR_uX, mX_uI, mX_uA, mX_uJ, mX_uR, mI_s, mI_n, mI_A, mI_An, mI_uJ, mI_uR, mI_uX, mJ_uI, mJ_uA, mJ_uR, mJ_uX, onR_s, kC_v, kC_n, kC_t, kk3, sh3]
  refine L_str s2 (((hWa.2.2 28 (by omega)).fr (h2.le (by omega))).up (by omega) (Nat.le_refl _)) (by simp only [List.length_append, dgs_len, List.length_nil, tl24, tl25, tl26, tl27, tl28, tl29, tl30, tl31, tl32, nml, List.length_cons]; omega) (fun n3 g3 s3 => ?_)
  have h3 := h2.trans g3
  rw [kC_v]
  have b3 : ub (cg n2 n3 v2 (1, 2000)) (27 * (2 + 8) + 4) (45000 * (2 + 8) + 4020) := (b2.ch).mono (by omega) (by omega)
  generalize cg n2 n3 v2 (1, 2000) = v3 at b3 ⊢
  have kk4 : ule (uad v3 (5, 8004)) (1000, 2000000) = True := (b3.ad).le (by omega) (by omega)
  have sh4 := s3.sh
  simp (disch := first | omega | rfl) only [e_182_120, e_182_123, e_182_124, e_182_127, e_182_128, e_182_131, e_182_133, e_182_136, e_182_139, e_182_140, e_182_141, ge1, ule_t, true_or, or_true, nI_add, nI_mul, nI_sub, nI_clamp, nI_lt_t, nI_lt_f, nI_le_t, nI_le_f, nI_eq_t, nI_eq_f, vp_nI, tI, fI, not_true, not_false_iff, true_and, and_true, Classical.not_not, mS_uI, mS_uA, mS_uJ, mS_uR, mS_uX, mR_uI, mR_uA, mR_uJ, mR_uX, mX_uI, mX_uA, mX_uJ, mX_uR, mI_s, mI_n, mI_A, mI_An, mI_uJ, mI_uR, mI_uX, mJ_uI, mJ_uA, mJ_uR, mJ_uX, onR_s, kC_v, kC_n, kC_t, kk4, sh4]
  have lw4 := s3.lw
  refine L_toS s3 (fun n4 g4 g0 gx t4 => ?_)
  have hz2 := h3.trans g4
  rw [kC_v]
  have bz : ub (cg n3 n4 v3 (5, 8004)) (27 * (2 + 8) + 9) (45000 * (2 + 8) + 12024) := (b3.ch).mono (by omega) (by omega)
  generalize cg n3 n4 v3 (5, 8004) = vz at bz ⊢
  have tz := t4
  have kf : ule vz (1000, 2000000) = True := bz.le (by omega) (by omega)
  simp (disch := first | omega | rfl) only [e_182_120, e_182_123, e_182_124, e_182_127, e_182_128, e_182_131, e_182_133, e_182_136, e_182_139, e_182_140, e_182_141, ge1, ule_t, true_or, or_true, nI_add, nI_mul, nI_sub, nI_clamp, nI_lt_t, nI_lt_f, nI_le_t, nI_le_f, nI_eq_t, nI_eq_f, vp_nI, tI, fI, not_true, not_false_iff, true_and, and_true, Classical.not_not, mS_uI, mS_uA, mS_uJ, mS_uR, mS_uX, mR_uI, mR_uA, mR_uJ, mR_uX, mX_uI, mX_uA, mX_uJ, mX_uR, mI_s, mI_n, mI_A, mI_An, mI_uJ, mI_uR, mI_uX, mJ_uI, mJ_uA, mJ_uR, mJ_uX, onR_s, kC_v, kC_n, kC_t, kf]
  have hX4 := hz2.1
  have el : [] ++ la ++ txB 28 = tx0 L xs := by rw [← hla]; exact tx0_e
  rw [el] at tz
  refine l_182b (z0 := mX μ) hL (memN L xs) 0 _ _ _ _ 3 _ _ 11 (by omega) (hWa.fr hz2 (by omega)) (by omega) (by omega) (tz.up (Nat.le_refl _) (by omega)) ?_ ⟨by have := bz.1; omega, by have := bz.2; omega⟩ (by omega) tx0_R (fun μb u2 tb lb nb rb tnb gb Tb Lb bb Rb => ?_)
  · rw [← el]; simp only [List.length_append, List.length_nil, tl24, tl25, tl26, tl27, tl28, tl29, tl30, tl31, tl32, nml, List.length_cons]; omega
  have hX5 := gb.1
  refine l_182d (z0 := mX μ) hL (turN L xs) 0 μb u2 tb lb nb rb (11 + memN L xs) _ (by omega) ((hWa.fr hz2 (by omega)).fr gb (by omega)) (by omega) ((hqa.gz hz2 (by omega)).gz gb (by omega)) (by omega) (by omega) Tb (by omega) (bb.mono (by omega) (by omega)) (by omega) Rb (fun μ' p l' n' r' h1 h2 h3 h4 => hq _ _ _ _ _ _ ((((hs1.trans (hz.le (by omega))).trans (ga.le (by omega))).trans (hz2.le (by omega))).trans ((gb.le (by omega)).trans (h1.le (by omega)))) h2 h3 h4)
end Text

