/-! reading a text that is known -/
def At (f : Nat → Nat) (p : Nat) (l : List Nat) : Prop := ∀ j, j < l.length → f (p + j) = l.getD j 0
theorem At.l {f : Nat → Nat} {p : Nat} {a b : List Nat} (h : At f p (a ++ b)) : At f p a := fun j hj => by
  rw [h j (by rw [List.length_append]; omega), getD_app1 hj]
theorem At.r {f : Nat → Nat} {p : Nat} {a b : List Nat} (h : At f p (a ++ b)) : At f (p + a.length) b := fun j hj => by
  rw [Nat.add_assoc, h (a.length + j) (by rw [List.length_append]; omega), getD_app2]
theorem At.one {f : Nat → Nat} {p c : Nat} (h : At f p [c]) : f p = c := h 0 (by simp)
theorem At.hd {f : Nat → Nat} {p c : Nat} {b : List Nat} (h : At f p (c :: b)) : f p = c := h 0 (by simp)
theorem At.tl {f : Nat → Nat} {p c : Nat} {b : List Nat} (h : At f p (c :: b)) : At f (p + 1) b := fun j hj => by
  have := h (j + 1) (by simp; omega)
  rw [show p + 1 + j = p + (j + 1) by omega, this]; rfl
section Tok
variable {f : Nat → Nat} {L p v n x k : Nat} {w w0 : List Nat}
theorem sk_n (h : ¬ isB (f p)) : skF f n p = p := by
  cases n with
  | zero => rfl
  | succ n => rw [skF, if_neg h]
theorem tk_sp (h : f p = 32) (hL : p < L) : tkn f L p v = tkn f L (p + 1) v := by
  unfold tkn
  rw [show L - p = (L - (p + 1)) + 1 by omega, skF, if_pos (Or.inl h)]
theorem wd_n : ∀ k n p, k ≤ n → (∀ j, j < k → isLr (f (p + j))) → ¬ isLr (f (p + k)) → wdF f n p = p + k
  | 0, 0, p, _, _, _ => rfl
  | 0, n + 1, p, _, _, h => by rw [wdF, if_neg (by simpa using h)]; rfl
  | k + 1, 0, p, h, _, _ => by omega
  | k + 1, n + 1, p, h, hj, he => by
    rw [wdF, if_pos (by simpa using hj 0 (by omega)), wd_n k n (p + 1) (by omega) (fun j h2 => by rw [show p + 1 + j = p + (j + 1) by omega]; exact hj _ (by omega)) (by rw [show p + 1 + k = p + (k + 1) by omega]; exact he)]
    omega
theorem tk_word (h0 : 0 < k) (hj : ∀ j, j < k → isLr (f (p + j))) (he : ¬ isLr (f (p + k))) (hL : p + k < L) : tkn f L p v = (1, p, p + k, v) := by
  have h1 : isLr (f p) := hj 0 h0
  unfold tkn
  rw [sk_n (by omega), tkA_1 (by omega) h1, wd_n k _ p (by omega) hj he]
theorem tk_semi (h : f p = 59) (hL : p < L) : tkn f L p v = (3, p, p + 1, v) := by
  unfold tkn
  rw [sk_n (by omega), tkA_3 (by omega) (by omega) (by omega), if_pos h]
theorem tk_end (h : L ≤ p) : tkn f L p v = (0, p, p, v) := by
  unfold tkn
  rw [show L - p = 0 by omega]
  exact tkA_0 h
theorem fDg_d {x j : Nat} : isD (fDg x j) := by
  unfold fDg
  have := Nat.mod_lt (x / 10 ^ (fNd x - 1 - j)) (show 0 < 10 by omega)
  omega
theorem dg_1 {n p v : Nat} (h : isD (f p)) : dgF f (n + 1) p v = dgF f n (p + 1) (mstep v (f p)) := by rw [dgF, if_pos h]
theorem dg_e {n p v : Nat} (h : ¬ isD (f p)) : dgF f n p v = (p, v) := by
  cases n with
  | zero => rfl
  | succ n => rw [dgF, if_neg h]
theorem ms {v b : Nat} (h : v ≤ 100000) : mstep v b = 10 * v + b - 48 := by unfold mstep; rw [if_neg (by omega)]
theorem tk_num (hx : x < 10000) (hj : ∀ j, j < fNd x → f (p + j) = fDg x j) (he : ¬ isD (f (p + fNd x))) (hL : p + fNd x < L) : tkn f L p v = (2, p, p + fNd x, x) := by
  have hpos : 0 < fNd x := by unfold fNd; split <;> (try split) <;> (try split) <;> omega
  have h1 : f p = fDg x 0 := hj 0 hpos
  have hd : isD (f p) := by rw [h1]; exact fDg_d
  have key : dgF f (L - p) p 0 = (p + fNd x, x) := by
    rcases (by omega : x < 10 ∨ (10 ≤ x ∧ x < 100) ∨ (100 ≤ x ∧ x < 1000) ∨ 1000 ≤ x) with h | h | h | h
    · have e : fNd x = 1 := if_pos h
      rw [e] at hj he hL ⊢
      have g0 : f p = 48 + x := by rw [h1]; unfold fDg; rw [e]; show 48 + x / 1 % 10 = _; omega
      rw [show L - p = (L - p - 1) + 1 by omega, dg_1 (by omega), dg_e he, ms (by omega), g0]
      congr 1
      omega
    · have e : fNd x = 2 := (if_neg (by omega)).trans (if_pos h.2)
      rw [e] at hj he hL ⊢
      have g0 : f p = 48 + x / 10 := by rw [h1]; unfold fDg; rw [e]; show 48 + x / 10 % 10 = _; omega
      have g1 : f (p + 1) = 48 + x % 10 := by rw [hj 1 (by omega)]; unfold fDg; rw [e]; show 48 + x / 1 % 10 = _; omega
      have m1 : mstep 0 (f p) = x / 10 := by rw [ms (by omega), g0]; omega
      have m2 : mstep (x / 10) (f (p + 1)) = x := by rw [ms (by omega), g1]; omega
      rw [show L - p = (L - p - 2) + 1 + 1 by omega, dg_1 (by omega), dg_1 (by omega), dg_e he, m1, m2]
    · have e : fNd x = 3 := (if_neg (by omega)).trans ((if_neg (by omega)).trans (if_pos h.2))
      rw [e] at hj he hL ⊢
      have g0 : f p = 48 + x / 100 := by rw [h1]; unfold fDg; rw [e]; show 48 + x / 100 % 10 = _; omega
      have g1 : f (p + 1) = 48 + x / 10 % 10 := by rw [hj 1 (by omega)]; unfold fDg; rw [e]
      have g2 : f (p + 1 + 1) = 48 + x % 10 := by rw [show p + 1 + 1 = p + 2 by omega, hj 2 (by omega)]; unfold fDg; rw [e]; show 48 + x / 1 % 10 = _; omega
      have m1 : mstep 0 (f p) = x / 100 := by rw [ms (by omega), g0]; omega
      have m2 : mstep (x / 100) (f (p + 1)) = x / 10 := by rw [ms (by omega), g1]; omega
      have m3 : mstep (x / 10) (f (p + 1 + 1)) = x := by rw [ms (by omega), g2]; omega
      rw [show L - p = (L - p - 3) + 1 + 1 + 1 by omega, dg_1 (by omega), dg_1 (by omega), dg_1 (by omega), dg_e he, m1, m2, m3]
    · have e : fNd x = 4 := (if_neg (by omega)).trans ((if_neg (by omega)).trans (if_neg (by omega)))
      rw [e] at hj he hL ⊢
      have g0 : f p = 48 + x / 1000 := by rw [h1]; unfold fDg; rw [e]; show 48 + x / 1000 % 10 = _; omega
      have g1 : f (p + 1) = 48 + x / 100 % 10 := by rw [hj 1 (by omega)]; unfold fDg; rw [e]
      have g2 : f (p + 1 + 1) = 48 + x / 10 % 10 := by rw [show p + 1 + 1 = p + 2 by omega, hj 2 (by omega)]; unfold fDg; rw [e]
      have g3 : f (p + 1 + 1 + 1) = 48 + x % 10 := by rw [show p + 1 + 1 + 1 = p + 3 by omega, hj 3 (by omega)]; unfold fDg; rw [e]; show 48 + x / 1 % 10 = _; omega
      have m1 : mstep 0 (f p) = x / 1000 := by rw [ms (by omega), g0]; omega
      have m2 : mstep (x / 1000) (f (p + 1)) = x / 100 := by rw [ms (by omega), g1]; omega
      have m3 : mstep (x / 100) (f (p + 1 + 1)) = x / 10 := by rw [ms (by omega), g2]; omega
      have m4 : mstep (x / 10) (f (p + 1 + 1 + 1)) = x := by rw [ms (by omega), g3]; omega
      rw [show L - p = (L - p - 4) + 1 + 1 + 1 + 1 by omega, dg_1 (by omega), dg_1 (by omega), dg_1 (by omega), dg_1 (by omega), dg_e he, m1, m2, m3, m4]
  unfold tkn
  rw [sk_n (by omega), tkA_2 (by omega) (by omega) hd, key]
theorem tk_dgs {s : List Nat} {c : Nat} (hx : x < 10000) (h : At f p (dgs x ++ c :: s)) (hc : ¬ isD c) (hL : p + fNd x < L) : tkn f L p v = (2, p, p + fNd x, x) := by
  refine tk_num hx (fun j hj => ?_) ?_ hL
  · rw [h.l j (by rw [dgs_len]; exact hj), dgs_get hj]
  · have := h.r.hd
    rw [dgs_len] at this
    rw [this]; exact hc
theorem tk_wd {s : List Nat} {c : Nat} (h : At f p (w ++ c :: s)) (h0 : 0 < w.length) (hw : ∀ y ∈ w, isLr y) (hc : ¬ isLr c) (hL : p + w.length < L) : tkn f L p v = (1, p, p + w.length, v) := by
  refine tk_word h0 (fun j hj => ?_) ?_ hL
  · rw [h.l j hj, List.getD_eq_getElem?_getD, List.getElem?_eq_getElem hj]
    exact hw _ (List.getElem_mem _)
  · rw [h.r.hd]; exact hc
theorem isW_eq (h : At f p w0) : isW f (1, p, p + w0.length, v) w = (w0 = w) := by
  apply propext
  constructor
  · rintro ⟨-, h2, h3⟩
    dsimp only at h2 h3
    have hl : w0.length = w.length := by omega
    apply List.ext_getElem? 
    intro i
    by_cases hi : i < w0.length
    · have e1 := h i hi
      rw [h3 i (by omega)] at e1
      rw [List.getD_eq_getElem?_getD, List.getD_eq_getElem?_getD, List.getElem?_eq_getElem hi, List.getElem?_eq_getElem (by omega)] at e1
      rw [List.getElem?_eq_getElem hi, List.getElem?_eq_getElem (by omega)]
      simp at e1
      rw [e1]
    · rw [List.getElem?_eq_none (by omega), List.getElem?_eq_none (by omega)]
  · rintro rfl
    exact ⟨rfl, by dsimp only; omega, fun k hk => h k hk⟩
theorem nx_eq {k a e v : Nat} : nx f L (k, a, e, v) = tkn f L e v := rfl
end Tok
/-! the statements of the law's text -/
def nmW (k : Nat) : List Nat := [109, 97 + k]
def nmv (k : Nat) : Nat := (13 * 32 + (k + 1)) * 1048576
theorem nmQ_w {f : Nat → Nat} {p v k : Nat} (h : At f p (nmW k)) : nmQ f (1, p, p + 2, v) 6 = nmv k := by
  have h0 : f (p + 0) = 109 := h 0 (by simp [nmW])
  have h1 : f (p + 1) = 97 + k := h 1 (by simp [nmW])
  simp only [nmQ, nlx]
  rw [if_pos (show p + 0 < p + 2 by omega), if_pos (show p + 1 < p + 2 by omega), if_neg (show ¬ p + 2 < p + 2 by omega), if_neg (show ¬ p + 3 < p + 2 by omega), if_neg (show ¬ p + 4 < p + 2 by omega), if_neg (show ¬ p + 5 < p + 2 by omega), h0, h1]
  unfold nmv
  omega
/-- the names as the law gives them -/
def NmT (tn : Nat → Int32) (n : Nat) : Prop := ∀ i, i < n → tn (16 + i) = nI (nmv i)
theorem nmv_inj {i m : Nat} (hi : i < 6) (hm : m < 6) (h : nI (nmv i) = nI (nmv m)) : i = m := by
  have h2 := (nI_eq (by unfold nmv; omega) (by unfold nmv; omega)).mp h
  unfold nmv at h2
  omega
theorem fNm_no {tn : Nat → Int32} {m : Nat} (hm : m < 6) : ∀ n k, (∀ i, k ≤ i → i < k + n → i < m ∧ tn (16 + i) = nI (nmv i)) → fNm tn (nI (nmv m)) n k = -1
  | 0, k, _ => rfl
  | n + 1, k, h => by
    obtain ⟨h1, h2⟩ := h k (Nat.le_refl _) (by omega)
    rw [fNm, if_neg (fun e => by rw [h2] at e; have := nmv_inj (by omega) hm e; omega)]
    exact fNm_no hm n (k + 1) (fun i h3 h4 => h i (by omega) (by omega))
theorem fNm_yes {tn : Nat → Int32} {m : Nat} (hm : m < 6) : ∀ n k, k ≤ m → m < k + n → (∀ i, k ≤ i → i < k + n → i < 6 ∧ tn (16 + i) = nI (nmv i)) → fNm tn (nI (nmv m)) n k = nI m
  | 0, k, h1, h2, _ => by omega
  | n + 1, k, h1, h2, h => by
    obtain ⟨g1, g2⟩ := h k (Nat.le_refl _) (by omega)
    rw [fNm]
    by_cases e : k = m
    · subst e; rw [if_pos g2]
    · rw [if_neg (fun q => e (by rw [g2] at q; exact nmv_inj g1 hm q))]
      exact fNm_yes hm n (k + 1) (by omega) (by omega) (fun i h3 h4 => h i (by omega) (by omega))
def stSet (w x : Nat) : List Nat := txB 11 ++ (32 :: (txB (12 + w) ++ (32 :: (dgs x ++ [59]))))
def stMem (k p : Nat) : List Nat := txB 1 ++ (32 :: (nmW k ++ (32 :: (dgs p ++ [59]))))
def stDo (k σ i o : Nat) : List Nat := txB 2 ++ (32 :: (nmW k ++ (32 :: (txB (3 + σ) ++ (32 :: (dgs i ++ (32 :: (dgs o ++ [59]))))))))
def stSeal : List Nat := txB 9 ++ [59]
def stNum : List Nat → List Nat
  | [] => [59]
  | c :: cs => 32 :: (dgs c ++ stNum cs)
def stSta (cs : List Nat) : List Nat := txB 0 ++ stNum cs
theorem txB_l : ∀ i, i < 14 → 0 < (txB i).length ∧ ∀ y ∈ txB i, isLr y := by decide +kernel
theorem nmW_l {k : Nat} (h : k < 6) : ∀ y ∈ nmW k, isLr y := by
  intro y hy
  simp only [nmW, List.mem_cons, List.not_mem_nil, or_false] at hy
  rcases hy with rfl | rfl <;> constructor <;> omega
theorem ckI_ok {lo hi a e x : Nat} (h1 : lo ≤ x) (h2 : x ≤ hi) : ckI lo hi (2, a, e, x) = nI 0 := ckI_t.mpr ⟨rfl, h1, h2⟩
/-- a statement that is read -/
def RdS (s : List Nat) (r tn : Nat → Int32) (hs gs : Nat) (r' tn' : Nat → Int32) (hs' gs' : Nat) : Prop := ∀ (f : Nat → Nat) (L p v : Nat), At f p s → p + s.length ≤ L → ¬ (tkn f L p v).1 = 0 ∧ ∃ v', rdOne f L r tn hs gs (tkn f L p v) = .inr (r', tn', hs', gs', tkn f L (p + s.length) v')
section Stm
variable {r tn : Nat → Int32} {hs gs : Nat}
theorem dsp {x : Nat} : 0 < fNd x := by unfold fNd; split <;> (try split) <;> (try split) <;> omega
theorem rd_set {w x : Nat} (hw : w < 2) (hx : 1 ≤ x) (hx2 : x ≤ gSet w) (hg : gs.testBit w = false) : RdS (stSet w x) r tn hs gs (rSet r w x) tn hs (gs ||| 2 ^ w) := by
  intro f L p v hA hL
  have hx9 : x < 10000 := by unfold gSet at hx2; split at hx2 <;> omega
  unfold stSet at hA hL ⊢
  obtain ⟨t1, t2⟩ := txB_l 11 (by omega)
  obtain ⟨w1, w2⟩ := txB_l (12 + w) (by omega)
  simp only [List.length_append, List.length_cons, List.length_nil, dgs_len] at hL ⊢
  have hd := dsp (x := x)
  have e1 := tk_wd (v := v) hA t1 t2 (by omega) (L := L) (by omega)
  have hB := hA.r
  have hC := hB.tl
  have e2 := (tk_sp (v := v) hB.hd (L := L) (by omega)).trans (tk_wd hC w1 w2 (by omega) (by omega))
  have hD := hC.r
  have hE := hD.tl
  have e3 := (tk_sp (v := v) hD.hd (L := L) (by omega)).trans (tk_dgs hx9 hE (by omega) (by omega))
  have hF := hE.r
  rw [dgs_len] at hF
  have e4 := tk_semi (v := x) hF.one (L := L) (by omega)
  have i0 : isW f (1, p, p + (txB 11).length, v) (txB 0) = False := (isW_eq hA.l).trans (by decide)
  have i1 : isW f (1, p, p + (txB 11).length, v) (txB 1) = False := (isW_eq hA.l).trans (by decide)
  have i2 : isW f (1, p, p + (txB 11).length, v) (txB 2) = False := (isW_eq hA.l).trans (by decide)
  have i3 : isW f (1, p, p + (txB 11).length, v) (txB 9) = False := (isW_eq hA.l).trans (by decide)
  have i4 : isW f (1, p, p + (txB 11).length, v) (txB 10) = False := (isW_eq hA.l).trans (by decide)
  have i5 : isW f (1, p, p + (txB 11).length, v) (txB 11) = True := (isW_eq hA.l).trans (by decide)
  have hwi : wIx f (1, p + (txB 11).length + 1, p + (txB 11).length + 1 + (txB (12 + w)).length, v) Set2 0 = nI w := by
    simp only [wIx, isW_eq hC.l]
    rcases (by omega : w = 0 ∨ w = 1) with rfl | rfl
    · rw [if_pos rfl]
    · rw [if_neg (by decide), if_pos rfl]
  have hm1 : ¬ (nI w = -1) := by rcases (by omega : w = 0 ∨ w = 1) with rfl | rfl <;> decide
  refine ⟨by rw [e1]; exact Nat.one_ne_zero, x, ?_⟩
  have hc : (nI w).toNatClampNeg = w := nI_clamp (by omega)
  simp only [rdOne, rdOneE, rdStm, e1, i0, i1, i2, i3, i4, i5, if_true, if_false, rdSet, rdSet1, nx_eq, e2, hwi, hm1, hc, rdSet2, hg, Bool.false_eq_true, rdSet3, e3, ckI_ok hx hx2, e4]
  congr 6
  omega
theorem rd_mem {k p9 : Nat} (hk : k = nM r) (hk6 : k < 6) (hN : NmT tn (nM r)) (h1 : 1 ≤ p9) (h4 : p9 ≤ 4) : RdS (stMem k p9) r tn hs gs (rJ1 r (nM r) p9 0) (upd tn (16 + nM r) (nI (nmv k))) hs gs := by
  intro f L p v hA hL
  unfold stMem at hA hL ⊢
  obtain ⟨t1, t2⟩ := txB_l 1 (by omega)
  simp only [List.length_append, List.length_cons, List.length_nil, dgs_len, show (nmW k).length = 2 from rfl] at hL ⊢
  have hd := dsp (x := p9)
  have e1 := tk_wd (v := v) hA t1 t2 (by omega) (L := L) (by omega)
  have hB := hA.r
  have hC := hB.tl
  have e2 := (tk_sp (v := v) hB.hd (L := L) (by omega)).trans (tk_wd hC (show 0 < 2 by omega) (nmW_l hk6) (by omega) (show _ + 2 < L by omega))
  have hD := hC.r
  have hE := hD.tl
  have e3 := (tk_sp (v := v) hD.hd (L := L) (show _ + 2 < L by omega)).trans (tk_dgs (show p9 < 10000 by omega) hE (by omega) (show _ + 2 + 1 + fNd p9 < L by omega))
  have hF := hE.r
  rw [dgs_len] at hF
  have e4 := tk_semi (v := p9) hF.one (L := L) (show _ + 2 + 1 + fNd p9 < L by omega)
  have hq := nmQ_w (v := v) hC.l
  have i0 : isW f (1, p, p + (txB 1).length, v) (txB 0) = False := (isW_eq hA.l).trans (by decide)
  have i1 : isW f (1, p, p + (txB 1).length, v) (txB 1) = True := (isW_eq hA.l).trans (by decide)
  have hf : fnd f tn (nM r) (1, p + (txB 1).length + 1, p + (txB 1).length + 1 + 2, v) = -1 := by
    unfold fnd
    rw [hq]
    exact fNm_no hk6 _ _ (fun i _ h => ⟨by omega, hN i (by omega)⟩)
  have hnn : isN (1, p + (txB 1).length + 1, p + (txB 1).length + 1 + 2, v) = True := eq_true ⟨rfl, by dsimp only; omega⟩
  refine ⟨by rw [e1]; exact Nat.one_ne_zero, p9, ?_⟩
  have h6 : (nM r = 6) = False := eq_false (by omega)
  rw [show (nmW k).length = 2 from rfl] at e2 e3 e4
  simp only [rdOne, rdOneE, rdStm, e1, i0, i1, if_true, if_false, rdMem, h6, rdMem1, nx_eq, e2, hf, hnn, rdMem2, e3, ckI_ok h1 h4, hq, e4]
  congr 6
  omega
theorem rd_do {k σ i o : Nat} (hk : k < nM r) (h6 : nM r ≤ 6) (hN : NmT tn (nM r)) (hσ : σ < 6) (hi : i < 16) (ho : o < gOp σ) (h8 : nO r < 8) : RdS (stDo k σ i o) r tn hs gs (rGive r k σ i o) tn hs gs := by
  intro f L p v hA hL
  have ho9 : o < 10000 := by unfold gOp at ho; split at ho <;> omega
  unfold stDo at hA hL ⊢
  obtain ⟨t1, t2⟩ := txB_l 2 (by omega)
  obtain ⟨s1, s2⟩ := txB_l (3 + σ) (by omega)
  simp only [List.length_append, List.length_cons, List.length_nil, dgs_len, show (nmW k).length = 2 from rfl] at hL ⊢
  have hd := dsp (x := i)
  have hd2 := dsp (x := o)
  have e1 := tk_wd (v := v) hA t1 t2 (by omega) (L := L) (by omega)
  have hB := hA.r
  have hC := hB.tl
  have e2 := (tk_sp (v := v) hB.hd (L := L) (by omega)).trans (tk_wd hC (show 0 < 2 by omega) (nmW_l (by omega)) (by omega) (show _ + 2 < L by omega))
  have hD := hC.r
  have hE := hD.tl
  have e3 := (tk_sp (v := v) hD.hd (L := L) (show _ + 2 < L by omega)).trans (tk_wd hE s1 s2 (by omega) (show _ + 2 + 1 + (txB (3 + σ)).length < L by omega))
  have hF := hE.r
  have hG := hF.tl
  have e4 := (tk_sp (v := v) hF.hd (L := L) (show _ + 2 + 1 + (txB (3 + σ)).length < L by omega)).trans (tk_dgs (show i < 10000 by omega) hG (by omega) (show _ + 2 + 1 + (txB (3 + σ)).length + 1 + fNd i < L by omega))
  have hH := hG.r
  have hI := hH.tl
  rw [dgs_len] at hH hI
  have e5 := (tk_sp (v := i) hH.hd (L := L) (show _ + 2 + 1 + (txB (3 + σ)).length + 1 + fNd i < L by omega)).trans (tk_dgs ho9 hI (by omega) (show _ + 2 + 1 + (txB (3 + σ)).length + 1 + fNd i + 1 + fNd o < L by omega))
  have hJ := hI.r
  rw [dgs_len] at hJ
  have e6 := tk_semi (v := o) hJ.one (L := L) (show _ + 2 + 1 + (txB (3 + σ)).length + 1 + fNd i + 1 + fNd o < L by omega)
  have hq := nmQ_w (v := v) hC.l
  have i0 : isW f (1, p, p + (txB 2).length, v) (txB 0) = False := (isW_eq hA.l).trans (by decide)
  have i1 : isW f (1, p, p + (txB 2).length, v) (txB 1) = False := (isW_eq hA.l).trans (by decide)
  have i2 : isW f (1, p, p + (txB 2).length, v) (txB 2) = True := (isW_eq hA.l).trans (by decide)
  rw [show (nmW k).length = 2 from rfl] at e2 e3 e4 e5 e6 hE hF hG hH hI
  have hf : fnd f tn (nM r) (1, p + (txB 2).length + 1, p + (txB 2).length + 1 + 2, v) = nI k := by
    unfold fnd
    rw [hq]
    exact fNm_yes (by omega) _ _ (by omega) (by omega) (fun i _ h => ⟨by omega, hN i (by omega)⟩)
  have hk1 : ¬ nI k = -1 := by rcases (by omega : k = 0 ∨ k = 1 ∨ k = 2 ∨ k = 3 ∨ k = 4 ∨ k = 5) with rfl | rfl | rfl | rfl | rfl | rfl <;> decide
  have hck : ckM f tn (nM r) (1, p + (txB 2).length + 1, p + (txB 2).length + 1 + 2, v) = nI 0 := ckM_t.mpr ⟨⟨rfl, by dsimp only; omega⟩, by rw [hf]; exact hk1⟩
  have hwi : wIx f (1, p + (txB 2).length + 1 + 2 + 1, p + (txB 2).length + 1 + 2 + 1 + (txB (3 + σ)).length, v) Sort6 0 = nI σ := by
    simp only [wIx, isW_eq hE.l]
    rcases (by omega : σ = 0 ∨ σ = 1 ∨ σ = 2 ∨ σ = 3 ∨ σ = 4 ∨ σ = 5) with rfl | rfl | rfl | rfl | rfl | rfl
    · rw [if_pos rfl]
    · rw [if_neg (by decide), if_pos rfl]
    · rw [if_neg (by decide), if_neg (by decide), if_pos rfl]
    · rw [if_neg (by decide), if_neg (by decide), if_neg (by decide), if_pos rfl]
    · rw [if_neg (by decide), if_neg (by decide), if_neg (by decide), if_neg (by decide), if_pos rfl]
    · rw [if_neg (by decide), if_neg (by decide), if_neg (by decide), if_neg (by decide), if_neg (by decide), if_pos rfl]
  have hσ1 : ¬ nI σ = -1 := by rcases (by omega : σ = 0 ∨ σ = 1 ∨ σ = 2 ∨ σ = 3 ∨ σ = 4 ∨ σ = 5) with rfl | rfl | rfl | rfl | rfl | rfl <;> decide
  refine ⟨by rw [e1]; exact Nat.one_ne_zero, o, ?_⟩
  have h8' : (nO r = 8) = False := eq_false (by omega)
  have c1 : (nI k).toNatClampNeg = k := nI_clamp (by omega)
  have c2 : (nI σ).toNatClampNeg = σ := nI_clamp (by omega)
  simp only [rdOne, rdOneE, rdStm, e1, i0, i1, i2, if_true, if_false, rdCom, h8', rdCom1, nx_eq, e2, hck, hf, c1, rdCom2, e3, hwi, hσ1, c2, rdCom3, e4, ckI_ok (Nat.zero_le i) (show i ≤ 15 by omega), rdCom4, e5, ckI_ok (Nat.zero_le o) (show o ≤ gOp σ - 1 by omega), e6]
  congr 6
  omega
theorem rd_seal (hT : nT r < 40) : RdS stSeal r tn hs gs (rSeal r) tn hs gs := by
  intro f L p v hA hL
  unfold stSeal at hA hL ⊢
  obtain ⟨t1, t2⟩ := txB_l 9 (by omega)
  simp only [List.length_append, List.length_cons, List.length_nil] at hL ⊢
  have e1 := tk_wd (v := v) hA t1 t2 (by omega) (L := L) (by omega)
  have hB := hA.r
  have e2 := tk_semi (v := v) hB.one (L := L) (by omega)
  have i0 : isW f (1, p, p + (txB 9).length, v) (txB 0) = False := (isW_eq hA.l).trans (by decide)
  have i1 : isW f (1, p, p + (txB 9).length, v) (txB 1) = False := (isW_eq hA.l).trans (by decide)
  have i2 : isW f (1, p, p + (txB 9).length, v) (txB 2) = False := (isW_eq hA.l).trans (by decide)
  have i3 : isW f (1, p, p + (txB 9).length, v) (txB 9) = True := (isW_eq hA.l).trans (by decide)
  refine ⟨by rw [e1]; exact Nat.one_ne_zero, v, ?_⟩
  have h4 : (nT r = 40) = False := eq_false (by omega)
  simp only [rdOne, rdOneE, rdStm, e1, i0, i1, i2, i3, if_true, if_false, rdSea, h4, nx_eq, e2]
  congr 6
def updL (tn : Nat → Int32) : Nat → List Nat → (Nat → Int32)
  | _, [] => tn
  | n, c :: cs => updL (upd tn n (nI c)) (n + 1) cs
theorem st_num {f : Nat → Nat} {L : Nat} : ∀ (cs : List Nat) (F n p v c : Nat) (tn : Nat → Int32), (∀ y ∈ c :: cs, y < 10000) → At f p (dgs c ++ stNum cs) → p + fNd c + (stNum cs).length ≤ L → n + cs.length < 16 → cs.length < F → ∃ v', stB f L F n tn (tkn f L p v) = .inr (updL tn n (c :: cs), tkn f L (p + fNd c + (stNum cs).length - 1) v') ∧ f (p + fNd c + (stNum cs).length - 1) = 59 := by
  intro cs
  induction cs with
  | nil =>
    intro F n p v c tn hc hA hL hn hF
    obtain ⟨F, rfl⟩ : ∃ F', F = F' + 1 := ⟨F - 1, by simp at hF; omega⟩
    have hx := hc c (List.mem_cons_self)
    have e1 := tk_dgs (v := v) (c := 59) (s := []) hx hA (by omega) (L := L) (by simp [stNum] at hL; omega)
    have hB := hA.r
    rw [dgs_len] at hB
    simp only [stNum, List.length_cons, List.length_nil] at hL hB ⊢
    have e2 := tk_semi (v := c) hB.one (L := L) (by omega)
    refine ⟨c, ?_, by rw [show p + fNd c + (0 + 1) - 1 = p + fNd c by omega]; exact hB.one⟩
    rw [e1, stB, if_pos (ckI_ok (Nat.zero_le c) (show c ≤ 9999 by omega)), if_neg (by simp at hn; omega), nx_eq, e2, if_neg (show ¬ (3 : Nat) = 2 by omega), show p + fNd c + (0 + 1) - 1 = p + fNd c by omega, e2]
    rfl
  | cons c2 cs ih =>
    intro F n p v c tn hc hA hL hn hF
    obtain ⟨F, rfl⟩ : ∃ F', F = F' + 1 := ⟨F - 1, by simp at hF; omega⟩
    have hx := hc c (List.mem_cons_self)
    simp only [stNum, List.length_cons, List.length_append, dgs_len] at hL hn hF hA ⊢
    have hs : 0 < (stNum cs).length := by cases cs <;> simp [stNum]
    have e1 := tk_dgs (v := v) hx hA (by omega) (L := L) (by omega)
    have hB := hA.r
    rw [dgs_len] at hB
    have hC := hB.tl
    have e2 := tk_sp (v := c) hB.hd (L := L) (by omega)
    have hx2 := hc c2 (List.mem_cons_of_mem _ List.mem_cons_self)
    have e3 : (tkn f L (p + fNd c + 1) c).1 = 2 := by
      cases cs with
      | nil => rw [tk_dgs (c := 59) (s := []) hx2 hC (by omega) (by simp [stNum] at hL; omega)]
      | cons c3 cs => rw [tk_dgs hx2 hC (by omega) (by simp [stNum, dgs_len] at hL; omega)]
    obtain ⟨v', h1, h2⟩ := ih F (n + 1) (p + fNd c + 1) c c2 (upd tn n (nI c)) (fun y hy => hc y (List.mem_cons_of_mem _ hy)) hC (by omega) (by omega) (by omega)
    have e9 : p + fNd c + 1 + fNd c2 + (stNum cs).length - 1 = p + fNd c + (fNd c2 + (stNum cs).length + 1) - 1 := by omega
    refine ⟨v', ?_, by rw [← e9]; exact h2⟩
    rw [e1, stB, if_pos (ckI_ok (Nat.zero_le c) (show c ≤ 9999 by omega)), if_neg (by omega), nx_eq, e2, if_pos e3, ← e9]
    exact h1
theorem rd_sta {c : Nat} {cs : List Nat} (hc : ∀ y ∈ c :: cs, y < 10000) (hl : cs.length < 16) (h0 : hs = 0) : RdS (stSta (c :: cs)) r tn hs gs r (updL tn 0 (c :: cs)) 1 gs := by
  intro f L p v hA hL
  unfold stSta at hA hL ⊢
  obtain ⟨t1, t2⟩ := txB_l 0 (by omega)
  simp only [stNum, List.length_append, List.length_cons, dgs_len] at hL ⊢
  have hs9 : 0 < (stNum cs).length := by cases cs <;> simp [stNum]
  have hA' : At f p (txB 0 ++ (32 :: (dgs c ++ stNum cs))) := hA
  have e1 := tk_wd (v := v) hA' t1 t2 (by omega) (L := L) (by omega)
  have hB := hA'.r
  have hC := hB.tl
  have e2 := tk_sp (v := v) hB.hd (L := L) (by omega)
  obtain ⟨v', h1, h2⟩ := st_num (f := f) (L := L) cs 17 0 (p + (txB 0).length + 1) v c tn hc hC (by omega) (by omega) (by omega)
  have e3 := tk_semi (v := v') h2 (L := L) (by omega)
  have i0 : isW f (1, p, p + (txB 0).length, v) (txB 0) = True := (isW_eq hA'.l).trans (by decide)
  refine ⟨by rw [e1]; exact Nat.one_ne_zero, v', ?_⟩
  have hz : (hs = 1) = False := eq_false (by omega)
  simp only [rdOne, rdOneE, rdStm, e1, i0, if_true, rdSta, hz, if_false, nx_eq, e2, h1, rdStaE, e3]
  congr 6
  omega
end Stm
/-! a whole text -/
def RnP (l : List Nat) (n : Nat) (r tn : Nat → Int32) (hs gs : Nat) : Prop := ∀ (f : Nat → Nat) (L : Nat), At f 0 l → l.length ≤ L → ∀ v, ∃ v', ∀ F k, rdAll f L (F + n) k (rZ, tZ (fun _ => 0), 0, 0, tkn f L 0 v) = rdAll f L F (k + n) (r, tn, hs, gs, tkn f L l.length v')
theorem RnP.nil : RnP [] 0 rZ (tZ (fun _ => 0)) 0 0 := fun f L _ _ v => ⟨v, fun F k => rfl⟩
theorem RnP.add {l s : List Nat} {n hs gs hs' gs' : Nat} {r tn r' tn' : Nat → Int32} (h : RnP l n r tn hs gs) (h' : RdS s r tn hs gs r' tn' hs' gs') : RnP (l ++ s) (n + 1) r' tn' hs' gs' := by
  intro f L hA hL v
  rw [List.length_append] at hL
  obtain ⟨v1, h1⟩ := h f L hA.l (by omega) v
  have hB := hA.r
  rw [Nat.zero_add] at hB
  obtain ⟨h2, v2, h3⟩ := h' f L l.length v1 hB hL
  refine ⟨v2, fun F k => ?_⟩
  rw [show F + (n + 1) = (F + 1) + n by omega, h1 (F + 1) k, rdAll]
  dsimp only
  rw [if_neg h2, h3]
  dsimp only
  rw [show k + n + 1 = k + (n + 1) by omega, List.length_append]
theorem RnP.end {l : List Nat} {n hs gs : Nat} {r tn : Nat → Int32} {f : Nat → Nat} (h : RnP l n r tn hs gs) (hA : At f 0 l) (hn : n ≤ l.length) (v : Nat) : ∃ v', rdAll f l.length (l.length + 1) 0 (rZ, tZ (fun _ => 0), 0, 0, tkn f l.length 0 v) = .inr (n, r, tn, hs, gs, (0, l.length, l.length, v')) := by
  obtain ⟨v', h1⟩ := h f l.length hA (Nat.le_refl _) v
  refine ⟨v', ?_⟩
  have h2 := h1 (l.length - n + 1) 0
  rw [show l.length - n + 1 + n = l.length + 1 by omega] at h2
  rw [h2, tk_end (Nat.le_refl _), rdAll, if_pos rfl, Nat.zero_add]

