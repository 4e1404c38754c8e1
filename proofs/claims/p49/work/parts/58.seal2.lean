/-! sealing -/
def cA (au : Nat → Int32) (a : Nat) : Nat → Nat
  | 0 => 0
  | k + 1 => cA au a k + (if au k = nI a then 1 else 0)
def cT (au : Nat → Int32) (o : Nat) : Nat → Nat
  | 0 => 0
  | m + 1 => cT au o m + cA au m o
def pN (f : Nat → Nat) (N k : Nat) : Nat → Nat := fun x => if x = N then k else f x
theorem pN_s {f : Nat → Nat} {N k : Nat} : pN f N k N = k := if_pos rfl
theorem pN_n {f : Nat → Nat} {N k x : Nat} (h : x ≠ N) : pN f N k x = f x := if_neg h
def selI (au : Nat → Int32) (m N : Nat) (g : Nat → Nat) : Nat → (Nat → Nat)
  | 0 => g
  | k + 1 => if au k = nI m then pN (selI au m N g k) (N + cA au m k) k else selI au m N g k
def fO (au : Nat → Int32) (o : Nat) : Nat → (Nat → Nat)
  | 0 => fun _ => 0
  | m + 1 => selI au m (cT au o m) (fO au o m) o
theorem cA_mono (au : Nat → Int32) (a : Nat) : ∀ n k, cA au a k ≤ cA au a (k + n)
  | 0, k => Nat.le_refl _
  | n + 1, k => by
    have := cA_mono au a n k
    rw [← Nat.add_assoc, cA]
    omega
theorem cT_mono (au : Nat → Int32) (o : Nat) : ∀ n m, cT au o m ≤ cT au o (m + n)
  | 0, m => Nat.le_refl _
  | n + 1, m => by
    have := cT_mono au o n m
    rw [← Nat.add_assoc, cT]
    omega
theorem cT_6 (au : Nat → Int32) : ∀ o, (∀ k, k < o → ∃ a, a < 6 ∧ au k = nI a) → cT au o 6 = o
  | 0, _ => by simp [cT, cA]
  | o + 1, h => by
    have ih := cT_6 au o (fun k hk => h k (by omega))
    obtain ⟨a, ha, e⟩ := h o (by omega)
    simp only [cT, cA, e] at ih ⊢
    have q : ∀ b, b < 6 → (if nI a = nI b then 1 else 0 : Nat) = if a = b then 1 else 0 := fun b hb => by
      by_cases hab : a = b
      · rw [if_pos hab, if_pos (by rw [hab])]
      · rw [if_neg hab, if_neg (fun z => hab ((nI_eq (by omega) (by omega)).mp z))]
    rw [q 0 (by omega), q 1 (by omega), q 2 (by omega), q 3 (by omega), q 4 (by omega), q 5 (by omega)]
    rcases (by omega : a = 0 ∨ a = 1 ∨ a = 2 ∨ a = 3 ∨ a = 4 ∨ a = 5) with rfl | rfl | rfl | rfl | rfl | rfl <;> simp <;> omega
theorem cN_le {au : Nat → Int32} {o m k : Nat} (h : ∀ k, k < o → ∃ a, a < 6 ∧ au k = nI a) (hm : m < 6) (hk : k < o) (ha : au k = nI m) : cT au o m + cA au m k < o := by
  have h1 := cT_6 au o h
  have h2 := cT_mono au o (6 - (m + 1)) (m + 1)
  rw [show m + 1 + (6 - (m + 1)) = 6 by omega, h1, cT] at h2
  have h3 := cA_mono au m (o - (k + 1)) (k + 1)
  rw [show k + 1 + (o - (k + 1)) = o by omega, cA, if_pos ha] at h3
  omega
theorem selI_lt {au : Nat → Int32} {m N o : Nat} {g : Nat → Nat} (h : ∀ x, g x = 0 ∨ g x < o) : ∀ k, k ≤ o → ∀ x, selI au m N g k x = 0 ∨ selI au m N g k x < o
  | 0, _, x => h x
  | k + 1, hk, x => by
    have ih := selI_lt (au := au) (m := m) (N := N) h k (by omega) x
    rw [selI]
    split
    · unfold pN
      split
      · exact Or.inr (by omega)
      · exact ih
    · exact ih
theorem fO_lt (au : Nat → Int32) (o : Nat) : ∀ m x, fO au o m x = 0 ∨ fO au o m x < o
  | 0, x => Or.inl rfl
  | m + 1, x => selI_lt (fO_lt au o m) o (Nat.le_refl _) x
def auR (r : Nat → Int32) (k : Nat) : Int32 := r (1709 + 4 * k)
def sF (r : Nat → Int32) : Nat → Nat := fO (auR r) (nO r) 6
def rSeal (r : Nat → Int32) : Nat → Int32 := fun x => if 1708 ≤ x ∧ x < 1741 then nI 0 else if x = 387 then nI (nT r + 1) else if x = 388 + 33 * nT r then nI (nO r) else if 389 + 33 * nT r ≤ x ∧ x < 389 + 33 * nT r + 4 * nO r then r (1709 + 4 * sF r ((x - (389 + 33 * nT r)) / 4) + (x - (389 + 33 * nT r)) % 4) else r x
section SealRow
variable {r : Nat → Int32} {x k w t : Nat}
theorem rSeal_lo (h : x < 387) : rSeal r x = r x := by
  unfold rSeal
  rw [if_neg (by omega), if_neg (by omega), if_neg (by omega), if_neg (by omega)]
theorem rSeal_hi (hT : nT r < 40) (hO : nO r ≤ 8) (h : 1741 ≤ x) : rSeal r x = r x := by
  unfold rSeal
  rw [if_neg (by omega), if_neg (by omega), if_neg (by omega), if_neg (by omega)]
theorem rSeal_T : rSeal r 387 = nI (nT r + 1) := by
  unfold rSeal
  rw [if_neg (by omega), if_pos rfl]
theorem rSeal_z (hT : nT r < 40) : rSeal r (388 + 33 * nT r) = nI (nO r) := by
  unfold rSeal
  rw [if_neg (by omega), if_neg (by omega), if_pos rfl]
theorem rSeal_o (h1 : 1708 ≤ x) (h2 : x < 1741) : rSeal r x = nI 0 := by
  unfold rSeal
  rw [if_pos ⟨h1, h2⟩]
theorem rSeal_old (hT : nT r < 40) (ht : t < nT r) (hx : x < 33) : rSeal r (388 + 33 * t + x) = r (388 + 33 * t + x) := by
  unfold rSeal
  rw [if_neg (by omega), if_neg (by omega), if_neg (by omega), if_neg (by omega)]
theorem rSeal_new (hT : nT r < 40) (hO : nO r ≤ 8) (hk : k < nO r) (hw : w < 4) : rSeal r (388 + 33 * nT r + 1 + 4 * k + w) = r (1709 + 4 * sF r k + w) := by
  unfold rSeal
  rw [if_neg (by omega), if_neg (by omega), if_neg (by omega), if_pos (by omega), show (388 + 33 * nT r + 1 + 4 * k + w - (389 + 33 * nT r)) / 4 = k by omega, show (388 + 33 * nT r + 1 + 4 * k + w - (389 + 33 * nT r)) % 4 = w by omega]
theorem sF_lt (hk : 0 < nO r) : sF r k < nO r := by
  rcases fO_lt (auR r) (nO r) 6 k with h | h
  · unfold sF; omega
  · exact h
theorem ok_seal (h : okR r) (hN : RN2 r) (hT : nT r < 40) : okR (rSeal r) ∧ RN2 (rSeal r) ∧ SLe r (rSeal r) ∧ nM (rSeal r) = nM r ∧ nT (rSeal r) = nT r + 1 ∧ nO (rSeal r) = 0 ∧ nF (rSeal r) = nF r := by
  have hO := h
  obtain ⟨o2, o6, o387, oT, o1708, oO, o1741, oF, o1, oq1, oq6, o0, ol1, ol40, oV, oN1, oP1, oF1⟩ := h
  have n2 : nM (rSeal r) = nM r := by unfold nM; rw [rSeal_lo (by omega)]
  have n3 : nT (rSeal r) = nT r + 1 := by unfold nT; rw [rSeal_T]; exact nI_clamp (by omega)
  have n4 : nO (rSeal r) = 0 := by unfold nO; rw [rSeal_o (by omega) (by omega)]; rfl
  have n5 : nF (rSeal r) = nF r := by unfold nF; rw [rSeal_hi hT oO (by omega)]
  have n6 : nQ (rSeal r) = nQ r := by unfold nQ; rw [rSeal_lo (by omega)]
  have n7 : nL (rSeal r) = nL r := by unfold nL; rw [rSeal_lo (by omega)]
  have ev : ∀ m, m < 6 → ∀ k, k < 64 → rW (rSeal r) m k = rW r m k := fun m hm k hk => rSeal_lo (by omega)
  have hz : ∀ t, t < nT r → nZ (rSeal r) t = nZ r t := fun t ht => by
    have := rSeal_old hT ht (show 0 < 33 by omega)
    unfold nZ; rw [Nat.add_zero] at this; rw [this]
  have hzT : nZ (rSeal r) (nT r) = nO r := by unfold nZ; rw [rSeal_z hT, nI_clamp (by omega)]
  refine ⟨⟨by rw [n2, rSeal_lo (by omega)]; exact o2, by omega, by rw [n3]; exact rSeal_T, by omega, by rw [n4]; exact rSeal_o (by omega) (by omega), by omega, by rw [n5, rSeal_hi hT oO (by omega)]; exact o1741, by omega, by rw [n6, rSeal_lo (by omega)]; exact o1, by omega, by omega, by rw [n7, rSeal_lo (by omega)]; exact o0, by omega, by omega, ?_, ?_, ⟨?_, ?_, ?_⟩, ?_⟩, ⟨?_, ?_, ?_⟩, Or.inl (by omega), n2, n3, n4, n5⟩
  · intro m hm
    rw [n2] at hm
    rw [ev m (by omega) 2 (by omega), ev m (by omega) 6 (by omega), ev m (by omega) 1 (by omega)]
    exact oV m hm
  · intro m hm
    rw [n2] at hm
    obtain ⟨g1, g2, g3⟩ := oN1 m hm
    rw [n3, ev m (by omega) 1 (by omega), ev m (by omega) 0 (by omega)]
    exact ⟨Int32.le_trans g1 (nI_le (by omega) (by omega)), g2, fun c hc => by rw [ev m (by omega) _ (by omega)]; exact g3 c hc⟩
  · intro t ht
    rw [n3] at ht
    by_cases htT : t < nT r
    · obtain ⟨z, hz, g1, g2⟩ := oP1.1 t htT
      have e0 := rSeal_old hT htT (show 0 < 33 by omega)
      rw [Nat.add_zero] at e0
      refine ⟨z, hz, by rw [e0]; exact g1, okCmd_eq g2 (fun k hk w hw => ?_)⟩
      unfold mCmd
      rw [Nat.add_assoc, Nat.add_assoc, rSeal_old hT htT (by omega)]
    · have htT2 : t = nT r := by omega
      subst htT2
      refine ⟨nO r, oO, rSeal_z hT, fun k hk => ?_⟩
      obtain ⟨σ, c, g1, g2, g3⟩ := oP1.2.1 (sF r k) (sF_lt (by omega))
      exact ⟨σ, c, (rSeal_new hT oO hk (by omega)).trans g1, (rSeal_new hT oO hk (by omega)).trans g2, by show okC σ c (rSeal r (388 + 33 * nT r + 1 + 4 * k + 3)); rw [rSeal_new hT oO hk (by omega)]; exact g3⟩
  · intro k hk; rw [n4] at hk; omega
  · intro k hk; rw [n4] at hk; omega
  · intro k hk
    rw [n5] at hk
    rw [rSeal_hi hT oO (by omega), rSeal_hi hT oO (by omega), rSeal_hi hT oO (by omega), rSeal_hi hT oO (by omega)]
    exact oF1 k hk
  · intro x hx
    rw [rSeal_hi hT oO (by omega)]
    exact hN.1 x hx
  · intro t ht k hk
    rw [n3] at ht
    by_cases htT : t < nT r
    · rw [hz t htT] at hk
      have h8 := (okP_z oP1 htT).2.1
      obtain ⟨v, hv, e⟩ := hN.2.1 t htT k hk
      refine ⟨v, hv, ?_⟩
      unfold mCmd at e ⊢
      rw [Nat.add_assoc, Nat.add_assoc, rSeal_old hT htT (by omega), ← Nat.add_assoc, ← Nat.add_assoc]
      exact e
    · have htT2 : t = nT r := by omega
      subst htT2
      rw [hzT] at hk
      obtain ⟨v, hv, e⟩ := hN.2.2 (sF r k) (sF_lt (by omega))
      exact ⟨v, hv, (rSeal_new hT oO hk (by omega)).trans e⟩
  · intro k hk; rw [n4] at hk; omega
end SealRow
section SealC
variable {d : Nat} {Q : Po} {μ : Mu} {s c m n q i j k t z u σ o : Nat} {x y g v w : Int32} {r tn : Nat → Int32} {pr : Nat → Nat → Int32} {l6 : Option Value}
/-- the order, when some authors are through -/
def ordF (old : Nat → Int32) (T N : Nat) (f : Nat → Nat) : Nat → Int32 := fun x => if 8 * T ≤ x ∧ x < 8 * T + N then nI (4 * (8 * T + f (x - 8 * T))) else old x
theorem ordF_s {old : Nat → Int32} {T N k : Nat} {f : Nat → Nat} : upd (ordF old T N f) (8 * T + N) (nI (4 * (8 * T + k))) = ordF old T (N + 1) (pN f N k) := by
  funext x
  unfold upd ordF
  by_cases h : x = 8 * T + N
  · rw [h, if_pos rfl, if_pos (by omega), show 8 * T + N - 8 * T = N by omega, pN_s]
  · rw [if_neg h]
    by_cases h2 : 8 * T ≤ x ∧ x < 8 * T + N
    · rw [if_pos h2, if_pos (by omega), pN_n (by omega)]
    · rw [if_neg h2, if_neg (by omega)]
theorem ordF_0 {old : Nat → Int32} {T : Nat} {f : Nat → Nat} : ordF old T 0 f = old := funext fun x => if_neg (by omega)
theorem s_66 {μ1 : Mu} (hS : ScS μ1 c) (hT : t < 40) (hn : n ≤ 8) (au : Nat → Int32) (hau : ∀ k, k < n → mI μ1 (c + 3) (4 * (8 * t + k)) = au k) (h6 : ∀ k, k < n → ∃ a, a < 6 ∧ au k = nI a) : Ev (d + 1) 66 [.ref c, .int (nI t), .int (nI n)] μ1 Q = Q (some none) (uA (uI μ1 (c + 2) t (nI n)) (c + 4) (ordF (mI μ1 (c + 4)) t n (fO au n 6))) := by
  obtain ⟨r0, r1, r2, r3, r4, r5, r6, r7, r8, r9⟩ := hS
  have e8 : t * 8 = 8 * t := by omega
  have outer : ∀ g m l5 l6, m + g = 6 → EM 66 d 15 [some (.ref c), some (.int (nI t)), some (.int (nI n)), some (.int (nI (8 * t + cT au n m))), some (.int (nI m)), l5, l6] [] (uA (uI μ1 (c + 2) t (nI n)) (c + 4) (ordF (mI μ1 (c + 4)) t (cT au n m) (fO au n m))) (0, 0) Q = Q (some none) (uA (uI μ1 (c + 2) t (nI n)) (c + 4) (ordF (mI μ1 (c + 4)) t n (fO au n 6))) := by
    intro g
    induction g with
    | zero =>
      intro m l5 l6 hm
      obtain rfl : m = 6 := by omega
      rw [e_66_15, cT_6 au n h6]
      simp (disch := first | omega | rfl) only [e_66_0, e_66_1, e_66_4, e_66_5, e_66_6, e_66_7, e_66_8, e_66_10, e_66_11, e_66_12, e_66_13, e_66_17, e_66_19, e_66_22, e_66_23, e_66_27, e_66_28, e_66_31, e_66_32, e_66_34, e_66_35, e_66_37, e_66_38, e_66_39, e_66_40, e_66_42, e_66_43, e_66_46, e_66_48, e_66_49, e_66_51, e_66_54, e_66_55, e_66_58, e_66_59, e_66_61, e_66_62, e_66_65, e_66_68, e_66_71, e_66_74, e_66_77, ge1, ule_t, true_or, or_true, nI_add, nI_mul, nI_sub, nI_clamp, nI_lt_t, nI_lt_f, nI_le_t, nI_le_f, nI_eq_t, nI_eq_f, vp_nI, tI, fI, not_true, not_false_iff, true_and, and_true, Classical.not_not, mS_uI, mS_uA, mS_uJ, mS_uR, mS_uX, mR_uI, mR_uA, mR_uJ, mR_uX, mX_uI, mX_uA, mX_uJ, mX_uR, mI_s, mI_n, mI_A, mI_An, mI_uJ, mI_uR, mI_uX, mJ_uI, mJ_uA, mJ_uR, mJ_uX, onR_s, kC_v, kC_n, kC_t]
    | succ g ihg =>
      intro m l5 l6 hm
      have inner : ∀ f k l6, k + f = n → EM 66 d 25 [some (.ref c), some (.int (nI t)), some (.int (nI n)), some (.int (nI (8 * t + (cT au n m + cA au m k)))), some (.int (nI m)), some (.int (nI k)), l6] [] (uA (uI μ1 (c + 2) t (nI n)) (c + 4) (ordF (mI μ1 (c + 4)) t (cT au n m + cA au m k) (selI au m (cT au n m) (fO au n m) k))) (0, 0) Q = Q (some none) (uA (uI μ1 (c + 2) t (nI n)) (c + 4) (ordF (mI μ1 (c + 4)) t n (fO au n 6))) := by
        intro f
        induction f with
        | zero =>
          intro k l6 hk
          obtain rfl : k = n := by omega
          rw [e_66_25]
          simp (disch := first | omega | rfl) only [e_66_0, e_66_1, e_66_4, e_66_5, e_66_6, e_66_7, e_66_8, e_66_10, e_66_11, e_66_12, e_66_13, e_66_17, e_66_19, e_66_22, e_66_23, e_66_27, e_66_28, e_66_31, e_66_32, e_66_34, e_66_35, e_66_37, e_66_38, e_66_39, e_66_40, e_66_42, e_66_43, e_66_46, e_66_48, e_66_49, e_66_51, e_66_54, e_66_55, e_66_58, e_66_59, e_66_61, e_66_62, e_66_65, e_66_68, e_66_71, e_66_74, e_66_77, ge1, ule_t, true_or, or_true, nI_add, nI_mul, nI_sub, nI_clamp, nI_lt_t, nI_lt_f, nI_le_t, nI_le_f, nI_eq_t, nI_eq_f, vp_nI, tI, fI, not_true, not_false_iff, true_and, and_true, Classical.not_not, mS_uI, mS_uA, mS_uJ, mS_uR, mS_uX, mR_uI, mR_uA, mR_uJ, mR_uX, mX_uI, mX_uA, mX_uJ, mX_uR, mI_s, mI_n, mI_A, mI_An, mI_uJ, mI_uR, mI_uX, mJ_uI, mJ_uA, mJ_uR, mJ_uX, onR_s, kC_v, kC_n, kC_t]
          exact ihg (m + 1) _ _ (by omega)
        | succ f ih =>
          intro k l6 hk
          rw [e_66_25]
          have e7 : (8 * t + k) * 4 = 4 * (8 * t + k) := by omega
          have ha := hau k (by omega)
          have hi := fun l6 => ih (k + 1) l6 (by omega)
          by_cases hm2 : au k = nI m
          · have hle := cN_le h6 (show m < 6 by omega) (show k < n by omega) hm2
            have c1 : cA au m (k + 1) = cA au m k + 1 := by rw [cA, if_pos hm2]
            have c2 : selI au m (cT au n m) (fO au n m) (k + 1) = pN (selI au m (cT au n m) (fO au n m) k) (cT au n m + cA au m k) k := by rw [selI, if_pos hm2]
            simp only [c1, c2, ← Nat.add_assoc] at hi
            simp (disch := first | omega | rfl) only [e_66_0, e_66_1, e_66_4, e_66_5, e_66_6, e_66_7, e_66_8, e_66_10, e_66_11, e_66_12, e_66_13, e_66_17, e_66_19, e_66_22, e_66_23, e_66_27, e_66_28, e_66_31, e_66_32, e_66_34, e_66_35, e_66_37, e_66_38, e_66_39, e_66_40, e_66_42, e_66_43, e_66_46, e_66_48, e_66_49, e_66_51, e_66_54, e_66_55, e_66_58, e_66_59, e_66_61, e_66_62, e_66_65, e_66_68, e_66_71, e_66_74, e_66_77, r1, r2, r3, r4, r5, r6, r7, r8, r9, ge1, ule_t, true_or, or_true, nI_add, nI_mul, nI_sub, nI_clamp, nI_lt_t, nI_lt_f, nI_le_t, nI_le_f, nI_eq_t, nI_eq_f, vp_nI, tI, fI, not_true, not_false_iff, true_and, and_true, Classical.not_not, mS_uI, mS_uA, mS_uJ, mS_uR, mS_uX, mR_uI, mR_uA, mR_uJ, mR_uX, mX_uI, mX_uA, mX_uJ, mX_uR, mI_s, mI_n, mI_A, mI_An, mI_uJ, mI_uR, mI_uX, mJ_uI, mJ_uA, mJ_uR, mJ_uX, onR_s, kC_v, kC_n, kC_t, e8, e7, ha, hm2, uIA, ordF_s, Nat.add_assoc]
            simp only [Nat.add_assoc] at hi
            exact hi _
          · have c1 : cA au m (k + 1) = cA au m k := by rw [cA, if_neg hm2]; rfl
            have c2 : selI au m (cT au n m) (fO au n m) (k + 1) = selI au m (cT au n m) (fO au n m) k := by rw [selI, if_neg hm2]
            simp only [c1, c2] at hi
            simp (disch := first | omega | rfl) only [e_66_0, e_66_1, e_66_4, e_66_5, e_66_6, e_66_7, e_66_8, e_66_10, e_66_11, e_66_12, e_66_13, e_66_17, e_66_19, e_66_22, e_66_23, e_66_27, e_66_28, e_66_31, e_66_32, e_66_34, e_66_35, e_66_37, e_66_38, e_66_39, e_66_40, e_66_42, e_66_43, e_66_46, e_66_48, e_66_49, e_66_51, e_66_54, e_66_55, e_66_58, e_66_59, e_66_61, e_66_62, e_66_65, e_66_68, e_66_71, e_66_74, e_66_77, r1, r2, r3, r4, r5, r6, r7, r8, r9, ge1, ule_t, true_or, or_true, nI_add, nI_mul, nI_sub, nI_clamp, nI_lt_t, nI_lt_f, nI_le_t, nI_le_f, nI_eq_t, nI_eq_f, vp_nI, tI, fI, not_true, not_false_iff, true_and, and_true, Classical.not_not, mS_uI, mS_uA, mS_uJ, mS_uR, mS_uX, mR_uI, mR_uA, mR_uJ, mR_uX, mX_uI, mX_uA, mX_uJ, mX_uR, mI_s, mI_n, mI_A, mI_An, mI_uJ, mI_uR, mI_uX, mJ_uI, mJ_uA, mJ_uR, mJ_uX, onR_s, kC_v, kC_n, kC_t, e8, e7, ha, hm2]
            exact hi _
      rw [e_66_15]
      simp (disch := first | omega | rfl) only [e_66_0, e_66_1, e_66_4, e_66_5, e_66_6, e_66_7, e_66_8, e_66_10, e_66_11, e_66_12, e_66_13, e_66_17, e_66_19, e_66_22, e_66_23, e_66_27, e_66_28, e_66_31, e_66_32, e_66_34, e_66_35, e_66_37, e_66_38, e_66_39, e_66_40, e_66_42, e_66_43, e_66_46, e_66_48, e_66_49, e_66_51, e_66_54, e_66_55, e_66_58, e_66_59, e_66_61, e_66_62, e_66_65, e_66_68, e_66_71, e_66_74, e_66_77, ge1, ule_t, true_or, or_true, nI_add, nI_mul, nI_sub, nI_clamp, nI_lt_t, nI_lt_f, nI_le_t, nI_le_f, nI_eq_t, nI_eq_f, vp_nI, tI, fI, not_true, not_false_iff, true_and, and_true, Classical.not_not, mS_uI, mS_uA, mS_uJ, mS_uR, mS_uX, mR_uI, mR_uA, mR_uJ, mR_uX, mX_uI, mX_uA, mX_uJ, mX_uR, mI_s, mI_n, mI_A, mI_An, mI_uJ, mI_uR, mI_uX, mJ_uI, mJ_uA, mJ_uR, mJ_uX, onR_s, kC_v, kC_n, kC_t]
      have := inner n 0 l6 (by omega)
      rw [show cA au m 0 = 0 from rfl, Nat.add_zero, show selI au m (cT au n m) (fO au n m) 0 = fO au n m from rfl] at this
      exact this
  rw [in_66]
  simp (disch := first | omega | rfl) only [e_66_0, e_66_1, e_66_4, e_66_5, e_66_6, e_66_7, e_66_8, e_66_10, e_66_11, e_66_12, e_66_13, e_66_17, e_66_19, e_66_22, e_66_23, e_66_27, e_66_28, e_66_31, e_66_32, e_66_34, e_66_35, e_66_37, e_66_38, e_66_39, e_66_40, e_66_42, e_66_43, e_66_46, e_66_48, e_66_49, e_66_51, e_66_54, e_66_55, e_66_58, e_66_59, e_66_61, e_66_62, e_66_65, e_66_68, e_66_71, e_66_74, e_66_77, r1, r2, r3, r4, r5, r6, r7, r8, r9, ge1, ule_t, true_or, or_true, nI_add, nI_mul, nI_sub, nI_clamp, nI_lt_t, nI_lt_f, nI_le_t, nI_le_f, nI_eq_t, nI_eq_f, vp_nI, tI, fI, not_true, not_false_iff, true_and, and_true, Classical.not_not, mS_uI, mS_uA, mS_uJ, mS_uR, mS_uX, mR_uI, mR_uA, mR_uJ, mR_uX, mX_uI, mX_uA, mX_uJ, mX_uR, mI_s, mI_n, mI_A, mI_An, mI_uJ, mI_uR, mI_uX, mJ_uI, mJ_uA, mJ_uR, mJ_uX, onR_s, kC_v, kC_n, kC_t, e8]
  have := outer 6 0 none none (by omega)
  rw [show cT au n 0 = 0 from rfl, ordF_0, Nat.add_zero] at this
  have e3 := uA_self (μ := uI μ1 (c + 2) t (nI n)) (a := c + 4)
  rw [mI_nf (by omega)] at e3
  rw [e3] at this
  exact this
/-- the script, when a turn has been sealed -/
def cSeal (μ : Mu) (s c T o : Nat) (f : Nat → Nat) : Mu := uI (uI (uA (uI μ (c + 2) T (nI o)) (c + 4) (ordF (mI μ (c + 4)) T o f)) s 2 (nI (T + 1))) s 3 (nI 0)
theorem s_77 (hS : StS μ s) (hc : ScS μ c) (hsc : s + 22 < c ∨ c + 4 < s) (h2 : mI μ s 2 = nI t) (h3 : mI μ s 3 = nI o) (hT : t < 40) (ho : o ≤ 8) (au : Nat → Int32) (hau : ∀ k, k < o → mI μ (c + 3) (4 * (8 * t + k)) = au k) (h6 : ∀ k, k < o → ∃ a, a < 6 ∧ au k = nI a) : Ev (d + 2) 77 [.ref s, .ref c] μ Q = Q (some none) (cSeal μ s c t o (fO au o 6)) := by
  have hc0 := hc
  obtain ⟨q0, q1, q2, q3, q4, q5, q6, q7, q8, q9, q10, q11, q12, q13, q14, q15⟩ := hS
  obtain ⟨r0, r1, r2, r3, r4, r5, r6, r7, r8, r9⟩ := hc
  rw [in_77]
  simp (disch := first | omega | rfl) only [e_77_0, e_77_1, e_77_2, e_77_5, e_77_6, e_77_9, e_77_12, e_77_13, e_77_14, e_77_17, e_77_18, e_77_19, e_77_22, e_77_23, e_77_24, e_77_27, ge1, ule_t, true_or, or_true, nI_add, nI_mul, nI_sub, nI_clamp, nI_lt_t, nI_lt_f, nI_le_t, nI_le_f, nI_eq_t, nI_eq_f, vp_nI, tI, fI, not_true, not_false_iff, true_and, and_true, Classical.not_not, mS_uI, mS_uA, mS_uJ, mS_uR, mS_uX, mR_uI, mR_uA, mR_uJ, mR_uX, mX_uI, mX_uA, mX_uJ, mX_uR, mI_s, mI_n, mI_A, mI_An, mI_uJ, mI_uR, mI_uX, mJ_uI, mJ_uA, mJ_uR, mJ_uX, onR_s, kC_v, kC_n, kC_t, q1, q2, q3, q4, q5, q6, q7, q8, q9, q10, q11, q12, q13, q14, q15, r1, r2, r3, r4, r5, r6, r7, r8, r9, r1, h2, h3, s_66 hc0 hT ho au hau h6]
  rfl
theorem cSeal_fr {f : Nat → Nat} : Fr (fun a => (s ≤ a ∧ a ≤ s + 22) ∨ (c ≤ a ∧ a ≤ c + 4) ∨ (1062 ≤ a ∧ a ≤ 1067)) μ (cSeal μ s c t o f) := by
  unfold cSeal
  exact (((Fr.refl.iu (Or.inr (Or.inl (by omega)))).au (Or.inr (Or.inl (by omega)))).iu (Or.inl (by omega))).iu (Or.inl (by omega))
theorem RelN.of2 {μ μ' : Mu} {s : Nat} {r r' tn : Nat → Int32} (h : RelN μ s r tn) (hO : okR r) (e : ∀ x, x < 387 → r' x = r x) (a1 : ∀ a, s < a → a ≤ s + 22 → a ≠ s + 3 → a ≠ s + 4 → ∀ k, mI μ' a k = mI μ a k) (a2 : mI μ' s 1 = mI μ s 1) (b2 : mI μ' s 2 = r' 387) (b3 : mI μ' s 3 = r' 1708) (b4 : mI μ' (s + 3) 1 = r' 1741) (b8 : ∀ k, k < 4 * nF r' → mI μ' (s + 4) k = r' (1742 + k)) : RelN μ' s r' tn := by
  obtain ⟨⟨c1, c2, c3, c4, c5, c6, c7, c8⟩, c9⟩ := h
  obtain ⟨o2, o6, o387, oT, o1708, oO, o1741, oF, o1, oq1, oq6, o0, ol1, ol40, oV, oN1, oP1, oF1⟩ := hO
  have hc : ∀ m, m < 6 → ∀ k, cV μ' s m k = cV μ s m k := fun m hm k => by
    unfold cV
    rw [a1 (s + 5 + 3 * m) (by omega) (by omega) (by omega) (by omega), a1 (s + 5 + 3 * m) (by omega) (by omega) (by omega) (by omega), a1 (s + 5 + 3 * m) (by omega) (by omega) (by omega) (by omega), a1 (s + 5 + 3 * m) (by omega) (by omega) (by omega) (by omega), a1 (s + 5 + 3 * m) (by omega) (by omega) (by omega) (by omega), a1 (s + 5 + 3 * m) (by omega) (by omega) (by omega) (by omega), a1 (s + 5 + 3 * m) (by omega) (by omega) (by omega) (by omega), a1 (s + 6 + 3 * m) (by omega) (by omega) (by omega) (by omega), a1 (s + 7 + 3 * m) (by omega) (by omega) (by omega) (by omega)]
  have n2 : nM r' = nM r := by unfold nM; rw [e 2 (by omega)]
  refine ⟨⟨?_, b2, b3, b4, ?_, ?_, ?_, b8⟩, ?_⟩
  · rw [a2, e 2 (by omega)]; exact c1
  · rw [a1 (s + 2) (by omega) (by omega) (by omega) (by omega), e 0 (by omega)]; exact c5
  · rw [a1 (s + 2) (by omega) (by omega) (by omega) (by omega), e 1 (by omega)]; exact c6
  · intro m hm
    rw [n2] at hm
    obtain ⟨v1, v2⟩ := c7 m hm
    obtain ⟨w1, w2, w3, w4⟩ := (c7.ok' oV) m hm
    refine ⟨fun k hk => by rw [hc m (by omega), show rW r' m k = rW r m k from e _ (by omega)]; exact v1 k hk, fun t ht => ?_⟩
    have ht' : vHas (cV μ s) m t := by
      unfold vHas at ht ⊢
      rw [hc m (by omega), hc m (by omega)] at ht
      exact ht
    obtain ⟨j, hj, rfl⟩ := t40 (Int32.le_trans w2 ht'.1) (Int32.le_trans ht'.2 w4)
    have := v2 (nI j) ht'
    unfold vRec at this ⊢
    rw [nI_clamp (by omega)] at this ⊢
    rw [hc m (by omega), show rW r' m (23 + j) = rW r m (23 + j) from e _ (by omega)]
    exact this
  · intro m hm
    rw [n2] at hm
    rw [a1 _ (by omega) (by omega) (by omega) (by omega)]; exact c9 m hm
theorem rel_seal (hN : RelN μ s r tn) (hC : RelC μ c r) (hO : okR r) (hR : RN2 r) (hsc : s + 22 < c ∨ c + 4 < s) (hT : nT r < 40) : RelN (cSeal μ s c (nT r) (nO r) (sF r)) s (rSeal r) tn ∧ RelC (cSeal μ s c (nT r) (nO r) (sF r)) c (rSeal r) := by
  have hO0 := hO
  obtain ⟨-, -, -, n2, n3, n4, n5⟩ := ok_seal hO hR hT
  obtain ⟨o2, o6, o387, oT, o1708, oO, o1741, oF, o1, oq1, oq6, o0, ol1, ol40, oV, oN1, oP1, oF1⟩ := hO
  obtain ⟨⟨b1, b2, b3, b4, b5, b6, b7, b8⟩, b9⟩ := hN
  constructor
  · refine RelN.of2 ⟨⟨b1, b2, b3, b4, b5, b6, b7, b8⟩, b9⟩ hO0 (fun x hx => rSeal_lo hx) (fun a h1 h2 h3 h4 k => ?_) ?_ ?_ ?_ ?_ ?_
    · unfold cSeal; simp (disch := omega) only [mI_n, mI_An]
    · unfold cSeal; simp (disch := omega) only [mI_n, mI_An]
    · rw [rSeal_T]; unfold cSeal; rw [mI_n (by omega), mI_s]
    · rw [rSeal_o (by omega) (by omega)]; unfold cSeal; rw [mI_s]
    · rw [rSeal_hi hT oO (by omega)]; unfold cSeal; simp (disch := omega) only [mI_n, mI_An]; exact b4
    · intro k hk
      rw [n5] at hk
      rw [rSeal_hi hT oO (by omega)]; unfold cSeal; simp (disch := omega) only [mI_n, mI_An]; exact b8 k hk
  · obtain ⟨g1, g2⟩ := hC
    refine ⟨fun t ht => ?_, fun k hk => by rw [n4] at hk; omega⟩
    rw [n3] at ht
    by_cases htT : t < nT r
    · obtain ⟨a1, a2⟩ := g1 t htT
      have hz8 := hO0.z t htT
      have e0 := rSeal_old hT htT (show 0 < 33 by omega)
      rw [Nat.add_zero] at e0
      rw [e0]
      refine ⟨?_, fun k hk => ?_⟩
      · unfold cSeal; simp (disch := omega) only [mI_n, mI_An]; exact a1
      · have hk8 : k < 8 := Nat.lt_of_lt_of_le hk hz8
        obtain ⟨j, hj, e1, e2⟩ := a2 k hk
        refine ⟨j, hj, ?_, fun w hw => ?_⟩
        · unfold cSeal
          rw [mI_n (by omega), mI_n (by omega), mI_A, ordF, if_neg (by omega)]; exact e1
        · rw [Nat.add_assoc, Nat.add_assoc, rSeal_old hT htT (by omega), ← Nat.add_assoc, ← Nat.add_assoc]
          unfold cSeal; simp (disch := omega) only [mI_n, mI_An]; exact e2 w hw
    · have htT2 : t = nT r := by omega
      subst htT2
      rw [rSeal_z hT, nI_clamp (by omega)]
      refine ⟨by unfold cSeal; rw [mI_n (by omega), mI_n (by omega), mI_An (by omega), mI_s], fun k hk => ?_⟩
      have hf := sF_lt (k := k) (show 0 < nO r by omega)
      refine ⟨sF r k, by omega, ?_, fun w hw => ?_⟩
      · unfold cSeal
        rw [mI_n (by omega), mI_n (by omega), mI_A, ordF, if_pos (by omega), show 8 * nT r + k - 8 * nT r = k by omega]
      · rw [rSeal_new hT oO hk hw]
        unfold cSeal; simp (disch := omega) only [mI_n, mI_An]; exact g2 (sF r k) hf w hw
theorem c_141n (hW : ShR μ s c) (hB : RelB μ s r) (hO : okR r) (hT : nT r = 40) : Ev (d + 4) 141 [.ref 1000] μ Q = Q (some (some (.int (-3)))) μ := by
  have hW0 := hW
  obtain ⟨w0, w1, w2, w3, w4, w5, w6, w7, w8, w9, w10, w11, w12, w13, w14, w15⟩ := hW
  have hS0 := w12
  obtain ⟨q0, q1, q2, q3, q4, q5, q6, q7, q8, q9, q10, q11, q12, q13, q14, q15⟩ := w12
  have hB9 := hB
  obtain ⟨b1, b2, b3, b4, b5, b6, b7, b8⟩ := hB
  have hO0 := hO
  obtain ⟨o2, o6, o387, oT, o1708, oO, o1741, oF, o1, oq1, oq6, o0, ol1, ol40, oV, oN1, oP1, oF1⟩ := hO
  have hn : mI μ s 1 = nI (nM r) := b1.trans o2
  have hq9 : mI μ (s + 2) 1 = nI (nQ r) := b6.trans o1
  have hV := b7.ok' oV
  rw [in_141]
  simp (disch := first | omega | rfl) only [e_141_0, e_141_1, e_141_4, e_141_7, e_141_9, e_141_12, e_141_14, e_141_15, e_141_16, e_141_19, e_141_20, e_141_23, e_141_24, e_141_27, e_141_30, e_141_31, e_141_34, e_141_37, w0, w1, w2, w3, w4, w5, w6, w7, w8, w9, w10, q1, q2, q3, q4, q5, q6, q7, q8, q9, q10, q11, q12, q13, q14, q15, b1, b2, b3, b4, b5, b6, o2, o387, o1708, o1741, o1, o0, ge1, ule_t, true_or, or_true, nI_add, nI_mul, nI_sub, nI_clamp, nI_lt_t, nI_lt_f, nI_le_t, nI_le_f, nI_eq_t, nI_eq_f, vp_nI, tI, fI, not_true, not_false_iff, true_and, and_true, Classical.not_not, mS_uI, mS_uA, mS_uJ, mS_uR, mS_uX, mR_uI, mR_uA, mR_uJ, mR_uX, mX_uI, mX_uA, mX_uJ, mX_uR, mI_s, mI_n, mI_A, mI_An, mI_uJ, mI_uR, mI_uX, mJ_uI, mJ_uA, mJ_uR, mJ_uX, onR_s, kC_v, kC_n, kC_t, ul0, ula1, ula2, ula3, ula4, ulb2, ulb3, ulb4, ulc2, ulc3, ulc4, ule4, ulf3, ulf4, hT]
theorem c_141 (hI : CI μ s c r u pr tn) (hA : AI r u pr tn) (hT : nT r < 40) (hq : ∀ μ1, FrC s c μ μ1 → CI μ1 s c (rSeal r) (u2 u) (pr2 u pr r) tn → Q (some (some (.int (nI (nT r + 1))))) μ1) : Ev (d + 4) 141 [.ref 1000] μ Q := by
  obtain ⟨hW, hRS, hN, hC, hE, hRing⟩ := id hI
  have hO := hA.1
  have hB := hN.1
  have hW0 := hW
  obtain ⟨w0, w1, w2, w3, w4, w5, w6, w7, w8, w9, w10, w11, w12, w13, w14, w15⟩ := hW
  have hS0 := w12
  obtain ⟨q0, q1, q2, q3, q4, q5, q6, q7, q8, q9, q10, q11, q12, q13, q14, q15⟩ := w12
  have hB9 := hB
  obtain ⟨b1, b2, b3, b4, b5, b6, b7, b8⟩ := hB
  have hO0 := hO
  obtain ⟨o2, o6, o387, oT, o1708, oO, o1741, oF, o1, oq1, oq6, o0, ol1, ol40, oV, oN1, oP1, oF1⟩ := hO
  have hn : mI μ s 1 = nI (nM r) := b1.trans o2
  have hq9 : mI μ (s + 2) 1 = nI (nQ r) := b6.trans o1
  have hV := b7.ok' oV
  rw [in_141]
  simp (disch := first | omega | rfl) only [e_141_0, e_141_1, e_141_4, e_141_7, e_141_9, e_141_12, e_141_14, e_141_15, e_141_16, e_141_19, e_141_20, e_141_23, e_141_24, e_141_27, e_141_30, e_141_31, e_141_34, e_141_37, w0, w1, w2, w3, w4, w5, w6, w7, w8, w9, w10, q1, q2, q3, q4, q5, q6, q7, q8, q9, q10, q11, q12, q13, q14, q15, b1, b2, b3, b4, b5, b6, o2, o387, o1708, o1741, o1, o0, ge1, ule_t, true_or, or_true, nI_add, nI_mul, nI_sub, nI_clamp, nI_lt_t, nI_lt_f, nI_le_t, nI_le_f, nI_eq_t, nI_eq_f, vp_nI, tI, fI, not_true, not_false_iff, true_and, and_true, Classical.not_not, mS_uI, mS_uA, mS_uJ, mS_uR, mS_uX, mR_uI, mR_uA, mR_uJ, mR_uX, mX_uI, mX_uA, mX_uJ, mX_uR, mI_s, mI_n, mI_A, mI_An, mI_uJ, mI_uR, mI_uX, mJ_uI, mJ_uA, mJ_uR, mJ_uX, onR_s, kC_v, kC_n, kC_t, ul0, ula1, ula2, ula3, ula4, ulb2, ulb3, ulb4, ulc2, ulc3, ulc4, ule4, ulf3, ulf4]
  refine c_148 hI hA (fun μ1 hf hk1 hI1 => ?_)
  obtain ⟨x0, x1, x2, x3, x4, x5, x6, x7, x8, x9, x10, x11, x12, x13, x14, x15⟩ := hI1.1
  obtain ⟨y0, y1, y2, y3, y4, y5, y6, y7, y8, y9, y10, y11, y12, y13, y14, y15⟩ := x12
  obtain ⟨c1, c2, c3, c4, c5, c6, c7, c8⟩ := hI1.2.2.1.1
  have hsc : s + 22 < c ∨ c + 4 < s := by omega
  have hrel := rel_seal hI1.2.2.1 hI1.2.2.2.1 hO0 hA.2.1.1 hsc hT
  have hfr := cSeal_fr (μ := μ1) (s := s) (c := c) (t := nT r) (o := nO r) (f := sF r)
  have t1 : mR (cSeal μ1 s c (nT r) (nO r) (sF r)) 1000 0 = some s := x1
  have t2 : mS (cSeal μ1 s c (nT r) (nO r) (sF r)) 1000 = (11, 11) := x0
  have t3 : mS (cSeal μ1 s c (nT r) (nO r) (sF r)) s = (9, 6) := y1
  have t4 : mI (cSeal μ1 s c (nT r) (nO r) (sF r)) s 2 = nI (nT r + 1) := by unfold cSeal; rw [mI_n (by omega), mI_s]
  have h77 := fun (d : Nat) (Q : Po) => s_77 (d := d) (Q := Q) (t := nT r) (o := nO r) hI1.1.2.2.2.2.2.2.2.2.2.2.2.2.1 hI1.1.2.2.2.2.2.2.2.2.2.2.2.2.2.1 hsc (c2.trans o387) (c3.trans o1708) hT oO (auR r) (fun k hk => by
    have := hI1.2.2.2.1.2 k hk 0 (by omega)
    rw [Nat.add_zero, Nat.add_zero] at this
    exact this) (fun k hk => oP1.2.2 k hk)
  have e5 : fO (auR r) (nO r) 6 = sF r := rfl
  rw [e5] at h77
  simp (disch := first | omega | rfl) only [e_141_0, e_141_1, e_141_4, e_141_7, e_141_9, e_141_12, e_141_14, e_141_15, e_141_16, e_141_19, e_141_20, e_141_23, e_141_24, e_141_27, e_141_30, e_141_31, e_141_34, e_141_37, kC_n, x0, x1, x2, x3, x4, x5, x6, x7, x8, x9, x10, y0, y1, y2, y3, y4, y5, y6, y7, y8, y9, y10, y11, y12, y13, y14, y15, c1, c2, c3, c4, c5, c6, o2, o387, o1708, o1741, o1, o0, ge1, ule_t, true_or, or_true, nI_add, nI_mul, nI_sub, nI_clamp, nI_lt_t, nI_lt_f, nI_le_t, nI_le_f, nI_eq_t, nI_eq_f, vp_nI, tI, fI, not_true, not_false_iff, true_and, and_true, Classical.not_not, mS_uI, mS_uA, mS_uJ, mS_uR, mS_uX, mR_uI, mR_uA, mR_uJ, mR_uX, mX_uI, mX_uA, mX_uJ, mX_uR, mI_s, mI_n, mI_A, mI_An, mI_uJ, mI_uR, mI_uX, mJ_uI, mJ_uA, mJ_uR, mJ_uX, onR_s, kC_v, kC_n, kC_t, h77, t1, t2, t3, t4]
  refine hq _ (FrC.of hf hk1 hfr ⟨x14, x15⟩) (hI1.step hA.pp hfr ?_ ?_ ?_ ?_ hA.p8 hrel.1 hrel.2)
  · intro k'; unfold cSeal; simp (disch := omega) only [mI_n, mI_An]
  · intro k' hk'; unfold cSeal; simp (disch := omega) only [mI_n, mI_An]
  · intro k' hk'; unfold cSeal; simp (disch := omega) only [mI_n, mI_An]
  · intro k' hk'; unfold cSeal; rw [mI_n (by omega), mI_n (by omega), mI_A, ordF, if_neg (by omega)]
end SealC
section SealM
variable {d : Nat} {Q : Po} {μ : Mu} {n i j k t u T N : Nat} {x y : Int32} {r : Nat → Int32}
/-- the row, when some authors are through -/
def seR (r : Nat → Int32) (T N : Nat) (f : Nat → Nat) : Nat → Int32 := fun x => if 389 + 33 * T ≤ x ∧ x < 389 + 33 * T + 4 * N then r (1709 + 4 * f ((x - (389 + 33 * T)) / 4) + (x - (389 + 33 * T)) % 4) else r x
def seI (r : Nat → Int32) (T N : Nat) (f : Nat → Nat) (k i : Nat) : Nat → Int32 := fun x => if 389 + 33 * T + 4 * N ≤ x ∧ x < 389 + 33 * T + 4 * N + i then r (1709 + 4 * k + (x - (389 + 33 * T + 4 * N))) else seR r T N f x
theorem seI_s {f : Nat → Nat} : upd (seI r T N f k i) (389 + 33 * T + 4 * N + i) (r (1709 + 4 * k + i)) = seI r T N f k (i + 1) := by
  funext x
  unfold upd seI
  by_cases h : x = 389 + 33 * T + 4 * N + i
  · rw [h, if_pos rfl, if_pos (by omega), show 389 + 33 * T + 4 * N + i - (389 + 33 * T + 4 * N) = i by omega]
  · rw [if_neg h]
    by_cases h2 : 389 + 33 * T + 4 * N ≤ x ∧ x < 389 + 33 * T + 4 * N + i
    · rw [if_pos h2, if_pos (by omega)]
    · rw [if_neg h2, if_neg (by omega)]
theorem seI_0 {f : Nat → Nat} : seI r T N f k 0 = seR r T N f := funext fun x => if_neg (by omega)
theorem seI_4 {f : Nat → Nat} : seI r T N f k 4 = seR r T (N + 1) (pN f N k) := by
  funext x
  unfold seI seR
  by_cases h : 389 + 33 * T + 4 * N ≤ x ∧ x < 389 + 33 * T + 4 * N + 4
  · rw [if_pos h, if_pos (by omega), show (x - (389 + 33 * T)) / 4 = N by omega, pN_s]
    congr 1; omega
  · rw [if_neg h]
    by_cases h2 : 389 + 33 * T ≤ x ∧ x < 389 + 33 * T + 4 * N
    · rw [if_pos h2, if_pos (by omega), pN_n (by omega)]
    · rw [if_neg h2, if_neg (by omega)]
theorem seR_0 {f : Nat → Nat} : seR r T 0 f = r := funext fun x => if_neg (by omega)
theorem seR_at {f : Nat → Nat} {x : Nat} (h : x < 389 + 33 * T ∨ 389 + 33 * T + 4 * N ≤ x) : seR r T N f x = r x := if_neg (by omega)
theorem seI_at {f : Nat → Nat} {x : Nat} (h : x < 389 + 33 * T ∨ 389 + 33 * T + 4 * N + i ≤ x) : seI r T N f k i x = r x := by
  unfold seI
  rw [if_neg (by omega), seR_at (by omega)]
/-- the zeros behind -/
def zeR (g : Nat → Int32) (k : Nat) : Nat → Int32 := fun x => if 1708 ≤ x ∧ x < 1708 + k then nI 0 else g x
theorem zeR_s {g : Nat → Int32} : upd (zeR g k) (1708 + k) (nI 0) = zeR g (k + 1) := by
  funext x
  unfold upd zeR
  by_cases h : x = 1708 + k
  · rw [if_pos h, if_pos (by omega)]
  · rw [if_neg h]
    by_cases h2 : 1708 ≤ x ∧ x < 1708 + k
    · rw [if_pos h2, if_pos (by omega)]
    · rw [if_neg h2, if_neg (by omega)]
theorem zeR_0 {g : Nat → Int32} : zeR g 0 = g := funext fun x => if_neg (by omega)
theorem rSeal_eq (hT : nT r < 40) (hO : nO r ≤ 8) : zeR (upd (upd (seR r (nT r) (nO r) (sF r)) (388 + 33 * nT r) (nI (nO r))) 387 (nI (nT r + 1))) 33 = rSeal r := by
  funext x
  unfold zeR rSeal upd seR
  by_cases h1 : 1708 ≤ x ∧ x < 1741
  · rw [if_pos h1]
  · rw [if_neg h1]
end SealM


