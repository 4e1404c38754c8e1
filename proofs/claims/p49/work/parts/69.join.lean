/-! joining -/
theorem pc_all : pcN 65535 = 16 := by decide +kernel
theorem tb_all : ∀ c, c < 16 → (65535 : Nat).testBit c = true := by decide +kernel
def rJ0 (r : Nat → Int32) (n : Nat) : Nat → Int32 := fun x => if 3 + 64 * n ≤ x ∧ x < 3 + 64 * n + 64 then nI 0 else r x
def rJ1 (r : Nat → Int32) (n p t : Nat) : Nat → Int32 := upd (upd (upd (upd (upd (rJ0 r n) (3 + 64 * n) (nI p)) (3 + 64 * n + 1) (nI t)) (3 + 64 * n + 6) (nI t)) (3 + 64 * n + 2) (nI 1)) 2 (nI (n + 1))
def rJ4 (r : Nat → Int32) (n p t dn : Nat) : Nat → Int32 := upd (upd (cpR (rJ1 r n p t) n dn 65535 16) (3 + 64 * dn + 3) (r (3 + 64 * dn + 3) + nI 16)) (3 + 64 * n + 4) (nI 16)
def rJn (r : Nat → Int32) (n p t dn : Nat) : Nat → Int32 := upd (rJ4 r n p t dn) (3 + 64 * n + (23 + t)) (fCk (rW (rJ4 r n p t dn)) n 1)
theorem t40' {t : Int32} (h1 : nI 0 ≤ t) (h2 : t ≤ nI 40) : ∃ j, j ≤ 40 ∧ t = nI j := t40 h1 h2
section JnRow
variable {r : Nat → Int32} {n p t dn x k m' c : Nat}
theorem rJ1_n (h : x < 3 + 64 * n ∨ 3 + 64 * n + 64 ≤ x) (h2 : x ≠ 2) : rJ1 r n p t x = r x := by
  unfold rJ1
  rw [upd_n h2, upd_n (by omega), upd_n (by omega), upd_n (by omega), upd_n (by omega)]
  exact if_neg (by omega)
theorem rJ1_2 : rJ1 r n p t 2 = nI (n + 1) := upd_s
theorem rJn_n (hd : dn < n) (ht : t ≤ 40) (h : x < 3 + 64 * n ∨ 3 + 64 * n + 64 ≤ x) (h2 : x ≠ 2) (h3 : x ≠ 3 + 64 * dn + 3) : rJn r n p t dn x = r x := by
  unfold rJn rJ4
  rw [upd_n (by omega), upd_n (by omega), upd_n h3, cpR_n (by omega), rJ1_n h h2]
theorem rJn_2 (ht : t ≤ 40) : rJn r n p t dn 2 = nI (n + 1) := by
  unfold rJn rJ4
  rw [upd_n (by omega), upd_n (by omega), upd_n (by omega), cpR_n (by omega), rJ1_2]
theorem rJn_3 (hd : dn < n) (ht : t ≤ 40) : rJn r n p t dn (3 + 64 * dn + 3) = r (3 + 64 * dn + 3) + nI 16 := by
  unfold rJn rJ4
  rw [upd_n (by omega), upd_n (by omega), upd_s]
theorem rJn_t : rJn r n p t dn (3 + 64 * n + (23 + t)) = fCk (rW (rJ4 r n p t dn)) n 1 := upd_s
theorem rJ4_c (hd : dn < n) (hc : c < 16) : rJ4 r n p t dn (3 + 64 * n + 7 + c) = r (3 + 64 * dn + 7 + c) := by
  unfold rJ4
  rw [upd_n (by omega), upd_n (by omega), cpR_c hc, if_pos (tb_all c hc), rJ1_n (by omega) (by omega)]
theorem rJn_c (hd : dn < n) (hc : c < 16) : rJn r n p t dn (3 + 64 * n + 7 + c) = r (3 + 64 * dn + 7 + c) := by
  unfold rJn
  rw [upd_n (by omega), rJ4_c hd hc]
theorem rJn_k (hd : dn < n) (hk : k < 7) : rJn r n p t dn (3 + 64 * n + k) = if k = 0 then nI p else if k = 1 then nI t else if k = 2 then nI 1 else if k = 4 then nI 16 else if k = 6 then nI t else nI 0 := by
  unfold rJn rJ4
  rw [upd_n (by omega)]
  by_cases h4 : k = 4
  · subst h4
    rw [upd_s]; rfl
  · rw [upd_n (by omega), upd_n (by omega), cpR_n (by omega)]
    unfold rJ1
    rw [upd_n (show 3 + 64 * n + k ≠ 2 by omega)]
    rcases (by omega : k = 0 ∨ k = 1 ∨ k = 2 ∨ k = 3 ∨ k = 5 ∨ k = 6) with rfl | rfl | rfl | rfl | rfl | rfl
    · rw [upd_n (by omega), upd_n (by omega), upd_n (by omega), Nat.add_zero, upd_s]; rfl
    · rw [upd_n (by omega), upd_n (by omega), upd_s]; rfl
    · rw [upd_s]; rfl
    · rw [upd_n (by omega), upd_n (by omega), upd_n (by omega), upd_n (by omega)]
      exact if_pos ⟨by omega, by omega⟩
    · rw [upd_n (by omega), upd_n (by omega), upd_n (by omega), upd_n (by omega)]
      exact if_pos ⟨by omega, by omega⟩
    · rw [upd_n (by omega), upd_s]; rfl
theorem rJn_ck (hd : dn < n) : fCk (rW (rJ4 r n p t dn)) n 1 = fCk (rW r) dn 1 := fTree_eq (fun c hc => by
  show rJ4 r n p t dn (3 + 64 * n + (7 + c)) = r (3 + 64 * dn + (7 + c))
  rw [← Nat.add_assoc, rJ4_c hd hc, ← Nat.add_assoc]) (by omega) (by omega)
theorem rJn_V (hd : dn < n) (ht : t ≤ 40) (hm : m' < n) (hk : k < 64) (h3 : m' ≠ dn ∨ k ≠ 3) : rW (rJn r n p t dn) m' k = rW r m' k := rJn_n hd ht (by omega) (by omega) (by omega)
theorem ok_join (h : okR r) (hN : RN3 r) (hn6 : nM r < 6) (hp : 1 ≤ p) (hp4 : p ≤ 4) (hd : dn < nM r) (ht : t = nE (rW r) dn) : okR (rJn r (nM r) p t dn) ∧ RN3 (rJn r (nM r) p t dn) ∧ SLe r (rJn r (nM r) p t dn) ∧ nM (rJn r (nM r) p t dn) = nM r + 1 ∧ nF (rJn r (nM r) p t dn) = nF r := by
  have hO := h
  have hle := nE_le hO hd
  obtain ⟨o2, o6, o387, oT, o1708, oO, o1741, oF, o1, oq1, oq6, o0, ol1, ol40, oV, oN1, oP1, oF1⟩ := h
  have vE := okBE oV hd
  have t40 : t ≤ 40 := by omega
  have lo : ∀ x, x < 2 ∨ 387 ≤ x → rJn r (nM r) p t dn x = r x := fun x hx => rJn_n hd t40 (by omega) (by omega) (by omega)
  have c2 : nM (rJn r (nM r) p t dn) = nM r + 1 := by unfold nM; rw [rJn_2 t40]; exact nI_clamp (by unfold nM at hn6; omega)
  have c3 : nT (rJn r (nM r) p t dn) = nT r := by unfold nT; rw [lo _ (by omega)]
  have c4 : nO (rJn r (nM r) p t dn) = nO r := by unfold nO; rw [lo _ (by omega)]
  have c5 : nF (rJn r (nM r) p t dn) = nF r := by unfold nF; rw [lo _ (by omega)]
  have c6 : nQ (rJn r (nM r) p t dn) = nQ r := by unfold nQ; rw [lo _ (by omega)]
  have c7 : nL (rJn r (nM r) p t dn) = nL r := by unfold nL; rw [lo _ (by omega)]
  have kn : ∀ k, k < 7 → rW (rJn r (nM r) p t dn) (nM r) k = if k = 0 then nI p else if k = 1 then nI t else if k = 2 then nI 1 else if k = 4 then nI 16 else if k = 6 then nI t else nI 0 := fun k hk => rJn_k hd hk
  have k1 : rW (rJn r (nM r) p t dn) (nM r) 1 = nI t := kn 1 (by omega)
  have k2 : rW (rJn r (nM r) p t dn) (nM r) 2 = nI 1 := kn 2 (by omega)
  have k6 : rW (rJn r (nM r) p t dn) (nM r) 6 = nI t := kn 6 (by omega)
  have k0 : rW (rJn r (nM r) p t dn) (nM r) 0 = nI p := kn 0 (by omega)
  have en : nE (rW (rJn r (nM r) p t dn)) (nM r) = t := by
    show (rW (rJn r (nM r) p t dn) (nM r) 1).toNatClampNeg = t
    rw [k1]; exact nI_clamp (by omega)
  refine ⟨⟨by rw [c2]; exact rJn_2 t40, by omega, by rw [c3, lo _ (by omega)]; exact o387, by omega, by rw [c4, lo _ (by omega)]; exact o1708, by omega, by rw [c5, lo _ (by omega)]; exact o1741, by omega, by rw [c6, lo _ (by omega)]; exact o1, by omega, by omega, by rw [c7, lo _ (by omega)]; exact o0, by omega, by omega, ?_, ?_, okP_eq oP1 oT oO c3 c4 (fun x h1 h2 => lo _ (by omega)), ?_⟩, ⟨⟨fun x hx => by rw [lo _ (by omega)]; exact hN.1.1 x hx, okW_eq hN.1.2 oP1 oT oO c3 c4 (fun x h1 h2 => lo _ (by omega))⟩, ?_⟩, Or.inr ⟨c3.symm, by omega⟩, c2, c5⟩
  · intro m' hm'
    rw [c2] at hm'
    by_cases hmm : m' = nM r
    · subst hmm
      rw [k1, k2, k6]
      exact ⟨Or.inr rfl, nI_le (by omega) (by omega), Int32.le_refl _, nI_le (by omega) (by omega)⟩
    · rw [rJn_V (k := 2) hd t40 (by omega) (by omega) (by omega), rJn_V (k := 6) hd t40 (by omega) (by omega) (by omega), rJn_V (k := 1) hd t40 (by omega) (by omega) (by omega)]
      exact oV m' (by omega)
  · intro m' hm'
    rw [c2] at hm'
    by_cases hmm : m' = nM r
    · subst hmm
      rw [k1, k0, c3]
      refine ⟨nI_le (by omega) (by omega), ⟨p, hp, hp4, rfl⟩, fun c hc => ?_⟩
      show ∃ v, v < 10000 ∧ rJn r (nM r) p t dn (3 + 64 * nM r + (7 + c)) = nI v
      rw [← Nat.add_assoc, rJn_c hd hc]
      have := (oN1 dn hd).2.2 c hc
      unfold rW at this
      rw [← Nat.add_assoc] at this
      exact this
    · obtain ⟨g1, g2, g3⟩ := oN1 m' (by omega)
      rw [rJn_V (k := 1) hd t40 (by omega) (by omega) (by omega), rJn_V (k := 0) hd t40 (by omega) (by omega) (by omega), c3]
      exact ⟨g1, g2, fun c hc => by rw [rJn_V hd t40 (by omega) (by omega) (by omega)]; exact g3 c hc⟩
  · intro k hk
    rw [c5] at hk
    rw [lo _ (by omega), lo _ (by omega), lo _ (by omega), lo _ (by omega)]
    exact oF1 k hk
  · intro m' hm'
    rw [c2] at hm'
    by_cases hmm : m' = nM r
    · subst hmm
      rw [en]
      have e1 : rW (rJn r (nM r) p t dn) (nM r) (23 + t) = fCk (rW (rJ4 r (nM r) p t dn)) (nM r) 1 := rJn_t
      rw [e1]
      refine fTree_eq (fun c hc => ?_) (by omega) (by omega)
      show rJ4 r (nM r) p t dn (3 + 64 * nM r + (7 + c)) = rJn r (nM r) p t dn (3 + 64 * nM r + (7 + c))
      rw [← Nat.add_assoc, rJ4_c hd hc, rJn_c hd hc]
    · have hm2 : m' < nM r := by omega
      have vE' := okBE oV hm2
      have e1 : nE (rW (rJn r (nM r) p t dn)) m' = nE (rW r) m' := by
        unfold nE
        rw [rJn_V (k := 1) hd t40 hm2 (by omega) (by omega)]
      rw [e1, rJn_V hd t40 hm2 (by omega) (by omega), hN.2 m' hm2]
      exact fTree_eq (fun c hc => (rJn_V hd t40 hm2 (by omega) (by omega)).symm) (by omega) (by omega)
end JnRow
section JnC
variable {d : Nat} {Q : Po} {μ : Mu} {s c m n q i j k t z u σ o N dn w p : Nat} {x y g v : Int32} {r tn : Nat → Int32} {pr : Nat → Nat → Int32} {l4 l5 : Option Value}
/-- admitting one: any name -/
def cAdm (μ : Mu) (s n p t : Nat) (nm : Int32) : Mu := uI (uI (uI (uI (uI (uI (uI (uI (uI μ (s + 5 + 3 * n) 0 nm) (s + 5 + 3 * n) 1 (nI p)) (s + 5 + 3 * n) 2 (nI t)) (s + 5 + 3 * n) 3 (nI t)) (s + 5 + 3 * n) 4 (nI 1)) (s + 5 + 3 * n) 5 (nI 0)) (s + 5 + 3 * n) 6 (nI 0)) (s + 5 + 3 * n) 7 (nI 0)) s 1 (nI (n + 1))
theorem s_75 (hS : StS μ s) (hn : mI μ s 1 = nI n) (hn6 : n < 6) : Ev (d + 2) 75 [.ref s, .int x, .int (nI p), .int (nI t)] μ Q = Q (some (some (.ref (s + 5 + 3 * n)))) (cAdm μ s n p t x) := by
  obtain ⟨q0, q1, q2, q3, q4, q5, q6, q7, q8, q9, q10, q11, q12, q13, q14, q15⟩ := hS
  rw [in_75]
  simp (disch := first | omega | rfl) only [e_75_0, e_75_1, e_75_4, e_75_5, e_75_8, e_75_9, e_75_11, e_75_13, e_75_14, e_75_15, e_75_16, e_75_19, e_75_20, e_75_21, e_75_24, e_75_25, e_75_26, e_75_29, e_75_31, q1, q2, q3, q4, q5, q6, q7, q8, q9, q10, q11, q12, q13, q14, q15, ge1, ule_t, true_or, or_true, nI_add, nI_mul, nI_sub, nI_clamp, nI_lt_t, nI_lt_f, nI_le_t, nI_le_f, nI_eq_t, nI_eq_f, vp_nI, tI, fI, not_true, not_false_iff, true_and, and_true, Classical.not_not, mS_uI, mS_uA, mS_uJ, mS_uR, mS_uX, mR_uI, mR_uA, mR_uJ, mR_uX, mX_uI, mX_uA, mX_uJ, mX_uR, mI_s, mI_n, mI_A, mI_An, mI_uJ, mI_uR, mI_uX, mJ_uI, mJ_uA, mJ_uR, mJ_uX, onR_s, kC_v, kC_n, kC_t, hn, in_62, e_62_0, e_62_1, e_62_2, e_62_5, e_62_6, e_62_7, e_62_10, e_62_11, e_62_12, e_62_15, e_62_16, e_62_17, e_62_20, e_62_21, e_62_22, e_62_25, e_62_26, e_62_27, e_62_30, e_62_31, e_62_32, e_62_35, e_62_36, e_62_37, e_62_40]
  rfl
theorem cAdm_fr (hn6 : n < 6) : Fr (fun a => (s ≤ a ∧ a ≤ s + 22) ∨ (c ≤ a ∧ a ≤ c + 4) ∨ (1062 ≤ a ∧ a ≤ 1067)) μ (cAdm μ s n p t x) := by
  unfold cAdm
  exact (((((((((Fr.refl.iu (Or.inl (by omega))).iu (Or.inl (by omega))).iu (Or.inl (by omega))).iu (Or.inl (by omega))).iu (Or.inl (by omega))).iu (Or.inl (by omega))).iu (Or.inl (by omega))).iu (Or.inl (by omega))).iu (Or.inl (by omega)))
theorem cAdm_n {a : Nat} (h1 : a ≠ s + 5 + 3 * n) (h2 : a ≠ s ∨ k ≠ 1) : mI (cAdm μ s n p t x) a k = mI μ a k := by
  unfold cAdm
  simp (disch := omega) only [mI_n]
def cJn (μ : Mu) (s n p t dn : Nat) : Mu := cHl (cAdm μ s n p t (nI 0)) s n dn 65535 t
theorem cJn_n {a : Nat} (h0 : a ≠ s + 6 + 3 * n) (h1 : a ≠ s + 5 + 3 * n) (h2 : a ≠ s ∨ k ≠ 1) (h3 : a ≠ s + 5 + 3 * dn ∨ k ≠ 5) (h4 : a ≠ s + 7 + 3 * n) : mI (cJn μ s n p t dn) a k = mI μ a k := by
  unfold cJn cHl
  rw [mI_n (by omega), mI_n (by omega), mI_n (by omega), mI_An (by omega), cAdm_n h1 h2]
theorem rel_join (hsh : (s = 1001 ∨ s = 1032) ∧ (c = 1024 ∨ c = 1055)) (hN : RelN μ s r tn) (hC : RelC μ c r) (hO : okR r) (hR : RN3 r) (hn6 : nM r < 6) (hp : 1 ≤ p) (hp4 : p ≤ 4) (hd : dn < nM r) (ht : t = nE (rW r) dn) (htn : tn (16 + nM r) = nI 0) : RelN (cJn μ s (nM r) p t dn) s (rJn r (nM r) p t dn) tn ∧ RelC (cJn μ s (nM r) p t dn) c (rJn r (nM r) p t dn) := by
  have hO0 := hO
  have hle := nE_le hO hd
  obtain ⟨z1, z2, z3, n2, n5⟩ := ok_join hO hR hn6 hp hp4 hd ht
  obtain ⟨o2, o6, o387, oT, o1708, oO, o1741, oF, o1, oq1, oq6, o0, ol1, ol40, oV, oN1, oP1, oF1⟩ := hO
  obtain ⟨⟨b1, b2, b3, b4, b5, b6, b7, b8⟩, b9⟩ := hN
  obtain ⟨hs, hc⟩ := hsh
  have vE := okBE oV hd
  have t40 : t ≤ 40 := by omega
  have hV := b7.ok' oV
  have lo : ∀ x, x < 2 ∨ 387 ≤ x → rJn r (nM r) p t dn x = r x := fun x hx => rJn_n hd t40 (by omega) (by omega) (by omega)
  have hrec : mI μ (s + 7 + 3 * dn) t = rW r dn (23 + t) := by
    have h1 : vHas (cV μ s) dn (nI t) := by
      unfold vHas
      rw [(b7 dn hd).1 6 (by omega), (b7 dn hd).1 1 (by omega), vE.2.1, vE.1]
      exact ⟨nI_le (by omega) (by omega), nI_le (by omega) (by omega)⟩
    have := (b7 dn hd).2 _ h1
    unfold vRec at this
    rw [nI_clamp (by omega)] at this
    rw [cvr]
    exact this
  have hcv : ∀ m', m' < nM r → ∀ k, k < 64 → (m' ≠ dn ∨ k ≠ 3) → cV (cJn μ s (nM r) p t dn) s m' k = cV μ s m' k := fun m' hm' k hk h3 => by
    unfold cV
    by_cases h7 : k < 7
    · rcases (by omega : k = 0 ∨ k = 1 ∨ k = 2 ∨ k = 3 ∨ k = 4 ∨ k = 5 ∨ k = 6) with rfl | rfl | rfl | rfl | rfl | rfl | rfl
      all_goals (simp only [Nat.reduceEqDiff, if_true, if_false, Nat.one_ne_zero])
      all_goals (rw [cJn_n (by omega) (by omega) (by omega) (by omega) (by omega)])
    · have z0 : ¬ k = 0 := by omega
      have z1 : ¬ k = 1 := by omega
      have z2 : ¬ k = 2 := by omega
      have z3 : ¬ k = 3 := by omega
      have z4 : ¬ k = 4 := by omega
      have z5 : ¬ k = 5 := by omega
      have z6 : ¬ k = 6 := by omega
      by_cases h23 : k < 23
      · simp only [z0, z1, z2, z3, z4, z5, z6, h23, if_true, if_false]
        rw [cJn_n (by omega) (by omega) (by omega) (by omega) (by omega)]
      · simp only [z0, z1, z2, z3, z4, z5, z6, h23, if_true, if_false]
        rw [cJn_n (by omega) (by omega) (by omega) (by omega) (by omega)]
  have kn : ∀ k, k < 7 → rW (rJn r (nM r) p t dn) (nM r) k = if k = 0 then nI p else if k = 1 then nI t else if k = 2 then nI 1 else if k = 4 then nI 16 else if k = 6 then nI t else nI 0 := fun k hk => rJn_k hd hk
  have gn : ∀ k, k < 7 → cV (cJn μ s (nM r) p t dn) s (nM r) k = if k = 0 then nI p else if k = 1 then nI t else if k = 2 then nI 1 else if k = 4 then nI 16 else if k = 6 then nI t else nI 0 := fun k hk => by
    unfold cV
    rcases (by omega : k = 0 ∨ k = 1 ∨ k = 2 ∨ k = 3 ∨ k = 4 ∨ k = 5 ∨ k = 6) with rfl | rfl | rfl | rfl | rfl | rfl | rfl
    all_goals (simp only [Nat.reduceEqDiff, if_true, if_false, Nat.one_ne_zero])
    all_goals (unfold cJn cHl cAdm)
    all_goals (simp (disch := omega) only [mI_n, mI_An, mI_s, pc_all, nI_add, Nat.zero_add])
  refine ⟨⟨⟨?_, ?_, ?_, ?_, ?_, ?_, ?_, ?_⟩, ?_⟩, ?_⟩
  · rw [rJn_2 t40]
    unfold cJn cHl cAdm
    simp (disch := omega) only [mI_n, mI_An, mI_s]
  · rw [lo _ (by omega), cJn_n (by omega) (by omega) (by omega) (by omega) (by omega)]; exact b2
  · rw [lo _ (by omega), cJn_n (by omega) (by omega) (by omega) (by omega) (by omega)]; exact b3
  · rw [lo _ (by omega), cJn_n (by omega) (by omega) (by omega) (by omega) (by omega)]; exact b4
  · rw [lo _ (by omega), cJn_n (by omega) (by omega) (by omega) (by omega) (by omega)]; exact b5
  · rw [lo _ (by omega), cJn_n (by omega) (by omega) (by omega) (by omega) (by omega)]; exact b6
  · intro m' hm'
    rw [n2] at hm'
    by_cases hmm : m' = nM r
    · subst hmm
      refine ⟨fun k hk => ?_, fun tt htt => ?_⟩
      · by_cases h7 : k < 7
        · rw [gn k h7, kn k h7]
        · obtain ⟨i, rfl⟩ : ∃ i, k = 7 + i := ⟨k - 7, by omega⟩
          rw [← cvc (by omega)]
          show _ = rJn r (nM r) p t dn (3 + 64 * nM r + (7 + i))
          rw [← Nat.add_assoc, rJn_c hd (by omega)]
          have f1 : mI μ (s + 6 + 3 * dn) i = rW r dn (7 + i) := by rw [cvc (by omega)]; exact (b7 dn hd).1 _ (by omega)
          unfold cJn cHl
          rw [mI_n (by omega), mI_n (by omega), mI_n (by omega), mI_A, cpW, if_pos ⟨by omega, tb_all i (by omega)⟩, cAdm_n (by omega) (by omega), f1]
          unfold rW
          rw [← Nat.add_assoc]
      · unfold vHas at htt
        rw [gn 6 (by omega), gn 1 (by omega)] at htt
        have e1 : tt = nI t := Int32.le_antisymm htt.2 htt.1
        subst e1
        unfold vRec
        rw [nI_clamp (by omega)]
        have e2 : rW (rJn r (nM r) p t dn) (nM r) (23 + t) = rW r dn (23 + t) := by
          have h1 : rW (rJn r (nM r) p t dn) (nM r) (23 + t) = fCk (rW (rJ4 r (nM r) p t dn)) (nM r) 1 := rJn_t
          rw [h1, rJn_ck hd, ht]
          exact (hR.2 dn hd).symm
        rw [e2, ← cvr]
        unfold cJn cHl
        rw [mI_s, cAdm_n (by omega) (by omega)]
        exact hrec
    · have hm2 : m' < nM r := by omega
      obtain ⟨v1, v2⟩ := b7 m' hm2
      obtain ⟨w1, w2, w3, w4⟩ := hV m' hm2
      refine ⟨fun k hk => ?_, fun tt htt => ?_⟩
      · by_cases g1 : m' = dn ∧ k = 3
        · obtain ⟨rfl, rfl⟩ := g1
          have e1 : rW (rJn r (nM r) p t m') m' 3 = rW r m' 3 + nI 16 := rJn_3 hd t40
          rw [e1, ← v1 3 (by omega)]
          show mI (cJn μ s (nM r) p t m') (s + 5 + 3 * m') 5 = mI μ (s + 5 + 3 * m') 5 + nI 16
          unfold cJn cHl
          rw [mI_n (by omega), mI_n (by omega), mI_s, cAdm_n (by omega) (by omega), pc_all]
        · rw [hcv m' hm2 k (by omega) (by omega), rJn_V hd t40 hm2 (by omega) (by omega)]
          exact v1 k hk
      · unfold vHas at htt
        rw [hcv m' hm2 _ (by omega) (by omega), hcv m' hm2 _ (by omega) (by omega)] at htt
        obtain ⟨j, hj, rfl⟩ := t40' (Int32.le_trans w2 htt.1) (Int32.le_trans htt.2 w4)
        have := v2 (nI j) htt
        unfold vRec at this ⊢
        rw [nI_clamp (by omega)] at this ⊢
        rw [hcv m' hm2 _ (by omega) (by omega), rJn_V hd t40 hm2 (by omega) (by omega)]
        exact this
  · intro k hk
    rw [n5] at hk
    rw [lo _ (by omega), cJn_n (by omega) (by omega) (by omega) (by omega) (by omega)]
    exact b8 k hk
  · intro m' hm'
    rw [n2] at hm'
    by_cases hmm : m' = nM r
    · subst hmm
      rw [htn]
      unfold cJn cHl cAdm
      simp (disch := omega) only [mI_n, mI_An, mI_s]
    · have : mI (cJn μ s (nM r) p t dn) (s + 5 + 3 * m') 0 = mI μ (s + 5 + 3 * m') 0 := cJn_n (by omega) (by omega) (by omega) (by omega) (by omega)
      rw [this]
      exact b9 m' (by omega)
  · refine (hC.mu (fun a h1 h2 k => ?_)).eq hO0 (fun x h1 h2 => lo x (by omega))
    exact cJn_n (by omega) (by omega) (by omega) (by omega) (by omega)
theorem fGiv_m1 {V : VW} {n q : Nat} {but : Int32} (hV : okV V n) : fGiv V n q (-1) but = none := by
  unfold fGiv
  cases hw : fWin V n q (-1) with
  | none => rfl
  | some w =>
    obtain ⟨w1, w2, w3⟩ := fWin_some hw
    exact absurd (Int32.le_trans (hV w w1).2.1 w3.1) (by decide)
/-- the donor of one who joins -/
def jdn (r : Nat → Int32) : Option Nat := fGiv (rW r) (nM r) (nQ r) (fExt (rW r) (nI 0) (nM r)) (-1)
theorem jdn_some (hO : okR r) (h : jdn r = some dn) : dn < nM r ∧ fExt (rW r) (nI 0) (nM r) = nI (nE (rW r) dn) ∧ nE (rW r) dn ≤ 40 := by
  have hV := hO.2.2.2.2.2.2.2.2.2.2.2.2.2.2.1
  obtain ⟨g1, -, -, g4⟩ := fGiv_some h
  have vE := okBE hV g1
  exact ⟨g1, by rw [← g4]; exact vE.2.1, vE.2.2.2⟩
theorem c_127a (hW : ShR μ s c) (hB : RelB μ s r) (hO : okR r) (hx : ¬ (nI 1 ≤ x ∧ x ≤ nI 4)) : Ev (d + 6) 127 [.ref 1000, .int x] μ Q = Q (some (some (.int (-2)))) μ := by
  have hW0 := hW
  obtain ⟨w0, w1, w2, w3, w4, w5, w6, w7, w8, w9, w10, w11, w12, w13, w14, w15⟩ := hW
  have hS0 := w12
  obtain ⟨q0, q1, q2, q3, q4, q5, q6, q7, q8, q9, q10, q11, q12, q13, q14, q15⟩ := w12
  have hB9 := hB
  obtain ⟨b1, b2, b3, b4, b5, b6, b7, b8⟩ := hB
  have hO0 := hO
  obtain ⟨o2, o6, o387, oT, o1708, oO, o1741, oF, o1, oq1, oq6, o0, ol1, ol40, oV, oN1, oP1, oF1⟩ := hO
  have hn : mI μ s 1 = nI (nM r) := b1.trans o2
  have hq9 : mI μ (s + 2) 1 = nI (nQ r) := b6.trans o1
  have hV := b7.ok' oV
  rw [in_127]
  simp (disch := first | omega | rfl) only [e_127_0, e_127_1, e_127_2, e_127_3, e_127_6, e_127_9, e_127_11, e_127_12, e_127_13, e_127_16, e_127_19, e_127_21, e_127_24, e_127_26, e_127_27, e_127_28, e_127_31, e_127_32, e_127_35, e_127_36, e_127_37, e_127_40, e_127_41, e_127_42, e_127_45, e_127_46, e_127_47, e_127_48, e_127_51, e_127_53, e_127_54, e_127_55, e_127_58, e_127_59, e_127_62, e_127_63, e_127_64, e_127_65, e_127_68, e_127_70, e_127_71, e_127_74, e_127_77, e_127_78, e_127_79, e_127_81, e_127_84, e_127_87, e_127_88, e_127_89, e_127_92, e_127_95, e_127_96, e_127_97, w0, w1, w2, w3, w4, w5, w6, w7, w8, w9, w10, q1, q2, q3, q4, q5, q6, q7, q8, q9, q10, q11, q12, q13, q14, q15, b1, b2, b3, b4, b5, b6, o2, o387, o1708, o1741, o1, o0, ge1, ule_t, true_or, or_true, nI_add, nI_mul, nI_sub, nI_clamp, nI_lt_t, nI_lt_f, nI_le_t, nI_le_f, nI_eq_t, nI_eq_f, vp_nI, tI, fI, not_true, not_false_iff, true_and, and_true, Classical.not_not, mS_uI, mS_uA, mS_uJ, mS_uR, mS_uX, mR_uI, mR_uA, mR_uJ, mR_uX, mX_uI, mX_uA, mX_uJ, mX_uR, mI_s, mI_n, mI_A, mI_An, mI_uJ, mI_uR, mI_uX, mJ_uI, mJ_uA, mJ_uR, mJ_uX, onR_s, kC_v, kC_n, kC_t, ul0, ula1, ula2, ula3, ula4, ulb2, ulb3, ulb4, ulc2, ulc3, ulc4, ule4, ulf3, ulf4, s_155, bI_fi hx]
theorem c_127b (hW : ShR μ s c) (hB : RelB μ s r) (hO : okR r) (hp : 1 ≤ p) (hp4 : p ≤ 4) (h6 : nM r = 6) : Ev (d + 6) 127 [.ref 1000, .int (nI p)] μ Q = Q (some (some (.int (-3)))) μ := by
  have hW0 := hW
  obtain ⟨w0, w1, w2, w3, w4, w5, w6, w7, w8, w9, w10, w11, w12, w13, w14, w15⟩ := hW
  have hS0 := w12
  obtain ⟨q0, q1, q2, q3, q4, q5, q6, q7, q8, q9, q10, q11, q12, q13, q14, q15⟩ := w12
  have hB9 := hB
  obtain ⟨b1, b2, b3, b4, b5, b6, b7, b8⟩ := hB
  have hO0 := hO
  obtain ⟨o2, o6, o387, oT, o1708, oO, o1741, oF, o1, oq1, oq6, o0, ol1, ol40, oV, oN1, oP1, oF1⟩ := hO
  have hn : mI μ s 1 = nI (nM r) := b1.trans o2
  have hq9 : mI μ (s + 2) 1 = nI (nQ r) := b6.trans o1
  have hV := b7.ok' oV
  have hg : nI 1 ≤ nI p ∧ nI p ≤ nI 4 := ⟨nI_le hp (by omega), nI_le (by omega) (by omega)⟩
  rw [in_127]
  simp (disch := first | omega | rfl) only [e_127_0, e_127_1, e_127_2, e_127_3, e_127_6, e_127_9, e_127_11, e_127_12, e_127_13, e_127_16, e_127_19, e_127_21, e_127_24, e_127_26, e_127_27, e_127_28, e_127_31, e_127_32, e_127_35, e_127_36, e_127_37, e_127_40, e_127_41, e_127_42, e_127_45, e_127_46, e_127_47, e_127_48, e_127_51, e_127_53, e_127_54, e_127_55, e_127_58, e_127_59, e_127_62, e_127_63, e_127_64, e_127_65, e_127_68, e_127_70, e_127_71, e_127_74, e_127_77, e_127_78, e_127_79, e_127_81, e_127_84, e_127_87, e_127_88, e_127_89, e_127_92, e_127_95, e_127_96, e_127_97, w0, w1, w2, w3, w4, w5, w6, w7, w8, w9, w10, q1, q2, q3, q4, q5, q6, q7, q8, q9, q10, q11, q12, q13, q14, q15, b1, b2, b3, b4, b5, b6, o2, o387, o1708, o1741, o1, o0, ge1, ule_t, true_or, or_true, nI_add, nI_mul, nI_sub, nI_clamp, nI_lt_t, nI_lt_f, nI_le_t, nI_le_f, nI_eq_t, nI_eq_f, vp_nI, tI, fI, not_true, not_false_iff, true_and, and_true, Classical.not_not, mS_uI, mS_uA, mS_uJ, mS_uR, mS_uX, mR_uI, mR_uA, mR_uJ, mR_uX, mX_uI, mX_uA, mX_uJ, mX_uR, mI_s, mI_n, mI_A, mI_An, mI_uJ, mI_uR, mI_uX, mJ_uI, mJ_uA, mJ_uR, mJ_uX, onR_s, kC_v, kC_n, kC_t, ul0, ula1, ula2, ula3, ula4, ulb2, ulb3, ulb4, ulc2, ulc3, ulc4, ule4, ulf3, ulf4, s_155, bI_ti hg, bI_T, h6]
theorem c_127c (hW : ShR μ s c) (hB : RelB μ s r) (hO : okR r) (hp : 1 ≤ p) (hp4 : p ≤ 4) (h6 : nM r < 6) (hj : jdn r = none) : Ev (d + 6) 127 [.ref 1000, .int (nI p)] μ Q = Q (some (some (.int (-4)))) μ := by
  have h85 := fun (d : Nat) (Q : Po) => c_85 (d := d) (Q := Q) (tt := fExt (rW r) (nI 0) (nM r)) (but := -1) hW hB hO
  rw [show fGiv (rW r) (nM r) (nQ r) (fExt (rW r) (nI 0) (nM r)) (-1) = none from hj, oN] at h85
  have hW0 := hW
  obtain ⟨w0, w1, w2, w3, w4, w5, w6, w7, w8, w9, w10, w11, w12, w13, w14, w15⟩ := hW
  have hS0 := w12
  obtain ⟨q0, q1, q2, q3, q4, q5, q6, q7, q8, q9, q10, q11, q12, q13, q14, q15⟩ := w12
  have hB9 := hB
  obtain ⟨b1, b2, b3, b4, b5, b6, b7, b8⟩ := hB
  have hO0 := hO
  obtain ⟨o2, o6, o387, oT, o1708, oO, o1741, oF, o1, oq1, oq6, o0, ol1, ol40, oV, oN1, oP1, oF1⟩ := hO
  have hn : mI μ s 1 = nI (nM r) := b1.trans o2
  have hq9 : mI μ (s + 2) 1 = nI (nQ r) := b6.trans o1
  have hV := b7.ok' oV
  have hg : nI 1 ≤ nI p ∧ nI p ≤ nI 4 := ⟨nI_le hp (by omega), nI_le (by omega) (by omega)⟩
  rw [in_127]
  simp (disch := first | omega | rfl) only [e_127_0, e_127_1, e_127_2, e_127_3, e_127_6, e_127_9, e_127_11, e_127_12, e_127_13, e_127_16, e_127_19, e_127_21, e_127_24, e_127_26, e_127_27, e_127_28, e_127_31, e_127_32, e_127_35, e_127_36, e_127_37, e_127_40, e_127_41, e_127_42, e_127_45, e_127_46, e_127_47, e_127_48, e_127_51, e_127_53, e_127_54, e_127_55, e_127_58, e_127_59, e_127_62, e_127_63, e_127_64, e_127_65, e_127_68, e_127_70, e_127_71, e_127_74, e_127_77, e_127_78, e_127_79, e_127_81, e_127_84, e_127_87, e_127_88, e_127_89, e_127_92, e_127_95, e_127_96, e_127_97, w0, w1, w2, w3, w4, w5, w6, w7, w8, w9, w10, q1, q2, q3, q4, q5, q6, q7, q8, q9, q10, q11, q12, q13, q14, q15, b1, b2, b3, b4, b5, b6, o2, o387, o1708, o1741, o1, o0, ge1, ule_t, true_or, or_true, nI_add, nI_mul, nI_sub, nI_clamp, nI_lt_t, nI_lt_f, nI_le_t, nI_le_f, nI_eq_t, nI_eq_f, vp_nI, tI, fI, not_true, not_false_iff, true_and, and_true, Classical.not_not, mS_uI, mS_uA, mS_uJ, mS_uR, mS_uX, mR_uI, mR_uA, mR_uJ, mR_uX, mX_uI, mX_uA, mX_uJ, mX_uR, mI_s, mI_n, mI_A, mI_An, mI_uJ, mI_uR, mI_uX, mJ_uI, mJ_uA, mJ_uR, mJ_uX, onR_s, kC_v, kC_n, kC_t, ul0, ula1, ula2, ula3, ula4, ulb2, ulb3, ulb4, ulc2, ulc3, ulc4, ule4, ulf3, ulf4, s_155, bI_ti hg, bI_T, c_80 hW0 hB9 hO0, h85]
theorem c_127 (hI : CI μ s c r u pr tn) (hA : AI r u pr tn) (hp : 1 ≤ p) (hp4 : p ≤ 4) (h6 : nM r < 6) (hj : jdn r = some dn) (hq : ∀ μ1, FrC s c μ μ1 → CI μ1 s c (rJn r (nM r) p (nE (rW r) dn) dn) (u2 u) (pr2 u pr r) tn → Q (some (some (.int (nI (nM r))))) μ1) : Ev (d + 6) 127 [.ref 1000, .int (nI p)] μ Q := by
  obtain ⟨hW, hRS, hN, hC, hE, hRing⟩ := id hI
  have hO := hA.1
  have hB := hN.1
  have h85 := fun (d : Nat) (Q : Po) => c_85 (d := d) (Q := Q) (tt := fExt (rW r) (nI 0) (nM r)) (but := -1) hW hB hO
  rw [show fGiv (rW r) (nM r) (nQ r) (fExt (rW r) (nI 0) (nM r)) (-1) = some dn from hj, oN] at h85
  obtain ⟨j1, j2, j3⟩ := jdn_some hO hj
  obtain ⟨-, -, -, -, ⟨n0, t1, t2, -⟩, -⟩ := id hA
  have htn := t1 (nM r) t2 h6
  have hW0 := hW
  obtain ⟨w0, w1, w2, w3, w4, w5, w6, w7, w8, w9, w10, w11, w12, w13, w14, w15⟩ := hW
  have hS0 := w12
  obtain ⟨q0, q1, q2, q3, q4, q5, q6, q7, q8, q9, q10, q11, q12, q13, q14, q15⟩ := w12
  have hB9 := hB
  obtain ⟨b1, b2, b3, b4, b5, b6, b7, b8⟩ := hB
  have hO0 := hO
  obtain ⟨o2, o6, o387, oT, o1708, oO, o1741, oF, o1, oq1, oq6, o0, ol1, ol40, oV, oN1, oP1, oF1⟩ := hO
  have hn : mI μ s 1 = nI (nM r) := b1.trans o2
  have hq9 : mI μ (s + 2) 1 = nI (nQ r) := b6.trans o1
  have hV := b7.ok' oV
  have hg : nI 1 ≤ nI p ∧ nI p ≤ nI 4 := ⟨nI_le hp (by omega), nI_le (by omega) (by omega)⟩
  have hm1 : (nI dn = -1) = False := nI_m1 (by omega)
  rw [in_127]
  simp (disch := first | omega | rfl) only [e_127_0, e_127_1, e_127_2, e_127_3, e_127_6, e_127_9, e_127_11, e_127_12, e_127_13, e_127_16, e_127_19, e_127_21, e_127_24, e_127_26, e_127_27, e_127_28, e_127_31, e_127_32, e_127_35, e_127_36, e_127_37, e_127_40, e_127_41, e_127_42, e_127_45, e_127_46, e_127_47, e_127_48, e_127_51, e_127_53, e_127_54, e_127_55, e_127_58, e_127_59, e_127_62, e_127_63, e_127_64, e_127_65, e_127_68, e_127_70, e_127_71, e_127_74, e_127_77, e_127_78, e_127_79, e_127_81, e_127_84, e_127_87, e_127_88, e_127_89, e_127_92, e_127_95, e_127_96, e_127_97, w0, w1, w2, w3, w4, w5, w6, w7, w8, w9, w10, q1, q2, q3, q4, q5, q6, q7, q8, q9, q10, q11, q12, q13, q14, q15, b1, b2, b3, b4, b5, b6, o2, o387, o1708, o1741, o1, o0, ge1, ule_t, true_or, or_true, nI_add, nI_mul, nI_sub, nI_clamp, nI_lt_t, nI_lt_f, nI_le_t, nI_le_f, nI_eq_t, nI_eq_f, vp_nI, tI, fI, not_true, not_false_iff, true_and, and_true, Classical.not_not, mS_uI, mS_uA, mS_uJ, mS_uR, mS_uX, mR_uI, mR_uA, mR_uJ, mR_uX, mX_uI, mX_uA, mX_uJ, mX_uR, mI_s, mI_n, mI_A, mI_An, mI_uJ, mI_uR, mI_uX, mJ_uI, mJ_uA, mJ_uR, mJ_uX, onR_s, kC_v, kC_n, kC_t, ul0, ula1, ula2, ula3, ula4, ulb2, ulb3, ulb4, ulc2, ulc3, ulc4, ule4, ulf3, ulf4, s_155, bI_ti hg, bI_T, c_80 hW0 hB9 hO0, h85, hm1]
  refine c_148 hI hA (fun μ1 hf hk1 hI1 => ?_)
  obtain ⟨x0, x1, x2, x3, x4, x5, x6, x7, x8, x9, x10, x11, x12, x13, x14, x15⟩ := hI1.1
  obtain ⟨y0, y1, y2, y3, y4, y5, y6, y7, y8, y9, y10, y11, y12, y13, y14, y15⟩ := x12
  obtain ⟨c1, c2, c3, c4, c5, c6, c7, c8⟩ := hI1.2.2.1.1
  have hrel := rel_join ⟨x14, x15⟩ hI1.2.2.1 hI1.2.2.2.1 hO0 hA.2.1 h6 hp hp4 j1 rfl htn
  have hS1 := hI1.1.2.2.2.2.2.2.2.2.2.2.2.2.1
  have hfa := cAdm_fr (μ := μ1) (s := s) (c := c) (n := nM r) (p := p) (t := nE (rW r) dn) (x := nI 0) h6
  have hfr : FrX s c μ1 (cJn μ1 s (nM r) p (nE (rW r) dn) dn) := hfa.trans (cHl_fr (by omega) (by omega))
  have h75 := fun (d : Nat) (Q : Po) => s_75 (d := d) (Q := Q) (n := nM r) (p := p) (t := nE (rW r) dn) (x := nI 0) hS1 (c1.trans o2) h6
  have h126 := fun (d : Nat) (Q : Po) => s_126 (d := d) (Q := Q) (μ := cAdm μ1 s (nM r) p (nE (rW r) dn) (nI 0)) (s := s) (m := nM r) (dn := dn) (w := 65535) (t := nE (rW r) dn) (hfa.st hS1) (by omega) (by omega) (by omega) (by omega) (by unfold cAdm; simp (disch := omega) only [mI_n, mI_s]) j3
  have t3 : mR (cAdm μ1 s (nM r) p (nE (rW r) dn) (nI 0)) = mR μ1 := hfa.rf
  have t4 : mS (cAdm μ1 s (nM r) p (nE (rW r) dn) (nI 0)) = mS μ1 := hfa.sh
  have t5 : mR (cHl (cAdm μ1 s (nM r) p (nE (rW r) dn) (nI 0)) s (nM r) dn 65535 (nE (rW r) dn)) = mR μ1 := hfr.rf
  have t6 : mS (cHl (cAdm μ1 s (nM r) p (nE (rW r) dn) (nI 0)) s (nM r) dn 65535 (nE (rW r) dn)) = mS μ1 := hfr.sh
  have t7 : mI (cHl (cAdm μ1 s (nM r) p (nE (rW r) dn) (nI 0)) s (nM r) dn 65535 (nE (rW r) dn)) s 1 = nI (nM r + 1) := by
    unfold cHl cAdm
    simp (disch := omega) only [mI_n, mI_An, mI_s]
  have hcn : ∀ a k, c ≤ a → a ≤ c + 4 → mI (cJn μ1 s (nM r) p (nE (rW r) dn) dn) a k = mI μ1 a k := fun a k h1 h2 => cJn_n (by omega) (by omega) (by omega) (by omega) (by omega)
  simp (disch := first | omega | rfl) only [e_127_0, e_127_1, e_127_2, e_127_3, e_127_6, e_127_9, e_127_11, e_127_12, e_127_13, e_127_16, e_127_19, e_127_21, e_127_24, e_127_26, e_127_27, e_127_28, e_127_31, e_127_32, e_127_35, e_127_36, e_127_37, e_127_40, e_127_41, e_127_42, e_127_45, e_127_46, e_127_47, e_127_48, e_127_51, e_127_53, e_127_54, e_127_55, e_127_58, e_127_59, e_127_62, e_127_63, e_127_64, e_127_65, e_127_68, e_127_70, e_127_71, e_127_74, e_127_77, e_127_78, e_127_79, e_127_81, e_127_84, e_127_87, e_127_88, e_127_89, e_127_92, e_127_95, e_127_96, e_127_97, kC_n, x0, x1, x2, x3, x4, x5, x6, x7, x8, x9, x10, y0, y1, y2, y3, y4, y5, y6, y7, y8, y9, y10, y11, y12, y13, y14, y15, c1, c2, c3, c4, c5, c6, ge1, ule_t, true_or, or_true, nI_add, nI_mul, nI_sub, nI_clamp, nI_lt_t, nI_lt_f, nI_le_t, nI_le_f, nI_eq_t, nI_eq_f, vp_nI, tI, fI, not_true, not_false_iff, true_and, and_true, Classical.not_not, mS_uI, mS_uA, mS_uJ, mS_uR, mS_uX, mR_uI, mR_uA, mR_uJ, mR_uX, mX_uI, mX_uA, mX_uJ, mX_uR, mI_s, mI_n, mI_A, mI_An, mI_uJ, mI_uR, mI_uX, mJ_uI, mJ_uA, mJ_uR, mJ_uX, onR_s, kC_v, kC_n, kC_t, j2, h75, t3, t4, h126, t5, t6, t7, Nat.add_sub_cancel]
  exact hq _ (FrC.of hf hk1 hfr ⟨x14, x15⟩) (hI1.step hA.pp hfr (fun k => hcn _ _ (by omega) (by omega)) (fun k hk => hcn _ _ (by omega) (by omega)) (fun k hk => hcn _ _ (by omega) (by omega)) (fun k hk => hcn _ _ (by omega) (by omega)) hA.p8 hrel.1 hrel.2)
end JnC


