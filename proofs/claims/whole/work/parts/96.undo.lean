/-! undo, feed, write -/
section Und
variable {d L : Nat} {xs : Nat → Int32} {μ μ' μ1 μ2 : Mu} {x x1 x2 x3 x4 x5 : Int32} {s c s2 c2 u n v k : Nat} {r tn : Nat → Int32} {pr : Nat → Nat → Int32} {f : Nat → Nat} {S : WP} {V : VW} {m w : Nat}
theorem AI.und (hA : AI r (u + 1) pr tn) : AI (pr u) u pr tn := by
  obtain ⟨a1, a2, a3, a4, ⟨n0, a5, a6, a7⟩, a8⟩ := hA
  obtain ⟨b1, b2, b3, b4⟩ := a4 u (by omega)
  refine ⟨b1, b2, by omega, fun j hj => ?_, ⟨n0, a5, a7 u (by omega), fun j hj => a7 j (by omega)⟩, a8⟩
  obtain ⟨c1, c2, c3, c4⟩ := a4 j (by omega)
  exact ⟨c1, c2, b4 j hj, c4⟩
theorem CI.gen2 (hS : mS μ' = mS μ) (hR : mR μ' = mR μ) (e : ∀ a, (s ≤ a ∧ a ≤ s + 22) ∨ (c ≤ a ∧ a ≤ c + 4) ∨ (1068 ≤ a ∧ a < 1298) → ∀ k, mI μ' a k = mI μ a k) (e3 : mI μ' 1000 3 = mI μ 1000 3) (e4 : mI μ' 1000 4 = mI μ 1000 4) (hI : CI μ s c r u pr tn) (h6 : nM r ≤ 6) (hu : u ≤ 10) (hP : ∀ j, j < u → nM (pr j) ≤ 6) : CI μ' s c r u pr tn := by
  obtain ⟨hW, hRS, hN, hC, hE, k4, l, hl, k3, hRg⟩ := hI
  refine ⟨hW.gen hS hR, fun i hi => (hRS i hi).gen hS hR, hN.fr h6 (fun a h1 h2 k => e a (by omega) k), hC.mu (fun a h1 h2 k => e a (by omega) k), fun k hk => (e _ (by omega) k).trans (hE k hk), e4.trans k4, l, hl, e3.trans k3, fun i hi => ?_⟩
  obtain ⟨g1, g2⟩ := hRg i hi
  have hm : (l + 10 - i) % 10 < 10 := Nat.mod_lt _ (by omega)
  exact ⟨g1.fr (hP _ (by omega)) (fun a h1 h2 k => e a (by omega) k), g2.mu (fun a h1 h2 k => e a (by omega) k)⟩
theorem p_147 (h : Inv L xs μ) : Two (d + 20) 147 [] 267 [] L xs μ := by
  unfold Two
  have h0 := h
  obtain ⟨s, c, s2, c2, u, f, n, v, hCo, hP, hR⟩ := h
  have hI := hCo.1
  have hA := hCo.2.1
  have h8 := hCo.2.2
  have hW := hI.1
  have hB := hI.2.2.1.1
  have hC := hI.2.2.2.1
  have hO := hA.1
  have hN3 := hA.2.1
  have hN2 := hA.2.1.1
  have hRN := hA.2.1.1.1
  have hK := hA.2.1.2
  have hu := hA.2.2.1
  have hM := hR.1
  have m6 := hO.2.1
  have T40 := hO.2.2.2.1
  have O8 := hO.2.2.2.2.2.1
  have F10 := hO.2.2.2.2.2.2.2.1
  have oV := hO.2.2.2.2.2.2.2.2.2.2.2.2.2.2.1
  rcases Nat.eq_zero_or_pos u with rfl | hu0
  · rw [c_147n hI]
    exact ⟨_, rfl, Bs.refl, by rw [m_267n hM h8]; exact ⟨rfl, h0.rd RdF.refl.z⟩⟩
  · obtain ⟨u, rfl⟩ : ∃ u', u = u' + 1 := ⟨u - 1, by omega⟩
    refine c_147 hI hA (fun μ1 hf0 hk hI1 => ?_)
    have hf : FrC s c μ μ1 := ⟨hf0.mono (fun a ha => by unfold PC; omega), hk⟩
    obtain ⟨e2, e0, e4, hM1, h81⟩ := hCo.cc hP hR hf
    refine ⟨_, rfl, hf.bs hP, ?_⟩
    rw [m_267 hM1 (by rw [e2]; exact hRN) h81 (by omega)]
    have e5 : prM (uA (uI (uI μ1 1298 0 (nI 0)) 1298 8 (nI u)) 1302 (prM μ1 u)) = prM μ := (prM_fr (fun x => by rw [mI_An (by omega), mI_n (by omega), mI_n (by omega)])).trans e4
    refine ⟨rfl, Inv.chg hP hR hf hI1 (μ2 := uA (uI (uI μ1 1298 0 (nI 0)) 1298 8 (nI u)) 1302 (prM μ1 u)) ?_ ?_ ?_ (fun j hj => by rw [e5]) hA.und⟩
    · exact ⟨((Fr.refl.iu (Or.inl rfl)).iu (Or.inl rfl)).au (Or.inr (Or.inl rfl)), fun k k0 k8 _ _ => by rw [mI_An (by omega), mI_n (by omega), mI_n (by omega)]⟩
    · funext j; rw [mI_A, e4]
    · rw [mI_An (by omega), mI_s]
theorem LdC.gen (hS : mS μ' = mS μ) (hR : mR μ' = mR μ) (h : LdC μ f n) {g : Nat → Nat} {k : Nat} (hg : ∀ j, j < k → mI μ' 1031 j = sgB (g j)) (hg2 : ∀ j, g j < 256) (hk : k ≤ 900) : LdC μ' g k := by
  obtain ⟨g1, g2, g3, -, -, -⟩ := h
  exact ⟨by rw [hS]; exact g1, by rw [hR]; exact g2, by rw [hS]; exact g3, hg, hg2, hk⟩
theorem p_89 (h : Inv L xs μ) : Two (d + 20) 89 [.int x1, .int x2, .int x3, .int x4, .int x5] 162 [.int x1, .int x2, .int x3, .int x4, .int x5] L xs μ := by
  unfold Two
  have h0 := h
  obtain ⟨s, c, s2, c2, u, f, n, v, hCo, hP, hR⟩ := h
  have hI := hCo.1
  have hA := hCo.2.1
  have h8 := hCo.2.2
  have hW := hI.1
  have hB := hI.2.2.1.1
  have hC := hI.2.2.2.1
  have hO := hA.1
  have hN3 := hA.2.1
  have hN2 := hA.2.1.1
  have hRN := hA.2.1.1.1
  have hK := hA.2.1.2
  have hu := hA.2.2.1
  have hM := hR.1
  have m6 := hO.2.1
  have T40 := hO.2.2.2.1
  have O8 := hO.2.2.2.2.2.1
  have F10 := hO.2.2.2.2.2.2.2.1
  have oV := hO.2.2.2.2.2.2.2.2.2.2.2.2.2.2.1
  have w0 := hW.1
  have w4 := hW.2.2.2.2.1
  have hR0 := hR
  obtain ⟨-, ⟨l1, l2, l3, l4, l5, l6, l7⟩, r3, ⟨S, z1, z2, z3, z4, z5⟩, r5, r6⟩ := hR0
  have l1' := l1
  obtain ⟨⟨g1, g2, g3, g4, g5, g6⟩, t1, t2, t3, t4, t5, t6⟩ := l1'
  by_cases hn : n ≤ 880
  · refine c_89 w0 w4 ⟨g1, g2, g3⟩ l5 hn (fun μ1 hf hk n1 b1 b2 => ?_)
    have hS1 : mS μ1 = mS μ := hf.sh
    have hR1 : mR μ1 = mR μ := hf.rf
    have q : ∀ a, a ≠ 1000 → a ≠ 1031 → ∀ k, mI μ1 a k = mI μ a k := fun a h1 h2 k => hf.2.2.2 a (by unfold FT; omega) k
    refine ⟨_, rfl, ⟨congrFun hS1 300, congrFun hS1 1298, q 300 (by omega) (by omega)⟩, ?_⟩
    rw [m_162 (hM.gen hS1 hR1) ((q 1298 (by omega) (by omega) 2).trans l6) hn]
    generalize hμ2 : uI (uA (uI μ1 1298 0 (nI 0)) 1299 (fdM (mI μ1 1299) n (fB5 x1 x2 x3 x4 x5) 20)) 1298 2 (nI (n + 20)) = μ2
    have hS2 : mS μ2 = mS μ := by rw [← hμ2]; exact hS1
    have hR2 : mR μ2 = mR μ := by rw [← hμ2]; exact hR1
    have q2 : ∀ a, a ≠ 1298 → a ≠ 1299 → ∀ k, mI μ2 a k = mI μ1 a k := fun a h1 h2 k => by rw [← hμ2, mI_n (by omega), mI_An (by omega), mI_n (by omega)]
    have q3 : ∀ a, a ≠ 1000 → a ≠ 1031 → a ≠ 1298 → a ≠ 1299 → ∀ k, mI μ2 a k = mI μ a k := fun a h1 h2 h3 h4 k => (q2 a h3 h4 k).trans (q a h1 h2 k)
    have q8 : ∀ k, k ≠ 0 → k ≠ 2 → mI μ2 1298 k = mI μ 1298 k := fun k h1 h2 => by rw [← hμ2, mI_n (by omega), mI_An (by omega), mI_n (by omega)]; exact q 1298 (by omega) (by omega) k
    have k10 : ∀ k, k ≠ 6 → mI μ2 1000 k = mI μ 1000 k := fun k h1 => (q2 1000 (by omega) (by omega) k).trans (hk k h1)
    have e0 : mI μ2 1300 = mI μ 1300 := by funext j; exact q3 1300 (by omega) (by omega) (by omega) (by omega) j
    have e2 : mI μ2 1302 = mI μ 1302 := by funext j; exact q3 1302 (by omega) (by omega) (by omega) (by omega) j
    have e4 : prM μ2 = prM μ := prM_fr (fun x => q3 1304 (by omega) (by omega) (by omega) (by omega) x)
    have hss := hP
    unfold Pai at hss
    have hsc : (s = 1001 ∨ s = 1032) ∧ (c = 1024 ∨ c = 1055) := by omega
    refine ⟨rfl, s, c, s2, c2, u, fun k => if k < n then f k else fB5 x1 x2 x3 x4 x5 (k - n), n + 20, v, ⟨?_, ?_, (q8 8 (by omega) (by omega)).trans h8⟩, hP, hM.gen hS2 hR2, ⟨⟨?_, t1.gen hS2 hR2 (fun a ha => q3 a (by omega) (by omega) (by omega) (by omega)), by rw [hR2]; exact t2, by rw [hR2]; exact t3, t4.gen hS2 hR2, t5.gen hS2 hR2, t6⟩, (q3 1030 (by omega) (by omega) (by omega) (by omega) 9).trans l2, l3, (q8 18 (by omega) (by omega)).trans l4, (q2 1000 (by omega) (by omega) 6).trans n1, ?_, fun k hk => ?_⟩, ?_, ⟨S, z1.gen ?_ hS2 hR2 (fun a ha => q3 a (by omega) (by omega) (by omega) (by omega)), z2, z3, (q8 26 (by omega) (by omega)).trans z4, fun j hj => (q3 1308 (by omega) (by omega) (by omega) (by omega) j).trans (z5 j hj)⟩, r5.gen hS2 (fun a ha => q3 a (by omega) (by omega) (by omega) (by omega)), by rw [e0]; exact r6⟩
    · rw [e0, e2, e4]
      exact hI.gen2 hS2 hR2 (fun a ha => q3 a (by omega) (by omega) (by omega) (by omega)) (k10 3 (by omega)) (k10 4 (by omega)) m6 hu (fun j hj => (hA.2.2.2.1 j hj).1.2.1)
    · rw [e0, e2, e4]
      exact hA
    · refine l1.1.gen hS2 hR2 (fun j hj => ?_) (fun j => ?_) (by omega)
      · rw [q2 1031 (by omega) (by omega)]
        show _ = sgB (if j < n then f j else fB5 x1 x2 x3 x4 x5 (j - n))
        by_cases hjn : j < n
        · rw [if_pos hjn, b1 j hjn]; exact g4 j hjn
        · rw [if_neg hjn, ← b2 (j - n) (by omega)]
          congr 1
          omega
      · show (if j < n then f j else fB5 x1 x2 x3 x4 x5 (j - n)) < 256
        split
        · exact g5 j
        · unfold fB5; exact fB_lt
    · rw [← hμ2, mI_s]
    · show mI μ2 1299 k = nI (if k < n then f k else fB5 x1 x2 x3 x4 x5 (k - n))
      rw [← hμ2, mI_n (by omega), mI_A]
      unfold fdM
      by_cases hkn : k < n
      · rw [if_neg (by omega), if_pos hkn]; exact (q 1299 (by omega) (by omega) k).trans (l7 k hkn)
      · rw [if_pos (by omega), if_neg hkn]
    · rw [k10 7 (by omega), q8 21 (by omega) (by omega)]; exact r3
    · rw [← hμ2]; exact Nat.le_of_eq hf.nx.symm
  · rw [c_89f w0 l5 g6 (by omega)]
    exact ⟨_, rfl, Bs.refl, by rw [m_162f hM l6 g6 (by omega)]; exact ⟨rfl, h0.rd RdF.refl.z⟩⟩
theorem apC_lt {ch : Nat} (h : ∀ j, j < S.1 → S.2 j < 128) (hc : ch < 128) : ∀ j, j < (apC S ch).1 → (apC S ch).2 j < 128 := fun j hj => by
  show (if j = S.1 then ch else S.2 j) < 128
  have hj' : j < S.1 + 1 := hj
  split
  · exact hc
  · exact h j (by omega)
theorem apN_lt {z : Nat} (h : ∀ j, j < S.1 → S.2 j < 128) : ∀ j, j < (apN S z).1 → (apN S z).2 j < 128 := fun j hj => by
  show (if S.1 ≤ j then fDg z (j - S.1) else S.2 j) < 128
  split
  · unfold fDg
    have := Nat.mod_lt (z / 10 ^ (fNd z - 1 - (j - S.1))) (show 0 < 10 by decide)
    omega
  · exact h j (by omega)
theorem nlW_lt (h : ∀ j, j < S.1 → S.2 j < 128) : ∀ t j, j < (nlW w S t).1 → (nlW w S t).2 j < 128
  | 0 => h
  | t + 1 => by
    rw [nlW]
    split
    · exact nlW_lt h t
    · exact apC_lt (nlW_lt h t) (by have := Nat.mod_lt (w / 2 ^ (5 * (5 - t))) (show 0 < 32 by decide); unfold lt5; omega)
theorem clW_lt (h : ∀ j, j < S.1 → S.2 j < 128) : ∀ i j, j < (clW V m S i).1 → (clW V m S i).2 j < 128
  | 0 => h
  | i + 1 => apN_lt (apC_lt (clW_lt h i) (by omega))
theorem nm0_lt : ∀ j, j < (nm0 w).1 → (nm0 w).2 j < 128 := by
  unfold nm0
  split
  · exact apC_lt (fun j hj => absurd hj (Nat.not_lt_zero j)) (by omega)
  · exact nlW_lt (fun j hj => absurd hj (Nat.not_lt_zero j)) 6
theorem wrW_ok : (wrW V m w).1 ≤ 87 ∧ ∀ j, j < (wrW V m w).1 → (wrW V m w).2 j < 128 := by
  refine ⟨?_, clW_lt (apC_lt nm0_lt (by omega)) 16⟩
  have h1 := clW_le (V := V) (m := m) (s := apC (nm0 w) 58) 16
  have h2 := nm0_le (w := w)
  have h3 : (apC (nm0 w) 58).1 = (nm0 w).1 + 1 := rfl
  unfold wrW
  omega
theorem DgS.gen (hS : mS μ' = mS μ) (e : ∀ a, a < 1000 → ∀ k, mI μ' a k = mI μ a k) (h : DgS μ) : DgS μ' := by
  obtain ⟨d1, d2, d3, d4⟩ := h
  exact ⟨by rw [hS]; exact d1, by rw [hS]; exact d2, fun k hk => by rw [e _ (by omega)]; exact d3 k hk, fun k hk => by rw [e _ (by omega)]; exact d4 k hk⟩
theorem FrB.dg (hf : FrB μ μ1) (h : DgS μ) : DgS μ1 := h.fr hf
theorem FrB.ld (hf : FrB μ μ1) (h : LdS μ f n s2 c2) : LdS μ1 f n s2 c2 := by
  obtain ⟨⟨g1, g2, g3, g4, g5, g6⟩, t1, t2, t3, t4, t5, t6⟩ := h
  refine ⟨⟨by rw [hf.S (by omega)]; exact g1, by rw [hf.R (by omega)]; exact g2, by rw [hf.S (by omega)]; exact g3, fun k hk => by rw [hf.I (by omega)]; exact g4 k hk, g5, g6⟩, fun i hi h2 => ?_, by rw [hf.R (by omega)]; exact t2, by rw [hf.R (by omega)]; exact t3, hf.st (by omega) t4, hf.sc (by omega) t5, t6⟩
  obtain ⟨⟨u1, u2, u3, u4⟩, u5⟩ := t1 i hi h2
  exact ⟨⟨by rw [hf.S (by omega)]; exact u1, by rw [hf.R (by omega)]; exact u2, by rw [hf.I (by omega)]; exact u3, by rw [hf.S (by omega)]; exact u4⟩, fun j hj => by rw [hf.I (by omega)]; exact u5 j hj⟩
theorem p_303 (h : Inv L xs μ) : TwT (d + 20) 303 [.int x, .ref 1309] 280 [.int x] L xs μ := by
  unfold TwT
  have h0 := h
  obtain ⟨s, c, s2, c2, u, f, n, v, hCo, hP, hR⟩ := h
  have hI := hCo.1
  have hA := hCo.2.1
  have h8 := hCo.2.2
  have hW := hI.1
  have hB := hI.2.2.1.1
  have hC := hI.2.2.2.1
  have hO := hA.1
  have hN3 := hA.2.1
  have hN2 := hA.2.1.1
  have hRN := hA.2.1.1.1
  have hK := hA.2.1.2
  have hu := hA.2.2.1
  have hM := hR.1
  have m6 := hO.2.1
  have T40 := hO.2.2.2.1
  have O8 := hO.2.2.2.2.2.1
  have F10 := hO.2.2.2.2.2.2.2.1
  have oV := hO.2.2.2.2.2.2.2.2.2.2.2.2.2.2.1
  have w0 := hW.1
  have h09 := hR.2.2.2.2.1.2.2.2
  rcases inN x (nM (mI μ 1302)) (by omega) with ⟨m, hm, rfl⟩ | hx
  · have hR0 := hR
    obtain ⟨-, ⟨l1, l2, l3, l4, l5, l6, l7⟩, r3, ⟨S, z1, z2, z3, z4, z5⟩, r5, r6⟩ := hR0
    obtain ⟨d1, d2, d3, d4⟩ := r5
    obtain ⟨w, hw9, hw⟩ := r6.2 m (by omega)
    rw [in_303]
    simp (disch := first | omega | rfl) only [e_303_0, e_303_1, e_303_2, e_303_3, e_303_4, e_303_7, e_303_8, e_303_9, e_303_13, e_303_14, e_303_15, e_303_16, ge1, ule_t, true_or, or_true, nI_add, nI_mul, nI_sub, nI_clamp, nI_lt_t, nI_lt_f, nI_le_t, nI_le_f, nI_eq_t, nI_eq_f, vp_nI, tI, fI, not_true, not_false_iff, true_and, and_true, Classical.not_not, mS_uI, mS_uA, mS_uJ, mS_uR, mS_uX, mR_uI, mR_uA, mR_uJ, mR_uX, mX_uI, mX_uA, mX_uJ, mX_uR, mI_s, mI_n, mI_A, mI_An, mI_uJ, mI_uR, mI_uX, mJ_uI, mJ_uA, mJ_uR, mJ_uX, onR_s, kC_v, kC_n, kC_t, uad_p, ule_p, leT, and_self, w0, h09]
    refine c_95 hW hB hO hm d1 ((hI.2.2.1.2 m hm).trans hw) hw9 z1 (fun μ1 hf hS1 => ?_)
    have h91 : mS μ1 1309 = (22, 1) := (hf.S (by omega)).trans h09
    simp (disch := first | omega | rfl) only [e_303_0, e_303_1, e_303_2, e_303_3, e_303_4, e_303_7, e_303_8, e_303_9, e_303_13, e_303_14, e_303_15, e_303_16, ge1, ule_t, true_or, or_true, nI_add, nI_mul, nI_sub, nI_clamp, nI_lt_t, nI_lt_f, nI_le_t, nI_le_f, nI_eq_t, nI_eq_f, vp_nI, tI, fI, not_true, not_false_iff, true_and, and_true, Classical.not_not, mS_uI, mS_uA, mS_uJ, mS_uR, mS_uX, mR_uI, mR_uA, mR_uJ, mR_uX, mX_uI, mX_uA, mX_uJ, mX_uR, mI_s, mI_n, mI_A, mI_An, mI_uJ, mI_uR, mI_uX, mJ_uI, mJ_uA, mJ_uR, mJ_uX, onR_s, kC_v, kC_n, kC_t, uad_p, ule_p, leT, and_self, kC_v, h91]
    refine ⟨_, rfl, ⟨hf.S (by omega), hf.S (by omega), hf.I (by omega)⟩, ?_⟩
    have e2 : mI μ1 1302 = mI μ 1302 := by funext j; exact hf.I (by omega) j
    have e0 : mI μ1 1300 = mI μ 1300 := by funext j; exact hf.I (by omega) j
    have hM1 : ShM μ1 := hf.sm hM
    have hO1 : okR (mI μ1 1302) := by rw [e2]; exact hO
    have hm1 : m < nM (mI μ1 1302) := by rw [e2]; exact hm
    refine m_280 (μ := uJ μ1 1309 0 _) hM1 hO1 hm1 ((congrFun e0 _).trans hw) hw9 (fun μ2 hO2 => ?_)
    have hO3 : OuP (uI (uJ μ1 1309 0 (Int32.toInt64 (nI (wrW (rW (mI μ 1302)) m w).1))) 1298 0 (nI 0)) (wrW (rW (mI μ1 1302)) m w) μ2 := hO2
    have eW : wrW (rW (mI μ1 1302)) m w = wrW (rW (mI μ 1302)) m w := by rw [e2]
    rw [eW] at hO3
    obtain ⟨f1, f2, f3, f4⟩ := hO3
    have hX2 : mX μ ≤ mX μ2 := by rw [f1.nx]; exact hf.1
    have hS2 : mS μ2 = mS μ1 := f1.sh
    have hR2 : mR μ2 = mR μ1 := f1.rf
    have q2 : ∀ a, a ≠ 1298 → a ≠ 1308 → ∀ k, mI μ2 a k = mI μ1 a k := fun a h1 h2 k => (f1.2.2.2 a (by unfold FO; omega) k).trans (mI_n (by omega))
    have q8 : ∀ k, k ≠ 0 → k ≠ 26 → mI μ2 1298 k = mI μ1 1298 k := fun k h1 h2 => (f2 k h2).trans (mI_n (by omega))
    have e22 : mI μ2 1302 = mI μ 1302 := by rw [← e2]; funext j; exact q2 1302 (by omega) (by omega) j
    have e20 : mI μ2 1300 = mI μ 1300 := by rw [← e0]; funext j; exact q2 1300 (by omega) (by omega) j
    have e24 : prM μ2 = prM μ := prM_fr (fun x => (q2 1304 (by omega) (by omega) x).trans (hf.I (by omega) x))
    have hP6 : ∀ j, j < u → nM (prM μ j) ≤ 6 := fun j hj => (hA.2.2.2.1 j hj).1.2.1
    obtain ⟨v1, v2⟩ := wrW_ok (V := rW (mI μ 1302)) (m := m) (w := w)
    refine ⟨nI (wrW (rW (mI μ 1302)) m w).1, congrArg (fun z : WP => some (some (Value.int (nI z.1)))) eW, (f2 0 (by omega)).trans mI_s, fun _ => ?_, s, c, s2, c2, u, f, n, v, ⟨?_, ?_, (q8 8 (by omega) (by omega)).trans ((hf.I (by omega) 8).trans h8)⟩, hP, hM1.gen hS2 hR2, ⟨(hf.ld l1).gen hS2 hR2 (fun a ha => q2 a (by omega) (by omega)), (q2 1030 (by omega) (by omega) 9).trans ((hf.I (by omega) 9).trans l2), l3, (q8 18 (by omega) (by omega)).trans ((hf.I (by omega) 18).trans l4), (q2 1000 (by omega) (by omega) 6).trans ((hf.I (by omega) 6).trans l5), (q8 2 (by omega) (by omega)).trans ((hf.I (by omega) 2).trans l6), fun k hk => (q2 1299 (by omega) (by omega) k).trans ((hf.I (by omega) k).trans (l7 k hk))⟩, ?_, ⟨_, hS1.gen (by rw [f1.nx]; exact Nat.le_refl _) hS2 hR2 (fun a ha => q2 a (by omega) (by omega)), v1, v2, f3, f4⟩, ⟨(hf.dg d1).gen hS2 (fun a ha => q2 a (by omega) (by omega)), ?_, fun k => (q2 300 (by omega) (by omega) k).trans ((hf.I (by omega) k).trans (d3 k)), ?_⟩, by rw [e20]; exact r6⟩
    · refine (congrFun (congrFun f1.lg 1309) 0).trans ?_
      exact mJ_zs (x := nI 0)
    · rw [e22, e20, e24]
      exact (hf.ci hI m6 hu hP6).gen hS2 hR2 (fun a a1 a2 => q2 a (by omega) (by omega)) m6 hu hP6
    · rw [e22, e20, e24]
      exact hA
    · rw [q2 1000 (by omega) (by omega) 7, hf.I (by omega), q8 21 (by omega) (by omega), hf.I (by omega)]; exact r3
    · rw [hS2, hf.S (by omega)]; exact d2
    · rw [hS2]; exact h91
  · rw [in_303]
    simp (disch := first | omega | rfl) only [e_303_0, e_303_1, e_303_2, e_303_3, e_303_4, e_303_7, e_303_8, e_303_9, e_303_13, e_303_14, e_303_15, e_303_16, ge1, ule_t, true_or, or_true, nI_add, nI_mul, nI_sub, nI_clamp, nI_lt_t, nI_lt_f, nI_le_t, nI_le_f, nI_eq_t, nI_eq_f, vp_nI, tI, fI, not_true, not_false_iff, true_and, and_true, Classical.not_not, mS_uI, mS_uA, mS_uJ, mS_uR, mS_uX, mR_uI, mR_uA, mR_uJ, mR_uX, mX_uI, mX_uA, mX_uJ, mX_uR, mI_s, mI_n, mI_A, mI_An, mI_uJ, mI_uR, mI_uX, mJ_uI, mJ_uA, mJ_uR, mJ_uX, onR_s, kC_v, kC_n, kC_t, uad_p, ule_p, leT, and_self, w0, h09, c_95f hW hB hO hx, TT_303, kC_t]
    intro zz hz
    refine ⟨_, rfl, (RdF.refl.uX hz).bs, ?_⟩
    rw [m_280f (μ := uX μ zz) hM hO hx]
    exact ⟨_, rfl, mI_s, fun q => absurd q (by decide), h0.rd (RdF.refl.uX hz).z⟩
end Und

