/-! load -/
section Loa
variable {d L : Nat} {xs : Nat → Int32} {μ μ' μ1 μ2 : Mu} {x : Int32} {a s c s2 c2 u n v k : Nat} {r tn : Nat → Int32} {pr : Nat → Nat → Int32} {f : Nat → Nat} {S : WP}
theorem ShM_sw (h : ShM μ) : ShM (swH μ s c s2 c2) := by
  obtain ⟨p1, p2, p3, p4, p5, p6, p7, p8, p9, p10, p11, p12, p13, p14, p15, p16, p17, p18, p19, p20, p21⟩ := h
  exact ⟨p1, (swR (by omega) (by omega)).trans p2, (swR (by omega) (by omega)).trans p3, (swR (by omega) (by omega)).trans p4, (swR (by omega) (by omega)).trans p5, (swR (by omega) (by omega)).trans p6, (swR (by omega) (by omega)).trans p7, (swR (by omega) (by omega)).trans p8, (swR (by omega) (by omega)).trans p9, (swR (by omega) (by omega)).trans p10, (swR (by omega) (by omega)).trans p11, p12, p13, p14, p15, p16, p17, p18, p19, p20, p21⟩
theorem SbP_sw (h : SbP μ S) : SbP (swH μ s c s2 c2) S := by
  obtain ⟨v, cap, ⟨b1, b2, b3⟩, h2⟩ := h
  exact ⟨v, cap, ⟨b1, (swR (by omega) (by omega)).trans b2, b3⟩, h2⟩
theorem TxC_sw (h : TxC μ) : TxC (swH μ s c s2 c2) := fun i hi h2 => by
  obtain ⟨⟨t1, t2, t3, t4⟩, h3⟩ := h i hi h2
  exact ⟨⟨t1, (swR (by omega) (by omega)).trans t2, t3, t4⟩, h3⟩
theorem sw_30 : mR (swH μ s c s2 c2) 1030 0 = mR μ 1030 0 := by
  unfold swH
  rw [mR_nR (by omega), mR_nR (by omega), mR_nR (by omega), mR_nR (by omega)]
theorem sw_31 : mR (swH μ s c s2 c2) 1030 1 = some s := by
  unfold swH
  rw [mR_nR (by omega), mR_sR]
theorem sw_32 : mR (swH μ s c s2 c2) 1030 2 = some c := by
  unfold swH
  rw [mR_sR]
theorem p_91 (h : Inv L xs μ) : Two (d + 20) 91 [.int x] 221 [.int x] L xs μ := by
  unfold Two
  have h0 := h
  obtain ⟨s, c, s2, c2, u, f, n, v, hCo, hP, hR⟩ := h
  have hI := hCo.1
  have hA := hCo.2.1
  have h8 := hCo.2.2
  have hW := hI.1
  have hB := hI.2.2.1.1
  have hC := hI.2.2.2.1
  have hO := hA.1
  have hN3 := hA.2.1
  have hN2 := hA.2.1.1
  have hRN := hA.2.1.1.1
  have hK := hA.2.1.2
  have hu := hA.2.2.1
  have hM := hR.1
  have m6 := hO.2.1
  have T40 := hO.2.2.2.1
  have O8 := hO.2.2.2.2.2.1
  have F10 := hO.2.2.2.2.2.2.2.1
  have oV := hO.2.2.2.2.2.2.2.2.2.2.2.2.2.2.1
  have w0 := hW.1
  have hR0 := hR
  obtain ⟨-, ⟨l1, l2, l3, l4, l5, l6, l7⟩, r3, ⟨S, z1, z2, z3, z4, z5⟩, r5, r6⟩ := hR0
  have l1' := l1
  obtain ⟨⟨g1, g2, g3, g4, g5, g6⟩, t1, t2, t3, t4, t5, t6⟩ := l1'
  have hss := hP
  unfold Pai at hss
  have hsc : (s = 1001 ∨ s = 1032) ∧ (c = 1024 ∨ c = 1055) := by omega
  have hP6 : ∀ j, j < u → nM (prM μ j) ≤ 6 := fun j hj => (hA.2.2.2.1 j hj).1.2.1
  rcases inN x (n + 1) (by omega) with ⟨k, hk, rfl⟩ | hx
  · have hok := ok_rdAll (f := f) (L := k) (k + 1) 0 (rZ, tZ (mI μ 1300), 0, 0, tkn f k 0 v) ⟨AL_Z r6.1, (ok_tkn (Nat.zero_le k) l3).1, (show 0 ≤ 1 by omega), (show 0 < 4 by omega)⟩ (by omega) (Nat.zero_le _)
    have h3 : ∃ l, l < 10 ∧ mI μ 1000 3 = nI l := by
      obtain ⟨-, -, -, -, -, -, l, hl, k3, -⟩ := hI
      exact ⟨l, hl, k3⟩
    refine c_91 hW hI.2.1 h3 l1 l2 l3 l5 hss r6.1 (show k ≤ n by omega) ?_
    have hmod : ∀ {μ1 : Mu} {Q : Po} {z}, mS μ1 = mS μ → (∀ j, mR μ1 1298 j = mR μ 1298 j) → ShM μ1 → TxC μ1 → (∀ a, 1298 ≤ a → ∀ j, mI μ1 a j = mI μ a j) → rdAll f k (k + 1) 0 (rZ, tZ (mI μ 1300), 0, 0, tkn f k 0 v) = z → PoLm μ1 Q z → Ev (d + 20) 221 [.ref 1298, .int (nI k)] μ1 Q := fun {μ1 Q z} hS1 hR1 hM1 hX1 p hz hq => by
      have e0 : mI μ1 1300 = mI μ 1300 := by funext j; exact p 1300 (by omega) j
      have e2 : mI μ1 1302 = mI μ 1302 := by funext j; exact p 1302 (by omega) j
      refine m_221 (f := f) (n := n) (v := v) hM1 (fun j hj => (p 1299 (by omega) j).trans (l7 j hj)) g5 g6 hX1 ((p 1298 (by omega) 2).trans l6) ((p 1298 (by omega) 18).trans l4) l3 (by rw [e2]; exact hRN) (by rw [e0]; exact r6.1) (by omega) ?_
      rw [e0, hz]
      exact hq
    cases hz : rdAll f k (k + 1) 0 (rZ, tZ (mI μ 1300), 0, 0, tkn f k 0 v) with
    | inl e =>
      rw [hz] at hok
      obtain ⟨-, hv9⟩ := hok
      intro μ1 hf k10 i6 i7 i9
      have hS1 : mS μ1 = mS μ := hf.sh
      have hR1 : mR μ1 = mR μ := hf.rf
      have p : ∀ a, ¬ PE s2 c2 a → ∀ j, mI μ1 a j = mI μ a j := fun a ha j => hf.2.2.2 a ha j
      have pM : ∀ a, 1298 ≤ a → ∀ j, mI μ1 a j = mI μ a j := fun a ha j => p a (by unfold PE; omega) j
      refine ⟨_, rfl, ⟨congrFun hS1 300, congrFun hS1 1298, p 300 (by unfold PE; omega)⟩, hmod hS1 (fun j => by rw [hR1]) (hM.gen hS1 hR1) (t1.gen hS1 hR1 (fun a ha => p a (by unfold PE; omega))) pM hz ?_⟩
      intro μ2 gf q2 q0 n2 q8 v18 x21 x26
      have hS2 : mS μ2 = mS μ := gf.sh.trans hS1
      have hR2 : mR μ2 = mR μ := gf.rf.trans hR1
      have hX2 : mX μ ≤ mX μ2 := by rw [gf.nx, hf.nx]; exact Nat.le_refl _
      have q : ∀ a, a < 1298 → ∀ j, mI μ2 a j = mI μ1 a j := fun a ha j => gf.2.2.2 a (by unfold PLm; omega) j
      have pq : ∀ a, a < 1298 → ¬ PE s2 c2 a → ∀ j, mI μ2 a j = mI μ a j := fun a h1 h2 j => (q a h1 j).trans (p a h2 j)
      have pL : ∀ a, 1298 ≤ a → ¬ PLm a → ∀ j, mI μ2 a j = mI μ a j := fun a h1 h2 j => (gf.2.2.2 a h2 j).trans (pM a h1 j)
      have e2 : mI μ2 1302 = mI μ 1302 := by rw [q2]; funext j; exact pM 1302 (by omega) j
      have e0 : mI μ2 1300 = mI μ 1300 := by rw [q0]; funext j; exact pM 1300 (by omega) j
      have e4 : prM μ2 = prM μ := prM_fr (fun x => pL 1304 (by omega) (by unfold PLm; omega) x)
      have i10 : ∀ j, j ≠ 6 → j ≠ 7 → mI μ2 1000 j = mI μ 1000 j := fun j h1 h2 => (q 1000 (by omega) j).trans (k10 j h1 h2)
      refine ⟨rfl, s, c, s2, c2, u, f, 0, e.2.2.2, ⟨?_, ?_, q8.trans ((pM 1298 (by omega) 8).trans h8)⟩, hP, hM.gen hS2 hR2, ⟨⟨l1.1.gen hS2 hR2 (fun j hj => absurd hj (Nat.not_lt_zero j)) g5 (by omega), t1.gen hS2 hR2 (fun a ha => pq a (by omega) (by unfold PE; omega)), by rw [hR2]; exact t2, by rw [hR2]; exact t3, t4.gen hS2 hR2, t5.gen hS2 hR2, t6⟩, (q 1030 (by omega) 9).trans i9, hv9, v18, (q 1000 (by omega) 6).trans i6, n2, fun j hj => absurd hj (Nat.not_lt_zero j)⟩, ((q 1000 (by omega) 7).trans i7).trans x21.symm, ⟨S, z1.gen hX2 hS2 hR2 (fun a ha => ?_), z2, z3, x26.trans ((pM 1298 (by omega) 26).trans z4), fun j hj => (pL 1308 (by omega) (by unfold PLm; omega) j).trans (z5 j hj)⟩, r5.gen hS2 (fun a ha => pq a (by omega) (by unfold PE; omega)), by rw [e0]; exact r6⟩
      · rw [e0, e2, e4]
        exact hI.gen2 hS2 hR2 (fun a ha => pq a (by omega) (by unfold PE; omega)) (i10 3 (by omega) (by omega)) (i10 4 (by omega) (by omega)) m6 hu hP6
      · rw [e0, e2, e4]
        exact hA
      · by_cases ha2 : 1310 ≤ a
        · exact pL a (by omega) (by unfold PLm; omega)
        · exact pq a (by omega) (by unfold PE; omega)
    | inr z =>
      rw [hz] at hok
      obtain ⟨⟨hAL, hTk, -, -⟩, -⟩ := hok
      have hv9 : z.2.2.2.2.2.2.2.2 ≤ 1000009 := hTk.2.2.2.2.2.2.2
      obtain ⟨b1, b2, b3⟩ := ok_bg hAL
      intro μ1 hf hI1 i6 i7 i9
      have hS1 : mS μ1 = mS μ := hf.sh
      have hR1 : mR μ1 = mR (swH μ s c s2 c2) := hf.rf
      have p : ∀ a, ¬ PE s2 c2 a → ∀ j, mI μ1 a j = mI μ a j := fun a ha j => hf.2.2.2 a ha j
      have pM : ∀ a, 1298 ≤ a → ∀ j, mI μ1 a j = mI μ a j := fun a ha j => p a (by unfold PE; omega) j
      have hM1 : ShM μ1 := (ShM_sw hM).gen hf.sh hf.rf
      have hX1 : TxC μ1 := (TxC_sw t1).gen hf.sh hf.rf (fun a ha => p a (by unfold PE; omega))
      refine ⟨_, rfl, ⟨congrFun hS1 300, congrFun hS1 1298, p 300 (by unfold PE; omega)⟩, hmod hS1 (fun j => by rw [hR1]; exact swR (by omega) (by omega)) hM1 hX1 pM hz ?_⟩
      intro μ2 gf q2 q0 n2 q8 v18 x21 x26
      have hS2' : mS μ2 = mS μ1 := gf.sh
      have hS2 : mS μ2 = mS μ := gf.sh.trans hS1
      have hR2 : mR μ2 = mR (swH μ s c s2 c2) := gf.rf.trans hR1
      have hX2 : mX μ ≤ mX μ2 := by rw [gf.nx, hf.nx]; exact Nat.le_refl _
      have q : ∀ a, a < 1298 → ∀ j, mI μ2 a j = mI μ1 a j := fun a ha j => gf.2.2.2 a (by unfold PLm; omega) j
      have pq : ∀ a, a < 1298 → ¬ PE s2 c2 a → ∀ j, mI μ2 a j = mI μ a j := fun a h1 h2 j => (q a h1 j).trans (p a h2 j)
      have pL : ∀ a, 1298 ≤ a → ¬ PLm a → ∀ j, mI μ2 a j = mI μ a j := fun a h1 h2 j => (gf.2.2.2 a h2 j).trans (pM a h1 j)
      have hI2 := hI1 (prM μ2)
      have hm6 : nM (rBg z.2.1 z.2.2.1 (rtT z.2.2.1) (nM z.2.1)) ≤ 6 := b1.2.1
      refine ⟨rfl, s2, c2, s, c, 0, f, 0, z.2.2.2.2.2.2.2.2, ⟨?_, ?_, q8⟩, ?_, hM1.gen gf.sh gf.rf, ⟨⟨⟨(congrFun hS2 1030).trans g1, (congrFun (congrFun hR2 1030) 0).trans (sw_30.trans g2), (congrFun hS2 1031).trans g3, fun j hj => absurd hj (Nat.not_lt_zero j), g5, by omega⟩, hX1.gen gf.sh gf.rf (fun a ha => q a (by omega)), (congrFun (congrFun hR2 1030) 1).trans sw_31, (congrFun (congrFun hR2 1030) 2).trans sw_32, (StS_sw (by omega) (by omega) hW.2.2.2.2.2.2.2.2.2.2.2.2.1).gen (gf.sh.trans hf.sh) hR2, (ScS_sw (by omega) (by omega) hW.2.2.2.2.2.2.2.2.2.2.2.2.2.1).gen (gf.sh.trans hf.sh) hR2, hsc⟩, (q 1030 (by omega) 9).trans i9, hv9, v18, (q 1000 (by omega) 6).trans i6, n2, fun j hj => absurd hj (Nat.not_lt_zero j)⟩, ((q 1000 (by omega) 7).trans i7).trans x21.symm, ⟨S, SbP.gen (μ := swH μ s c s2 c2) hX2 hS2 hR2 (fun a ha => ?_) (SbP_sw z1), z2, z3, x26.trans ((pM 1298 (by omega) 26).trans z4), fun j hj => (pL 1308 (by omega) (by unfold PLm; omega) j).trans (z5 j hj)⟩, r5.gen hS2 (fun a ha => pq a (by omega) (by unfold PE; omega)), by rw [q0]; exact ⟨hAL.2.2.2.2.2.1, hAL.2.2.2.2.1⟩⟩
      · rw [q0, q2]
        exact hI2.gen gf.sh gf.rf (fun a _ a2 => q a a2) hm6 (by omega) (fun j hj => absurd hj (Nat.not_lt_zero j))
      · rw [q0, q2]
        exact ⟨b1, b2, by omega, fun j hj => absurd hj (Nat.not_lt_zero j), ⟨nM z.2.1, hAL.2.2.2.1, by omega, fun j hj => absurd hj (Nat.not_lt_zero j)⟩, hAL.2.2.2.2.2.2⟩
      · unfold Pai; omega
      · by_cases ha2 : 1310 ≤ a
        · exact pL a (by omega) (by unfold PLm; omega)
        · exact pq a (by omega) (by unfold PE; omega)
  · rw [c_91f hW l5 g6 hx]
    exact ⟨_, rfl, Bs.refl, by rw [m_221f hM l6 g6 hx]; exact ⟨rfl, h0.rd RdF.refl.z⟩⟩
end Loa

