/-! pairs of calls that change something -/
theorem FrC.bs {s c s2 c2 : Nat} {μ μ1 : Mu} (hf : FrC s c μ μ1) (hP : Pai s c s2 c2) : Bs μ μ1 := ⟨congrFun hf.1.sh 300, congrFun hf.1.sh 1298, fun k => hf.1.2.2.2 300 (by unfold PC; unfold Pai at hP; omega) k⟩
section Chg
variable {d L : Nat} {xs : Nat → Int32} {μ : Mu} {x y g w : Int32}

theorem p_140 (h : Inv L xs μ) : Two (d + 20) 140 [.int x, .int y, .int g, .int w] 268 [.int x, .int y, .int g, .int w] L xs μ := by
  unfold Two
  have h0 := h
  obtain ⟨s, c, s2, c2, u, f, n, v, hCo, hP, hR⟩ := h
  have hI := hCo.1
  have hA := hCo.2.1
  have h8 := hCo.2.2
  have hW := hI.1
  have hB := hI.2.2.1.1
  have hC := hI.2.2.2.1
  have hO := hA.1
  have hN3 := hA.2.1
  have hN2 := hA.2.1.1
  have hRN := hA.2.1.1.1
  have hK := hA.2.1.2
  have hu := hA.2.2.1
  have hM := hR.1
  have m6 := hO.2.1
  have T40 := hO.2.2.2.1
  have O8 := hO.2.2.2.2.2.1
  have F10 := hO.2.2.2.2.2.2.2.1
  have oV := hO.2.2.2.2.2.2.2.2.2.2.2.2.2.2.1
  rcases inN x (nM (mI μ 1302)) (by omega) with ⟨m, hm, rfl⟩ | hx
  · rcases inN y 6 (by omega) with ⟨σ, hσ, rfl⟩ | hy
    · rcases inN g 16 (by omega) with ⟨i, hi, rfl⟩ | hg
      · rcases inN w (gOp σ) (by have := gOp_le σ; omega) with ⟨k, hk, rfl⟩ | hw
        · by_cases ha : rW (mI μ 1302) m 2 = nI 0
          · rw [c_140e hW hB hO hm hσ hi hk ha]
            exact ⟨_, rfl, Bs.refl, by rw [m_268e hM hO hm hσ hi hk ha]; exact ⟨rfl, h0.rd RdF.refl.z⟩⟩
          · by_cases ho : nO (mI μ 1302) = 8
            · rw [c_140f hW hB hO hm hσ hi hk ha ho]
              exact ⟨_, rfl, Bs.refl, by rw [m_268f hM hO hm hσ hi hk ha ho]; exact ⟨rfl, h0.rd RdF.refl.z⟩⟩
            · obtain ⟨q1, q2, q3, q4⟩ := ok_give hO hN2 hm hσ hi hk (show nO (mI μ 1302) < 8 by omega)
              refine c_140 hI hA hm hσ hi hk ha (by omega) (fun μ1 hf hI1 => ?_)
              obtain ⟨e2, e0, e4, hM1, h81⟩ := hCo.cc hP hR hf
              have hO1 : okR (mI μ1 1302) := by rw [e2]; exact hO
              refine ⟨_, rfl, hf.bs hP, ?_⟩
              refine m_268 hM1 hO1 (by rw [e2]; exact hRN) h81 hu (by rw [e2]; exact hm) hσ hi hk (by rw [e2]; exact ha) (by rw [e2]; omega) (fun μ2 hg g2 g8 gp => ⟨by rw [e2], Inv.chg hP hR hf hI1 hg (by rw [g2, e2]) g8 (fun j hj => by rw [gp j hj, e2, e4]) (hA.next q1 ⟨q2, okK_lo hK hO (fun x hx => rGive_lo (by omega))⟩ q3 (by omega))⟩)
        · rw [c_140d hW hB hO hm hσ hi hw]
          exact ⟨_, rfl, Bs.refl, by rw [m_268d hM hO hm hσ hi hw]; exact ⟨rfl, h0.rd RdF.refl.z⟩⟩
      · rw [c_140c hW hB hO hm hσ hg]
        exact ⟨_, rfl, Bs.refl, by rw [m_268c hM hO hm hσ hg]; exact ⟨rfl, h0.rd RdF.refl.z⟩⟩
    · rw [c_140b hW hB hO hm hy]
      exact ⟨_, rfl, Bs.refl, by rw [m_268b hM hO hm hy]; exact ⟨rfl, h0.rd RdF.refl.z⟩⟩
  · rw [c_140a hW hB hO hx]
    exact ⟨_, rfl, Bs.refl, by rw [m_268a hM hO hx]; exact ⟨rfl, h0.rd RdF.refl.z⟩⟩

theorem p_141 (h : Inv L xs μ) : Two (d + 20) 141 [] 269 [] L xs μ := by
  unfold Two
  have h0 := h
  obtain ⟨s, c, s2, c2, u, f, n, v, hCo, hP, hR⟩ := h
  have hI := hCo.1
  have hA := hCo.2.1
  have h8 := hCo.2.2
  have hW := hI.1
  have hB := hI.2.2.1.1
  have hC := hI.2.2.2.1
  have hO := hA.1
  have hN3 := hA.2.1
  have hN2 := hA.2.1.1
  have hRN := hA.2.1.1.1
  have hK := hA.2.1.2
  have hu := hA.2.2.1
  have hM := hR.1
  have m6 := hO.2.1
  have T40 := hO.2.2.2.1
  have O8 := hO.2.2.2.2.2.1
  have F10 := hO.2.2.2.2.2.2.2.1
  have oV := hO.2.2.2.2.2.2.2.2.2.2.2.2.2.2.1
  by_cases hT : nT (mI μ 1302) = 40
  · rw [c_141n hW hB hO hT]
    exact ⟨_, rfl, Bs.refl, by rw [m_269n hM hO hT]; exact ⟨rfl, h0.rd RdF.refl.z⟩⟩
  · obtain ⟨q1, q2, q3, q4, -⟩ := ok_seal hO hN2 (show nT (mI μ 1302) < 40 by omega)
    refine c_141 hI hA (by omega) (fun μ1 hf hI1 => ?_)
    obtain ⟨e2, e0, e4, hM1, h81⟩ := hCo.cc hP hR hf
    have hO1 : okR (mI μ1 1302) := by rw [e2]; exact hO
    refine ⟨_, rfl, hf.bs hP, ?_⟩
    refine m_269 hM1 hO1 (by rw [e2]; exact hRN) h81 hu (by rw [e2]; omega) (fun μ2 hg g2 g8 gp => ⟨by rw [e2], Inv.chg hP hR hf hI1 hg (by rw [g2, e2]) g8 (fun j hj => by rw [gp j hj, e2, e4]) (hA.next q1 ⟨q2, okK_lo hK hO (fun x hx => rSeal_lo hx)⟩ q3 (by omega))⟩)

theorem p_142 (h : Inv L xs μ) : Two (d + 20) 142 [.int x, .int y] 270 [.int x, .int y] L xs μ := by
  unfold Two
  have h0 := h
  obtain ⟨s, c, s2, c2, u, f, n, v, hCo, hP, hR⟩ := h
  have hI := hCo.1
  have hA := hCo.2.1
  have h8 := hCo.2.2
  have hW := hI.1
  have hB := hI.2.2.1.1
  have hC := hI.2.2.2.1
  have hO := hA.1
  have hN3 := hA.2.1
  have hN2 := hA.2.1.1
  have hRN := hA.2.1.1.1
  have hK := hA.2.1.2
  have hu := hA.2.2.1
  have hM := hR.1
  have m6 := hO.2.1
  have T40 := hO.2.2.2.1
  have O8 := hO.2.2.2.2.2.1
  have F10 := hO.2.2.2.2.2.2.2.1
  have oV := hO.2.2.2.2.2.2.2.2.2.2.2.2.2.2.1
  rcases inN x (nM (mI μ 1302)) (by omega) with ⟨m, hm, rfl⟩ | hx
  · by_cases hy : nI 1 ≤ y ∧ y ≤ nI 40
    · obtain ⟨k, k1, k2, rfl⟩ := rng hy (by omega) (by omega)
      by_cases ha : rW (mI μ 1302) m 2 = nI 0
      · rw [c_142c hW hB hO hm k1 k2 ha]
        exact ⟨_, rfl, Bs.refl, by rw [m_270c hM hO hm k1 k2 ha]; exact ⟨rfl, h0.rd RdF.refl.z⟩⟩
      · have hle := runN_le (k := k) hO hm ha
        obtain ⟨q1, q2, q3, q4, q5, q6⟩ := ok_exN hO hN2 hm (runN (mI μ 1302) m k) hle
        refine c_142 hI hA hm k1 k2 ha (fun μ1 hf hI1 => ?_)
        obtain ⟨e2, e0, e4, hM1, h81⟩ := hCo.cc hP hR hf
        have hO1 : okR (mI μ1 1302) := by rw [e2]; exact hO
        refine ⟨_, rfl, hf.bs hP, ?_⟩
        refine m_270 hM1 hO1 (by rw [e2]; exact hN2) h81 hu (by rw [e2]; exact hm) k1 k2 (by rw [e2]; exact ha) (fun μ2 hg g2 g8 gp => ⟨by rw [e2], Inv.chg hP hR hf hI1 hg (by rw [g2, e2]) g8 (fun j hj => by rw [gp j hj, e2, e4]) (hA.next q1 ⟨q2, okK_exN hK hO hN2 hm _ hle⟩ (Or.inr ⟨by omega, by omega⟩) (by omega))⟩)
    · rw [c_142b hW hB hO hm hy]
      exact ⟨_, rfl, Bs.refl, by rw [m_270b hM hO hm hy]; exact ⟨rfl, h0.rd RdF.refl.z⟩⟩
  · rw [c_142a hW hB hO hx]
    exact ⟨_, rfl, Bs.refl, by rw [m_270a hM hO hx]; exact ⟨rfl, h0.rd RdF.refl.z⟩⟩

theorem p_143 (h : Inv L xs μ) : Two (d + 20) 143 [] 271 [] L xs μ := by
  unfold Two
  have h0 := h
  obtain ⟨s, c, s2, c2, u, f, n, v, hCo, hP, hR⟩ := h
  have hI := hCo.1
  have hA := hCo.2.1
  have h8 := hCo.2.2
  have hW := hI.1
  have hB := hI.2.2.1.1
  have hC := hI.2.2.2.1
  have hO := hA.1
  have hN3 := hA.2.1
  have hN2 := hA.2.1.1
  have hRN := hA.2.1.1.1
  have hK := hA.2.1.2
  have hu := hA.2.2.1
  have hM := hR.1
  have m6 := hO.2.1
  have T40 := hO.2.2.2.1
  have O8 := hO.2.2.2.2.2.1
  have F10 := hO.2.2.2.2.2.2.2.1
  have oV := hO.2.2.2.2.2.2.2.2.2.2.2.2.2.2.1
  have hla : ∀ m, m < nM (mI μ 1302) → ¬ rW (mI μ 1302) m 2 = nI 0 → laN (mI μ 1302) ≤ nT (mI μ 1302) := fun m hm ha => (fLast_ok hO hm ha).2
  obtain ⟨q1, q2, q3, q4, q5, -⟩ := tk_ok hO hN2 hla (nM (mI μ 1302)) (Nat.le_refl _)
  refine c_143 hI hA (fun μ1 hf hI1 => ?_)
  obtain ⟨e2, e0, e4, hM1, h81⟩ := hCo.cc hP hR hf
  have hO1 : okR (mI μ1 1302) := by rw [e2]; exact hO
  refine ⟨_, rfl, hf.bs hP, ?_⟩
  refine m_271 hM1 hO1 (by rw [e2]; exact hN2) h81 hu (fun μ2 hg g2 g8 gp => ⟨by rw [e2], Inv.chg hP hR hf hI1 hg (by rw [g2, e2]) g8 (fun j hj => by rw [gp j hj, e2, e4]) (hA.next q1 ⟨q2, okK_tk hK hO hN2 hla _ (Nat.le_refl _)⟩ (Or.inr ⟨by omega, by omega⟩) (by omega))⟩)

theorem p_145 (h : Inv L xs μ) : Two (d + 20) 145 [.int x, .int y, .int g, .int w] 272 [.int x, .int y, .int g, .int w] L xs μ := by
  unfold Two
  have h0 := h
  obtain ⟨s, c, s2, c2, u, f, n, v, hCo, hP, hR⟩ := h
  have hI := hCo.1
  have hA := hCo.2.1
  have h8 := hCo.2.2
  have hW := hI.1
  have hB := hI.2.2.1.1
  have hC := hI.2.2.2.1
  have hO := hA.1
  have hN3 := hA.2.1
  have hN2 := hA.2.1.1
  have hRN := hA.2.1.1.1
  have hK := hA.2.1.2
  have hu := hA.2.2.1
  have hM := hR.1
  have m6 := hO.2.1
  have T40 := hO.2.2.2.1
  have O8 := hO.2.2.2.2.2.1
  have F10 := hO.2.2.2.2.2.2.2.1
  have oV := hO.2.2.2.2.2.2.2.2.2.2.2.2.2.2.1
  rcases inN x (nM (mI μ 1302)) (by omega) with ⟨m, hm, rfl⟩ | hx
  · have vE := okBE oV hm
    rcases inN y 40 (by omega) with ⟨t, ht, rfl⟩ | hy
    · rcases inN g 16 (by omega) with ⟨i, hi, rfl⟩ | hg
      · by_cases hw : nI 1 ≤ w ∧ w ≤ nI 9999
        · obtain ⟨k, k1, k2, rfl⟩ := rng hw (by omega) (by omega)
          by_cases ha : rW (mI μ 1302) m 2 = nI 0
          · rw [c_145e hW hB hO hm ht hi k1 (show k < 10000 by omega) ha]
            exact ⟨_, rfl, Bs.refl, by rw [m_272e hM hO hm ht hi k1 (show k < 10000 by omega) ha]; exact ⟨rfl, h0.rd RdF.refl.z⟩⟩
          · by_cases he : t < nE (rW (mI μ 1302)) m
            · rw [c_145g hW hB hO hm ht hi k1 (show k < 10000 by omega) ha he]
              exact ⟨_, rfl, Bs.refl, by rw [m_272g hM hO hm ht hi k1 (show k < 10000 by omega) ha he]; exact ⟨rfl, h0.rd RdF.refl.z⟩⟩
            · by_cases ho : nF (mI μ 1302) = 10
              · rw [c_145f hW hB hO hm ht hi k1 (show k < 10000 by omega) ha (show _ ≤ t by omega) ho]
                exact ⟨_, rfl, Bs.refl, by rw [m_272f hM hO hm ht hi k1 (show k < 10000 by omega) ha (show _ ≤ t by omega) ho]; exact ⟨rfl, h0.rd RdF.refl.z⟩⟩
              · obtain ⟨q1, q2, q3, q4⟩ := ok_fault hO hN2 hm ht hi (show k < 10000 by omega) (show nF (mI μ 1302) < 10 by omega)
                refine c_145 hI hA hm ht hi k1 (by omega) ha (by omega) (by omega) (fun μ1 hf hI1 => ?_)
                obtain ⟨e2, e0, e4, hM1, h81⟩ := hCo.cc hP hR hf
                have hO1 : okR (mI μ1 1302) := by rw [e2]; exact hO
                refine ⟨_, rfl, hf.bs hP, ?_⟩
                refine m_272 hM1 hO1 (by rw [e2]; exact hRN) h81 hu (by rw [e2]; exact hm) ht hi k1 (by omega) (by rw [e2]; exact ha) (by rw [e2]; omega) (by rw [e2]; omega) (fun μ2 hg g2 g8 gp => ⟨by rw [e2], Inv.chg hP hR hf hI1 hg (by rw [g2, e2]) g8 (fun j hj => by rw [gp j hj, e2, e4]) (hA.next q1 ⟨q2, okK_lo hK hO (fun x hx => rFault_lo (by omega))⟩ q3 (by omega))⟩)
        · rw [c_145d hW hB hO hm ht hi hw]
          exact ⟨_, rfl, Bs.refl, by rw [m_272d hM hO hm ht hi hw]; exact ⟨rfl, h0.rd RdF.refl.z⟩⟩
      · rw [c_145c hW hB hO hm ht hg]
        exact ⟨_, rfl, Bs.refl, by rw [m_272c hM hO hm ht hg]; exact ⟨rfl, h0.rd RdF.refl.z⟩⟩
    · rw [c_145b hW hB hO hm hy]
      exact ⟨_, rfl, Bs.refl, by rw [m_272b hM hO hm hy]; exact ⟨rfl, h0.rd RdF.refl.z⟩⟩
  · rw [c_145a hW hB hO hx]
    exact ⟨_, rfl, Bs.refl, by rw [m_272a hM hO hx]; exact ⟨rfl, h0.rd RdF.refl.z⟩⟩

theorem p_123 (h : Inv L xs μ) : Two (d + 20) 123 [.int x] 273 [.int x] L xs μ := by
  unfold Two
  have h0 := h
  obtain ⟨s, c, s2, c2, u, f, n, v, hCo, hP, hR⟩ := h
  have hI := hCo.1
  have hA := hCo.2.1
  have h8 := hCo.2.2
  have hW := hI.1
  have hB := hI.2.2.1.1
  have hC := hI.2.2.2.1
  have hO := hA.1
  have hN3 := hA.2.1
  have hN2 := hA.2.1.1
  have hRN := hA.2.1.1.1
  have hK := hA.2.1.2
  have hu := hA.2.2.1
  have hM := hR.1
  have m6 := hO.2.1
  have T40 := hO.2.2.2.1
  have O8 := hO.2.2.2.2.2.1
  have F10 := hO.2.2.2.2.2.2.2.1
  have oV := hO.2.2.2.2.2.2.2.2.2.2.2.2.2.2.1
  rcases inN x (nM (mI μ 1302)) (by omega) with ⟨m, hm, rfl⟩ | hx
  · by_cases hs : fStop (rW (mI μ 1302)) (nM (mI μ 1302)) (nQ (mI μ 1302)) m = 0
    · obtain ⟨d1, d2, d3, d4⟩ := dnr_ok hs
      obtain ⟨q1, q2, q3, q4, q5⟩ := ok_heal hO hN2 hK hm d2 d3 d4
      refine c_123 hI hA hm hs (fun μ1 hf hI1 => ?_)
      obtain ⟨e2, e0, e4, hM1, h81⟩ := hCo.cc hP hR hf
      have hO1 : okR (mI μ1 1302) := by rw [e2]; exact hO
      refine ⟨_, rfl, hf.bs hP, ?_⟩
      refine m_273 hM1 hO1 (by rw [e2]; exact hN2) h81 hu (by rw [e2]; exact hm) (by rw [e2]; exact hs) (fun μ2 hg g2 g8 gp => ⟨by rw [e2], Inv.chg hP hR hf hI1 hg (by rw [g2, e2]) g8 (fun j hj => by rw [gp j hj, e2, e4]) (hA.next q1 q2 q3 (by omega))⟩)
    · rw [c_123b hW hB hO hm hs]
      exact ⟨_, rfl, Bs.refl, by rw [m_273b hM hO hm hs]; exact ⟨rfl, h0.rd RdF.refl.z⟩⟩
  · rw [c_123a hW hB hO hx]
    exact ⟨_, rfl, Bs.refl, by rw [m_273a hM hO hx]; exact ⟨rfl, h0.rd RdF.refl.z⟩⟩

theorem p_124 (h : Inv L xs μ) : Two (d + 20) 124 [] 274 [] L xs μ := by
  unfold Two
  have h0 := h
  obtain ⟨s, c, s2, c2, u, f, n, v, hCo, hP, hR⟩ := h
  have hI := hCo.1
  have hA := hCo.2.1
  have h8 := hCo.2.2
  have hW := hI.1
  have hB := hI.2.2.1.1
  have hC := hI.2.2.2.1
  have hO := hA.1
  have hN3 := hA.2.1
  have hN2 := hA.2.1.1
  have hRN := hA.2.1.1.1
  have hK := hA.2.1.2
  have hu := hA.2.2.1
  have hM := hR.1
  have m6 := hO.2.1
  have T40 := hO.2.2.2.1
  have O8 := hO.2.2.2.2.2.1
  have F10 := hO.2.2.2.2.2.2.2.1
  have oV := hO.2.2.2.2.2.2.2.2.2.2.2.2.2.2.1
  obtain ⟨q1, q2, q3, q4, q5, q6⟩ := ha_ok hO hN3 (nM (mI μ 1302)) (Nat.le_refl _)
  refine c_124 hI hA (fun hz => ?_) (fun μ1 hf hI1 h1 => ?_)
  · refine ⟨_, rfl, Bs.refl, ?_⟩
    exact m_274 hM hO hN3 h8 hu (fun _ => ⟨rfl, h0.rd RdF.refl.z⟩) (fun μ2 _ _ h1 _ _ => by omega)
  · obtain ⟨e2, e0, e4, hM1, h81⟩ := hCo.cc hP hR hf
    have hO1 : okR (mI μ1 1302) := by rw [e2]; exact hO
    refine ⟨_, rfl, hf.bs hP, ?_⟩
    exact m_274 hM1 hO1 (by rw [e2]; exact hN3) h81 hu (fun hz => by rw [e2] at hz; omega) (fun μ2 hg g2 _ g8 gp => ⟨by rw [e2], Inv.chg hP hR hf hI1 hg (by rw [g2, e2]) g8 (fun j hj => by rw [gp j hj, e2, e4]) (hA.next q1 q2 q3 (by omega))⟩)

theorem p_127 (h : Inv L xs μ) : Two (d + 20) 127 [.int x] 275 [.int x] L xs μ := by
  unfold Two
  have h0 := h
  obtain ⟨s, c, s2, c2, u, f, n, v, hCo, hP, hR⟩ := h
  have hI := hCo.1
  have hA := hCo.2.1
  have h8 := hCo.2.2
  have hW := hI.1
  have hB := hI.2.2.1.1
  have hC := hI.2.2.2.1
  have hO := hA.1
  have hN3 := hA.2.1
  have hN2 := hA.2.1.1
  have hRN := hA.2.1.1.1
  have hK := hA.2.1.2
  have hu := hA.2.2.1
  have hM := hR.1
  have m6 := hO.2.1
  have T40 := hO.2.2.2.1
  have O8 := hO.2.2.2.2.2.1
  have F10 := hO.2.2.2.2.2.2.2.1
  have oV := hO.2.2.2.2.2.2.2.2.2.2.2.2.2.2.1
  by_cases hx : nI 1 ≤ x ∧ x ≤ nI 4
  · obtain ⟨p, p1, p2, rfl⟩ := rng hx (by omega) (by omega)
    by_cases hn : nM (mI μ 1302) = 6
    · rw [c_127b hW hB hO p1 p2 hn]
      exact ⟨_, rfl, Bs.refl, by rw [m_275b hM hO p1 p2 hn]; exact ⟨rfl, h0.rd RdF.refl.z⟩⟩
    · cases hj : jdn (mI μ 1302) with
      | none =>
        rw [c_127c hW hB hO p1 p2 (show nM (mI μ 1302) < 6 by omega) hj]
        exact ⟨_, rfl, Bs.refl, by rw [m_275c hM hO p1 p2 (show nM (mI μ 1302) < 6 by omega) hj]; exact ⟨rfl, h0.rd RdF.refl.z⟩⟩
      | some dn =>
        obtain ⟨j1, j2, j3⟩ := jdn_some hO hj
        obtain ⟨q1, q2, q3, q4, q5⟩ := ok_join (p := p) hO hN3 (show nM (mI μ 1302) < 6 by omega) p1 p2 j1 rfl
        refine c_127 hI hA p1 p2 (by omega) hj (fun μ1 hf hI1 => ?_)
        obtain ⟨e2, e0, e4, hM1, h81⟩ := hCo.cc hP hR hf
        have hO1 : okR (mI μ1 1302) := by rw [e2]; exact hO
        refine ⟨_, rfl, hf.bs hP, ?_⟩
        refine m_275 hM1 hO1 (by rw [e2]; exact hN2) h81 hu p1 p2 (by rw [e2]; omega) (by rw [e2]; exact hj) (fun μ2 hg g2 g8 gp => ⟨by rw [e2], Inv.chg hP hR hf hI1 hg (by rw [g2, e2]) g8 (fun j hj => by rw [gp j hj, e2, e4]) (hA.next q1 q2 q3 (by omega))⟩)
  · rw [c_127a hW hB hO hx]
    exact ⟨_, rfl, Bs.refl, by rw [m_275a hM hO hx]; exact ⟨rfl, h0.rd RdF.refl.z⟩⟩

theorem p_128 (h : Inv L xs μ) : Two (d + 20) 128 [.int x] 276 [.int x] L xs μ := by
  unfold Two
  have h0 := h
  obtain ⟨s, c, s2, c2, u, f, n, v, hCo, hP, hR⟩ := h
  have hI := hCo.1
  have hA := hCo.2.1
  have h8 := hCo.2.2
  have hW := hI.1
  have hB := hI.2.2.1.1
  have hC := hI.2.2.2.1
  have hO := hA.1
  have hN3 := hA.2.1
  have hN2 := hA.2.1.1
  have hRN := hA.2.1.1.1
  have hK := hA.2.1.2
  have hu := hA.2.2.1
  have hM := hR.1
  have m6 := hO.2.1
  have T40 := hO.2.2.2.1
  have O8 := hO.2.2.2.2.2.1
  have F10 := hO.2.2.2.2.2.2.2.1
  have oV := hO.2.2.2.2.2.2.2.2.2.2.2.2.2.2.1
  rcases inN x (nM (mI μ 1302)) (by omega) with ⟨m, hm, rfl⟩ | hx
  · by_cases ha : rW (mI μ 1302) m 2 = nI 0
    · rw [c_128b hW hB hO hm ha]
      exact ⟨_, rfl, Bs.refl, by rw [m_276b hM hO hm ha]; exact ⟨rfl, h0.rd RdF.refl.z⟩⟩
    · obtain ⟨q1, q2, q3, q4, q5⟩ := ok_leave hO hN2 hK hm
      refine c_128 hI hA hm ha (fun μ1 hf hI1 => ?_)
      obtain ⟨e2, e0, e4, hM1, h81⟩ := hCo.cc hP hR hf
      have hO1 : okR (mI μ1 1302) := by rw [e2]; exact hO
      refine ⟨_, rfl, hf.bs hP, ?_⟩
      refine m_276 hM1 hO1 (by rw [e2]; exact hN2) (by rw [e2]; exact hK) h81 hu (by rw [e2]; exact hm) (by rw [e2]; exact ha) (fun μ2 hg g2 g8 gp => ⟨by rw [e2], Inv.chg hP hR hf hI1 hg (by rw [g2, e2]) g8 (fun j hj => by rw [gp j hj, e2, e4]) (hA.next q1 q2 q3 (by omega))⟩)
  · rw [c_128a hW hB hO hx]
    exact ⟨_, rfl, Bs.refl, by rw [m_276a hM hO hx]; exact ⟨rfl, h0.rd RdF.refl.z⟩⟩

theorem p_146 (h : Inv L xs μ) : Two (d + 20) 146 [.int x, .int y] 277 [.int x, .int y] L xs μ := by
  unfold Two
  have h0 := h
  obtain ⟨s, c, s2, c2, u, f, n, v, hCo, hP, hR⟩ := h
  have hI := hCo.1
  have hA := hCo.2.1
  have h8 := hCo.2.2
  have hW := hI.1
  have hB := hI.2.2.1.1
  have hC := hI.2.2.2.1
  have hO := hA.1
  have hN3 := hA.2.1
  have hN2 := hA.2.1.1
  have hRN := hA.2.1.1.1
  have hK := hA.2.1.2
  have hu := hA.2.2.1
  have hM := hR.1
  have m6 := hO.2.1
  have T40 := hO.2.2.2.1
  have O8 := hO.2.2.2.2.2.1
  have F10 := hO.2.2.2.2.2.2.2.1
  have oV := hO.2.2.2.2.2.2.2.2.2.2.2.2.2.2.1
  rcases inN x 2 (by omega) with ⟨i, hi, rfl⟩ | hx
  · have hg40 : gSet i ≤ 40 := by unfold gSet; split <;> omega
    by_cases hy : nI 1 ≤ y ∧ y ≤ nI (gSet i)
    · obtain ⟨k, k1, k2, rfl⟩ := rng hy (by omega) (by omega)
      obtain ⟨q1, q2, q3, q4⟩ := ok_set hO hN2 hi k1 k2
      refine c_146 hI hA hi k1 k2 (fun μ1 hf hI1 => ?_)
      obtain ⟨e2, e0, e4, hM1, h81⟩ := hCo.cc hP hR hf
      have hO1 : okR (mI μ1 1302) := by rw [e2]; exact hO
      refine ⟨_, rfl, hf.bs hP, ?_⟩
      refine m_277 hM1 hO1 (by rw [e2]; exact hRN) h81 hu hi k1 k2 (fun μ2 hg g2 g8 gp => ⟨by rw [e2], Inv.chg hP hR hf hI1 hg (by rw [g2, e2]) g8 (fun j hj => by rw [gp j hj, e2, e4]) (hA.next q1 ⟨q2, okK_set hK hO hi⟩ q3 (by omega))⟩)
    · rw [c_146b hW hB hO hi hy]
      exact ⟨_, rfl, Bs.refl, by rw [m_277b hM hO hi hy]; exact ⟨rfl, h0.rd RdF.refl.z⟩⟩
  · rw [c_146a hW hB hO hx]
    exact ⟨_, rfl, Bs.refl, by rw [m_277a hM hO hx]; exact ⟨rfl, h0.rd RdF.refl.z⟩⟩

end Chg
