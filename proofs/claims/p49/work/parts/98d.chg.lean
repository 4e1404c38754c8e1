/-! the calls that change something keep what holds -/
/-- between two calls of the law -/
def PIr (L : Nat) (xs : Nat → Int32) (μ : Mu) (r : Nat → Int32) (u : Nat) (pr : Nat → Nat → Int32) (tn : Nat → Int32) : Prop := CI μ 1032 1055 r u pr tn ∧ AI r u pr tn ∧ (∀ c, c < 16 → tn c = nI (staN L xs c)) ∧ 1 ≤ nM r ∧ RecP r ∧ LwW L xs μ ∧ 1298 ≤ mX μ
def PInv (L : Nat) (xs : Nat → Int32) (μ : Mu) : Prop := ∃ r u pr tn, PIr L xs μ r u pr tn
theorem rng {y : Int32} {a b : Nat} (h : nI a ≤ y ∧ y ≤ nI b) (ha : a < 2147483648) (hb : b < 2147483648) : ∃ k, a ≤ k ∧ k ≤ b ∧ y = nI k := by
  obtain ⟨h1, h2⟩ := h
  have e1 := Int32.le_iff_toInt_le.mp h1
  have e2 := Int32.le_iff_toInt_le.mp h2
  rw [nI_toInt hb] at e2
  rw [nI_toInt ha] at e1
  refine ⟨y.toInt.toNat, by omega, by omega, ?_⟩
  apply Int32.toInt_inj.mp
  rw [nI_toInt (by omega)]
  omega
section Chg
variable {d L : Nat} {xs : Nat → Int32} {μ μ1 : Mu} {Q : Po} {x y g w : Int32} {r r' tn : Nat → Int32} {u : Nat} {pr : Nat → Nat → Int32}
theorem PIr.step (h : PIr L xs μ r u pr tn) (hf : FrC 1032 1055 μ μ1) (hI : CI μ1 1032 1055 r' (u2 u) (pr2 u pr r) tn) (hA : AI r' (u2 u) (pr2 u pr r) tn) (hP : RecP r') (hn : nM r ≤ nM r') : PInv L xs μ1 := by
  obtain ⟨h1, h2, h3, h4, h5, h6, h7⟩ := h
  refine ⟨r', _, _, tn, hI, hA, h3, by omega, hP, h6.fr (lo := 1000) ⟨by have e9 : mX μ1 = mX μ := hf.1.1; omega, fun a ha => ⟨congrFun hf.1.sh a, fun k => hf.1.2.2.2 a (by unfold PC; omega) k, fun k => by rw [hf.1.rf]⟩⟩ (Nat.le_refl _), ?_⟩
  have : mX μ1 = mX μ := hf.1.1
  omega

theorem q_140 (h : PInv L xs μ) (hq : ∀ v μ1, PInv L xs μ1 → mX μ1 = mX μ → Q (some (some (.int v))) μ1) : Ev (d + 10) 140 [.ref 1000, .int x, .int y, .int g, .int w] μ Q := by
  have h0 := h
  obtain ⟨r, u, pr, tn, hPI⟩ := h
  obtain ⟨hI, hA, hst, h1n, hP, hLw, hX⟩ := id hPI
  have hW := hI.1
  have hB := hI.2.2.1.1
  have hC := hI.2.2.2.1
  have hO := hA.1
  have hN3 := hA.2.1
  have hN2 := hA.2.1.1
  have hRN := hA.2.1.1.1
  have hK := hA.2.1.2
  have hu := hA.2.2.1
  have m6 := hO.2.1
  have T40 := hO.2.2.2.1
  have O8 := hO.2.2.2.2.2.1
  have F10 := hO.2.2.2.2.2.2.2.1
  have oV := hO.2.2.2.2.2.2.2.2.2.2.2.2.2.2.1
  rcases inN x (nM r) (by omega) with ⟨m, hm, rfl⟩ | hx
  · rcases inN y 6 (by omega) with ⟨σ, hσ, rfl⟩ | hy
    · rcases inN g 16 (by omega) with ⟨i, hi, rfl⟩ | hg
      · rcases inN w (gOp σ) (by have := gOp_le σ; omega) with ⟨k, hk, rfl⟩ | hw
        · by_cases ha : rW r m 2 = nI 0
          · rw [c_140e hW hB hO hm hσ hi hk ha]
            exact hq _ _ h0 rfl
          · by_cases ho : nO r = 8
            · rw [c_140f hW hB hO hm hσ hi hk ha ho]
              exact hq _ _ h0 rfl
            · obtain ⟨q1, q2, q3, q4⟩ := ok_give hO hN2 hm hσ hi hk (show nO r < 8 by omega)
              refine c_140 hI hA hm hσ hi hk ha (by omega) (fun μ1 hf hI1 => ?_)
              exact hq _ _ (PIr.step hPI hf hI1 (hA.next q1 ⟨q2, okK_lo hK hO (fun x hx => rGive_lo (by omega))⟩ q3 (by omega)) (RecP.lo hP hO (fun x hx h3 => rGive_lo (by omega)) (by omega)) (by omega)) hf.1.1
        · rw [c_140d hW hB hO hm hσ hi hw]
          exact hq _ _ h0 rfl
      · rw [c_140c hW hB hO hm hσ hg]
        exact hq _ _ h0 rfl
    · rw [c_140b hW hB hO hm hy]
      exact hq _ _ h0 rfl
  · rw [c_140a hW hB hO hx]
    exact hq _ _ h0 rfl
theorem q_141 (h : PInv L xs μ) (hq : ∀ v μ1, PInv L xs μ1 → mX μ1 = mX μ → Q (some (some (.int v))) μ1) : Ev (d + 10) 141 [.ref 1000] μ Q := by
  have h0 := h
  obtain ⟨r, u, pr, tn, hPI⟩ := h
  obtain ⟨hI, hA, hst, h1n, hP, hLw, hX⟩ := id hPI
  have hW := hI.1
  have hB := hI.2.2.1.1
  have hC := hI.2.2.2.1
  have hO := hA.1
  have hN3 := hA.2.1
  have hN2 := hA.2.1.1
  have hRN := hA.2.1.1.1
  have hK := hA.2.1.2
  have hu := hA.2.2.1
  have m6 := hO.2.1
  have T40 := hO.2.2.2.1
  have O8 := hO.2.2.2.2.2.1
  have F10 := hO.2.2.2.2.2.2.2.1
  have oV := hO.2.2.2.2.2.2.2.2.2.2.2.2.2.2.1
  by_cases hT : nT r = 40
  · rw [c_141n hW hB hO hT]
    exact hq _ _ h0 rfl
  · obtain ⟨q1, q2, q3, q4, -⟩ := ok_seal hO hN2 (show nT r < 40 by omega)
    refine c_141 hI hA (by omega) (fun μ1 hf hI1 => ?_)
    exact hq _ _ (PIr.step hPI hf hI1 (hA.next q1 ⟨q2, okK_lo hK hO (fun x hx => rSeal_lo hx)⟩ q3 (by omega)) (RecP.lo hP hO (fun x hx h3 => rSeal_lo hx) (by omega)) (by omega)) hf.1.1
theorem q_142 (h : PInv L xs μ) (hq : ∀ v μ1, PInv L xs μ1 → mX μ1 = mX μ → Q (some (some (.int v))) μ1) : Ev (d + 10) 142 [.ref 1000, .int x, .int y] μ Q := by
  have h0 := h
  obtain ⟨r, u, pr, tn, hPI⟩ := h
  obtain ⟨hI, hA, hst, h1n, hP, hLw, hX⟩ := id hPI
  have hW := hI.1
  have hB := hI.2.2.1.1
  have hC := hI.2.2.2.1
  have hO := hA.1
  have hN3 := hA.2.1
  have hN2 := hA.2.1.1
  have hRN := hA.2.1.1.1
  have hK := hA.2.1.2
  have hu := hA.2.2.1
  have m6 := hO.2.1
  have T40 := hO.2.2.2.1
  have O8 := hO.2.2.2.2.2.1
  have F10 := hO.2.2.2.2.2.2.2.1
  have oV := hO.2.2.2.2.2.2.2.2.2.2.2.2.2.2.1
  rcases inN x (nM r) (by omega) with ⟨m, hm, rfl⟩ | hx
  · by_cases hy : nI 1 ≤ y ∧ y ≤ nI 40
    · obtain ⟨k, k1, k2, rfl⟩ := rng hy (by omega) (by omega)
      by_cases ha : rW r m 2 = nI 0
      · rw [c_142c hW hB hO hm k1 k2 ha]
        exact hq _ _ h0 rfl
      · have hle := runN_le (k := k) hO hm ha
        obtain ⟨q1, q2, q3, q4, q5, q6⟩ := ok_exN hO hN2 hm (runN r m k) hle
        refine c_142 hI hA hm k1 k2 ha (fun μ1 hf hI1 => ?_)
        exact hq _ _ (PIr.step hPI hf hI1 (hA.next q1 ⟨q2, okK_exN hK hO hN2 hm _ hle⟩ (Or.inr ⟨by omega, by omega⟩) (by omega)) (RecP.exN hP hO hN2 hm _ hle) (by omega)) hf.1.1
    · rw [c_142b hW hB hO hm hy]
      exact hq _ _ h0 rfl
  · rw [c_142a hW hB hO hx]
    exact hq _ _ h0 rfl
theorem q_143 (h : PInv L xs μ) (hq : ∀ v μ1, PInv L xs μ1 → mX μ1 = mX μ → Q (some (some (.int v))) μ1) : Ev (d + 10) 143 [.ref 1000] μ Q := by
  have h0 := h
  obtain ⟨r, u, pr, tn, hPI⟩ := h
  obtain ⟨hI, hA, hst, h1n, hP, hLw, hX⟩ := id hPI
  have hW := hI.1
  have hB := hI.2.2.1.1
  have hC := hI.2.2.2.1
  have hO := hA.1
  have hN3 := hA.2.1
  have hN2 := hA.2.1.1
  have hRN := hA.2.1.1.1
  have hK := hA.2.1.2
  have hu := hA.2.2.1
  have m6 := hO.2.1
  have T40 := hO.2.2.2.1
  have O8 := hO.2.2.2.2.2.1
  have F10 := hO.2.2.2.2.2.2.2.1
  have oV := hO.2.2.2.2.2.2.2.2.2.2.2.2.2.2.1
  have hla : ∀ m, m < nM r → ¬ rW r m 2 = nI 0 → laN r ≤ nT r := fun m hm ha => (fLast_ok hO hm ha).2
  obtain ⟨q1, q2, q3, q4, q5, -⟩ := tk_ok hO hN2 hla (nM r) (Nat.le_refl _)
  refine c_143 hI hA (fun μ1 hf hI1 => ?_)
  exact hq _ _ (PIr.step hPI hf hI1 (hA.next q1 ⟨q2, okK_tk hK hO hN2 hla _ (Nat.le_refl _)⟩ (Or.inr ⟨by omega, by omega⟩) (by omega)) (RecP.tk hP hO hN2 hla _ (Nat.le_refl _)) (by omega)) hf.1.1
theorem q_145 (h : PInv L xs μ) (hq : ∀ v μ1, PInv L xs μ1 → mX μ1 = mX μ → Q (some (some (.int v))) μ1) : Ev (d + 10) 145 [.ref 1000, .int x, .int y, .int g, .int w] μ Q := by
  have h0 := h
  obtain ⟨r, u, pr, tn, hPI⟩ := h
  obtain ⟨hI, hA, hst, h1n, hP, hLw, hX⟩ := id hPI
  have hW := hI.1
  have hB := hI.2.2.1.1
  have hC := hI.2.2.2.1
  have hO := hA.1
  have hN3 := hA.2.1
  have hN2 := hA.2.1.1
  have hRN := hA.2.1.1.1
  have hK := hA.2.1.2
  have hu := hA.2.2.1
  have m6 := hO.2.1
  have T40 := hO.2.2.2.1
  have O8 := hO.2.2.2.2.2.1
  have F10 := hO.2.2.2.2.2.2.2.1
  have oV := hO.2.2.2.2.2.2.2.2.2.2.2.2.2.2.1
  rcases inN x (nM r) (by omega) with ⟨m, hm, rfl⟩ | hx
  · have vE := okBE oV hm
    rcases inN y 40 (by omega) with ⟨t, ht, rfl⟩ | hy
    · rcases inN g 16 (by omega) with ⟨i, hi, rfl⟩ | hg
      · by_cases hw : nI 1 ≤ w ∧ w ≤ nI 9999
        · obtain ⟨k, k1, k2, rfl⟩ := rng hw (by omega) (by omega)
          by_cases ha : rW r m 2 = nI 0
          · rw [c_145e hW hB hO hm ht hi k1 (show k < 10000 by omega) ha]
            exact hq _ _ h0 rfl
          · by_cases he : t < nE (rW r) m
            · rw [c_145g hW hB hO hm ht hi k1 (show k < 10000 by omega) ha he]
              exact hq _ _ h0 rfl
            · by_cases ho : nF r = 10
              · rw [c_145f hW hB hO hm ht hi k1 (show k < 10000 by omega) ha (show _ ≤ t by omega) ho]
                exact hq _ _ h0 rfl
              · obtain ⟨q1, q2, q3, q4⟩ := ok_fault hO hN2 hm ht hi (show k < 10000 by omega) (show nF r < 10 by omega)
                refine c_145 hI hA hm ht hi k1 (by omega) ha (by omega) (by omega) (fun μ1 hf hI1 => ?_)
                exact hq _ _ (PIr.step hPI hf hI1 (hA.next q1 ⟨q2, okK_lo hK hO (fun x hx => rFault_lo (by omega))⟩ q3 (by omega)) (RecP.lo hP hO (fun x hx h3 => rFault_lo (by omega)) (by omega)) (by omega)) hf.1.1
        · rw [c_145d hW hB hO hm ht hi hw]
          exact hq _ _ h0 rfl
      · rw [c_145c hW hB hO hm ht hg]
        exact hq _ _ h0 rfl
    · rw [c_145b hW hB hO hm hy]
      exact hq _ _ h0 rfl
  · rw [c_145a hW hB hO hx]
    exact hq _ _ h0 rfl
theorem q_123 (h : PInv L xs μ) (hq : ∀ v μ1, PInv L xs μ1 → mX μ1 = mX μ → Q (some (some (.int v))) μ1) : Ev (d + 10) 123 [.ref 1000, .int x] μ Q := by
  have h0 := h
  obtain ⟨r, u, pr, tn, hPI⟩ := h
  obtain ⟨hI, hA, hst, h1n, hP, hLw, hX⟩ := id hPI
  have hW := hI.1
  have hB := hI.2.2.1.1
  have hC := hI.2.2.2.1
  have hO := hA.1
  have hN3 := hA.2.1
  have hN2 := hA.2.1.1
  have hRN := hA.2.1.1.1
  have hK := hA.2.1.2
  have hu := hA.2.2.1
  have m6 := hO.2.1
  have T40 := hO.2.2.2.1
  have O8 := hO.2.2.2.2.2.1
  have F10 := hO.2.2.2.2.2.2.2.1
  have oV := hO.2.2.2.2.2.2.2.2.2.2.2.2.2.2.1
  rcases inN x (nM r) (by omega) with ⟨m, hm, rfl⟩ | hx
  · by_cases hs : fStop (rW r) (nM r) (nQ r) m = 0
    · obtain ⟨d1, d2, d3, d4⟩ := dnr_ok hs
      obtain ⟨q1, q2, q3, q4, q5⟩ := ok_heal hO hN2 hK hm d2 d3 d4
      refine c_123 hI hA hm hs (fun μ1 hf hI1 => ?_)
      exact hq _ _ (PIr.step hPI hf hI1 (hA.next q1 q2 q3 (by omega)) (RecP.heal hP hO hN2 hK hm d2 d3 d4) (by omega)) hf.1.1
    · rw [c_123b hW hB hO hm hs]
      exact hq _ _ h0 rfl
  · rw [c_123a hW hB hO hx]
    exact hq _ _ h0 rfl
theorem q_124 (h : PInv L xs μ) (hq : ∀ v μ1, PInv L xs μ1 → mX μ1 = mX μ → Q (some (some (.int v))) μ1) : Ev (d + 10) 124 [.ref 1000] μ Q := by
  have h0 := h
  obtain ⟨r, u, pr, tn, hPI⟩ := h
  obtain ⟨hI, hA, hst, h1n, hP, hLw, hX⟩ := id hPI
  have hW := hI.1
  have hB := hI.2.2.1.1
  have hC := hI.2.2.2.1
  have hO := hA.1
  have hN3 := hA.2.1
  have hN2 := hA.2.1.1
  have hRN := hA.2.1.1.1
  have hK := hA.2.1.2
  have hu := hA.2.2.1
  have m6 := hO.2.1
  have T40 := hO.2.2.2.1
  have O8 := hO.2.2.2.2.2.1
  have F10 := hO.2.2.2.2.2.2.2.1
  have oV := hO.2.2.2.2.2.2.2.2.2.2.2.2.2.2.1
  obtain ⟨q1, q2, q3, q4, q5, q6⟩ := ha_ok hO hN3 (nM r) (Nat.le_refl _)
  refine c_124 hI hA (fun hz => ?_) (fun μ1 hf hI1 h1 => ?_)
  · exact hq _ _ h0 rfl
  · skip
    exact hq _ _ (PIr.step hPI hf hI1 (hA.next q1 q2 q3 (by omega)) (RecP.ha hP hO hN3 _ (Nat.le_refl _)) (by omega)) hf.1.1
theorem q_127 (h : PInv L xs μ) (hq : ∀ v μ1, PInv L xs μ1 → mX μ1 = mX μ → Q (some (some (.int v))) μ1) : Ev (d + 10) 127 [.ref 1000, .int x] μ Q := by
  have h0 := h
  obtain ⟨r, u, pr, tn, hPI⟩ := h
  obtain ⟨hI, hA, hst, h1n, hP, hLw, hX⟩ := id hPI
  have hW := hI.1
  have hB := hI.2.2.1.1
  have hC := hI.2.2.2.1
  have hO := hA.1
  have hN3 := hA.2.1
  have hN2 := hA.2.1.1
  have hRN := hA.2.1.1.1
  have hK := hA.2.1.2
  have hu := hA.2.2.1
  have m6 := hO.2.1
  have T40 := hO.2.2.2.1
  have O8 := hO.2.2.2.2.2.1
  have F10 := hO.2.2.2.2.2.2.2.1
  have oV := hO.2.2.2.2.2.2.2.2.2.2.2.2.2.2.1
  by_cases hx : nI 1 ≤ x ∧ x ≤ nI 4
  · obtain ⟨p, p1, p2, rfl⟩ := rng hx (by omega) (by omega)
    by_cases hn : nM r = 6
    · rw [c_127b hW hB hO p1 p2 hn]
      exact hq _ _ h0 rfl
    · cases hj : jdn r with
      | none =>
        rw [c_127c hW hB hO p1 p2 (show nM r < 6 by omega) hj]
        exact hq _ _ h0 rfl
      | some dn =>
        obtain ⟨j1, j2, j3⟩ := jdn_some hO hj
        obtain ⟨q1, q2, q3, q4, q5⟩ := ok_join (p := p) hO hN3 (show nM r < 6 by omega) p1 p2 j1 rfl
        refine c_127 hI hA p1 p2 (by omega) hj (fun μ1 hf hI1 => ?_)
        exact hq _ _ (PIr.step hPI hf hI1 (hA.next q1 q2 q3 (by omega)) (RecP.join hP hO hN3 (by omega) p1 p2 j1 rfl) (by omega)) hf.1.1
  · rw [c_127a hW hB hO hx]
    exact hq _ _ h0 rfl
theorem q_128 (h : PInv L xs μ) (hq : ∀ v μ1, PInv L xs μ1 → mX μ1 = mX μ → Q (some (some (.int v))) μ1) : Ev (d + 10) 128 [.ref 1000, .int x] μ Q := by
  have h0 := h
  obtain ⟨r, u, pr, tn, hPI⟩ := h
  obtain ⟨hI, hA, hst, h1n, hP, hLw, hX⟩ := id hPI
  have hW := hI.1
  have hB := hI.2.2.1.1
  have hC := hI.2.2.2.1
  have hO := hA.1
  have hN3 := hA.2.1
  have hN2 := hA.2.1.1
  have hRN := hA.2.1.1.1
  have hK := hA.2.1.2
  have hu := hA.2.2.1
  have m6 := hO.2.1
  have T40 := hO.2.2.2.1
  have O8 := hO.2.2.2.2.2.1
  have F10 := hO.2.2.2.2.2.2.2.1
  have oV := hO.2.2.2.2.2.2.2.2.2.2.2.2.2.2.1
  rcases inN x (nM r) (by omega) with ⟨m, hm, rfl⟩ | hx
  · by_cases ha : rW r m 2 = nI 0
    · rw [c_128b hW hB hO hm ha]
      exact hq _ _ h0 rfl
    · obtain ⟨q1, q2, q3, q4, q5⟩ := ok_leave hO hN2 hK hm
      refine c_128 hI hA hm ha (fun μ1 hf hI1 => ?_)
      exact hq _ _ (PIr.step hPI hf hI1 (hA.next q1 q2 q3 (by omega)) (RecP.leave hP hO hN2 hK hm) (by omega)) hf.1.1
  · rw [c_128a hW hB hO hx]
    exact hq _ _ h0 rfl
theorem q_146 (h : PInv L xs μ) (hq : ∀ v μ1, PInv L xs μ1 → mX μ1 = mX μ → Q (some (some (.int v))) μ1) : Ev (d + 10) 146 [.ref 1000, .int x, .int y] μ Q := by
  have h0 := h
  obtain ⟨r, u, pr, tn, hPI⟩ := h
  obtain ⟨hI, hA, hst, h1n, hP, hLw, hX⟩ := id hPI
  have hW := hI.1
  have hB := hI.2.2.1.1
  have hC := hI.2.2.2.1
  have hO := hA.1
  have hN3 := hA.2.1
  have hN2 := hA.2.1.1
  have hRN := hA.2.1.1.1
  have hK := hA.2.1.2
  have hu := hA.2.2.1
  have m6 := hO.2.1
  have T40 := hO.2.2.2.1
  have O8 := hO.2.2.2.2.2.1
  have F10 := hO.2.2.2.2.2.2.2.1
  have oV := hO.2.2.2.2.2.2.2.2.2.2.2.2.2.2.1
  rcases inN x 2 (by omega) with ⟨i, hi, rfl⟩ | hx
  · have hg40 : gSet i ≤ 40 := by unfold gSet; split <;> omega
    by_cases hy : nI 1 ≤ y ∧ y ≤ nI (gSet i)
    · obtain ⟨k, k1, k2, rfl⟩ := rng hy (by omega) (by omega)
      obtain ⟨q1, q2, q3, q4⟩ := ok_set hO hN2 hi k1 k2
      refine c_146 hI hA hi k1 k2 (fun μ1 hf hI1 => ?_)
      exact hq _ _ (PIr.step hPI hf hI1 (hA.next q1 ⟨q2, okK_set hK hO hi⟩ q3 (by omega)) (RecP.lo hP hO (fun x hx h3 => upd_n (by omega)) (by omega)) (by omega)) hf.1.1
    · rw [c_146b hW hB hO hi hy]
      exact hq _ _ h0 rfl
  · rw [c_146a hW hB hO hx]
    exact hq _ _ h0 rfl
theorem cgE {u a : Nat × Nat} (h : mX μ1 = mX μ) : cg μ μ1 u a = u := if_pos h
theorem PInv.of (hI : CI μ 1032 1055 (rBg r tn (rtT tn) (nM r)) 0 (fun _ _ => 0) tn) (hA : AL r tn) (hn : nM r = memN L xs) (hs : ∀ c, c < 16 → tn c = nI (staN L xs c)) (hW : LwW L xs μ) (hX : 1298 ≤ mX μ) : PInv L xs μ := by
  obtain ⟨b1, b2, b3⟩ := ok_bg hA
  have hm := memN_in (L := L) (xs := xs)
  obtain ⟨a1, a2, a3, a4, a5, a6, a7⟩ := id hA
  refine ⟨_, _, _, _, hI, ⟨b1, b2, by omega, fun j hj => absurd hj (Nat.not_lt_zero j), ⟨nM r, a4, by omega, fun j hj => absurd hj (Nat.not_lt_zero j)⟩, a7⟩, hs, by omega, RecP.bg hA, hW, hX⟩
theorem w_193 (h : PInv L xs μ) (hq : ∀ μ1, PInv L xs μ1 → mX μ1 = mX μ → Q (some none) μ1) : Ev (d + 12) 193 [.ref 1000, .int x] μ Q := by
  have h0 := h
  obtain ⟨r, u, pr, tn, hPI⟩ := h
  obtain ⟨hI, hA, hst, h1n, hP, hLw, hX⟩ := hPI
  have hW := hI.1
  have hB := hI.2.2.1.1
  have hO := hA.1
  have m6 := hO.2.1
  have sh := hW.1
  have h98 := fun (d : Nat) (Q : Po) => c_98_0 (d := d) (Q := Q) hW hB hO
  rw [hO.1] at h98
  rw [in_193]
  have ku : ule ((0, 0) : Nat × Nat) (10, 100) = True := eq_true (show 0 ≤ 10 ∧ 0 ≤ 100 by omega)
  simp (disch := first | omega | rfl) only [e_193_0, e_193_1, e_193_3, e_193_4, e_193_5, e_193_6, e_193_9, e_193_12, e_193_13, e_193_14, e_193_17, e_193_18, e_193_20, e_193_23, e_193_24, e_193_25, e_193_27, ge1, ule_t, true_or, or_true, nI_add, nI_mul, nI_sub, nI_clamp, nI_lt_t, nI_lt_f, nI_le_t, nI_le_f, nI_eq_t, nI_eq_f, vp_nI, tI, fI, not_true, not_false_iff, true_and, and_true, Classical.not_not, mS_uI, mS_uA, mS_uJ, mS_uR, mS_uX, mR_uI, mR_uA, mR_uJ, mR_uX, mX_uI, mX_uA, mX_uJ, mX_uR, mI_s, mI_n, mI_A, mI_An, mI_uJ, mI_uR, mI_uX, mJ_uI, mJ_uA, mJ_uR, mJ_uX, onR_s, kC_v, kC_n, kC_t, sh, h98, w_173, ku]
  have hm := ofM_lt (x := x / nI 16) (n := nM r) (by omega)
  have hs := ofM_lt (x := x / nI 128) (n := 6) (by omega)
  have hk := ofM_lt (x := x) (n := 20) (by omega)
  generalize ofM (x / nI 16) (nM r) = m at *
  generalize ofM (x / nI 128) 6 = sort at *
  generalize ofM x 20 = k at *
  have hk2 : k = 0 ∨ k = 1 ∨ k = 2 ∨ k = 3 ∨ k = 4 ∨ k = 5 ∨ k = 6 ∨ k = 7 ∨ k = 8 ∨ k = 9 ∨ k = 10 ∨ k = 11 ∨ k = 12 ∨ k = 13 ∨ k = 14 ∨ k = 15 ∨ k = 16 ∨ k = 17 ∨ k = 18 ∨ k = 19 := by omega
  rcases hk2 with rfl | rfl | rfl | rfl | rfl | rfl | rfl | rfl | rfl | rfl | rfl | rfl | rfl | rfl | rfl | rfl | rfl | rfl | rfl | rfl
  · rw [e_193_30_0]
    by_cases hs2 : sort < 2
    · simp (disch := first | omega | rfl) only [e_193_120, e_193_121, e_193_122, e_193_123, e_193_124, e_193_127, e_193_128, e_193_130, e_193_133, e_193_134, e_193_135, e_193_138, e_193_139, e_193_142, e_193_143, e_193_146, e_193_149, e_193_152, e_193_153, e_193_156, e_193_157, e_193_159, e_193_162, e_193_165, e_193_166, e_193_359, ge1, ule_t, true_or, or_true, nI_add, nI_mul, nI_sub, nI_clamp, nI_lt_t, nI_lt_f, nI_le_t, nI_le_f, nI_eq_t, nI_eq_f, vp_nI, tI, fI, not_true, not_false_iff, true_and, and_true, Classical.not_not, mS_uI, mS_uA, mS_uJ, mS_uR, mS_uX, mR_uI, mR_uA, mR_uJ, mR_uX, mX_uI, mX_uA, mX_uJ, mX_uR, mI_s, mI_n, mI_A, mI_An, mI_uJ, mI_uR, mI_uX, mJ_uI, mJ_uA, mJ_uR, mJ_uX, onR_s, kC_v, kC_n, kC_t, sh, ku, w_173, forall_const, false_implies, implies_true, and_self]
      refine q_140 h0 (fun v μ1 hp hx => ?_)
      simp (disch := first | omega | rfl) only [e_193_162, e_193_165, e_193_166, e_193_359, ge1, ule_t, true_or, or_true, nI_add, nI_mul, nI_sub, nI_clamp, nI_lt_t, nI_lt_f, nI_le_t, nI_le_f, nI_eq_t, nI_eq_f, vp_nI, tI, fI, not_true, not_false_iff, true_and, and_true, Classical.not_not, mS_uI, mS_uA, mS_uJ, mS_uR, mS_uX, mR_uI, mR_uA, mR_uJ, mR_uX, mX_uI, mX_uA, mX_uJ, mX_uR, mI_s, mI_n, mI_A, mI_An, mI_uJ, mI_uR, mI_uX, mJ_uI, mJ_uA, mJ_uR, mJ_uX, onR_s, kC_v, kC_n, kC_t, sh, ku, w_173, forall_const, false_implies, implies_true, and_self]
      exact hq μ1 hp hx
    · simp (disch := first | omega | rfl) only [e_193_120, e_193_121, e_193_122, e_193_123, e_193_124, e_193_127, e_193_128, e_193_130, e_193_133, e_193_134, e_193_135, e_193_138, e_193_139, e_193_142, e_193_143, e_193_146, e_193_149, e_193_152, e_193_153, e_193_156, e_193_157, e_193_159, e_193_162, e_193_165, e_193_166, e_193_359, ge1, ule_t, true_or, or_true, nI_add, nI_mul, nI_sub, nI_clamp, nI_lt_t, nI_lt_f, nI_le_t, nI_le_f, nI_eq_t, nI_eq_f, vp_nI, tI, fI, not_true, not_false_iff, true_and, and_true, Classical.not_not, mS_uI, mS_uA, mS_uJ, mS_uR, mS_uX, mR_uI, mR_uA, mR_uJ, mR_uX, mX_uI, mX_uA, mX_uJ, mX_uR, mI_s, mI_n, mI_A, mI_An, mI_uJ, mI_uR, mI_uX, mJ_uI, mJ_uA, mJ_uR, mJ_uX, onR_s, kC_v, kC_n, kC_t, sh, ku, w_173, forall_const, false_implies, implies_true, and_self]
      refine q_140 h0 (fun v μ1 hp hx => ?_)
      simp (disch := first | omega | rfl) only [e_193_162, e_193_165, e_193_166, e_193_359, ge1, ule_t, true_or, or_true, nI_add, nI_mul, nI_sub, nI_clamp, nI_lt_t, nI_lt_f, nI_le_t, nI_le_f, nI_eq_t, nI_eq_f, vp_nI, tI, fI, not_true, not_false_iff, true_and, and_true, Classical.not_not, mS_uI, mS_uA, mS_uJ, mS_uR, mS_uX, mR_uI, mR_uA, mR_uJ, mR_uX, mX_uI, mX_uA, mX_uJ, mX_uR, mI_s, mI_n, mI_A, mI_An, mI_uJ, mI_uR, mI_uX, mJ_uI, mJ_uA, mJ_uR, mJ_uX, onR_s, kC_v, kC_n, kC_t, sh, ku, w_173, forall_const, false_implies, implies_true, and_self]
      exact hq μ1 hp hx
  · rw [e_193_30_1]
    by_cases hs2 : sort < 2
    · simp (disch := first | omega | rfl) only [e_193_120, e_193_121, e_193_122, e_193_123, e_193_124, e_193_127, e_193_128, e_193_130, e_193_133, e_193_134, e_193_135, e_193_138, e_193_139, e_193_142, e_193_143, e_193_146, e_193_149, e_193_152, e_193_153, e_193_156, e_193_157, e_193_159, e_193_162, e_193_165, e_193_166, e_193_359, ge1, ule_t, true_or, or_true, nI_add, nI_mul, nI_sub, nI_clamp, nI_lt_t, nI_lt_f, nI_le_t, nI_le_f, nI_eq_t, nI_eq_f, vp_nI, tI, fI, not_true, not_false_iff, true_and, and_true, Classical.not_not, mS_uI, mS_uA, mS_uJ, mS_uR, mS_uX, mR_uI, mR_uA, mR_uJ, mR_uX, mX_uI, mX_uA, mX_uJ, mX_uR, mI_s, mI_n, mI_A, mI_An, mI_uJ, mI_uR, mI_uX, mJ_uI, mJ_uA, mJ_uR, mJ_uX, onR_s, kC_v, kC_n, kC_t, sh, ku, w_173, forall_const, false_implies, implies_true, and_self]
      refine q_140 h0 (fun v μ1 hp hx => ?_)
      simp (disch := first | omega | rfl) only [e_193_162, e_193_165, e_193_166, e_193_359, ge1, ule_t, true_or, or_true, nI_add, nI_mul, nI_sub, nI_clamp, nI_lt_t, nI_lt_f, nI_le_t, nI_le_f, nI_eq_t, nI_eq_f, vp_nI, tI, fI, not_true, not_false_iff, true_and, and_true, Classical.not_not, mS_uI, mS_uA, mS_uJ, mS_uR, mS_uX, mR_uI, mR_uA, mR_uJ, mR_uX, mX_uI, mX_uA, mX_uJ, mX_uR, mI_s, mI_n, mI_A, mI_An, mI_uJ, mI_uR, mI_uX, mJ_uI, mJ_uA, mJ_uR, mJ_uX, onR_s, kC_v, kC_n, kC_t, sh, ku, w_173, forall_const, false_implies, implies_true, and_self]
      exact hq μ1 hp hx
    · simp (disch := first | omega | rfl) only [e_193_120, e_193_121, e_193_122, e_193_123, e_193_124, e_193_127, e_193_128, e_193_130, e_193_133, e_193_134, e_193_135, e_193_138, e_193_139, e_193_142, e_193_143, e_193_146, e_193_149, e_193_152, e_193_153, e_193_156, e_193_157, e_193_159, e_193_162, e_193_165, e_193_166, e_193_359, ge1, ule_t, true_or, or_true, nI_add, nI_mul, nI_sub, nI_clamp, nI_lt_t, nI_lt_f, nI_le_t, nI_le_f, nI_eq_t, nI_eq_f, vp_nI, tI, fI, not_true, not_false_iff, true_and, and_true, Classical.not_not, mS_uI, mS_uA, mS_uJ, mS_uR, mS_uX, mR_uI, mR_uA, mR_uJ, mR_uX, mX_uI, mX_uA, mX_uJ, mX_uR, mI_s, mI_n, mI_A, mI_An, mI_uJ, mI_uR, mI_uX, mJ_uI, mJ_uA, mJ_uR, mJ_uX, onR_s, kC_v, kC_n, kC_t, sh, ku, w_173, forall_const, false_implies, implies_true, and_self]
      refine q_140 h0 (fun v μ1 hp hx => ?_)
      simp (disch := first | omega | rfl) only [e_193_162, e_193_165, e_193_166, e_193_359, ge1, ule_t, true_or, or_true, nI_add, nI_mul, nI_sub, nI_clamp, nI_lt_t, nI_lt_f, nI_le_t, nI_le_f, nI_eq_t, nI_eq_f, vp_nI, tI, fI, not_true, not_false_iff, true_and, and_true, Classical.not_not, mS_uI, mS_uA, mS_uJ, mS_uR, mS_uX, mR_uI, mR_uA, mR_uJ, mR_uX, mX_uI, mX_uA, mX_uJ, mX_uR, mI_s, mI_n, mI_A, mI_An, mI_uJ, mI_uR, mI_uX, mJ_uI, mJ_uA, mJ_uR, mJ_uX, onR_s, kC_v, kC_n, kC_t, sh, ku, w_173, forall_const, false_implies, implies_true, and_self]
      exact hq μ1 hp hx
  · rw [e_193_30_2]
    by_cases hs2 : sort < 2
    · simp (disch := first | omega | rfl) only [e_193_120, e_193_121, e_193_122, e_193_123, e_193_124, e_193_127, e_193_128, e_193_130, e_193_133, e_193_134, e_193_135, e_193_138, e_193_139, e_193_142, e_193_143, e_193_146, e_193_149, e_193_152, e_193_153, e_193_156, e_193_157, e_193_159, e_193_162, e_193_165, e_193_166, e_193_359, ge1, ule_t, true_or, or_true, nI_add, nI_mul, nI_sub, nI_clamp, nI_lt_t, nI_lt_f, nI_le_t, nI_le_f, nI_eq_t, nI_eq_f, vp_nI, tI, fI, not_true, not_false_iff, true_and, and_true, Classical.not_not, mS_uI, mS_uA, mS_uJ, mS_uR, mS_uX, mR_uI, mR_uA, mR_uJ, mR_uX, mX_uI, mX_uA, mX_uJ, mX_uR, mI_s, mI_n, mI_A, mI_An, mI_uJ, mI_uR, mI_uX, mJ_uI, mJ_uA, mJ_uR, mJ_uX, onR_s, kC_v, kC_n, kC_t, sh, ku, w_173, forall_const, false_implies, implies_true, and_self]
      refine q_140 h0 (fun v μ1 hp hx => ?_)
      simp (disch := first | omega | rfl) only [e_193_162, e_193_165, e_193_166, e_193_359, ge1, ule_t, true_or, or_true, nI_add, nI_mul, nI_sub, nI_clamp, nI_lt_t, nI_lt_f, nI_le_t, nI_le_f, nI_eq_t, nI_eq_f, vp_nI, tI, fI, not_true, not_false_iff, true_and, and_true, Classical.not_not, mS_uI, mS_uA, mS_uJ, mS_uR, mS_uX, mR_uI, mR_uA, mR_uJ, mR_uX, mX_uI, mX_uA, mX_uJ, mX_uR, mI_s, mI_n, mI_A, mI_An, mI_uJ, mI_uR, mI_uX, mJ_uI, mJ_uA, mJ_uR, mJ_uX, onR_s, kC_v, kC_n, kC_t, sh, ku, w_173, forall_const, false_implies, implies_true, and_self]
      exact hq μ1 hp hx
    · simp (disch := first | omega | rfl) only [e_193_120, e_193_121, e_193_122, e_193_123, e_193_124, e_193_127, e_193_128, e_193_130, e_193_133, e_193_134, e_193_135, e_193_138, e_193_139, e_193_142, e_193_143, e_193_146, e_193_149, e_193_152, e_193_153, e_193_156, e_193_157, e_193_159, e_193_162, e_193_165, e_193_166, e_193_359, ge1, ule_t, true_or, or_true, nI_add, nI_mul, nI_sub, nI_clamp, nI_lt_t, nI_lt_f, nI_le_t, nI_le_f, nI_eq_t, nI_eq_f, vp_nI, tI, fI, not_true, not_false_iff, true_and, and_true, Classical.not_not, mS_uI, mS_uA, mS_uJ, mS_uR, mS_uX, mR_uI, mR_uA, mR_uJ, mR_uX, mX_uI, mX_uA, mX_uJ, mX_uR, mI_s, mI_n, mI_A, mI_An, mI_uJ, mI_uR, mI_uX, mJ_uI, mJ_uA, mJ_uR, mJ_uX, onR_s, kC_v, kC_n, kC_t, sh, ku, w_173, forall_const, false_implies, implies_true, and_self]
      refine q_140 h0 (fun v μ1 hp hx => ?_)
      simp (disch := first | omega | rfl) only [e_193_162, e_193_165, e_193_166, e_193_359, ge1, ule_t, true_or, or_true, nI_add, nI_mul, nI_sub, nI_clamp, nI_lt_t, nI_lt_f, nI_le_t, nI_le_f, nI_eq_t, nI_eq_f, vp_nI, tI, fI, not_true, not_false_iff, true_and, and_true, Classical.not_not, mS_uI, mS_uA, mS_uJ, mS_uR, mS_uX, mR_uI, mR_uA, mR_uJ, mR_uX, mX_uI, mX_uA, mX_uJ, mX_uR, mI_s, mI_n, mI_A, mI_An, mI_uJ, mI_uR, mI_uX, mJ_uI, mJ_uA, mJ_uR, mJ_uX, onR_s, kC_v, kC_n, kC_t, sh, ku, w_173, forall_const, false_implies, implies_true, and_self]
      exact hq μ1 hp hx
  · rw [e_193_30_3]
    by_cases hs2 : sort < 2
    · simp (disch := first | omega | rfl) only [e_193_120, e_193_121, e_193_122, e_193_123, e_193_124, e_193_127, e_193_128, e_193_130, e_193_133, e_193_134, e_193_135, e_193_138, e_193_139, e_193_142, e_193_143, e_193_146, e_193_149, e_193_152, e_193_153, e_193_156, e_193_157, e_193_159, e_193_162, e_193_165, e_193_166, e_193_359, ge1, ule_t, true_or, or_true, nI_add, nI_mul, nI_sub, nI_clamp, nI_lt_t, nI_lt_f, nI_le_t, nI_le_f, nI_eq_t, nI_eq_f, vp_nI, tI, fI, not_true, not_false_iff, true_and, and_true, Classical.not_not, mS_uI, mS_uA, mS_uJ, mS_uR, mS_uX, mR_uI, mR_uA, mR_uJ, mR_uX, mX_uI, mX_uA, mX_uJ, mX_uR, mI_s, mI_n, mI_A, mI_An, mI_uJ, mI_uR, mI_uX, mJ_uI, mJ_uA, mJ_uR, mJ_uX, onR_s, kC_v, kC_n, kC_t, sh, ku, w_173, forall_const, false_implies, implies_true, and_self]
      refine q_140 h0 (fun v μ1 hp hx => ?_)
      simp (disch := first | omega | rfl) only [e_193_162, e_193_165, e_193_166, e_193_359, ge1, ule_t, true_or, or_true, nI_add, nI_mul, nI_sub, nI_clamp, nI_lt_t, nI_lt_f, nI_le_t, nI_le_f, nI_eq_t, nI_eq_f, vp_nI, tI, fI, not_true, not_false_iff, true_and, and_true, Classical.not_not, mS_uI, mS_uA, mS_uJ, mS_uR, mS_uX, mR_uI, mR_uA, mR_uJ, mR_uX, mX_uI, mX_uA, mX_uJ, mX_uR, mI_s, mI_n, mI_A, mI_An, mI_uJ, mI_uR, mI_uX, mJ_uI, mJ_uA, mJ_uR, mJ_uX, onR_s, kC_v, kC_n, kC_t, sh, ku, w_173, forall_const, false_implies, implies_true, and_self]
      exact hq μ1 hp hx
    · simp (disch := first | omega | rfl) only [e_193_120, e_193_121, e_193_122, e_193_123, e_193_124, e_193_127, e_193_128, e_193_130, e_193_133, e_193_134, e_193_135, e_193_138, e_193_139, e_193_142, e_193_143, e_193_146, e_193_149, e_193_152, e_193_153, e_193_156, e_193_157, e_193_159, e_193_162, e_193_165, e_193_166, e_193_359, ge1, ule_t, true_or, or_true, nI_add, nI_mul, nI_sub, nI_clamp, nI_lt_t, nI_lt_f, nI_le_t, nI_le_f, nI_eq_t, nI_eq_f, vp_nI, tI, fI, not_true, not_false_iff, true_and, and_true, Classical.not_not, mS_uI, mS_uA, mS_uJ, mS_uR, mS_uX, mR_uI, mR_uA, mR_uJ, mR_uX, mX_uI, mX_uA, mX_uJ, mX_uR, mI_s, mI_n, mI_A, mI_An, mI_uJ, mI_uR, mI_uX, mJ_uI, mJ_uA, mJ_uR, mJ_uX, onR_s, kC_v, kC_n, kC_t, sh, ku, w_173, forall_const, false_implies, implies_true, and_self]
      refine q_140 h0 (fun v μ1 hp hx => ?_)
      simp (disch := first | omega | rfl) only [e_193_162, e_193_165, e_193_166, e_193_359, ge1, ule_t, true_or, or_true, nI_add, nI_mul, nI_sub, nI_clamp, nI_lt_t, nI_lt_f, nI_le_t, nI_le_f, nI_eq_t, nI_eq_f, vp_nI, tI, fI, not_true, not_false_iff, true_and, and_true, Classical.not_not, mS_uI, mS_uA, mS_uJ, mS_uR, mS_uX, mR_uI, mR_uA, mR_uJ, mR_uX, mX_uI, mX_uA, mX_uJ, mX_uR, mI_s, mI_n, mI_A, mI_An, mI_uJ, mI_uR, mI_uX, mJ_uI, mJ_uA, mJ_uR, mJ_uX, onR_s, kC_v, kC_n, kC_t, sh, ku, w_173, forall_const, false_implies, implies_true, and_self]
      exact hq μ1 hp hx
  · rw [e_193_30_4]
    simp (disch := first | omega | rfl) only [e_193_169, e_193_170, e_193_173, e_193_174, e_193_359, ge1, ule_t, true_or, or_true, nI_add, nI_mul, nI_sub, nI_clamp, nI_lt_t, nI_lt_f, nI_le_t, nI_le_f, nI_eq_t, nI_eq_f, vp_nI, tI, fI, not_true, not_false_iff, true_and, and_true, Classical.not_not, mS_uI, mS_uA, mS_uJ, mS_uR, mS_uX, mR_uI, mR_uA, mR_uJ, mR_uX, mX_uI, mX_uA, mX_uJ, mX_uR, mI_s, mI_n, mI_A, mI_An, mI_uJ, mI_uR, mI_uX, mJ_uI, mJ_uA, mJ_uR, mJ_uX, onR_s, kC_v, kC_n, kC_t, sh, ku, w_173, forall_const, false_implies, implies_true, and_self]
    refine q_141 h0 (fun v μ1 hp hx => ?_)
    simp (disch := first | omega | rfl) only [e_193_169, e_193_170, e_193_173, e_193_174, e_193_359, ge1, ule_t, true_or, or_true, nI_add, nI_mul, nI_sub, nI_clamp, nI_lt_t, nI_lt_f, nI_le_t, nI_le_f, nI_eq_t, nI_eq_f, vp_nI, tI, fI, not_true, not_false_iff, true_and, and_true, Classical.not_not, mS_uI, mS_uA, mS_uJ, mS_uR, mS_uX, mR_uI, mR_uA, mR_uJ, mR_uX, mX_uI, mX_uA, mX_uJ, mX_uR, mI_s, mI_n, mI_A, mI_An, mI_uJ, mI_uR, mI_uX, mJ_uI, mJ_uA, mJ_uR, mJ_uX, onR_s, kC_v, kC_n, kC_t, sh, ku, w_173, forall_const, false_implies, implies_true, and_self]
    exact hq μ1 hp hx
  · rw [e_193_30_5]
    simp (disch := first | omega | rfl) only [e_193_169, e_193_170, e_193_173, e_193_174, e_193_359, ge1, ule_t, true_or, or_true, nI_add, nI_mul, nI_sub, nI_clamp, nI_lt_t, nI_lt_f, nI_le_t, nI_le_f, nI_eq_t, nI_eq_f, vp_nI, tI, fI, not_true, not_false_iff, true_and, and_true, Classical.not_not, mS_uI, mS_uA, mS_uJ, mS_uR, mS_uX, mR_uI, mR_uA, mR_uJ, mR_uX, mX_uI, mX_uA, mX_uJ, mX_uR, mI_s, mI_n, mI_A, mI_An, mI_uJ, mI_uR, mI_uX, mJ_uI, mJ_uA, mJ_uR, mJ_uX, onR_s, kC_v, kC_n, kC_t, sh, ku, w_173, forall_const, false_implies, implies_true, and_self]
    refine q_141 h0 (fun v μ1 hp hx => ?_)
    simp (disch := first | omega | rfl) only [e_193_169, e_193_170, e_193_173, e_193_174, e_193_359, ge1, ule_t, true_or, or_true, nI_add, nI_mul, nI_sub, nI_clamp, nI_lt_t, nI_lt_f, nI_le_t, nI_le_f, nI_eq_t, nI_eq_f, vp_nI, tI, fI, not_true, not_false_iff, true_and, and_true, Classical.not_not, mS_uI, mS_uA, mS_uJ, mS_uR, mS_uX, mR_uI, mR_uA, mR_uJ, mR_uX, mX_uI, mX_uA, mX_uJ, mX_uR, mI_s, mI_n, mI_A, mI_An, mI_uJ, mI_uR, mI_uX, mJ_uI, mJ_uA, mJ_uR, mJ_uX, onR_s, kC_v, kC_n, kC_t, sh, ku, w_173, forall_const, false_implies, implies_true, and_self]
    exact hq μ1 hp hx
  · rw [e_193_30_6]
    simp (disch := first | omega | rfl) only [e_193_169, e_193_170, e_193_173, e_193_174, e_193_359, ge1, ule_t, true_or, or_true, nI_add, nI_mul, nI_sub, nI_clamp, nI_lt_t, nI_lt_f, nI_le_t, nI_le_f, nI_eq_t, nI_eq_f, vp_nI, tI, fI, not_true, not_false_iff, true_and, and_true, Classical.not_not, mS_uI, mS_uA, mS_uJ, mS_uR, mS_uX, mR_uI, mR_uA, mR_uJ, mR_uX, mX_uI, mX_uA, mX_uJ, mX_uR, mI_s, mI_n, mI_A, mI_An, mI_uJ, mI_uR, mI_uX, mJ_uI, mJ_uA, mJ_uR, mJ_uX, onR_s, kC_v, kC_n, kC_t, sh, ku, w_173, forall_const, false_implies, implies_true, and_self]
    refine q_141 h0 (fun v μ1 hp hx => ?_)
    simp (disch := first | omega | rfl) only [e_193_169, e_193_170, e_193_173, e_193_174, e_193_359, ge1, ule_t, true_or, or_true, nI_add, nI_mul, nI_sub, nI_clamp, nI_lt_t, nI_lt_f, nI_le_t, nI_le_f, nI_eq_t, nI_eq_f, vp_nI, tI, fI, not_true, not_false_iff, true_and, and_true, Classical.not_not, mS_uI, mS_uA, mS_uJ, mS_uR, mS_uX, mR_uI, mR_uA, mR_uJ, mR_uX, mX_uI, mX_uA, mX_uJ, mX_uR, mI_s, mI_n, mI_A, mI_An, mI_uJ, mI_uR, mI_uX, mJ_uI, mJ_uA, mJ_uR, mJ_uX, onR_s, kC_v, kC_n, kC_t, sh, ku, w_173, forall_const, false_implies, implies_true, and_self]
    exact hq μ1 hp hx
  · rw [e_193_30_7]
    simp (disch := first | omega | rfl) only [e_193_177, e_193_178, e_193_179, e_193_180, e_193_181, e_193_184, e_193_185, e_193_186, e_193_189, e_193_190, e_193_193, e_193_194, e_193_359, ge1, ule_t, true_or, or_true, nI_add, nI_mul, nI_sub, nI_clamp, nI_lt_t, nI_lt_f, nI_le_t, nI_le_f, nI_eq_t, nI_eq_f, vp_nI, tI, fI, not_true, not_false_iff, true_and, and_true, Classical.not_not, mS_uI, mS_uA, mS_uJ, mS_uR, mS_uX, mR_uI, mR_uA, mR_uJ, mR_uX, mX_uI, mX_uA, mX_uJ, mX_uR, mI_s, mI_n, mI_A, mI_An, mI_uJ, mI_uR, mI_uX, mJ_uI, mJ_uA, mJ_uR, mJ_uX, onR_s, kC_v, kC_n, kC_t, sh, ku, w_173, forall_const, false_implies, implies_true, and_self]
    refine ⟨show 0 + 1 ≤ 10 ∧ 0 + 6 ≤ 100 by omega, q_142 h0 (fun v μ1 hp hx => ?_)⟩
    simp (disch := first | omega | rfl) only [e_193_177, e_193_178, e_193_179, e_193_180, e_193_181, e_193_184, e_193_185, e_193_186, e_193_189, e_193_190, e_193_193, e_193_194, e_193_359, ge1, ule_t, true_or, or_true, nI_add, nI_mul, nI_sub, nI_clamp, nI_lt_t, nI_lt_f, nI_le_t, nI_le_f, nI_eq_t, nI_eq_f, vp_nI, tI, fI, not_true, not_false_iff, true_and, and_true, Classical.not_not, mS_uI, mS_uA, mS_uJ, mS_uR, mS_uX, mR_uI, mR_uA, mR_uJ, mR_uX, mX_uI, mX_uA, mX_uJ, mX_uR, mI_s, mI_n, mI_A, mI_An, mI_uJ, mI_uR, mI_uX, mJ_uI, mJ_uA, mJ_uR, mJ_uX, onR_s, kC_v, kC_n, kC_t, sh, ku, w_173, forall_const, false_implies, implies_true, and_self, cgE hx]
    exact hq μ1 hp hx
  · rw [e_193_30_8]
    simp (disch := first | omega | rfl) only [e_193_177, e_193_178, e_193_179, e_193_180, e_193_181, e_193_184, e_193_185, e_193_186, e_193_189, e_193_190, e_193_193, e_193_194, e_193_359, ge1, ule_t, true_or, or_true, nI_add, nI_mul, nI_sub, nI_clamp, nI_lt_t, nI_lt_f, nI_le_t, nI_le_f, nI_eq_t, nI_eq_f, vp_nI, tI, fI, not_true, not_false_iff, true_and, and_true, Classical.not_not, mS_uI, mS_uA, mS_uJ, mS_uR, mS_uX, mR_uI, mR_uA, mR_uJ, mR_uX, mX_uI, mX_uA, mX_uJ, mX_uR, mI_s, mI_n, mI_A, mI_An, mI_uJ, mI_uR, mI_uX, mJ_uI, mJ_uA, mJ_uR, mJ_uX, onR_s, kC_v, kC_n, kC_t, sh, ku, w_173, forall_const, false_implies, implies_true, and_self]
    refine ⟨show 0 + 1 ≤ 10 ∧ 0 + 6 ≤ 100 by omega, q_142 h0 (fun v μ1 hp hx => ?_)⟩
    simp (disch := first | omega | rfl) only [e_193_177, e_193_178, e_193_179, e_193_180, e_193_181, e_193_184, e_193_185, e_193_186, e_193_189, e_193_190, e_193_193, e_193_194, e_193_359, ge1, ule_t, true_or, or_true, nI_add, nI_mul, nI_sub, nI_clamp, nI_lt_t, nI_lt_f, nI_le_t, nI_le_f, nI_eq_t, nI_eq_f, vp_nI, tI, fI, not_true, not_false_iff, true_and, and_true, Classical.not_not, mS_uI, mS_uA, mS_uJ, mS_uR, mS_uX, mR_uI, mR_uA, mR_uJ, mR_uX, mX_uI, mX_uA, mX_uJ, mX_uR, mI_s, mI_n, mI_A, mI_An, mI_uJ, mI_uR, mI_uX, mJ_uI, mJ_uA, mJ_uR, mJ_uX, onR_s, kC_v, kC_n, kC_t, sh, ku, w_173, forall_const, false_implies, implies_true, and_self, cgE hx]
    exact hq μ1 hp hx
  · rw [e_193_30_9]
    simp (disch := first | omega | rfl) only [e_193_197, e_193_198, e_193_201, e_193_202, e_193_359, ge1, ule_t, true_or, or_true, nI_add, nI_mul, nI_sub, nI_clamp, nI_lt_t, nI_lt_f, nI_le_t, nI_le_f, nI_eq_t, nI_eq_f, vp_nI, tI, fI, not_true, not_false_iff, true_and, and_true, Classical.not_not, mS_uI, mS_uA, mS_uJ, mS_uR, mS_uX, mR_uI, mR_uA, mR_uJ, mR_uX, mX_uI, mX_uA, mX_uJ, mX_uR, mI_s, mI_n, mI_A, mI_An, mI_uJ, mI_uR, mI_uX, mJ_uI, mJ_uA, mJ_uR, mJ_uX, onR_s, kC_v, kC_n, kC_t, sh, ku, w_173, forall_const, false_implies, implies_true, and_self]
    refine q_143 h0 (fun v μ1 hp hx => ?_)
    simp (disch := first | omega | rfl) only [e_193_197, e_193_198, e_193_201, e_193_202, e_193_359, ge1, ule_t, true_or, or_true, nI_add, nI_mul, nI_sub, nI_clamp, nI_lt_t, nI_lt_f, nI_le_t, nI_le_f, nI_eq_t, nI_eq_f, vp_nI, tI, fI, not_true, not_false_iff, true_and, and_true, Classical.not_not, mS_uI, mS_uA, mS_uJ, mS_uR, mS_uX, mR_uI, mR_uA, mR_uJ, mR_uX, mX_uI, mX_uA, mX_uJ, mX_uR, mI_s, mI_n, mI_A, mI_An, mI_uJ, mI_uR, mI_uX, mJ_uI, mJ_uA, mJ_uR, mJ_uX, onR_s, kC_v, kC_n, kC_t, sh, ku, w_173, forall_const, false_implies, implies_true, and_self]
    exact hq μ1 hp hx
  · rw [e_193_30_10]
    simp (disch := first | omega | rfl) only [e_193_197, e_193_198, e_193_201, e_193_202, e_193_359, ge1, ule_t, true_or, or_true, nI_add, nI_mul, nI_sub, nI_clamp, nI_lt_t, nI_lt_f, nI_le_t, nI_le_f, nI_eq_t, nI_eq_f, vp_nI, tI, fI, not_true, not_false_iff, true_and, and_true, Classical.not_not, mS_uI, mS_uA, mS_uJ, mS_uR, mS_uX, mR_uI, mR_uA, mR_uJ, mR_uX, mX_uI, mX_uA, mX_uJ, mX_uR, mI_s, mI_n, mI_A, mI_An, mI_uJ, mI_uR, mI_uX, mJ_uI, mJ_uA, mJ_uR, mJ_uX, onR_s, kC_v, kC_n, kC_t, sh, ku, w_173, forall_const, false_implies, implies_true, and_self]
    refine q_143 h0 (fun v μ1 hp hx => ?_)
    simp (disch := first | omega | rfl) only [e_193_197, e_193_198, e_193_201, e_193_202, e_193_359, ge1, ule_t, true_or, or_true, nI_add, nI_mul, nI_sub, nI_clamp, nI_lt_t, nI_lt_f, nI_le_t, nI_le_f, nI_eq_t, nI_eq_f, vp_nI, tI, fI, not_true, not_false_iff, true_and, and_true, Classical.not_not, mS_uI, mS_uA, mS_uJ, mS_uR, mS_uX, mR_uI, mR_uA, mR_uJ, mR_uX, mX_uI, mX_uA, mX_uJ, mX_uR, mI_s, mI_n, mI_A, mI_An, mI_uJ, mI_uR, mI_uX, mJ_uI, mJ_uA, mJ_uR, mJ_uX, onR_s, kC_v, kC_n, kC_t, sh, ku, w_173, forall_const, false_implies, implies_true, and_self]
    exact hq μ1 hp hx
  · rw [e_193_30_11]
    simp (disch := first | omega | rfl) only [e_193_197, e_193_198, e_193_201, e_193_202, e_193_359, ge1, ule_t, true_or, or_true, nI_add, nI_mul, nI_sub, nI_clamp, nI_lt_t, nI_lt_f, nI_le_t, nI_le_f, nI_eq_t, nI_eq_f, vp_nI, tI, fI, not_true, not_false_iff, true_and, and_true, Classical.not_not, mS_uI, mS_uA, mS_uJ, mS_uR, mS_uX, mR_uI, mR_uA, mR_uJ, mR_uX, mX_uI, mX_uA, mX_uJ, mX_uR, mI_s, mI_n, mI_A, mI_An, mI_uJ, mI_uR, mI_uX, mJ_uI, mJ_uA, mJ_uR, mJ_uX, onR_s, kC_v, kC_n, kC_t, sh, ku, w_173, forall_const, false_implies, implies_true, and_self]
    refine q_143 h0 (fun v μ1 hp hx => ?_)
    simp (disch := first | omega | rfl) only [e_193_197, e_193_198, e_193_201, e_193_202, e_193_359, ge1, ule_t, true_or, or_true, nI_add, nI_mul, nI_sub, nI_clamp, nI_lt_t, nI_lt_f, nI_le_t, nI_le_f, nI_eq_t, nI_eq_f, vp_nI, tI, fI, not_true, not_false_iff, true_and, and_true, Classical.not_not, mS_uI, mS_uA, mS_uJ, mS_uR, mS_uX, mR_uI, mR_uA, mR_uJ, mR_uX, mX_uI, mX_uA, mX_uJ, mX_uR, mI_s, mI_n, mI_A, mI_An, mI_uJ, mI_uR, mI_uX, mJ_uI, mJ_uA, mJ_uR, mJ_uX, onR_s, kC_v, kC_n, kC_t, sh, ku, w_173, forall_const, false_implies, implies_true, and_self]
    exact hq μ1 hp hx
  · rw [e_193_30_12]
    simp (disch := first | omega | rfl) only [e_193_205, e_193_206, e_193_207, e_193_208, e_193_211, e_193_212, e_193_214, e_193_217, e_193_218, e_193_221, e_193_222, e_193_224, e_193_227, e_193_228, e_193_229, e_193_231, e_193_232, e_193_234, e_193_237, e_193_238, e_193_241, e_193_242, e_193_359, ge1, ule_t, true_or, or_true, nI_add, nI_mul, nI_sub, nI_clamp, nI_lt_t, nI_lt_f, nI_le_t, nI_le_f, nI_eq_t, nI_eq_f, vp_nI, tI, fI, not_true, not_false_iff, true_and, and_true, Classical.not_not, mS_uI, mS_uA, mS_uJ, mS_uR, mS_uX, mR_uI, mR_uA, mR_uJ, mR_uX, mX_uI, mX_uA, mX_uJ, mX_uR, mI_s, mI_n, mI_A, mI_An, mI_uJ, mI_uR, mI_uX, mJ_uI, mJ_uA, mJ_uR, mJ_uX, onR_s, kC_v, kC_n, kC_t, sh, ku, w_173, forall_const, false_implies, implies_true, and_self]
    refine q_145 h0 (fun v μ1 hp hx => ?_)
    simp (disch := first | omega | rfl) only [e_193_205, e_193_206, e_193_207, e_193_208, e_193_211, e_193_212, e_193_214, e_193_217, e_193_218, e_193_221, e_193_222, e_193_224, e_193_227, e_193_228, e_193_229, e_193_231, e_193_232, e_193_234, e_193_237, e_193_238, e_193_241, e_193_242, e_193_359, ge1, ule_t, true_or, or_true, nI_add, nI_mul, nI_sub, nI_clamp, nI_lt_t, nI_lt_f, nI_le_t, nI_le_f, nI_eq_t, nI_eq_f, vp_nI, tI, fI, not_true, not_false_iff, true_and, and_true, Classical.not_not, mS_uI, mS_uA, mS_uJ, mS_uR, mS_uX, mR_uI, mR_uA, mR_uJ, mR_uX, mX_uI, mX_uA, mX_uJ, mX_uR, mI_s, mI_n, mI_A, mI_An, mI_uJ, mI_uR, mI_uX, mJ_uI, mJ_uA, mJ_uR, mJ_uX, onR_s, kC_v, kC_n, kC_t, sh, ku, w_173, forall_const, false_implies, implies_true, and_self]
    exact hq μ1 hp hx
  · rw [e_193_30_13]
    simp (disch := first | omega | rfl) only [e_193_205, e_193_206, e_193_207, e_193_208, e_193_211, e_193_212, e_193_214, e_193_217, e_193_218, e_193_221, e_193_222, e_193_224, e_193_227, e_193_228, e_193_229, e_193_231, e_193_232, e_193_234, e_193_237, e_193_238, e_193_241, e_193_242, e_193_359, ge1, ule_t, true_or, or_true, nI_add, nI_mul, nI_sub, nI_clamp, nI_lt_t, nI_lt_f, nI_le_t, nI_le_f, nI_eq_t, nI_eq_f, vp_nI, tI, fI, not_true, not_false_iff, true_and, and_true, Classical.not_not, mS_uI, mS_uA, mS_uJ, mS_uR, mS_uX, mR_uI, mR_uA, mR_uJ, mR_uX, mX_uI, mX_uA, mX_uJ, mX_uR, mI_s, mI_n, mI_A, mI_An, mI_uJ, mI_uR, mI_uX, mJ_uI, mJ_uA, mJ_uR, mJ_uX, onR_s, kC_v, kC_n, kC_t, sh, ku, w_173, forall_const, false_implies, implies_true, and_self]
    refine q_145 h0 (fun v μ1 hp hx => ?_)
    simp (disch := first | omega | rfl) only [e_193_205, e_193_206, e_193_207, e_193_208, e_193_211, e_193_212, e_193_214, e_193_217, e_193_218, e_193_221, e_193_222, e_193_224, e_193_227, e_193_228, e_193_229, e_193_231, e_193_232, e_193_234, e_193_237, e_193_238, e_193_241, e_193_242, e_193_359, ge1, ule_t, true_or, or_true, nI_add, nI_mul, nI_sub, nI_clamp, nI_lt_t, nI_lt_f, nI_le_t, nI_le_f, nI_eq_t, nI_eq_f, vp_nI, tI, fI, not_true, not_false_iff, true_and, and_true, Classical.not_not, mS_uI, mS_uA, mS_uJ, mS_uR, mS_uX, mR_uI, mR_uA, mR_uJ, mR_uX, mX_uI, mX_uA, mX_uJ, mX_uR, mI_s, mI_n, mI_A, mI_An, mI_uJ, mI_uR, mI_uX, mJ_uI, mJ_uA, mJ_uR, mJ_uX, onR_s, kC_v, kC_n, kC_t, sh, ku, w_173, forall_const, false_implies, implies_true, and_self]
    exact hq μ1 hp hx
  · rw [e_193_30_14]
    simp (disch := first | omega | rfl) only [e_193_205, e_193_206, e_193_207, e_193_208, e_193_211, e_193_212, e_193_214, e_193_217, e_193_218, e_193_221, e_193_222, e_193_224, e_193_227, e_193_228, e_193_229, e_193_231, e_193_232, e_193_234, e_193_237, e_193_238, e_193_241, e_193_242, e_193_359, ge1, ule_t, true_or, or_true, nI_add, nI_mul, nI_sub, nI_clamp, nI_lt_t, nI_lt_f, nI_le_t, nI_le_f, nI_eq_t, nI_eq_f, vp_nI, tI, fI, not_true, not_false_iff, true_and, and_true, Classical.not_not, mS_uI, mS_uA, mS_uJ, mS_uR, mS_uX, mR_uI, mR_uA, mR_uJ, mR_uX, mX_uI, mX_uA, mX_uJ, mX_uR, mI_s, mI_n, mI_A, mI_An, mI_uJ, mI_uR, mI_uX, mJ_uI, mJ_uA, mJ_uR, mJ_uX, onR_s, kC_v, kC_n, kC_t, sh, ku, w_173, forall_const, false_implies, implies_true, and_self]
    refine q_145 h0 (fun v μ1 hp hx => ?_)
    simp (disch := first | omega | rfl) only [e_193_205, e_193_206, e_193_207, e_193_208, e_193_211, e_193_212, e_193_214, e_193_217, e_193_218, e_193_221, e_193_222, e_193_224, e_193_227, e_193_228, e_193_229, e_193_231, e_193_232, e_193_234, e_193_237, e_193_238, e_193_241, e_193_242, e_193_359, ge1, ule_t, true_or, or_true, nI_add, nI_mul, nI_sub, nI_clamp, nI_lt_t, nI_lt_f, nI_le_t, nI_le_f, nI_eq_t, nI_eq_f, vp_nI, tI, fI, not_true, not_false_iff, true_and, and_true, Classical.not_not, mS_uI, mS_uA, mS_uJ, mS_uR, mS_uX, mR_uI, mR_uA, mR_uJ, mR_uX, mX_uI, mX_uA, mX_uJ, mX_uR, mI_s, mI_n, mI_A, mI_An, mI_uJ, mI_uR, mI_uX, mJ_uI, mJ_uA, mJ_uR, mJ_uX, onR_s, kC_v, kC_n, kC_t, sh, ku, w_173, forall_const, false_implies, implies_true, and_self]
    exact hq μ1 hp hx
  · rw [e_193_30_15]
    simp (disch := first | omega | rfl) only [e_193_245, e_193_246, e_193_247, e_193_250, e_193_251, e_193_359, ge1, ule_t, true_or, or_true, nI_add, nI_mul, nI_sub, nI_clamp, nI_lt_t, nI_lt_f, nI_le_t, nI_le_f, nI_eq_t, nI_eq_f, vp_nI, tI, fI, not_true, not_false_iff, true_and, and_true, Classical.not_not, mS_uI, mS_uA, mS_uJ, mS_uR, mS_uX, mR_uI, mR_uA, mR_uJ, mR_uX, mX_uI, mX_uA, mX_uJ, mX_uR, mI_s, mI_n, mI_A, mI_An, mI_uJ, mI_uR, mI_uX, mJ_uI, mJ_uA, mJ_uR, mJ_uX, onR_s, kC_v, kC_n, kC_t, sh, ku, w_173, forall_const, false_implies, implies_true, and_self]
    refine ⟨show 0 + 1 ≤ 10 ∧ 0 + 6 ≤ 100 by omega, q_123 h0 (fun v μ1 hp hx => ?_)⟩
    simp (disch := first | omega | rfl) only [e_193_245, e_193_246, e_193_247, e_193_250, e_193_251, e_193_359, ge1, ule_t, true_or, or_true, nI_add, nI_mul, nI_sub, nI_clamp, nI_lt_t, nI_lt_f, nI_le_t, nI_le_f, nI_eq_t, nI_eq_f, vp_nI, tI, fI, not_true, not_false_iff, true_and, and_true, Classical.not_not, mS_uI, mS_uA, mS_uJ, mS_uR, mS_uX, mR_uI, mR_uA, mR_uJ, mR_uX, mX_uI, mX_uA, mX_uJ, mX_uR, mI_s, mI_n, mI_A, mI_An, mI_uJ, mI_uR, mI_uX, mJ_uI, mJ_uA, mJ_uR, mJ_uX, onR_s, kC_v, kC_n, kC_t, sh, ku, w_173, forall_const, false_implies, implies_true, and_self, cgE hx]
    exact hq μ1 hp hx
  · rw [e_193_30_16]
    simp (disch := first | omega | rfl) only [e_193_254, e_193_255, e_193_258, e_193_259, e_193_359, ge1, ule_t, true_or, or_true, nI_add, nI_mul, nI_sub, nI_clamp, nI_lt_t, nI_lt_f, nI_le_t, nI_le_f, nI_eq_t, nI_eq_f, vp_nI, tI, fI, not_true, not_false_iff, true_and, and_true, Classical.not_not, mS_uI, mS_uA, mS_uJ, mS_uR, mS_uX, mR_uI, mR_uA, mR_uJ, mR_uX, mX_uI, mX_uA, mX_uJ, mX_uR, mI_s, mI_n, mI_A, mI_An, mI_uJ, mI_uR, mI_uX, mJ_uI, mJ_uA, mJ_uR, mJ_uX, onR_s, kC_v, kC_n, kC_t, sh, ku, w_173, forall_const, false_implies, implies_true, and_self]
    refine ⟨show 0 + 6 ≤ 10 ∧ 0 + 36 ≤ 100 by omega, q_124 h0 (fun v μ1 hp hx => ?_)⟩
    simp (disch := first | omega | rfl) only [e_193_254, e_193_255, e_193_258, e_193_259, e_193_359, ge1, ule_t, true_or, or_true, nI_add, nI_mul, nI_sub, nI_clamp, nI_lt_t, nI_lt_f, nI_le_t, nI_le_f, nI_eq_t, nI_eq_f, vp_nI, tI, fI, not_true, not_false_iff, true_and, and_true, Classical.not_not, mS_uI, mS_uA, mS_uJ, mS_uR, mS_uX, mR_uI, mR_uA, mR_uJ, mR_uX, mX_uI, mX_uA, mX_uJ, mX_uR, mI_s, mI_n, mI_A, mI_An, mI_uJ, mI_uR, mI_uX, mJ_uI, mJ_uA, mJ_uR, mJ_uX, onR_s, kC_v, kC_n, kC_t, sh, ku, w_173, forall_const, false_implies, implies_true, and_self, cgE hx]
    exact hq μ1 hp hx
  · rw [e_193_30_17]
    by_cases hz : ofM (x / nI 16) 2 = 0
    · simp (disch := first | omega | rfl) only [e_193_262, e_193_263, e_193_265, e_193_266, e_193_267, e_193_270, e_193_273, e_193_274, e_193_275, e_193_276, e_193_278, e_193_279, e_193_280, e_193_283, e_193_284, e_193_287, e_193_288, e_193_359, ge1, ule_t, true_or, or_true, nI_add, nI_mul, nI_sub, nI_clamp, nI_lt_t, nI_lt_f, nI_le_t, nI_le_f, nI_eq_t, nI_eq_f, vp_nI, tI, fI, not_true, not_false_iff, true_and, and_true, Classical.not_not, mS_uI, mS_uA, mS_uJ, mS_uR, mS_uX, mR_uI, mR_uA, mR_uJ, mR_uX, mX_uI, mX_uA, mX_uJ, mX_uR, mI_s, mI_n, mI_A, mI_An, mI_uJ, mI_uR, mI_uX, mJ_uI, mJ_uA, mJ_uR, mJ_uX, onR_s, kC_v, kC_n, kC_t, sh, ku, w_173, forall_const, false_implies, implies_true, and_self, hz]
      refine q_127 h0 (fun v μ1 hp hx => ?_)
      simp (disch := first | omega | rfl) only [e_193_262, e_193_263, e_193_265, e_193_266, e_193_267, e_193_270, e_193_273, e_193_274, e_193_275, e_193_276, e_193_278, e_193_279, e_193_280, e_193_283, e_193_284, e_193_287, e_193_288, e_193_359, ge1, ule_t, true_or, or_true, nI_add, nI_mul, nI_sub, nI_clamp, nI_lt_t, nI_lt_f, nI_le_t, nI_le_f, nI_eq_t, nI_eq_f, vp_nI, tI, fI, not_true, not_false_iff, true_and, and_true, Classical.not_not, mS_uI, mS_uA, mS_uJ, mS_uR, mS_uX, mR_uI, mR_uA, mR_uJ, mR_uX, mX_uI, mX_uA, mX_uJ, mX_uR, mI_s, mI_n, mI_A, mI_An, mI_uJ, mI_uR, mI_uX, mJ_uI, mJ_uA, mJ_uR, mJ_uX, onR_s, kC_v, kC_n, kC_t, sh, ku, w_173, forall_const, false_implies, implies_true, and_self]
      exact hq μ1 hp hx
    · have hz2 := ofM_lt (x := x / nI 16) (n := 2) (by omega)
      simp (disch := first | omega | rfl) only [e_193_262, e_193_263, e_193_265, e_193_266, e_193_267, e_193_270, e_193_273, e_193_274, e_193_275, e_193_276, e_193_278, e_193_279, e_193_280, e_193_283, e_193_284, e_193_287, e_193_288, e_193_359, ge1, ule_t, true_or, or_true, nI_add, nI_mul, nI_sub, nI_clamp, nI_lt_t, nI_lt_f, nI_le_t, nI_le_f, nI_eq_t, nI_eq_f, vp_nI, tI, fI, not_true, not_false_iff, true_and, and_true, Classical.not_not, mS_uI, mS_uA, mS_uJ, mS_uR, mS_uX, mR_uI, mR_uA, mR_uJ, mR_uX, mX_uI, mX_uA, mX_uJ, mX_uR, mI_s, mI_n, mI_A, mI_An, mI_uJ, mI_uR, mI_uX, mJ_uI, mJ_uA, mJ_uR, mJ_uX, onR_s, kC_v, kC_n, kC_t, sh, ku, w_173, forall_const, false_implies, implies_true, and_self]
      exact hq μ h0 rfl
  · rw [e_193_30_18]
    by_cases hz : ofM (x / nI 128) 4 = 0
    · simp (disch := first | omega | rfl) only [e_193_291, e_193_292, e_193_295, e_193_296, e_193_297, e_193_300, e_193_303, e_193_304, e_193_305, e_193_308, e_193_309, e_193_359, ge1, ule_t, true_or, or_true, nI_add, nI_mul, nI_sub, nI_clamp, nI_lt_t, nI_lt_f, nI_le_t, nI_le_f, nI_eq_t, nI_eq_f, vp_nI, tI, fI, not_true, not_false_iff, true_and, and_true, Classical.not_not, mS_uI, mS_uA, mS_uJ, mS_uR, mS_uX, mR_uI, mR_uA, mR_uJ, mR_uX, mX_uI, mX_uA, mX_uJ, mX_uR, mI_s, mI_n, mI_A, mI_An, mI_uJ, mI_uR, mI_uX, mJ_uI, mJ_uA, mJ_uR, mJ_uX, onR_s, kC_v, kC_n, kC_t, sh, ku, w_173, forall_const, false_implies, implies_true, and_self, hz]
      refine q_128 h0 (fun v μ1 hp hx => ?_)
      simp (disch := first | omega | rfl) only [e_193_291, e_193_292, e_193_295, e_193_296, e_193_297, e_193_300, e_193_303, e_193_304, e_193_305, e_193_308, e_193_309, e_193_359, ge1, ule_t, true_or, or_true, nI_add, nI_mul, nI_sub, nI_clamp, nI_lt_t, nI_lt_f, nI_le_t, nI_le_f, nI_eq_t, nI_eq_f, vp_nI, tI, fI, not_true, not_false_iff, true_and, and_true, Classical.not_not, mS_uI, mS_uA, mS_uJ, mS_uR, mS_uX, mR_uI, mR_uA, mR_uJ, mR_uX, mX_uI, mX_uA, mX_uJ, mX_uR, mI_s, mI_n, mI_A, mI_An, mI_uJ, mI_uR, mI_uX, mJ_uI, mJ_uA, mJ_uR, mJ_uX, onR_s, kC_v, kC_n, kC_t, sh, ku, w_173, forall_const, false_implies, implies_true, and_self]
      exact hq μ1 hp hx
    · have hz2 := ofM_lt (x := x / nI 128) (n := 4) (by omega)
      simp (disch := first | omega | rfl) only [e_193_291, e_193_292, e_193_295, e_193_296, e_193_297, e_193_300, e_193_303, e_193_304, e_193_305, e_193_308, e_193_309, e_193_359, ge1, ule_t, true_or, or_true, nI_add, nI_mul, nI_sub, nI_clamp, nI_lt_t, nI_lt_f, nI_le_t, nI_le_f, nI_eq_t, nI_eq_f, vp_nI, tI, fI, not_true, not_false_iff, true_and, and_true, Classical.not_not, mS_uI, mS_uA, mS_uJ, mS_uR, mS_uX, mR_uI, mR_uA, mR_uJ, mR_uX, mX_uI, mX_uA, mX_uJ, mX_uR, mI_s, mI_n, mI_A, mI_An, mI_uJ, mI_uR, mI_uX, mJ_uI, mJ_uA, mJ_uR, mJ_uX, onR_s, kC_v, kC_n, kC_t, sh, ku, w_173, forall_const, false_implies, implies_true, and_self]
      exact hq μ h0 rfl
  · rw [e_193_30_d (x := nI 19) (Or.inr (by decide))]
    by_cases hz : ofM (x / nI 16) 2 = 0
    · simp (disch := first | omega | rfl) only [e_193_312, e_193_313, e_193_315, e_193_316, e_193_317, e_193_320, e_193_323, e_193_324, e_193_325, e_193_326, e_193_327, e_193_329, e_193_330, e_193_332, e_193_335, e_193_336, e_193_339, e_193_340, e_193_343, e_193_344, e_193_345, e_193_346, e_193_347, e_193_349, e_193_350, e_193_351, e_193_354, e_193_355, e_193_358, e_193_359, ge1, ule_t, true_or, or_true, nI_add, nI_mul, nI_sub, nI_clamp, nI_lt_t, nI_lt_f, nI_le_t, nI_le_f, nI_eq_t, nI_eq_f, vp_nI, tI, fI, not_true, not_false_iff, true_and, and_true, Classical.not_not, mS_uI, mS_uA, mS_uJ, mS_uR, mS_uX, mR_uI, mR_uA, mR_uJ, mR_uX, mX_uI, mX_uA, mX_uJ, mX_uR, mI_s, mI_n, mI_A, mI_An, mI_uJ, mI_uR, mI_uX, mJ_uI, mJ_uA, mJ_uR, mJ_uX, onR_s, kC_v, kC_n, kC_t, sh, ku, w_173, forall_const, false_implies, implies_true, and_self, hz]
      refine q_146 h0 (fun v μ1 hp hx => ?_)
      simp (disch := first | omega | rfl) only [e_193_312, e_193_313, e_193_315, e_193_316, e_193_317, e_193_320, e_193_323, e_193_324, e_193_325, e_193_326, e_193_327, e_193_329, e_193_330, e_193_332, e_193_335, e_193_336, e_193_339, e_193_340, e_193_343, e_193_344, e_193_345, e_193_346, e_193_347, e_193_349, e_193_350, e_193_351, e_193_354, e_193_355, e_193_358, e_193_359, ge1, ule_t, true_or, or_true, nI_add, nI_mul, nI_sub, nI_clamp, nI_lt_t, nI_lt_f, nI_le_t, nI_le_f, nI_eq_t, nI_eq_f, vp_nI, tI, fI, not_true, not_false_iff, true_and, and_true, Classical.not_not, mS_uI, mS_uA, mS_uJ, mS_uR, mS_uX, mR_uI, mR_uA, mR_uJ, mR_uX, mX_uI, mX_uA, mX_uJ, mX_uR, mI_s, mI_n, mI_A, mI_An, mI_uJ, mI_uR, mI_uX, mJ_uI, mJ_uA, mJ_uR, mJ_uX, onR_s, kC_v, kC_n, kC_t, sh, ku, w_173, forall_const, false_implies, implies_true, and_self]
      exact hq μ1 hp hx
    · have hz2 := ofM_lt (x := x / nI 16) (n := 2) (by omega)
      simp (disch := first | omega | rfl) only [e_193_312, e_193_313, e_193_315, e_193_316, e_193_317, e_193_320, e_193_323, e_193_324, e_193_325, e_193_326, e_193_327, e_193_329, e_193_330, e_193_332, e_193_335, e_193_336, e_193_339, e_193_340, e_193_343, e_193_344, e_193_345, e_193_346, e_193_347, e_193_349, e_193_350, e_193_351, e_193_354, e_193_355, e_193_358, e_193_359, ge1, ule_t, true_or, or_true, nI_add, nI_mul, nI_sub, nI_clamp, nI_lt_t, nI_lt_f, nI_le_t, nI_le_f, nI_eq_t, nI_eq_f, vp_nI, tI, fI, not_true, not_false_iff, true_and, and_true, Classical.not_not, mS_uI, mS_uA, mS_uJ, mS_uR, mS_uX, mR_uI, mR_uA, mR_uJ, mR_uX, mX_uI, mX_uA, mX_uJ, mX_uR, mI_s, mI_n, mI_A, mI_An, mI_uJ, mI_uR, mI_uX, mJ_uI, mJ_uA, mJ_uR, mJ_uX, onR_s, kC_v, kC_n, kC_t, sh, ku, w_173, forall_const, false_implies, implies_true, and_self]
      refine q_146 h0 (fun v μ1 hp hx => ?_)
      simp (disch := first | omega | rfl) only [e_193_312, e_193_313, e_193_315, e_193_316, e_193_317, e_193_320, e_193_323, e_193_324, e_193_325, e_193_326, e_193_327, e_193_329, e_193_330, e_193_332, e_193_335, e_193_336, e_193_339, e_193_340, e_193_343, e_193_344, e_193_345, e_193_346, e_193_347, e_193_349, e_193_350, e_193_351, e_193_354, e_193_355, e_193_358, e_193_359, ge1, ule_t, true_or, or_true, nI_add, nI_mul, nI_sub, nI_clamp, nI_lt_t, nI_lt_f, nI_le_t, nI_le_f, nI_eq_t, nI_eq_f, vp_nI, tI, fI, not_true, not_false_iff, true_and, and_true, Classical.not_not, mS_uI, mS_uA, mS_uJ, mS_uR, mS_uX, mR_uI, mR_uA, mR_uJ, mR_uX, mX_uI, mX_uA, mX_uJ, mX_uR, mI_s, mI_n, mI_A, mI_An, mI_uJ, mI_uR, mI_uX, mJ_uI, mJ_uA, mJ_uR, mJ_uX, onR_s, kC_v, kC_n, kC_t, sh, ku, w_173, forall_const, false_implies, implies_true, and_self]
      exact hq μ1 hp hx
end Chg

