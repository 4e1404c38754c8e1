/-! records are never negative -/
theorem bm64 {x : Int} (h : -9223372036854775808 ≤ x) (h2 : x < 9223372036854775808) : x.bmod (2 ^ 64) = x := by
  rw [Int.bmod_def, show ((2 ^ 64 : Nat) : Int) = 18446744073709551616 from by decide]
  split <;> omega
theorem bm32 {x : Int} (h : -2147483648 ≤ x) (h2 : x < 2147483648) : x.bmod (2 ^ 32) = x := by
  rw [Int.bmod_def, show ((2 ^ 32 : Nat) : Int) = 4294967296 from by decide]
  split <;> omega
theorem mod_b {v : Int} (h : 0 ≤ v) : 0 ≤ v - v / 2147483647 * 2147483647 ∧ v - v / 2147483647 * 2147483647 < 2147483647 := by omega
theorem div_b {v : Int} (h : 0 ≤ v) (h2 : v < 9223372036854775808) : 0 ≤ v / 2147483647 ∧ v / 2147483647 < 9223372036854775808 ∧ 0 ≤ v / 2147483647 * 2147483647 ∧ v / 2147483647 * 2147483647 < 9223372036854775808 := by omega
theorem mM_nn {X : Int64} {v : Int} (hX : X.toInt = v) (v0 : 0 ≤ v) (v1 : v < 9223372036854775808) : 0 ≤ (X - X / 2147483647 * 2147483647).toInt32.toInt := by
  have c3 : (2147483647 : Int64).toInt = 2147483647 := by decide
  obtain ⟨d0, d1, d2, d3⟩ := div_b v0 v1
  obtain ⟨m0, m1⟩ := mod_b v0
  have gd : (X / 2147483647).toInt = v / 2147483647 := by
    rw [Int64.toInt_div, hX, c3, Int.tdiv_eq_ediv_of_nonneg v0]
    exact bm64 (Int.le_trans (by decide) d0) d1
  have gm : (X / 2147483647 * 2147483647).toInt = v / 2147483647 * 2147483647 := by
    rw [Int64.toInt_mul, gd, c3]
    exact bm64 (Int.le_trans (by decide) d2) d3
  have gs : (X - X / 2147483647 * 2147483647).toInt = v - v / 2147483647 * 2147483647 := by
    rw [Int64.toInt_sub, hX, gm]
    exact bm64 (Int.le_trans (by decide) m0) (Int.lt_trans m1 (by decide))
  rw [Int64.toInt_toInt32, gs]
  have e := bm32 (Int.le_trans (by decide) m0) (Int.lt_trans m1 (by decide))
  rw [e]
  exact m0
theorem tNode_nn {T : Nat → Int32} {k : Nat} (h1 : nI 0 ≤ T (2 * k)) (h2 : nI 0 ≤ T (2 * k + 1)) (hk : k < 16) : nI 0 ≤ tNode T k := by
  have z0 : (nI 0).toInt = 0 := by decide
  rw [Int32.le_iff_toInt_le, z0] at h1 h2 ⊢
  have b1 := (T (2 * k)).toInt_lt
  have b2 := (T (2 * k + 1)).toInt_lt
  unfold tNode
  generalize T (2 * k) = x at *
  generalize T (2 * k + 1) = y at *
  have e1 : (nI (2 * k)).toInt = 2 * k := by rw [nI_toInt (by omega)]; omega
  have e2 : (nI k).toInt = k := nI_toInt (by omega)
  have ex : x.toInt64.toInt = x.toInt := Int32.toInt_toInt64 x
  have ey : y.toInt64.toInt = y.toInt := Int32.toInt_toInt64 y
  have ek : (nI (2 * k)).toInt64.toInt = 2 * k := by rw [Int32.toInt_toInt64, e1]
  have ek2 : (nI k).toInt64.toInt = k := by rw [Int32.toInt_toInt64, e2]
  have c1 : (69069 : Int64).toInt = 69069 := by decide
  have c2 : (30011 : Int64).toInt = 30011 := by decide
  have hp0 : (0 : Int) ≤ (30011 + 2 * k) * y.toInt := Int.mul_nonneg (by omega) h2
  have hp1 : ((30011 : Int) + 2 * k) * y.toInt ≤ 30043 * 2147483648 := Int.mul_le_mul (by omega) (by omega) h2 (by omega)
  have hX : (69069 * x.toInt64 + (30011 + (nI (2 * k)).toInt64) * y.toInt64 + (nI k).toInt64).toInt = 69069 * x.toInt + (30011 + 2 * k) * y.toInt + k := by
    have g1 : (69069 * x.toInt64).toInt = 69069 * x.toInt := by rw [Int64.toInt_mul, c1, ex, bm64 (by omega) (by omega)]
    have g2 : ((30011 + (nI (2 * k)).toInt64) * y.toInt64).toInt = (30011 + 2 * k) * y.toInt := by
      rw [Int64.toInt_mul, Int64.toInt_add, c2, ek, ey, bm64 (x := 30011 + 2 * k) (by omega) (by omega), bm64 (by omega) (by omega)]
    rw [Int64.toInt_add, Int64.toInt_add, g1, g2, ek2, bm64 (x := 69069 * x.toInt + (30011 + 2 * k) * y.toInt) (by omega) (by omega), bm64 (by omega) (by omega)]
  exact mM_nn hX (by omega) (by omega)
theorem tB_nn {T : Nat → Int32} (h : ∀ k, 16 ≤ k → k < 32 → nI 0 ≤ T k) : ∀ m, m ≤ 15 → ∀ k, 15 - m < k → k < 32 → nI 0 ≤ tB T m k
  | 0, _, k, h1, h2 => h k (by omega) h2
  | m + 1, hm, k, h1, h2 => by
    have ih := tB_nn h m (by omega)
    show nI 0 ≤ upd (tB T m) (15 - m) (tNode (tB T m) (15 - m)) k
    unfold upd
    by_cases hk : k = 15 - m
    · rw [if_pos hk]
      exact tNode_nn (ih _ (by omega) (by omega)) (ih _ (by omega) (by omega)) (by omega)
    · rw [if_neg hk]
      exact ih k (by omega) h2
theorem fTree_nn {f old : Nat → Int32} (h : okL f) : nI 0 ≤ fTree f old 1 := by
  refine tB_nn (fun k h1 h2 => ?_) 15 (Nat.le_refl _) 1 (by omega) (by omega)
  unfold tA
  rw [if_pos (by omega)]
  obtain ⟨v, hv, ev⟩ := h (k - 16) (by omega)
  unfold tLeaf
  rw [ev, nI_mul, nI_add, nI_add]
  exact nI_le (by omega) (by omega)
theorem fCk_nn {r : Nat → Int32} {m : Nat} (h : okR r) (hm : m < nM r) : nI 0 ≤ fCk (rW r) m 1 := fTree_nn (fun c hc => (h.2.2.2.2.2.2.2.2.2.2.2.2.2.2.2.1 m hm).2.2 c hc)
def RecP (r : Nat → Int32) : Prop := ∀ m, m < nM r → ∀ k, 23 ≤ k → k < 64 → nI 0 ≤ rW r m k
section Rec
variable {r r' tn : Nat → Int32} {m dn n p t k la : Nat}
theorem RecP.of (h : RecP r) (hn : nM r' = nM r) (e : ∀ m, m < nM r → ∀ k, 23 ≤ k → k < 64 → rW r' m k = rW r m k) : RecP r' := fun m hm k h1 h2 => by
  rw [hn] at hm
  rw [e m hm k h1 h2]
  exact h m hm k h1 h2
theorem RecP.lo (h : RecP r) (hO : okR r) (e : ∀ x, x < 387 → 3 ≤ x → r' x = r x) (hn : nM r' = nM r) : RecP r' := h.of hn (fun m hm k h1 h2 => e _ (by have := hO.2.1; omega) (by omega))
theorem RecP.bg (h : AL r tn) : RecP (rBg r tn (rtT tn) (nM r)) := by
  obtain ⟨b1, b2, b3⟩ := ok_bg h
  obtain ⟨a1, a2, a3, a4, a5, a6, a7⟩ := h
  intro m hm k h1 h2
  rw [b3] at hm
  by_cases hk : k = 23
  · subst hk
    show nI 0 ≤ rBg r tn (rtT tn) (nM r) (3 + 64 * m + 23)
    rw [rBg_t hm]
    exact fTree_nn (fun c hc => a7 c hc)
  · show nI 0 ≤ rBg r tn (rtT tn) (nM r) (3 + 64 * m + k)
    rw [rBg_k (by omega)]
    have := (a3 m hm).2 k (by omega) (by omega) (by omega)
    have e : r (3 + 64 * m + k) = nI 0 := this
    rw [e]
    exact nI_le (by omega) (by omega)
theorem RecP.ex (h : RecP r) (hO : okR r) (hR : RN2 r) (hm : m < nM r) (ht : nE (rW r) m < nT r) : RecP (rEx r m) := by
  obtain ⟨a1, a2, a3, a4, a5, a6, a7⟩ := ok_ex hO hR hm ht
  have h6 := hO.2.1
  have h39 : nE (rW r) m < 40 := by have := hO.2.2.2.1; omega
  intro m' hm' k h1 h2
  by_cases hmm : m' = m
  · subst hmm
    by_cases hk : k = 24 + nE (rW r) m'
    · subst hk
      have e : rW (rEx r m') m' (24 + nE (rW r) m') = fCk (rW (rX3 r m')) m' 1 := rEx_root
      rw [e, rEx_ck (by omega)]
      exact fTree_nn (xC_ok hO hR hm ht)
    · rw [rEx_Vm (by omega) h39 h2 (by omega) (by omega) hk]
      exact h m' hm k h1 h2
  · rw [a3] at hm'
    rw [rEx_V (by omega) h39 (by omega) hmm h2]
    exact h m' hm' k h1 h2
theorem RecP.exN (h : RecP r) (hO : okR r) (hR : RN2 r) (hm : m < nM r) : ∀ n, nE (rW r) m + n ≤ nT r → RecP (rExN r m n)
  | 0, _ => h
  | n + 1, hn => by
    obtain ⟨a1, a2, a3, a4, a5, a6⟩ := ok_exN hO hR hm n (by omega)
    exact (RecP.exN h hO hR hm n (by omega)).ex a1 a2 (by omega) (by omega)
theorem RecP.tk (hP : RecP r) (h : okR r) (hN : RN2 r) (hla : ∀ m, m < nM r → ¬ rW r m 2 = nI 0 → la ≤ nT r) : ∀ m, m ≤ nM r → RecP (tkR r la m)
  | 0, _ => hP
  | m + 1, hm => by
    obtain ⟨a1, a2, a3, a4, a5, a6, a7, a8, a9⟩ := tk_ok h hN hla m (by omega)
    have ih := RecP.tk hP h hN hla m (by omega)
    rw [tkR]
    by_cases ha : rW (tkR r la m) m 2 = nI 0
    · rw [if_pos ha]; exact ih
    · rw [if_neg ha]
      have h6 := h.2.1
      have ha' : ¬ rW r m 2 = nI 0 := by rw [← a6 m (Nat.le_refl _) (by omega) 2 (by omega)]; exact ha
      have hl := hla m (by omega) ha'
      have he := nE_le a1 (show m < nM (tkR r la m) by omega)
      exact ih.exN a1 a2 (by omega) _ (by unfold tN; split <;> omega)
theorem RecP.leave (hP : RecP r) (h : okR r) (hN : RN2 r) (hK : okK r) (hm : m < nM r) : RecP (rLeave r m) := by
  obtain ⟨b1, b2, b3, b4, b5⟩ := ok_leave h hN hK hm
  have h6 := h.2.1
  refine hP.of b4 (fun m' hm' k h1 h2 => ?_)
  show rFo (rOff r m) _ (3 + 64 * m' + k) = _
  rw [rFo_lo (by omega)]
  exact rOff_V (by omega) h2 (by omega)
theorem RecP.heal (hP : RecP r) (h : okR r) (hN : RN2 r) (hK : okK r) (hm : m < nM r) (hd : dn < nM r) (hne : dn ≠ m) (ht : rW r dn 1 = rW r m 1) : RecP (rHeal r m dn) := by
  obtain ⟨b1, b2, b3, b4, b5⟩ := ok_heal h hN hK hm hd hne ht
  have h6 := h.2.1
  have hE := nE_le h hm
  have hT := h.2.2.2.1
  intro m' hm' k h1 h2
  rw [b4] at hm'
  by_cases hk : m' = m ∧ k = 23 + nE (rW r) m
  · obtain ⟨rfl, rfl⟩ := hk
    show nI 0 ≤ rHl r m' dn _ (nE (rW r) m') (3 + 64 * m' + (23 + nE (rW r) m'))
    rw [hl_t]
    exact hP dn hd (23 + nE (rW r) m') (by omega) (by omega)
  · show nI 0 ≤ rHl r m dn _ (nE (rW r) m) (3 + 64 * m' + k)
    rw [hl_n (by omega) (by omega) (by omega) (by omega) (by omega)]
    exact hP m' hm' k h1 h2
theorem RecP.ha (hP : RecP r) (h : okR r) (hN : RN3 r) : ∀ m, m ≤ nM r → RecP (haR r m)
  | 0, _ => hP
  | m + 1, hm => by
    obtain ⟨a1, a2, a3, a4, a5, a6⟩ := ha_ok h hN m (by omega)
    have ih := RecP.ha hP h hN m (by omega)
    rw [haR]
    by_cases hs : fStop (rW (haR r m)) (nM r) (nQ r) m = 0
    · rw [if_pos hs]
      have hs2 : fStop (rW (haR r m)) (nM (haR r m)) (nQ (haR r m)) m = 0 := by rw [a4, a5]; exact hs
      obtain ⟨g1, g2, g3, g4⟩ := dnr_ok hs2
      exact ih.heal a1 a2.1 a2.2 (by omega) g2 g3 g4
    · rw [if_neg hs]; exact ih
theorem RecP.join (hP : RecP r) (h : okR r) (hN : RN3 r) (hn6 : nM r < 6) (hp : 1 ≤ p) (hp4 : p ≤ 4) (hd : dn < nM r) (ht : t = nE (rW r) dn) : RecP (rJn r (nM r) p t dn) := by
  have hE := nE_le h hd
  have hT := h.2.2.2.1
  intro m' hm' k h1 h2
  have e2 : nM (rJn r (nM r) p t dn) = nM r + 1 := by
    show (rJn r (nM r) p t dn 2).toNatClampNeg = _
    rw [rJn_2 (by omega), nI_clamp (by omega)]
  rw [e2] at hm'
  by_cases hmm : m' = nM r
  · subst hmm
    by_cases hk : k = 23 + t
    · subst hk
      have e : rW (rJn r (nM r) p t dn) (nM r) (23 + t) = fCk (rW (rJ4 r (nM r) p t dn)) (nM r) 1 := rJn_t
      rw [e, rJn_ck hd]
      exact fCk_nn h hd
    · show nI 0 ≤ upd (upd (upd (cpR (rJ1 r (nM r) p t) (nM r) dn 65535 16) (3 + 64 * dn + 3) _) (3 + 64 * nM r + 4) _) (3 + 64 * nM r + (23 + t)) _ (3 + 64 * nM r + k)
      rw [upd_n (by omega), upd_n (by omega), upd_n (by omega), cpR_n (by omega), rJ1_k h2, if_neg (by omega), if_neg (by omega), if_neg (by omega), if_neg (by omega)]
      exact nI_le (by omega) (by omega)
  · rw [rJn_V hd (by omega) (by omega) h2 (by omega)]
    exact hP m' (by omega) k h1 h2
end Rec

