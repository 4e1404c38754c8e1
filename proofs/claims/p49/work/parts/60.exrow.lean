/-! a turn executed: rows -/
def okL (f : Nat → Int32) : Prop := ∀ c, c < 16 → ∃ v, v < 10000 ∧ f c = nI v
theorem rem4_nI {a b : Nat} (ha : a < 100000000) : rem4 (nI a) = nI (a % 10000) := by
  unfold rem4
  rw [nI_div (by omega) (by omega) (by omega), nI_mul, nI_sub (by omega)]
  congr 1
  omega
theorem okL_upd {f : Nat → Int32} {c v : Nat} {x : Int32} (h : okL f) (hx : x = nI v) (hv : v < 10000) : okL (upd f c x) := fun k hk => by
  unfold upd
  by_cases hkc : k = c
  · rw [if_pos hkc]; exact ⟨v, hv, hx⟩
  · rw [if_neg hkc]; exact h k hk
theorem okL_chg {f : Nat → Int32} {σ c : Nat} {o : Int32} (h : okL f) (hc : okC σ c o) (ho : ∃ v, v < 10000 ∧ o = nI v) : okL (fChg σ c o f) := by
  obtain ⟨c1, c2, c3⟩ := hc
  obtain ⟨v, hv, ev⟩ := ho
  obtain ⟨a, ha, ea⟩ := h c c2
  rcases (by omega : σ = 0 ∨ σ = 1 ∨ σ = 2 ∨ σ = 3 ∨ σ = 4 ∨ σ = 5) with rfl | rfl | rfl | rfl | rfl | rfl
  · exact okL_upd h ev hv
  · refine okL_upd (v := (a + v) % 10000) h ?_ (by omega)
    rw [ea, ev, nI_add, rem4_nI (b := 0) (by omega)]
  all_goals (obtain ⟨j, hj, rfl⟩ := c3 (by omega); obtain ⟨b, hb, eb⟩ := h j hj)
  · refine okL_upd (v := b) h ?_ hb
    rw [nI_clamp (by omega), eb]
  · refine okL_upd (v := (a + b) % 10000) h ?_ (by omega)
    rw [nI_clamp (by omega), ea, eb, nI_add, rem4_nI (b := 0) (by omega)]
  · refine okL_upd (v := a) (okL_upd (v := b) h ?_ hb) ea ha
    rw [nI_clamp (by omega), eb]
  · have hab : a * b ≤ 9999 * 9999 := Nat.mul_le_mul (by omega) (by omega)
    refine okL_upd (v := (a * b) % 10000) h ?_ (Nat.mod_lt _ (by omega))
    rw [nI_clamp (by omega), ea, eb, nI_mul, rem4_nI (b := 0) (by omega)]
theorem okL_turn {f : Nat → Int32} {cmd : Nat → Nat → Int32} {z : Nat} (h : okL f) (hk : okCmd cmd z) (hw : ∀ k, k < z → ∃ v, v < 10000 ∧ cmd k 3 = nI v) : ∀ k, k ≤ z → okL (fTurn cmd f k)
  | 0, _ => h
  | k + 1, h1 => by
    obtain ⟨σ, c, g1, g2, g3⟩ := hk k (by omega)
    have ih := okL_turn h hk hw k (by omega)
    show okL (fChg (cmd k 1).toNatClampNeg (cmd k 2).toNatClampNeg (cmd k 3) (fTurn cmd f k))
    obtain ⟨c1, c2, c3⟩ := g3
    rw [g1, g2, nI_clamp (by omega), nI_clamp (by omega)]
    exact okL_chg ih ⟨c1, c2, c3⟩ (hw k (by omega))
theorem okL_err {f nums : Nat → Int32} {m t : Int32} {n : Nat} (h : okL f) (hc : ∀ k, k < n → (∃ c, c < 16 ∧ nums (4 * k + 2) = nI c) ∧ ∃ a, a < 10000 ∧ nums (4 * k + 3) = nI a) : ∀ k, k ≤ n → okL (fErr nums m t k f)
  | 0, _ => h
  | k + 1, h1 => by
    have ih := okL_err (m := m) (t := t) h hc k (by omega)
    obtain ⟨⟨c, hc1, e1⟩, a, ha, e2⟩ := hc k (by omega)
    rw [fErr]
    split
    · rw [e1, nI_clamp (by omega), e2]
      obtain ⟨b, hb, e3⟩ := ih c hc1
      refine okL_upd (v := (b + a) % 10000) ih ?_ (by omega)
      rw [e3, nI_add, rem4_nI (b := 0) (by omega)]
    · exact ih
def xC (r : Nat → Int32) (m : Nat) : Nat → Int32 := fErr (flt r) (nI m) (nI (nE (rW r) m)) (nF r) (fT r (nE (rW r) m) (vC r m))
def rX1 (r : Nat → Int32) (m : Nat) (F : Nat → Int32) : Nat → Int32 := fun x => if 3 + 64 * m + 7 ≤ x ∧ x < 3 + 64 * m + 23 then F (x - (3 + 64 * m + 7)) else r x
def rX3 (r : Nat → Int32) (m : Nat) : Nat → Int32 := upd (rFo (rX1 r m (xC r m)) (pM (flt (rX1 r m (xC r m))) (nI m) (nI (nE (rW r) m)))) (3 + 64 * m + 1) (nI (nE (rW r) m + 1))
def rEx (r : Nat → Int32) (m : Nat) : Nat → Int32 := upd (rX3 r m) (3 + 64 * m + (24 + nE (rW r) m)) (fCk (rW (rX3 r m)) m 1)
section ExRow
variable {r : Nat → Int32} {m m' k x : Nat}
theorem okR.len (h : okR r) (hm : m < nM r) : okL (vC r m) := fun c hc => (h.2.2.2.2.2.2.2.2.2.2.2.2.2.2.2.1 m hm).2.2 c hc
theorem xC_ok (h : okR r) (hN : RN2 r) (hm : m < nM r) (ht : nE (rW r) m < nT r) : okL (xC r m) := by
  have hP := h.2.2.2.2.2.2.2.2.2.2.2.2.2.2.2.2.1
  have hF := h.2.2.2.2.2.2.2.2.2.2.2.2.2.2.2.2.2
  obtain ⟨z1, z2, z3⟩ := okP_z hP ht
  refine okL_err (okL_turn (h.len hm) z3 (fun k hk => hN.2.1 _ ht k hk) _ (Nat.le_refl _)) (fun k hk => ?_) _ (Nat.le_refl _)
  obtain ⟨-, -, a, b⟩ := hF k hk
  unfold flt
  rw [← Nat.add_assoc, ← Nat.add_assoc]
  exact ⟨a, b⟩
theorem rX1_at {F : Nat → Int32} {c : Nat} (hc : c < 16) : rX1 r m F (3 + 64 * m + 7 + c) = F c := by
  unfold rX1
  rw [if_pos (by omega), show 3 + 64 * m + 7 + c - (3 + 64 * m + 7) = c by omega]
theorem rX1_n {F : Nat → Int32} (h : x < 3 + 64 * m + 7 ∨ 3 + 64 * m + 23 ≤ x) : rX1 r m F x = r x := if_neg (by omega)
theorem rX1_nF {F : Nat → Int32} (hm : m < 6) : nF (rX1 r m F) = nF r := by unfold nF; rw [rX1_n (by omega)]
theorem rX1_flt {F : Nat → Int32} (hm : m < 6) : flt (rX1 r m F) = flt r := by funext k; unfold flt; rw [rX1_n (by omega)]
theorem rX3_c {c : Nat} (hm : m < 6) (hc : c < 16) : rX3 r m (3 + 64 * m + 7 + c) = xC r m c := by
  unfold rX3
  rw [upd_n (by omega), rFo_lo (by omega), rX1_at hc]
theorem rX3_1 : rX3 r m (3 + 64 * m + 1) = nI (nE (rW r) m + 1) := upd_s
theorem rX3_lo (hm : m < 6) (h : x < 1741) (h1 : x ≠ 3 + 64 * m + 1) (h2 : x < 3 + 64 * m + 7 ∨ 3 + 64 * m + 23 ≤ x) : rX3 r m x = r x := by
  unfold rX3
  rw [upd_n h1, rFo_lo h, rX1_n h2]
theorem rX3_hi (hm : m < 6) (h : 1741 ≤ x) : rX3 r m x = rFo (rX1 r m (xC r m)) (pM (flt r) (nI m) (nI (nE (rW r) m))) x := by
  unfold rX3
  rw [upd_n (by omega), rX1_flt hm]
theorem rEx_root : rEx r m (3 + 64 * m + (24 + nE (rW r) m)) = fCk (rW (rX3 r m)) m 1 := upd_s
theorem rEx_n (h : x ≠ 3 + 64 * m + (24 + nE (rW r) m)) : rEx r m x = rX3 r m x := upd_n h
theorem rEx_ck (hm : m < 6) : fCk (rW (rX3 r m)) m 1 = fTree (xC r m) (fun _ => 0) 1 := fTree_eq (fun c hc => by show rX3 r m (3 + 64 * m + (7 + c)) = _; rw [← Nat.add_assoc, rX3_c hm hc]) (by omega) (by omega)
theorem rEx_lo (hm : m < 6) (h39 : nE (rW r) m < 40) (h : x < 1741) (h0 : x < 3 + 64 * m ∨ 3 + 64 * m + 64 ≤ x) : rEx r m x = r x := by
  rw [rEx_n (by omega), rX3_lo hm h (by omega) (by omega)]
theorem rEx_V {m' : Nat} (hm : m < 6) (h39 : nE (rW r) m < 40) (hm' : m' < 6) (hne : m' ≠ m) (hk : k < 64) : rW (rEx r m) m' k = rW r m' k := rEx_lo hm h39 (by omega) (by omega)
theorem rEx_Vm (hm : m < 6) (h39 : nE (rW r) m < 40) (hk : k < 64) (h1 : k ≠ 1) (h2 : k < 7 ∨ 23 ≤ k) (h3 : k ≠ 24 + nE (rW r) m) : rW (rEx r m) m k = rW r m k := by
  show rEx r m (3 + 64 * m + k) = r (3 + 64 * m + k)
  rw [rEx_n (by omega), rX3_lo hm (by omega) (by omega) (by omega)]
theorem rEx_V1 (h39 : nE (rW r) m < 40) : rW (rEx r m) m 1 = nI (nE (rW r) m + 1) := by
  show rEx r m (3 + 64 * m + 1) = _
  rw [rEx_n (by omega), rX3_1]
theorem rEx_Vc {c : Nat} (hm : m < 6) (h39 : nE (rW r) m < 40) (hc : c < 16) : rW (rEx r m) m (7 + c) = xC r m c := by
  show rEx r m (3 + 64 * m + (7 + c)) = _
  rw [← Nat.add_assoc, rEx_n (by omega), rX3_c hm hc]
theorem ok_ex (h : okR r) (hN : RN2 r) (hm : m < nM r) (ht : nE (rW r) m < nT r) : okR (rEx r m) ∧ RN2 (rEx r m) ∧ nM (rEx r m) = nM r ∧ nT (rEx r m) = nT r ∧ nO (rEx r m) = nO r ∧ nF (rEx r m) = kL (pM (flt r) (nI m) (nI (nE (rW r) m))) (nF r) ∧ nE (rW (rEx r m)) m = nE (rW r) m + 1 := by
  have hO := h
  have hx := xC_ok h hN hm ht
  obtain ⟨o2, o6, o387, oT, o1708, oO, o1741, oF, o1, oq1, oq6, o0, ol1, ol40, oV, oN1, oP1, oF1⟩ := h
  have h6 : m < 6 := by omega
  have h39 : nE (rW r) m < 40 := by omega
  have hle := kL_le (pM (flt r) (nI m) (nI (nE (rW r) m))) (nF r)
  have vE := okBE oV hm
  have hnF1 : nF (rX1 r m (xC r m)) = nF r := rX1_nF h6
  have n2 : nM (rEx r m) = nM r := by unfold nM; rw [rEx_lo h6 h39 (by omega) (by omega)]
  have n3 : nT (rEx r m) = nT r := by unfold nT; rw [rEx_lo h6 h39 (by omega) (by omega)]
  have n4 : nO (rEx r m) = nO r := by unfold nO; rw [rEx_lo h6 h39 (by omega) (by omega)]
  have e41 : rEx r m 1741 = nI (kL (pM (flt r) (nI m) (nI (nE (rW r) m))) (nF r)) := by rw [rEx_n (by omega), rX3_hi h6 (by omega), rFo_n, hnF1]
  have n5 : nF (rEx r m) = kL (pM (flt r) (nI m) (nI (nE (rW r) m))) (nF r) := by
    show (rEx r m 1741).toNatClampNeg = _
    rw [e41]; exact nI_clamp (by omega)
  have n6 : nQ (rEx r m) = nQ r := by unfold nQ; rw [rEx_lo h6 h39 (by omega) (by omega)]
  have n7 : nL (rEx r m) = nL r := by unfold nL; rw [rEx_lo h6 h39 (by omega) (by omega)]
  have n8 : nE (rW (rEx r m)) m = nE (rW r) m + 1 := by
    show (rW (rEx r m) m 1).toNatClampNeg = _
    rw [rEx_V1 h39]; exact nI_clamp (by omega)
  have hcm : ∀ x, 388 ≤ x → x < 1741 → rEx r m x = r x := fun x h1 h2 => rEx_lo h6 h39 h2 (by omega)
  have hF1 : okF (rX1 r m (xC r m)) := by
    intro k hk
    rw [hnF1] at hk
    rw [rX1_n (by omega), rX1_n (by omega), rX1_n (by omega), rX1_n (by omega)]
    exact oF1 k hk
  refine ⟨⟨by rw [n2, rEx_lo h6 h39 (by omega) (by omega)]; exact o2, by omega, by rw [n3, rEx_lo h6 h39 (by omega) (by omega)]; exact o387, by omega, by rw [n4, rEx_lo h6 h39 (by omega) (by omega)]; exact o1708, by omega, by rw [n5]; exact e41, by omega, by rw [n6, rEx_lo h6 h39 (by omega) (by omega)]; exact o1, by omega, by omega, by rw [n7, rEx_lo h6 h39 (by omega) (by omega)]; exact o0, by omega, by omega, ?_, ?_, okP_eq oP1 oT oO n3 n4 hcm, ?_⟩, ⟨?_, okW_eq hN.2 oP1 oT oO n3 n4 hcm⟩, n2, n3, n4, n5, n8⟩
  · intro m' hm'
    rw [n2] at hm'
    by_cases hmm : m' = m
    · subst hmm
      rw [rEx_Vm h6 h39 (by omega) (by omega) (by omega) (by omega), rEx_Vm h6 h39 (by omega) (by omega) (by omega) (by omega), rEx_V1 h39]
      obtain ⟨v1, v2, v3, v4⟩ := oV m' hm'
      rw [vE.2.1] at v3
      exact ⟨v1, v2, Int32.le_trans v3 (nI_le (by omega) (by omega)), nI_le (by omega) (by omega)⟩
    · rw [rEx_V h6 h39 (by omega) hmm (by omega), rEx_V h6 h39 (by omega) hmm (by omega), rEx_V h6 h39 (by omega) hmm (by omega)]
      exact oV m' hm'
  · intro m' hm'
    rw [n2] at hm'
    obtain ⟨g1, g2, g3⟩ := oN1 m' hm'
    by_cases hmm : m' = m
    · subst hmm
      rw [rEx_V1 h39, rEx_Vm h6 h39 (by omega) (by omega) (by omega) (by omega), n3]
      exact ⟨nI_le (by omega) (by omega), g2, fun c hc => by rw [rEx_Vc h6 h39 hc]; exact hx c hc⟩
    · rw [rEx_V h6 h39 (by omega) hmm (by omega), rEx_V h6 h39 (by omega) hmm (by omega), n3]
      exact ⟨g1, g2, fun c hc => by rw [rEx_V h6 h39 (by omega) hmm (by omega)]; exact g3 c hc⟩
  · intro k hk
    rw [n5] at hk
    have hq := okF_fo (P := pM (flt r) (nI m) (nI (nE (rW r) m))) hF1 (by rw [hnF1]; exact oF)
    have hn9 : nF (rFo (rX1 r m (xC r m)) (pM (flt r) (nI m) (nI (nE (rW r) m)))) = kL (pM (flt r) (nI m) (nI (nE (rW r) m))) (nF r) := by
      show (rFo (rX1 r m (xC r m)) (pM (flt r) (nI m) (nI (nE (rW r) m))) 1741).toNatClampNeg = _
      rw [rFo_n, hnF1]; exact nI_clamp (by omega)
    have := hq k (by rw [hn9]; exact hk)
    rw [rEx_n (by omega), rEx_n (by omega), rEx_n (by omega), rEx_n (by omega), rX3_hi h6 (by omega), rX3_hi h6 (by omega), rX3_hi h6 (by omega), rX3_hi h6 (by omega)]
    exact this
  · intro x hx
    rw [rEx_n (by omega), rX3_hi h6 (by omega), rFo_hi (by rw [hnF1]; exact oF) hx, rX1_n (by omega)]
    exact hN.1 x hx
def rExN (r : Nat → Int32) (m : Nat) : Nat → (Nat → Int32)
  | 0 => r
  | n + 1 => rEx (rExN r m n) m
theorem ok_exN (h : okR r) (hN : RN2 r) (hm : m < nM r) : ∀ n, nE (rW r) m + n ≤ nT r → okR (rExN r m n) ∧ RN2 (rExN r m n) ∧ nM (rExN r m n) = nM r ∧ nT (rExN r m n) = nT r ∧ nO (rExN r m n) = nO r ∧ nE (rW (rExN r m n)) m = nE (rW r) m + n
  | 0, _ => ⟨h, hN, rfl, rfl, rfl, rfl⟩
  | n + 1, hn => by
    obtain ⟨a1, a2, a3, a4, a5, a6⟩ := ok_exN h hN hm n (by omega)
    obtain ⟨b1, b2, b3, b4, b5, -, b7⟩ := ok_ex a1 a2 (by omega : m < nM (rExN r m n)) (by omega)
    exact ⟨b1, b2, b3.trans a3, b4.trans a4, b5.trans a5, by rw [show nE (rW (rExN r m (n + 1))) m = _ from b7, a6]; omega⟩
end ExRow


