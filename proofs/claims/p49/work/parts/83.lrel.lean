/-! reading: how what is read goes together; the spare room's old cells and records don't count -/
abbrev CRs (s a : Nat) : Prop := s + 5 ≤ a ∧ a ≤ s + 22 ∧ ¬ (a - s) % 3 = 2
def fxH (μ : Mu) (s : Nat) : Mu := (μ.1, μ.2.1, (fun a k => if CRs s a then nI 0 else mI μ a k), μ.2.2.2)
section Fx
variable {μ μ1 μ' : Mu} {s c a k m n σ i p j o t w v : Nat} {r tn F : Nat → Int32} {x : Int32}
theorem fx_z (h : CRs s a) : mI (fxH μ s) a k = nI 0 := if_pos h
theorem fx_n (h : ¬ CRs s a) : mI (fxH μ s) a = mI μ a := by funext k; exact if_neg h
/-- what is read, so far -/
def RelL (μ : Mu) (s c : Nat) (r tn : Nat → Int32) : Prop := RelN (fxH μ s) s r tn ∧ RelC μ c r ∧ EqL (mI μ (c + 1)) tn
def AL (r tn : Nat → Int32) : Prop := okR r ∧ RN2 r ∧ (∀ m, m < nM r → rW r m 2 = nI 1 ∧ ∀ k, k < 64 → k ≠ 0 → k ≠ 2 → rW r m k = nI 0) ∧ (∀ m, nM r ≤ m → m < 6 → tn (16 + m) = nI 0) ∧ (∀ m, m < 6 → ∃ w, w < 1073741824 ∧ tn (16 + m) = nI w) ∧ (∀ j, 22 ≤ j → tn j = 0) ∧ ∀ k, k < 16 → ∃ v, v < 10000 ∧ tn k = nI v
theorem RelL.n1 (h : RelL μ s c r tn) (hO : okR r) : mI μ s 1 = nI (nM r) := by
  have := h.1.1.1
  rw [fx_n (by omega)] at this
  exact this.trans hO.1
theorem RelL.n2 (h : RelL μ s c r tn) (hO : okR r) : mI μ s 2 = nI (nT r) := by
  have := h.1.1.2.1
  rw [fx_n (by omega)] at this
  exact this.trans hO.2.2.1
theorem RelL.n3 (h : RelL μ s c r tn) (hO : okR r) : mI μ s 3 = nI (nO r) := by
  have := h.1.1.2.2.1
  rw [fx_n (by omega)] at this
  exact this.trans hO.2.2.2.2.1
theorem RelL.n4 (h : RelL μ s c r tn) (hO : okR r) : mI μ (s + 3) 1 = nI (nF r) := by
  have := h.1.1.2.2.2.1
  rw [fx_n (by omega)] at this
  exact this.trans hO.2.2.2.2.2.2.1
theorem RelL.nm (h : RelL μ s c r tn) (h6 : nM r ≤ 6) : ∀ m, m < nM r → mI μ (s + 5 + 3 * m) 0 = tn (16 + m) := fun m hm => by
  have := h.1.2 m hm
  rw [fx_n (by omega)] at this
  exact this
theorem RelN.fx (hN : RelN μ1 s r tn) (h6 : nM r ≤ 6) (hz : ∀ a, s ≤ a → a ≤ s + 22 → CRs s a → ∀ k, mI μ1 a k = nI 0) (hn : ∀ a, s ≤ a → a ≤ s + 22 → ¬ CRs s a → ∀ k, mI μ' a k = mI μ1 a k) : RelN (fxH μ' s) s r tn :=
  hN.fr h6 (fun a h1 h2 k => by
    by_cases h : CRs s a
    · rw [fx_z h, hz a h1 h2 h]
    · rw [fx_n h]; exact hn a h1 h2 h k)
theorem RelC.fx (hsc : s + 22 < c ∨ c + 4 < s) (h : RelC μ c r) : RelC (fxH μ s) c r := h.mu (fun a h1 h2 k => by rw [fx_n (by omega)])
theorem RelL.fr (h : RelL μ s c r tn) (h6 : nM r ≤ 6) (e : ∀ a, (s ≤ a ∧ a ≤ s + 22) ∨ (c ≤ a ∧ a ≤ c + 4) → ∀ k, mI μ' a k = mI μ a k) : RelL μ' s c r tn := by
  obtain ⟨h1, h2, h3⟩ := h
  refine ⟨RelN.fx h1 h6 (fun a _ _ hc k => fx_z hc) (fun a a1 a2 hc k => by rw [fx_n hc]; exact e a (Or.inl ⟨a1, a2⟩) k), h2.mu (fun a a1 a2 k => e a (Or.inr ⟨a1, a2⟩) k), fun k hk => by rw [e (c + 1) (Or.inr ⟨by omega, by omega⟩)]; exact h3 k hk⟩
theorem relL_give (h : RelL μ s c r tn) (hO : okR r) (hsc : s + 22 < c ∨ c + 4 < s) (ho : nO r < 8) : RelL (cGive μ s c (nT r) (nO r) m σ i k) s c (rGive r m σ i k) tn := by
  obtain ⟨h1, h2, h3⟩ := h
  obtain ⟨g1, g2⟩ := rel_give (m := m) (σ := σ) (i := i) (k := k) h1 (h2.fx hsc) hO hsc ho
  have n2 : nM (rGive r m σ i k) = nM r := by unfold nM; rw [rGive_lo (by omega)]
  refine ⟨RelN.fx g1 (by have := hO.2.1; omega) (fun a a1 a2 hc k => ?_) (fun a a1 a2 hc k => ?_), g2.mu (fun a a1 a2 k => ?_), fun k hk => ?_⟩
  · unfold cGive; rw [mI_n (by omega), mI_An (by omega), fx_z hc]
  · unfold cGive; rw [mI_uI, mI_uI, mI_An (by omega), mI_An (by omega), fx_n hc]
  · unfold cGive
    rw [mI_n (by omega), mI_n (by omega)]
    by_cases ha : a = c + 3
    · subst ha
      rw [mI_A, mI_A, fx_n (by omega)]
    · rw [mI_An ha, mI_An ha, fx_n (by omega)]
  · unfold cGive; rw [mI_n (by omega), mI_An (by omega)]; exact h3 k hk
theorem relL_fault (h : RelL μ s c r tn) (hO : okR r) (hsc : s + 22 < c ∨ c + 4 < s) (ho : nF r < 10) : RelL (cFault μ s (nF r) m t i k) s c (rFault r m t i k) tn := by
  obtain ⟨h1, h2, h3⟩ := h
  obtain ⟨g1, g2⟩ := rel_fault (m := m) (t := t) (i := i) (k := k) h1 (h2.fx hsc) hO hsc ho
  have n2 : nM (rFault r m t i k) = nM r := by unfold nM; rw [rFault_lo (by omega)]
  refine ⟨RelN.fx g1 (by have := hO.2.1; omega) (fun a a1 a2 hc k => ?_) (fun a a1 a2 hc k => ?_), g2.mu (fun a a1 a2 k => ?_), fun k hk => ?_⟩
  · unfold cFault; rw [mI_n (by omega), mI_An (by omega), fx_z hc]
  · unfold cFault; rw [mI_uI, mI_uI]
    by_cases ha : a = s + 4
    · subst ha
      rw [mI_A, mI_A, fx_n hc]
    · rw [mI_An ha, mI_An ha, fx_n hc]
  · unfold cFault
    rw [mI_n (by omega), mI_n (by omega), mI_An (by omega), mI_An (by omega), fx_n (by omega)]
  · unfold cFault; rw [mI_n (by omega), mI_An (by omega)]; exact h3 k hk
theorem relL_seal (h : RelL μ s c r tn) (hO : okR r) (hR : RN2 r) (hsc : s + 22 < c ∨ c + 4 < s) (hT : nT r < 40) : RelL (cSeal μ s c (nT r) (nO r) (sF r)) s c (rSeal r) tn := by
  obtain ⟨h1, h2, h3⟩ := h
  obtain ⟨g1, g2⟩ := rel_seal h1 (h2.fx hsc) hO hR hsc hT
  have n2 : nM (rSeal r) = nM r := by unfold nM; rw [rSeal_lo (by omega)]
  refine ⟨RelN.fx g1 (by have := hO.2.1; omega) (fun a a1 a2 hc k => ?_) (fun a a1 a2 hc k => ?_), g2.mu (fun a a1 a2 k => ?_), fun k hk => ?_⟩
  · unfold cSeal; rw [mI_n (by omega), mI_n (by omega), mI_An (by omega), mI_n (by omega), fx_z hc]
  · unfold cSeal; rw [mI_uI, mI_uI, mI_uI, mI_uI, mI_An (by omega), mI_An (by omega), mI_n (by omega), mI_n (by omega), fx_n hc]
  · unfold cSeal
    rw [mI_n (by omega), mI_n (by omega), mI_n (by omega), mI_n (by omega)]
    by_cases ha : a = c + 4
    · subst ha
      rw [mI_A, mI_A, fx_n (by omega)]
    · rw [mI_An ha, mI_An ha, mI_uI, mI_uI, fx_n (by omega)]
  · unfold cSeal; rw [mI_n (by omega), mI_n (by omega), mI_An (by omega), mI_n (by omega)]; exact h3 k hk
theorem relL_set (h : RelL μ s c r tn) (hO : okR r) (hi : i < 2) (hsc : s + 22 < c ∨ c + 4 < s) : RelL (uI μ (s + 2) i (nI v)) s c (rSet r i v) tn := by
  obtain ⟨h1, h2, h3⟩ := h
  obtain ⟨g1, g2⟩ := rel_set (v := v) h1 (h2.fx hsc) hO hi hsc
  have n2 : nM (rSet r i v) = nM r := by unfold nM rSet; rw [upd_n (by omega)]
  refine ⟨RelN.fx g1 (by have := hO.2.1; omega) (fun a a1 a2 hc k => ?_) (fun a a1 a2 hc k => ?_), g2.mu (fun a a1 a2 k => ?_), fun k hk => ?_⟩
  · rw [mI_n (by omega), fx_z hc]
  · rw [mI_uI, mI_uI, fx_n hc]
  · rw [mI_n (by omega), mI_n (by omega), fx_n (by omega)]
  · rw [mI_n (by omega)]; exact h3 k hk
theorem rJ1_k (hk : k < 64) : rJ1 r n p t (3 + 64 * n + k) = if k = 0 then nI p else if k = 1 then nI t else if k = 2 then nI 1 else if k = 6 then nI t else nI 0 := by
  unfold rJ1
  rw [upd_n (by omega)]
  by_cases h2 : k = 2
  · subst h2; rw [upd_s]; rfl
  · rw [upd_n (by omega)]
    by_cases h6 : k = 6
    · subst h6; rw [upd_s]; rfl
    · rw [upd_n (by omega)]
      by_cases h1 : k = 1
      · subst h1; rw [upd_s]; rfl
      · rw [upd_n (by omega)]
        by_cases h0 : k = 0
        · subst h0; rw [Nat.add_zero, upd_s]; rfl
        · rw [upd_n (by omega), if_neg h0, if_neg h1, if_neg h2, if_neg h6]
          unfold rJ0
          rw [if_pos (by omega)]
theorem AL.keep {r' : Nat → Int32} (h : AL r tn) (h1 : okR r') (h2 : RN2 r') (h3 : nM r' = nM r) (e : ∀ x, 3 ≤ x → x < 387 → r' x = r x) : AL r' tn := by
  obtain ⟨a1, a2, a3, a4, a5, a6⟩ := h
  have h6 := a1.2.1
  refine ⟨h1, h2, fun m hm => ?_, by rw [h3]; exact a4, a5, a6⟩
  rw [h3] at hm
  obtain ⟨b1, b2⟩ := a3 m hm
  have ev : ∀ k, k < 64 → rW r' m k = rW r m k := fun k hk => e _ (by omega) (by omega)
  exact ⟨by rw [ev 2 (by omega)]; exact b1, fun k hk k0 k2 => by rw [ev k hk]; exact b2 k hk k0 k2⟩
theorem AL.give (h : AL r tn) (hm : m < nM r) (hσ : σ < 6) (hi : i < 16) (hk : k < gOp σ) (ho : nO r < 8) : AL (rGive r m σ i k) tn := by
  obtain ⟨g1, g2, -, g4⟩ := ok_give h.1 h.2.1 hm hσ hi hk ho
  exact h.keep g1 g2 g4 (fun x h1 h2 => rGive_lo (by omega))
theorem AL.fault (h : AL r tn) (hm : m < nM r) (ht : t < 40) (hi : i < 16) (hk : k < 10000) (ho : nF r < 10) : AL (rFault r m t i k) tn := by
  obtain ⟨g1, g2, -, g4⟩ := ok_fault h.1 h.2.1 hm ht hi hk ho
  exact h.keep g1 g2 g4 (fun x h1 h2 => rFault_lo (by omega))
theorem AL.seal (h : AL r tn) (hT : nT r < 40) : AL (rSeal r) tn := by
  obtain ⟨g1, g2, -, g4, -⟩ := ok_seal h.1 h.2.1 hT
  exact h.keep g1 g2 g4 (fun x h1 h2 => rSeal_lo h2)
theorem AL.set (h : AL r tn) (hi : i < 2) (hv : 1 ≤ v) (hv2 : v ≤ gSet i) : AL (rSet r i v) tn := by
  obtain ⟨g1, g2, -, g4⟩ := ok_set h.1 h.2.1 hi hv hv2
  exact h.keep g1 g2 g4 (fun x h1 h2 => upd_n (by omega))
theorem AL.told (h : AL r tn) (hk : k < 16) (hv : v < 10000) : AL r (upd tn k (nI v)) := by
  obtain ⟨a1, a2, a3, a4, a5, a7, a6⟩ := h
  refine ⟨a1, a2, a3, fun m h1 h2 => by rw [upd_n (by omega)]; exact a4 m h1 h2, fun m hm => by rw [upd_n (by omega)]; exact a5 m hm, fun j hj => by rw [upd_n (by omega)]; exact a7 j hj, fun j hj => ?_⟩
  by_cases h : j = k
  · subst h; exact ⟨v, hv, upd_s⟩
  · rw [upd_n h]; exact a6 j hj
theorem AL.adm (h : AL r tn) (hn6 : nM r < 6) (hp : 1 ≤ p) (hp4 : p ≤ 4) (hw : w < 1073741824) : AL (rJ1 r (nM r) p 0) (upd tn (16 + nM r) (nI w)) := by
  obtain ⟨a1, a2, a3, a4, a5, a7, a6⟩ := h
  have hO := a1
  obtain ⟨o2, o6, o387, oT, o1708, oO, o1741, oF, o1, oq1, oq6, o0, ol1, ol40, oV, oN1, oP1, oF1⟩ := a1
  have lo : ∀ x, x < 2 ∨ 387 ≤ x → rJ1 r (nM r) p 0 x = r x := fun x hx => rJ1_n (by omega) (by omega)
  have old : ∀ m' k, m' < nM r → k < 64 → rW (rJ1 r (nM r) p 0) m' k = rW r m' k := fun m' k hm hk => rJ1_n (by omega) (by omega)
  have new : ∀ k, k < 64 → rW (rJ1 r (nM r) p 0) (nM r) k = if k = 0 then nI p else if k = 1 then nI 0 else if k = 2 then nI 1 else if k = 6 then nI 0 else nI 0 := fun k hk => rJ1_k hk
  have z0 : rW (rJ1 r (nM r) p 0) (nM r) 0 = nI p := new 0 (by omega)
  have z1 : rW (rJ1 r (nM r) p 0) (nM r) 1 = nI 0 := new 1 (by omega)
  have z2 : rW (rJ1 r (nM r) p 0) (nM r) 2 = nI 1 := new 2 (by omega)
  have z6 : rW (rJ1 r (nM r) p 0) (nM r) 6 = nI 0 := new 6 (by omega)
  have zk : ∀ k, k < 64 → k ≠ 0 → k ≠ 2 → rW (rJ1 r (nM r) p 0) (nM r) k = nI 0 := fun k hk k0 k2 => by
    rw [new k hk, if_neg k0, if_neg k2]
    split
    · rfl
    · split <;> rfl
  have c2 : nM (rJ1 r (nM r) p 0) = nM r + 1 := by
    show (rJ1 r (nM r) p 0 2).toNatClampNeg = _
    rw [rJ1_2]; exact nI_clamp (by omega)
  have c3 : nT (rJ1 r (nM r) p 0) = nT r := by unfold nT; rw [lo _ (by omega)]
  have c4 : nO (rJ1 r (nM r) p 0) = nO r := by unfold nO; rw [lo _ (by omega)]
  have c5 : nF (rJ1 r (nM r) p 0) = nF r := by unfold nF; rw [lo _ (by omega)]
  have c6 : nQ (rJ1 r (nM r) p 0) = nQ r := by unfold nQ; rw [lo _ (by omega)]
  have c7 : nL (rJ1 r (nM r) p 0) = nL r := by unfold nL; rw [lo _ (by omega)]
  refine ⟨⟨by rw [c2]; exact rJ1_2, by omega, by rw [c3, lo _ (by omega)]; exact o387, by omega, by rw [c4, lo _ (by omega)]; exact o1708, by omega, by rw [c5, lo _ (by omega)]; exact o1741, by omega, by rw [c6, lo _ (by omega)]; exact o1, by omega, by omega, by rw [c7, lo _ (by omega)]; exact o0, by omega, by omega, ?_, ?_, okP_eq oP1 oT oO c3 c4 (fun x h1 h2 => lo _ (by omega)), ?_⟩, ⟨fun x hx => by rw [lo _ (by omega)]; exact a2.1 x hx, okW_eq a2.2 oP1 oT oO c3 c4 (fun x h1 h2 => lo _ (by omega))⟩, ?_, ?_, ?_, fun j hj => by rw [upd_n (by omega)]; exact a7 j hj, ?_⟩
  · intro m' hm'
    rw [c2] at hm'
    by_cases hmm : m' = nM r
    · subst hmm
      rw [z1, z2, z6]
      exact ⟨Or.inr rfl, nI_le (by omega) (by omega), Int32.le_refl _, nI_le (by omega) (by omega)⟩
    · rw [old m' 2 (by omega) (by omega), old m' 6 (by omega) (by omega), old m' 1 (by omega) (by omega)]
      exact oV m' (by omega)
  · intro m' hm'
    rw [c2] at hm'
    by_cases hmm : m' = nM r
    · subst hmm
      rw [z1, z0, c3]
      exact ⟨nI_le (by omega) (by omega), ⟨p, hp, hp4, rfl⟩, fun c hc => ⟨0, by omega, zk _ (by omega) (by omega) (by omega)⟩⟩
    · obtain ⟨g1, g2, g3⟩ := oN1 m' (by omega)
      rw [old m' 1 (by omega) (by omega), old m' 0 (by omega) (by omega), c3]
      exact ⟨g1, g2, fun c hc => by rw [old m' _ (by omega) (by omega)]; exact g3 c hc⟩
  · intro k hk
    rw [c5] at hk
    rw [lo _ (by omega), lo _ (by omega), lo _ (by omega), lo _ (by omega)]
    exact oF1 k hk
  · intro m' hm'
    rw [c2] at hm'
    by_cases hmm : m' = nM r
    · subst hmm
      exact ⟨z2, zk⟩
    · obtain ⟨b1, b2⟩ := a3 m' (by omega)
      exact ⟨by rw [old m' 2 (by omega) (by omega)]; exact b1, fun k hk k0 k2 => by rw [old m' k (by omega) hk]; exact b2 k hk k0 k2⟩
  · intro m' h1 h2
    rw [c2] at h1
    rw [upd_n (by omega)]
    exact a4 m' (by omega) h2
  · intro m' hm'
    by_cases hmm : m' = nM r
    · subst hmm; exact ⟨w, hw, upd_s⟩
    · rw [upd_n (by omega)]; exact a5 m' hm'
  · intro k hk
    rw [upd_n (by omega)]; exact a6 k hk
theorem relL_adm (h : RelL μ s c r tn) (hO : okR r) (hsc : s + 22 < c ∨ c + 4 < s) (hn6 : nM r < 6) : RelL (cAdm μ s (nM r) p 0 x) s c (rJ1 r (nM r) p 0) (upd tn (16 + nM r) x) := by
  obtain ⟨⟨⟨b1, b2, b3, b4, b5, b6, b7, b8⟩, b9⟩, h2, h3⟩ := h
  have hO0 := hO
  have hV := b7.ok' hO.2.2.2.2.2.2.2.2.2.2.2.2.2.2.1
  obtain ⟨o2, o6, o387, oT, o1708, oO, o1741, oF, o1, oq1, oq6, o0, ol1, ol40, oV, oN1, oP1, oF1⟩ := hO
  have lo : ∀ x, x < 2 ∨ 387 ≤ x → rJ1 r (nM r) p 0 x = r x := fun x hx => rJ1_n (by omega) (by omega)
  have c2 : nM (rJ1 r (nM r) p 0) = nM r + 1 := by
    show (rJ1 r (nM r) p 0 2).toNatClampNeg = _
    rw [rJ1_2]; exact nI_clamp (by omega)
  have c5 : nF (rJ1 r (nM r) p 0) = nF r := by unfold nF; rw [lo _ (by omega)]
  have old : ∀ m' k, m' < nM r → k < 64 → rW (rJ1 r (nM r) p 0) m' k = rW r m' k := fun m' k hm hk => rJ1_n (by omega) (by omega)
  have new : ∀ k, k < 64 → rW (rJ1 r (nM r) p 0) (nM r) k = if k = 0 then nI p else if k = 1 then nI 0 else if k = 2 then nI 1 else if k = 6 then nI 0 else nI 0 := fun k hk => rJ1_k hk
  have fn : ∀ a, ¬ CRs s a → a ≠ s + 5 + 3 * nM r → ∀ k, (a ≠ s ∨ k ≠ 1) → mI (fxH (cAdm μ s (nM r) p 0 x) s) a k = mI (fxH μ s) a k := fun a h1 h2 k h3 => by
    rw [fx_n h1, fx_n h1, cAdm_n h2 h3]
  have fo : ∀ m', m' < nM r → ∀ k, cV (fxH (cAdm μ s (nM r) p 0 x) s) s m' k = cV (fxH μ s) s m' k := fun m' hm k => by
    have e1 : mI (fxH (cAdm μ s (nM r) p 0 x) s) (s + 5 + 3 * m') = mI (fxH μ s) (s + 5 + 3 * m') := by
      funext j; exact fn _ (by omega) (by omega) _ (by omega)
    have e2 : mI (fxH (cAdm μ s (nM r) p 0 x) s) (s + 6 + 3 * m') = mI (fxH μ s) (s + 6 + 3 * m') := by
      funext j; rw [fx_z (by omega), fx_z (by omega)]
    have e3 : mI (fxH (cAdm μ s (nM r) p 0 x) s) (s + 7 + 3 * m') = mI (fxH μ s) (s + 7 + 3 * m') := by
      funext j; rw [fx_z (by omega), fx_z (by omega)]
    unfold cV
    rw [e1, e2, e3]
  have nw : ∀ k, mI (fxH (cAdm μ s (nM r) p 0 x) s) (s + 5 + 3 * nM r) k = mI (cAdm μ s (nM r) p 0 x) (s + 5 + 3 * nM r) k := fun k => by rw [fx_n (by omega)]
  refine ⟨⟨⟨?_, ?_, ?_, ?_, ?_, ?_, ?_, ?_⟩, ?_⟩, (h2.mu (fun a a1 a2 k => cAdm_n (by omega) (by omega))).eq hO0 (fun x h1 h2 => lo x (by omega)), fun k hk => ?_⟩
  · rw [fx_n (by omega), rJ1_2]; unfold cAdm; rw [mI_s]
  · rw [fn s (by omega) (by omega) 2 (by omega), lo _ (by omega)]; exact b2
  · rw [fn s (by omega) (by omega) 3 (by omega), lo _ (by omega)]; exact b3
  · rw [fn (s + 3) (by omega) (by omega) 1 (by omega), lo _ (by omega)]; exact b4
  · rw [fn (s + 2) (by omega) (by omega) 0 (by omega), lo _ (by omega)]; exact b5
  · rw [fn (s + 2) (by omega) (by omega) 1 (by omega), lo _ (by omega)]; exact b6
  · intro m' hm'
    rw [c2] at hm'
    by_cases hmm : m' = nM r
    · subst hmm
      have kk : ∀ k, k < 7 → cV (fxH (cAdm μ s (nM r) p 0 x) s) s (nM r) k = rW (rJ1 r (nM r) p 0) (nM r) k := fun k hk => by
        rw [new k (by omega)]
        unfold cV
        simp only [nw]
        unfold cAdm
        rcases (by omega : k = 0 ∨ k = 1 ∨ k = 2 ∨ k = 3 ∨ k = 4 ∨ k = 5 ∨ k = 6) with rfl | rfl | rfl | rfl | rfl | rfl | rfl <;> simp (disch := omega) only [mI_n, mI_s] <;> rfl
      have kz : ∀ k, 7 ≤ k → cV (fxH (cAdm μ s (nM r) p 0 x) s) s (nM r) k = nI 0 := fun k hk => by
        unfold cV
        rw [if_neg (by omega), if_neg (by omega), if_neg (by omega), if_neg (by omega), if_neg (by omega), if_neg (by omega), if_neg (by omega)]
        split
        · exact fx_z (by omega)
        · exact fx_z (by omega)
      have nz : ∀ k, 7 ≤ k → k < 64 → rW (rJ1 r (nM r) p 0) (nM r) k = nI 0 := fun k hk hk2 => by
        rw [new k hk2, if_neg (by omega), if_neg (by omega), if_neg (by omega), if_neg (by omega)]
      refine ⟨fun k hk => ?_, fun t ht => ?_⟩
      · by_cases h7 : k < 7
        · exact kk k h7
        · rw [kz k (by omega), nz k (by omega) (by omega)]
      · unfold vHas at ht
        rw [kk 6 (by omega), kk 1 (by omega), new 6 (by omega), new 1 (by omega)] at ht
        obtain ⟨j, hj, rfl⟩ := t40 ht.1 (Int32.le_trans ht.2 (show nI 0 ≤ nI 40 by decide))
        unfold vRec
        rw [nI_clamp (by omega), kz _ (by omega), nz _ (by omega) (by omega)]
    · obtain ⟨v1, v2⟩ := b7 m' (by omega)
      obtain ⟨w1, w2, w3, w4⟩ := hV m' (by omega)
      refine ⟨fun k hk => by rw [fo m' (by omega), old m' k (by omega) (by omega)]; exact v1 k hk, fun t ht => ?_⟩
      have ht' : vHas (cV (fxH μ s) s) m' t := by
        unfold vHas at ht ⊢
        rw [fo m' (by omega), fo m' (by omega)] at ht
        exact ht
      obtain ⟨j, hj, rfl⟩ := t40 (Int32.le_trans w2 ht'.1) (Int32.le_trans ht'.2 w4)
      have := v2 (nI j) ht'
      unfold vRec at this ⊢
      rw [nI_clamp (by omega)] at this ⊢
      rw [fo m' (by omega), old m' _ (by omega) (by omega)]
      exact this
  · intro k hk
    rw [c5] at hk
    rw [fn (s + 4) (by omega) (by omega) k (by omega), lo _ (by omega)]
    exact b8 k hk
  · intro m' hm'
    rw [c2] at hm'
    by_cases hmm : m' = nM r
    · subst hmm
      rw [nw, upd_s]
      unfold cAdm
      simp (disch := omega) only [mI_n, mI_s]
    · rw [fn _ (by omega) (by omega) _ (by omega), upd_n (by omega)]
      exact b9 m' (by omega)
  · rw [cAdm_n (by omega) (by omega), upd_n (by omega)]
    exact h3 k hk
end Fx


