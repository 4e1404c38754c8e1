/-! reading: the reference's statements, the start and all -/
section RowW
variable {f : Nat → Nat} {t : TK}
theorem wIx_s0 (h : isW f t (txB 0)) : wIx f t Stm6 0 = nI 0 := if_pos h
theorem wIx_s1 (h0 : ¬ isW f t (txB 0)) (h : isW f t (txB 1)) : wIx f t Stm6 0 = nI 1 := (if_neg h0).trans (if_pos h)
theorem wIx_s2 (h0 : ¬ isW f t (txB 0)) (h1 : ¬ isW f t (txB 1)) (h : isW f t (txB 2)) : wIx f t Stm6 0 = nI 2 := (if_neg h0).trans ((if_neg h1).trans (if_pos h))
theorem wIx_s3 (h0 : ¬ isW f t (txB 0)) (h1 : ¬ isW f t (txB 1)) (h2 : ¬ isW f t (txB 2)) (h : isW f t (txB 9)) : wIx f t Stm6 0 = nI 3 := (if_neg h0).trans ((if_neg h1).trans ((if_neg h2).trans (if_pos h)))
theorem wIx_s4 (h0 : ¬ isW f t (txB 0)) (h1 : ¬ isW f t (txB 1)) (h2 : ¬ isW f t (txB 2)) (h3 : ¬ isW f t (txB 9)) (h : isW f t (txB 10)) : wIx f t Stm6 0 = nI 4 := (if_neg h0).trans ((if_neg h1).trans ((if_neg h2).trans ((if_neg h3).trans (if_pos h))))
theorem wIx_s5 (h0 : ¬ isW f t (txB 0)) (h1 : ¬ isW f t (txB 1)) (h2 : ¬ isW f t (txB 2)) (h3 : ¬ isW f t (txB 9)) (h4 : ¬ isW f t (txB 10)) (h : isW f t (txB 11)) : wIx f t Stm6 0 = nI 5 := (if_neg h0).trans ((if_neg h1).trans ((if_neg h2).trans ((if_neg h3).trans ((if_neg h4).trans (if_pos h)))))
theorem wIx_sn (h0 : ¬ isW f t (txB 0)) (h1 : ¬ isW f t (txB 1)) (h2 : ¬ isW f t (txB 2)) (h3 : ¬ isW f t (txB 9)) (h4 : ¬ isW f t (txB 10)) (h5 : ¬ isW f t (txB 11)) : wIx f t Stm6 0 = -1 := (if_neg h0).trans ((if_neg h1).trans ((if_neg h2).trans ((if_neg h3).trans ((if_neg h4).trans (if_neg h5)))))
end RowW
section RstM2
variable {d : Nat} {Q : Po} {μ : Mu} {f : Nat → Nat} {g F T : Nat → Int32} {L hs gs sm m n σ i k p w : Nat} {ep x : Int32} {t : TK}
/-- one statement and its semicolon -/
def rdOneE (f : Nat → Nat) (L : Nat) (z : RE) : RE := match z with
  | .inl e => .inl e
  | .inr z => if z.2.2.2.2.1 = 3 then .inr (z.1, z.2.1, z.2.2.1, z.2.2.2.1, nx f L z.2.2.2.2) else .inl (-11, z.2.2.2.2.2)
def rdOne (f : Nat → Nat) (L : Nat) (r tn : Nat → Int32) (hs gs : Nat) (t : TK) : RE := rdOneE f L (rdStm f L r tn hs gs t)
/-- what a step keeps -/
def okE (e : Int32) : Prop := e = -11 ∨ e = -12 ∨ e = -13 ∨ e = -14 ∨ e = -15
def okRE (f : Nat → Nat) (L a : Nat) (z : RE) : Prop := match z with
  | .inl e => okE e.1 ∧ e.2.2.2 ≤ 1000009
  | .inr z => AL z.1 z.2.1 ∧ okTk f L z.2.2.2.2 ∧ z.2.2.1 ≤ 1 ∧ z.2.2.2.1 < 4 ∧ a ≤ z.2.2.2.2.2.1
end RstM2
section OkRd
variable {f : Nat → Nat} {r tn : Nat → Int32} {L hs gs a m σ i w tt : Nat} {t t1 : TK}
theorem okE_I {lo hi : Nat} (h : ¬ ckI lo hi t = nI 0) : okE (ckI lo hi t) := by
  unfold ckI at h ⊢
  split
  · split
    · rename_i h1 h2
      rw [if_pos h1, if_pos h2] at h
      exact absurd rfl h
    · exact Or.inr (Or.inl rfl)
  · exact Or.inl rfl
theorem okE_M {n : Nat} (h : ¬ ckM f tn n t = nI 0) : okE (ckM f tn n t) := by
  unfold ckM at h ⊢
  split
  · split
    · exact Or.inr (Or.inr (Or.inl rfl))
    · rename_i h1 h2
      rw [if_pos h1, if_neg h2] at h
      exact absurd rfl h
  · exact Or.inl rfl
theorem okE_11 : okE (-11) := Or.inl rfl
theorem okE_14 : okE (-14) := Or.inr (Or.inr (Or.inr (Or.inl rfl)))
theorem okE_15 : okE (-15) := Or.inr (Or.inr (Or.inr (Or.inr rfl)))
theorem okE_n {e : Int32} (h : okE e) : ¬ e = nI 0 ∧ e < nI 0 := by
  rcases h with rfl | rfl | rfl | rfl | rfl <;> decide
theorem okTk.v (h : okTk f L t) : t.2.2.2 ≤ 1000009 := h.2.2.2.2.2.2.2
theorem ok_up (ht : okTk f L t) (h : a ≤ t.2.1) : okTk f L (nx f L t) ∧ a ≤ (nx f L t).2.1 := by
  have := ok_nx ht
  have := ht.2.1
  exact ⟨(ok_nx ht).1, by omega⟩
theorem ok_stB (hA : ∀ n v, n < 16 → v < 10000 → ∀ tn, AL r tn → AL r (upd tn n (nI v))) (hg : gs < 4) : ∀ F n tn t, n + F = 17 → n ≤ 16 → AL r tn → okTk f L t → a ≤ t.2.1 → okRE f L a (rdStaE r gs (stB f L F n tn t)) := by
  intro F
  induction F with
  | zero => intro n tn t h1 h2; omega
  | succ F ih =>
    intro n tn t h1 h2 hT ht ha
    rw [stB]
    obtain ⟨k1, k2⟩ := ok_up ht ha
    by_cases c1 : ckI 0 9999 t = nI 0
    · rw [if_pos c1]
      obtain ⟨v1, v2, v3⟩ := ckI_t.mp c1
      by_cases c2 : n = 16
      · rw [if_pos c2]; exact ⟨okE_15, ht.v⟩
      · rw [if_neg c2]
        have hT2 := hA n t.2.2.2 (by omega) (by omega) tn hT
        by_cases c3 : (nx f L t).1 = 2
        · rw [if_pos c3]
          exact ih (n + 1) _ _ (by omega) (by omega) hT2 k1 k2
        · rw [if_neg c3]
          exact ⟨hT2, k1, Nat.le_refl _, hg, k2⟩
    · rw [if_neg c1]; exact ⟨okE_I c1, ht.v⟩
theorem ok_rdSta (hA : AL r tn) (ht : okTk f L t) (hg : gs < 4) : okRE f L t.2.2.1 (rdSta f L r tn hs gs t) := by
  unfold rdSta
  obtain ⟨k1, k2⟩ := ok_nx ht
  split
  · exact ⟨okE_14, ht.v⟩
  · exact ok_stB (fun n v hn hv tn h => h.told hn hv) hg 17 0 tn _ (by omega) (by omega) hA k1 k2
theorem ok_rdMem (hA : AL r tn) (ht : okTk f L t) (hh : hs ≤ 1) (hg : gs < 4) : okRE f L t.2.2.1 (rdMem f L r tn hs gs t) := by
  unfold rdMem
  obtain ⟨k1, a1⟩ := ok_nx ht
  have n6 := hA.1.2.1
  split
  · exact ⟨okE_15, ht.v⟩
  · unfold rdMem1
    split
    · rename_i c2
      split
      · unfold rdMem2
        obtain ⟨k2, a2⟩ := ok_up k1 a1
        obtain ⟨k3, a3⟩ := ok_up k2 a2
        split
        · rename_i c4
          obtain ⟨v1, v2, v3⟩ := ckI_t.mp c4
          exact ⟨hA.adm (by omega) v2 v3 (nmQ_lt k1 c2.1).1, k3, hh, hg, a3⟩
        · rename_i c4; exact ⟨okE_I c4, k2.v⟩
      · exact ⟨okE_14, k1.v⟩
    · exact ⟨okE_11, k1.v⟩
theorem ok_rdCom (hA : AL r tn) (ht : okTk f L t) (hh : hs ≤ 1) (hg : gs < 4) : okRE f L t.2.2.1 (rdCom f L r tn hs gs t) := by
  unfold rdCom
  obtain ⟨k1, a1⟩ := ok_nx ht
  obtain ⟨k2, a2⟩ := ok_up k1 a1
  obtain ⟨k3, a3⟩ := ok_up k2 a2
  obtain ⟨k4, a4⟩ := ok_up k3 a3
  obtain ⟨k5, a5⟩ := ok_up k4 a4
  have n6 := hA.1.2.1
  have oO := hA.1.2.2.2.2.2.1
  split
  · exact ⟨okE_15, ht.v⟩
  · rename_i c0
    unfold rdCom1
    split
    · rename_i c2
      obtain ⟨m, m1, m2⟩ := fnd_c (ckM_t.mp c2).2
      rw [m2, nI_clamp (by omega)]
      unfold rdCom2
      split
      · exact ⟨okE_11, k2.v⟩
      · rename_i c3
        obtain ⟨σ, σ1, σ2⟩ := wIx_6 c3
        rw [σ2, nI_clamp (by omega)]
        have hgo := gOp_le σ
        unfold rdCom3
        split
        · rename_i c4
          obtain ⟨v1, v2, v3⟩ := ckI_t.mp c4
          unfold rdCom4
          split
          · rename_i c5
            obtain ⟨w1, w2, w3⟩ := ckI_t.mp c5
            exact ⟨hA.give m1 σ1 (by omega) (by omega) (by omega), k5, hh, hg, a5⟩
          · rename_i c5; exact ⟨okE_I c5, k4.v⟩
        · rename_i c4; exact ⟨okE_I c4, k3.v⟩
    · rename_i c2; exact ⟨okE_M c2, k1.v⟩
theorem ok_rdSea (hA : AL r tn) (ht : okTk f L t) (hh : hs ≤ 1) (hg : gs < 4) : okRE f L t.2.2.1 (rdSea f L r tn hs gs t) := by
  unfold rdSea
  obtain ⟨k1, a1⟩ := ok_nx ht
  have oT := hA.1.2.2.2.1
  split
  · exact ⟨okE_15, ht.v⟩
  · exact ⟨hA.seal (by omega), k1, hh, hg, a1⟩
theorem ok_rdFau (hA : AL r tn) (ht : okTk f L t) (hh : hs ≤ 1) (hg : gs < 4) : okRE f L t.2.2.1 (rdFau f L r tn hs gs t) := by
  unfold rdFau
  obtain ⟨k1, a1⟩ := ok_nx ht
  obtain ⟨k2, a2⟩ := ok_up k1 a1
  obtain ⟨k3, a3⟩ := ok_up k2 a2
  obtain ⟨k4, a4⟩ := ok_up k3 a3
  obtain ⟨k5, a5⟩ := ok_up k4 a4
  have n6 := hA.1.2.1
  have oF := hA.1.2.2.2.2.2.2.2.1
  split
  · exact ⟨okE_15, ht.v⟩
  · rename_i c0
    unfold rdFau1
    split
    · rename_i c2
      obtain ⟨m, m1, m2⟩ := fnd_c (ckM_t.mp c2).2
      rw [m2, nI_clamp (by omega)]
      unfold rdFau2
      split
      · rename_i c3
        obtain ⟨u1, u2, u3⟩ := ckI_t.mp c3
        unfold rdFau3
        split
        · rename_i c4
          obtain ⟨v1, v2, v3⟩ := ckI_t.mp c4
          unfold rdFau4
          split
          · rename_i c5
            obtain ⟨w1, w2, w3⟩ := ckI_t.mp c5
            exact ⟨hA.fault m1 (by omega) (by omega) (by omega) (by omega), k5, hh, hg, a5⟩
          · rename_i c5; exact ⟨okE_I c5, k4.v⟩
        · rename_i c4; exact ⟨okE_I c4, k3.v⟩
      · rename_i c3; exact ⟨okE_I c3, k2.v⟩
    · rename_i c2; exact ⟨okE_M c2, k1.v⟩
theorem ok_rdSet (hA : AL r tn) (ht : okTk f L t) (hh : hs ≤ 1) (hg : gs < 4) : okRE f L t.2.2.1 (rdSet f L r tn hs gs t) := by
  unfold rdSet rdSet1
  obtain ⟨k1, a1⟩ := ok_nx ht
  obtain ⟨k2, a2⟩ := ok_up k1 a1
  obtain ⟨k3, a3⟩ := ok_up k2 a2
  split
  · exact ⟨okE_11, k1.v⟩
  · rename_i c3
    obtain ⟨w, w1, w2⟩ := wIx_2 c3
    rw [w2, nI_clamp (by omega)]
    unfold rdSet2
    split
    · exact ⟨okE_14, k1.v⟩
    · unfold rdSet3
      split
      · rename_i c4
        obtain ⟨v1, v2, v3⟩ := ckI_t.mp c4
        have h2 : 2 ^ w < 2 ^ 2 := Nat.pow_lt_pow_right (by omega) w1
        exact ⟨hA.set w1 v2 v3, k3, hh, Nat.or_lt_two_pow (n := 2) hg h2, a3⟩
      · rename_i c4; exact ⟨okE_I c4, k2.v⟩
theorem ok_rdStm (hA : AL r tn) (ht : okTk f L t) (hh : hs ≤ 1) (hg : gs < 4) : okRE f L t.2.2.1 (rdStm f L r tn hs gs t) := by
  unfold rdStm
  split
  · exact ok_rdSta hA ht hg
  · split
    · exact ok_rdMem hA ht hh hg
    · split
      · exact ok_rdCom hA ht hh hg
      · split
        · exact ok_rdSea hA ht hh hg
        · split
          · exact ok_rdFau hA ht hh hg
          · split
            · exact ok_rdSet hA ht hh hg
            · exact ⟨okE_11, ht.v⟩
theorem ok_rdOne (hA : AL r tn) (ht : okTk f L t) (hh : hs ≤ 1) (hg : gs < 4) (h0 : ¬ t.1 = 0) : okRE f L (t.2.1 + 1) (rdOne f L r tn hs gs t) := by
  have h := ok_rdStm hA ht hh hg
  have hlt := ht.2.2.2.1 h0
  unfold rdOne
  generalize rdStm f L r tn hs gs t = z at *
  cases z with
  | inl e => exact h
  | inr z =>
    obtain ⟨h1, h2, h3, h4, h5⟩ := h
    show okRE f L (t.2.1 + 1) (if z.2.2.2.2.1 = 3 then _ else _)
    split
    · obtain ⟨k1, k2⟩ := ok_up h2 (show t.2.1 + 1 ≤ z.2.2.2.2.2.1 by omega)
      exact ⟨h1, k1, h3, h4, k2⟩
    · exact ⟨okE_11, h2.v⟩
end OkRd
section RstM3
variable {d : Nat} {Q : Po} {μ : Mu} {f : Nat → Nat} {g F T : Nat → Int32} {L hs gs sm m n σ i k p w : Nat} {ep x : Int32} {t : TK}
end RstM3


