/-! healing: rows -/
section Bits2
variable {d : Nat} {Q : Po} {μ : Mu} {w : Nat}
theorem s_17 (h : w < 65536) : Ev (d + 1) 17 [.int (nI w)] μ Q = Q (some (some (.int (nI (pcN w))))) μ := by
  obtain ⟨a2, a6⟩ := bc_ok h
  have a1 : (w / 2 &&& 1431655765) ≤ w := Nat.le_trans Nat.and_le_left (Nat.div_le_self _ _)
  have b1 : bc1 w ≤ 65535 := by unfold bc1; omega
  have b2 : bc2 (bc1 w) ≤ 131070 := by
    generalize bc1 w = z at *
    unfold bc2
    have c1 : (z &&& 858993459) ≤ z := Nat.and_le_left
    have c2 : (z / 4 &&& 858993459) ≤ z / 4 := Nat.and_le_left
    omega
  have b3 : bc3 (bc2 (bc1 w)) ≤ 262140 := by
    generalize bc2 (bc1 w) = z at *
    unfold bc3
    have c1 : (z + z / 16 &&& 252645135) ≤ z + z / 16 := Nat.and_le_left
    omega
  have b4 : bc4 (bc3 (bc2 (bc1 w))) ≤ 524280 := by
    generalize bc3 (bc2 (bc1 w)) = z at *
    unfold bc4; omega
  have b5 : bc5 (bc4 (bc3 (bc2 (bc1 w)))) ≤ 1048560 := by
    generalize bc4 (bc3 (bc2 (bc1 w))) = z at *
    unfold bc5; omega
  have e1 : nI w - nI (w / 2 ^ 1 &&& 1431655765) = nI (bc1 w) := by rw [show (2 : Nat) ^ 1 = 2 from rfl, nI_sub a1]; rfl
  have e2 : ∀ i, nI ((i &&& 858993459) + (i / 2 ^ 2 &&& 858993459)) = nI (bc2 i) := fun i => rfl
  have e3 : ∀ i, nI (i + i / 2 ^ 4 &&& 252645135) = nI (bc3 i) := fun i => rfl
  have e4 : ∀ i, nI (i + i / 2 ^ 8) = nI (bc4 i) := fun i => rfl
  have e5 : ∀ i, nI (i + i / 2 ^ 16) = nI (bc5 i) := fun i => rfl
  rw [in_17, ← a2]
  unfold bcN
  simp (disch := omega) only [e_17_0, e_17_1, e_17_2, e_17_3, e_17_4, e_17_7, e_17_8, e_17_9, e_17_10, e_17_11, e_17_14, e_17_15, e_17_16, e_17_17, e_17_18, e_17_21, e_17_22, e_17_23, e_17_24, e_17_25, e_17_26, e_17_27, e_17_28, e_17_29, e_17_32, e_17_33, e_17_34, e_17_35, e_17_36, e_17_38, e_17_39, e_17_40, e_17_41, e_17_42, e_17_43, e_17_45, e_17_46, e_17_47, e_17_48, e_17_49, e_17_51, e_17_52, nI_ushr, nI_and, e1, nI_add, e2, e3, e4, e5]
end Bits2
/-! trees, when cells have been taken over -/
theorem tB_hi (T : Nat → Int32) : ∀ m, m ≤ 15 → ∀ k, 15 < k → tB T m k = T k
  | 0, _, k, _ => rfl
  | m + 1, hm, k, hk => by
    show upd (tB T m) (15 - m) _ k = _
    rw [upd_n (by omega)]
    exact tB_hi T m (by omega) k hk
theorem tB_nd (T : Nat → Int32) : ∀ m, m ≤ 15 → ∀ k, 15 - m < k → k ≤ 15 → tB T m k = tNode (tB T m) k
  | 0, _, k, h1, h2 => by omega
  | m + 1, hm, k, h1, h2 => by
    have hc : ∀ j, 15 - m < j → tB T (m + 1) j = tB T m j := fun j hj => upd_n (by omega)
    by_cases hk : k = 15 - m
    · have e1 : tB T (m + 1) k = tNode (tB T m) k := by rw [hk]; exact upd_s
      rw [e1]
      unfold tNode
      rw [hc (2 * k) (by omega), hc (2 * k + 1) (by omega)]
    · rw [hc k (by omega), tB_nd T m (by omega) k (by omega) h2]
      unfold tNode
      rw [hc (2 * k) (by omega), hc (2 * k + 1) (by omega)]
theorem fTree_nd {f old : Nat → Int32} {k : Nat} (h1 : 1 ≤ k) (h2 : k ≤ 15) : fTree f old k = tNode (fTree f old) k := tB_nd _ 15 (Nat.le_refl _) k (by omega) h2
theorem fTree_lf {f old : Nat → Int32} {c : Nat} (hc : c < 16) : fTree f old (16 + c) = tLeaf (f c) c := by
  unfold fTree
  rw [tB_hi _ 15 (Nat.le_refl _) _ (by omega)]
  unfold tA
  rw [if_pos (by omega), show 16 + c - 16 = c by omega]
theorem tNode_eq {T T' : Nat → Int32} {k : Nat} (h1 : T (2 * k) = T' (2 * k)) (h2 : T (2 * k + 1) = T' (2 * k + 1)) : tNode T k = tNode T' k := by
  unfold tNode
  rw [h1, h2]
theorem wS_bit (D : Nat → Bool) : ∀ n, n ≤ 32 → ∀ c, c < 16 → (wS D n).testBit c = (decide (16 + c < n) && (vis D (16 + c) && D (16 + c)))
  | 0, _, c, _ => by rw [wS]; simp
  | n + 1, hn, c, hc => by
    have ih := wS_bit D n (by omega) c hc
    have hlt := wS_lt D n
    rw [wS]
    by_cases h : 16 ≤ n ∧ (vis D n && D n) = true
    · rw [if_pos h]
      have e : wS D n + 2 ^ (n - 16) = 2 ^ (n - 16) ||| wS D n := by
        have := Nat.two_pow_add_eq_or_of_lt hlt 1
        rw [Nat.mul_one] at this
        rw [Nat.add_comm]; exact this
      rw [e, Nat.testBit_or, ih, Nat.testBit_two_pow]
      by_cases hcn : n - 16 = c
      · have : n = 16 + c := by omega
        subst this
        rw [h.2]
        simp
      · rw [decide_eq_false hcn, Bool.false_or]
        congr 1
        exact decide_eq_decide.mpr (by omega)
    · rw [if_neg h, Nat.add_zero, ih]
      by_cases hcn : n = 16 + c
      · subst hcn
        have : (vis D (16 + c) && D (16 + c)) = false := by
          cases hv : (vis D (16 + c) && D (16 + c)) with
          | false => rfl
          | true => exact absurd ⟨by omega, hv⟩ h
        rw [this, Bool.and_false, Bool.and_false]
      · congr 1
        exact decide_eq_decide.mpr (by omega)
/-- when the cells that differ have been taken over, the root is the other's -/
theorem heal_root {f g h : Nat → Int32} {old : Nat → Int32} (D : Nat → Bool) (hD : ∀ k, 1 ≤ k → k < 32 → D k = !decide (fTree f old k = fTree g old k)) (hh : ∀ c, c < 16 → h c = if (gS D 4 1).testBit c = true then g c else f c) : fTree h old 1 = fTree g old 1 := by
  have hbit : ∀ c, c < 16 → (gS D 4 1).testBit c = (vis D (16 + c) && D (16 + c)) := fun c hc => by
    rw [← wS_gS, wS_bit D 32 (by omega) c hc, decide_eq_true (by omega), Bool.true_and]
  have key1 : ∀ n k, k + n = 31 → 1 ≤ k → (vis D k && D k) = false → fTree h old k = fTree f old k := by
    intro n
    induction n using Nat.strongRecOn with
    | ind n ih =>
      intro k hk h1 hu
      by_cases h16 : 16 ≤ k
      · obtain ⟨c, rfl⟩ : ∃ c, k = 16 + c := ⟨k - 16, by omega⟩
        rw [fTree_lf (by omega), fTree_lf (by omega), hh c (by omega), hbit c (by omega), hu, if_neg Bool.false_ne_true]
      · rw [fTree_nd h1 (by omega), fTree_nd h1 (by omega)]
        refine tNode_eq (ih (31 - 2 * k) (by omega) (2 * k) (by omega) (by omega) ?_) (ih (31 - (2 * k + 1)) (by omega) (2 * k + 1) (by omega) (by omega) ?_)
        · rw [vis_c D h1 (by omega) (show 2 * k / 2 = k by omega), hu, Bool.false_and]
        · rw [vis_c D h1 (by omega) (show (2 * k + 1) / 2 = k by omega), hu, Bool.false_and]
  have key2 : ∀ n k, k + n = 31 → 1 ≤ k → vis D k = true → fTree h old k = fTree g old k := by
    intro n
    induction n using Nat.strongRecOn with
    | ind n ih =>
      intro k hk h1 hv
      cases hd : D k with
      | false =>
        rw [key1 n k hk h1 (by rw [hd, Bool.and_false])]
        have := hD k h1 (by omega)
        rw [hd] at this
        by_cases he : fTree f old k = fTree g old k
        · exact he
        · rw [decide_eq_false he] at this; cases this
      | true =>
        by_cases h16 : 16 ≤ k
        · obtain ⟨c, rfl⟩ : ∃ c, k = 16 + c := ⟨k - 16, by omega⟩
          rw [fTree_lf (by omega), fTree_lf (by omega), hh c (by omega), hbit c (by omega), hv, hd, if_pos (by rfl)]
        · rw [fTree_nd h1 (by omega), fTree_nd h1 (by omega)]
          refine tNode_eq (ih (31 - 2 * k) (by omega) (2 * k) (by omega) (by omega) ?_) (ih (31 - (2 * k + 1)) (by omega) (2 * k + 1) (by omega) (by omega) ?_)
          · rw [vis_c D h1 (by omega) (show 2 * k / 2 = k by omega), hv, hd]; rfl
          · rw [vis_c D h1 (by omega) (show (2 * k + 1) / 2 = k by omega), hv, hd]; rfl
  exact key2 30 1 (by omega) (by omega) (vis_1 D)
theorem fWr_comm (V : VW) (a b : Nat) : fWr V a b = fWr V b a := gS_eq (fun k h1 h2 => by
    show (!decide (fCk V a k = fCk V b k)) = (!decide (fCk V b k = fCk V a k))
    rw [decide_eq_decide.mpr ⟨Eq.symm, Eq.symm⟩]) 4 1 (by decide) (by decide)
theorem fGivP_cs {V : VW} {t root but : Int32} {k : Nat} : ((¬ nI k = but ∧ vAct V k ∧ V k 1 = t) ∧ fGivP V t root but (k + 1) = some k) ∨ fGivP V t root but (k + 1) = fGivP V t root but k := by
  rw [fGivP.eq_2]
  exact (Classical.em _).elim (fun c => Or.inl ⟨⟨c.1, c.2.1, c.2.2.1⟩, if_pos c⟩) (fun c => Or.inr (if_neg c))
theorem fGiv_some {V : VW} {n q : Nat} {t but : Int32} {j : Nat} (h : fGiv V n q t but = some j) : j < n ∧ ¬ nI j = but ∧ vAct V j ∧ V j 1 = t := by
  unfold fGiv at h
  split at h
  · cases h
  · have key : ∀ (root : Int32) k, fGivP V t root but k = some j → j < k ∧ ¬ nI j = but ∧ vAct V j ∧ V j 1 = t := by
      intro root k
      induction k with
      | zero => intro h; cases h
      | succ k ih =>
        intro h
        rcases fGivP_cs (V := V) (t := t) (root := root) (but := but) (k := k) with ⟨hc, e⟩ | e
        · rw [e] at h
          injection h with e2
          subst e2
          exact ⟨by omega, hc.1, hc.2.1, hc.2.2⟩
        · rw [e] at h
          obtain ⟨a, b⟩ := ih h
          exact ⟨by omega, b⟩
    exact key _ n h
def cpR (r : Nat → Int32) (m dn w k : Nat) : Nat → Int32 := fun x => if 3 + 64 * m + 7 ≤ x ∧ x < 3 + 64 * m + 7 + k ∧ w.testBit (x - (3 + 64 * m + 7)) = true then r (3 + 64 * dn + 7 + (x - (3 + 64 * m + 7))) else r x
def rHl (r : Nat → Int32) (m dn w t : Nat) : Nat → Int32 := upd (upd (upd (upd (cpR r m dn w 16) (3 + 64 * dn + 3) (r (3 + 64 * dn + 3) + nI (pcN w))) (3 + 64 * m + 4) (r (3 + 64 * m + 4) + nI (pcN w))) (3 + 64 * m + 5) (r (3 + 64 * m + 5) + nI 1)) (3 + 64 * m + (23 + t)) (r (3 + 64 * dn + (23 + t)))
def rHeal (r : Nat → Int32) (m dn : Nat) : Nat → Int32 := rHl r m dn (fWr (rW r) m dn) (nE (rW r) m)


