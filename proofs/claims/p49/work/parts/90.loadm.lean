/-! loading in the reference -/
def PLm (a : Nat) : Prop := a = 1298 ∨ a = 1300 ∨ a = 1301 ∨ a = 1302 ∨ a = 1303 ∨ a = 1305 ∨ a = 1306
section LoM
variable {d : Nat} {Q : Po} {μ μ' μ1 B : Mu} {f : Nat → Nat} {g F r tn R T : Nat → Int32} {L n a b k v m c N sm gs hs : Nat} {x rt ep er : Int32} {t : TK} {z : RS} {l1 l2 l3 : Option Value}
def PoLm (μ : Mu) (Q : Po) (z : (Int32 × Nat × Nat × Nat) ⊕ (Nat × RS)) : Prop := match z with
  | .inl e => ∀ μ', Fr PLm μ μ' → mI μ' 1302 = mI μ 1302 → mI μ' 1300 = mI μ 1300 → mI μ' 1298 2 = nI 0 → mI μ' 1298 8 = mI μ 1298 8 → mI μ' 1298 18 = nI e.2.2.2 → mI μ' 1298 21 = nI e.2.1 → mI μ' 1298 26 = mI μ 1298 26 → Q (some (some (.int e.1))) μ'
  | .inr z => ∀ μ', Fr PLm μ μ' → mI μ' 1302 = rBg z.2.1 z.2.2.1 (rtT z.2.2.1) (nM z.2.1) → mI μ' 1300 = z.2.2.1 → mI μ' 1298 2 = nI 0 → mI μ' 1298 8 = nI 0 → mI μ' 1298 18 = nI z.2.2.2.2.2.2.2.2 → mI μ' 1298 21 = -1 → mI μ' 1298 26 = mI μ 1298 26 → Q (some (some (.int (nI z.1)))) μ'
theorem rZ_eq (hR : RN r) : upd (upd (fil (fun _ => nI 0) r 1782) 0 (nI 40)) 1 (nI 2) = rZ := by
  funext x
  unfold upd fil rZ
  by_cases h1 : x = 1
  · rw [if_pos h1, if_neg (by omega), if_pos h1]
  · rw [if_neg h1]
    by_cases h0 : x = 0
    · rw [if_pos h0, if_pos h0]
    · rw [if_neg h0, if_neg h0, if_neg h1]
      by_cases h2 : x < 1782
      · rw [if_pos h2]
      · rw [if_neg h2]; exact hR x (by omega)
theorem md_any {g : Nat → Int32} (hv : g 18 = nI v) : upd (upd (upd (upd (upd (upd g 14 (nI L)) 15 (nI 0)) 19 (nI 0)) 22 (nI 0)) 23 (nI 0)) 24 (nI 0) = mdG g L 0 (g 16).toBitVec.toNat (g 17).toBitVec.toNat v (nI 0) (g 20) 0 0 0 := by
  funext j
  unfold upd mdG
  by_cases h14 : j = 14
  · subst h14; rfl
  · by_cases h15 : j = 15
    · subst h15; rfl
    · by_cases h16 : j = 16
      · subst h16; exact (nI_u _).symm
      · by_cases h17 : j = 17
        · subst h17; exact (nI_u _).symm
        · by_cases h18 : j = 18
          · subst h18; exact hv
          · by_cases h19 : j = 19
            · subst h19; rfl
            · by_cases h20 : j = 20
              · subst h20; rfl
              · by_cases h22 : j = 22
                · subst h22; rfl
                · by_cases h23 : j = 23
                  · subst h23; rfl
                  · by_cases h24 : j = 24
                    · subst h24; rfl
                    · simp only [h14, h15, h16, h17, h18, h19, h20, h22, h23, h24, if_false]
theorem uA_c {r' t' : Nat → Int32} : uA (uA (uA (uA B 1302 R) 1300 T) 1302 r') 1300 t' = uA (uA B 1302 r') 1300 t' := by rw [uA_02, uA_A, uA_A]
theorem eR : mI (uA (uA B 1302 R) 1300 T) 1302 = R := by rw [mI_Anf (by omega), mI_Af]
theorem eT : mI (uA (uA B 1302 R) 1300 T) 1300 = T := mI_Af
/-- what the loop leaves -/
def PoB (L : Nat) (g : Nat → Int32) (ep : Int32) (B : Mu) (E : Mu → Prop) (z : (Int32 × Nat × Nat × Nat) ⊕ (Nat × RS)) : Prop := match z with
  | .inl e => ∀ r' tn' k sm ts hs, RN r' → (∀ j, 22 ≤ j → tn' j = 0) → E (uA (uA (uA B 1302 r') 1300 tn') 1298 (mdT g L (k, e.2) e.1 (nI e.2.1) sm ts hs))
  | .inr z => E (uA (uA (uA B 1302 z.2.1) 1300 z.2.2.1) 1298 (mdT g L z.2.2.2.2.2 (nI 0) ep z.1 z.2.2.2.2.1 z.2.2.2.1))
theorem rBg_s (hm : m < 6) : upd (xcF (rBg R T rt m) T m 16) (3 + 64 * m + (23 + 0)) rt = rBg R T rt (m + 1) := by
  funext x
  unfold upd xcF rBg
  by_cases h1 : x = 3 + 64 * m + (23 + 0)
  · rw [if_pos h1, if_neg (by omega), if_pos (by omega)]
  · rw [if_neg h1]
    by_cases h2 : 3 + 64 * m + 7 ≤ x ∧ x < 3 + 64 * m + 7 + 16
    · rw [if_pos h2, if_pos (by omega)]
      congr 1
      omega
    · rw [if_neg h2]
      by_cases h3 : 3 ≤ x ∧ x < 3 + 64 * m ∧ 7 ≤ (x - 3) % 64 ∧ (x - 3) % 64 < 23
      · rw [if_pos h3, if_pos (by omega)]
      · rw [if_neg h3]
        by_cases h4 : 3 ≤ x ∧ x < 3 + 64 * m ∧ (x - 3) % 64 = 23
        · rw [if_pos h4, if_neg (by omega), if_pos (by omega)]
        · rw [if_neg h4, if_neg (by omega), if_neg (by omega)]
theorem fil_back {r old r' : Nat → Int32} {N : Nat} (h : ∀ x, N ≤ x → r x = 0) (h' : ∀ x, N ≤ x → r' x = 0) : fil (fil r old N) r' N = r := by
  funext x
  unfold fil
  by_cases hx : x < N
  · rw [if_pos hx, if_pos hx]
  · rw [if_neg hx, h' x (by omega), h x (by omega)]
def mBs (μ : Mu) : Mu := uA (uA (uI μ 1298 0 (nI 0)) 1301 (fil (mI μ 1300) (mI μ 1301) 22)) 1303 (fil (mI μ 1302) (mI μ 1303) 1782)
theorem mS_mBs : mS (mBs μ) = mS μ := rfl
theorem mR_mBs : mR (mBs μ) = mR μ := rfl
theorem mBs_fr : Fr PLm μ (mBs μ) := by
  unfold mBs
  exact ((Fr.refl.iu (Or.inl rfl)).au (Or.inr (Or.inr (Or.inl rfl)))).au (Or.inr (Or.inr (Or.inr (Or.inr (Or.inl rfl)))))
theorem mBs_I (h1 : a ≠ 1298) (h2 : a ≠ 1301) (h3 : a ≠ 1303) : mI (mBs μ) a = mI μ a := by
  unfold mBs
  rw [mI_Anf h3, mI_Anf h2, mI_nf h1]
theorem mBs_98 : mI (mBs μ) 1298 = upd (mI μ 1298) 0 (nI 0) := by
  unfold mBs
  rw [mI_Anf (by omega), mI_Anf (by omega), mI_sf]
theorem mBs_1 : mI (mBs μ) 1301 = fil (mI μ 1300) (mI μ 1301) 22 := by
  unfold mBs
  rw [mI_Anf (by omega), mI_Af]
theorem mBs_3 : mI (mBs μ) 1303 = fil (mI μ 1302) (mI μ 1303) 1782 := by
  unfold mBs
  rw [mI_Af]
theorem uA_back {G r' t' : Nat → Int32} (hR : RN (mI μ 1302)) (hT : ∀ j, 22 ≤ j → mI μ 1300 j = 0) (hr : RN r') (ht : ∀ j, 22 ≤ j → t' j = 0) : uA (uA (uA (uA (uA (mBs μ) 1302 r') 1300 t') 1298 G) 1300 (mI μ 1300)) 1302 (mI μ 1302) = uA (mBs μ) 1298 G := by
  have e2 : mI (mBs μ) 1302 = mI μ 1302 := mBs_I (by omega) (by omega) (by omega)
  have e0 : mI (mBs μ) 1300 = mI μ 1300 := mBs_I (by omega) (by omega) (by omega)
  rw [uA_20, uA_28, uA_A, uA_02, uA_A, ← e2, ← e0, keepRT]
end LoM


