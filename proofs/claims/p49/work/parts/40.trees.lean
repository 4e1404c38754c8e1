/-! bits of numbers -/
theorem sh31 : ∀ k, k < 32 → (nI k &&& 31).toBitVec.smod 32#32 = BitVec.ofNat 32 k := by decide +kernel
theorem us31 : ∀ k, k < 32 → ((nI k).toUInt32 &&& Int32.toUInt32 31).toBitVec % 32#32 = BitVec.ofNat 32 k := by decide +kernel
theorem nI_bv (n : Nat) : (nI n).toBitVec = BitVec.ofNat 32 n := rfl
theorem nI_shl {a k : Nat} (hk : k < 32) : nI a <<< (nI k &&& 31) = nI (a * 2 ^ k) := by
  apply Int32.toBitVec_inj.mp
  have h : (nI a <<< (nI k &&& 31)).toBitVec = (nI a).toBitVec <<< ((nI k &&& 31).toBitVec.smod 32#32) := Int32.toBitVec_shiftLeft _ _
  rw [h, sh31 k hk, BitVec.shiftLeft_eq', nI_bv, nI_bv]
  apply BitVec.eq_of_toNat_eq
  rw [BitVec.toNat_shiftLeft, BitVec.toNat_ofNat, BitVec.toNat_ofNat, BitVec.toNat_ofNat, Nat.mod_eq_of_lt (show k < 2 ^ 32 by omega), Nat.shiftLeft_eq, Nat.mod_mul_mod]
theorem nI_shr {a k : Nat} (ha : a < 2147483648) (hk : k < 32) : nI a >>> (nI k &&& 31) = nI (a / 2 ^ k) := by
  apply Int32.toBitVec_inj.mp
  have hm : (BitVec.ofNat 32 a).msb = false := by
    rw [BitVec.msb_eq_decide, BitVec.toNat_ofNat]
    exact decide_eq_false (by omega)
  have h : (nI a >>> (nI k &&& 31)).toBitVec = (nI a).toBitVec.sshiftRight' ((nI k &&& 31).toBitVec.smod 32#32) := Int32.toBitVec_shiftRight _ _
  rw [h, sh31 k hk, nI_bv, nI_bv, BitVec.sshiftRight_eq', BitVec.sshiftRight_eq_of_msb_false hm]
  apply BitVec.eq_of_toNat_eq
  have h2 : a / 2 ^ k ≤ a := Nat.div_le_self _ _
  rw [BitVec.toNat_ushiftRight, BitVec.toNat_ofNat, BitVec.toNat_ofNat, BitVec.toNat_ofNat, Nat.mod_eq_of_lt (show k < 2 ^ 32 by omega), Nat.mod_eq_of_lt (show a < 2 ^ 32 by omega), Nat.shiftRight_eq_div_pow, Nat.mod_eq_of_lt (show a / 2 ^ k < 2 ^ 32 by omega)]
theorem ush_bv (x : Int32) {k : Nat} (hk : k < 32) : ((x.toUInt32 >>> ((nI k).toUInt32 &&& Int32.toUInt32 31)).toInt32).toBitVec = x.toBitVec >>> k := by
  have h : (x.toUInt32 >>> ((nI k).toUInt32 &&& Int32.toUInt32 31)).toBitVec = x.toUInt32.toBitVec >>> (((nI k).toUInt32 &&& Int32.toUInt32 31).toBitVec % 32#32) := UInt32.toBitVec_shiftRight _ _
  show (x.toUInt32 >>> ((nI k).toUInt32 &&& Int32.toUInt32 31)).toBitVec = _
  rw [h, us31 k hk, BitVec.ushiftRight_eq', BitVec.toNat_ofNat, Nat.mod_eq_of_lt (show k < 2 ^ 32 by omega)]
  rfl
theorem nI_ushr {a k : Nat} (ha : a < 4294967296) (hk : k < 32) : ((nI a).toUInt32 >>> ((nI k).toUInt32 &&& Int32.toUInt32 31)).toInt32 = nI (a / 2 ^ k) := by
  apply Int32.toBitVec_inj.mp
  rw [ush_bv _ hk, nI_bv, nI_bv]
  apply BitVec.eq_of_toNat_eq
  have h2 : a / 2 ^ k ≤ a := Nat.div_le_self _ _
  rw [BitVec.toNat_ushiftRight, BitVec.toNat_ofNat, BitVec.toNat_ofNat, Nat.mod_eq_of_lt (show a < 2 ^ 32 by omega), Nat.shiftRight_eq_div_pow, Nat.mod_eq_of_lt (show a / 2 ^ k < 2 ^ 32 by omega)]
theorem nI_or (a b : Nat) : nI a ||| nI b = nI (a ||| b) := by
  apply Int32.toBitVec_inj.mp
  rw [Int32.toBitVec_or]
  apply BitVec.eq_of_toNat_eq
  rw [BitVec.toNat_or, nI_bv, nI_bv, nI_bv, BitVec.toNat_ofNat, BitVec.toNat_ofNat, BitVec.toNat_ofNat, Nat.or_mod_two_pow]
theorem nI_and (a b : Nat) : nI a &&& nI b = nI (a &&& b) := by
  apply Int32.toBitVec_inj.mp
  rw [Int32.toBitVec_and]
  apply BitVec.eq_of_toNat_eq
  rw [BitVec.toNat_and, nI_bv, nI_bv, nI_bv, BitVec.toNat_ofNat, BitVec.toNat_ofNat, BitVec.toNat_ofNat, Nat.and_mod_two_pow]
theorem nI_and1 (a : Nat) : nI a &&& nI 1 = nI (a % 2) := by rw [nI_and, Nat.and_one_is_mod]
theorem nI_or_add {w j : Nat} (h : w < 2 ^ j) : nI w ||| nI (2 ^ j) = nI (w + 2 ^ j) := by
  have := Nat.two_pow_add_eq_or_of_lt h 1
  rw [Nat.mul_one] at this
  rw [nI_or, Nat.or_comm, ← this, Nat.add_comm]
theorem nI_dec {a : Nat} (h : 1 ≤ a) : nI a + -1 = nI (a - 1) := by
  obtain ⟨b, rfl⟩ : ∃ b, a = b + 1 := ⟨a - 1, by omega⟩
  rw [← Int32.sub_eq_add_neg]
  exact nI_pred b
/-- a bit of a set -/
def bS (x : Int32) (k : Nat) : Bool := x.toBitVec.getLsbD k
theorem bS_nI {w k : Nat} (hk : k < 32) : bS (nI w) k = w.testBit k := by
  unfold bS
  rw [nI_bv, BitVec.getLsbD_ofNat]
  simp [hk]
theorem bS_row (x : Int32) {k : Nat} (hk : k < 32) : ((x.toUInt32 >>> ((nI k).toUInt32 &&& Int32.toUInt32 31)).toInt32 &&& nI 1 = nI 0) = (bS x k = false) := by
  apply propext
  rw [← Int32.toBitVec_inj, Int32.toBitVec_and, ush_bv x hk, nI_bv, nI_bv]
  have h := BitVec.and_one_eq_setWidth_ofBool_getLsbD (x := x.toBitVec >>> k)
  have h2 : (BitVec.ofNat 32 1) = 1#32 := rfl
  rw [h2, h, BitVec.getLsbD_ushiftRight]
  unfold bS
  cases x.toBitVec.getLsbD (k + 0) <;> simp_all <;> decide
theorem bS_or (x y : Int32) (i : Nat) : bS (x ||| y) i = (bS x i || bS y i) := by
  unfold bS
  rw [Int32.toBitVec_or, BitVec.getLsbD_or]
theorem bS_3 : ∀ k, k < 16 → ∀ i, i < 32 → bS (nI (3 * 2 ^ (2 * k))) i = (i == 2 * k || i == 2 * k + 1) := by decide +kernel
theorem bS_2 : ∀ i, i < 32 → bS (nI 2) i = (i == 1) := by decide +kernel
theorem tb_mod {w c : Nat} : (nI (w / 2 ^ c % 2) = nI 1) = (w.testBit c = true) := by
  rw [Nat.testBit_eq_decide_div_mod_eq]
  apply propext
  rw [nI_eq (by omega) (by omega)]
  simp
theorem ul0 {v : Nat × Nat} : ule (0, 0) v = True := eq_true ⟨Nat.zero_le _, Nat.zero_le _⟩
theorem ula1 : ule (uad (0, 0) (1, 6)) (1, 6) = True := eq_true ⟨by decide, by decide⟩
theorem ula2 : ule (uad (0, 0) (1, 6)) (2, 12) = True := eq_true ⟨by decide, by decide⟩
theorem ula3 : ule (uad (0, 0) (1, 6)) (3, 18) = True := eq_true ⟨by decide, by decide⟩
theorem ula4 : ule (uad (0, 0) (1, 6)) (4, 24) = True := eq_true ⟨by decide, by decide⟩
theorem ulb2 : ule (uad (uad (0, 0) (1, 6)) (1, 6)) (2, 12) = True := eq_true ⟨by decide, by decide⟩
theorem ulb3 : ule (uad (uad (0, 0) (1, 6)) (1, 6)) (3, 18) = True := eq_true ⟨by decide, by decide⟩
theorem ulb4 : ule (uad (uad (0, 0) (1, 6)) (1, 6)) (4, 24) = True := eq_true ⟨by decide, by decide⟩
theorem ulc2 : ule (uad (0, 0) (2, 12)) (2, 12) = True := eq_true ⟨by decide, by decide⟩
theorem ulc3 : ule (uad (0, 0) (2, 12)) (3, 18) = True := eq_true ⟨by decide, by decide⟩
theorem ulc4 : ule (uad (0, 0) (2, 12)) (4, 24) = True := eq_true ⟨by decide, by decide⟩
theorem ule4 : ule (uad (uad (0, 0) (2, 12)) (2, 12)) (4, 24) = True := eq_true ⟨by decide, by decide⟩
theorem ulf3 : ule (uad (uad (uad (0, 0) (1, 6)) (1, 6)) (1, 6)) (3, 18) = True := eq_true ⟨by decide, by decide⟩
theorem ulf4 : ule (uad (uad (uad (0, 0) (1, 6)) (1, 6)) (1, 6)) (4, 24) = True := eq_true ⟨by decide, by decide⟩

/-! trees of checksums -/
def tLeaf (x : Int32) (c : Nat) : Int32 := nI 40503 * x + nI (977 * c) + nI 1
def tNode (T : Nat → Int32) (k : Nat) : Int32 := ((69069 * (T (2 * k)).toInt64 + (30011 + (nI (2 * k)).toInt64) * (T (2 * k + 1)).toInt64 + (nI k).toInt64) - (69069 * (T (2 * k)).toInt64 + (30011 + (nI (2 * k)).toInt64) * (T (2 * k + 1)).toInt64 + (nI k).toInt64) / 2147483647 * 2147483647).toInt32
def tA (cells old : Nat → Int32) (n : Nat) : Nat → Int32 := fun k => if 16 ≤ k ∧ k < 16 + n then tLeaf (cells (k - 16)) (k - 16) else old k
theorem tA_0 (cells old : Nat → Int32) : tA cells old 0 = old := funext fun k => if_neg (by omega)
theorem tA_s (cells old : Nat → Int32) (c : Nat) : upd (tA cells old c) (16 + c) (tLeaf (cells c) c) = tA cells old (c + 1) := by
  funext k
  unfold upd tA
  by_cases h : k = 16 + c
  · subst h
    rw [if_pos rfl, if_pos (by omega), show 16 + c - 16 = c by omega]
  · rw [if_neg h]
    by_cases h2 : 16 ≤ k ∧ k < 16 + c
    · rw [if_pos h2, if_pos (by omega)]
    · rw [if_neg h2, if_neg (by omega)]
def tB (T : Nat → Int32) : Nat → (Nat → Int32)
  | 0 => T
  | m + 1 => upd (tB T m) (15 - m) (tNode (tB T m) (15 - m))
def fTree (cells old : Nat → Int32) : Nat → Int32 := tB (tA cells old 16) 15
theorem tB_eq {T T' : Nat → Int32} (h : ∀ k, 1 ≤ k → k < 32 → (16 ≤ k) → T k = T' k) : ∀ m, m ≤ 15 → ∀ k, 15 - m < k → k < 32 → tB T m k = tB T' m k
  | 0, _, k, h1, h2 => h k (by omega) h2 (by omega)
  | m + 1, hm, k, h1, h2 => by
    have ih := tB_eq h m (by omega)
    show upd (tB T m) (15 - m) (tNode (tB T m) (15 - m)) k = upd (tB T' m) (15 - m) (tNode (tB T' m) (15 - m)) k
    unfold upd
    by_cases hk : k = 15 - m
    · rw [if_pos hk, if_pos hk]
      unfold tNode
      rw [ih (2 * (15 - m)) (by omega) (by omega), ih (2 * (15 - m) + 1) (by omega) (by omega)]
    · rw [if_neg hk, if_neg hk]
      exact ih k (by omega) h2
theorem fTree_eq {f g old old' : Nat → Int32} (h : ∀ c, c < 16 → f c = g c) {k : Nat} (h1 : 1 ≤ k) (h2 : k < 32) : fTree f old k = fTree g old' k := by
  refine tB_eq ?_ 15 (Nat.le_refl _) k (by omega) h2
  intro k _ h4 h3
  unfold tA
  rw [if_pos (by omega), if_pos (by omega), h _ (by omega)]
theorem i64ne : ((2147483647 : Int64) = 0) = False := eq_false (by decide)
theorem fixL_r {a : Nat} : fixL (some (.ref a)) = some (.ref a) := rfl
theorem fixL_i {x : Int32} : fixL (some (.int x)) = some (.int x) := rfl
theorem fixL_n : fixL none = none := rfl
section Tree
variable {d : Nat} {Q : Po} {μ : Mu} {a b t n c k : Nat} {l3 l4 : Option Value}
theorem l_87a (ha : mS μ a = (20, 16)) (ht : mS μ t = (10, 1)) (hr : mR μ t 0 = some b) (hb : mS μ b = (20, 32)) (hb1 : 1000 ≤ b) (hne : a ≠ b) : ∀ n c, c + n = 16 → EM 87 d 2 [some (.ref t), some (.ref a), some (.int (nI c)), l3, l4] [] (uA μ b (tA (mI μ a) (mI μ b) c)) (0, 0) Q = EM 87 d 40 [some (.ref t), some (.ref a), some (.int (nI 15)), l3, l4] [] (uA μ b (tA (mI μ a) (mI μ b) 16)) (0, 0) Q := by
  intro n
  induction n with
  | zero =>
    intro c hc
    obtain rfl : c = 16 := by omega
    rw [e_87_2]
    simp (disch := omega) only [e_87_0, e_87_1, e_87_3, e_87_5, e_87_8, e_87_9, e_87_12, e_87_14, e_87_15, e_87_16, e_87_18, e_87_19, e_87_20, e_87_21, e_87_22, e_87_25, e_87_26, e_87_27, e_87_28, e_87_29, e_87_30, e_87_31, e_87_34, e_87_37, e_87_39, e_87_41, e_87_42, e_87_45, e_87_48, e_87_49, e_87_52, e_87_53, e_87_54, e_87_55, e_87_56, e_87_57, e_87_58, e_87_61, e_87_62, e_87_63, e_87_64, e_87_65, e_87_66, e_87_67, e_87_70, e_87_71, e_87_72, e_87_73, e_87_74, e_87_75, e_87_76, e_87_77, e_87_78, e_87_79, e_87_80, e_87_81, e_87_82, e_87_83, e_87_84, e_87_87, e_87_88, e_87_89, e_87_92, e_87_93, e_87_94, e_87_95, e_87_98, e_87_101, ge1, ule_t, true_or, or_true, nI_add, nI_mul, nI_sub, nI_clamp, nI_lt_t, nI_lt_f, nI_le_t, nI_le_f, nI_eq_t, nI_eq_f, vp_nI, tI, fI, not_true, not_false_iff, true_and, and_true, Classical.not_not, mS_uI, mS_uA, mS_uJ, mS_uR, mS_uX, mR_uI, mR_uA, mR_uJ, mR_uX, mX_uI, mX_uA, mX_uJ, mX_uR, mI_s, mI_n, mI_A, mI_An, mI_uJ, mI_uR, mI_uX, mJ_uI, mJ_uA, mJ_uR, mJ_uX, onR_s, kC_v, kC_n, kC_t, fixL_r]
  | succ n ih =>
    intro c hc
    rw [e_87_2]
    simp (disch := omega) only [e_87_0, e_87_1, e_87_3, e_87_5, e_87_8, e_87_9, e_87_12, e_87_14, e_87_15, e_87_16, e_87_18, e_87_19, e_87_20, e_87_21, e_87_22, e_87_25, e_87_26, e_87_27, e_87_28, e_87_29, e_87_30, e_87_31, e_87_34, e_87_37, e_87_39, e_87_41, e_87_42, e_87_45, e_87_48, e_87_49, e_87_52, e_87_53, e_87_54, e_87_55, e_87_56, e_87_57, e_87_58, e_87_61, e_87_62, e_87_63, e_87_64, e_87_65, e_87_66, e_87_67, e_87_70, e_87_71, e_87_72, e_87_73, e_87_74, e_87_75, e_87_76, e_87_77, e_87_78, e_87_79, e_87_80, e_87_81, e_87_82, e_87_83, e_87_84, e_87_87, e_87_88, e_87_89, e_87_92, e_87_93, e_87_94, e_87_95, e_87_98, e_87_101, ge1, ule_t, true_or, or_true, nI_add, nI_mul, nI_sub, nI_clamp, nI_lt_t, nI_lt_f, nI_le_t, nI_le_f, nI_eq_t, nI_eq_f, vp_nI, tI, fI, not_true, not_false_iff, true_and, and_true, Classical.not_not, mS_uI, mS_uA, mS_uJ, mS_uR, mS_uX, mR_uI, mR_uA, mR_uJ, mR_uX, mX_uI, mX_uA, mX_uJ, mX_uR, mI_s, mI_n, mI_A, mI_An, mI_uJ, mI_uR, mI_uX, mJ_uI, mJ_uA, mJ_uR, mJ_uX, onR_s, kC_v, kC_n, kC_t, fixL_r, ha, ht, hr, hb, uI_A, uA_A, mI_Af, mI_Anf]
    have := ih (c + 1) (by omega)
    rw [← tA_s] at this
    exact this
theorem l_87b (ht : mS μ t = (10, 1)) (hr : mR μ t 0 = some b) (hb : mS μ b = (20, 32)) (hb1 : 1000 ≤ b) (T : Nat → Int32) : ∀ k l3 l4, k ≤ 15 → EM 87 d 40 [some (.ref t), some (.ref a), some (.int (nI k)), l3, l4] [] (uA μ b (tB T (15 - k))) (0, 0) Q = Q (some none) (uA μ b (tB T 15)) := by
  intro k
  induction k with
  | zero =>
    intro l3 l4 hk
    rw [e_87_40]
    simp (disch := omega) only [e_87_0, e_87_1, e_87_3, e_87_5, e_87_8, e_87_9, e_87_12, e_87_14, e_87_15, e_87_16, e_87_18, e_87_19, e_87_20, e_87_21, e_87_22, e_87_25, e_87_26, e_87_27, e_87_28, e_87_29, e_87_30, e_87_31, e_87_34, e_87_37, e_87_39, e_87_41, e_87_42, e_87_45, e_87_48, e_87_49, e_87_52, e_87_53, e_87_54, e_87_55, e_87_56, e_87_57, e_87_58, e_87_61, e_87_62, e_87_63, e_87_64, e_87_65, e_87_66, e_87_67, e_87_70, e_87_71, e_87_72, e_87_73, e_87_74, e_87_75, e_87_76, e_87_77, e_87_78, e_87_79, e_87_80, e_87_81, e_87_82, e_87_83, e_87_84, e_87_87, e_87_88, e_87_89, e_87_92, e_87_93, e_87_94, e_87_95, e_87_98, e_87_101, ge1, ule_t, true_or, or_true, nI_add, nI_mul, nI_sub, nI_clamp, nI_lt_t, nI_lt_f, nI_le_t, nI_le_f, nI_eq_t, nI_eq_f, vp_nI, tI, fI, not_true, not_false_iff, true_and, and_true, Classical.not_not, mS_uI, mS_uA, mS_uJ, mS_uR, mS_uX, mR_uI, mR_uA, mR_uJ, mR_uX, mX_uI, mX_uA, mX_uJ, mX_uR, mI_s, mI_n, mI_A, mI_An, mI_uJ, mI_uR, mI_uX, mJ_uI, mJ_uA, mJ_uR, mJ_uX, onR_s, kC_v, kC_n, kC_t]
  | succ k ih =>
    intro l3 l4 hk
    rw [e_87_40]
    simp (disch := omega) only [e_87_0, e_87_1, e_87_3, e_87_5, e_87_8, e_87_9, e_87_12, e_87_14, e_87_15, e_87_16, e_87_18, e_87_19, e_87_20, e_87_21, e_87_22, e_87_25, e_87_26, e_87_27, e_87_28, e_87_29, e_87_30, e_87_31, e_87_34, e_87_37, e_87_39, e_87_41, e_87_42, e_87_45, e_87_48, e_87_49, e_87_52, e_87_53, e_87_54, e_87_55, e_87_56, e_87_57, e_87_58, e_87_61, e_87_62, e_87_63, e_87_64, e_87_65, e_87_66, e_87_67, e_87_70, e_87_71, e_87_72, e_87_73, e_87_74, e_87_75, e_87_76, e_87_77, e_87_78, e_87_79, e_87_80, e_87_81, e_87_82, e_87_83, e_87_84, e_87_87, e_87_88, e_87_89, e_87_92, e_87_93, e_87_94, e_87_95, e_87_98, e_87_101, ge1, ule_t, true_or, or_true, nI_add, nI_mul, nI_sub, nI_clamp, nI_lt_t, nI_lt_f, nI_le_t, nI_le_f, nI_eq_t, nI_eq_f, vp_nI, tI, fI, not_true, not_false_iff, true_and, and_true, Classical.not_not, mS_uI, mS_uA, mS_uJ, mS_uR, mS_uX, mR_uI, mR_uA, mR_uJ, mR_uX, mX_uI, mX_uA, mX_uJ, mX_uR, mI_s, mI_n, mI_A, mI_An, mI_uJ, mI_uR, mI_uX, mJ_uI, mJ_uA, mJ_uR, mJ_uX, onR_s, kC_v, kC_n, kC_t, fixL_r, fixL_i, ht, hr, hb, uI_A, uA_A, mI_Af, i64ne, not_false_eq_true, nI_dec]
    have e : tB T (15 - k) = upd (tB T (15 - (k + 1))) (k + 1) (tNode (tB T (15 - (k + 1))) (k + 1)) := by
      rw [show 15 - k = (15 - (k + 1)) + 1 by omega, tB, show 15 - (15 - (k + 1)) = k + 1 by omega]
    simp only [e] at ih
    exact ih _ _ (by omega)
theorem s_87 (ha : mS μ a = (20, 16)) (ht : mS μ t = (10, 1)) (hr : mR μ t 0 = some b) (hb : mS μ b = (20, 32)) (hb1 : 1000 ≤ b) (hne : a ≠ b) : Ev (d + 1) 87 [.ref t, .ref a] μ Q = Q (some none) (uA μ b (fTree (mI μ a) (mI μ b))) := by
  rw [in_87]
  simp (disch := omega) only [e_87_0, e_87_1, e_87_3, e_87_5, e_87_8, e_87_9, e_87_12, e_87_14, e_87_15, e_87_16, e_87_18, e_87_19, e_87_20, e_87_21, e_87_22, e_87_25, e_87_26, e_87_27, e_87_28, e_87_29, e_87_30, e_87_31, e_87_34, e_87_37, e_87_39, e_87_41, e_87_42, e_87_45, e_87_48, e_87_49, e_87_52, e_87_53, e_87_54, e_87_55, e_87_56, e_87_57, e_87_58, e_87_61, e_87_62, e_87_63, e_87_64, e_87_65, e_87_66, e_87_67, e_87_70, e_87_71, e_87_72, e_87_73, e_87_74, e_87_75, e_87_76, e_87_77, e_87_78, e_87_79, e_87_80, e_87_81, e_87_82, e_87_83, e_87_84, e_87_87, e_87_88, e_87_89, e_87_92, e_87_93, e_87_94, e_87_95, e_87_98, e_87_101, ge1, ule_t, true_or, or_true, nI_add, nI_mul, nI_sub, nI_clamp, nI_lt_t, nI_lt_f, nI_le_t, nI_le_f, nI_eq_t, nI_eq_f, vp_nI, tI, fI, not_true, not_false_iff, true_and, and_true, Classical.not_not, fixL_r]
  have h1 := l_87a (d := d) (Q := Q) (l3 := none) (l4 := none) ha ht hr hb hb1 hne 16 0 (by omega)
  rw [tA_0, uA_self] at h1
  rw [h1]
  exact l_87b ht hr hb hb1 (tA (mI μ a) (mI μ b) 16) 15 none none (by omega)
end Tree

/-! going down two trees -/
def vis (D : Nat → Bool) (k : Nat) : Bool := (((k / 16 == 0 || D (k / 16)) && (k / 8 == 0 || D (k / 8))) && (k / 4 == 0 || D (k / 4))) && (k / 2 == 0 || D (k / 2))
theorem vis_1 (D : Nat → Bool) : vis D 1 = true := rfl
theorem vis_c (D : Nat → Bool) {k i : Nat} (h1 : 1 ≤ k) (h2 : k ≤ 15) (hi : i / 2 = k) : vis D i = (vis D k && D k) := by
  unfold vis
  have e4 : i / 4 = k / 2 := by omega
  have e8 : i / 8 = k / 4 := by omega
  have e16 : i / 16 = k / 8 := by omega
  have e0 : k / 16 = 0 := by omega
  have ek : (k == 0) = false := by simp; omega
  rw [hi, e4, e8, e16, e0, ek]
  simp
def wS (D : Nat → Bool) : Nat → Nat
  | 0 => 0
  | k + 1 => wS D k + (if 16 ≤ k ∧ (vis D k && D k) = true then 2 ^ (k - 16) else 0)
def cS (D : Nat → Bool) : Nat → Nat
  | 0 => 0
  | k + 1 => cS D k + (if 1 ≤ k ∧ vis D k = true then 1 else 0)
theorem cS_le (D : Nat → Bool) : ∀ k, cS D k ≤ k
  | 0 => Nat.le_refl _
  | k + 1 => by
    have := cS_le D k
    rw [cS]
    split <;> omega
theorem wS_lt (D : Nat → Bool) : ∀ k, wS D k < 2 ^ (k - 16)
  | 0 => by rw [wS]; decide
  | k + 1 => by
    have := wS_lt D k
    rw [wS]
    split
    · rename_i h
      rw [show k + 1 - 16 = (k - 16) + 1 by omega, Nat.pow_succ]
      omega
    · have h2 : 2 ^ (k - 16) ≤ 2 ^ (k + 1 - 16) := Nat.pow_le_pow_right (by decide) (by omega)
      omega
def gS (D : Nat → Bool) : Nat → Nat → Nat
  | 0, k => if D k = true then 2 ^ (k - 16) else 0
  | h + 1, k => if D k = true then gS D h (2 * k) + gS D h (2 * k + 1) else 0
def gC (D : Nat → Bool) : Nat → Nat → Nat
  | 0, _ => 1
  | h + 1, k => 1 + (if D k = true then gC D h (2 * k) + gC D h (2 * k + 1) else 0)
theorem ite_add0 {b : Bool} {x y : Nat} : (if b = true then x + y else 0) = (if b = true then x else 0) + (if b = true then y else 0) := by cases b <;> simp
theorem ite_and0 {b c : Bool} {x : Nat} : (if b = true then (if c = true then x else 0) else 0) = (if (b && c) = true then x else 0) := by cases b <;> cases c <;> simp
theorem ite_2 {b : Bool} : (if b = true then 2 else 0) = (if b = true then 1 else 0) + (if b = true then 1 else 0) := by cases b <;> simp
theorem wS_1 (D : Nat → Bool) : wS D 1 = 0 := by simp [wS]
theorem cS_1 (D : Nat → Bool) : cS D 1 = 0 := by simp [cS]
theorem wS_gS (D : Nat → Bool) : wS D 32 = gS D 4 1 := by
  simp only [wS, gS, vis, ite_add0, ite_and0, Nat.reduceMul, Nat.reduceAdd, Nat.reduceDiv, Nat.reduceLeDiff, Nat.reduceSub, Nat.reducePow, Nat.reduceBEq, false_and, true_and, if_false, Bool.false_or, Bool.true_or, Bool.true_and, Bool.and_assoc, Nat.zero_add, Nat.add_assoc]
theorem cS_gC (D : Nat → Bool) : cS D 32 = gC D 4 1 := by
  simp only [cS, gC, vis, ite_add0, ite_2, ite_and0, Nat.reduceMul, Nat.reduceAdd, Nat.reduceDiv, Nat.reduceLeDiff, Nat.reduceSub, Nat.reducePow, Nat.reduceBEq, false_and, true_and, if_false, if_true, Bool.false_or, Bool.true_or, Bool.true_and, Bool.and_assoc, Nat.zero_add, Nat.add_assoc]
  omega
theorem uI_same {μ : Mu} {a k : Nat} {x y : Int32} : uI (uI μ a k x) a k y = uI μ a k y := by
  unfold uI
  congr 3
  funext b j
  by_cases h : b = a ∧ j = k <;> simp [h]
theorem uI_comm {μ : Mu} {a b k j : Nat} {x y : Int32} (h : a ≠ b ∨ k ≠ j) : uI (uI μ a k x) b j y = uI (uI μ b j y) a k x := by
  unfold uI
  congr 3
  funext c i
  show (if c = b ∧ i = j then y else if c = a ∧ i = k then x else μ.2.2.1 c i) = (if c = a ∧ i = k then x else if c = b ∧ i = j then y else μ.2.2.1 c i)
  by_cases h1 : c = a ∧ i = k
  · by_cases h2 : c = b ∧ i = j
    · exact absurd h (by omega)
    · rw [if_neg h2, if_pos h1, if_pos h1]
  · by_cases h2 : c = b ∧ i = j
    · rw [if_pos h2, if_neg h1, if_pos h2]
    · rw [if_neg h2, if_neg h1, if_neg h1, if_neg h2]
theorem uI_self {μ : Mu} {a k : Nat} : uI μ a k (mI μ a k) = μ := by
  unfold uI mI
  have : (fun b j => if b = a ∧ j = k then μ.2.2.1 a k else μ.2.2.1 b j) = μ.2.2.1 := by
    funext b j
    by_cases h : b = a ∧ j = k
    · simp only [h, and_self, if_true]
    · simp only [h, if_false]
  rw [this]
/-- the things of the descent -/
def ShD (μ : Mu) : Prop := mS μ 1062 = (4, 4) ∧ mR μ 1062 0 = some 1063 ∧ mR μ 1062 1 = some 1065 ∧ mS μ 1063 = (10, 1) ∧ mS μ 1065 = (10, 1) ∧ mR μ 1063 0 = some 1064 ∧ mR μ 1065 0 = some 1066 ∧ mS μ 1064 = (20, 32) ∧ mS μ 1066 = (20, 32)
def dT (μ : Mu) (a b : Nat) : Nat → Bool := fun k => !decide (mI μ a k = mI μ b k)
section Desc
variable {d : Nat} {Q : Po} {μ : Mu} {a b t n c k : Nat} {x : Int32} {l1 l2 l3 l4 : Option Value}
theorem s_156 (hk : k < 32) : Ev (d + 1) 156 [.int x, .int (nI k)] μ Q = Q (some (some (.int (bI (bS x k = true))))) μ := by
  rw [in_156]
  simp (disch := omega) only [e_156_0, e_156_1, e_156_2, e_156_3, e_156_4, e_156_5, e_156_8, e_156_9, e_156_12, e_156_13, ge1, ule_t, true_or, or_true, nI_add, nI_mul, nI_sub, nI_clamp, nI_lt_t, nI_lt_f, nI_le_t, nI_le_f, nI_eq_t, nI_eq_f, vp_nI, tI, fI, not_true, not_false_iff, true_and, and_true, Classical.not_not, bS_row]
  cases bS x k <;> simp [bI]
theorem uI_23 {μ : Mu} {x y : Int32} : uI (uI μ 1062 3 x) 1062 2 y = uI (uI μ 1062 2 y) 1062 3 x := uI_comm (by omega)
theorem l_32 (hD : ShD μ) : ∀ n k tc, k + n = 32 → 1 ≤ k → (∀ i, i < 32 → 1 ≤ i → bS tc i = (vis (dT μ 1064 1066) i && (i == 1 || decide (i / 2 < k)))) → EM 32 (d + 1) 31 [some (.ref 1062), l1, l2, some (.int tc), some (.int (nI k))] [] (uI (uI μ 1062 2 (nI (wS (dT μ 1064 1066) k))) 1062 3 (nI (cS (dT μ 1064 1066) k))) (0, 0) Q = Q (some none) (uI (uI μ 1062 2 (nI (wS (dT μ 1064 1066) 32))) 1062 3 (nI (cS (dT μ 1064 1066) 32))) := by
  obtain ⟨r1, r2, r3, r4, r5, r6, r7, r8, r9⟩ := hD
  intro n
  induction n with
  | zero =>
    intro k tc hk h1 ht
    obtain rfl : k = 32 := by omega
    rw [e_32_31]
    simp (disch := omega) only [e_32_0, e_32_1, e_32_4, e_32_5, e_32_8, e_32_9, e_32_12, e_32_13, e_32_16, e_32_17, e_32_18, e_32_21, e_32_22, e_32_23, e_32_26, e_32_27, e_32_28, e_32_29, e_32_33, e_32_35, e_32_38, e_32_39, e_32_41, e_32_44, e_32_47, e_32_48, e_32_49, e_32_52, e_32_53, e_32_54, e_32_57, e_32_58, e_32_61, e_32_64, e_32_66, e_32_67, e_32_68, e_32_71, e_32_74, e_32_76, e_32_77, e_32_80, e_32_82, e_32_84, e_32_87, e_32_88, e_32_89, e_32_90, e_32_92, e_32_93, e_32_94, e_32_95, e_32_96, e_32_99, e_32_100, e_32_101, e_32_104, e_32_105, e_32_107, e_32_109, e_32_110, e_32_111, e_32_112, e_32_115, e_32_118, e_32_121, ge1, ule_t, true_or, or_true, nI_add, nI_mul, nI_sub, nI_clamp, nI_lt_t, nI_lt_f, nI_le_t, nI_le_f, nI_eq_t, nI_eq_f, vp_nI, tI, fI, not_true, not_false_iff, true_and, and_true, Classical.not_not, mS_uI, mS_uA, mS_uJ, mS_uR, mS_uX, mR_uI, mR_uA, mR_uJ, mR_uX, mX_uI, mX_uA, mX_uJ, mX_uR, mI_s, mI_n, mI_A, mI_An, mI_uJ, mI_uR, mI_uX, mJ_uI, mJ_uA, mJ_uR, mJ_uX, onR_s, kC_v, kC_n, kC_t]
  | succ n ih =>
    intro k tc hk h1 ht
    rw [e_32_31]
    have hb := ht k (by omega) h1
    have hv : (k == 1 || decide (k / 2 < k)) = true := by simp; omega
    rw [hv, Bool.and_true] at hb
    have h156 := fun (Q : Po) (μ : Mu) => s_156 (d := d) (Q := Q) (μ := μ) (x := tc) (show k < 32 by omega)
    have hw := wS_lt (dT μ 1064 1066) k
    have hc := cS_le (dT μ 1064 1066) k
    cases hvk : vis (dT μ 1064 1066) k with
    | false =>
      rw [hvk] at hb
      simp only [bI_f (show ¬ bS tc k = true by rw [hb]; exact Bool.false_ne_true)] at h156
      have e1 : wS (dT μ 1064 1066) (k + 1) = wS (dT μ 1064 1066) k := by rw [wS, hvk]; simp
      have e2 : cS (dT μ 1064 1066) (k + 1) = cS (dT μ 1064 1066) k := by rw [cS, hvk]; simp
      simp (disch := omega) only [e_32_0, e_32_1, e_32_4, e_32_5, e_32_8, e_32_9, e_32_12, e_32_13, e_32_16, e_32_17, e_32_18, e_32_21, e_32_22, e_32_23, e_32_26, e_32_27, e_32_28, e_32_29, e_32_33, e_32_35, e_32_38, e_32_39, e_32_41, e_32_44, e_32_47, e_32_48, e_32_49, e_32_52, e_32_53, e_32_54, e_32_57, e_32_58, e_32_61, e_32_64, e_32_66, e_32_67, e_32_68, e_32_71, e_32_74, e_32_76, e_32_77, e_32_80, e_32_82, e_32_84, e_32_87, e_32_88, e_32_89, e_32_90, e_32_92, e_32_93, e_32_94, e_32_95, e_32_96, e_32_99, e_32_100, e_32_101, e_32_104, e_32_105, e_32_107, e_32_109, e_32_110, e_32_111, e_32_112, e_32_115, e_32_118, e_32_121, ge1, ule_t, true_or, or_true, nI_add, nI_mul, nI_sub, nI_clamp, nI_lt_t, nI_lt_f, nI_le_t, nI_le_f, nI_eq_t, nI_eq_f, vp_nI, tI, fI, not_true, not_false_iff, true_and, and_true, Classical.not_not, mS_uI, mS_uA, mS_uJ, mS_uR, mS_uX, mR_uI, mR_uA, mR_uJ, mR_uX, mX_uI, mX_uA, mX_uJ, mX_uR, mI_s, mI_n, mI_A, mI_An, mI_uJ, mI_uR, mI_uX, mJ_uI, mJ_uA, mJ_uR, mJ_uX, onR_s, kC_v, kC_n, kC_t, h156]
      have := ih (k + 1) tc (by omega) (by omega) (fun i hi hi1 => by
        rw [ht i hi hi1]
        by_cases hik : i / 2 = k
        · rw [vis_c (dT μ 1064 1066) h1 (by omega) hik, hvk]; rfl
        · congr 1
          congr 1
          exact decide_eq_decide.mpr (by omega))
      rw [e1, e2] at this
      exact this
    | true =>
      rw [hvk] at hb
      simp only [bI_t hb] at h156
      have e2 : cS (dT μ 1064 1066) (k + 1) = cS (dT μ 1064 1066) k + 1 := by rw [cS, hvk, if_pos ⟨h1, rfl⟩]
      by_cases hd : mI μ 1064 k = mI μ 1066 k
      · have hdk : dT μ 1064 1066 k = false := by unfold dT; rw [decide_eq_true hd]; rfl
        have e1 : wS (dT μ 1064 1066) (k + 1) = wS (dT μ 1064 1066) k := by rw [wS, hvk, hdk]; simp
        simp (disch := omega) only [e_32_0, e_32_1, e_32_4, e_32_5, e_32_8, e_32_9, e_32_12, e_32_13, e_32_16, e_32_17, e_32_18, e_32_21, e_32_22, e_32_23, e_32_26, e_32_27, e_32_28, e_32_29, e_32_33, e_32_35, e_32_38, e_32_39, e_32_41, e_32_44, e_32_47, e_32_48, e_32_49, e_32_52, e_32_53, e_32_54, e_32_57, e_32_58, e_32_61, e_32_64, e_32_66, e_32_67, e_32_68, e_32_71, e_32_74, e_32_76, e_32_77, e_32_80, e_32_82, e_32_84, e_32_87, e_32_88, e_32_89, e_32_90, e_32_92, e_32_93, e_32_94, e_32_95, e_32_96, e_32_99, e_32_100, e_32_101, e_32_104, e_32_105, e_32_107, e_32_109, e_32_110, e_32_111, e_32_112, e_32_115, e_32_118, e_32_121, ge1, ule_t, true_or, or_true, nI_add, nI_mul, nI_sub, nI_clamp, nI_lt_t, nI_lt_f, nI_le_t, nI_le_f, nI_eq_t, nI_eq_f, vp_nI, tI, fI, not_true, not_false_iff, true_and, and_true, Classical.not_not, mS_uI, mS_uA, mS_uJ, mS_uR, mS_uX, mR_uI, mR_uA, mR_uJ, mR_uX, mX_uI, mX_uA, mX_uJ, mX_uR, mI_s, mI_n, mI_A, mI_An, mI_uJ, mI_uR, mI_uX, mJ_uI, mJ_uA, mJ_uR, mJ_uX, onR_s, kC_v, kC_n, kC_t, h156, r1, r2, r3, r4, r5, r6, r7, r8, r9, hd, uI_same]
        have := ih (k + 1) tc (by omega) (by omega) (fun i hi hi1 => by
          rw [ht i hi hi1]
          by_cases hik : i / 2 = k
          · rw [vis_c (dT μ 1064 1066) h1 (by omega) hik, hdk, Bool.and_false]; rfl
          · congr 1
            congr 1
            exact decide_eq_decide.mpr (by omega))
        rw [e1, e2] at this
        exact this
      · have hdk : dT μ 1064 1066 k = true := by unfold dT; rw [decide_eq_false hd]; rfl
        by_cases h16 : k < 16
        · have e1 : wS (dT μ 1064 1066) (k + 1) = wS (dT μ 1064 1066) k := by rw [wS, if_neg (fun z => absurd z.1 (by omega)), Nat.add_zero]
          simp (disch := omega) only [e_32_0, e_32_1, e_32_4, e_32_5, e_32_8, e_32_9, e_32_12, e_32_13, e_32_16, e_32_17, e_32_18, e_32_21, e_32_22, e_32_23, e_32_26, e_32_27, e_32_28, e_32_29, e_32_33, e_32_35, e_32_38, e_32_39, e_32_41, e_32_44, e_32_47, e_32_48, e_32_49, e_32_52, e_32_53, e_32_54, e_32_57, e_32_58, e_32_61, e_32_64, e_32_66, e_32_67, e_32_68, e_32_71, e_32_74, e_32_76, e_32_77, e_32_80, e_32_82, e_32_84, e_32_87, e_32_88, e_32_89, e_32_90, e_32_92, e_32_93, e_32_94, e_32_95, e_32_96, e_32_99, e_32_100, e_32_101, e_32_104, e_32_105, e_32_107, e_32_109, e_32_110, e_32_111, e_32_112, e_32_115, e_32_118, e_32_121, ge1, ule_t, true_or, or_true, nI_add, nI_mul, nI_sub, nI_clamp, nI_lt_t, nI_lt_f, nI_le_t, nI_le_f, nI_eq_t, nI_eq_f, vp_nI, tI, fI, not_true, not_false_iff, true_and, and_true, Classical.not_not, mS_uI, mS_uA, mS_uJ, mS_uR, mS_uX, mR_uI, mR_uA, mR_uJ, mR_uX, mX_uI, mX_uA, mX_uJ, mX_uR, mI_s, mI_n, mI_A, mI_An, mI_uJ, mI_uR, mI_uX, mJ_uI, mJ_uA, mJ_uR, mJ_uX, onR_s, kC_v, kC_n, kC_t, h156, r1, r2, r3, r4, r5, r6, r7, r8, r9, hd, uI_same, nI_shl]
          have := ih (k + 1) (tc ||| nI (3 * 2 ^ (2 * k))) (by omega) (by omega) (fun i hi hi1 => by
            rw [bS_or, ht i hi hi1, bS_3 k h16 i hi]
            by_cases hik : i / 2 = k
            · rw [vis_c (dT μ 1064 1066) h1 (by omega) hik, hvk, hdk]
              have e5 : (i == 2 * k || i == 2 * k + 1) = true := by simp; omega
              have e6 : decide (i / 2 < k + 1) = true := by simp; omega
              rw [e5, e6]
              simp
            · have e5 : (i == 2 * k || i == 2 * k + 1) = false := by simp; omega
              have e6 : decide (i / 2 < k + 1) = decide (i / 2 < k) := decide_eq_decide.mpr (by omega)
              rw [e5, e6, Bool.or_false])
          rw [e1, e2] at this
          exact this
        · have e1 : wS (dT μ 1064 1066) (k + 1) = wS (dT μ 1064 1066) k + 2 ^ (k - 16) := by rw [wS, hvk, hdk, if_pos ⟨by omega, rfl⟩]
          have e7 : 1 * 2 ^ (k - 16) = 2 ^ (k - 16) := Nat.one_mul _
          simp (disch := omega) only [e_32_0, e_32_1, e_32_4, e_32_5, e_32_8, e_32_9, e_32_12, e_32_13, e_32_16, e_32_17, e_32_18, e_32_21, e_32_22, e_32_23, e_32_26, e_32_27, e_32_28, e_32_29, e_32_33, e_32_35, e_32_38, e_32_39, e_32_41, e_32_44, e_32_47, e_32_48, e_32_49, e_32_52, e_32_53, e_32_54, e_32_57, e_32_58, e_32_61, e_32_64, e_32_66, e_32_67, e_32_68, e_32_71, e_32_74, e_32_76, e_32_77, e_32_80, e_32_82, e_32_84, e_32_87, e_32_88, e_32_89, e_32_90, e_32_92, e_32_93, e_32_94, e_32_95, e_32_96, e_32_99, e_32_100, e_32_101, e_32_104, e_32_105, e_32_107, e_32_109, e_32_110, e_32_111, e_32_112, e_32_115, e_32_118, e_32_121, ge1, ule_t, true_or, or_true, nI_add, nI_mul, nI_sub, nI_clamp, nI_lt_t, nI_lt_f, nI_le_t, nI_le_f, nI_eq_t, nI_eq_f, vp_nI, tI, fI, not_true, not_false_iff, true_and, and_true, Classical.not_not, mS_uI, mS_uA, mS_uJ, mS_uR, mS_uX, mR_uI, mR_uA, mR_uJ, mR_uX, mX_uI, mX_uA, mX_uJ, mX_uR, mI_s, mI_n, mI_A, mI_An, mI_uJ, mI_uR, mI_uX, mJ_uI, mJ_uA, mJ_uR, mJ_uX, onR_s, kC_v, kC_n, kC_t, h156, r1, r2, r3, r4, r5, r6, r7, r8, r9, hd, uI_same, nI_shl, e7, nI_or_add hw, uI_23]
          have := ih (k + 1) tc (by omega) (by omega) (fun i hi hi1 => by
            rw [ht i hi hi1]
            congr 1
            congr 1
            exact decide_eq_decide.mpr (by omega))
          rw [e1, e2] at this
          exact this
/-- the heap when two trees have been gone down -/
def dDown (μ : Mu) (a b : Nat) : Mu := uI (uI (uA (uA μ 1064 (fTree (mI μ a) (mI μ 1064))) 1066 (fTree (mI μ b) (mI μ 1066))) 1062 2 (nI (gS (fun k => !decide (fTree (mI μ a) (mI μ 1064) k = fTree (mI μ b) (mI μ 1066) k)) 4 1))) 1062 3 (nI (gC (fun k => !decide (fTree (mI μ a) (mI μ 1064) k = fTree (mI μ b) (mI μ 1066) k)) 4 1))
theorem s_32 (hD : ShD μ) (ha : mS μ a = (20, 16)) (hb : mS μ b = (20, 16)) (h1 : a ≠ 1064) (h2 : a ≠ 1066) (h3 : b ≠ 1064) (h4 : b ≠ 1066) : Ev (d + 2) 32 [.ref 1062, .ref a, .ref b] μ Q = Q (some none) (dDown μ a b) := by
  have hD0 := hD
  obtain ⟨r1, r2, r3, r4, r5, r6, r7, r8, r9⟩ := hD
  rw [in_32]
  have g1 := fun (Q : Po) => s_87 (d := d) (Q := Q) (μ := μ) (a := a) (b := 1064) (t := 1063) ha r4 r6 r8 (by omega) h1
  have g2 := fun (Q : Po) => s_87 (d := d) (Q := Q) (μ := uA μ 1064 (fTree (mI μ a) (mI μ 1064))) (a := b) (b := 1066) (t := 1065) hb r5 r7 r9 (by omega) h4
  rw [mI_Anf h3, mI_Anf (show (1066 : Nat) ≠ 1064 by omega)] at g2
  simp (disch := omega) only [e_32_0, e_32_1, e_32_4, e_32_5, e_32_8, e_32_9, e_32_12, e_32_13, e_32_16, e_32_17, e_32_18, e_32_21, e_32_22, e_32_23, e_32_26, e_32_27, e_32_28, e_32_29, e_32_33, e_32_35, e_32_38, e_32_39, e_32_41, e_32_44, e_32_47, e_32_48, e_32_49, e_32_52, e_32_53, e_32_54, e_32_57, e_32_58, e_32_61, e_32_64, e_32_66, e_32_67, e_32_68, e_32_71, e_32_74, e_32_76, e_32_77, e_32_80, e_32_82, e_32_84, e_32_87, e_32_88, e_32_89, e_32_90, e_32_92, e_32_93, e_32_94, e_32_95, e_32_96, e_32_99, e_32_100, e_32_101, e_32_104, e_32_105, e_32_107, e_32_109, e_32_110, e_32_111, e_32_112, e_32_115, e_32_118, e_32_121, ge1, ule_t, true_or, or_true, nI_add, nI_mul, nI_sub, nI_clamp, nI_lt_t, nI_lt_f, nI_le_t, nI_le_f, nI_eq_t, nI_eq_f, vp_nI, tI, fI, not_true, not_false_iff, true_and, and_true, Classical.not_not, mS_uI, mS_uA, mS_uJ, mS_uR, mS_uX, mR_uI, mR_uA, mR_uJ, mR_uX, mX_uI, mX_uA, mX_uJ, mX_uR, mI_s, mI_n, mI_A, mI_An, mI_uJ, mI_uR, mI_uX, mJ_uI, mJ_uA, mJ_uR, mJ_uX, onR_s, kC_v, kC_n, kC_t, r1, r2, r3, r4, r5, r6, r7, r8, r9, g1, g2]
  have hD2 : ShD (uA (uA μ 1064 (fTree (mI μ a) (mI μ 1064))) 1066 (fTree (mI μ b) (mI μ 1066))) := hD0
  have := l_32 (d := d) (Q := Q) (l1 := some (.ref a)) (l2 := some (.ref b)) hD2 31 1 (nI 2) (by omega) (by omega) (fun i hi hi1 => by
    rw [bS_2 i hi]
    by_cases h : i = 1
    · subst h; rfl
    · have e1 : (i == 1) = false := by simp; exact h
      have e2 : decide (i / 2 < 1) = false := by simp; omega
      rw [e1, e2]; simp)
  rw [wS_gS, cS_gC, wS_1, cS_1] at this
  refine Eq.trans this ?_
  unfold dDown dT
  rw [mI_Af]
  simp only [mI_Anf (show (1064 : Nat) ≠ 1066 by omega), mI_Af]
theorem s_30 (hD : ShD μ) (ha : mS μ a = (20, 16)) (h1 : a ≠ 1064) (hk : k < 32) : Ev (d + 2) 30 [.ref 1062, .ref a, .int (nI k)] μ Q = Q (some (some (.int (fTree (mI μ a) (mI μ 1064) k)))) (uA μ 1064 (fTree (mI μ a) (mI μ 1064))) := by
  obtain ⟨r1, r2, r3, r4, r5, r6, r7, r8, r9⟩ := hD
  rw [in_30]
  simp (disch := omega) only [e_30_0, e_30_1, e_30_4, e_30_5, e_30_8, e_30_9, e_30_12, e_30_15, e_30_16, e_30_17, ge1, ule_t, true_or, or_true, nI_add, nI_mul, nI_sub, nI_clamp, nI_lt_t, nI_lt_f, nI_le_t, nI_le_f, nI_eq_t, nI_eq_f, vp_nI, tI, fI, not_true, not_false_iff, true_and, and_true, Classical.not_not, mS_uI, mS_uA, mS_uJ, mS_uR, mS_uX, mR_uI, mR_uA, mR_uJ, mR_uX, mX_uI, mX_uA, mX_uJ, mX_uR, mI_s, mI_n, mI_A, mI_An, mI_uJ, mI_uR, mI_uX, mJ_uI, mJ_uA, mJ_uR, mJ_uX, onR_s, kC_v, kC_n, kC_t, r1, r2, r3, r4, r5, r6, r7, r8, r9, ha, s_87 ha r4 r6 r8 (by omega) h1]
theorem s_31 (hD : ShD μ) (ha : mS μ a = (20, 16)) (h1 : a ≠ 1064) : Ev (d + 3) 31 [.ref 1062, .ref a] μ Q = Q (some (some (.int (fTree (mI μ a) (mI μ 1064) 1)))) (uA μ 1064 (fTree (mI μ a) (mI μ 1064))) := by
  rw [in_31]
  simp (disch := omega) only [e_31_0, e_31_1, e_31_2, e_31_3, e_31_6, ge1, ule_t, true_or, or_true, nI_add, nI_mul, nI_sub, nI_clamp, nI_lt_t, nI_lt_f, nI_le_t, nI_le_f, nI_eq_t, nI_eq_f, vp_nI, tI, fI, not_true, not_false_iff, true_and, and_true, Classical.not_not, mS_uI, mS_uA, mS_uJ, mS_uR, mS_uX, mR_uI, mR_uA, mR_uJ, mR_uX, mX_uI, mX_uA, mX_uJ, mX_uR, mI_s, mI_n, mI_A, mI_An, mI_uJ, mI_uR, mI_uX, mJ_uI, mJ_uA, mJ_uR, mJ_uX, onR_s, kC_v, kC_n, kC_t, hD.1, s_30 hD ha h1]
/-- the reference's way -/
theorem uI_dc {μ : Mu} {x y : Int32} : uI (uI μ 1298 12 x) 1298 13 y = uI (uI μ 1298 13 y) 1298 12 x := uI_comm (by omega)
theorem gC_le (D : Nat → Bool) : ∀ h k, gC D h k + 1 ≤ 2 ^ (h + 1)
  | 0, _ => by simp [gC]
  | h + 1, k => by
    have h1 := gC_le D h (2 * k)
    have h2 := gC_le D h (2 * k + 1)
    have h3 : 1 ≤ 2 ^ h := Nat.one_le_two_pow
    rw [gC]
    rw [Nat.pow_succ] at *
    split <;> omega
end Desc

/-! how the two states go together -/
def nM (r : Nat → Int32) : Nat := (r 2).toNatClampNeg
def nT (r : Nat → Int32) : Nat := (r 387).toNatClampNeg
def nO (r : Nat → Int32) : Nat := (r 1708).toNatClampNeg
def nF (r : Nat → Int32) : Nat := (r 1741).toNatClampNeg
def nQ (r : Nat → Int32) : Nat := (r 1).toNatClampNeg
def nL (r : Nat → Int32) : Nat := (r 0).toNatClampNeg
def okN (r : Nat → Int32) : Prop := ∀ m, m < nM r → rW r m 1 ≤ nI (nT r) ∧ (∃ p, 1 ≤ p ∧ p ≤ 4 ∧ rW r m 0 = nI p) ∧ ∀ c, c < 16 → ∃ v, v < 10000 ∧ rW r m (7 + c) = nI v
def okP (r : Nat → Int32) : Prop := (∀ t, t < nT r → ∃ z, z ≤ 8 ∧ r (388 + 33 * t) = nI z ∧ okCmd (mCmd r t) z) ∧ okCmd (fun k w => r (1709 + 4 * k + w)) (nO r) ∧ ∀ k, k < nO r → ∃ a, a < 6 ∧ r (1709 + 4 * k) = nI a
def okF (r : Nat → Int32) : Prop := ∀ k, k < nF r → (∃ m, m < 6 ∧ r (1742 + 4 * k) = nI m) ∧ (∃ t, t < 40 ∧ r (1742 + 4 * k + 1) = nI t) ∧ (∃ c, c < 16 ∧ r (1742 + 4 * k + 2) = nI c) ∧ ∃ a, a < 10000 ∧ r (1742 + 4 * k + 3) = nI a
def okR (r : Nat → Int32) : Prop := r 2 = nI (nM r) ∧ nM r ≤ 6 ∧ r 387 = nI (nT r) ∧ nT r ≤ 40 ∧ r 1708 = nI (nO r) ∧ nO r ≤ 8 ∧ r 1741 = nI (nF r) ∧ nF r ≤ 10 ∧ r 1 = nI (nQ r) ∧ 1 ≤ nQ r ∧ nQ r ≤ 6 ∧ r 0 = nI (nL r) ∧ 1 ≤ nL r ∧ nL r ≤ 40 ∧ okV (rW r) (nM r) ∧ okN r ∧ okP r ∧ okF r
def RelB (μ : Mu) (s : Nat) (r : Nat → Int32) : Prop := mI μ s 1 = r 2 ∧ mI μ s 2 = r 387 ∧ mI μ s 3 = r 1708 ∧ mI μ (s + 3) 1 = r 1741 ∧ mI μ (s + 2) 0 = r 0 ∧ mI μ (s + 2) 1 = r 1 ∧ VEq (cV μ s) (rW r) (nM r) ∧ ∀ k, k < 4 * nF r → mI μ (s + 4) k = r (1742 + k)
def RelC (μ : Mu) (c : Nat) (r : Nat → Int32) : Prop := (∀ t, t < nT r → mI μ (c + 2) t = r (388 + 33 * t) ∧ ∀ k, k < (r (388 + 33 * t)).toNatClampNeg → ∃ j, j < 8 ∧ mI μ (c + 4) (8 * t + k) = nI (4 * (8 * t + j)) ∧ ∀ w, w < 4 → mI μ (c + 3) (4 * (8 * t + j) + w) = r (388 + 33 * t + 1 + 4 * k + w)) ∧ ∀ k, k < nO r → ∀ w, w < 4 → mI μ (c + 3) (4 * (8 * nT r + k) + w) = r (1709 + 4 * k + w)
/-- the room's shape -/
def ShR (μ : Mu) (s c : Nat) : Prop := mS μ 1000 = (11, 11) ∧ mR μ 1000 0 = some s ∧ mR μ 1000 1 = some c ∧ mR μ 1000 2 = some 1029 ∧ mR μ 1000 5 = some 1030 ∧ mR μ 1000 8 = some 1060 ∧ mR μ 1000 9 = some 1062 ∧ mR μ 1000 10 = some 1067 ∧ mS μ 1067 = (20, 16) ∧ mS μ 1029 = (24, 10) ∧ (∀ i, i < 10 → mR μ 1029 i = some (1068 + 23 * i)) ∧ ShD μ ∧ StS μ s ∧ ScS μ c ∧ (s = 1001 ∨ s = 1032) ∧ (c = 1024 ∨ c = 1055)
theorem VEq.ok' {V V' : VW} {n : Nat} (h : VEq V V' n) (hV : okV V' n) : okV V n := fun m hm => by
  obtain ⟨e, -⟩ := h m hm
  rw [e 1 (by omega), e 2 (by omega), e 6 (by omega)]
  exact hV m hm
/-- out of a range from 0 -/
abbrev bad (x : Int32) (n : Nat) : Prop := x < nI 0 ∨ nI n ≤ x
theorem inN (x : Int32) (n : Nat) (hn : n < 2147483648) : (∃ m, m < n ∧ x = nI m) ∨ bad x n := by
  by_cases h : x < nI 0
  · exact Or.inr (Or.inl h)
  · obtain ⟨j, hj, rfl⟩ := nI_of (by rw [← nI_0]; exact h : ¬ x < 0)
    by_cases h2 : j < n
    · exact Or.inl ⟨j, h2, rfl⟩
    · exact Or.inr (Or.inr (nI_le (by omega) hj))
theorem bad2 {x : Int32} {n : Nat} (h : bad x n) : x < nI 0 ∨ (¬ x < nI 0 ∧ ¬ x < nI n ∧ nI n ≤ x) := by
  by_cases h1 : x < nI 0
  · exact Or.inl h1
  · have h2 := h.resolve_left h1
    exact Or.inr ⟨h1, Int32.not_lt.mpr h2, h2⟩
theorem badT {x : Int32} {n : Nat} (h : bad x n) (hn : n < 2147483648) : x.toInt < 0 ∨ (n : Int) ≤ x.toInt := by
  rcases h with h | h
  · left
    have := Int32.lt_iff_toInt_lt.mp h
    rw [nI_toInt (by omega)] at this
    omega
  · right
    have := Int32.le_iff_toInt_le.mp h
    rw [nI_toInt hn] at this
    exact this
theorem bad_is {x : Int32} {n : Nat} (h : bad x n) (hn : n < 2147483648) : (nI 0 ≤ x ∧ x ≤ nI n - nI 1) = False := by
  apply eq_false
  intro ⟨h1, h2⟩
  rcases h with h | h
  · exact Int32.not_le.mpr h h1
  · have e1 := Int32.le_iff_toInt_le.mp h
    have e2 := Int32.le_iff_toInt_le.mp h2
    rw [nI_toInt hn] at e1
    by_cases h0 : n = 0
    · subst h0
      have e3 : (nI 0 - nI 1).toInt = -1 := by decide
      omega
    · rw [nI_sub (by omega), nI_toInt (by omega)] at e2
      omega
theorem bad_ik {x : Int32} {n k : Nat} (h : bad x n) (hk : n = k + 1) (hn : n < 2147483648) : (nI 0 ≤ x ∧ x ≤ nI k) = False := by
  have := bad_is h hn
  rw [nI_sub (by omega), show n - 1 = k by omega] at this
  exact this
theorem good_is {m n : Nat} (h : m < n) (hn : n < 2147483648) : (nI 0 ≤ nI m ∧ nI m ≤ nI n - nI 1) = True := by
  rw [nI_sub (by omega)]
  exact eq_true ⟨nI_le (by omega) (by omega), nI_le (by omega) (by omega)⟩
theorem good_ik {m k : Nat} (h : m ≤ k) (hn : k < 2147483648) : (nI 0 ≤ nI m ∧ nI m ≤ nI k) = True := eq_true ⟨nI_le (by omega) (by omega), nI_le (by omega) (by omega)⟩
theorem bI_T {i : Decidable True} : @bI True i = nI 1 := if_pos trivial
theorem bI_F {i : Decidable False} : @bI False i = nI 0 := if_neg id
theorem oN_s {m : Nat} : oN (some m) = nI m := rfl
theorem oN_n : oN none = -1 := rfl

/-! readers: small ones -/
abbrev CQc (μ : Mu) (s c : Nat) (r : Nat → Int32) : Prop := ShR μ s c ∧ RelB μ s r ∧ RelC μ c r ∧ okR r
section Read
variable {d : Nat} {Q : Po} {μ : Mu} {s c m n q i j k t z : Nat} {x y g : Int32} {r : Nat → Int32}
theorem c_149t (hW : ShR μ s c) (hB : RelB μ s r) (hO : okR r) (hm : m < nM r) : Ev (d + 2) 149 [.ref 1000, .int (nI m)] μ Q = Q (some (some (.int (nI 1)))) μ := by
  have hW0 := hW
  obtain ⟨w0, w1, w2, w3, w4, w5, w6, w7, w8, w9, w10, w11, w12, w13, w14, w15⟩ := hW
  have hS0 := w12
  obtain ⟨q0, q1, q2, q3, q4, q5, q6, q7, q8, q9, q10, q11, q12, q13, q14, q15⟩ := w12
  have hB9 := hB
  obtain ⟨b1, b2, b3, b4, b5, b6, b7, b8⟩ := hB
  have hO0 := hO
  obtain ⟨o2, o6, o387, oT, o1708, oO, o1741, oF, o1, oq1, oq6, o0, ol1, ol40, oV, oN1, oP1, oF1⟩ := hO
  rw [in_149]
  simp (disch := first | omega | rfl) only [e_149_0, e_149_1, e_149_2, e_149_3, e_149_6, e_149_9, e_149_10, e_149_11, e_149_14, w0, w1, w2, w3, w4, w5, w6, w7, w8, w9, w10, q1, q2, q3, q4, q5, q6, q7, q8, q9, q10, q11, q12, q13, q14, q15, b1, b2, b3, b4, b5, b6, o2, o387, o1708, o1741, o1, o0, ge1, ule_t, true_or, or_true, nI_add, nI_mul, nI_sub, nI_clamp, nI_lt_t, nI_lt_f, nI_le_t, nI_le_f, nI_eq_t, nI_eq_f, vp_nI, tI, fI, not_true, not_false_iff, true_and, and_true, Classical.not_not, mS_uI, mS_uA, mS_uJ, mS_uR, mS_uX, mR_uI, mR_uA, mR_uJ, mR_uX, mX_uI, mX_uA, mX_uJ, mX_uR, mI_s, mI_n, mI_A, mI_An, mI_uJ, mI_uR, mI_uX, mJ_uI, mJ_uA, mJ_uR, mJ_uX, onR_s, kC_v, kC_n, kC_t, ul0, ula1, ula2, ula3, ula4, ulb2, ulb3, ulb4, ulc2, ulc3, ulc4, ule4, ulf3, ulf4, s_155, good_is hm (by omega : nM r < 2147483648), bI_T]
theorem c_149f (hW : ShR μ s c) (hB : RelB μ s r) (hO : okR r) (hx : bad x (nM r)) : Ev (d + 2) 149 [.ref 1000, .int x] μ Q = Q (some (some (.int (nI 0)))) μ := by
  have hW0 := hW
  obtain ⟨w0, w1, w2, w3, w4, w5, w6, w7, w8, w9, w10, w11, w12, w13, w14, w15⟩ := hW
  have hS0 := w12
  obtain ⟨q0, q1, q2, q3, q4, q5, q6, q7, q8, q9, q10, q11, q12, q13, q14, q15⟩ := w12
  have hB9 := hB
  obtain ⟨b1, b2, b3, b4, b5, b6, b7, b8⟩ := hB
  have hO0 := hO
  obtain ⟨o2, o6, o387, oT, o1708, oO, o1741, oF, o1, oq1, oq6, o0, ol1, ol40, oV, oN1, oP1, oF1⟩ := hO
  rw [in_149]
  simp (disch := first | omega | rfl) only [e_149_0, e_149_1, e_149_2, e_149_3, e_149_6, e_149_9, e_149_10, e_149_11, e_149_14, w0, w1, w2, w3, w4, w5, w6, w7, w8, w9, w10, q1, q2, q3, q4, q5, q6, q7, q8, q9, q10, q11, q12, q13, q14, q15, b1, b2, b3, b4, b5, b6, o2, o387, o1708, o1741, o1, o0, ge1, ule_t, true_or, or_true, nI_add, nI_mul, nI_sub, nI_clamp, nI_lt_t, nI_lt_f, nI_le_t, nI_le_f, nI_eq_t, nI_eq_f, vp_nI, tI, fI, not_true, not_false_iff, true_and, and_true, Classical.not_not, mS_uI, mS_uA, mS_uJ, mS_uR, mS_uX, mR_uI, mR_uA, mR_uJ, mR_uX, mX_uI, mX_uA, mX_uJ, mX_uR, mI_s, mI_n, mI_A, mI_An, mI_uJ, mI_uR, mI_uX, mJ_uI, mJ_uA, mJ_uR, mJ_uX, onR_s, kC_v, kC_n, kC_t, ul0, ula1, ula2, ula3, ula4, ulb2, ulb3, ulb4, ulc2, ulc3, ulc4, ule4, ulf3, ulf4, s_155, bad_is hx (by omega), bI_F]
theorem c_150t (hW : ShR μ s c) (hB : RelB μ s r) (hO : okR r) (hm : m < nM r) : Ev (d + 3) 150 [.ref 1000, .int (nI m)] μ Q = Q (some (some (.ref (s + 5 + 3 * m)))) μ := by
  have hW0 := hW
  obtain ⟨w0, w1, w2, w3, w4, w5, w6, w7, w8, w9, w10, w11, w12, w13, w14, w15⟩ := hW
  have hS0 := w12
  obtain ⟨q0, q1, q2, q3, q4, q5, q6, q7, q8, q9, q10, q11, q12, q13, q14, q15⟩ := w12
  have hB9 := hB
  obtain ⟨b1, b2, b3, b4, b5, b6, b7, b8⟩ := hB
  have hO0 := hO
  obtain ⟨o2, o6, o387, oT, o1708, oO, o1741, oF, o1, oq1, oq6, o0, ol1, ol40, oV, oN1, oP1, oF1⟩ := hO
  have hB0 := hB9
  rw [in_150]
  simp (disch := first | omega | rfl) only [e_150_0, e_150_1, e_150_2, e_150_5, e_150_8, e_150_19, e_150_20, e_150_23, e_150_26, e_150_27, e_150_28, w0, w1, w2, w3, w4, w5, w6, w7, w8, w9, w10, q1, q2, q3, q4, q5, q6, q7, q8, q9, q10, q11, q12, q13, q14, q15, b1, b2, b3, b4, b5, b6, o2, o387, o1708, o1741, o1, o0, ge1, ule_t, true_or, or_true, nI_add, nI_mul, nI_sub, nI_clamp, nI_lt_t, nI_lt_f, nI_le_t, nI_le_f, nI_eq_t, nI_eq_f, vp_nI, tI, fI, not_true, not_false_iff, true_and, and_true, Classical.not_not, mS_uI, mS_uA, mS_uJ, mS_uR, mS_uX, mR_uI, mR_uA, mR_uJ, mR_uX, mX_uI, mX_uA, mX_uJ, mX_uR, mI_s, mI_n, mI_A, mI_An, mI_uJ, mI_uR, mI_uX, mJ_uI, mJ_uA, mJ_uR, mJ_uX, onR_s, kC_v, kC_n, kC_t, ul0, ula1, ula2, ula3, ula4, ulb2, ulb3, ulb4, ulc2, ulc3, ulc4, ule4, ulf3, ulf4, c_149t hW0 hB0 hO0 hm]
theorem c_150f (hW : ShR μ s c) (hB : RelB μ s r) (hO : okR r) (hx : bad x (nM r)) : Ev (d + 3) 150 [.ref 1000, .int x] μ Q = ∀ x, mX μ ≤ x → Q none (uX μ x) := by
  have hW0 := hW
  obtain ⟨w0, w1, w2, w3, w4, w5, w6, w7, w8, w9, w10, w11, w12, w13, w14, w15⟩ := hW
  have hS0 := w12
  obtain ⟨q0, q1, q2, q3, q4, q5, q6, q7, q8, q9, q10, q11, q12, q13, q14, q15⟩ := w12
  have hB9 := hB
  obtain ⟨b1, b2, b3, b4, b5, b6, b7, b8⟩ := hB
  have hO0 := hO
  obtain ⟨o2, o6, o387, oT, o1708, oO, o1741, oF, o1, oq1, oq6, o0, ol1, ol40, oV, oN1, oP1, oF1⟩ := hO
  have hB0 := hB9
  rw [in_150]
  simp (disch := first | omega | rfl) only [e_150_0, e_150_1, e_150_2, e_150_5, e_150_8, e_150_19, e_150_20, e_150_23, e_150_26, e_150_27, e_150_28, w0, w1, w2, w3, w4, w5, w6, w7, w8, w9, w10, q1, q2, q3, q4, q5, q6, q7, q8, q9, q10, q11, q12, q13, q14, q15, b1, b2, b3, b4, b5, b6, o2, o387, o1708, o1741, o1, o0, ge1, ule_t, true_or, or_true, nI_add, nI_mul, nI_sub, nI_clamp, nI_lt_t, nI_lt_f, nI_le_t, nI_le_f, nI_eq_t, nI_eq_f, vp_nI, tI, fI, not_true, not_false_iff, true_and, and_true, Classical.not_not, mS_uI, mS_uA, mS_uJ, mS_uR, mS_uX, mR_uI, mR_uA, mR_uJ, mR_uX, mX_uI, mX_uA, mX_uJ, mX_uR, mI_s, mI_n, mI_A, mI_An, mI_uJ, mI_uR, mI_uX, mJ_uI, mJ_uA, mJ_uR, mJ_uX, onR_s, kC_v, kC_n, kC_t, ul0, ula1, ula2, ula3, ula4, ulb2, ulb3, ulb4, ulc2, ulc3, ulc4, ule4, ulf3, ulf4, c_149f hW0 hB0 hO0 hx]
theorem c_151t (hW : ShR μ s c) (hB : RelB μ s r) (hO : okR r) (ht : t < nT r) : Ev (d + 2) 151 [.ref 1000, .int (nI t)] μ Q = Q (some none) μ := by
  have hW0 := hW
  obtain ⟨w0, w1, w2, w3, w4, w5, w6, w7, w8, w9, w10, w11, w12, w13, w14, w15⟩ := hW
  have hS0 := w12
  obtain ⟨q0, q1, q2, q3, q4, q5, q6, q7, q8, q9, q10, q11, q12, q13, q14, q15⟩ := w12
  have hB9 := hB
  obtain ⟨b1, b2, b3, b4, b5, b6, b7, b8⟩ := hB
  have hO0 := hO
  obtain ⟨o2, o6, o387, oT, o1708, oO, o1741, oF, o1, oq1, oq6, o0, ol1, ol40, oV, oN1, oP1, oF1⟩ := hO
  rw [in_151]
  simp (disch := first | omega | rfl) only [e_151_0, e_151_1, e_151_2, e_151_3, e_151_6, e_151_9, e_151_10, e_151_11, e_151_14, e_151_17, e_151_28, w0, w1, w2, w3, w4, w5, w6, w7, w8, w9, w10, q1, q2, q3, q4, q5, q6, q7, q8, q9, q10, q11, q12, q13, q14, q15, b1, b2, b3, b4, b5, b6, o2, o387, o1708, o1741, o1, o0, ge1, ule_t, true_or, or_true, nI_add, nI_mul, nI_sub, nI_clamp, nI_lt_t, nI_lt_f, nI_le_t, nI_le_f, nI_eq_t, nI_eq_f, vp_nI, tI, fI, not_true, not_false_iff, true_and, and_true, Classical.not_not, mS_uI, mS_uA, mS_uJ, mS_uR, mS_uX, mR_uI, mR_uA, mR_uJ, mR_uX, mX_uI, mX_uA, mX_uJ, mX_uR, mI_s, mI_n, mI_A, mI_An, mI_uJ, mI_uR, mI_uX, mJ_uI, mJ_uA, mJ_uR, mJ_uX, onR_s, kC_v, kC_n, kC_t, ul0, ula1, ula2, ula3, ula4, ulb2, ulb3, ulb4, ulc2, ulc3, ulc4, ule4, ulf3, ulf4, s_155, good_is ht (by omega : nT r < 2147483648), bI_T]
theorem c_151f (hW : ShR μ s c) (hB : RelB μ s r) (hO : okR r) (hx : bad x (nT r)) : Ev (d + 2) 151 [.ref 1000, .int x] μ Q = ∀ x, mX μ ≤ x → Q none (uX μ x) := by
  have hW0 := hW
  obtain ⟨w0, w1, w2, w3, w4, w5, w6, w7, w8, w9, w10, w11, w12, w13, w14, w15⟩ := hW
  have hS0 := w12
  obtain ⟨q0, q1, q2, q3, q4, q5, q6, q7, q8, q9, q10, q11, q12, q13, q14, q15⟩ := w12
  have hB9 := hB
  obtain ⟨b1, b2, b3, b4, b5, b6, b7, b8⟩ := hB
  have hO0 := hO
  obtain ⟨o2, o6, o387, oT, o1708, oO, o1741, oF, o1, oq1, oq6, o0, ol1, ol40, oV, oN1, oP1, oF1⟩ := hO
  rw [in_151]
  simp (disch := first | omega | rfl) only [e_151_0, e_151_1, e_151_2, e_151_3, e_151_6, e_151_9, e_151_10, e_151_11, e_151_14, e_151_17, e_151_28, w0, w1, w2, w3, w4, w5, w6, w7, w8, w9, w10, q1, q2, q3, q4, q5, q6, q7, q8, q9, q10, q11, q12, q13, q14, q15, b1, b2, b3, b4, b5, b6, o2, o387, o1708, o1741, o1, o0, ge1, ule_t, true_or, or_true, nI_add, nI_mul, nI_sub, nI_clamp, nI_lt_t, nI_lt_f, nI_le_t, nI_le_f, nI_eq_t, nI_eq_f, vp_nI, tI, fI, not_true, not_false_iff, true_and, and_true, Classical.not_not, mS_uI, mS_uA, mS_uJ, mS_uR, mS_uX, mR_uI, mR_uA, mR_uJ, mR_uX, mX_uI, mX_uA, mX_uJ, mX_uR, mI_s, mI_n, mI_A, mI_An, mI_uJ, mI_uR, mI_uX, mJ_uI, mJ_uA, mJ_uR, mJ_uX, onR_s, kC_v, kC_n, kC_t, ul0, ula1, ula2, ula3, ula4, ulb2, ulb3, ulb4, ulc2, ulc3, ulc4, ule4, ulf3, ulf4, s_155, bad_is hx (by omega), bI_F]
theorem c_152t (hi : i < 16) : Ev (d + 3) 152 [.int (nI i)] μ Q = Q (some none) μ := by
  rw [in_152]
  simp (disch := first | omega | rfl) only [e_152_0, e_152_1, e_152_4, e_152_7, e_152_18, ge1, ule_t, true_or, or_true, nI_add, nI_mul, nI_sub, nI_clamp, nI_lt_t, nI_lt_f, nI_le_t, nI_le_f, nI_eq_t, nI_eq_f, vp_nI, tI, fI, not_true, not_false_iff, true_and, and_true, Classical.not_not, mS_uI, mS_uA, mS_uJ, mS_uR, mS_uX, mR_uI, mR_uA, mR_uJ, mR_uX, mX_uI, mX_uA, mX_uJ, mX_uR, mI_s, mI_n, mI_A, mI_An, mI_uJ, mI_uR, mI_uX, mJ_uI, mJ_uA, mJ_uR, mJ_uX, onR_s, kC_v, kC_n, kC_t, ul0, ula1, ula2, ula3, ula4, ulb2, ulb3, ulb4, ulc2, ulc3, ulc4, ule4, ulf3, ulf4, s_153, good_ik (show i ≤ 15 by omega) (by omega), bI_T]
theorem c_152f (hx : bad x 16) : Ev (d + 3) 152 [.int x] μ Q = (∀ x, mX μ ≤ x → Q none (uX μ x)) := by
  rw [in_152]
  simp (disch := first | omega | rfl) only [e_152_0, e_152_1, e_152_4, e_152_7, e_152_18, ge1, ule_t, true_or, or_true, nI_add, nI_mul, nI_sub, nI_clamp, nI_lt_t, nI_lt_f, nI_le_t, nI_le_f, nI_eq_t, nI_eq_f, vp_nI, tI, fI, not_true, not_false_iff, true_and, and_true, Classical.not_not, mS_uI, mS_uA, mS_uJ, mS_uR, mS_uX, mR_uI, mR_uA, mR_uJ, mR_uX, mX_uI, mX_uA, mX_uJ, mX_uR, mI_s, mI_n, mI_A, mI_An, mI_uJ, mI_uR, mI_uX, mJ_uI, mJ_uA, mJ_uR, mJ_uX, onR_s, kC_v, kC_n, kC_t, ul0, ula1, ula2, ula3, ula4, ulb2, ulb3, ulb4, ulc2, ulc3, ulc4, ule4, ulf3, ulf4, s_153, bad_ik hx (show 16 = 15 + 1 by omega) (by omega), bI_F]
theorem c_98_0 (hW : ShR μ s c) (hB : RelB μ s r) (hO : okR r)  : Ev (d + 1) 98 [.ref 1000, .int (nI 0)] μ Q = Q (some (some (.int (r 2)))) μ := by
  have hW0 := hW
  obtain ⟨w0, w1, w2, w3, w4, w5, w6, w7, w8, w9, w10, w11, w12, w13, w14, w15⟩ := hW
  have hS0 := w12
  obtain ⟨q0, q1, q2, q3, q4, q5, q6, q7, q8, q9, q10, q11, q12, q13, q14, q15⟩ := w12
  have hB9 := hB
  obtain ⟨b1, b2, b3, b4, b5, b6, b7, b8⟩ := hB
  have hO0 := hO
  obtain ⟨o2, o6, o387, oT, o1708, oO, o1741, oF, o1, oq1, oq6, o0, ol1, ol40, oV, oN1, oP1, oF1⟩ := hO
  rw [in_98]
  simp (disch := first | omega | rfl) only [e_98_0, e_98_1_0, e_98_1_1, e_98_1_2, e_98_1_3, e_98_32, e_98_33, e_98_36, e_98_39, e_98_40, e_98_41, e_98_44, e_98_47, e_98_48, e_98_49, e_98_52, e_98_55, e_98_56, e_98_57, e_98_60, e_98_63, e_98_66, e_98_67, e_98_69, w0, w1, w2, w3, w4, w5, w6, w7, w8, w9, w10, q1, q2, q3, q4, q5, q6, q7, q8, q9, q10, q11, q12, q13, q14, q15, b1, b2, b3, b4, b5, b6, o2, o387, o1708, o1741, o1, o0, ge1, ule_t, true_or, or_true, nI_add, nI_mul, nI_sub, nI_clamp, nI_lt_t, nI_lt_f, nI_le_t, nI_le_f, nI_eq_t, nI_eq_f, vp_nI, tI, fI, not_true, not_false_iff, true_and, and_true, Classical.not_not, mS_uI, mS_uA, mS_uJ, mS_uR, mS_uX, mR_uI, mR_uA, mR_uJ, mR_uX, mX_uI, mX_uA, mX_uJ, mX_uR, mI_s, mI_n, mI_A, mI_An, mI_uJ, mI_uR, mI_uX, mJ_uI, mJ_uA, mJ_uR, mJ_uX, onR_s, kC_v, kC_n, kC_t, ul0, ula1, ula2, ula3, ula4, ulb2, ulb3, ulb4, ulc2, ulc3, ulc4, ule4, ulf3, ulf4, e_98_1_0]
theorem c_98_1 (hW : ShR μ s c) (hB : RelB μ s r) (hO : okR r)  : Ev (d + 1) 98 [.ref 1000, .int (nI 1)] μ Q = Q (some (some (.int (r 387)))) μ := by
  have hW0 := hW
  obtain ⟨w0, w1, w2, w3, w4, w5, w6, w7, w8, w9, w10, w11, w12, w13, w14, w15⟩ := hW
  have hS0 := w12
  obtain ⟨q0, q1, q2, q3, q4, q5, q6, q7, q8, q9, q10, q11, q12, q13, q14, q15⟩ := w12
  have hB9 := hB
  obtain ⟨b1, b2, b3, b4, b5, b6, b7, b8⟩ := hB
  have hO0 := hO
  obtain ⟨o2, o6, o387, oT, o1708, oO, o1741, oF, o1, oq1, oq6, o0, ol1, ol40, oV, oN1, oP1, oF1⟩ := hO
  rw [in_98]
  simp (disch := first | omega | rfl) only [e_98_0, e_98_1_0, e_98_1_1, e_98_1_2, e_98_1_3, e_98_32, e_98_33, e_98_36, e_98_39, e_98_40, e_98_41, e_98_44, e_98_47, e_98_48, e_98_49, e_98_52, e_98_55, e_98_56, e_98_57, e_98_60, e_98_63, e_98_66, e_98_67, e_98_69, w0, w1, w2, w3, w4, w5, w6, w7, w8, w9, w10, q1, q2, q3, q4, q5, q6, q7, q8, q9, q10, q11, q12, q13, q14, q15, b1, b2, b3, b4, b5, b6, o2, o387, o1708, o1741, o1, o0, ge1, ule_t, true_or, or_true, nI_add, nI_mul, nI_sub, nI_clamp, nI_lt_t, nI_lt_f, nI_le_t, nI_le_f, nI_eq_t, nI_eq_f, vp_nI, tI, fI, not_true, not_false_iff, true_and, and_true, Classical.not_not, mS_uI, mS_uA, mS_uJ, mS_uR, mS_uX, mR_uI, mR_uA, mR_uJ, mR_uX, mX_uI, mX_uA, mX_uJ, mX_uR, mI_s, mI_n, mI_A, mI_An, mI_uJ, mI_uR, mI_uX, mJ_uI, mJ_uA, mJ_uR, mJ_uX, onR_s, kC_v, kC_n, kC_t, ul0, ula1, ula2, ula3, ula4, ulb2, ulb3, ulb4, ulc2, ulc3, ulc4, ule4, ulf3, ulf4, e_98_1_1]
theorem c_98_2 (hW : ShR μ s c) (hB : RelB μ s r) (hO : okR r)  : Ev (d + 1) 98 [.ref 1000, .int (nI 2)] μ Q = Q (some (some (.int (r 1708)))) μ := by
  have hW0 := hW
  obtain ⟨w0, w1, w2, w3, w4, w5, w6, w7, w8, w9, w10, w11, w12, w13, w14, w15⟩ := hW
  have hS0 := w12
  obtain ⟨q0, q1, q2, q3, q4, q5, q6, q7, q8, q9, q10, q11, q12, q13, q14, q15⟩ := w12
  have hB9 := hB
  obtain ⟨b1, b2, b3, b4, b5, b6, b7, b8⟩ := hB
  have hO0 := hO
  obtain ⟨o2, o6, o387, oT, o1708, oO, o1741, oF, o1, oq1, oq6, o0, ol1, ol40, oV, oN1, oP1, oF1⟩ := hO
  rw [in_98]
  simp (disch := first | omega | rfl) only [e_98_0, e_98_1_0, e_98_1_1, e_98_1_2, e_98_1_3, e_98_32, e_98_33, e_98_36, e_98_39, e_98_40, e_98_41, e_98_44, e_98_47, e_98_48, e_98_49, e_98_52, e_98_55, e_98_56, e_98_57, e_98_60, e_98_63, e_98_66, e_98_67, e_98_69, w0, w1, w2, w3, w4, w5, w6, w7, w8, w9, w10, q1, q2, q3, q4, q5, q6, q7, q8, q9, q10, q11, q12, q13, q14, q15, b1, b2, b3, b4, b5, b6, o2, o387, o1708, o1741, o1, o0, ge1, ule_t, true_or, or_true, nI_add, nI_mul, nI_sub, nI_clamp, nI_lt_t, nI_lt_f, nI_le_t, nI_le_f, nI_eq_t, nI_eq_f, vp_nI, tI, fI, not_true, not_false_iff, true_and, and_true, Classical.not_not, mS_uI, mS_uA, mS_uJ, mS_uR, mS_uX, mR_uI, mR_uA, mR_uJ, mR_uX, mX_uI, mX_uA, mX_uJ, mX_uR, mI_s, mI_n, mI_A, mI_An, mI_uJ, mI_uR, mI_uX, mJ_uI, mJ_uA, mJ_uR, mJ_uX, onR_s, kC_v, kC_n, kC_t, ul0, ula1, ula2, ula3, ula4, ulb2, ulb3, ulb4, ulc2, ulc3, ulc4, ule4, ulf3, ulf4, e_98_1_2]
theorem c_98_3 (hW : ShR μ s c) (hB : RelB μ s r) (hO : okR r)  : Ev (d + 1) 98 [.ref 1000, .int (nI 3)] μ Q = Q (some (some (.int (r 1741)))) μ := by
  have hW0 := hW
  obtain ⟨w0, w1, w2, w3, w4, w5, w6, w7, w8, w9, w10, w11, w12, w13, w14, w15⟩ := hW
  have hS0 := w12
  obtain ⟨q0, q1, q2, q3, q4, q5, q6, q7, q8, q9, q10, q11, q12, q13, q14, q15⟩ := w12
  have hB9 := hB
  obtain ⟨b1, b2, b3, b4, b5, b6, b7, b8⟩ := hB
  have hO0 := hO
  obtain ⟨o2, o6, o387, oT, o1708, oO, o1741, oF, o1, oq1, oq6, o0, ol1, ol40, oV, oN1, oP1, oF1⟩ := hO
  rw [in_98]
  simp (disch := first | omega | rfl) only [e_98_0, e_98_1_0, e_98_1_1, e_98_1_2, e_98_1_3, e_98_32, e_98_33, e_98_36, e_98_39, e_98_40, e_98_41, e_98_44, e_98_47, e_98_48, e_98_49, e_98_52, e_98_55, e_98_56, e_98_57, e_98_60, e_98_63, e_98_66, e_98_67, e_98_69, w0, w1, w2, w3, w4, w5, w6, w7, w8, w9, w10, q1, q2, q3, q4, q5, q6, q7, q8, q9, q10, q11, q12, q13, q14, q15, b1, b2, b3, b4, b5, b6, o2, o387, o1708, o1741, o1, o0, ge1, ule_t, true_or, or_true, nI_add, nI_mul, nI_sub, nI_clamp, nI_lt_t, nI_lt_f, nI_le_t, nI_le_f, nI_eq_t, nI_eq_f, vp_nI, tI, fI, not_true, not_false_iff, true_and, and_true, Classical.not_not, mS_uI, mS_uA, mS_uJ, mS_uR, mS_uX, mR_uI, mR_uA, mR_uJ, mR_uX, mX_uI, mX_uA, mX_uJ, mX_uR, mI_s, mI_n, mI_A, mI_An, mI_uJ, mI_uR, mI_uX, mJ_uI, mJ_uA, mJ_uR, mJ_uX, onR_s, kC_v, kC_n, kC_t, ul0, ula1, ula2, ula3, ula4, ulb2, ulb3, ulb4, ulc2, ulc3, ulc4, ule4, ulf3, ulf4, e_98_1_3]
theorem c_98f (hW : ShR μ s c) (hB : RelB μ s r) (hO : okR r) (hx : bad x 4) : Ev (d + 1) 98 [.ref 1000, .int x] μ Q = Q (some (some (.int (-2)))) μ := by
  have hW0 := hW
  obtain ⟨w0, w1, w2, w3, w4, w5, w6, w7, w8, w9, w10, w11, w12, w13, w14, w15⟩ := hW
  have hS0 := w12
  obtain ⟨q0, q1, q2, q3, q4, q5, q6, q7, q8, q9, q10, q11, q12, q13, q14, q15⟩ := w12
  have hB9 := hB
  obtain ⟨b1, b2, b3, b4, b5, b6, b7, b8⟩ := hB
  have hO0 := hO
  obtain ⟨o2, o6, o387, oT, o1708, oO, o1741, oF, o1, oq1, oq6, o0, ol1, ol40, oV, oN1, oP1, oF1⟩ := hO
  have hb := badT hx (by omega)
  rw [in_98]
  simp (disch := first | omega | rfl) only [e_98_0, e_98_1_0, e_98_1_1, e_98_1_2, e_98_1_3, e_98_32, e_98_33, e_98_36, e_98_39, e_98_40, e_98_41, e_98_44, e_98_47, e_98_48, e_98_49, e_98_52, e_98_55, e_98_56, e_98_57, e_98_60, e_98_63, e_98_66, e_98_67, e_98_69, w0, w1, w2, w3, w4, w5, w6, w7, w8, w9, w10, q1, q2, q3, q4, q5, q6, q7, q8, q9, q10, q11, q12, q13, q14, q15, b1, b2, b3, b4, b5, b6, o2, o387, o1708, o1741, o1, o0, ge1, ule_t, true_or, or_true, nI_add, nI_mul, nI_sub, nI_clamp, nI_lt_t, nI_lt_f, nI_le_t, nI_le_f, nI_eq_t, nI_eq_f, vp_nI, tI, fI, not_true, not_false_iff, true_and, and_true, Classical.not_not, mS_uI, mS_uA, mS_uJ, mS_uR, mS_uX, mR_uI, mR_uA, mR_uJ, mR_uX, mX_uI, mX_uA, mX_uJ, mX_uR, mI_s, mI_n, mI_A, mI_An, mI_uJ, mI_uR, mI_uX, mJ_uI, mJ_uA, mJ_uR, mJ_uX, onR_s, kC_v, kC_n, kC_t, ul0, ula1, ula2, ula3, ula4, ulb2, ulb3, ulb4, ulc2, ulc3, ulc4, ule4, ulf3, ulf4, e_98_1_d (show x.toInt < 0 ∨ 3 < x.toInt by omega)]
theorem c_101_0 (hW : ShR μ s c) (hB : RelB μ s r) (hO : okR r) (hm : m < nM r) : Ev (d + 4) 101 [.ref 1000, .int (nI m), .int (nI 0)] μ Q = Q (some (some (.int (rW r m 0)))) μ := by
  have hW0 := hW
  obtain ⟨w0, w1, w2, w3, w4, w5, w6, w7, w8, w9, w10, w11, w12, w13, w14, w15⟩ := hW
  have hS0 := w12
  obtain ⟨q0, q1, q2, q3, q4, q5, q6, q7, q8, q9, q10, q11, q12, q13, q14, q15⟩ := w12
  have hB9 := hB
  obtain ⟨b1, b2, b3, b4, b5, b6, b7, b8⟩ := hB
  have hO0 := hO
  obtain ⟨o2, o6, o387, oT, o1708, oO, o1741, oF, o1, oq1, oq6, o0, ol1, ol40, oV, oN1, oP1, oF1⟩ := hO
  rw [in_101]
  simp (disch := first | omega | rfl) only [e_101_0, e_101_1, e_101_2, e_101_5, e_101_6, e_101_7_0, e_101_7_1, e_101_7_2, e_101_7_3, e_101_7_4, e_101_7_5, e_101_44, e_101_45, e_101_48, e_101_49, e_101_50, e_101_53, e_101_54, e_101_55, e_101_58, e_101_61, e_101_62, e_101_65, e_101_66, e_101_67, e_101_68, e_101_71, e_101_72, e_101_73, e_101_76, e_101_77, e_101_78, e_101_81, e_101_82, e_101_84, w0, w1, w2, w3, w4, w5, w6, w7, w8, w9, w10, q1, q2, q3, q4, q5, q6, q7, q8, q9, q10, q11, q12, q13, q14, q15, b1, b2, b3, b4, b5, b6, o2, o387, o1708, o1741, o1, o0, ge1, ule_t, true_or, or_true, nI_add, nI_mul, nI_sub, nI_clamp, nI_lt_t, nI_lt_f, nI_le_t, nI_le_f, nI_eq_t, nI_eq_f, vp_nI, tI, fI, not_true, not_false_iff, true_and, and_true, Classical.not_not, mS_uI, mS_uA, mS_uJ, mS_uR, mS_uX, mR_uI, mR_uA, mR_uJ, mR_uX, mX_uI, mX_uA, mX_uJ, mX_uR, mI_s, mI_n, mI_A, mI_An, mI_uJ, mI_uR, mI_uX, mJ_uI, mJ_uA, mJ_uR, mJ_uX, onR_s, kC_v, kC_n, kC_t, ul0, ula1, ula2, ula3, ula4, ulb2, ulb3, ulb4, ulc2, ulc3, ulc4, ule4, ulf3, ulf4, e_101_7_0, c_150t hW0 hB9 hO0 hm, cv0, cv1, cv2, cv3, cv4, cv5, cv6, cvrec, (b7 m hm).1 0 (by omega), (b7 m hm).1 1 (by omega), (b7 m hm).1 2 (by omega), (b7 m hm).1 3 (by omega), (b7 m hm).1 4 (by omega), (b7 m hm).1 5 (by omega), (b7 m hm).1 6 (by omega)]
theorem c_101_1 (hW : ShR μ s c) (hB : RelB μ s r) (hO : okR r) (hm : m < nM r) : Ev (d + 4) 101 [.ref 1000, .int (nI m), .int (nI 1)] μ Q = Q (some (some (.int (rW r m 1)))) μ := by
  have hW0 := hW
  obtain ⟨w0, w1, w2, w3, w4, w5, w6, w7, w8, w9, w10, w11, w12, w13, w14, w15⟩ := hW
  have hS0 := w12
  obtain ⟨q0, q1, q2, q3, q4, q5, q6, q7, q8, q9, q10, q11, q12, q13, q14, q15⟩ := w12
  have hB9 := hB
  obtain ⟨b1, b2, b3, b4, b5, b6, b7, b8⟩ := hB
  have hO0 := hO
  obtain ⟨o2, o6, o387, oT, o1708, oO, o1741, oF, o1, oq1, oq6, o0, ol1, ol40, oV, oN1, oP1, oF1⟩ := hO
  rw [in_101]
  simp (disch := first | omega | rfl) only [e_101_0, e_101_1, e_101_2, e_101_5, e_101_6, e_101_7_0, e_101_7_1, e_101_7_2, e_101_7_3, e_101_7_4, e_101_7_5, e_101_44, e_101_45, e_101_48, e_101_49, e_101_50, e_101_53, e_101_54, e_101_55, e_101_58, e_101_61, e_101_62, e_101_65, e_101_66, e_101_67, e_101_68, e_101_71, e_101_72, e_101_73, e_101_76, e_101_77, e_101_78, e_101_81, e_101_82, e_101_84, w0, w1, w2, w3, w4, w5, w6, w7, w8, w9, w10, q1, q2, q3, q4, q5, q6, q7, q8, q9, q10, q11, q12, q13, q14, q15, b1, b2, b3, b4, b5, b6, o2, o387, o1708, o1741, o1, o0, ge1, ule_t, true_or, or_true, nI_add, nI_mul, nI_sub, nI_clamp, nI_lt_t, nI_lt_f, nI_le_t, nI_le_f, nI_eq_t, nI_eq_f, vp_nI, tI, fI, not_true, not_false_iff, true_and, and_true, Classical.not_not, mS_uI, mS_uA, mS_uJ, mS_uR, mS_uX, mR_uI, mR_uA, mR_uJ, mR_uX, mX_uI, mX_uA, mX_uJ, mX_uR, mI_s, mI_n, mI_A, mI_An, mI_uJ, mI_uR, mI_uX, mJ_uI, mJ_uA, mJ_uR, mJ_uX, onR_s, kC_v, kC_n, kC_t, ul0, ula1, ula2, ula3, ula4, ulb2, ulb3, ulb4, ulc2, ulc3, ulc4, ule4, ulf3, ulf4, e_101_7_1, c_150t hW0 hB9 hO0 hm, cv0, cv1, cv2, cv3, cv4, cv5, cv6, cvrec, (b7 m hm).1 0 (by omega), (b7 m hm).1 1 (by omega), (b7 m hm).1 2 (by omega), (b7 m hm).1 3 (by omega), (b7 m hm).1 4 (by omega), (b7 m hm).1 5 (by omega), (b7 m hm).1 6 (by omega)]
theorem c_101_2 (hW : ShR μ s c) (hB : RelB μ s r) (hO : okR r) (hm : m < nM r) : Ev (d + 4) 101 [.ref 1000, .int (nI m), .int (nI 2)] μ Q = Q (some (some (.int (rW r m 2)))) μ := by
  have hW0 := hW
  obtain ⟨w0, w1, w2, w3, w4, w5, w6, w7, w8, w9, w10, w11, w12, w13, w14, w15⟩ := hW
  have hS0 := w12
  obtain ⟨q0, q1, q2, q3, q4, q5, q6, q7, q8, q9, q10, q11, q12, q13, q14, q15⟩ := w12
  have hB9 := hB
  obtain ⟨b1, b2, b3, b4, b5, b6, b7, b8⟩ := hB
  have hO0 := hO
  obtain ⟨o2, o6, o387, oT, o1708, oO, o1741, oF, o1, oq1, oq6, o0, ol1, ol40, oV, oN1, oP1, oF1⟩ := hO
  rw [in_101]
  simp (disch := first | omega | rfl) only [e_101_0, e_101_1, e_101_2, e_101_5, e_101_6, e_101_7_0, e_101_7_1, e_101_7_2, e_101_7_3, e_101_7_4, e_101_7_5, e_101_44, e_101_45, e_101_48, e_101_49, e_101_50, e_101_53, e_101_54, e_101_55, e_101_58, e_101_61, e_101_62, e_101_65, e_101_66, e_101_67, e_101_68, e_101_71, e_101_72, e_101_73, e_101_76, e_101_77, e_101_78, e_101_81, e_101_82, e_101_84, w0, w1, w2, w3, w4, w5, w6, w7, w8, w9, w10, q1, q2, q3, q4, q5, q6, q7, q8, q9, q10, q11, q12, q13, q14, q15, b1, b2, b3, b4, b5, b6, o2, o387, o1708, o1741, o1, o0, ge1, ule_t, true_or, or_true, nI_add, nI_mul, nI_sub, nI_clamp, nI_lt_t, nI_lt_f, nI_le_t, nI_le_f, nI_eq_t, nI_eq_f, vp_nI, tI, fI, not_true, not_false_iff, true_and, and_true, Classical.not_not, mS_uI, mS_uA, mS_uJ, mS_uR, mS_uX, mR_uI, mR_uA, mR_uJ, mR_uX, mX_uI, mX_uA, mX_uJ, mX_uR, mI_s, mI_n, mI_A, mI_An, mI_uJ, mI_uR, mI_uX, mJ_uI, mJ_uA, mJ_uR, mJ_uX, onR_s, kC_v, kC_n, kC_t, ul0, ula1, ula2, ula3, ula4, ulb2, ulb3, ulb4, ulc2, ulc3, ulc4, ule4, ulf3, ulf4, e_101_7_2, c_150t hW0 hB9 hO0 hm, cv0, cv1, cv2, cv3, cv4, cv5, cv6, cvrec, (b7 m hm).1 0 (by omega), (b7 m hm).1 1 (by omega), (b7 m hm).1 2 (by omega), (b7 m hm).1 3 (by omega), (b7 m hm).1 4 (by omega), (b7 m hm).1 5 (by omega), (b7 m hm).1 6 (by omega)]
  rcases (oV m hm).1 with h | h
  · simp (disch := first | omega | rfl) only [h, ge1, ule_t, true_or, or_true, nI_add, nI_mul, nI_sub, nI_clamp, nI_lt_t, nI_lt_f, nI_le_t, nI_le_f, nI_eq_t, nI_eq_f, vp_nI, tI, fI, not_true, not_false_iff, true_and, and_true, Classical.not_not, ul0, ula1, ula2, ula3, ula4, ulb2, ulb3, ulb4, ulc2, ulc3, ulc4, ule4, ulf3, ulf4]
  · simp (disch := first | omega | rfl) only [h, ge1, ule_t, true_or, or_true, nI_add, nI_mul, nI_sub, nI_clamp, nI_lt_t, nI_lt_f, nI_le_t, nI_le_f, nI_eq_t, nI_eq_f, vp_nI, tI, fI, not_true, not_false_iff, true_and, and_true, Classical.not_not, ul0, ula1, ula2, ula3, ula4, ulb2, ulb3, ulb4, ulc2, ulc3, ulc4, ule4, ulf3, ulf4]
theorem c_101_3 (hW : ShR μ s c) (hB : RelB μ s r) (hO : okR r) (hm : m < nM r) : Ev (d + 4) 101 [.ref 1000, .int (nI m), .int (nI 3)] μ Q = Q (some (some (.int (rW r m 3)))) μ := by
  have hW0 := hW
  obtain ⟨w0, w1, w2, w3, w4, w5, w6, w7, w8, w9, w10, w11, w12, w13, w14, w15⟩ := hW
  have hS0 := w12
  obtain ⟨q0, q1, q2, q3, q4, q5, q6, q7, q8, q9, q10, q11, q12, q13, q14, q15⟩ := w12
  have hB9 := hB
  obtain ⟨b1, b2, b3, b4, b5, b6, b7, b8⟩ := hB
  have hO0 := hO
  obtain ⟨o2, o6, o387, oT, o1708, oO, o1741, oF, o1, oq1, oq6, o0, ol1, ol40, oV, oN1, oP1, oF1⟩ := hO
  rw [in_101]
  simp (disch := first | omega | rfl) only [e_101_0, e_101_1, e_101_2, e_101_5, e_101_6, e_101_7_0, e_101_7_1, e_101_7_2, e_101_7_3, e_101_7_4, e_101_7_5, e_101_44, e_101_45, e_101_48, e_101_49, e_101_50, e_101_53, e_101_54, e_101_55, e_101_58, e_101_61, e_101_62, e_101_65, e_101_66, e_101_67, e_101_68, e_101_71, e_101_72, e_101_73, e_101_76, e_101_77, e_101_78, e_101_81, e_101_82, e_101_84, w0, w1, w2, w3, w4, w5, w6, w7, w8, w9, w10, q1, q2, q3, q4, q5, q6, q7, q8, q9, q10, q11, q12, q13, q14, q15, b1, b2, b3, b4, b5, b6, o2, o387, o1708, o1741, o1, o0, ge1, ule_t, true_or, or_true, nI_add, nI_mul, nI_sub, nI_clamp, nI_lt_t, nI_lt_f, nI_le_t, nI_le_f, nI_eq_t, nI_eq_f, vp_nI, tI, fI, not_true, not_false_iff, true_and, and_true, Classical.not_not, mS_uI, mS_uA, mS_uJ, mS_uR, mS_uX, mR_uI, mR_uA, mR_uJ, mR_uX, mX_uI, mX_uA, mX_uJ, mX_uR, mI_s, mI_n, mI_A, mI_An, mI_uJ, mI_uR, mI_uX, mJ_uI, mJ_uA, mJ_uR, mJ_uX, onR_s, kC_v, kC_n, kC_t, ul0, ula1, ula2, ula3, ula4, ulb2, ulb3, ulb4, ulc2, ulc3, ulc4, ule4, ulf3, ulf4, e_101_7_3, c_150t hW0 hB9 hO0 hm, cv0, cv1, cv2, cv3, cv4, cv5, cv6, cvrec, (b7 m hm).1 0 (by omega), (b7 m hm).1 1 (by omega), (b7 m hm).1 2 (by omega), (b7 m hm).1 3 (by omega), (b7 m hm).1 4 (by omega), (b7 m hm).1 5 (by omega), (b7 m hm).1 6 (by omega)]
theorem c_101_4 (hW : ShR μ s c) (hB : RelB μ s r) (hO : okR r) (hm : m < nM r) : Ev (d + 4) 101 [.ref 1000, .int (nI m), .int (nI 4)] μ Q = Q (some (some (.int (rW r m 4)))) μ := by
  have hW0 := hW
  obtain ⟨w0, w1, w2, w3, w4, w5, w6, w7, w8, w9, w10, w11, w12, w13, w14, w15⟩ := hW
  have hS0 := w12
  obtain ⟨q0, q1, q2, q3, q4, q5, q6, q7, q8, q9, q10, q11, q12, q13, q14, q15⟩ := w12
  have hB9 := hB
  obtain ⟨b1, b2, b3, b4, b5, b6, b7, b8⟩ := hB
  have hO0 := hO
  obtain ⟨o2, o6, o387, oT, o1708, oO, o1741, oF, o1, oq1, oq6, o0, ol1, ol40, oV, oN1, oP1, oF1⟩ := hO
  rw [in_101]
  simp (disch := first | omega | rfl) only [e_101_0, e_101_1, e_101_2, e_101_5, e_101_6, e_101_7_0, e_101_7_1, e_101_7_2, e_101_7_3, e_101_7_4, e_101_7_5, e_101_44, e_101_45, e_101_48, e_101_49, e_101_50, e_101_53, e_101_54, e_101_55, e_101_58, e_101_61, e_101_62, e_101_65, e_101_66, e_101_67, e_101_68, e_101_71, e_101_72, e_101_73, e_101_76, e_101_77, e_101_78, e_101_81, e_101_82, e_101_84, w0, w1, w2, w3, w4, w5, w6, w7, w8, w9, w10, q1, q2, q3, q4, q5, q6, q7, q8, q9, q10, q11, q12, q13, q14, q15, b1, b2, b3, b4, b5, b6, o2, o387, o1708, o1741, o1, o0, ge1, ule_t, true_or, or_true, nI_add, nI_mul, nI_sub, nI_clamp, nI_lt_t, nI_lt_f, nI_le_t, nI_le_f, nI_eq_t, nI_eq_f, vp_nI, tI, fI, not_true, not_false_iff, true_and, and_true, Classical.not_not, mS_uI, mS_uA, mS_uJ, mS_uR, mS_uX, mR_uI, mR_uA, mR_uJ, mR_uX, mX_uI, mX_uA, mX_uJ, mX_uR, mI_s, mI_n, mI_A, mI_An, mI_uJ, mI_uR, mI_uX, mJ_uI, mJ_uA, mJ_uR, mJ_uX, onR_s, kC_v, kC_n, kC_t, ul0, ula1, ula2, ula3, ula4, ulb2, ulb3, ulb4, ulc2, ulc3, ulc4, ule4, ulf3, ulf4, e_101_7_4, c_150t hW0 hB9 hO0 hm, cv0, cv1, cv2, cv3, cv4, cv5, cv6, cvrec, (b7 m hm).1 0 (by omega), (b7 m hm).1 1 (by omega), (b7 m hm).1 2 (by omega), (b7 m hm).1 3 (by omega), (b7 m hm).1 4 (by omega), (b7 m hm).1 5 (by omega), (b7 m hm).1 6 (by omega)]
theorem c_101_5 (hW : ShR μ s c) (hB : RelB μ s r) (hO : okR r) (hm : m < nM r) : Ev (d + 4) 101 [.ref 1000, .int (nI m), .int (nI 5)] μ Q = Q (some (some (.int (rW r m 5)))) μ := by
  have hW0 := hW
  obtain ⟨w0, w1, w2, w3, w4, w5, w6, w7, w8, w9, w10, w11, w12, w13, w14, w15⟩ := hW
  have hS0 := w12
  obtain ⟨q0, q1, q2, q3, q4, q5, q6, q7, q8, q9, q10, q11, q12, q13, q14, q15⟩ := w12
  have hB9 := hB
  obtain ⟨b1, b2, b3, b4, b5, b6, b7, b8⟩ := hB
  have hO0 := hO
  obtain ⟨o2, o6, o387, oT, o1708, oO, o1741, oF, o1, oq1, oq6, o0, ol1, ol40, oV, oN1, oP1, oF1⟩ := hO
  rw [in_101]
  simp (disch := first | omega | rfl) only [e_101_0, e_101_1, e_101_2, e_101_5, e_101_6, e_101_7_0, e_101_7_1, e_101_7_2, e_101_7_3, e_101_7_4, e_101_7_5, e_101_44, e_101_45, e_101_48, e_101_49, e_101_50, e_101_53, e_101_54, e_101_55, e_101_58, e_101_61, e_101_62, e_101_65, e_101_66, e_101_67, e_101_68, e_101_71, e_101_72, e_101_73, e_101_76, e_101_77, e_101_78, e_101_81, e_101_82, e_101_84, w0, w1, w2, w3, w4, w5, w6, w7, w8, w9, w10, q1, q2, q3, q4, q5, q6, q7, q8, q9, q10, q11, q12, q13, q14, q15, b1, b2, b3, b4, b5, b6, o2, o387, o1708, o1741, o1, o0, ge1, ule_t, true_or, or_true, nI_add, nI_mul, nI_sub, nI_clamp, nI_lt_t, nI_lt_f, nI_le_t, nI_le_f, nI_eq_t, nI_eq_f, vp_nI, tI, fI, not_true, not_false_iff, true_and, and_true, Classical.not_not, mS_uI, mS_uA, mS_uJ, mS_uR, mS_uX, mR_uI, mR_uA, mR_uJ, mR_uX, mX_uI, mX_uA, mX_uJ, mX_uR, mI_s, mI_n, mI_A, mI_An, mI_uJ, mI_uR, mI_uX, mJ_uI, mJ_uA, mJ_uR, mJ_uX, onR_s, kC_v, kC_n, kC_t, ul0, ula1, ula2, ula3, ula4, ulb2, ulb3, ulb4, ulc2, ulc3, ulc4, ule4, ulf3, ulf4, e_101_7_5, c_150t hW0 hB9 hO0 hm, cv0, cv1, cv2, cv3, cv4, cv5, cv6, cvrec, (b7 m hm).1 0 (by omega), (b7 m hm).1 1 (by omega), (b7 m hm).1 2 (by omega), (b7 m hm).1 3 (by omega), (b7 m hm).1 4 (by omega), (b7 m hm).1 5 (by omega), (b7 m hm).1 6 (by omega)]
theorem c_101f (hW : ShR μ s c) (hB : RelB μ s r) (hO : okR r) (hm : m < nM r) (hx : bad x 6) : Ev (d + 4) 101 [.ref 1000, .int (nI m), .int x] μ Q = Q (some (some (.int (-2)))) μ := by
  have hW0 := hW
  obtain ⟨w0, w1, w2, w3, w4, w5, w6, w7, w8, w9, w10, w11, w12, w13, w14, w15⟩ := hW
  have hS0 := w12
  obtain ⟨q0, q1, q2, q3, q4, q5, q6, q7, q8, q9, q10, q11, q12, q13, q14, q15⟩ := w12
  have hB9 := hB
  obtain ⟨b1, b2, b3, b4, b5, b6, b7, b8⟩ := hB
  have hO0 := hO
  obtain ⟨o2, o6, o387, oT, o1708, oO, o1741, oF, o1, oq1, oq6, o0, ol1, ol40, oV, oN1, oP1, oF1⟩ := hO
  have hb := badT hx (by omega)
  rw [in_101]
  simp (disch := first | omega | rfl) only [e_101_0, e_101_1, e_101_2, e_101_5, e_101_6, e_101_7_0, e_101_7_1, e_101_7_2, e_101_7_3, e_101_7_4, e_101_7_5, e_101_44, e_101_45, e_101_48, e_101_49, e_101_50, e_101_53, e_101_54, e_101_55, e_101_58, e_101_61, e_101_62, e_101_65, e_101_66, e_101_67, e_101_68, e_101_71, e_101_72, e_101_73, e_101_76, e_101_77, e_101_78, e_101_81, e_101_82, e_101_84, w0, w1, w2, w3, w4, w5, w6, w7, w8, w9, w10, q1, q2, q3, q4, q5, q6, q7, q8, q9, q10, q11, q12, q13, q14, q15, b1, b2, b3, b4, b5, b6, o2, o387, o1708, o1741, o1, o0, ge1, ule_t, true_or, or_true, nI_add, nI_mul, nI_sub, nI_clamp, nI_lt_t, nI_lt_f, nI_le_t, nI_le_f, nI_eq_t, nI_eq_f, vp_nI, tI, fI, not_true, not_false_iff, true_and, and_true, Classical.not_not, mS_uI, mS_uA, mS_uJ, mS_uR, mS_uX, mR_uI, mR_uA, mR_uJ, mR_uX, mX_uI, mX_uA, mX_uJ, mX_uR, mI_s, mI_n, mI_A, mI_An, mI_uJ, mI_uR, mI_uX, mJ_uI, mJ_uA, mJ_uR, mJ_uX, onR_s, kC_v, kC_n, kC_t, ul0, ula1, ula2, ula3, ula4, ulb2, ulb3, ulb4, ulc2, ulc3, ulc4, ule4, ulf3, ulf4, c_150t hW0 hB9 hO0 hm, e_101_7_d (show x.toInt < 0 ∨ 5 < x.toInt by omega)]
theorem c_101t (hW : ShR μ s c) (hB : RelB μ s r) (hO : okR r) (hx : bad x (nM r)) : Ev (d + 4) 101 [.ref 1000, .int x, .int y] μ Q = ∀ x, mX μ ≤ x → Q none (uX μ x) := by
  have hW0 := hW
  obtain ⟨w0, w1, w2, w3, w4, w5, w6, w7, w8, w9, w10, w11, w12, w13, w14, w15⟩ := hW
  have hS0 := w12
  obtain ⟨q0, q1, q2, q3, q4, q5, q6, q7, q8, q9, q10, q11, q12, q13, q14, q15⟩ := w12
  have hB9 := hB
  obtain ⟨b1, b2, b3, b4, b5, b6, b7, b8⟩ := hB
  have hO0 := hO
  obtain ⟨o2, o6, o387, oT, o1708, oO, o1741, oF, o1, oq1, oq6, o0, ol1, ol40, oV, oN1, oP1, oF1⟩ := hO
  rw [in_101]
  simp (disch := first | omega | rfl) only [e_101_0, e_101_1, e_101_2, e_101_5, e_101_6, e_101_7_0, e_101_7_1, e_101_7_2, e_101_7_3, e_101_7_4, e_101_7_5, e_101_44, e_101_45, e_101_48, e_101_49, e_101_50, e_101_53, e_101_54, e_101_55, e_101_58, e_101_61, e_101_62, e_101_65, e_101_66, e_101_67, e_101_68, e_101_71, e_101_72, e_101_73, e_101_76, e_101_77, e_101_78, e_101_81, e_101_82, e_101_84, w0, w1, w2, w3, w4, w5, w6, w7, w8, w9, w10, q1, q2, q3, q4, q5, q6, q7, q8, q9, q10, q11, q12, q13, q14, q15, b1, b2, b3, b4, b5, b6, o2, o387, o1708, o1741, o1, o0, ge1, ule_t, true_or, or_true, nI_add, nI_mul, nI_sub, nI_clamp, nI_lt_t, nI_lt_f, nI_le_t, nI_le_f, nI_eq_t, nI_eq_f, vp_nI, tI, fI, not_true, not_false_iff, true_and, and_true, Classical.not_not, mS_uI, mS_uA, mS_uJ, mS_uR, mS_uX, mR_uI, mR_uA, mR_uJ, mR_uX, mX_uI, mX_uA, mX_uJ, mX_uR, mI_s, mI_n, mI_A, mI_An, mI_uJ, mI_uR, mI_uX, mJ_uI, mJ_uA, mJ_uR, mJ_uX, onR_s, kC_v, kC_n, kC_t, ul0, ula1, ula2, ula3, ula4, ulb2, ulb3, ulb4, ulc2, ulc3, ulc4, ule4, ulf3, ulf4, c_150f hW0 hB9 hO0 hx, TT_101]
theorem c_103 (hW : ShR μ s c) (hB : RelB μ s r) (hO : okR r) (hm : m < nM r) (hi : i < 16) : Ev (d + 4) 103 [.ref 1000, .int (nI m), .int (nI i)] μ Q = Q (some (some (.int (rW r m (7 + i))))) μ := by
  have hW0 := hW
  obtain ⟨w0, w1, w2, w3, w4, w5, w6, w7, w8, w9, w10, w11, w12, w13, w14, w15⟩ := hW
  have hS0 := w12
  obtain ⟨q0, q1, q2, q3, q4, q5, q6, q7, q8, q9, q10, q11, q12, q13, q14, q15⟩ := w12
  have hB9 := hB
  obtain ⟨b1, b2, b3, b4, b5, b6, b7, b8⟩ := hB
  have hO0 := hO
  obtain ⟨o2, o6, o387, oT, o1708, oO, o1741, oF, o1, oq1, oq6, o0, ol1, ol40, oV, oN1, oP1, oF1⟩ := hO
  rw [in_103]
  simp (disch := first | omega | rfl) only [e_103_0, e_103_1, e_103_2, e_103_5, e_103_6, e_103_7, e_103_10, e_103_11, e_103_14, e_103_15, e_103_16, w0, w1, w2, w3, w4, w5, w6, w7, w8, w9, w10, q1, q2, q3, q4, q5, q6, q7, q8, q9, q10, q11, q12, q13, q14, q15, b1, b2, b3, b4, b5, b6, o2, o387, o1708, o1741, o1, o0, ge1, ule_t, true_or, or_true, nI_add, nI_mul, nI_sub, nI_clamp, nI_lt_t, nI_lt_f, nI_le_t, nI_le_f, nI_eq_t, nI_eq_f, vp_nI, tI, fI, not_true, not_false_iff, true_and, and_true, Classical.not_not, mS_uI, mS_uA, mS_uJ, mS_uR, mS_uX, mR_uI, mR_uA, mR_uJ, mR_uX, mX_uI, mX_uA, mX_uJ, mX_uR, mI_s, mI_n, mI_A, mI_An, mI_uJ, mI_uR, mI_uX, mJ_uI, mJ_uA, mJ_uR, mJ_uX, onR_s, kC_v, kC_n, kC_t, ul0, ula1, ula2, ula3, ula4, ulb2, ulb3, ulb4, ulc2, ulc3, ulc4, ule4, ulf3, ulf4, c_150t hW0 hB9 hO0 hm, c_152t hi, cvc hi, (b7 m hm).1 (7 + i) (by omega)]
theorem c_103f (hW : ShR μ s c) (hB : RelB μ s r) (hO : okR r) (hm : m < nM r) (hx : bad x 16) : Ev (d + 4) 103 [.ref 1000, .int (nI m), .int x] μ Q = ∀ x, mX μ ≤ x → Q none (uX μ x) := by
  have hW0 := hW
  obtain ⟨w0, w1, w2, w3, w4, w5, w6, w7, w8, w9, w10, w11, w12, w13, w14, w15⟩ := hW
  have hS0 := w12
  obtain ⟨q0, q1, q2, q3, q4, q5, q6, q7, q8, q9, q10, q11, q12, q13, q14, q15⟩ := w12
  have hB9 := hB
  obtain ⟨b1, b2, b3, b4, b5, b6, b7, b8⟩ := hB
  have hO0 := hO
  obtain ⟨o2, o6, o387, oT, o1708, oO, o1741, oF, o1, oq1, oq6, o0, ol1, ol40, oV, oN1, oP1, oF1⟩ := hO
  rw [in_103]
  simp (disch := first | omega | rfl) only [e_103_0, e_103_1, e_103_2, e_103_5, e_103_6, e_103_7, e_103_10, e_103_11, e_103_14, e_103_15, e_103_16, w0, w1, w2, w3, w4, w5, w6, w7, w8, w9, w10, q1, q2, q3, q4, q5, q6, q7, q8, q9, q10, q11, q12, q13, q14, q15, b1, b2, b3, b4, b5, b6, o2, o387, o1708, o1741, o1, o0, ge1, ule_t, true_or, or_true, nI_add, nI_mul, nI_sub, nI_clamp, nI_lt_t, nI_lt_f, nI_le_t, nI_le_f, nI_eq_t, nI_eq_f, vp_nI, tI, fI, not_true, not_false_iff, true_and, and_true, Classical.not_not, mS_uI, mS_uA, mS_uJ, mS_uR, mS_uX, mR_uI, mR_uA, mR_uJ, mR_uX, mX_uI, mX_uA, mX_uJ, mX_uR, mI_s, mI_n, mI_A, mI_An, mI_uJ, mI_uR, mI_uX, mJ_uI, mJ_uA, mJ_uR, mJ_uX, onR_s, kC_v, kC_n, kC_t, ul0, ula1, ula2, ula3, ula4, ulb2, ulb3, ulb4, ulc2, ulc3, ulc4, ule4, ulf3, ulf4, c_150t hW0 hB9 hO0 hm, c_152f hx, TT_103]
theorem c_103t (hW : ShR μ s c) (hB : RelB μ s r) (hO : okR r) (hx : bad x (nM r)) : Ev (d + 4) 103 [.ref 1000, .int x, .int y] μ Q = ∀ x, mX μ ≤ x → Q none (uX μ x) := by
  have hW0 := hW
  obtain ⟨w0, w1, w2, w3, w4, w5, w6, w7, w8, w9, w10, w11, w12, w13, w14, w15⟩ := hW
  have hS0 := w12
  obtain ⟨q0, q1, q2, q3, q4, q5, q6, q7, q8, q9, q10, q11, q12, q13, q14, q15⟩ := w12
  have hB9 := hB
  obtain ⟨b1, b2, b3, b4, b5, b6, b7, b8⟩ := hB
  have hO0 := hO
  obtain ⟨o2, o6, o387, oT, o1708, oO, o1741, oF, o1, oq1, oq6, o0, ol1, ol40, oV, oN1, oP1, oF1⟩ := hO
  rw [in_103]
  simp (disch := first | omega | rfl) only [e_103_0, e_103_1, e_103_2, e_103_5, e_103_6, e_103_7, e_103_10, e_103_11, e_103_14, e_103_15, e_103_16, w0, w1, w2, w3, w4, w5, w6, w7, w8, w9, w10, q1, q2, q3, q4, q5, q6, q7, q8, q9, q10, q11, q12, q13, q14, q15, b1, b2, b3, b4, b5, b6, o2, o387, o1708, o1741, o1, o0, ge1, ule_t, true_or, or_true, nI_add, nI_mul, nI_sub, nI_clamp, nI_lt_t, nI_lt_f, nI_le_t, nI_le_f, nI_eq_t, nI_eq_f, vp_nI, tI, fI, not_true, not_false_iff, true_and, and_true, Classical.not_not, mS_uI, mS_uA, mS_uJ, mS_uR, mS_uX, mR_uI, mR_uA, mR_uJ, mR_uX, mX_uI, mX_uA, mX_uJ, mX_uR, mI_s, mI_n, mI_A, mI_An, mI_uJ, mI_uR, mI_uX, mJ_uI, mJ_uA, mJ_uR, mJ_uX, onR_s, kC_v, kC_n, kC_t, ul0, ula1, ula2, ula3, ula4, ulb2, ulb3, ulb4, ulc2, ulc3, ulc4, ule4, ulf3, ulf4, c_150f hW0 hB9 hO0 hx, TT_103]
theorem c_106 (hW : ShR μ s c) (hB : RelB μ s r) (hO : okR r) (hk : k < nF r) (hi : i < 4) : Ev (d + 3) 106 [.ref 1000, .int (nI k), .int (nI i)] μ Q = Q (some (some (.int (r (1742 + 4 * k + i))))) μ := by
  have hW0 := hW
  obtain ⟨w0, w1, w2, w3, w4, w5, w6, w7, w8, w9, w10, w11, w12, w13, w14, w15⟩ := hW
  have hS0 := w12
  obtain ⟨q0, q1, q2, q3, q4, q5, q6, q7, q8, q9, q10, q11, q12, q13, q14, q15⟩ := w12
  have hB9 := hB
  obtain ⟨b1, b2, b3, b4, b5, b6, b7, b8⟩ := hB
  have hO0 := hO
  obtain ⟨o2, o6, o387, oT, o1708, oO, o1741, oF, o1, oq1, oq6, o0, ol1, ol40, oV, oN1, oP1, oF1⟩ := hO
  have e7 : k * 4 = 4 * k := by omega
  rw [in_106]
  simp (disch := first | omega | rfl) only [e_106_0, e_106_1, e_106_2, e_106_3, e_106_6, e_106_9, e_106_12, e_106_13, e_106_14, e_106_17, e_106_20, e_106_30, e_106_31, e_106_32, e_106_33, e_106_36, e_106_39, e_106_41, e_106_42, e_106_43, e_106_46, e_106_49, e_106_52, e_106_53, e_106_54, e_106_55, e_106_56, e_106_57, e_106_58, w0, w1, w2, w3, w4, w5, w6, w7, w8, w9, w10, q1, q2, q3, q4, q5, q6, q7, q8, q9, q10, q11, q12, q13, q14, q15, b1, b2, b3, b4, b5, b6, o2, o387, o1708, o1741, o1, o0, ge1, ule_t, true_or, or_true, nI_add, nI_mul, nI_sub, nI_clamp, nI_lt_t, nI_lt_f, nI_le_t, nI_le_f, nI_eq_t, nI_eq_f, vp_nI, tI, fI, not_true, not_false_iff, true_and, and_true, Classical.not_not, mS_uI, mS_uA, mS_uJ, mS_uR, mS_uX, mR_uI, mR_uA, mR_uJ, mR_uX, mX_uI, mX_uA, mX_uJ, mX_uR, mI_s, mI_n, mI_A, mI_An, mI_uJ, mI_uR, mI_uX, mJ_uI, mJ_uA, mJ_uR, mJ_uX, onR_s, kC_v, kC_n, kC_t, ul0, ula1, ula2, ula3, ula4, ulb2, ulb3, ulb4, ulc2, ulc3, ulc4, ule4, ulf3, ulf4, s_155, good_is hk (by omega : nF r < 2147483648), good_ik (show i ≤ 3 by omega) (by omega), bI_T, e7, b8 (4 * k + i) (by omega)]
  rw [Nat.add_assoc]
theorem c_106f (hW : ShR μ s c) (hB : RelB μ s r) (hO : okR r) (hk : k < nF r) (hx : bad x 4) : Ev (d + 3) 106 [.ref 1000, .int (nI k), .int x] μ Q = Q (some (some (.int (-2)))) μ := by
  have hW0 := hW
  obtain ⟨w0, w1, w2, w3, w4, w5, w6, w7, w8, w9, w10, w11, w12, w13, w14, w15⟩ := hW
  have hS0 := w12
  obtain ⟨q0, q1, q2, q3, q4, q5, q6, q7, q8, q9, q10, q11, q12, q13, q14, q15⟩ := w12
  have hB9 := hB
  obtain ⟨b1, b2, b3, b4, b5, b6, b7, b8⟩ := hB
  have hO0 := hO
  obtain ⟨o2, o6, o387, oT, o1708, oO, o1741, oF, o1, oq1, oq6, o0, ol1, ol40, oV, oN1, oP1, oF1⟩ := hO
  rw [in_106]
  simp (disch := first | omega | rfl) only [e_106_0, e_106_1, e_106_2, e_106_3, e_106_6, e_106_9, e_106_12, e_106_13, e_106_14, e_106_17, e_106_20, e_106_30, e_106_31, e_106_32, e_106_33, e_106_36, e_106_39, e_106_41, e_106_42, e_106_43, e_106_46, e_106_49, e_106_52, e_106_53, e_106_54, e_106_55, e_106_56, e_106_57, e_106_58, w0, w1, w2, w3, w4, w5, w6, w7, w8, w9, w10, q1, q2, q3, q4, q5, q6, q7, q8, q9, q10, q11, q12, q13, q14, q15, b1, b2, b3, b4, b5, b6, o2, o387, o1708, o1741, o1, o0, ge1, ule_t, true_or, or_true, nI_add, nI_mul, nI_sub, nI_clamp, nI_lt_t, nI_lt_f, nI_le_t, nI_le_f, nI_eq_t, nI_eq_f, vp_nI, tI, fI, not_true, not_false_iff, true_and, and_true, Classical.not_not, mS_uI, mS_uA, mS_uJ, mS_uR, mS_uX, mR_uI, mR_uA, mR_uJ, mR_uX, mX_uI, mX_uA, mX_uJ, mX_uR, mI_s, mI_n, mI_A, mI_An, mI_uJ, mI_uR, mI_uX, mJ_uI, mJ_uA, mJ_uR, mJ_uX, onR_s, kC_v, kC_n, kC_t, ul0, ula1, ula2, ula3, ula4, ulb2, ulb3, ulb4, ulc2, ulc3, ulc4, ule4, ulf3, ulf4, s_155, good_is hk (by omega : nF r < 2147483648), bad_ik hx (show 4 = 3 + 1 by omega) (by omega), bI_T, bI_F]
theorem c_106t (hW : ShR μ s c) (hB : RelB μ s r) (hO : okR r) (hx : bad x (nF r)) : Ev (d + 3) 106 [.ref 1000, .int x, .int y] μ Q = ∀ x, mX μ ≤ x → Q none (uX μ x) := by
  have hW0 := hW
  obtain ⟨w0, w1, w2, w3, w4, w5, w6, w7, w8, w9, w10, w11, w12, w13, w14, w15⟩ := hW
  have hS0 := w12
  obtain ⟨q0, q1, q2, q3, q4, q5, q6, q7, q8, q9, q10, q11, q12, q13, q14, q15⟩ := w12
  have hB9 := hB
  obtain ⟨b1, b2, b3, b4, b5, b6, b7, b8⟩ := hB
  have hO0 := hO
  obtain ⟨o2, o6, o387, oT, o1708, oO, o1741, oF, o1, oq1, oq6, o0, ol1, ol40, oV, oN1, oP1, oF1⟩ := hO
  rw [in_106]
  simp (disch := first | omega | rfl) only [e_106_0, e_106_1, e_106_2, e_106_3, e_106_6, e_106_9, e_106_12, e_106_13, e_106_14, e_106_17, e_106_20, e_106_30, e_106_31, e_106_32, e_106_33, e_106_36, e_106_39, e_106_41, e_106_42, e_106_43, e_106_46, e_106_49, e_106_52, e_106_53, e_106_54, e_106_55, e_106_56, e_106_57, e_106_58, w0, w1, w2, w3, w4, w5, w6, w7, w8, w9, w10, q1, q2, q3, q4, q5, q6, q7, q8, q9, q10, q11, q12, q13, q14, q15, b1, b2, b3, b4, b5, b6, o2, o387, o1708, o1741, o1, o0, ge1, ule_t, true_or, or_true, nI_add, nI_mul, nI_sub, nI_clamp, nI_lt_t, nI_lt_f, nI_le_t, nI_le_f, nI_eq_t, nI_eq_f, vp_nI, tI, fI, not_true, not_false_iff, true_and, and_true, Classical.not_not, mS_uI, mS_uA, mS_uJ, mS_uR, mS_uX, mR_uI, mR_uA, mR_uJ, mR_uX, mX_uI, mX_uA, mX_uJ, mX_uR, mI_s, mI_n, mI_A, mI_An, mI_uJ, mI_uR, mI_uX, mJ_uI, mJ_uA, mJ_uR, mJ_uX, onR_s, kC_v, kC_n, kC_t, ul0, ula1, ula2, ula3, ula4, ulb2, ulb3, ulb4, ulc2, ulc3, ulc4, ule4, ulf3, ulf4, s_155, bad_is hx (by omega), bI_F]
end Read

section ReadM
variable {d : Nat} {Q : Po} {μ : Mu} {s c m n q i j k t z : Nat} {x y g : Int32}
theorem bad_ne {i : Nat} (hx : bad x n) (hi : i < n) (hn : n < 2147483648) : ¬ x = nI i := by
  rintro rfl
  rcases hx with h | h
  · exact nI_nlt (by omega) (by omega) h
  · exact nI_ge hi hn h
theorem bad3 {x : Int32} {n k : Nat} (h : bad x n) (hk : n = k + 1) (hn : n < 2147483648) : x < nI 0 ∨ (¬ x < nI 0 ∧ ¬ x ≤ nI k ∧ nI k < x) := by
  rcases bad2 h with h1 | ⟨h1, h2, h3⟩
  · exact Or.inl h1
  · have e1 := Int32.le_iff_toInt_le.mp h3
    rw [nI_toInt hn] at e1
    have e2 : nI k < x := Int32.lt_iff_toInt_lt.mpr (by rw [nI_toInt (by omega)]; omega)
    exact Or.inr ⟨h1, Int32.not_le.mpr e2, e2⟩
end ReadM


