/-! counting bits -/
def ckB (f : Nat → Bool) : Nat → Nat → Bool
  | 0, x => f x
  | n + 1, x => ckB f n (2 * x) && ckB f n (2 * x + 1)
theorem ckB_all {f : Nat → Bool} : ∀ n x, ckB f n x = true → ∀ y, y < 2 ^ n → f (x * 2 ^ n + y) = true
  | 0, x, h, y, hy => by
    obtain rfl : y = 0 := by simp at hy; exact hy
    rw [ckB] at h
    simpa using h
  | n + 1, x, h, y, hy => by
    rw [ckB, Bool.and_eq_true] at h
    rw [Nat.pow_succ] at hy ⊢
    by_cases h2 : y < 2 ^ n
    · have := ckB_all n (2 * x) h.1 y h2
      rw [show x * (2 ^ n * 2) + y = 2 * x * 2 ^ n + y by rw [Nat.mul_comm (2 ^ n) 2, ← Nat.mul_assoc, Nat.mul_comm x 2]]
      exact this
    · have := ckB_all n (2 * x + 1) h.2 (y - 2 ^ n) (by omega)
      rw [show x * (2 ^ n * 2) + y = (2 * x + 1) * 2 ^ n + (y - 2 ^ n) by rw [Nat.add_mul, Nat.one_mul, Nat.mul_comm (2 ^ n) 2, ← Nat.mul_assoc, Nat.mul_comm x 2]; omega]
      exact this
/-- bits counted one by one -/
def kq : Nat → Nat → Nat → Nat
  | 0, k, acc => match k with | 0 => acc | _ + 1 => 99
  | f + 1, k, acc => match k with | 0 => acc | k' + 1 => kq f (Nat.land (k' + 1) k') (Nat.add acc 1)
def bc1 (w : Nat) : Nat := w - (w / 2 &&& 1431655765)
def bc2 (i : Nat) : Nat := (i &&& 858993459) + (i / 4 &&& 858993459)
def bc3 (i : Nat) : Nat := (i + i / 16) &&& 252645135
def bc4 (i : Nat) : Nat := i + i / 256
def bc5 (i : Nat) : Nat := i + i / 65536
def bcN (w : Nat) : Nat := bc5 (bc4 (bc3 (bc2 (bc1 w)))) &&& 63
def pcN (w : Nat) : Nat := kq 16 w 0
def fcB (x : Nat) (f : Nat → Bool) : Bool := match x with | 0 => f 0 | n + 1 => f (n + 1)
theorem fcB_eq (x : Nat) (f : Nat → Bool) : fcB x f = f x := by cases x <;> rfl
def bcT (w : Nat) : Bool := fcB w fun w => fcB (Nat.sub w (Nat.land (Nat.div w 2) 1431655765)) fun i => fcB (Nat.add (Nat.land i 858993459) (Nat.land (Nat.div i 4) 858993459)) fun i => fcB (Nat.land (Nat.add i (Nat.div i 16)) 252645135) fun i => fcB (Nat.add i (Nat.div i 256)) fun i => fcB (Nat.add i (Nat.div i 65536)) fun i => Nat.beq (Nat.land i 63) (kq 16 w 0) && Nat.ble (kq 16 w 0) 16
theorem bcT_eq (w : Nat) : bcT w = (Nat.beq (bcN w) (pcN w) && Nat.ble (pcN w) 16) := by
  unfold bcT
  simp only [fcB_eq]
  rfl
theorem bcs_0 : ckB bcT 11 0 = true := by decide +kernel
theorem bcs_1 : ckB bcT 11 1 = true := by decide +kernel
theorem bcs_2 : ckB bcT 11 2 = true := by decide +kernel
theorem bcs_3 : ckB bcT 11 3 = true := by decide +kernel
theorem bcs_4 : ckB bcT 11 4 = true := by decide +kernel
theorem bcs_5 : ckB bcT 11 5 = true := by decide +kernel
theorem bcs_6 : ckB bcT 11 6 = true := by decide +kernel
theorem bcs_7 : ckB bcT 11 7 = true := by decide +kernel
theorem bcs_8 : ckB bcT 11 8 = true := by decide +kernel
theorem bcs_9 : ckB bcT 11 9 = true := by decide +kernel
theorem bcs_10 : ckB bcT 11 10 = true := by decide +kernel
theorem bcs_11 : ckB bcT 11 11 = true := by decide +kernel
theorem bcs_12 : ckB bcT 11 12 = true := by decide +kernel
theorem bcs_13 : ckB bcT 11 13 = true := by decide +kernel
theorem bcs_14 : ckB bcT 11 14 = true := by decide +kernel
theorem bcs_15 : ckB bcT 11 15 = true := by decide +kernel
theorem bcs_16 : ckB bcT 11 16 = true := by decide +kernel
theorem bcs_17 : ckB bcT 11 17 = true := by decide +kernel
theorem bcs_18 : ckB bcT 11 18 = true := by decide +kernel
theorem bcs_19 : ckB bcT 11 19 = true := by decide +kernel
theorem bcs_20 : ckB bcT 11 20 = true := by decide +kernel
theorem bcs_21 : ckB bcT 11 21 = true := by decide +kernel
theorem bcs_22 : ckB bcT 11 22 = true := by decide +kernel
theorem bcs_23 : ckB bcT 11 23 = true := by decide +kernel
theorem bcs_24 : ckB bcT 11 24 = true := by decide +kernel
theorem bcs_25 : ckB bcT 11 25 = true := by decide +kernel
theorem bcs_26 : ckB bcT 11 26 = true := by decide +kernel
theorem bcs_27 : ckB bcT 11 27 = true := by decide +kernel
theorem bcs_28 : ckB bcT 11 28 = true := by decide +kernel
theorem bcs_29 : ckB bcT 11 29 = true := by decide +kernel
theorem bcs_30 : ckB bcT 11 30 = true := by decide +kernel
theorem bcs_31 : ckB bcT 11 31 = true := by decide +kernel
theorem bc_all {w : Nat} (h : w < 65536) : bcT w = true := by
  have key : ∀ x, x < 32 → ckB bcT 11 x = true := fun x hx => by
    rcases (by omega : x = 0 ∨ x = 1 ∨ x = 2 ∨ x = 3 ∨ x = 4 ∨ x = 5 ∨ x = 6 ∨ x = 7 ∨ x = 8 ∨ x = 9 ∨ x = 10 ∨ x = 11 ∨ x = 12 ∨ x = 13 ∨ x = 14 ∨ x = 15 ∨ x = 16 ∨ x = 17 ∨ x = 18 ∨ x = 19 ∨ x = 20 ∨ x = 21 ∨ x = 22 ∨ x = 23 ∨ x = 24 ∨ x = 25 ∨ x = 26 ∨ x = 27 ∨ x = 28 ∨ x = 29 ∨ x = 30 ∨ x = 31) with rfl | rfl | rfl | rfl | rfl | rfl | rfl | rfl | rfl | rfl | rfl | rfl | rfl | rfl | rfl | rfl | rfl | rfl | rfl | rfl | rfl | rfl | rfl | rfl | rfl | rfl | rfl | rfl | rfl | rfl | rfl | rfl
    · exact bcs_0
    · exact bcs_1
    · exact bcs_2
    · exact bcs_3
    · exact bcs_4
    · exact bcs_5
    · exact bcs_6
    · exact bcs_7
    · exact bcs_8
    · exact bcs_9
    · exact bcs_10
    · exact bcs_11
    · exact bcs_12
    · exact bcs_13
    · exact bcs_14
    · exact bcs_15
    · exact bcs_16
    · exact bcs_17
    · exact bcs_18
    · exact bcs_19
    · exact bcs_20
    · exact bcs_21
    · exact bcs_22
    · exact bcs_23
    · exact bcs_24
    · exact bcs_25
    · exact bcs_26
    · exact bcs_27
    · exact bcs_28
    · exact bcs_29
    · exact bcs_30
    · exact bcs_31
  have := ckB_all 11 (w / 2048) (key _ (by omega)) (w % 2048) (Nat.mod_lt _ (by omega))
  rw [show w / 2048 * 2 ^ 11 + w % 2048 = w by rw [show (2 : Nat) ^ 11 = 2048 from rfl]; omega] at this
  exact this
theorem bc_ok {w : Nat} (h : w < 65536) : bcN w = pcN w ∧ pcN w ≤ 16 := by
  have := bc_all h
  rw [bcT_eq, Bool.and_eq_true] at this
  exact ⟨Nat.eq_of_beq_eq_true this.1, Nat.le_of_ble_eq_true this.2⟩


