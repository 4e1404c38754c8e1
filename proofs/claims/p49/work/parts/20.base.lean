/-! reading the small machine row by row -/
def EM (j d pc : Nat) (ls : LV) (st : List Value) (μ : Mu) (u : Nat × Nat) (Q : Po) : Prop := E (Ev d) (minfo j) pc ls st μ u Q
def TT (j d pc : Nat) (ls : LV) (u : Nat × Nat) (Q : Po) : Mu → Prop := thr (minfo j) Q (fun pc ls st μ u => EM j d pc ls st μ u Q) pc ls u
/-- what a call costs in the law's own methods -/
def cg (μ μ2 : Mu) (u al : Nat × Nat) : Nat × Nat := if mX μ2 = mX μ then u else uad u al
theorem cg0 {μ μ2 : Mu} {u : Nat × Nat} : cg μ μ2 u (0, 0) = u := by unfold cg; split <;> rfl
theorem zlb {a b : Nat} (h : Nat.ble a b = true) : a ≤ b := Nat.le_of_ble_eq_true h
theorem hokI {M : MI} {j : Nat} (h1 : (mi_ht (minfo j)).1 + 1 ≤ (mi_ht M).1) (h2 : 8 + (mi_L (minfo j) + 11) + (mi_ht (minfo j)).2 ≤ (mi_ht M).2) : hok M j := ⟨h1, h2⟩
theorem zub {u v : Nat × Nat} (h : Nat.ble u.1 v.1 = true) (k : Nat.ble u.2 v.2 = true) : ule u v := ⟨zlb h, zlb k⟩
theorem EMs {j d pc : Nat} {ls : LV} {st : List Value} {μ : Mu} {u : Nat × Nat} {Q : Po} {M : MI} {ins : Instr} {n : Nat} (hM : minfo j = M) (h1 : decode (mi_c M) pc = .ok (ins, n)) (h2 : ilen ins n = true) : EM j d pc ls st μ u Q = stp (Ev d) (minfo j) Q (fun pc ls st μ u => EM j d pc ls st μ u Q) ins n pc ls st μ u := by
  subst hM
  exact propext (E_step h1 h2)
theorem cbipush_m100 : (Int8.ofInt (-100)).toInt32 = (-100 : Int32) := by decide +kernel
theorem cbipush_m15 : (Int8.ofInt (-15)).toInt32 = (-15 : Int32) := by decide +kernel
theorem cbipush_m14 : (Int8.ofInt (-14)).toInt32 = (-14 : Int32) := by decide +kernel
theorem cbipush_m13 : (Int8.ofInt (-13)).toInt32 = (-13 : Int32) := by decide +kernel
theorem cbipush_m12 : (Int8.ofInt (-12)).toInt32 = (-12 : Int32) := by decide +kernel
theorem cbipush_m11 : (Int8.ofInt (-11)).toInt32 = (-11 : Int32) := by decide +kernel
theorem cbipush_m10 : (Int8.ofInt (-10)).toInt32 = (-10 : Int32) := by decide +kernel
theorem cbipush_m9 : (Int8.ofInt (-9)).toInt32 = (-9 : Int32) := by decide +kernel
theorem cbipush_m4 : (Int8.ofInt (-4)).toInt32 = (-4 : Int32) := by decide +kernel
theorem cbipush_m3 : (Int8.ofInt (-3)).toInt32 = (-3 : Int32) := by decide +kernel
theorem cbipush_m2 : (Int8.ofInt (-2)).toInt32 = (-2 : Int32) := by decide +kernel
theorem cbipush_6 : (Int8.ofInt (6)).toInt32 = nI 6 := by decide +kernel
theorem cbipush_8 : (Int8.ofInt (8)).toInt32 = nI 8 := by decide +kernel
theorem cbipush_9 : (Int8.ofInt (9)).toInt32 = nI 9 := by decide +kernel
theorem cbipush_10 : (Int8.ofInt (10)).toInt32 = nI 10 := by decide +kernel
theorem cbipush_12 : (Int8.ofInt (12)).toInt32 = nI 12 := by decide +kernel
theorem cbipush_15 : (Int8.ofInt (15)).toInt32 = nI 15 := by decide +kernel
theorem cbipush_16 : (Int8.ofInt (16)).toInt32 = nI 16 := by decide +kernel
theorem cbipush_20 : (Int8.ofInt (20)).toInt32 = nI 20 := by decide +kernel
theorem cbipush_24 : (Int8.ofInt (24)).toInt32 = nI 24 := by decide +kernel
theorem cbipush_26 : (Int8.ofInt (26)).toInt32 = nI 26 := by decide +kernel
theorem cbipush_31 : (Int8.ofInt (31)).toInt32 = nI 31 := by decide +kernel
theorem cbipush_32 : (Int8.ofInt (32)).toInt32 = nI 32 := by decide +kernel
theorem cbipush_39 : (Int8.ofInt (39)).toInt32 = nI 39 := by decide +kernel
theorem cbipush_40 : (Int8.ofInt (40)).toInt32 = nI 40 := by decide +kernel
theorem cbipush_41 : (Int8.ofInt (41)).toInt32 = nI 41 := by decide +kernel
theorem cbipush_45 : (Int8.ofInt (45)).toInt32 = nI 45 := by decide +kernel
theorem cbipush_48 : (Int8.ofInt (48)).toInt32 = nI 48 := by decide +kernel
theorem cbipush_50 : (Int8.ofInt (50)).toInt32 = nI 50 := by decide +kernel
theorem cbipush_57 : (Int8.ofInt (57)).toInt32 = nI 57 := by decide +kernel
theorem cbipush_59 : (Int8.ofInt (59)).toInt32 = nI 59 := by decide +kernel
theorem cbipush_63 : (Int8.ofInt (63)).toInt32 = nI 63 := by decide +kernel
theorem cbipush_64 : (Int8.ofInt (64)).toInt32 = nI 64 := by decide +kernel
theorem cbipush_97 : (Int8.ofInt (97)).toInt32 = nI 97 := by decide +kernel
theorem cbipush_100 : (Int8.ofInt (100)).toInt32 = nI 100 := by decide +kernel
theorem cbipush_122 : (Int8.ofInt (122)).toInt32 = nI 122 := by decide +kernel
theorem ciconst_m8 : Int32.ofInt (-8) = (-8 : Int32) := by decide +kernel
theorem ciconst_m1 : Int32.ofInt (-1) = (-1 : Int32) := by decide +kernel
theorem ciconst_0 : Int32.ofInt (0) = nI 0 := by decide +kernel
theorem ciconst_1 : Int32.ofInt (1) = nI 1 := by decide +kernel
theorem ciconst_2 : Int32.ofInt (2) = nI 2 := by decide +kernel
theorem ciconst_3 : Int32.ofInt (3) = nI 3 := by decide +kernel
theorem ciconst_4 : Int32.ofInt (4) = nI 4 := by decide +kernel
theorem ciconst_5 : Int32.ofInt (5) = nI 5 := by decide +kernel
theorem ciconst_20 : Int32.ofInt (20) = nI 20 := by decide +kernel
theorem ck_32768 : (32768 : Int32) = nI 32768 := by decide +kernel
theorem ck_40503 : (40503 : Int32) = nI 40503 := by decide +kernel
theorem ck_65535 : (65535 : Int32) = nI 65535 := by decide +kernel
theorem ck_252645135 : (252645135 : Int32) = nI 252645135 := by decide +kernel
theorem ck_858993459 : (858993459 : Int32) = nI 858993459 := by decide +kernel
theorem ck_1431655765 : (1431655765 : Int32) = nI 1431655765 := by decide +kernel
theorem ck_2147483639 : (2147483639 : Int32) = nI 2147483639 := by decide +kernel
theorem ck_2147483647 : (2147483647 : Int32) = nI 2147483647 := by decide +kernel
theorem csipush_128 : (Int16.ofInt (128)).toInt32 = nI 128 := by decide +kernel
theorem csipush_255 : (Int16.ofInt (255)).toInt32 = nI 255 := by decide +kernel
theorem csipush_320 : (Int16.ofInt (320)).toInt32 = nI 320 := by decide +kernel
theorem csipush_900 : (Int16.ofInt (900)).toInt32 = nI 900 := by decide +kernel
theorem csipush_977 : (Int16.ofInt (977)).toInt32 = nI 977 := by decide +kernel
theorem csipush_1024 : (Int16.ofInt (1024)).toInt32 = nI 1024 := by decide +kernel
theorem csipush_1312 : (Int16.ofInt (1312)).toInt32 = nI 1312 := by decide +kernel
theorem csipush_2048 : (Int16.ofInt (2048)).toInt32 = nI 2048 := by decide +kernel
theorem csipush_4096 : (Int16.ofInt (4096)).toInt32 = nI 4096 := by decide +kernel
theorem csipush_9999 : (Int16.ofInt (9999)).toInt32 = nI 9999 := by decide +kernel
theorem csipush_10000 : (Int16.ofInt (10000)).toInt32 = nI 10000 := by decide +kernel
