/-! pairs of calls that change nothing -/
/-- the script of the law stays -/
def Bs (μ μ1 : Mu) : Prop := mS μ1 300 = mS μ 300 ∧ mS μ1 1298 = mS μ 1298 ∧ ∀ k, mI μ1 300 k = mI μ 300 k
theorem Bs.refl {μ : Mu} : Bs μ μ := ⟨rfl, rfl, fun _ => rfl⟩
theorem RdF.bs {μ μ1 : Mu} (h : RdF μ μ1) : Bs μ μ1 := ⟨congrFun h.2.1 300, congrFun h.2.1 1298, fun k => h.2.2.2.1 300 (by omega) (by omega) (by omega) k⟩
abbrev Two (D jc : Nat) (ac : List Value) (jm : Nat) (am : List Value) (L : Nat) (xs : Nat → Int32) (μ : Mu) : Prop := Ev D jc (.ref 1000 :: ac) μ (fun o μ1 => ∃ v : Int32, o = some (some (.int v)) ∧ Bs μ μ1 ∧ Ev D jm (.ref 1298 :: am) μ1 (fun o2 μ2 => o2 = some (some (.int v)) ∧ Inv L xs μ2))
/-- through a helper of the law: whether it threw, and the answer in the array -/
abbrev TwT (D jh : Nat) (ac : List Value) (jm : Nat) (am : List Value) (L : Nat) (xs : Nat → Int32) (μ : Mu) : Prop := Ev D jh (.ref 1000 :: ac) μ (fun o μ1 => ∃ k : Int32, o = some (some (.int k)) ∧ Bs μ μ1 ∧ Ev D jm (.ref 1298 :: am) μ1 (fun o2 μ2 => ∃ v : Int32, o2 = some (some (.int v)) ∧ mI μ2 1298 0 = k ∧ (k = nI 0 → mJ μ2 1309 0 = v.toInt64) ∧ Inv L xs μ2))
abbrev TwB (D jh : Nat) (ac : List Value) (jm : Nat) (am : List Value) (L : Nat) (xs : Nat → Int32) (μ : Mu) : Prop := Ev D jh (.ref 1000 :: ac) μ (fun o μ1 => ∃ k : Int32, o = some (some (.int k)) ∧ Bs μ μ1 ∧ Ev D jm (.ref 1298 :: am) μ1 (fun o2 μ2 => ∃ v : Int32, o2 = some (some (.int v)) ∧ (v = nI 0 ∨ v = nI 1) ∧ mI μ2 1298 0 = k ∧ (k = nI 0 → mJ μ2 1309 0 = v.toInt64) ∧ Inv L xs μ2))
theorem rng {y : Int32} {a b : Nat} (h : nI a ≤ y ∧ y ≤ nI b) (ha : a < 2147483648) (hb : b < 2147483648) : ∃ k, a ≤ k ∧ k ≤ b ∧ y = nI k := by
  obtain ⟨h1, h2⟩ := h
  have e1 := Int32.le_iff_toInt_le.mp h1
  have e2 := Int32.le_iff_toInt_le.mp h2
  rw [nI_toInt hb] at e2
  rw [nI_toInt ha] at e1
  refine ⟨y.toInt.toNat, by omega, by omega, ?_⟩
  apply Int32.toInt_inj.mp
  rw [nI_toInt (by omega)]
  omega
section Pairs
variable {d L : Nat} {xs : Nat → Int32} {μ : Mu} {x y g : Int32}
theorem mJ_zs {y : Int64} : mJ (uI (uJ μ 1309 0 y) 1298 0 x) 1309 0 = y := (show (if (1309 : Nat) = 1309 ∧ (0 : Nat) = 0 then y else μ.2.2.2.1 1309 0) = y from if_pos ⟨rfl, rfl⟩)
theorem mJ_te {m : Nat} : mJ (mTree μ m) = mJ μ := rfl
theorem mJ_dn {a b : Nat} : mJ (mDown μ a b) = mJ μ := rfl
theorem dD_rd {a b : Nat} : RdF μ (dDown μ a b) := ⟨Nat.le_refl _, rfl, rfl, fun a h1 h2 h3 k => dD_n (by omega), fun k _ _ _ => dD_n (by omega)⟩
theorem mDn_rd {μ' : Mu} {a b : Nat} (h : RdF μ μ') : RdF μ (mDown μ' a b) := h.fr mDown_fr (fun a h => by omega) (fun k _ h1 h2 => mDown_k h1 h2)
theorem mTe_rd {μ' : Mu} {m : Nat} (h : RdF μ μ') : RdF μ (mTree μ' m) := h.fr mTree_fr (fun a h => by omega) (fun k _ _ _ => mTree_fr.2.2.2 1298 (by omega) k)
theorem p_94 (h : Inv L xs μ) : Two (d + 20) 94 [] 222 [] L xs μ := by
  unfold Two
  have h0 := h
  obtain ⟨s, c, s2, c2, u, f, n, v, ⟨hI, hA, h8⟩, hP, hR⟩ := h
  have hW := hI.1
  have hB := hI.2.2.1.1
  have hC := hI.2.2.2.1
  have hE := hI.2.2.2.2.1
  have hO := hA.1
  have hM := hR.1
  have w0 := hW.1
  have h09 := hR.2.2.2.2.1.2.2.2
  have m6 := hO.2.1
  have T40 := hO.2.2.2.1
  have F10 := hO.2.2.2.2.2.2.2.1
  rw [c_94 hW hB hO]
  exact ⟨_, rfl, Bs.refl, by rw [m_222 hM hO, ← hR.2.2.1]; exact ⟨rfl, h0.rd RdF.refl.z⟩⟩

theorem p_99 (h : Inv L xs μ) : Two (d + 20) 99 [] 230 [] L xs μ := by
  unfold Two
  have h0 := h
  obtain ⟨s, c, s2, c2, u, f, n, v, ⟨hI, hA, h8⟩, hP, hR⟩ := h
  have hW := hI.1
  have hB := hI.2.2.1.1
  have hC := hI.2.2.2.1
  have hE := hI.2.2.2.2.1
  have hO := hA.1
  have hM := hR.1
  have w0 := hW.1
  have h09 := hR.2.2.2.2.1.2.2.2
  have m6 := hO.2.1
  have T40 := hO.2.2.2.1
  have F10 := hO.2.2.2.2.2.2.2.1
  have e4 : mI μ 1000 4 = mI μ 1298 8 := hI.2.2.2.2.2.1.trans h8.symm
  rw [c_99 hW hB hO]
  exact ⟨_, rfl, Bs.refl, by rw [m_230 hM hO, ← e4]; exact ⟨rfl, h0.rd RdF.refl.z⟩⟩

theorem p_98 (h : Inv L xs μ) : Two (d + 20) 98 [.int x] 229 [.int x] L xs μ := by
  unfold Two
  have h0 := h
  obtain ⟨s, c, s2, c2, u, f, n, v, ⟨hI, hA, h8⟩, hP, hR⟩ := h
  have hW := hI.1
  have hB := hI.2.2.1.1
  have hC := hI.2.2.2.1
  have hE := hI.2.2.2.2.1
  have hO := hA.1
  have hM := hR.1
  have w0 := hW.1
  have h09 := hR.2.2.2.2.1.2.2.2
  have m6 := hO.2.1
  have T40 := hO.2.2.2.1
  have F10 := hO.2.2.2.2.2.2.2.1
  rcases inN x 4 (by omega) with ⟨k, hk, rfl⟩ | hx
  · rcases (by omega : k = 0 ∨ k = 1 ∨ k = 2 ∨ k = 3) with rfl | rfl | rfl | rfl
    · rw [c_98_0 hW hB hO]
      exact ⟨_, rfl, Bs.refl, by rw [m_229_0 hM hO]; exact ⟨rfl, h0.rd RdF.refl.z⟩⟩
    · rw [c_98_1 hW hB hO]
      exact ⟨_, rfl, Bs.refl, by rw [m_229_1 hM hO]; exact ⟨rfl, h0.rd RdF.refl.z⟩⟩
    · rw [c_98_2 hW hB hO]
      exact ⟨_, rfl, Bs.refl, by rw [m_229_2 hM hO]; exact ⟨rfl, h0.rd RdF.refl.z⟩⟩
    · rw [c_98_3 hW hB hO]
      exact ⟨_, rfl, Bs.refl, by rw [m_229_3 hM hO]; exact ⟨rfl, h0.rd RdF.refl.z⟩⟩
  · rw [c_98f hW hB hO hx]
    exact ⟨_, rfl, Bs.refl, by rw [m_229f hM hO hx]; exact ⟨rfl, h0.rd RdF.refl.z⟩⟩

theorem p_100 (h : Inv L xs μ) : Two (d + 20) 100 [.int x] 231 [.int x] L xs μ := by
  unfold Two
  have h0 := h
  obtain ⟨s, c, s2, c2, u, f, n, v, ⟨hI, hA, h8⟩, hP, hR⟩ := h
  have hW := hI.1
  have hB := hI.2.2.1.1
  have hC := hI.2.2.2.1
  have hE := hI.2.2.2.2.1
  have hO := hA.1
  have hM := hR.1
  have w0 := hW.1
  have h09 := hR.2.2.2.2.1.2.2.2
  have m6 := hO.2.1
  have T40 := hO.2.2.2.1
  have F10 := hO.2.2.2.2.2.2.2.1
  rw [c_100 hW hB hO hI.2.2.1.2]
  exact ⟨_, rfl, Bs.refl, by rw [m_231 hM hO]; exact ⟨rfl, h0.rd RdF.refl.z⟩⟩

theorem p_102 (h : Inv L xs μ) : Two (d + 20) 102 [.int x] 233 [.int x] L xs μ := by
  unfold Two
  have h0 := h
  obtain ⟨s, c, s2, c2, u, f, n, v, ⟨hI, hA, h8⟩, hP, hR⟩ := h
  have hW := hI.1
  have hB := hI.2.2.1.1
  have hC := hI.2.2.2.1
  have hE := hI.2.2.2.2.1
  have hO := hA.1
  have hM := hR.1
  have w0 := hW.1
  have h09 := hR.2.2.2.2.1.2.2.2
  have m6 := hO.2.1
  have T40 := hO.2.2.2.1
  have F10 := hO.2.2.2.2.2.2.2.1
  rcases inN x 2 (by omega) with ⟨k, hk, rfl⟩ | hx
  · rcases (by omega : k = 0 ∨ k = 1) with rfl | rfl
    · rw [c_102_0 hW hB hO]
      exact ⟨_, rfl, Bs.refl, by rw [m_233 hM hO (show 0 < 2 by omega)]; exact ⟨rfl, h0.rd RdF.refl.z⟩⟩
    · rw [c_102_1 hW hB hO]
      exact ⟨_, rfl, Bs.refl, by rw [m_233 hM hO (show 1 < 2 by omega)]; exact ⟨rfl, h0.rd RdF.refl.z⟩⟩
  · rw [c_102f hW hB hO hx]
    exact ⟨_, rfl, Bs.refl, by rw [m_233f hM hO hx]; exact ⟨rfl, h0.rd RdF.refl.z⟩⟩

theorem p_118 (h : Inv L xs μ) : Two (d + 20) 118 [.int x] 252 [.int x] L xs μ := by
  unfold Two
  have h0 := h
  obtain ⟨s, c, s2, c2, u, f, n, v, ⟨hI, hA, h8⟩, hP, hR⟩ := h
  have hW := hI.1
  have hB := hI.2.2.1.1
  have hC := hI.2.2.2.1
  have hE := hI.2.2.2.2.1
  have hO := hA.1
  have hM := hR.1
  have w0 := hW.1
  have h09 := hR.2.2.2.2.1.2.2.2
  have m6 := hO.2.1
  have T40 := hO.2.2.2.1
  have F10 := hO.2.2.2.2.2.2.2.1
  rw [c_118 hW hB hO]
  exact ⟨_, rfl, Bs.refl, by rw [m_252 hM hO]; exact ⟨rfl, h0.rd RdF.refl.z⟩⟩

theorem p_120 (h : Inv L xs μ) : Two (d + 20) 120 [] 254 [] L xs μ := by
  unfold Two
  have h0 := h
  obtain ⟨s, c, s2, c2, u, f, n, v, ⟨hI, hA, h8⟩, hP, hR⟩ := h
  have hW := hI.1
  have hB := hI.2.2.1.1
  have hC := hI.2.2.2.1
  have hE := hI.2.2.2.2.1
  have hO := hA.1
  have hM := hR.1
  have w0 := hW.1
  have h09 := hR.2.2.2.2.1.2.2.2
  have m6 := hO.2.1
  have T40 := hO.2.2.2.1
  have F10 := hO.2.2.2.2.2.2.2.1
  rw [c_120 hW hB hO]
  exact ⟨_, rfl, Bs.refl, by rw [m_254 hM hO]; exact ⟨rfl, h0.rd RdF.refl.z⟩⟩

theorem p_129 (h : Inv L xs μ) : Two (d + 20) 129 [.int g] 257 [.int g] L xs μ := by
  unfold Two
  have h0 := h
  obtain ⟨s, c, s2, c2, u, f, n, v, ⟨hI, hA, h8⟩, hP, hR⟩ := h
  have hW := hI.1
  have hB := hI.2.2.1.1
  have hC := hI.2.2.2.1
  have hE := hI.2.2.2.2.1
  have hO := hA.1
  have hM := hR.1
  have w0 := hW.1
  have h09 := hR.2.2.2.2.1.2.2.2
  have m6 := hO.2.1
  have T40 := hO.2.2.2.1
  have F10 := hO.2.2.2.2.2.2.2.1
  rw [c_129 hW hB hO]
  exact ⟨_, rfl, Bs.refl, by rw [m_257 hM hO]; exact ⟨rfl, h0.rd RdF.refl.z⟩⟩

theorem p_135 (h : Inv L xs μ) : Two (d + 20) 135 [] 262 [] L xs μ := by
  unfold Two
  have h0 := h
  obtain ⟨s, c, s2, c2, u, f, n, v, ⟨hI, hA, h8⟩, hP, hR⟩ := h
  have hW := hI.1
  have hB := hI.2.2.1.1
  have hC := hI.2.2.2.1
  have hE := hI.2.2.2.2.1
  have hO := hA.1
  have hM := hR.1
  have w0 := hW.1
  have h09 := hR.2.2.2.2.1.2.2.2
  have m6 := hO.2.1
  have T40 := hO.2.2.2.1
  have F10 := hO.2.2.2.2.2.2.2.1
  rw [c_135 hW hB hO hC hE]
  refine ⟨_, rfl, (RdF.refl.uA (Or.inl ⟨by omega, by omega⟩)).bs, ?_⟩
  have e2 : ∀ F, mI (uA μ 1067 F) 1302 = mI μ 1302 := fun F => mI_Anf (by omega)
  have e0 : ∀ F, mI (uA μ 1067 F) 1300 = mI μ 1300 := fun F => mI_Anf (by omega)
  obtain ⟨F', hF⟩ := m_262 (d := d + 16) (Q := fun o2 μ2 => o2 = some (some (.int (nI (fSet (fIsT (mI μ 1302) (mI μ 1300)) (nM (mI μ 1302)))))) ∧ Inv L xs μ2) (μ := uA μ 1067 (fTru (mI μ 1302) (fil (mI μ (c + 1)) (mI μ 1067) 16) (nT (mI μ 1302)))) hM (by rw [e2]; exact hO)
  rw [hF, e2, e0]
  exact ⟨rfl, h0.rd (((RdF.refl.uA (Or.inl ⟨by omega, by omega⟩)).z).uA (Or.inr ⟨by omega, by omega⟩))⟩

theorem p_97 (h : Inv L xs μ) : Two (d + 20) 97 [.int x] 281 [.int x] L xs μ := by
  unfold Two
  have h0 := h
  obtain ⟨s, c, s2, c2, u, f, n, v, ⟨hI, hA, h8⟩, hP, hR⟩ := h
  have hW := hI.1
  have hB := hI.2.2.1.1
  have hC := hI.2.2.2.1
  have hE := hI.2.2.2.2.1
  have hO := hA.1
  have hM := hR.1
  have w0 := hW.1
  have h09 := hR.2.2.2.2.1.2.2.2
  have m6 := hO.2.1
  have T40 := hO.2.2.2.1
  have F10 := hO.2.2.2.2.2.2.2.1
  obtain ⟨S, ⟨vv, cap, hS, o1⟩, o2, o3, o4, o5⟩ := hR.2.2.2.1
  rcases inN x S.1 (by omega) with ⟨k, hk, rfl⟩ | hx
  · rw [c_97 hW hS hk (o1 k hk) (o3 k hk)]
    exact ⟨_, rfl, Bs.refl, by rw [m_281 hM o4 (by omega) hk, o5 k hk]; exact ⟨rfl, h0.rd RdF.refl.z⟩⟩
  · rw [c_97f hW hS hx]
    exact ⟨_, rfl, Bs.refl, by rw [m_281f hM o4 (by omega) hx]; exact ⟨rfl, h0.rd RdF.refl.z⟩⟩

theorem p_133 (h : Inv L xs μ) : Ev (d + 20) 133 [.ref 1000] μ (fun o μ1 => ∃ v, vf_n64 v ∧ o = some (some (.double v)) ∧ Bs μ μ1 ∧ Ev (d + 20) 259 [.ref 1298] μ1 (fun o2 μ2 => o2 = some (some (.double v)) ∧ Inv L xs μ2)) := by
  have h0 := h
  obtain ⟨s, c, s2, c2, u, f, n, v, ⟨hI, hA, h8⟩, hP, hR⟩ := h
  have hW := hI.1
  have hB := hI.2.2.1.1
  have hC := hI.2.2.2.1
  have hE := hI.2.2.2.2.1
  have hO := hA.1
  have hM := hR.1
  have w0 := hW.1
  have h09 := hR.2.2.2.2.1.2.2.2
  have m6 := hO.2.1
  have T40 := hO.2.2.2.1
  have F10 := hO.2.2.2.2.2.2.2.1
  by_cases hz : fActs (rW (mI μ 1302)) (nM (mI μ 1302)) = 0
  · rw [c_133z hW hB hO hz]
    exact ⟨_, by unfold vf_n64; decide, rfl, Bs.refl, by rw [m_259z hM hO hz]; exact ⟨rfl, h0.rd RdF.refl.z⟩⟩
  · rw [c_133 hW hB hO hz]
    exact ⟨_, fMean_vf hO hz, rfl, Bs.refl, by rw [m_259 hM hO hz]; exact ⟨rfl, h0.rd RdF.refl.z⟩⟩

theorem p_282 (h : Inv L xs μ) : TwT (d + 20) 282 [.int x, .int y, .ref 1309] 232 [.int x, .int y] L xs μ := by
  unfold TwT
  have h0 := h
  obtain ⟨s, c, s2, c2, u, f, n, v, ⟨hI, hA, h8⟩, hP, hR⟩ := h
  have hW := hI.1
  have hB := hI.2.2.1.1
  have hC := hI.2.2.2.1
  have hE := hI.2.2.2.2.1
  have hO := hA.1
  have hM := hR.1
  have w0 := hW.1
  have h09 := hR.2.2.2.2.1.2.2.2
  have m6 := hO.2.1
  have T40 := hO.2.2.2.1
  have F10 := hO.2.2.2.2.2.2.2.1
  rcases inN x (nM (mI μ 1302)) (by omega) with ⟨m, hm, rfl⟩ | hx
  · rcases inN y 6 (by omega) with ⟨k, hk, rfl⟩ | hy
    · rcases (by omega : k = 0 ∨ k = 1 ∨ k = 2 ∨ k = 3 ∨ k = 4 ∨ k = 5) with rfl | rfl | rfl | rfl | rfl | rfl
      · rw [in_282]
        simp (disch := first | omega | rfl) only [e_282_0, e_282_1, e_282_2, e_282_3, e_282_4, e_282_5, e_282_8, e_282_9, e_282_10, e_282_15, e_282_16, e_282_17, e_282_18, ge1, ule_t, true_or, or_true, nI_add, nI_mul, nI_sub, nI_clamp, nI_lt_t, nI_lt_f, nI_le_t, nI_le_f, nI_eq_t, nI_eq_f, vp_nI, tI, fI, not_true, not_false_iff, true_and, and_true, Classical.not_not, mS_uI, mS_uA, mS_uJ, mS_uR, mS_uX, mR_uI, mR_uA, mR_uJ, mR_uX, mX_uI, mX_uA, mX_uJ, mX_uR, mI_s, mI_n, mI_A, mI_An, mI_uJ, mI_uR, mI_uX, mJ_uI, mJ_uA, mJ_uR, mJ_uX, onR_s, kC_v, kC_n, kC_t, uad_p, ule_p, leT, and_self, w0, h09, c_101_0 hW hB hO hm]
        refine ⟨_, rfl, (RdF.refl.uJ).bs, ?_⟩
        rw [m_232 (μ := uJ (μ) 1309 0 _) hM hO hm (show 0 < 6 by omega)]
        exact ⟨_, rfl, mI_s, fun _ => mJ_zs, h0.rd ((RdF.refl.uJ).z)⟩
      · rw [in_282]
        simp (disch := first | omega | rfl) only [e_282_0, e_282_1, e_282_2, e_282_3, e_282_4, e_282_5, e_282_8, e_282_9, e_282_10, e_282_15, e_282_16, e_282_17, e_282_18, ge1, ule_t, true_or, or_true, nI_add, nI_mul, nI_sub, nI_clamp, nI_lt_t, nI_lt_f, nI_le_t, nI_le_f, nI_eq_t, nI_eq_f, vp_nI, tI, fI, not_true, not_false_iff, true_and, and_true, Classical.not_not, mS_uI, mS_uA, mS_uJ, mS_uR, mS_uX, mR_uI, mR_uA, mR_uJ, mR_uX, mX_uI, mX_uA, mX_uJ, mX_uR, mI_s, mI_n, mI_A, mI_An, mI_uJ, mI_uR, mI_uX, mJ_uI, mJ_uA, mJ_uR, mJ_uX, onR_s, kC_v, kC_n, kC_t, uad_p, ule_p, leT, and_self, w0, h09, c_101_1 hW hB hO hm]
        refine ⟨_, rfl, (RdF.refl.uJ).bs, ?_⟩
        rw [m_232 (μ := uJ (μ) 1309 0 _) hM hO hm (show 1 < 6 by omega)]
        exact ⟨_, rfl, mI_s, fun _ => mJ_zs, h0.rd ((RdF.refl.uJ).z)⟩
      · rw [in_282]
        simp (disch := first | omega | rfl) only [e_282_0, e_282_1, e_282_2, e_282_3, e_282_4, e_282_5, e_282_8, e_282_9, e_282_10, e_282_15, e_282_16, e_282_17, e_282_18, ge1, ule_t, true_or, or_true, nI_add, nI_mul, nI_sub, nI_clamp, nI_lt_t, nI_lt_f, nI_le_t, nI_le_f, nI_eq_t, nI_eq_f, vp_nI, tI, fI, not_true, not_false_iff, true_and, and_true, Classical.not_not, mS_uI, mS_uA, mS_uJ, mS_uR, mS_uX, mR_uI, mR_uA, mR_uJ, mR_uX, mX_uI, mX_uA, mX_uJ, mX_uR, mI_s, mI_n, mI_A, mI_An, mI_uJ, mI_uR, mI_uX, mJ_uI, mJ_uA, mJ_uR, mJ_uX, onR_s, kC_v, kC_n, kC_t, uad_p, ule_p, leT, and_self, w0, h09, c_101_2 hW hB hO hm]
        refine ⟨_, rfl, (RdF.refl.uJ).bs, ?_⟩
        rw [m_232 (μ := uJ (μ) 1309 0 _) hM hO hm (show 2 < 6 by omega)]
        exact ⟨_, rfl, mI_s, fun _ => mJ_zs, h0.rd ((RdF.refl.uJ).z)⟩
      · rw [in_282]
        simp (disch := first | omega | rfl) only [e_282_0, e_282_1, e_282_2, e_282_3, e_282_4, e_282_5, e_282_8, e_282_9, e_282_10, e_282_15, e_282_16, e_282_17, e_282_18, ge1, ule_t, true_or, or_true, nI_add, nI_mul, nI_sub, nI_clamp, nI_lt_t, nI_lt_f, nI_le_t, nI_le_f, nI_eq_t, nI_eq_f, vp_nI, tI, fI, not_true, not_false_iff, true_and, and_true, Classical.not_not, mS_uI, mS_uA, mS_uJ, mS_uR, mS_uX, mR_uI, mR_uA, mR_uJ, mR_uX, mX_uI, mX_uA, mX_uJ, mX_uR, mI_s, mI_n, mI_A, mI_An, mI_uJ, mI_uR, mI_uX, mJ_uI, mJ_uA, mJ_uR, mJ_uX, onR_s, kC_v, kC_n, kC_t, uad_p, ule_p, leT, and_self, w0, h09, c_101_3 hW hB hO hm]
        refine ⟨_, rfl, (RdF.refl.uJ).bs, ?_⟩
        rw [m_232 (μ := uJ (μ) 1309 0 _) hM hO hm (show 3 < 6 by omega)]
        exact ⟨_, rfl, mI_s, fun _ => mJ_zs, h0.rd ((RdF.refl.uJ).z)⟩
      · rw [in_282]
        simp (disch := first | omega | rfl) only [e_282_0, e_282_1, e_282_2, e_282_3, e_282_4, e_282_5, e_282_8, e_282_9, e_282_10, e_282_15, e_282_16, e_282_17, e_282_18, ge1, ule_t, true_or, or_true, nI_add, nI_mul, nI_sub, nI_clamp, nI_lt_t, nI_lt_f, nI_le_t, nI_le_f, nI_eq_t, nI_eq_f, vp_nI, tI, fI, not_true, not_false_iff, true_and, and_true, Classical.not_not, mS_uI, mS_uA, mS_uJ, mS_uR, mS_uX, mR_uI, mR_uA, mR_uJ, mR_uX, mX_uI, mX_uA, mX_uJ, mX_uR, mI_s, mI_n, mI_A, mI_An, mI_uJ, mI_uR, mI_uX, mJ_uI, mJ_uA, mJ_uR, mJ_uX, onR_s, kC_v, kC_n, kC_t, uad_p, ule_p, leT, and_self, w0, h09, c_101_4 hW hB hO hm]
        refine ⟨_, rfl, (RdF.refl.uJ).bs, ?_⟩
        rw [m_232 (μ := uJ (μ) 1309 0 _) hM hO hm (show 4 < 6 by omega)]
        exact ⟨_, rfl, mI_s, fun _ => mJ_zs, h0.rd ((RdF.refl.uJ).z)⟩
      · rw [in_282]
        simp (disch := first | omega | rfl) only [e_282_0, e_282_1, e_282_2, e_282_3, e_282_4, e_282_5, e_282_8, e_282_9, e_282_10, e_282_15, e_282_16, e_282_17, e_282_18, ge1, ule_t, true_or, or_true, nI_add, nI_mul, nI_sub, nI_clamp, nI_lt_t, nI_lt_f, nI_le_t, nI_le_f, nI_eq_t, nI_eq_f, vp_nI, tI, fI, not_true, not_false_iff, true_and, and_true, Classical.not_not, mS_uI, mS_uA, mS_uJ, mS_uR, mS_uX, mR_uI, mR_uA, mR_uJ, mR_uX, mX_uI, mX_uA, mX_uJ, mX_uR, mI_s, mI_n, mI_A, mI_An, mI_uJ, mI_uR, mI_uX, mJ_uI, mJ_uA, mJ_uR, mJ_uX, onR_s, kC_v, kC_n, kC_t, uad_p, ule_p, leT, and_self, w0, h09, c_101_5 hW hB hO hm]
        refine ⟨_, rfl, (RdF.refl.uJ).bs, ?_⟩
        rw [m_232 (μ := uJ (μ) 1309 0 _) hM hO hm (show 5 < 6 by omega)]
        exact ⟨_, rfl, mI_s, fun _ => mJ_zs, h0.rd ((RdF.refl.uJ).z)⟩
    · rw [in_282]
      simp (disch := first | omega | rfl) only [e_282_0, e_282_1, e_282_2, e_282_3, e_282_4, e_282_5, e_282_8, e_282_9, e_282_10, e_282_15, e_282_16, e_282_17, e_282_18, ge1, ule_t, true_or, or_true, nI_add, nI_mul, nI_sub, nI_clamp, nI_lt_t, nI_lt_f, nI_le_t, nI_le_f, nI_eq_t, nI_eq_f, vp_nI, tI, fI, not_true, not_false_iff, true_and, and_true, Classical.not_not, mS_uI, mS_uA, mS_uJ, mS_uR, mS_uX, mR_uI, mR_uA, mR_uJ, mR_uX, mX_uI, mX_uA, mX_uJ, mX_uR, mI_s, mI_n, mI_A, mI_An, mI_uJ, mI_uR, mI_uX, mJ_uI, mJ_uA, mJ_uR, mJ_uX, onR_s, kC_v, kC_n, kC_t, uad_p, ule_p, leT, and_self, w0, h09, c_101f hW hB hO hm hy]
      refine ⟨_, rfl, (RdF.refl.uJ).bs, ?_⟩
      rw [m_232f (μ := uJ (μ) 1309 0 _) hM hO hm hy]
      exact ⟨_, rfl, mI_s, fun _ => mJ_zs, h0.rd ((RdF.refl.uJ).z)⟩
  · rw [in_282]
    simp (disch := first | omega | rfl) only [e_282_0, e_282_1, e_282_2, e_282_3, e_282_4, e_282_5, e_282_8, e_282_9, e_282_10, e_282_15, e_282_16, e_282_17, e_282_18, ge1, ule_t, true_or, or_true, nI_add, nI_mul, nI_sub, nI_clamp, nI_lt_t, nI_lt_f, nI_le_t, nI_le_f, nI_eq_t, nI_eq_f, vp_nI, tI, fI, not_true, not_false_iff, true_and, and_true, Classical.not_not, mS_uI, mS_uA, mS_uJ, mS_uR, mS_uX, mR_uI, mR_uA, mR_uJ, mR_uX, mX_uI, mX_uA, mX_uJ, mX_uR, mI_s, mI_n, mI_A, mI_An, mI_uJ, mI_uR, mI_uX, mJ_uI, mJ_uA, mJ_uR, mJ_uX, onR_s, kC_v, kC_n, kC_t, uad_p, ule_p, leT, and_self, w0, h09, c_101t hW hB hO hx, TT_282, kC_t]
    intro zz hz
    refine ⟨_, rfl, (RdF.refl.uX hz).bs, ?_⟩
    rw [m_232t (μ := uX μ zz) hM hO hx]
    exact ⟨_, rfl, mI_s, fun q => absurd q (by decide), h0.rd (RdF.refl.uX hz).z⟩

theorem p_283 (h : Inv L xs μ) : TwT (d + 20) 283 [.int x, .int y, .ref 1309] 234 [.int x, .int y] L xs μ := by
  unfold TwT
  have h0 := h
  obtain ⟨s, c, s2, c2, u, f, n, v, ⟨hI, hA, h8⟩, hP, hR⟩ := h
  have hW := hI.1
  have hB := hI.2.2.1.1
  have hC := hI.2.2.2.1
  have hE := hI.2.2.2.2.1
  have hO := hA.1
  have hM := hR.1
  have w0 := hW.1
  have h09 := hR.2.2.2.2.1.2.2.2
  have m6 := hO.2.1
  have T40 := hO.2.2.2.1
  have F10 := hO.2.2.2.2.2.2.2.1
  rcases inN x (nM (mI μ 1302)) (by omega) with ⟨m, hm, rfl⟩ | hx
  · rcases inN y 16 (by omega) with ⟨k, hk, rfl⟩ | hy
    · rw [in_283]
      simp (disch := first | omega | rfl) only [e_283_0, e_283_1, e_283_2, e_283_3, e_283_4, e_283_5, e_283_8, e_283_9, e_283_10, e_283_15, e_283_16, e_283_17, e_283_18, ge1, ule_t, true_or, or_true, nI_add, nI_mul, nI_sub, nI_clamp, nI_lt_t, nI_lt_f, nI_le_t, nI_le_f, nI_eq_t, nI_eq_f, vp_nI, tI, fI, not_true, not_false_iff, true_and, and_true, Classical.not_not, mS_uI, mS_uA, mS_uJ, mS_uR, mS_uX, mR_uI, mR_uA, mR_uJ, mR_uX, mX_uI, mX_uA, mX_uJ, mX_uR, mI_s, mI_n, mI_A, mI_An, mI_uJ, mI_uR, mI_uX, mJ_uI, mJ_uA, mJ_uR, mJ_uX, onR_s, kC_v, kC_n, kC_t, uad_p, ule_p, leT, and_self, w0, h09, c_103 hW hB hO hm hk]
      refine ⟨_, rfl, (RdF.refl.uJ).bs, ?_⟩
      rw [m_234 (μ := uJ (μ) 1309 0 _) hM hO hm hk]
      exact ⟨_, rfl, mI_s, fun _ => mJ_zs, h0.rd ((RdF.refl.uJ).z)⟩
    · rw [in_283]
      simp (disch := first | omega | rfl) only [e_283_0, e_283_1, e_283_2, e_283_3, e_283_4, e_283_5, e_283_8, e_283_9, e_283_10, e_283_15, e_283_16, e_283_17, e_283_18, ge1, ule_t, true_or, or_true, nI_add, nI_mul, nI_sub, nI_clamp, nI_lt_t, nI_lt_f, nI_le_t, nI_le_f, nI_eq_t, nI_eq_f, vp_nI, tI, fI, not_true, not_false_iff, true_and, and_true, Classical.not_not, mS_uI, mS_uA, mS_uJ, mS_uR, mS_uX, mR_uI, mR_uA, mR_uJ, mR_uX, mX_uI, mX_uA, mX_uJ, mX_uR, mI_s, mI_n, mI_A, mI_An, mI_uJ, mI_uR, mI_uX, mJ_uI, mJ_uA, mJ_uR, mJ_uX, onR_s, kC_v, kC_n, kC_t, uad_p, ule_p, leT, and_self, w0, h09, c_103f hW hB hO hm hy, TT_283, kC_t]
      intro zz hz
      refine ⟨_, rfl, (RdF.refl.uX hz).bs, ?_⟩
      rw [m_234f (μ := uX μ zz) hM hO hm hy]
      exact ⟨_, rfl, mI_s, fun q => absurd q (by decide), h0.rd (RdF.refl.uX hz).z⟩
  · rw [in_283]
    simp (disch := first | omega | rfl) only [e_283_0, e_283_1, e_283_2, e_283_3, e_283_4, e_283_5, e_283_8, e_283_9, e_283_10, e_283_15, e_283_16, e_283_17, e_283_18, ge1, ule_t, true_or, or_true, nI_add, nI_mul, nI_sub, nI_clamp, nI_lt_t, nI_lt_f, nI_le_t, nI_le_f, nI_eq_t, nI_eq_f, vp_nI, tI, fI, not_true, not_false_iff, true_and, and_true, Classical.not_not, mS_uI, mS_uA, mS_uJ, mS_uR, mS_uX, mR_uI, mR_uA, mR_uJ, mR_uX, mX_uI, mX_uA, mX_uJ, mX_uR, mI_s, mI_n, mI_A, mI_An, mI_uJ, mI_uR, mI_uX, mJ_uI, mJ_uA, mJ_uR, mJ_uX, onR_s, kC_v, kC_n, kC_t, uad_p, ule_p, leT, and_self, w0, h09, c_103t hW hB hO hx, TT_283, kC_t]
    intro zz hz
    refine ⟨_, rfl, (RdF.refl.uX hz).bs, ?_⟩
    rw [m_234t (μ := uX μ zz) hM hO hx]
    exact ⟨_, rfl, mI_s, fun q => absurd q (by decide), h0.rd (RdF.refl.uX hz).z⟩

theorem p_284 (h : Inv L xs μ) : TwT (d + 20) 284 [.int x, .ref 1309] 235 [.int x] L xs μ := by
  unfold TwT
  have h0 := h
  obtain ⟨s, c, s2, c2, u, f, n, v, ⟨hI, hA, h8⟩, hP, hR⟩ := h
  have hW := hI.1
  have hB := hI.2.2.1.1
  have hC := hI.2.2.2.1
  have hE := hI.2.2.2.2.1
  have hO := hA.1
  have hM := hR.1
  have w0 := hW.1
  have h09 := hR.2.2.2.2.1.2.2.2
  have m6 := hO.2.1
  have T40 := hO.2.2.2.1
  have F10 := hO.2.2.2.2.2.2.2.1
  rcases inN x (nT (mI μ 1302)) (by omega) with ⟨t, ht, rfl⟩ | hx
  · rw [in_284]
    simp (disch := first | omega | rfl) only [e_284_0, e_284_1, e_284_2, e_284_3, e_284_4, e_284_7, e_284_8, e_284_9, e_284_13, e_284_14, e_284_15, e_284_16, ge1, ule_t, true_or, or_true, nI_add, nI_mul, nI_sub, nI_clamp, nI_lt_t, nI_lt_f, nI_le_t, nI_le_f, nI_eq_t, nI_eq_f, vp_nI, tI, fI, not_true, not_false_iff, true_and, and_true, Classical.not_not, mS_uI, mS_uA, mS_uJ, mS_uR, mS_uX, mR_uI, mR_uA, mR_uJ, mR_uX, mX_uI, mX_uA, mX_uJ, mX_uR, mI_s, mI_n, mI_A, mI_An, mI_uJ, mI_uR, mI_uX, mJ_uI, mJ_uA, mJ_uR, mJ_uX, onR_s, kC_v, kC_n, kC_t, uad_p, ule_p, leT, and_self, w0, h09, c_104 hW hB hO hC ht]
    refine ⟨_, rfl, (RdF.refl.uJ).bs, ?_⟩
    rw [m_235 (μ := uJ (μ) 1309 0 _) hM hO ht]
    exact ⟨_, rfl, mI_s, fun _ => mJ_zs, h0.rd ((RdF.refl.uJ).z)⟩
  · rw [in_284]
    simp (disch := first | omega | rfl) only [e_284_0, e_284_1, e_284_2, e_284_3, e_284_4, e_284_7, e_284_8, e_284_9, e_284_13, e_284_14, e_284_15, e_284_16, ge1, ule_t, true_or, or_true, nI_add, nI_mul, nI_sub, nI_clamp, nI_lt_t, nI_lt_f, nI_le_t, nI_le_f, nI_eq_t, nI_eq_f, vp_nI, tI, fI, not_true, not_false_iff, true_and, and_true, Classical.not_not, mS_uI, mS_uA, mS_uJ, mS_uR, mS_uX, mR_uI, mR_uA, mR_uJ, mR_uX, mX_uI, mX_uA, mX_uJ, mX_uR, mI_s, mI_n, mI_A, mI_An, mI_uJ, mI_uR, mI_uX, mJ_uI, mJ_uA, mJ_uR, mJ_uX, onR_s, kC_v, kC_n, kC_t, uad_p, ule_p, leT, and_self, w0, h09, c_104f hW hB hO hx, TT_284, kC_t]
    intro zz hz
    refine ⟨_, rfl, (RdF.refl.uX hz).bs, ?_⟩
    rw [m_235t (μ := uX μ zz) hM hO hx]
    exact ⟨_, rfl, mI_s, fun q => absurd q (by decide), h0.rd (RdF.refl.uX hz).z⟩

theorem p_285 (h : Inv L xs μ) : TwT (d + 20) 285 [.int x, .int y, .int g, .ref 1309] 236 [.int x, .int y, .int g] L xs μ := by
  unfold TwT
  have h0 := h
  obtain ⟨s, c, s2, c2, u, f, n, v, ⟨hI, hA, h8⟩, hP, hR⟩ := h
  have hW := hI.1
  have hB := hI.2.2.1.1
  have hC := hI.2.2.2.1
  have hE := hI.2.2.2.2.1
  have hO := hA.1
  have hM := hR.1
  have w0 := hW.1
  have h09 := hR.2.2.2.2.1.2.2.2
  have m6 := hO.2.1
  have T40 := hO.2.2.2.1
  have F10 := hO.2.2.2.2.2.2.2.1
  rcases inN x (nT (mI μ 1302)) (by omega) with ⟨t, ht, rfl⟩ | hx
  · obtain ⟨z1, z2, z3⟩ := okP_z hO.2.2.2.2.2.2.2.2.2.2.2.2.2.2.2.2.1 ht
    rcases inN y (nZ (mI μ 1302) t) (by omega) with ⟨k, hk, rfl⟩ | hy
    · rcases inN g 4 (by omega) with ⟨i, hi, rfl⟩ | hg
      · rw [in_285]
        simp (disch := first | omega | rfl) only [e_285_0, e_285_2, e_285_3, e_285_4, e_285_5, e_285_6, e_285_7, e_285_10, e_285_11, e_285_12, e_285_17, e_285_18, e_285_19, e_285_20, ge1, ule_t, true_or, or_true, nI_add, nI_mul, nI_sub, nI_clamp, nI_lt_t, nI_lt_f, nI_le_t, nI_le_f, nI_eq_t, nI_eq_f, vp_nI, tI, fI, not_true, not_false_iff, true_and, and_true, Classical.not_not, mS_uI, mS_uA, mS_uJ, mS_uR, mS_uX, mR_uI, mR_uA, mR_uJ, mR_uX, mX_uI, mX_uA, mX_uJ, mX_uR, mI_s, mI_n, mI_A, mI_An, mI_uJ, mI_uR, mI_uX, mJ_uI, mJ_uA, mJ_uR, mJ_uX, onR_s, kC_v, kC_n, kC_t, uad_p, ule_p, leT, and_self, w0, h09, c_105 hW hB hO hC ht hk hi]
        refine ⟨_, rfl, (RdF.refl.uJ).bs, ?_⟩
        rw [m_236 (μ := uJ (μ) 1309 0 _) hM hO ht z1 z2 hk hi]
        exact ⟨_, rfl, mI_s, fun _ => mJ_zs, h0.rd ((RdF.refl.uJ).z)⟩
      · rw [in_285]
        simp (disch := first | omega | rfl) only [e_285_0, e_285_2, e_285_3, e_285_4, e_285_5, e_285_6, e_285_7, e_285_10, e_285_11, e_285_12, e_285_17, e_285_18, e_285_19, e_285_20, ge1, ule_t, true_or, or_true, nI_add, nI_mul, nI_sub, nI_clamp, nI_lt_t, nI_lt_f, nI_le_t, nI_le_f, nI_eq_t, nI_eq_f, vp_nI, tI, fI, not_true, not_false_iff, true_and, and_true, Classical.not_not, mS_uI, mS_uA, mS_uJ, mS_uR, mS_uX, mR_uI, mR_uA, mR_uJ, mR_uX, mX_uI, mX_uA, mX_uJ, mX_uR, mI_s, mI_n, mI_A, mI_An, mI_uJ, mI_uR, mI_uX, mJ_uI, mJ_uA, mJ_uR, mJ_uX, onR_s, kC_v, kC_n, kC_t, uad_p, ule_p, leT, and_self, w0, h09, c_105g hW hB hO hC ht hk hg]
        refine ⟨_, rfl, (RdF.refl.uJ).bs, ?_⟩
        rw [m_236g (μ := uJ (μ) 1309 0 _) hM hO ht z1 z2 hk hg]
        exact ⟨_, rfl, mI_s, fun _ => mJ_zs, h0.rd ((RdF.refl.uJ).z)⟩
    · rw [in_285]
      simp (disch := first | omega | rfl) only [e_285_0, e_285_2, e_285_3, e_285_4, e_285_5, e_285_6, e_285_7, e_285_10, e_285_11, e_285_12, e_285_17, e_285_18, e_285_19, e_285_20, ge1, ule_t, true_or, or_true, nI_add, nI_mul, nI_sub, nI_clamp, nI_lt_t, nI_lt_f, nI_le_t, nI_le_f, nI_eq_t, nI_eq_f, vp_nI, tI, fI, not_true, not_false_iff, true_and, and_true, Classical.not_not, mS_uI, mS_uA, mS_uJ, mS_uR, mS_uX, mR_uI, mR_uA, mR_uJ, mR_uX, mX_uI, mX_uA, mX_uJ, mX_uR, mI_s, mI_n, mI_A, mI_An, mI_uJ, mI_uR, mI_uX, mJ_uI, mJ_uA, mJ_uR, mJ_uX, onR_s, kC_v, kC_n, kC_t, uad_p, ule_p, leT, and_self, w0, h09, c_105f hW hB hO hC ht hy]
      refine ⟨_, rfl, (RdF.refl.uJ).bs, ?_⟩
      rw [m_236f (μ := uJ (μ) 1309 0 _) hM hO ht z1 z2 hy]
      exact ⟨_, rfl, mI_s, fun _ => mJ_zs, h0.rd ((RdF.refl.uJ).z)⟩
  · rw [in_285]
    simp (disch := first | omega | rfl) only [e_285_0, e_285_2, e_285_3, e_285_4, e_285_5, e_285_6, e_285_7, e_285_10, e_285_11, e_285_12, e_285_17, e_285_18, e_285_19, e_285_20, ge1, ule_t, true_or, or_true, nI_add, nI_mul, nI_sub, nI_clamp, nI_lt_t, nI_lt_f, nI_le_t, nI_le_f, nI_eq_t, nI_eq_f, vp_nI, tI, fI, not_true, not_false_iff, true_and, and_true, Classical.not_not, mS_uI, mS_uA, mS_uJ, mS_uR, mS_uX, mR_uI, mR_uA, mR_uJ, mR_uX, mX_uI, mX_uA, mX_uJ, mX_uR, mI_s, mI_n, mI_A, mI_An, mI_uJ, mI_uR, mI_uX, mJ_uI, mJ_uA, mJ_uR, mJ_uX, onR_s, kC_v, kC_n, kC_t, uad_p, ule_p, leT, and_self, w0, h09, c_105t hW hB hO hx, TT_285, kC_t]
    intro zz hz
    refine ⟨_, rfl, (RdF.refl.uX hz).bs, ?_⟩
    rw [m_236t (μ := uX μ zz) hM hO hx]
    exact ⟨_, rfl, mI_s, fun q => absurd q (by decide), h0.rd (RdF.refl.uX hz).z⟩

theorem p_286 (h : Inv L xs μ) : TwT (d + 20) 286 [.int x, .int y, .ref 1309] 237 [.int x, .int y] L xs μ := by
  unfold TwT
  have h0 := h
  obtain ⟨s, c, s2, c2, u, f, n, v, ⟨hI, hA, h8⟩, hP, hR⟩ := h
  have hW := hI.1
  have hB := hI.2.2.1.1
  have hC := hI.2.2.2.1
  have hE := hI.2.2.2.2.1
  have hO := hA.1
  have hM := hR.1
  have w0 := hW.1
  have h09 := hR.2.2.2.2.1.2.2.2
  have m6 := hO.2.1
  have T40 := hO.2.2.2.1
  have F10 := hO.2.2.2.2.2.2.2.1
  rcases inN x (nF (mI μ 1302)) (by omega) with ⟨k, hk, rfl⟩ | hx
  · rcases inN y 4 (by omega) with ⟨i, hi, rfl⟩ | hy
    · rw [in_286]
      simp (disch := first | omega | rfl) only [e_286_0, e_286_1, e_286_2, e_286_3, e_286_4, e_286_5, e_286_8, e_286_9, e_286_10, e_286_15, e_286_16, e_286_17, e_286_18, ge1, ule_t, true_or, or_true, nI_add, nI_mul, nI_sub, nI_clamp, nI_lt_t, nI_lt_f, nI_le_t, nI_le_f, nI_eq_t, nI_eq_f, vp_nI, tI, fI, not_true, not_false_iff, true_and, and_true, Classical.not_not, mS_uI, mS_uA, mS_uJ, mS_uR, mS_uX, mR_uI, mR_uA, mR_uJ, mR_uX, mX_uI, mX_uA, mX_uJ, mX_uR, mI_s, mI_n, mI_A, mI_An, mI_uJ, mI_uR, mI_uX, mJ_uI, mJ_uA, mJ_uR, mJ_uX, onR_s, kC_v, kC_n, kC_t, uad_p, ule_p, leT, and_self, w0, h09, c_106 hW hB hO hk hi]
      refine ⟨_, rfl, (RdF.refl.uJ).bs, ?_⟩
      rw [m_237 (μ := uJ (μ) 1309 0 _) hM hO hk hi]
      exact ⟨_, rfl, mI_s, fun _ => mJ_zs, h0.rd ((RdF.refl.uJ).z)⟩
    · rw [in_286]
      simp (disch := first | omega | rfl) only [e_286_0, e_286_1, e_286_2, e_286_3, e_286_4, e_286_5, e_286_8, e_286_9, e_286_10, e_286_15, e_286_16, e_286_17, e_286_18, ge1, ule_t, true_or, or_true, nI_add, nI_mul, nI_sub, nI_clamp, nI_lt_t, nI_lt_f, nI_le_t, nI_le_f, nI_eq_t, nI_eq_f, vp_nI, tI, fI, not_true, not_false_iff, true_and, and_true, Classical.not_not, mS_uI, mS_uA, mS_uJ, mS_uR, mS_uX, mR_uI, mR_uA, mR_uJ, mR_uX, mX_uI, mX_uA, mX_uJ, mX_uR, mI_s, mI_n, mI_A, mI_An, mI_uJ, mI_uR, mI_uX, mJ_uI, mJ_uA, mJ_uR, mJ_uX, onR_s, kC_v, kC_n, kC_t, uad_p, ule_p, leT, and_self, w0, h09, c_106f hW hB hO hk hy]
      refine ⟨_, rfl, (RdF.refl.uJ).bs, ?_⟩
      rw [m_237f (μ := uJ (μ) 1309 0 _) hM hO hk hy]
      exact ⟨_, rfl, mI_s, fun _ => mJ_zs, h0.rd ((RdF.refl.uJ).z)⟩
  · rw [in_286]
    simp (disch := first | omega | rfl) only [e_286_0, e_286_1, e_286_2, e_286_3, e_286_4, e_286_5, e_286_8, e_286_9, e_286_10, e_286_15, e_286_16, e_286_17, e_286_18, ge1, ule_t, true_or, or_true, nI_add, nI_mul, nI_sub, nI_clamp, nI_lt_t, nI_lt_f, nI_le_t, nI_le_f, nI_eq_t, nI_eq_f, vp_nI, tI, fI, not_true, not_false_iff, true_and, and_true, Classical.not_not, mS_uI, mS_uA, mS_uJ, mS_uR, mS_uX, mR_uI, mR_uA, mR_uJ, mR_uX, mX_uI, mX_uA, mX_uJ, mX_uR, mI_s, mI_n, mI_A, mI_An, mI_uJ, mI_uR, mI_uX, mJ_uI, mJ_uA, mJ_uR, mJ_uX, onR_s, kC_v, kC_n, kC_t, uad_p, ule_p, leT, and_self, w0, h09, c_106t hW hB hO hx, TT_286, kC_t]
    intro zz hz
    refine ⟨_, rfl, (RdF.refl.uX hz).bs, ?_⟩
    rw [m_237t (μ := uX μ zz) hM hO hx]
    exact ⟨_, rfl, mI_s, fun q => absurd q (by decide), h0.rd (RdF.refl.uX hz).z⟩

theorem p_287 (h : Inv L xs μ) : TwT (d + 20) 287 [.int x, .int y, .ref 1309] 238 [.int x, .int y] L xs μ := by
  unfold TwT
  have h0 := h
  obtain ⟨s, c, s2, c2, u, f, n, v, ⟨hI, hA, h8⟩, hP, hR⟩ := h
  have hW := hI.1
  have hB := hI.2.2.1.1
  have hC := hI.2.2.2.1
  have hE := hI.2.2.2.2.1
  have hO := hA.1
  have hM := hR.1
  have w0 := hW.1
  have h09 := hR.2.2.2.2.1.2.2.2
  have m6 := hO.2.1
  have T40 := hO.2.2.2.1
  have F10 := hO.2.2.2.2.2.2.2.1
  rcases inN x (nM (mI μ 1302)) (by omega) with ⟨m, hm, rfl⟩ | hx
  · by_cases hy : nI 1 ≤ y ∧ y ≤ nI 31
    · obtain ⟨k, k1, k2, rfl⟩ := rng hy (by omega) (by omega)
      have e2 : mI (uA μ 1064 (fTree (mI μ (s + 6 + 3 * m)) (mI μ 1064))) 1302 = mI μ 1302 := mI_Anf (by omega)
      have hO2 : okR (mI (uA μ 1064 (fTree (mI μ (s + 6 + 3 * m)) (mI μ 1064))) 1302) := by rw [e2]; exact hO
      have hm2 : m < nM (mI (uA μ 1064 (fTree (mI μ (s + 6 + 3 * m)) (mI μ 1064))) 1302) := by rw [e2]; exact hm
      rw [in_287]
      simp (disch := first | omega | rfl) only [e_287_0, e_287_1, e_287_2, e_287_3, e_287_4, e_287_5, e_287_8, e_287_9, e_287_10, e_287_15, e_287_16, e_287_17, e_287_18, ge1, ule_t, true_or, or_true, nI_add, nI_mul, nI_sub, nI_clamp, nI_lt_t, nI_lt_f, nI_le_t, nI_le_f, nI_eq_t, nI_eq_f, vp_nI, tI, fI, not_true, not_false_iff, true_and, and_true, Classical.not_not, mS_uI, mS_uA, mS_uJ, mS_uR, mS_uX, mR_uI, mR_uA, mR_uJ, mR_uX, mX_uI, mX_uA, mX_uJ, mX_uR, mI_s, mI_n, mI_A, mI_An, mI_uJ, mI_uR, mI_uX, mJ_uI, mJ_uA, mJ_uR, mJ_uX, onR_s, kC_v, kC_n, kC_t, uad_p, ule_p, leT, and_self, w0, h09, c_107 hW hB hO hm k1 (show k < 32 by omega)]
      refine ⟨_, rfl, ((RdF.refl.uA (Or.inl ⟨by omega, by omega⟩)).uJ).bs, ?_⟩
      rw [m_238 (μ := uJ (uA μ 1064 (fTree (mI μ (s + 6 + 3 * m)) (mI μ 1064))) 1309 0 _) hM hO2 hm2 k1 (show k < 32 by omega)]
      refine ⟨_, rfl, (mTree_fr.2.2.2 1298 (by omega) 0).trans mI_s, fun _ => ?_, h0.rd (mTe_rd (((RdF.refl.uA (Or.inl ⟨by omega, by omega⟩)).uJ).z))⟩
      rw [mJ_te]
      refine mJ_zs.trans ?_
      show _ = Int32.toInt64 (fCk (rW (mI (uA μ 1064 (fTree (mI μ (s + 6 + 3 * m)) (mI μ 1064))) 1302)) m k)
      rw [e2]
    · rw [in_287]
      simp (disch := first | omega | rfl) only [e_287_0, e_287_1, e_287_2, e_287_3, e_287_4, e_287_5, e_287_8, e_287_9, e_287_10, e_287_15, e_287_16, e_287_17, e_287_18, ge1, ule_t, true_or, or_true, nI_add, nI_mul, nI_sub, nI_clamp, nI_lt_t, nI_lt_f, nI_le_t, nI_le_f, nI_eq_t, nI_eq_f, vp_nI, tI, fI, not_true, not_false_iff, true_and, and_true, Classical.not_not, mS_uI, mS_uA, mS_uJ, mS_uR, mS_uX, mR_uI, mR_uA, mR_uJ, mR_uX, mX_uI, mX_uA, mX_uJ, mX_uR, mI_s, mI_n, mI_A, mI_An, mI_uJ, mI_uR, mI_uX, mJ_uI, mJ_uA, mJ_uR, mJ_uX, onR_s, kC_v, kC_n, kC_t, uad_p, ule_p, leT, and_self, w0, h09, c_107f hW hB hO hm hy]
      refine ⟨_, rfl, (RdF.refl.uJ).bs, ?_⟩
      rw [m_238f (μ := uJ (μ) 1309 0 _) hM hO hm hy]
      exact ⟨_, rfl, mI_s, fun _ => mJ_zs, h0.rd ((RdF.refl.uJ).z)⟩
  · rw [in_287]
    simp (disch := first | omega | rfl) only [e_287_0, e_287_1, e_287_2, e_287_3, e_287_4, e_287_5, e_287_8, e_287_9, e_287_10, e_287_15, e_287_16, e_287_17, e_287_18, ge1, ule_t, true_or, or_true, nI_add, nI_mul, nI_sub, nI_clamp, nI_lt_t, nI_lt_f, nI_le_t, nI_le_f, nI_eq_t, nI_eq_f, vp_nI, tI, fI, not_true, not_false_iff, true_and, and_true, Classical.not_not, mS_uI, mS_uA, mS_uJ, mS_uR, mS_uX, mR_uI, mR_uA, mR_uJ, mR_uX, mX_uI, mX_uA, mX_uJ, mX_uR, mI_s, mI_n, mI_A, mI_An, mI_uJ, mI_uR, mI_uX, mJ_uI, mJ_uA, mJ_uR, mJ_uX, onR_s, kC_v, kC_n, kC_t, uad_p, ule_p, leT, and_self, w0, h09, c_107t hW hB hO hx, TT_287, kC_t]
    intro zz hz
    refine ⟨_, rfl, (RdF.refl.uX hz).bs, ?_⟩
    rw [m_238t (μ := uX μ zz) hM hO hx]
    exact ⟨_, rfl, mI_s, fun q => absurd q (by decide), h0.rd (RdF.refl.uX hz).z⟩

theorem p_288 (h : Inv L xs μ) : TwT (d + 20) 288 [.int x, .int y, .ref 1309] 239 [.int x, .int y] L xs μ := by
  unfold TwT
  have h0 := h
  obtain ⟨s, c, s2, c2, u, f, n, v, ⟨hI, hA, h8⟩, hP, hR⟩ := h
  have hW := hI.1
  have hB := hI.2.2.1.1
  have hC := hI.2.2.2.1
  have hE := hI.2.2.2.2.1
  have hO := hA.1
  have hM := hR.1
  have w0 := hW.1
  have h09 := hR.2.2.2.2.1.2.2.2
  have m6 := hO.2.1
  have T40 := hO.2.2.2.1
  have F10 := hO.2.2.2.2.2.2.2.1
  rcases inN x (nM (mI μ 1302)) (by omega) with ⟨m, hm, rfl⟩ | hx
  · by_cases hy : vHas (rW (mI μ 1302)) m y
    · rw [in_288]
      simp (disch := first | omega | rfl) only [e_288_0, e_288_1, e_288_2, e_288_3, e_288_4, e_288_5, e_288_8, e_288_9, e_288_10, e_288_15, e_288_16, e_288_17, e_288_18, ge1, ule_t, true_or, or_true, nI_add, nI_mul, nI_sub, nI_clamp, nI_lt_t, nI_lt_f, nI_le_t, nI_le_f, nI_eq_t, nI_eq_f, vp_nI, tI, fI, not_true, not_false_iff, true_and, and_true, Classical.not_not, mS_uI, mS_uA, mS_uJ, mS_uR, mS_uX, mR_uI, mR_uA, mR_uJ, mR_uX, mX_uI, mX_uA, mX_uJ, mX_uR, mI_s, mI_n, mI_A, mI_An, mI_uJ, mI_uR, mI_uX, mJ_uI, mJ_uA, mJ_uR, mJ_uX, onR_s, kC_v, kC_n, kC_t, uad_p, ule_p, leT, and_self, w0, h09, c_108 hW hB hO hm hy]
      refine ⟨_, rfl, (RdF.refl.uJ).bs, ?_⟩
      rw [m_239 (μ := uJ (μ) 1309 0 _) hM hO hm hy]
      exact ⟨_, rfl, mI_s, fun _ => mJ_zs, h0.rd ((RdF.refl.uJ).z)⟩
    · rw [in_288]
      simp (disch := first | omega | rfl) only [e_288_0, e_288_1, e_288_2, e_288_3, e_288_4, e_288_5, e_288_8, e_288_9, e_288_10, e_288_15, e_288_16, e_288_17, e_288_18, ge1, ule_t, true_or, or_true, nI_add, nI_mul, nI_sub, nI_clamp, nI_lt_t, nI_lt_f, nI_le_t, nI_le_f, nI_eq_t, nI_eq_f, vp_nI, tI, fI, not_true, not_false_iff, true_and, and_true, Classical.not_not, mS_uI, mS_uA, mS_uJ, mS_uR, mS_uX, mR_uI, mR_uA, mR_uJ, mR_uX, mX_uI, mX_uA, mX_uJ, mX_uR, mI_s, mI_n, mI_A, mI_An, mI_uJ, mI_uR, mI_uX, mJ_uI, mJ_uA, mJ_uR, mJ_uX, onR_s, kC_v, kC_n, kC_t, uad_p, ule_p, leT, and_self, w0, h09, c_108n hW hB hO hm hy]
      refine ⟨_, rfl, (RdF.refl.uJ).bs, ?_⟩
      rw [m_239n (μ := uJ (μ) 1309 0 _) hM hO hm hy]
      exact ⟨_, rfl, mI_s, fun _ => mJ_zs, h0.rd ((RdF.refl.uJ).z)⟩
  · rw [in_288]
    simp (disch := first | omega | rfl) only [e_288_0, e_288_1, e_288_2, e_288_3, e_288_4, e_288_5, e_288_8, e_288_9, e_288_10, e_288_15, e_288_16, e_288_17, e_288_18, ge1, ule_t, true_or, or_true, nI_add, nI_mul, nI_sub, nI_clamp, nI_lt_t, nI_lt_f, nI_le_t, nI_le_f, nI_eq_t, nI_eq_f, vp_nI, tI, fI, not_true, not_false_iff, true_and, and_true, Classical.not_not, mS_uI, mS_uA, mS_uJ, mS_uR, mS_uX, mR_uI, mR_uA, mR_uJ, mR_uX, mX_uI, mX_uA, mX_uJ, mX_uR, mI_s, mI_n, mI_A, mI_An, mI_uJ, mI_uR, mI_uX, mJ_uI, mJ_uA, mJ_uR, mJ_uX, onR_s, kC_v, kC_n, kC_t, uad_p, ule_p, leT, and_self, w0, h09, c_108t hW hB hO hx, TT_288, kC_t]
    intro zz hz
    refine ⟨_, rfl, (RdF.refl.uX hz).bs, ?_⟩
    rw [m_239t (μ := uX μ zz) hM hO hx]
    exact ⟨_, rfl, mI_s, fun q => absurd q (by decide), h0.rd (RdF.refl.uX hz).z⟩

theorem p_289 (h : Inv L xs μ) : TwT (d + 20) 289 [.int x, .int y, .ref 1309] 245 [.int x, .int y] L xs μ := by
  unfold TwT
  have h0 := h
  obtain ⟨s, c, s2, c2, u, f, n, v, ⟨hI, hA, h8⟩, hP, hR⟩ := h
  have hW := hI.1
  have hB := hI.2.2.1.1
  have hC := hI.2.2.2.1
  have hE := hI.2.2.2.2.1
  have hO := hA.1
  have hM := hR.1
  have w0 := hW.1
  have h09 := hR.2.2.2.2.1.2.2.2
  have m6 := hO.2.1
  have T40 := hO.2.2.2.1
  have F10 := hO.2.2.2.2.2.2.2.1
  rcases inN x (nM (mI μ 1302)) (by omega) with ⟨a, ha, rfl⟩ | hx
  · rcases inN y (nM (mI μ 1302)) (by omega) with ⟨b, hb, rfl⟩ | hy
    · rw [in_289]
      simp (disch := first | omega | rfl) only [e_289_0, e_289_1, e_289_2, e_289_3, e_289_4, e_289_5, e_289_8, e_289_9, e_289_10, e_289_15, e_289_16, e_289_17, e_289_18, ge1, ule_t, true_or, or_true, nI_add, nI_mul, nI_sub, nI_clamp, nI_lt_t, nI_lt_f, nI_le_t, nI_le_f, nI_eq_t, nI_eq_f, vp_nI, tI, fI, not_true, not_false_iff, true_and, and_true, Classical.not_not, mS_uI, mS_uA, mS_uJ, mS_uR, mS_uX, mR_uI, mR_uA, mR_uJ, mR_uX, mX_uI, mX_uA, mX_uJ, mX_uR, mI_s, mI_n, mI_A, mI_An, mI_uJ, mI_uR, mI_uX, mJ_uI, mJ_uA, mJ_uR, mJ_uX, onR_s, kC_v, kC_n, kC_t, uad_p, ule_p, leT, and_self, w0, h09, c_109 hW hB hO ha hb]
      refine ⟨_, rfl, (RdF.refl.uJ).bs, ?_⟩
      rw [m_245 (μ := uJ (μ) 1309 0 _) hM hO ha hb]
      exact ⟨_, rfl, mI_s, fun _ => mJ_zs, h0.rd ((RdF.refl.uJ).z)⟩
    · rw [in_289]
      simp (disch := first | omega | rfl) only [e_289_0, e_289_1, e_289_2, e_289_3, e_289_4, e_289_5, e_289_8, e_289_9, e_289_10, e_289_15, e_289_16, e_289_17, e_289_18, ge1, ule_t, true_or, or_true, nI_add, nI_mul, nI_sub, nI_clamp, nI_lt_t, nI_lt_f, nI_le_t, nI_le_f, nI_eq_t, nI_eq_f, vp_nI, tI, fI, not_true, not_false_iff, true_and, and_true, Classical.not_not, mS_uI, mS_uA, mS_uJ, mS_uR, mS_uX, mR_uI, mR_uA, mR_uJ, mR_uX, mX_uI, mX_uA, mX_uJ, mX_uR, mI_s, mI_n, mI_A, mI_An, mI_uJ, mI_uR, mI_uX, mJ_uI, mJ_uA, mJ_uR, mJ_uX, onR_s, kC_v, kC_n, kC_t, uad_p, ule_p, leT, and_self, w0, h09, c_109f hW hB hO ha hy, TT_289, kC_t]
      intro zz hz
      refine ⟨_, rfl, (RdF.refl.uX hz).bs, ?_⟩
      rw [m_245f (μ := uX μ zz) hM hO ha hy]
      exact ⟨_, rfl, mI_s, fun q => absurd q (by decide), h0.rd (RdF.refl.uX hz).z⟩
  · rw [in_289]
    simp (disch := first | omega | rfl) only [e_289_0, e_289_1, e_289_2, e_289_3, e_289_4, e_289_5, e_289_8, e_289_9, e_289_10, e_289_15, e_289_16, e_289_17, e_289_18, ge1, ule_t, true_or, or_true, nI_add, nI_mul, nI_sub, nI_clamp, nI_lt_t, nI_lt_f, nI_le_t, nI_le_f, nI_eq_t, nI_eq_f, vp_nI, tI, fI, not_true, not_false_iff, true_and, and_true, Classical.not_not, mS_uI, mS_uA, mS_uJ, mS_uR, mS_uX, mR_uI, mR_uA, mR_uJ, mR_uX, mX_uI, mX_uA, mX_uJ, mX_uR, mI_s, mI_n, mI_A, mI_An, mI_uJ, mI_uR, mI_uX, mJ_uI, mJ_uA, mJ_uR, mJ_uX, onR_s, kC_v, kC_n, kC_t, uad_p, ule_p, leT, and_self, w0, h09, c_109t hW hB hO hx, TT_289, kC_t]
    intro zz hz
    refine ⟨_, rfl, (RdF.refl.uX hz).bs, ?_⟩
    rw [m_245t (μ := uX μ zz) hM hO hx]
    exact ⟨_, rfl, mI_s, fun q => absurd q (by decide), h0.rd (RdF.refl.uX hz).z⟩

theorem p_290 (h : Inv L xs μ) : TwT (d + 20) 290 [.int x, .int y, .ref 1309] 246 [.int x, .int y] L xs μ := by
  unfold TwT
  have h0 := h
  obtain ⟨s, c, s2, c2, u, f, n, v, ⟨hI, hA, h8⟩, hP, hR⟩ := h
  have hW := hI.1
  have hB := hI.2.2.1.1
  have hC := hI.2.2.2.1
  have hE := hI.2.2.2.2.1
  have hO := hA.1
  have hM := hR.1
  have w0 := hW.1
  have h09 := hR.2.2.2.2.1.2.2.2
  have m6 := hO.2.1
  have T40 := hO.2.2.2.1
  have F10 := hO.2.2.2.2.2.2.2.1
  rcases inN x (nM (mI μ 1302)) (by omega) with ⟨a, ha, rfl⟩ | hx
  · rcases inN y (nM (mI μ 1302)) (by omega) with ⟨b, hb, rfl⟩ | hy
    · rw [in_290]
      simp (disch := first | omega | rfl) only [e_290_0, e_290_1, e_290_2, e_290_3, e_290_4, e_290_5, e_290_8, e_290_9, e_290_10, e_290_15, e_290_16, e_290_17, e_290_18, ge1, ule_t, true_or, or_true, nI_add, nI_mul, nI_sub, nI_clamp, nI_lt_t, nI_lt_f, nI_le_t, nI_le_f, nI_eq_t, nI_eq_f, vp_nI, tI, fI, not_true, not_false_iff, true_and, and_true, Classical.not_not, mS_uI, mS_uA, mS_uJ, mS_uR, mS_uX, mR_uI, mR_uA, mR_uJ, mR_uX, mX_uI, mX_uA, mX_uJ, mX_uR, mI_s, mI_n, mI_A, mI_An, mI_uJ, mI_uR, mI_uX, mJ_uI, mJ_uA, mJ_uR, mJ_uX, onR_s, kC_v, kC_n, kC_t, uad_p, ule_p, leT, and_self, w0, h09, c_110 hW hB hO ha hb]
      refine ⟨_, rfl, (RdF.refl.uJ).bs, ?_⟩
      rw [m_246 (μ := uJ (μ) 1309 0 _) hM hO ha hb]
      exact ⟨_, rfl, mI_s, fun _ => mJ_zs, h0.rd ((RdF.refl.uJ).z)⟩
    · rw [in_290]
      simp (disch := first | omega | rfl) only [e_290_0, e_290_1, e_290_2, e_290_3, e_290_4, e_290_5, e_290_8, e_290_9, e_290_10, e_290_15, e_290_16, e_290_17, e_290_18, ge1, ule_t, true_or, or_true, nI_add, nI_mul, nI_sub, nI_clamp, nI_lt_t, nI_lt_f, nI_le_t, nI_le_f, nI_eq_t, nI_eq_f, vp_nI, tI, fI, not_true, not_false_iff, true_and, and_true, Classical.not_not, mS_uI, mS_uA, mS_uJ, mS_uR, mS_uX, mR_uI, mR_uA, mR_uJ, mR_uX, mX_uI, mX_uA, mX_uJ, mX_uR, mI_s, mI_n, mI_A, mI_An, mI_uJ, mI_uR, mI_uX, mJ_uI, mJ_uA, mJ_uR, mJ_uX, onR_s, kC_v, kC_n, kC_t, uad_p, ule_p, leT, and_self, w0, h09, c_110f hW hB hO ha hy, TT_290, kC_t]
      intro zz hz
      refine ⟨_, rfl, (RdF.refl.uX hz).bs, ?_⟩
      rw [m_246f (μ := uX μ zz) hM hO ha hy]
      exact ⟨_, rfl, mI_s, fun q => absurd q (by decide), h0.rd (RdF.refl.uX hz).z⟩
  · rw [in_290]
    simp (disch := first | omega | rfl) only [e_290_0, e_290_1, e_290_2, e_290_3, e_290_4, e_290_5, e_290_8, e_290_9, e_290_10, e_290_15, e_290_16, e_290_17, e_290_18, ge1, ule_t, true_or, or_true, nI_add, nI_mul, nI_sub, nI_clamp, nI_lt_t, nI_lt_f, nI_le_t, nI_le_f, nI_eq_t, nI_eq_f, vp_nI, tI, fI, not_true, not_false_iff, true_and, and_true, Classical.not_not, mS_uI, mS_uA, mS_uJ, mS_uR, mS_uX, mR_uI, mR_uA, mR_uJ, mR_uX, mX_uI, mX_uA, mX_uJ, mX_uR, mI_s, mI_n, mI_A, mI_An, mI_uJ, mI_uR, mI_uX, mJ_uI, mJ_uA, mJ_uR, mJ_uX, onR_s, kC_v, kC_n, kC_t, uad_p, ule_p, leT, and_self, w0, h09, c_110t hW hB hO hx, TT_290, kC_t]
    intro zz hz
    refine ⟨_, rfl, (RdF.refl.uX hz).bs, ?_⟩
    rw [m_246t (μ := uX μ zz) hM hO hx]
    exact ⟨_, rfl, mI_s, fun q => absurd q (by decide), h0.rd (RdF.refl.uX hz).z⟩

theorem p_291 (h : Inv L xs μ) : TwB (d + 20) 291 [.int x, .int y, .ref 1309] 247 [.int x, .int y] L xs μ := by
  unfold TwB
  have h0 := h
  obtain ⟨s, c, s2, c2, u, f, n, v, ⟨hI, hA, h8⟩, hP, hR⟩ := h
  have hW := hI.1
  have hB := hI.2.2.1.1
  have hC := hI.2.2.2.1
  have hE := hI.2.2.2.2.1
  have hO := hA.1
  have hM := hR.1
  have w0 := hW.1
  have h09 := hR.2.2.2.2.1.2.2.2
  have m6 := hO.2.1
  have T40 := hO.2.2.2.1
  have F10 := hO.2.2.2.2.2.2.2.1
  rcases inN x (nM (mI μ 1302)) (by omega) with ⟨a, ha, rfl⟩ | hx
  · rcases inN y (nM (mI μ 1302)) (by omega) with ⟨b, hb, rfl⟩ | hy
    · by_cases hp : aHalf (rW (mI μ 1302)) a b = aLin (rW (mI μ 1302)) a b
      · rw [in_291]
        simp (disch := first | omega | rfl) only [e_291_0, e_291_1, e_291_2, e_291_3, e_291_4, e_291_5, e_291_8, e_291_11, e_291_12, e_291_15, e_291_16, e_291_17, e_291_22, e_291_23, e_291_24, e_291_25, ge1, ule_t, true_or, or_true, nI_add, nI_mul, nI_sub, nI_clamp, nI_lt_t, nI_lt_f, nI_le_t, nI_le_f, nI_eq_t, nI_eq_f, vp_nI, tI, fI, not_true, not_false_iff, true_and, and_true, Classical.not_not, mS_uI, mS_uA, mS_uJ, mS_uR, mS_uX, mR_uI, mR_uA, mR_uJ, mR_uX, mX_uI, mX_uA, mX_uJ, mX_uR, mI_s, mI_n, mI_A, mI_An, mI_uJ, mI_uR, mI_uX, mJ_uI, mJ_uA, mJ_uR, mJ_uX, onR_s, kC_v, kC_n, kC_t, uad_p, ule_p, leT, and_self, w0, h09, c_113 hW hB hO ha hb, bI_ti hp]
        refine ⟨_, rfl, (RdF.refl.uJ).bs, ?_⟩
        rw [m_247 (μ := uJ μ 1309 0 _) hM hO ha hb]
        refine ⟨_, rfl, ?_, mI_s, fun _ => ?_, h0.rd (RdF.refl.uJ).z⟩
        · exact Or.inr (bI_t hp)
        · exact mJ_zs.trans ((show Int64.ofNat 1 = (nI 1).toInt64 by decide).trans (congrArg Int32.toInt64 (bI_t hp).symm))
      · rw [in_291]
        simp (disch := first | omega | rfl) only [e_291_0, e_291_1, e_291_2, e_291_3, e_291_4, e_291_5, e_291_8, e_291_11, e_291_12, e_291_15, e_291_16, e_291_17, e_291_22, e_291_23, e_291_24, e_291_25, ge1, ule_t, true_or, or_true, nI_add, nI_mul, nI_sub, nI_clamp, nI_lt_t, nI_lt_f, nI_le_t, nI_le_f, nI_eq_t, nI_eq_f, vp_nI, tI, fI, not_true, not_false_iff, true_and, and_true, Classical.not_not, mS_uI, mS_uA, mS_uJ, mS_uR, mS_uX, mR_uI, mR_uA, mR_uJ, mR_uX, mX_uI, mX_uA, mX_uJ, mX_uR, mI_s, mI_n, mI_A, mI_An, mI_uJ, mI_uR, mI_uX, mJ_uI, mJ_uA, mJ_uR, mJ_uX, onR_s, kC_v, kC_n, kC_t, uad_p, ule_p, leT, and_self, w0, h09, c_113 hW hB hO ha hb, bI_fi hp]
        refine ⟨_, rfl, (RdF.refl.uJ).bs, ?_⟩
        rw [m_247 (μ := uJ μ 1309 0 _) hM hO ha hb]
        refine ⟨_, rfl, ?_, mI_s, fun _ => ?_, h0.rd (RdF.refl.uJ).z⟩
        · exact Or.inl (bI_f hp)
        · exact mJ_zs.trans ((show Int64.ofNat 0 = (nI 0).toInt64 by decide).trans (congrArg Int32.toInt64 (bI_f hp).symm))
    · rw [in_291]
      simp (disch := first | omega | rfl) only [e_291_0, e_291_1, e_291_2, e_291_3, e_291_4, e_291_5, e_291_8, e_291_11, e_291_12, e_291_15, e_291_16, e_291_17, e_291_22, e_291_23, e_291_24, e_291_25, ge1, ule_t, true_or, or_true, nI_add, nI_mul, nI_sub, nI_clamp, nI_lt_t, nI_lt_f, nI_le_t, nI_le_f, nI_eq_t, nI_eq_f, vp_nI, tI, fI, not_true, not_false_iff, true_and, and_true, Classical.not_not, mS_uI, mS_uA, mS_uJ, mS_uR, mS_uX, mR_uI, mR_uA, mR_uJ, mR_uX, mX_uI, mX_uA, mX_uJ, mX_uR, mI_s, mI_n, mI_A, mI_An, mI_uJ, mI_uR, mI_uX, mJ_uI, mJ_uA, mJ_uR, mJ_uX, onR_s, kC_v, kC_n, kC_t, uad_p, ule_p, leT, and_self, w0, h09, c_113f hW hB hO ha hy, TT_291, kC_t]
      intro zz hz
      refine ⟨_, rfl, (RdF.refl.uX hz).bs, ?_⟩
      rw [m_247f (μ := uX μ zz) hM hO ha hy]
      exact ⟨_, rfl, Or.inl rfl, mI_s, fun q => absurd q (by decide), h0.rd (RdF.refl.uX hz).z⟩
  · rw [in_291]
    simp (disch := first | omega | rfl) only [e_291_0, e_291_1, e_291_2, e_291_3, e_291_4, e_291_5, e_291_8, e_291_11, e_291_12, e_291_15, e_291_16, e_291_17, e_291_22, e_291_23, e_291_24, e_291_25, ge1, ule_t, true_or, or_true, nI_add, nI_mul, nI_sub, nI_clamp, nI_lt_t, nI_lt_f, nI_le_t, nI_le_f, nI_eq_t, nI_eq_f, vp_nI, tI, fI, not_true, not_false_iff, true_and, and_true, Classical.not_not, mS_uI, mS_uA, mS_uJ, mS_uR, mS_uX, mR_uI, mR_uA, mR_uJ, mR_uX, mX_uI, mX_uA, mX_uJ, mX_uR, mI_s, mI_n, mI_A, mI_An, mI_uJ, mI_uR, mI_uX, mJ_uI, mJ_uA, mJ_uR, mJ_uX, onR_s, kC_v, kC_n, kC_t, uad_p, ule_p, leT, and_self, w0, h09, c_113t hW hB hO hx, TT_291, kC_t]
    intro zz hz
    refine ⟨_, rfl, (RdF.refl.uX hz).bs, ?_⟩
    rw [m_247t (μ := uX μ zz) hM hO hx]
    exact ⟨_, rfl, Or.inl rfl, mI_s, fun q => absurd q (by decide), h0.rd (RdF.refl.uX hz).z⟩

theorem p_293 (h : Inv L xs μ) : TwT (d + 20) 293 [.int x, .int y, .ref 1309] 249 [.int x, .int y] L xs μ := by
  unfold TwT
  have h0 := h
  obtain ⟨s, c, s2, c2, u, f, n, v, ⟨hI, hA, h8⟩, hP, hR⟩ := h
  have hW := hI.1
  have hB := hI.2.2.1.1
  have hC := hI.2.2.2.1
  have hE := hI.2.2.2.2.1
  have hO := hA.1
  have hM := hR.1
  have w0 := hW.1
  have h09 := hR.2.2.2.2.1.2.2.2
  have m6 := hO.2.1
  have T40 := hO.2.2.2.1
  have F10 := hO.2.2.2.2.2.2.2.1
  rcases inN x (nM (mI μ 1302)) (by omega) with ⟨a, ha, rfl⟩ | hx
  · rcases inN y (nM (mI μ 1302)) (by omega) with ⟨b, hb, rfl⟩ | hy
    · have e2 : mI (dDown μ (s + 6 + 3 * a) (s + 6 + 3 * b)) 1302 = mI μ 1302 := by funext k; exact dD_n (by omega)
      have hO2 : okR (mI (dDown μ (s + 6 + 3 * a) (s + 6 + 3 * b)) 1302) := by rw [e2]; exact hO
      have ha2 : a < nM (mI (dDown μ (s + 6 + 3 * a) (s + 6 + 3 * b)) 1302) := by rw [e2]; exact ha
      have hb2 : b < nM (mI (dDown μ (s + 6 + 3 * a) (s + 6 + 3 * b)) 1302) := by rw [e2]; exact hb
      rw [in_293]
      simp (disch := first | omega | rfl) only [e_293_0, e_293_1, e_293_2, e_293_3, e_293_4, e_293_5, e_293_8, e_293_9, e_293_10, e_293_15, e_293_16, e_293_17, e_293_18, ge1, ule_t, true_or, or_true, nI_add, nI_mul, nI_sub, nI_clamp, nI_lt_t, nI_lt_f, nI_le_t, nI_le_f, nI_eq_t, nI_eq_f, vp_nI, tI, fI, not_true, not_false_iff, true_and, and_true, Classical.not_not, mS_uI, mS_uA, mS_uJ, mS_uR, mS_uX, mR_uI, mR_uA, mR_uJ, mR_uX, mX_uI, mX_uA, mX_uJ, mX_uR, mI_s, mI_n, mI_A, mI_An, mI_uJ, mI_uR, mI_uX, mJ_uI, mJ_uA, mJ_uR, mJ_uX, onR_s, kC_v, kC_n, kC_t, uad_p, ule_p, leT, and_self, w0, h09, mS_dD, mR_dD, c_115 hW hB hO ha hb]
      refine ⟨_, rfl, (dD_rd.uJ).bs, ?_⟩
      rw [m_249 (μ := uJ (dDown μ (s + 6 + 3 * a) (s + 6 + 3 * b)) 1309 0 _) hM hO2 ha2 hb2]
      refine ⟨_, rfl, (mDown_k (by omega) (by omega)).trans mI_s, fun _ => ?_, h0.rd (mDn_rd (dD_rd.uJ).z)⟩
      rw [mJ_dn]
      refine mJ_zs.trans ?_
      show _ = Int32.toInt64 (nI (fWr (rW (mI (dDown μ (s + 6 + 3 * a) (s + 6 + 3 * b)) 1302)) a b))
      rw [e2]
    · rw [in_293]
      simp (disch := first | omega | rfl) only [e_293_0, e_293_1, e_293_2, e_293_3, e_293_4, e_293_5, e_293_8, e_293_9, e_293_10, e_293_15, e_293_16, e_293_17, e_293_18, ge1, ule_t, true_or, or_true, nI_add, nI_mul, nI_sub, nI_clamp, nI_lt_t, nI_lt_f, nI_le_t, nI_le_f, nI_eq_t, nI_eq_f, vp_nI, tI, fI, not_true, not_false_iff, true_and, and_true, Classical.not_not, mS_uI, mS_uA, mS_uJ, mS_uR, mS_uX, mR_uI, mR_uA, mR_uJ, mR_uX, mX_uI, mX_uA, mX_uJ, mX_uR, mI_s, mI_n, mI_A, mI_An, mI_uJ, mI_uR, mI_uX, mJ_uI, mJ_uA, mJ_uR, mJ_uX, onR_s, kC_v, kC_n, kC_t, uad_p, ule_p, leT, and_self, w0, h09, c_115f hW hB hO ha hy, TT_293, kC_t]
      intro zz hz
      refine ⟨_, rfl, (RdF.refl.uX hz).bs, ?_⟩
      rw [m_249f (μ := uX μ zz) hM hO ha hy]
      exact ⟨_, rfl, mI_s, fun q => absurd q (by decide), h0.rd (RdF.refl.uX hz).z⟩
  · rw [in_293]
    simp (disch := first | omega | rfl) only [e_293_0, e_293_1, e_293_2, e_293_3, e_293_4, e_293_5, e_293_8, e_293_9, e_293_10, e_293_15, e_293_16, e_293_17, e_293_18, ge1, ule_t, true_or, or_true, nI_add, nI_mul, nI_sub, nI_clamp, nI_lt_t, nI_lt_f, nI_le_t, nI_le_f, nI_eq_t, nI_eq_f, vp_nI, tI, fI, not_true, not_false_iff, true_and, and_true, Classical.not_not, mS_uI, mS_uA, mS_uJ, mS_uR, mS_uX, mR_uI, mR_uA, mR_uJ, mR_uX, mX_uI, mX_uA, mX_uJ, mX_uR, mI_s, mI_n, mI_A, mI_An, mI_uJ, mI_uR, mI_uX, mJ_uI, mJ_uA, mJ_uR, mJ_uX, onR_s, kC_v, kC_n, kC_t, uad_p, ule_p, leT, and_self, w0, h09, c_115t hW hB hO hx, TT_293, kC_t]
    intro zz hz
    refine ⟨_, rfl, (RdF.refl.uX hz).bs, ?_⟩
    rw [m_249t (μ := uX μ zz) hM hO hx]
    exact ⟨_, rfl, mI_s, fun q => absurd q (by decide), h0.rd (RdF.refl.uX hz).z⟩

theorem p_294 (h : Inv L xs μ) : TwT (d + 20) 294 [.int x, .int y, .ref 1309] 250 [.int x, .int y] L xs μ := by
  unfold TwT
  have h0 := h
  obtain ⟨s, c, s2, c2, u, f, n, v, ⟨hI, hA, h8⟩, hP, hR⟩ := h
  have hW := hI.1
  have hB := hI.2.2.1.1
  have hC := hI.2.2.2.1
  have hE := hI.2.2.2.2.1
  have hO := hA.1
  have hM := hR.1
  have w0 := hW.1
  have h09 := hR.2.2.2.2.1.2.2.2
  have m6 := hO.2.1
  have T40 := hO.2.2.2.1
  have F10 := hO.2.2.2.2.2.2.2.1
  rcases inN x (nM (mI μ 1302)) (by omega) with ⟨a, ha, rfl⟩ | hx
  · rcases inN y (nM (mI μ 1302)) (by omega) with ⟨b, hb, rfl⟩ | hy
    · have e2 : mI (dDown μ (s + 6 + 3 * a) (s + 6 + 3 * b)) 1302 = mI μ 1302 := by funext k; exact dD_n (by omega)
      have hO2 : okR (mI (dDown μ (s + 6 + 3 * a) (s + 6 + 3 * b)) 1302) := by rw [e2]; exact hO
      have ha2 : a < nM (mI (dDown μ (s + 6 + 3 * a) (s + 6 + 3 * b)) 1302) := by rw [e2]; exact ha
      have hb2 : b < nM (mI (dDown μ (s + 6 + 3 * a) (s + 6 + 3 * b)) 1302) := by rw [e2]; exact hb
      rw [in_294]
      simp (disch := first | omega | rfl) only [e_294_0, e_294_1, e_294_2, e_294_3, e_294_4, e_294_5, e_294_8, e_294_9, e_294_10, e_294_15, e_294_16, e_294_17, e_294_18, ge1, ule_t, true_or, or_true, nI_add, nI_mul, nI_sub, nI_clamp, nI_lt_t, nI_lt_f, nI_le_t, nI_le_f, nI_eq_t, nI_eq_f, vp_nI, tI, fI, not_true, not_false_iff, true_and, and_true, Classical.not_not, mS_uI, mS_uA, mS_uJ, mS_uR, mS_uX, mR_uI, mR_uA, mR_uJ, mR_uX, mX_uI, mX_uA, mX_uJ, mX_uR, mI_s, mI_n, mI_A, mI_An, mI_uJ, mI_uR, mI_uX, mJ_uI, mJ_uA, mJ_uR, mJ_uX, onR_s, kC_v, kC_n, kC_t, uad_p, ule_p, leT, and_self, w0, h09, mS_dD, mR_dD, c_116 hW hB hO ha hb]
      refine ⟨_, rfl, (dD_rd.uJ).bs, ?_⟩
      rw [m_250 (μ := uJ (dDown μ (s + 6 + 3 * a) (s + 6 + 3 * b)) 1309 0 _) hM hO2 ha2 hb2]
      refine ⟨_, rfl, (mDown_k (by omega) (by omega)).trans mI_s, fun _ => ?_, h0.rd (mDn_rd (dD_rd.uJ).z)⟩
      rw [mJ_dn]
      refine mJ_zs.trans ?_
      show _ = Int32.toInt64 (nI (fCp (rW (mI (dDown μ (s + 6 + 3 * a) (s + 6 + 3 * b)) 1302)) a b))
      rw [e2]
    · rw [in_294]
      simp (disch := first | omega | rfl) only [e_294_0, e_294_1, e_294_2, e_294_3, e_294_4, e_294_5, e_294_8, e_294_9, e_294_10, e_294_15, e_294_16, e_294_17, e_294_18, ge1, ule_t, true_or, or_true, nI_add, nI_mul, nI_sub, nI_clamp, nI_lt_t, nI_lt_f, nI_le_t, nI_le_f, nI_eq_t, nI_eq_f, vp_nI, tI, fI, not_true, not_false_iff, true_and, and_true, Classical.not_not, mS_uI, mS_uA, mS_uJ, mS_uR, mS_uX, mR_uI, mR_uA, mR_uJ, mR_uX, mX_uI, mX_uA, mX_uJ, mX_uR, mI_s, mI_n, mI_A, mI_An, mI_uJ, mI_uR, mI_uX, mJ_uI, mJ_uA, mJ_uR, mJ_uX, onR_s, kC_v, kC_n, kC_t, uad_p, ule_p, leT, and_self, w0, h09, c_116f hW hB hO ha hy, TT_294, kC_t]
      intro zz hz
      refine ⟨_, rfl, (RdF.refl.uX hz).bs, ?_⟩
      rw [m_250f (μ := uX μ zz) hM hO ha hy]
      exact ⟨_, rfl, mI_s, fun q => absurd q (by decide), h0.rd (RdF.refl.uX hz).z⟩
  · rw [in_294]
    simp (disch := first | omega | rfl) only [e_294_0, e_294_1, e_294_2, e_294_3, e_294_4, e_294_5, e_294_8, e_294_9, e_294_10, e_294_15, e_294_16, e_294_17, e_294_18, ge1, ule_t, true_or, or_true, nI_add, nI_mul, nI_sub, nI_clamp, nI_lt_t, nI_lt_f, nI_le_t, nI_le_f, nI_eq_t, nI_eq_f, vp_nI, tI, fI, not_true, not_false_iff, true_and, and_true, Classical.not_not, mS_uI, mS_uA, mS_uJ, mS_uR, mS_uX, mR_uI, mR_uA, mR_uJ, mR_uX, mX_uI, mX_uA, mX_uJ, mX_uR, mI_s, mI_n, mI_A, mI_An, mI_uJ, mI_uR, mI_uX, mJ_uI, mJ_uA, mJ_uR, mJ_uX, onR_s, kC_v, kC_n, kC_t, uad_p, ule_p, leT, and_self, w0, h09, c_116t hW hB hO hx, TT_294, kC_t]
    intro zz hz
    refine ⟨_, rfl, (RdF.refl.uX hz).bs, ?_⟩
    rw [m_250t (μ := uX μ zz) hM hO hx]
    exact ⟨_, rfl, mI_s, fun q => absurd q (by decide), h0.rd (RdF.refl.uX hz).z⟩

theorem p_292 (h : Inv L xs μ) : TwT (d + 20) 292 [.int x, .int y, .ref 1309] 248 [.int x, .int y] L xs μ := by
  unfold TwT
  have h0 := h
  obtain ⟨s, c, s2, c2, u, f, n, v, ⟨hI, hA, h8⟩, hP, hR⟩ := h
  have hW := hI.1
  have hB := hI.2.2.1.1
  have hC := hI.2.2.2.1
  have hE := hI.2.2.2.2.1
  have hO := hA.1
  have hM := hR.1
  have w0 := hW.1
  have h09 := hR.2.2.2.2.1.2.2.2
  have m6 := hO.2.1
  have T40 := hO.2.2.2.1
  have F10 := hO.2.2.2.2.2.2.2.1
  rcases inN x (nM (mI μ 1302)) (by omega) with ⟨a, ha, rfl⟩ | hx
  · rcases inN y (nM (mI μ 1302)) (by omega) with ⟨b, hb, rfl⟩ | hy
    · have e2 : mI (dDown μ (s + 6 + 3 * a) (s + 6 + 3 * b)) 1302 = mI μ 1302 := by funext k; exact dD_n (by omega)
      have hO2 : okR (mI (dDown μ (s + 6 + 3 * a) (s + 6 + 3 * b)) 1302) := by rw [e2]; exact hO
      have ha2 : a < nM (mI (dDown μ (s + 6 + 3 * a) (s + 6 + 3 * b)) 1302) := by rw [e2]; exact ha
      have hb2 : b < nM (mI (dDown μ (s + 6 + 3 * a) (s + 6 + 3 * b)) 1302) := by rw [e2]; exact hb
      by_cases he : rW (mI μ 1302) a 1 = rW (mI μ 1302) b 1
      · rw [in_292]
        simp (disch := first | omega | rfl) only [e_292_0, e_292_1, e_292_2, e_292_3, e_292_4, e_292_5, e_292_8, e_292_9, e_292_10, e_292_15, e_292_16, e_292_17, e_292_18, ge1, ule_t, true_or, or_true, nI_add, nI_mul, nI_sub, nI_clamp, nI_lt_t, nI_lt_f, nI_le_t, nI_le_f, nI_eq_t, nI_eq_f, vp_nI, tI, fI, not_true, not_false_iff, true_and, and_true, Classical.not_not, mS_uI, mS_uA, mS_uJ, mS_uR, mS_uX, mR_uI, mR_uA, mR_uJ, mR_uX, mX_uI, mX_uA, mX_uJ, mX_uR, mI_s, mI_n, mI_A, mI_An, mI_uJ, mI_uR, mI_uX, mJ_uI, mJ_uA, mJ_uR, mJ_uX, onR_s, kC_v, kC_n, kC_t, uad_p, ule_p, leT, and_self, w0, h09, mS_dD, mR_dD, c_114 hW hB hO ha hb he]
        refine ⟨_, rfl, (dD_rd.uJ).bs, ?_⟩
        rw [m_248 (μ := uJ (dDown μ (s + 6 + 3 * a) (s + 6 + 3 * b)) 1309 0 _) hM hO2 ha2 hb2 (by show rW (mI (dDown μ (s + 6 + 3 * a) (s + 6 + 3 * b)) 1302) a 1 = rW (mI (dDown μ (s + 6 + 3 * a) (s + 6 + 3 * b)) 1302) b 1; rw [e2]; exact he)]
        refine ⟨_, rfl, (mDown_k (by omega) (by omega)).trans mI_s, fun _ => ?_, h0.rd (mDn_rd (dD_rd.uJ).z)⟩
        rw [mJ_dn]
        refine mJ_zs.trans ?_
        show _ = Int32.toInt64 (oN (fFst (fWr (rW (mI (dDown μ (s + 6 + 3 * a) (s + 6 + 3 * b)) 1302)) a b) 16 0))
        rw [e2]
      · rw [in_292]
        simp (disch := first | omega | rfl) only [e_292_0, e_292_1, e_292_2, e_292_3, e_292_4, e_292_5, e_292_8, e_292_9, e_292_10, e_292_15, e_292_16, e_292_17, e_292_18, ge1, ule_t, true_or, or_true, nI_add, nI_mul, nI_sub, nI_clamp, nI_lt_t, nI_lt_f, nI_le_t, nI_le_f, nI_eq_t, nI_eq_f, vp_nI, tI, fI, not_true, not_false_iff, true_and, and_true, Classical.not_not, mS_uI, mS_uA, mS_uJ, mS_uR, mS_uX, mR_uI, mR_uA, mR_uJ, mR_uX, mX_uI, mX_uA, mX_uJ, mX_uR, mI_s, mI_n, mI_A, mI_An, mI_uJ, mI_uR, mI_uX, mJ_uI, mJ_uA, mJ_uR, mJ_uX, onR_s, kC_v, kC_n, kC_t, uad_p, ule_p, leT, and_self, w0, h09, c_114n hW hB hO ha hb he]
        refine ⟨_, rfl, (RdF.refl.uJ).bs, ?_⟩
        rw [m_248n (μ := uJ (μ) 1309 0 _) hM hO ha hb he]
        exact ⟨_, rfl, mI_s, fun _ => mJ_zs, h0.rd ((RdF.refl.uJ).z)⟩
    · rw [in_292]
      simp (disch := first | omega | rfl) only [e_292_0, e_292_1, e_292_2, e_292_3, e_292_4, e_292_5, e_292_8, e_292_9, e_292_10, e_292_15, e_292_16, e_292_17, e_292_18, ge1, ule_t, true_or, or_true, nI_add, nI_mul, nI_sub, nI_clamp, nI_lt_t, nI_lt_f, nI_le_t, nI_le_f, nI_eq_t, nI_eq_f, vp_nI, tI, fI, not_true, not_false_iff, true_and, and_true, Classical.not_not, mS_uI, mS_uA, mS_uJ, mS_uR, mS_uX, mR_uI, mR_uA, mR_uJ, mR_uX, mX_uI, mX_uA, mX_uJ, mX_uR, mI_s, mI_n, mI_A, mI_An, mI_uJ, mI_uR, mI_uX, mJ_uI, mJ_uA, mJ_uR, mJ_uX, onR_s, kC_v, kC_n, kC_t, uad_p, ule_p, leT, and_self, w0, h09, c_114f hW hB hO ha hy, TT_292, kC_t]
      intro zz hz
      refine ⟨_, rfl, (RdF.refl.uX hz).bs, ?_⟩
      rw [m_248f (μ := uX μ zz) hM hO ha hy]
      exact ⟨_, rfl, mI_s, fun q => absurd q (by decide), h0.rd (RdF.refl.uX hz).z⟩
  · rw [in_292]
    simp (disch := first | omega | rfl) only [e_292_0, e_292_1, e_292_2, e_292_3, e_292_4, e_292_5, e_292_8, e_292_9, e_292_10, e_292_15, e_292_16, e_292_17, e_292_18, ge1, ule_t, true_or, or_true, nI_add, nI_mul, nI_sub, nI_clamp, nI_lt_t, nI_lt_f, nI_le_t, nI_le_f, nI_eq_t, nI_eq_f, vp_nI, tI, fI, not_true, not_false_iff, true_and, and_true, Classical.not_not, mS_uI, mS_uA, mS_uJ, mS_uR, mS_uX, mR_uI, mR_uA, mR_uJ, mR_uX, mX_uI, mX_uA, mX_uJ, mX_uR, mI_s, mI_n, mI_A, mI_An, mI_uJ, mI_uR, mI_uX, mJ_uI, mJ_uA, mJ_uR, mJ_uX, onR_s, kC_v, kC_n, kC_t, uad_p, ule_p, leT, and_self, w0, h09, c_114t hW hB hO hx, TT_292, kC_t]
    intro zz hz
    refine ⟨_, rfl, (RdF.refl.uX hz).bs, ?_⟩
    rw [m_248t (μ := uX μ zz) hM hO hx]
    exact ⟨_, rfl, mI_s, fun q => absurd q (by decide), h0.rd (RdF.refl.uX hz).z⟩

theorem p_295 (h : Inv L xs μ) : TwT (d + 20) 295 [.int x, .int y, .ref 1309] 251 [.int x, .int y] L xs μ := by
  unfold TwT
  have h0 := h
  obtain ⟨s, c, s2, c2, u, f, n, v, ⟨hI, hA, h8⟩, hP, hR⟩ := h
  have hW := hI.1
  have hB := hI.2.2.1.1
  have hC := hI.2.2.2.1
  have hE := hI.2.2.2.2.1
  have hO := hA.1
  have hM := hR.1
  have w0 := hW.1
  have h09 := hR.2.2.2.2.1.2.2.2
  have m6 := hO.2.1
  have T40 := hO.2.2.2.1
  have F10 := hO.2.2.2.2.2.2.2.1
  rcases inN x (nM (mI μ 1302)) (by omega) with ⟨m, hm, rfl⟩ | hx
  · by_cases hy : vHas (rW (mI μ 1302)) m y
    · rw [in_295]
      simp (disch := first | omega | rfl) only [e_295_0, e_295_1, e_295_2, e_295_3, e_295_4, e_295_5, e_295_8, e_295_9, e_295_10, e_295_15, e_295_16, e_295_17, e_295_18, ge1, ule_t, true_or, or_true, nI_add, nI_mul, nI_sub, nI_clamp, nI_lt_t, nI_lt_f, nI_le_t, nI_le_f, nI_eq_t, nI_eq_f, vp_nI, tI, fI, not_true, not_false_iff, true_and, and_true, Classical.not_not, mS_uI, mS_uA, mS_uJ, mS_uR, mS_uX, mR_uI, mR_uA, mR_uJ, mR_uX, mX_uI, mX_uA, mX_uJ, mX_uR, mI_s, mI_n, mI_A, mI_An, mI_uJ, mI_uR, mI_uX, mJ_uI, mJ_uA, mJ_uR, mJ_uX, onR_s, kC_v, kC_n, kC_t, uad_p, ule_p, leT, and_self, w0, h09, c_117 hW hB hO hm hy]
      refine ⟨_, rfl, (RdF.refl.uJ).bs, ?_⟩
      rw [m_251 (μ := uJ (μ) 1309 0 _) hM hO hm hy]
      exact ⟨_, rfl, mI_s, fun _ => mJ_zs, h0.rd ((RdF.refl.uJ).z)⟩
    · rw [in_295]
      simp (disch := first | omega | rfl) only [e_295_0, e_295_1, e_295_2, e_295_3, e_295_4, e_295_5, e_295_8, e_295_9, e_295_10, e_295_15, e_295_16, e_295_17, e_295_18, ge1, ule_t, true_or, or_true, nI_add, nI_mul, nI_sub, nI_clamp, nI_lt_t, nI_lt_f, nI_le_t, nI_le_f, nI_eq_t, nI_eq_f, vp_nI, tI, fI, not_true, not_false_iff, true_and, and_true, Classical.not_not, mS_uI, mS_uA, mS_uJ, mS_uR, mS_uX, mR_uI, mR_uA, mR_uJ, mR_uX, mX_uI, mX_uA, mX_uJ, mX_uR, mI_s, mI_n, mI_A, mI_An, mI_uJ, mI_uR, mI_uX, mJ_uI, mJ_uA, mJ_uR, mJ_uX, onR_s, kC_v, kC_n, kC_t, uad_p, ule_p, leT, and_self, w0, h09, c_117n hW hB hO hm hy]
      refine ⟨_, rfl, (RdF.refl.uJ).bs, ?_⟩
      rw [m_251n (μ := uJ (μ) 1309 0 _) hM hO hm hy]
      exact ⟨_, rfl, mI_s, fun _ => mJ_zs, h0.rd ((RdF.refl.uJ).z)⟩
  · rw [in_295]
    simp (disch := first | omega | rfl) only [e_295_0, e_295_1, e_295_2, e_295_3, e_295_4, e_295_5, e_295_8, e_295_9, e_295_10, e_295_15, e_295_16, e_295_17, e_295_18, ge1, ule_t, true_or, or_true, nI_add, nI_mul, nI_sub, nI_clamp, nI_lt_t, nI_lt_f, nI_le_t, nI_le_f, nI_eq_t, nI_eq_f, vp_nI, tI, fI, not_true, not_false_iff, true_and, and_true, Classical.not_not, mS_uI, mS_uA, mS_uJ, mS_uR, mS_uX, mR_uI, mR_uA, mR_uJ, mR_uX, mX_uI, mX_uA, mX_uJ, mX_uR, mI_s, mI_n, mI_A, mI_An, mI_uJ, mI_uR, mI_uX, mJ_uI, mJ_uA, mJ_uR, mJ_uX, onR_s, kC_v, kC_n, kC_t, uad_p, ule_p, leT, and_self, w0, h09, c_117t hW hB hO hx, TT_295, kC_t]
    intro zz hz
    refine ⟨_, rfl, (RdF.refl.uX hz).bs, ?_⟩
    rw [m_251t (μ := uX μ zz) hM hO hx]
    exact ⟨_, rfl, mI_s, fun q => absurd q (by decide), h0.rd (RdF.refl.uX hz).z⟩

theorem p_296 (h : Inv L xs μ) : TwB (d + 20) 296 [.int x, .ref 1309] 253 [.int x] L xs μ := by
  unfold TwB
  have h0 := h
  obtain ⟨s, c, s2, c2, u, f, n, v, ⟨hI, hA, h8⟩, hP, hR⟩ := h
  have hW := hI.1
  have hB := hI.2.2.1.1
  have hC := hI.2.2.2.1
  have hE := hI.2.2.2.2.1
  have hO := hA.1
  have hM := hR.1
  have w0 := hW.1
  have h09 := hR.2.2.2.2.1.2.2.2
  have m6 := hO.2.1
  have T40 := hO.2.2.2.1
  have F10 := hO.2.2.2.2.2.2.2.1
  rcases inN x (nM (mI μ 1302)) (by omega) with ⟨m, hm, rfl⟩ | hx
  · by_cases hp : fOff (rW (mI μ 1302)) (nM (mI μ 1302)) (nQ (mI μ 1302)) m = true
    · rw [in_296]
      simp (disch := first | omega | rfl) only [e_296_0, e_296_1, e_296_2, e_296_3, e_296_4, e_296_7, e_296_10, e_296_11, e_296_14, e_296_15, e_296_16, e_296_20, e_296_21, e_296_22, e_296_23, ge1, ule_t, true_or, or_true, nI_add, nI_mul, nI_sub, nI_clamp, nI_lt_t, nI_lt_f, nI_le_t, nI_le_f, nI_eq_t, nI_eq_f, vp_nI, tI, fI, not_true, not_false_iff, true_and, and_true, Classical.not_not, mS_uI, mS_uA, mS_uJ, mS_uR, mS_uX, mR_uI, mR_uA, mR_uJ, mR_uX, mX_uI, mX_uA, mX_uJ, mX_uR, mI_s, mI_n, mI_A, mI_An, mI_uJ, mI_uR, mI_uX, mJ_uI, mJ_uA, mJ_uR, mJ_uX, onR_s, kC_v, kC_n, kC_t, uad_p, ule_p, leT, and_self, w0, h09, c_119 hW hB hO hm, bI_ti hp]
      refine ⟨_, rfl, (RdF.refl.uJ).bs, ?_⟩
      rw [m_253 (μ := uJ μ 1309 0 _) hM hO hm]
      refine ⟨_, rfl, ?_, mI_s, fun _ => ?_, h0.rd (RdF.refl.uJ).z⟩
      · exact Or.inr (bI_t hp)
      · exact mJ_zs.trans ((show Int64.ofNat 1 = (nI 1).toInt64 by decide).trans (congrArg Int32.toInt64 (bI_t hp).symm))
    · rw [in_296]
      simp (disch := first | omega | rfl) only [e_296_0, e_296_1, e_296_2, e_296_3, e_296_4, e_296_7, e_296_10, e_296_11, e_296_14, e_296_15, e_296_16, e_296_20, e_296_21, e_296_22, e_296_23, ge1, ule_t, true_or, or_true, nI_add, nI_mul, nI_sub, nI_clamp, nI_lt_t, nI_lt_f, nI_le_t, nI_le_f, nI_eq_t, nI_eq_f, vp_nI, tI, fI, not_true, not_false_iff, true_and, and_true, Classical.not_not, mS_uI, mS_uA, mS_uJ, mS_uR, mS_uX, mR_uI, mR_uA, mR_uJ, mR_uX, mX_uI, mX_uA, mX_uJ, mX_uR, mI_s, mI_n, mI_A, mI_An, mI_uJ, mI_uR, mI_uX, mJ_uI, mJ_uA, mJ_uR, mJ_uX, onR_s, kC_v, kC_n, kC_t, uad_p, ule_p, leT, and_self, w0, h09, c_119 hW hB hO hm, bI_fi hp]
      refine ⟨_, rfl, (RdF.refl.uJ).bs, ?_⟩
      rw [m_253 (μ := uJ μ 1309 0 _) hM hO hm]
      refine ⟨_, rfl, ?_, mI_s, fun _ => ?_, h0.rd (RdF.refl.uJ).z⟩
      · exact Or.inl (bI_f hp)
      · exact mJ_zs.trans ((show Int64.ofNat 0 = (nI 0).toInt64 by decide).trans (congrArg Int32.toInt64 (bI_f hp).symm))
  · rw [in_296]
    simp (disch := first | omega | rfl) only [e_296_0, e_296_1, e_296_2, e_296_3, e_296_4, e_296_7, e_296_10, e_296_11, e_296_14, e_296_15, e_296_16, e_296_20, e_296_21, e_296_22, e_296_23, ge1, ule_t, true_or, or_true, nI_add, nI_mul, nI_sub, nI_clamp, nI_lt_t, nI_lt_f, nI_le_t, nI_le_f, nI_eq_t, nI_eq_f, vp_nI, tI, fI, not_true, not_false_iff, true_and, and_true, Classical.not_not, mS_uI, mS_uA, mS_uJ, mS_uR, mS_uX, mR_uI, mR_uA, mR_uJ, mR_uX, mX_uI, mX_uA, mX_uJ, mX_uR, mI_s, mI_n, mI_A, mI_An, mI_uJ, mI_uR, mI_uX, mJ_uI, mJ_uA, mJ_uR, mJ_uX, onR_s, kC_v, kC_n, kC_t, uad_p, ule_p, leT, and_self, w0, h09, c_119t hW hB hO hx, TT_296, kC_t]
    intro zz hz
    refine ⟨_, rfl, (RdF.refl.uX hz).bs, ?_⟩
    rw [m_253t (μ := uX μ zz) hM hO hx]
    exact ⟨_, rfl, Or.inl rfl, mI_s, fun q => absurd q (by decide), h0.rd (RdF.refl.uX hz).z⟩

theorem p_297 (h : Inv L xs μ) : TwT (d + 20) 297 [.int x, .ref 1309] 255 [.int x] L xs μ := by
  unfold TwT
  have h0 := h
  obtain ⟨s, c, s2, c2, u, f, n, v, ⟨hI, hA, h8⟩, hP, hR⟩ := h
  have hW := hI.1
  have hB := hI.2.2.1.1
  have hC := hI.2.2.2.1
  have hE := hI.2.2.2.2.1
  have hO := hA.1
  have hM := hR.1
  have w0 := hW.1
  have h09 := hR.2.2.2.2.1.2.2.2
  have m6 := hO.2.1
  have T40 := hO.2.2.2.1
  have F10 := hO.2.2.2.2.2.2.2.1
  rcases inN x (nM (mI μ 1302)) (by omega) with ⟨m, hm, rfl⟩ | hx
  · rw [in_297]
    simp (disch := first | omega | rfl) only [e_297_0, e_297_1, e_297_2, e_297_3, e_297_4, e_297_7, e_297_8, e_297_9, e_297_13, e_297_14, e_297_15, e_297_16, ge1, ule_t, true_or, or_true, nI_add, nI_mul, nI_sub, nI_clamp, nI_lt_t, nI_lt_f, nI_le_t, nI_le_f, nI_eq_t, nI_eq_f, vp_nI, tI, fI, not_true, not_false_iff, true_and, and_true, Classical.not_not, mS_uI, mS_uA, mS_uJ, mS_uR, mS_uX, mR_uI, mR_uA, mR_uJ, mR_uX, mX_uI, mX_uA, mX_uJ, mX_uR, mI_s, mI_n, mI_A, mI_An, mI_uJ, mI_uR, mI_uX, mJ_uI, mJ_uA, mJ_uR, mJ_uX, onR_s, kC_v, kC_n, kC_t, uad_p, ule_p, leT, and_self, w0, h09, c_121 hW hB hO hm]
    refine ⟨_, rfl, (RdF.refl.uJ).bs, ?_⟩
    rw [m_255 (μ := uJ (μ) 1309 0 _) hM hO hm]
    exact ⟨_, rfl, mI_s, fun _ => mJ_zs, h0.rd ((RdF.refl.uJ).z)⟩
  · rw [in_297]
    simp (disch := first | omega | rfl) only [e_297_0, e_297_1, e_297_2, e_297_3, e_297_4, e_297_7, e_297_8, e_297_9, e_297_13, e_297_14, e_297_15, e_297_16, ge1, ule_t, true_or, or_true, nI_add, nI_mul, nI_sub, nI_clamp, nI_lt_t, nI_lt_f, nI_le_t, nI_le_f, nI_eq_t, nI_eq_f, vp_nI, tI, fI, not_true, not_false_iff, true_and, and_true, Classical.not_not, mS_uI, mS_uA, mS_uJ, mS_uR, mS_uX, mR_uI, mR_uA, mR_uJ, mR_uX, mX_uI, mX_uA, mX_uJ, mX_uR, mI_s, mI_n, mI_A, mI_An, mI_uJ, mI_uR, mI_uX, mJ_uI, mJ_uA, mJ_uR, mJ_uX, onR_s, kC_v, kC_n, kC_t, uad_p, ule_p, leT, and_self, w0, h09, c_121t hW hB hO hx, TT_297, kC_t]
    intro zz hz
    refine ⟨_, rfl, (RdF.refl.uX hz).bs, ?_⟩
    rw [m_255t (μ := uX μ zz) hM hO hx]
    exact ⟨_, rfl, mI_s, fun q => absurd q (by decide), h0.rd (RdF.refl.uX hz).z⟩

theorem p_298 (h : Inv L xs μ) : TwT (d + 20) 298 [.int x, .ref 1309] 256 [.int x] L xs μ := by
  unfold TwT
  have h0 := h
  obtain ⟨s, c, s2, c2, u, f, n, v, ⟨hI, hA, h8⟩, hP, hR⟩ := h
  have hW := hI.1
  have hB := hI.2.2.1.1
  have hC := hI.2.2.2.1
  have hE := hI.2.2.2.2.1
  have hO := hA.1
  have hM := hR.1
  have w0 := hW.1
  have h09 := hR.2.2.2.2.1.2.2.2
  have m6 := hO.2.1
  have T40 := hO.2.2.2.1
  have F10 := hO.2.2.2.2.2.2.2.1
  rcases inN x (nM (mI μ 1302)) (by omega) with ⟨m, hm, rfl⟩ | hx
  · rw [in_298]
    simp (disch := first | omega | rfl) only [e_298_0, e_298_1, e_298_2, e_298_3, e_298_4, e_298_7, e_298_8, e_298_9, e_298_13, e_298_14, e_298_15, e_298_16, ge1, ule_t, true_or, or_true, nI_add, nI_mul, nI_sub, nI_clamp, nI_lt_t, nI_lt_f, nI_le_t, nI_le_f, nI_eq_t, nI_eq_f, vp_nI, tI, fI, not_true, not_false_iff, true_and, and_true, Classical.not_not, mS_uI, mS_uA, mS_uJ, mS_uR, mS_uX, mR_uI, mR_uA, mR_uJ, mR_uX, mX_uI, mX_uA, mX_uJ, mX_uR, mI_s, mI_n, mI_A, mI_An, mI_uJ, mI_uR, mI_uX, mJ_uI, mJ_uA, mJ_uR, mJ_uX, onR_s, kC_v, kC_n, kC_t, uad_p, ule_p, leT, and_self, w0, h09, c_122 hW hB hO hm]
    refine ⟨_, rfl, (RdF.refl.uJ).bs, ?_⟩
    rw [m_256 (μ := uJ (μ) 1309 0 _) hM hO hm]
    exact ⟨_, rfl, mI_s, fun _ => mJ_zs, h0.rd ((RdF.refl.uJ).z)⟩
  · rw [in_298]
    simp (disch := first | omega | rfl) only [e_298_0, e_298_1, e_298_2, e_298_3, e_298_4, e_298_7, e_298_8, e_298_9, e_298_13, e_298_14, e_298_15, e_298_16, ge1, ule_t, true_or, or_true, nI_add, nI_mul, nI_sub, nI_clamp, nI_lt_t, nI_lt_f, nI_le_t, nI_le_f, nI_eq_t, nI_eq_f, vp_nI, tI, fI, not_true, not_false_iff, true_and, and_true, Classical.not_not, mS_uI, mS_uA, mS_uJ, mS_uR, mS_uX, mR_uI, mR_uA, mR_uJ, mR_uX, mX_uI, mX_uA, mX_uJ, mX_uR, mI_s, mI_n, mI_A, mI_An, mI_uJ, mI_uR, mI_uX, mJ_uI, mJ_uA, mJ_uR, mJ_uX, onR_s, kC_v, kC_n, kC_t, uad_p, ule_p, leT, and_self, w0, h09, c_122t hW hB hO hx, TT_298, kC_t]
    intro zz hz
    refine ⟨_, rfl, (RdF.refl.uX hz).bs, ?_⟩
    rw [m_256t (μ := uX μ zz) hM hO hx]
    exact ⟨_, rfl, mI_s, fun q => absurd q (by decide), h0.rd (RdF.refl.uX hz).z⟩

theorem p_299 (h : Inv L xs μ) : TwT (d + 20) 299 [.int x, .ref 1309] 258 [.int x] L xs μ := by
  unfold TwT
  have h0 := h
  obtain ⟨s, c, s2, c2, u, f, n, v, ⟨hI, hA, h8⟩, hP, hR⟩ := h
  have hW := hI.1
  have hB := hI.2.2.1.1
  have hC := hI.2.2.2.1
  have hE := hI.2.2.2.2.1
  have hO := hA.1
  have hM := hR.1
  have w0 := hW.1
  have h09 := hR.2.2.2.2.1.2.2.2
  have m6 := hO.2.1
  have T40 := hO.2.2.2.1
  have F10 := hO.2.2.2.2.2.2.2.1
  rcases inN x (nM (mI μ 1302)) (by omega) with ⟨m, hm, rfl⟩ | hx
  · by_cases ha : vAct (rW (mI μ 1302)) m
    · rw [in_299]
      simp (disch := first | omega | rfl) only [e_299_0, e_299_1, e_299_2, e_299_3, e_299_4, e_299_7, e_299_8, e_299_9, e_299_13, e_299_14, e_299_15, e_299_16, ge1, ule_t, true_or, or_true, nI_add, nI_mul, nI_sub, nI_clamp, nI_lt_t, nI_lt_f, nI_le_t, nI_le_f, nI_eq_t, nI_eq_f, vp_nI, tI, fI, not_true, not_false_iff, true_and, and_true, Classical.not_not, mS_uI, mS_uA, mS_uJ, mS_uR, mS_uX, mR_uI, mR_uA, mR_uJ, mR_uX, mX_uI, mX_uA, mX_uJ, mX_uR, mI_s, mI_n, mI_A, mI_An, mI_uJ, mI_uR, mI_uX, mJ_uI, mJ_uA, mJ_uR, mJ_uX, onR_s, kC_v, kC_n, kC_t, uad_p, ule_p, leT, and_self, w0, h09, c_130 hW hB hO hm ha]
      refine ⟨_, rfl, (RdF.refl.uJ).bs, ?_⟩
      rw [m_258 (μ := uJ (μ) 1309 0 _) hM hO hm ha]
      exact ⟨_, rfl, mI_s, fun _ => mJ_zs, h0.rd ((RdF.refl.uJ).z)⟩
    · rw [in_299]
      simp (disch := first | omega | rfl) only [e_299_0, e_299_1, e_299_2, e_299_3, e_299_4, e_299_7, e_299_8, e_299_9, e_299_13, e_299_14, e_299_15, e_299_16, ge1, ule_t, true_or, or_true, nI_add, nI_mul, nI_sub, nI_clamp, nI_lt_t, nI_lt_f, nI_le_t, nI_le_f, nI_eq_t, nI_eq_f, vp_nI, tI, fI, not_true, not_false_iff, true_and, and_true, Classical.not_not, mS_uI, mS_uA, mS_uJ, mS_uR, mS_uX, mR_uI, mR_uA, mR_uJ, mR_uX, mX_uI, mX_uA, mX_uJ, mX_uR, mI_s, mI_n, mI_A, mI_An, mI_uJ, mI_uR, mI_uX, mJ_uI, mJ_uA, mJ_uR, mJ_uX, onR_s, kC_v, kC_n, kC_t, uad_p, ule_p, leT, and_self, w0, h09, c_130n hW hB hO hm ha]
      refine ⟨_, rfl, (RdF.refl.uJ).bs, ?_⟩
      rw [m_258n (μ := uJ (μ) 1309 0 _) hM hO hm ha]
      exact ⟨_, rfl, mI_s, fun _ => mJ_zs, h0.rd ((RdF.refl.uJ).z)⟩
  · rw [in_299]
    simp (disch := first | omega | rfl) only [e_299_0, e_299_1, e_299_2, e_299_3, e_299_4, e_299_7, e_299_8, e_299_9, e_299_13, e_299_14, e_299_15, e_299_16, ge1, ule_t, true_or, or_true, nI_add, nI_mul, nI_sub, nI_clamp, nI_lt_t, nI_lt_f, nI_le_t, nI_le_f, nI_eq_t, nI_eq_f, vp_nI, tI, fI, not_true, not_false_iff, true_and, and_true, Classical.not_not, mS_uI, mS_uA, mS_uJ, mS_uR, mS_uX, mR_uI, mR_uA, mR_uJ, mR_uX, mX_uI, mX_uA, mX_uJ, mX_uR, mI_s, mI_n, mI_A, mI_An, mI_uJ, mI_uR, mI_uX, mJ_uI, mJ_uA, mJ_uR, mJ_uX, onR_s, kC_v, kC_n, kC_t, uad_p, ule_p, leT, and_self, w0, h09, c_130t hW hB hO hx, TT_299, kC_t]
    intro zz hz
    refine ⟨_, rfl, (RdF.refl.uX hz).bs, ?_⟩
    rw [m_258t (μ := uX μ zz) hM hO hx]
    exact ⟨_, rfl, mI_s, fun q => absurd q (by decide), h0.rd (RdF.refl.uX hz).z⟩

theorem p_300 (h : Inv L xs μ) : TwT (d + 20) 300 [.int x, .int y, .ref 1309] 261 [.int x, .int y] L xs μ := by
  unfold TwT
  have h0 := h
  obtain ⟨s, c, s2, c2, u, f, n, v, ⟨hI, hA, h8⟩, hP, hR⟩ := h
  have hW := hI.1
  have hB := hI.2.2.1.1
  have hC := hI.2.2.2.1
  have hE := hI.2.2.2.2.1
  have hO := hA.1
  have hM := hR.1
  have w0 := hW.1
  have h09 := hR.2.2.2.2.1.2.2.2
  have m6 := hO.2.1
  have T40 := hO.2.2.2.1
  have F10 := hO.2.2.2.2.2.2.2.1
  have e2 : ∀ F, mI (uA μ 1067 F) 1302 = mI μ 1302 := fun F => mI_Anf (by omega)
  have e0 : ∀ F, mI (uA μ 1067 F) 1300 = mI μ 1300 := fun F => mI_Anf (by omega)
  have hO2 : ∀ F, okR (mI (uA μ 1067 F) 1302) := fun F => by rw [e2]; exact hO
  rcases inN y 16 (by omega) with ⟨i, hi, rfl⟩ | hy
  · rcases inN x (nT (mI μ 1302) + 1) (by omega) with ⟨t, ht, rfl⟩ | hx
    · have htt : t ≤ nT (mI (uA μ 1067 (fTru (mI μ 1302) (fil (mI μ (c + 1)) (mI μ 1067) 16) t)) 1302) := by rw [e2]; omega
      rw [in_300]
      simp (disch := first | omega | rfl) only [e_300_0, e_300_1, e_300_2, e_300_3, e_300_4, e_300_5, e_300_8, e_300_9, e_300_10, e_300_15, e_300_16, e_300_17, e_300_18, ge1, ule_t, true_or, or_true, nI_add, nI_mul, nI_sub, nI_clamp, nI_lt_t, nI_lt_f, nI_le_t, nI_le_f, nI_eq_t, nI_eq_f, vp_nI, tI, fI, not_true, not_false_iff, true_and, and_true, Classical.not_not, mS_uI, mS_uA, mS_uJ, mS_uR, mS_uX, mR_uI, mR_uA, mR_uJ, mR_uX, mX_uI, mX_uA, mX_uJ, mX_uR, mI_s, mI_n, mI_A, mI_An, mI_uJ, mI_uR, mI_uX, mJ_uI, mJ_uA, mJ_uR, mJ_uX, onR_s, kC_v, kC_n, kC_t, uad_p, ule_p, leT, and_self, w0, h09, c_134 hW hB hO hC hi (show t ≤ nT (mI μ 1302) by omega) hE]
      refine ⟨_, rfl, ((RdF.refl.uA (Or.inl ⟨by omega, by omega⟩)).uJ).bs, ?_⟩
      rw [m_261 (μ := uJ (uA μ 1067 (fTru (mI μ 1302) (fil (mI μ (c + 1)) (mI μ 1067) 16) t)) 1309 0 _) hM (hO2 (fTru (mI μ 1302) (fil (mI μ (c + 1)) (mI μ 1067) 16) t)) (htt) hi]
      refine ⟨_, rfl, (show mI (mTru _ t) 1298 0 = _ from mI_An (by omega)).trans mI_s, fun _ => ?_, h0.rd ((((RdF.refl.uA (Or.inl ⟨by omega, by omega⟩)).uJ).z).uA (Or.inr ⟨by omega, by omega⟩))⟩
      refine (mJ_zs (x := nI 0)).trans ?_
      show _ = Int32.toInt64 (fTru (mI (uA μ 1067 (fTru (mI μ 1302) (fil (mI μ (c + 1)) (mI μ 1067) 16) t)) 1302) (mI (uA μ 1067 (fTru (mI μ 1302) (fil (mI μ (c + 1)) (mI μ 1067) 16) t)) 1300) t i)
      rw [e2, e0]
    · rw [in_300]
      simp (disch := first | omega | rfl) only [e_300_0, e_300_1, e_300_2, e_300_3, e_300_4, e_300_5, e_300_8, e_300_9, e_300_10, e_300_15, e_300_16, e_300_17, e_300_18, ge1, ule_t, true_or, or_true, nI_add, nI_mul, nI_sub, nI_clamp, nI_lt_t, nI_lt_f, nI_le_t, nI_le_f, nI_eq_t, nI_eq_f, vp_nI, tI, fI, not_true, not_false_iff, true_and, and_true, Classical.not_not, mS_uI, mS_uA, mS_uJ, mS_uR, mS_uX, mR_uI, mR_uA, mR_uJ, mR_uX, mX_uI, mX_uA, mX_uJ, mX_uR, mI_s, mI_n, mI_A, mI_An, mI_uJ, mI_uR, mI_uX, mJ_uI, mJ_uA, mJ_uR, mJ_uX, onR_s, kC_v, kC_n, kC_t, uad_p, ule_p, leT, and_self, w0, h09, c_134n hW hB hO hi hx]
      refine ⟨_, rfl, (RdF.refl.uJ).bs, ?_⟩
      rw [m_261n (μ := uJ (μ) 1309 0 _) hM hO hi hx]
      exact ⟨_, rfl, mI_s, fun _ => mJ_zs, h0.rd ((RdF.refl.uJ).z)⟩
  · rw [in_300]
    simp (disch := first | omega | rfl) only [e_300_0, e_300_1, e_300_2, e_300_3, e_300_4, e_300_5, e_300_8, e_300_9, e_300_10, e_300_15, e_300_16, e_300_17, e_300_18, ge1, ule_t, true_or, or_true, nI_add, nI_mul, nI_sub, nI_clamp, nI_lt_t, nI_lt_f, nI_le_t, nI_le_f, nI_eq_t, nI_eq_f, vp_nI, tI, fI, not_true, not_false_iff, true_and, and_true, Classical.not_not, mS_uI, mS_uA, mS_uJ, mS_uR, mS_uX, mR_uI, mR_uA, mR_uJ, mR_uX, mX_uI, mX_uA, mX_uJ, mX_uR, mI_s, mI_n, mI_A, mI_An, mI_uJ, mI_uR, mI_uX, mJ_uI, mJ_uA, mJ_uR, mJ_uX, onR_s, kC_v, kC_n, kC_t, uad_p, ule_p, leT, and_self, w0, h09, c_134t hW hB hO hy, TT_300, kC_t]
    intro zz hz
    refine ⟨_, rfl, (RdF.refl.uX hz).bs, ?_⟩
    rw [m_261t (μ := uX μ zz) hM hO hy]
    exact ⟨_, rfl, mI_s, fun q => absurd q (by decide), h0.rd (RdF.refl.uX hz).z⟩

theorem p_301 (h : Inv L xs μ) : TwT (d + 20) 301 [.int x, .int y, .ref 1309] 263 [.int x, .int y] L xs μ := by
  unfold TwT
  have h0 := h
  obtain ⟨s, c, s2, c2, u, f, n, v, ⟨hI, hA, h8⟩, hP, hR⟩ := h
  have hW := hI.1
  have hB := hI.2.2.1.1
  have hC := hI.2.2.2.1
  have hE := hI.2.2.2.2.1
  have hO := hA.1
  have hM := hR.1
  have w0 := hW.1
  have h09 := hR.2.2.2.2.1.2.2.2
  have m6 := hO.2.1
  have T40 := hO.2.2.2.1
  have F10 := hO.2.2.2.2.2.2.2.1
  have e2 : ∀ F, mI (uA μ 1067 F) 1302 = mI μ 1302 := fun F => mI_Anf (by omega)
  have hO2 : ∀ F, okR (mI (uA μ 1067 F) 1302) := fun F => by rw [e2]; exact hO
  rcases inN x (nM (mI μ 1302)) (by omega) with ⟨m, hm, rfl⟩ | hx
  · rcases inN y 16 (by omega) with ⟨i, hi, rfl⟩ | hy
    · have hmm : m < nM (mI (uA μ 1067 (fSee (mI μ 1302) m (fil (mI μ (s + 6 + 3 * m)) (mI μ 1067) 16) (nE (rW (mI μ 1302)) m) (nT (mI μ 1302) - nE (rW (mI μ 1302)) m))) 1302) := by rw [e2]; exact hm
      rw [in_301]
      simp (disch := first | omega | rfl) only [e_301_0, e_301_1, e_301_2, e_301_3, e_301_4, e_301_5, e_301_8, e_301_9, e_301_10, e_301_15, e_301_16, e_301_17, e_301_18, ge1, ule_t, true_or, or_true, nI_add, nI_mul, nI_sub, nI_clamp, nI_lt_t, nI_lt_f, nI_le_t, nI_le_f, nI_eq_t, nI_eq_f, vp_nI, tI, fI, not_true, not_false_iff, true_and, and_true, Classical.not_not, mS_uI, mS_uA, mS_uJ, mS_uR, mS_uX, mR_uI, mR_uA, mR_uJ, mR_uX, mX_uI, mX_uA, mX_uJ, mX_uR, mI_s, mI_n, mI_A, mI_An, mI_uJ, mI_uR, mI_uX, mJ_uI, mJ_uA, mJ_uR, mJ_uX, onR_s, kC_v, kC_n, kC_t, uad_p, ule_p, leT, and_self, w0, h09, c_138 hW hB hO hC hm hi]
      refine ⟨_, rfl, ((RdF.refl.uA (Or.inl ⟨by omega, by omega⟩)).uJ).bs, ?_⟩
      rw [m_263 (μ := uJ (uA μ 1067 (fSee (mI μ 1302) m (fil (mI μ (s + 6 + 3 * m)) (mI μ 1067) 16) (nE (rW (mI μ 1302)) m) (nT (mI μ 1302) - nE (rW (mI μ 1302)) m))) 1309 0 _) hM (hO2 (fSee (mI μ 1302) m (fil (mI μ (s + 6 + 3 * m)) (mI μ 1067) 16) (nE (rW (mI μ 1302)) m) (nT (mI μ 1302) - nE (rW (mI μ 1302)) m))) (hmm) hi]
      refine ⟨_, rfl, (show mI (uA _ 1305 _) 1298 0 = _ from mI_An (by omega)).trans mI_s, fun _ => ?_, h0.rd ((((RdF.refl.uA (Or.inl ⟨by omega, by omega⟩)).uJ).z).uA (Or.inr ⟨by omega, by omega⟩))⟩
      refine (mJ_zs (x := nI 0)).trans ?_
      show _ = Int32.toInt64 (fSee (mI (uA μ 1067 (fSee (mI μ 1302) m (fil (mI μ (s + 6 + 3 * m)) (mI μ 1067) 16) (nE (rW (mI μ 1302)) m) (nT (mI μ 1302) - nE (rW (mI μ 1302)) m))) 1302) m (vC (mI (uA μ 1067 (fSee (mI μ 1302) m (fil (mI μ (s + 6 + 3 * m)) (mI μ 1067) 16) (nE (rW (mI μ 1302)) m) (nT (mI μ 1302) - nE (rW (mI μ 1302)) m))) 1302) m) (nE (rW (mI (uA μ 1067 (fSee (mI μ 1302) m (fil (mI μ (s + 6 + 3 * m)) (mI μ 1067) 16) (nE (rW (mI μ 1302)) m) (nT (mI μ 1302) - nE (rW (mI μ 1302)) m))) 1302)) m) (nT (mI (uA μ 1067 (fSee (mI μ 1302) m (fil (mI μ (s + 6 + 3 * m)) (mI μ 1067) 16) (nE (rW (mI μ 1302)) m) (nT (mI μ 1302) - nE (rW (mI μ 1302)) m))) 1302) - nE (rW (mI (uA μ 1067 (fSee (mI μ 1302) m (fil (mI μ (s + 6 + 3 * m)) (mI μ 1067) 16) (nE (rW (mI μ 1302)) m) (nT (mI μ 1302) - nE (rW (mI μ 1302)) m))) 1302)) m) i)
      rw [e2]
    · rw [in_301]
      simp (disch := first | omega | rfl) only [e_301_0, e_301_1, e_301_2, e_301_3, e_301_4, e_301_5, e_301_8, e_301_9, e_301_10, e_301_15, e_301_16, e_301_17, e_301_18, ge1, ule_t, true_or, or_true, nI_add, nI_mul, nI_sub, nI_clamp, nI_lt_t, nI_lt_f, nI_le_t, nI_le_f, nI_eq_t, nI_eq_f, vp_nI, tI, fI, not_true, not_false_iff, true_and, and_true, Classical.not_not, mS_uI, mS_uA, mS_uJ, mS_uR, mS_uX, mR_uI, mR_uA, mR_uJ, mR_uX, mX_uI, mX_uA, mX_uJ, mX_uR, mI_s, mI_n, mI_A, mI_An, mI_uJ, mI_uR, mI_uX, mJ_uI, mJ_uA, mJ_uR, mJ_uX, onR_s, kC_v, kC_n, kC_t, uad_p, ule_p, leT, and_self, w0, h09, c_138f hW hB hO hm hy, TT_301, kC_t]
      intro zz hz
      refine ⟨_, rfl, (RdF.refl.uX hz).bs, ?_⟩
      rw [m_263f (μ := uX μ zz) hM hO hm hy]
      exact ⟨_, rfl, mI_s, fun q => absurd q (by decide), h0.rd (RdF.refl.uX hz).z⟩
  · rw [in_301]
    simp (disch := first | omega | rfl) only [e_301_0, e_301_1, e_301_2, e_301_3, e_301_4, e_301_5, e_301_8, e_301_9, e_301_10, e_301_15, e_301_16, e_301_17, e_301_18, ge1, ule_t, true_or, or_true, nI_add, nI_mul, nI_sub, nI_clamp, nI_lt_t, nI_lt_f, nI_le_t, nI_le_f, nI_eq_t, nI_eq_f, vp_nI, tI, fI, not_true, not_false_iff, true_and, and_true, Classical.not_not, mS_uI, mS_uA, mS_uJ, mS_uR, mS_uX, mR_uI, mR_uA, mR_uJ, mR_uX, mX_uI, mX_uA, mX_uJ, mX_uR, mI_s, mI_n, mI_A, mI_An, mI_uJ, mI_uR, mI_uX, mJ_uI, mJ_uA, mJ_uR, mJ_uX, onR_s, kC_v, kC_n, kC_t, uad_p, ule_p, leT, and_self, w0, h09, c_138t hW hB hO hx, TT_301, kC_t]
    intro zz hz
    refine ⟨_, rfl, (RdF.refl.uX hz).bs, ?_⟩
    rw [m_263t (μ := uX μ zz) hM hO hx]
    exact ⟨_, rfl, mI_s, fun q => absurd q (by decide), h0.rd (RdF.refl.uX hz).z⟩

theorem p_302 (h : Inv L xs μ) : TwT (d + 20) 302 [.int x, .int y, .ref 1309] 265 [.int x, .int y] L xs μ := by
  unfold TwT
  have h0 := h
  obtain ⟨s, c, s2, c2, u, f, n, v, ⟨hI, hA, h8⟩, hP, hR⟩ := h
  have hW := hI.1
  have hB := hI.2.2.1.1
  have hC := hI.2.2.2.1
  have hE := hI.2.2.2.2.1
  have hO := hA.1
  have hM := hR.1
  have w0 := hW.1
  have h09 := hR.2.2.2.2.1.2.2.2
  have m6 := hO.2.1
  have T40 := hO.2.2.2.1
  have F10 := hO.2.2.2.2.2.2.2.1
  rcases inN x (nM (mI μ 1302)) (by omega) with ⟨m, hm, rfl⟩ | hx
  · rcases inN y 16 (by omega) with ⟨i, hi, rfl⟩ | hy
    · rw [in_302]
      simp (disch := first | omega | rfl) only [e_302_0, e_302_1, e_302_2, e_302_3, e_302_4, e_302_5, e_302_8, e_302_9, e_302_10, e_302_15, e_302_16, e_302_17, e_302_18, ge1, ule_t, true_or, or_true, nI_add, nI_mul, nI_sub, nI_clamp, nI_lt_t, nI_lt_f, nI_le_t, nI_le_f, nI_eq_t, nI_eq_f, vp_nI, tI, fI, not_true, not_false_iff, true_and, and_true, Classical.not_not, mS_uI, mS_uA, mS_uJ, mS_uR, mS_uX, mR_uI, mR_uA, mR_uJ, mR_uX, mX_uI, mX_uA, mX_uJ, mX_uR, mI_s, mI_n, mI_A, mI_An, mI_uJ, mI_uR, mI_uX, mJ_uI, mJ_uA, mJ_uR, mJ_uX, onR_s, kC_v, kC_n, kC_t, uad_p, ule_p, leT, and_self, w0, h09, c_139 hW hB hO hC hm hi]
      refine ⟨_, rfl, (RdF.refl.uJ).bs, ?_⟩
      rw [m_265 (μ := uJ (μ) 1309 0 _) hM hO hm hi]
      exact ⟨_, rfl, mI_s, fun _ => mJ_zs, h0.rd ((RdF.refl.uJ).z)⟩
    · rw [in_302]
      simp (disch := first | omega | rfl) only [e_302_0, e_302_1, e_302_2, e_302_3, e_302_4, e_302_5, e_302_8, e_302_9, e_302_10, e_302_15, e_302_16, e_302_17, e_302_18, ge1, ule_t, true_or, or_true, nI_add, nI_mul, nI_sub, nI_clamp, nI_lt_t, nI_lt_f, nI_le_t, nI_le_f, nI_eq_t, nI_eq_f, vp_nI, tI, fI, not_true, not_false_iff, true_and, and_true, Classical.not_not, mS_uI, mS_uA, mS_uJ, mS_uR, mS_uX, mR_uI, mR_uA, mR_uJ, mR_uX, mX_uI, mX_uA, mX_uJ, mX_uR, mI_s, mI_n, mI_A, mI_An, mI_uJ, mI_uR, mI_uX, mJ_uI, mJ_uA, mJ_uR, mJ_uX, onR_s, kC_v, kC_n, kC_t, uad_p, ule_p, leT, and_self, w0, h09, c_139f hW hB hO hm hy, TT_302, kC_t]
      intro zz hz
      refine ⟨_, rfl, (RdF.refl.uX hz).bs, ?_⟩
      rw [m_265f (μ := uX μ zz) hM hO hm hy]
      exact ⟨_, rfl, mI_s, fun q => absurd q (by decide), h0.rd (RdF.refl.uX hz).z⟩
  · rw [in_302]
    simp (disch := first | omega | rfl) only [e_302_0, e_302_1, e_302_2, e_302_3, e_302_4, e_302_5, e_302_8, e_302_9, e_302_10, e_302_15, e_302_16, e_302_17, e_302_18, ge1, ule_t, true_or, or_true, nI_add, nI_mul, nI_sub, nI_clamp, nI_lt_t, nI_lt_f, nI_le_t, nI_le_f, nI_eq_t, nI_eq_f, vp_nI, tI, fI, not_true, not_false_iff, true_and, and_true, Classical.not_not, mS_uI, mS_uA, mS_uJ, mS_uR, mS_uX, mR_uI, mR_uA, mR_uJ, mR_uX, mX_uI, mX_uA, mX_uJ, mX_uR, mI_s, mI_n, mI_A, mI_An, mI_uJ, mI_uR, mI_uX, mJ_uI, mJ_uA, mJ_uR, mJ_uX, onR_s, kC_v, kC_n, kC_t, uad_p, ule_p, leT, and_self, w0, h09, c_139t hW hB hO hx, TT_302, kC_t]
    intro zz hz
    refine ⟨_, rfl, (RdF.refl.uX hz).bs, ?_⟩
    rw [m_265t (μ := uX μ zz) hM hO hx]
    exact ⟨_, rfl, mI_s, fun q => absurd q (by decide), h0.rd (RdF.refl.uX hz).z⟩

end Pairs
