/-! what holds between two calls of the law -/
def LdV (μ : Mu) (f : Nat → Nat) (n v s2 c2 : Nat) : Prop := LdS μ f n s2 c2 ∧ mI μ 1030 9 = nI (cvl v) ∧ v ≤ 1000009 ∧ mI μ 1298 18 = nI v ∧ mI μ 1000 6 = nI n ∧ mI μ 1298 2 = nI n ∧ ∀ k, k < n → mI μ 1299 k = nI (f k)
def Bas (L : Nat) (xs : Nat → Int32) (μ : Mu) : Prop := DgS μ ∧ mS μ 300 = (20, L) ∧ (∀ k, mI μ 300 k = xs k) ∧ mS μ 1309 = (22, 1)
def Tls (tn : Nat → Int32) : Prop := (∀ j, 22 ≤ j → tn j = 0) ∧ ∀ m, m < 6 → ∃ w, w < 1073741824 ∧ tn (16 + m) = nI w
def Pai (s c s2 c2 : Nat) : Prop := (s = 1001 ∧ s2 = 1032 ∨ s = 1032 ∧ s2 = 1001) ∧ (c = 1024 ∧ c2 = 1055 ∨ c = 1055 ∧ c2 = 1024)
def Core (s c u : Nat) (μ : Mu) : Prop := CI μ s c (mI μ 1302) u (prM μ) (mI μ 1300) ∧ AI (mI μ 1302) u (prM μ) (mI μ 1300) ∧ mI μ 1298 8 = nI u
/-- what the rest looks at stays -/
def KpF (μ μ' : Mu) : Prop := mX μ ≤ mX μ' ∧ mS μ' = mS μ ∧ mR μ' = mR μ ∧ (∀ a, a < 1000 ∨ a = 1030 ∨ a = 1031 ∨ a = 1060 ∨ a = 1061 ∨ a = 1299 ∨ a = 1300 ∨ 1308 ≤ a → ∀ k, mI μ' a k = mI μ a k) ∧ mI μ' 1000 6 = mI μ 1000 6 ∧ mI μ' 1000 7 = mI μ 1000 7 ∧ mI μ' 1298 2 = mI μ 1298 2 ∧ mI μ' 1298 18 = mI μ 1298 18 ∧ mI μ' 1298 21 = mI μ 1298 21 ∧ mI μ' 1298 26 = mI μ 1298 26
section InvS
variable {μ μ' μ1 μ2 : Mu} {L : Nat} {xs : Nat → Int32} {s c s2 c2 u u' n v a k : Nat} {f : Nat → Nat} {r r' tn : Nat → Int32} {pr pr' : Nat → Nat → Int32} {x : Int32} {y : Int64} {F : Nat → Int32} {S : WP}
theorem KpF.refl : KpF μ μ := ⟨Nat.le_refl _, rfl, rfl, fun _ _ _ => rfl, rfl, rfl, rfl, rfl, rfl, rfl⟩
theorem KpF.trans (h : KpF μ μ1) (h' : KpF μ1 μ2) : KpF μ μ2 := by
  obtain ⟨a1, a2, a3, a4, a5, a6, a7, a8, a9, a10⟩ := h
  obtain ⟨b1, b2, b3, b4, b5, b6, b7, b8, b9, b10⟩ := h'
  exact ⟨Nat.le_trans a1 b1, b2.trans a2, b3.trans a3, fun a ha k => (b4 a ha k).trans (a4 a ha k), b5.trans a5, b6.trans a6, b7.trans a7, b8.trans a8, b9.trans a9, b10.trans a10⟩
theorem StS.gen (hS : mS μ' = mS μ) (hR : mR μ' = mR μ) (h : StS μ s) : StS μ' s := by unfold StS at *; rw [hS, hR]; exact h
theorem ScS.gen (hS : mS μ' = mS μ) (hR : mR μ' = mR μ) (h : ScS μ s) : ScS μ' s := by unfold ScS at *; rw [hS, hR]; exact h
theorem ShD.gen (hS : mS μ' = mS μ) (hR : mR μ' = mR μ) (h : ShD μ) : ShD μ' := by unfold ShD at *; rw [hS, hR]; exact h
theorem ShR.gen (hS : mS μ' = mS μ) (hR : mR μ' = mR μ) (h : ShR μ s c) : ShR μ' s c := by
  obtain ⟨w0, w1, w2, w3, w4, w5, w6, w7, w8, w9, w10, w11, w12, w13, w14, w15⟩ := h
  unfold ShR
  rw [hS, hR]
  exact ⟨w0, w1, w2, w3, w4, w5, w6, w7, w8, w9, w10, w11.gen hS hR, w12.gen hS hR, w13.gen hS hR, w14, w15⟩
theorem CI.gen (hS : mS μ' = mS μ) (hR : mR μ' = mR μ) (e : ∀ a, a < 1062 ∨ 1068 ≤ a → a < 1298 → ∀ k, mI μ' a k = mI μ a k) (hI : CI μ s c r u pr tn) (h6 : nM r ≤ 6) (hu : u ≤ 10) (hP : ∀ j, j < u → nM (pr j) ≤ 6) : CI μ' s c r u pr tn := by
  obtain ⟨hW, hRS, hN, hC, hE, k4, l, hl, k3, hRg⟩ := hI
  have w14 := hW.2.2.2.2.2.2.2.2.2.2.2.2.2.2.1
  have w15 := hW.2.2.2.2.2.2.2.2.2.2.2.2.2.2.2
  refine ⟨hW.gen hS hR, fun i hi => (hRS i hi).gen hS hR, hN.fr h6 (fun a h1 h2 k => e a (by omega) (by omega) k), hC.mu (fun a h1 h2 k => e a (by omega) (by omega) k), fun k hk => (e _ (by omega) (by omega) k).trans (hE k hk), (e _ (by omega) (by omega) 4).trans k4, l, hl, (e _ (by omega) (by omega) 3).trans k3, fun i hi => ?_⟩
  obtain ⟨g1, g2⟩ := hRg i hi
  have hm : (l + 10 - i) % 10 < 10 := Nat.mod_lt _ (by omega)
  exact ⟨g1.fr (hP _ (by omega)) (fun a h1 h2 k => e a (by omega) (by omega) k), g2.mu (fun a h1 h2 k => e a (by omega) (by omega) k)⟩
theorem CI.prr (hI : CI μ s c r u pr tn) (e : ∀ j, j < u → pr' j = pr j) : CI μ s c r u pr' tn := by
  obtain ⟨hW, hRS, hN, hC, hE, k4, l, hl, k3, hRg⟩ := hI
  exact ⟨hW, hRS, hN, hC, hE, k4, l, hl, k3, fun i hi => by rw [e _ (by omega)]; exact hRg i hi⟩
theorem AI.prr (hA : AI r u pr tn) (e : ∀ j, j < u → pr' j = pr j) : AI r u pr' tn := by
  obtain ⟨a1, a2, a3, a4, ⟨n0, a5, a6, a7⟩, a8⟩ := hA
  refine ⟨a1, a2, a3, fun j hj => ?_, ⟨n0, a5, a6, fun j hj => by rw [e j hj]; exact a7 j hj⟩, a8⟩
  obtain ⟨b1, b2, b3, b4⟩ := a4 j hj
  rw [e j hj]
  exact ⟨b1, b2, b3, fun i hi => by rw [e i (by omega)]; exact b4 i hi⟩
theorem TxC.gen (hS : mS μ' = mS μ) (hR : mR μ' = mR μ) (e : ∀ a, a < 1000 → ∀ k, mI μ' a k = mI μ a k) (h : TxC μ) : TxC μ' := fun i hi h2 => by
  obtain ⟨⟨t1, t2, t3, t4⟩, h3⟩ := h i hi h2
  exact ⟨⟨by rw [hS]; exact t1, by rw [hR]; exact t2, by rw [e _ (by omega)]; exact t3, by rw [hS]; exact t4⟩, fun j hj => by rw [e _ (by omega)]; exact h3 j hj⟩
theorem LdS.gen (hS : mS μ' = mS μ) (hR : mR μ' = mR μ) (e : ∀ a, a < 1000 ∨ a = 1031 → ∀ k, mI μ' a k = mI μ a k) (h : LdS μ f n s2 c2) : LdS μ' f n s2 c2 := by
  obtain ⟨⟨g1, g2, g3, g4, g5, g6⟩, t1, t2, t3, t4, t5, t6⟩ := h
  exact ⟨⟨by rw [hS]; exact g1, by rw [hR]; exact g2, by rw [hS]; exact g3, fun k hk => by rw [e _ (Or.inr rfl)]; exact g4 k hk, g5, g6⟩, t1.gen hS hR (fun a ha => e a (Or.inl ha)), by rw [hR]; exact t2, by rw [hR]; exact t3, t4.gen hS hR, t5.gen hS hR, t6⟩
theorem Bas.gen (hS : mS μ' = mS μ) (e : ∀ a, a < 1000 → ∀ k, mI μ' a k = mI μ a k) (h : Bas L xs μ) : Bas L xs μ' := by
  obtain ⟨⟨d1, d2, d3, d4⟩, h2, h3, h4⟩ := h
  exact ⟨⟨by rw [hS]; exact d1, by rw [hS]; exact d2, fun k hk => by rw [e _ (by omega)]; exact d3 k hk, fun k hk => by rw [e _ (by omega)]; exact d4 k hk⟩, by rw [hS]; exact h2, fun k => by rw [e _ (by omega)]; exact h3 k, by rw [hS]; exact h4⟩
/-- readers -/
def RdF (μ μ' : Mu) : Prop := mX μ ≤ mX μ' ∧ mS μ' = mS μ ∧ mR μ' = mR μ ∧ (∀ a, (a < 1062 ∨ 1068 ≤ a) → a ≠ 1298 → (a < 1305 ∨ 1308 ≤ a) → ∀ k, mI μ' a k = mI μ a k) ∧ ∀ k, k ≠ 0 → k ≠ 12 → k ≠ 13 → mI μ' 1298 k = mI μ 1298 k
theorem RdF.refl : RdF μ μ := ⟨Nat.le_refl _, rfl, rfl, fun _ _ _ _ _ => rfl, fun _ _ _ _ => rfl⟩
theorem RdF.trans (h : RdF μ μ1) (h' : RdF μ1 μ2) : RdF μ μ2 := ⟨Nat.le_trans h.1 h'.1, h'.2.1.trans h.2.1, h'.2.2.1.trans h.2.2.1, fun a h1 h2 h3 k => (h'.2.2.2.1 a h1 h2 h3 k).trans (h.2.2.2.1 a h1 h2 h3 k), fun k h1 h2 h3 => (h'.2.2.2.2 k h1 h2 h3).trans (h.2.2.2.2 k h1 h2 h3)⟩
theorem RdF.uA (h : RdF μ μ1) (ha : (1062 ≤ a ∧ a < 1068) ∨ (1305 ≤ a ∧ a < 1308)) : RdF μ (uA μ1 a F) := ⟨h.1, h.2.1, h.2.2.1, fun b h1 h2 h3 k => by rw [mI_An (by omega)]; exact h.2.2.2.1 b h1 h2 h3 k, fun k h1 h2 h3 => by rw [mI_An (by omega)]; exact h.2.2.2.2 k h1 h2 h3⟩
theorem RdF.z (h : RdF μ μ1) : RdF μ (uI μ1 1298 0 x) := ⟨h.1, h.2.1, h.2.2.1, fun b h1 h2 h3 k => by rw [mI_n (by omega)]; exact h.2.2.2.1 b h1 h2 h3 k, fun k h1 h2 h3 => by rw [mI_n (by omega)]; exact h.2.2.2.2 k h1 h2 h3⟩
theorem RdF.uJ (h : RdF μ μ1) : RdF μ (uJ μ1 a k y) := h
theorem RdF.uX (h : RdF μ μ1) {z : Nat} (hz : mX μ1 ≤ z) : RdF μ (uX μ1 z) := ⟨Nat.le_trans h.1 hz, h.2⟩
theorem RdF.fr {P : Nat → Prop} (h : RdF μ μ1) (hf : Fr P μ1 μ2) (hP : ∀ a, P a → (1062 ≤ a ∧ a < 1068) ∨ (1305 ≤ a ∧ a < 1308) ∨ a = 1298) (h98 : ∀ k, k ≠ 0 → k ≠ 12 → k ≠ 13 → mI μ2 1298 k = mI μ1 1298 k) : RdF μ μ2 := ⟨by rw [hf.nx]; exact h.1, hf.sh.trans h.2.1, hf.rf.trans h.2.2.1, fun b h1 h2 h3 k => by rw [hf.2.2.2 b (fun z => by have := hP b z; omega)]; exact h.2.2.2.1 b h1 h2 h3 k, fun k h1 h2 h3 => (h98 k h1 h2 h3).trans (h.2.2.2.2 k h1 h2 h3)⟩
theorem RdF.kp (h : RdF μ μ1) : KpF μ μ1 := by
  obtain ⟨h1, h2, h3, h4, h5⟩ := h
  exact ⟨h1, h2, h3, fun a ha k => h4 a (by omega) (by omega) (by omega) k, h4 1000 (by omega) (by omega) (by omega) 6, h4 1000 (by omega) (by omega) (by omega) 7, h5 2 (by omega) (by omega) (by omega), h5 18 (by omega) (by omega) (by omega), h5 21 (by omega) (by omega) (by omega), h5 26 (by omega) (by omega) (by omega)⟩
theorem FrC.kp (hf : FrC s c μ μ1) (h9 : (s = 1001 ∨ s = 1032) ∧ (c = 1024 ∨ c = 1055)) : KpF μ μ1 := by
  obtain ⟨hf, hk⟩ := hf
  exact ⟨by rw [hf.nx]; exact Nat.le_refl _, hf.sh, hf.rf, fun a ha k => hf.2.2.2 a (by unfold PC; omega) k, hk 6 (by omega) (by omega), hk 7 (by omega) (by omega), hf.2.2.2 1298 (by unfold PC; omega) 2, hf.2.2.2 1298 (by unfold PC; omega) 18, hf.2.2.2 1298 (by unfold PC; omega) 21, hf.2.2.2 1298 (by unfold PC; omega) 26⟩
theorem FrM.kp (hf : FrM μ μ1) : KpF μ μ1 := by
  obtain ⟨hf, hk⟩ := hf
  exact ⟨by rw [hf.nx]; exact Nat.le_refl _, hf.sh, hf.rf, fun a ha k => hf.2.2.2 a (by unfold PM; omega) k, hf.2.2.2 1000 (by unfold PM; omega) 6, hf.2.2.2 1000 (by unfold PM; omega) 7, hk 2 (by omega) (by omega) (by omega) (by omega), hk 18 (by omega) (by omega) (by omega) (by omega), hk 21 (by omega) (by omega) (by omega) (by omega), hk 26 (by omega) (by omega) (by omega) (by omega)⟩
end InvS


