/-! reading: the reference's statements -/
def PoM (L : Nat) (g : Nat → Int32) (ep : Int32) (sm : Nat) (μ : Mu) (Q : Po) (z : RE) : Prop := match z with
  | .inl z => ∀ r' tn' k ts hs, RN r' → (∀ j, 22 ≤ j → tn' j = 0) → Q (some none) (uA (uA (uA μ 1302 r') 1300 tn') 1298 (mdT g L (k, z.2) z.1 (nI z.2.1) sm ts hs))
  | .inr z => Q (some none) (uA (uA (uA μ 1302 z.1) 1300 z.2.1) 1298 (mdT g L z.2.2.2.2 (nI 0) ep sm z.2.2.2.1 z.2.2.1))
section HeapM
variable {μ : Mu} {k : Nat} {F X T : Nat → Int32} {v : Int32}
theorem uA_28 : uA (uA μ 1298 F) 1302 X = uA (uA μ 1302 X) 1298 F := uAuA (by omega)
theorem uA_20 : uA (uA μ 1298 F) 1300 T = uA (uA μ 1300 T) 1298 F := uAuA (by omega)
theorem uA_02 : uA (uA μ 1300 T) 1302 X = uA (uA μ 1302 X) 1300 T := uAuA (by omega)
theorem uI_20 : uI (uA μ 1298 F) 1300 k v = uA (uA μ 1300 (upd (mI μ 1300) k v)) 1298 F := by rw [uIuA (by omega), uI_A]
theorem uI_28 : uI (uA μ 1298 F) 1302 k v = uA (uA μ 1302 (upd (mI μ 1302) k v)) 1298 F := by rw [uIuA (by omega), uI_A]
theorem keepT : uA (uA μ 1302 X) 1300 (mI μ 1300) = uA μ 1302 X := by
  have h : mI (uA μ 1302 X) 1300 = mI μ 1300 := mI_Anf (by omega)
  rw [← h, uA_self]
theorem keepR : uA (uA μ 1302 (mI μ 1302)) 1300 T = uA μ 1300 T := by rw [uA_self]
theorem keepRT : uA (uA μ 1302 (mI μ 1302)) 1300 (mI μ 1300) = μ := by rw [uA_self, uA_self]
end HeapM
section RstM
variable {d : Nat} {Q : Po} {μ : Mu} {f : Nat → Nat} {g F T : Nat → Int32} {L hs gs sm m n σ i k p w : Nat} {ep x : Int32} {t : TK}
theorem PoM.err {er : Int32} {t : TK} (hA : AL (mI μ 1302) (mI μ 1300)) (hq : PoM L g ep sm μ Q (.inl (er, t.2))) (ts hs : Nat) : Q (some none) (uA μ 1298 (mdT g L t er (nI t.2.1) sm ts hs)) := by
  have := hq (mI μ 1302) (mI μ 1300) t.1 ts hs hA.2.1.1 hA.2.2.2.2.2.1
  rw [keepRT] at this
  exact this
end RstM


