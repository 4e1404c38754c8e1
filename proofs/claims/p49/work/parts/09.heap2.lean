/-! more rows of the heap: new things, references, texts, copies -/
set_option maxRecDepth 100000 in
theorem cwO : Cond.code Lib.objectInit ⟨#[0xb1]⟩ 1 none ∈ ALLG := by
  have h : [Cond.code Lib.objectInit ⟨#[0xb1]⟩ 1 none] = [83].filterMap (fun i => lwE[i]?) := rfl
  refine List.mem_filter.mpr ⟨?_, rfl⟩
  have h1 : Cond.code Lib.objectInit ⟨#[0xb1]⟩ 1 none ∈ [83].filterMap (fun i => lwE[i]?) := by rw [← h]; exact List.mem_cons_self
  obtain ⟨i, -, hi⟩ := List.mem_filterMap.mp h1
  exact List.mem_of_getElem? hi
set_option maxRecDepth 100000 in
theorem cwMax : Cond.code Lib.Math.max.name Lib.Math.max.code 2 (some .int) ∈ ALLG := by
  have h : [Cond.code Lib.Math.max.name Lib.Math.max.code 2 (some .int)] = [403].filterMap (fun i => lwE[i]?) := rfl
  refine List.mem_filter.mpr ⟨?_, rfl⟩
  have h1 : Cond.code Lib.Math.max.name Lib.Math.max.code 2 (some .int) ∈ [403].filterMap (fun i => lwE[i]?) := by rw [← h]; exact List.mem_cons_self
  obtain ⟨i, -, hi⟩ := List.mem_filterMap.mp h1
  exact List.mem_of_getElem? hi
set_option maxRecDepth 100000 in
theorem cwMin : Cond.code Lib.Math.min.name Lib.Math.min.code 2 (some .int) ∈ ALLG := by
  have h : [Cond.code Lib.Math.min.name Lib.Math.min.code 2 (some .int)] = [421].filterMap (fun i => lwE[i]?) := rfl
  refine List.mem_filter.mpr ⟨?_, rfl⟩
  have h1 : Cond.code Lib.Math.min.name Lib.Math.min.code 2 (some .int) ∈ [421].filterMap (fun i => lwE[i]?) := by rw [← h]; exact List.mem_cons_self
  obtain ⟨i, -, hi⟩ := List.mem_filterMap.mp h1
  exact List.mem_of_getElem? hi
theorem chkDef : ∀ ci ∈ kds, ∀ k, k < cnf ci → (match fref ci k with | true => defaultValue (fty ci k) = .null | false => defaultValue (fty ci k) = .int 0) := by
  have h : ∀ ci ∈ kds, ∀ k, k < cnf ci → (match fref ci k with | true => decide (defaultValue (fty ci k) = .null) | false => decide (defaultValue (fty ci k) = .int 0)) = true := by decide +kernel
  intro ci h1 k h2
  have := h ci h1 k h2
  revert this
  cases fref ci k <;> simp
theorem chkFit : ∀ ci ∈ kds, ∀ k, k < cnf ci → fty ci k ≠ .char := by decide +kernel
theorem chkN100 : ∀ n, n < 20 → ∀ r ∈ ntab.getD n [], r.2 = 100 → n = 17 → r.1 = 206 := by decide +kernel
theorem chkArr : kcl 7 = (("LockstepRoom$Member" : String), (kcl 7).2) ∧ kcl 9 = (("LockstepRoom$State" : String), (kcl 9).2) := ⟨rfl, rfl⟩
theorem tab_mem {α : Type} {tb : List (List (Nat × α))} {n idx : Nat} {x : α} (h : ((tb.getD n []).find? (fun r => r.1 == idx)).map (·.2) = some x) : (idx, x) ∈ tb.getD n [] := by
  obtain ⟨⟨i, q⟩, hq, he⟩ := Option.map_eq_some_iff.mp h
  have h1 := List.find?_some hq
  have e1 : i = idx := eq_of_beq h1
  have e2 : q = x := he
  subst e1; subst e2
  exact List.mem_of_find?_eq_some hq
section Heap2
variable {p : Program} {l : Launch} {e : Env} {R : Room} {s : State} {m : MethodId} {args : Array Value} {below : List Frame} {meth : Method} {c : Code} {H : Heap} {locs : List Loc} {Qe : State → Prop} {cells slots : Nat}
variable {M : MI} {D : va_G} {cA : Nat → ClassId} {base : Nat} {ro : Nat → Nat} {μ : Mu} {pc : Nat} {rls : Array Slot} {r : List Value}
theorem pg_len (C : Ctx p R s m args c M D cA base) {a : Nat} (hP : Pic D cA base ro μ H) (hRO : RO base ro μ s s.heap) (hS : va_S (isO base) s.heap H locs) (hs : 20 ≤ (mS μ a).1 ∧ (mS μ a).1 ≤ 24) (hdg : decode (mi_c M) pc = .ok (.arraylength, 1))
    (kk : W p l e R s m args below meth c H locs cells slots Qe (F0 m (pc + 1) rls (.int (Int32.ofNat (mS μ a).2) :: r))) : W p l e R s m args below meth c H locs cells slots Qe (F0 m pc rls (.ref (rA base ro a) :: r)) := by
  obtain ⟨hx, hb, hml, hown, hts, hK, -⟩ := C
  rcases Nat.lt_or_ge a 1000 with ha | ha
  · obtain ⟨g1, g2, -, g4⟩ := hRO.1 a ha
    rw [rA_ro ha]
    rcases (by omega : (mS μ a).1 = 20 ∨ (mS μ a).1 = 21) with h | h
    · exact va_tlen hx hb (g1 h) hS rfl hdg kk
    · exact va_tlen hx hb (g2 h) hS rfl hdg kk
  · obtain ⟨w1, w2, -⟩ := hP.2.2 a ha (by omega)
    rcases (by omega : (mS μ a).1 = 20 ∨ (mS μ a).1 = 21 ∨ (mS μ a).1 = 22 ∨ (mS μ a).1 = 23 ∨ (mS μ a).1 = 24) with h | h | h | h | h
    · rw [cE_20 h] at w2; exact va_alen hx hb hK (one_P w2) 0 0 rfl rfl rfl hdg kk
    · rw [cE_21 h] at w2; exact va_alen hx hb hK (one_P w2) 0 1 rfl rfl rfl hdg kk
    · rw [cE_22 h] at w2; exact va_alen hx hb hK (one_P w2) 0 1 rfl rfl rfl hdg kk
    · rw [cE_23 h] at w2; exact va_alen hx hb hK (one_P w2) 0 3 rfl rfl rfl hdg kk
    · rw [cE_24 h] at w2; exact va_alen hx hb hK (one_P w2) 0 4 rfl rfl rfl hdg kk
theorem pg_ast0 (C : Ctx p R s m args c M D cA base) {a v t0 ci kd : Nat} {i : Int32} (hP : Pic D cA base ro μ H) (hS : va_S (isO base) s.heap H locs) (ha : 1000 ≤ a) (hv : 1000 ≤ v) (hs : (mS μ a).1 = kd) (hkd : 22 < kd ∧ kd < 90)
    (hce : ∀ μ' : Mu, (mS μ' a).1 = kd → cE cA base ro μ' a = .inl (cA kd, (mS μ' a).2, .inr (.inr (.inr (.inr fun j => (mR μ' a j).map (rA base ro))))))
    (ht : (tysL cA)[t0]? = some (cA kd, .object (kcl ci).1)) (hci : ci ∈ kds) (hsv : mS μ v = (ci, cnf ci)) (hin : vp_in i (mS μ a).2) (hdg : decode (mi_c M) pc = .ok (.aastore, 1))
    (kk : ∀ (H1 : Heap) (locs1 : List Loc), Pic D cA base ro (uR μ a i.toNatClampNeg (some v)) H1 → va_S (isO base) s.heap H1 locs1 → W p l e R s m args below meth c H1 locs1 cells slots Qe (F0 m (pc + 1) rls r)) : W p l e R s m args below meth c H locs cells slots Qe (F0 m pc rls (.ref (rA base ro v) :: .int i :: .ref (rA base ro a) :: r)) := by
  obtain ⟨hx, hb, hml, hown, hts, hK, -⟩ := C
  have hlt : i.toNatClampNeg < (mS μ a).2 := Nat.not_le.mp fun q => hin (Or.inr q)
  have h0 : ¬ i < 0 := fun q => hin (Or.inl q)
  obtain ⟨w1, w2, -⟩ := hP.2.2 a ha (by rw [hs]; exact hkd.2)
  rw [hce μ hs] at w2
  obtain ⟨v1, v2, -⟩ := hP.2.2 v hv (by rw [hsv]; have := kds_lt hci; dsimp only; omega)
  rw [cE_obj hci hsv] at v2
  obtain ⟨r', hr', cellV, g1, g2, g3, -⟩ := v2
  obtain ⟨q1, q2⟩ := chkK ci hci
  have hcls := (hK.1 ci _ q1).2
  obtain ⟨kA, comp, k1, k2, k3, -⟩ := (hK.2 t0 _ ht).2
  have hcomp : comp = D.1 ci := Option.some.inj (k3.symm.trans hcls.1)
  subst hcomp
  obtain ⟨kC, hkC, -⟩ := hcls.2
  refine W.aast hx hb w2 (fun q h => by cases h) (fun h => by cases h) k1 k2 rfl hkC ⟨h0, by show _ < (arrV _ _ _).slots.size; rw [arrV_size]; exact hlt⟩ g1 (fun q h => by rw [g3] at h; cases h) (by rw [g2]; exact hkC) (by rw [g2]; exact va_assign hcls) rfl rfl hdg fun H1 e z oq => ?_
  refine kk H1 _ (hP.upd ha z oq rfl rfl (fun _ _ => rfl) (fun _ _ => rfl) (fun b hb => by funext j; simp [mR, uR, hb]) ?_ (fun q => by omega)) (hS.put z oq (in_base ha))
  rw [hce (uR μ a i.toNatClampNeg (some v)) hs]
  show H1[rA base ro a]? = some (vp_cell _ _)
  rw [e]
  rw [vp_cell_q, vp_cell_q, arrV_store]
  congr 2
  funext q
  by_cases hq : q = i.toNatClampNeg
  · subst hq; simp [updV, va_rf, mR, uR]
  · simp [updV, mR, uR, hq]
theorem pg_ast (C : Ctx p R s m args c M D cA base) {a v : Nat} {i : Int32} (hP : Pic D cA base ro μ H) (hS : va_S (isO base) s.heap H locs) (ha : 1000 ≤ a) (hv : 1000 ≤ v) (hs : (mS μ a).1 = 23 ∧ mS μ v = (7, cnf 7) ∨ (mS μ a).1 = 24 ∧ mS μ v = (9, cnf 9)) (hin : vp_in i (mS μ a).2) (hdg : decode (mi_c M) pc = .ok (.aastore, 1))
    (kk : ∀ (H1 : Heap) (locs1 : List Loc), Pic D cA base ro (uR μ a i.toNatClampNeg (some v)) H1 → va_S (isO base) s.heap H1 locs1 → W p l e R s m args below meth c H1 locs1 cells slots Qe (F0 m (pc + 1) rls r)) : W p l e R s m args below meth c H locs cells slots Qe (F0 m pc rls (.ref (rA base ro v) :: .int i :: .ref (rA base ro a) :: r)) := by
  rcases hs with ⟨h1, h2⟩ | ⟨h1, h2⟩
  · exact pg_ast0 C hP hS ha hv h1 (by omega) (fun μ' h => cE_23 h) (t0 := 3) (ci := 7) rfl (by decide) h2 hin hdg kk
  · exact pg_ast0 C hP hS ha hv h1 (by omega) (fun μ' h => cE_24 h) (t0 := 4) (ci := 9) rfl (by decide) h2 hin hdg kk
theorem pg_sst (C : Ctx p R s m args c M D cA base) {a v : Nat} {i : Int32} (hP : Pic D cA base ro μ H) (hRO : RO base ro μ s s.heap) (hS : va_S (isO base) s.heap H locs) (ha : 1000 ≤ a) (hv : v < 1000) (hs : (mS μ a).1 = 26) (hsv : (mS μ v).1 = 0) (hin : vp_in i (mS μ a).2) (hdg : decode (mi_c M) pc = .ok (.aastore, 1))
    (kk : ∀ (H1 : Heap) (locs1 : List Loc), Pic D cA base ro (uR μ a i.toNatClampNeg (some v)) H1 → va_S (isO base) s.heap H1 locs1 → W p l e R s m args below meth c H1 locs1 cells slots Qe (F0 m (pc + 1) rls r)) : W p l e R s m args below meth c H locs cells slots Qe (F0 m pc rls (.ref (rA base ro v) :: .int i :: .ref (rA base ro a) :: r)) := by
  obtain ⟨hx, hb, hml, hown, hts, hK, -⟩ := C
  have hlt : i.toNatClampNeg < (mS μ a).2 := Nat.not_le.mp fun q => hin (Or.inr q)
  have h0 : ¬ i < 0 := fun q => hin (Or.inl q)
  obtain ⟨w1, w2, -⟩ := hP.2.2 a ha (by rw [hs]; decide)
  rw [cE_26 hs] at w2
  obtain ⟨⟨cellV, g1, g2, g3, g4⟩, -⟩ := (hRO.1 v hv).2.2.1 hsv
  have g1' : H[rA base ro v]? = some cellV := by
    rw [rA_ro hv, hS.2.1 _ (Array.getElem?_eq_some_iff.mp g1).1 g4]; exact g1
  have hcls : ClassAt s "java/lang/String" (D.1 0) := (hK.1 0 _ (chkK 0 (by decide)).1).2
  obtain ⟨kA, comp, k1, k2, k3, -⟩ := (hK.2 6 _ rfl).2
  have hcomp : comp = D.1 0 := Option.some.inj (k3.symm.trans hcls.1)
  subst hcomp
  have hcv : cellV.cls = D.1 0 := Option.some.inj (g3.symm.trans hcls.1)
  obtain ⟨kC, hkC, -⟩ := hcls.2
  refine W.aast hx hb w2 (fun q h => by cases h) (fun h => by cases h) k1 k2 rfl hkC ⟨h0, by show _ < (arrV _ _ _).slots.size; rw [arrV_size]; exact hlt⟩ g1' (fun q h => by rw [h] at g2; cases g2) (by rw [hcv]; exact hkC) (by rw [hcv]; exact va_assign hcls) rfl rfl hdg fun H1 e z oq => ?_
  refine kk H1 _ (hP.upd ha z oq rfl rfl (fun _ _ => rfl) (fun _ _ => rfl) (fun b hb => by funext j; simp [mR, uR, hb]) ?_ (fun q => by omega)) (hS.put z oq (in_base ha))
  rw [cE_26 (show (mS (uR μ a i.toNatClampNeg (some v)) a).1 = 26 from hs)]
  show H1[rA base ro a]? = some (vp_cell _ _)
  rw [e]
  rw [vp_cell_q, vp_cell_q, arrV_store]
  congr 2
  funext q
  by_cases hq : q = i.toNatClampNeg
  · subst hq; simp [updV, va_rf, mR, uR]
  · simp [updV, mR, uR, hq]
theorem pg_cast (C : Ctx p R s m args c M D cA base) {a : Nat} (hP : Pic D cA base ro μ H) (ha : 1000 ≤ a) (hs : (mS μ a).1 = 21) (hn5 : mi_n M = 5) (hdg : decode (mi_c M) pc = .ok (.checkcast 311, 3))
    (kk : W p l e R s m args below meth c H locs cells slots Qe (F0 m (pc + 3) rls (.ref (rA base ro a) :: r))) : W p l e R s m args below meth c H locs cells slots Qe (F0 m pc rls (.ref (rA base ro a) :: r)) := by
  obtain ⟨hx, hb, hml, hown, hts, hK, -⟩ := C
  obtain ⟨w1, w2, -⟩ := hP.2.2 a ha (by rw [hs]; decide)
  rw [cE_21 hs] at w2
  have e5 : cnm.getD (mi_n M) "" = "java/util/Arrays" := by rw [hn5]; rfl
  rw [e5] at hown
  exact va_castA hx hb hown (hts _ (inG_mem chkCC)) (one_P w2) 0 rfl (va_nm_byte (hK.2 1 _ rfl).2) hdg kk
theorem Pic.fill {f : Nat → Int32} {n : Nat} {H1 : Heap} (hP : Pic D cA base ro μ H) (hz : H1.size = H.size + 1) (ho : ∀ q, q < H.size → H1[q]? = H[q]?) (hf : ∀ j, (f j).toInt8.toInt32 = f j) (hat : H1[H.size]? = some (vp_cell (cA 21) (n, .inl f))) : Pic D cA base ro (uA (uN μ 21 n) (mX μ) f) H1 := by
  obtain ⟨p1, p2, p3⟩ := hP
  have hs : H.size = rA base ro (mX μ) := by rw [rA_big p2]; omega
  have eX : mX (uA (uN μ 21 n) (mX μ) f) = mX μ + 1 := rfl
  refine ⟨by rw [hz, eX]; omega, by rw [eX]; omega, fun b hb1 hb2 => ?_⟩
  by_cases e : b = mX μ
  · subst e
    have e1 : (mS (uA (uN μ 21 n) (mX μ) f) (mX μ)) = (21, n) := by simp [mS, uA, uN, mX]
    have e2 : mI (uA (uN μ 21 n) (mX μ) f) (mX μ) = f := by funext j; simp [mI, uA]
    refine ⟨by rw [eX]; omega, ?_, fun _ j => by rw [e2]; exact hf j⟩
    rw [cE_21 (by rw [e1]), e1, e2, ← hs]
    exact hat
  · have e' : b ≠ μ.1 := e
    have hS : mS (uA (uN μ 21 n) (mX μ) f) b = mS μ b := by simp [mS, uA, uN, e']
    have hI : mI (uA (uN μ 21 n) (mX μ) f) b = mI μ b := by funext j; simp [mI, uA, uN, mX, e']
    have hJ : mJ (uA (uN μ 21 n) (mX μ) f) b = mJ μ b := by funext j; simp [mJ, uA, uN, e']
    have hR : mR (uA (uN μ 21 n) (mX μ) f) b = mR μ b := by funext j; simp [mR, uA, uN, e']
    rw [hS] at hb2
    obtain ⟨g1, g2, g3⟩ := p3 b hb1 hb2
    have ce : cE cA base ro (uA (uN μ 21 n) (mX μ) f) b = cE cA base ro μ b := by
      have : fV base ro (uA (uN μ 21 n) (mX μ) f) b = fV base ro μ b := by funext c j; simp only [fV, hI, hR]
      simp only [cE, hS, hI, hJ, hR, this]
    refine ⟨by rw [eX]; omega, ?_, fun z j => ?_⟩
    · rw [ce]
      exact g2.kept (ho _ g2.lt)
    · rw [hS] at z; rw [hI]; exact g3 z j
theorem pg_new (C : Ctx p R s m args c M D cA base) {idx ci : Nat} (hP : Pic D cA base ro μ H) (hS : va_S (isO base) s.heap H locs) (hc : cres (mi_n M) idx = some ci) (h100 : ci ≠ 100) (hcells : cells + 1 ≤ R.cells) (hslots : slots + cnf ci ≤ R.slots) (hdg : decode (mi_c M) pc = .ok (.new idx, 3))
    (kk : ∀ H1 : Heap, Pic D cA base ro (uN μ ci (cnf ci)) H1 → va_S (isO base) s.heap H1 locs → W p l e R s m args below meth c H1 locs (cells + 1) (slots + cnf ci) Qe (F0 m (pc + 3) rls (.ref (rA base ro (mX μ)) :: r))) : W p l e R s m args below meth c H locs cells slots Qe (F0 m pc rls r) := by
  obtain ⟨hx, hb, hml, hown, hts, hK, hbase, hn20, -⟩ := C
  obtain ⟨hci, n1, n2, n3⟩ := chkNw _ hn20 _ (tab_mem hc) h100
  dsimp only at hci n1 n2 n3
  obtain ⟨q1, q2⟩ := chkK ci hci
  have hKn := hK.1 ci _ q1
  have hin : ∀ w ∈ u_ws (kcl ci).1 (kcl ci).2.1 (kcl ci).2.2, w ∈ ALLG := fun w hw => inG_mem (chkU ci hci w hw)
  refine W.newcK hx hb hown (hts _ (inG_mem n1)) (hts _ (inG_mem n2)) (hts _ (inG_mem n3)) rfl hdg hcells hslots hKn.2.1 rfl fun H1 kC hkC e1 z1 o1 => ?_
  have hs : H.size = rA base ro (mX μ) := by rw [rA_big hP.2.1]; have := hP.1; have := hP.2.1; omega
  have hob := u_born (fty ci) hts hin hKn hkC e1 (fun k hk => (chkT ci hci k (by rw [← q2]; exact hk)).1)
  rw [hs]
  refine kk H1 (hP.new z1 o1 ?_) ⟨Nat.le_trans hS.1 (by omega), fun x h1 h2 => (o1 x (Nat.lt_of_lt_of_le h1 hS.1)).trans (hS.2.1 x h1 h2), hS.2.2⟩
  rw [cE_obj hci (show mS (uN μ ci (cnf ci)) (mX μ) = (ci, cnf ci) by simp [mS, uN, mX])]
  refine ⟨_, q1, hob.to fun j hj => ?_⟩
  rw [q2] at hj
  have hd := chkDef ci hci j hj
  show _ = ((List.map _ _).getD j Value.null)
  rw [List.getD_eq_getElem?_getD, map_get hj]
  show _ = fV base ro _ _ ci j
  unfold fV
  revert hd
  cases fref ci j with
  | true => intro hd; rw [hd]; simp [mR, uN, mX, va_rf]
  | false => intro hd; rw [hd]; simp [mI, uN, mX]
theorem pg_newa (C : Ctx p R s m args c M D cA base) {at9 : ArrayType} {ty : FieldType} {k0 : Int32} {kd t0 : Nat} {a0 : Nat → vp_A} (hP : Pic D cA base ro μ H) (hS : va_S (isO base) s.heap H locs) (hk : ¬ k0 < 0) (hk6 : k0.toNatClampNeg ≤ 60000000) (hcells : cells + 1 ≤ R.cells) (hslots : slots + k0.toNatClampNeg ≤ R.slots)
    (hty : newarray.typeOf at9 = ty) (hcb : componentBytes ty ≤ 8) (hw : (Cond.arrayClass ty) ∈ ALLG) (ht : (tysL cA)[t0]? = some (cA kd, ty)) (hRA : va_RA s (cA kd) ty = (s.vm.findClass ("[" ++ ty.toString) = some (cA kd)))
    (ha0 : cE cA base ro (uN μ kd k0.toNatClampNeg) (mX μ) = .inl (cA kd, a0 k0.toNatClampNeg)) (hac : vp_cell (cA kd) (a0 k0.toNatClampNeg) = arrV (cA kd) k0.toNatClampNeg (fun _ => defaultValue ty)) (hdg : decode (mi_c M) pc = .ok (.newarray at9, 2))
    (kk : ∀ H1 : Heap, Pic D cA base ro (uN μ kd k0.toNatClampNeg) H1 → va_S (isO base) s.heap H1 locs → W p l e R s m args below meth c H1 locs (cells + 1) (slots + k0.toNatClampNeg) Qe (F0 m (pc + 2) rls (.ref (rA base ro (mX μ)) :: r))) : W p l e R s m args below meth c H locs cells slots Qe (F0 m pc rls (.int k0 :: r)) := by
  obtain ⟨hx, hb, hml, hown, hts, hK, hbase, hn20, -⟩ := C
  subst hty
  have hs : H.size = rA base ro (mX μ) := by rw [rA_big hP.2.1]; have := hP.1; have := hP.2.1; omega
  refine va_newaK hx hb (hts _ hw) rfl hdg rfl hk rfl ?_ hcells hslots rfl fun H1 cI e1 z1 o1 hAr hNm => ?_
  · have : k0.toNatClampNeg * componentBytes (newarray.typeOf at9) ≤ k0.toNatClampNeg * 8 := Nat.mul_le_mul_left _ hcb
    omega
  · have h9 : cI = cA kd := by
      have h8 := (hK.2 t0 _ ht).2
      dsimp only at h8
      rw [hRA] at h8
      exact Option.some.inj (hNm.symm.trans h8)
    subst h9
    rw [hs]
    refine kk H1 (hP.new z1 o1 ?_) ⟨Nat.le_trans hS.1 (by omega), fun x h1 h2 => (o1 x (Nat.lt_of_lt_of_le h1 hS.1)).trans (hS.2.1 x h1 h2), hS.2.2⟩
    rw [ha0]
    show H1[H.size]? = some (vp_cell _ _)
    rw [hac]
    exact e1
theorem pg_anew (C : Ctx p R s m args c M D cA base) {idx ci kd t0 : Nat} {k0 : Int32} (hP : Pic D cA base ro μ H) (hS : va_S (isO base) s.heap H locs) (hc : cres (mi_n M) idx = some ci) (h100 : ci ≠ 100) (hAO : va_AO (kcl ci).1 s) (hk : ¬ k0 < 0) (hk6 : k0.toNatClampNeg ≤ 60000000) (hcells : cells + 1 ≤ R.cells) (hslots : slots + k0.toNatClampNeg ≤ R.slots)
    (ht : (tysL cA)[t0]? = some (cA kd, .object (kcl ci).1))
    (ha0 : cE cA base ro (uN μ kd k0.toNatClampNeg) (mX μ) = .inl (cA kd, k0.toNatClampNeg, .inr (.inr (.inr (.inr fun _ => none))))) (hdg : decode (mi_c M) pc = .ok (.anewarray idx, 3))
    (kk : ∀ H1 : Heap, Pic D cA base ro (uN μ kd k0.toNatClampNeg) H1 → va_S (isO base) s.heap H1 locs → W p l e R s m args below meth c H1 locs (cells + 1) (slots + k0.toNatClampNeg) Qe (F0 m (pc + 3) rls (.ref (rA base ro (mX μ)) :: r))) : W p l e R s m args below meth c H locs cells slots Qe (F0 m pc rls (.int k0 :: r)) := by
  obtain ⟨hx, hb, hml, hown, hts, hK, hbase, hn20, -⟩ := C
  obtain ⟨hci, n1, n2, n3⟩ := chkNw _ hn20 _ (tab_mem hc) h100
  dsimp only at hci n1 n2 n3
  have hs : H.size = rA base ro (mX μ) := by rw [rA_big hP.2.1]; have := hP.1; have := hP.2.1; omega
  refine W.anew hx hb hown (hts _ (inG_mem n1)) (va_AO.use hAO) rfl hdg rfl hk (by omega) hcells hslots fun cI kA comp f1 f2 f3 f4 => ?_
  generalize hH1 : H.push ({ cls := cI, slots := Array.replicate k0.toNatClampNeg .null, vm := .none } : Cell) = H1
  have z1 : H1.size = H.size + 1 := by rw [← hH1, Array.size_push]
  have e1 : H1[H.size]? = some (arrV cI k0.toNatClampNeg (fun _ => .null)) := by rw [← hH1, Array.getElem?_push_size, ← arrV_new]
  have o1 : ∀ q : Nat, q < H.size → H1[q]? = H[q]? := fun q hq => by rw [← hH1, Array.getElem?_push, if_neg (Nat.ne_of_lt hq)]
  have h9 : cI = cA kd := by
    obtain ⟨kA', comp', -, -, -, h8⟩ := (hK.2 t0 _ ht).2
    exact Option.some.inj (f1.symm.trans h8)
  subst h9
  rw [hs]
  refine kk H1 (hP.new z1 o1 ?_) ⟨Nat.le_trans hS.1 (by omega), fun x h1 h2 => (o1 x (Nat.lt_of_lt_of_le h1 hS.1)).trans (hS.2.1 x h1 h2), hS.2.2⟩
  rw [ha0]
  show H1[H.size]? = some (vp_cell _ _)
  rw [vp_cell_q]
  exact e1
theorem pg_gets (C : Ctx p R s m args c M D cA base) {idx k : Nat} (hRO : RO base ro μ s s.heap) (hS : va_S (isO base) s.heap H locs) (hf : sres (mi_n M) idx = some k) (hdg : decode (mi_c M) pc = .ok (.getstatic idx, 3))
    (kk : W p l e R s m args below meth c H locs cells slots Qe (F0 m (pc + 3) rls (rV base ro (sval k) :: r))) (kn : k = 3 → W p l e R s m args below meth c H locs cells slots Qe (F0 m (pc + 3) rls (.null :: r))) : W p l e R s m args below meth c H locs cells slots Qe (F0 m pc rls r) := by
  obtain ⟨hx, hb, hml, hown, hts, hK, hbase, hn20, -⟩ := C
  obtain ⟨k3, w⟩ := chkSt _ hn20 _ (tab_mem hf)
  obtain ⟨v, hv, hZ⟩ := hRO.2.1 k k3
  rcases hv with rfl | ⟨h3, rfl⟩
  · exact va_gets hx hb hZ hS hown (hts _ (inG_mem w)) (fun _ h => h) hdg kk
  · exact va_gets hx hb hZ hS hown (hts _ (inG_mem w)) (fun _ h => h) hdg (kn h3)
theorem pg_ldcs (C : Ctx p R s m args c M D cA base) {idx k : Nat} (hRO : RO base ro μ s s.heap) (hf : kres (mi_n M) idx = some (.inr k)) (hdg : decode (mi_c M) pc = .ok (.ldc idx, 2))
    (kk : W p l e R s m args below meth c H locs cells slots Qe (F0 m (pc + 2) rls (.ref (rA base ro k) :: r))) : W p l e R s m args below meth c H locs cells slots Qe (F0 m pc rls r) := by
  obtain ⟨hx, hb, hml, hown, hts, hK, hbase, hn20, -⟩ := C
  obtain ⟨k1, k2⟩ := hRO.2.2.2.1 _ hn20 _ (tab_mem hf) k rfl
  rw [rA_ro (by omega)] at kk
  exact va_ldcS hx hb hown k2 hdg kk
theorem pg_ldcsw (C : Ctx p R s m args c M D cA base) {idx k : Nat} (hRO : RO base ro μ s s.heap) (hf : kres (mi_n M) idx = some (.inr k)) (hdg : decode (mi_c M) pc = .ok (.ldc_w idx, 3))
    (kk : W p l e R s m args below meth c H locs cells slots Qe (F0 m (pc + 3) rls (.ref (rA base ro k) :: r))) : W p l e R s m args below meth c H locs cells slots Qe (F0 m pc rls r) := by
  obtain ⟨hx, hb, hml, hown, hts, hK, hbase, hn20, -⟩ := C
  obtain ⟨k1, k2⟩ := hRO.2.2.2.1 _ hn20 _ (tab_mem hf) k rfl
  rw [rA_ro (by omega)] at kk
  intro T hT X
  obtain ⟨t, a1, b1⟩ := kk T hT X
  exact ⟨t, X.ldcStringW hx hown (text := txts.getD k "") (a := ro k) k2.1 k2.2 (g := F0 m pc rls r) rfl (by rw [hb]; exact hdg) t a1, b1⟩
theorem nn_int (z : Int32) (hz : ¬ z < 0) : z.toInt = (z.toNatClampNeg : Int) := by
  have hz0 : (0 : Int) ≤ z.toInt := by
    have := Int32.not_lt.mp hz
    simpa using Int32.le_iff_toInt_le.mp this
  show z.toInt = ((z.toInt.toNat : Nat) : Int)
  omega
theorem b8_fit {v : Int32} (h : v.toInt8.toInt32 = v) : fits .byte (.int v) = true := by
  have e : v.toInt = v.toInt8.toInt := by
    have := congrArg Int32.toInt h
    rw [Int8.toInt_toInt32] at this
    exact this.symm
  have h1 := Int8.le_toInt v.toInt8
  have h2 := Int8.toInt_lt v.toInt8
  have g1 : (-128 : Int32) ≤ v := by rw [Int32.le_iff_toInt_le]; have : (-128 : Int32).toInt = -128 := rfl; omega
  have g2 : v ≤ (127 : Int32) := by rw [Int32.le_iff_toInt_le]; have : (127 : Int32).toInt = 127 := rfl; omega
  simp [fits, g1, g2]
theorem okT_n {ty : FieldType} {v : Int32} (h : okT ty v) : narrow ty (.int v) = .int v := by
  unfold okT at h
  split at h
  · rfl
  · rcases h with rfl | rfl <;> rfl
  · show Value.int v.toInt8.toInt32 = _; rw [h]
  · show Value.int v.toUInt32.toUInt16.toUInt32.toInt32 = _
    have e : v.toUInt32.toUInt16.toUInt32 = v.toUInt32 % 65536 := by
      apply UInt32.toNat_inj.mp
      simp
    rw [e, h]
  · exact h.elim
theorem okT_f {ty : FieldType} {v : Int32} (h : okT ty v) (hc : ty ≠ .char) : fits ty (.int v) = true := by
  unfold okT at h
  split at h
  · rfl
  · rcases h with rfl | rfl <;> rfl
  · exact b8_fit h
  · exact absurd rfl hc
  · exact h.elim
end Heap2
