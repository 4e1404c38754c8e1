/-! every kind of call -/
theorem npar_s {j n : Nat} (h : npar j = some n) : (parseMethodDescriptor (mi_y (minfo j)).desc).map (fun d => d.parameters.length) = some n := h
theorem npar_v {j n : Nat} (h : (npar j).map (· + 1) = some n) : (parseMethodDescriptor (mi_y (minfo j)).desc).map (fun d => d.parameters.length) = some (n - 1) ∧ 0 < n := by
  unfold npar at h
  cases hd : (parseMethodDescriptor (mi_y (minfo j)).desc) with
  | none => rw [hd] at h; cases h
  | some d => rw [hd] at h; simp at h; subst h; simp
section InvRows
variable {p : Program} {l : Launch} {e : Env} {R : Room} {s : State} {m : MethodId} {args : Array Value} {below : List Frame} {meth : Method} {c : Code} {H : Heap} {locs : List Loc} {Qe : State → Prop} {cells slots : Nat}
variable {M : MI} {D : va_G} {cA : Nat → ClassId} {base : Nat} {ro : Nat → Nat} {μ μ0 : Mu} {pc : Nat} {rls : Array Slot} {r : List Value}
/-- what all kinds share: the callee's contract at this depth, the room, the words -/
theorem room_ok {d j : Nat} {M : MI} (hC : (mi_ht M).1 ≤ R.frames ∧ (mi_ht M).2 ≤ R.locals) (h : hok M j) : (rmD d (minfo j)).frames + 1 ≤ R.frames ∧ 8 + (mi_L (minfo j) + 11) + (rmD d (minfo j)).locals ≤ R.locals :=
  ⟨Nat.le_trans h.1 hC.1, Nat.le_trans h.2 hC.2⟩
theorem room_f {u al : Nat × Nat} (hRc : R.cells = (mi_al M).1) (hRs : R.slots = (mi_al M).2) (h : ule (uad u al) (mi_al M)) : u.1 + al.1 ≤ R.cells ∧ u.2 + al.2 ≤ R.slots := by
  rw [hRc, hRs]; exact h
theorem cat8 {st : List Value} {n : Nat} (h : ((st.drop n).map fun v => v.category).sum ≤ 8) (z : Nat) (hz : z = 0) : 2 * z + (((st.drop n).map (rV base ro)).map fun v => v.category).sum ≤ 8 := by
  rw [hz, cat_map]; omega
theorem nfw : nativeFrameWords "java/lang/System" "arraycopy" 5 ≤ 100 := by decide +kernel
theorem pg_copy0 (C : Ctx p R s m args c M D cA base) {a b kd t0 idx : Nat} {ty : FieldType} {sp dp n : Int32} (hP : Pic D cA base ro μ H) (hS : va_S (isO base) s.heap H locs) (ha : 1000 ≤ a) (hb9 : 1000 ≤ b) (hsa : (mS μ a).1 = kd) (hsb : (mS μ b).1 = kd) (hkd : kd < 90)
    (hce : ∀ (μ' : Mu) (x : Nat), (mS μ' x).1 = kd → cE cA base ro μ' x = .inl (cA kd, (mS μ' x).2, .inl (mI μ' x))) (ht : (tysL cA)[t0]? = some (cA kd, ty)) (hprim : refKind ty = false) (hfit : ∀ i, fits ty (.int (mI μ b i)) = true)
    (hby : kd = 21 → ∀ i, (mI μ b i).toInt8.toInt32 = mI μ b i ∧ (mI μ a i).toInt8.toInt32 = mI μ a i)
    (h1 : ¬ sp < 0) (h2 : ¬ dp < 0) (h3 : ¬ n < 0) (h4 : sp.toNatClampNeg + n.toNatClampNeg ≤ (mS μ b).2) (h5 : dp.toNatClampNeg + n.toNatClampNeg ≤ (mS μ a).2)
    (hml : c.maxLocals = rls.size) (hlink : (Cond.methodLink (cnm.getD (mi_n M) "") idx arraycopyName).before args s = true) (hnat : (Cond.native arraycopyName).before args s = true) (hstat : (Cond.static arraycopyName).before args s = true) (hini : (Cond.initialized "java/lang/System").before args s = true)
    (hlocals : (r.map fun v => v.category).sum ≤ 8) (hdg : decode (mi_c M) pc = .ok (.invokestatic idx, 3))
    (kk : ∀ (H1 : Heap) (locs1 : List Loc), Pic D cA base ro (uA μ a (va_cpy (mI μ b) (mI μ a) sp.toNatClampNeg dp.toNatClampNeg n.toNatClampNeg)) H1 → va_S (isO base) s.heap H1 locs1 → W p l e R s m args below meth c H1 locs1 cells slots Qe (F0 m (pc + 3) rls r)) : W p l e R s m args below meth c H locs cells slots Qe (F0 m pc rls (.int n :: .int dp :: .ref (rA base ro a) :: .int sp :: .ref (rA base ro b) :: r)) := by
  obtain ⟨hexec, hb, hml0, hown, hts, hK, hbase, hn20, hRc, hRs, hRf, hRl⟩ := C
  have hRf := hRf.1
  have hRl := hRl.1
  intro T hT X
  obtain ⟨w1, w2, -⟩ := hP.2.2 a ha (by rw [hsa]; exact hkd)
  obtain ⟨v1, v2, -⟩ := hP.2.2 b hb9 (by rw [hsb]; exact hkd)
  rw [hce μ a hsa] at w2
  rw [hce μ b hsb] at v2
  have hc1 : H[rA base ro a]? = some (vp_cell (cA kd) ((mS μ a).2, .inl (mI μ a))) := w2
  have hc0 : H[rA base ro b]? = some (vp_cell (cA kd) ((mS μ b).2, .inl (mI μ b))) := v2
  obtain ⟨-, k0, hk0, cm0, hkk0⟩ := (hK.2 t0 _ ht).1 (mS μ b).2 (fun j => .int (mI μ b j))
  obtain ⟨-, k1, hk1, cm1, hkk1⟩ := (hK.2 t0 _ ht).1 (mS μ a).2 (fun j => .int (mI μ a j))
  obtain ⟨vm', X', step⟩ := X.arraycopy hexec hown hlink hnat hstat hini (src := rA base ro b) (dst := rA base ro a) (cs := vp_cell (cA kd) ((mS μ b).2, .inl (mI μ b))) (cd := vp_cell (cA kd) ((mS μ a).2, .inl (mI μ a))) (srcPos := sp) (destPos := dp) (n := n) (by rw [hT]; exact hc0) (by rw [hT]; exact hc1)
    (fun _ h => by cases h) (fun _ h => by cases h) (fun h => by cases h) (fun h => by cases h) hk0 hk1 hkk0 hkk1 (by simp [hprim]) h1 h2 h3
    (by rw [nn_int sp h1, nn_int n h3]; show ¬ _ > ((arrV _ _ (fun j => .int (mI μ b j))).slots.size : Int); rw [arrV_size]; omega)
    (by rw [nn_int dp h2, nn_int n h3]; show ¬ _ > ((arrV _ _ (fun j => .int (mI μ a j))).slots.size : Int); rw [arrV_size]; omega)
    (fun vm₁ _ i hi => by
      have e : (vp_cell (cA kd) ((mS μ b).2, .inl (mI μ b))).slots.getD (sp.toNatClampNeg + i) .null = .int (mI μ b (sp.toNatClampNeg + i)) := by
        show (arrV _ _ (fun j => .int (mI μ b j))).slots.getD _ _ = _
        rw [Array.getD_eq_getD_getElem?, arrV_read _ _ (by omega)]
        rfl
      refine ⟨?_, ?_⟩
      · rw [e]
        exact hfit _
      · rw [e]
        exact trivial)
    (g := F0 m pc rls (.int n :: .int dp :: .ref (rA base ro a) :: .int sp :: .ref (rA base ro b) :: r)) rfl (by rw [hml]) (rest := r) rfl (by rw [hb]; exact hdg) (by omega) (by have := nfw; show 2 * 0 + _ + (nativeFrameWords "java/lang/System" "arraycopy" 5 + 11) ≤ _; omega)
  have e1 : copied (vp_cell (cA kd) ((mS μ b).2, .inl (mI μ b))) (vp_cell (cA kd) ((mS μ a).2, .inl (mI μ a))) sp dp n = vp_cell (cA kd) ((mS μ a).2, .inl (va_cpy (mI μ b) (mI μ a) sp.toNatClampNeg dp.toNatClampNeg n.toNatClampNeg)) := va_copied (fun z => .int z) (cA kd) (cA kd) (mI μ b) (mI μ a) h4
  rw [e1] at X' step
  have hl : rA base ro a < H.size := (Array.getElem?_eq_some_iff.mp hc1).1
  have hheap : ((T.setVm vm').setCell (rA base ro a) (vp_cell (cA kd) ((mS μ a).2, .inl (va_cpy (mI μ b) (mI μ a) sp.toNatClampNeg dp.toNatClampNeg n.toNatClampNeg)))).heap = H.setIfInBounds (rA base ro a) (vp_cell (cA kd) ((mS μ a).2, .inl (va_cpy (mI μ b) (mI μ a) sp.toNatClampNeg dp.toNatClampNeg n.toNatClampNeg))) := by rw [← hT]; rfl
  have oq : ∀ q : Nat, q ≠ rA base ro a → (H.setIfInBounds (rA base ro a) (vp_cell (cA kd) ((mS μ a).2, .inl (va_cpy (mI μ b) (mI μ a) sp.toNatClampNeg dp.toNatClampNeg n.toNatClampNeg))))[q]? = H[q]? := fun q hq => by simp [Array.getElem?_setIfInBounds, Ne.symm hq]
  have eI : mI (uA μ a (va_cpy (mI μ b) (mI μ a) sp.toNatClampNeg dp.toNatClampNeg n.toNatClampNeg)) a = va_cpy (mI μ b) (mI μ a) sp.toNatClampNeg dp.toNatClampNeg n.toNatClampNeg := by funext j; simp [mI, uA]
  obtain ⟨t, a1, b1⟩ := kk _ _ (hP.upd (H1 := H.setIfInBounds (rA base ro a) (vp_cell (cA kd) ((mS μ a).2, .inl (va_cpy (mI μ b) (mI μ a) sp.toNatClampNeg dp.toNatClampNeg n.toNatClampNeg)))) ha (by simp) oq rfl rfl (fun x hx => by funext j; simp [mI, uA, hx]) (fun _ _ => rfl) (fun _ _ => rfl) (by
      rw [hce (uA μ a _) a hsa, eI]
      show (H.setIfInBounds _ _)[_]? = some _
      simp [Array.getElem?_setIfInBounds, hl]
      rfl) (fun z i => by
      rw [eI]
      have h9 := hby (by rw [← hsa]; exact z)
      unfold va_cpy
      split
      · exact (h9 _).1
      · exact (h9 _).2)) ⟨by simp; exact hS.1, fun q g1 g2 => by
      rw [oq q (fun e => g2 (by rw [e]; exact in_base ha))]
      exact hS.2.1 q g1 g2, fun q hq => by
      rcases List.mem_append.mp hq with h | h
      · exact hS.2.2 q h
      · obtain ⟨z, -, hz⟩ := List.mem_map.mp h
        rw [← hz]
        exact in_base ha⟩ _ hheap X'
  exact ⟨t, step t a1, b1⟩
theorem pg_copyR (C : Ctx p R s m args c M D cA base) {a b kd t0 idx : Nat} {ty : FieldType} {sp dp n : Int32} (hP : Pic D cA base ro μ H) (hS : va_S (isO base) s.heap H locs) (ha : 1000 ≤ a) (hb9 : b < 1000) (hsa : (mS μ a).1 = kd) (hkd : kd < 90)
    (hT0 : va_T ty (ro b) (mS μ b).2 (fun j => .int (mI μ b j)) (isO base) s s.heap)
    (hce : ∀ (μ' : Mu) (x : Nat), (mS μ' x).1 = kd → cE cA base ro μ' x = .inl (cA kd, (mS μ' x).2, .inl (mI μ' x))) (ht : (tysL cA)[t0]? = some (cA kd, ty)) (hprim : refKind ty = false) (hfit : ∀ i, i < (mS μ b).2 → fits ty (.int (mI μ b i)) = true)
    (hby : kd = 21 → ∀ i, (i < (mS μ b).2 → (mI μ b i).toInt8.toInt32 = mI μ b i) ∧ (mI μ a i).toInt8.toInt32 = mI μ a i)
    (h1 : ¬ sp < 0) (h2 : ¬ dp < 0) (h3 : ¬ n < 0) (h4 : sp.toNatClampNeg + n.toNatClampNeg ≤ (mS μ b).2) (h5 : dp.toNatClampNeg + n.toNatClampNeg ≤ (mS μ a).2)
    (hml : c.maxLocals = rls.size) (hlink : (Cond.methodLink (cnm.getD (mi_n M) "") idx arraycopyName).before args s = true) (hnat : (Cond.native arraycopyName).before args s = true) (hstat : (Cond.static arraycopyName).before args s = true) (hini : (Cond.initialized "java/lang/System").before args s = true)
    (hlocals : (r.map fun v => v.category).sum ≤ 8) (hdg : decode (mi_c M) pc = .ok (.invokestatic idx, 3))
    (kk : ∀ (H1 : Heap) (locs1 : List Loc), Pic D cA base ro (uA μ a (va_cpy (mI μ b) (mI μ a) sp.toNatClampNeg dp.toNatClampNeg n.toNatClampNeg)) H1 → va_S (isO base) s.heap H1 locs1 → W p l e R s m args below meth c H1 locs1 cells slots Qe (F0 m (pc + 3) rls r)) : W p l e R s m args below meth c H locs cells slots Qe (F0 m pc rls (.int n :: .int dp :: .ref (rA base ro a) :: .int sp :: .ref (rA base ro b) :: r)) := by
  obtain ⟨hexec, hb, hml0, hown, hts, hK, hbase, hn20, hRc, hRs, hRf, hRl⟩ := C
  have hRf := hRf.1
  have hRl := hRl.1
  intro T hT X
  obtain ⟨w1, w2, -⟩ := hP.2.2 a ha (by rw [hsa]; exact hkd)
  rw [hce μ a hsa] at w2
  obtain ⟨scr, z1, z2, z3, z4, z5, z6, z7⟩ := hT0
  have hc1 : H[rA base ro a]? = some (vp_cell (cA kd) ((mS μ a).2, .inl (mI μ a))) := w2
  have hc0 : H[rA base ro b]? = some scr := by
    rw [rA_ro hb9, hS.2.1 _ (Array.getElem?_eq_some_iff.mp z1).1 z7]; exact z1
  obtain ⟨hs6, k0, hk0, cm0, hkk0⟩ := z2
  obtain ⟨-, k1, hk1, cm1, hkk1⟩ := (hK.2 t0 _ ht).1 (mS μ a).2 (fun j => .int (mI μ a j))
  obtain ⟨vm', X', step⟩ := X.arraycopy hexec hown hlink hnat hstat hini (src := rA base ro b) (dst := rA base ro a) (cs := scr) (cd := vp_cell (cA kd) ((mS μ a).2, .inl (mI μ a))) (srcPos := sp) (destPos := dp) (n := n) (by rw [hT]; exact hc0) (by rw [hT]; exact hc1)
    hs6 (fun _ h => by cases h) z3 (fun h => by cases h) hk0 hk1 hkk0 hkk1 (by simp [hprim]) h1 h2 h3
    (by rw [nn_int sp h1, nn_int n h3]; omega)
    (by rw [nn_int dp h2, nn_int n h3]; show ¬ _ > ((arrV _ _ (fun j => .int (mI μ a j))).slots.size : Int); rw [arrV_size]; omega)
    (fun vm₁ _ i hi => by
      have e : scr.slots.getD (sp.toNatClampNeg + i) .null = .int (mI μ b (sp.toNatClampNeg + i)) := by
        rw [Array.getD_eq_getD_getElem?, z6 _ (by omega)]
        rfl
      refine ⟨?_, ?_⟩
      · rw [e]
        exact hfit _ (by omega)
      · rw [e]
        exact trivial)
    (g := F0 m pc rls (.int n :: .int dp :: .ref (rA base ro a) :: .int sp :: .ref (rA base ro b) :: r)) rfl (by rw [hml]) (rest := r) rfl (by rw [hb]; exact hdg) (by omega) (by have := nfw; show 2 * 0 + _ + (nativeFrameWords "java/lang/System" "arraycopy" 5 + 11) ≤ _; omega)
  have e1 : copied scr (vp_cell (cA kd) ((mS μ a).2, .inl (mI μ a))) sp dp n = vp_cell (cA kd) ((mS μ a).2, .inl (va_cpy (mI μ b) (mI μ a) sp.toNatClampNeg dp.toNatClampNeg n.toNatClampNeg)) := va_copiedX (fun z => .int z) scr (cA kd) (mI μ b) (mI μ a) z6 h4
  rw [e1] at X' step
  have hl : rA base ro a < H.size := (Array.getElem?_eq_some_iff.mp hc1).1
  have hheap : ((T.setVm vm').setCell (rA base ro a) (vp_cell (cA kd) ((mS μ a).2, .inl (va_cpy (mI μ b) (mI μ a) sp.toNatClampNeg dp.toNatClampNeg n.toNatClampNeg)))).heap = H.setIfInBounds (rA base ro a) (vp_cell (cA kd) ((mS μ a).2, .inl (va_cpy (mI μ b) (mI μ a) sp.toNatClampNeg dp.toNatClampNeg n.toNatClampNeg))) := by rw [← hT]; rfl
  have oq : ∀ q : Nat, q ≠ rA base ro a → (H.setIfInBounds (rA base ro a) (vp_cell (cA kd) ((mS μ a).2, .inl (va_cpy (mI μ b) (mI μ a) sp.toNatClampNeg dp.toNatClampNeg n.toNatClampNeg))))[q]? = H[q]? := fun q hq => by simp [Array.getElem?_setIfInBounds, Ne.symm hq]
  have eI : mI (uA μ a (va_cpy (mI μ b) (mI μ a) sp.toNatClampNeg dp.toNatClampNeg n.toNatClampNeg)) a = va_cpy (mI μ b) (mI μ a) sp.toNatClampNeg dp.toNatClampNeg n.toNatClampNeg := by funext j; simp [mI, uA]
  obtain ⟨t, a1, b1⟩ := kk _ _ (hP.upd (H1 := H.setIfInBounds (rA base ro a) (vp_cell (cA kd) ((mS μ a).2, .inl (va_cpy (mI μ b) (mI μ a) sp.toNatClampNeg dp.toNatClampNeg n.toNatClampNeg)))) ha (by simp) oq rfl rfl (fun x hx => by funext j; simp [mI, uA, hx]) (fun _ _ => rfl) (fun _ _ => rfl) (by
      rw [hce (uA μ a _) a hsa, eI]
      show (H.setIfInBounds _ _)[_]? = some _
      simp [Array.getElem?_setIfInBounds, hl]
      rfl) (fun z i => by
      rw [eI]
      have h9 := hby (by rw [← hsa]; exact z)
      unfold va_cpy
      split
      · rename_i hcd; exact (h9 _).1 (by omega)
      · exact (h9 _).2)) ⟨by simp; exact hS.1, fun q g1 g2 => by
      rw [oq q (fun e => g2 (by rw [e]; exact in_base ha))]
      exact hS.2.1 q g1 g2, fun q hq => by
      rcases List.mem_append.mp hq with h | h
      · exact hS.2.2 q h
      · obtain ⟨z, -, hz⟩ := List.mem_map.mp h
        rw [← hz]
        exact in_base ha⟩ _ hheap X'
  exact ⟨t, step t a1, b1⟩
theorem pg_clone (C : Ctx p R s m args c M D cA base) {a idx : Nat} (hP : Pic D cA base ro μ H) (hRO : RO base ro μ s s.heap) (hS : va_S (isO base) s.heap H locs) (ha : 1000 ≤ a) (hs : (mS μ a).1 = 21) (hml : c.maxLocals = rls.size)
    (hlink : (Cond.methodLink (cnm.getD (mi_n M) "") idx clnB).before args s = true) (hsame : (Cond.sameMethod "[B" "java/lang/Object" "clone" "()Ljava/lang/Object;").before args s = true)
    (hnat : (Cond.native cln).before args s = true) (hinst : (Cond.instanceMethod cln).before args s = true) (hsel : (Cond.selects "[B" clnB cln).before args s = true)
    (hcells : cells + 1 ≤ R.cells) (hslots : slots + (mS μ a).2 ≤ R.slots) (hlocals : (r.map fun v => v.category).sum ≤ 8) (hdg : decode (mi_c M) pc = .ok (.invokevirtual idx, 3))
    (kk : ∀ H1 : Heap, Pic D cA base ro (uA (uN μ 21 (mS μ a).2) (mX μ) (mI μ a)) H1 → va_S (isO base) s.heap H1 locs → W p l e R s m args below meth c H1 locs (cells + 1) (slots + (mS μ a).2) Qe (F0 m (pc + 3) rls (.ref (rA base ro (mX μ)) :: r))) : W p l e R s m args below meth c H locs cells slots Qe (F0 m pc rls (.ref (rA base ro a) :: r)) := by
  obtain ⟨hexec, hb, hml0, hown, hts, hK, hbase, hn20, hRc, hRs, hRf, hRl⟩ := C
  have hRf := hRf.1
  have hRl := hRl.1
  obtain ⟨w1, w2, w3⟩ := hP.2.2 a ha (by rw [hs]; decide)
  rw [cE_21 hs] at w2
  have hcell : H[rA base ro a]? = some (vp_cell (cA 21) ((mS μ a).2, .inl (mI μ a))) := w2
  have hnm : s.vm.findClass "[B" = some (cA 21) := va_nm_byte (hK.2 1 _ rfl).2
  have hsz : (vp_cell (cA 21) ((mS μ a).2, .inl (mI μ a))).slots.size = (mS μ a).2 := arrV_size _ _ _
  obtain ⟨c0, t0', f1, f2, f3⟩ := Cond.castable_spec (va_Nw.use (A := args) rfl hRO.2.2.2.2.2.2.2.2.2)
  cases hnm.symm.trans f1
  intro T hT X
  have hcellT : T.heap[rA base ro a]? = some (vp_cell (cA 21) ((mS μ a).2, .inl (mI μ a))) := by rw [hT]; exact hcell
  obtain ⟨-, kA, hkA, comp, hkind⟩ := State.isArrayOf_alike X.warmed.alike ((hK.2 1 _ rfl).1 0 (fun _ => .null))
  obtain ⟨-, kS, hkS, compS, hkindS⟩ := (hK.2 1 _ rfl).1 0 (fun _ => .null)
  have hcl0 : (vp_cell (cA 21) ((mS μ a).2, .inl (mI μ a))).cls = cA 21 := rfl
  have hvm0 : (vp_cell (cA 21) ((mS μ a).2, .inl (mI μ a))).vm = .none := rfl
  obtain ⟨vm', X', st⟩ := X.cloneArray hexec hown hlink hsame hnat hinst hsel (a := rA base ro a) (cell := vp_cell (cA 21) ((mS μ a).2, .inl (mI μ a))) hcellT (fun k h => by rw [hvm0] at h; cases h) (by rw [hvm0]; exact fun h => by cases h) (by rw [hcl0]; exact hnm) f2 (by rw [hcl0]; exact f3)
    (fun i v hv => by
      rw [hcl0]
      have hk' : T.vm.classes[cA 21]? = some kA := hkA
      have hfit : fits .byte v = true := by
        have hi : i < (mS μ a).2 := by
          have := (Array.getElem?_eq_some_iff.mp hv).1
          rw [hsz] at this; exact this
        have e : (vp_cell (cA 21) ((mS μ a).2, .inl (mI μ a))).slots[i]? = some (.int (mI μ a i)) := arrV_read _ _ hi
        rw [e] at hv
        cases hv
        exact b8_fit (w3 hs i)
      simpa [State.fitsSlot, State.slotType?, hk', hkind] using hfit)
    (g := F0 m pc rls (.ref (rA base ro a) :: r)) rfl (by rw [hml]) rfl (by rw [hb]; exact hdg) (by omega) (by show 2 * 0 + _ + 14 ≤ _; omega) hcells (by rw [hsz]; exact hslots) (hloader := by rw [hcl0]; exact Vm.clonesLoader_of_array hkS hkindS)
  rw [hsz] at X'
  have hsa : H.size = rA base ro (mX μ) := by rw [rA_big hP.2.1]; have := hP.1; have := hP.2.1; omega
  generalize hH1 : H.push (vp_cell (cA 21) ((mS μ a).2, .inl (mI μ a))) = H1
  have z1 : H1.size = H.size + 1 := by rw [← hH1, Array.size_push]
  have e1 : H1[H.size]? = some (vp_cell (cA 21) ((mS μ a).2, .inl (mI μ a))) := by rw [← hH1, Array.getElem?_push_size]
  have o1 : ∀ q : Nat, q < H.size → H1[q]? = H[q]? := fun q hq => by rw [← hH1, Array.getElem?_push, if_neg (Nat.ne_of_lt hq)]
  obtain ⟨t, b1, b2⟩ := kk H1 (hP.fill z1 o1 (w3 hs) e1) ⟨Nat.le_trans hS.1 (by omega), fun y h1 h2 => (o1 y (Nat.lt_of_lt_of_le h1 hS.1)).trans (hS.2.1 y h1 h2), hS.2.2⟩
    ((T.setVm vm').pushCell (vp_cell (cA 21) ((mS μ a).2, .inl (mI μ a)))) (by rw [← hH1, ← hT]; rfl) X'
  refine ⟨t, st t ?_, b2⟩
  rw [hT, hsa]
  exact b1
set_option maxHeartbeats 4000000 in
theorem sim_inv {d : Nat} {Q : Po} (hctr : ∀ j, j < 194 → Ctr l d j) (C : Ctx p R s m args c M D cA base) (hM : M ∈ mtab) (htb : Tb M c) (hlk : meth.locks = false) 
    (hQe : Qe = vx_MQ below (QcO D cA base ro Q μ0) (XCO D cA base ro Q μ0 (mi_th M)) args s (mi_al M).1 (mi_al M).2 (isO base))
    (idx kind pc : Nat) (ls : LV) (st : List Value) (μ : Mu) (u : Nat × Nat) (H : Heap) (locs : List Loc) (rls : Array Slot) (hR : Rl D cA base ro M s μ0 ls μ u H locs rls) (hdg : decode (mi_c M) pc = .ok (ivk kind idx, 3))
    (h : inv (Ev d) M Q (XW p l e R s m args below meth c Qe D cA base ro M μ0) idx kind pc ls st μ u) : W p l e R s m args below meth c H locs u.1 u.2 Qe (F0 m pc rls (st.map (rV base ro))) := by
  have C0 := C
  obtain ⟨hx, hb, hml, hown, hts, hK, hbase, hn20, hRc, hRs, hRf9, hRl9⟩ := C0
  have hRf := hRf9.1
  have hRl := hRl9.1
  have hCt := hRl9.2
  have hR0 := hR
  obtain ⟨hP, ⟨hRO, hSm⟩, hS, hL, hu⟩ := hR0
  unfold inv at h
  split at h
  · rename_i k j hm
    have hmem := tab_mem hm
    have hw := chkC _ hn20 _ hmem
    have hok : cok k j := @of_decide_eq_true _ (cokd k j) (chkC2 _ hn20 _ hmem)
    dsimp only at hw
    have S : CallFix p m c (mi_c M) (mi_L M) s args ALLG (cnm.getD (mi_n M) "") := ⟨hx, hb, hml, hown, hts⟩
    -- a static call
    have kS : j < 194 → mi_hd (minfo j) = none → npar j = some (mi_na (minfo j)) → (∀ w ∈ [Cond.methodLink (cnm.getD (mi_n M) "") idx (mi_y (minfo j)), .static (mi_y (minfo j)), .initialized (mi_y (minfo j)).cls], w ∈ ALLG) → decode (mi_c M) pc = .ok (.invokestatic idx, 3) →
        cal (Ev d) M Q (XW p l e R s m args below meth c Qe D cA base ro M μ0) j pc ls st μ u → W p l e R s m args below meth c H locs u.1 u.2 Qe (F0 m pc rls (st.map (rV base ro))) := by
      intro hj hhd hnp hww hdg h
      obtain ⟨h1, h2, h3, h4⟩ := h
      obtain ⟨h2, hk9⟩ := h2
      obtain ⟨m1, m2, m3, m4, m5, m6⟩ := chkM _ (minfo_mem (j := j) (by omega))
      refine run_cal C hM htb hlk hQe hR h3 (vx_runS (n := mi_na (minfo j)) (As := ((st.take (mi_na (minfo j))).reverse).map (rV base ro)) S (hctr j hj D cA base ro _ μ _) (va_cwS (mi_na (minfo j)) hts (gI (ws_app hj hww)) (ws_none hhd) rfl rfl ⟨m2.1, m2.2, npar_s hnp⟩ (room_ok hCt hk9)) ⟨PcO.blind, fun U hU hW => ⟨rfl, hR.wd C hU hW, h4⟩⟩ rfl ?_ hL.1 rest_map (cat8 h1 _ rfl) hdg (room_f hRc hRs h3))
      rw [List.length_map, List.length_reverse, List.length_take]; omega
    have kV : j < 194 → mi_hd (minfo j) = none → (npar j).map (· + 1) = some (mi_na (minfo j)) → rkd j ∈ kds → (kcl (rkd j)).1 = (mi_y (minfo j)).cls → (∀ w ∈ [Cond.methodLink (cnm.getD (mi_n M) "") idx (mi_y (minfo j)), .instanceMethod (mi_y (minfo j)), .selects (mi_y (minfo j)).cls (mi_y (minfo j)) (mi_y (minfo j)), .initialized (mi_y (minfo j)).cls], w ∈ ALLG) → decode (mi_c M) pc = .ok (.invokevirtual idx, 3) →
        rcv j st μ → cal (Ev d) M Q (XW p l e R s m args below meth c Qe D cA base ro M μ0) j pc ls st μ u → W p l e R s m args below meth c H locs u.1 u.2 Qe (F0 m pc rls (st.map (rV base ro))) := by
      intro hj hhd hnp hci hcl hww hdg hrc h
      obtain ⟨h1, h2, h3, h4⟩ := h
      obtain ⟨h2, hk9⟩ := h2
      obtain ⟨n1, n2⟩ := npar_v hnp
      obtain ⟨m1, m2, m3, m4, m5, m6⟩ := chkM _ (minfo_mem (j := j) (by omega))
      unfold rcv at hrc
      split at hrc
      · rename_i a t hst
        obtain ⟨d1, d2, d3⟩ := drop_ref n2 hst
        have hcell := hR.cell C hci hrc
        rw [hcl] at hcell
        have h4' := h4
        rw [d1, List.reverse_append] at h4'
        refine run_cal C hM htb hlk hQe hR h3 (vx_runV (n := mi_na (minfo j) - 1) (C := (mi_y (minfo j)).cls) (b := rA base ro a) (As := ((st.take (mi_na (minfo j) - 1)).reverse).map (rV base ro)) S (hctr j hj D cA base ro ([.ref a].reverse ++ (st.take (mi_na (minfo j) - 1)).reverse) μ _) (cwV (mi_na (minfo j) - 1) hts (gI (ws_app hj hww)) (ws_none hhd) rfl rfl ⟨rfl, m2.1, m2.2, n1⟩ (room_ok hCt hk9)) ⟨PcO.blind, hcell, fun U hU hW => ⟨rfl, hR.wd C hU hW, h4'⟩⟩ rfl ?_ hL.1 ?_ (cat8 h1 _ rfl) hdg (room_f hRc hRs h3))
        · rw [List.length_map, List.length_reverse, List.length_take]; omega
        · show st.map (rV base ro) = _
          rw [rest_map (base := base) (ro := ro) (st := st) (n := mi_na (minfo j)), d1, d2]
          simp [rV]
      · exact hrc.elim
    have kI : j < 194 → mi_hd (minfo j) = none → (npar j).map (· + 1) = some (mi_na (minfo j)) → (mi_y (minfo j)).name = "<init>" → mi_rt (minfo j) = none → decode (mi_c M) pc = .ok (.invokespecial idx, 3) → rcq j st → (cal (Ev d) M Q (XW p l e R s m args below meth c Qe D cA base ro M μ0) j pc ls st μ u) →
        (∀ (a : Nat) (t : List Value), st.drop (mi_na (minfo j) - 1) = .ref a :: t → (CallB R s args (cnm.getD (mi_n M) "") idx (mi_y (minfo j)) (mi_c (minfo j)) (mi_L (minfo j)) none (ws (minfo j)) (rmD d (minfo j)) (mi_al (minfo j)).1 (mi_al (minfo j)).2 (mi_na (minfo j) - 1) ∧ (mi_y (minfo j)).name = "<init>" ∧ (Cond.instanceMethod (mi_y (minfo j))).before args s = true) ∨
          (va_CN R s args (cnm.getD (mi_n M) "") idx (mi_y (minfo j)) "LockstepRoom" (mi_c (minfo j)) (mi_L (minfo j)) none (ws (minfo j)) (rmD d (minfo j)) (mi_al (minfo j)).1 (mi_al (minfo j)).2 (mi_na (minfo j) - 1) ∧ (mi_y (minfo j)).name = "<init>" ∧ (Cond.instanceMethod (mi_y (minfo j))).before args s = true)) →
        W p l e R s m args below meth c H locs u.1 u.2 Qe (F0 m pc rls (st.map (rV base ro))) := by
      intro hj hhd hnp hin hrt hdg hrc h hcw
      obtain ⟨h1, h2, h3, h4⟩ := h
      obtain ⟨h2, hk9⟩ := h2
      obtain ⟨n1, n2⟩ := npar_v hnp
      unfold rcq at hrc
      split at hrc
      · rename_i a t hst
        obtain ⟨d1, d2, d3⟩ := drop_ref n2 hst
        have h4' := h4
        rw [d1, List.reverse_append] at h4'
        have hlen : (((st.take (mi_na (minfo j) - 1)).reverse).map (rV base ro)).length = mi_na (minfo j) - 1 := by
          rw [List.length_map, List.length_reverse, List.length_take]; omega
        have hstk : st.map (rV base ro) = (((st.take (mi_na (minfo j) - 1)).reverse).map (rV base ro)).reverse ++ .ref (rA base ro a) :: (st.drop (mi_na (minfo j))).map (rV base ro) := by
          rw [rest_map (base := base) (ro := ro) (st := st) (n := mi_na (minfo j)), d1, d2]
          simp [rV]
        have hp9 : PreS s H (PcO D cA base ro d j ([.ref a].reverse ++ (st.take (mi_na (minfo j) - 1)).reverse) μ (kC (fun s2 μ2 => XW p l e R s m args below meth c Qe D cA base ro M μ0 (pc + 3) ls s2 μ2 (chg M μ μ2 u (mi_al (minfo j)))) (st.drop (mi_na (minfo j))) (thr M Q (XW p l e R s m args below meth c Qe D cA base ro M μ0) pc ls (uad u (mi_al (minfo j)))))) (.ref (rA base ro a) :: ((st.take (mi_na (minfo j) - 1)).reverse).map (rV base ro)) :=
          ⟨PcO.blind, fun U hU hW => ⟨rfl, hR.wd C hU hW, h4'⟩⟩
        rcases hcw a t hst with hcw | hcw
        · exact run_cal C hM htb hlk hQe hR h3 (vx_runI S (hctr j hj D cA base ro ([.ref a].reverse ++ (st.take (mi_na (minfo j) - 1)).reverse) μ _) hcw hp9 rfl hlen hL.1 hstk (cat8 h1 _ rfl) hdg (room_f hRc hRs h3))
        · exact run_cal C hM htb hlk hQe hR h3 (vx_runIN S (hctr j hj D cA base ro ([.ref a].reverse ++ (st.take (mi_na (minfo j) - 1)).reverse) μ _) hcw hp9 rfl hlen hL.1 hstk (cat8 h1 _ rfl) hdg (room_f hRc hRs h3))
      · exact hrc.elim
    split at h
    · -- Object.<init>
      obtain ⟨a, r, rfl, h1, h2⟩ := pA_inv h
      exact W.objInit hx hb hown (hts _ (hw _ (by simp [cwd]))) (hts _ (hw _ (by simp [cwd]))) (hts _ cwO) rfl (by rw [hml]; exact hL.1) rfl hdg (by omega) (by show 2 * 0 + _ + 12 ≤ _; rw [cat_map]; omega) (h2 H locs rls hR)
    · -- arraycopy
      obtain ⟨n, r, rfl, g0⟩ := pI_inv h
      obtain ⟨dp, r, rfl, g1⟩ := pI_inv g0
      obtain ⟨a, r, rfl, g2⟩ := pA_inv g1
      obtain ⟨sp, r, rfl, g3⟩ := pI_inv g2
      obtain ⟨b, r, rfl, h1, h2, h3, h4, h5, h6, h7, h8, h9, h10⟩ := pA_inv g3
      have hml9 : c.maxLocals = rls.size := by rw [hml]; exact hL.1.symm
      have hfin : ∀ (H1 : Heap) (locs1 : List Loc), Pic D cA base ro (uA μ a (va_cpy (mI μ b) (mI μ a) sp.toNatClampNeg dp.toNatClampNeg n.toNatClampNeg)) H1 → va_S (isO base) s.heap H1 locs1 → W p l e R s m args below meth c H1 locs1 u.1 u.2 Qe (F0 m (pc + 3) rls (r.map (rV base ro))) :=
        fun H1 locs1 g1 g2 => h10 H1 locs1 rls ⟨g1, ⟨hRO.sm (Sm.rfl'.oA h1), hSm.oA h1⟩, g2, hL, hu⟩
      have h4' : 1000 ≤ b ∨ b < 1000 ∧ ∀ i, i < (mS μ b).2 → (mI μ b i).toInt8.toInt32 = mI μ b i := by
        generalize isS M = b9 at h4
        cases b9
        · exact Or.inl h4
        · rcases Nat.lt_or_ge b 1000 with q | q
          · exact Or.inr ⟨q, h4⟩
          · exact Or.inl q
      rcases h4' with h4 | ⟨hb1, hbyt⟩
      rotate_left
      · obtain ⟨g1, g2, -, -⟩ := hRO.1 b hb1
        rcases h3 with ⟨h3a, h3b⟩ | ⟨h3a, h3b⟩
        · exact pg_copyR (ty := .int) (t0 := 0) C hP hS h1 hb1 h3a (by decide) (g1 h3b) (fun μ' x h => cE_20 h) rfl rfl (fun _ _ => rfl) (fun z => by cases z) h5 h6 h7 h8 h9 hml9 (hts _ (hw _ (by simp [cwd]))) (hts _ (hw _ (by simp [cwd]))) (hts _ (hw _ (by simp [cwd]))) (hts _ (hw _ (by simp [cwd]))) (by rw [cat_map]; exact h2) hdg hfin
        · have hba := (hP.2.2 a h1 (by rw [h3a]; decide)).2.2 h3a
          exact pg_copyR (ty := .byte) (t0 := 1) C hP hS h1 hb1 h3a (by decide) (g2 h3b) (fun μ' x h => cE_21 h) rfl rfl (fun i hi => b8_fit (hbyt i hi)) (fun _ i => ⟨hbyt i, hba i⟩) h5 h6 h7 h8 h9 hml9 (hts _ (hw _ (by simp [cwd]))) (hts _ (hw _ (by simp [cwd]))) (hts _ (hw _ (by simp [cwd]))) (hts _ (hw _ (by simp [cwd]))) (by rw [cat_map]; exact h2) hdg hfin
      rcases h3 with ⟨h3a, h3b⟩ | ⟨h3a, h3b⟩
      · exact pg_copy0 (ty := .int) (t0 := 0) C hP hS h1 h4 h3a h3b (by decide) (fun μ' x h => cE_20 h) rfl rfl (fun _ => rfl) (fun z => by cases z) h5 h6 h7 h8 h9 hml9 (hts _ (hw _ (by simp [cwd]))) (hts _ (hw _ (by simp [cwd]))) (hts _ (hw _ (by simp [cwd]))) (hts _ (hw _ (by simp [cwd]))) (by rw [cat_map]; exact h2) hdg hfin
      · have hbb := (hP.2.2 b h4 (by rw [h3b]; decide)).2.2 h3b
        have hba := (hP.2.2 a h1 (by rw [h3a]; decide)).2.2 h3a
        exact pg_copy0 (ty := .byte) (t0 := 1) C hP hS h1 h4 h3a h3b (by decide) (fun μ' x h => cE_21 h) rfl rfl (fun i => b8_fit (hbb i)) (fun _ i => ⟨hbb i, hba i⟩) h5 h6 h7 h8 h9 hml9 (hts _ (hw _ (by simp [cwd]))) (hts _ (hw _ (by simp [cwd]))) (hts _ (hw _ (by simp [cwd]))) (hts _ (hw _ (by simp [cwd]))) (by rw [cat_map]; exact h2) hdg hfin
    · -- clone of an array of bytes
      obtain ⟨a, r, rfl, h1, h5, ha, hs, hul, h2⟩ := pA_inv h
      have hX := hP.2.1
      exact pg_clone C hP hRO hS ha hs (by rw [hml]; exact hL.1.symm) (hts _ (hw _ (by simp [cwd]))) (hts _ (hw _ (by simp [cwd]))) (hts _ (hw _ (by simp [cwd]))) (hts _ (hw _ (by simp [cwd]))) (hts _ (hw _ (by simp [cwd]))) (by rw [hRc]; exact hul.1) (by rw [hRs]; exact hul.2) (by rw [cat_map]; exact h1) hdg fun H1 g1 g2 => h2 H1 locs rls ⟨g1, ⟨hRO.sm ((Sm.rfl'.oN hX).oA hX), (hSm.oN hX).oA hX⟩, g2, hL, hul⟩
    · -- named in the class above, found in the class below
      obtain ⟨o1, o2, o3, o4, o5, o6, o7⟩ := hok
      obtain ⟨hrc, h1, h2, h3, h4⟩ := h
      obtain ⟨h2, hk9⟩ := h2
      obtain ⟨n1, n2⟩ := npar_v o3
      obtain ⟨m1, m2, m3, m4, m5, m6⟩ := chkM _ (minfo_mem (j := j) (by omega))
      obtain ⟨l1, l2, -⟩ := chkM _ (minfo_mem (j := 7) (by omega))
      unfold rcv at hrc
      split at hrc
      · rename_i a t hst
        obtain ⟨d1, d2, d3⟩ := drop_ref n2 hst
        have hcell := hR.cell C o6 hrc
        have h4' := h4
        rw [d1, List.reverse_append] at h4'
        have hx7 : (parseMethodDescriptor (mi_y (minfo 7)).desc).map (fun d => d.parameters.length) = some (mi_na (minfo j) - 1) := by rw [o7]; decide +kernel
        have hc7 : Cond.code ⟨(mi_y (minfo 7)).cls, (mi_y (minfo 7)).name, (mi_y (minfo 7)).desc⟩ (mi_c (minfo 7)) (mi_L (minfo 7)) (mi_rt (minfo 7)) ∈ ALLG := chkW 7 (by omega)
        refine run_cal C hM htb hlk hQe hR h3 (vx_runU (n := mi_na (minfo j) - 1) (C := (kcl (rkd j)).1) (owner := (mi_y (minfo 7)).cls) (x := mi_y (minfo 7)) (b := rA base ro a) (As := ((st.take (mi_na (minfo j) - 1)).reverse).map (rV base ro)) S (hctr j o1 D cA base ro ([.ref a].reverse ++ (st.take (mi_na (minfo j) - 1)).reverse) μ _) (va_cwO (mi_na (minfo j) - 1) hts (gI (ws_app o1 hw)) (ws_none o2) rfl rfl hc7 ⟨l2.1, l2.2, hx7⟩ (room_ok hCt hk9)) ⟨PcO.blind, hcell, fun U hU hW => ⟨rfl, hR.wd C hU hW, h4'⟩⟩ rfl ?_ hL.1 ?_ (cat8 h1 _ rfl) hdg (room_f hRc hRs h3))
        · rw [List.length_map, List.length_reverse, List.length_take]; omega
        · show st.map (rV base ro) = _
          rw [rest_map (base := base) (ro := ro) (st := st) (n := mi_na (minfo j)), d1, d2]
          simp [rV]
      · exact hrc.elim
    · obtain ⟨y, r, rfl, h0⟩ := pI_inv h
      obtain ⟨x, r, rfl, h1, h2⟩ := pI_inv h0
      exact va_mmax hx hb (by rw [hml]; exact hL.1.symm) hown (hts _ (hw _ (by simp [cwd]))) (hts _ (hw _ (by simp [cwd]))) (hts _ (hw _ (by simp [cwd]))) (hts _ cwMax) (by omega) (by rw [cat_map]; omega) (by rw [hRc]; exact hu.1) (by rw [hRs]; exact hu.2) hdg (h2 H locs rls hR)
    · obtain ⟨y, r, rfl, h0⟩ := pI_inv h
      obtain ⟨x, r, rfl, h1, h2⟩ := pI_inv h0
      exact va_mmin hx hb (by rw [hml]; exact hL.1.symm) hown (hts _ (hw _ (by simp [cwd]))) (hts _ (hw _ (by simp [cwd]))) (hts _ (hw _ (by simp [cwd]))) (hts _ cwMin) (by omega) (by rw [cat_map]; omega) (by rw [hRc]; exact hu.1) (by rw [hRs]; exact hu.2) hdg (h2 H locs rls hR)
    · exact kS hok.1 hok.2.1 hok.2.2.1 hw hdg h
    · -- nest static
      obtain ⟨o1, o2, o3, o4⟩ := hok
      obtain ⟨h1, h2, h3, h4⟩ := h
      obtain ⟨h2, hk9⟩ := h2
      obtain ⟨m1, m2, m3, m4, m5, m6⟩ := chkM _ (minfo_mem (j := j) (by omega))
      refine run_cal C hM htb hlk hQe hR h3 (vx_runSN (n := mi_na (minfo j)) (As := ((st.take (mi_na (minfo j))).reverse).map (rV base ro)) S (hctr j o1 D cA base ro _ μ _) ⟨va_cnB (mi_na (minfo j)) hts (gI (ws_in o1)) (ws_none o2) rfl rfl (hRO.2.2.2.2.1 _ hn20 _ hmem (Or.inr rfl)) (hts _ (hw _ (by simp [cwd]))) ⟨m2.1, m2.2, npar_s o3⟩ (room_ok hCt hk9), hts _ (hw _ (by simp [cwd])), trivial⟩ ⟨PcO.blind, fun U hU hW => ⟨rfl, hR.wd C hU hW, h4⟩⟩ rfl ?_ hL.1 rest_map (cat8 h1 _ rfl) hdg (room_f hRc hRs h3))
      rw [List.length_map, List.length_reverse, List.length_take]; omega
    · -- a static method with a handler
      obtain ⟨o1, o2, o3, o4⟩ := hok
      obtain ⟨h1, h2, h3, h4⟩ := h
      obtain ⟨h2, hk9⟩ := h2
      obtain ⟨m1, m2, m3, m4, m5, m6⟩ := chkM _ (minfo_mem (j := j) (by omega))
      obtain ⟨⟨f, t, h0, h9, k9⟩, hhd⟩ := Option.isSome_iff_exists.mp o2
      refine run_cal C hM htb hlk hQe hR h3 (vx_runSX (n := mi_na (minfo j)) (As := ((st.take (mi_na (minfo j))).reverse).map (rV base ro)) S (hctr j o1 D cA base ro _ μ _) (vx_cwSW (mi_na (minfo j)) hts (gI (ws_app o1 hw)) (ws_some hhd) rfl rfl ⟨m2.1, m2.2, npar_s o3⟩ (room_ok hCt hk9)) ⟨PcO.blind, fun U hU hW => ⟨rfl, hR.wd C hU hW, h4⟩⟩ rfl ?_ hL.1 rest_map (cat8 h1 _ rfl) hdg (room_f hRc hRs h3))
      rw [List.length_map, List.length_reverse, List.length_take]; omega
    · exact kS hok.1 hok.2.1 hok.2.2.1 hw hdg h
    · obtain ⟨o1, o2, o3, o4, o5, o6⟩ := hok
      obtain ⟨m1, m2, m3, m4, m5, m6⟩ := chkM _ (minfo_mem (j := j) (by omega))
      exact kI o1 o2 o3 o5 o6 hdg h.1 h.2 fun _ _ _ => Or.inl (cwI (mi_na (minfo j) - 1) hts (gI (ws_in o1)) (by rw [ws_none o2, o6]) rfl rfl (hts _ (hw _ (by simp [cwd]))) (hts _ (hw _ (by simp [cwd]))) (hts _ (hw _ (by simp [cwd]))) o5 ⟨m2.1, m2.2, (npar_v o3).1⟩ (room_ok hCt h.2.2.1.2))
    · obtain ⟨o1, o2, o3, o4, o5, o6⟩ := hok
      obtain ⟨m1, m2, m3, m4, m5, m6⟩ := chkM _ (minfo_mem (j := j) (by omega))
      exact kI o1 o2 o3 o5 o6 hdg h.1 h.2 fun _ _ _ => Or.inr ⟨va_cnB (mi_na (minfo j) - 1) hts (gI (ws_in o1)) (by rw [ws_none o2, o6]) rfl rfl (hRO.2.2.2.2.1 _ hn20 _ hmem (Or.inl rfl)) (hts _ (hw _ (by simp [cwd]))) ⟨m2.1, m2.2, (npar_v o3).1⟩ (room_ok hCt h.2.2.1.2), o5, hts _ (hw _ (by simp [cwd]))⟩
    · obtain ⟨o1, o2, o3, o4, o5, o6, o7⟩ := hok
      exact kV o1 o2 o3 o6 o7 hw hdg h.1 h.2
    · -- inherited
      obtain ⟨o1, o2, o3, o4, o5, o6⟩ := hok
      obtain ⟨hrc, h1, h2, h3, h4⟩ := h
      obtain ⟨h2, hk9⟩ := h2
      obtain ⟨n1, n2⟩ := npar_v o3
      obtain ⟨m1, m2, m3, m4, m5, m6⟩ := chkM _ (minfo_mem (j := j) (by omega))
      unfold rcv at hrc
      split at hrc
      · rename_i a t hst
        obtain ⟨d1, d2, d3⟩ := drop_ref n2 hst
        have hcell := hR.cell C o6 hrc
        have h4' := h4
        rw [d1, List.reverse_append] at h4'
        refine run_cal C hM htb hlk hQe hR h3 (vx_runU (n := mi_na (minfo j) - 1) (C := (kcl (rkd j)).1) (owner := (mi_y (minfo j)).cls) (b := rA base ro a) (As := ((st.take (mi_na (minfo j) - 1)).reverse).map (rV base ro)) S (hctr j o1 D cA base ro ([.ref a].reverse ++ (st.take (mi_na (minfo j) - 1)).reverse) μ _) (va_cwU (mi_na (minfo j) - 1) hts (gI (ws_app o1 hw)) (ws_none o2) rfl rfl rfl ⟨m2.1, m2.2, n1⟩ (room_ok hCt hk9)) ⟨PcO.blind, hcell, fun U hU hW => ⟨rfl, hR.wd C hU hW, h4'⟩⟩ rfl ?_ hL.1 ?_ (cat8 h1 _ rfl) hdg (room_f hRc hRs h3))
        · rw [List.length_map, List.length_reverse, List.length_take]; omega
        · show st.map (rV base ro) = _
          rw [rest_map (base := base) (ro := ro) (st := st) (n := mi_na (minfo j)), d1, d2]
          simp [rV]
      · exact hrc.elim
    · obtain ⟨o1, o2, o3, o4, o5, o6, o7⟩ := hok
      exact kV o1 o2 o3 o6 o7 hw hdg h.1 h.2
    · -- super
      obtain ⟨o1, o2, o3, o4, o5, o6⟩ := hok
      obtain ⟨hrc, h1, h2, h3, h4⟩ := h
      obtain ⟨h2, hk9⟩ := h2
      obtain ⟨n1, n2⟩ := npar_v o3
      obtain ⟨m1, m2, m3, m4, m5, m6⟩ := chkM _ (minfo_mem (j := j) (by omega))
      unfold rcv at hrc
      split at hrc
      · rename_i a t hst
        obtain ⟨d1, d2, d3⟩ := drop_ref n2 hst
        have hcell := hR.cell C o6 hrc
        have h4' := h4
        rw [d1, List.reverse_append] at h4'
        refine run_cal C hM htb hlk hQe hR h3 (vx_runSU (n := mi_na (minfo j) - 1) (C := (kcl (rkd j)).1) (b := rA base ro a) (As := ((st.take (mi_na (minfo j) - 1)).reverse).map (rV base ro)) (hK.1 (rkd j) _ (chkK _ o6).1).2 S (hctr j o1 D cA base ro ([.ref a].reverse ++ (st.take (mi_na (minfo j) - 1)).reverse) μ _) (va_cwSU (mi_na (minfo j) - 1) hts (gI (ws_app o1 hw)) (ws_none o2) rfl rfl ⟨o5, n1⟩ (room_ok hCt hk9)) ⟨PcO.blind, hcell, fun U hU hW => ⟨rfl, hR.wd C hU hW, h4'⟩⟩ rfl ?_ hL.1 ?_ (cat8 h1 _ rfl) hdg (room_f hRc hRs h3))
        · rw [List.length_map, List.length_reverse, List.length_take]; omega
        · show st.map (rV base ro) = _
          rw [rest_map (base := base) (ro := ro) (st := st) (n := mi_na (minfo j)), d1, d2]
          simp [rV]
      · exact hrc.elim
    · exact h.elim
  · exact h.elim
end InvRows
