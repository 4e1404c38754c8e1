section SimRows
variable {p : Program} {l : Launch} {e : Env} {R : Room} {s : State} {m : MethodId} {args : Array Value} {below : List Frame} {meth : Method} {c : Code} {H : Heap} {locs : List Loc} {Qe : State → Prop} {cells slots : Nat}
variable {M : MI} {D : va_G} {cA : Nat → ClassId} {base : Nat} {ro : Nat → Nat}
def Ctx (p : Program) (R : Room) (s : State) (m : MethodId) (args : Array Value) (c : Code) (M : MI) (D : va_G) (cA : Nat → ClassId) (base : Nat) : Prop :=
  p.tables.exec = Jvm.exec ∧ c.code = mi_c M ∧ c.maxLocals = mi_L M ∧ s.vm.findClass (cnm.getD (mi_n M) "") = some m.cls ∧ (∀ w ∈ ALLG, w.before args s = true) ∧ va_K D vwCl (tysL cA) s ∧ base ≤ s.heap.size ∧ mi_n M < 20 ∧ R.cells = (mi_al M).1 ∧ R.slots = (mi_al M).2 ∧ (1 ≤ R.frames ∧ (mi_th M = true → 6 ≤ R.frames)) ∧ (130 ≤ R.locals ∧ (mi_ht M).1 ≤ R.frames ∧ (mi_ht M).2 ≤ R.locals)
def LR (base : Nat) (ro : Nat → Nat) (M : MI) (ls : LV) (rls : Array Slot) : Prop := rls.size = mi_L M ∧ ls.length = mi_L M ∧ lv_wf rls ∧ (mi_w M = false → ∀ (i : Nat) (v : Value), ls.getD i none = some v → v.category = 1) ∧ ∀ (i : Nat) (v : Value), ls.getD i none = some v → rls[i]? = some (.val (rV base ro v))
def lvE (base : Nat) (ro : Nat → Nat) (ls : LV) : List (Nat × Value) := (List.range ls.length).filterMap fun i => (ls.getD i none).map fun v => (i, rV base ro v)
theorem lvE_mem {ls : LV} {j : Nat} {w : Value} (h : ls.getD j none = some w) : (j, rV base ro w) ∈ lvE base ro ls := by
  have hj : j < ls.length := by
    rcases Nat.lt_or_ge j ls.length with g | g
    · exact g
    · rw [List.getD_eq_getElem?_getD, List.getElem?_eq_none g] at h; cases h
  exact List.mem_filterMap.mpr ⟨j, List.mem_range.mpr hj, by rw [h]; rfl⟩
theorem LR.has {ls : LV} {rls : Array Slot} (h : LR base ro M ls rls) : lv_has rls (mi_L M) (lvE base ro ls) := by
  refine ⟨h.1, h.2.2.1, fun q hq => ?_⟩
  obtain ⟨i, -, hi⟩ := List.mem_filterMap.mp hq
  obtain ⟨v, hv, rfl⟩ := Option.map_eq_some_iff.mp hi
  exact h.2.2.2.2 i v hv
theorem LR.lt {ls : LV} {rls : Array Slot} {i : Nat} {v : Value} (h : LR base ro M ls rls) (hv : ls.getD i none = some v) : i < mi_L M := by
  rcases Nat.lt_or_ge i ls.length with g | g
  · rw [← h.2.1]; exact g
  · rw [List.getD_eq_getElem?_getD, List.getElem?_eq_none g] at hv; cases hv
theorem rV_cat (v : Value) : (rV base ro v).category = v.category := by cases v <;> rfl
theorem LR.by {ls' : LV} {rls' : Array Slot} {lv' : List (Nat × Value)} (hn : ls'.length = mi_L M) (hc : mi_w M = false → ∀ (i : Nat) (v : Value), ls'.getD i none = some v → v.category = 1) (h' : lv_has rls' (mi_L M) lv') (hm : ∀ (j : Nat) (w : Value), ls'.getD j none = some w → (j, rV base ro w) ∈ lv') : LR base ro M ls' rls' :=
  ⟨h'.1, hn, h'.2.1, hc, fun i v hv => h'.2.2 _ (hm i v hv)⟩
theorem getD_set (ls : LV) (i j : Nat) (x : Option Value) : (ls.set i x).getD j none = if j = i ∧ i < ls.length then x else ls.getD j none := by
  rw [List.getD_eq_getElem?_getD, List.getElem?_set, List.getD_eq_getElem?_getD]
  by_cases h : i = j
  · subst h
    by_cases h2 : i < ls.length
    · simp [h2]
    · simp [h2, List.getElem?_eq_none (Nat.le_of_not_lt h2)]
  · rw [if_neg h, if_neg (fun q => h q.1.symm)]
theorem fixL_some {o : Option Value} {w : Value} (h : fixL o = some w) : o = some w ∧ w.category = 1 := by
  unfold fixL at h
  split at h
  · cases h
  · cases h
  · rename_i h1 h2
    subst h
    refine ⟨rfl, ?_⟩
    cases w <;> first | rfl | exact absurd rfl (h1 _) | exact absurd rfl (h2 _)
theorem flt1 {ls : LV} {i j : Nat} {v w : Value} (hj : j ≠ i) (h : ls.getD j none = some w) (hc : j + 1 = i → w.category = 1) :
    (j, rV base ro w) ∈ ((i, rV base ro v) :: (lvE base ro ls).filter (fun q => !(q.1 == i) && !(q.1 + 1 == i && q.2.category == 2))) := by
  refine List.mem_cons_of_mem _ (List.mem_filter.mpr ⟨lvE_mem h, ?_⟩)
  have e1 : (j == i) = false := by simpa using hj
  simp only [e1, Bool.not_false, Bool.true_and]
  by_cases g : j + 1 = i
  · have := hc g
    rw [← rV_cat (base := base) (ro := ro)] at this
    simp [this]
  · simp [g]
theorem LR.st1 {ls : LV} {rls rls' : Array Slot} {i : Nat} {v : Value} (h : LR base ro M ls rls) (hi : i < mi_L M) (hc : v.category = 1) (h' : lv_has rls' (mi_L M) ((i, rV base ro v) :: (lvE base ro ls).filter (fun q => !(q.1 == i) && !(q.1 + 1 == i && q.2.category == 2)))) : LR base ro M (sL1 (mi_w M) ls i v) rls' := by
  obtain ⟨h1, h2, h3, h4, h5⟩ := h
  unfold sL1
  split
  · rename_i hw
    refine LR.by (by simp [h2]) (fun _ j w hj => ?_) h' (fun j w hj => ?_)
    · rw [getD_set] at hj
      split at hj
      · cases hj; exact hc
      · exact h4 hw j w hj
    · rw [getD_set] at hj
      split at hj
      · rename_i hh; cases hj; rw [hh.1]; exact List.mem_cons_self
      · rename_i hh
        have hne : j ≠ i := fun q => hh ⟨q, by omega⟩
        exact flt1 hne hj (fun _ => h4 hw j w hj)
  · rename_i hw
    refine LR.by ?_ (fun q => by rw [hw] at q; cases q) h' (fun j w hj => ?_)
    · cases i <;> simp [h2]
    · cases i with
      | zero =>
        dsimp only at hj
        rw [getD_set] at hj
        split at hj
        · rename_i hh; cases hj; rw [hh.1]; exact List.mem_cons_self
        · rename_i hh
          exact flt1 (fun q => hh ⟨q, by omega⟩) hj (fun q => by omega)
      | succ k =>
        dsimp only at hj
        rw [getD_set] at hj
        split at hj
        · rename_i hh; cases hj; rw [hh.1]; exact List.mem_cons_self
        · rename_i hh
          have hne : j ≠ k + 1 := fun q => hh ⟨q, by simp; omega⟩
          rw [getD_set] at hj
          split at hj
          · rename_i h9
            obtain ⟨g1, g2⟩ := fixL_some hj
            exact flt1 hne (by rw [h9.1]; exact g1) (fun _ => g2)
          · rename_i h9
            exact flt1 hne hj (fun q => absurd ⟨by omega, by omega⟩ h9)
theorem LR.sti {ls : LV} {rls rls' : Array Slot} {i : Nat} {v : Value} {x : Int32} (h : LR base ro M ls rls) (hx : ls.getD i none = some (.int x)) (hc : v.category = 1) (h' : lv_has rls' (mi_L M) ((i, rV base ro v) :: (lvE base ro ls).filter (fun q => !(q.1 == i) && !(q.1 + 1 == i && q.2.category == 2)))) : LR base ro M (ls.set i (some v)) rls' := by
  obtain ⟨h1, h2, h3, h4, h5⟩ := h
  refine LR.by (by simp [h2]) (fun hw j w hj => ?_) h' (fun j w hj => ?_)
  · rw [getD_set] at hj
    split at hj
    · cases hj; exact hc
    · exact h4 hw j w hj
  · rw [getD_set] at hj
    split at hj
    · rename_i hh; cases hj; rw [hh.1]; exact List.mem_cons_self
    · rename_i hh
      have hi : i < ls.length := by
        rcases Nat.lt_or_ge i ls.length with g | g
        · exact g
        · rw [List.getD_eq_getElem?_getD, List.getElem?_eq_none g] at hx; cases hx
      refine flt1 (fun q => hh ⟨q, hi⟩) hj (fun q => ?_)
      rcases lv_cat w with g | g
      · exact g
      · exfalso
        have k1 := h3.1 j (rV base ro w) (h5 j w hj) (by rw [rV_cat]; exact g)
        rw [q, h5 i _ hx] at k1
        cases k1
def pre0 (ls : LV) (i : Nat) : LV := match i with | 0 => ls | k + 1 => ls.set k (fixL (ls.getD k none))
theorem pre0_eq (ls : LV) (i : Nat) (v : Value) : sL2 ls i v = ((pre0 ls i).set i (some v)).set (i + 1) none := by cases i <;> rfl
theorem pre2 (ls : LV) (i : Nat) (j : Nat) (w : Value) (h : (pre0 ls i).getD j none = some w) : ls.getD j none = some w ∧ (j + 1 = i → w.category = 1) := by
  cases i with
  | zero => exact ⟨h, fun q => by omega⟩
  | succ k =>
    dsimp only [pre0] at h
    rw [getD_set] at h
    by_cases g : j = k ∧ k < ls.length
    · rw [if_pos g] at h
      obtain ⟨g1, g2⟩ := fixL_some h
      exact ⟨by rw [g.1]; exact g1, fun _ => g2⟩
    · rw [if_neg g] at h
      refine ⟨h, fun q => absurd ⟨by omega, ?_⟩ g⟩
      rcases Nat.lt_or_ge k ls.length with z | z
      · exact z
      · rw [List.getD_eq_getElem?_getD, List.getElem?_eq_none (by omega)] at h; cases h
theorem len2 (ls : LV) (i : Nat) : (pre0 ls i).length = ls.length := by
  cases i <;> simp [pre0]
theorem LR.st2 {ls : LV} {rls rls' : Array Slot} {i : Nat} {v : Value} (h : LR base ro M ls rls) (hi : i + 1 < mi_L M) (hw : mi_w M = true) (h' : lv_has rls' (mi_L M) ((i, rV base ro v) :: (lvE base ro ls).filter (fun q => !(q.1 == i) && (!(q.1 == i + 1) && !(q.1 + 1 == i && q.2.category == 2))))) : LR base ro M (sL2 ls i v) rls' := by
  obtain ⟨h1, h2, h3, h4, h5⟩ := h
  have fl : ∀ (j : Nat) (w : Value), j ≠ i → j ≠ i + 1 → ls.getD j none = some w → (j + 1 = i → w.category = 1) → (j, rV base ro w) ∈ ((i, rV base ro v) :: (lvE base ro ls).filter (fun q => !(q.1 == i) && (!(q.1 == i + 1) && !(q.1 + 1 == i && q.2.category == 2)))) := by
    intro j w n1 n2 hj hc
    refine List.mem_cons_of_mem _ (List.mem_filter.mpr ⟨lvE_mem hj, ?_⟩)
    have e1 : (j == i) = false := by simpa using n1
    have e2 : (j == i + 1) = false := by simpa using n2
    simp only [e1, e2, Bool.not_false, Bool.true_and]
    by_cases g : j + 1 = i
    · have := hc g
      rw [← rV_cat (base := base) (ro := ro)] at this
      simp [this]
    · simp [g]
  rw [pre0_eq]
  have p1 := pre2 ls i
  have p2 := len2 ls i
  generalize pre0 ls i = l0 at p1 p2 ⊢
  refine LR.by (by simp [p2, h2]) (fun q => by rw [hw] at q; cases q) h' (fun j w hj => ?_)
  rw [getD_set] at hj
  by_cases c1 : j = i + 1 ∧ i + 1 < (l0.set i (some v)).length
  · rw [if_pos c1] at hj; cases hj
  · rw [if_neg c1, getD_set] at hj
    have m2 : j ≠ i + 1 := fun q => c1 ⟨q, by simp [p2, h2]; exact hi⟩
    by_cases c2 : j = i ∧ i < l0.length
    · rw [if_pos c2] at hj; cases hj; rw [c2.1]; exact List.mem_cons_self
    · rw [if_neg c2] at hj
      have m1 : j ≠ i := fun q => c2 ⟨q, by omega⟩
      obtain ⟨g1, g2⟩ := p1 j w hj
      exact fl j w m1 m2 g1 g2
theorem pV_inv {st : List Value} {f : Value → List Value → Prop} (h : pV st f) : ∃ v r, st = v :: r ∧ f v r := by
  unfold pV at h; split at h
  · exact ⟨_, _, rfl, h⟩
  · exact h.elim
theorem pI_inv {st : List Value} {f : Int32 → List Value → Prop} (h : pI st f) : ∃ v r, st = .int v :: r ∧ f v r := by
  unfold pI at h; split at h
  · exact ⟨_, _, rfl, h⟩
  · exact h.elim
theorem pL_inv {st : List Value} {f : Int64 → List Value → Prop} (h : pL st f) : ∃ v r, st = .long v :: r ∧ f v r := by
  unfold pL at h; split at h
  · exact ⟨_, _, rfl, h⟩
  · exact h.elim
theorem pD_inv {st : List Value} {f : UInt64 → List Value → Prop} (h : pD st f) : ∃ v r, st = .double v :: r ∧ f v r := by
  unfold pD at h; split at h
  · exact ⟨_, _, rfl, h⟩
  · exact h.elim
theorem pA_inv {st : List Value} {f : Nat → List Value → Prop} (h : pA st f) : ∃ v r, st = .ref v :: r ∧ f v r := by
  unfold pA at h; split at h
  · exact ⟨_, _, rfl, h⟩
  · exact h.elim
theorem lI_inv {ls : LV} {i : Nat} {f : Int32 → Prop} (h : lI ls i f) : ∃ v, ls.getD i none = some (.int v) ∧ f v := by
  unfold lI at h; split at h
  · exact ⟨_, by assumption, h⟩
  · exact h.elim
theorem lA_inv {ls : LV} {i : Nat} {f : Nat → Prop} (h : lA ls i f) : ∃ v, ls.getD i none = some (.ref v) ∧ f v := by
  unfold lA at h; split at h
  · exact ⟨_, by assumption, h⟩
  · exact h.elim
theorem lL_inv {ls : LV} {i : Nat} {f : Int64 → Prop} (h : lL ls i f) : ∃ v, ls.getD i none = some (.long v) ∧ f v := by
  unfold lL at h; split at h
  · exact ⟨_, by assumption, h⟩
  · exact h.elim
theorem lD_inv {ls : LV} {i : Nat} {f : UInt64 → Prop} (h : lD ls i f) : ∃ v, ls.getD i none = some (.double v) ∧ f v := by
  unfold lD at h; split at h
  · exact ⟨_, by assumption, h⟩
  · exact h.elim
theorem oki_inv {i L : Nat} {P : Prop} (h : oki i L P) : i < L ∧ P := by
  unfold oki at h; split at h
  · rename_i g; exact ⟨by simpa using g, h⟩
  · exact h.elim
theorem tgt_inv {pc : Nat} {off : Int} {f : Nat → Prop} (h : tgt pc off f) : ∃ t : Nat, (pc : Int) + off = (t : Int) ∧ f t := by
  unfold tgt at h; split at h
  · rename_i t g; exact ⟨t, g, h⟩
  · exact h.elim
theorem onR_inv {o : Option Nat} {P : Nat → Prop} (h : onR o P) : ∃ b, o = some b ∧ P b := by
  unfold onR at h; split at h
  · exact ⟨_, rfl, h⟩
  · exact h.elim
set_option maxHeartbeats 4000000 in
theorem sim_sop {ins : Instr} {n pc : Nat} {st : List Value} {rls : Array Slot} {f : List Value → Prop} (hx : p.tables.exec = Jvm.exec) (hb : c.code = mi_c M) (hdg : decode (mi_c M) pc = .ok (ins, n)) (hl : ilen ins n = true) (h : sop ins st f)
    (k : ∀ r, f r → W p l e R s m args below meth c H locs cells slots Qe (F0 m (pc + n) rls (r.map (rV base ro)))) : W p l e R s m args below meth c H locs cells slots Qe (F0 m pc rls (st.map (rV base ro))) := by
  unfold sop at h
  split at h
  case _ =>
    have en : n = 1 := eq_of_beq hl
    subst en
    exact lv_iconst hx hb hdg rfl (k _ h)
  case _ =>
    have en : n = 2 := eq_of_beq hl
    subst en
    exact lv_bipush hx hb hdg rfl (k _ h)
  case _ =>
    have en : n = 3 := eq_of_beq hl
    subst en
    exact lv_sipush hx hb hdg rfl (k _ h)
  case _ =>
    have en : n = 1 := eq_of_beq hl
    subst en
    exact lv_lconst hx hb hdg rfl (k _ h)
  case _ =>
    have en : n = 1 := eq_of_beq hl
    subst en
    split at h
    · exact lv_dconst0 hx hb hdg (k _ h)
    · exact h.elim
  case _ =>
    have en : n = 1 := eq_of_beq hl
    subst en
    exact lv_null hx hb hdg (k _ h)
  case _ =>
    have en : n = 1 := eq_of_beq hl
    subst en
    obtain ⟨y, r, rfl, h1⟩ := pI_inv h
    obtain ⟨x, r, rfl, h2⟩ := pI_inv h1
    exact lv_iadd hx hb hdg (k _ h2)
  case _ =>
    have en : n = 1 := eq_of_beq hl
    subst en
    obtain ⟨y, r, rfl, h1⟩ := pI_inv h
    obtain ⟨x, r, rfl, h2⟩ := pI_inv h1
    exact lv_isub hx hb hdg (k _ h2)
  case _ =>
    have en : n = 1 := eq_of_beq hl
    subst en
    obtain ⟨y, r, rfl, h1⟩ := pI_inv h
    obtain ⟨x, r, rfl, h2⟩ := pI_inv h1
    exact lv_imul hx hb hdg (k _ h2)
  case _ =>
    have en : n = 1 := eq_of_beq hl
    subst en
    obtain ⟨y, r, rfl, h1⟩ := pI_inv h
    obtain ⟨x, r, rfl, h2⟩ := pI_inv h1
    exact lv_iand hx hb hdg (k _ h2)
  case _ =>
    have en : n = 1 := eq_of_beq hl
    subst en
    obtain ⟨y, r, rfl, h1⟩ := pI_inv h
    obtain ⟨x, r, rfl, h2⟩ := pI_inv h1
    exact lv_ior hx hb hdg (k _ h2)
  case _ =>
    have en : n = 1 := eq_of_beq hl
    subst en
    obtain ⟨y, r, rfl, h1⟩ := pI_inv h
    obtain ⟨x, r, rfl, h2⟩ := pI_inv h1
    exact lv_idiv hx hb hdg h2.1 (k _ h2.2)
  case _ =>
    have en : n = 1 := eq_of_beq hl
    subst en
    obtain ⟨y, r, rfl, h1⟩ := pI_inv h
    obtain ⟨x, r, rfl, h2⟩ := pI_inv h1
    exact lv_irem hx hb hdg h2.1 (k _ h2.2)
  case _ =>
    have en : n = 1 := eq_of_beq hl
    subst en
    obtain ⟨x, r, rfl, h2⟩ := pI_inv h
    exact lv_ineg hx hb hdg (k _ h2)
  case _ =>
    have en : n = 1 := eq_of_beq hl
    subst en
    obtain ⟨y, r, rfl, h1⟩ := pI_inv h
    obtain ⟨x, r, rfl, h2⟩ := pI_inv h1
    exact lv_ishl hx hb hdg (k _ h2)
  case _ =>
    have en : n = 1 := eq_of_beq hl
    subst en
    obtain ⟨y, r, rfl, h1⟩ := pI_inv h
    obtain ⟨x, r, rfl, h2⟩ := pI_inv h1
    exact lv_ishr hx hb hdg (k _ h2)
  case _ =>
    have en : n = 1 := eq_of_beq hl
    subst en
    obtain ⟨y, r, rfl, h1⟩ := pI_inv h
    obtain ⟨x, r, rfl, h2⟩ := pI_inv h1
    exact lv_iushr hx hb hdg rfl (k _ h2)
  case _ =>
    have en : n = 1 := eq_of_beq hl
    subst en
    obtain ⟨y, r, rfl, h1⟩ := pL_inv h
    obtain ⟨x, r, rfl, h2⟩ := pL_inv h1
    exact lv_ladd hx hb hdg (k _ h2)
  case _ =>
    have en : n = 1 := eq_of_beq hl
    subst en
    obtain ⟨y, r, rfl, h1⟩ := pL_inv h
    obtain ⟨x, r, rfl, h2⟩ := pL_inv h1
    exact lv_lmul hx hb hdg (k _ h2)
  case _ =>
    have en : n = 1 := eq_of_beq hl
    subst en
    obtain ⟨y, r, rfl, h1⟩ := pL_inv h
    obtain ⟨x, r, rfl, h2⟩ := pL_inv h1
    exact lv_lrem hx hb hdg h2.1 (k _ h2.2)
  case _ =>
    have en : n = 1 := eq_of_beq hl
    subst en
    obtain ⟨y, r, rfl, h1⟩ := pL_inv h
    obtain ⟨x, r, rfl, h2⟩ := pL_inv h1
    exact W.lcmp hx hb hdg (k _ h2)
  case _ =>
    have en : n = 1 := eq_of_beq hl
    subst en
    obtain ⟨x, r, rfl, h2⟩ := pI_inv h
    exact lv_i2l hx hb hdg rfl (k _ h2)
  case _ =>
    have en : n = 1 := eq_of_beq hl
    subst en
    obtain ⟨x, r, rfl, h2⟩ := pL_inv h
    exact lv_l2i hx hb hdg rfl (k _ h2)
  case _ =>
    have en : n = 1 := eq_of_beq hl
    subst en
    obtain ⟨x, r, rfl, h2⟩ := pI_inv h
    exact lv_i2b hx hb hdg rfl (k _ h2)
  case _ =>
    have en : n = 1 := eq_of_beq hl
    subst en
    obtain ⟨x, r, rfl, h2⟩ := pI_inv h
    exact lv_i2c hx hb hdg rfl (k _ h2)
  case _ =>
    have en : n = 1 := eq_of_beq hl
    subst en
    obtain ⟨x, r, rfl, h2⟩ := pI_inv h
    exact lv_i2d hx hb hdg (k _ h2)
  case _ =>
    have en : n = 1 := eq_of_beq hl
    subst en
    obtain ⟨y, r, rfl, h1⟩ := pD_inv h
    obtain ⟨x, r, rfl, h2⟩ := pD_inv h1
    exact lv_ddiv hx hb hdg h2.1 (k _ h2.2)
  case _ =>
    have en : n = 1 := eq_of_beq hl
    subst en
    obtain ⟨y, r, rfl, h1⟩ := pD_inv h
    obtain ⟨x, r, rfl, h2⟩ := pD_inv h1
    exact lv_dcmp hx hb hdg (k _ h2)
  case _ =>
    have en : n = 1 := eq_of_beq hl
    subst en
    obtain ⟨v, r, rfl, h2⟩ := pV_inv h
    split at h2
    · exact lv_dup hx hb hdg rfl (k _ h2)
    · exact lv_dup hx hb hdg rfl (k _ h2)
    · exact h2.elim
  case _ =>
    have en : n = 1 := eq_of_beq hl
    subst en
    obtain ⟨v, r, rfl, h2⟩ := pV_inv h
    split at h2
    · exact lv_pop hx hb hdg rfl (k _ h2)
    · exact lv_pop hx hb hdg rfl (k _ h2)
    · exact h2.elim
  case _ =>
    have en : n = 1 := eq_of_beq hl
    subst en
    obtain ⟨x, r, rfl, h1⟩ := pI_inv h
    obtain ⟨y, r, rfl, h2⟩ := pA_inv h1
    exact lv_dup_x1 hx hb hdg rfl rfl (k _ h2)
  case _ =>
    have en : n = 1 := eq_of_beq hl
    subst en
    obtain ⟨x, r, rfl, h1⟩ := pI_inv h
    obtain ⟨y, r, rfl, h2⟩ := pA_inv h1
    exact lv_dup2_11 hx hb hdg rfl rfl (k _ h2)
  case _ => exact h.elim
end SimRows
