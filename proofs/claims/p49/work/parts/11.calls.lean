/-! calls: contracts of all methods at a depth give the contracts a depth higher -/
def rmD (_d : Nat) (M : MI) : Room := { frames := (mi_ht M).1, locals := (mi_ht M).2, cells := (mi_al M).1, slots := (mi_al M).2 }
def PcO (D : va_G) (cA : Nat → ClassId) (base : Nat) (ro : Nat → Nat) (d j : Nat) (args : List Value) (μ : Mu) (Q : Po) : Array Value → State → Prop := fun v U => v = (args.map (rV base ro)).toArray ∧ Wd D cA base ro μ U ∧ Ev d j args μ Q
def Ctr (l : Launch) (d j : Nat) : Prop := ∀ (D : va_G) (cA : Nat → ClassId) (base : Nat) (ro : Nat → Nat) (args : List Value) (μ : Mu) (Q : Po),
  vx_Met l (mi_y (minfo j)) (ws (minfo j)) (rmD d (minfo j)) (PcO D cA base ro d j args μ Q) (QcO D cA base ro Q μ) (XCO D cA base ro Q μ (mi_th (minfo j))) (mi_al (minfo j)).1 (mi_al (minfo j)).2 (isO base)
theorem PcO.blind {D : va_G} {cA : Nat → ClassId} {base : Nat} {ro : Nat → Nat} {d j : Nat} {args : List Value} {μ : Mu} {Q : Po} : FrameBlind (PcO D cA base ro d j args μ Q) := by
  intro a U g mk h
  obtain ⟨h1, ⟨h2, h3, h4⟩, h5⟩ := h
  have hW : U.WarmedH (U.calling g mk a).vm := State.WarmedH.refl U
  exact ⟨h1, ⟨h2, h3.moved hW.alike, RO.warm hW h4⟩, h5⟩
theorem chkHd : mtab.all (fun M => (mi_hd M).isNone) = true := by decide +kernel
theorem hd_none {M : MI} (hM : M ∈ mtab) : mi_hd M = none := by
  have h1 := List.all_eq_true.mp chkHd M hM
  exact Option.isNone_iff_eq_none.mp h1
theorem chkHt : ∀ M ∈ mtab, 1 ≤ (mi_ht M).1 ∧ (mi_th M = true → 6 ≤ (mi_ht M).1) ∧ 130 ≤ (mi_ht M).2 := by decide +kernel
theorem hdOk_th {M : MI} (hM : M ∈ mtab) (h : mi_th M = true) : mi_hd M = none := hd_none hM
theorem minfo_mem {j : Nat} (h : j < 195) : minfo j ∈ mtab := by
  have hl : mtab.length = 195 := mtab_len
  unfold minfo
  rw [List.getD_eq_getElem?_getD, List.getElem?_eq_getElem (by omega)]
  exact List.getElem_mem _
theorem gI {L : List Cond} (h : ∀ w ∈ L, w ∈ ALLG) : GoodIn ALLG L := fun w hw => ⟨h w hw, good_of_word (allG_good w (h w hw))⟩
theorem ws_in {j : Nat} (h : j < 194) : ∀ w ∈ ws (minfo j), w ∈ ALLG := by
  intro w hw
  rcases List.mem_cons.mp hw with e | h1
  · rw [e]; exact chkW j h
  · exact h1
theorem ws_app {j : Nat} (h : j < 194) {L : List Cond} (hL : ∀ w ∈ L, w ∈ ALLG) : ∀ w ∈ L ++ ws (minfo j), w ∈ ALLG := fun w hw => (List.mem_append.mp hw).elim (hL w) (ws_in h w)
theorem ws_none {M : MI} (h : mi_hd M = none) : ws M = Cond.code (mi_y M) (mi_c M) (mi_L M) (mi_rt M) :: ALLG := by unfold ws mw; rw [h]
theorem ws_some {M : MI} {f t h0 h k : Nat} (hh : mi_hd M = some (f, t, h0, h, k)) : ws M = Cond.codeWith (mi_y M) (mi_c M) (mi_L M) (mi_rt M) [(f, t, h0, 13)] :: ALLG := by unfold ws mw; rw [hh]
section CallRows
variable {p : Program} {l : Launch} {e : Env} {R : Room} {s : State} {m : MethodId} {args : Array Value} {below : List Frame} {meth : Method} {c : Code} {H : Heap} {locs : List Loc} {Qe : State → Prop} {cells slots : Nat}
variable {M : MI} {D : va_G} {cA : Nat → ClassId} {base : Nat} {ro : Nat → Nat} {μ μ0 : Mu} {pc : Nat} {rls : Array Slot} {r : List Value}
/-- the method's own table of handlers -/
def Tb (M : MI) (c : Code) : Prop := match mi_hd M with
  | none => mi_th M = true → ∀ x ∈ c.exceptionTable.toList, False
  | some (f, t, h0, _, _) => c.exceptionTable.toList = tableOf [(f, t, h0, 13)]
theorem stand_same {T T' : State} {locs' : List Loc} {k1 k2 c1 c2 : Nat} (X : Stand p l e R s m args below meth c T locs k1 k2) (X' : Stand p l e R s m args below meth c T' locs' c1 c2) (hz : SZ T.heap T'.heap) (hs : T'.heap.size = T.heap.size) : Stand p l e R s m args below meth c T' locs' k1 k2 := by
  have h3 : T.heap.size ≤ s.heap.size + k1 := X.same.2.2.1
  have h5 : ((T.heap.toList.drop s.heap.size).map (·.slots.size)).sum ≤ k2 := X.same.2.2.2.2.1
  have e : (T'.heap.toList.drop s.heap.size).map (·.slots.size) = (T.heap.toList.drop s.heap.size).map (·.slots.size) := by
    apply List.ext_getElem?
    intro i
    rw [List.getElem?_map, List.getElem?_map, List.getElem?_drop, List.getElem?_drop, Array.getElem?_toList, Array.getElem?_toList]
    cases hc : T.heap[s.heap.size + i]? with
    | none =>
      have : T'.heap[s.heap.size + i]? = none := by
        rw [Array.getElem?_eq_none_iff] at hc ⊢
        omega
      rw [this]
    | some c0 =>
      obtain ⟨c', q1, q2⟩ := hz _ _ hc
      rw [q1]
      simp [q2]
  exact { X' with same := ⟨X'.same.1, X'.same.2.1, by show T'.heap.size ≤ _; rw [hs]; exact h3, X'.same.2.2.2.1, by show ((T'.heap.toList.drop s.heap.size).map (·.slots.size)).sum ≤ _; rw [e]; exact h5, X'.same.2.2.2.2.2⟩ }
theorem run_cal (C : Ctx p R s m args c M D cA base) (hM : M ∈ mtab) (htb : Tb M c) (hlk : meth.locks = false) {Q : Po} (hQe : Qe = vx_MQ below (QcO D cA base ro Q μ0) (XCO D cA base ro Q μ0 (mi_th M)) args s (mi_al M).1 (mi_al M).2 (isO base))
    {ls : LV} {st0 rest : List Value} {a9 : Array Value} {u al : Nat × Nat} {th : Bool} (hR : Rl D cA base ro M s μ0 ls μ u H locs rls) (hu' : ule (uad u al) (mi_al M))
    (hr : vx_Run p l e R s m args below meth c H locs u.1 u.2 al.1 al.2 (F0 m pc rls st0) (rest.map (rV base ro))
      (QcO D cA base ro (kC (fun s2 μ2 => XW p l e R s m args below meth c Qe D cA base ro M μ0 (pc + 3) ls s2 μ2 (chg M μ μ2 u al)) rest (thr M Q (XW p l e R s m args below meth c Qe D cA base ro M μ0) pc ls (uad u al))) μ a9)
      (XCO D cA base ro (kC (fun s2 μ2 => XW p l e R s m args below meth c Qe D cA base ro M μ0 (pc + 3) ls s2 μ2 (chg M μ μ2 u al)) rest (thr M Q (XW p l e R s m args below meth c Qe D cA base ro M μ0) pc ls (uad u al))) μ th) (isO base)) :
    W p l e R s m args below meth c H locs u.1 u.2 Qe (F0 m pc rls st0) := by
  have hR0 := hR
  obtain ⟨hP, ⟨hRO, hSm⟩, hS, hL, hu⟩ := hR0
  intro T hT Xs
  rcases hr T hT Xs with ⟨v, st₀, t, T', L, h0, X', hLL, e1, e2, ⟨v0, μ', hv, hq, hp, hF, hsm, hsz⟩, st⟩ | ⟨q, st₀, t, T', L, E, ce, h0, X', hLL, e1, e2, ⟨hE, hth, μ', hq, hp, hF, hsm⟩, hce, hcv, hcl, st⟩
  · obtain ⟨k1, k2, k3⟩ := vx_keep h0 e1 hS (fun _ _ h => h) (fun _ h => h) hLL hF
    cases hv
    have hXX : XW p l e R s m args below meth c Qe D cA base ro M μ0 (pc + 3) ls (v0.toList ++ rest) μ' (chg M μ μ' u al) := by cases v0 <;> exact hq
    have hst : Stand p l e R s m args below meth c T' (locs ++ L) (chg M μ μ' u al).1 (chg M μ μ' u al).2 ∧ ule (chg M μ μ' u al) (mi_al M) := by
      unfold chg
      generalize isL M = b9
      cases b9
      · exact ⟨X', hu'⟩
      · dsimp only
        split
        · rename_i hmx
          refine ⟨stand_same Xs X' (by rw [e1, hT, ← h0]; exact hsz) ?_, hu⟩
          have q1 := hP.1
          have q2 := hp.1
          rw [e1, hT]; omega
        · exact ⟨X', hu'⟩
    obtain ⟨t2, a1, b1⟩ := hXX T'.heap (locs ++ L) rls ⟨by rw [e1]; exact hp, ⟨hRO.sm hsm, hSm.trans hsm⟩, k3, hL, hst.2⟩ T' rfl hst.1
    refine ⟨t2, st t2 ?_, b1⟩
    cases v0 <;> exact a1
  · obtain ⟨k1, k2, k3⟩ := vx_keep h0 e1 hS (fun _ _ h => h) (fun _ h => h) hLL hF
    subst hE
    have hR' : Rl D cA base ro M s μ0 ls μ' (uad u al) T'.heap (locs ++ L) rls := ⟨by rw [e1]; exact hp, ⟨hRO.sm hsm, hSm.trans hsm⟩, k3, hL, hu'⟩
    have hce' : T'.heap[q]? = some ce := by rw [e1]; exact hce
    have key : vx_W p l e R s m args below meth c T'.heap (locs ++ L) (uad u al).1 (uad u al).2 Qe (F0 m pc rls (rest.map (rV base ro))) q := by
      have hq' : thr M Q (XW p l e R s m args below meth c Qe D cA base ro M μ0) pc ls (uad u al) μ' := hq
      unfold thr at hq'
      split at hq'
      · rename_i hhd
        rw [hd_none hM] at hhd; cases hhd
      · rename_i hhd
        subst hQe
        unfold Tb at htb
        rw [hhd] at htb
        refine vx_out (fun x hx => (htb hq'.1 x hx).elim) hlk hce' hcv hcl (fun t9 ht9 _ => ⟨rfl, hq'.1, μ', hq'.2.2, by rw [ht9]; exact hR'.1, k3.F ht9, hR'.2.1.2⟩) k3.2.2 hq'.2.1.1 hq'.2.1.2
    obtain ⟨t2, a1, b1⟩ := key T' rfl X'
    exact ⟨t2, st.trans a1, b1⟩
/-- the world that a called method starts in -/
theorem Rl.wd (C : Ctx p R s m args c M D cA base) {ls : LV} {u : Nat × Nat} (hR : Rl D cA base ro M s μ0 ls μ u H locs rls) {U : State} (hU : U.heap = H) (hW : s.WarmedH U.vm) : Wd D cA base ro μ U := by
  obtain ⟨hx, hb, hml, hown, hts, hK, hbase, hn20, hRc, hRs, hRf, hRl⟩ := C
  obtain ⟨hP, ⟨hRO, hSm⟩, hS, hL, hu⟩ := hR
  subst hU
  exact ⟨hP, hK.moved hW.alike, (RO.warm hW hRO).kept hS.2.1⟩
theorem Rl.cell (C : Ctx p R s m args c M D cA base) {ls : LV} {u : Nat × Nat} (hR : Rl D cA base ro M s μ0 ls μ u H locs rls) {a ci : Nat} (hci : ci ∈ kds) (hs : mS μ a = (ci, cnf ci)) : ∃ cellB : Cell, H[rA base ro a]? = some cellB ∧ cellB.vm.isStatics = false ∧ s.vm.findClass (kcl ci).1 = some cellB.cls := by
  obtain ⟨hx, hb, hml, hown, hts, hK, hbase, hn20, hRc, hRs, hRf, hRl⟩ := C
  obtain ⟨hP, ⟨hRO, hSm⟩, hS, hL, hu⟩ := hR
  rcases Nat.lt_or_ge a 1000 with ha | ha
  · obtain ⟨g1, g2, g3, g4⟩ := hRO.1 a ha
    rw [hs] at g3 g4
    have hc0 : ci = 0 := by
      have := kds_lt hci
      dsimp only at g4
      omega
    subst hc0
    obtain ⟨⟨cell, z1, z2, z3, z4⟩, -⟩ := g3 rfl
    rw [rA_ro ha]
    exact ⟨cell, by rw [hS.2.1 _ (Array.getElem?_eq_some_iff.mp z1).1 z4]; exact z1, z2, z3⟩
  · obtain ⟨w1, w2, -⟩ := hP.2.2 a ha (by rw [hs]; have := kds_lt hci; dsimp only; omega)
    rw [cE_obj hci hs] at w2
    exact va_recv hK (one_P w2) (q0 := 0) (chkK ci hci).1 rfl
theorem rest_map {st : List Value} {n : Nat} : (st.map (rV base ro)) = (((st.take n).reverse).map (rV base ro)).reverse ++ (st.drop n).map (rV base ro) := by
  rw [List.map_reverse, List.reverse_reverse, ← List.map_append, List.take_append_drop]
theorem cat_map (st : List Value) : ((st.map (rV base ro)).map fun v => v.category) = st.map fun v => v.category := by
  rw [List.map_map]
  exact List.map_congr_left fun v _ => rV_cat v
theorem drop_ref {st : List Value} {n : Nat} {a : Nat} {t : List Value} (hn : 0 < n) (h : st.drop (n - 1) = .ref a :: t) : st.take n = st.take (n - 1) ++ [.ref a] ∧ st.drop n = t ∧ n ≤ st.length := by
  have h1 : st = st.take (n - 1) ++ (.ref a :: t) := by rw [← h, List.take_append_drop]
  have hl : n - 1 < st.length := by
    rcases Nat.lt_or_ge (n - 1) st.length with g | g
    · exact g
    · rw [List.drop_eq_nil_of_le g] at h; cases h
  have h2 : (st.take (n - 1)).length = n - 1 := by rw [List.length_take]; omega
  refine ⟨?_, ?_, by omega⟩
  · have : n = (n - 1) + 1 := by omega
    rw [this, List.take_add_one, List.getElem?_eq_getElem hl]
    simp only [Nat.add_sub_cancel, Option.toList_some]
    congr 2
    have := List.getElem_cons_drop (h := hl)
    rw [h] at this
    injection this
  · have e : st.drop n = (st.drop (n - 1)).drop 1 := by rw [List.drop_drop]; congr 1; omega
    rw [e, h]; rfl
end CallRows
