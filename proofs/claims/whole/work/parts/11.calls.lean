/-! calls: contracts of all methods at a depth give the contracts a depth higher -/
def rmD (d : Nat) (M : MI) : Room := { frames := d + 8, locals := 60 * d + 200, cells := (mi_al M).1, slots := (mi_al M).2 }
def PcO (D : va_G) (cA : Nat → ClassId) (base : Nat) (ro : Nat → Nat) (d j : Nat) (args : List Value) (μ : Mu) (Q : Po) : Array Value → State → Prop := fun v U => v = (args.map (rV base ro)).toArray ∧ Wd D cA base ro μ U ∧ Ev d j args μ Q
def Ctr (l : Launch) (d j : Nat) : Prop := ∀ (D : va_G) (cA : Nat → ClassId) (base : Nat) (ro : Nat → Nat) (args : List Value) (μ : Mu) (Q : Po),
  vx_Met l (mi_y (minfo j)) (ws (minfo j)) (rmD d (minfo j)) (PcO D cA base ro d j args μ Q) (QcO D cA base ro Q μ) (XCO D cA base ro Q μ (mi_th (minfo j))) (mi_al (minfo j)).1 (mi_al (minfo j)).2 (isO base)
theorem PcO.blind {D : va_G} {cA : Nat → ClassId} {base : Nat} {ro : Nat → Nat} {d j : Nat} {args : List Value} {μ : Mu} {Q : Po} : FrameBlind (PcO D cA base ro d j args μ Q) := by
  intro a U g mk h
  obtain ⟨h1, ⟨h2, h3, h4⟩, h5⟩ := h
  have hW : U.WarmedH (U.calling g mk a).vm := State.WarmedH.refl U
  exact ⟨h1, ⟨h2, h3.moved hW.alike, RO.warm hW h4⟩, h5⟩
def hdOk (M : MI) : Bool := match mi_hd M with
  | none => true
  | some (f, t, h0, h, k) => mi_n M == 19 && !(mi_w M) && !(mi_th M) && Nat.blt k (mi_L M) && (match decode (mi_c M) h0 with
    | .ok (.astore_n i, n) => i.val == k && n == 1 && h == h0 + 1
    | .ok (.astore i, n) => i == k && n == 2 && h == h0 + 2
    | _ => false)
set_option maxRecDepth 100000 in
theorem chkHd : mtab.all hdOk = true := by decide +kernel
theorem hdOk_th {M : MI} (hM : M ∈ mtab) (h : mi_th M = true) : mi_hd M = none := by
  have h1 := List.all_eq_true.mp chkHd M hM
  unfold hdOk at h1
  split at h1
  · assumption
  · rw [h] at h1; simp at h1
theorem minfo_mem {j : Nat} (h : j < 305) : minfo j ∈ mtab := by
  have hl : mtab.length = 305 := mtab_len
  unfold minfo
  rw [List.getD_eq_getElem?_getD, List.getElem?_eq_getElem (by omega)]
  exact List.getElem_mem _
theorem gI {L : List Cond} (h : ∀ w ∈ L, w ∈ ALLG) : GoodIn ALLG L := fun w hw => ⟨h w hw, good_of_word (allG_good w (h w hw))⟩
theorem ws_in {j : Nat} (h : j < 304) : ∀ w ∈ ws (minfo j), w ∈ ALLG := by
  intro w hw
  rcases List.mem_cons.mp hw with e | h1
  · rw [e]; exact chkW j h
  · exact h1
theorem ws_app {j : Nat} (h : j < 304) {L : List Cond} (hL : ∀ w ∈ L, w ∈ ALLG) : ∀ w ∈ L ++ ws (minfo j), w ∈ ALLG := fun w hw => (List.mem_append.mp hw).elim (hL w) (ws_in h w)
theorem ws_none {M : MI} (h : mi_hd M = none) : ws M = Cond.code (mi_y M) (mi_c M) (mi_L M) (mi_rt M) :: ALLG := by unfold ws mw; rw [h]
theorem ws_some {M : MI} {f t h0 h k : Nat} (hh : mi_hd M = some (f, t, h0, h, k)) : ws M = Cond.codeWith (mi_y M) (mi_c M) (mi_L M) (mi_rt M) [(f, t, h0, 13)] :: ALLG := by unfold ws mw; rw [hh]
section CallRows
variable {p : Program} {l : Launch} {e : Env} {R : Room} {s : State} {m : MethodId} {args : Array Value} {below : List Frame} {meth : Method} {c : Code} {H : Heap} {locs : List Loc} {Qe : State → Prop} {cells slots : Nat}
variable {M : MI} {D : va_G} {cA : Nat → ClassId} {base : Nat} {ro : Nat → Nat} {μ μ0 : Mu} {pc : Nat} {rls : Array Slot} {r : List Value}
/-- the method's own table of handlers -/
def Tb (M : MI) (c : Code) : Prop := match mi_hd M with
  | none => mi_th M = true → ∀ x ∈ c.exceptionTable.toList, False
  | some (f, t, h0, _, _) => c.exceptionTable.toList = tableOf [(f, t, h0, 13)]
theorem pg_catch (C : Ctx p R s m args c M D cA base) (hM : M ∈ mtab) {f t h0 h k q : Nat} {ce : Cell} {ls : LV} {st0 : List Value} {u : Nat × Nat} (hhd : mi_hd M = some (f, t, h0, h, k)) (htb : Tb M c) (h1 : f ≤ pc) (h2 : pc < t) (hk : ls.getD k none = none)
    (hR : Rl D cA base ro M s μ0 ls μ u H locs rls) (hcell : H[q]? = some ce) (hv : ce.vm = .none) (hcl : s.vm.findClass IOB = some ce.cls)
    (hX : XW p l e R s m args below meth c Qe D cA base ro M μ0 h ls [] μ u) : vx_W p l e R s m args below meth c H locs u.1 u.2 Qe (F0 m pc rls st0) q := by
  obtain ⟨hx, hb, hml, hown, hts, hK, hbase, hn20, hRc, hRs, hRf, hRl⟩ := C
  obtain ⟨hP, ⟨hRO, hSm⟩, hS, hL, hu⟩ := hR
  unfold Tb at htb
  rw [hhd] at htb
  dsimp only at htb
  have h9 := List.all_eq_true.mp chkHd M hM
  unfold hdOk at h9
  rw [hhd] at h9
  simp only [Bool.and_eq_true] at h9
  obtain ⟨⟨⟨⟨g1, g2⟩, -⟩, g3⟩, g4⟩ := h9
  have e19 : mi_n M = 19 := eq_of_beq g1
  have hwf : mi_w M = false := by simpa using g2
  have hkL : k < mi_L M := by simpa using g3
  have ho : cnm.getD (mi_n M) "" = "LockstepRoomLaw" := by rw [e19]; rfl
  rw [ho] at hown
  have lr : ∀ ls' : Array Slot, lv_has ls' (mi_L M) ((k, Value.ref q) :: (lvE base ro ls).filter (fun q => !(q.1 == k) && !(q.1 + 1 == k && q.2.category == 2))) → LR base ro M ls ls' := by
    intro ls' h'
    refine LR.by hL.2.1 (fun z => hL.2.2.2.1 z) h' fun j w hj => ?_
    have hne : j ≠ k := fun z => by rw [z, hk] at hj; cases hj
    have h8 := flt1 (base := base) (ro := ro) (v := .int 0) hne hj (fun _ => hL.2.2.2.1 hwf j w hj)
    rcases List.mem_cons.mp h8 with z | z
    · exact absurd (congrArg (·.1) z) hne
    · exact List.mem_cons_of_mem _ z
  refine vx_catch (E := IOB) (name := IOB) hown [] ⟨f, t, h0, 13⟩ [] htb (fun z hz => nomatch hz) (by simp [covers, h1, h2]) (show (13 : Nat) ≠ 0 by decide) (hts _ (inG_mem chkX2.2.2)) (va_Nw.use rfl hRO.2.2.2.2.2.1.1) hcell hv hcl ?_
  show W p l e R s m args below meth c H locs u.1 u.2 Qe (F0 m h0 rls [.ref q])
  split at g4
  · rename_i i n hdg
    simp only [Bool.and_eq_true, beq_iff_eq] at g4
    obtain ⟨⟨e1, e2⟩, e3⟩ := g4
    subst e2; subst e3
    exact lv_astore_n hx hb hdg e1 hL.has hkL rfl fun ls' h' => hX H locs ls' ⟨hP, ⟨hRO, hSm⟩, hS, lr ls' h', hu⟩
  · rename_i i n hdg
    simp only [Bool.and_eq_true, beq_iff_eq] at g4
    obtain ⟨⟨e1, e2⟩, e3⟩ := g4
    subst e1; subst e2; subst e3
    exact lv_astore hx hb hdg hL.has hkL rfl fun ls' h' => hX H locs ls' ⟨hP, ⟨hRO, hSm⟩, hS, lr ls' h', hu⟩
  · cases g4
theorem run_cal (C : Ctx p R s m args c M D cA base) (hM : M ∈ mtab) (htb : Tb M c) (hlk : meth.locks = false) {Q : Po} (hQe : Qe = vx_MQ below (QcO D cA base ro Q μ0) (XCO D cA base ro Q μ0 (mi_th M)) args s (mi_al M).1 (mi_al M).2 (isO base))
    {ls : LV} {st0 rest : List Value} {a9 : Array Value} {u al : Nat × Nat} {th : Bool} (hR : Rl D cA base ro M s μ0 ls μ u H locs rls) (hu' : ule (uad u al) (mi_al M))
    (hr : vx_Run p l e R s m args below meth c H locs u.1 u.2 al.1 al.2 (F0 m pc rls st0) (rest.map (rV base ro))
      (QcO D cA base ro (kC (fun s2 μ2 => XW p l e R s m args below meth c Qe D cA base ro M μ0 (pc + 3) ls s2 μ2 (uad u al)) rest (thr M Q (XW p l e R s m args below meth c Qe D cA base ro M μ0) pc ls (uad u al))) μ a9)
      (XCO D cA base ro (kC (fun s2 μ2 => XW p l e R s m args below meth c Qe D cA base ro M μ0 (pc + 3) ls s2 μ2 (uad u al)) rest (thr M Q (XW p l e R s m args below meth c Qe D cA base ro M μ0) pc ls (uad u al))) μ th) (isO base)) :
    W p l e R s m args below meth c H locs u.1 u.2 Qe (F0 m pc rls st0) := by
  have hR0 := hR
  obtain ⟨hP, ⟨hRO, hSm⟩, hS, hL, hu⟩ := hR0
  intro T hT Xs
  rcases hr T hT Xs with ⟨v, st₀, t, T', L, h0, X', hLL, e1, e2, ⟨v0, μ', hv, hq, hp, hF, hsm⟩, st⟩ | ⟨q, st₀, t, T', L, E, ce, h0, X', hLL, e1, e2, ⟨hE, hth, μ', hq, hp, hF, hsm⟩, hce, hcv, hcl, st⟩
  · obtain ⟨k1, k2, k3⟩ := vx_keep h0 e1 hS (fun _ _ h => h) (fun _ h => h) hLL hF
    cases hv
    have hXX : XW p l e R s m args below meth c Qe D cA base ro M μ0 (pc + 3) ls (v0.toList ++ rest) μ' (uad u al) := by cases v0 <;> exact hq
    obtain ⟨t2, a1, b1⟩ := hXX T'.heap (locs ++ L) rls ⟨by rw [e1]; exact hp, ⟨hRO.sm hsm, hSm.trans hsm⟩, k3, hL, hu'⟩ T' rfl X'
    refine ⟨t2, st t2 ?_, b1⟩
    cases v0 <;> exact a1
  · obtain ⟨k1, k2, k3⟩ := vx_keep h0 e1 hS (fun _ _ h => h) (fun _ h => h) hLL hF
    subst hE
    have hR' : Rl D cA base ro M s μ0 ls μ' (uad u al) T'.heap (locs ++ L) rls := ⟨by rw [e1]; exact hp, ⟨hRO.sm hsm, hSm.trans hsm⟩, k3, hL, hu'⟩
    have hce' : T'.heap[q]? = some ce := by rw [e1]; exact hce
    have key : vx_W p l e R s m args below meth c T'.heap (locs ++ L) (uad u al).1 (uad u al).2 Qe (F0 m pc rls (rest.map (rV base ro))) q := by
      have hq' : thr M Q (XW p l e R s m args below meth c Qe D cA base ro M μ0) pc ls (uad u al) μ' := hq
      unfold thr at hq'
      split at hq'
      · rename_i hhd
        exact pg_catch C hM hhd htb hq'.1 hq'.2.1 hq'.2.2.1 hR' hce' hcv hcl hq'.2.2.2
      · rename_i hhd
        subst hQe
        unfold Tb at htb
        rw [hhd] at htb
        refine vx_out (fun x hx => (htb hq'.1 x hx).elim) hlk hce' hcv hcl (fun t9 ht9 _ => ⟨rfl, hq'.1, μ', hq'.2.2, by rw [ht9]; exact hR'.1, k3.F ht9, hR'.2.1.2⟩) k3.2.2 hq'.2.1.1 hq'.2.1.2
    obtain ⟨t2, a1, b1⟩ := key T' rfl X'
    exact ⟨t2, st.trans a1, b1⟩
/-- the world that a called method starts in -/
theorem Rl.wd (C : Ctx p R s m args c M D cA base) {ls : LV} {u : Nat × Nat} (hR : Rl D cA base ro M s μ0 ls μ u H locs rls) {U : State} (hU : U.heap = H) (hW : s.WarmedH U.vm) : Wd D cA base ro μ U := by
  obtain ⟨hx, hb, hml, hown, hts, hK, hbase, hn20, hRc, hRs, hRf, hRl⟩ := C
  obtain ⟨hP, ⟨hRO, hSm⟩, hS, hL, hu⟩ := hR
  subst hU
  exact ⟨hP, hK.moved hW.alike, (RO.warm hW hRO).kept hS.2.1⟩
theorem Rl.cell (C : Ctx p R s m args c M D cA base) {ls : LV} {u : Nat × Nat} (hR : Rl D cA base ro M s μ0 ls μ u H locs rls) {a ci : Nat} (hci : ci ∈ kds) (hs : mS μ a = (ci, cnf ci)) : ∃ cellB : Cell, H[rA base ro a]? = some cellB ∧ cellB.vm.isStatics = false ∧ s.vm.findClass (kcl ci).1 = some cellB.cls := by
  obtain ⟨hx, hb, hml, hown, hts, hK, hbase, hn20, hRc, hRs, hRf, hRl⟩ := C
  obtain ⟨hP, ⟨hRO, hSm⟩, hS, hL, hu⟩ := hR
  rcases Nat.lt_or_ge a 1000 with ha | ha
  · obtain ⟨g1, g2, g3, g4⟩ := hRO.1 a ha
    rw [hs] at g3 g4
    have hc0 : ci = 0 := by
      have := kds_lt hci
      dsimp only at g4
      omega
    subst hc0
    obtain ⟨⟨cell, z1, z2, z3, z4⟩, -⟩ := g3 rfl
    rw [rA_ro ha]
    exact ⟨cell, by rw [hS.2.1 _ (Array.getElem?_eq_some_iff.mp z1).1 z4]; exact z1, z2, z3⟩
  · obtain ⟨w1, w2, -⟩ := hP.2.2 a ha (by rw [hs]; have := kds_lt hci; dsimp only; omega)
    rw [cE_obj hci hs] at w2
    exact va_recv hK (one_P w2) (q0 := 0) (chkK ci hci).1 rfl
theorem rest_map {st : List Value} {n : Nat} : (st.map (rV base ro)) = (((st.take n).reverse).map (rV base ro)).reverse ++ (st.drop n).map (rV base ro) := by
  rw [List.map_reverse, List.reverse_reverse, ← List.map_append, List.take_append_drop]
theorem cat_map (st : List Value) : ((st.map (rV base ro)).map fun v => v.category) = st.map fun v => v.category := by
  rw [List.map_map]
  exact List.map_congr_left fun v _ => rV_cat v
theorem drop_ref {st : List Value} {n : Nat} {a : Nat} {t : List Value} (hn : 0 < n) (h : st.drop (n - 1) = .ref a :: t) : st.take n = st.take (n - 1) ++ [.ref a] ∧ st.drop n = t ∧ n ≤ st.length := by
  have h1 : st = st.take (n - 1) ++ (.ref a :: t) := by rw [← h, List.take_append_drop]
  have hl : n - 1 < st.length := by
    rcases Nat.lt_or_ge (n - 1) st.length with g | g
    · exact g
    · rw [List.drop_eq_nil_of_le g] at h; cases h
  have h2 : (st.take (n - 1)).length = n - 1 := by rw [List.length_take]; omega
  refine ⟨?_, ?_, by omega⟩
  · have : n = (n - 1) + 1 := by omega
    rw [this, List.take_add_one, List.getElem?_eq_getElem hl]
    simp only [Nat.add_sub_cancel, Option.toList_some]
    congr 2
    have := List.getElem_cons_drop (h := hl)
    rw [h] at this
    injection this
  · have e : st.drop n = (st.drop (n - 1)).drop 1 := by rw [List.drop_drop]; congr 1; omega
    rw [e, h]; rfl
end CallRows
