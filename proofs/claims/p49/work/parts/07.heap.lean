section HeapRows
variable {p : Program} {l : Launch} {e : Env} {R : Room} {s : State} {m : MethodId} {args : Array Value} {below : List Frame} {meth : Method} {c : Code} {H : Heap} {locs : List Loc} {Qe : State → Prop} {cells slots : Nat}
variable {M : MI} {D : va_G} {cA : Nat → ClassId} {base : Nat} {ro : Nat → Nat} {μ : Mu} {pc : Nat} {rls : Array Slot} {r : List Value}
theorem isO_ro {A : Nat → Prop} {E : String} {t : Nat} {U : State} {H : Heap} (h : va_O E t A U H) : ¬ A t := by
  obtain ⟨_, _, _, _, h⟩ := h
  exact h
theorem kds_lt {ci : Nat} (h : ci ∈ kds) : ci < 13 := by
  simp only [kds, List.mem_cons, List.not_mem_nil, or_false] at h
  omega
theorem cE_obj {ci : Nat} (h : ci ∈ kds) {a N : Nat} (hs : mS μ a = (ci, N)) : cE cA base ro μ a = .inr (ci, (List.range (cnf ci)).map (fV base ro μ a ci)) := by
  have hk := kds_lt h
  unfold cE
  rw [hs]
  rw [if_neg (by dsimp only; omega), if_neg (by dsimp only; omega), if_neg (by dsimp only; omega), if_neg (by dsimp only; omega), if_neg (by dsimp only; omega), if_neg (by dsimp only; omega), if_neg (by dsimp only; omega)]
theorem fres_mem {n idx ci k : Nat} (h : fres n idx = some (ci, k)) : n < 20 ∧ (idx, ci, k) ∈ ftab.getD n [] := by
  unfold fres at h
  obtain ⟨⟨i, q⟩, hq, he⟩ := Option.map_eq_some_iff.mp h
  have h1 := List.find?_some hq
  have h2 := List.mem_of_find?_eq_some hq
  have e1 : i = idx := eq_of_beq h1
  have e2 : q = (ci, k) := he
  subst e1; subst e2
  refine ⟨?_, h2⟩
  rcases Nat.lt_or_ge n 20 with g | g
  · exact g
  · rw [List.getD_eq_getElem?_getD, List.getElem?_eq_none (by exact g)] at h2; cases h2
/-- what the tables say of a field that an instruction names -/
theorem fres_word {n idx ci k : Nat} (h : fres n idx = some (ci, k)) : n < 20 ∧ ci ∈ kds ∧ k < cnf ci ∧ Cond.fieldLink (cnm.getD n "") idx ((kcl ci).2.1 k).1 ((kcl ci).2.1 k).2.1 ((kcl ci).2.1 k).2.2.1 ∈ ALLG := by
  obtain ⟨h1, h2⟩ := fres_mem h
  obtain ⟨g1, g2, g3⟩ := chkF n h1 _ h2
  exact ⟨h1, g1, g2, inG_mem g3⟩
theorem map_get {f : Nat → Value} {N k : Nat} (h : k < N) : ((List.range N).map f)[k]? = some (f k) := by
  rw [List.getElem?_map, List.getElem?_range h]; rfl
theorem chkF0 : ∀ n, n < 20 → ∀ r ∈ ftab.getD n [], r.2.1 = 0 → r.2.2 < 2 := by decide +kernel
theorem pg_get (C : Ctx p R s m args c M D cA base) {idx ci k a : Nat} (hP : Pic D cA base ro μ H) (hRO : RO base ro μ s s.heap) (hS : va_S (isO base) s.heap H locs) (hf : fres (mi_n M) idx = some (ci, k)) (hs : mS μ a = (ci, cnf ci)) (hdg : decode (mi_c M) pc = .ok (.getfield idx, 3))
    (kk : W p l e R s m args below meth c H locs cells slots Qe (F0 m (pc + 3) rls (fV base ro μ a ci k :: r))) : W p l e R s m args below meth c H locs cells slots Qe (F0 m pc rls (.ref (rA base ro a) :: r)) := by
  obtain ⟨hx, hb, hml, hown, hts, hK, hbase, hn, hRc, hRs, hRf, hRl⟩ := C
  obtain ⟨-, h2, h3, h4⟩ := fres_word hf
  obtain ⟨q1, q2⟩ := chkK ci h2
  rcases Nat.lt_or_ge a 1000 with ha | ha
  · obtain ⟨g1, g2, g3, g4⟩ := hRO.1 a ha
    rw [hs] at g3 g4
    have hc0 : ci = 0 := by
      have := kds_lt h2
      dsimp only at g4
      omega
    subst hc0
    obtain ⟨k1, k2, v, k3, k4, k5⟩ := g3 rfl
    rw [rA_ro ha]
    have hk2 : k < 2 := chkF0 _ hn _ (fres_mem hf).2 rfl
    rcases (by omega : k = 0 ∨ k = 1) with rfl | rfl
    · have e1 : fV base ro μ a 0 0 = .ref (ro v) := by
        show va_rf ((mR μ a 0).map (rA base ro)) = _
        rw [k3]; show Value.ref (rA base ro v) = _; rw [rA_ro k4]
      rw [e1] at kk
      exact vk_getf hx hb k5 hS hown (hts _ h4) (fun _ h => h) hdg kk
    · exact vk_getf hx hb k2 hS hown (hts _ h4) (fun _ h => h) hdg kk
  · obtain ⟨p1, p2, p3⟩ := hP
    obtain ⟨w1, w2, -⟩ := p3 a ha (by rw [hs]; have := kds_lt h2; dsimp only; omega)
    rw [cE_obj h2 hs] at w2
    have hPw : va_P D vwCl [(rA base ro a, .inr (ci, (List.range (cnf ci)).map (fV base ro μ a ci)))] H := by
      intro k q hq
      have hk : k < 1 := (List.getElem?_eq_some_iff.mp hq).1
      rw [show k = 0 by omega] at hq
      cases hq
      exact w2
    exact va_get (C := (kcl ci).1) (T := (kcl ci).2.1) (N := (kcl ci).2.2) hx hb hts (fun w hw => inG_mem (chkU ci h2 w hw)) hown hK hPw 0 rfl q1 k (by rw [q2]; exact h3) (hts _ h4) (fun _ h => h) (map_get h3) hdg kk
theorem sl_range (n k : Nat) : True := trivial
theorem pg_put (C : Ctx p R s m args c M D cA base) {idx ci k a : Nat} {v : Value} {μ' : Mu} (hP : Pic D cA base ro μ H) (hS : va_S (isO base) s.heap H locs) (hf : fres (mi_n M) idx = some (ci, k)) (hs : mS μ a = (ci, cnf ci)) (ha : 1000 ≤ a) (hfo : pfo M ci k = true) (hmn : (mi_y M).name = "<init>" → meth.name = "<init>")
    (hn : narrow (fty ci k) v = v) (hfit : fits (fty ci k) v = true)
    (hX : mX μ' = mX μ) (hSS : mS μ' = mS μ) (hI : ∀ b, b ≠ a → mI μ' b = mI μ b) (hJ : ∀ b, b ≠ a → mJ μ' b = mJ μ b) (hR : ∀ b, b ≠ a → mR μ' b = mR μ b) (hfv : ∀ j, fV base ro μ' a ci j = if j = k then v else fV base ro μ a ci j)
    (hdg : decode (mi_c M) pc = .ok (.putfield idx, 3))
    (kk : ∀ (H1 : Heap) (locs1 : List Loc), Pic D cA base ro μ' H1 → va_S (isO base) s.heap H1 locs1 → W p l e R s m args below meth c H1 locs1 cells slots Qe (F0 m (pc + 3) rls r)) : W p l e R s m args below meth c H locs cells slots Qe (F0 m pc rls (v :: .ref (rA base ro a) :: r)) := by
  obtain ⟨hx, hb, hml, hown, hts, hK, hbase, hn20, hRc, hRs, hRf, hRl⟩ := C
  obtain ⟨-, h2, h3, h4⟩ := fres_word hf
  obtain ⟨q1, q2⟩ := chkK ci h2
  obtain ⟨t1, t2⟩ := chkT ci h2 k h3
  have hk13 := kds_lt h2
  have hP0 := hP
  obtain ⟨p1, p2, p3⟩ := hP
  obtain ⟨w1, w2, -⟩ := p3 a ha (by rw [hs]; dsimp only; omega)
  rw [cE_obj h2 hs] at w2
  have hin : ∀ w ∈ u_ws (kcl ci).1 (kcl ci).2.1 (kcl ci).2.2, w ∈ ALLG := fun w hw => inG_mem (chkU ci h2 w hw)
  have hap := va_apart (own := cnm.getD (mi_n M) "") (D := D) (cl := vwCl) (tys := tysL cA) (ci := ci) hts hin (fty ci) (fun k hk => (chkT ci h2 k (by rw [← q2]; exact hk)).1) (fun a ha b hb hne => chkN ci h2 a (by rw [← q2]; exact ha) b (by rw [← q2]; exact hb) hne) hK q1
  obtain ⟨rr, z1, cell, y1, y2, y3, y4⟩ := w2
  have hr : rr = kcl ci := Option.some.inj (z1.symm.trans q1)
  subst hr
  obtain ⟨hSl, hfc, kC, hkC, hkind⟩ := hK.1 ci _ q1
  have h3' : k < (kcl ci).2.2 := by rw [q2]; exact h3
  obtain ⟨cf, kf, fi, f, hi, hsl⟩ := hSl k h3'
  have hlay := hts _ (hin _ (u_in_lay h3'))
  have hst := (u_facts hfc hkC (u_lays hts hin h3') hi).1
  have fin : ∀ H' : Heap, H'[rA base ro a]? = some (cell.setSlot f.slot v) → H'.size = H.size → (∀ q, q ≠ rA base ro a → H'[q]? = H[q]?) → W p l e R s m args below meth c H' (locs ++ [⟨rA base ro a, f.slot⟩]) cells slots Qe (F0 m (pc + 3) rls r) := by
    intro H' e1 e2 e3
    rw [hsl] at e1
    have hob : t_OB (rA base ro a) (D.1 ci) (kcl ci).2.2 (D.2 ci) H' (vp_V ((List.range (cnf ci)).map (fV base ro μ' a ci))) := by
      have hs9 : ((List.range (cnf ci)).map (fV base ro μ a ci)).set k v = (List.range (cnf ci)).map (fV base ro μ' a ci) := by
        rw [setMap]; congr 1; funext j; exact (hfv j).symm
      rw [← hs9]
      exact t_OB.to (V := updV (vp_V ((List.range (cnf ci)).map (fV base ro μ a ci))) k v) ⟨_, e1, y2, y3, t_set y4 hap h3' v⟩ (fun j _ => vp_updV_set (by simpa using h3) v j)
    refine kk H' _ (hP0.upd ha e2 e3 hX hSS hI hJ hR ?_ (fun z => by rw [hs] at z; dsimp only at z; omega)) (hS.put e2 e3 (by show base ≤ rA base ro a; rw [rA_big ha]; omega))
    rw [cE_obj h2 (by rw [hSS]; exact hs)]
    exact ⟨_, q1, hob⟩
  cases hff : ffin ci k with
  | false =>
    unfold u_lay at hlay
    rw [if_neg (by rw [← t2, hff]; decide)] at hlay
    have h6 := u_store hfc hkC hkind hlay hi t1 hn hfit
    exact W.putK hx hb (f := f) ⟨hown, hts _ h4, ⟨_, _, _, hi⟩, hst⟩ (by rw [y2]; exact h6) y1 y3 (by rw [hsl]; exact k2_hasslot (y4 k h3')) rfl rfl hdg fin
  | true =>
    unfold u_lay at hlay
    rw [if_pos (by rw [← t2, hff])] at hlay
    unfold pfo at hfo
    rw [hff] at hfo
    simp only [Bool.not_true, Bool.false_or, Bool.and_eq_true, beq_iff_eq] at hfo
    obtain ⟨o1, o2⟩ := hfo
    have hd : ((kcl ci).2.1 k).1 = cnm.getD (mi_n M) "" := by
      have hno : mi_n M ∉ [1, 2] := by
        intro hm
        have e2 : ci = 1 := by
          rcases List.mem_cons.mp hm with z | z
          · rw [z] at o2; rw [← o2]; rfl
          · rw [List.mem_singleton.mp z] at o2; rw [← o2]; rfl
        subst e2
        have : ∀ k, k < cnf 1 → ffin 1 k = false := by decide
        rw [this k h3] at hff; cases hff
      have := (chkO (mi_n M) hn20 (by rw [o2]; exact h2) hno).2 k (by rw [o2]; exact h3)
      rw [o2] at this
      exact this
    have hcf : m.cls = cf := by
      obtain ⟨_, _, c', _, _, _, -, -, hf', -, -, -, hown2, -⟩ := Cond.laysFinal_spec hlay
      have e1 : c' = cf := by have := hi.symm.trans hf'; simp at this; exact this.1.symm
      rw [hd] at hown2
      rw [← e1]; exact Option.some.inj (hown.symm.trans hown2)
    have h6 := u_fits hfc hkC hkind (Or.inr hlay) hi t1 hn hfit
    exact W.putFinK hx hb hown (hts _ h4) hi hst hcf (hmn o1) (by rw [y2]; exact h6) y1 y3 (by rw [hsl]; exact k2_hasslot (y4 k h3')) rfl rfl hdg fin
theorem cE_20 {a : Nat} (h : (mS μ a).1 = 20) : cE cA base ro μ a = .inl (cA 20, (mS μ a).2, .inl (mI μ a)) := by unfold cE; rw [if_pos h]
theorem cE_21 {a : Nat} (h : (mS μ a).1 = 21) : cE cA base ro μ a = .inl (cA 21, (mS μ a).2, .inl (mI μ a)) := by unfold cE; rw [if_neg (by rw [h]; decide), if_pos h]
theorem cE_22 {a : Nat} (h : (mS μ a).1 = 22) : cE cA base ro μ a = .inl (cA 21, (mS μ a).2, .inl (mI μ a)) := by unfold cE; rw [if_neg (by rw [h]; decide), if_neg (by rw [h]; decide), if_pos h]
theorem cE_23 {a : Nat} (h : (mS μ a).1 = 23) : cE cA base ro μ a = .inl (cA 23, (mS μ a).2, .inr (.inr (.inr (.inr fun j => (mR μ a j).map (rA base ro))))) := by unfold cE; rw [if_neg (by rw [h]; decide), if_neg (by rw [h]; decide), if_neg (by rw [h]; decide), if_pos h]
theorem cE_24 {a : Nat} (h : (mS μ a).1 = 24) : cE cA base ro μ a = .inl (cA 24, (mS μ a).2, .inr (.inr (.inr (.inr fun j => (mR μ a j).map (rA base ro))))) := by unfold cE; rw [if_neg (by rw [h]; decide), if_neg (by rw [h]; decide), if_neg (by rw [h]; decide), if_neg (by rw [h]; decide), if_pos h]
theorem cE_25 {a : Nat} (h : (mS μ a).1 = 25) : cE cA base ro μ a = .inl (cA 25, (mS μ a).2, .inl (mI μ a)) := by unfold cE; rw [if_neg (by rw [h]; decide), if_neg (by rw [h]; decide), if_neg (by rw [h]; decide), if_neg (by rw [h]; decide), if_neg (by rw [h]; decide), if_pos h]
theorem cE_26 {a : Nat} (h : (mS μ a).1 = 26) : cE cA base ro μ a = .inl (cA 26, (mS μ a).2, .inr (.inr (.inr (.inr fun j => (mR μ a j).map (rA base ro))))) := by unfold cE; rw [if_neg (by rw [h]; decide), if_neg (by rw [h]; decide), if_neg (by rw [h]; decide), if_neg (by rw [h]; decide), if_neg (by rw [h]; decide), if_neg (by rw [h]; decide), if_pos h]
/-- one thing as a world of its own -/
theorem one_P {a : Nat} {x : va_E} (h : va_at D vwCl (rA base ro a, x) H) : va_P D vwCl [(rA base ro a, x)] H := by
  intro k q hq
  have hk : k < 1 := (List.getElem?_eq_some_iff.mp hq).1
  rw [show k = 0 by omega] at hq
  cases hq
  exact h
theorem pg_ild (C : Ctx p R s m args c M D cA base) {a : Nat} {i : Int32} (hP : Pic D cA base ro μ H) (hRO : RO base ro μ s s.heap) (hS : va_S (isO base) s.heap H locs) (hs : (mS μ a).1 = 20) (hin : vp_in i (mS μ a).2) (hdg : decode (mi_c M) pc = .ok (.iaload, 1))
    (kk : W p l e R s m args below meth c H locs cells slots Qe (F0 m (pc + 1) rls (.int (mI μ a i.toNatClampNeg) :: r))) : W p l e R s m args below meth c H locs cells slots Qe (F0 m pc rls (.int i :: .ref (rA base ro a) :: r)) := by
  obtain ⟨hx, hb, hml, hown, hts, hK, -⟩ := C
  rcases Nat.lt_or_ge a 1000 with ha | ha
  · rw [rA_ro ha]
    exact va_ti hx hb ((hRO.1 a ha).1 hs) hS hin rfl hdg kk
  · obtain ⟨w1, w2, -⟩ := hP.2.2 a ha (by rw [hs]; decide)
    rw [cE_20 hs] at w2
    exact va_iald hx hb hK (one_P w2) 0 0 rfl rfl hin hdg kk
theorem pg_bld (C : Ctx p R s m args c M D cA base) {a : Nat} {i : Int32} (hP : Pic D cA base ro μ H) (hRO : RO base ro μ s s.heap) (hS : va_S (isO base) s.heap H locs) (hs : (mS μ a).1 = 21) (hin : vp_in i (mS μ a).2) (hdg : decode (mi_c M) pc = .ok (.baload, 1))
    (kk : W p l e R s m args below meth c H locs cells slots Qe (F0 m (pc + 1) rls (.int (mI μ a i.toNatClampNeg) :: r))) : W p l e R s m args below meth c H locs cells slots Qe (F0 m pc rls (.int i :: .ref (rA base ro a) :: r)) := by
  obtain ⟨hx, hb, hml, hown, hts, hK, -⟩ := C
  rcases Nat.lt_or_ge a 1000 with ha | ha
  · rw [rA_ro ha]
    exact va_tb hx hb ((hRO.1 a ha).2.1 hs) hS hin rfl hdg kk
  · obtain ⟨w1, w2, -⟩ := hP.2.2 a ha (by rw [hs]; decide)
    rw [cE_21 hs] at w2
    exact va_bald hx hb hK (one_P w2) 0 1 rfl rfl hin hdg kk
theorem pg_zld (C : Ctx p R s m args c M D cA base) {a : Nat} {i : Int32} (hP : Pic D cA base ro μ H) (ha : 1000 ≤ a) (hs : (mS μ a).1 = 25) (hin : vp_in i (mS μ a).2) (hdg : decode (mi_c M) pc = .ok (.baload, 1))
    (kk : W p l e R s m args below meth c H locs cells slots Qe (F0 m (pc + 1) rls (.int (mI μ a i.toNatClampNeg) :: r))) : W p l e R s m args below meth c H locs cells slots Qe (F0 m pc rls (.int i :: .ref (rA base ro a) :: r)) := by
  obtain ⟨hx, hb, hml, hown, hts, hK, -⟩ := C
  obtain ⟨w1, w2, -⟩ := hP.2.2 a ha (by rw [hs]; decide)
  rw [cE_25 hs] at w2
  exact va_zald hx hb hK (one_P w2) 0 5 rfl rfl hin hdg kk
theorem pg_sld (C : Ctx p R s m args c M D cA base) {a b : Nat} {i : Int32} (hP : Pic D cA base ro μ H) (ha : 1000 ≤ a) (hs : (mS μ a).1 = 26) (hin : vp_in i (mS μ a).2) (hb9 : mR μ a i.toNatClampNeg = some b) (hdg : decode (mi_c M) pc = .ok (.aaload, 1))
    (kk : W p l e R s m args below meth c H locs cells slots Qe (F0 m (pc + 1) rls (.ref (rA base ro b) :: r))) : W p l e R s m args below meth c H locs cells slots Qe (F0 m pc rls (.int i :: .ref (rA base ro a) :: r)) := by
  obtain ⟨hx, hb, hml, hown, hts, hK, -⟩ := C
  have e : va_rf ((fun j => (mR μ a j).map (rA base ro)) i.toNatClampNeg) = .ref (rA base ro b) := by dsimp only; rw [hb9]; rfl
  obtain ⟨w1, w2, -⟩ := hP.2.2 a ha (by rw [hs]; decide)
  rw [cE_26 hs] at w2
  exact va_aldq hx hb hK (one_P w2) 0 6 rfl rfl hin hdg (by rw [e]; exact kk)
theorem pg_ald (C : Ctx p R s m args c M D cA base) {a b : Nat} {i : Int32} (hP : Pic D cA base ro μ H) (ha : 1000 ≤ a) (hs : (mS μ a).1 = 23 ∨ (mS μ a).1 = 24) (hin : vp_in i (mS μ a).2) (hb9 : mR μ a i.toNatClampNeg = some b) (hdg : decode (mi_c M) pc = .ok (.aaload, 1))
    (kk : W p l e R s m args below meth c H locs cells slots Qe (F0 m (pc + 1) rls (.ref (rA base ro b) :: r))) : W p l e R s m args below meth c H locs cells slots Qe (F0 m pc rls (.int i :: .ref (rA base ro a) :: r)) := by
  obtain ⟨hx, hb, hml, hown, hts, hK, -⟩ := C
  have e : va_rf ((fun j => (mR μ a j).map (rA base ro)) i.toNatClampNeg) = .ref (rA base ro b) := by dsimp only; rw [hb9]; rfl
  rcases hs with hs | hs
  · obtain ⟨w1, w2, -⟩ := hP.2.2 a ha (by rw [hs]; decide)
    rw [cE_23 hs] at w2
    exact va_aldq hx hb hK (one_P w2) 0 3 rfl rfl hin hdg (by rw [e]; exact kk)
  · obtain ⟨w1, w2, -⟩ := hP.2.2 a ha (by rw [hs]; decide)
    rw [cE_24 hs] at w2
    exact va_aldq hx hb hK (one_P w2) 0 4 rfl rfl hin hdg (by rw [e]; exact kk)
theorem in_base {a : Nat} (ha : 1000 ≤ a) : isO base (rA base ro a) := by show base ≤ _; rw [rA_big ha]; omega
theorem upd_at (f : Nat → Int32) (k : Nat) (x : Int32) : (fun j => if j = k then x else f j) = upd f k x := rfl
theorem pg_ist (C : Ctx p R s m args c M D cA base) {a : Nat} {i x : Int32} (hP : Pic D cA base ro μ H) (hS : va_S (isO base) s.heap H locs) (ha : 1000 ≤ a) (hs : (mS μ a).1 = 20) (hin : vp_in i (mS μ a).2) (hdg : decode (mi_c M) pc = .ok (.iastore, 1))
    (kk : ∀ (H1 : Heap) (locs1 : List Loc), Pic D cA base ro (uI μ a i.toNatClampNeg x) H1 → va_S (isO base) s.heap H1 locs1 → W p l e R s m args below meth c H1 locs1 cells slots Qe (F0 m (pc + 1) rls r)) : W p l e R s m args below meth c H locs cells slots Qe (F0 m pc rls (.int x :: .int i :: .ref (rA base ro a) :: r)) := by
  obtain ⟨hx, hb, hml, hown, hts, hK, -⟩ := C
  obtain ⟨w1, w2, -⟩ := hP.2.2 a ha (by rw [hs]; decide)
  rw [cE_20 hs] at w2
  refine W.iast hx hb w2 ((hK.2 0 _ rfl).1 (mS μ a).2 (fun j => .int (mI μ a j))) (fun q => by cases q) (by show ¬ (i < 0 ∨ (arrV _ _ _).slots.size ≤ _); rw [arrV_size]; exact hin) rfl rfl hdg fun H1 e1 z oq => ?_
  have eI : mI (uI μ a i.toNatClampNeg x) a = upd (mI μ a) i.toNatClampNeg x := by
    funext j; simp [mI, uI, upd]
  refine kk H1 _ (hP.upd ha z oq rfl rfl (fun b hb => by funext j; simp [mI, uI, hb]) (fun _ _ => rfl) (fun _ _ => rfl) ?_ (fun q => by rw [hs] at q; cases q)) (hS.put z oq (in_base ha))
  rw [cE_20 (show (mS (uI μ a i.toNatClampNeg x) a).1 = 20 from hs), eI]
  show H1[rA base ro a]? = some (vp_cell _ _)
  rw [e1]
  rw [vp_cell_i, vp_cell_i, arrV_store]
  congr 2
  funext q
  by_cases hq : q = i.toNatClampNeg
  · subst hq; simp [updV, upd]
  · simp [updV, upd, hq]
theorem pg_bst (C : Ctx p R s m args c M D cA base) {a : Nat} {i x : Int32} (hP : Pic D cA base ro μ H) (hS : va_S (isO base) s.heap H locs) (ha : 1000 ≤ a) (hs : (mS μ a).1 = 21) (hin : vp_in i (mS μ a).2) (hdg : decode (mi_c M) pc = .ok (.bastore, 1))
    (kk : ∀ (H1 : Heap) (locs1 : List Loc), Pic D cA base ro (uI μ a i.toNatClampNeg x.toInt8.toInt32) H1 → va_S (isO base) s.heap H1 locs1 → W p l e R s m args below meth c H1 locs1 cells slots Qe (F0 m (pc + 1) rls r)) : W p l e R s m args below meth c H locs cells slots Qe (F0 m pc rls (.int x :: .int i :: .ref (rA base ro a) :: r)) := by
  obtain ⟨hx, hb, hml, hown, hts, hK, -⟩ := C
  obtain ⟨w1, w2, w3⟩ := hP.2.2 a ha (by rw [hs]; decide)
  rw [cE_21 hs] at w2
  refine W.bast hx hb w2 ((hK.2 1 _ rfl).1 (mS μ a).2 (fun j => .int (mI μ a j))) (fun q => by cases q) (by show ¬ (i < 0 ∨ (arrV _ _ _).slots.size ≤ _); rw [arrV_size]; exact hin) rfl rfl hdg fun H1 e1 z oq => ?_
  have eI : mI (uI μ a i.toNatClampNeg x.toInt8.toInt32) a = upd (mI μ a) i.toNatClampNeg x.toInt8.toInt32 := by
    funext j; simp [mI, uI, upd]
  refine kk H1 _ (hP.upd ha z oq rfl rfl (fun b hb => by funext j; simp [mI, uI, hb]) (fun _ _ => rfl) (fun _ _ => rfl) ?_ (fun q j => ?_)) (hS.put z oq (in_base ha))
  · rw [cE_21 (show (mS (uI μ a i.toNatClampNeg x.toInt8.toInt32) a).1 = 21 from hs), eI]
    show H1[rA base ro a]? = some (vp_cell _ _)
    rw [e1]
    rw [vp_cell_i, vp_cell_i, arrV_store]
    congr 2
    funext q
    by_cases hq : q = i.toNatClampNeg
    · subst hq; simp [updV, upd]
      try rfl
    · simp [updV, upd, hq]
  · rw [eI]
    unfold upd
    split
    · simp
    · exact w3 hs j
theorem pg_zst (C : Ctx p R s m args c M D cA base) {a : Nat} {i x : Int32} (hP : Pic D cA base ro μ H) (hS : va_S (isO base) s.heap H locs) (ha : 1000 ≤ a) (hs : (mS μ a).1 = 25) (hx01 : x = 0 ∨ x = 1) (hin : vp_in i (mS μ a).2) (hdg : decode (mi_c M) pc = .ok (.bastore, 1))
    (kk : ∀ (H1 : Heap) (locs1 : List Loc), Pic D cA base ro (uI μ a i.toNatClampNeg x) H1 → va_S (isO base) s.heap H1 locs1 → W p l e R s m args below meth c H1 locs1 cells slots Qe (F0 m (pc + 1) rls r)) : W p l e R s m args below meth c H locs cells slots Qe (F0 m pc rls (.int x :: .int i :: .ref (rA base ro a) :: r)) := by
  obtain ⟨hx, hb, hml, hown, hts, hK, -⟩ := C
  obtain ⟨w1, w2, w3⟩ := hP.2.2 a ha (by rw [hs]; decide)
  rw [cE_25 hs] at w2
  refine W.zast hx hb w2 ((hK.2 5 _ rfl).1 (mS μ a).2 (fun j => .int (mI μ a j))) (fun q => by cases q) (by show ¬ (i < 0 ∨ (arrV _ _ _).slots.size ≤ _); rw [arrV_size]; exact hin) rfl rfl hdg fun H1 e1 z oq => ?_
  have eI : mI (uI μ a i.toNatClampNeg x) a = upd (mI μ a) i.toNatClampNeg x := by
    funext j; simp [mI, uI, upd]
  refine kk H1 _ (hP.upd ha z oq rfl rfl (fun b hb => by funext j; simp [mI, uI, hb]) (fun _ _ => rfl) (fun _ _ => rfl) ?_ (fun q j => by rw [hs] at q; cases q)) (hS.put z oq (in_base ha))
  rw [cE_25 (show (mS (uI μ a i.toNatClampNeg x) a).1 = 25 from hs), eI]
  show H1[rA base ro a]? = some (vp_cell _ _)
  rw [e1]
  rw [vp_cell_i, vp_cell_i, arrV_store]
  congr 2
  funext q
  by_cases hq : q = i.toNatClampNeg
  · subst hq
    rcases hx01 with rfl | rfl <;> simp [updV, upd, vp_nar] <;> rfl
  · simp [updV, upd, hq]
end HeapRows
