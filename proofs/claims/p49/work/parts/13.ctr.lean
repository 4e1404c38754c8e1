/-! all methods keep their contracts, at every depth -/
theorem lr_entry {base : Nat} {ro : Nat → Nat} {M : MI} {vs : List Value} (hl : vs.length = mi_na M) (hc : ∀ v ∈ vs, v.category = 1) (hn : mi_na M ≤ mi_L M) :
    LR base ro M (ent vs (mi_L M)) (((vs.map (rV base ro)).map Slot.val ++ List.replicate (mi_L M - (vs.map (rV base ro)).length) Slot.unset).toArray) := by
  have hg : ∀ i : Nat, (((vs.map (rV base ro)).map Slot.val ++ List.replicate (mi_L M - (vs.map (rV base ro)).length) Slot.unset).toArray)[i]? = if i < vs.length then ((vs[i]?).map (fun v => Slot.val (rV base ro v))) else if i < mi_L M then some Slot.unset else none := by
    intro i
    rw [List.getElem?_toArray, List.map_map]
    by_cases h : i < vs.length
    · rw [if_pos h, List.getElem?_append_left (by simpa using h), List.getElem?_map]; rfl
    · rw [if_neg h, List.getElem?_append_right (by simpa using h), List.getElem?_replicate]
      simp only [List.length_map]
      by_cases h2 : i < mi_L M
      · rw [if_pos h2, if_pos (by omega)]
      · rw [if_neg h2, if_neg (by omega)]
  have he : ∀ (i : Nat) (v : Value), (ent vs (mi_L M)).getD i none = some v → vs[i]? = some v := by
    intro i v h
    unfold ent at h
    rw [List.getD_eq_getElem?_getD] at h
    by_cases g : i < vs.length
    · rw [List.getElem?_append_left (by simpa using g), List.getElem?_map, List.getElem?_eq_getElem g] at h
      rw [List.getElem?_eq_getElem g]; exact h
    · rw [List.getElem?_append_right (by simpa using g), List.getElem?_replicate] at h
      split at h <;> cases h
  refine ⟨?_, ?_, ⟨fun i v h h2 => ?_, fun i h => ?_⟩, fun _ i v h => hc v (List.mem_of_getElem? (he i v h)), fun i v h => ?_⟩
  · simp; omega
  · unfold ent; simp; omega
  · rw [hg] at h
    split at h
    · rename_i g
      rw [List.getElem?_eq_getElem g] at h
      simp at h
      have h1 := hc _ (List.getElem_mem g)
      rw [← rV_cat (base := base) (ro := ro), h] at h1
      omega
    · split at h <;> cases h
  · rw [hg] at h
    split at h
    · rename_i g
      rw [List.getElem?_eq_getElem g] at h
      cases h
    · split at h <;> cases h
  · have h1 := he i v h
    have g : i < vs.length := (List.getElem?_eq_some_iff.mp h1).1
    rw [hg, if_pos g, h1]; rfl
theorem body_ok {l : Launch} (hl : l.stackTraces = false) {d j : Nat} (ih : ∀ j, j < 194 → Ctr l d j) (hj : j < 194) {D : va_G} {cA : Nat → ClassId} {base : Nat} {ro : Nat → Nat} {as0 : List Value} {μ : Mu} {Q : Po}
    {p : Program} {e : Env} {s : State} {m : MethodId} {args : Array Value} {below : List Frame} {meth : Method} {c : Code} {s₁ : State}
    (B : BodyLoose p l (mi_y (minfo j)) (headSpec (ws (minfo j)) (rmD (d + 1) (minfo j))) (mi_c (minfo j)) (mi_L (minfo j)) (mi_rt (minfo j)) e s m args below meth c s₁) (hml : c.maxLocals = mi_L (minfo j)) (htb : Tb (minfo j) c) (hPc : PcO D cA base ro (d + 1) j as0 μ Q args s) :
    W p l e (headSpec (ws (minfo j)) (rmD (d + 1) (minfo j))).room s m args below meth c s.heap [] 0 0 (vx_MQ below (QcO D cA base ro Q μ) (XCO D cA base ro Q μ (mi_th (minfo j))) args s (mi_al (minfo j)).1 (mi_al (minfo j)).2 (isO base)) (entryFrame m args (mi_L (minfo j))) := by
  obtain ⟨hv, ⟨hP, hK, hRO⟩, hE1, hE2, hE3⟩ := hPc
  have hM := minfo_mem (j := j) (by omega)
  obtain ⟨m1, m2, m3, m4, m5, m6⟩ := chkM _ hM
  obtain ⟨t1, t2, t3⟩ := chkHt _ hM
  have C : Ctx p (headSpec (ws (minfo j)) (rmD (d + 1) (minfo j))).room s m args c (minfo j) D cA base :=
    ⟨B.exec, B.bytes, hml, by rw [m3]; exact findClass_of_methodNamed B.named, fun w hw => atoms_spec (ws := ws (minfo j)) B.pre w (List.mem_cons_of_mem _ hw), hK, by have := hP.1; have := hP.2.1; omega, m4, rfl, rfl, ⟨t1, t2⟩, ⟨t3, Nat.le_refl _, Nat.le_refl _⟩⟩
  have hc : ∀ v ∈ as0.map (rV base ro), v.category = 1 := by
    intro v hv
    obtain ⟨w, hw, rfl⟩ := List.mem_map.mp hv
    rw [rV_cat]; exact hE2 w hw
  have h9 := hE3 (XW p l e (headSpec (ws (minfo j)) (rmD (d + 1) (minfo j))).room s m args below meth c (vx_MQ below (QcO D cA base ro Q μ) (XCO D cA base ro Q μ (mi_th (minfo j))) args s (mi_al (minfo j)).1 (mi_al (minfo j)).2 (isO base)) D cA base ro (minfo j) μ)
    fun pc ls st μ1 u ⟨ins, n, h1, h2, h3⟩ => sim_stp C (fun h => (name_of_methodNamed B.named B.method).1.trans h) B.returns B.notSynchronized hl (fun hth x hx => by
      have h8 := htb
      unfold Tb at h8
      rw [hdOk_th hM hth] at h8
      exact h8 hth x hx) rfl (sim_inv ih C hM htb B.notSynchronized rfl) h1 h2 h3
  have h7 := h9 s.heap [] _ ⟨hP, ⟨hRO, Sm.rfl'⟩, va_S.rf, lr_entry hE1 hE2 m5, ⟨Nat.zero_le _, Nat.zero_le _⟩⟩
  have he : entryFrame m args (mi_L (minfo j)) = F0 m 0 (((as0.map (rV base ro)).map Slot.val ++ List.replicate (mi_L (minfo j) - (as0.map (rV base ro)).length) Slot.unset).toArray) [] := by
    rw [hv]
    exact entry_eq m _ hc _
  rw [he]
  exact h7
theorem ctr_all {l : Launch} (hl : l.stackTraces = false) : ∀ (d j : Nat), j < 194 → Ctr l d j := by
  intro d
  induction d with
  | zero =>
    intro j hj D cA base ro as0 μ Q
    obtain ⟨m1, -⟩ := chkM _ (minfo_mem (j := j) (by omega))
    cases hhd : mi_hd (minfo j) with
    | none => exact vx_ofW m1 (ws_none hhd) fun p e s m args below meth c s₁ B hml htab hPc => hPc.2.2.elim
    | some q =>
      obtain ⟨f, t, h0, h, k⟩ := q
      exact vx_ofWH m1 (ws_some hhd) fun p e s m args below meth c s₁ B hml hPc => hPc.2.2.elim
  | succ d ih =>
    intro j hj D cA base ro as0 μ Q
    obtain ⟨m1, -⟩ := chkM _ (minfo_mem (j := j) (by omega))
    cases hhd : mi_hd (minfo j) with
    | none => exact vx_ofW m1 (ws_none hhd) fun p e s m args below meth c s₁ B hml htab hPc => body_ok hl ih hj B hml (by unfold Tb; rw [hhd]; exact fun _ => htab) hPc
    | some q =>
      obtain ⟨f, t, h0, h, k⟩ := q
      refine vx_ofWH m1 (ws_some hhd) fun p e s m args below meth c s₁ B hml hPc => body_ok hl ih hj B hml ?_ hPc
      unfold Tb
      rw [hhd]
      exact vx_table (x := mi_y (minfo j)) B (atoms_spec (ws := ws (minfo j)) B.pre _ (by rw [ws_some hhd]; exact List.mem_cons_self))
