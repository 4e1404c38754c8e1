theorem tbl_ok {s : State} {a9 : Array Value} (hts : ∀ w ∈ lw_tbl, w.before a9 s = true) {w : Cond} (h : tbl w = true) : w.before a9 s = true := hts w (of_decide_eq_true h)
theorem arr_of {s : State} {cA : ClassId} {kA : Class} {comp : ClassId} {ty : FieldType} (h2 : s.vm.classes[cA]? = some kA) (h3 : kA.kind = .array comp ty) : ArrOfT s cA ty := fun n z => ⟨(fun k h => by cases h), kA, h2, comp, h3⟩
theorem lt21 {a : Nat} (h : ¬ a < 33) : (a < 33) = False := by simp [h]
set_option maxHeartbeats 2000000 in
theorem start_world {p : Program} {s : State} {m : MethodId} {meth : Method} {c : Code} {b L : Nat} {xs : Nat → Int32} (hL : L ≤ 260) (C0 : lw_At p s m meth c b L xs) : ∃ (D : va_G) (cA : Nat → ClassId) (ro : Nat → Nat), ro 300 = b ∧ Wd D cA s.heap.size ro (mu0 L xs) s := by
  obtain ⟨hx, hb, hr, hml, hown, hts, hX, hbl, hlk, hgv⟩ := C0
  have hg : ∀ w ∈ gvn, w.before #[Value.ref b] s = true := flat_of_before _ hgv
  have hA : ∀ a : Nat, a < s.heap.size → ¬ isO s.heap.size a := fun a h q => Nat.not_lt.mpr q h
  -- the classes
  have hkn : ∀ c : Nat, ∃ d : ClassId × (Nat → Nat), ∀ q, vwCl[c]? = some q → u_Kn s q.1 q.2.1 q.2.2 d.1 d.2 := by
    intro c
    cases hq : vwCl[c]? with
    | none => exact ⟨(0, fun _ => 0), fun q h => by cases h⟩
    | some q =>
      have h1 := List.all_eq_true.mp ck_cl q (List.mem_of_getElem? hq)
      rw [Bool.and_eq_true] at h1
      obtain ⟨cC, iS, hk⟩ := u_known (ws := lw_tbl) hts (fun w hw => of_decide_eq_true (List.all_eq_true.mp h1.1 w hw)) (tbl_ok hts h1.2)
      exact ⟨(cC, iS), fun q' h => by cases h; exact hk⟩
  obtain ⟨f, hf⟩ := Classical.axiomOfChoice hkn
  have hxs := ck_x
  simp only [Bool.and_eq_true] at hxs
  obtain ⟨⟨⟨⟨⟨⟨⟨⟨⟨⟨x1, x2⟩, x3⟩, x4⟩, x5⟩, x6⟩, x7⟩, x8⟩, x9⟩, x10⟩, x11⟩ := hxs
  obtain ⟨c20, k20, m20, a1, a2, a3⟩ := Cond.arrayClass_spec (args := #[Value.ref b]) (first := s) (o := none) (s := s) (idx := []) (tbl_ok hts x7)
  obtain ⟨c21, k21, m21, b1, b2, b3⟩ := Cond.arrayClass_spec (args := #[Value.ref b]) (first := s) (o := none) (s := s) (idx := []) (tbl_ok hts x8)
  obtain ⟨c22, k22, m22, d1, d2, d3⟩ := Cond.arrayClass_spec (args := #[Value.ref b]) (first := s) (o := none) (s := s) (idx := []) (tbl_ok hts x9)
  obtain ⟨m23, c23, k23, e1, e2, e3, e4, e5⟩ := Cond.arrayOver_spec (args := #[Value.ref b]) (first := s) (o := none) (s := s) (idx := []) (tbl_ok hts x5)
  obtain ⟨m24, c24, k24, f1, f2, f3, f4, f5⟩ := Cond.arrayOver_spec (args := #[Value.ref b]) (first := s) (o := none) (s := s) (idx := []) (tbl_ok hts x6)
  obtain ⟨m26, c26, k26, h1, h2, h3, h4, h5⟩ := Cond.arrayOver_spec (args := #[Value.ref b]) (first := s) (o := none) (s := s) (idx := []) (tbl_ok hts x10)
  -- the texts
  have hstr : ∀ i : Nat, ∃ q : Nat × Nat, i < 33 → (tm0 i).eval #[Value.ref b] s none [] s = some (.ref q.1) ∧ va_O "java/lang/String" q.1 (isO s.heap.size) s s.heap ∧ va_OF "java/lang/String" "coder" "B" (.int 0) q.1 (isO s.heap.size) s s.heap ∧ va_OF "java/lang/String" "value" "[B" (.ref q.2) q.1 (isO s.heap.size) s s.heap ∧ va_T .byte q.2 ((txby.getD i []).length) (fun j => .int ((txby.getD i []).getD j 0)) (isO s.heap.size) s s.heap := by
    intro i
    by_cases hi : i < 33
    · obtain ⟨a, c, cA, kA, q1, q2, q3, q4, q5, q6, -⟩ := Cond.exactly_spec (args := #[Value.ref b]) (first := s) (o := none) (s := s) (idx := []) (t := tm0 i) (cls := "java/lang/String") (hg _ (ck_ex i hi))
      obtain ⟨t, ht, hT⟩ := va_Tof (f := fun j => .int ((txby.getD i []).getD j 0)) (A := isO s.heap.size) (ck_ln i hi).1 (hg _ (ck_ar i hi)) (va_eqt (hg _ (ck_le i hi))) (fun j hj => va_eqt (hg _ (ck_el i hi j hj))) hA
      rw [(ck_ln i hi).2] at hT
      exact ⟨(a, t), fun _ => ⟨q1, ⟨cA, q3, q5, by rw [q6]; exact q2, hA a (Array.getElem?_eq_some_iff.mp q3).1⟩, vk_OFof q1 (va_eqt (hg _ (ck_co i hi))) hA, vk_OFof q1 ht hA, hT⟩⟩
    · exact ⟨(0, 0), fun h => absurd h hi⟩
  obtain ⟨ad, had⟩ := Classical.axiomOfChoice hstr
  obtain ⟨tT, hT1, hT2⟩ := va_Tof (f := fun j => .int (tens.getD j 0)) (A := isO s.heap.size) (N := 100) (by decide) (hg _ ck_dg.1) (va_eqt (hg _ ck_dg.2.2.1)) (fun j hj => va_eqt (hg _ (ck_d1 j hj))) hA
  obtain ⟨tO, hO1, hO2⟩ := va_Tof (f := fun j => .int (ones.getD j 0)) (A := isO s.heap.size) (N := 100) (by decide) (hg _ ck_dg.2.1) (va_eqt (hg _ ck_dg.2.2.2)) (fun j hj => va_eqt (hg _ (ck_d2 j hj))) hA
  have hst := ck_st
  simp only [Bool.and_eq_true] at hst
  obtain ⟨⟨⟨⟨⟨⟨⟨⟨⟨s1, s2⟩, s3⟩, s4⟩, s5⟩, s6⟩, s7⟩, s8⟩, s9⟩, s10⟩ := hst
  obtain ⟨vF, hF1, hF2⟩ := Cond.isRef_spec (args := #[Value.ref b]) (first := s) (o := none) (s := s) (idx := []) (hg _ ck_cs.2.2.2)
  obtain ⟨qF, hF3⟩ : ∃ q, vF = .ref q ∨ vF = .null := by
    cases vF
    all_goals first
      | exact ⟨_, Or.inl rfl⟩
      | exact ⟨0, Or.inr rfl⟩
      | cases hF2
  refine ⟨(fun c => (f c).1, fun c => (f c).2), fun k => match k with | 20 => c20 | 21 => c21 | 23 => c23 | 24 => c24 | 25 => c22 | _ => c26,
    fun a => if a < 33 then (ad a).1 else if 100 ≤ a ∧ a < 133 then (ad (a - 100)).2 else if a = 200 then tT else if a = 201 then tO else if a = 301 then qF else b, ?_, ?_, ?_, ?_⟩
  · simp
  · refine ⟨rfl, Nat.le_refl _, fun a ha hk => ?_⟩
    exfalso
    have : mS (mu0 L xs) a = (99, 0) := by
      show k0 L a = _
      unfold k0
      rw [if_neg (by omega), if_neg (by omega), if_neg (by omega), if_neg (by omega), if_neg (by omega)]
    rw [this] at hk
    exact absurd hk (by decide)
  · refine ⟨fun c q hq => hf c q hq, fun k q hq => ?_⟩
    have hk : k < 7 := (List.getElem?_eq_some_iff.mp hq).1
    rcases (by omega : k = 0 ∨ k = 1 ∨ k = 2 ∨ k = 3 ∨ k = 4 ∨ k = 5 ∨ k = 6) with rfl | rfl | rfl | rfl | rfl | rfl | rfl <;> cases hq
    · exact ⟨arr_of a2 a3, a1⟩
    · exact ⟨arr_of b2 b3, b1⟩
    · exact ⟨arr_of b2 b3, b1⟩
    · exact ⟨arr_of e3 e4, k23, m23, e3, e4, e1, e5⟩
    · exact ⟨arr_of f3 f4, k24, m24, f3, f4, f1, f5⟩
    · exact ⟨arr_of d2 d3, d1⟩
    · exact ⟨arr_of h3 h4, k26, m26, h3, h4, h1, h5⟩
  · refine ⟨fun a ha => ?_, fun k hk => ?_, ⟨vx_Zqof (tbl_ok hts s4) (tbl_ok hts s8) (hg _ ck_cs.2.1) hA, vx_Zqof (tbl_ok hts s5) (tbl_ok hts s8) (hg _ ck_cs.2.2.1) hA⟩, fun n hn r hr k hk => ?_, fun n hn r hr hk => ?_, ⟨va_Nw.of rfl (tbl_ok hts x1), fun Y hY => ?_⟩, va_AO.of (tbl_ok hts x5), va_AO.of (tbl_ok hts x6), va_AO.of (tbl_ok hts x10), va_Nw.of rfl (tbl_ok hts x11)⟩
    · rw [show mS (mu0 L xs) a = k0 L a from rfl, show mI (mu0 L xs) a = i0 xs a from rfl, show mR (mu0 L xs) a = r0 a from rfl]
      by_cases h1 : a < 33
      · have e : k0 L a = (0, 4) := by unfold k0; rw [if_pos h1]
        rw [e]
        refine ⟨(fun z => by cases z), (fun z => by cases z), fun _ => ?_, Or.inl rfl⟩
        obtain ⟨g1, g2, g3, g4, g5⟩ := had a h1
        have ei : i0 xs a 1 = 0 := by unfold i0; rw [if_pos h1]
        dsimp only
        rw [if_pos h1, ei]
        refine ⟨g2, g3, 100 + a, by unfold r0; rw [if_pos ⟨h1, rfl⟩], by omega, ?_⟩
        rw [if_neg (by omega), if_pos (by omega), show 100 + a - 100 = a by omega]
        exact g4
      · by_cases h2 : 100 ≤ a ∧ a < 133
        · have e : k0 L a = (21, (txby.getD (a - 100) []).length) := by unfold k0; rw [if_neg h1, if_pos h2]
          have ei : i0 xs a = fun k => (txby.getD (a - 100) []).getD k 0 := by funext k; unfold i0; rw [if_neg h1, if_pos h2]
          rw [e, ei]
          refine ⟨(fun z => by cases z), fun _ => ?_, (fun z => by cases z), Or.inr (Or.inr (Or.inl rfl))⟩
          dsimp only
          rw [if_neg h1, if_pos h2]
          exact (had (a - 100) (by omega)).2.2.2.2
        · by_cases h3 : a = 200
          · subst h3
            have e : k0 L 200 = (21, 100) := rfl
            rw [e]
            refine ⟨(fun z => by cases z), fun _ => hT2, (fun z => by cases z), Or.inr (Or.inr (Or.inl rfl))⟩
          · by_cases h4 : a = 201
            · subst h4
              have e : k0 L 201 = (21, 100) := rfl
              rw [e]
              refine ⟨(fun z => by cases z), fun _ => hO2, (fun z => by cases z), Or.inr (Or.inr (Or.inl rfl))⟩
            · by_cases h5 : a = 300
              · subst h5
                have e : k0 L 300 = (20, L) := rfl
                rw [e]
                refine ⟨fun _ => ?_, (fun z => by cases z), (fun z => by cases z), Or.inr (Or.inl rfl)⟩
                obtain ⟨scr, y1, y2, y3, y4, y5⟩ := hX
                refine ⟨scr, y1, y2, y3, by rw [y4]; exact Nat.le_refl _, (by rw [y4] : scr.slots.size.toInt32 = Int32.ofNat L), fun j hj => ?_, hA b hbl⟩
                have : i0 xs 300 j = xs j := rfl
                show scr.slots[j]? = some (Value.int (i0 xs 300 j))
                rw [this]
                exact y5 j hj
              · have e : k0 L a = (99, 0) := by unfold k0; rw [if_neg h1, if_neg h2, if_neg h3, if_neg h4, if_neg h5]
                rw [e]
                exact ⟨(fun z => by cases z), (fun z => by cases z), (fun z => by cases z), Or.inr (Or.inr (Or.inr rfl))⟩
    · rcases (by omega : k = 0 ∨ k = 1 ∨ k = 2 ∨ k = 3) with rfl | rfl | rfl | rfl
      · exact ⟨_, Or.inl rfl, va_Zof (tbl_ok hts s1) (tbl_ok hts s6) (va_eqi (hg _ ck_cs.1)) hA⟩
      · exact ⟨_, Or.inl rfl, va_Zof (tbl_ok hts s2) (tbl_ok hts s7) hT1 hA⟩
      · exact ⟨_, Or.inl rfl, va_Zof (tbl_ok hts s3) (tbl_ok hts s7) hO1 hA⟩
      · rcases hF3 with rfl | rfl
        · exact ⟨_, Or.inl rfl, va_Zof (tbl_ok hts s9) (tbl_ok hts s10) hF1 hA⟩
        · exact ⟨_, Or.inr ⟨rfl, rfl⟩, va_Zof (tbl_ok hts s9) (tbl_ok hts s10) hF1 hA⟩
    · have h1 := ck_k n hn r hr
      rw [hk] at h1
      simp only [Bool.and_eq_true] at h1
      obtain ⟨⟨g1, g2⟩, g3⟩ := h1
      have hk21 : k < 33 := by simpa using g1
      refine ⟨by omega, vk_R.of (tbl_ok hts g3) ?_⟩
      have h2 := (had k hk21).1
      unfold tm0 at h2
      rw [of_decide_eq_true g2] at h2
      dsimp only
      rw [if_pos hk21]
      exact h2
    · have h1 := ck_n n hn r hr
      rcases hk with hk | hk <;> (rw [hk] at h1; exact va_Nw.of rfl (tbl_ok hts h1))
    · simp only [List.mem_cons, List.not_mem_nil, or_false] at hY
      rcases hY with rfl | rfl | rfl
      · exact va_Nw.of rfl (tbl_ok hts x2)
      · exact va_Nw.of rfl (tbl_ok hts x3)
      · exact va_Nw.of rfl (tbl_ok hts x4)
/-- the law's end is what the claim asks -/
theorem law_end {s t : State} {below : List Frame} {b : Nat} {D : va_G} {cA : Nat → ClassId} {ro : Nat → Nat} {μ0 : Mu} (h : vx_MQ below (QcO D cA s.heap.size ro (fun o _ => o = some (some (.int 1))) μ0) (XCO D cA s.heap.size ro (fun o _ => o = some (some (.int 1))) μ0 false) #[Value.ref b] s 600086 7301442 (isO s.heap.size) t) : lw_Z below #[Value.ref b] s t := by
  obtain ⟨o, hrun, hend, h⟩ := h
  rcases h with ⟨⟨v, μ', ho, hq, -⟩, L, hF, hL⟩ | ⟨q, -, E, ce, L, ⟨-, hth, -⟩, -⟩
  · have hv : v = some (.int 1) := Option.some.inj hq
    subst hv
    refine ⟨o, hrun, hend, ho, ?_⟩
    exact ⟨⟨_, ho⟩, hF.2.1, hF.2.2.drop_fresh (L := []) (J := L) hL⟩
  · cases hth
theorem cL_eq : mi_c mi194 = code := rfl
theorem minfo194 : minfo 194 = mi194 := rfl
/-- THE LAW: if the small machine brings the law to its end with true, so does the big one -/
theorem law_walked {p : Program} {e : Env} {s : State} {m : MethodId} {below : List Frame} {meth : Method} {c : Code} (l : Launch) (hflags : l.flags = flags0) {b L : Nat} {xs : Nat → Int32} (hL : L ≤ 260) (C0 : lw_At p s m meth c b L xs) (hE : E (Ev 1000) mi194 0 (ent [.ref 300] 6) [] (mu0 L xs) (0, 0) (fun o _ => o = some (some (.int 1)))) :
    W p l e room_1 s m #[Value.ref b] below meth c s.heap [] 0 0 (lw_Z below #[Value.ref b] s) (entryFrame m ([Value.ref b] : List Value).toArray 6) := by
  have C1 := C0
  obtain ⟨D, cA, ro, hro, hP, hK, hRO⟩ := start_world hL C0
  obtain ⟨hx, hb, hr, hml, hown, hts, hX, hbl, hlk, hgv⟩ := C1
  have hl : l.stackTraces = false := by unfold Launch.stackTraces; rw [hflags]; decide
  have hM : mi194 ∈ mtab := by rw [← minfo194]; exact minfo_mem (by omega)
  have C : Ctx p room_1 s m #[Value.ref b] c mi194 D cA s.heap.size :=
    ⟨hx, hb, hml, hown, fun w hw => lwE_ok hts w (List.mem_filter.mp hw).1, hK, Nat.le_refl _, by decide, rfl, rfl, ⟨by decide, fun z => by cases z⟩, ⟨by decide, by decide, by decide⟩⟩
  have h9 := hE (XW p l e room_1 s m #[Value.ref b] below meth c (vx_MQ below (QcO D cA s.heap.size ro (fun o _ => o = some (some (.int 1))) (mu0 L xs)) (XCO D cA s.heap.size ro (fun o _ => o = some (some (.int 1))) (mu0 L xs) false) #[Value.ref b] s 600086 7301442 (isO s.heap.size)) D cA s.heap.size ro mi194 (mu0 L xs))
    fun pc ls st μ1 u ⟨ins, n, h1, h2, h3⟩ => sim_stp C (fun h => absurd h (by decide)) hr hlk hl (fun hth => by cases hth) rfl (sim_inv (ctr_all hl 1000) C hM (fun z => by cases z) hlk rfl) h1 h2 h3
  have h7 := h9 s.heap [] _ ⟨hP, ⟨hRO, Sm.rfl'⟩, va_S.rf, lr_entry (M := mi194) (vs := [.ref 300]) rfl (fun v hv => by cases List.mem_singleton.mp hv; rfl) (by decide), ⟨Nat.zero_le _, Nat.zero_le _⟩⟩
  have he : entryFrame m ([Value.ref b] : List Value).toArray 6 = F0 m 0 ((([Value.ref 300].map (rV s.heap.size ro)).map Slot.val ++ List.replicate (mi_L mi194 - ([Value.ref 300].map (rV s.heap.size ro)).length) Slot.unset).toArray) [] := by
    have e1 : [Value.ref 300].map (rV s.heap.size ro) = [Value.ref b] := by
      show [Value.ref (rA s.heap.size ro 300)] = _
      rw [rA_ro (by omega), hro]
    rw [e1]
    exact entry_eq m _ (fun v hv => by cases List.mem_singleton.mp hv; rfl) _
  rw [he]
  intro T hT X
  obtain ⟨t, a1, b1⟩ := h7 T hT X
  exact ⟨t, a1, law_end b1⟩
