/-! one step of the small machine is a step of the big one -/
def Sm (μ μ' : Mu) : Prop := ∀ a, a < 1000 → mS μ' a = mS μ a ∧ mI μ' a = mI μ a ∧ mR μ' a = mR μ a
theorem Sm.rfl' {μ : Mu} : Sm μ μ := fun _ _ => ⟨rfl, rfl, rfl⟩
theorem Sm.trans {μ μ1 μ2 : Mu} (h : Sm μ μ1) (k : Sm μ1 μ2) : Sm μ μ2 := fun a ha => ⟨(k a ha).1.trans (h a ha).1, (k a ha).2.1.trans (h a ha).2.1, (k a ha).2.2.trans (h a ha).2.2⟩
theorem Sm.oI {μ μ1 : Mu} {a k : Nat} {v : Int32} (h : Sm μ μ1) (ha : 1000 ≤ a) : Sm μ (uI μ1 a k v) := h.trans fun b hb => ⟨rfl, by funext j; simp [mI, uI, show ¬ b = a by omega], rfl⟩
theorem Sm.oA {μ μ1 : Mu} {a : Nat} {f : Nat → Int32} (h : Sm μ μ1) (ha : 1000 ≤ a) : Sm μ (uA μ1 a f) := h.trans fun b hb => ⟨rfl, by funext j; simp [mI, uA, show ¬ b = a by omega], rfl⟩
theorem Sm.oJ {μ μ1 : Mu} {a k : Nat} {v : Int64} (h : Sm μ μ1) : Sm μ (uJ μ1 a k v) := h.trans fun b hb => ⟨rfl, rfl, rfl⟩
theorem Sm.oR {μ μ1 : Mu} {a k : Nat} {v : Option Nat} (h : Sm μ μ1) (ha : 1000 ≤ a) : Sm μ (uR μ1 a k v) := h.trans fun b hb => ⟨rfl, rfl, by funext j; simp [mR, uR, show ¬ b = a by omega]⟩
theorem Sm.oX {μ μ1 : Mu} {x : Nat} (h : Sm μ μ1) : Sm μ (uX μ1 x) := h.trans fun b hb => ⟨rfl, rfl, rfl⟩
theorem Sm.oN {μ μ1 : Mu} {k n : Nat} (h : Sm μ μ1) (ha : 1000 ≤ mX μ1) : Sm μ (uN μ1 k n) := h.trans fun b hb => by
  have e : ¬ b = μ1.1 := by have : 1000 ≤ μ1.1 := ha; omega
  exact ⟨by simp [mS, uN, e], by funext j; simp [mI, uN, e], by funext j; simp [mR, uN, e]⟩
def Rl (D : va_G) (cA : Nat → ClassId) (base : Nat) (ro : Nat → Nat) (M : MI) (s : State) (μ0 : Mu) (ls : LV) (μ : Mu) (u : Nat × Nat) (H : Heap) (locs : List Loc) (rls : Array Slot) : Prop :=
  Pic D cA base ro μ H ∧ (RO base ro μ s s.heap ∧ Sm μ0 μ) ∧ va_S (isO base) s.heap H locs ∧ LR base ro M ls rls ∧ ule u (mi_al M)
/-- old things keep their numbers of places -/
def SZ (H H1 : Heap) : Prop := ∀ (a : Nat) (c : Cell), H[a]? = some c → ∃ c' : Cell, H1[a]? = some c' ∧ c'.slots.size = c.slots.size
/-- what a method says of its end: returned, thrown -/
def QcO (D : va_G) (cA : Nat → ClassId) (base : Nat) (ro : Nat → Nat) (Q : Po) (μ0 : Mu) : Array Value → State → Outcome → State → Prop := fun _ st o t => ∃ (v : Option Value) (μ' : Mu), o = .returned (v.map (rV base ro)) ∧ Q (some v) μ' ∧ Pic D cA base ro μ' t.heap ∧ va_F (isO base) st t ∧ Sm μ0 μ' ∧ SZ st.heap t.heap
def XCO (D : va_G) (cA : Nat → ClassId) (base : Nat) (ro : Nat → Nat) (Q : Po) (μ0 : Mu) (th : Bool) : String → State → State → Prop := fun E st t => E = IOB ∧ th = true ∧ ∃ μ' : Mu, Q none μ' ∧ Pic D cA base ro μ' t.heap ∧ va_F (isO base) st t ∧ Sm μ0 μ'
def XW (p : Program) (l : Launch) (e : Env) (R : Room) (s : State) (m : MethodId) (args : Array Value) (below : List Frame) (meth : Method) (c : Code) (Qe : State → Prop) (D : va_G) (cA : Nat → ClassId) (base : Nat) (ro : Nat → Nat) (M : MI) (μ0 : Mu) : Nat → LV → List Value → Mu → Nat × Nat → Prop := fun pc ls st μ u =>
  ∀ (H : Heap) (locs : List Loc) (rls : Array Slot), Rl D cA base ro M s μ0 ls μ u H locs rls → W p l e R s m args below meth c H locs u.1 u.2 Qe (F0 m pc rls (st.map (rV base ro)))
def ivk (kind idx : Nat) : Instr := match kind with | 0 => .invokevirtual idx | 1 => .invokestatic idx | _ => .invokespecial idx
theorem RO.sm {base : Nat} {ro : Nat → Nat} {μ μ' : Mu} {U : State} {H : Heap} (h : RO base ro μ U H) (k : Sm μ μ') : RO base ro μ' U H := h.same (fun a ha => (k a ha).1) (fun a ha => (k a ha).2.1) (fun a ha => (k a ha).2.2)
section Step
variable {p : Program} {l : Launch} {e : Env} {R : Room} {s : State} {m : MethodId} {args : Array Value} {below : List Frame} {meth : Method} {c : Code} {H : Heap} {locs : List Loc} {Qe : State → Prop} {cells slots : Nat}
variable {M : MI} {D : va_G} {cA : Nat → ClassId} {base : Nat} {ro : Nat → Nat} {μ μ0 : Mu} {pc : Nat} {rls : Array Slot} {r : List Value}
theorem W_sz {g : JFrame} (k : SZ s.heap H → W p l e R s m args below meth c H locs cells slots Qe g) : W p l e R s m args below meth c H locs cells slots Qe g := by
  intro T hT X
  refine k (fun a c0 h => ?_) T hT X
  obtain ⟨c', h1, -, h2, -⟩ := X.same.2.2.2.2.2 a c0 h
  exact ⟨c', by rw [← hT]; exact h1, h2⟩
theorem chkVX : ∀ w ∈ vx_atS "LockstepRoom" 210 IOB ["java/lang/RuntimeException", "java/lang/Exception"], w ∈ ALLG ∨ w = .castable IOB IOB ∨ w = .declares (Bundle.initS "java/lang/RuntimeException") ∨ w = .declares (Bundle.initS "java/lang/Exception") ∨ w = .declares (Bundle.initS "java/lang/Throwable") := by
  intro w hw
  have h := List.all_eq_true.mp chkX w hw
  simp only [Bool.or_eq_true, beq_iff_eq] at h
  rcases h with (((h | h) | h) | h) | h
  · exact Or.inl (inG_mem h)
  · exact Or.inr (Or.inl h)
  · exact Or.inr (Or.inr (Or.inl h))
  · exact Or.inr (Or.inr (Or.inr (Or.inl h)))
  · exact Or.inr (Or.inr (Or.inr (Or.inr h)))
theorem chkVX2 : ∀ w ∈ Cond.classLink "LockstepRoom" 206 IOB :: Cond.initialized IOB :: vx_atS "LockstepRoom" 210 IOB ["java/lang/RuntimeException", "java/lang/Exception"], vx_ot w = true := by decide +kernel
theorem chkVX3 : Bundle.fit IOB = true ∧ ∀ n ∈ ["java/lang/RuntimeException", "java/lang/Exception"], Bundle.fit n = true := by decide +kernel
theorem pg_throw (C : Ctx p R s m args c M D cA base) {idx is k : Nat} {Q : Po} (hth : mi_th M = true) (hl : l.stackTraces = false) (hlk : meth.locks = false) (htab : ∀ x ∈ c.exceptionTable.toList, False) (hQe : Qe = vx_MQ below (QcO D cA base ro Q μ0) (XCO D cA base ro Q μ0 true) args s (mi_al M).1 (mi_al M).2 (isO base))
    (hP : Pic D cA base ro μ H) (hRO : RO base ro μ s s.heap) (hSm : Sm μ0 μ) (hS : va_S (isO base) s.heap H locs) (hL : rls.size = mi_L M) (hn : mi_n M = 17) (hc : cres (mi_n M) idx = some 100)
    (hu : cells + 1 ≤ (mi_al M).1 ∧ slots + 6 ≤ (mi_al M).2) (hQ : ∀ x, mX μ ≤ x → Q none (uX μ x))
    (d0 : decode (mi_c M) pc = .ok (.new idx, 3)) (d3 : decode (mi_c M) (pc + 3) = .ok (.dup, 1)) (d4 : (decode (mi_c M) (pc + 4) = .ok (.ldc is, 2) ∧ decode (mi_c M) (pc + 6) = .ok (.invokespecial 210, 3) ∧ decode (mi_c M) (pc + 9) = .ok (.athrow, 1)) ∨ (decode (mi_c M) (pc + 4) = .ok (.ldc_w is, 3) ∧ decode (mi_c M) (pc + 7) = .ok (.invokespecial 210, 3) ∧ decode (mi_c M) (pc + 10) = .ok (.athrow, 1))) (hk : kres (mi_n M) is = some (.inr k)) :
    W p l e R s m args below meth c H locs cells slots Qe (F0 m pc rls []) := by
  obtain ⟨hx, hb, hml, hown, hts, hK, hbase, hn20, hRc, hRs, hRf, hRl⟩ := C
  have hRf := hRf.2 hth
  have hRl := hRl.1
  have hidx : idx = 206 := chkN100 _ hn20 _ (tab_mem hc) rfl hn
  subst hidx
  obtain ⟨k1, k2⟩ := hRO.2.2.2.1 _ hn20 _ (tab_mem hk) k rfl
  have e17 : cnm.getD (mi_n M) "" = "LockstepRoom" := by rw [hn]; rfl
  rw [e17] at hown k2
  obtain ⟨-, -, hz, -, -, hno, -⟩ := hRO
  subst hQe
  rcases d4 with d4 | d4
  · refine vx_throwS (own := "LockstepRoom") (cls := IOB) (names := ["java/lang/RuntimeException", "java/lang/Exception"]) hx hb hl hown chkVX3.1 chkVX3.2 (hts _ (inG_mem chkX2.1)) (hts _ (inG_mem chkX2.2)) k2 (fun w hw => ?_) chkVX2 hz.1 hz.2 hS (by rw [hL, hml]) d0 d3 d4.1 d4.2.1 d4.2.2 (fun x hx => (htab x hx).elim) (by show 5 < _; omega) (by show 0 + 82 ≤ _; omega) (by omega) (by omega) hlk (fun t hvm g1 g2 => ?_) hS.2.2 hu.1 hu.2
    · rcases chkVX w hw with h | h | h | h | h
      · exact hts w h
      · rw [h]; exact va_Nw.use rfl hno.1
      · rw [h]; exact va_Nw.use rfl (hno.2 _ (by simp))
      · rw [h]; exact va_Nw.use rfl (hno.2 _ (by simp))
      · rw [h]; exact va_Nw.use rfl (hno.2 _ (by simp))
    · have hsz := hP.1
      refine ⟨rfl, rfl, uX μ (mX μ + (t.heap.size - H.size)), hQ _ (by omega), hP.skip (by omega) (by omega) g2, ⟨Nat.le_trans hS.1 g1, fun q h1 h2 => (g2 q (Nat.lt_of_lt_of_le h1 hS.1)).trans (hS.2.1 q h1 h2)⟩, hSm.oX⟩
  · refine vx_throwSW (own := "LockstepRoom") (cls := IOB) (names := ["java/lang/RuntimeException", "java/lang/Exception"]) hx hb hl hown chkVX3.1 chkVX3.2 (hts _ (inG_mem chkX2.1)) (hts _ (inG_mem chkX2.2)) k2 (fun w hw => ?_) chkVX2 hz.1 hz.2 hS (by rw [hL, hml]) d0 d3 d4.1 d4.2.1 d4.2.2 (fun x hx => (htab x hx).elim) (by show 5 < _; omega) (by show 0 + 82 ≤ _; omega) (by omega) (by omega) hlk (fun t hvm g1 g2 => ?_) hS.2.2 hu.1 hu.2
    · rcases chkVX w hw with h | h | h | h | h
      · exact hts w h
      · rw [h]; exact va_Nw.use rfl hno.1
      · rw [h]; exact va_Nw.use rfl (hno.2 _ (by simp))
      · rw [h]; exact va_Nw.use rfl (hno.2 _ (by simp))
      · rw [h]; exact va_Nw.use rfl (hno.2 _ (by simp))
    · have hsz := hP.1
      refine ⟨rfl, rfl, uX μ (mX μ + (t.heap.size - H.size)), hQ _ (by omega), hP.skip (by omega) (by omega) g2, ⟨Nat.le_trans hS.1 g1, fun q h1 h2 => (g2 q (Nat.lt_of_lt_of_le h1 hS.1)).trans (hS.2.1 q h1 h2)⟩, hSm.oX⟩
set_option maxHeartbeats 4000000 in
theorem sim_stp {ev : Nat → List Value → Mu → Po → Prop} {Q : Po} (C : Ctx p R s m args c M D cA base) (hmn : (mi_y M).name = "<init>" → meth.name = "<init>") (hrt : meth.sig.returnType = mi_rt M) (hlk : meth.locks = false) (hl : l.stackTraces = false) (htab : mi_th M = true → ∀ x ∈ c.exceptionTable.toList, False)
    (hQe : Qe = vx_MQ below (QcO D cA base ro Q μ0) (XCO D cA base ro Q μ0 (mi_th M)) args s (mi_al M).1 (mi_al M).2 (isO base))
    (hinv : ∀ (idx kind pc : Nat) (ls : LV) (st : List Value) (μ : Mu) (u : Nat × Nat) (H : Heap) (locs : List Loc) (rls : Array Slot), Rl D cA base ro M s μ0 ls μ u H locs rls → decode (mi_c M) pc = .ok (ivk kind idx, 3) → inv ev M Q (XW p l e R s m args below meth c Qe D cA base ro M μ0) idx kind pc ls st μ u → W p l e R s m args below meth c H locs u.1 u.2 Qe (F0 m pc rls (st.map (rV base ro))))
    {ins : Instr} {n pc : Nat} {ls : LV} {st : List Value} {μ : Mu} {u : Nat × Nat} (hdg : decode (mi_c M) pc = .ok (ins, n)) (hlen : ilen ins n = true) (h : stp ev M Q (XW p l e R s m args below meth c Qe D cA base ro M μ0) ins n pc ls st μ u) : XW p l e R s m args below meth c Qe D cA base ro M μ0 pc ls st μ u := by
  intro H locs rls hR
  have hR0 := hR
  have C0 := C
  obtain ⟨hx, hb, hml, hown, hts, hK, hbase, hn20, hRc, hRs, hRf, hRl⟩ := C0
  obtain ⟨hP, ⟨hRO, hSm⟩, hS, hL, hu⟩ := hR0
  unfold stp at h
  split at h
  case _ =>
    have en : n = 2 := eq_of_beq hlen
    subst en
    obtain ⟨x, h1, h2⟩ := lI_inv h
    exact lv_iload hx hb hdg (hL.2.2.2.2 _ _ h1) (h2 H locs rls hR)
  case _ =>
    have en : n = 1 := eq_of_beq hlen
    subst en
    obtain ⟨x, h1, h2⟩ := lI_inv h
    exact lv_iload_n hx hb hdg rfl (hL.2.2.2.2 _ _ h1) (h2 H locs rls hR)
  case _ =>
    have en : n = 2 := eq_of_beq hlen
    subst en
    obtain ⟨x, h1, h2⟩ := lA_inv h
    exact lv_aload hx hb hdg (hL.2.2.2.2 _ _ h1) (h2 H locs rls hR)
  case _ =>
    have en : n = 1 := eq_of_beq hlen
    subst en
    obtain ⟨x, h1, h2⟩ := lA_inv h
    exact lv_aload_n hx hb hdg rfl (hL.2.2.2.2 _ _ h1) (h2 H locs rls hR)
  case _ =>
    have en : n = 2 := eq_of_beq hlen
    subst en
    obtain ⟨x, h1, h2⟩ := lL_inv h
    exact lv_lload hx hb hdg (hL.2.2.2.2 _ _ h1) (h2 H locs rls hR)
  case _ =>
    have en : n = 1 := eq_of_beq hlen
    subst en
    obtain ⟨x, h1, h2⟩ := lL_inv h
    exact lv_lload_n hx hb hdg rfl (hL.2.2.2.2 _ _ h1) (h2 H locs rls hR)
  case _ =>
    have en : n = 2 := eq_of_beq hlen
    subst en
    obtain ⟨x, h1, h2⟩ := lD_inv h
    exact lv_dload hx hb hdg (hL.2.2.2.2 _ _ h1) (h2 H locs rls hR)
  case _ =>
    have en : n = 1 := eq_of_beq hlen
    subst en
    obtain ⟨x, h1, h2⟩ := lD_inv h
    exact lv_dload_n hx hb hdg rfl (hL.2.2.2.2 _ _ h1) (h2 H locs rls hR)
  case _ =>
    have en : n = 2 := eq_of_beq hlen
    subst en
    obtain ⟨x, r, rfl, h1⟩ := pI_inv h
    obtain ⟨hi, h2⟩ := oki_inv h1
    exact lv_istore hx hb hdg hL.has hi rfl fun ls' h' => h2 H locs ls' ⟨hP, ⟨hRO, hSm⟩, hS, hL.st1 hi rfl h', hu⟩
  case _ =>
    have en : n = 1 := eq_of_beq hlen
    subst en
    obtain ⟨x, r, rfl, h1⟩ := pI_inv h
    obtain ⟨hi, h2⟩ := oki_inv h1
    exact lv_istore_n hx hb hdg rfl hL.has hi rfl fun ls' h' => h2 H locs ls' ⟨hP, ⟨hRO, hSm⟩, hS, hL.st1 hi rfl h', hu⟩
  case _ =>
    have en : n = 2 := eq_of_beq hlen
    subst en
    obtain ⟨x, r, rfl, h1⟩ := pA_inv h
    obtain ⟨hi, h2⟩ := oki_inv h1
    exact lv_astore hx hb hdg hL.has hi rfl fun ls' h' => h2 H locs ls' ⟨hP, ⟨hRO, hSm⟩, hS, hL.st1 hi rfl h', hu⟩
  case _ =>
    have en : n = 1 := eq_of_beq hlen
    subst en
    obtain ⟨x, r, rfl, h1⟩ := pA_inv h
    obtain ⟨hi, h2⟩ := oki_inv h1
    exact lv_astore_n hx hb hdg rfl hL.has hi rfl fun ls' h' => h2 H locs ls' ⟨hP, ⟨hRO, hSm⟩, hS, hL.st1 hi rfl h', hu⟩
  case _ =>
    have en : n = 2 := eq_of_beq hlen
    subst en
    obtain ⟨x, r, rfl, h1⟩ := pL_inv h
    obtain ⟨hi, h2⟩ := oki_inv h1.2
    exact lv_lstore hx hb hdg hL.has hi rfl fun ls' h' => h2 H locs ls' ⟨hP, ⟨hRO, hSm⟩, hS, hL.st2 hi h1.1 h', hu⟩
  case _ =>
    have en : n = 1 := eq_of_beq hlen
    subst en
    obtain ⟨x, r, rfl, h1⟩ := pL_inv h
    obtain ⟨hi, h2⟩ := oki_inv h1.2
    exact lv_lstore_n hx hb hdg rfl hL.has hi rfl fun ls' h' => h2 H locs ls' ⟨hP, ⟨hRO, hSm⟩, hS, hL.st2 hi h1.1 h', hu⟩
  case _ =>
    have en : n = 2 := eq_of_beq hlen
    subst en
    obtain ⟨x, r, rfl, h1⟩ := pD_inv h
    obtain ⟨hi, h2⟩ := oki_inv h1.2
    exact lv_dstore hx hb hdg hL.has hi rfl fun ls' h' => h2 H locs ls' ⟨hP, ⟨hRO, hSm⟩, hS, hL.st2 hi h1.1 h', hu⟩
  case _ =>
    have en : n = 1 := eq_of_beq hlen
    subst en
    obtain ⟨x, r, rfl, h1⟩ := pD_inv h
    obtain ⟨hi, h2⟩ := oki_inv h1.2
    exact lv_dstore_n hx hb hdg rfl hL.has hi rfl fun ls' h' => h2 H locs ls' ⟨hP, ⟨hRO, hSm⟩, hS, hL.st2 hi h1.1 h', hu⟩
  case _ =>
    have en : n = 3 := eq_of_beq hlen
    subst en
    obtain ⟨x, h1, h2⟩ := lI_inv h
    obtain ⟨k9, hk9⟩ := List.getElem?_of_mem (lvE_mem (base := base) (ro := ro) h1)
    have hi := hL.lt h1
    exact lv_iinc hx hb hdg hL.has hk9 rfl hi rfl fun ls' h' => h2 H locs ls' ⟨hP, ⟨hRO, hSm⟩, hS, hL.sti h1 rfl h', hu⟩
  case _ =>
    have en : n = 3 := eq_of_beq hlen
    subst en
    obtain ⟨x, r, rfl, h1⟩ := pI_inv h
    obtain ⟨t, ht, h2⟩ := tgt_inv h1
    rename_i c9 _
    cases c9
    · exact lv_if_eq hx hb hdg ht (fun z => h2.1 z H locs rls hR) (fun z => h2.2 z H locs rls hR)
    · exact lv_if_ne hx hb hdg ht (fun z => h2.2 z H locs rls hR) (fun z => h2.1 z H locs rls hR)
    · exact lv_if_lt hx hb hdg ht (fun z => h2.1 z H locs rls hR) (fun z => h2.2 z H locs rls hR)
    · exact lv_if_ge hx hb hdg ht (fun z => h2.1 z H locs rls hR) (fun z => h2.2 z H locs rls hR)
    · exact lv_if_gt hx hb hdg ht (fun z => h2.1 z H locs rls hR) (fun z => h2.2 z H locs rls hR)
    · exact lv_if_le hx hb hdg ht (fun z => h2.1 z H locs rls hR) (fun z => h2.2 z H locs rls hR)
  case _ =>
    have en : n = 3 := eq_of_beq hlen
    subst en
    obtain ⟨y, r, rfl, h0⟩ := pI_inv h
    obtain ⟨x, r, rfl, h1⟩ := pI_inv h0
    obtain ⟨t, ht, h2⟩ := tgt_inv h1
    rename_i c9 _
    cases c9
    · exact lv_icmp_eq hx hb hdg ht (fun z => h2.1 z H locs rls hR) (fun z => h2.2 z H locs rls hR)
    · exact lv_icmp_ne hx hb hdg ht (fun z => h2.2 z H locs rls hR) (fun z => h2.1 z H locs rls hR)
    · exact lv_icmp_lt hx hb hdg ht (fun z => h2.1 z H locs rls hR) (fun z => h2.2 z H locs rls hR)
    · exact lv_icmp_ge hx hb hdg ht (fun z => h2.1 z H locs rls hR) (fun z => h2.2 z H locs rls hR)
    · exact lv_icmp_gt hx hb hdg ht (fun z => h2.1 z H locs rls hR) (fun z => h2.2 z H locs rls hR)
    · exact lv_icmp_le hx hb hdg ht (fun z => h2.1 z H locs rls hR) (fun z => h2.2 z H locs rls hR)
  case _ =>
    have en : n = 3 := eq_of_beq hlen
    subst en
    obtain ⟨x, r, rfl, h1⟩ := pA_inv h
    obtain ⟨t, ht, h2⟩ := tgt_inv h1
    exact lv_ifnonnull hx hb hdg ht (h2 H locs rls hR)
  case _ =>
    have en : n = 3 := eq_of_beq hlen
    subst en
    obtain ⟨a, r, rfl, ⟨h5, rfl, ha, hs⟩, h2⟩ := pA_inv h
    exact pg_cast C hP ha hs h5 hdg (h2 H locs rls hR)
  case _ =>
    have en : n = 3 := eq_of_beq hlen
    subst en
    obtain ⟨t, ht, h2⟩ := tgt_inv h
    exact lv_goto hx hb hdg ht (h2 H locs rls hR)
  case _ =>
    obtain ⟨x, r, rfl, h1, h2⟩ := pI_inv h
    rename_i d9 lo9 hi9 offs9
    by_cases g : x.toInt < lo9 ∨ hi9 < x.toInt
    · obtain ⟨t, ht, h3⟩ := tgt_inv (h1 g)
      exact lv_tableOut hx hb hdg g ht (h3 H locs rls hR)
    · have g1 : ¬ x.toInt < lo9 := fun q => g (Or.inl q)
      have g2 : ¬ hi9 < x.toInt := fun q => g (Or.inr q)
      have h3 := h2 g1 g2
      split at h3
      · rename_i off ho
        obtain ⟨t, ht, h4⟩ := tgt_inv h3
        exact lv_tableIn hx hb hdg g1 g2 ho ht (h4 H locs rls hR)
      · exact h3.elim
  case _ =>
    have en : n = 3 := eq_of_beq hlen
    subst en
    obtain ⟨a, r, rfl, h1⟩ := pA_inv h
    split at h1
    · rename_i ci k hf
      obtain ⟨hs, h2⟩ := h1
      refine pg_get C hP hRO hS hf hs hdg ?_
      unfold fV
      split at h2
      · rename_i hr
        obtain ⟨b, hb9, h3⟩ := onR_inv h2
        rw [hr, hb9]
        exact h3 H locs rls hR
      · rename_i hr
        rw [hr]
        exact h2 H locs rls hR
    · exact h1.elim
  case _ =>
    have en : n = 3 := eq_of_beq hlen
    subst en
    obtain ⟨v, r, rfl, h0⟩ := pV_inv h
    obtain ⟨a, r, rfl, h1⟩ := pA_inv h0
    split at h1
    · rename_i ci k hf
      split at h1
      · rename_i hpfo
        obtain ⟨hs, ha, h2⟩ := h1
        obtain ⟨-, hci, hkn, -⟩ := fres_word hf
        split at h2
        · rename_i b hr
          refine pg_put (μ' := uR μ a k (some b)) C hP hS hf hs ha hpfo hmn ?_ ?_ rfl rfl (fun _ _ => rfl) (fun _ _ => rfl) (fun b' hb' => by funext j; simp [mR, uR, hb']) (fun j => ?_) hdg fun H1 locs1 g1 g2 => h2 H1 locs1 rls ⟨g1, ⟨hRO.sm (Sm.rfl'.oR ha), hSm.oR ha⟩, g2, hL, hu⟩
          · unfold fref at hr; split at hr <;> first | (rename_i e9; rw [e9]; rfl) | cases hr
          · unfold fref at hr; split at hr <;> first | (rename_i e9; rw [e9]; rfl) | cases hr
          · unfold fV
            by_cases hj : j = k
            · subst hj; rw [hr]; simp [mR, uR, va_rf, rV]
            · rw [if_neg hj]; simp [mR, mI, uR, hj]
        · rename_i x hr
          obtain ⟨ho, h2⟩ := h2
          refine pg_put (μ' := uI μ a k x) C hP hS hf hs ha hpfo hmn (okT_n ho) (okT_f ho (chkFit ci hci k hkn)) rfl rfl (fun b' hb' => by funext j; simp [mI, uI, hb']) (fun _ _ => rfl) (fun _ _ => rfl) (fun j => ?_) hdg fun H1 locs1 g1 g2 => h2 H1 locs1 rls ⟨g1, ⟨hRO.sm (Sm.rfl'.oI ha), hSm.oI ha⟩, g2, hL, hu⟩
          unfold fV
          by_cases hj : j = k
          · subst hj; rw [hr]; simp [mI, uI, rV]
          · rw [if_neg hj]; simp [mR, mI, uI, hj]
        · exact h2.elim
      · exact h1.elim
    · exact h1.elim
  case _ =>
    have en : n = 1 := eq_of_beq hlen
    subst en
    obtain ⟨i, r, rfl, h0⟩ := pI_inv h
    obtain ⟨a, r, rfl, h1⟩ := pA_inv h0
    obtain ⟨hs, hin, h2⟩ := h1
    exact pg_ild C hP hRO hS hs hin hdg (h2 H locs rls hR)
  case _ =>
    have en : n = 1 := eq_of_beq hlen
    subst en
    obtain ⟨i, r, rfl, h0⟩ := pI_inv h
    obtain ⟨a, r, rfl, h1⟩ := pA_inv h0
    obtain ⟨hs, hin, h2⟩ := h1
    generalize isL M = b9 at hs
    cases b9
    · exact pg_bld C hP hRO hS hs hin hdg (h2 H locs rls hR)
    · exact pg_zld C hP hs.2 hs.1 hin hdg (h2 H locs rls hR)
  case _ =>
    have en : n = 1 := eq_of_beq hlen
    subst en
    obtain ⟨i, r, rfl, h0⟩ := pI_inv h
    obtain ⟨a, r, rfl, h1⟩ := pA_inv h0
    obtain ⟨hs, ha, hin, h2⟩ := h1
    obtain ⟨b, hb9, h3⟩ := onR_inv h2
    generalize isL M = b9 at hs
    cases b9
    · exact pg_ald C hP ha hs hin hb9 hdg (h3 H locs rls hR)
    · exact pg_sld C hP ha hs hin hb9 hdg (h3 H locs rls hR)
  case _ =>
    have en : n = 1 := eq_of_beq hlen
    subst en
    obtain ⟨x, r, rfl, h9⟩ := pI_inv h
    obtain ⟨i, r, rfl, h0⟩ := pI_inv h9
    obtain ⟨a, r, rfl, h1⟩ := pA_inv h0
    obtain ⟨hs, ha, hin, h2⟩ := h1
    exact pg_ist C hP hS ha hs hin hdg fun H1 locs1 g1 g2 => h2 H1 locs1 rls ⟨g1, ⟨hRO.sm (Sm.rfl'.oI ha), hSm.oI ha⟩, g2, hL, hu⟩
  case _ =>
    have en : n = 1 := eq_of_beq hlen
    subst en
    obtain ⟨x, r, rfl, h9⟩ := pI_inv h
    obtain ⟨i, r, rfl, h0⟩ := pI_inv h9
    obtain ⟨a, r, rfl, h1⟩ := pA_inv h0
    generalize isL M = b9 at h1
    cases b9
    · obtain ⟨hs, ha, hin, h2⟩ := h1
      exact pg_bst C hP hS ha hs hin hdg fun H1 locs1 g1 g2 => h2 H1 locs1 rls ⟨g1, ⟨hRO.sm (Sm.rfl'.oI ha), hSm.oI ha⟩, g2, hL, hu⟩
    · obtain ⟨hs, ha, hin, hx01, h2⟩ := h1
      exact pg_zst C hP hS ha hs hx01 hin hdg fun H1 locs1 g1 g2 => h2 H1 locs1 rls ⟨g1, ⟨hRO.sm (Sm.rfl'.oI ha), hSm.oI ha⟩, g2, hL, hu⟩
  case _ =>
    have en : n = 1 := eq_of_beq hlen
    subst en
    obtain ⟨x, r, rfl, h9⟩ := pA_inv h
    obtain ⟨i, r, rfl, h0⟩ := pI_inv h9
    obtain ⟨a, r, rfl, h1⟩ := pA_inv h0
    obtain ⟨hs, ha, hin, h2⟩ := h1
    generalize isL M = b9 at hs
    cases b9
    · exact pg_ast C hP hS ha hs.2 hs.1 hin hdg fun H1 locs1 g1 g2 => h2 H1 locs1 rls ⟨g1, ⟨hRO.sm (Sm.rfl'.oR ha), hSm.oR ha⟩, g2, hL, hu⟩
    · exact pg_sst C hP hRO hS ha hs.2.1 hs.1 hs.2.2 hin hdg fun H1 locs1 g1 g2 => h2 H1 locs1 rls ⟨g1, ⟨hRO.sm (Sm.rfl'.oR ha), hSm.oR ha⟩, g2, hL, hu⟩
  case _ =>
    have en : n = 1 := eq_of_beq hlen
    subst en
    obtain ⟨a, r, rfl, hs, h1⟩ := pA_inv h
    exact pg_len C hP hRO hS hs hdg (h1 H locs rls hR)
  case _ =>
    have en : n = 3 := eq_of_beq hlen
    subst en
    split at h
    · rename_i ci hc
      split at h
      · obtain ⟨t1, rfl, t2, ⟨is, k, t3, t4, t5, t8⟩, t9⟩ := h
        rw [t1] at hQe
        exact pg_throw C t1 hl hlk (htab t1) hQe hP hRO hSm hS hL.1 t3 hc ⟨t2.1, t2.2⟩ t9 hdg t4 t5 t8
      · rename_i hne
        obtain ⟨h1, h2⟩ := h
        have hX := hP.2.1
        exact pg_new C hP hS hc (fun q => hne q) (by rw [hRc]; exact h1.1) (by rw [hRs]; exact h1.2) hdg fun H1 g1 g2 => h2 H1 locs rls ⟨g1, ⟨hRO.sm (Sm.rfl'.oN hX), hSm.oN hX⟩, g2, hL, h1⟩
    · exact h.elim
  case _ =>
    have en : n = 2 := eq_of_beq hlen
    subst en
    obtain ⟨k0, r, rfl, hk0, hk6, h1, h2⟩ := pI_inv h
    have hX := hP.2.1
    split at h2
    · exact pg_newa (kd := 20) (t0 := 0) (ty := .int) (a0 := fun n => (n, .inl fun _ => 0)) C hP hS hk0 hk6 (by rw [hRc]; exact h1.1) (by rw [hRs]; exact h1.2) rfl (by decide) (inG_mem chkA.1) rfl rfl (by rw [cE_20 (show (mS (uN μ 20 k0.toNatClampNeg) (mX μ)).1 = 20 by simp [mS, uN, mX])]; (try funext j); simp [mS, mI, uN, mX]; first | done | (funext j; simp [mS, mI, mJ, uN, mX]) | rfl) rfl hdg fun H1 g1 g2 => h2 H1 locs rls ⟨g1, ⟨hRO.sm (Sm.rfl'.oN hX), hSm.oN hX⟩, g2, hL, h1⟩
    · exact pg_newa (kd := 21) (t0 := 1) (ty := .byte) (a0 := fun n => (n, .inl fun _ => 0)) C hP hS hk0 hk6 (by rw [hRc]; exact h1.1) (by rw [hRs]; exact h1.2) rfl (by decide) (inG_mem chkA.2.1) rfl rfl (by rw [cE_21 (show (mS (uN μ 21 k0.toNatClampNeg) (mX μ)).1 = 21 by simp [mS, uN, mX])]; (try funext j); simp [mS, mI, uN, mX]; first | done | (funext j; simp [mS, mI, mJ, uN, mX]) | rfl) rfl hdg fun H1 g1 g2 => h2 H1 locs rls ⟨g1, ⟨hRO.sm (Sm.rfl'.oN hX), hSm.oN hX⟩, g2, hL, h1⟩
    · exact pg_newa (kd := 25) (t0 := 5) (ty := .boolean) (a0 := fun n => (n, .inl fun _ => 0)) C hP hS hk0 hk6 (by rw [hRc]; exact h1.1) (by rw [hRs]; exact h1.2) rfl (by decide) (inG_mem chkA.2.2) rfl rfl (by rw [cE_25 (show (mS (uN μ 25 k0.toNatClampNeg) (mX μ)).1 = 25 by simp [mS, uN, mX])]; (try funext j); simp [mS, mI, uN, mX]; first | done | (funext j; simp [mS, mI, mJ, uN, mX]) | rfl) rfl hdg fun H1 g1 g2 => h2 H1 locs rls ⟨g1, ⟨hRO.sm (Sm.rfl'.oN hX), hSm.oN hX⟩, g2, hL, h1⟩
    · exact h2.elim
  case _ =>
    have en : n = 3 := eq_of_beq hlen
    subst en
    obtain ⟨k0, r, rfl, hk0, hk6, h1, h2⟩ := pI_inv h
    have hX := hP.2.1
    split at h2
    · rename_i hc
      exact pg_anew (kd := 23) (t0 := 3) (ci := 7) C hP hS hc (by decide) hRO.2.2.2.2.2.2.1 hk0 hk6 (by rw [hRc]; exact h1.1) (by rw [hRs]; exact h1.2) rfl (by rw [cE_23 (show (mS (uN μ 23 k0.toNatClampNeg) (mX μ)).1 = 23 by simp [mS, uN, mX])]; simp [mS, mR, uN, mX]) hdg fun H1 g1 g2 => h2 H1 locs rls ⟨g1, ⟨hRO.sm (Sm.rfl'.oN hX), hSm.oN hX⟩, g2, hL, h1⟩
    · rename_i hc
      exact pg_anew (kd := 24) (t0 := 4) (ci := 9) C hP hS hc (by decide) hRO.2.2.2.2.2.2.2.1 hk0 hk6 (by rw [hRc]; exact h1.1) (by rw [hRs]; exact h1.2) rfl (by rw [cE_24 (show (mS (uN μ 24 k0.toNatClampNeg) (mX μ)).1 = 24 by simp [mS, uN, mX])]; simp [mS, mR, uN, mX]) hdg fun H1 g1 g2 => h2 H1 locs rls ⟨g1, ⟨hRO.sm (Sm.rfl'.oN hX), hSm.oN hX⟩, g2, hL, h1⟩
    · rename_i hc
      exact pg_anew (kd := 26) (t0 := 6) (ci := 0) C hP hS hc (by decide) hRO.2.2.2.2.2.2.2.2.1 hk0 hk6 (by rw [hRc]; exact h1.1) (by rw [hRs]; exact h1.2) rfl (by rw [cE_26 (show (mS (uN μ 26 k0.toNatClampNeg) (mX μ)).1 = 26 by simp [mS, uN, mX])]; simp [mS, mR, uN, mX]) hdg fun H1 g1 g2 => h2 H1 locs rls ⟨g1, ⟨hRO.sm (Sm.rfl'.oN hX), hSm.oN hX⟩, g2, hL, h1⟩
    · exact h2.elim
  case _ =>
    have en : n = 2 := eq_of_beq hlen
    subst en
    split at h
    · rename_i v hk
      exact lv_ldc hx hb hown (hts _ (inG_mem (chkKt _ hn20 _ (tab_mem hk) v rfl))) hdg (h H locs rls hR)
    · rename_i a hk
      exact pg_ldcs C hRO hk hdg (h H locs rls hR)
    · exact h.elim
  case _ =>
    have en : n = 3 := eq_of_beq hlen
    subst en
    split at h
    · rename_i v hk
      exact lv_ldcw hx hb hown (hts _ (inG_mem (chkKt _ hn20 _ (tab_mem hk) v rfl))) hdg (h H locs rls hR)
    · rename_i a hk
      exact pg_ldcsw C hRO hk hdg (h H locs rls hR)
    · exact h.elim
  case _ =>
    have en : n = 3 := eq_of_beq hlen
    subst en
    split at h
    · rename_i v hk
      exact lv_ldc2 hx hb hown (hts _ (inG_mem (chkLt _ hn20 _ (tab_mem hk)))) hdg (h H locs rls hR)
    · exact h.elim
  case _ =>
    have en : n = 3 := eq_of_beq hlen
    subst en
    split at h
    · rename_i k hk
      exact pg_gets C hRO hS hk hdg (h.1 H locs rls hR) (fun h3 => h.2 h3 H locs rls hR)
    · exact h.elim
  case _ =>
    have en : n = 3 := eq_of_beq hlen
    subst en
    exact hinv _ 0 pc ls st μ u H locs rls hR hdg h
  case _ =>
    have en : n = 3 := eq_of_beq hlen
    subst en
    exact hinv _ 1 pc ls st μ u H locs rls hR hdg h
  case _ =>
    have en : n = 3 := eq_of_beq hlen
    subst en
    exact hinv _ 2 pc ls st μ u H locs rls hR hdg h
  case _ =>
    have en : n = 1 := eq_of_beq hlen
    subst en
    obtain ⟨v, r, rfl, rfl, hu9, h1⟩ := pI_inv h
    subst hQe
    refine W_sz fun hsz => ?_
    refine W.widen hu9.1 hu9.2 (vx_ret ?_)
    split at h1
    · rename_i ty hty
      exact W.zret hx hb (hrt.trans hty) (okT_n h1.1) (fun t ht _ => ⟨some (.int v), μ, rfl, h1.2, by rw [ht]; exact hP, hS.F ht, hSm, by rw [ht]; exact hsz⟩) hS.2.2 hdg hlk
    · exact h1.elim
  case _ =>
    have en : n = 1 := eq_of_beq hlen
    subst en
    obtain ⟨v, r, rfl, rfl, hu9, h1⟩ := pA_inv h
    subst hQe
    refine W_sz fun hsz => ?_
    refine W.widen hu9.1 hu9.2 (vx_ret ?_)
    split at h1
    · rename_i ty hty
      exact W.aret hx hb (hrt.trans hty) (Or.inl ⟨_, rfl⟩) (Or.inr ⟨_, rfl⟩) (fun t ht _ => ⟨some (.ref v), μ, rfl, h1, by rw [ht]; exact hP, hS.F ht, hSm, by rw [ht]; exact hsz⟩) hS.2.2 hdg hlk
    · rename_i ty hty
      exact W.aret hx hb (hrt.trans hty) (Or.inr ⟨_, rfl⟩) (Or.inr ⟨_, rfl⟩) (fun t ht _ => ⟨some (.ref v), μ, rfl, h1, by rw [ht]; exact hP, hS.F ht, hSm, by rw [ht]; exact hsz⟩) hS.2.2 hdg hlk
    · exact h1.elim
  case _ =>
    have en : n = 1 := eq_of_beq hlen
    subst en
    obtain ⟨v, r, rfl, rfl, hu9, hty, h1⟩ := pD_inv h
    subst hQe
    refine W_sz fun hsz => ?_
    refine W.widen hu9.1 hu9.2 (vx_ret ?_)
    exact W.dret hx hb (hrt.trans hty) (fun t ht _ => ⟨some (.double v), μ, rfl, h1, by rw [ht]; exact hP, hS.F ht, hSm, by rw [ht]; exact hsz⟩) hS.2.2 hdg hlk
  case _ =>
    have en : n = 1 := eq_of_beq hlen
    subst en
    obtain ⟨rfl, hu9, hty, h1⟩ := h
    subst hQe
    refine W_sz fun hsz => ?_
    refine W.widen hu9.1 hu9.2 (vx_ret ?_)
    exact W.vret hx hb (hrt.trans hty) (fun t ht _ => ⟨none, μ, rfl, h1, by rw [ht]; exact hP, hS.F ht, hSm, by rw [ht]; exact hsz⟩) hS.2.2 hdg hlk
  case _ =>
    exact sim_sop hx hb hdg hlen h fun r hr => hr H locs rls hR
end Step
