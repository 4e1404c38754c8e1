section
/-! a name out of every piece of the kit, so that the pieces stay the same from round to round -/
theorem all_0 : True := by have := @lv_store2; trivial
theorem all_1 : True := by have := @lv_goto; trivial
theorem all_2 : True := by have := @vp_S.call; trivial
theorem all_3 : True := by have := @lv_iincW; trivial
theorem all_4 : True := by have := @u_same; trivial
theorem all_5 : True := by have := @va_forget; trivial
theorem all_6 : True := by have := @va_Run.run; trivial
theorem all_7 : True := by have := @va_mabs; trivial
theorem all_8 : True := by have := @va_runSU; trivial
theorem all_9 : True := by have := @lv_acmp_ne; trivial
theorem all_10 : True := by have := @va_astqO; trivial
theorem all_11 : True := by have := @pk_vc; trivial
theorem all_12 : True := by have := @sb_nrem; trivial
theorem all_13 : True := by have := @va_runFW; trivial
theorem all_14 : True := by have := @va_copyg; trivial
theorem all_20 : True := by have := @va_clone; trivial
theorem all_21 : True := by have := @va_castA; trivial
theorem all_22 : True := by have := @lv_ifnonnull; trivial
theorem all_23 : True := by have := @lv_null; trivial
theorem all_24 : True := by have := @va_zald; trivial
theorem all_25 : True := by have := @va_zast; trivial
theorem all_26 : True := by have := @va_astqM; trivial
theorem all_27 : True := by have := @va_copyx; trivial
theorem all_28 : True := by have := @va_cwO; trivial
theorem all_29 : True := by have := @va_newaK; trivial
end
section
-- ===== PART A: goes FIRST, ahead of the names: the tables' words, and 'selects' of the private methods out of them =====
/-- a private method of a class that the tables say can be made, by its rows of tables_1 -/
def lw_okq (q : MethodName × Nat) : Prop := (q.1.cls ≠ "java/lang/invoke/MethodHandle" ∧ q.1.cls ≠ "java/lang/invoke/VarHandle") ∧ Cond.instantiable q.1.cls q.2 ∈ tables_1 ∧ Cond.privateMethod q.1 ∈ tables_1 ∧ Cond.instanceMethod q.1 ∈ tables_1
theorem lw_p0 : lw_okq (⟨"LockstepRoom", "appendBytes", "(I)V"⟩, 11) := ⟨⟨by decide +kernel, by decide +kernel⟩, List.mem_of_getElem? (i := 40) (by decide +kernel), List.mem_of_getElem? (i := 625) (by decide +kernel), List.mem_of_getElem? (i := 626) (by decide +kernel)⟩
theorem lw_p1 : lw_okq (⟨"LockstepRoom$Loader", "nextToken", "()V"⟩, 13) := ⟨⟨by decide +kernel, by decide +kernel⟩, List.mem_of_getElem? (i := 177) (by decide +kernel), List.mem_of_getElem? (i := 648) (by decide +kernel), List.mem_of_getElem? (i := 649) (by decide +kernel)⟩
theorem lw_p2 : lw_okq (⟨"LockstepRoom$Loader", "isLetter", "(I)Z"⟩, 13) := ⟨⟨by decide +kernel, by decide +kernel⟩, List.mem_of_getElem? (i := 177) (by decide +kernel), List.mem_of_getElem? (i := 652) (by decide +kernel), List.mem_of_getElem? (i := 653) (by decide +kernel)⟩
theorem lw_p3 : lw_okq (⟨"LockstepRoom$Loader", "isDigit", "(I)Z"⟩, 13) := ⟨⟨by decide +kernel, by decide +kernel⟩, List.mem_of_getElem? (i := 177) (by decide +kernel), List.mem_of_getElem? (i := 656) (by decide +kernel), List.mem_of_getElem? (i := 657) (by decide +kernel)⟩
theorem lw_p4 : lw_okq (⟨"LockstepRoom$Loader", "readStatement", "()Z"⟩, 13) := ⟨⟨by decide +kernel, by decide +kernel⟩, List.mem_of_getElem? (i := 177) (by decide +kernel), List.mem_of_getElem? (i := 660) (by decide +kernel), List.mem_of_getElem? (i := 661) (by decide +kernel)⟩
theorem lw_p5 : lw_okq (⟨"LockstepRoom$Loader", "isWord", "(Ljava/lang/String;)Z"⟩, 13) := ⟨⟨by decide +kernel, by decide +kernel⟩, List.mem_of_getElem? (i := 177) (by decide +kernel), List.mem_of_getElem? (i := 665) (by decide +kernel), List.mem_of_getElem? (i := 666) (by decide +kernel)⟩
theorem lw_p6 : lw_okq (⟨"LockstepRoom$Loader", "readStart", "()Z"⟩, 13) := ⟨⟨by decide +kernel, by decide +kernel⟩, List.mem_of_getElem? (i := 177) (by decide +kernel), List.mem_of_getElem? (i := 671) (by decide +kernel), List.mem_of_getElem? (i := 672) (by decide +kernel)⟩
theorem lw_p7 : lw_okq (⟨"LockstepRoom$Loader", "fail", "(I)Z"⟩, 13) := ⟨⟨by decide +kernel, by decide +kernel⟩, List.mem_of_getElem? (i := 177) (by decide +kernel), List.mem_of_getElem? (i := 675) (by decide +kernel), List.mem_of_getElem? (i := 676) (by decide +kernel)⟩
theorem lw_p8 : lw_okq (⟨"LockstepRoom$Loader", "checkInteger", "(II)Z"⟩, 13) := ⟨⟨by decide +kernel, by decide +kernel⟩, List.mem_of_getElem? (i := 177) (by decide +kernel), List.mem_of_getElem? (i := 679) (by decide +kernel), List.mem_of_getElem? (i := 680) (by decide +kernel)⟩
theorem lw_p9 : lw_okq (⟨"LockstepRoom$Loader", "readMember", "()Z"⟩, 13) := ⟨⟨by decide +kernel, by decide +kernel⟩, List.mem_of_getElem? (i := 177) (by decide +kernel), List.mem_of_getElem? (i := 685) (by decide +kernel), List.mem_of_getElem? (i := 686) (by decide +kernel)⟩
theorem lw_p10 : lw_okq (⟨"LockstepRoom$Loader", "isName", "()Z"⟩, 13) := ⟨⟨by decide +kernel, by decide +kernel⟩, List.mem_of_getElem? (i := 177) (by decide +kernel), List.mem_of_getElem? (i := 689) (by decide +kernel), List.mem_of_getElem? (i := 690) (by decide +kernel)⟩
theorem lw_p11 : lw_okq (⟨"LockstepRoom$Loader", "nameLetters", "()I"⟩, 13) := ⟨⟨by decide +kernel, by decide +kernel⟩, List.mem_of_getElem? (i := 177) (by decide +kernel), List.mem_of_getElem? (i := 693) (by decide +kernel), List.mem_of_getElem? (i := 694) (by decide +kernel)⟩
theorem lw_p12 : lw_okq (⟨"LockstepRoom$Loader", "takeInteger", "(II)Z"⟩, 13) := ⟨⟨by decide +kernel, by decide +kernel⟩, List.mem_of_getElem? (i := 177) (by decide +kernel), List.mem_of_getElem? (i := 704) (by decide +kernel), List.mem_of_getElem? (i := 705) (by decide +kernel)⟩
theorem lw_p13 : lw_okq (⟨"LockstepRoom$Loader", "readCommand", "()Z"⟩, 13) := ⟨⟨by decide +kernel, by decide +kernel⟩, List.mem_of_getElem? (i := 177) (by decide +kernel), List.mem_of_getElem? (i := 717) (by decide +kernel), List.mem_of_getElem? (i := 718) (by decide +kernel)⟩
theorem lw_p14 : lw_okq (⟨"LockstepRoom$Loader", "takeMember", "()Z"⟩, 13) := ⟨⟨by decide +kernel, by decide +kernel⟩, List.mem_of_getElem? (i := 177) (by decide +kernel), List.mem_of_getElem? (i := 721) (by decide +kernel), List.mem_of_getElem? (i := 722) (by decide +kernel)⟩
theorem lw_p15 : lw_okq (⟨"LockstepRoom$Loader", "sortOfWord", "()I"⟩, 13) := ⟨⟨by decide +kernel, by decide +kernel⟩, List.mem_of_getElem? (i := 177) (by decide +kernel), List.mem_of_getElem? (i := 725) (by decide +kernel), List.mem_of_getElem? (i := 726) (by decide +kernel)⟩
def lw_privs_1 : List (MethodName × Nat) := [(⟨"LockstepRoom", "appendBytes", "(I)V"⟩, 11), (⟨"LockstepRoom$Loader", "nextToken", "()V"⟩, 13), (⟨"LockstepRoom$Loader", "isLetter", "(I)Z"⟩, 13), (⟨"LockstepRoom$Loader", "isDigit", "(I)Z"⟩, 13), (⟨"LockstepRoom$Loader", "readStatement", "()Z"⟩, 13), (⟨"LockstepRoom$Loader", "isWord", "(Ljava/lang/String;)Z"⟩, 13), (⟨"LockstepRoom$Loader", "readStart", "()Z"⟩, 13), (⟨"LockstepRoom$Loader", "fail", "(I)Z"⟩, 13), (⟨"LockstepRoom$Loader", "checkInteger", "(II)Z"⟩, 13), (⟨"LockstepRoom$Loader", "readMember", "()Z"⟩, 13), (⟨"LockstepRoom$Loader", "isName", "()Z"⟩, 13), (⟨"LockstepRoom$Loader", "nameLetters", "()I"⟩, 13), (⟨"LockstepRoom$Loader", "takeInteger", "(II)Z"⟩, 13), (⟨"LockstepRoom$Loader", "readCommand", "()Z"⟩, 13), (⟨"LockstepRoom$Loader", "takeMember", "()Z"⟩, 13), (⟨"LockstepRoom$Loader", "sortOfWord", "()I"⟩, 13)]
theorem lw_r1 : ∀ q ∈ lw_privs_1, lw_okq q := List.forall_mem_cons.mpr ⟨lw_p0, List.forall_mem_cons.mpr ⟨lw_p1, List.forall_mem_cons.mpr ⟨lw_p2, List.forall_mem_cons.mpr ⟨lw_p3, List.forall_mem_cons.mpr ⟨lw_p4, List.forall_mem_cons.mpr ⟨lw_p5, List.forall_mem_cons.mpr ⟨lw_p6, List.forall_mem_cons.mpr ⟨lw_p7, List.forall_mem_cons.mpr ⟨lw_p8, List.forall_mem_cons.mpr ⟨lw_p9, List.forall_mem_cons.mpr ⟨lw_p10, List.forall_mem_cons.mpr ⟨lw_p11, List.forall_mem_cons.mpr ⟨lw_p12, List.forall_mem_cons.mpr ⟨lw_p13, List.forall_mem_cons.mpr ⟨lw_p14, List.forall_mem_cons.mpr ⟨lw_p15, fun _ h => absurd h List.not_mem_nil⟩⟩⟩⟩⟩⟩⟩⟩⟩⟩⟩⟩⟩⟩⟩⟩
theorem lw_p16 : lw_okq (⟨"LockstepRoom$Loader", "readSeal", "()Z"⟩, 13) := ⟨⟨by decide +kernel, by decide +kernel⟩, List.mem_of_getElem? (i := 177) (by decide +kernel), List.mem_of_getElem? (i := 747) (by decide +kernel), List.mem_of_getElem? (i := 748) (by decide +kernel)⟩
theorem lw_p17 : lw_okq (⟨"LockstepRoom$Loader", "readFault", "()Z"⟩, 13) := ⟨⟨by decide +kernel, by decide +kernel⟩, List.mem_of_getElem? (i := 177) (by decide +kernel), List.mem_of_getElem? (i := 760) (by decide +kernel), List.mem_of_getElem? (i := 761) (by decide +kernel)⟩
theorem lw_p18 : lw_okq (⟨"LockstepRoom$Loader", "readSetting", "()Z"⟩, 13) := ⟨⟨by decide +kernel, by decide +kernel⟩, List.mem_of_getElem? (i := 177) (by decide +kernel), List.mem_of_getElem? (i := 769) (by decide +kernel), List.mem_of_getElem? (i := 770) (by decide +kernel)⟩
theorem lw_p19 : lw_okq (⟨"LockstepRoom$Loader", "takeSemicolon", "()Z"⟩, 13) := ⟨⟨by decide +kernel, by decide +kernel⟩, List.mem_of_getElem? (i := 177) (by decide +kernel), List.mem_of_getElem? (i := 781) (by decide +kernel), List.mem_of_getElem? (i := 782) (by decide +kernel)⟩
theorem lw_p20 : lw_okq (⟨"LockstepRoom", "takeOverRead", "()V"⟩, 11) := ⟨⟨by decide +kernel, by decide +kernel⟩, List.mem_of_getElem? (i := 40) (by decide +kernel), List.mem_of_getElem? (i := 785) (by decide +kernel), List.mem_of_getElem? (i := 786) (by decide +kernel)⟩
theorem lw_p21 : lw_okq (⟨"LockstepRoom", "beginAll", "()V"⟩, 11) := ⟨⟨by decide +kernel, by decide +kernel⟩, List.mem_of_getElem? (i := 40) (by decide +kernel), List.mem_of_getElem? (i := 789) (by decide +kernel), List.mem_of_getElem? (i := 790) (by decide +kernel)⟩
theorem lw_p22 : lw_okq (⟨"LockstepRoom", "isMember", "(I)Z"⟩, 11) := ⟨⟨by decide +kernel, by decide +kernel⟩, List.mem_of_getElem? (i := 40) (by decide +kernel), List.mem_of_getElem? (i := 820) (by decide +kernel), List.mem_of_getElem? (i := 821) (by decide +kernel)⟩
theorem lw_p23 : lw_okq (⟨"LockstepRoom", "remember", "()V"⟩, 11) := ⟨⟨by decide +kernel, by decide +kernel⟩, List.mem_of_getElem? (i := 40) (by decide +kernel), List.mem_of_getElem? (i := 828) (by decide +kernel), List.mem_of_getElem? (i := 829) (by decide +kernel)⟩
theorem lw_p24 : lw_okq (⟨"LockstepRoom", "memberAt", "(I)LLockstepRoom$Member;"⟩, 11) := ⟨⟨by decide +kernel, by decide +kernel⟩, List.mem_of_getElem? (i := 40) (by decide +kernel), List.mem_of_getElem? (i := 862) (by decide +kernel), List.mem_of_getElem? (i := 863) (by decide +kernel)⟩
theorem lw_p25 : lw_okq (⟨"java/lang/Throwable", "fillInStackTrace", "(I)Ljava/lang/Throwable;"⟩, 6) := ⟨⟨by decide +kernel, by decide +kernel⟩, List.mem_of_getElem? (i := 902) (by decide +kernel), List.mem_of_getElem? (i := 900) (by decide +kernel), List.mem_of_getElem? (i := 901) (by decide +kernel)⟩
theorem lw_p26 : lw_okq (⟨"LockstepRoom", "lastAllowedTurns", "()I"⟩, 11) := ⟨⟨by decide +kernel, by decide +kernel⟩, List.mem_of_getElem? (i := 40) (by decide +kernel), List.mem_of_getElem? (i := 931) (by decide +kernel), List.mem_of_getElem? (i := 932) (by decide +kernel)⟩
theorem lw_p27 : lw_okq (⟨"LockstepRoom", "executeTurns", "(II)V"⟩, 11) := ⟨⟨by decide +kernel, by decide +kernel⟩, List.mem_of_getElem? (i := 40) (by decide +kernel), List.mem_of_getElem? (i := 943) (by decide +kernel), List.mem_of_getElem? (i := 944) (by decide +kernel)⟩
theorem lw_p28 : lw_okq (⟨"LockstepRoom$Faults", "isOf", "(IIII)Z"⟩, 2) := ⟨⟨by decide +kernel, by decide +kernel⟩, List.mem_of_getElem? (i := 56) (by decide +kernel), List.mem_of_getElem? (i := 965) (by decide +kernel), List.mem_of_getElem? (i := 966) (by decide +kernel)⟩
theorem lw_p29 : lw_okq (⟨"LockstepRoom$State", "votesFor", "(III)Z"⟩, 6) := ⟨⟨by decide +kernel, by decide +kernel⟩, List.mem_of_getElem? (i := 48) (by decide +kernel), List.mem_of_getElem? (i := 1004) (by decide +kernel), List.mem_of_getElem? (i := 1005) (by decide +kernel)⟩
theorem lw_p30 : lw_okq (⟨"LockstepRoom", "healOne", "(I)I"⟩, 11) := ⟨⟨by decide +kernel, by decide +kernel⟩, List.mem_of_getElem? (i := 40) (by decide +kernel), List.mem_of_getElem? (i := 1017) (by decide +kernel), List.mem_of_getElem? (i := 1018) (by decide +kernel)⟩
theorem lw_p31 : lw_okq (⟨"LockstepRoom", "requireSealed", "(I)V"⟩, 11) := ⟨⟨by decide +kernel, by decide +kernel⟩, List.mem_of_getElem? (i := 40) (by decide +kernel), List.mem_of_getElem? (i := 1091) (by decide +kernel), List.mem_of_getElem? (i := 1092) (by decide +kernel)⟩
def lw_privs_2 : List (MethodName × Nat) := [(⟨"LockstepRoom$Loader", "readSeal", "()Z"⟩, 13), (⟨"LockstepRoom$Loader", "readFault", "()Z"⟩, 13), (⟨"LockstepRoom$Loader", "readSetting", "()Z"⟩, 13), (⟨"LockstepRoom$Loader", "takeSemicolon", "()Z"⟩, 13), (⟨"LockstepRoom", "takeOverRead", "()V"⟩, 11), (⟨"LockstepRoom", "beginAll", "()V"⟩, 11), (⟨"LockstepRoom", "isMember", "(I)Z"⟩, 11), (⟨"LockstepRoom", "remember", "()V"⟩, 11), (⟨"LockstepRoom", "memberAt", "(I)LLockstepRoom$Member;"⟩, 11), (⟨"java/lang/Throwable", "fillInStackTrace", "(I)Ljava/lang/Throwable;"⟩, 6), (⟨"LockstepRoom", "lastAllowedTurns", "()I"⟩, 11), (⟨"LockstepRoom", "executeTurns", "(II)V"⟩, 11), (⟨"LockstepRoom$Faults", "isOf", "(IIII)Z"⟩, 2), (⟨"LockstepRoom$State", "votesFor", "(III)Z"⟩, 6), (⟨"LockstepRoom", "healOne", "(I)I"⟩, 11), (⟨"LockstepRoom", "requireSealed", "(I)V"⟩, 11)]
theorem lw_r2 : ∀ q ∈ lw_privs_2, lw_okq q := List.forall_mem_cons.mpr ⟨lw_p16, List.forall_mem_cons.mpr ⟨lw_p17, List.forall_mem_cons.mpr ⟨lw_p18, List.forall_mem_cons.mpr ⟨lw_p19, List.forall_mem_cons.mpr ⟨lw_p20, List.forall_mem_cons.mpr ⟨lw_p21, List.forall_mem_cons.mpr ⟨lw_p22, List.forall_mem_cons.mpr ⟨lw_p23, List.forall_mem_cons.mpr ⟨lw_p24, List.forall_mem_cons.mpr ⟨lw_p25, List.forall_mem_cons.mpr ⟨lw_p26, List.forall_mem_cons.mpr ⟨lw_p27, List.forall_mem_cons.mpr ⟨lw_p28, List.forall_mem_cons.mpr ⟨lw_p29, List.forall_mem_cons.mpr ⟨lw_p30, List.forall_mem_cons.mpr ⟨lw_p31, fun _ h => absurd h List.not_mem_nil⟩⟩⟩⟩⟩⟩⟩⟩⟩⟩⟩⟩⟩⟩⟩⟩
theorem lw_p32 : lw_okq (⟨"LockstepRoom", "membersLike", "([II)I"⟩, 11) := ⟨⟨by decide +kernel, by decide +kernel⟩, List.mem_of_getElem? (i := 40) (by decide +kernel), List.mem_of_getElem? (i := 1117) (by decide +kernel), List.mem_of_getElem? (i := 1118) (by decide +kernel)⟩
def lw_privs_3 : List (MethodName × Nat) := [(⟨"LockstepRoom", "membersLike", "([II)I"⟩, 11)]
theorem lw_r3 : ∀ q ∈ lw_privs_3, lw_okq q := List.forall_mem_cons.mpr ⟨lw_p32, fun _ h => absurd h List.not_mem_nil⟩
def lw_privs : List (MethodName × Nat) := lw_privs_1 ++ (lw_privs_2 ++ (lw_privs_3))
def lw_tbl : List Cond := k2_sels lw_privs ++ tables_1
theorem lw_privs_ok : ∀ q ∈ lw_privs, lw_okq q := by
  show ∀ q ∈ lw_privs_1 ++ (lw_privs_2 ++ (lw_privs_3)), lw_okq q
  exact List.forall_mem_append.mpr ⟨lw_r1, List.forall_mem_append.mpr ⟨lw_r2, lw_r3⟩⟩
/-! ===== BEGIN exceptions that leave a method, and their catching by the caller (launches without stack traces) ===== -/
section VXA
/-! The laws vx_back, vx_callV, vx_callS, vx_callSW, vx_throw0, vx_throwS follow proofs of the library, with one case more: JvmDerived/Free/Laws.lean (Back.of_free), Shelf42/LK1.lean (callV, callS), Shelf/KitTraced.lean (throwNew0V, throwNewS). -/
/-- where a method has thrown q: the class by its name, the cell, what was written, the world -/
def vx_T (XC : String → State → State → Prop) (st : State) (q : Addr) (t : State) (mc ms : Nat) (free : Addr → Prop) : Prop :=
  ∃ (E : String) (ce : Cell) (L : List Loc), XC E st t ∧ t.heap[q]? = some ce ∧ ce.vm = .none ∧ st.vm.findClass E = some ce.cls ∧ st.WarmedH t.vm ∧ st.sameButNew ({ t with vm := st.vm } : State) L mc ms ∧ ∀ z ∈ L, free z.base
def vx_Q (Qc : Array Value → State → Outcome → State → Prop) (XC : String → State → State → Prop) (mc ms : Nat) (free : Addr → Prop) : Array Value → State → Outcome → State → Prop := fun a st o t =>
  (Qc a st o t ∧ ∃ L, FrameEnd st o t L mc ms ∧ ∀ q ∈ L, free q.base) ∨ ∃ q, o = .threw q ∧ vx_T XC st q t mc ms free
/-- a callee that returns or throws -/
def vx_Met (l : Launch) (y : MethodName) (ws : List Cond) (rm : Room) (Pc : Array Value → State → Prop) (Qc : Array Value → State → Outcome → State → Prop) (XC : String → State → State → Prop) (mc ms : Nat) (free : Addr → Prop) : Prop :=
  MetFree l y (headSpec ws rm) Pc (fun _ _ _ _ _ => True) (vx_Q Qc XC mc ms free)
def vx_Post (XC : String → State → State → Prop) (mc ms : Nat) (free : Addr → Prop) : Pt → Array Value → Addr → Pt → Prop := fun A a q B =>
  ∃ (g : JFrame) (mk : MethodId) (t : State) (L : List Loc) (E : String) (ce : Cell), B.U.heap = t.heap ∧ B.U.vm = t.vm ∧ XC E (A.U.calling g mk a) t ∧ t.heap[q]? = some ce ∧ ce.vm = .none ∧ A.U.vm.findClass E = some ce.cls ∧ B.locs = A.locs ++ L ∧ (∀ z ∈ L, free z.base) ∧ B.cells = A.cells + mc ∧ B.slots = A.slots + ms
def vx_Back (l : Launch) (R : Room) (p : Program) (e : Env) (below : List Frame) (s : State) (sargs : Array Value) (y : MethodName) (len W9 : Nat)
    (Pre : Pt → Array Value → Prop) (Post : Pt → Array Value → Option Value → Pt → Prop) (PostX : Pt → Array Value → Addr → Pt → Prop) : Prop :=
  ∀ (m : MethodId) (meth : Method) (c : Code) (A : Pt) (g : JFrame) (ig : Instr) (mk : MethodId) (a : Array Value),
    Stand p l e R s m sargs below meth c A.U A.locs A.cells A.slots → g.method = m → g.locals.size = c.maxLocals → decode c.code g.pc = .ok (ig, len) →
    2 * g.monitorRoom + (g.stack.map fun v => v.category).sum ≤ W9 → A.U.methodNamed? y = some mk → Pre A a →
    (∃ (v : Option Value) (B : Pt), Stand p l e R s m sargs below meth c B.U B.locs B.cells B.slots ∧ Post A a v B ∧
      Steps p.tables e below (doInvoke e (A.U.setTop g) [] mk a).1 (B.U.setTop { g with pc := g.pc + len, stack := v.toList ++ g.stack })) ∨
    (∃ (q : Addr) (B : Pt), Stand p l e R s m sargs below meth c B.U B.locs B.cells B.slots ∧ PostX A a q B ∧
      Steps p.tables e below (doInvoke e (A.U.setTop g) [] mk a).1 ((B.U.setTop g).pushFrame (.throwing q)))
section Payer
variable {l : Launch} {R : Room} {p : Program} {e : Env} {below : List Frame} {s : State} {sargs : Array Value} {y : MethodName} {len W9 : Nat}
theorem vx_back {ws : List Cond} {rm : Room} {Pc : Array Value → State → Prop} {Qc : Array Value → State → Outcome → State → Prop} {XC : String → State → State → Prop} {mc ms : Nat} {free : Addr → Prop} {bytes : ByteArray} {maxL : Nat} {ret : Option FieldType}
    (hM : vx_Met l y ws rm Pc Qc XC mc ms free) (hblind : FrameBlind Pc) (hrc : rm.cells = mc) (hrs : rm.slots = ms)
    (hframes : rm.frames + 1 ≤ R.frames) (hlocals : W9 + (maxL + 11) + rm.locals ≤ R.locals)
    (hws : ∀ w ∈ ws, ∀ a' U, s.WarmedH U.vm → w.before a' U = true) (hcode : Cond.code y bytes maxL ret ∈ ws) (hinit : ∀ a' U, s.WarmedH U.vm → (Cond.initialized y.cls).before a' U = true) :
    vx_Back l R p e below s sargs y len W9 (PreOf R mc ms Pc) (PostOf Qc mc ms free) (vx_Post XC mc ms free) := by
  intro m meth c A g ig mk a X hg hsize hdg hW hn hp
  have h1 : (headSpec ws rm).pre.before a A.U = true := atoms_intro fun w hw => hws w hw _ _ X.warmed
  have h2 : (Cond.code y bytes maxL ret).before a A.U = true := hws _ hcode _ _ X.warmed
  have h3 : (Cond.initialized y.cls).before a A.U = true := hinit _ _ X.warmed
  have h4 : A.cells + (headSpec ws rm).room.cells ≤ R.cells := by rw [show (headSpec ws rm).room.cells = mc from hrc]; exact hp.1
  have h5 : A.slots + (headSpec ws rm).room.slots ≤ R.slots := by rw [show (headSpec ws rm).room.slots = ms from hrs]; exact hp.2.1
  have hPc : Pc a (A.U.calling g mk a) := hblind _ _ _ _ hp.2.2
  obtain ⟨U, Ls, c0, s0⟩ := A
  dsimp only [Pt.U, Pt.locs, Pt.cells, Pt.slots] at h1 h2 h3 h4 h5 X hn hPc ⊢
  obtain ⟨methY, cY, hmY, hcY, -, hlY, -, -, -, -⟩ := Cond.code_spec hn h2
  obtain ⟨kY, hkY, -⟩ := className_of_methodNamed hn
  have hinitY : kY.init = .initialized := Cond.initialized_spec (findClass_of_methodNamed hn) hkY h3
  have h : At U g.method c below := by rw [hg]; exact X.here
  have hlocals9 : W9 + (maxL + 11) + (headSpec ws rm).room.locals ≤ R.locals := hlocals
  have happ : (headSpec ws rm).appliesLoose y e.platform (U.calling g mk a) = true :=
    Spec.appliesLoose_calling (g := g) h hdg hn hkY hinitY
      (X.room_calling (g := g) (R' := (headSpec ws rm).room) hsize hmY hcY hframes (by rw [hlY]; omega) h4 h5) h1
  obtain ⟨mid, hmid⟩ := h.above
  have hfr : (U.setTop g).frames = (.java g :: mid) ++ below := by rw [State.frames_setTop' g h.top, hmid]; rfl
  obtain ⟨o, s₂, hsteps, -, hend, hq⟩ := Steps.callFree hM p X.admits X.cas X.clock (acts := []) hfr happ hPc trivial
  have hq' : vx_Q Qc XC mc ms free a (U.calling g mk a) o s₂ := hq
  rw [State.frames_setTop' g h.top] at hend
  obtain ⟨g₀, hg0⟩ := Option.isSome_iff_exists.mp h.top
  obtain ⟨r, hr⟩ := State.topJava?_eq_some.mp hg0
  have hr' : (({ U with heap := s₂.heap, slotsUsed := s₂.slotsUsed } : State).setVm s₂.vm).frames = .java g₀ :: r := hr
  rcases hq' with ⟨hqc, L, hfe, hL⟩ | ⟨q, rfl, E, ce, L, hx, hce, hcv, hcl, hW₂, hsm, hL⟩
  · obtain ⟨⟨v, rfl⟩, hW₂, e2, q2, q3, q4, q5, q6⟩ := id hfe
    have e3 : s₂ = ({ (U.calling g mk a).setFrames s₂.frames with heap := s₂.heap, slotsUsed := s₂.slotsUsed } : State).setVm s₂.vm := by
      have : s₂ = ({ s₂ with vm := (U.calling g mk a).vm } : State).setVm s₂.vm := rfl
      rw [e2] at this
      exact this
    obtain ⟨c₂, i₂, len₂, hc₂, hd₂, hf₂⟩ := hend
    have hW' : U.WarmedH s₂.vm := hW₂
    have hcc : c₂ = c := by
      have h1 : s₂.code? g.method = U.code? g.method := by
        rw [State.code?_eq, State.code?_eq, hW'.alike.method?]
      exact Option.some.inj (hc₂.symm.trans (h1.trans h.code))
    subst hcc
    have hlen : len₂ = len := by rw [hdg] at hd₂; cases hd₂; rfl
    subst hlen
    have hs₂ : s₂ = (({ U with heap := s₂.heap, slotsUsed := s₂.slotsUsed } : State).setVm s₂.vm).setTop { g with pc := g.pc + len₂, stack := v.toList ++ g.stack } := by
      refine e3.trans ?_
      rw [hf₂, State.calling_eq h.top, State.setFrames_setFrames, State.setTop_of_frames _ hr', hr]
      rfl
    have hsame : U.sameButNew ({ U with heap := s₂.heap, slotsUsed := s₂.slotsUsed } : State) L mc ms := by
      refine ⟨?_, q2, q3, q4, q5, q6⟩
      obtain ⟨t, ht, -⟩ := State.frames_cons hr
      show ({ U with heap := s₂.heap, slotsUsed := s₂.slotsUsed } : State) = { U.setFrames U.frames with heap := s₂.heap, slotsUsed := s₂.slotsUsed }
      rw [State.setFrames_self ht]
    subst hg
    refine Or.inl ⟨v, ⟨(({ U with heap := s₂.heap, slotsUsed := s₂.slotsUsed } : State).setVm s₂.vm), Ls ++ L, c0 + mc, s0 + ms⟩,
      ⟨X.admits, X.cas, X.clock, X.frames, X.room, X.hears, X.method, X.code, (X.here.setHeapUsed s₂.heap s₂.slotsUsed).setVm hW'.alike, X.tail, State.WarmedH.trans X.warmed hW', X.limits, X.bytes, X.same.trans (hsame.setVm s.vm)⟩,
      ⟨g, mk, s₂, L, rfl, rfl, hqc, rfl, hL, rfl, rfl⟩, ?_⟩
    show Steps p.tables e below _ ((({ U with heap := s₂.heap, slotsUsed := s₂.slotsUsed } : State).setVm s₂.vm).setTop { g with pc := g.pc + len₂, stack := v.toList ++ g.stack })
    rw [← hs₂]
    exact hsteps
  · obtain ⟨e2, q2, q3, q4, q5, q6⟩ := id hsm
    have e3 : s₂ = ({ (U.calling g mk a).setFrames s₂.frames with heap := s₂.heap, slotsUsed := s₂.slotsUsed } : State).setVm s₂.vm := by
      have : s₂ = ({ s₂ with vm := (U.calling g mk a).vm } : State).setVm s₂.vm := rfl
      rw [e2] at this
      exact this
    have hf₂ : s₂.frames = .throwing q :: .java g :: U.frames.tail := hend
    have hW' : U.WarmedH s₂.vm := hW₂
    have hs₂ : s₂ = ((({ U with heap := s₂.heap, slotsUsed := s₂.slotsUsed } : State).setVm s₂.vm).setTop g).pushFrame (.throwing q) := by
      refine e3.trans ?_
      rw [hf₂, State.calling_eq h.top, State.setFrames_setFrames, State.pushFrame, State.frames_setTop _ hr', State.setTop_of_frames _ hr', State.setFrames_setFrames, hr]
      rfl
    have hsame : U.sameButNew ({ U with heap := s₂.heap, slotsUsed := s₂.slotsUsed } : State) L mc ms := by
      refine ⟨?_, q2, q3, q4, q5, q6⟩
      obtain ⟨t, ht, -⟩ := State.frames_cons hr
      show ({ U with heap := s₂.heap, slotsUsed := s₂.slotsUsed } : State) = { U.setFrames U.frames with heap := s₂.heap, slotsUsed := s₂.slotsUsed }
      rw [State.setFrames_self ht]
    subst hg
    refine Or.inr ⟨q, ⟨(({ U with heap := s₂.heap, slotsUsed := s₂.slotsUsed } : State).setVm s₂.vm), Ls ++ L, c0 + mc, s0 + ms⟩,
      ⟨X.admits, X.cas, X.clock, X.frames, X.room, X.hears, X.method, X.code, (X.here.setHeapUsed s₂.heap s₂.slotsUsed).setVm hW'.alike, X.tail, State.WarmedH.trans X.warmed hW', X.limits, X.bytes, X.same.trans (hsame.setVm s.vm)⟩,
      ⟨g, mk, s₂, L, E, ce, rfl, rfl, hx, hce, hcv, hcl, rfl, hL, rfl, rfl⟩, ?_⟩
    show Steps p.tables e below _ (((({ U with heap := s₂.heap, slotsUsed := s₂.slotsUsed } : State).setVm s₂.vm).setTop g).pushFrame (.throwing q))
    rw [← hs₂]
    exact hsteps
end Payer
section Calls
variable {p : Program} {l : Launch} {e : Env} {R : Room} {s : State} {m : MethodId} {args : Array Value} {below : List Frame} {meth : Method} {c : Code} {T : State} {locs : List Loc} {cells slots : Nat}
theorem vx_callV (X : Stand p l e R s m args below meth c T locs cells slots) (hexec : p.tables.exec = Jvm.exec) {own C : String} {index : Nat} {y : MethodName} {bytes : ByteArray} {maxL : Nat} {ret : Option FieldType}
    (hown : s.vm.findClass own = some m.cls) (hlink : (Cond.methodLink own index y).before args s = true) (hinst : (Cond.instanceMethod y).before args s = true) (hsel : (Cond.selects C y y).before args s = true)
    (hcode : (Cond.code y bytes maxL ret).before args s = true) (hy : y.cls ≠ "java/lang/invoke/MethodHandle" ∧ y.cls ≠ "java/lang/invoke/VarHandle")
    {W9 : Nat} {Pre : Pt → Array Value → Prop} {Post : Pt → Array Value → Option Value → Pt → Prop} {PostX : Pt → Array Value → Addr → Pt → Prop} (hK : vx_Back l R p e below s args y 3 W9 Pre Post PostX)
    {b : Addr} {cellB : Cell} (hcell : T.heap[b]? = some cellB) (hobj : cellB.vm.isStatics = false) (hcls : s.vm.findClass C = some cellB.cls)
    {g : JFrame} (hg : g.method = m) (hsize : g.locals.size = c.maxLocals) {argsL rest : List Value} (hlen : ∀ sig, parseMethodDescriptor y.desc = some sig → argsL.length = sig.parameters.length)
    (hstack : g.stack = argsL.reverse ++ .ref b :: rest) (hW : 2 * g.monitorRoom + (rest.map fun v => v.category).sum ≤ W9) (hdg : decode c.code g.pc = .ok (.invokevirtual index, 3))
    (hpre : ∀ vm₁, s.WarmedH vm₁ → Pre ⟨T.setVm vm₁, locs, cells, slots⟩ (Value.ref b :: argsL).toArray) :
    (∃ (v : Option Value) (vm₁ : Vm) (B : Pt), s.WarmedH vm₁ ∧ Stand p l e R s m args below meth c B.U B.locs B.cells B.slots ∧ Post ⟨T.setVm vm₁, locs, cells, slots⟩ (Value.ref b :: argsL).toArray v B ∧
      ∀ target, Steps p.tables e below (B.U.setTop { g with pc := g.pc + 3, stack := v.toList ++ rest }) target → Steps p.tables e below (T.setTop g) target) ∨
    (∃ (q : Addr) (vm₁ : Vm) (B : Pt), s.WarmedH vm₁ ∧ Stand p l e R s m args below meth c B.U B.locs B.cells B.slots ∧ PostX ⟨T.setVm vm₁, locs, cells, slots⟩ (Value.ref b :: argsL).toArray q B ∧
      Steps p.tables e below (T.setTop g) ((B.U.setTop { g with stack := rest }).pushFrame (.throwing q))) := by
  obtain ⟨mk, methM, hnamed, hmethM, hstM, habM⟩ := Cond.instanceMethod_spec hinst
  obtain ⟨methM', cM, hmethM', -, -, -, -, -, -, hsigM⟩ := Cond.code_spec hnamed hcode
  cases hmethM.symm.trans hmethM'
  obtain ⟨c2, r2, m2, q1, q2, q3, q4, kP, hkP, hkPi⟩ := Cond.selects_spec hsel
  cases hcls.symm.trans q1
  cases (State.methodFound?_of_named hnamed hy).symm.trans q2
  cases hnamed.symm.trans q3
  have hselP : selectMethod e.platform s.vm cellB.cls mk = .method mk := by rw [Launch.admits_selectMethod X.admits]; exact q4
  obtain ⟨vm₁, X₁, hstep₁⟩ := X.invokevirtual hexec hown hlink hnamed hmethM hstM hkP hkPi hy (a := b) (cell := cellB) hcell
    (fun z h => by rw [h] at hobj; cases hobj) hselP hmethM habM hkP hkPi (g := g) hg (argsL := argsL) (rest := rest) (hlen _ hsigM) hstack hdg
  rcases hK m meth c ⟨T.setVm vm₁, locs, cells, slots⟩ { g with stack := rest } (.invokevirtual index) mk (Value.ref b :: argsL).toArray X₁ hg hsize hdg hW (X₁.named hnamed) (hpre vm₁ X₁.warmed) with ⟨v, B, X', hpost, hsteps⟩ | ⟨q, B, X', hpost, hsteps⟩
  · exact Or.inl ⟨v, vm₁, B, X₁.warmed, X', hpost, fun target h => hstep₁ _ fun acts => by rw [doInvoke_state]; exact hsteps.trans h⟩
  · exact Or.inr ⟨q, vm₁, B, X₁.warmed, X', hpost, hstep₁ _ fun acts => by rw [doInvoke_state]; exact hsteps⟩
theorem vx_callS (X : Stand p l e R s m args below meth c T locs cells slots) (hexec : p.tables.exec = Jvm.exec) {own : String} {index : Nat} {y : MethodName} {bytes : ByteArray} {maxL : Nat} {ret : Option FieldType}
    (hown : s.vm.findClass own = some m.cls) (hlink : (Cond.methodLink own index y).before args s = true) (hstat : (Cond.static y).before args s = true) (hinit : (Cond.initialized y.cls).before args s = true)
    (hcode : (Cond.code y bytes maxL ret).before args s = true) (hy : y.cls ≠ "java/lang/invoke/MethodHandle" ∧ y.cls ≠ "java/lang/invoke/VarHandle")
    {W9 : Nat} {Pre : Pt → Array Value → Prop} {Post : Pt → Array Value → Option Value → Pt → Prop} {PostX : Pt → Array Value → Addr → Pt → Prop} (hK : vx_Back l R p e below s args y 3 W9 Pre Post PostX)
    {g : JFrame} (hg : g.method = m) (hsize : g.locals.size = c.maxLocals) {argsL rest : List Value} (hlen : ∀ sig, parseMethodDescriptor y.desc = some sig → argsL.length = sig.parameters.length)
    (hstack : g.stack = argsL.reverse ++ rest) (hW : 2 * g.monitorRoom + (rest.map fun v => v.category).sum ≤ W9) (hdg : decode c.code g.pc = .ok (.invokestatic index, 3))
    (hpre : ∀ vm₁, s.WarmedH vm₁ → Pre ⟨T.setVm vm₁, locs, cells, slots⟩ argsL.toArray) :
    (∃ (v : Option Value) (vm₁ : Vm) (B : Pt), s.WarmedH vm₁ ∧ Stand p l e R s m args below meth c B.U B.locs B.cells B.slots ∧ Post ⟨T.setVm vm₁, locs, cells, slots⟩ argsL.toArray v B ∧
      ∀ target, Steps p.tables e below (B.U.setTop { g with pc := g.pc + 3, stack := v.toList ++ rest }) target → Steps p.tables e below (T.setTop g) target) ∨
    (∃ (q : Addr) (vm₁ : Vm) (B : Pt), s.WarmedH vm₁ ∧ Stand p l e R s m args below meth c B.U B.locs B.cells B.slots ∧ PostX ⟨T.setVm vm₁, locs, cells, slots⟩ argsL.toArray q B ∧
      Steps p.tables e below (T.setTop g) ((B.U.setTop { g with stack := rest }).pushFrame (.throwing q))) := by
  obtain ⟨mk, hnamed⟩ := Cond.code_named hcode
  obtain ⟨methM, cM, hmethM, -, -, -, -, -, -, hsigM⟩ := Cond.code_spec hnamed hcode
  have hstatic : methM.isStatic = true := Cond.static_spec hnamed hmethM hstat
  obtain ⟨kP, hkP, -⟩ := className_of_methodNamed hnamed
  have hinitP : kP.init = .initialized := Cond.initialized_spec (findClass_of_methodNamed hnamed) hkP hinit
  obtain ⟨vm₁, X₁, hstep₁⟩ := X.invokestatic hexec hown hlink hnamed hmethM hstatic hkP hinitP hy (g := g) hg (argsL := argsL) (rest := rest) (hlen _ hsigM) hstack hdg
  rcases hK m meth c ⟨T.setVm vm₁, locs, cells, slots⟩ { g with stack := rest } (.invokestatic index) mk argsL.toArray X₁ hg hsize hdg hW (X₁.named hnamed) (hpre vm₁ X₁.warmed) with ⟨v, B, X', hpost, hsteps⟩ | ⟨q, B, X', hpost, hsteps⟩
  · exact Or.inl ⟨v, vm₁, B, X₁.warmed, X', hpost, fun target h => hstep₁ _ fun acts => by rw [doInvoke_state]; exact hsteps.trans h⟩
  · exact Or.inr ⟨q, vm₁, B, X₁.warmed, X', hpost, hstep₁ _ fun acts => by rw [doInvoke_state]; exact hsteps⟩
end Calls
theorem vx_cls {s : State} {T : State} {vm₁ : Vm} {E : String} {k : ClassId} (hW : s.WarmedH vm₁) (h : (T.setVm vm₁).vm.findClass E = some k) : s.vm.findClass E = some k := by
  have h1 : vm₁.findClass E = some k := h
  rw [hW.alike.findClass] at h1
  exact h1
/-- the method's frame g, with q thrown over it -/
def vx_W (p : Program) (l : Launch) (e : Env) (R : Room) (s : State) (m : MethodId) (args : Array Value) (below : List Frame) (meth : Method) (c : Code) (H : Heap) (locs : List Loc) (cells slots : Nat) (Q : State → Prop) (g : JFrame) (q : Addr) : Prop :=
  ∀ T : State, T.heap = H → Stand p l e R s m args below meth c T locs cells slots → ∃ t, Steps p.tables e below ((T.setTop g).pushFrame (.throwing q)) t ∧ Q t
def vx_Run (p : Program) (l : Launch) (e : Env) (R : Room) (s : State) (m : MethodId) (args : Array Value) (below : List Frame) (meth : Method) (c : Code) (H : Heap) (locs : List Loc) (cells slots mc ms : Nat) (g : JFrame) (rest : List Value) (Qa : State → Outcome → State → Prop) (XC : String → State → State → Prop) (free : Addr → Prop) : Prop :=
  ∀ T : State, T.heap = H → Stand p l e R s m args below meth c T locs cells slots →
    (∃ (v : Option Value) (st₀ t T' : State) (L : List Loc), st₀.heap = H ∧ Stand p l e R s m args below meth c T' (locs ++ L) (cells + mc) (slots + ms) ∧ (∀ q ∈ L, free q.base) ∧ T'.heap = t.heap ∧ T'.vm = t.vm ∧ Qa st₀ (.returned v) t ∧
      Goes p e below T g T' { g with pc := g.pc + 3, stack := v.toList ++ rest }) ∨
    (∃ (q : Addr) (st₀ t T' : State) (L : List Loc) (E : String) (ce : Cell), st₀.heap = H ∧ Stand p l e R s m args below meth c T' (locs ++ L) (cells + mc) (slots + ms) ∧ (∀ z ∈ L, free z.base) ∧ T'.heap = t.heap ∧ T'.vm = t.vm ∧ XC E st₀ t ∧ t.heap[q]? = some ce ∧ ce.vm = .none ∧ s.vm.findClass E = some ce.cls ∧
      Steps p.tables e below (T.setTop g) ((T'.setTop { g with stack := rest }).pushFrame (.throwing q)))
def vx_X {S : Type} (px : S → Prop) (B : String → S → State → Prop) (A : Nat → Prop) : String → State → State → Prop := fun E st t => ∃ u : S, px u ∧ B E u t ∧ va_F A st t
section Runs
variable {p : Program} {l : Launch} {e : Env} {R : Room} {s : State} {m : MethodId} {args : Array Value} {below : List Frame} {meth : Method} {c : Code} {H : Heap} {locs : List Loc} {cells slots : Nat}
variable {y : MethodName} {bytes cc : ByteArray} {maxL nL mc ms n index : Nat} {ret : Option FieldType} {ws : List Cond} {rm : Room} {Pc : Array Value → State → Prop} {Qc : Array Value → State → Outcome → State → Prop} {XC : String → State → State → Prop} {free : Addr → Prop} {Ts : List Cond} {own C : String} {b : Addr} {As rest : List Value} {g : JFrame}
theorem vx_callBack (cb : CallB R s args own index y bytes maxL ret ws rm mc ms n) (hM : vx_Met l y ws rm Pc Qc XC mc ms free) (hbl : FrameBlind Pc) : vx_Back l R p e below s args y 3 8 (PreOf R mc ms Pc) (PostOf Qc mc ms free) (vx_Post XC mc ms free) := by
  obtain ⟨hrc, hrs, hfr, hlo, hws, hcw, -, hini, -⟩ := cb
  exact vx_back (bytes := bytes) (maxL := maxL) (ret := ret) hM hbl hrc hrs hfr hlo hws hcw (fun a' U hW => word_at hW (Or.inl (by first | rfl | simp [Cond.onTables, Cond.keeps, Cond.steady])) hini)
theorem vx_runV (S : CallFix p m c cc nL s args Ts own) (hM : vx_Met l y ws rm Pc Qc XC mc ms free) (cw : CallW R s args own C index y bytes maxL ret ws rm mc ms n) (hp : PreV s H C b Pc As)
    (hg : g.method = m) (hn : As.length = n) (hsize : g.locals.size = nL) (hstack : g.stack = As.reverse ++ .ref b :: rest) (hW : 2 * g.monitorRoom + (rest.map fun v => v.category).sum ≤ 8) (hdg : decode cc g.pc = .ok (.invokevirtual index, 3)) (hf : cells + mc ≤ R.cells ∧ slots + ms ≤ R.slots) :
    vx_Run p l e R s m args below meth c H locs cells slots mc ms g rest (Qc (Value.ref b :: As).toArray) XC free := by
  have hK : vx_Back l R p e below s args y 3 8 (PreOf R mc ms Pc) (PostOf Qc mc ms free) (vx_Post XC mc ms free) := vx_callBack cw.1 hM hp.1
  obtain ⟨⟨-, -, -, -, -, -, hcode, -, hy, hlen, hl⟩, hin, hse⟩ := cw
  obtain ⟨hx, hb, hml, ho, -⟩ := S
  obtain ⟨-, ⟨cellB, hcB, hoB, hclB⟩, hPc⟩ := hp
  intro T hT X
  rcases vx_callV X hx (C := C) (bytes := bytes) (maxL := maxL) (ret := ret) ho hl hin hse hcode hy hK (by rw [hT]; exact hcB) hoB hclB hg (hsize.trans hml.symm) (argsL := As) (rest := rest) (fun sig h => hn.trans (hlen sig h)) hstack hW (by rw [hb]; exact hdg)
    (fun vm₁ hW₁ => ⟨hf.1, hf.2, hPc (T.setVm vm₁) hT hW₁⟩) with ⟨v, vm₁, ⟨U', l2, c2, s2⟩, hW₁, X', ⟨g', mk, t, L, e1, e2, hq, h1, hL, h2, h3⟩, st⟩ | ⟨q, vm₁, ⟨U', l2, c2, s2⟩, hW₁, X', ⟨g', mk, t, L, E, ce, e1, e2, hq, hce, hcv, hcl, h1, hL, h2, h3⟩, st⟩
  · dsimp only [Pt.U, Pt.locs, Pt.cells, Pt.slots] at X' e1 e2 h1 h2 h3 st
    subst h1; subst h2; subst h3
    exact Or.inl ⟨v, (T.setVm vm₁).calling g' mk (Value.ref b :: As).toArray, t, U', L, hT, X', hL, e1, e2, hq, st⟩
  · dsimp only [Pt.U, Pt.locs, Pt.cells, Pt.slots] at X' e1 e2 h1 h2 h3 st hcl
    subst h1; subst h2; subst h3
    exact Or.inr ⟨q, (T.setVm vm₁).calling g' mk (Value.ref b :: As).toArray, t, U', L, E, ce, hT, X', hL, e1, e2, hq, hce, hcv, vx_cls hW₁ hcl, st⟩
theorem vx_runS (S : CallFix p m c cc nL s args Ts own) (hM : vx_Met l y ws rm Pc Qc XC mc ms free) (cw : CallB R s args own index y bytes maxL ret ws rm mc ms n ∧ (Cond.static y).before args s = true) (hp : PreS s H Pc As)
    (hg : g.method = m) (hn : As.length = n) (hsize : g.locals.size = nL) (hstack : g.stack = As.reverse ++ rest) (hW : 2 * g.monitorRoom + (rest.map fun v => v.category).sum ≤ 8) (hdg : decode cc g.pc = .ok (.invokestatic index, 3)) (hf : cells + mc ≤ R.cells ∧ slots + ms ≤ R.slots) :
    vx_Run p l e R s m args below meth c H locs cells slots mc ms g rest (Qc As.toArray) XC free := by
  have hK : vx_Back l R p e below s args y 3 8 (PreOf R mc ms Pc) (PostOf Qc mc ms free) (vx_Post XC mc ms free) := vx_callBack cw.1 hM hp.1
  obtain ⟨⟨-, -, -, -, -, -, hcode, hini, hy, hlen, hl⟩, hstt⟩ := cw
  obtain ⟨hx, hb, hml, ho, -⟩ := S
  intro T hT X
  rcases vx_callS X hx (bytes := bytes) (maxL := maxL) (ret := ret) ho hl hstt hini hcode hy hK hg (hsize.trans hml.symm) (argsL := As) (rest := rest) (fun sig h => hn.trans (hlen sig h)) hstack hW (by rw [hb]; exact hdg)
    (fun vm₁ hW₁ => ⟨hf.1, hf.2, hp.2 (T.setVm vm₁) hT hW₁⟩) with ⟨v, vm₁, ⟨U', l2, c2, s2⟩, hW₁, X', ⟨g', mk, t, L, e1, e2, hq, h1, hL, h2, h3⟩, st⟩ | ⟨q, vm₁, ⟨U', l2, c2, s2⟩, hW₁, X', ⟨g', mk, t, L, E, ce, e1, e2, hq, hce, hcv, hcl, h1, hL, h2, h3⟩, st⟩
  · dsimp only [Pt.U, Pt.locs, Pt.cells, Pt.slots] at X' e1 e2 h1 h2 h3 st
    subst h1; subst h2; subst h3
    exact Or.inl ⟨v, (T.setVm vm₁).calling g' mk As.toArray, t, U', L, hT, X', hL, e1, e2, hq, st⟩
  · dsimp only [Pt.U, Pt.locs, Pt.cells, Pt.slots] at X' e1 e2 h1 h2 h3 st hcl
    subst h1; subst h2; subst h3
    exact Or.inr ⟨q, (T.setVm vm₁).calling g' mk As.toArray, t, U', L, E, ce, hT, X', hL, e1, e2, hq, hce, hcv, vx_cls hW₁ hcl, st⟩
end Runs
section Rows
variable {p : Program} {l : Launch} {e : Env} {R : Room} {s : State} {m : MethodId} {args : Array Value} {below : List Frame} {meth : Method} {c : Code} {H : Heap} {locs : List Loc} {cells slots : Nat} {Q : State → Prop}
variable {mc ms : Nat} {free : Addr → Prop} {A0 A1 : Nat → Prop} {H0 : Heap} {a : Array Value} {pc : Nat} {ls : Array Slot} {st0 rest : List Value}
theorem vx_keep {st₀ t T' : State} {L : List Loc} (h0 : st₀.heap = H) (e1 : T'.heap = t.heap) (hS : va_S A0 H0 H locs) (hA : ∀ q, q < H.size → A1 q → A0 q) (hf : ∀ q, free q → A0 q) (hL : ∀ q ∈ L, free q.base) (hF : va_F A1 st₀ t) :
    H.size ≤ T'.heap.size ∧ (∀ q : Nat, q < H.size → ¬ A1 q → T'.heap[q]? = H[q]?) ∧ va_S A0 H0 T'.heap (locs ++ L) := by
  obtain ⟨hz, hk⟩ := hF
  rw [h0] at hz hk
  exact ⟨by rw [e1]; exact hz, fun q h1 h2 => by rw [e1]; exact hk q h1 h2,
    ⟨Nat.le_trans hS.1 (by rw [e1]; exact hz), fun q h1 h2 => by rw [e1, hk q (Nat.lt_of_lt_of_le h1 hS.1) (fun z => h2 (hA q (Nat.lt_of_lt_of_le h1 hS.1) z))]; exact hS.2.1 q h1 h2, fun q hq => by
      rcases List.mem_append.mp hq with h | h
      · exact hS.2.2 q h
      · exact hf _ (hL q h)⟩⟩
theorem vx_calli {S SX : Type} {post : Int32 → S → Prop} {px : SX → Prop} {B : S → State → Prop} {BX : String → SX → State → Prop} {AX : Nat → Prop} (hr : vx_Run p l e R s m args below meth c H locs cells slots mc ms (F0 m pc ls st0) rest (va_Qi post B A1 a) (vx_X px BX AX) free) (hS : va_S A0 H0 H locs) (hA : ∀ q, q < H.size → A1 q → A0 q) (hf : ∀ q, free q → A0 q) (hAX : ∀ q, q < H.size → AX q → A0 q)
    (kx : ∀ (E : String) (ce : Cell) (q9 : Addr) (u : SX) (t : State) (H1 : Heap) (locs1 : List Loc), t.heap = H1 → s.vm.Alike t.vm → px u → BX E u t → H.size ≤ H1.size → (∀ q : Nat, q < H.size → ¬ AX q → H1[q]? = H[q]?) → va_S A0 H0 H1 locs1 → H1[q9]? = some ce → ce.vm = .none → s.vm.findClass E = some ce.cls → vx_W p l e R s m args below meth c H1 locs1 (cells + mc) (slots + ms) Q (F0 m pc ls rest) q9)
    (kk : ∀ (r : Int32) (u : S) (t : State) (H1 : Heap) (locs1 : List Loc), t.heap = H1 → s.vm.Alike t.vm → post r u → B u t → H.size ≤ H1.size → (∀ q : Nat, q < H.size → ¬ A1 q → H1[q]? = H[q]?) → va_S A0 H0 H1 locs1 → W p l e R s m args below meth c H1 locs1 (cells + mc) (slots + ms) Q (F0 m (pc + 3) ls (.int r :: rest))) : W p l e R s m args below meth c H locs cells slots Q (F0 m pc ls st0) := by
  intro T hT X
  rcases hr T hT X with ⟨v, st₀, t, T', L, h0, X', hL, e1, e2, ⟨⟨r, u, hv, hp, hb⟩, hF⟩, st⟩ | ⟨q, st₀, t, T', L, E, ce, h0, X', hL, e1, e2, ⟨u, hp, hb, hF⟩, hce, hcv, hcl, st⟩
  · cases hv
    obtain ⟨k1, k2, k3⟩ := vx_keep h0 e1 hS hA hf hL hF
    obtain ⟨t2, a1, b1⟩ := kk r u t T'.heap (locs ++ L) e1.symm (by rw [← e2]; exact X'.warmed.alike) hp hb k1 k2 k3 T' rfl X'
    exact ⟨t2, st t2 a1, b1⟩
  · obtain ⟨k1, k2, k3⟩ := vx_keep h0 e1 hS hAX hf hL hF
    obtain ⟨t2, a1, b1⟩ := kx E ce q u t T'.heap (locs ++ L) e1.symm (by rw [← e2]; exact X'.warmed.alike) hp hb k1 k2 k3 (by rw [e1]; exact hce) hcv hcl T' rfl X'
    exact ⟨t2, st.trans a1, b1⟩
theorem vx_calll {S SX : Type} {post : Int64 → S → Prop} {px : SX → Prop} {B : S → State → Prop} {BX : String → SX → State → Prop} {AX : Nat → Prop} (hr : vx_Run p l e R s m args below meth c H locs cells slots mc ms (F0 m pc ls st0) rest (va_Ql post B A1 a) (vx_X px BX AX) free) (hS : va_S A0 H0 H locs) (hA : ∀ q, q < H.size → A1 q → A0 q) (hf : ∀ q, free q → A0 q) (hAX : ∀ q, q < H.size → AX q → A0 q)
    (kx : ∀ (E : String) (ce : Cell) (q9 : Addr) (u : SX) (t : State) (H1 : Heap) (locs1 : List Loc), t.heap = H1 → s.vm.Alike t.vm → px u → BX E u t → H.size ≤ H1.size → (∀ q : Nat, q < H.size → ¬ AX q → H1[q]? = H[q]?) → va_S A0 H0 H1 locs1 → H1[q9]? = some ce → ce.vm = .none → s.vm.findClass E = some ce.cls → vx_W p l e R s m args below meth c H1 locs1 (cells + mc) (slots + ms) Q (F0 m pc ls rest) q9)
    (kk : ∀ (r : Int64) (u : S) (t : State) (H1 : Heap) (locs1 : List Loc), t.heap = H1 → s.vm.Alike t.vm → post r u → B u t → H.size ≤ H1.size → (∀ q : Nat, q < H.size → ¬ A1 q → H1[q]? = H[q]?) → va_S A0 H0 H1 locs1 → W p l e R s m args below meth c H1 locs1 (cells + mc) (slots + ms) Q (F0 m (pc + 3) ls (.long r :: rest))) : W p l e R s m args below meth c H locs cells slots Q (F0 m pc ls st0) := by
  intro T hT X
  rcases hr T hT X with ⟨v, st₀, t, T', L, h0, X', hL, e1, e2, ⟨⟨r, u, hv, hp, hb⟩, hF⟩, st⟩ | ⟨q, st₀, t, T', L, E, ce, h0, X', hL, e1, e2, ⟨u, hp, hb, hF⟩, hce, hcv, hcl, st⟩
  · cases hv
    obtain ⟨k1, k2, k3⟩ := vx_keep h0 e1 hS hA hf hL hF
    obtain ⟨t2, a1, b1⟩ := kk r u t T'.heap (locs ++ L) e1.symm (by rw [← e2]; exact X'.warmed.alike) hp hb k1 k2 k3 T' rfl X'
    exact ⟨t2, st t2 a1, b1⟩
  · obtain ⟨k1, k2, k3⟩ := vx_keep h0 e1 hS hAX hf hL hF
    obtain ⟨t2, a1, b1⟩ := kx E ce q u t T'.heap (locs ++ L) e1.symm (by rw [← e2]; exact X'.warmed.alike) hp hb k1 k2 k3 (by rw [e1]; exact hce) hcv hcl T' rfl X'
    exact ⟨t2, st.trans a1, b1⟩
theorem vx_callf {S SX : Type} {post : UInt32 → S → Prop} {px : SX → Prop} {B : S → State → Prop} {BX : String → SX → State → Prop} {AX : Nat → Prop} (hr : vx_Run p l e R s m args below meth c H locs cells slots mc ms (F0 m pc ls st0) rest (va_Qf post B A1 a) (vx_X px BX AX) free) (hS : va_S A0 H0 H locs) (hA : ∀ q, q < H.size → A1 q → A0 q) (hf : ∀ q, free q → A0 q) (hAX : ∀ q, q < H.size → AX q → A0 q)
    (kx : ∀ (E : String) (ce : Cell) (q9 : Addr) (u : SX) (t : State) (H1 : Heap) (locs1 : List Loc), t.heap = H1 → s.vm.Alike t.vm → px u → BX E u t → H.size ≤ H1.size → (∀ q : Nat, q < H.size → ¬ AX q → H1[q]? = H[q]?) → va_S A0 H0 H1 locs1 → H1[q9]? = some ce → ce.vm = .none → s.vm.findClass E = some ce.cls → vx_W p l e R s m args below meth c H1 locs1 (cells + mc) (slots + ms) Q (F0 m pc ls rest) q9)
    (kk : ∀ (r : UInt32) (u : S) (t : State) (H1 : Heap) (locs1 : List Loc), t.heap = H1 → s.vm.Alike t.vm → post r u → B u t → H.size ≤ H1.size → (∀ q : Nat, q < H.size → ¬ A1 q → H1[q]? = H[q]?) → va_S A0 H0 H1 locs1 → W p l e R s m args below meth c H1 locs1 (cells + mc) (slots + ms) Q (F0 m (pc + 3) ls (.float r :: rest))) : W p l e R s m args below meth c H locs cells slots Q (F0 m pc ls st0) := by
  intro T hT X
  rcases hr T hT X with ⟨v, st₀, t, T', L, h0, X', hL, e1, e2, ⟨⟨r, u, hv, hp, hb⟩, hF⟩, st⟩ | ⟨q, st₀, t, T', L, E, ce, h0, X', hL, e1, e2, ⟨u, hp, hb, hF⟩, hce, hcv, hcl, st⟩
  · cases hv
    obtain ⟨k1, k2, k3⟩ := vx_keep h0 e1 hS hA hf hL hF
    obtain ⟨t2, a1, b1⟩ := kk r u t T'.heap (locs ++ L) e1.symm (by rw [← e2]; exact X'.warmed.alike) hp hb k1 k2 k3 T' rfl X'
    exact ⟨t2, st t2 a1, b1⟩
  · obtain ⟨k1, k2, k3⟩ := vx_keep h0 e1 hS hAX hf hL hF
    obtain ⟨t2, a1, b1⟩ := kx E ce q u t T'.heap (locs ++ L) e1.symm (by rw [← e2]; exact X'.warmed.alike) hp hb k1 k2 k3 (by rw [e1]; exact hce) hcv hcl T' rfl X'
    exact ⟨t2, st.trans a1, b1⟩
theorem vx_calld {S SX : Type} {post : UInt64 → S → Prop} {px : SX → Prop} {B : S → State → Prop} {BX : String → SX → State → Prop} {AX : Nat → Prop} (hr : vx_Run p l e R s m args below meth c H locs cells slots mc ms (F0 m pc ls st0) rest (va_Qd post B A1 a) (vx_X px BX AX) free) (hS : va_S A0 H0 H locs) (hA : ∀ q, q < H.size → A1 q → A0 q) (hf : ∀ q, free q → A0 q) (hAX : ∀ q, q < H.size → AX q → A0 q)
    (kx : ∀ (E : String) (ce : Cell) (q9 : Addr) (u : SX) (t : State) (H1 : Heap) (locs1 : List Loc), t.heap = H1 → s.vm.Alike t.vm → px u → BX E u t → H.size ≤ H1.size → (∀ q : Nat, q < H.size → ¬ AX q → H1[q]? = H[q]?) → va_S A0 H0 H1 locs1 → H1[q9]? = some ce → ce.vm = .none → s.vm.findClass E = some ce.cls → vx_W p l e R s m args below meth c H1 locs1 (cells + mc) (slots + ms) Q (F0 m pc ls rest) q9)
    (kk : ∀ (r : UInt64) (u : S) (t : State) (H1 : Heap) (locs1 : List Loc), t.heap = H1 → s.vm.Alike t.vm → post r u → B u t → H.size ≤ H1.size → (∀ q : Nat, q < H.size → ¬ A1 q → H1[q]? = H[q]?) → va_S A0 H0 H1 locs1 → W p l e R s m args below meth c H1 locs1 (cells + mc) (slots + ms) Q (F0 m (pc + 3) ls (.double r :: rest))) : W p l e R s m args below meth c H locs cells slots Q (F0 m pc ls st0) := by
  intro T hT X
  rcases hr T hT X with ⟨v, st₀, t, T', L, h0, X', hL, e1, e2, ⟨⟨r, u, hv, hp, hb⟩, hF⟩, st⟩ | ⟨q, st₀, t, T', L, E, ce, h0, X', hL, e1, e2, ⟨u, hp, hb, hF⟩, hce, hcv, hcl, st⟩
  · cases hv
    obtain ⟨k1, k2, k3⟩ := vx_keep h0 e1 hS hA hf hL hF
    obtain ⟨t2, a1, b1⟩ := kk r u t T'.heap (locs ++ L) e1.symm (by rw [← e2]; exact X'.warmed.alike) hp hb k1 k2 k3 T' rfl X'
    exact ⟨t2, st t2 a1, b1⟩
  · obtain ⟨k1, k2, k3⟩ := vx_keep h0 e1 hS hAX hf hL hF
    obtain ⟨t2, a1, b1⟩ := kx E ce q u t T'.heap (locs ++ L) e1.symm (by rw [← e2]; exact X'.warmed.alike) hp hb k1 k2 k3 (by rw [e1]; exact hce) hcv hcl T' rfl X'
    exact ⟨t2, st.trans a1, b1⟩
theorem vx_callv {S SX : Type} {post : S → Prop} {px : SX → Prop} {B : S → State → Prop} {BX : String → SX → State → Prop} {AX : Nat → Prop} (hr : vx_Run p l e R s m args below meth c H locs cells slots mc ms (F0 m pc ls st0) rest (va_Qv post B A1 a) (vx_X px BX AX) free) (hS : va_S A0 H0 H locs) (hA : ∀ q, q < H.size → A1 q → A0 q) (hf : ∀ q, free q → A0 q) (hAX : ∀ q, q < H.size → AX q → A0 q)
    (kx : ∀ (E : String) (ce : Cell) (q9 : Addr) (u : SX) (t : State) (H1 : Heap) (locs1 : List Loc), t.heap = H1 → s.vm.Alike t.vm → px u → BX E u t → H.size ≤ H1.size → (∀ q : Nat, q < H.size → ¬ AX q → H1[q]? = H[q]?) → va_S A0 H0 H1 locs1 → H1[q9]? = some ce → ce.vm = .none → s.vm.findClass E = some ce.cls → vx_W p l e R s m args below meth c H1 locs1 (cells + mc) (slots + ms) Q (F0 m pc ls rest) q9)
    (kk : ∀ (u : S) (t : State) (H1 : Heap) (locs1 : List Loc), t.heap = H1 → s.vm.Alike t.vm → post u → B u t → H.size ≤ H1.size → (∀ q : Nat, q < H.size → ¬ A1 q → H1[q]? = H[q]?) → va_S A0 H0 H1 locs1 → W p l e R s m args below meth c H1 locs1 (cells + mc) (slots + ms) Q (F0 m (pc + 3) ls (rest))) : W p l e R s m args below meth c H locs cells slots Q (F0 m pc ls st0) := by
  intro T hT X
  rcases hr T hT X with ⟨v, st₀, t, T', L, h0, X', hL, e1, e2, ⟨⟨u, hv, hp, hb⟩, hF⟩, st⟩ | ⟨q, st₀, t, T', L, E, ce, h0, X', hL, e1, e2, ⟨u, hp, hb, hF⟩, hce, hcv, hcl, st⟩
  · cases hv
    obtain ⟨k1, k2, k3⟩ := vx_keep h0 e1 hS hA hf hL hF
    obtain ⟨t2, a1, b1⟩ := kk u t T'.heap (locs ++ L) e1.symm (by rw [← e2]; exact X'.warmed.alike) hp hb k1 k2 k3 T' rfl X'
    exact ⟨t2, st t2 a1, b1⟩
  · obtain ⟨k1, k2, k3⟩ := vx_keep h0 e1 hS hAX hf hL hF
    obtain ⟨t2, a1, b1⟩ := kx E ce q u t T'.heap (locs ++ L) e1.symm (by rw [← e2]; exact X'.warmed.alike) hp hb k1 k2 k3 (by rw [e1]; exact hce) hcv hcl T' rfl X'
    exact ⟨t2, st.trans a1, b1⟩
/-- caught by the row x of this method's table; the rows ahead don't take it -/
theorem vx_catch {own name : String} {E : String} {ce : Cell} {q : Addr} (hown : s.vm.findClass own = some m.cls) (pre : List ExceptionTableEntry) (x : ExceptionTableEntry) (suf : List ExceptionTableEntry) (hsplit : c.exceptionTable.toList = pre ++ x :: suf)
    (hpass : ∀ z ∈ pre, covers z pc = false ∨ (z.catchType ≠ 0 ∧ ∃ nm : String, (Cond.classLink own z.catchType nm).before args s = true ∧ va_Nc E nm s)) (hx : covers x pc = true) (h0 : x.catchType ≠ 0)
    (hlink : (Cond.classLink own x.catchType name).before args s = true) (hcast : (Cond.castable E name).before args s = true) (hcell : H[q]? = some ce) (hv : ce.vm = .none) (hcl : s.vm.findClass E = some ce.cls)
    (kk : W p l e R s m args below meth c H locs cells slots Q (F0 m x.handlerPc ls [.ref q])) : vx_W p l e R s m args below meth c H locs cells slots Q (F0 m pc ls rest) q := by
  intro T hT X
  have hpl : e.platform.magicAccessors = ({} : Platform).magicAccessors := by rw [X.admits.platform]
  obtain ⟨c3, c4, hc3, hc4, hasg⟩ := Cond.castable_spec hcast
  cases Option.some.inj (hc3.symm.trans hcl)
  obtain ⟨c5, hc5, hcl5⟩ := Cond.classLink_spec hown hlink e.platform hpl
  cases Option.some.inj (hc4.symm.trans hc5)
  obtain ⟨vm', X', st⟩ := X.thenCaughtThrough q (g := F0 m pc ls rest) rfl (Steps.refl _) (by rw [hT]; exact hcell) (by rw [hv]; rfl) (by obtain ⟨k9, h9, -⟩ := Vm.findClass_spec hcl; exact ⟨k9, h9⟩) pre x suf hsplit
    (fun z hz => by
      rcases hpass z hz with h | ⟨hz0, nm, hl1, hn1⟩
      · exact Or.inl h
      · obtain ⟨c6, hc6, hcl6⟩ := Cond.classLink_spec hown hl1 e.platform hpl
        obtain ⟨a8, b8, h1, h2, h3⟩ := hn1
        cases Option.some.inj (h1.symm.trans hcl)
        cases Option.some.inj (h2.symm.trans hc6)
        exact Or.inr ⟨hz0, _, hcl6, h3⟩) hx (Or.inr ⟨h0, c4, hcl5, hasg⟩)
  obtain ⟨t, a1, b1⟩ := kk (T.setVm vm') hT X'
  exact ⟨t, st.trans a1, b1⟩
end Rows
section Ends
variable {p : Program} {l : Launch} {e : Env} {R : Room} {s : State} {m : MethodId} {args : Array Value} {below : List Frame} {meth : Method} {c : Code} {H : Heap} {locs : List Loc} {cells slots : Nat} {Q : State → Prop}
variable {mc ms : Nat} {free : Addr → Prop} {A0 A1 : Nat → Prop} {H0 : Heap} {a : Array Value} {ls : Array Slot} {st0 rest : List Value}
variable {Qc : Array Value → State → Outcome → State → Prop} {XC : String → State → State → Prop}
/-- what a body that may throw owes at its end -/
def vx_MQ (below : List Frame) (Qc : Array Value → State → Outcome → State → Prop) (XC : String → State → State → Prop) (a : Array Value) (s : State) (mc ms : Nat) (free : Addr → Prop) : State → Prop := fun t =>
  ∃ o, t.status = .running ∧ Ended t below o ∧ vx_Q Qc XC mc ms free a s o t
theorem vx_ret {g : JFrame} {mc ms : Nat} (k : W p l e R s m args below meth c H locs cells slots (MQ below Qc args s mc ms free) g) : W p l e R s m args below meth c H locs cells slots (vx_MQ below Qc XC args s mc ms free) g := by
  intro T hT X
  obtain ⟨t, a1, o, b1, b2, b3, b4⟩ := k T hT X
  exact ⟨t, a1, o, b1, b2, Or.inl ⟨b3, b4⟩⟩
/-- not caught here: it goes on to the caller -/
theorem vx_widen {g : JFrame} {q : Addr} {k n : Nat} (h1 : cells ≤ k) (h2 : slots ≤ n) (kk : vx_W p l e R s m args below meth c H locs k n Q g q) : vx_W p l e R s m args below meth c H locs cells slots Q g q := fun T hT X => kk T hT (stand_widen X h1 h2)
theorem vx_out {pc : Nat} {E : String} {ce : Cell} {q : Addr} {mc ms : Nat} (hout : ∀ x ∈ c.exceptionTable.toList, covers x pc = false) (hlocks : meth.locks = false) (hcell : H[q]? = some ce) (hv : ce.vm = .none) (hcl : s.vm.findClass E = some ce.cls)
    (hx : ∀ t : State, t.heap = H → s.vm.Alike t.vm → XC E s t) (hf : ∀ z ∈ locs, free z.base) (hc : cells ≤ mc) (hs : slots ≤ ms) :
    vx_W p l e R s m args below meth c H locs cells slots (vx_MQ below Qc XC args s mc ms free) (F0 m pc ls rest) q := by
  intro T hT X
  obtain ⟨st1, hrun, hend, hW, hsm⟩ := X.leaveThrown q (g := F0 m pc ls rest) rfl rfl rfl hout hlocks
  have hcell9 : (T.setFrames (.throwing q :: below)).heap[q]? = some ce := by
    show T.heap[q]? = some ce
    rw [hT]; exact hcell
  exact ⟨_, st1, .threw q, hrun, hend, Or.inr ⟨q, rfl, E, ce, locs, hx _ hT hW.alike, hcell9, hv, hcl, hW, hsm.mono hc hs, hf⟩⟩
theorem vx_frame {U : State} {k n : Nat} (h : s.sameButNew ({ U with vm := s.vm } : State) locs k n) : s.heap.size ≤ U.heap.size ∧ ∀ q : Nat, q < s.heap.size → (∀ z ∈ locs, z.base ≠ q) → U.heap[q]? = s.heap[q]? := by
  obtain ⟨-, h2, -, -, -, h6⟩ := h
  refine ⟨h2, fun q hq hz => ?_⟩
  obtain ⟨c9, e1, e2, e3, e4⟩ := h6 q _ (Array.getElem?_eq_getElem hq)
  have hs : c9.slots = (s.heap[q]).slots := Array.ext_getElem? fun i => e4 i fun hm => hz _ hm rfl
  have h9 : c9 = s.heap[q] := by
    rw [hs] at e2
    exact e2
  have e5 : U.heap[q]? = some c9 := e1
  rw [e5, h9, Array.getElem?_eq_getElem hq]
/-- the words of a throw but the four that speak of the heap -/
def vx_no (w : Cond) : Bool := decide (w ≠ .isRef (.static Bundle.tN "UNASSIGNED_STACK" Bundle.steD)) && decide (w ≠ .isRef (.static Bundle.tN "SUPPRESSED_SENTINEL" Bundle.listD)) && decide (w ≠ .laysStatic Bundle.tN "UNASSIGNED_STACK" Bundle.steD) && decide (w ≠ .laysStatic Bundle.tN "SUPPRESSED_SENTINEL" Bundle.listD)
def vx_at0 (own : String) (ic : Nat) (X : String) (names : List String) : List Cond := (Bundle.ownAtoms0 own ic X names).filter vx_no
def vx_atS (own : String) (ic : Nat) (X : String) (names : List String) : List Cond := (Bundle.ownAtoms own ic X names).filter vx_no
/-- a word that the tables alone decide, or a good one -/
def vx_ot (w : Cond) : Bool := w.onTables || goodWord w
theorem vx_ot_at {args a' : Array Value} {s U : State} {w : Cond} (hW : s.WarmedH U.vm) (hvm : s.vm = U.vm) (hg : vx_ot w = true) (h : w.before args s = true) : w.before a' U = true := by
  simp only [vx_ot, Bool.or_eq_true] at hg
  rcases hg with hg | hg
  · exact va_tabs hg hvm h
  · exact word_at hW (good_of_word hg) h
/-- a list's words: the good ones out of the method's own list, the others by premises of their own -/
theorem vx_hat {args : Array Value} {s : State} {L B : List Cond} (h1 : ∀ w ∈ L.filter goodWord, w.before args s = true) (h2 : ∀ w ∈ L.filter (fun w => !goodWord w), w ∈ B) (h3 : ∀ w ∈ B, w.before args s = true) : ∀ w ∈ L, w.before args s = true := by
  intro w hw
  by_cases g : goodWord w = true
  · exact h1 w (List.mem_filter.mpr ⟨hw, g⟩)
  · refine h3 w (h2 w (List.mem_filter.mpr ⟨hw, ?_⟩))
    show (!goodWord w) = true
    cases hgw : goodWord w
    · rfl
    · exact absurd hgw g
theorem vx_c {args : Array Value} {s : State} {w : Cond} {B : List Cond} (h : w.before args s = true) (t : ∀ w ∈ B, w.before args s = true) : ∀ w' ∈ w :: B, w'.before args s = true := fun w' h' => (List.mem_cons.mp h').elim (fun e => by rw [e]; exact h) (t w')
theorem vx_n {args : Array Value} {s : State} : ∀ w ∈ ([] : List Cond), w.before args s = true := fun _ h => nomatch h
theorem vx_own {args : Array Value} {s : State} {L : List Cond} (h1 : ∀ w ∈ L.filter vx_no, w.before args s = true)
    (hU : (Cond.isRef (.static Bundle.tN "UNASSIGNED_STACK" Bundle.steD)).before args s = true) (hN : (Cond.isRef (.static Bundle.tN "SUPPRESSED_SENTINEL" Bundle.listD)).before args s = true)
    (lU : (Cond.laysStatic Bundle.tN "UNASSIGNED_STACK" Bundle.steD).before args s = true) (lN : (Cond.laysStatic Bundle.tN "SUPPRESSED_SENTINEL" Bundle.listD).before args s = true) : ∀ w ∈ L, w.before args s = true := by
  intro w hw
  by_cases e1 : w = .isRef (.static Bundle.tN "UNASSIGNED_STACK" Bundle.steD)
  · rw [e1]; exact hU
  · by_cases e2 : w = .isRef (.static Bundle.tN "SUPPRESSED_SENTINEL" Bundle.listD)
    · rw [e2]; exact hN
    · by_cases e3 : w = .laysStatic Bundle.tN "UNASSIGNED_STACK" Bundle.steD
      · rw [e3]; exact lU
      · by_cases e4 : w = .laysStatic Bundle.tN "SUPPRESSED_SENTINEL" Bundle.listD
        · rw [e4]; exact lN
        · exact h1 w (List.mem_filter.mpr ⟨hw, by unfold vx_no; rw [decide_eq_true e1, decide_eq_true e2, decide_eq_true e3, decide_eq_true e4]; rfl⟩)
/-- where a static field lies, its class's statics cell in H -/
def vx_L (C n d : String) (A : Nat → Prop) (U : State) (H : Heap) : Prop := ∃ (c : ClassId) (k : Class) (i : Nat) (f : Field) (a : Nat) (cell : Cell), U.vm.findClass C = some c ∧ U.fieldFound? C n d = some (c, k, i, f) ∧ f.isStatic = true ∧ k.statics = some a ∧ H[a]? = some cell ∧ cell.vm.isStatics = true ∧ cell.cls = c ∧ f.slot < cell.slots.size ∧ k.staticTypes[f.slot]? = some f.type ∧ ¬ A a
theorem vx_L.moved {C n d : String} {A : Nat → Prop} {u U : State} {H : Heap} (hvm : u.vm.Alike U.vm) (h : vx_L C n d A u H) : vx_L C n d A U H := by
  obtain ⟨c, k, i, f, a, cell, h1, h2, h3, h4, h5, h6, h7, h8, h9, h10⟩ := h
  obtain ⟨k', hi', he⟩ := State.fieldFound?_setVm hvm h2
  exact ⟨c, k', i, f, a, cell, by rw [hvm.findClass]; exact h1, hi', h3, by rw [he]; exact h4, h5, h6, h7, h8, by rw [he]; exact h9, h10⟩
theorem vx_L.kept {C n d : String} {A : Nat → Prop} {U : State} {H H1 : Heap} (h : vx_L C n d A U H) (hq : ∀ a : Nat, a < H.size → ¬ A a → H1[a]? = H[a]?) : vx_L C n d A U H1 := by
  obtain ⟨c, k, i, f, a, cell, h1, h2, h3, h4, h5, h6, h7, h8, h9, h10⟩ := h
  exact ⟨c, k, i, f, a, cell, h1, h2, h3, h4, by rw [hq a (Array.getElem?_eq_some_iff.mp h5).1 h10]; exact h5, h6, h7, h8, h9, h10⟩
theorem vx_L.narrow {C n d : String} {A B : Nat → Prop} {U : State} {H : Heap} (h : vx_L C n d A U H) (hAB : ∀ q, B q → A q) : vx_L C n d B U H := by
  obtain ⟨c, k, i, f, a, cell, h1, h2, h3, h4, h5, h6, h7, h8, h9, h10⟩ := h
  exact ⟨c, k, i, f, a, cell, h1, h2, h3, h4, h5, h6, h7, h8, h9, fun z => h10 (hAB _ z)⟩
theorem vx_L.word {C n d : String} {A : Nat → Prop} {s : State} {args : Array Value} (h : vx_L C n d A s s.heap) : (Cond.laysStatic C n d).before args s = true := by
  obtain ⟨c, k, i, f, a, cell, h1, h2, h3, h4, h5, h6, h7, h8, h9, -⟩ := h
  show (Cond.laysStatic C n d).holds args s none s [] = true
  exact Cond.laysStatic_of h1 h2 h3 h4 h5 h6 h7 h8 h9
/-- .. and what it holds: null or some reference -/
def vx_Zq (C n d : String) (A : Nat → Prop) (U : State) (H : Heap) : Prop := va_Zq C n d A U H ∧ vx_L C n d A U H
theorem vx_Zq.moved {C n d : String} {A : Nat → Prop} {u U : State} {H : Heap} (hvm : u.vm.Alike U.vm) (h : vx_Zq C n d A u H) : vx_Zq C n d A U H := ⟨va_Zq.moved hvm h.1, vx_L.moved hvm h.2⟩
theorem vx_Zq.kept {C n d : String} {A : Nat → Prop} {U : State} {H H1 : Heap} (h : vx_Zq C n d A U H) (hq : ∀ a : Nat, a < H.size → ¬ A a → H1[a]? = H[a]?) : vx_Zq C n d A U H1 := ⟨va_Zq.kept h.1 hq, vx_L.kept h.2 hq⟩
theorem vx_Zq.narrow {C n d : String} {A B : Nat → Prop} {U : State} {H : Heap} (h : vx_Zq C n d A U H) (hAB : ∀ q, B q → A q) : vx_Zq C n d B U H := ⟨va_Zq.narrow h.1 hAB, vx_L.narrow h.2 hAB⟩
theorem vx_Zqof {args : Array Value} {s : State} {C n d : String} {A : Nat → Prop} (hl : (Cond.laysStatic C n d).before args s = true) (hini : (Cond.initialized C).before args s = true) (h : (Cond.isRef (.static C n d)).before args s = true) (hA : ∀ a : Nat, a < s.heap.size → ¬ A a) : vx_Zq C n d A s s.heap := by
  refine ⟨va_Zqof hl hini h hA, ?_⟩
  obtain ⟨c, k, i, f, a, cell, h1, h2, h3, h4, h5, h6, h7, h8, h9⟩ := Cond.laysStatic_spec hl
  exact ⟨c, k, i, f, a, cell, h1, h2, h3, h4, h5, h6, h7, h8, h9, hA a (Array.getElem?_eq_some_iff.mp h5).1⟩
theorem vx_isRef {C n d : String} {v : Value} {A : Nat → Prop} {s : State} {args : Array Value} (h : va_Z C n d v A s s.heap) (hv : v.isRef = true) : (Cond.isRef (.static C n d)).before args s = true := by
  obtain ⟨cf, kf, fi, f, a, cell, h1, h2, h3, h4, h5, h6, h7, -⟩ := h
  have he : (Term.static C n d).eval args s none [] s = some v := by
    simp [Term.eval, State.fieldNamed?, h1, h2, h4, h5, h6, h7]
  simp only [Cond.before, Cond.holds, Cond.value, he]
  cases v <;> simp_all [Value.isRef]
theorem vx_isRefq {C n d : String} {A : Nat → Prop} {s : State} {args : Array Value} (h : va_Zq C n d A s s.heap) : (Cond.isRef (.static C n d)).before args s = true := by
  rcases h with h | ⟨t, h⟩
  · exact vx_isRef h rfl
  · exact vx_isRef h rfl
/-- the same frame, seen from here: as if the method were called anew in this heap -/
theorem vx_rebase {T : State} (X : Stand p l e R s m args below meth c T locs cells slots) {R' : Room} (hf : R'.frames ≤ R.frames) (hl : R'.locals ≤ R.locals) (hc : cells + R'.cells ≤ R.cells) (hs : slots + R'.slots ≤ R.slots) :
    Stand p l e R' ((T.setVm s.vm).setFrames (.invoking m args :: below)) m args below meth c T [] 0 0 := by
  have htop : (T.setVm s.vm).topJava?.isSome := X.here.top
  have hF : ((T.setVm s.vm).setFrames (.invoking m args :: below)).frames = .invoking m args :: below := State.frames_setFrames _ (State.cur_lt_of_top htop)
  obtain ⟨g₀, hg0⟩ := Option.isSome_iff_exists.mp htop
  obtain ⟨r, hr⟩ := State.topJava?_eq_some.mp hg0
  have hl9 : e.platform.stackLimits (T.setVm s.vm).me = e.platform.stackLimits s.me := X.limits
  have hb9 : (T.setVm s.vm).me.stackBytes = s.me.stackBytes := X.bytes
  refine ⟨X.admits, X.cas, X.clock, hF, ?_, X.hears, X.method, X.code, X.here, X.tail, X.warmed, ?_, ?_, ?_⟩
  · have h := X.room
    have hU : ((T.setVm s.vm).setFrames (.invoking m args :: below)).localsInUse = s.localsInUse := by
      rw [State.localsInUse_invoking hF (meth := meth) (c := c) X.method X.code, State.localsInUse_invoking X.frames X.method X.code]
    simp only [State.hasRoom, Bool.and_eq_true, decide_eq_true_eq] at h ⊢
    obtain ⟨⟨⟨⟨h1, h2, h3, h4, h5, h6⟩, h7⟩, h8⟩, h9⟩ := h
    rw [X.frames, List.length_cons] at h2 h3
    have q1 := X.heapSize
    have q2 := X.used
    simp only [hF, hU, List.length_cons, State.stackLimits_setFrames, State.stackBytes_setFrames, hl9, hb9]
    refine ⟨⟨⟨⟨by omega, by omega, by omega, by omega, by omega, h6⟩, ?_⟩, ?_⟩, X.book⟩
    · show T.heap.size + R'.cells ≤ e.platform.maxCells
      omega
    · show T.slotsUsed + R'.slots ≤ e.platform.maxSlots
      omega
  · rw [State.stackLimits_setFrames]; rfl
  · rw [State.stackBytes_setFrames]; rfl
  · refine ⟨?_, Nat.le_refl _, Nat.le_refl _, ?_, ?_, fun a c9 h9 => ⟨c9, h9, rfl, rfl, fun _ _ => rfl⟩⟩
    · obtain ⟨t, ht, -⟩ := State.frames_cons hr
      show T.setVm s.vm = { ((T.setVm s.vm).setFrames (.invoking m args :: below)).setFrames (T.setVm s.vm).frames with heap := T.heap, slotsUsed := T.slotsUsed }
      rw [State.setFrames_setFrames, State.setFrames_self ht]
      rfl
    · show T.slotsUsed = T.slotsUsed + ((T.heap.toList.drop T.heap.size).map (·.slots.size)).sum
      rw [List.drop_eq_nil_of_le (Nat.le_of_eq Array.length_toList)]
      rfl
    · show ((T.heap.toList.drop T.heap.size).map (·.slots.size)).sum ≤ 0
      rw [List.drop_eq_nil_of_le (Nat.le_of_eq Array.length_toList)]
      exact Nat.le_refl _
/-- 'throw new E()': new; dup; invokespecial; athrow -/
theorem vx_throw0 {cc : ByteArray} {pc : Nat} (hexec : p.tables.exec = Jvm.exec) (hb : c.code = cc) (hl : l.stackTraces = false) {own cls : String} {names : List String} {ik ic mc ms : Nat} {A : Nat → Prop}
    (hown : s.vm.findClass own = some m.cls) (hcls : Bundle.fit cls = true) (hnames : ∀ n ∈ names, Bundle.fit n = true)
    (hk : (Cond.classLink own ik cls).before args s = true) (hini : (Cond.initialized cls).before args s = true) (hat : ∀ w ∈ vx_at0 own ic cls names, w.before args s = true)
    (hgood : ∀ w ∈ Cond.classLink own ik cls :: Cond.initialized cls :: vx_at0 own ic cls names, vx_ot w = true)
    (hU : vx_Zq Bundle.tN "UNASSIGNED_STACK" Bundle.steD A s s.heap) (hN : vx_Zq Bundle.tN "SUPPRESSED_SENTINEL" Bundle.listD A s s.heap) (hS : va_S A s.heap H locs) (hsize : ls.size = c.maxLocals)
    (d0 : decode cc pc = .ok (.new ik, 3)) (d3 : decode cc (pc + 3) = .ok (.dup, 1)) (d4 : decode cc (pc + 4) = .ok (.invokespecial ic, 3)) (d7 : decode cc (pc + 7) = .ok (.athrow, 1))
    (hout : ∀ x ∈ c.exceptionTable.toList, covers x (pc + 7) = false)
    (hRframes : names.length + 3 < R.frames) (hRlocals : (rest.map fun v => v.category).sum + (13 * (names.length + 1) + 42) ≤ R.locals) (hRcells : cells + 1 ≤ R.cells) (hRslots : slots + 6 ≤ R.slots) (hlocks : meth.locks = false)
    (hx : ∀ t : State, s.vm.Alike t.vm → H.size ≤ t.heap.size → (∀ q : Nat, q < H.size → t.heap[q]? = H[q]?) → XC cls s t)
    (hf : ∀ z ∈ locs, free z.base) (hc : cells + 1 ≤ mc) (hs : slots + 6 ≤ ms) :
    W p l e R s m args below meth c H locs cells slots (vx_MQ below Qc XC args s mc ms free) (F0 m pc ls rest) := by
  intro T hT X
  have htr : e.platform.stackTraces = false := (show e.platform.stackTraces = l.stackTraces by rw [X.admits.platform]).trans hl
  have Y := vx_rebase X (R' := { frames := R.frames, locals := R.locals, cells := 1, slots := 6 }) (Nat.le_refl _) (Nat.le_refl _) hRcells hRslots
  obtain ⟨s', hA⟩ : ∃ z, z = (T.setVm s.vm).setFrames (.invoking m args :: below) := ⟨_, rfl⟩
  rw [← hA] at Y
  have hvm : s'.vm = s.vm := by rw [hA]; rfl
  have hhp : s'.heap = H := by rw [hA]; exact hT
  have hW0 : s.WarmedH s'.vm := by rw [hvm]; exact State.WarmedH.refl s
  have hat' : ∀ w ∈ vx_at0 own ic cls names, w.before args s' = true := fun w hw => vx_ot_at hW0 hvm.symm (hgood w (List.mem_cons_of_mem _ (List.mem_cons_of_mem _ hw))) (hat w hw)
  have hk' : (Cond.classLink own ik cls).before args s' = true := vx_ot_at hW0 hvm.symm (hgood _ List.mem_cons_self) hk
  have hini' : (Cond.initialized cls).before args s' = true := vx_ot_at hW0 hvm.symm (hgood _ (List.mem_cons_of_mem _ List.mem_cons_self)) hini
  have hU' : vx_Zq Bundle.tN "UNASSIGNED_STACK" Bundle.steD A s' s'.heap := by rw [hhp]; exact vx_Zq.moved hW0.alike (hU.kept hS.2.1)
  have hN' : vx_Zq Bundle.tN "SUPPRESSED_SENTINEL" Bundle.listD A s' s'.heap := by rw [hhp]; exact vx_Zq.moved hW0.alike (hN.kept hS.2.1)
  have h : ∀ w ∈ Bundle.ownAtoms0 own ic cls names, w.before args s' = true := vx_own hat' (vx_isRefq hU'.1) (vx_isRefq hN'.1) hU'.2.word hN'.2.word
  have hown' : s'.vm.findClass own = some m.cls := by rw [hvm]; exact hown
  have hins : (Cond.instantiable cls 6).before args s' = true := h _ (by simp [Bundle.ownAtoms0])
  obtain ⟨vm₁, cX, kX, hfX, hkX, -, -, X₁, st1⟩ := Y.newCold hexec (own := own) (C := cls) (index := ik) (n := 6) hown' hk' hins hini'
    (g := F0 m pc ls rest) rfl (by rw [hb]; exact d0) (Nat.le_refl _) (Nat.le_refl _)
  generalize hT1 : (T.setVm vm₁).pushCell { cls := cX, slots := kX.instanceTypes.map defaultValue, vm := .none } = T1 at X₁ st1
  have hcat : (Value.ref T.heap.size).category = 1 := rfl
  have hcellA : T1.heap[T.heap.size]? = some (freshCell cX kX) := by rw [← hT1]; exact State.heap_pushCell_size _ _
  have d3' : decode c.code (pc + 3) = .ok (.dup, 1) := by rw [hb]; exact d3
  obtain ⟨U, hsteps, hrun, hend, hW, hsame, ce, hce, hO⟩ := X₁.ctorThrow0 hexec htr (own := own) (cls := cls) (names := names) (ic := ic) hown' hcls hnames h (fun x hx => nomatch hx) hfX hkX hcellA (by rw [hhp, hT]; exact Nat.le_refl _)
    (g := { method := m, pc := pc + 4, locals := ls, stack := .ref T.heap.size :: .ref T.heap.size :: rest, locked := none }) rfl hsize rfl rfl (rest := rest) rfl
    (by rw [hb]; exact d4) (by rw [hb]; exact d7) hout hRframes (by simp only [List.map_cons, List.sum_cons, hcat]; omega) hlocks
  obtain ⟨f1, f2⟩ := vx_frame hsame
  rw [hhp] at f1 f2
  have hWs : s.WarmedH U.vm := State.WarmedH.trans hW0 hW
  have hcl : s.vm.findClass cls = some ce.cls := by
    have h9 := hO.cls
    rw [hvm] at h9
    exact h9
  have hall : s.sameButNew ({ U with vm := s.vm } : State) locs mc ms := by
    subst hA
    obtain ⟨e1, e2⟩ := hsame
    rw [State.setFrames_setFrames] at e1
    have h2 : (T.setVm s.vm).sameButNew ({ U with vm := s.vm } : State) [] (0 + 1) (0 + 6) := ⟨e1, e2⟩
    have h3 := X.same.trans h2
    rw [List.append_nil] at h3
    exact h3.mono hc hs
  refine ⟨U, ?_, .threw T.heap.size, hrun, hend, Or.inr ⟨T.heap.size, rfl, cls, ce, locs, hx U hWs.alike f1 (fun q hq => f2 q hq (fun z hz => nomatch hz)), hce, hO.vm, hcl, hWs, hall, hf⟩⟩
  refine st1 _ ?_
  show Steps p.tables e below (T1.setTop { method := m, pc := pc + 3, locals := ls, stack := .ref T.heap.size :: rest, locked := none }) _
  jvm_step X₁.here [X₁.here.top, hexec, d3', Value.category]
  exact hsteps
/-- 'throw new E("text")': new; dup; ldc; invokespecial; athrow -/
theorem vx_throwS {cc : ByteArray} {pc : Nat} (hexec : p.tables.exec = Jvm.exec) (hb : c.code = cc) (hl : l.stackTraces = false) {own cls text : String} {names : List String} {ik is ic mc ms sa : Nat} {A : Nat → Prop}
    (hown : s.vm.findClass own = some m.cls) (hcls : Bundle.fit cls = true) (hnames : ∀ n ∈ names, Bundle.fit n = true)
    (hk : (Cond.classLink own ik cls).before args s = true) (hini : (Cond.initialized cls).before args s = true) (hstr : vk_R own is text sa s) (hat : ∀ w ∈ vx_atS own ic cls names, w.before args s = true)
    (hgood : ∀ w ∈ Cond.classLink own ik cls :: Cond.initialized cls :: vx_atS own ic cls names, vx_ot w = true)
    (hU : vx_Zq Bundle.tN "UNASSIGNED_STACK" Bundle.steD A s s.heap) (hN : vx_Zq Bundle.tN "SUPPRESSED_SENTINEL" Bundle.listD A s s.heap) (hS : va_S A s.heap H locs) (hsize : ls.size = c.maxLocals)
    (d0 : decode cc pc = .ok (.new ik, 3)) (d3 : decode cc (pc + 3) = .ok (.dup, 1)) (d4 : decode cc (pc + 4) = .ok (.ldc is, 2)) (d6 : decode cc (pc + 6) = .ok (.invokespecial ic, 3)) (d9 : decode cc (pc + 9) = .ok (.athrow, 1))
    (hout : ∀ x ∈ c.exceptionTable.toList, covers x (pc + 9) = false)
    (hRframes : names.length + 3 < R.frames) (hRlocals : (rest.map fun v => v.category).sum + (13 * (names.length + 1) + 43) ≤ R.locals) (hRcells : cells + 1 ≤ R.cells) (hRslots : slots + 6 ≤ R.slots) (hlocks : meth.locks = false)
    (hx : ∀ t : State, s.vm.Alike t.vm → H.size ≤ t.heap.size → (∀ q : Nat, q < H.size → t.heap[q]? = H[q]?) → XC cls s t)
    (hf : ∀ z ∈ locs, free z.base) (hc : cells + 1 ≤ mc) (hs : slots + 6 ≤ ms) :
    W p l e R s m args below meth c H locs cells slots (vx_MQ below Qc XC args s mc ms free) (F0 m pc ls rest) := by
  intro T hT X
  have htr : e.platform.stackTraces = false := (show e.platform.stackTraces = l.stackTraces by rw [X.admits.platform]).trans hl
  have Y := vx_rebase X (R' := { frames := R.frames, locals := R.locals, cells := 1, slots := 6 }) (Nat.le_refl _) (Nat.le_refl _) hRcells hRslots
  obtain ⟨s', hA⟩ : ∃ z, z = (T.setVm s.vm).setFrames (.invoking m args :: below) := ⟨_, rfl⟩
  rw [← hA] at Y
  have hvm : s'.vm = s.vm := by rw [hA]; rfl
  have hhp : s'.heap = H := by rw [hA]; exact hT
  have hW0 : s.WarmedH s'.vm := by rw [hvm]; exact State.WarmedH.refl s
  have hat' : ∀ w ∈ vx_atS own ic cls names, w.before args s' = true := fun w hw => vx_ot_at hW0 hvm.symm (hgood w (List.mem_cons_of_mem _ (List.mem_cons_of_mem _ hw))) (hat w hw)
  have hk' : (Cond.classLink own ik cls).before args s' = true := vx_ot_at hW0 hvm.symm (hgood _ List.mem_cons_self) hk
  have hini' : (Cond.initialized cls).before args s' = true := vx_ot_at hW0 hvm.symm (hgood _ (List.mem_cons_of_mem _ List.mem_cons_self)) hini
  have hU' : vx_Zq Bundle.tN "UNASSIGNED_STACK" Bundle.steD A s' s'.heap := by rw [hhp]; exact vx_Zq.moved hW0.alike (hU.kept hS.2.1)
  have hN' : vx_Zq Bundle.tN "SUPPRESSED_SENTINEL" Bundle.listD A s' s'.heap := by rw [hhp]; exact vx_Zq.moved hW0.alike (hN.kept hS.2.1)
  have h : ∀ w ∈ Bundle.ownAtoms own ic cls names, w.before args s' = true := vx_own hat' (vx_isRefq hU'.1) (vx_isRefq hN'.1) hU'.2.word hN'.2.word
  have hown' : s'.vm.findClass own = some m.cls := by rw [hvm]; exact hown
  have hins : (Cond.instantiable cls 6).before args s' = true := h _ (by simp [Bundle.ownAtoms])
  obtain ⟨vm₁, cX, kX, hfX, hkX, -, -, X₁, st1⟩ := Y.newCold hexec (own := own) (C := cls) (index := ik) (n := 6) hown' hk' hins hini'
    (g := F0 m pc ls rest) rfl (by rw [hb]; exact d0) (Nat.le_refl _) (Nat.le_refl _)
  generalize hT1 : (T.setVm vm₁).pushCell { cls := cX, slots := kX.instanceTypes.map defaultValue, vm := .none } = T1 at X₁ st1
  have hcat : (Value.ref T.heap.size).category = 1 := rfl
  have hcellA : T1.heap[T.heap.size]? = some (freshCell cX kX) := by rw [← hT1]; exact State.heap_pushCell_size _ _
  have d3' : decode c.code (pc + 3) = .ok (.dup, 1) := by rw [hb]; exact d3
  have d4' : decode c.code (pc + 4) = .ok (.ldc is, 2) := by rw [hb]; exact d4
  have hstr' : vk_R own is text sa s' := vk_R.warm hW0 hstr
  obtain ⟨U, hsteps, hrun, hend, hW, hsame, ce, hce, hO⟩ := X₁.ctorThrowS hexec htr (own := own) (cls := cls) (names := names) (ic := ic) hown' hcls hnames h (fun x hx => nomatch hx) hfX hkX hcellA (by rw [hhp, hT]; exact Nat.le_refl _) (msg := .ref sa) rfl
    (g := { method := m, pc := pc + 6, locals := ls, stack := .ref sa :: .ref T.heap.size :: .ref T.heap.size :: rest, locked := none }) rfl hsize rfl rfl (rest := rest) rfl
    (by rw [hb]; exact d6) (by rw [hb]; exact d9) hout hRframes (by simp only [List.map_cons, List.sum_cons, hcat]; omega) hlocks
  obtain ⟨f1, f2⟩ := vx_frame hsame
  rw [hhp] at f1 f2
  have hWs : s.WarmedH U.vm := State.WarmedH.trans hW0 hW
  have hcl : s.vm.findClass cls = some ce.cls := by
    have h9 := hO.cls
    rw [hvm] at h9
    exact h9
  have hall : s.sameButNew ({ U with vm := s.vm } : State) locs mc ms := by
    subst hA
    obtain ⟨e1, e2⟩ := hsame
    rw [State.setFrames_setFrames] at e1
    have h2 : (T.setVm s.vm).sameButNew ({ U with vm := s.vm } : State) [] (0 + 1) (0 + 6) := ⟨e1, e2⟩
    have h3 := X.same.trans h2
    rw [List.append_nil] at h3
    exact h3.mono hc hs
  refine ⟨U, ?_, .threw T.heap.size, hrun, hend, Or.inr ⟨T.heap.size, rfl, cls, ce, locs, hx U hWs.alike f1 (fun q hq => f2 q hq (fun z hz => nomatch hz)), hce, hO.vm, hcl, hWs, hall, hf⟩⟩
  refine st1 _ ?_
  show Steps p.tables e below (T1.setTop { method := m, pc := pc + 3, locals := ls, stack := .ref T.heap.size :: rest, locked := none }) _
  jvm_step X₁.here [X₁.here.top, hexec, d3', Value.category]
  exact X₁.ldcString hexec (own := own) (text := text) (index := is) (a := sa) hown' hstr'.1 hstr'.2
    (g := { method := m, pc := pc + 4, locals := ls, stack := .ref T.heap.size :: .ref T.heap.size :: rest, locked := none }) rfl d4' _ hsteps
/-- 'throw new E("text")', the text by a wide index -/
theorem vx_throwSW {cc : ByteArray} {pc : Nat} (hexec : p.tables.exec = Jvm.exec) (hb : c.code = cc) (hl : l.stackTraces = false) {own cls text : String} {names : List String} {ik is ic mc ms sa : Nat} {A : Nat → Prop}
    (hown : s.vm.findClass own = some m.cls) (hcls : Bundle.fit cls = true) (hnames : ∀ n ∈ names, Bundle.fit n = true)
    (hk : (Cond.classLink own ik cls).before args s = true) (hini : (Cond.initialized cls).before args s = true) (hstr : vk_R own is text sa s) (hat : ∀ w ∈ vx_atS own ic cls names, w.before args s = true)
    (hgood : ∀ w ∈ Cond.classLink own ik cls :: Cond.initialized cls :: vx_atS own ic cls names, vx_ot w = true)
    (hU : vx_Zq Bundle.tN "UNASSIGNED_STACK" Bundle.steD A s s.heap) (hN : vx_Zq Bundle.tN "SUPPRESSED_SENTINEL" Bundle.listD A s s.heap) (hS : va_S A s.heap H locs) (hsize : ls.size = c.maxLocals)
    (d0 : decode cc pc = .ok (.new ik, 3)) (d3 : decode cc (pc + 3) = .ok (.dup, 1)) (d4 : decode cc (pc + 4) = .ok (.ldc_w is, 3)) (d7 : decode cc (pc + 7) = .ok (.invokespecial ic, 3)) (d10 : decode cc (pc + 10) = .ok (.athrow, 1))
    (hout : ∀ x ∈ c.exceptionTable.toList, covers x (pc + 10) = false)
    (hRframes : names.length + 3 < R.frames) (hRlocals : (rest.map fun v => v.category).sum + (13 * (names.length + 1) + 43) ≤ R.locals) (hRcells : cells + 1 ≤ R.cells) (hRslots : slots + 6 ≤ R.slots) (hlocks : meth.locks = false)
    (hx : ∀ t : State, s.vm.Alike t.vm → H.size ≤ t.heap.size → (∀ q : Nat, q < H.size → t.heap[q]? = H[q]?) → XC cls s t)
    (hf : ∀ z ∈ locs, free z.base) (hc : cells + 1 ≤ mc) (hs : slots + 6 ≤ ms) :
    W p l e R s m args below meth c H locs cells slots (vx_MQ below Qc XC args s mc ms free) (F0 m pc ls rest) := by
  intro T hT X
  have htr : e.platform.stackTraces = false := (show e.platform.stackTraces = l.stackTraces by rw [X.admits.platform]).trans hl
  have Y := vx_rebase X (R' := { frames := R.frames, locals := R.locals, cells := 1, slots := 6 }) (Nat.le_refl _) (Nat.le_refl _) hRcells hRslots
  obtain ⟨s', hA⟩ : ∃ z, z = (T.setVm s.vm).setFrames (.invoking m args :: below) := ⟨_, rfl⟩
  rw [← hA] at Y
  have hvm : s'.vm = s.vm := by rw [hA]; rfl
  have hhp : s'.heap = H := by rw [hA]; exact hT
  have hW0 : s.WarmedH s'.vm := by rw [hvm]; exact State.WarmedH.refl s
  have hat' : ∀ w ∈ vx_atS own ic cls names, w.before args s' = true := fun w hw => vx_ot_at hW0 hvm.symm (hgood w (List.mem_cons_of_mem _ (List.mem_cons_of_mem _ hw))) (hat w hw)
  have hk' : (Cond.classLink own ik cls).before args s' = true := vx_ot_at hW0 hvm.symm (hgood _ List.mem_cons_self) hk
  have hini' : (Cond.initialized cls).before args s' = true := vx_ot_at hW0 hvm.symm (hgood _ (List.mem_cons_of_mem _ List.mem_cons_self)) hini
  have hU' : vx_Zq Bundle.tN "UNASSIGNED_STACK" Bundle.steD A s' s'.heap := by rw [hhp]; exact vx_Zq.moved hW0.alike (hU.kept hS.2.1)
  have hN' : vx_Zq Bundle.tN "SUPPRESSED_SENTINEL" Bundle.listD A s' s'.heap := by rw [hhp]; exact vx_Zq.moved hW0.alike (hN.kept hS.2.1)
  have h : ∀ w ∈ Bundle.ownAtoms own ic cls names, w.before args s' = true := vx_own hat' (vx_isRefq hU'.1) (vx_isRefq hN'.1) hU'.2.word hN'.2.word
  have hown' : s'.vm.findClass own = some m.cls := by rw [hvm]; exact hown
  have hins : (Cond.instantiable cls 6).before args s' = true := h _ (by simp [Bundle.ownAtoms])
  obtain ⟨vm₁, cX, kX, hfX, hkX, -, -, X₁, st1⟩ := Y.newCold hexec (own := own) (C := cls) (index := ik) (n := 6) hown' hk' hins hini'
    (g := F0 m pc ls rest) rfl (by rw [hb]; exact d0) (Nat.le_refl _) (Nat.le_refl _)
  generalize hT1 : (T.setVm vm₁).pushCell { cls := cX, slots := kX.instanceTypes.map defaultValue, vm := .none } = T1 at X₁ st1
  have hcat : (Value.ref T.heap.size).category = 1 := rfl
  have hcellA : T1.heap[T.heap.size]? = some (freshCell cX kX) := by rw [← hT1]; exact State.heap_pushCell_size _ _
  have d3' : decode c.code (pc + 3) = .ok (.dup, 1) := by rw [hb]; exact d3
  have d4' : decode c.code (pc + 4) = .ok (.ldc_w is, 3) := by rw [hb]; exact d4
  have hstr' : vk_R own is text sa s' := vk_R.warm hW0 hstr
  obtain ⟨U, hsteps, hrun, hend, hW, hsame, ce, hce, hO⟩ := X₁.ctorThrowS hexec htr (own := own) (cls := cls) (names := names) (ic := ic) hown' hcls hnames h (fun x hx => nomatch hx) hfX hkX hcellA (by rw [hhp, hT]; exact Nat.le_refl _) (msg := .ref sa) rfl
    (g := { method := m, pc := pc + 7, locals := ls, stack := .ref sa :: .ref T.heap.size :: .ref T.heap.size :: rest, locked := none }) rfl hsize rfl rfl (rest := rest) rfl
    (by rw [hb]; exact d7) (by rw [hb]; exact d10) hout hRframes (by simp only [List.map_cons, List.sum_cons, hcat]; omega) hlocks
  obtain ⟨f1, f2⟩ := vx_frame hsame
  rw [hhp] at f1 f2
  have hWs : s.WarmedH U.vm := State.WarmedH.trans hW0 hW
  have hcl : s.vm.findClass cls = some ce.cls := by
    have h9 := hO.cls
    rw [hvm] at h9
    exact h9
  have hall : s.sameButNew ({ U with vm := s.vm } : State) locs mc ms := by
    subst hA
    obtain ⟨e1, e2⟩ := hsame
    rw [State.setFrames_setFrames] at e1
    have h2 : (T.setVm s.vm).sameButNew ({ U with vm := s.vm } : State) [] (0 + 1) (0 + 6) := ⟨e1, e2⟩
    have h3 := X.same.trans h2
    rw [List.append_nil] at h3
    exact h3.mono hc hs
  refine ⟨U, ?_, .threw T.heap.size, hrun, hend, Or.inr ⟨T.heap.size, rfl, cls, ce, locs, hx U hWs.alike f1 (fun q hq => f2 q hq (fun z hz => nomatch hz)), hce, hO.vm, hcl, hWs, hall, hf⟩⟩
  refine st1 _ ?_
  show Steps p.tables e below (T1.setTop { method := m, pc := pc + 3, locals := ls, stack := .ref T.heap.size :: rest, locked := none }) _
  jvm_step X₁.here [X₁.here.top, hexec, d3', Value.category]
  exact X₁.ldcStringW hexec (own := own) (text := text) (index := is) (a := sa) hown' hstr'.1 hstr'.2
    (g := { method := m, pc := pc + 4, locals := ls, stack := .ref T.heap.size :: .ref T.heap.size :: rest, locked := none }) rfl d4' _ hsteps
end Ends
section Bodies
variable {l : Launch}
theorem vx_ofW {y : MethodName} {ws ws' : List Cond} {rm : Room} {Pc : Array Value → State → Prop} {Qc : Array Value → State → Outcome → State → Prop} {XC : String → State → State → Prop} {mc ms : Nat} {free : Addr → Prop} {cc : ByteArray} {maxL : Nat} {ret : Option FieldType}
    (hy : plainName y.cls = true) (hw : ws = Cond.code y cc maxL ret :: ws')
    (body : ∀ p e s m args below meth c s₁, BodyLoose p l y (headSpec ws rm) cc maxL ret e s m args below meth c s₁ → c.maxLocals = maxL → (∀ x ∈ c.exceptionTable.toList, False) → Pc args s →
      W p l e (headSpec ws rm).room s m args below meth c s.heap [] 0 0 (vx_MQ below Qc XC args s mc ms free) (entryFrame m args maxL)) : vx_Met l y ws rm Pc Qc XC mc ms free := by
  refine MetFree.of_bodyS (code := cc) (maxLocals := maxL) (ret := ret) hy ?_ ?_
  · intro args s m h hn
    obtain ⟨meth, c, h1, h2, h3, h4, h5, h6, -, -⟩ := Cond.code_spec hn (atoms_spec (ws := ws) h _ (by rw [hw]; exact List.mem_cons_self))
    exact ⟨meth, c, h1, h2, h3, h4, h5, h6⟩
  · intro p e s m args below meth c s₁ B hml hP _
    have hh0 : s₁.heap = s.heap := by rw [B.state]; rfl
    have ht : ∀ x ∈ c.exceptionTable.toList, False := by
      obtain ⟨meth9, c9, h1, h2, -, -, -, -, h7, -⟩ := Cond.code_spec B.named (atoms_spec (ws := ws) B.pre _ (by rw [hw]; exact List.mem_cons_self))
      cases Option.some.inj (h1.symm.trans B.method)
      cases Option.some.inj (h2.symm.trans (Stand.of_body B).code)
      intro x hx
      rw [Array.isEmpty_iff.mp h7] at hx
      cases hx
    obtain ⟨t, a1, o, b1, b2, b3⟩ := body p e s m args below meth c s₁ B hml ht hP s₁ hh0 (Stand.of_body B)
    exact ⟨t, o, a1, b1, b2, b3⟩
/-- the table of a body with handlers -/
theorem vx_table {p : Program} {x y : MethodName} {S : Spec} {cc bytes : ByteArray} {maxL maxL' : Nat} {ret ret' : Option FieldType} {e : Env} {s s₁ : State} {m : MethodId} {args : Array Value} {below : List Frame} {meth : Method} {c : Code} {hh : List (Nat × Nat × Nat × Nat)}
    (B : BodyLoose p l y S cc maxL ret e s m args below meth c s₁) (h : (Cond.codeWith y bytes maxL' ret' hh).before args s = true) : c.exceptionTable.toList = tableOf hh := by
  obtain ⟨m9, meth9, c9, hn9, h1, h2, -, -, h6, -⟩ := Cond.codeWith_spec h
  cases Option.some.inj (hn9.symm.trans B.named)
  cases Option.some.inj (h1.symm.trans B.method)
  cases Option.some.inj (h2.symm.trans (Stand.of_body B).code)
  rw [← h6, table_eq]
end Bodies
end VXA
/-! ===== END ===== -/
/-! ===== BEGIN a static call of a method with an exception table ===== -/
section VXS
variable {p : Program} {l : Launch} {e : Env} {R : Room} {s : State} {m : MethodId} {args : Array Value} {below : List Frame} {meth : Method} {c : Code} {T : State} {H : Heap} {locs : List Loc} {cells slots : Nat}
abbrev vx_CSW (R : Room) (s : State) (args : Array Value) (own : String) (index : Nat) (y : MethodName) (bytes : ByteArray) (maxL : Nat) (ret : Option FieldType) (hh : List (Nat × Nat × Nat × Nat)) (ws : List Cond) (rm : Room) (mc ms n : Nat) : Prop :=
  (rm.cells = mc ∧ rm.slots = ms ∧ rm.frames + 1 ≤ R.frames ∧ 8 + (maxL + 11) + rm.locals ≤ R.locals ∧ (∀ w ∈ ws, ∀ (a' : Array Value) (U : State), s.WarmedH U.vm → w.before a' U = true) ∧ Cond.codeWith y bytes maxL ret hh ∈ ws) ∧
  (Cond.codeWith y bytes maxL ret hh).before args s = true ∧ (Cond.initialized y.cls).before args s = true ∧ (y.cls ≠ "java/lang/invoke/MethodHandle" ∧ y.cls ≠ "java/lang/invoke/VarHandle") ∧
  (∀ sig, parseMethodDescriptor y.desc = some sig → n = sig.parameters.length) ∧ (Cond.methodLink own index y).before args s = true ∧ (Cond.static y).before args s = true
theorem vx_cwSW {own : String} {index maxL mc ms : Nat} {y : MethodName} {bytes : ByteArray} {ret : Option FieldType} {hh : List (Nat × Nat × Nat × Nat)} {Ts ws ws' : List Cond} {rm : Room} (n : Nat) (ht : ∀ w ∈ Ts, w.before args s = true) (hT : GoodIn Ts (va_wsS own index y ws)) (hw : ws = Cond.codeWith y bytes maxL ret hh :: ws') (hrc : rm.cells = mc) (hrs : rm.slots = ms)
    (hd : y.cls ≠ "java/lang/invoke/MethodHandle" ∧ y.cls ≠ "java/lang/invoke/VarHandle" ∧ (parseMethodDescriptor y.desc).map (fun d => d.parameters.length) = some n) (hR : rm.frames + 1 ≤ R.frames ∧ 8 + (maxL + 11) + rm.locals ≤ R.locals) :
    vx_CSW R s args own index y bytes maxL ret hh ws rm mc ms n := by
  have ok : ∀ w ∈ va_wsS own index y ws, w.before args s = true := fun w h => ht w (hT w h).1
  have hG : GoodIn Ts ws := fun w h => hT w (by unfold va_wsS; exact List.mem_append_right _ h)
  have hc : Cond.codeWith y bytes maxL ret hh ∈ ws := by rw [hw]; exact List.mem_cons_self
  refine ⟨⟨hrc, hrs, hR.1, hR.2, pay_in ht hG, hc⟩, ht _ (hG _ hc).1, ok _ (by simp [va_wsS]), ⟨hd.1, hd.2.1⟩, fun sig h => ?_, ok _ (by simp [va_wsS]), ok _ (by simp [va_wsS])⟩
  have h2 := hd.2.2
  rw [h] at h2
  exact (Option.some.inj h2).symm
theorem vx_callSW (X : Stand p l e R s m args below meth c T locs cells slots) (hexec : p.tables.exec = Jvm.exec) {own : String} {index : Nat} {y : MethodName} {bytes : ByteArray} {maxL : Nat} {ret : Option FieldType} {hh : List (Nat × Nat × Nat × Nat)}
    (hown : s.vm.findClass own = some m.cls) (hlink : (Cond.methodLink own index y).before args s = true) (hstat : (Cond.static y).before args s = true) (hinit : (Cond.initialized y.cls).before args s = true)
    (hcode : (Cond.codeWith y bytes maxL ret hh).before args s = true) (hy : y.cls ≠ "java/lang/invoke/MethodHandle" ∧ y.cls ≠ "java/lang/invoke/VarHandle")
    {W9 : Nat} {Pre : Pt → Array Value → Prop} {Post : Pt → Array Value → Option Value → Pt → Prop} (hK : Back l R p e below s args y 3 W9 Pre Post)
    {g : JFrame} (hg : g.method = m) (hsize : g.locals.size = c.maxLocals) {argsL rest : List Value} (hlen : ∀ sig, parseMethodDescriptor y.desc = some sig → argsL.length = sig.parameters.length)
    (hstack : g.stack = argsL.reverse ++ rest) (hW : 2 * g.monitorRoom + (rest.map fun v => v.category).sum ≤ W9) (hdg : decode c.code g.pc = .ok (.invokestatic index, 3))
    (hpre : ∀ vm₁, s.WarmedH vm₁ → Pre ⟨T.setVm vm₁, locs, cells, slots⟩ argsL.toArray) :
    ∃ (v : Option Value) (vm₁ : Vm) (B : Pt), s.WarmedH vm₁ ∧ Stand p l e R s m args below meth c B.U B.locs B.cells B.slots ∧ Post ⟨T.setVm vm₁, locs, cells, slots⟩ argsL.toArray v B ∧
      ∀ target, Steps p.tables e below (B.U.setTop { g with pc := g.pc + 3, stack := v.toList ++ rest }) target → Steps p.tables e below (T.setTop g) target := by
  obtain ⟨mk, methM, cM, hnamed, hmethM, -, -, -, -, -, -, hsigM⟩ := Cond.codeWith_spec hcode
  have hstatic : methM.isStatic = true := Cond.static_spec hnamed hmethM hstat
  obtain ⟨kP, hkP, -⟩ := className_of_methodNamed hnamed
  have hinitP : kP.init = .initialized := Cond.initialized_spec (findClass_of_methodNamed hnamed) hkP hinit
  obtain ⟨vm₁, X₁, hstep₁⟩ := X.invokestatic hexec hown hlink hnamed hmethM hstatic hkP hinitP hy (g := g) hg (argsL := argsL) (rest := rest) (hlen _ hsigM) hstack hdg
  obtain ⟨v, B, X', hpost, hsteps⟩ := hK m meth c ⟨T.setVm vm₁, locs, cells, slots⟩ { g with stack := rest } (.invokestatic index) mk argsL.toArray X₁ hg hsize hdg hW (X₁.named hnamed) (hpre vm₁ X₁.warmed)
  exact ⟨v, vm₁, B, X₁.warmed, X', hpost, fun target h => hstep₁ _ fun acts => by rw [doInvoke_state]; exact hsteps.trans h⟩
theorem vx_runSW {y : MethodName} {bytes cc : ByteArray} {maxL nL mc ms n index : Nat} {ret : Option FieldType} {hh : List (Nat × Nat × Nat × Nat)} {ws : List Cond} {rm : Room} {Pc : Array Value → State → Prop} {Qc : Array Value → State → Outcome → State → Prop} {free : Addr → Prop} {Ts : List Cond} {own : String} {As rest : List Value} {g : JFrame}
    (S : CallFix p m c cc nL s args Ts own) (hM : Met l y ws rm Pc Qc mc ms free) (cw : vx_CSW R s args own index y bytes maxL ret hh ws rm mc ms n) (hp : PreS s H Pc As)
    (hg : g.method = m) (hn : As.length = n) (hsize : g.locals.size = nL) (hstack : g.stack = As.reverse ++ rest) (hW : 2 * g.monitorRoom + (rest.map fun v => v.category).sum ≤ 8) (hdg : decode cc g.pc = .ok (.invokestatic index, 3)) (hf : cells + mc ≤ R.cells ∧ slots + ms ≤ R.slots) :
    va_Run p l e R s m args below meth c H locs cells slots mc ms g rest (Qc As.toArray) (free) := by
  obtain ⟨⟨hrc, hrs, hfr, hlo, hws, hcw⟩, hcode, hini, hy, hlen, hl, hstt⟩ := cw
  have hK : Back l R p e below s args y 3 8 (PreOf R mc ms Pc) (PostOf Qc mc ms free) := va_backW (hh := hh) (bytes := bytes) (maxL := maxL) (ret := ret) hM hp.1 hrc hrs hfr hlo hws hcw (fun a' U hW => word_at hW (Or.inl (by first | rfl | simp [Cond.onTables, Cond.keeps, Cond.steady])) hini)
  obtain ⟨hx, hb, hml, ho, -⟩ := S
  intro T hT X
  obtain ⟨v, vm₁, ⟨U', l2, c2, s2⟩, hW₁, X', ⟨g', mk, t, L, e1, e2, hq, h1, hL, h2, h3⟩, st⟩ := vx_callSW X hx (hh := hh) (bytes := bytes) (maxL := maxL) (ret := ret) ho hl hstt hini hcode hy hK hg (hsize.trans hml.symm) (argsL := As) (rest := rest) (fun sig h => hn.trans (hlen sig h)) hstack hW (by rw [hb]; exact hdg)
    (fun vm₁ hW₁ => ⟨hf.1, hf.2, hp.2 (T.setVm vm₁) hT hW₁⟩)
  dsimp only [Pt.U, Pt.locs, Pt.cells, Pt.slots] at X' e1 e2 h1 h2 h3 st
  subst h1; subst h2; subst h3
  exact ⟨v, (T.setVm vm₁).calling g' mk As.toArray, t, U', L, hT, X', hL, e1, e2, hq, st⟩
/-- not caught here, past rows that name other classes: it goes on to the caller -/
theorem vx_outP {p : Program} {l : Launch} {e : Env} {R : Room} {s : State} {m : MethodId} {args : Array Value} {below : List Frame} {meth : Method} {c : Code} {H : Heap} {locs : List Loc} {cells slots : Nat} {free : Addr → Prop} {ls : Array Slot} {rest : List Value} {Qc : Array Value → State → Outcome → State → Prop} {XC : String → State → State → Prop}
    {pc : Nat} {own E : String} {ce : Cell} {q : Addr} {mc ms : Nat} (hown : s.vm.findClass own = some m.cls) (hlocks : meth.locks = false)
    (hpass : ∀ z ∈ c.exceptionTable.toList, covers z pc = false ∨ (z.catchType ≠ 0 ∧ ∃ nm : String, (Cond.classLink own z.catchType nm).before args s = true ∧ va_Nc E nm s)) (hcell : H[q]? = some ce) (hv : ce.vm = .none) (hcl : s.vm.findClass E = some ce.cls)
    (hx : ∀ t : State, t.heap = H → s.vm.Alike t.vm → XC E s t) (hf : ∀ z ∈ locs, free z.base) (hc : cells ≤ mc) (hs : slots ≤ ms) :
    vx_W p l e R s m args below meth c H locs cells slots (vx_MQ below Qc XC args s mc ms free) (F0 m pc ls rest) q := by
  intro T hT X
  have hpl : e.platform.magicAccessors = ({} : Platform).magicAccessors := by rw [X.admits.platform]
  obtain ⟨vm', hW', X', st⟩ := X.outThrough hlocks q (g := F0 m pc ls rest) rfl rfl rfl (cell := ce) (by rw [hT]; exact hcell) (by rw [hv]; rfl)
    (by obtain ⟨k9, h9, -⟩ := Vm.findClass_spec hcl; exact ⟨k9, h9⟩) (fun z hz => by
      rcases hpass z hz with h | ⟨hz0, nm, hl1, hn1⟩
      · exact Or.inl h
      · obtain ⟨c6, hc6, hcl6⟩ := Cond.classLink_spec hown hl1 e.platform hpl
        obtain ⟨a8, b8, h1, h2, h3⟩ := hn1
        cases Option.some.inj (h1.symm.trans hcl)
        cases Option.some.inj (h2.symm.trans hc6)
        exact Or.inr ⟨hz0, _, hcl6, h3⟩)
  obtain ⟨g₀, hfr⟩ := X'.frames_eq
  have hcell9 : ((T.setVm vm').setFrames (.throwing q :: below)).heap[q]? = some ce := by
    show T.heap[q]? = some ce
    rw [hT]; exact hcell
  have hend : Ended ((T.setVm vm').setFrames (.throwing q :: below)) below (.threw q) := State.frames_setFrames _ (State.cur_lt_of_frames hfr)
  refine ⟨(T.setVm vm').setFrames (.throwing q :: below), ?_, .threw q, X'.here.running, hend, Or.inr ⟨q, rfl, E, ce, locs, hx _ hT (X'.ends _).1.alike, hcell9, hv, hcl, (X'.ends _).1, (X'.ends _).2.mono hc hs, hf⟩⟩
  rw [X.pushThrowing_eq]
  exact st
/-- a thing of a world lies in the heap -/
theorem vx_lt {D : va_G} {cl : List vw_C} {ws : va_W} {H1 : Heap} (h : va_P D cl ws H1) {k : Nat} {q : Nat × va_E} (hk : ws[k]? = some q) : q.1 < H1.size := (h k q hk).lt
end VXS
/-! ===== END ===== -/
/-! ===== BEGIN methods with a table of their own: called by a name, returning or throwing ===== -/
section VXH
/-! vx_backW, vx_callVX, vx_callSX, vx_callVW, vx_runVW, vx_runVX, vx_runSX, vx_ofWH follow the same proofs as their sisters above (Free/Laws.lean, Shelf42/LK1.lean); vx_outP calls Shelf42/NT130.lean (outThrough). -/
section
variable {l : Launch} {R : Room} {p : Program} {e : Env} {below : List Frame} {s : State} {sargs : Array Value} {y : MethodName} {len W9 : Nat}
theorem vx_backW {ws : List Cond} {rm : Room} {Pc : Array Value → State → Prop} {Qc : Array Value → State → Outcome → State → Prop} {XC : String → State → State → Prop} {mc ms : Nat} {free : Addr → Prop} {bytes : ByteArray} {maxL : Nat} {ret : Option FieldType} {hh : List (Nat × Nat × Nat × Nat)}
    (hM : vx_Met l y ws rm Pc Qc XC mc ms free) (hblind : FrameBlind Pc) (hrc : rm.cells = mc) (hrs : rm.slots = ms)
    (hframes : rm.frames + 1 ≤ R.frames) (hlocals : W9 + (maxL + 11) + rm.locals ≤ R.locals)
    (hws : ∀ w ∈ ws, ∀ a' U, s.WarmedH U.vm → w.before a' U = true) (hcode : Cond.codeWith y bytes maxL ret hh ∈ ws) (hinit : ∀ a' U, s.WarmedH U.vm → (Cond.initialized y.cls).before a' U = true) :
    vx_Back l R p e below s sargs y len W9 (PreOf R mc ms Pc) (PostOf Qc mc ms free) (vx_Post XC mc ms free) := by
  intro m meth c A g ig mk a X hg hsize hdg hW hn hp
  have h1 : (headSpec ws rm).pre.before a A.U = true := atoms_intro fun w hw => hws w hw _ _ X.warmed
  have h2 : (Cond.codeWith y bytes maxL ret hh).before a A.U = true := hws _ hcode _ _ X.warmed
  have h3 : (Cond.initialized y.cls).before a A.U = true := hinit _ _ X.warmed
  have h4 : A.cells + (headSpec ws rm).room.cells ≤ R.cells := by rw [show (headSpec ws rm).room.cells = mc from hrc]; exact hp.1
  have h5 : A.slots + (headSpec ws rm).room.slots ≤ R.slots := by rw [show (headSpec ws rm).room.slots = ms from hrs]; exact hp.2.1
  have hPc : Pc a (A.U.calling g mk a) := hblind _ _ _ _ hp.2.2
  obtain ⟨U, Ls, c0, s0⟩ := A
  dsimp only [Pt.U, Pt.locs, Pt.cells, Pt.slots] at h1 h2 h3 h4 h5 X hn hPc ⊢
  obtain ⟨m9, methY, cY, hn9, hmY, hcY, -, hlY, -⟩ := Cond.codeWith_spec h2
  cases Option.some.inj (hn9.symm.trans hn)
  obtain ⟨kY, hkY, -⟩ := className_of_methodNamed hn
  have hinitY : kY.init = .initialized := Cond.initialized_spec (findClass_of_methodNamed hn) hkY h3
  have h : At U g.method c below := by rw [hg]; exact X.here
  have hlocals9 : W9 + (maxL + 11) + (headSpec ws rm).room.locals ≤ R.locals := hlocals
  have happ : (headSpec ws rm).appliesLoose y e.platform (U.calling g mk a) = true :=
    Spec.appliesLoose_calling (g := g) h hdg hn hkY hinitY
      (X.room_calling (g := g) (R' := (headSpec ws rm).room) hsize hmY hcY hframes (by rw [hlY]; omega) h4 h5) h1
  obtain ⟨mid, hmid⟩ := h.above
  have hfr : (U.setTop g).frames = (.java g :: mid) ++ below := by rw [State.frames_setTop' g h.top, hmid]; rfl
  obtain ⟨o, s₂, hsteps, -, hend, hq⟩ := Steps.callFree hM p X.admits X.cas X.clock (acts := []) hfr happ hPc trivial
  have hq' : vx_Q Qc XC mc ms free a (U.calling g mk a) o s₂ := hq
  rw [State.frames_setTop' g h.top] at hend
  obtain ⟨g₀, hg0⟩ := Option.isSome_iff_exists.mp h.top
  obtain ⟨r, hr⟩ := State.topJava?_eq_some.mp hg0
  have hr' : (({ U with heap := s₂.heap, slotsUsed := s₂.slotsUsed } : State).setVm s₂.vm).frames = .java g₀ :: r := hr
  rcases hq' with ⟨hqc, L, hfe, hL⟩ | ⟨q, rfl, E, ce, L, hx, hce, hcv, hcl, hW₂, hsm, hL⟩
  · obtain ⟨⟨v, rfl⟩, hW₂, e2, q2, q3, q4, q5, q6⟩ := id hfe
    have e3 : s₂ = ({ (U.calling g mk a).setFrames s₂.frames with heap := s₂.heap, slotsUsed := s₂.slotsUsed } : State).setVm s₂.vm := by
      have : s₂ = ({ s₂ with vm := (U.calling g mk a).vm } : State).setVm s₂.vm := rfl
      rw [e2] at this
      exact this
    obtain ⟨c₂, i₂, len₂, hc₂, hd₂, hf₂⟩ := hend
    have hW' : U.WarmedH s₂.vm := hW₂
    have hcc : c₂ = c := by
      have h1 : s₂.code? g.method = U.code? g.method := by
        rw [State.code?_eq, State.code?_eq, hW'.alike.method?]
      exact Option.some.inj (hc₂.symm.trans (h1.trans h.code))
    subst hcc
    have hlen : len₂ = len := by rw [hdg] at hd₂; cases hd₂; rfl
    subst hlen
    have hs₂ : s₂ = (({ U with heap := s₂.heap, slotsUsed := s₂.slotsUsed } : State).setVm s₂.vm).setTop { g with pc := g.pc + len₂, stack := v.toList ++ g.stack } := by
      refine e3.trans ?_
      rw [hf₂, State.calling_eq h.top, State.setFrames_setFrames, State.setTop_of_frames _ hr', hr]
      rfl
    have hsame : U.sameButNew ({ U with heap := s₂.heap, slotsUsed := s₂.slotsUsed } : State) L mc ms := by
      refine ⟨?_, q2, q3, q4, q5, q6⟩
      obtain ⟨t, ht, -⟩ := State.frames_cons hr
      show ({ U with heap := s₂.heap, slotsUsed := s₂.slotsUsed } : State) = { U.setFrames U.frames with heap := s₂.heap, slotsUsed := s₂.slotsUsed }
      rw [State.setFrames_self ht]
    subst hg
    refine Or.inl ⟨v, ⟨(({ U with heap := s₂.heap, slotsUsed := s₂.slotsUsed } : State).setVm s₂.vm), Ls ++ L, c0 + mc, s0 + ms⟩,
      ⟨X.admits, X.cas, X.clock, X.frames, X.room, X.hears, X.method, X.code, (X.here.setHeapUsed s₂.heap s₂.slotsUsed).setVm hW'.alike, X.tail, State.WarmedH.trans X.warmed hW', X.limits, X.bytes, X.same.trans (hsame.setVm s.vm)⟩,
      ⟨g, mk, s₂, L, rfl, rfl, hqc, rfl, hL, rfl, rfl⟩, ?_⟩
    show Steps p.tables e below _ ((({ U with heap := s₂.heap, slotsUsed := s₂.slotsUsed } : State).setVm s₂.vm).setTop { g with pc := g.pc + len₂, stack := v.toList ++ g.stack })
    rw [← hs₂]
    exact hsteps
  · obtain ⟨e2, q2, q3, q4, q5, q6⟩ := id hsm
    have e3 : s₂ = ({ (U.calling g mk a).setFrames s₂.frames with heap := s₂.heap, slotsUsed := s₂.slotsUsed } : State).setVm s₂.vm := by
      have : s₂ = ({ s₂ with vm := (U.calling g mk a).vm } : State).setVm s₂.vm := rfl
      rw [e2] at this
      exact this
    have hf₂ : s₂.frames = .throwing q :: .java g :: U.frames.tail := hend
    have hW' : U.WarmedH s₂.vm := hW₂
    have hs₂ : s₂ = ((({ U with heap := s₂.heap, slotsUsed := s₂.slotsUsed } : State).setVm s₂.vm).setTop g).pushFrame (.throwing q) := by
      refine e3.trans ?_
      rw [hf₂, State.calling_eq h.top, State.setFrames_setFrames, State.pushFrame, State.frames_setTop _ hr', State.setTop_of_frames _ hr', State.setFrames_setFrames, hr]
      rfl
    have hsame : U.sameButNew ({ U with heap := s₂.heap, slotsUsed := s₂.slotsUsed } : State) L mc ms := by
      refine ⟨?_, q2, q3, q4, q5, q6⟩
      obtain ⟨t, ht, -⟩ := State.frames_cons hr
      show ({ U with heap := s₂.heap, slotsUsed := s₂.slotsUsed } : State) = { U.setFrames U.frames with heap := s₂.heap, slotsUsed := s₂.slotsUsed }
      rw [State.setFrames_self ht]
    subst hg
    refine Or.inr ⟨q, ⟨(({ U with heap := s₂.heap, slotsUsed := s₂.slotsUsed } : State).setVm s₂.vm), Ls ++ L, c0 + mc, s0 + ms⟩,
      ⟨X.admits, X.cas, X.clock, X.frames, X.room, X.hears, X.method, X.code, (X.here.setHeapUsed s₂.heap s₂.slotsUsed).setVm hW'.alike, X.tail, State.WarmedH.trans X.warmed hW', X.limits, X.bytes, X.same.trans (hsame.setVm s.vm)⟩,
      ⟨g, mk, s₂, L, E, ce, rfl, rfl, hx, hce, hcv, hcl, rfl, hL, rfl, rfl⟩, ?_⟩
    show Steps p.tables e below _ (((({ U with heap := s₂.heap, slotsUsed := s₂.slotsUsed } : State).setVm s₂.vm).setTop g).pushFrame (.throwing q))
    rw [← hs₂]
    exact hsteps
end
variable {p : Program} {l : Launch} {e : Env} {R : Room} {s : State} {m : MethodId} {args : Array Value} {below : List Frame} {meth : Method} {c : Code} {T : State} {H : Heap} {locs : List Loc} {cells slots : Nat}
theorem vx_callVX (X : Stand p l e R s m args below meth c T locs cells slots) (hexec : p.tables.exec = Jvm.exec) {own C : String} {index : Nat} {y : MethodName} {bytes : ByteArray} {maxL : Nat} {ret : Option FieldType} {hh : List (Nat × Nat × Nat × Nat)}
    (hown : s.vm.findClass own = some m.cls) (hlink : (Cond.methodLink own index y).before args s = true) (hinst : (Cond.instanceMethod y).before args s = true) (hsel : (Cond.selects C y y).before args s = true)
    (hcode : (Cond.codeWith y bytes maxL ret hh).before args s = true) (hy : y.cls ≠ "java/lang/invoke/MethodHandle" ∧ y.cls ≠ "java/lang/invoke/VarHandle")
    {W9 : Nat} {Pre : Pt → Array Value → Prop} {Post : Pt → Array Value → Option Value → Pt → Prop} {PostX : Pt → Array Value → Addr → Pt → Prop} (hK : vx_Back l R p e below s args y 3 W9 Pre Post PostX)
    {b : Addr} {cellB : Cell} (hcell : T.heap[b]? = some cellB) (hobj : cellB.vm.isStatics = false) (hcls : s.vm.findClass C = some cellB.cls)
    {g : JFrame} (hg : g.method = m) (hsize : g.locals.size = c.maxLocals) {argsL rest : List Value} (hlen : ∀ sig, parseMethodDescriptor y.desc = some sig → argsL.length = sig.parameters.length)
    (hstack : g.stack = argsL.reverse ++ .ref b :: rest) (hW : 2 * g.monitorRoom + (rest.map fun v => v.category).sum ≤ W9) (hdg : decode c.code g.pc = .ok (.invokevirtual index, 3))
    (hpre : ∀ vm₁, s.WarmedH vm₁ → Pre ⟨T.setVm vm₁, locs, cells, slots⟩ (Value.ref b :: argsL).toArray) :
    (∃ (v : Option Value) (vm₁ : Vm) (B : Pt), s.WarmedH vm₁ ∧ Stand p l e R s m args below meth c B.U B.locs B.cells B.slots ∧ Post ⟨T.setVm vm₁, locs, cells, slots⟩ (Value.ref b :: argsL).toArray v B ∧
      ∀ target, Steps p.tables e below (B.U.setTop { g with pc := g.pc + 3, stack := v.toList ++ rest }) target → Steps p.tables e below (T.setTop g) target) ∨
    (∃ (q : Addr) (vm₁ : Vm) (B : Pt), s.WarmedH vm₁ ∧ Stand p l e R s m args below meth c B.U B.locs B.cells B.slots ∧ PostX ⟨T.setVm vm₁, locs, cells, slots⟩ (Value.ref b :: argsL).toArray q B ∧
      Steps p.tables e below (T.setTop g) ((B.U.setTop { g with stack := rest }).pushFrame (.throwing q))) := by
  obtain ⟨mk, methM, hnamed, hmethM, hstM, habM⟩ := Cond.instanceMethod_spec hinst
  obtain ⟨m8, methM', cM, hn8, hmethM', -, -, -, -, -, -, hsigM⟩ := Cond.codeWith_spec hcode
  cases Option.some.inj (hn8.symm.trans hnamed)
  cases hmethM.symm.trans hmethM'
  obtain ⟨c2, r2, m2, q1, q2, q3, q4, kP, hkP, hkPi⟩ := Cond.selects_spec hsel
  cases hcls.symm.trans q1
  cases (State.methodFound?_of_named hnamed hy).symm.trans q2
  cases hnamed.symm.trans q3
  have hselP : selectMethod e.platform s.vm cellB.cls mk = .method mk := by rw [Launch.admits_selectMethod X.admits]; exact q4
  obtain ⟨vm₁, X₁, hstep₁⟩ := X.invokevirtual hexec hown hlink hnamed hmethM hstM hkP hkPi hy (a := b) (cell := cellB) hcell
    (fun z h => by rw [h] at hobj; cases hobj) hselP hmethM habM hkP hkPi (g := g) hg (argsL := argsL) (rest := rest) (hlen _ hsigM) hstack hdg
  rcases hK m meth c ⟨T.setVm vm₁, locs, cells, slots⟩ { g with stack := rest } (.invokevirtual index) mk (Value.ref b :: argsL).toArray X₁ hg hsize hdg hW (X₁.named hnamed) (hpre vm₁ X₁.warmed) with ⟨v, B, X', hpost, hsteps⟩ | ⟨q, B, X', hpost, hsteps⟩
  · exact Or.inl ⟨v, vm₁, B, X₁.warmed, X', hpost, fun target h => hstep₁ _ fun acts => by rw [doInvoke_state]; exact hsteps.trans h⟩
  · exact Or.inr ⟨q, vm₁, B, X₁.warmed, X', hpost, hstep₁ _ fun acts => by rw [doInvoke_state]; exact hsteps⟩
theorem vx_callSX (X : Stand p l e R s m args below meth c T locs cells slots) (hexec : p.tables.exec = Jvm.exec) {own : String} {index : Nat} {y : MethodName} {bytes : ByteArray} {maxL : Nat} {ret : Option FieldType} {hh : List (Nat × Nat × Nat × Nat)}
    (hown : s.vm.findClass own = some m.cls) (hlink : (Cond.methodLink own index y).before args s = true) (hstat : (Cond.static y).before args s = true) (hinit : (Cond.initialized y.cls).before args s = true)
    (hcode : (Cond.codeWith y bytes maxL ret hh).before args s = true) (hy : y.cls ≠ "java/lang/invoke/MethodHandle" ∧ y.cls ≠ "java/lang/invoke/VarHandle")
    {W9 : Nat} {Pre : Pt → Array Value → Prop} {Post : Pt → Array Value → Option Value → Pt → Prop} {PostX : Pt → Array Value → Addr → Pt → Prop} (hK : vx_Back l R p e below s args y 3 W9 Pre Post PostX)
    {g : JFrame} (hg : g.method = m) (hsize : g.locals.size = c.maxLocals) {argsL rest : List Value} (hlen : ∀ sig, parseMethodDescriptor y.desc = some sig → argsL.length = sig.parameters.length)
    (hstack : g.stack = argsL.reverse ++ rest) (hW : 2 * g.monitorRoom + (rest.map fun v => v.category).sum ≤ W9) (hdg : decode c.code g.pc = .ok (.invokestatic index, 3))
    (hpre : ∀ vm₁, s.WarmedH vm₁ → Pre ⟨T.setVm vm₁, locs, cells, slots⟩ argsL.toArray) :
    (∃ (v : Option Value) (vm₁ : Vm) (B : Pt), s.WarmedH vm₁ ∧ Stand p l e R s m args below meth c B.U B.locs B.cells B.slots ∧ Post ⟨T.setVm vm₁, locs, cells, slots⟩ argsL.toArray v B ∧
      ∀ target, Steps p.tables e below (B.U.setTop { g with pc := g.pc + 3, stack := v.toList ++ rest }) target → Steps p.tables e below (T.setTop g) target) ∨
    (∃ (q : Addr) (vm₁ : Vm) (B : Pt), s.WarmedH vm₁ ∧ Stand p l e R s m args below meth c B.U B.locs B.cells B.slots ∧ PostX ⟨T.setVm vm₁, locs, cells, slots⟩ argsL.toArray q B ∧
      Steps p.tables e below (T.setTop g) ((B.U.setTop { g with stack := rest }).pushFrame (.throwing q))) := by
  obtain ⟨mk, methM, cM, hnamed, hmethM, -, -, -, -, -, -, hsigM⟩ := Cond.codeWith_spec hcode
  have hstatic : methM.isStatic = true := Cond.static_spec hnamed hmethM hstat
  obtain ⟨kP, hkP, -⟩ := className_of_methodNamed hnamed
  have hinitP : kP.init = .initialized := Cond.initialized_spec (findClass_of_methodNamed hnamed) hkP hinit
  obtain ⟨vm₁, X₁, hstep₁⟩ := X.invokestatic hexec hown hlink hnamed hmethM hstatic hkP hinitP hy (g := g) hg (argsL := argsL) (rest := rest) (hlen _ hsigM) hstack hdg
  rcases hK m meth c ⟨T.setVm vm₁, locs, cells, slots⟩ { g with stack := rest } (.invokestatic index) mk argsL.toArray X₁ hg hsize hdg hW (X₁.named hnamed) (hpre vm₁ X₁.warmed) with ⟨v, B, X', hpost, hsteps⟩ | ⟨q, B, X', hpost, hsteps⟩
  · exact Or.inl ⟨v, vm₁, B, X₁.warmed, X', hpost, fun target h => hstep₁ _ fun acts => by rw [doInvoke_state]; exact hsteps.trans h⟩
  · exact Or.inr ⟨q, vm₁, B, X₁.warmed, X', hpost, hstep₁ _ fun acts => by rw [doInvoke_state]; exact hsteps⟩
theorem vx_callVW (X : Stand p l e R s m args below meth c T locs cells slots) (hexec : p.tables.exec = Jvm.exec) {own C : String} {index : Nat} {y : MethodName} {bytes : ByteArray} {maxL : Nat} {ret : Option FieldType} {hh : List (Nat × Nat × Nat × Nat)}
    (hown : s.vm.findClass own = some m.cls) (hlink : (Cond.methodLink own index y).before args s = true) (hinst : (Cond.instanceMethod y).before args s = true) (hsel : (Cond.selects C y y).before args s = true)
    (hcode : (Cond.codeWith y bytes maxL ret hh).before args s = true) (hy : y.cls ≠ "java/lang/invoke/MethodHandle" ∧ y.cls ≠ "java/lang/invoke/VarHandle")
    {W9 : Nat} {Pre : Pt → Array Value → Prop} {Post : Pt → Array Value → Option Value → Pt → Prop} (hK : Back l R p e below s args y 3 W9 Pre Post)
    {b : Addr} {cellB : Cell} (hcell : T.heap[b]? = some cellB) (hobj : cellB.vm.isStatics = false) (hcls : s.vm.findClass C = some cellB.cls)
    {g : JFrame} (hg : g.method = m) (hsize : g.locals.size = c.maxLocals) {argsL rest : List Value} (hlen : ∀ sig, parseMethodDescriptor y.desc = some sig → argsL.length = sig.parameters.length)
    (hstack : g.stack = argsL.reverse ++ .ref b :: rest) (hW : 2 * g.monitorRoom + (rest.map fun v => v.category).sum ≤ W9) (hdg : decode c.code g.pc = .ok (.invokevirtual index, 3))
    (hpre : ∀ vm₁, s.WarmedH vm₁ → Pre ⟨T.setVm vm₁, locs, cells, slots⟩ (Value.ref b :: argsL).toArray) :
    ∃ (v : Option Value) (vm₁ : Vm) (B : Pt), s.WarmedH vm₁ ∧ Stand p l e R s m args below meth c B.U B.locs B.cells B.slots ∧ Post ⟨T.setVm vm₁, locs, cells, slots⟩ (Value.ref b :: argsL).toArray v B ∧
      ∀ target, Steps p.tables e below (B.U.setTop { g with pc := g.pc + 3, stack := v.toList ++ rest }) target → Steps p.tables e below (T.setTop g) target := by
  obtain ⟨mk, methM, hnamed, hmethM, hstM, habM⟩ := Cond.instanceMethod_spec hinst
  obtain ⟨m8, methM', cM, hn8, hmethM', -, -, -, -, -, -, hsigM⟩ := Cond.codeWith_spec hcode
  cases Option.some.inj (hn8.symm.trans hnamed)
  cases hmethM.symm.trans hmethM'
  obtain ⟨c2, r2, m2, q1, q2, q3, q4, kP, hkP, hkPi⟩ := Cond.selects_spec hsel
  cases hcls.symm.trans q1
  cases (State.methodFound?_of_named hnamed hy).symm.trans q2
  cases hnamed.symm.trans q3
  have hselP : selectMethod e.platform s.vm cellB.cls mk = .method mk := by rw [Launch.admits_selectMethod X.admits]; exact q4
  obtain ⟨vm₁, X₁, hstep₁⟩ := X.invokevirtual hexec hown hlink hnamed hmethM hstM hkP hkPi hy (a := b) (cell := cellB) hcell
    (fun z h => by rw [h] at hobj; cases hobj) hselP hmethM habM hkP hkPi (g := g) hg (argsL := argsL) (rest := rest) (hlen _ hsigM) hstack hdg
  obtain ⟨v, B, X', hpost, hsteps⟩ := hK m meth c ⟨T.setVm vm₁, locs, cells, slots⟩ { g with stack := rest } (.invokevirtual index) mk (Value.ref b :: argsL).toArray X₁ hg hsize hdg hW (X₁.named hnamed) (hpre vm₁ X₁.warmed)
  exact ⟨v, vm₁, B, X₁.warmed, X', hpost, fun target h => hstep₁ _ fun acts => by rw [doInvoke_state]; exact hsteps.trans h⟩
abbrev vx_CVW (R : Room) (s : State) (args : Array Value) (own C : String) (index : Nat) (y : MethodName) (bytes : ByteArray) (maxL : Nat) (ret : Option FieldType) (hh : List (Nat × Nat × Nat × Nat)) (ws : List Cond) (rm : Room) (mc ms n : Nat) : Prop :=
  (rm.cells = mc ∧ rm.slots = ms ∧ rm.frames + 1 ≤ R.frames ∧ 8 + (maxL + 11) + rm.locals ≤ R.locals ∧ (∀ w ∈ ws, ∀ (a' : Array Value) (U : State), s.WarmedH U.vm → w.before a' U = true) ∧ Cond.codeWith y bytes maxL ret hh ∈ ws) ∧
  (Cond.codeWith y bytes maxL ret hh).before args s = true ∧ (Cond.initialized y.cls).before args s = true ∧ (y.cls ≠ "java/lang/invoke/MethodHandle" ∧ y.cls ≠ "java/lang/invoke/VarHandle") ∧
  (∀ sig, parseMethodDescriptor y.desc = some sig → n = sig.parameters.length) ∧ (Cond.methodLink own index y).before args s = true ∧ (Cond.instanceMethod y).before args s = true ∧ (Cond.selects C y y).before args s = true
theorem vx_cwVW {own C : String} {index maxL mc ms : Nat} {y : MethodName} {bytes : ByteArray} {ret : Option FieldType} {hh : List (Nat × Nat × Nat × Nat)} {Ts ws ws' : List Cond} {rm : Room} (n : Nat) (ht : ∀ w ∈ Ts, w.before args s = true) (hT : GoodIn Ts (wsV own index C y ws)) (hw : ws = Cond.codeWith y bytes maxL ret hh :: ws') (hrc : rm.cells = mc) (hrs : rm.slots = ms)
    (hd : y.cls = C ∧ y.cls ≠ "java/lang/invoke/MethodHandle" ∧ y.cls ≠ "java/lang/invoke/VarHandle" ∧ (parseMethodDescriptor y.desc).map (fun d => d.parameters.length) = some n) (hR : rm.frames + 1 ≤ R.frames ∧ 8 + (maxL + 11) + rm.locals ≤ R.locals) :
    vx_CVW R s args own C index y bytes maxL ret hh ws rm mc ms n := by
  obtain ⟨hC, hd⟩ := hd
  subst hC
  have ok : ∀ w ∈ wsV own index y.cls y ws, w.before args s = true := fun w h => ht w (hT w h).1
  have hG : GoodIn Ts ws := fun w h => hT w (by unfold wsV; exact List.mem_append_right _ h)
  have hc : Cond.codeWith y bytes maxL ret hh ∈ ws := by rw [hw]; exact List.mem_cons_self
  refine ⟨⟨hrc, hrs, hR.1, hR.2, pay_in ht hG, hc⟩, ht _ (hG _ hc).1, ok _ (by simp [wsV]), ⟨hd.1, hd.2.1⟩, fun sig h => ?_, ok _ (by simp [wsV]), ok _ (by simp [wsV]), ok _ (by simp [wsV])⟩
  have h2 := hd.2.2
  rw [h] at h2
  exact (Option.some.inj h2).symm
theorem vx_runVW {y : MethodName} {bytes cc : ByteArray} {maxL nL mc ms n index : Nat} {ret : Option FieldType} {hh : List (Nat × Nat × Nat × Nat)} {ws : List Cond} {rm : Room} {Pc : Array Value → State → Prop} {Qc : Array Value → State → Outcome → State → Prop} {free : Addr → Prop} {Ts : List Cond} {own C : String} {b : Addr} {As rest : List Value} {g : JFrame}
    (S : CallFix p m c cc nL s args Ts own) (hM : Met l y ws rm Pc Qc mc ms free) (cw : vx_CVW R s args own C index y bytes maxL ret hh ws rm mc ms n) (hp : PreV s H C b Pc As)
    (hg : g.method = m) (hn : As.length = n) (hsize : g.locals.size = nL) (hstack : g.stack = As.reverse ++ .ref b :: rest) (hW : 2 * g.monitorRoom + (rest.map fun v => v.category).sum ≤ 8) (hdg : decode cc g.pc = .ok (.invokevirtual index, 3)) (hf : cells + mc ≤ R.cells ∧ slots + ms ≤ R.slots) :
    va_Run p l e R s m args below meth c H locs cells slots mc ms g rest (Qc (Value.ref b :: As).toArray) free := by
  obtain ⟨⟨hrc, hrs, hfr, hlo, hws, hcw⟩, hcode, hini, hy, hlen, hl, hin, hse⟩ := cw
  have hK : Back l R p e below s args y 3 8 (PreOf R mc ms Pc) (PostOf Qc mc ms free) := va_backW (hh := hh) (bytes := bytes) (maxL := maxL) (ret := ret) hM hp.1 hrc hrs hfr hlo hws hcw (fun a' U hW => word_at hW (Or.inl (by first | rfl | simp [Cond.onTables, Cond.keeps, Cond.steady])) hini)
  obtain ⟨hx, hb, hml, ho, -⟩ := S
  obtain ⟨-, ⟨cellB, hcB, hoB, hclB⟩, hPc⟩ := hp
  intro T hT X
  obtain ⟨v, vm₁, ⟨U', l2, c2, s2⟩, hW₁, X', ⟨g', mk, t, L, e1, e2, hq, h1, hL, h2, h3⟩, st⟩ := vx_callVW X hx (C := C) (hh := hh) (bytes := bytes) (maxL := maxL) (ret := ret) ho hl hin hse hcode hy hK (by rw [hT]; exact hcB) hoB hclB hg (hsize.trans hml.symm) (argsL := As) (rest := rest) (fun sig h => hn.trans (hlen sig h)) hstack hW (by rw [hb]; exact hdg)
    (fun vm₁ hW₁ => ⟨hf.1, hf.2, hPc (T.setVm vm₁) hT hW₁⟩)
  dsimp only [Pt.U, Pt.locs, Pt.cells, Pt.slots] at X' e1 e2 h1 h2 h3 st
  subst h1; subst h2; subst h3
  exact ⟨v, (T.setVm vm₁).calling g' mk (Value.ref b :: As).toArray, t, U', L, hT, X', hL, e1, e2, hq, st⟩
section
variable {y : MethodName} {bytes cc : ByteArray} {maxL nL mc ms n index : Nat} {ret : Option FieldType} {ws : List Cond} {rm : Room} {Pc : Array Value → State → Prop} {Qc : Array Value → State → Outcome → State → Prop} {XC : String → State → State → Prop} {free : Addr → Prop} {Ts : List Cond} {own C : String} {b : Addr} {As rest : List Value} {g : JFrame}
theorem vx_runVX {hh : List (Nat × Nat × Nat × Nat)} (S : CallFix p m c cc nL s args Ts own) (hM : vx_Met l y ws rm Pc Qc XC mc ms free) (cw : vx_CVW R s args own C index y bytes maxL ret hh ws rm mc ms n) (hp : PreV s H C b Pc As)
    (hg : g.method = m) (hn : As.length = n) (hsize : g.locals.size = nL) (hstack : g.stack = As.reverse ++ .ref b :: rest) (hW : 2 * g.monitorRoom + (rest.map fun v => v.category).sum ≤ 8) (hdg : decode cc g.pc = .ok (.invokevirtual index, 3)) (hf : cells + mc ≤ R.cells ∧ slots + ms ≤ R.slots) :
    vx_Run p l e R s m args below meth c H locs cells slots mc ms g rest (Qc (Value.ref b :: As).toArray) XC free := by
  obtain ⟨⟨hrc, hrs, hfr, hlo, hws, hcw⟩, hcode, hini, hy, hlen, hl, hin, hse⟩ := cw
  have hK : vx_Back l R p e below s args y 3 8 (PreOf R mc ms Pc) (PostOf Qc mc ms free) (vx_Post XC mc ms free) := vx_backW (hh := hh) (bytes := bytes) (maxL := maxL) (ret := ret) hM hp.1 hrc hrs hfr hlo hws hcw (fun a' U hW => word_at hW (Or.inl (by first | rfl | simp [Cond.onTables, Cond.keeps, Cond.steady])) hini)
  obtain ⟨hx, hb, hml, ho, -⟩ := S
  obtain ⟨-, ⟨cellB, hcB, hoB, hclB⟩, hPc⟩ := hp
  intro T hT X
  rcases vx_callVX X hx (C := C) (hh := hh) (bytes := bytes) (maxL := maxL) (ret := ret) ho hl hin hse hcode hy hK (by rw [hT]; exact hcB) hoB hclB hg (hsize.trans hml.symm) (argsL := As) (rest := rest) (fun sig h => hn.trans (hlen sig h)) hstack hW (by rw [hb]; exact hdg)
    (fun vm₁ hW₁ => ⟨hf.1, hf.2, hPc (T.setVm vm₁) hT hW₁⟩) with ⟨v, vm₁, ⟨U', l2, c2, s2⟩, hW₁, X', ⟨g', mk, t, L, e1, e2, hq, h1, hL, h2, h3⟩, st⟩ | ⟨q, vm₁, ⟨U', l2, c2, s2⟩, hW₁, X', ⟨g', mk, t, L, E, ce, e1, e2, hq, hce, hcv, hcl, h1, hL, h2, h3⟩, st⟩
  · dsimp only [Pt.U, Pt.locs, Pt.cells, Pt.slots] at X' e1 e2 h1 h2 h3 st
    subst h1; subst h2; subst h3
    exact Or.inl ⟨v, (T.setVm vm₁).calling g' mk (Value.ref b :: As).toArray, t, U', L, hT, X', hL, e1, e2, hq, st⟩
  · dsimp only [Pt.U, Pt.locs, Pt.cells, Pt.slots] at X' e1 e2 h1 h2 h3 st hcl
    subst h1; subst h2; subst h3
    exact Or.inr ⟨q, (T.setVm vm₁).calling g' mk (Value.ref b :: As).toArray, t, U', L, E, ce, hT, X', hL, e1, e2, hq, hce, hcv, vx_cls hW₁ hcl, st⟩
theorem vx_runSX {hh : List (Nat × Nat × Nat × Nat)} (S : CallFix p m c cc nL s args Ts own) (hM : vx_Met l y ws rm Pc Qc XC mc ms free) (cw : vx_CSW R s args own index y bytes maxL ret hh ws rm mc ms n) (hp : PreS s H Pc As)
    (hg : g.method = m) (hn : As.length = n) (hsize : g.locals.size = nL) (hstack : g.stack = As.reverse ++ rest) (hW : 2 * g.monitorRoom + (rest.map fun v => v.category).sum ≤ 8) (hdg : decode cc g.pc = .ok (.invokestatic index, 3)) (hf : cells + mc ≤ R.cells ∧ slots + ms ≤ R.slots) :
    vx_Run p l e R s m args below meth c H locs cells slots mc ms g rest (Qc As.toArray) XC free := by
  obtain ⟨⟨hrc, hrs, hfr, hlo, hws, hcw⟩, hcode, hini, hy, hlen, hl, hstt⟩ := cw
  have hK : vx_Back l R p e below s args y 3 8 (PreOf R mc ms Pc) (PostOf Qc mc ms free) (vx_Post XC mc ms free) := vx_backW (hh := hh) (bytes := bytes) (maxL := maxL) (ret := ret) hM hp.1 hrc hrs hfr hlo hws hcw (fun a' U hW => word_at hW (Or.inl (by first | rfl | simp [Cond.onTables, Cond.keeps, Cond.steady])) hini)
  obtain ⟨hx, hb, hml, ho, -⟩ := S
  intro T hT X
  rcases vx_callSX X hx (hh := hh) (bytes := bytes) (maxL := maxL) (ret := ret) ho hl hstt hini hcode hy hK hg (hsize.trans hml.symm) (argsL := As) (rest := rest) (fun sig h => hn.trans (hlen sig h)) hstack hW (by rw [hb]; exact hdg)
    (fun vm₁ hW₁ => ⟨hf.1, hf.2, hp.2 (T.setVm vm₁) hT hW₁⟩) with ⟨v, vm₁, ⟨U', l2, c2, s2⟩, hW₁, X', ⟨g', mk, t, L, e1, e2, hq, h1, hL, h2, h3⟩, st⟩ | ⟨q, vm₁, ⟨U', l2, c2, s2⟩, hW₁, X', ⟨g', mk, t, L, E, ce, e1, e2, hq, hce, hcv, hcl, h1, hL, h2, h3⟩, st⟩
  · dsimp only [Pt.U, Pt.locs, Pt.cells, Pt.slots] at X' e1 e2 h1 h2 h3 st
    subst h1; subst h2; subst h3
    exact Or.inl ⟨v, (T.setVm vm₁).calling g' mk As.toArray, t, U', L, hT, X', hL, e1, e2, hq, st⟩
  · dsimp only [Pt.U, Pt.locs, Pt.cells, Pt.slots] at X' e1 e2 h1 h2 h3 st hcl
    subst h1; subst h2; subst h3
    exact Or.inr ⟨q, (T.setVm vm₁).calling g' mk As.toArray, t, U', L, E, ce, hT, X', hL, e1, e2, hq, hce, hcv, vx_cls hW₁ hcl, st⟩
end
end VXH
theorem vx_ofWH {l : Launch} {y : MethodName} {ws ws' : List Cond} {rm : Room} {Pc : Array Value → State → Prop} {Qc : Array Value → State → Outcome → State → Prop} {XC : String → State → State → Prop} {mc ms : Nat} {free : Addr → Prop} {cc : ByteArray} {maxL : Nat} {ret : Option FieldType} {hh : List (Nat × Nat × Nat × Nat)}
    (hy : plainName y.cls = true) (hw : ws = Cond.codeWith y cc maxL ret hh :: ws')
    (body : ∀ p e s m args below meth c s₁, BodyLoose p l y (headSpec ws rm) cc maxL ret e s m args below meth c s₁ → c.maxLocals = maxL → Pc args s →
      W p l e (headSpec ws rm).room s m args below meth c s.heap [] 0 0 (vx_MQ below Qc XC args s mc ms free) (entryFrame m args maxL)) : vx_Met l y ws rm Pc Qc XC mc ms free := by
  refine MetFree.of_bodyS (code := cc) (maxLocals := maxL) (ret := ret) hy ?_ ?_
  · intro args s m h hn
    obtain ⟨m9, meth, c, hn9, h1, h2, h3, h4, -, h5, h6, -⟩ := Cond.codeWith_spec (atoms_spec (ws := ws) h _ (by rw [hw]; exact List.mem_cons_self))
    cases hn.symm.trans hn9
    exact ⟨meth, c, h1, h2, h3, h4, h5, h6⟩
  · intro p e s m args below meth c s₁ B hml hP _
    have hh0 : s₁.heap = s.heap := by rw [B.state]; rfl
    obtain ⟨t, a1, o, b1, b2, b3⟩ := body p e s m args below meth c s₁ B hml hP s₁ hh0 (Stand.of_body B)
    exact ⟨t, o, a1, b1, b2, b3⟩
/-! ===== END ===== -/


def RX0 : String := "LockstepRoom$Descent"
def TX0 : u_T := fun k => match k with
  | 0 => ("LockstepRoom$Descent", "former", "LLockstepRoom$Tree;", true)
  | 1 => ("LockstepRoom$Descent", "latter", "LLockstepRoom$Tree;", true)
  | 2 => ("LockstepRoom$Descent", "wrong", "I", false)
  | _ => ("LockstepRoom$Descent", "compared", "I", false)
def tyX0 : Nat → FieldType := fun k => match k with
  | 0 => .object "LockstepRoom$Tree"
  | 1 => .object "LockstepRoom$Tree"
  | 2 => .int
  | _ => .int
abbrev wsX00 : List Cond := u_ws RX0 TX0 4
theorem nmX0 : ∀ a, a < 4 → ∀ b, b < 4 → a ≠ b → (TX0 a).2.1 ≠ (TX0 b).2.1 := by decide +kernel
theorem tyX0_ok : ∀ k, k < 4 → parseFieldDescriptor (TX0 k).2.2.1 = some (tyX0 k) := by decide +kernel
abbrev cX0_init : ByteArray := prog_2_method_1_code
def yX0_init : MethodName := ⟨RX0, "<init>", "()V"⟩
abbrev cX0_checksumOf : ByteArray := prog_2_method_2_code
def yX0_checksumOf : MethodName := ⟨RX0, "checksumOf", "([II)I"⟩
abbrev cX0_rootOf : ByteArray := prog_2_method_3_code
def yX0_rootOf : MethodName := ⟨RX0, "rootOf", "([I)I"⟩
abbrev cX0_goDown : ByteArray := prog_2_method_4_code
def yX0_goDown : MethodName := ⟨RX0, "goDown", "([I[I)V"⟩
def RX1 : String := "LockstepRoom$Faults"
def TX1 : u_T := fun k => match k with
  | 0 => ("LockstepRoom$Faults", "numbers", "[I", true)
  | _ => ("LockstepRoom$Faults", "size", "I", false)
def tyX1 : Nat → FieldType := fun k => match k with
  | 0 => .array .int
  | _ => .int
abbrev wsX10 : List Cond := u_ws RX1 TX1 2
theorem nmX1 : ∀ a, a < 2 → ∀ b, b < 2 → a ≠ b → (TX1 a).2.1 ≠ (TX1 b).2.1 := by decide +kernel
theorem tyX1_ok : ∀ k, k < 2 → parseFieldDescriptor (TX1 k).2.2.1 = some (tyX1 k) := by decide +kernel
abbrev cX1_init : ByteArray := prog_3_method_1_code
def yX1_init : MethodName := ⟨RX1, "<init>", "()V"⟩
abbrev cX1_copyFrom : ByteArray := prog_3_method_2_code
def yX1_copyFrom : MethodName := ⟨RX1, "copyFrom", "(LLockstepRoom$Faults;)V"⟩
abbrev cX1_append : ByteArray := prog_3_method_3_code
def yX1_append : MethodName := ⟨RX1, "append", "(IIII)V"⟩
abbrev cX1_isOf : ByteArray := prog_3_method_4_code
def yX1_isOf : MethodName := ⟨RX1, "isOf", "(IIII)Z"⟩
abbrev cX1_addTo : ByteArray := prog_3_method_5_code
def yX1_addTo : MethodName := ⟨RX1, "addTo", "([III)V"⟩
abbrev cX1_drop : ByteArray := prog_3_method_6_code
def yX1_drop : MethodName := ⟨RX1, "drop", "(III)V"⟩
def RX2 : String := "LockstepRoom$Loader"
def TX2 : u_T := fun k => match k with
  | 0 => ("LockstepRoom$Loader", "text", "[B", true)
  | 1 => ("LockstepRoom$Loader", "state", "LLockstepRoom$State;", false)
  | 2 => ("LockstepRoom$Loader", "script", "LLockstepRoom$Script;", false)
  | 3 => ("LockstepRoom$Loader", "length", "I", false)
  | 4 => ("LockstepRoom$Loader", "hasStart", "Z", false)
  | 5 => ("LockstepRoom$Loader", "givenSettings", "I", false)
  | 6 => ("LockstepRoom$Loader", "kind", "I", false)
  | 7 => ("LockstepRoom$Loader", "tokenAt", "I", false)
  | 8 => ("LockstepRoom$Loader", "tokenEnd", "I", false)
  | 9 => ("LockstepRoom$Loader", "value", "I", false)
  | 10 => ("LockstepRoom$Loader", "taken", "I", false)
  | 11 => ("LockstepRoom$Loader", "error", "I", false)
  | _ => ("LockstepRoom$Loader", "errorAt", "I", false)
def tyX2 : Nat → FieldType := fun k => match k with
  | 0 => .array .byte
  | 1 => .object "LockstepRoom$State"
  | 2 => .object "LockstepRoom$Script"
  | 3 => .int
  | 4 => .boolean
  | 5 => .int
  | 6 => .int
  | 7 => .int
  | 8 => .int
  | 9 => .int
  | 10 => .int
  | 11 => .int
  | _ => .int
abbrev wsX20 : List Cond := u_ws RX2 TX2 13
theorem nmX2 : ∀ a, a < 13 → ∀ b, b < 13 → a ≠ b → (TX2 a).2.1 ≠ (TX2 b).2.1 := by decide +kernel
theorem tyX2_ok : ∀ k, k < 13 → parseFieldDescriptor (TX2 k).2.2.1 = some (tyX2 k) := by decide +kernel
abbrev cX2_init : ByteArray := prog_4_method_1_code
def yX2_init : MethodName := ⟨RX2, "<init>", "()V"⟩
abbrev cX2_readText : ByteArray := prog_4_method_2_code
def yX2_readText : MethodName := ⟨RX2, "readText", "(I)I"⟩
abbrev cX2_readStatement : ByteArray := prog_4_method_3_code
def yX2_readStatement : MethodName := ⟨RX2, "readStatement", "()Z"⟩
abbrev cX2_readStart : ByteArray := prog_4_method_4_code
def yX2_readStart : MethodName := ⟨RX2, "readStart", "()Z"⟩
abbrev cX2_readMember : ByteArray := prog_4_method_5_code
def yX2_readMember : MethodName := ⟨RX2, "readMember", "()Z"⟩
abbrev cX2_readCommand : ByteArray := prog_4_method_6_code
def yX2_readCommand : MethodName := ⟨RX2, "readCommand", "()Z"⟩
abbrev cX2_readSeal : ByteArray := prog_4_method_7_code
def yX2_readSeal : MethodName := ⟨RX2, "readSeal", "()Z"⟩
abbrev cX2_readFault : ByteArray := prog_4_method_8_code
def yX2_readFault : MethodName := ⟨RX2, "readFault", "()Z"⟩
abbrev cX2_readSetting : ByteArray := prog_4_method_9_code
def yX2_readSetting : MethodName := ⟨RX2, "readSetting", "()Z"⟩
abbrev cX2_sortOfWord : ByteArray := prog_4_method_10_code
def yX2_sortOfWord : MethodName := ⟨RX2, "sortOfWord", "()I"⟩
abbrev cX2_takeMember : ByteArray := prog_4_method_11_code
def yX2_takeMember : MethodName := ⟨RX2, "takeMember", "()Z"⟩
abbrev cX2_takeInteger : ByteArray := prog_4_method_12_code
def yX2_takeInteger : MethodName := ⟨RX2, "takeInteger", "(II)Z"⟩
abbrev cX2_checkInteger : ByteArray := prog_4_method_13_code
def yX2_checkInteger : MethodName := ⟨RX2, "checkInteger", "(II)Z"⟩
abbrev cX2_takeSemicolon : ByteArray := prog_4_method_14_code
def yX2_takeSemicolon : MethodName := ⟨RX2, "takeSemicolon", "()Z"⟩
abbrev cX2_fail : ByteArray := prog_4_method_15_code
def yX2_fail : MethodName := ⟨RX2, "fail", "(I)Z"⟩
abbrev cX2_isName : ByteArray := prog_4_method_16_code
def yX2_isName : MethodName := ⟨RX2, "isName", "()Z"⟩
abbrev cX2_nameLetters : ByteArray := prog_4_method_17_code
def yX2_nameLetters : MethodName := ⟨RX2, "nameLetters", "()I"⟩
abbrev cX2_isWord : ByteArray := prog_4_method_18_code
def yX2_isWord : MethodName := ⟨RX2, "isWord", "(Ljava/lang/String;)Z"⟩
abbrev cX2_nextToken : ByteArray := prog_4_method_19_code
def yX2_nextToken : MethodName := ⟨RX2, "nextToken", "()V"⟩
abbrev cX2_isLetter : ByteArray := prog_4_method_20_code
def yX2_isLetter : MethodName := ⟨RX2, "isLetter", "(I)Z"⟩
abbrev cX2_isDigit : ByteArray := prog_4_method_21_code
def yX2_isDigit : MethodName := ⟨RX2, "isDigit", "(I)Z"⟩
def RX3 : String := "LockstepRoom$Member"
def TX3 : u_T := fun k => match k with
  | 0 => ("LockstepRoom$Member", "name", "I", false)
  | 1 => ("LockstepRoom$Member", "pace", "I", false)
  | 2 => ("LockstepRoom$Member", "began", "I", false)
  | 3 => ("LockstepRoom$Member", "executed", "I", false)
  | 4 => ("LockstepRoom$Member", "active", "Z", false)
  | 5 => ("LockstepRoom$Member", "gave", "I", false)
  | 6 => ("LockstepRoom$Member", "got", "I", false)
  | 7 => ("LockstepRoom$Member", "healings", "I", false)
  | 8 => ("LockstepRoom$Member", "cells", "[I", true)
  | _ => ("LockstepRoom$Member", "roots", "[I", true)
def tyX3 : Nat → FieldType := fun k => match k with
  | 0 => .int
  | 1 => .int
  | 2 => .int
  | 3 => .int
  | 4 => .boolean
  | 5 => .int
  | 6 => .int
  | 7 => .int
  | 8 => .array .int
  | _ => .array .int
abbrev wsX30 : List Cond := u_ws RX3 TX3 10
theorem nmX3 : ∀ a, a < 10 → ∀ b, b < 10 → a ≠ b → (TX3 a).2.1 ≠ (TX3 b).2.1 := by decide +kernel
theorem tyX3_ok : ∀ k, k < 10 → parseFieldDescriptor (TX3 k).2.2.1 = some (tyX3 k) := by decide +kernel
abbrev cX3_init : ByteArray := prog_5_method_1_code
def yX3_init : MethodName := ⟨RX3, "<init>", "()V"⟩
abbrev cX3_copyFrom : ByteArray := prog_5_method_2_code
def yX3_copyFrom : MethodName := ⟨RX3, "copyFrom", "(LLockstepRoom$Member;)V"⟩
abbrev cX3_begin : ByteArray := prog_5_method_3_code
def yX3_begin : MethodName := ⟨RX3, "begin", "(III)V"⟩
abbrev cX3_hasRecord : ByteArray := prog_5_method_4_code
def yX3_hasRecord : MethodName := ⟨RX3, "hasRecord", "(I)Z"⟩
def RX4 : String := "LockstepRoom$Script"
def TX4 : u_T := fun k => match k with
  | 0 => ("LockstepRoom$Script", "start", "[I", true)
  | 1 => ("LockstepRoom$Script", "sizes", "[I", true)
  | 2 => ("LockstepRoom$Script", "numbers", "[I", true)
  | _ => ("LockstepRoom$Script", "order", "[I", true)
def tyX4 : Nat → FieldType := fun k => match k with
  | 0 => .array .int
  | 1 => .array .int
  | 2 => .array .int
  | _ => .array .int
abbrev wsX40 : List Cond := u_ws RX4 TX4 4
theorem nmX4 : ∀ a, a < 4 → ∀ b, b < 4 → a ≠ b → (TX4 a).2.1 ≠ (TX4 b).2.1 := by decide +kernel
theorem tyX4_ok : ∀ k, k < 4 → parseFieldDescriptor (TX4 k).2.2.1 = some (tyX4 k) := by decide +kernel
abbrev cX4_init : ByteArray := prog_6_method_1_code
def yX4_init : MethodName := ⟨RX4, "<init>", "()V"⟩
abbrev cX4_put : ByteArray := prog_6_method_2_code
def yX4_put : MethodName := ⟨RX4, "put", "(IIIII)V"⟩
abbrev cX4_arrange : ByteArray := prog_6_method_3_code
def yX4_arrange : MethodName := ⟨RX4, "arrange", "(II)V"⟩
abbrev cX4_numberOf : ByteArray := prog_6_method_4_code
def yX4_numberOf : MethodName := ⟨RX4, "numberOf", "(III)I"⟩
abbrev cX4_execute : ByteArray := prog_6_method_5_code
def yX4_execute : MethodName := ⟨RX4, "execute", "(I[I)V"⟩
abbrev cX4_change : ByteArray := prog_6_method_6_code
def yX4_change : MethodName := ⟨RX4, "change", "([IIII)V"⟩
abbrev cX4_swapCells : ByteArray := prog_6_method_7_code
def yX4_swapCells : MethodName := ⟨RX4, "swapCells", "([III)V"⟩
def RX5 : String := "LockstepRoom$State"
def TX5 : u_T := fun k => match k with
  | 0 => ("LockstepRoom$State", "members", "[LLockstepRoom$Member;", true)
  | 1 => ("LockstepRoom$State", "memberCount", "I", false)
  | 2 => ("LockstepRoom$State", "sealedTurns", "I", false)
  | 3 => ("LockstepRoom$State", "openCommands", "I", false)
  | 4 => ("LockstepRoom$State", "settings", "[I", true)
  | _ => ("LockstepRoom$State", "faults", "LLockstepRoom$Faults;", true)
def tyX5 : Nat → FieldType := fun k => match k with
  | 0 => .array (.object "LockstepRoom$Member")
  | 1 => .int
  | 2 => .int
  | 3 => .int
  | 4 => .array .int
  | _ => .object "LockstepRoom$Faults"
abbrev wsX50 : List Cond := u_ws RX5 TX5 6
theorem nmX5 : ∀ a, a < 6 → ∀ b, b < 6 → a ≠ b → (TX5 a).2.1 ≠ (TX5 b).2.1 := by decide +kernel
theorem tyX5_ok : ∀ k, k < 6 → parseFieldDescriptor (TX5 k).2.2.1 = some (tyX5 k) := by decide +kernel
abbrev cX5_init : ByteArray := prog_7_method_1_code
def yX5_init : MethodName := ⟨RX5, "<init>", "()V"⟩
abbrev cX5_clear : ByteArray := prog_7_method_2_code
def yX5_clear : MethodName := ⟨RX5, "clear", "()V"⟩
abbrev cX5_copyFrom : ByteArray := prog_7_method_3_code
def yX5_copyFrom : MethodName := ⟨RX5, "copyFrom", "(LLockstepRoom$State;)V"⟩
abbrev cX5_admit : ByteArray := prog_7_method_4_code
def yX5_admit : MethodName := ⟨RX5, "ad\x6dit", "(III)LLockstepRoom$Member;"⟩
abbrev cX5_addCommand : ByteArray := prog_7_method_5_code
def yX5_addCommand : MethodName := ⟨RX5, "addCommand", "(LLockstepRoom$Script;IIII)V"⟩
abbrev cX5_closeTurn : ByteArray := prog_7_method_6_code
def yX5_closeTurn : MethodName := ⟨RX5, "closeTurn", "(LLockstepRoom$Script;)V"⟩
abbrev cX5_indexOfName : ByteArray := prog_7_method_7_code
def yX5_indexOfName : MethodName := ⟨RX5, "indexOfName", "(I)I"⟩
abbrev cX5_activeCount : ByteArray := prog_7_method_8_code
def yX5_activeCount : MethodName := ⟨RX5, "activeCount", "()I"⟩
abbrev cX5_extremeTurns : ByteArray := prog_7_method_9_code
def yX5_extremeTurns : MethodName := ⟨RX5, "extremeTurns", "(Z)I"⟩
abbrev cX5_votesFor : ByteArray := prog_7_method_10_code
def yX5_votesFor : MethodName := ⟨RX5, "votesFor", "(III)Z"⟩
abbrev cX5_groupSize : ByteArray := prog_7_method_11_code
def yX5_groupSize : MethodName := ⟨RX5, "groupSize", "(II)I"⟩
abbrev cX5_winnerAt : ByteArray := prog_7_method_12_code
def yX5_winnerAt : MethodName := ⟨RX5, "winnerAt", "(I)I"⟩
abbrev cX5_isOutvoted : ByteArray := prog_7_method_13_code
def yX5_isOutvoted : MethodName := ⟨RX5, "isOutvoted", "(LLockstepRoom$Member;)Z"⟩
abbrev cX5_donorAt : ByteArray := prog_7_method_14_code
def yX5_donorAt : MethodName := ⟨RX5, "donorAt", "(II)I"⟩
def RX6 : String := "LockstepRoom$Tree"
def TX6 : u_T := fun k => match k with
  | _ => ("LockstepRoom$Tree", "sums", "[I", true)
def tyX6 : Nat → FieldType := fun k => match k with
  | _ => .array .int
abbrev wsX60 : List Cond := u_ws RX6 TX6 1
theorem nmX6 : ∀ a, a < 1 → ∀ b, b < 1 → a ≠ b → (TX6 a).2.1 ≠ (TX6 b).2.1 := by decide +kernel
theorem tyX6_ok : ∀ k, k < 1 → parseFieldDescriptor (TX6 k).2.2.1 = some (tyX6 k) := by decide +kernel
abbrev cX6_init : ByteArray := prog_8_method_1_code
def yX6_init : MethodName := ⟨RX6, "<init>", "()V"⟩
abbrev cX6_growOver : ByteArray := prog_8_method_2_code
def yX6_growOver : MethodName := ⟨RX6, "growOver", "([I)V"⟩
def RX7 : String := "LockstepRoom"
def TX7 : u_T := fun k => match k with
  | 0 => ("LockstepRoom", "state", "LLockstepRoom$State;", false)
  | 1 => ("LockstepRoom", "script", "LLockstepRoom$Script;", false)
  | 2 => ("LockstepRoom", "earlier", "[LLockstepRoom$State;", true)
  | 3 => ("LockstepRoom", "latest", "I", false)
  | 4 => ("LockstepRoom", "kept", "I", false)
  | 5 => ("LockstepRoom", "loader", "LLockstepRoom$Loader;", true)
  | 6 => ("LockstepRoom", "inputSize", "I", false)
  | 7 => ("LockstepRoom", "errorAt", "I", false)
  | 8 => ("LockstepRoom", "output", "Ljava/lang/StringBuilder;", true)
  | 9 => ("LockstepRoom", "descent", "LLockstepRoom$Descent;", true)
  | _ => ("LockstepRoom", "trial", "[I", true)
def tyX7 : Nat → FieldType := fun k => match k with
  | 0 => .object "LockstepRoom$State"
  | 1 => .object "LockstepRoom$Script"
  | 2 => .array (.object "LockstepRoom$State")
  | 3 => .int
  | 4 => .int
  | 5 => .object "LockstepRoom$Loader"
  | 6 => .int
  | 7 => .int
  | 8 => .object "java/lang/StringBuilder"
  | 9 => .object "LockstepRoom$Descent"
  | _ => .array .int
abbrev wsX70 : List Cond := u_ws RX7 TX7 11
theorem nmX7 : ∀ a, a < 11 → ∀ b, b < 11 → a ≠ b → (TX7 a).2.1 ≠ (TX7 b).2.1 := by decide +kernel
theorem tyX7_ok : ∀ k, k < 11 → parseFieldDescriptor (TX7 k).2.2.1 = some (tyX7 k) := by decide +kernel
abbrev cX7_init : ByteArray := prog_1_method_1_code
def yX7_init : MethodName := ⟨RX7, "<init>", "()V"⟩
abbrev cX7_feed : ByteArray := prog_1_method_2_code
def yX7_feed : MethodName := ⟨RX7, "feed", "(IIIII)I"⟩
abbrev cX7_appendBytes : ByteArray := prog_1_method_3_code
def yX7_appendBytes : MethodName := ⟨RX7, "appendBytes", "(I)V"⟩
abbrev cX7_load : ByteArray := prog_1_method_4_code
def yX7_load : MethodName := ⟨RX7, "load", "(I)I"⟩
abbrev cX7_takeOverRead : ByteArray := prog_1_method_5_code
def yX7_takeOverRead : MethodName := ⟨RX7, "takeOverRead", "()V"⟩
abbrev cX7_beginAll : ByteArray := prog_1_method_6_code
def yX7_beginAll : MethodName := ⟨RX7, "beginAll", "()V"⟩
abbrev cX7_count : ByteArray := prog_1_method_11_code
def yX7_count : MethodName := ⟨RX7, "count", "(I)I"⟩
abbrev cX7_memberNumber : ByteArray := prog_1_method_14_code
def yX7_memberNumber : MethodName := ⟨RX7, "memberNumber", "(II)I"⟩
abbrev cX7_cellOf : ByteArray := prog_1_method_16_code
def yX7_cellOf : MethodName := ⟨RX7, "cellOf", "(II)I"⟩
abbrev cX7_commandCount : ByteArray := prog_1_method_17_code
def yX7_commandCount : MethodName := ⟨RX7, "commandCount", "(I)I"⟩
abbrev cX7_command : ByteArray := prog_1_method_18_code
def yX7_command : MethodName := ⟨RX7, "command", "(III)I"⟩
abbrev cX7_faultNumber : ByteArray := prog_1_method_19_code
def yX7_faultNumber : MethodName := ⟨RX7, "faultNumber", "(II)I"⟩
abbrev cX7_checksum : ByteArray := prog_1_method_20_code
def yX7_checksum : MethodName := ⟨RX7, "checksum", "(II)I"⟩
abbrev cX7_rootAt : ByteArray := prog_1_method_21_code
def yX7_rootAt : MethodName := ⟨RX7, "rootAt", "(II)I"⟩
abbrev cX7_firstWrongTurn : ByteArray := prog_1_method_22_code
def yX7_firstWrongTurn : MethodName := ⟨RX7, "firstWrongTurn", "(II)I"⟩
abbrev cX7_halvedTurn : ByteArray := prog_1_method_23_code
def yX7_halvedTurn : MethodName := ⟨RX7, "halvedTurn", "(II)I"⟩
abbrev cX7_leastShared : ByteArray := prog_1_method_24_code
def yX7_leastShared : MethodName := ⟨RX7, "leastShared", "(LLockstepRoom$Member;LLockstepRoom$Member;)I"⟩
abbrev cX7_greatestShared : ByteArray := prog_1_method_25_code
def yX7_greatestShared : MethodName := ⟨RX7, "greatestShared", "(LLockstepRoom$Member;LLockstepRoom$Member;)I"⟩
abbrev cX7_isHalvingRight : ByteArray := prog_1_method_26_code
def yX7_isHalvingRight : MethodName := ⟨RX7, "isHalvingRight", "(II)Z"⟩
abbrev cX7_firstWrongCell : ByteArray := prog_1_method_27_code
def yX7_firstWrongCell : MethodName := ⟨RX7, "firstWrongCell", "(II)I"⟩
abbrev cX7_wrongCells : ByteArray := prog_1_method_28_code
def yX7_wrongCells : MethodName := ⟨RX7, "wrongCells", "(II)I"⟩
abbrev cX7_comparisons : ByteArray := prog_1_method_29_code
def yX7_comparisons : MethodName := ⟨RX7, "comparisons", "(II)I"⟩
abbrev cX7_whyNot : ByteArray := prog_1_method_35_code
def yX7_whyNot : MethodName := ⟨RX7, "whyNot", "(I)I"⟩
abbrev cX7_heal : ByteArray := prog_1_method_36_code
def yX7_heal : MethodName := ⟨RX7, "heal", "(I)I"⟩
abbrev cX7_healAll : ByteArray := prog_1_method_37_code
def yX7_healAll : MethodName := ⟨RX7, "healAll", "()I"⟩
abbrev cX7_healOne : ByteArray := prog_1_method_38_code
def yX7_healOne : MethodName := ⟨RX7, "healOne", "(I)I"⟩
abbrev cX7_copyCells : ByteArray := prog_1_method_39_code
def yX7_copyCells : MethodName := ⟨RX7, "copyCells", "(LLockstepRoom$Member;LLockstepRoom$Member;I)I"⟩
abbrev cX7_join : ByteArray := prog_1_method_40_code
def yX7_join : MethodName := ⟨RX7, "join", "(I)I"⟩
abbrev cX7_leave : ByteArray := prog_1_method_41_code
def yX7_leave : MethodName := ⟨RX7, "leave", "(I)I"⟩
abbrev cX7_mayRun : ByteArray := prog_1_method_43_code
def yX7_mayRun : MethodName := ⟨RX7, "mayRun", "(I)I"⟩
abbrev cX7_lastAllowedTurns : ByteArray := prog_1_method_44_code
def yX7_lastAllowedTurns : MethodName := ⟨RX7, "lastAllowedTurns", "()I"⟩
abbrev cX7_turnsUpTo : ByteArray := prog_1_method_45_code
def yX7_turnsUpTo : MethodName := ⟨RX7, "turnsUpTo", "(LLockstepRoom$Member;I)I"⟩
abbrev cX7_truth : ByteArray := prog_1_method_47_code
def yX7_truth : MethodName := ⟨RX7, "truth", "(II)I"⟩
abbrev cX7_trueMembers : ByteArray := prog_1_method_48_code
def yX7_trueMembers : MethodName := ⟨RX7, "trueMembers", "()I"⟩
abbrev cX7_membersLike : ByteArray := prog_1_method_49_code
def yX7_membersLike : MethodName := ⟨RX7, "membersLike", "([II)I"⟩
abbrev cX7_areSame : ByteArray := prog_1_method_50_code
def yX7_areSame : MethodName := ⟨RX7, "areSame", "([I[I)Z"⟩
abbrev cX7_foreseen : ByteArray := prog_1_method_51_code
def yX7_foreseen : MethodName := ⟨RX7, "foreseen", "(II)I"⟩
abbrev cX7_give : ByteArray := prog_1_method_53_code
def yX7_give : MethodName := ⟨RX7, "give", "(IIII)I"⟩
abbrev cX7_seal : ByteArray := prog_1_method_54_code
def yX7_seal : MethodName := ⟨RX7, "seal", "()I"⟩
abbrev cX7_run : ByteArray := prog_1_method_55_code
def yX7_run : MethodName := ⟨RX7, "run", "(II)I"⟩
abbrev cX7_tick : ByteArray := prog_1_method_56_code
def yX7_tick : MethodName := ⟨RX7, "tick", "()I"⟩
abbrev cX7_executeTurns : ByteArray := prog_1_method_57_code
def yX7_executeTurns : MethodName := ⟨RX7, "executeTurns", "(II)V"⟩
abbrev cX7_fault : ByteArray := prog_1_method_58_code
def yX7_fault : MethodName := ⟨RX7, "fault", "(IIII)I"⟩
abbrev cX7_setSetting : ByteArray := prog_1_method_59_code
def yX7_setSetting : MethodName := ⟨RX7, "setSetting", "(II)I"⟩
abbrev cX7_remember : ByteArray := prog_1_method_61_code
def yX7_remember : MethodName := ⟨RX7, "remember", "()V"⟩
abbrev cX7_isMember : ByteArray := prog_1_method_62_code
def yX7_isMember : MethodName := ⟨RX7, "isMember", "(I)Z"⟩
abbrev cX7_memberAt : ByteArray := prog_1_method_63_code
def yX7_memberAt : MethodName := ⟨RX7, "memberAt", "(I)LLockstepRoom$Member;"⟩
abbrev cX7_requireSealed : ByteArray := prog_1_method_64_code
def yX7_requireSealed : MethodName := ⟨RX7, "requireSealed", "(I)V"⟩
abbrev cX7_requireCell : ByteArray := prog_1_method_65_code
def yX7_requireCell : MethodName := ⟨RX7, "requireCell", "(I)V"⟩
abbrev cX7_isCell : ByteArray := prog_1_method_66_code
def yX7_isCell : MethodName := ⟨RX7, "isCell", "(I)Z"⟩
abbrev cX7_isSetting : ByteArray := prog_1_method_67_code
def yX7_isSetting : MethodName := ⟨RX7, "isSetting", "(I)Z"⟩
abbrev cX7_isIn : ByteArray := prog_1_method_68_code
def yX7_isIn : MethodName := ⟨RX7, "isIn", "(III)Z"⟩
abbrev cX7_isInSet : ByteArray := prog_1_method_69_code
def yX7_isInSet : MethodName := ⟨RX7, "isInSet", "(II)Z"⟩
abbrev cX7_greatestOperand : ByteArray := prog_1_method_70_code
def yX7_greatestOperand : MethodName := ⟨RX7, "greatestOperand", "(I)I"⟩
abbrev cX7_greatestOf : ByteArray := prog_1_method_71_code
def yX7_greatestOf : MethodName := ⟨RX7, "greatestOf", "(I)I"⟩
abbrev cX7_letterShift : ByteArray := prog_1_method_72_code
def yX7_letterShift : MethodName := ⟨RX7, "letterShift", "(I)I"⟩
def RX8 : String := "LockstepRoomModel"
def TX8 : u_T := fun k => match k with
  | _ => ("", "", "", false)
def tyX8 : Nat → FieldType := fun k => match k with
  | _ => .int
abbrev wsX80 : List Cond := u_ws RX8 TX8 0
theorem nmX8 : ∀ a, a < 0 → ∀ b, b < 0 → a ≠ b → (TX8 a).2.1 ≠ (TX8 b).2.1 := by decide +kernel
theorem tyX8_ok : ∀ k, k < 0 → parseFieldDescriptor (TX8 k).2.2.1 = some (tyX8 k) := by decide +kernel
def RJx145de : String := "java/io/Serializable"
def TJx145de : u_T := fun k => match k with
  | _ => ("", "", "", false)
def tyJx145de : Nat → FieldType := fun k => match k with
  | _ => .int
abbrev wsJx145de0 : List Cond := u_ws RJx145de TJx145de 0
theorem nmJx145de : ∀ a, a < 0 → ∀ b, b < 0 → a ≠ b → (TJx145de a).2.1 ≠ (TJx145de b).2.1 := by decide +kernel
theorem tyJx145de_ok : ∀ k, k < 0 → parseFieldDescriptor (TJx145de k).2.2.1 = some (tyJx145de k) := by decide +kernel
def RJ5 : String := "java/lang/AbstractStringBuilder"
def TJ5 : u_T := fun k => match k with
  | _ => ("", "", "", false)
def tyJ5 : Nat → FieldType := fun k => match k with
  | _ => .int
abbrev wsJ50 : List Cond := u_ws RJ5 TJ5 0
theorem nmJ5 : ∀ a, a < 0 → ∀ b, b < 0 → a ≠ b → (TJ5 a).2.1 ≠ (TJ5 b).2.1 := by decide +kernel
theorem tyJ5_ok : ∀ k, k < 0 → parseFieldDescriptor (TJ5 k).2.2.1 = some (tyJ5 k) := by decide +kernel
abbrev cJ5_init_d00df : ByteArray := prog_11_method_2_code
def yJ5_init_d00df : MethodName := ⟨RJ5, "<init>", "(I)V"⟩
abbrev cJ5_length_8abf5 : ByteArray := prog_11_method_6_code
def yJ5_length_8abf5 : MethodName := ⟨RJ5, "length", "()I"⟩
abbrev cJ5_ensureCapacityInternal_d00df : ByteArray := prog_11_method_9_code
def yJ5_ensureCapacityInternal_d00df : MethodName := ⟨RJ5, "ensureCapacityInternal", "(I)V"⟩
abbrev cJ5_newCapacity_0f7a4 : ByteArray := prog_11_method_10_code
def yJ5_newCapacity_0f7a4 : MethodName := ⟨RJ5, "newCapacity", "(I)I"⟩
abbrev cJ5_inflate_da8c8 : ByteArray := prog_11_method_11_code
def yJ5_inflate_da8c8 : MethodName := ⟨RJ5, "inflate", "()V"⟩
abbrev cJ5_append_cf1ce : ByteArray := prog_11_method_22_code
def yJ5_append_cf1ce : MethodName := ⟨RJ5, "append", "(Ljava/lang/String;)Ljava/lang/AbstractStringBuilder;"⟩
abbrev cJ5_appendNull_278bc : ByteArray := prog_11_method_26_code
def yJ5_appendNull_278bc : MethodName := ⟨RJ5, "appendNull", "()Ljava/lang/AbstractStringBuilder;"⟩
abbrev cJ5_append_3fe6f : ByteArray := prog_11_method_31_code
def yJ5_append_3fe6f : MethodName := ⟨RJ5, "append", "(C)Ljava/lang/AbstractStringBuilder;"⟩
abbrev cJ5_append_c97b9 : ByteArray := prog_11_method_32_code
def yJ5_append_c97b9 : MethodName := ⟨RJ5, "append", "(I)Ljava/lang/AbstractStringBuilder;"⟩
abbrev cJ5_getValue_6d5f1 : ByteArray := prog_11_method_64_code
def yJ5_getValue_6d5f1 : MethodName := ⟨RJ5, "getValue", "()[B"⟩
abbrev cJ5_isLatin1_aae02 : ByteArray := prog_11_method_68_code
def yJ5_isLatin1_aae02 : MethodName := ⟨RJ5, "isLatin1", "()Z"⟩
abbrev cJ5_inflateIfNeededFor_a7421 : ByteArray := prog_11_method_71_code
def yJ5_inflateIfNeededFor_a7421 : MethodName := ⟨RJ5, "inflateIfNeededFor", "(Ljava/lang/String;)V"⟩
abbrev cJ5_putStringAt_47b60 : ByteArray := prog_11_method_73_code
def yJ5_putStringAt_47b60 : MethodName := ⟨RJ5, "putStringAt", "(ILjava/lang/String;)V"⟩
def RJx2cfe8 : String := "java/lang/Appendable"
def TJx2cfe8 : u_T := fun k => match k with
  | _ => ("", "", "", false)
def tyJx2cfe8 : Nat → FieldType := fun k => match k with
  | _ => .int
abbrev wsJx2cfe80 : List Cond := u_ws RJx2cfe8 TJx2cfe8 0
theorem nmJx2cfe8 : ∀ a, a < 0 → ∀ b, b < 0 → a ≠ b → (TJx2cfe8 a).2.1 ≠ (TJx2cfe8 b).2.1 := by decide +kernel
theorem tyJx2cfe8_ok : ∀ k, k < 0 → parseFieldDescriptor (TJx2cfe8 k).2.2.1 = some (tyJx2cfe8 k) := by decide +kernel
def RJx9f9b0 : String := "java/lang/CharSequence"
def TJx9f9b0 : u_T := fun k => match k with
  | _ => ("", "", "", false)
def tyJx9f9b0 : Nat → FieldType := fun k => match k with
  | _ => .int
abbrev wsJx9f9b00 : List Cond := u_ws RJx9f9b0 TJx9f9b0 0
theorem nmJx9f9b0 : ∀ a, a < 0 → ∀ b, b < 0 → a ≠ b → (TJx9f9b0 a).2.1 ≠ (TJx9f9b0 b).2.1 := by decide +kernel
theorem tyJx9f9b0_ok : ∀ k, k < 0 → parseFieldDescriptor (TJx9f9b0 k).2.2.1 = some (tyJx9f9b0 k) := by decide +kernel
def RJx8e188 : String := "java/lang/Cloneable"
def TJx8e188 : u_T := fun k => match k with
  | _ => ("", "", "", false)
def tyJx8e188 : Nat → FieldType := fun k => match k with
  | _ => .int
abbrev wsJx8e1880 : List Cond := u_ws RJx8e188 TJx8e188 0
theorem nmJx8e188 : ∀ a, a < 0 → ∀ b, b < 0 → a ≠ b → (TJx8e188 a).2.1 ≠ (TJx8e188 b).2.1 := by decide +kernel
theorem tyJx8e188_ok : ∀ k, k < 0 → parseFieldDescriptor (TJx8e188 k).2.2.1 = some (tyJx8e188 k) := by decide +kernel
def RJxb160c : String := "java/lang/Comparable"
def TJxb160c : u_T := fun k => match k with
  | _ => ("", "", "", false)
def tyJxb160c : Nat → FieldType := fun k => match k with
  | _ => .int
abbrev wsJxb160c0 : List Cond := u_ws RJxb160c TJxb160c 0
theorem nmJxb160c : ∀ a, a < 0 → ∀ b, b < 0 → a ≠ b → (TJxb160c a).2.1 ≠ (TJxb160c b).2.1 := by decide +kernel
theorem tyJxb160c_ok : ∀ k, k < 0 → parseFieldDescriptor (TJxb160c k).2.2.1 = some (tyJxb160c k) := by decide +kernel
def RJ6 : String := "java/lang/Integer"
def TJ6 : u_T := fun k => match k with
  | _ => ("", "", "", false)
def tyJ6 : Nat → FieldType := fun k => match k with
  | _ => .int
abbrev wsJ60 : List Cond := u_ws RJ6 TJ6 0
theorem nmJ6 : ∀ a, a < 0 → ∀ b, b < 0 → a ≠ b → (TJ6 a).2.1 ≠ (TJ6 b).2.1 := by decide +kernel
theorem tyJ6_ok : ∀ k, k < 0 → parseFieldDescriptor (TJ6 k).2.2.1 = some (tyJ6 k) := by decide +kernel
abbrev cJ6_getChars_ba4f3 : ByteArray := prog_15_method_12_code
def yJ6_getChars_ba4f3 : MethodName := ⟨RJ6, "getChars", "(II[B)I"⟩
abbrev cJ6_stringSize_0f7a4 : ByteArray := prog_15_method_13_code
def yJ6_stringSize_0f7a4 : MethodName := ⟨RJ6, "stringSize", "(I)I"⟩
abbrev cJ6_bitCount_0f7a4 : ByteArray := prog_15_method_49_code
def yJ6_bitCount_0f7a4 : MethodName := ⟨RJ6, "bitCount", "(I)I"⟩
def RJ9 : String := "java/lang/Math"
def TJ9 : u_T := fun k => match k with
  | _ => ("", "", "", false)
def tyJ9 : Nat → FieldType := fun k => match k with
  | _ => .int
abbrev wsJ90 : List Cond := u_ws RJ9 TJ9 0
theorem nmJ9 : ∀ a, a < 0 → ∀ b, b < 0 → a ≠ b → (TJ9 a).2.1 ≠ (TJ9 b).2.1 := by decide +kernel
theorem tyJ9_ok : ∀ k, k < 0 → parseFieldDescriptor (TJ9 k).2.2.1 = some (tyJ9 k) := by decide +kernel
abbrev cJ9_max_7cf53 : ByteArray := prog_16_method_65_code
def yJ9_max_7cf53 : MethodName := ⟨RJ9, "max", "(II)I"⟩
abbrev cJ9_min_7cf53 : ByteArray := prog_16_method_69_code
def yJ9_min_7cf53 : MethodName := ⟨RJ9, "min", "(II)I"⟩
def RJxd2413 : String := "java/lang/Number"
def TJxd2413 : u_T := fun k => match k with
  | _ => ("", "", "", false)
def tyJxd2413 : Nat → FieldType := fun k => match k with
  | _ => .int
abbrev wsJxd24130 : List Cond := u_ws RJxd2413 TJxd2413 0
theorem nmJxd2413 : ∀ a, a < 0 → ∀ b, b < 0 → a ≠ b → (TJxd2413 a).2.1 ≠ (TJxd2413 b).2.1 := by decide +kernel
theorem tyJxd2413_ok : ∀ k, k < 0 → parseFieldDescriptor (TJxd2413 k).2.2.1 = some (tyJxd2413 k) := by decide +kernel
def RJ0 : String := "java/lang/String"
def TJ0 : u_T := fun k => match k with
  | 0 => ("java/lang/String", "value", "[B", true)
  | 1 => ("java/lang/String", "coder", "B", true)
  | 2 => ("java/lang/String", "hash", "I", false)
  | _ => ("java/lang/String", "hashIsZero", "Z", false)
def tyJ0 : Nat → FieldType := fun k => match k with
  | 0 => .array .byte
  | 1 => .byte
  | 2 => .int
  | _ => .boolean
abbrev wsJ00 : List Cond := u_ws RJ0 TJ0 4
theorem nmJ0 : ∀ a, a < 4 → ∀ b, b < 4 → a ≠ b → (TJ0 a).2.1 ≠ (TJ0 b).2.1 := by decide +kernel
theorem tyJ0_ok : ∀ k, k < 4 → parseFieldDescriptor (TJ0 k).2.2.1 = some (tyJ0 k) := by decide +kernel
abbrev cJ0_init_81219 : ByteArray := prog_19_method_53_code
def yJ0_init_81219 : MethodName := ⟨RJ0, "<init>", "(Ljava/lang/StringBuilder;)V"⟩
abbrev cJ0_length_8abf5 : ByteArray := prog_19_method_54_code
def yJ0_length_8abf5 : MethodName := ⟨RJ0, "length", "()I"⟩
abbrev cJ0_charAt_5068e : ByteArray := prog_19_method_56_code
def yJ0_charAt_5068e : MethodName := ⟨RJ0, "charAt", "(I)C"⟩
abbrev cJ0_getBytes_840e7 : ByteArray := prog_19_method_147_code
def yJ0_getBytes_840e7 : MethodName := ⟨RJ0, "getBytes", "([BIB)V"⟩
abbrev cJ0_init_db425 : ByteArray := prog_19_method_150_code
def yJ0_init_db425 : MethodName := ⟨RJ0, "<init>", "(Ljava/lang/AbstractStringBuilder;Ljava/lang/Void;)V"⟩
abbrev cJ0_coder_7d493 : ByteArray := prog_19_method_152_code
def yJ0_coder_7d493 : MethodName := ⟨RJ0, "coder", "()B"⟩
abbrev cJ0_isLatin1_aae02 : ByteArray := prog_19_method_154_code
def yJ0_isLatin1_aae02 : MethodName := ⟨RJ0, "isLatin1", "()Z"⟩
abbrev cJ0_checkIndex_df160 : ByteArray := prog_19_method_155_code
def yJ0_checkIndex_df160 : MethodName := ⟨RJ0, "checkIndex", "(II)V"⟩
abbrev cJ0_checkBoundsOffCount_cabcc : ByteArray := prog_19_method_157_code
def yJ0_checkBoundsOffCount_cabcc : MethodName := ⟨RJ0, "checkBoundsOffCount", "(III)I"⟩
abbrev cJ0_checkBoundsBeginEnd_23922 : ByteArray := prog_19_method_158_code
def yJ0_checkBoundsBeginEnd_23922 : MethodName := ⟨RJ0, "checkBoundsBeginEnd", "(III)V"⟩
def RJ4 : String := "java/lang/StringBuilder"
def TJ4 : u_T := fun k => match k with
  | 0 => ("java/lang/AbstractStringBuilder", "value", "[B", false)
  | 1 => ("java/lang/AbstractStringBuilder", "coder", "B", false)
  | 2 => ("java/lang/AbstractStringBuilder", "maybeLatin1", "Z", false)
  | _ => ("java/lang/AbstractStringBuilder", "count", "I", false)
def tyJ4 : Nat → FieldType := fun k => match k with
  | 0 => .array .byte
  | 1 => .byte
  | 2 => .boolean
  | _ => .int
abbrev wsJ40 : List Cond := u_ws RJ4 TJ4 4
theorem nmJ4 : ∀ a, a < 4 → ∀ b, b < 4 → a ≠ b → (TJ4 a).2.1 ≠ (TJ4 b).2.1 := by decide +kernel
theorem tyJ4_ok : ∀ k, k < 4 → parseFieldDescriptor (TJ4 k).2.2.1 = some (tyJ4 k) := by decide +kernel
abbrev cJ4_init_da8c8 : ByteArray := prog_20_method_1_code
def yJ4_init_da8c8 : MethodName := ⟨RJ4, "<init>", "()V"⟩
abbrev cJ4_append_15ec4 : ByteArray := prog_20_method_7_code
def yJ4_append_15ec4 : MethodName := ⟨RJ4, "append", "(Ljava/lang/String;)Ljava/lang/StringBuilder;"⟩
abbrev cJ4_append_cf468 : ByteArray := prog_20_method_14_code
def yJ4_append_cf468 : MethodName := ⟨RJ4, "append", "(C)Ljava/lang/StringBuilder;"⟩
abbrev cJ4_append_bf812 : ByteArray := prog_20_method_15_code
def yJ4_append_bf812 : MethodName := ⟨RJ4, "append", "(I)Ljava/lang/StringBuilder;"⟩
abbrev cJ4_toString_0e30d : ByteArray := prog_20_method_42_code
def yJ4_toString_0e30d : MethodName := ⟨RJ4, "toString", "()Ljava/lang/String;"⟩
abbrev cJ4_length_8abf5 : ByteArray := prog_20_method_93_code
def yJ4_length_8abf5 : MethodName := ⟨RJ4, "length", "()I"⟩
def RJ1 : String := "java/lang/StringLatin1"
def TJ1 : u_T := fun k => match k with
  | _ => ("", "", "", false)
def tyJ1 : Nat → FieldType := fun k => match k with
  | _ => .int
abbrev wsJ10 : List Cond := u_ws RJ1 TJ1 0
theorem nmJ1 : ∀ a, a < 0 → ∀ b, b < 0 → a ≠ b → (TJ1 a).2.1 ≠ (TJ1 b).2.1 := by decide +kernel
theorem tyJ1_ok : ∀ k, k < 0 → parseFieldDescriptor (TJ1 k).2.2.1 = some (tyJ1 k) := by decide +kernel
abbrev cJ1_charAt_3b067 : ByteArray := prog_21_method_2_code
def yJ1_charAt_3b067 : MethodName := ⟨RJ1, "charAt", "([BI)C"⟩
abbrev cJ1_canEncode_fc78d : ByteArray := prog_21_method_3_code
def yJ1_canEncode_fc78d : MethodName := ⟨RJ1, "canEncode", "(C)Z"⟩
abbrev cJ1_inflate_0e8fd : ByteArray := prog_21_method_50_code
def yJ1_inflate_0e8fd : MethodName := ⟨RJ1, "inflate", "([BI[BII)V"⟩
def RJ2 : String := "java/lang/StringUTF16"
def TJ2 : u_T := fun k => match k with
  | _ => ("", "", "", false)
def tyJ2 : Nat → FieldType := fun k => match k with
  | _ => .int
abbrev wsJ20 : List Cond := u_ws RJ2 TJ2 0
theorem nmJ2 : ∀ a, a < 0 → ∀ b, b < 0 → a ≠ b → (TJ2 a).2.1 ≠ (TJ2 b).2.1 := by decide +kernel
theorem tyJ2_ok : ∀ k, k < 0 → parseFieldDescriptor (TJ2 k).2.2.1 = some (tyJ2 k) := by decide +kernel
abbrev cJ2_newBytesFor_77867 : ByteArray := prog_22_method_2_code
def yJ2_newBytesFor_77867 : MethodName := ⟨RJ2, "newBytesFor", "(I)[B"⟩
abbrev cJ2_newBytesLength_0f7a4 : ByteArray := prog_22_method_3_code
def yJ2_newBytesLength_0f7a4 : MethodName := ⟨RJ2, "newBytesLength", "(I)I"⟩
abbrev cJ2_putChar_b72d1 : ByteArray := prog_22_method_4_code
def yJ2_putChar_b72d1 : MethodName := ⟨RJ2, "putChar", "([BII)V"⟩
abbrev cJ2_getChar_3b067 : ByteArray := prog_22_method_5_code
def yJ2_getChar_3b067 : MethodName := ⟨RJ2, "getChar", "([BI)C"⟩
abbrev cJ2_length_9d52b : ByteArray := prog_22_method_6_code
def yJ2_length_9d52b : MethodName := ⟨RJ2, "length", "([B)I"⟩
abbrev cJ2_coderFromArrayLen_85cad : ByteArray := prog_22_method_15_code
def yJ2_coderFromArrayLen_85cad : MethodName := ⟨RJ2, "coderFromArrayLen", "([BI)B"⟩
abbrev cJ2_compress_39247 : ByteArray := prog_22_method_17_code
def yJ2_compress_39247 : MethodName := ⟨RJ2, "compress", "([BII)[B"⟩
abbrev cJ2_compress_5af95 : ByteArray := prog_22_method_22_code
def yJ2_compress_5af95 : MethodName := ⟨RJ2, "compress", "([BI[BII)I"⟩
abbrev cJ2_putCharSB_b72d1 : ByteArray := prog_22_method_71_code
def yJ2_putCharSB_b72d1 : MethodName := ⟨RJ2, "putCharSB", "([BII)V"⟩
abbrev cJ2_getChars_46870 : ByteArray := prog_22_method_77_code
def yJ2_getChars_46870 : MethodName := ⟨RJ2, "getChars", "(III[B)I"⟩
abbrev cJ2_putCharsAt_cd4e5 : ByteArray := prog_22_method_81_code
def yJ2_putCharsAt_cd4e5 : MethodName := ⟨RJ2, "putCharsAt", "([BICCCC)I"⟩
abbrev cJ2_charAt_3b067 : ByteArray := prog_22_method_83_code
def yJ2_charAt_3b067 : MethodName := ⟨RJ2, "charAt", "([BI)C"⟩
abbrev cJ2_inflate_0e8fd : ByteArray := prog_22_method_86_code
def yJ2_inflate_0e8fd : MethodName := ⟨RJ2, "inflate", "([BI[BII)V"⟩
abbrev cJ2_getChars_ba4f3 : ByteArray := prog_22_method_89_code
def yJ2_getChars_ba4f3 : MethodName := ⟨RJ2, "getChars", "(II[B)I"⟩
abbrev cJ2_checkIndex_2214a : ByteArray := prog_22_method_91_code
def yJ2_checkIndex_2214a : MethodName := ⟨RJ2, "checkIndex", "(I[B)V"⟩
abbrev cJ2_checkBoundsBeginEnd_d044e : ByteArray := prog_22_method_93_code
def yJ2_checkBoundsBeginEnd_d044e : MethodName := ⟨RJ2, "checkBoundsBeginEnd", "(II[B)V"⟩
abbrev cJ2_checkBoundsOffCount_d044e : ByteArray := prog_22_method_94_code
def yJ2_checkBoundsOffCount_d044e : MethodName := ⟨RJ2, "checkBoundsOffCount", "(II[B)V"⟩
def RJ10 : String := "java/lang/System"
def TJ10 : u_T := fun k => match k with
  | _ => ("", "", "", false)
def tyJ10 : Nat → FieldType := fun k => match k with
  | _ => .int
abbrev wsJ100 : List Cond := u_ws RJ10 TJ10 0
theorem nmJ10 : ∀ a, a < 0 → ∀ b, b < 0 → a ≠ b → (TJ10 a).2.1 ≠ (TJ10 b).2.1 := by decide +kernel
theorem tyJ10_ok : ∀ k, k < 0 → parseFieldDescriptor (TJ10 k).2.2.1 = some (tyJ10 k) := by decide +kernel
def RJxfd54e : String := "java/lang/constant/Constable"
def TJxfd54e : u_T := fun k => match k with
  | _ => ("", "", "", false)
def tyJxfd54e : Nat → FieldType := fun k => match k with
  | _ => .int
abbrev wsJxfd54e0 : List Cond := u_ws RJxfd54e TJxfd54e 0
theorem nmJxfd54e : ∀ a, a < 0 → ∀ b, b < 0 → a ≠ b → (TJxfd54e a).2.1 ≠ (TJxfd54e b).2.1 := by decide +kernel
theorem tyJxfd54e_ok : ∀ k, k < 0 → parseFieldDescriptor (TJxfd54e k).2.2.1 = some (tyJxfd54e k) := by decide +kernel
def RJx3cf43 : String := "java/lang/constant/ConstantDesc"
def TJx3cf43 : u_T := fun k => match k with
  | _ => ("", "", "", false)
def tyJx3cf43 : Nat → FieldType := fun k => match k with
  | _ => .int
abbrev wsJx3cf430 : List Cond := u_ws RJx3cf43 TJx3cf43 0
theorem nmJx3cf43 : ∀ a, a < 0 → ∀ b, b < 0 → a ≠ b → (TJx3cf43 a).2.1 ≠ (TJx3cf43 b).2.1 := by decide +kernel
theorem tyJx3cf43_ok : ∀ k, k < 0 → parseFieldDescriptor (TJx3cf43 k).2.2.1 = some (tyJx3cf43 k) := by decide +kernel
def RJ7 : String := "java/util/Arrays"
def TJ7 : u_T := fun k => match k with
  | _ => ("", "", "", false)
def tyJ7 : Nat → FieldType := fun k => match k with
  | _ => .int
abbrev wsJ70 : List Cond := u_ws RJ7 TJ7 0
theorem nmJ7 : ∀ a, a < 0 → ∀ b, b < 0 → a ≠ b → (TJ7 a).2.1 ≠ (TJ7 b).2.1 := by decide +kernel
theorem tyJ7_ok : ∀ k, k < 0 → parseFieldDescriptor (TJ7 k).2.2.1 = some (tyJ7 k) := by decide +kernel
abbrev cJ7_fill_53178 : ByteArray := prog_25_method_103_code
def yJ7_fill_53178 : MethodName := ⟨RJ7, "fill", "([II)V"⟩
abbrev cJ7_copyOf_9075b : ByteArray := prog_25_method_121_code
def yJ7_copyOf_9075b : MethodName := ⟨RJ7, "copyOf", "([BI)[B"⟩
abbrev cJ7_checkLength_df160 : ByteArray := prog_25_method_131_code
def yJ7_checkLength_df160 : MethodName := ⟨RJ7, "checkLength", "(II)V"⟩
abbrev cJ7_copyOfRange_39247 : ByteArray := prog_25_method_132_code
def yJ7_copyOfRange_39247 : MethodName := ⟨RJ7, "copyOfRange", "([BII)[B"⟩
abbrev cJ7_copyOfRangeByte_39247 : ByteArray := prog_25_method_133_code
def yJ7_copyOfRangeByte_39247 : MethodName := ⟨RJ7, "copyOfRangeByte", "([BII)[B"⟩
def RJ8 : String := "jdk/internal/util/ArraysSupport"
def TJ8 : u_T := fun k => match k with
  | _ => ("", "", "", false)
def tyJ8 : Nat → FieldType := fun k => match k with
  | _ => .int
abbrev wsJ80 : List Cond := u_ws RJ8 TJ8 0
theorem nmJ8 : ∀ a, a < 0 → ∀ b, b < 0 → a ≠ b → (TJ8 a).2.1 ≠ (TJ8 b).2.1 := by decide +kernel
theorem tyJ8_ok : ∀ k, k < 0 → parseFieldDescriptor (TJ8 k).2.2.1 = some (tyJ8 k) := by decide +kernel
abbrev cJ8_newLength_cabcc : ByteArray := prog_26_method_27_code
def yJ8_newLength_cabcc : MethodName := ⟨RJ8, "newLength", "(III)I"⟩
abbrev cJ8_hugeLength_7cf53 : ByteArray := prog_26_method_28_code
def yJ8_hugeLength_7cf53 : MethodName := ⟨RJ8, "hugeLength", "(II)I"⟩
def RJ3 : String := "jdk/internal/util/Preconditions"
def TJ3 : u_T := fun k => match k with
  | _ => ("", "", "", false)
def tyJ3 : Nat → FieldType := fun k => match k with
  | _ => .int
abbrev wsJ30 : List Cond := u_ws RJ3 TJ3 0
theorem nmJ3 : ∀ a, a < 0 → ∀ b, b < 0 → a ≠ b → (TJ3 a).2.1 ≠ (TJ3 b).2.1 := by decide +kernel
theorem tyJ3_ok : ∀ k, k < 0 → parseFieldDescriptor (TJ3 k).2.2.1 = some (tyJ3 k) := by decide +kernel
abbrev cJ3_checkIndex_8e157 : ByteArray := prog_27_method_11_code
def yJ3_checkIndex_8e157 : MethodName := ⟨RJ3, "checkIndex", "(IILjava/util/function/BiFunction;)I"⟩
abbrev cJ3_checkFromToIndex_8c36e : ByteArray := prog_27_method_12_code
def yJ3_checkFromToIndex_8c36e : MethodName := ⟨RJ3, "checkFromToIndex", "(IIILjava/util/function/BiFunction;)I"⟩
abbrev cJ3_checkFromIndexSize_8c36e : ByteArray := prog_27_method_13_code
def yJ3_checkFromIndexSize_8c36e : MethodName := ⟨RJ3, "checkFromIndexSize", "(IIILjava/util/function/BiFunction;)I"⟩
def RL : String := "LockstepRoomLaw"
abbrev cL_cell : ByteArray := method_2_code
def yL_cell : MethodName := ⟨RL, "cell", "([II)I"⟩
abbrev cL_in : ByteArray := method_3_code
def yL_in : MethodName := ⟨RL, "in", "(II)I"⟩
abbrev cL_put : ByteArray := method_4_code
def yL_put : MethodName := ⟨RL, "put", "(LLockstepRoom;Ljava/lang/String;)V"⟩
abbrev cL_statements : ByteArray := method_5_code
def yL_statements : MethodName := ⟨RL, "statements", "(Ljava/lang/String;)I"⟩
abbrev cL_members : ByteArray := method_6_code
def yL_members : MethodName := ⟨RL, "members", "([I)I"⟩
abbrev cL_pace : ByteArray := method_7_code
def yL_pace : MethodName := ⟨RL, "pace", "([II)I"⟩
abbrev cL_start : ByteArray := method_8_code
def yL_start : MethodName := ⟨RL, "start", "([II)I"⟩
abbrev cL_turns : ByteArray := method_9_code
def yL_turns : MethodName := ⟨RL, "turns", "([I)I"⟩
abbrev cL_commands : ByteArray := method_10_code
def yL_commands : MethodName := ⟨RL, "commands", "([II)I"⟩
abbrev cL_command : ByteArray := method_11_code
def yL_command : MethodName := ⟨RL, "command", "([IIII)I"⟩
abbrev cL_setting : ByteArray := method_12_code
def yL_setting : MethodName := ⟨RL, "setting", "([II)I"⟩
abbrev cL_name : ByteArray := method_13_code
def yL_name : MethodName := ⟨RL, "name", "(I)Ljava/lang/String;"⟩
abbrev cL_text : ByteArray := method_14_code
def yL_text : MethodName := ⟨RL, "text", "([I)Ljava/lang/String;"⟩
abbrev cL_room : ByteArray := method_15_code
def yL_room : MethodName := ⟨RL, "room", "([I)LLockstepRoom;"⟩
abbrev cL_changes : ByteArray := method_16_code
def yL_changes : MethodName := ⟨RL, "changes", "(LLockstepRoom;I)V"⟩
abbrev cL_has : ByteArray := method_17_code
def yL_has : MethodName := ⟨RL, "has", "(II)Z"⟩
abbrev cL_done : ByteArray := method_19_code
def yL_done : MethodName := ⟨RL, "done", "(LLockstepRoom;I)I"⟩
abbrev cL_does : ByteArray := method_20_code
def yL_does : MethodName := ⟨RL, "does", "([IIII)V"⟩
abbrev cL_turn : ByteArray := method_21_code
def yL_turn : MethodName := ⟨RL, "turn", "(LLockstepRoom;[II)V"⟩
abbrev cL_isTrue : ByteArray := method_22_code
def yL_isTrue : MethodName := ⟨RL, "isTrue", "(LLockstepRoom;[I)Z"⟩
abbrev cL_isTree : ByteArray := method_23_code
def yL_isTree : MethodName := ⟨RL, "isTree", "(LLockstepRoom;II)Z"⟩
abbrev cL_isHalved : ByteArray := method_24_code
def yL_isHalved : MethodName := ⟨RL, "isHalved", "(LLockstepRoom;II)Z"⟩
abbrev cL_law : ByteArray := code
def yL_law : MethodName := ⟨RL, "law", "([I)Z"⟩
abbrev vwCl : List vw_C := [(RJ0, TJ0, 4), (RJ4, TJ4, 4), (RJ0, TJ0, 4), (RJ0, TJ0, 4), (RX0, TX0, 4), (RX1, TX1, 2), (RX2, TX2, 13), (RX3, TX3, 10), (RX4, TX4, 4), (RX5, TX5, 6), (RX6, TX6, 1), (RX7, TX7, 11)]
end
section
/-! the tables of the small machine: methods, fields, links, constants (by program out of the Statement) -/
/-- a method: its name, bytes, locals, answer, number of its class, values that it takes, longs among its locals, what it may make, throws, its handler (from, to, at, behind the store, the store's place) -/
abbrev MI : Type := MethodName × ByteArray × Nat × Option FieldType × Nat × Nat × Bool × (Nat × Nat) × Bool × Option (Nat × Nat × Nat × Nat × Nat)
abbrev mi_y (M : MI) : MethodName := M.1
abbrev mi_c (M : MI) : ByteArray := M.2.1
abbrev mi_L (M : MI) : Nat := M.2.2.1
abbrev mi_rt (M : MI) : Option FieldType := M.2.2.2.1
abbrev mi_n (M : MI) : Nat := M.2.2.2.2.1
abbrev mi_na (M : MI) : Nat := M.2.2.2.2.2.1
abbrev mi_w (M : MI) : Bool := M.2.2.2.2.2.2.1
abbrev mi_al (M : MI) : Nat × Nat := M.2.2.2.2.2.2.2.1
abbrev mi_th (M : MI) : Bool := M.2.2.2.2.2.2.2.2.1
abbrev mi_hd (M : MI) : Option (Nat × Nat × Nat × Nat × Nat) := M.2.2.2.2.2.2.2.2.2
abbrev mi0 : MI := (yJ4_init_da8c8, cJ4_init_da8c8, 1, none, 1, 1, false, (1, 16), false, none)
abbrev mi1 : MI := (yJ4_append_cf468, cJ4_append_cf468, 2, (some (.object "java/lang/StringBuilder")), 1, 2, false, (1, 2000), false, none)
abbrev mi2 : MI := (yJ4_append_bf812, cJ4_append_bf812, 2, (some (.object "java/lang/StringBuilder")), 1, 2, false, (1, 2000), false, none)
abbrev mi3 : MI := (yJ0_length_8abf5, cJ0_length_8abf5, 1, (some .int), 0, 1, false, (0, 0), false, none)
abbrev mi4 : MI := (yJ0_length_8abf5, cJ0_length_8abf5, 1, (some .int), 0, 1, false, (0, 0), false, none)
abbrev mi5 : MI := (yJ4_length_8abf5, cJ4_length_8abf5, 1, (some .int), 1, 1, false, (0, 0), false, none)
abbrev mi6 : MI := (yJ5_init_d00df, cJ5_init_d00df, 2, none, 2, 2, false, (1, 16), false, none)
abbrev mi7 : MI := (yJ5_length_8abf5, cJ5_length_8abf5, 1, (some .int), 2, 1, false, (0, 0), false, none)
abbrev mi8 : MI := (yJ5_ensureCapacityInternal_d00df, cJ5_ensureCapacityInternal_d00df, 3, none, 2, 2, false, (1, 2000), false, none)
abbrev mi9 : MI := (yJ5_newCapacity_0f7a4, cJ5_newCapacity_0f7a4, 6, (some .int), 2, 2, false, (0, 0), false, none)
abbrev mi10 : MI := (yJ0_length_8abf5, cJ0_length_8abf5, 1, (some .int), 0, 1, false, (0, 0), false, none)
abbrev mi11 : MI := (yJ0_length_8abf5, cJ0_length_8abf5, 1, (some .int), 0, 1, false, (0, 0), false, none)
abbrev mi12 : MI := (yJ5_append_3fe6f, cJ5_append_3fe6f, 2, (some (.object "java/lang/AbstractStringBuilder")), 2, 2, false, (1, 2000), false, none)
abbrev mi13 : MI := (yJ5_append_c97b9, cJ5_append_c97b9, 4, (some (.object "java/lang/AbstractStringBuilder")), 2, 2, false, (1, 2000), false, none)
abbrev mi14 : MI := (yJ5_isLatin1_aae02, cJ5_isLatin1_aae02, 1, (some .boolean), 2, 1, false, (0, 0), false, none)
abbrev mi15 : MI := (yJ6_getChars_ba4f3, cJ6_getChars_ba4f3, 7, (some .int), 3, 3, false, (0, 0), false, none)
abbrev mi16 : MI := (yJ6_stringSize_0f7a4, cJ6_stringSize_0f7a4, 4, (some .int), 3, 1, false, (0, 0), false, none)
abbrev mi17 : MI := (yJ6_bitCount_0f7a4, cJ6_bitCount_0f7a4, 1, (some .int), 3, 1, false, (0, 0), false, none)
abbrev mi18 : MI := (yJ0_length_8abf5, cJ0_length_8abf5, 1, (some .int), 0, 1, false, (0, 0), false, none)
abbrev mi19 : MI := (yJ0_charAt_5068e, cJ0_charAt_5068e, 2, (some .char), 0, 2, false, (0, 0), false, none)
abbrev mi20 : MI := (yJ0_coder_7d493, cJ0_coder_7d493, 1, (some .byte), 0, 1, false, (0, 0), false, none)
abbrev mi21 : MI := (yJ0_isLatin1_aae02, cJ0_isLatin1_aae02, 1, (some .boolean), 0, 1, false, (0, 0), false, none)
abbrev mi22 : MI := (yJ0_checkIndex_df160, cJ0_checkIndex_df160, 2, none, 0, 2, false, (0, 0), false, none)
abbrev mi23 : MI := (yJ1_canEncode_fc78d, cJ1_canEncode_fc78d, 1, (some .boolean), 6, 1, false, (0, 0), false, none)
abbrev mi24 : MI := (yJ1_charAt_3b067, cJ1_charAt_3b067, 2, (some .char), 6, 2, false, (0, 0), false, none)
abbrev mi25 : MI := (yJ7_fill_53178, cJ7_fill_53178, 4, none, 5, 2, false, (0, 0), false, none)
abbrev mi26 : MI := (yJ7_copyOf_9075b, cJ7_copyOf_9075b, 3, (some (.array .byte)), 5, 2, false, (1, 2000), false, none)
abbrev mi27 : MI := (yJ8_newLength_cabcc, cJ8_newLength_cabcc, 4, (some .int), 7, 3, false, (0, 0), false, none)
abbrev mi28 : MI := (yJ3_checkIndex_8e157, cJ3_checkIndex_8e157, 3, (some .int), 8, 3, false, (0, 0), false, none)
abbrev mi29 : MI := (yX0_init, cX0_init, 1, none, 10, 1, false, (4, 66), false, none)
abbrev mi30 : MI := (yX0_checksumOf, cX0_checksumOf, 3, (some .int), 10, 3, false, (0, 0), false, none)
abbrev mi31 : MI := (yX0_rootOf, cX0_rootOf, 2, (some .int), 10, 2, false, (0, 0), false, none)
abbrev mi32 : MI := (yX0_goDown, cX0_goDown, 5, none, 10, 3, false, (0, 0), false, none)
abbrev mi33 : MI := (yX1_init, cX1_init, 1, none, 11, 1, false, (1, 40), false, none)
abbrev mi34 : MI := (yX1_copyFrom, cX1_copyFrom, 2, none, 11, 2, false, (0, 0), false, none)
abbrev mi35 : MI := (yX1_append, cX1_append, 6, none, 11, 5, false, (0, 0), false, none)
abbrev mi36 : MI := (yX1_isOf, cX1_isOf, 5, (some .boolean), 11, 5, false, (0, 0), false, none)
abbrev mi37 : MI := (yX1_addTo, cX1_addTo, 6, none, 11, 4, false, (0, 0), false, none)
abbrev mi38 : MI := (yX1_drop, cX1_drop, 6, none, 11, 4, false, (0, 0), false, none)
abbrev mi39 : MI := (yX2_init, cX2_init, 1, none, 12, 1, false, (29, 3050), false, none)
abbrev mi40 : MI := (yX2_readText, cX2_readText, 3, (some .int), 12, 2, false, (0, 0), false, none)
abbrev mi41 : MI := (yX2_readStatement, cX2_readStatement, 1, (some .boolean), 12, 1, false, (0, 0), false, none)
abbrev mi42 : MI := (yX2_readStart, cX2_readStart, 2, (some .boolean), 12, 1, false, (0, 0), false, none)
abbrev mi43 : MI := (yX2_readMember, cX2_readMember, 2, (some .boolean), 12, 1, false, (0, 0), false, none)
abbrev mi44 : MI := (yX2_readCommand, cX2_readCommand, 4, (some .boolean), 12, 1, false, (0, 0), false, none)
abbrev mi45 : MI := (yX2_readSeal, cX2_readSeal, 1, (some .boolean), 12, 1, false, (0, 0), false, none)
abbrev mi46 : MI := (yX2_readFault, cX2_readFault, 4, (some .boolean), 12, 1, false, (0, 0), false, none)
abbrev mi47 : MI := (yX2_readSetting, cX2_readSetting, 2, (some .boolean), 12, 1, false, (0, 0), false, none)
abbrev mi48 : MI := (yX2_sortOfWord, cX2_sortOfWord, 1, (some .int), 12, 1, false, (0, 0), false, none)
abbrev mi49 : MI := (yX2_takeMember, cX2_takeMember, 1, (some .boolean), 12, 1, false, (0, 0), false, none)
abbrev mi50 : MI := (yX2_takeInteger, cX2_takeInteger, 3, (some .boolean), 12, 3, false, (0, 0), false, none)
abbrev mi51 : MI := (yX2_checkInteger, cX2_checkInteger, 3, (some .boolean), 12, 3, false, (0, 0), false, none)
abbrev mi52 : MI := (yX2_takeSemicolon, cX2_takeSemicolon, 1, (some .boolean), 12, 1, false, (0, 0), false, none)
abbrev mi53 : MI := (yX2_fail, cX2_fail, 2, (some .boolean), 12, 2, false, (0, 0), false, none)
abbrev mi54 : MI := (yX2_isName, cX2_isName, 1, (some .boolean), 12, 1, false, (0, 0), false, none)
abbrev mi55 : MI := (yX2_nameLetters, cX2_nameLetters, 3, (some .int), 12, 1, false, (0, 0), false, none)
abbrev mi56 : MI := (yX2_isWord, cX2_isWord, 3, (some .boolean), 12, 2, false, (0, 0), false, none)
abbrev mi57 : MI := (yX2_nextToken, cX2_nextToken, 1, none, 12, 1, false, (0, 0), false, none)
abbrev mi58 : MI := (yX2_isLetter, cX2_isLetter, 2, (some .boolean), 12, 2, false, (0, 0), false, none)
abbrev mi59 : MI := (yX2_isDigit, cX2_isDigit, 2, (some .boolean), 12, 2, false, (0, 0), false, none)
abbrev mi60 : MI := (yX3_init, cX3_init, 1, none, 13, 1, false, (2, 57), false, none)
abbrev mi61 : MI := (yX3_copyFrom, cX3_copyFrom, 2, none, 13, 2, false, (0, 0), false, none)
abbrev mi62 : MI := (yX3_begin, cX3_begin, 4, none, 13, 4, false, (0, 0), false, none)
abbrev mi63 : MI := (yX3_hasRecord, cX3_hasRecord, 2, (some .boolean), 13, 2, false, (0, 0), false, none)
abbrev mi64 : MI := (yX4_init, cX4_init, 1, none, 14, 1, false, (4, 1688), false, none)
abbrev mi65 : MI := (yX4_put, cX4_put, 7, none, 14, 6, false, (0, 0), false, none)
abbrev mi66 : MI := (yX4_arrange, cX4_arrange, 7, none, 14, 3, false, (0, 0), false, none)
abbrev mi67 : MI := (yX4_numberOf, cX4_numberOf, 4, (some .int), 14, 4, false, (0, 0), false, none)
abbrev mi68 : MI := (yX4_execute, cX4_execute, 4, none, 14, 3, false, (0, 0), false, none)
abbrev mi69 : MI := (yX4_change, cX4_change, 4, none, 14, 4, false, (0, 0), false, none)
abbrev mi70 : MI := (yX4_swapCells, cX4_swapCells, 4, none, 14, 3, false, (0, 0), false, none)
abbrev mi71 : MI := (yJ0_length_8abf5, cJ0_length_8abf5, 1, (some .int), 0, 1, false, (0, 0), false, none)
abbrev mi72 : MI := (yX5_init, cX5_init, 2, none, 15, 1, false, (22, 452), false, none)
abbrev mi73 : MI := (yX5_clear, cX5_clear, 1, none, 15, 1, false, (0, 0), false, none)
abbrev mi74 : MI := (yX5_copyFrom, cX5_copyFrom, 3, none, 15, 2, false, (0, 0), false, none)
abbrev mi75 : MI := (yX5_admit, cX5_admit, 5, (some (.object "LockstepRoom$Member")), 15, 4, false, (0, 0), false, none)
abbrev mi76 : MI := (yX5_addCommand, cX5_addCommand, 6, none, 15, 6, false, (0, 0), false, none)
abbrev mi77 : MI := (yX5_closeTurn, cX5_closeTurn, 2, none, 15, 2, false, (0, 0), false, none)
abbrev mi78 : MI := (yX5_indexOfName, cX5_indexOfName, 3, (some .int), 15, 2, false, (0, 0), false, none)
abbrev mi79 : MI := (yX5_activeCount, cX5_activeCount, 3, (some .int), 15, 1, false, (0, 0), false, none)
abbrev mi80 : MI := (yX5_extremeTurns, cX5_extremeTurns, 6, (some .int), 15, 2, false, (0, 0), false, none)
abbrev mi81 : MI := (yX5_votesFor, cX5_votesFor, 5, (some .boolean), 15, 4, false, (0, 0), false, none)
abbrev mi82 : MI := (yX5_groupSize, cX5_groupSize, 5, (some .int), 15, 3, false, (0, 0), false, none)
abbrev mi83 : MI := (yX5_winnerAt, cX5_winnerAt, 7, (some .int), 15, 2, false, (0, 0), false, none)
abbrev mi84 : MI := (yX5_isOutvoted, cX5_isOutvoted, 4, (some .boolean), 15, 2, false, (0, 0), false, none)
abbrev mi85 : MI := (yX5_donorAt, cX5_donorAt, 7, (some .int), 15, 3, false, (0, 0), false, none)
abbrev mi86 : MI := (yX6_init, cX6_init, 1, none, 16, 1, false, (1, 32), false, none)
abbrev mi87 : MI := (yX6_growOver, cX6_growOver, 5, none, 16, 2, true, (0, 0), false, none)
abbrev mi88 : MI := (yX7_init, cX7_init, 2, none, 17, 1, false, (297, 9909), false, none)
abbrev mi89 : MI := (yX7_feed, cX7_feed, 6, (some .int), 17, 6, false, (0, 0), false, none)
abbrev mi90 : MI := (yX7_appendBytes, cX7_appendBytes, 3, none, 17, 2, false, (0, 0), false, none)
abbrev mi91 : MI := (yX7_load, cX7_load, 3, (some .int), 17, 2, false, (0, 0), false, none)
abbrev mi92 : MI := (yX7_takeOverRead, cX7_takeOverRead, 3, none, 17, 1, false, (0, 0), false, none)
abbrev mi93 : MI := (yX7_beginAll, cX7_beginAll, 4, none, 17, 1, false, (0, 0), false, none)
abbrev mi94 : MI := (yJ0_length_8abf5, cJ0_length_8abf5, 1, (some .int), 0, 1, false, (0, 0), false, none)
abbrev mi95 : MI := (yJ0_length_8abf5, cJ0_length_8abf5, 1, (some .int), 0, 1, false, (0, 0), false, none)
abbrev mi96 : MI := (yJ0_length_8abf5, cJ0_length_8abf5, 1, (some .int), 0, 1, false, (0, 0), false, none)
abbrev mi97 : MI := (yJ0_length_8abf5, cJ0_length_8abf5, 1, (some .int), 0, 1, false, (0, 0), false, none)
abbrev mi98 : MI := (yX7_count, cX7_count, 2, (some .int), 17, 2, false, (0, 0), false, none)
abbrev mi99 : MI := (yJ0_length_8abf5, cJ0_length_8abf5, 1, (some .int), 0, 1, false, (0, 0), false, none)
abbrev mi100 : MI := (yJ0_length_8abf5, cJ0_length_8abf5, 1, (some .int), 0, 1, false, (0, 0), false, none)
abbrev mi101 : MI := (yX7_memberNumber, cX7_memberNumber, 4, (some .int), 17, 3, false, (1, 6), true, none)
abbrev mi102 : MI := (yJ0_length_8abf5, cJ0_length_8abf5, 1, (some .int), 0, 1, false, (0, 0), false, none)
abbrev mi103 : MI := (yX7_cellOf, cX7_cellOf, 4, (some .int), 17, 3, false, (2, 12), true, none)
abbrev mi104 : MI := (yX7_commandCount, cX7_commandCount, 2, (some .int), 17, 2, false, (1, 6), true, none)
abbrev mi105 : MI := (yX7_command, cX7_command, 4, (some .int), 17, 4, false, (1, 6), true, none)
abbrev mi106 : MI := (yX7_faultNumber, cX7_faultNumber, 3, (some .int), 17, 3, false, (1, 6), true, none)
abbrev mi107 : MI := (yX7_checksum, cX7_checksum, 4, (some .int), 17, 3, false, (1, 6), true, none)
abbrev mi108 : MI := (yX7_rootAt, cX7_rootAt, 4, (some .int), 17, 3, false, (1, 6), true, none)
abbrev mi109 : MI := (yX7_firstWrongTurn, cX7_firstWrongTurn, 7, (some .int), 17, 3, false, (2, 12), true, none)
abbrev mi110 : MI := (yX7_halvedTurn, cX7_halvedTurn, 9, (some .int), 17, 3, false, (2, 12), true, none)
abbrev mi111 : MI := (yX7_leastShared, cX7_leastShared, 2, (some .int), 17, 2, false, (0, 0), false, none)
abbrev mi112 : MI := (yX7_greatestShared, cX7_greatestShared, 2, (some .int), 17, 2, false, (0, 0), false, none)
abbrev mi113 : MI := (yX7_isHalvingRight, cX7_isHalvingRight, 3, (some .boolean), 17, 3, false, (4, 24), true, none)
abbrev mi114 : MI := (yX7_firstWrongCell, cX7_firstWrongCell, 6, (some .int), 17, 3, false, (2, 12), true, none)
abbrev mi115 : MI := (yX7_wrongCells, cX7_wrongCells, 5, (some .int), 17, 3, false, (2, 12), true, none)
abbrev mi116 : MI := (yX7_comparisons, cX7_comparisons, 5, (some .int), 17, 3, false, (2, 12), true, none)
abbrev mi117 : MI := (yJ0_length_8abf5, cJ0_length_8abf5, 1, (some .int), 0, 1, false, (0, 0), false, none)
abbrev mi118 : MI := (yJ0_length_8abf5, cJ0_length_8abf5, 1, (some .int), 0, 1, false, (0, 0), false, none)
abbrev mi119 : MI := (yJ0_length_8abf5, cJ0_length_8abf5, 1, (some .int), 0, 1, false, (0, 0), false, none)
abbrev mi120 : MI := (yJ0_length_8abf5, cJ0_length_8abf5, 1, (some .int), 0, 1, false, (0, 0), false, none)
abbrev mi121 : MI := (yJ0_length_8abf5, cJ0_length_8abf5, 1, (some .int), 0, 1, false, (0, 0), false, none)
abbrev mi122 : MI := (yX7_whyNot, cX7_whyNot, 3, (some .int), 17, 2, false, (1, 6), true, none)
abbrev mi123 : MI := (yX7_heal, cX7_heal, 2, (some .int), 17, 2, false, (1, 6), true, none)
abbrev mi124 : MI := (yX7_healAll, cX7_healAll, 3, (some .int), 17, 1, false, (6, 36), true, none)
abbrev mi125 : MI := (yX7_healOne, cX7_healOne, 4, (some .int), 17, 2, false, (0, 0), false, none)
abbrev mi126 : MI := (yX7_copyCells, cX7_copyCells, 4, (some .int), 17, 3, false, (0, 0), false, none)
abbrev mi127 : MI := (yX7_join, cX7_join, 5, (some .int), 17, 2, false, (0, 0), false, none)
abbrev mi128 : MI := (yX7_leave, cX7_leave, 2, (some .int), 17, 2, false, (0, 0), false, none)
abbrev mi129 : MI := (yJ0_length_8abf5, cJ0_length_8abf5, 1, (some .int), 0, 1, false, (0, 0), false, none)
abbrev mi130 : MI := (yX7_mayRun, cX7_mayRun, 3, (some .int), 17, 2, false, (1, 6), true, none)
abbrev mi131 : MI := (yX7_lastAllowedTurns, cX7_lastAllowedTurns, 1, (some .int), 17, 1, false, (0, 0), false, none)
abbrev mi132 : MI := (yX7_turnsUpTo, cX7_turnsUpTo, 2, (some .int), 17, 2, false, (0, 0), false, none)
abbrev mi133 : MI := (yJ0_length_8abf5, cJ0_length_8abf5, 1, (some .int), 0, 1, false, (0, 0), false, none)
abbrev mi134 : MI := (yX7_truth, cX7_truth, 4, (some .int), 17, 3, false, (1, 6), true, none)
abbrev mi135 : MI := (yX7_trueMembers, cX7_trueMembers, 3, (some .int), 17, 1, false, (0, 0), false, none)
abbrev mi136 : MI := (yX7_membersLike, cX7_membersLike, 6, (some .int), 17, 3, false, (0, 0), false, none)
abbrev mi137 : MI := (yX7_areSame, cX7_areSame, 3, (some .boolean), 17, 2, false, (0, 0), false, none)
abbrev mi138 : MI := (yX7_foreseen, cX7_foreseen, 5, (some .int), 17, 3, false, (2, 12), true, none)
abbrev mi139 : MI := (yJ0_length_8abf5, cJ0_length_8abf5, 1, (some .int), 0, 1, false, (0, 0), false, none)
abbrev mi140 : MI := (yX7_give, cX7_give, 5, (some .int), 17, 5, false, (0, 0), false, none)
abbrev mi141 : MI := (yX7_seal, cX7_seal, 1, (some .int), 17, 1, false, (0, 0), false, none)
abbrev mi142 : MI := (yX7_run, cX7_run, 4, (some .int), 17, 3, false, (1, 6), true, none)
abbrev mi143 : MI := (yX7_tick, cX7_tick, 6, (some .int), 17, 1, false, (0, 0), false, none)
abbrev mi144 : MI := (yX7_executeTurns, cX7_executeTurns, 6, none, 17, 3, false, (0, 0), false, none)
abbrev mi145 : MI := (yX7_fault, cX7_fault, 5, (some .int), 17, 5, false, (0, 0), false, none)
abbrev mi146 : MI := (yX7_setSetting, cX7_setSetting, 4, (some .int), 17, 3, false, (0, 0), false, none)
abbrev mi147 : MI := (yJ0_length_8abf5, cJ0_length_8abf5, 1, (some .int), 0, 1, false, (0, 0), false, none)
abbrev mi148 : MI := (yX7_remember, cX7_remember, 1, none, 17, 1, false, (0, 0), false, none)
abbrev mi149 : MI := (yX7_isMember, cX7_isMember, 2, (some .boolean), 17, 2, false, (0, 0), false, none)
abbrev mi150 : MI := (yX7_memberAt, cX7_memberAt, 2, (some (.object "LockstepRoom$Member")), 17, 2, false, (1, 6), true, none)
abbrev mi151 : MI := (yX7_requireSealed, cX7_requireSealed, 2, none, 17, 2, false, (1, 6), true, none)
abbrev mi152 : MI := (yX7_requireCell, cX7_requireCell, 1, none, 17, 1, false, (1, 6), true, none)
abbrev mi153 : MI := (yX7_isCell, cX7_isCell, 1, (some .boolean), 17, 1, false, (0, 0), false, none)
abbrev mi154 : MI := (yX7_isSetting, cX7_isSetting, 1, (some .boolean), 17, 1, false, (0, 0), false, none)
abbrev mi155 : MI := (yX7_isIn, cX7_isIn, 3, (some .boolean), 17, 3, false, (0, 0), false, none)
abbrev mi156 : MI := (yX7_isInSet, cX7_isInSet, 2, (some .boolean), 17, 2, false, (0, 0), false, none)
abbrev mi157 : MI := (yX7_greatestOperand, cX7_greatestOperand, 1, (some .int), 17, 1, false, (0, 0), false, none)
abbrev mi158 : MI := (yX7_greatestOf, cX7_greatestOf, 1, (some .int), 17, 1, false, (0, 0), false, none)
abbrev mi159 : MI := (yX7_letterShift, cX7_letterShift, 1, (some .int), 17, 1, false, (0, 0), false, none)
abbrev mi160 : MI := (yJ4_append_15ec4, cJ4_append_15ec4, 2, (some (.object "java/lang/StringBuilder")), 1, 2, false, (1, 2000), false, none)
abbrev mi161 : MI := (yJ5_append_cf1ce, cJ5_append_cf1ce, 3, (some (.object "java/lang/AbstractStringBuilder")), 2, 2, false, (1, 2000), false, none)
abbrev mi162 : MI := (yJ5_putStringAt_47b60, cJ5_putStringAt_47b60, 3, none, 2, 3, false, (0, 0), false, none)
abbrev mi163 : MI := (yJ5_inflateIfNeededFor_a7421, cJ5_inflateIfNeededFor_a7421, 2, none, 2, 2, false, (0, 0), false, none)
abbrev mi164 : MI := (yJ0_getBytes_840e7, cJ0_getBytes_840e7, 4, none, 0, 4, false, (0, 0), false, none)
abbrev mi165 : MI := (yJ4_toString_0e30d, cJ4_toString_0e30d, 1, (some (.object "java/lang/String")), 1, 1, false, (5, 8004), false, none)
abbrev mi166 : MI := (yJ0_init_81219, cJ0_init_81219, 2, none, 0, 2, false, (4, 8000), false, none)
abbrev mi167 : MI := (yJ0_init_db425, cJ0_init_db425, 5, none, 0, 3, false, (4, 8000), false, none)
abbrev mi168 : MI := (yJ5_getValue_6d5f1, cJ5_getValue_6d5f1, 1, (some (.array .byte)), 2, 1, false, (0, 0), false, none)
abbrev mi169 : MI := (yJ7_copyOfRange_39247, cJ7_copyOfRange_39247, 3, (some (.array .byte)), 5, 3, false, (2, 4000), false, none)
abbrev mi170 : MI := (yJ7_copyOfRangeByte_39247, cJ7_copyOfRangeByte_39247, 5, (some (.array .byte)), 5, 3, false, (1, 2000), false, none)
abbrev mi171 : MI := (yJ7_checkLength_df160, cJ7_checkLength_df160, 2, none, 5, 2, false, (0, 0), false, none)
abbrev mi172 : MI := (yL_cell, cL_cell, 2, (some .int), 19, 2, false, (0, 0), false, none)
abbrev mi173 : MI := (yL_in, cL_in, 2, (some .int), 19, 2, false, (0, 0), false, none)
abbrev mi174 : MI := (yL_members, cL_members, 1, (some .int), 19, 1, false, (0, 0), false, none)
abbrev mi175 : MI := (yL_pace, cL_pace, 2, (some .int), 19, 2, false, (0, 0), false, none)
abbrev mi176 : MI := (yL_start, cL_start, 2, (some .int), 19, 2, false, (0, 0), false, none)
abbrev mi177 : MI := (yL_turns, cL_turns, 1, (some .int), 19, 1, false, (0, 0), false, none)
abbrev mi178 : MI := (yL_commands, cL_commands, 2, (some .int), 19, 2, false, (0, 0), false, none)
abbrev mi179 : MI := (yL_command, cL_command, 6, (some .int), 19, 4, false, (0, 0), false, none)
abbrev mi180 : MI := (yL_setting, cL_setting, 2, (some .int), 19, 2, false, (0, 0), false, none)
abbrev mi181 : MI := (yL_name, cL_name, 1, (some (.object "java/lang/String")), 19, 1, false, (9, 12024), false, none)
abbrev mi182 : MI := (yL_text, cL_text, 5, (some (.object "java/lang/String")), 19, 1, false, (1000, 2000000), false, none)
abbrev mi183 : MI := (yL_statements, cL_statements, 3, (some .int), 19, 1, false, (0, 0), false, none)
abbrev mi184 : MI := (yL_put, cL_put, 6, none, 19, 2, false, (400, 900000), false, none)
abbrev mi185 : MI := (yL_room, cL_room, 3, (some (.object "LockstepRoom")), 19, 1, false, (1698, 2909920), false, none)
abbrev mi186 : MI := (yL_has, cL_has, 2, (some .boolean), 19, 2, false, (0, 0), false, none)
abbrev mi187 : MI := (yL_done, cL_done, 2, (some .int), 19, 2, false, (1, 6), false, none)
abbrev mi188 : MI := (yL_does, cL_does, 5, none, 19, 4, false, (0, 0), false, none)
abbrev mi189 : MI := (yL_turn, cL_turn, 4, none, 19, 3, false, (4, 24), false, none)
abbrev mi190 : MI := (yL_isTrue, cL_isTrue, 8, (some .boolean), 19, 2, false, (10, 100), false, none)
abbrev mi191 : MI := (yL_isTree, cL_isTree, 8, (some .boolean), 19, 3, false, (10, 100), false, none)
abbrev mi192 : MI := (yL_isHalved, cL_isHalved, 8, (some .boolean), 19, 3, false, (10, 100), false, none)
abbrev mi193 : MI := (yL_changes, cL_changes, 4, none, 19, 2, false, (10, 100), false, none)
abbrev mi194 : MI := (yL_law, cL_law, 6, (some .boolean), 19, 1, false, (600086, 7301442), false, none)
def mtab : List MI := [mi0, mi1, mi2, mi3, mi4, mi5, mi6, mi7, mi8, mi9, mi10, mi11, mi12, mi13, mi14, mi15, mi16, mi17, mi18, mi19, mi20, mi21, mi22, mi23, mi24, mi25, mi26, mi27, mi28, mi29, mi30, mi31, mi32, mi33, mi34, mi35, mi36, mi37, mi38, mi39, mi40, mi41, mi42, mi43, mi44, mi45, mi46, mi47, mi48, mi49, mi50, mi51, mi52, mi53, mi54, mi55, mi56, mi57, mi58, mi59, mi60, mi61, mi62, mi63, mi64, mi65, mi66, mi67, mi68, mi69, mi70, mi71, mi72, mi73, mi74, mi75, mi76, mi77, mi78, mi79, mi80, mi81, mi82, mi83, mi84, mi85, mi86, mi87, mi88, mi89, mi90, mi91, mi92, mi93, mi94, mi95, mi96, mi97, mi98, mi99, mi100, mi101, mi102, mi103, mi104, mi105, mi106, mi107, mi108, mi109, mi110, mi111, mi112, mi113, mi114, mi115, mi116, mi117, mi118, mi119, mi120, mi121, mi122, mi123, mi124, mi125, mi126, mi127, mi128, mi129, mi130, mi131, mi132, mi133, mi134, mi135, mi136, mi137, mi138, mi139, mi140, mi141, mi142, mi143, mi144, mi145, mi146, mi147, mi148, mi149, mi150, mi151, mi152, mi153, mi154, mi155, mi156, mi157, mi158, mi159, mi160, mi161, mi162, mi163, mi164, mi165, mi166, mi167, mi168, mi169, mi170, mi171, mi172, mi173, mi174, mi175, mi176, mi177, mi178, mi179, mi180, mi181, mi182, mi183, mi184, mi185, mi186, mi187, mi188, mi189, mi190, mi191, mi192, mi193, mi194]
def minfo (j : Nat) : MI := mtab.getD j mi0
def ftl : List (List FieldType) := [[(.array .byte), .byte, .int, .boolean], [(.array .byte), .byte, .boolean, .int], [(.array .byte), .byte, .int, .boolean], [(.array .byte), .byte, .int, .boolean], [(.object "LockstepRoom$Tree"), (.object "LockstepRoom$Tree"), .int, .int], [(.array .int), .int], [(.array .byte), (.object "LockstepRoom$State"), (.object "LockstepRoom$Script"), .int, .boolean, .int, .int, .int, .int, .int, .int, .int, .int], [.int, .int, .int, .int, .boolean, .int, .int, .int, (.array .int), (.array .int)], [(.array .int), (.array .int), (.array .int), (.array .int)], [(.array (.object "LockstepRoom$Member")), .int, .int, .int, (.array .int), (.object "LockstepRoom$Faults")], [(.array .int)], [(.object "LockstepRoom$State"), (.object "LockstepRoom$Script"), (.array (.object "LockstepRoom$State")), .int, .int, (.object "LockstepRoom$Loader"), .int, .int, (.object "java/lang/StringBuilder"), (.object "LockstepRoom$Descent"), (.array .int)]]
def fty (c k : Nat) : FieldType := (ftl.getD c []).getD k .int
def fref (c k : Nat) : Bool := match fty c k with | .object _ => true | .array _ => true | _ => false
def ffl : List (List Bool) := [[true, true, false, false], [false, false, false, false], [true, true, false, false], [true, true, false, false], [true, true, false, false], [true, false], [true, false, false, false, false, false, false, false, false, false, false, false, false], [false, false, false, false, false, false, false, false, true, true], [true, true, true, true], [true, false, false, false, true, true], [true], [false, false, true, false, false, true, false, false, true, true, true]]
def ffin (c k : Nat) : Bool := (ffl.getD c []).getD k false
def cnf (c : Nat) : Nat := (ftl.getD c []).length
def cnm : List String := ["java/lang/String", "java/lang/StringBuilder", "java/lang/AbstractStringBuilder", "java/lang/Integer", "java/lang/Math", "java/util/Arrays", "java/lang/StringLatin1", "jdk/internal/util/ArraysSupport", "jdk/internal/util/Preconditions", "java/lang/StringUTF16", "LockstepRoom$Descent", "LockstepRoom$Faults", "LockstepRoom$Loader", "LockstepRoom$Member", "LockstepRoom$Script", "LockstepRoom$State", "LockstepRoom$Tree", "LockstepRoom", "LockstepRoomModel", "LockstepRoomLaw"]
def ftab : List (List (Nat × Nat × Nat)) := [[(9, 0, 0), (15, 0, 1), (1048, 1, 2)], [], [(15, 1, 0), (22, 1, 1), (79, 1, 3)], [], [], [], [], [], [], [], [(10, 4, 0), (16, 4, 1), (19, 4, 2), (23, 4, 3), (30, 10, 0)], [(9, 5, 0), (15, 5, 1)], [(9, 6, 0), (18, 6, 1), (25, 6, 2), (29, 6, 3), (33, 6, 4), (37, 6, 5), (40, 6, 6), (43, 6, 7), (46, 6, 8), (49, 6, 9), (52, 6, 10), (55, 6, 11), (58, 6, 12), (70, 8, 0), (131, 9, 1), (152, 9, 3), (168, 9, 2), (175, 9, 5), (179, 5, 1), (198, 9, 4)], [(9, 7, 8), (15, 7, 9), (18, 7, 0), (22, 7, 1), (25, 7, 2), (28, 7, 3), (31, 7, 4), (35, 7, 5), (38, 7, 6), (41, 7, 7)], [(9, 8, 0), (15, 8, 1), (18, 8, 2), (21, 8, 3)], [(11, 9, 0), (17, 9, 1), (21, 9, 2), (24, 9, 3), (27, 9, 4), (34, 9, 5), (39, 5, 1), (69, 7, 0), (72, 7, 4), (76, 7, 3), (83, 7, 9), (98, 7, 5)], [(11, 10, 0)], [(10, 11, 0), (19, 11, 1), (23, 11, 2), (27, 11, 3), (31, 11, 4), (37, 11, 5), (41, 11, 6), (44, 11, 7), (50, 11, 8), (57, 11, 9), (61, 11, 10), (69, 6, 0), (81, 6, 12), (88, 6, 1), (89, 6, 2), (90, 8, 0), (97, 9, 1), (100, 9, 0), (104, 7, 8), (115, 7, 9), (149, 9, 2), (152, 9, 3), (155, 9, 5), (159, 5, 1), (167, 7, 1), (170, 7, 3), (173, 7, 4), (177, 7, 5), (180, 7, 6), (183, 7, 7), (190, 9, 4), (199, 8, 1), (213, 5, 0), (232, 7, 2), (254, 4, 2), (261, 4, 3)], [], []]
def fres (n idx : Nat) : Option (Nat × Nat) := ((ftab.getD n []).find? (fun r => r.1 == idx)).map (·.2)
def ctab : List (List (Nat × Nat × Nat)) := [[(1, 9, 0), (54, 1, 169), (212, 10, 0), (335, 0, 20), (489, 2, 167), (492, 0, 21), (495, 1, 24), (549, 15, 5), (552, 5, 168), (1047, 5, 14), (1059, 1, 28)], [(1, 2, 6), (29, 6, 161), (50, 6, 12), (53, 6, 13), (137, 2, 166), (343, 6, 7)], [(3, 9, 0), (32, 0, 18), (40, 0, 20), (83, 5, 14), (100, 5, 8), (104, 5, 9), (108, 1, 26), (114, 1, 27), (191, 1, 23), (208, 5, 162), (245, 1, 16), (248, 1, 15), (397, 5, 163), (399, 0, 164)], [], [], [(150, 10, 0), (304, 13, 0), (310, 14, 0), (339, 1, 170), (343, 1, 171)], [(9, 1, 22)], [(194, 12, 0)], [], [], [(1, 9, 0), (9, 3, 86), (26, 0, 87), (34, 0, 30), (38, 4, 156)], [(3, 9, 0), (19, 10, 0), (25, 4, 155), (29, 0, 36)], [(3, 9, 0), (17, 2, 72), (24, 3, 64), (61, 13, 0), (67, 0, 73), (74, 1, 25), (80, 0, 57), (83, 0, 41), (87, 0, 52), (91, 0, 56), (95, 0, 42), (100, 0, 43), (105, 0, 44), (110, 0, 45), (115, 0, 46), (120, 0, 47), (123, 0, 53), (127, 0, 51), (134, 0, 54), (137, 0, 55), (141, 0, 78), (145, 0, 50), (148, 0, 75), (155, 0, 49), (158, 0, 48), (161, 4, 157), (164, 0, 76), (171, 0, 77), (184, 0, 35), (192, 4, 156), (195, 4, 158), (213, 4, 155), (217, 4, 159), (220, 0, 18), (224, 0, 19), (228, 0, 58), (231, 0, 59)], [(3, 9, 0), (44, 10, 0)], [(3, 9, 0), (24, 0, 67), (28, 1, 69), (32, 1, 70)], [(3, 9, 0), (33, 3, 33), (38, 3, 60), (42, 0, 61), (46, 10, 0), (52, 0, 34), (55, 0, 62), (59, 0, 65), (65, 0, 66), (79, 0, 63), (86, 0, 81), (90, 0, 82), (94, 0, 83)], [(3, 9, 0)], [(1, 9, 0), (9, 2, 72), (18, 3, 64), (36, 3, 39), (49, 2, 0), (56, 3, 29), (65, 0, 90), (73, 1, 155), (77, 0, 40), (82, 0, 92), (85, 0, 93), (93, 0, 31), (109, 10, 0), (118, 7, 150), (186, 1, 154), (193, 11, 152), (196, 7, 151), (202, 0, 67), (218, 0, 30), (222, 0, 63), (225, 1, 112), (229, 1, 111), (235, 12, 0), (241, 13, 0), (244, 7, 110), (247, 7, 109), (250, 0, 32), (257, 1, 156), (267, 0, 83), (270, 0, 84), (274, 0, 85), (277, 0, 149), (280, 7, 122), (283, 0, 148), (286, 0, 125), (289, 1, 126), (293, 1, 17), (298, 0, 80), (302, 0, 75), (307, 0, 38), (311, 0, 79), (314, 0, 131), (317, 1, 132), (321, 0, 68), (325, 0, 136), (328, 1, 137), (332, 0, 37), (339, 1, 153), (342, 1, 157), (345, 0, 76), (349, 0, 77), (353, 7, 130), (356, 0, 144), (360, 0, 35), (363, 1, 158), (366, 0, 74)], [], [(8, 0, 18), (16, 2, 0), (17, 0, 160), (23, 0, 165), (27, 0, 19), (31, 0, 89), (37, 1, 172), (43, 1, 173), (47, 1, 174), (53, 0, 1), (70, 1, 180), (73, 0, 2), (80, 1, 176), (87, 1, 181), (91, 1, 175), (94, 1, 177), (97, 1, 178), (102, 1, 179), (108, 2, 88), (109, 1, 182), (113, 1, 184), (116, 0, 91), (120, 1, 183), (124, 0, 98), (127, 0, 140), (131, 0, 141), (134, 7, 142), (137, 0, 143), (141, 0, 145), (144, 7, 123), (147, 7, 124), (150, 0, 127), (153, 0, 128), (156, 0, 146), (159, 7, 101), (162, 7, 104), (165, 7, 105), (168, 1, 188), (172, 7, 134), (175, 1, 187), (179, 7, 103), (182, 1, 189), (186, 7, 106), (189, 7, 138), (192, 0, 135), (195, 7, 107), (205, 1, 186), (209, 7, 115), (212, 7, 116), (215, 7, 114), (218, 7, 108), (221, 7, 109), (224, 7, 110), (227, 7, 113), (230, 1, 185), (234, 1, 190), (238, 1, 191), (242, 1, 192), (245, 1, 193)]]
def mres (n idx : Nat) : Option (Nat × Nat) := ((ctab.getD n []).find? (fun r => r.1 == idx)).map (·.2)
def ntab : List (List (Nat × Nat)) := [[], [(18, 0)], [], [], [], [], [], [], [], [], [(7, 10)], [], [(15, 9), (22, 8)], [], [], [(9, 7), (31, 5)], [], [(7, 9), (16, 8), (34, 6), (47, 1), (54, 4), (206, 100)], [], [(9, 0), (14, 1), (32, 11)]]
def cres (n idx : Nat) : Option Nat := ((ntab.getD n []).find? (fun r => r.1 == idx)).map (·.2)
def ktab : List (List (Nat × (Int32 ⊕ Nat))) := [[], [], [(39, .inl 2147483647)], [(265, .inl 1431655765), (266, .inl 858993459), (267, .inl 252645135)], [], [], [], [(200, .inl 2147483639)], [], [(20, .inl 1073741823)], [], [], [(90, .inr 0), (98, .inr 1), (103, .inr 2), (108, .inr 9), (113, .inr 10), (118, .inr 11), (188, .inr 12), (190, .inr 13), (201, .inr 3), (203, .inr 4), (205, .inr 5), (207, .inr 6), (209, .inr 7), (211, .inr 8)], [], [], [], [(15, .inl 40503)], [(208, .inr 17), (306, .inl 65535), (370, .inr 14), (372, .inr 16), (374, .inr 15)], [], [(7, .inl 2147483647), (21, .inr 27), (51, .inr 30), (56, .inr 18), (58, .inr 19), (60, .inr 20), (62, .inr 21), (64, .inr 22), (66, .inr 23), (68, .inr 24), (76, .inr 25), (78, .inr 26), (83, .inr 28), (85, .inr 29), (100, .inr 31), (106, .inr 32), (140, .inl 32768), (198, .inl 40503)]]
def kres (n idx : Nat) : Option (Int32 ⊕ Nat) := ((ktab.getD n []).find? (fun r => r.1 == idx)).map (·.2)
def ltab : List (List (Nat × Int64)) := [[], [], [], [], [], [], [], [], [], [], [], [], [], [], [], [], [(16, 69069), (18, 30011), (20, 2147483647)], [], [], [(199, 69069), (201, 30011), (203, 2147483647)]]
def lres (n idx : Nat) : Option Int64 := ((ltab.getD n []).find? (fun r => r.1 == idx)).map (·.2)
def stab : List (List (Nat × Nat)) := [[(38, 0), (1053, 3)], [], [(18, 0)], [(83, 2), (87, 1)], [], [], [], [], [], [(403, 2), (407, 1)], [], [], [], [], [], [], [], [], [], []]
def sres (n idx : Nat) : Option Nat := ((stab.getD n []).find? (fun r => r.1 == idx)).map (·.2)
def sval (k : Nat) : Value := match k with | 0 => .int 1 | 1 => .ref 200 | 2 => .ref 201 | _ => .ref 301
def snm (k : Nat) : String × String × String := match k with | 0 => ("java/lang/String", "COMPACT_STRINGS", "Z") | 1 => ("java/lang/Integer", "DigitTens", "[B") | 2 => ("java/lang/Integer", "DigitOnes", "[B") | _ => ("jdk/internal/util/Preconditions", "SIOOBE_FORMATTER", "Ljava/util/function/BiFunction;")
def rkl : List Nat := [0, 1, 1, 99, 99, 99, 99, 99, 99, 99, 4, 5, 6, 7, 8, 9, 10, 11, 99, 99]
/-- the kind of the receiver of a method -/
def rkd (j : Nat) : Nat := rkl.getD (mi_n (minfo j)) 99
/-- the texts that are constants, in the order of their names 0, 1 .. -/
def txts : List String := ["start", "member", "do", "put", "add", "copy", "sum", "swap", "mul", "seal", "fault", "set", "lag", "quorum", "no such member", "no such cell", "no such sealed turn", "no such fault", "put", "add", "copy", "sum", "swap", "mul", "set lag ", ";set quorum ", ";start", " ", ";", "member ", "m", "do ", "seal;"]
end
section
abbrev IOB : String := "java/lang/IndexOutOfBoundsException"
/-! the tables against the Statement's words, by the kernel -/
/-- words more: a private method of the class above, found by a receiver of the class below -/
def lwX : List Jvm.Cond := [.selects "java/lang/StringBuilder" yJ5_ensureCapacityInternal_d00df yJ5_ensureCapacityInternal_d00df, .selects "java/lang/StringBuilder" yJ5_newCapacity_0f7a4 yJ5_newCapacity_0f7a4, .selects "java/lang/StringBuilder" yJ5_putStringAt_47b60 yJ5_putStringAt_47b60, .selects "java/lang/StringBuilder" yJ5_inflateIfNeededFor_a7421 yJ5_inflateIfNeededFor_a7421]
theorem selPriv {C : String} {y z : MethodName} {s : State} {args : Array Value} {n : Nat} (hy : y.cls ≠ "java/lang/invoke/MethodHandle" ∧ y.cls ≠ "java/lang/invoke/VarHandle") (hz : z.cls = y.cls)
    (hins : (Cond.instantiable C n).before args s = true) (hpriv : (Cond.privateMethod y).before args s = true) (hinst : (Cond.instanceMethod y).before args s = true) (hsel : (Cond.selects C z z).before args s = true) :
    (Cond.selects C y y).before args s = true := by
  obtain ⟨c, k, hc, hk, -, -, -, -⟩ := Cond.instantiable_spec hins
  obtain ⟨mk, methM, hnamed, hmethM, -, -⟩ := Cond.instanceMethod_spec hinst
  obtain ⟨c2, r2, m2, q1, q2, q3, q4, kP, hkP, hkPi⟩ := Cond.selects_spec hsel
  have hfound : s.methodFound? y.cls y.name y.desc = some mk := State.methodFound?_of_named hnamed hy
  have hcls : m2.cls = mk.cls := by
    have e1 := findClass_of_methodNamed hnamed
    have e2 := findClass_of_methodNamed q3
    rw [hz] at e2
    exact Option.some.inj (e2.symm.trans e1)
  rw [hcls] at hkP
  have hsel : selectMethod {} s.vm c mk = .method mk := selectMethod_private hmethM (Cond.privateMethod_at hpriv mk methM hnamed hmethM)
  simp only [Cond.before, Cond.holds, Cond.value, hc, hfound, hnamed, hsel, hkP]
  simp; exact hkPi
theorem lwX_ok {args : Array Value} {s : State} (hts : ∀ w ∈ lw_tbl, w.before args s = true) : ∀ w ∈ lwX, w.before args s = true := by
  have h1 := hts (.instantiable "java/lang/StringBuilder" 4) (by decide +kernel)
  have h2 := hts (.selects "java/lang/StringBuilder" yJ5_isLatin1_aae02 yJ5_isLatin1_aae02) (by decide +kernel)
  intro w hw
  simp only [lwX, List.mem_cons, List.not_mem_nil, or_false] at hw
  rcases hw with rfl | rfl | rfl | rfl
  · exact selPriv (z := yJ5_isLatin1_aae02) (by decide +kernel) rfl h1 (hts _ (by decide +kernel)) (hts _ (by decide +kernel)) h2
  · exact selPriv (z := yJ5_isLatin1_aae02) (by decide +kernel) rfl h1 (hts _ (by decide +kernel)) (hts _ (by decide +kernel)) h2
  · exact selPriv (z := yJ5_isLatin1_aae02) (by decide +kernel) rfl h1 (hts _ (by decide +kernel)) (hts _ (by decide +kernel)) h2
  · exact selPriv (z := yJ5_isLatin1_aae02) (by decide +kernel) rfl h1 (hts _ (by decide +kernel)) (hts _ (by decide +kernel)) h2
def lwE : List Jvm.Cond := lwX ++ lw_tbl
theorem lwE_ok {args : Array Value} {s : State} (hts : ∀ w ∈ lw_tbl, w.before args s = true) : ∀ w ∈ lwE, w.before args s = true := fun w h => (List.mem_append.mp h).elim (lwX_ok hts w) (hts w)
def ALLG : List Jvm.Cond := lwE.filter goodWord
def inG (w : Jvm.Cond) : Bool := decide (w ∈ lwE) && goodWord w
theorem inG_mem {w : Jvm.Cond} (h : inG w = true) : w ∈ ALLG := by
  unfold inG at h
  rw [Bool.and_eq_true, decide_eq_true_eq] at h
  exact List.mem_filter.mpr h
theorem allG_good : ∀ w ∈ ALLG, goodWord w = true := fun w h => (List.mem_filter.mp h).2
def kcl (ci : Nat) : vw_C := vwCl.getD ci (RJ0, TJ0, 4)
def kds : List Nat := [0, 1, 4, 5, 6, 7, 8, 9, 10, 11]
theorem chkK : ∀ ci ∈ kds, vwCl[ci]? = some (kcl ci) ∧ (kcl ci).2.2 = cnf ci := by
  intro ci h
  simp only [kds, List.mem_cons, List.not_mem_nil, or_false] at h
  rcases h with rfl | rfl | rfl | rfl | rfl | rfl | rfl | rfl | rfl | rfl <;> exact ⟨rfl, rfl⟩
theorem chkT : ∀ ci ∈ kds, ∀ k, k < cnf ci → parseFieldDescriptor ((kcl ci).2.1 k).2.2.1 = some (fty ci k) ∧ ffin ci k = ((kcl ci).2.1 k).2.2.2 := by decide +kernel
theorem chkN : ∀ ci ∈ kds, ∀ a, a < cnf ci → ∀ b, b < cnf ci → a ≠ b → ((kcl ci).2.1 a).2.1 ≠ ((kcl ci).2.1 b).2.1 := by decide +kernel
theorem chkF : ∀ n, n < 20 → ∀ r ∈ ftab.getD n [], r.2.1 ∈ kds ∧ r.2.2 < cnf r.2.1 ∧ inG (.fieldLink (cnm.getD n "") r.1 ((kcl r.2.1).2.1 r.2.2).1 ((kcl r.2.1).2.1 r.2.2).2.1 ((kcl r.2.1).2.1 r.2.2).2.2.1) = true := by decide +kernel
theorem chkU : ∀ ci ∈ kds, ∀ w ∈ u_ws (kcl ci).1 (kcl ci).2.1 (kcl ci).2.2, inG w = true := by decide +kernel
theorem chkO : ∀ n, n < 20 → rkl.getD n 99 ∈ kds → n ∉ [1, 2] → (kcl (rkl.getD n 99)).1 = cnm.getD n "" ∧ ∀ k, k < cnf (rkl.getD n 99) → ((kcl (rkl.getD n 99)).2.1 k).1 = cnm.getD n "" := by decide +kernel
theorem chkNw : ∀ n, n < 20 → ∀ r ∈ ntab.getD n [], r.2 ≠ 100 → r.2 ∈ kds ∧ inG (.classLink (cnm.getD n "") r.1 (kcl r.2).1) = true ∧ inG (.instantiable (kcl r.2).1 (cnf r.2)) = true ∧ inG (.initialized (kcl r.2).1) = true := by decide +kernel
theorem chkKt : ∀ n, n < 20 → ∀ r ∈ ktab.getD n [], ∀ v, r.2 = .inl v → inG (.constant (cnm.getD n "") r.1 v) = true := by
  intro n hn r hr v hv
  have h : ∀ n, n < 20 → ∀ r ∈ ktab.getD n [], (match r.2 with | .inl v => inG (.constant (cnm.getD n "") r.1 v) | .inr _ => true) = true := by decide +kernel
  have h1 := h n hn r hr
  rw [hv] at h1
  exact h1
theorem chkLt : ∀ n, n < 20 → ∀ r ∈ ltab.getD n [], inG (.constantLong (cnm.getD n "") r.1 r.2) = true := by decide +kernel
theorem chkSt : ∀ n, n < 20 → ∀ r ∈ stab.getD n [], r.2 < 4 ∧ inG (.fieldLink (cnm.getD n "") r.1 (snm r.2).1 (snm r.2).2.1 (snm r.2).2.2) = true := by decide +kernel
theorem chkA : inG (.arrayClass .int) = true ∧ inG (.arrayClass .byte) = true ∧ inG (.arrayClass .boolean) = true := by decide +kernel
theorem chkCC : inG (.classLink "java/util/Arrays" 311 "[B") = true := by decide +kernel
abbrev cln : MethodName := ⟨"java/lang/Object", "clone", "()Ljava/lang/Object;"⟩
abbrev clnB : MethodName := ⟨"[B", "clone", "()Ljava/lang/Object;"⟩
/-- the word of a method's code -/
def mw (M : MI) : Jvm.Cond := match mi_hd M with
  | none => .code (mi_y M) (mi_c M) (mi_L M) (mi_rt M)
  | some (f, t, h, _, _) => .codeWith (mi_y M) (mi_c M) (mi_L M) (mi_rt M) [(f, t, h, 13)]
def ws (M : MI) : List Jvm.Cond := mw M :: ALLG
/-- the words of a call -/
def cwd (n idx k j : Nat) : List Jvm.Cond := match k with
  | 9 => [.methodLink (cnm.getD n "") idx objectInit, .instanceMethod objectInit]
  | 10 => [.methodLink (cnm.getD n "") idx arraycopyName, .native arraycopyName, .static arraycopyName, .initialized "java/lang/System"]
  | 12 => [.methodLink (cnm.getD n "") idx Lib.Math.max.name, .static Lib.Math.max.name, .initialized "java/lang/Math"]
  | 13 => [.methodLink (cnm.getD n "") idx Lib.Math.min.name, .static Lib.Math.min.name, .initialized "java/lang/Math"]
  | 14 => [.methodLink (cnm.getD n "") idx clnB, .sameMethod "[B" "java/lang/Object" "clone" "()Ljava/lang/Object;", .native cln, .instanceMethod cln, .selects "[B" clnB cln]
  | 15 => [.methodLink (cnm.getD n "") idx (mi_y (minfo 7)), .sameMethod (mi_y (minfo 7)).cls (mi_y (minfo 7)).cls (mi_y (minfo 7)).name (mi_y (minfo 7)).desc, .instanceMethod (mi_y (minfo 7)), .selects (kcl (rkd j)).1 (mi_y (minfo 7)) (mi_y (minfo j)), .instanceMethod (mi_y (minfo j)), .initialized (mi_y (minfo j)).cls]
  | 1 => [.methodLink (cnm.getD n "") idx (mi_y (minfo j)), .static (mi_y (minfo j)), .initialized (mi_y (minfo j)).cls]
  | 8 => [.methodLink (cnm.getD n "") idx (mi_y (minfo j)), .static (mi_y (minfo j)), .initialized (mi_y (minfo j)).cls]
  | 11 => [.methodLink (cnm.getD n "") idx (mi_y (minfo j)), .static (mi_y (minfo j)), .initialized (mi_y (minfo j)).cls]
  | 2 => [.methodLink (cnm.getD n "") idx (mi_y (minfo j)), .instanceMethod (mi_y (minfo j)), .initialized (mi_y (minfo j)).cls]
  | 3 => [.instanceMethod (mi_y (minfo j)), .initialized (mi_y (minfo j)).cls]
  | 4 => [.static (mi_y (minfo j)), .initialized (mi_y (minfo j)).cls]
  | 5 => [.methodLink (cnm.getD n "") idx (mi_y (minfo j)), .sameMethod (mi_y (minfo j)).cls (mi_y (minfo j)).cls (mi_y (minfo j)).name (mi_y (minfo j)).desc, .selects (kcl (rkd j)).1 (mi_y (minfo j)) (mi_y (minfo j)), .instanceMethod (mi_y (minfo j)), .initialized (mi_y (minfo j)).cls]
  | 6 => [.methodLink (cnm.getD n "") idx (mi_y (minfo j)), .sameMethod (mi_y (minfo j)).cls (mi_y (minfo j)).cls (mi_y (minfo j)).name (mi_y (minfo j)).desc, .superclass (cnm.getD n "") (mi_y (minfo j)).cls, .instanceMethod (mi_y (minfo j)), .initialized (mi_y (minfo j)).cls]
  | _ => [.methodLink (cnm.getD n "") idx (mi_y (minfo j)), .instanceMethod (mi_y (minfo j)), .selects (mi_y (minfo j)).cls (mi_y (minfo j)) (mi_y (minfo j)), .initialized (mi_y (minfo j)).cls]
/-- what else a call's kind asks of its method -/
def npar (j : Nat) : Option Nat := (parseMethodDescriptor (mi_y (minfo j)).desc).map (fun d => d.parameters.length)
def cok (k j : Nat) : Prop := match k with
  | 9 => True
  | 10 => True
  | 12 => True
  | 13 => True
  | 14 => True
  | 15 => j < 194 ∧ mi_hd (minfo j) = none ∧ (npar j).map (· + 1) = some (mi_na (minfo j)) ∧ mi_th (minfo j) = false ∧ (mi_y (minfo j)).name ≠ "<init>" ∧ rkd j ∈ kds ∧ j = 5
  | 1 => j < 194 ∧ mi_hd (minfo j) = none ∧ npar j = some (mi_na (minfo j)) ∧ mi_th (minfo j) = false
  | 4 => j < 194 ∧ mi_hd (minfo j) = none ∧ npar j = some (mi_na (minfo j)) ∧ mi_th (minfo j) = false
  | 11 => j < 194 ∧ mi_hd (minfo j) = none ∧ npar j = some (mi_na (minfo j)) ∧ mi_th (minfo j) = true
  | 8 => j < 194 ∧ (mi_hd (minfo j)).isSome = true ∧ npar j = some (mi_na (minfo j)) ∧ mi_th (minfo j) = false
  | 2 => j < 194 ∧ mi_hd (minfo j) = none ∧ (npar j).map (· + 1) = some (mi_na (minfo j)) ∧ mi_th (minfo j) = false ∧ (mi_y (minfo j)).name = "<init>" ∧ mi_rt (minfo j) = none
  | 3 => j < 194 ∧ mi_hd (minfo j) = none ∧ (npar j).map (· + 1) = some (mi_na (minfo j)) ∧ mi_th (minfo j) = false ∧ (mi_y (minfo j)).name = "<init>" ∧ mi_rt (minfo j) = none
  | 0 => j < 194 ∧ mi_hd (minfo j) = none ∧ (npar j).map (· + 1) = some (mi_na (minfo j)) ∧ mi_th (minfo j) = false ∧ (mi_y (minfo j)).name ≠ "<init>" ∧ rkd j ∈ kds ∧ (kcl (rkd j)).1 = (mi_y (minfo j)).cls
  | 7 => j < 194 ∧ mi_hd (minfo j) = none ∧ (npar j).map (· + 1) = some (mi_na (minfo j)) ∧ mi_th (minfo j) = true ∧ (mi_y (minfo j)).name ≠ "<init>" ∧ rkd j ∈ kds ∧ (kcl (rkd j)).1 = (mi_y (minfo j)).cls
  | 5 => j < 194 ∧ mi_hd (minfo j) = none ∧ (npar j).map (· + 1) = some (mi_na (minfo j)) ∧ mi_th (minfo j) = false ∧ (mi_y (minfo j)).name ≠ "<init>" ∧ rkd j ∈ kds
  | 6 => j < 194 ∧ mi_hd (minfo j) = none ∧ (npar j).map (· + 1) = some (mi_na (minfo j)) ∧ mi_th (minfo j) = false ∧ (mi_y (minfo j)).name ≠ "<init>" ∧ rkd j ∈ kds
  | _ => False
def cokd (k j : Nat) : Decidable (cok k j) := by
  unfold cok
  split <;> exact inferInstance
set_option maxRecDepth 100000 in
theorem cq_0_0 : (((ctab.getD 0 []).drop 0).take 20).flatMap (fun r => cwd 0 r.1 r.2.1 r.2.2) = [541, 82, 556, 557, 52, 497, 424, 423, 53, 460, 461, 462, 46, 538, 539, 46, 646, 647, 648, 46, 650, 651, 55, 547, 549, 548, 550, 551, 45, 542, 544, 545, 543, 44, 555, 427, 428, 426, 44, 621, 622, 54].filterMap (fun i => lwE[i]?) := rfl
set_option maxRecDepth 100000 in
theorem cq_1_0 : (((ctab.getD 1 []).drop 0).take 20).flatMap (fun r => cwd 1 r.1 r.2.1 r.2.2) = [273, 274, 44, 383, 1216, 298, 384, 44, 606, 1224, 298, 607, 44, 506, 1223, 298, 507, 44, 535, 536, 46, 553, 549, 298, 548, 44].filterMap (fun i => lwE[i]?) := rfl
set_option maxRecDepth 100000 in
theorem cq_2_0 : (((ctab.getD 2 []).drop 0).take 20).flatMap (fun r => cwd 2 r.1 r.2.1 r.2.2) = [276, 82, 456, 457, 458, 46, 473, 461, 462, 46, 425, 427, 428, 426, 44, 390, 1218, 0, 392, 44, 394, 1219, 1, 396, 44, 409, 410, 52, 398, 399, 50, 609, 610, 55, 465, 1220, 2, 467, 44, 509, 510, 57, 512, 513, 57, 469, 1221, 3, 471, 44, 493, 494, 495, 46].filterMap (fun i => lwE[i]?) := rfl
set_option maxRecDepth 100000 in
theorem cq_5_0 : (((ctab.getD 5 []).drop 0).take 20).flatMap (fun r => cwd 5 r.1 r.2.1 r.2.2) = [422, 424, 423, 53, 419, 420, 51, 412, 413, 414, 415, 416, 559, 560, 52, 562, 563, 52].filterMap (fun i => lwE[i]?) := rfl
set_option maxRecDepth 100000 in
theorem cq_6_0 : (((ctab.getD 6 []).drop 0).take 20).flatMap (fun r => cwd 6 r.1 r.2.1 r.2.2) = [653, 619, 46].filterMap (fun i => lwE[i]?) := rfl
set_option maxRecDepth 100000 in
theorem cq_7_0 : (((ctab.getD 7 []).drop 0).take 20).flatMap (fun r => cwd 7 r.1 r.2.1 r.2.2) = [401, 402, 51].filterMap (fun i => lwE[i]?) := rfl
set_option maxRecDepth 100000 in
theorem cq_10_0 : (((ctab.getD 10 []).drop 0).take 20).flatMap (fun r => cwd 10 r.1 r.2.1 r.2.2) = [304, 82, 308, 49, 837, 838, 839, 49, 833, 834, 835, 48, 812, 38].filterMap (fun i => lwE[i]?) := rfl
set_option maxRecDepth 100000 in
theorem cq_11_0 : (((ctab.getD 11 []).drop 0).take 20).flatMap (fun r => cwd 11 r.1 r.2.1 r.2.2) = [97, 82, 883, 424, 423, 53, 670, 38, 1001, 1003, 32, 40].filterMap (fun i => lwE[i]?) := rfl
set_option maxRecDepth 100000 in
theorem cq_12_0 : (((ctab.getD 12 []).drop 0).take 20).flatMap (fun r => cwd 12 r.1 r.2.1 r.2.2) = [218, 82, 220, 87, 39, 193, 42, 676, 420, 51, 677, 678, 679, 39, 681, 682, 52, 684, 686, 5, 43, 696, 698, 8, 43, 817, 819, 23, 43, 701, 703, 9, 43, 707, 709, 10, 43, 721, 723, 13, 43, 753, 755, 17, 43, 783, 785, 20, 43, 796, 798, 21, 43, 805, 807, 22, 43, 711, 713, 11, 43, 715, 717, 12, 43, 725, 727, 14, 43, 729, 731, 15, 43].filterMap (fun i => lwE[i]?) := rfl
set_option maxRecDepth 100000 in
theorem cq_12_20 : (((ctab.getD 12 []).drop 20).take 20).flatMap (fun r => cwd 12 r.1 r.2.1 r.2.2) = [736, 737, 738, 39, 740, 742, 16, 43, 744, 745, 746, 39, 757, 759, 18, 43, 761, 763, 19, 43, 772, 38, 774, 775, 776, 39, 787, 788, 789, 39, 800, 801, 802, 40, 812, 38, 815, 38, 670, 38, 734, 38, 705, 457, 458, 46, 706, 643, 644, 46, 688, 690, 6, 43, 692, 694, 7, 43].filterMap (fun i => lwE[i]?) := rfl
set_option maxRecDepth 100000 in
theorem cq_13_0 : (((ctab.getD 13 []).drop 0).take 20).flatMap (fun r => cwd 13 r.1 r.2.1 r.2.2) = [114, 82, 877, 424, 423, 53].filterMap (fun i => lwE[i]?) := rfl
set_option maxRecDepth 100000 in
theorem cq_14_0 : (((ctab.getD 14 []).drop 0).take 20).flatMap (fun r => cwd 14 r.1 r.2.1 r.2.2) = [195, 82, 987, 988, 989, 42, 991, 992, 42, 994, 995, 42].filterMap (fun i => lwE[i]?) := rfl
set_option maxRecDepth 100000 in
theorem cq_15_0 : (((ctab.getD 15 []).drop 0).take 20).flatMap (fun r => cwd 15 r.1 r.2.1 r.2.2) = [89, 82, 95, 40, 112, 41, 873, 874, 875, 41, 878, 424, 423, 53, 879, 880, 881, 40, 748, 749, 750, 41, 778, 779, 780, 42, 791, 792, 793, 42, 1032, 1033, 1034, 41, 1040, 1042, 33, 39, 1036, 1037, 1038, 39, 1048, 1029, 1030, 39].filterMap (fun i => lwE[i]?) := rfl
set_option maxRecDepth 100000 in
theorem cq_16_0 : (((ctab.getD 16 []).drop 0).take 20).flatMap (fun r => cwd 16 r.1 r.2.1 r.2.2) = [310, 82].filterMap (fun i => lwE[i]?) := rfl
set_option maxRecDepth 100000 in
theorem cq_17_0 : (((ctab.getD 17 []).drop 0).take 20).flatMap (fun r => cwd 17 r.1 r.2.1 r.2.2) = [81, 82, 86, 87, 39, 193, 42, 216, 43, 270, 271, 45, 302, 48, 661, 663, 4, 38, 669, 670, 38, 672, 673, 674, 43, 821, 823, 24, 38, 825, 827, 25, 38, 829, 830, 831, 48, 845, 424, 423, 53, 898, 900, 28, 38, 1094, 1095, 38, 1105, 1106, 38, 1127, 1129, 35, 38, 1136, 988, 989, 42, 1167, 834, 835, 48, 1191, 1033, 1034, 41].filterMap (fun i => lwE[i]?) := rfl
set_option maxRecDepth 100000 in
theorem cq_17_20 : (((ctab.getD 17 []).drop 20).take 20).flatMap (fun r => cwd 17 r.1 r.2.1 r.2.2) = [1200, 1201, 38, 1203, 1204, 38, 978, 402, 51, 868, 420, 51, 1214, 1207, 1208, 38, 1215, 1197, 1198, 38, 1057, 1058, 1059, 48, 1065, 812, 38, 1028, 1029, 1030, 39, 1044, 1045, 1046, 39, 1049, 1050, 1051, 39, 856, 858, 26, 38, 1024, 1025, 1026, 38, 864, 866, 27, 38, 1053, 1055, 34, 38, 1062, 1063, 38, 1066, 1067, 57, 971, 972, 973, 39, 1080, 745, 746, 39, 1006, 1007, 1008, 40].filterMap (fun i => lwE[i]?) := rfl
set_option maxRecDepth 100000 in
theorem cq_17_40 : (((ctab.getD 17 []).drop 40).take 20).flatMap (fun r => cwd 17 r.1 r.2.1 r.2.2) = [1086, 1087, 1088, 39, 967, 969, 30, 38, 975, 976, 38, 983, 984, 985, 42, 1153, 1155, 36, 38, 1157, 1158, 38, 997, 998, 999, 40, 860, 861, 38, 863, 772, 38, 884, 775, 776, 39, 889, 788, 789, 39, 894, 895, 896, 38, 979, 981, 31, 38, 1019, 801, 802, 40, 1097, 815, 38, 869, 870, 871, 39].filterMap (fun i => lwE[i]?) := rfl
set_option maxRecDepth 100000 in
theorem cq_19_0 : (((ctab.getD 19 []).drop 0).take 20).flatMap (fun r => cwd 19 r.1 r.2.1 r.2.2) = [641, 457, 458, 46, 377, 271, 45, 379, 380, 381, 45, 529, 530, 531, 45, 642, 643, 644, 46, 657, 658, 659, 38, 66, 67, 37, 69, 70, 37, 594, 595, 37, 602, 603, 604, 45, 499, 500, 37, 502, 503, 504, 45, 590, 591, 37, 598, 599, 37, 624, 625, 37, 627, 628, 37, 630, 631, 37, 634, 635, 37, 78, 79, 38, 365, 366, 37].filterMap (fun i => lwE[i]?) := rfl
set_option maxRecDepth 100000 in
theorem cq_19_20 : (((ctab.getD 19 []).drop 20).take 20).flatMap (fun r => cwd 19 r.1 r.2.1 r.2.2) = [638, 639, 37, 665, 666, 667, 38, 846, 847, 37, 62, 63, 64, 38, 852, 853, 854, 38, 885, 886, 887, 38, 890, 891, 892, 38, 1010, 1011, 1012, 38, 1015, 1016, 1017, 38, 1020, 1021, 1022, 38, 1072, 1073, 1074, 38, 1076, 1077, 1078, 38, 1082, 1083, 1084, 38, 1090, 1091, 1092, 38, 1112, 1113, 1114, 38, 1123, 1124, 1125, 38, 1132, 1133, 1134, 38, 1137, 1138, 37, 1101, 1102, 1103, 38, 1109, 1110, 37].filterMap (fun i => lwE[i]?) := rfl
set_option maxRecDepth 100000 in
theorem cq_19_40 : (((ctab.getD 19 []).drop 40).take 20).flatMap (fun r => cwd 19 r.1 r.2.1 r.2.2) = [1116, 1117, 1118, 38, 1120, 1121, 37, 1140, 1141, 1142, 38, 1145, 1146, 1147, 38, 1149, 1150, 1151, 38, 1163, 1164, 1165, 38, 1172, 1173, 37, 1175, 1176, 1177, 38, 1179, 1180, 1181, 38, 1183, 1184, 1185, 38, 1187, 1188, 1189, 38, 1196, 1197, 1198, 38, 1206, 1207, 1208, 38, 1210, 1211, 1212, 38, 73, 74, 37, 1098, 1099, 37, 1160, 1161, 37, 1193, 1194, 37, 849, 850, 37].filterMap (fun i => lwE[i]?) := rfl
theorem cq_key {n b B : Nat} {is : List Nat} (h : (((ctab.getD n []).drop b).take B).flatMap (fun r => cwd n r.1 r.2.1 r.2.2) = is.filterMap (fun i => lwE[i]?)) : ∀ r ∈ ((ctab.getD n []).drop b).take B, ∀ w ∈ cwd n r.1 r.2.1 r.2.2, w ∈ lwE := by
  intro r hr w hw
  have h1 : w ∈ (((ctab.getD n []).drop b).take B).flatMap (fun r => cwd n r.1 r.2.1 r.2.2) := List.mem_flatMap.mpr ⟨r, hr, hw⟩
  rw [h] at h1
  obtain ⟨i, -, hi⟩ := List.mem_filterMap.mp h1
  exact List.mem_of_getElem? hi
theorem chkCm : ∀ n, n < 20 → ∀ r ∈ ctab.getD n [], ∀ w ∈ cwd n r.1 r.2.1 r.2.2, w ∈ lwE := by
  intro n hn r hr
  have hc : n = 0 ∨ n = 1 ∨ n = 2 ∨ n = 3 ∨ n = 4 ∨ n = 5 ∨ n = 6 ∨ n = 7 ∨ n = 8 ∨ n = 9 ∨ n = 10 ∨ n = 11 ∨ n = 12 ∨ n = 13 ∨ n = 14 ∨ n = 15 ∨ n = 16 ∨ n = 17 ∨ n = 18 ∨ n = 19 := by omega
  rcases hc with rfl | rfl | rfl | rfl | rfl | rfl | rfl | rfl | rfl | rfl | rfl | rfl | rfl | rfl | rfl | rfl | rfl | rfl | rfl | rfl
  · have hh : ctab.getD 0 [] = ((ctab.getD 0 []).drop 0).take 20 := rfl
    rw [hh] at hr
    exact cq_key cq_0_0 r hr
  · have hh : ctab.getD 1 [] = ((ctab.getD 1 []).drop 0).take 20 := rfl
    rw [hh] at hr
    exact cq_key cq_1_0 r hr
  · have hh : ctab.getD 2 [] = ((ctab.getD 2 []).drop 0).take 20 := rfl
    rw [hh] at hr
    exact cq_key cq_2_0 r hr
  · exact absurd hr (by simp [ctab])
  · exact absurd hr (by simp [ctab])
  · have hh : ctab.getD 5 [] = ((ctab.getD 5 []).drop 0).take 20 := rfl
    rw [hh] at hr
    exact cq_key cq_5_0 r hr
  · have hh : ctab.getD 6 [] = ((ctab.getD 6 []).drop 0).take 20 := rfl
    rw [hh] at hr
    exact cq_key cq_6_0 r hr
  · have hh : ctab.getD 7 [] = ((ctab.getD 7 []).drop 0).take 20 := rfl
    rw [hh] at hr
    exact cq_key cq_7_0 r hr
  · exact absurd hr (by simp [ctab])
  · exact absurd hr (by simp [ctab])
  · have hh : ctab.getD 10 [] = ((ctab.getD 10 []).drop 0).take 20 := rfl
    rw [hh] at hr
    exact cq_key cq_10_0 r hr
  · have hh : ctab.getD 11 [] = ((ctab.getD 11 []).drop 0).take 20 := rfl
    rw [hh] at hr
    exact cq_key cq_11_0 r hr
  · have hh : ctab.getD 12 [] = ((ctab.getD 12 []).drop 0).take 20 ++ ((ctab.getD 12 []).drop 20).take 20 := rfl
    rw [hh] at hr
    simp only [List.mem_append] at hr
    rcases hr with hr | hr
    · exact cq_key cq_12_0 r hr
    · exact cq_key cq_12_20 r hr
  · have hh : ctab.getD 13 [] = ((ctab.getD 13 []).drop 0).take 20 := rfl
    rw [hh] at hr
    exact cq_key cq_13_0 r hr
  · have hh : ctab.getD 14 [] = ((ctab.getD 14 []).drop 0).take 20 := rfl
    rw [hh] at hr
    exact cq_key cq_14_0 r hr
  · have hh : ctab.getD 15 [] = ((ctab.getD 15 []).drop 0).take 20 := rfl
    rw [hh] at hr
    exact cq_key cq_15_0 r hr
  · have hh : ctab.getD 16 [] = ((ctab.getD 16 []).drop 0).take 20 := rfl
    rw [hh] at hr
    exact cq_key cq_16_0 r hr
  · have hh : ctab.getD 17 [] = ((ctab.getD 17 []).drop 0).take 20 ++ ((ctab.getD 17 []).drop 20).take 20 ++ ((ctab.getD 17 []).drop 40).take 20 := rfl
    rw [hh] at hr
    simp only [List.mem_append] at hr
    rcases hr with (hr | hr) | hr
    · exact cq_key cq_17_0 r hr
    · exact cq_key cq_17_20 r hr
    · exact cq_key cq_17_40 r hr
  · exact absurd hr (by simp [ctab])
  · have hh : ctab.getD 19 [] = ((ctab.getD 19 []).drop 0).take 20 ++ ((ctab.getD 19 []).drop 20).take 20 ++ ((ctab.getD 19 []).drop 40).take 20 := rfl
    rw [hh] at hr
    simp only [List.mem_append] at hr
    rcases hr with (hr | hr) | hr
    · exact cq_key cq_19_0 r hr
    · exact cq_key cq_19_20 r hr
    · exact cq_key cq_19_40 r hr
theorem chkCg : ∀ n, n < 20 → ∀ r ∈ ctab.getD n [], (cwd n r.1 r.2.1 r.2.2).all goodWord = true := by decide +kernel
theorem chkC : ∀ n, n < 20 → ∀ r ∈ ctab.getD n [], ∀ w ∈ cwd n r.1 r.2.1 r.2.2, w ∈ ALLG := fun n hn r hr w hw => List.mem_filter.mpr ⟨chkCm n hn r hr w hw, List.all_eq_true.mp (chkCg n hn r hr) w hw⟩
theorem chkC2 : ∀ n, n < 20 → ∀ r ∈ ctab.getD n [], @decide (cok r.2.1 r.2.2) (cokd r.2.1 r.2.2) = true := by decide +kernel
theorem chkM : ∀ M ∈ mtab, plainName (mi_y M).cls = true ∧ ((mi_y M).cls ≠ "java/lang/invoke/MethodHandle" ∧ (mi_y M).cls ≠ "java/lang/invoke/VarHandle") ∧ cnm.getD (mi_n M) "" = (mi_y M).cls ∧ mi_n M < 20 ∧ mi_na M ≤ mi_L M ∧ mi_L M ≤ 16 := by decide +kernel
theorem chkX : (vx_atS "LockstepRoom" 210 IOB ["java/lang/RuntimeException", "java/lang/Exception"]).all (fun w => inG w || w == .castable IOB IOB || w == .declares (Bundle.initS "java/lang/RuntimeException") || w == .declares (Bundle.initS "java/lang/Exception") || w == .declares (Bundle.initS "java/lang/Throwable")) = true := by decide +kernel
theorem chkX2 : inG (.classLink "LockstepRoom" 206 IOB) = true ∧ inG (.initialized IOB) = true := by decide +kernel
set_option maxRecDepth 100000 in
theorem cm_0 : ((mtab.drop 0).take 25).map mw = [272, 605, 505, 459, 459, 552, 275, 554, 393, 397, 459, 459, 608, 508, 429, 514, 511, 1068, 459, 645, 463, 649, 620, 611, 652].filterMap (fun i => lwE[i]?) := rfl
set_option maxRecDepth 100000 in
theorem cm_25 : ((mtab.drop 25).take 25).map mw = [683, 411, 400, 623, 303, 836, 832, 1060, 96, 882, 803, 1004, 1000, 1009, 217, 675, 699, 710, 724, 756, 786, 799, 808, 764, 760].filterMap (fun i => lwE[i]?) := rfl
set_option maxRecDepth 100000 in
theorem cm_50 : ((mtab.drop 50).take 25).map mw = [743, 718, 820, 714, 728, 732, 704, 687, 691, 695, 113, 876, 751, 1035, 194, 781, 794, 990, 986, 993, 996, 459, 88, 680, 872].filterMap (fun i => lwE[i]?) := rfl
set_option maxRecDepth 100000 in
theorem cm_75 : ((mtab.drop 75).take 25).map mw = [747, 777, 790, 739, 1089, 974, 1043, 1039, 1031, 1047, 1052, 309, 840, 80, 660, 664, 668, 824, 828, 459, 459, 459, 459, 65, 459].filterMap (fun i => lwE[i]?) := rfl
set_option maxRecDepth 100000 in
theorem cm_100 : ((mtab.drop 100).take 25).map mw = [459, 1115, 459, 1119, 1126, 1135, 1143, 1166, 1190, 1199, 1209, 1205, 1202, 1213, 1186, 1178, 1182, 459, 459, 459, 459, 459, 1027, 1023, 1075].filterMap (fun i => lwE[i]?) := rfl
set_option maxRecDepth 100000 in
theorem cm_125 : ((mtab.drop 125).take 25).map mw = [1056, 1064, 1079, 1085, 459, 897, 970, 977, 459, 1104, 1152, 1156, 1159, 1148, 459, 855, 888, 893, 1013, 982, 1018, 1093, 459, 867, 859].filterMap (fun i => lwE[i]?) := rfl
set_option maxRecDepth 100000 in
theorem cm_150 : ((mtab.drop 150).take 25).map mw = [901, 1130, 1107, 862, 1096, 671, 813, 773, 816, 735, 382, 385, 468, 472, 496, 532, 537, 540, 546, 558, 561, 564, 68, 71, 596].filterMap (fun i => lwE[i]?) := rfl
set_option maxRecDepth 100000 in
theorem cm_175 : ((mtab.drop 175).take 19).map mw = [626, 592, 629, 632, 636, 501, 600, 367, 848, 640, 75, 1174, 1111, 1139, 1122, 1100, 1162, 1195, 851].filterMap (fun i => lwE[i]?) := rfl
set_option maxRecDepth 100000 in
theorem mtab_len : mtab.length = 195 := by decide +kernel
theorem chkW : ∀ j, j < 194 → mw (minfo j) ∈ ALLG := by
  intro j hj
  have key : ∀ (b n : Nat) (is : List Nat), ((mtab.drop b).take n).map mw = is.filterMap (fun i => lwE[i]?) → ∀ j, b ≤ j → j < b + n → j < mtab.length → mw (minfo j) ∈ lwE := by
    intro b n is h j h1 h2 h3
    have h4 : ((mtab.drop b).take n)[j - b]? = some (minfo j) := by
      rw [List.getElem?_take_of_lt (by omega), List.getElem?_drop, show b + (j - b) = j by omega, List.getElem?_eq_getElem h3]
      simp [minfo, List.getD, List.getElem?_eq_getElem h3]
    have h5 : mw (minfo j) ∈ ((mtab.drop b).take n).map mw := List.mem_map.mpr ⟨_, List.mem_of_getElem? h4, rfl⟩
    rw [h] at h5
    obtain ⟨i, -, hi⟩ := List.mem_filterMap.mp h5
    exact List.mem_of_getElem? hi
  have hl : mtab.length = 195 := mtab_len
  have hm : mw (minfo j) ∈ lwE := by
    have hc : (0 ≤ j ∧ j < 0 + 25) ∨ (25 ≤ j ∧ j < 25 + 25) ∨ (50 ≤ j ∧ j < 50 + 25) ∨ (75 ≤ j ∧ j < 75 + 25) ∨ (100 ≤ j ∧ j < 100 + 25) ∨ (125 ≤ j ∧ j < 125 + 25) ∨ (150 ≤ j ∧ j < 150 + 25) ∨ (175 ≤ j ∧ j < 175 + 19) := by omega
    rcases hc with h | h | h | h | h | h | h | h
    · exact key _ _ _ cm_0 j h.1 h.2 (by omega)
    · exact key _ _ _ cm_25 j h.1 h.2 (by omega)
    · exact key _ _ _ cm_50 j h.1 h.2 (by omega)
    · exact key _ _ _ cm_75 j h.1 h.2 (by omega)
    · exact key _ _ _ cm_100 j h.1 h.2 (by omega)
    · exact key _ _ _ cm_125 j h.1 h.2 (by omega)
    · exact key _ _ _ cm_150 j h.1 h.2 (by omega)
    · exact key _ _ _ cm_175 j h.1 h.2 (by omega)
  refine List.mem_filter.mpr ⟨hm, ?_⟩
  unfold mw
  split <;> rfl
end
section
/-! THE SMALL MACHINE: a pure reading of the bytecode over a heap of numbers; 'E' is the least predicate closed under its steps. Names below 1000 are things that are only read. -/
abbrev Mu : Type := Nat × (Nat → Nat × Nat) × (Nat → Nat → Int32) × (Nat → Nat → Int64) × (Nat → Nat → Option Nat)
def mX (μ : Mu) : Nat := μ.1
def mS (μ : Mu) (a : Nat) : Nat × Nat := μ.2.1 a
def mI (μ : Mu) (a k : Nat) : Int32 := μ.2.2.1 a k
def mJ (μ : Mu) (a k : Nat) : Int64 := μ.2.2.2.1 a k
def mR (μ : Mu) (a k : Nat) : Option Nat := μ.2.2.2.2 a k
def uI (μ : Mu) (a k : Nat) (v : Int32) : Mu := (μ.1, μ.2.1, (fun b j => if b = a ∧ j = k then v else μ.2.2.1 b j), μ.2.2.2.1, μ.2.2.2.2)
def uA (μ : Mu) (a : Nat) (f : Nat → Int32) : Mu := (μ.1, μ.2.1, (fun b j => if b = a then f j else μ.2.2.1 b j), μ.2.2.2.1, μ.2.2.2.2)
def uJ (μ : Mu) (a k : Nat) (v : Int64) : Mu := (μ.1, μ.2.1, μ.2.2.1, (fun b j => if b = a ∧ j = k then v else μ.2.2.2.1 b j), μ.2.2.2.2)
def uR (μ : Mu) (a k : Nat) (v : Option Nat) : Mu := (μ.1, μ.2.1, μ.2.2.1, μ.2.2.2.1, (fun b j => if b = a ∧ j = k then v else μ.2.2.2.2 b j))
def uX (μ : Mu) (n : Nat) : Mu := (n, μ.2)
/-- a new thing of kind k, n places, at the next name -/
def uN (μ : Mu) (k n : Nat) : Mu := (μ.1 + 1, (fun b => if b = μ.1 then (k, n) else μ.2.1 b), (fun b j => if b = μ.1 then 0 else μ.2.2.1 b j), (fun b j => if b = μ.1 then 0 else μ.2.2.2.1 b j), (fun b j => if b = μ.1 then none else μ.2.2.2.2 b j))
abbrev LV : Type := List (Option Value)
abbrev Out : Type := Option (Option Value)
abbrev Po : Type := Out → Mu → Prop
def onR (o : Option Nat) (P : Nat → Prop) : Prop := match o with | some b => P b | none => False
def pV (st : List Value) (f : Value → List Value → Prop) : Prop := match st with | v :: r => f v r | [] => False
def pI (st : List Value) (f : Int32 → List Value → Prop) : Prop := match st with | .int x :: r => f x r | _ => False
def pL (st : List Value) (f : Int64 → List Value → Prop) : Prop := match st with | .long x :: r => f x r | _ => False
def pD (st : List Value) (f : UInt64 → List Value → Prop) : Prop := match st with | .double x :: r => f x r | _ => False
def pA (st : List Value) (f : Nat → List Value → Prop) : Prop := match st with | .ref x :: r => f x r | _ => False
def lI (ls : LV) (i : Nat) (f : Int32 → Prop) : Prop := match ls.getD i none with | some (.int x) => f x | _ => False
def lA (ls : LV) (i : Nat) (f : Nat → Prop) : Prop := match ls.getD i none with | some (.ref x) => f x | _ => False
def lL (ls : LV) (i : Nat) (f : Int64 → Prop) : Prop := match ls.getD i none with | some (.long x) => f x | _ => False
def lD (ls : LV) (i : Nat) (f : UInt64 → Prop) : Prop := match ls.getD i none with | some (.double x) => f x | _ => False
def fixL (o : Option Value) : Option Value := match o with | some (.long _) => none | some (.double _) => none | o => o
/-- a store of one slot; in a method with longs or doubles among its locals (w) a half that it hits is forgotten -/
def sL1 (w : Bool) (ls : LV) (i : Nat) (v : Value) : LV := match w with
  | false => ls.set i (some v)
  | true => (match i with | 0 => ls | k + 1 => ls.set k (fixL (ls.getD k none))).set i (some v)
def sL2 (ls : LV) (i : Nat) (v : Value) : LV := ((match i with | 0 => ls | k + 1 => ls.set k (fixL (ls.getD k none))).set i (some v)).set (i + 1) none
def oki (i L : Nat) (P : Prop) : Prop := match Nat.blt i L with | true => P | false => False
def tgt (pc : Nat) (off : Int) (f : Nat → Prop) : Prop := match (pc : Int) + off with | .ofNat t => f t | .negSucc _ => False
def cnd (c : ClassFile.Cond) (x y : Int32) : Prop := match c with | .eq => x = y | .ne => ¬ x = y | .lt => x < y | .ge => y ≤ x | .gt => y < x | .le => x ≤ y
/-- the branch in which a condition has been met, or not -/
def brn (c : ClassFile.Cond) (x y : Int32) (A B : Prop) : Prop := match c with
  | .eq => (x = y → A) ∧ (¬ x = y → B)
  | .ne => (x = y → B) ∧ (¬ x = y → A)
  | .lt => (x < y → A) ∧ (¬ x < y → B)
  | .ge => (y ≤ x → A) ∧ (¬ y ≤ x → B)
  | .gt => (y < x → A) ∧ (¬ y < x → B)
  | .le => (x ≤ y → A) ∧ (¬ x ≤ y → B)
def tsw (pc : Nat) (d lo hi : Int) (offs : Array Int) (x : Int32) (f : Nat → Prop) : Prop :=
  (x.toInt < lo ∨ hi < x.toInt → tgt pc d f) ∧ (¬ x.toInt < lo → ¬ hi < x.toInt → match offs[(x.toInt - lo).toNat]? with | some off => tgt pc off f | none => False)
/-- what a small type keeps -/
def okT (ty : FieldType) (v : Int32) : Prop := match ty with | .int => True | .boolean => v = 0 ∨ v = 1 | .byte => v.toInt8.toInt32 = v | .char => (v.toUInt32 % 65536).toInt32 = v | _ => False
/-- pure steps of the operand stack -/
def sop (ins : Instr) (st : List Value) (f : List Value → Prop) : Prop := match ins with
  | .iconst k => f (.int (Int32.ofInt k) :: st)
  | .bipush k => f (.int (Int8.ofInt k).toInt32 :: st)
  | .sipush k => f (.int (Int16.ofInt k).toInt32 :: st)
  | .lconst k => f (.long (Int64.ofNat k) :: st)
  | .dconst k => match k with | 0 => f (.double FP.dconst0 :: st) | _ => False
  | .aconst_null => f (.null :: st)
  | .iadd => pI st fun y r => pI r fun x r => f (.int (x + y) :: r)
  | .isub => pI st fun y r => pI r fun x r => f (.int (x - y) :: r)
  | .imul => pI st fun y r => pI r fun x r => f (.int (x * y) :: r)
  | .iand => pI st fun y r => pI r fun x r => f (.int (x &&& y) :: r)
  | .ior => pI st fun y r => pI r fun x r => f (.int (x ||| y) :: r)
  | .idiv => pI st fun y r => pI r fun x r => ¬ y = 0 ∧ f (.int (x / y) :: r)
  | .irem => pI st fun y r => pI r fun x r => ¬ y = 0 ∧ f (.int (x - x / y * y) :: r)
  | .ineg => pI st fun x r => f (.int (-x) :: r)
  | .ishl => pI st fun y r => pI r fun x r => f (.int (x <<< (y &&& 31)) :: r)
  | .ishr => pI st fun y r => pI r fun x r => f (.int (x >>> (y &&& 31)) :: r)
  | .iushr => pI st fun y r => pI r fun x r => f (.int (x.toUInt32 >>> (y.toUInt32 &&& Int32.toUInt32 31)).toInt32 :: r)
  | .ladd => pL st fun y r => pL r fun x r => f (.long (x + y) :: r)
  | .lmul => pL st fun y r => pL r fun x r => f (.long (x * y) :: r)
  | .lrem => pL st fun y r => pL r fun x r => ¬ y = 0 ∧ f (.long (x - x / y * y) :: r)
  | .lcmp => pL st fun y r => pL r fun x r => f (.int (lg_cmp x y) :: r)
  | .i2l => pI st fun x r => f (.long x.toInt64 :: r)
  | .l2i => pL st fun x r => f (.int x.toInt32 :: r)
  | .i2b => pI st fun x r => f (.int x.toInt8.toInt32 :: r)
  | .i2c => pI st fun x r => f (.int (x.toUInt32 % 65536).toInt32 :: r)
  | .i2d => pI st fun x r => f (.double (FP.i2d x) :: r)
  | .ddiv => pD st fun y r => pD r fun x r => vf_n64 (FP.ddiv x y) ∧ f (.double (FP.ddiv x y) :: r)
  | .dcmp op => pD st fun y r => pD r fun x r => f (.int (Op.cmpValue (FP.dcmp x y) op) :: r)
  | .dup => pV st fun v r => match v with | .int x => f (.int x :: .int x :: r) | .ref x => f (.ref x :: .ref x :: r) | _ => False
  | .pop => pV st fun v r => match v with | .int _ => f r | .ref _ => f r | _ => False
  | .dup_x1 => pI st fun x r => pA r fun y r => f (.int x :: .ref y :: .int x :: r)
  | .dup2 => pI st fun x r => pA r fun y r => f (.int x :: .ref y :: .int x :: .ref y :: r)
  | _ => False
def isSop (ins : Instr) : Bool := match ins with
  | .iconst _ | .bipush _ | .sipush _ | .lconst _ | .dconst _ | .aconst_null | .iadd | .isub | .imul | .iand | .ior | .idiv | .irem | .ineg | .ishl | .ishr | .iushr | .ladd | .lmul | .lrem | .lcmp | .i2l | .l2i | .i2b | .i2c | .i2d | .ddiv | .dcmp _ | .dup | .pop | .dup_x1 | .dup2 => true
  | _ => false
/-- the length that an instruction has -/
def ilen (ins : Instr) (n : Nat) : Bool := match ins with
  | .bipush _ | .iload _ | .aload _ | .lload _ | .dload _ | .istore _ | .astore _ | .lstore _ | .dstore _ | .newarray _ | .ldc _ => n == 2
  | .sipush _ | .iinc _ _ | .ifCond _ _ | .if_icmp _ _ | .ifnonnull _ | .checkcast _ | .goto _ | .getfield _ | .putfield _ | .getstatic _ | .new _ | .anewarray _ | .ldc_w _ | .ldc2_w _ | .invokevirtual _ | .invokespecial _ | .invokestatic _ => n == 3
  | .tableswitch _ _ _ _ => true
  | _ => n == 1
abbrev uad (u v : Nat × Nat) : Nat × Nat := (u.1 + v.1, u.2 + v.2)
def ule (u v : Nat × Nat) : Prop := u.1 ≤ v.1 ∧ u.2 ≤ v.2
def ent (args : List Value) (n : Nat) : LV := args.map some ++ List.replicate (n - args.length) none
/-- behind a call -/
def kC (X : List Value → Mu → Prop) (rest : List Value) (T : Mu → Prop) : Po := fun o μ => match o with
  | some (some v) => X (v :: rest) μ
  | some none => X rest μ
  | none => T μ
theorem kC_v (X : List Value → Mu → Prop) (rest : List Value) (T : Mu → Prop) (v : Value) (μ : Mu) : kC X rest T (some (some v)) μ = X (v :: rest) μ := rfl
theorem kC_n (X : List Value → Mu → Prop) (rest : List Value) (T : Mu → Prop) (μ : Mu) : kC X rest T (some none) μ = X rest μ := rfl
theorem kC_t (X : List Value → Mu → Prop) (rest : List Value) (T : Mu → Prop) (μ : Mu) : kC X rest T none μ = T μ := rfl
/-- what becomes of a throw that comes at pc: to the handler, or out -/
def thr (M : MI) (Q : Po) (X : Nat → LV → List Value → Mu → Nat × Nat → Prop) (pc : Nat) (ls : LV) (u : Nat × Nat) (μ : Mu) : Prop := match mi_hd M with
  | some (f, t, _, h, k) => f ≤ pc ∧ pc < t ∧ ls.getD k none = none ∧ X h ls [] μ u
  | none => mi_th M = true ∧ ule u (mi_al M) ∧ Q none μ
/-- "throw new E(text)", as it stands in the code -/
def thc (M : MI) (pc : Nat) : Prop := ∃ (i k : Nat), mi_n M = 17 ∧ decode (mi_c M) (pc + 3) = .ok (.dup, 1) ∧ ((decode (mi_c M) (pc + 4) = .ok (.ldc i, 2) ∧ decode (mi_c M) (pc + 6) = .ok (.invokespecial 210, 3) ∧ decode (mi_c M) (pc + 9) = .ok (.athrow, 1)) ∨ (decode (mi_c M) (pc + 4) = .ok (.ldc_w i, 3) ∧ decode (mi_c M) (pc + 7) = .ok (.invokespecial 210, 3) ∧ decode (mi_c M) (pc + 10) = .ok (.athrow, 1))) ∧ kres (mi_n M) i = some (.inr k)
/-- a final field is written in its class's constructor alone -/
def pfo (M : MI) (ci k : Nat) : Bool := !(ffin ci k) || ((mi_y M).name == "<init>" && rkl.getD (mi_n M) 99 == ci)
/-- the receiver of a virtual call is of the class that the method names -/
def rcv (j : Nat) (st : List Value) (μ : Mu) : Prop := match st.drop (mi_na (minfo j) - 1) with | .ref a :: _ => mS μ a = (rkd j, cnf (rkd j)) | _ => False
/-- the receiver of a constructor is a thing -/
def rcq (j : Nat) (st : List Value) : Prop := match st.drop (mi_na (minfo j) - 1) with | .ref _ :: _ => True | _ => False
section Step
variable (ev : Nat → List Value → Mu → Po → Prop) (M : MI) (Q : Po) (X : Nat → LV → List Value → Mu → Nat × Nat → Prop)
/-- the law's own methods; those of String -/
def isL (M : MI) : Bool := mi_n M == 19
def isS (M : MI) : Bool := mi_n M == 0
def chg (M : MI) (μ μ2 : Mu) (u al : Nat × Nat) : Nat × Nat := match isL M with
  | true => if mX μ2 = mX μ then u else uad u al
  | false => uad u al
def cal (j : Nat) (pc : Nat) (ls : LV) (st : List Value) (μ : Mu) (u : Nat × Nat) : Prop :=
  (((st.drop (mi_na (minfo j))).map fun v => v.category).sum ≤ 8) ∧ mi_na (minfo j) ≤ st.length ∧ ule (uad u (mi_al (minfo j))) (mi_al M) ∧
  ev j (st.take (mi_na (minfo j))).reverse μ (kC (fun s2 μ2 => X (pc + 3) ls s2 μ2 (chg M μ μ2 u (mi_al (minfo j)))) (st.drop (mi_na (minfo j))) (thr M Q X pc ls (uad u (mi_al (minfo j)))))
def inv (idx : Nat) (kind : Nat) (pc : Nat) (ls : LV) (st : List Value) (μ : Mu) (u : Nat × Nat) : Prop := match mres (mi_n M) idx with
  | some (k, j) => match kind, k with
    | 2, 9 => pA st fun _ r => (r.map fun v => v.category).sum ≤ 8 ∧ X (pc + 3) ls r μ u
    | 1, 10 => pI st fun n r => pI r fun dp r => pA r fun a r => pI r fun sp r => pA r fun b r => 1000 ≤ a ∧ (r.map fun v => v.category).sum ≤ 8 ∧ ((mS μ a).1 = 20 ∧ (mS μ b).1 = 20 ∨ (mS μ a).1 = 21 ∧ (mS μ b).1 = 21) ∧ (match isS M with | true => ∀ i, (mI μ b i).toInt8.toInt32 = mI μ b i | false => 1000 ≤ b) ∧ ¬ sp < 0 ∧ ¬ dp < 0 ∧ ¬ n < 0 ∧ sp.toNatClampNeg + n.toNatClampNeg ≤ (mS μ b).2 ∧ dp.toNatClampNeg + n.toNatClampNeg ≤ (mS μ a).2 ∧ X (pc + 3) ls r (uA μ a (va_cpy (mI μ b) (mI μ a) sp.toNatClampNeg dp.toNatClampNeg n.toNatClampNeg)) u
    | 0, 14 => pA st fun a r => (r.map fun v => v.category).sum ≤ 8 ∧ mi_n M = 5 ∧ 1000 ≤ a ∧ (mS μ a).1 = 21 ∧ ule (uad u (1, (mS μ a).2)) (mi_al M) ∧ X (pc + 3) ls (.ref (mX μ) :: r) (uA (uN μ 21 (mS μ a).2) (mX μ) (mI μ a)) (uad u (1, (mS μ a).2))
    | 0, 15 => rcv j st μ ∧ cal ev M Q X j pc ls st μ u
    | 1, 12 => pI st fun y r => pI r fun x r => (r.map fun v => v.category).sum ≤ 8 ∧ X (pc + 3) ls (.int (if x < y then y else x) :: r) μ u
    | 1, 13 => pI st fun y r => pI r fun x r => (r.map fun v => v.category).sum ≤ 8 ∧ X (pc + 3) ls (.int (if y < x then y else x) :: r) μ u
    | 1, 1 => cal ev M Q X j pc ls st μ u
    | 1, 4 => cal ev M Q X j pc ls st μ u
    | 1, 8 => cal ev M Q X j pc ls st μ u
    | 1, 11 => cal ev M Q X j pc ls st μ u
    | 2, 2 => rcq j st ∧ cal ev M Q X j pc ls st μ u
    | 2, 3 => rcq j st ∧ cal ev M Q X j pc ls st μ u
    | 0, 0 => rcv j st μ ∧ cal ev M Q X j pc ls st μ u
    | 0, 5 => rcv j st μ ∧ cal ev M Q X j pc ls st μ u
    | 0, 7 => rcv j st μ ∧ cal ev M Q X j pc ls st μ u
    | 2, 6 => rcv j st μ ∧ cal ev M Q X j pc ls st μ u
    | _, _ => False
  | none => False
def getf (ci k : Nat) (a : Nat) (pc : Nat) (ls : LV) (r : List Value) (μ : Mu) (u : Nat × Nat) : Prop := mS μ a = (ci, cnf ci) ∧ (match fref ci k with
  | true => onR (mR μ a k) fun b => X (pc + 3) ls (.ref b :: r) μ u
  | false => X (pc + 3) ls (.int (mI μ a k) :: r) μ u)
def putf (ci k : Nat) (a : Nat) (v : Value) (pc : Nat) (ls : LV) (r : List Value) (μ : Mu) (u : Nat × Nat) : Prop := mS μ a = (ci, cnf ci) ∧ 1000 ≤ a ∧ (match fref ci k, v with
  | true, .ref b => X (pc + 3) ls r (uR μ a k (some b)) u
  | false, .int x => okT (fty ci k) x ∧ X (pc + 3) ls r (uI μ a k x) u
  | _, _ => False)
def stp (ins : Instr) (n : Nat) (pc : Nat) (ls : LV) (st : List Value) (μ : Mu) (u : Nat × Nat) : Prop := match ins with
  | .iload i => lI ls i fun x => X (pc + n) ls (.int x :: st) μ u
  | .iload_n i => lI ls i.val fun x => X (pc + n) ls (.int x :: st) μ u
  | .aload i => lA ls i fun x => X (pc + n) ls (.ref x :: st) μ u
  | .aload_n i => lA ls i.val fun x => X (pc + n) ls (.ref x :: st) μ u
  | .lload i => lL ls i fun x => X (pc + n) ls (.long x :: st) μ u
  | .lload_n i => lL ls i.val fun x => X (pc + n) ls (.long x :: st) μ u
  | .dload i => lD ls i fun x => X (pc + n) ls (.double x :: st) μ u
  | .dload_n i => lD ls i.val fun x => X (pc + n) ls (.double x :: st) μ u
  | .istore i => pI st fun x r => oki i (mi_L M) <| X (pc + n) (sL1 (mi_w M) ls i (.int x)) r μ u
  | .istore_n i => pI st fun x r => oki i.val (mi_L M) <| X (pc + n) (sL1 (mi_w M) ls i.val (.int x)) r μ u
  | .astore i => pA st fun x r => oki i (mi_L M) <| X (pc + n) (sL1 (mi_w M) ls i (.ref x)) r μ u
  | .astore_n i => pA st fun x r => oki i.val (mi_L M) <| X (pc + n) (sL1 (mi_w M) ls i.val (.ref x)) r μ u
  | .lstore i => pL st fun x r => mi_w M = true ∧ oki (i + 1) (mi_L M) (X (pc + n) (sL2 ls i (.long x)) r μ u)
  | .lstore_n i => pL st fun x r => mi_w M = true ∧ oki (i.val + 1) (mi_L M) (X (pc + n) (sL2 ls i.val (.long x)) r μ u)
  | .dstore i => pD st fun x r => mi_w M = true ∧ oki (i + 1) (mi_L M) (X (pc + n) (sL2 ls i (.double x)) r μ u)
  | .dstore_n i => pD st fun x r => mi_w M = true ∧ oki (i.val + 1) (mi_L M) (X (pc + n) (sL2 ls i.val (.double x)) r μ u)
  | .iinc i k => lI ls i fun x => X (pc + n) (ls.set i (some (.int (x + Int32.ofInt k)))) st μ u
  | .ifCond c off => pI st fun x r => tgt pc off fun t => brn c x 0 (X t ls r μ u) (X (pc + 3) ls r μ u)
  | .if_icmp c off => pI st fun y r => pI r fun x r => tgt pc off fun t => brn c x y (X t ls r μ u) (X (pc + 3) ls r μ u)
  | .ifnonnull off => pA st fun _ r => tgt pc off fun t => X t ls r μ u
  | .checkcast idx => pA st fun a r => (mi_n M = 5 ∧ idx = 311 ∧ 1000 ≤ a ∧ (mS μ a).1 = 21) ∧ X (pc + 3) ls (.ref a :: r) μ u
  | .goto off => tgt pc off fun t => X t ls st μ u
  | .tableswitch d lo hi offs => pI st fun x r => tsw pc d lo hi offs x fun t => X t ls r μ u
  | .getfield idx => pA st fun a r => match fres (mi_n M) idx with | some (ci, k) => getf X ci k a pc ls r μ u | none => False
  | .putfield idx => pV st fun v r => pA r fun a r => match fres (mi_n M) idx with | some (ci, k) => (match pfo M ci k with | true => putf X ci k a v pc ls r μ u | false => False) | none => False
  | .iaload => pI st fun i r => pA r fun a r => (mS μ a).1 = 20 ∧ vp_in i (mS μ a).2 ∧ X (pc + n) ls (.int (mI μ a i.toNatClampNeg) :: r) μ u
  | .baload => pI st fun i r => pA r fun a r => (match isL M with | true => (mS μ a).1 = 25 ∧ 1000 ≤ a | false => (mS μ a).1 = 21) ∧ vp_in i (mS μ a).2 ∧ X (pc + n) ls (.int (mI μ a i.toNatClampNeg) :: r) μ u
  | .aaload => pI st fun i r => pA r fun a r => (match isL M with | true => (mS μ a).1 = 26 | false => (mS μ a).1 = 23 ∨ (mS μ a).1 = 24) ∧ 1000 ≤ a ∧ vp_in i (mS μ a).2 ∧ onR (mR μ a i.toNatClampNeg) fun b => X (pc + n) ls (.ref b :: r) μ u
  | .iastore => pI st fun x r => pI r fun i r => pA r fun a r => (mS μ a).1 = 20 ∧ 1000 ≤ a ∧ vp_in i (mS μ a).2 ∧ X (pc + n) ls r (uI μ a i.toNatClampNeg x) u
  | .bastore => pI st fun x r => pI r fun i r => pA r fun a r => match isL M with
    | true => (mS μ a).1 = 25 ∧ 1000 ≤ a ∧ vp_in i (mS μ a).2 ∧ (x = 0 ∨ x = 1) ∧ X (pc + n) ls r (uI μ a i.toNatClampNeg x) u
    | false => (mS μ a).1 = 21 ∧ 1000 ≤ a ∧ vp_in i (mS μ a).2 ∧ X (pc + n) ls r (uI μ a i.toNatClampNeg x.toInt8.toInt32) u
  | .aastore => pA st fun v r => pI r fun i r => pA r fun a r => (match isL M with | true => (mS μ a).1 = 26 ∧ v < 1000 ∧ (mS μ v).1 = 0 | false => ((mS μ a).1 = 23 ∧ mS μ v = (7, cnf 7) ∨ (mS μ a).1 = 24 ∧ mS μ v = (9, cnf 9)) ∧ 1000 ≤ v) ∧ 1000 ≤ a ∧ vp_in i (mS μ a).2 ∧ X (pc + n) ls r (uR μ a i.toNatClampNeg (some v)) u
  | .arraylength => pA st fun a r => (20 ≤ (mS μ a).1 ∧ (mS μ a).1 ≤ 24) ∧ X (pc + n) ls (.int (Int32.ofNat (mS μ a).2) :: r) μ u
  | .new idx => match cres (mi_n M) idx with
    | some ci => (match ci with
      | 100 => mi_th M = true ∧ st = [] ∧ ule (uad u (1, 6)) (mi_al M) ∧ thc M pc ∧ ∀ x, mX μ ≤ x → Q none (uX μ x)
      | ci => ule (uad u (1, cnf ci)) (mi_al M) ∧ X (pc + 3) ls (.ref (mX μ) :: st) (uN μ ci (cnf ci)) (uad u (1, cnf ci)))
    | none => False
  | .newarray ty => pI st fun k r => ¬ k < 0 ∧ k.toNatClampNeg ≤ 60000000 ∧ ule (uad u (1, k.toNatClampNeg)) (mi_al M) ∧ (match ty with
    | .int => X (pc + n) ls (.ref (mX μ) :: r) (uN μ 20 k.toNatClampNeg) (uad u (1, k.toNatClampNeg))
    | .byte => X (pc + n) ls (.ref (mX μ) :: r) (uN μ 21 k.toNatClampNeg) (uad u (1, k.toNatClampNeg))
    | .boolean => X (pc + n) ls (.ref (mX μ) :: r) (uN μ 25 k.toNatClampNeg) (uad u (1, k.toNatClampNeg))
    | _ => False)
  | .anewarray idx => pI st fun k r => ¬ k < 0 ∧ k.toNatClampNeg ≤ 60000000 ∧ ule (uad u (1, k.toNatClampNeg)) (mi_al M) ∧ (match cres (mi_n M) idx with
    | some 7 => X (pc + n) ls (.ref (mX μ) :: r) (uN μ 23 k.toNatClampNeg) (uad u (1, k.toNatClampNeg))
    | some 9 => X (pc + n) ls (.ref (mX μ) :: r) (uN μ 24 k.toNatClampNeg) (uad u (1, k.toNatClampNeg))
    | some 0 => X (pc + n) ls (.ref (mX μ) :: r) (uN μ 26 k.toNatClampNeg) (uad u (1, k.toNatClampNeg))
    | _ => False)
  | .ldc idx => match kres (mi_n M) idx with | some (.inl v) => X (pc + n) ls (.int v :: st) μ u | some (.inr a) => X (pc + n) ls (.ref a :: st) μ u | none => False
  | .ldc_w idx => match kres (mi_n M) idx with | some (.inl v) => X (pc + n) ls (.int v :: st) μ u | some (.inr a) => X (pc + n) ls (.ref a :: st) μ u | none => False
  | .ldc2_w idx => match lres (mi_n M) idx with | some v => X (pc + n) ls (.long v :: st) μ u | none => False
  | .getstatic idx => match sres (mi_n M) idx with | some k => X (pc + n) ls (sval k :: st) μ u ∧ (k = 3 → X (pc + n) ls (.null :: st) μ u) | none => False
  | .invokevirtual idx => inv ev M Q X idx 0 pc ls st μ u
  | .invokestatic idx => inv ev M Q X idx 1 pc ls st μ u
  | .invokespecial idx => inv ev M Q X idx 2 pc ls st μ u
  | .ireturn => pI st fun v r => r = [] ∧ ule u (mi_al M) ∧ (match mi_rt M with | some ty => okT ty v ∧ Q (some (some (.int v))) μ | none => False)
  | .areturn => pA st fun a r => r = [] ∧ ule u (mi_al M) ∧ (match mi_rt M with | some (.object _) => Q (some (some (.ref a))) μ | some (.array _) => Q (some (some (.ref a))) μ | _ => False)
  | .dreturn => pD st fun v r => r = [] ∧ ule u (mi_al M) ∧ mi_rt M = some .double ∧ Q (some (some (.double v))) μ
  | .return_ => st = [] ∧ ule u (mi_al M) ∧ mi_rt M = none ∧ Q (some none) μ
  | ins => sop ins st fun r => X (pc + n) ls r μ u
def Clo : Prop := ∀ (pc : Nat) (ls : LV) (st : List Value) (μ : Mu) (u : Nat × Nat), (∃ (ins : Instr) (n : Nat), decode (mi_c M) pc = .ok (ins, n) ∧ ilen ins n = true ∧ stp ev M Q X ins n pc ls st μ u) → X pc ls st μ u
end Step
def E (ev : Nat → List Value → Mu → Po → Prop) (M : MI) (pc : Nat) (ls : LV) (st : List Value) (μ : Mu) (u : Nat × Nat) (Q : Po) : Prop := ∀ X, Clo ev M Q X → X pc ls st μ u
def Ev : Nat → Nat → List Value → Mu → Po → Prop
  | 0 => fun _ _ _ _ => False
  | d + 1 => fun j args μ Q => args.length = mi_na (minfo j) ∧ (∀ v ∈ args, v.category = 1) ∧ E (Ev d) (minfo j) 0 (ent args (mi_L (minfo j))) [] μ (0, 0) Q
/-! the steps are monotone, so E is a fixed point -/
theorem onR_mono {o : Option Nat} {P P' : Nat → Prop} (h : ∀ b, P b → P' b) : onR o P → onR o P' := by
  unfold onR; split
  · exact h _
  · exact id
theorem pV_mono {st : List Value} {f g : Value → List Value → Prop} (h : ∀ x r, f x r → g x r) : pV st f → pV st g := by
  unfold pV; split
  · exact h _ _
  · exact id
theorem pI_mono {st : List Value} {f g : Int32 → List Value → Prop} (h : ∀ x r, f x r → g x r) : pI st f → pI st g := by
  unfold pI; split
  · exact h _ _
  · exact id
theorem pL_mono {st : List Value} {f g : Int64 → List Value → Prop} (h : ∀ x r, f x r → g x r) : pL st f → pL st g := by
  unfold pL; split
  · exact h _ _
  · exact id
theorem pD_mono {st : List Value} {f g : UInt64 → List Value → Prop} (h : ∀ x r, f x r → g x r) : pD st f → pD st g := by
  unfold pD; split
  · exact h _ _
  · exact id
theorem pA_mono {st : List Value} {f g : Nat → List Value → Prop} (h : ∀ x r, f x r → g x r) : pA st f → pA st g := by
  unfold pA; split
  · exact h _ _
  · exact id
theorem lI_mono {ls : LV} {i : Nat} {f g : Int32 → Prop} (h : ∀ x, f x → g x) : lI ls i f → lI ls i g := by
  unfold lI; split
  · exact h _
  · exact id
theorem lA_mono {ls : LV} {i : Nat} {f g : Nat → Prop} (h : ∀ x, f x → g x) : lA ls i f → lA ls i g := by
  unfold lA; split
  · exact h _
  · exact id
theorem lL_mono {ls : LV} {i : Nat} {f g : Int64 → Prop} (h : ∀ x, f x → g x) : lL ls i f → lL ls i g := by
  unfold lL; split
  · exact h _
  · exact id
theorem lD_mono {ls : LV} {i : Nat} {f g : UInt64 → Prop} (h : ∀ x, f x → g x) : lD ls i f → lD ls i g := by
  unfold lD; split
  · exact h _
  · exact id
theorem oki_mono {i L : Nat} {P P' : Prop} (h : P → P') : oki i L P → oki i L P' := by
  unfold oki; split
  · exact h
  · exact id
theorem tgt_mono {pc : Nat} {off : Int} {f g : Nat → Prop} (h : ∀ x, f x → g x) : tgt pc off f → tgt pc off g := by
  unfold tgt; split
  · exact h _
  · exact id
theorem brn_mono {c : ClassFile.Cond} {x y : Int32} {A B A' B' : Prop} (h : A → A') (k : B → B') : brn c x y A B → brn c x y A' B' := by
  unfold brn; split <;> exact fun q => ⟨fun z => by first | exact h (q.1 z) | exact k (q.1 z), fun z => by first | exact k (q.2 z) | exact h (q.2 z)⟩
theorem tsw_mono {pc : Nat} {d lo hi : Int} {offs : Array Int} {x : Int32} {f g : Nat → Prop} (h : ∀ x, f x → g x) : tsw pc d lo hi offs x f → tsw pc d lo hi offs x g := by
  intro q
  refine ⟨fun z => tgt_mono h (q.1 z), fun z1 z2 => ?_⟩
  have := q.2 z1 z2
  split at this
  · exact tgt_mono h this
  · exact this.elim
theorem sop_mono {ins : Instr} {st : List Value} {f g : List Value → Prop} (h : ∀ r, f r → g r) : sop ins st f → sop ins st g := by
  unfold sop
  split <;> first
    | exact h _
    | exact id
    | (split <;> first | exact h _ | exact id)
    | exact pI_mono fun _ _ => pI_mono fun _ _ => h _
    | exact pI_mono fun _ _ => pI_mono fun _ _ => And.imp_right (h _)
    | exact pI_mono fun _ _ => h _
    | exact pL_mono fun _ _ => pL_mono fun _ _ => h _
    | exact pL_mono fun _ _ => pL_mono fun _ _ => And.imp_right (h _)
    | exact pL_mono fun _ _ => h _
    | exact pD_mono fun _ _ => pD_mono fun _ _ => h _
    | exact pD_mono fun _ _ => pD_mono fun _ _ => And.imp_right (h _)
    | exact pI_mono fun _ _ => pA_mono fun _ _ => h _
    | (refine pV_mono fun _ _ => ?_; split <;> first | exact h _ | exact id)
section Mono
variable {ev ev' : Nat → List Value → Mu → Po → Prop} {M : MI} {Q Q' : Po} {X Y : Nat → LV → List Value → Mu → Nat × Nat → Prop}
theorem kC_mono {X Y : List Value → Mu → Prop} {r : List Value} {T T' : Mu → Prop} (h : ∀ s μ, X s μ → Y s μ) (hT : ∀ μ, T μ → T' μ) (o : Out) (μ : Mu) : kC X r T o μ → kC Y r T' o μ := by
  unfold kC; split
  · exact h _ _
  · exact h _ _
  · exact hT _
theorem thr_mono (hQ : ∀ o μ, Q o μ → Q' o μ) (h : ∀ pc ls st μ u, X pc ls st μ u → Y pc ls st μ u) {pc : Nat} {ls : LV} {u : Nat × Nat} (μ : Mu) : thr M Q X pc ls u μ → thr M Q' Y pc ls u μ := by
  unfold thr; split
  · exact fun q => ⟨q.1, q.2.1, q.2.2.1, h _ _ _ _ _ q.2.2.2⟩
  · exact fun q => ⟨q.1, q.2.1, hQ _ _ q.2.2⟩
theorem cal_mono (he : ∀ j a μ (q q' : Po), (∀ o μ, q o μ → q' o μ) → ev j a μ q → ev' j a μ q') (hQ : ∀ o μ, Q o μ → Q' o μ) (h : ∀ pc ls st μ u, X pc ls st μ u → Y pc ls st μ u) {j pc : Nat} {ls : LV} {st : List Value} {μ : Mu} {u : Nat × Nat} : cal ev M Q X j pc ls st μ u → cal ev' M Q' Y j pc ls st μ u :=
  fun q => ⟨q.1, q.2.1, q.2.2.1, he _ _ _ _ _ (kC_mono (fun _ _ => h _ _ _ _ _) (thr_mono hQ h)) q.2.2.2⟩
theorem inv_mono (he : ∀ j a μ (q q' : Po), (∀ o μ, q o μ → q' o μ) → ev j a μ q → ev' j a μ q') (hQ : ∀ o μ, Q o μ → Q' o μ) (h : ∀ pc ls st μ u, X pc ls st μ u → Y pc ls st μ u) {idx kind pc : Nat} {ls : LV} {st : List Value} {μ : Mu} {u : Nat × Nat} : inv ev M Q X idx kind pc ls st μ u → inv ev' M Q' Y idx kind pc ls st μ u := by
  unfold inv; split
  · split
    · exact pA_mono fun _ _ => And.imp_right (h _ _ _ _ _)
    · exact pI_mono fun _ _ => pI_mono fun _ _ => pA_mono fun _ _ => pI_mono fun _ _ => pA_mono fun _ _ q => ⟨q.1, q.2.1, q.2.2.1, q.2.2.2.1, q.2.2.2.2.1, q.2.2.2.2.2.1, q.2.2.2.2.2.2.1, q.2.2.2.2.2.2.2.1, q.2.2.2.2.2.2.2.2.1, h _ _ _ _ _ q.2.2.2.2.2.2.2.2.2⟩
    · exact pI_mono fun _ _ => pI_mono fun _ _ => And.imp_right (h _ _ _ _ _)
    · exact pI_mono fun _ _ => pI_mono fun _ _ => And.imp_right (h _ _ _ _ _)
    all_goals first
      | exact pA_mono fun _ _ q => ⟨q.1, q.2.1, q.2.2.1, q.2.2.2.1, q.2.2.2.2.1, h _ _ _ _ _ q.2.2.2.2.2⟩
      | exact cal_mono he hQ h
      | exact And.imp_right (cal_mono he hQ h)
      | exact id
  · exact id
theorem getf_mono (h : ∀ pc ls st μ u, X pc ls st μ u → Y pc ls st μ u) {ci k a pc : Nat} {ls : LV} {r : List Value} {μ : Mu} {u : Nat × Nat} : getf X ci k a pc ls r μ u → getf Y ci k a pc ls r μ u := by
  unfold getf
  refine And.imp_right ?_
  split
  · exact onR_mono fun _ => h _ _ _ _ _
  · exact h _ _ _ _ _
theorem putf_mono (h : ∀ pc ls st μ u, X pc ls st μ u → Y pc ls st μ u) {ci k a pc : Nat} {v : Value} {ls : LV} {r : List Value} {μ : Mu} {u : Nat × Nat} : putf X ci k a v pc ls r μ u → putf Y ci k a v pc ls r μ u := by
  unfold putf
  refine And.imp_right (And.imp_right ?_)
  split
  · exact h _ _ _ _ _
  · exact And.imp_right (h _ _ _ _ _)
  · exact id
set_option maxHeartbeats 4000000 in
theorem stp_mono (he : ∀ j a μ (q q' : Po), (∀ o μ, q o μ → q' o μ) → ev j a μ q → ev' j a μ q') (hQ : ∀ o μ, Q o μ → Q' o μ) (h : ∀ pc ls st μ u, X pc ls st μ u → Y pc ls st μ u) {ins : Instr} {n pc : Nat} {ls : LV} {st : List Value} {μ : Mu} {u : Nat × Nat} : stp ev M Q X ins n pc ls st μ u → stp ev' M Q' Y ins n pc ls st μ u := by
  have h0 : ∀ pc ls st μ u, X pc ls st μ u → Y pc ls st μ u := h
  unfold stp
  split
  case _ => exact lI_mono fun _ => h _ _ _ _ _
  case _ => exact lI_mono fun _ => h _ _ _ _ _
  case _ => exact lA_mono fun _ => h _ _ _ _ _
  case _ => exact lA_mono fun _ => h _ _ _ _ _
  case _ => exact lL_mono fun _ => h _ _ _ _ _
  case _ => exact lL_mono fun _ => h _ _ _ _ _
  case _ => exact lD_mono fun _ => h _ _ _ _ _
  case _ => exact lD_mono fun _ => h _ _ _ _ _
  case _ => exact pI_mono fun _ _ => oki_mono (h _ _ _ _ _)
  case _ => exact pI_mono fun _ _ => oki_mono (h _ _ _ _ _)
  case _ => exact pA_mono fun _ _ => oki_mono (h _ _ _ _ _)
  case _ => exact pA_mono fun _ _ => oki_mono (h _ _ _ _ _)
  case _ => exact pL_mono fun _ _ => And.imp_right (oki_mono (h _ _ _ _ _))
  case _ => exact pL_mono fun _ _ => And.imp_right (oki_mono (h _ _ _ _ _))
  case _ => exact pD_mono fun _ _ => And.imp_right (oki_mono (h _ _ _ _ _))
  case _ => exact pD_mono fun _ _ => And.imp_right (oki_mono (h _ _ _ _ _))
  case _ => exact lI_mono fun _ => h _ _ _ _ _
  case _ => exact pI_mono fun _ _ => tgt_mono fun _ => brn_mono (h _ _ _ _ _) (h _ _ _ _ _)
  case _ => exact pI_mono fun _ _ => pI_mono fun _ _ => tgt_mono fun _ => brn_mono (h _ _ _ _ _) (h _ _ _ _ _)
  case _ => exact pA_mono fun _ _ => tgt_mono fun _ => h _ _ _ _ _
  case _ => exact pA_mono fun _ _ => And.imp_right (h _ _ _ _ _)
  case _ => exact tgt_mono fun _ => h _ _ _ _ _
  case _ => exact pI_mono fun _ _ => tsw_mono fun _ => h _ _ _ _ _
  case _ =>
    refine pA_mono fun _ _ => ?_
    split
    · exact getf_mono h
    · exact id
  case _ =>
    refine pV_mono fun _ _ => pA_mono fun _ _ => ?_
    split
    · split
      · exact putf_mono h
      · exact id
    · exact id
  case _ => exact pI_mono fun _ _ => pA_mono fun _ _ q => ⟨q.1, q.2.1, h _ _ _ _ _ q.2.2⟩
  case _ => exact pI_mono fun _ _ => pA_mono fun _ _ q => ⟨q.1, q.2.1, h _ _ _ _ _ q.2.2⟩
  case _ => exact pI_mono fun _ _ => pA_mono fun _ _ q => ⟨q.1, q.2.1, q.2.2.1, onR_mono (fun _ => h _ _ _ _ _) q.2.2.2⟩
  case _ => exact pI_mono fun _ _ => pI_mono fun _ _ => pA_mono fun _ _ q => ⟨q.1, q.2.1, q.2.2.1, h _ _ _ _ _ q.2.2.2⟩
  case _ =>
    refine pI_mono fun _ _ => pI_mono fun _ _ => pA_mono fun _ _ q => ?_
    generalize isL M = b at q ⊢
    cases b
    · exact ⟨q.1, q.2.1, q.2.2.1, h _ _ _ _ _ q.2.2.2⟩
    · exact ⟨q.1, q.2.1, q.2.2.1, q.2.2.2.1, h _ _ _ _ _ q.2.2.2.2⟩
  case _ => exact pA_mono fun _ _ => pI_mono fun _ _ => pA_mono fun _ _ q => ⟨q.1, q.2.1, q.2.2.1, h _ _ _ _ _ q.2.2.2⟩
  case _ => exact pA_mono fun _ _ => And.imp_right (h _ _ _ _ _)
  case _ =>
    split
    · split
      · exact fun q => ⟨q.1, q.2.1, q.2.2.1, q.2.2.2.1, fun x hx => hQ _ _ (q.2.2.2.2 x hx)⟩
      · exact And.imp_right (h _ _ _ _ _)
    · exact id
  case _ =>
    refine pI_mono fun _ _ q => ⟨q.1, q.2.1, q.2.2.1, ?_⟩
    have q3 := q.2.2.2
    split at q3
    · exact h _ _ _ _ _ q3
    · exact h _ _ _ _ _ q3
    · exact h _ _ _ _ _ q3
    · exact q3.elim
  case _ =>
    refine pI_mono fun _ _ q => ⟨q.1, q.2.1, q.2.2.1, ?_⟩
    have q3 := q.2.2.2
    split at q3
    · exact h _ _ _ _ _ q3
    · exact h _ _ _ _ _ q3
    · exact h _ _ _ _ _ q3
    · exact q3.elim
  case _ =>
    split
    · exact h _ _ _ _ _
    · exact h _ _ _ _ _
    · exact id
  case _ =>
    split
    · exact h _ _ _ _ _
    · exact h _ _ _ _ _
    · exact id
  case _ =>
    split
    · exact h _ _ _ _ _
    · exact id
  case _ =>
    split
    · exact fun q => ⟨h _ _ _ _ _ q.1, fun z => h _ _ _ _ _ (q.2 z)⟩
    · exact id
  case _ => exact inv_mono he hQ h
  case _ => exact inv_mono he hQ h
  case _ => exact inv_mono he hQ h
  case _ =>
    refine pI_mono fun _ _ q => ⟨q.1, q.2.1, ?_⟩
    have q3 := q.2.2
    split at q3
    · exact ⟨q3.1, hQ _ _ q3.2⟩
    · exact q3.elim
  case _ =>
    refine pA_mono fun _ _ q => ⟨q.1, q.2.1, ?_⟩
    have q3 := q.2.2
    split at q3
    · exact hQ _ _ q3
    · exact hQ _ _ q3
    · exact q3.elim
  case _ => exact pD_mono fun _ _ q => ⟨q.1, q.2.1, q.2.2.1, hQ _ _ q.2.2.2⟩
  case _ => exact fun q => ⟨q.1, q.2.1, q.2.2.1, hQ _ _ q.2.2.2⟩
  case _ => exact sop_mono fun _ => h _ _ _ _ _
theorem E_mono (he : ∀ j a μ (q q' : Po), (∀ o μ, q o μ → q' o μ) → ev j a μ q → ev' j a μ q') (hQ : ∀ o μ, Q o μ → Q' o μ) {pc : Nat} {ls : LV} {st : List Value} {μ : Mu} {u : Nat × Nat} (h : E ev M pc ls st μ u Q) : E ev' M pc ls st μ u Q' := by
  intro X hX
  exact h X fun pc ls st μ u ⟨ins, n, h1, h2, h3⟩ => hX pc ls st μ u ⟨ins, n, h1, h2, stp_mono he hQ (fun _ _ _ _ _ => id) h3⟩
end Mono
theorem Ev_mono : ∀ (d : Nat) (j : Nat) (a : List Value) (μ : Mu) (q q' : Po), (∀ o μ, q o μ → q' o μ) → Ev d j a μ q → Ev d j a μ q'
  | 0, _, _, _, _, _, _, h => h
  | d + 1, _, _, _, _, _, hq, h => ⟨h.1, h.2.1, E_mono (Ev_mono d) hq h.2.2⟩
theorem E_intro {d : Nat} {M : MI} {Q : Po} {pc : Nat} {ls : LV} {st : List Value} {μ : Mu} {u : Nat × Nat} {ins : Instr} {n : Nat} (h1 : decode (mi_c M) pc = .ok (ins, n)) (h2 : ilen ins n = true) (h3 : stp (Ev d) M Q (fun pc ls st μ u => E (Ev d) M pc ls st μ u Q) ins n pc ls st μ u) : E (Ev d) M pc ls st μ u Q := by
  intro X hX
  exact hX pc ls st μ u ⟨ins, n, h1, h2, stp_mono (Ev_mono d) (fun _ _ => id) (fun _ _ _ _ _ h => h X hX) h3⟩
theorem E_step {d : Nat} {M : MI} {Q : Po} {pc : Nat} {ls : LV} {st : List Value} {μ : Mu} {u : Nat × Nat} {ins : Instr} {n : Nat} (h1 : decode (mi_c M) pc = .ok (ins, n)) (h2 : ilen ins n = true) : E (Ev d) M pc ls st μ u Q ↔ stp (Ev d) M Q (fun pc ls st μ u => E (Ev d) M pc ls st μ u Q) ins n pc ls st μ u := by
  refine ⟨fun h => ?_, E_intro h1 h2⟩
  have h9 := h (fun pc ls st μ u => ∃ (ins : Instr) (n : Nat), decode (mi_c M) pc = .ok (ins, n) ∧ ilen ins n = true ∧ stp (Ev d) M Q (fun pc ls st μ u => E (Ev d) M pc ls st μ u Q) ins n pc ls st μ u)
    fun pc ls st μ u ⟨ins, n, g1, g2, g3⟩ => ⟨ins, n, g1, g2, stp_mono (Ev_mono d) (fun _ _ => id) (fun _ _ _ _ _ ⟨i2, n2, k1, k2, k3⟩ => E_intro k1 k2 k3) g3⟩
  obtain ⟨i2, n2, g1, g2, g3⟩ := h9
  rw [h1] at g1
  injection g1 with e
  injection e with e1 e2
  subst e1; subst e2
  exact g3
end
section
/-! WHAT THE SMALL HEAP IS IN THE MACHINE'S: names to addresses, things to cells -/
def rA (base : Nat) (ro : Nat → Nat) (a : Nat) : Nat := if a < 1000 then ro a else base + (a - 1000)
def rV (base : Nat) (ro : Nat → Nat) (v : Value) : Value := match v with
  | .ref a => .ref (rA base ro a)
  | v => v
theorem rA_big {base a : Nat} {ro : Nat → Nat} (h : 1000 ≤ a) : rA base ro a = base + (a - 1000) := if_neg (by omega)
theorem rA_ro {base a : Nat} {ro : Nat → Nat} (h : a < 1000) : rA base ro a = ro a := if_pos h
theorem rA_inj {base a b : Nat} {ro : Nat → Nat} (ha : 1000 ≤ a) (hb : 1000 ≤ b) (h : rA base ro a = rA base ro b) : a = b := by
  rw [rA_big ha, rA_big hb] at h; omega
abbrev isO (base : Nat) : Nat → Prop := fun q => base ≤ q
def fV (base : Nat) (ro : Nat → Nat) (μ : Mu) (a c j : Nat) : Value := match fref c j with
  | true => va_rf ((mR μ a j).map (rA base ro))
  | false => .int (mI μ a j)
def cE (cA : Nat → ClassId) (base : Nat) (ro : Nat → Nat) (μ : Mu) (a : Nat) : va_E :=
  if (mS μ a).1 = 20 then .inl (cA 20, (mS μ a).2, .inl (mI μ a))
  else if (mS μ a).1 = 21 then .inl (cA 21, (mS μ a).2, .inl (mI μ a))
  else if (mS μ a).1 = 22 then .inl (cA 21, (mS μ a).2, .inl (mI μ a))
  else if (mS μ a).1 = 23 then .inl (cA 23, (mS μ a).2, .inr (.inr (.inr (.inr fun j => (mR μ a j).map (rA base ro)))))
  else if (mS μ a).1 = 24 then .inl (cA 24, (mS μ a).2, .inr (.inr (.inr (.inr fun j => (mR μ a j).map (rA base ro)))))
  else if (mS μ a).1 = 25 then .inl (cA 25, (mS μ a).2, .inl (mI μ a))
  else if (mS μ a).1 = 26 then .inl (cA 26, (mS μ a).2, .inr (.inr (.inr (.inr fun j => (mR μ a j).map (rA base ro)))))
  else .inr ((mS μ a).1, (List.range (cnf (mS μ a).1)).map (fV base ro μ a (mS μ a).1))
def Pic (D : va_G) (cA : Nat → ClassId) (base : Nat) (ro : Nat → Nat) (μ : Mu) (H : Heap) : Prop :=
  H.size + 1000 = base + mX μ ∧ 1000 ≤ mX μ ∧ ∀ a, 1000 ≤ a → (mS μ a).1 < 90 → a < mX μ ∧ va_at D vwCl (rA base ro a, cE cA base ro μ a) H ∧ ((mS μ a).1 = 21 → ∀ j, (mI μ a j).toInt8.toInt32 = mI μ a j)
/-- the classes of the arrays -/
def tysL (cA : Nat → ClassId) : List (ClassId × FieldType) := [(cA 20, .int), (cA 21, .byte), (cA 21, .byte), (cA 23, .object "LockstepRoom$Member"), (cA 24, .object "LockstepRoom$State"), (cA 25, .boolean), (cA 26, .object "java/lang/String")]
/-- what is only read: texts, tables, the script, static fields; what the launch says of nest mates and of the throw -/
def RO (base : Nat) (ro : Nat → Nat) (μ : Mu) (U : State) (H : Heap) : Prop :=
  (∀ a, a < 1000 →
    ((mS μ a).1 = 20 → va_T .int (ro a) (mS μ a).2 (fun j => .int (mI μ a j)) (isO base) U H) ∧
    ((mS μ a).1 = 21 → va_T .byte (ro a) (mS μ a).2 (fun j => .int (mI μ a j)) (isO base) U H) ∧
    ((mS μ a).1 = 0 → va_O "java/lang/String" (ro a) (isO base) U H ∧ va_OF "java/lang/String" "coder" "B" (.int (mI μ a 1)) (ro a) (isO base) U H ∧ ∃ v, mR μ a 0 = some v ∧ v < 1000 ∧ va_OF "java/lang/String" "value" "[B" (.ref (ro v)) (ro a) (isO base) U H) ∧
    ((mS μ a).1 = 0 ∨ (mS μ a).1 = 20 ∨ (mS μ a).1 = 21 ∨ (mS μ a).1 = 99)) ∧
  (∀ k, k < 4 → ∃ v, (v = sval k ∨ k = 3 ∧ v = .null) ∧ va_Z (snm k).1 (snm k).2.1 (snm k).2.2 (rV base ro v) (isO base) U H) ∧
  (vx_Zq Bundle.tN "UNASSIGNED_STACK" Bundle.steD (isO base) U H ∧ vx_Zq Bundle.tN "SUPPRESSED_SENTINEL" Bundle.listD (isO base) U H) ∧
  (∀ n, n < 20 → ∀ r ∈ ktab.getD n [], ∀ k, r.2 = .inr k → k < 100 ∧ vk_R (cnm.getD n "") r.1 (txts.getD k "") (ro k) U) ∧
  (∀ n, n < 20 → ∀ r ∈ ctab.getD n [], r.2.1 = 3 ∨ r.2.1 = 4 → va_Nw (.methodLinkNest (cnm.getD n "") r.1 (mi_y (minfo r.2.2)) "LockstepRoom") U) ∧
  (va_Nw (.castable IOB IOB) U ∧ ∀ Y ∈ ["java/lang/RuntimeException", "java/lang/Exception", "java/lang/Throwable"], va_Nw (.declares (Bundle.initS Y)) U) ∧ va_AO "LockstepRoom$Member" U ∧ va_AO "LockstepRoom$State" U ∧ va_AO "java/lang/String" U ∧ va_Nw (.castable "[B" "java/lang/Cloneable") U
theorem RO.kept {base : Nat} {ro : Nat → Nat} {μ : Mu} {U : State} {H H1 : Heap} (h : RO base ro μ U H) (hq : ∀ a : Nat, a < H.size → ¬ isO base a → H1[a]? = H[a]?) : RO base ro μ U H1 := by
  obtain ⟨h1, h2, h3, h4⟩ := h
  refine ⟨fun a ha => ?_, fun k hk => (h2 k hk).imp fun v hv => ⟨hv.1, hv.2.kept hq⟩, ⟨h3.1.kept hq, h3.2.kept hq⟩, h4⟩
  obtain ⟨g1, g2, g3, g4⟩ := h1 a ha
  refine ⟨fun z => (g1 z).kept hq, fun z => (g2 z).kept hq, fun z => ?_, g4⟩
  obtain ⟨k1, k2, v, k3, k4, k5⟩ := g3 z
  exact ⟨k1.kept hq, k2.kept hq, v, k3, k4, k5.kept hq⟩
theorem RO.warm {base : Nat} {ro : Nat → Nat} {μ : Mu} {s U : State} {H : Heap} (hW : s.WarmedH U.vm) (h : RO base ro μ s H) : RO base ro μ U H := by
  obtain ⟨h1, h2, h3, h4, h5, h6⟩ := h
  have hvm := hW.alike
  refine ⟨fun a ha => ?_, fun k hk => (h2 k hk).imp fun v hv => ⟨hv.1, hv.2.moved hvm⟩, ⟨h3.1.moved hvm, h3.2.moved hvm⟩, fun n hn r hr k hk => ⟨(h4 n hn r hr k hk).1, (h4 n hn r hr k hk).2.warm hW⟩, fun n hn r hr hk => va_Nw.warmM hW (h5 n hn r hr hk), ⟨va_Nw.warmC hW h6.1.1, fun Y hY => va_Nw.warmD hW (h6.1.2 Y hY)⟩, h6.2.1.moved hvm, h6.2.2.1.moved hvm, h6.2.2.2.1.moved hvm, va_Nw.warmC hW h6.2.2.2.2⟩
  obtain ⟨g1, g2, g3, g4⟩ := h1 a ha
  refine ⟨fun z => (g1 z).moved hvm, fun z => (g2 z).moved hvm, fun z => ?_, g4⟩
  obtain ⟨k1, k2, v, k3, k4, k5⟩ := g3 z
  exact ⟨k1.moved hvm, k2.moved hvm, v, k3, k4, k5.moved hvm⟩
theorem RO.same {base : Nat} {ro : Nat → Nat} {μ μ' : Mu} {U : State} {H : Heap} (h : RO base ro μ U H) (hS : ∀ a, a < 1000 → mS μ' a = mS μ a) (hI : ∀ a, a < 1000 → mI μ' a = mI μ a) (hR : ∀ a, a < 1000 → mR μ' a = mR μ a) : RO base ro μ' U H := by
  refine ⟨fun a ha => ?_, h.2⟩
  have h1 := h.1 a ha
  rw [hS a ha, hI a ha, hR a ha]
  exact h1
/-- the world of a method: at its start, and for every call -/
def Wd (D : va_G) (cA : Nat → ClassId) (base : Nat) (ro : Nat → Nat) (μ : Mu) (U : State) : Prop := Pic D cA base ro μ U.heap ∧ va_K D vwCl (tysL cA) U ∧ RO base ro μ U U.heap
theorem setMap {α : Type} (f : Nat → α) (N k : Nat) (v : α) : ((List.range N).map f).set k v = (List.range N).map (fun j => if j = k then v else f j) := by
  apply List.ext_getElem?
  intro i
  rw [List.getElem?_set]
  simp only [List.length_map, List.length_range, List.getElem?_map]
  by_cases hi : i < N
  · rw [List.getElem?_range hi]
    by_cases hk : k = i
    · subst hk; simp [hi]
    · rw [if_neg hk]; simp [Ne.symm hk]
  · rw [List.getElem?_eq_none (by simpa using Nat.le_of_not_lt hi)]
    by_cases hk : k = i
    · subst hk; simp [hi]
    · rw [if_neg hk]; rfl
section PicRows
variable {D : va_G} {cA : Nat → ClassId} {base : Nat} {ro : Nat → Nat} {μ μ' : Mu} {H H1 : Heap}
theorem Pic.upd {a : Nat} (hP : Pic D cA base ro μ H) (ha : 1000 ≤ a) (hz : H1.size = H.size) (ho : ∀ q, q ≠ rA base ro a → H1[q]? = H[q]?)
    (hX : mX μ' = mX μ) (hS : mS μ' = mS μ) (hI : ∀ b, b ≠ a → mI μ' b = mI μ b) (hJ : ∀ b, b ≠ a → mJ μ' b = mJ μ b) (hR : ∀ b, b ≠ a → mR μ' b = mR μ b)
    (hat : va_at D vwCl (rA base ro a, cE cA base ro μ' a) H1) (hb : (mS μ a).1 = 21 → ∀ j, (mI μ' a j).toInt8.toInt32 = mI μ' a j) : Pic D cA base ro μ' H1 := by
  obtain ⟨p1, p2, p3⟩ := hP
  refine ⟨by rw [hz, hX]; exact p1, by rw [hX]; exact p2, fun b hb1 hb2 => ?_⟩
  rw [hS] at hb2
  obtain ⟨g1, g2, g3⟩ := p3 b hb1 hb2
  by_cases e : b = a
  · subst e
    exact ⟨by rw [hX]; exact g1, hat, fun z => hb (by rw [← hS]; exact z)⟩
  · have ce : cE cA base ro μ' b = cE cA base ro μ b := by
      have : fV base ro μ' b = fV base ro μ b := by funext c j; simp only [fV, hI b e, hR b e]
      simp only [cE, hS, hI b e, hJ b e, hR b e, this]
    refine ⟨by rw [hX]; exact g1, ?_, fun z j => ?_⟩
    · rw [ce]
      exact g2.kept (ho _ fun q => e (rA_inj hb1 ha q))
    · rw [hS] at z
      rw [hI b e]
      exact g3 z j
theorem Pic.new {k n : Nat} (hP : Pic D cA base ro μ H) (hz : H1.size = H.size + 1) (ho : ∀ q, q < H.size → H1[q]? = H[q]?) (hat : va_at D vwCl (H.size, cE cA base ro (uN μ k n) (mX μ)) H1) : Pic D cA base ro (uN μ k n) H1 := by
  obtain ⟨p1, p2, p3⟩ := hP
  have eX : mX (uN μ k n) = mX μ + 1 := rfl
  have hs : H.size = rA base ro (mX μ) := by rw [rA_big p2]; omega
  refine ⟨by rw [hz, eX]; omega, by rw [eX]; omega, fun b hb1 hb2 => ?_⟩
  by_cases e : b = mX μ
  · subst e
    refine ⟨by rw [eX]; omega, by rw [← hs]; exact hat, fun _ j => ?_⟩
    have : mI (uN μ k n) (mX μ) j = 0 := by simp [mI, uN, mX]
    rw [this]; decide
  · have e' : b ≠ μ.1 := e
    have hS : mS (uN μ k n) b = mS μ b := by simp [mS, uN, e']
    have hI : mI (uN μ k n) b = mI μ b := by funext j; simp [mI, uN, e']
    have hJ : mJ (uN μ k n) b = mJ μ b := by funext j; simp [mJ, uN, e']
    have hR : mR (uN μ k n) b = mR μ b := by funext j; simp [mR, uN, e']
    rw [hS] at hb2
    obtain ⟨g1, g2, g3⟩ := p3 b hb1 hb2
    have ce : cE cA base ro (uN μ k n) b = cE cA base ro μ b := by
      have : fV base ro (uN μ k n) b = fV base ro μ b := by funext c j; simp only [fV, hI, hR]
      simp only [cE, hS, hI, hJ, hR, this]
    refine ⟨by rw [eX]; omega, ?_, fun z j => ?_⟩
    · rw [ce]
      exact g2.kept (ho _ g2.lt)
    · rw [hS] at z; rw [hI]; exact g3 z j
theorem Pic.skip {x : Nat} (hP : Pic D cA base ro μ H) (hx : H1.size + 1000 = base + x) (hle : mX μ ≤ x) (ho : ∀ q, q < H.size → H1[q]? = H[q]?) : Pic D cA base ro (uX μ x) H1 := by
  obtain ⟨p1, p2, p3⟩ := hP
  refine ⟨hx, Nat.le_trans p2 hle, fun b hb1 hb2 => ?_⟩
  obtain ⟨g1, g2, g3⟩ := p3 b hb1 hb2
  exact ⟨Nat.lt_of_lt_of_le g1 hle, g2.kept (ho _ g2.lt), g3⟩
end PicRows
end
section
section SimRows
variable {p : Program} {l : Launch} {e : Env} {R : Room} {s : State} {m : MethodId} {args : Array Value} {below : List Frame} {meth : Method} {c : Code} {H : Heap} {locs : List Loc} {Qe : State → Prop} {cells slots : Nat}
variable {M : MI} {D : va_G} {cA : Nat → ClassId} {base : Nat} {ro : Nat → Nat}
def Ctx (p : Program) (R : Room) (s : State) (m : MethodId) (args : Array Value) (c : Code) (M : MI) (D : va_G) (cA : Nat → ClassId) (base : Nat) : Prop :=
  p.tables.exec = Jvm.exec ∧ c.code = mi_c M ∧ c.maxLocals = mi_L M ∧ s.vm.findClass (cnm.getD (mi_n M) "") = some m.cls ∧ (∀ w ∈ ALLG, w.before args s = true) ∧ va_K D vwCl (tysL cA) s ∧ base ≤ s.heap.size ∧ mi_n M < 20 ∧ R.cells = (mi_al M).1 ∧ R.slots = (mi_al M).2 ∧ 6 ≤ R.frames ∧ 200 ≤ R.locals
def LR (base : Nat) (ro : Nat → Nat) (M : MI) (ls : LV) (rls : Array Slot) : Prop := rls.size = mi_L M ∧ ls.length = mi_L M ∧ lv_wf rls ∧ (mi_w M = false → ∀ (i : Nat) (v : Value), ls.getD i none = some v → v.category = 1) ∧ ∀ (i : Nat) (v : Value), ls.getD i none = some v → rls[i]? = some (.val (rV base ro v))
def lvE (base : Nat) (ro : Nat → Nat) (ls : LV) : List (Nat × Value) := (List.range ls.length).filterMap fun i => (ls.getD i none).map fun v => (i, rV base ro v)
theorem lvE_mem {ls : LV} {j : Nat} {w : Value} (h : ls.getD j none = some w) : (j, rV base ro w) ∈ lvE base ro ls := by
  have hj : j < ls.length := by
    rcases Nat.lt_or_ge j ls.length with g | g
    · exact g
    · rw [List.getD_eq_getElem?_getD, List.getElem?_eq_none g] at h; cases h
  exact List.mem_filterMap.mpr ⟨j, List.mem_range.mpr hj, by rw [h]; rfl⟩
theorem LR.has {ls : LV} {rls : Array Slot} (h : LR base ro M ls rls) : lv_has rls (mi_L M) (lvE base ro ls) := by
  refine ⟨h.1, h.2.2.1, fun q hq => ?_⟩
  obtain ⟨i, -, hi⟩ := List.mem_filterMap.mp hq
  obtain ⟨v, hv, rfl⟩ := Option.map_eq_some_iff.mp hi
  exact h.2.2.2.2 i v hv
theorem LR.lt {ls : LV} {rls : Array Slot} {i : Nat} {v : Value} (h : LR base ro M ls rls) (hv : ls.getD i none = some v) : i < mi_L M := by
  rcases Nat.lt_or_ge i ls.length with g | g
  · rw [← h.2.1]; exact g
  · rw [List.getD_eq_getElem?_getD, List.getElem?_eq_none g] at hv; cases hv
theorem rV_cat (v : Value) : (rV base ro v).category = v.category := by cases v <;> rfl
theorem LR.by {ls' : LV} {rls' : Array Slot} {lv' : List (Nat × Value)} (hn : ls'.length = mi_L M) (hc : mi_w M = false → ∀ (i : Nat) (v : Value), ls'.getD i none = some v → v.category = 1) (h' : lv_has rls' (mi_L M) lv') (hm : ∀ (j : Nat) (w : Value), ls'.getD j none = some w → (j, rV base ro w) ∈ lv') : LR base ro M ls' rls' :=
  ⟨h'.1, hn, h'.2.1, hc, fun i v hv => h'.2.2 _ (hm i v hv)⟩
theorem getD_set (ls : LV) (i j : Nat) (x : Option Value) : (ls.set i x).getD j none = if j = i ∧ i < ls.length then x else ls.getD j none := by
  rw [List.getD_eq_getElem?_getD, List.getElem?_set, List.getD_eq_getElem?_getD]
  by_cases h : i = j
  · subst h
    by_cases h2 : i < ls.length
    · simp [h2]
    · simp [h2, List.getElem?_eq_none (Nat.le_of_not_lt h2)]
  · rw [if_neg h, if_neg (fun q => h q.1.symm)]
theorem fixL_some {o : Option Value} {w : Value} (h : fixL o = some w) : o = some w ∧ w.category = 1 := by
  unfold fixL at h
  split at h
  · cases h
  · cases h
  · rename_i h1 h2
    subst h
    refine ⟨rfl, ?_⟩
    cases w <;> first | rfl | exact absurd rfl (h1 _) | exact absurd rfl (h2 _)
theorem flt1 {ls : LV} {i j : Nat} {v w : Value} (hj : j ≠ i) (h : ls.getD j none = some w) (hc : j + 1 = i → w.category = 1) :
    (j, rV base ro w) ∈ ((i, rV base ro v) :: (lvE base ro ls).filter (fun q => !(q.1 == i) && !(q.1 + 1 == i && q.2.category == 2))) := by
  refine List.mem_cons_of_mem _ (List.mem_filter.mpr ⟨lvE_mem h, ?_⟩)
  have e1 : (j == i) = false := by simpa using hj
  simp only [e1, Bool.not_false, Bool.true_and]
  by_cases g : j + 1 = i
  · have := hc g
    rw [← rV_cat (base := base) (ro := ro)] at this
    simp [this]
  · simp [g]
theorem LR.st1 {ls : LV} {rls rls' : Array Slot} {i : Nat} {v : Value} (h : LR base ro M ls rls) (hi : i < mi_L M) (hc : v.category = 1) (h' : lv_has rls' (mi_L M) ((i, rV base ro v) :: (lvE base ro ls).filter (fun q => !(q.1 == i) && !(q.1 + 1 == i && q.2.category == 2)))) : LR base ro M (sL1 (mi_w M) ls i v) rls' := by
  obtain ⟨h1, h2, h3, h4, h5⟩ := h
  unfold sL1
  split
  · rename_i hw
    refine LR.by (by simp [h2]) (fun _ j w hj => ?_) h' (fun j w hj => ?_)
    · rw [getD_set] at hj
      split at hj
      · cases hj; exact hc
      · exact h4 hw j w hj
    · rw [getD_set] at hj
      split at hj
      · rename_i hh; cases hj; rw [hh.1]; exact List.mem_cons_self
      · rename_i hh
        have hne : j ≠ i := fun q => hh ⟨q, by omega⟩
        exact flt1 hne hj (fun _ => h4 hw j w hj)
  · rename_i hw
    refine LR.by ?_ (fun q => by rw [hw] at q; cases q) h' (fun j w hj => ?_)
    · cases i <;> simp [h2]
    · cases i with
      | zero =>
        dsimp only at hj
        rw [getD_set] at hj
        split at hj
        · rename_i hh; cases hj; rw [hh.1]; exact List.mem_cons_self
        · rename_i hh
          exact flt1 (fun q => hh ⟨q, by omega⟩) hj (fun q => by omega)
      | succ k =>
        dsimp only at hj
        rw [getD_set] at hj
        split at hj
        · rename_i hh; cases hj; rw [hh.1]; exact List.mem_cons_self
        · rename_i hh
          have hne : j ≠ k + 1 := fun q => hh ⟨q, by simp; omega⟩
          rw [getD_set] at hj
          split at hj
          · rename_i h9
            obtain ⟨g1, g2⟩ := fixL_some hj
            exact flt1 hne (by rw [h9.1]; exact g1) (fun _ => g2)
          · rename_i h9
            exact flt1 hne hj (fun q => absurd ⟨by omega, by omega⟩ h9)
theorem LR.sti {ls : LV} {rls rls' : Array Slot} {i : Nat} {v : Value} {x : Int32} (h : LR base ro M ls rls) (hx : ls.getD i none = some (.int x)) (hc : v.category = 1) (h' : lv_has rls' (mi_L M) ((i, rV base ro v) :: (lvE base ro ls).filter (fun q => !(q.1 == i) && !(q.1 + 1 == i && q.2.category == 2)))) : LR base ro M (ls.set i (some v)) rls' := by
  obtain ⟨h1, h2, h3, h4, h5⟩ := h
  refine LR.by (by simp [h2]) (fun hw j w hj => ?_) h' (fun j w hj => ?_)
  · rw [getD_set] at hj
    split at hj
    · cases hj; exact hc
    · exact h4 hw j w hj
  · rw [getD_set] at hj
    split at hj
    · rename_i hh; cases hj; rw [hh.1]; exact List.mem_cons_self
    · rename_i hh
      have hi : i < ls.length := by
        rcases Nat.lt_or_ge i ls.length with g | g
        · exact g
        · rw [List.getD_eq_getElem?_getD, List.getElem?_eq_none g] at hx; cases hx
      refine flt1 (fun q => hh ⟨q, hi⟩) hj (fun q => ?_)
      rcases lv_cat w with g | g
      · exact g
      · exfalso
        have k1 := h3.1 j (rV base ro w) (h5 j w hj) (by rw [rV_cat]; exact g)
        rw [q, h5 i _ hx] at k1
        cases k1
def pre0 (ls : LV) (i : Nat) : LV := match i with | 0 => ls | k + 1 => ls.set k (fixL (ls.getD k none))
theorem pre0_eq (ls : LV) (i : Nat) (v : Value) : sL2 ls i v = ((pre0 ls i).set i (some v)).set (i + 1) none := by cases i <;> rfl
theorem pre2 (ls : LV) (i : Nat) (j : Nat) (w : Value) (h : (pre0 ls i).getD j none = some w) : ls.getD j none = some w ∧ (j + 1 = i → w.category = 1) := by
  cases i with
  | zero => exact ⟨h, fun q => by omega⟩
  | succ k =>
    dsimp only [pre0] at h
    rw [getD_set] at h
    by_cases g : j = k ∧ k < ls.length
    · rw [if_pos g] at h
      obtain ⟨g1, g2⟩ := fixL_some h
      exact ⟨by rw [g.1]; exact g1, fun _ => g2⟩
    · rw [if_neg g] at h
      refine ⟨h, fun q => absurd ⟨by omega, ?_⟩ g⟩
      rcases Nat.lt_or_ge k ls.length with z | z
      · exact z
      · rw [List.getD_eq_getElem?_getD, List.getElem?_eq_none (by omega)] at h; cases h
theorem len2 (ls : LV) (i : Nat) : (pre0 ls i).length = ls.length := by
  cases i <;> simp [pre0]
theorem LR.st2 {ls : LV} {rls rls' : Array Slot} {i : Nat} {v : Value} (h : LR base ro M ls rls) (hi : i + 1 < mi_L M) (hw : mi_w M = true) (h' : lv_has rls' (mi_L M) ((i, rV base ro v) :: (lvE base ro ls).filter (fun q => !(q.1 == i) && (!(q.1 == i + 1) && !(q.1 + 1 == i && q.2.category == 2))))) : LR base ro M (sL2 ls i v) rls' := by
  obtain ⟨h1, h2, h3, h4, h5⟩ := h
  have fl : ∀ (j : Nat) (w : Value), j ≠ i → j ≠ i + 1 → ls.getD j none = some w → (j + 1 = i → w.category = 1) → (j, rV base ro w) ∈ ((i, rV base ro v) :: (lvE base ro ls).filter (fun q => !(q.1 == i) && (!(q.1 == i + 1) && !(q.1 + 1 == i && q.2.category == 2)))) := by
    intro j w n1 n2 hj hc
    refine List.mem_cons_of_mem _ (List.mem_filter.mpr ⟨lvE_mem hj, ?_⟩)
    have e1 : (j == i) = false := by simpa using n1
    have e2 : (j == i + 1) = false := by simpa using n2
    simp only [e1, e2, Bool.not_false, Bool.true_and]
    by_cases g : j + 1 = i
    · have := hc g
      rw [← rV_cat (base := base) (ro := ro)] at this
      simp [this]
    · simp [g]
  rw [pre0_eq]
  have p1 := pre2 ls i
  have p2 := len2 ls i
  generalize pre0 ls i = l0 at p1 p2 ⊢
  refine LR.by (by simp [p2, h2]) (fun q => by rw [hw] at q; cases q) h' (fun j w hj => ?_)
  rw [getD_set] at hj
  by_cases c1 : j = i + 1 ∧ i + 1 < (l0.set i (some v)).length
  · rw [if_pos c1] at hj; cases hj
  · rw [if_neg c1, getD_set] at hj
    have m2 : j ≠ i + 1 := fun q => c1 ⟨q, by simp [p2, h2]; exact hi⟩
    by_cases c2 : j = i ∧ i < l0.length
    · rw [if_pos c2] at hj; cases hj; rw [c2.1]; exact List.mem_cons_self
    · rw [if_neg c2] at hj
      have m1 : j ≠ i := fun q => c2 ⟨q, by omega⟩
      obtain ⟨g1, g2⟩ := p1 j w hj
      exact fl j w m1 m2 g1 g2
theorem pV_inv {st : List Value} {f : Value → List Value → Prop} (h : pV st f) : ∃ v r, st = v :: r ∧ f v r := by
  unfold pV at h; split at h
  · exact ⟨_, _, rfl, h⟩
  · exact h.elim
theorem pI_inv {st : List Value} {f : Int32 → List Value → Prop} (h : pI st f) : ∃ v r, st = .int v :: r ∧ f v r := by
  unfold pI at h; split at h
  · exact ⟨_, _, rfl, h⟩
  · exact h.elim
theorem pL_inv {st : List Value} {f : Int64 → List Value → Prop} (h : pL st f) : ∃ v r, st = .long v :: r ∧ f v r := by
  unfold pL at h; split at h
  · exact ⟨_, _, rfl, h⟩
  · exact h.elim
theorem pD_inv {st : List Value} {f : UInt64 → List Value → Prop} (h : pD st f) : ∃ v r, st = .double v :: r ∧ f v r := by
  unfold pD at h; split at h
  · exact ⟨_, _, rfl, h⟩
  · exact h.elim
theorem pA_inv {st : List Value} {f : Nat → List Value → Prop} (h : pA st f) : ∃ v r, st = .ref v :: r ∧ f v r := by
  unfold pA at h; split at h
  · exact ⟨_, _, rfl, h⟩
  · exact h.elim
theorem lI_inv {ls : LV} {i : Nat} {f : Int32 → Prop} (h : lI ls i f) : ∃ v, ls.getD i none = some (.int v) ∧ f v := by
  unfold lI at h; split at h
  · exact ⟨_, by assumption, h⟩
  · exact h.elim
theorem lA_inv {ls : LV} {i : Nat} {f : Nat → Prop} (h : lA ls i f) : ∃ v, ls.getD i none = some (.ref v) ∧ f v := by
  unfold lA at h; split at h
  · exact ⟨_, by assumption, h⟩
  · exact h.elim
theorem lL_inv {ls : LV} {i : Nat} {f : Int64 → Prop} (h : lL ls i f) : ∃ v, ls.getD i none = some (.long v) ∧ f v := by
  unfold lL at h; split at h
  · exact ⟨_, by assumption, h⟩
  · exact h.elim
theorem lD_inv {ls : LV} {i : Nat} {f : UInt64 → Prop} (h : lD ls i f) : ∃ v, ls.getD i none = some (.double v) ∧ f v := by
  unfold lD at h; split at h
  · exact ⟨_, by assumption, h⟩
  · exact h.elim
theorem oki_inv {i L : Nat} {P : Prop} (h : oki i L P) : i < L ∧ P := by
  unfold oki at h; split at h
  · rename_i g; exact ⟨by simpa using g, h⟩
  · exact h.elim
theorem tgt_inv {pc : Nat} {off : Int} {f : Nat → Prop} (h : tgt pc off f) : ∃ t : Nat, (pc : Int) + off = (t : Int) ∧ f t := by
  unfold tgt at h; split at h
  · rename_i t g; exact ⟨t, g, h⟩
  · exact h.elim
theorem onR_inv {o : Option Nat} {P : Nat → Prop} (h : onR o P) : ∃ b, o = some b ∧ P b := by
  unfold onR at h; split at h
  · exact ⟨_, rfl, h⟩
  · exact h.elim
set_option maxHeartbeats 4000000 in
theorem sim_sop {ins : Instr} {n pc : Nat} {st : List Value} {rls : Array Slot} {f : List Value → Prop} (hx : p.tables.exec = Jvm.exec) (hb : c.code = mi_c M) (hdg : decode (mi_c M) pc = .ok (ins, n)) (hl : ilen ins n = true) (h : sop ins st f)
    (k : ∀ r, f r → W p l e R s m args below meth c H locs cells slots Qe (F0 m (pc + n) rls (r.map (rV base ro)))) : W p l e R s m args below meth c H locs cells slots Qe (F0 m pc rls (st.map (rV base ro))) := by
  unfold sop at h
  split at h
  case _ =>
    have en : n = 1 := eq_of_beq hl
    subst en
    exact lv_iconst hx hb hdg rfl (k _ h)
  case _ =>
    have en : n = 2 := eq_of_beq hl
    subst en
    exact lv_bipush hx hb hdg rfl (k _ h)
  case _ =>
    have en : n = 3 := eq_of_beq hl
    subst en
    exact lv_sipush hx hb hdg rfl (k _ h)
  case _ =>
    have en : n = 1 := eq_of_beq hl
    subst en
    exact lv_lconst hx hb hdg rfl (k _ h)
  case _ =>
    have en : n = 1 := eq_of_beq hl
    subst en
    split at h
    · exact lv_dconst0 hx hb hdg (k _ h)
    · exact h.elim
  case _ =>
    have en : n = 1 := eq_of_beq hl
    subst en
    exact lv_null hx hb hdg (k _ h)
  case _ =>
    have en : n = 1 := eq_of_beq hl
    subst en
    obtain ⟨y, r, rfl, h1⟩ := pI_inv h
    obtain ⟨x, r, rfl, h2⟩ := pI_inv h1
    exact lv_iadd hx hb hdg (k _ h2)
  case _ =>
    have en : n = 1 := eq_of_beq hl
    subst en
    obtain ⟨y, r, rfl, h1⟩ := pI_inv h
    obtain ⟨x, r, rfl, h2⟩ := pI_inv h1
    exact lv_isub hx hb hdg (k _ h2)
  case _ =>
    have en : n = 1 := eq_of_beq hl
    subst en
    obtain ⟨y, r, rfl, h1⟩ := pI_inv h
    obtain ⟨x, r, rfl, h2⟩ := pI_inv h1
    exact lv_imul hx hb hdg (k _ h2)
  case _ =>
    have en : n = 1 := eq_of_beq hl
    subst en
    obtain ⟨y, r, rfl, h1⟩ := pI_inv h
    obtain ⟨x, r, rfl, h2⟩ := pI_inv h1
    exact lv_iand hx hb hdg (k _ h2)
  case _ =>
    have en : n = 1 := eq_of_beq hl
    subst en
    obtain ⟨y, r, rfl, h1⟩ := pI_inv h
    obtain ⟨x, r, rfl, h2⟩ := pI_inv h1
    exact lv_ior hx hb hdg (k _ h2)
  case _ =>
    have en : n = 1 := eq_of_beq hl
    subst en
    obtain ⟨y, r, rfl, h1⟩ := pI_inv h
    obtain ⟨x, r, rfl, h2⟩ := pI_inv h1
    exact lv_idiv hx hb hdg h2.1 (k _ h2.2)
  case _ =>
    have en : n = 1 := eq_of_beq hl
    subst en
    obtain ⟨y, r, rfl, h1⟩ := pI_inv h
    obtain ⟨x, r, rfl, h2⟩ := pI_inv h1
    exact lv_irem hx hb hdg h2.1 (k _ h2.2)
  case _ =>
    have en : n = 1 := eq_of_beq hl
    subst en
    obtain ⟨x, r, rfl, h2⟩ := pI_inv h
    exact lv_ineg hx hb hdg (k _ h2)
  case _ =>
    have en : n = 1 := eq_of_beq hl
    subst en
    obtain ⟨y, r, rfl, h1⟩ := pI_inv h
    obtain ⟨x, r, rfl, h2⟩ := pI_inv h1
    exact lv_ishl hx hb hdg (k _ h2)
  case _ =>
    have en : n = 1 := eq_of_beq hl
    subst en
    obtain ⟨y, r, rfl, h1⟩ := pI_inv h
    obtain ⟨x, r, rfl, h2⟩ := pI_inv h1
    exact lv_ishr hx hb hdg (k _ h2)
  case _ =>
    have en : n = 1 := eq_of_beq hl
    subst en
    obtain ⟨y, r, rfl, h1⟩ := pI_inv h
    obtain ⟨x, r, rfl, h2⟩ := pI_inv h1
    exact lv_iushr hx hb hdg rfl (k _ h2)
  case _ =>
    have en : n = 1 := eq_of_beq hl
    subst en
    obtain ⟨y, r, rfl, h1⟩ := pL_inv h
    obtain ⟨x, r, rfl, h2⟩ := pL_inv h1
    exact lv_ladd hx hb hdg (k _ h2)
  case _ =>
    have en : n = 1 := eq_of_beq hl
    subst en
    obtain ⟨y, r, rfl, h1⟩ := pL_inv h
    obtain ⟨x, r, rfl, h2⟩ := pL_inv h1
    exact lv_lmul hx hb hdg (k _ h2)
  case _ =>
    have en : n = 1 := eq_of_beq hl
    subst en
    obtain ⟨y, r, rfl, h1⟩ := pL_inv h
    obtain ⟨x, r, rfl, h2⟩ := pL_inv h1
    exact lv_lrem hx hb hdg h2.1 (k _ h2.2)
  case _ =>
    have en : n = 1 := eq_of_beq hl
    subst en
    obtain ⟨y, r, rfl, h1⟩ := pL_inv h
    obtain ⟨x, r, rfl, h2⟩ := pL_inv h1
    exact W.lcmp hx hb hdg (k _ h2)
  case _ =>
    have en : n = 1 := eq_of_beq hl
    subst en
    obtain ⟨x, r, rfl, h2⟩ := pI_inv h
    exact lv_i2l hx hb hdg rfl (k _ h2)
  case _ =>
    have en : n = 1 := eq_of_beq hl
    subst en
    obtain ⟨x, r, rfl, h2⟩ := pL_inv h
    exact lv_l2i hx hb hdg rfl (k _ h2)
  case _ =>
    have en : n = 1 := eq_of_beq hl
    subst en
    obtain ⟨x, r, rfl, h2⟩ := pI_inv h
    exact lv_i2b hx hb hdg rfl (k _ h2)
  case _ =>
    have en : n = 1 := eq_of_beq hl
    subst en
    obtain ⟨x, r, rfl, h2⟩ := pI_inv h
    exact lv_i2c hx hb hdg rfl (k _ h2)
  case _ =>
    have en : n = 1 := eq_of_beq hl
    subst en
    obtain ⟨x, r, rfl, h2⟩ := pI_inv h
    exact lv_i2d hx hb hdg (k _ h2)
  case _ =>
    have en : n = 1 := eq_of_beq hl
    subst en
    obtain ⟨y, r, rfl, h1⟩ := pD_inv h
    obtain ⟨x, r, rfl, h2⟩ := pD_inv h1
    exact lv_ddiv hx hb hdg h2.1 (k _ h2.2)
  case _ =>
    have en : n = 1 := eq_of_beq hl
    subst en
    obtain ⟨y, r, rfl, h1⟩ := pD_inv h
    obtain ⟨x, r, rfl, h2⟩ := pD_inv h1
    exact lv_dcmp hx hb hdg (k _ h2)
  case _ =>
    have en : n = 1 := eq_of_beq hl
    subst en
    obtain ⟨v, r, rfl, h2⟩ := pV_inv h
    split at h2
    · exact lv_dup hx hb hdg rfl (k _ h2)
    · exact lv_dup hx hb hdg rfl (k _ h2)
    · exact h2.elim
  case _ =>
    have en : n = 1 := eq_of_beq hl
    subst en
    obtain ⟨v, r, rfl, h2⟩ := pV_inv h
    split at h2
    · exact lv_pop hx hb hdg rfl (k _ h2)
    · exact lv_pop hx hb hdg rfl (k _ h2)
    · exact h2.elim
  case _ =>
    have en : n = 1 := eq_of_beq hl
    subst en
    obtain ⟨x, r, rfl, h1⟩ := pI_inv h
    obtain ⟨y, r, rfl, h2⟩ := pA_inv h1
    exact lv_dup_x1 hx hb hdg rfl rfl (k _ h2)
  case _ =>
    have en : n = 1 := eq_of_beq hl
    subst en
    obtain ⟨x, r, rfl, h1⟩ := pI_inv h
    obtain ⟨y, r, rfl, h2⟩ := pA_inv h1
    exact lv_dup2_11 hx hb hdg rfl rfl (k _ h2)
  case _ => exact h.elim
end SimRows
end
section
section HeapRows
variable {p : Program} {l : Launch} {e : Env} {R : Room} {s : State} {m : MethodId} {args : Array Value} {below : List Frame} {meth : Method} {c : Code} {H : Heap} {locs : List Loc} {Qe : State → Prop} {cells slots : Nat}
variable {M : MI} {D : va_G} {cA : Nat → ClassId} {base : Nat} {ro : Nat → Nat} {μ : Mu} {pc : Nat} {rls : Array Slot} {r : List Value}
theorem isO_ro {A : Nat → Prop} {E : String} {t : Nat} {U : State} {H : Heap} (h : va_O E t A U H) : ¬ A t := by
  obtain ⟨_, _, _, _, h⟩ := h
  exact h
theorem kds_lt {ci : Nat} (h : ci ∈ kds) : ci < 13 := by
  simp only [kds, List.mem_cons, List.not_mem_nil, or_false] at h
  omega
theorem cE_obj {ci : Nat} (h : ci ∈ kds) {a N : Nat} (hs : mS μ a = (ci, N)) : cE cA base ro μ a = .inr (ci, (List.range (cnf ci)).map (fV base ro μ a ci)) := by
  have hk := kds_lt h
  unfold cE
  rw [hs]
  rw [if_neg (by dsimp only; omega), if_neg (by dsimp only; omega), if_neg (by dsimp only; omega), if_neg (by dsimp only; omega), if_neg (by dsimp only; omega), if_neg (by dsimp only; omega), if_neg (by dsimp only; omega)]
theorem fres_mem {n idx ci k : Nat} (h : fres n idx = some (ci, k)) : n < 20 ∧ (idx, ci, k) ∈ ftab.getD n [] := by
  unfold fres at h
  obtain ⟨⟨i, q⟩, hq, he⟩ := Option.map_eq_some_iff.mp h
  have h1 := List.find?_some hq
  have h2 := List.mem_of_find?_eq_some hq
  have e1 : i = idx := eq_of_beq h1
  have e2 : q = (ci, k) := he
  subst e1; subst e2
  refine ⟨?_, h2⟩
  rcases Nat.lt_or_ge n 20 with g | g
  · exact g
  · rw [List.getD_eq_getElem?_getD, List.getElem?_eq_none (by exact g)] at h2; cases h2
/-- what the tables say of a field that an instruction names -/
theorem fres_word {n idx ci k : Nat} (h : fres n idx = some (ci, k)) : n < 20 ∧ ci ∈ kds ∧ k < cnf ci ∧ Cond.fieldLink (cnm.getD n "") idx ((kcl ci).2.1 k).1 ((kcl ci).2.1 k).2.1 ((kcl ci).2.1 k).2.2.1 ∈ ALLG := by
  obtain ⟨h1, h2⟩ := fres_mem h
  obtain ⟨g1, g2, g3⟩ := chkF n h1 _ h2
  exact ⟨h1, g1, g2, inG_mem g3⟩
theorem map_get {f : Nat → Value} {N k : Nat} (h : k < N) : ((List.range N).map f)[k]? = some (f k) := by
  rw [List.getElem?_map, List.getElem?_range h]; rfl
theorem chkF0 : ∀ n, n < 20 → ∀ r ∈ ftab.getD n [], r.2.1 = 0 → r.2.2 < 2 := by decide +kernel
theorem pg_get (C : Ctx p R s m args c M D cA base) {idx ci k a : Nat} (hP : Pic D cA base ro μ H) (hRO : RO base ro μ s s.heap) (hS : va_S (isO base) s.heap H locs) (hf : fres (mi_n M) idx = some (ci, k)) (hs : mS μ a = (ci, cnf ci)) (hdg : decode (mi_c M) pc = .ok (.getfield idx, 3))
    (kk : W p l e R s m args below meth c H locs cells slots Qe (F0 m (pc + 3) rls (fV base ro μ a ci k :: r))) : W p l e R s m args below meth c H locs cells slots Qe (F0 m pc rls (.ref (rA base ro a) :: r)) := by
  obtain ⟨hx, hb, hml, hown, hts, hK, hbase, hn, hRc, hRs, hRf, hRl⟩ := C
  obtain ⟨-, h2, h3, h4⟩ := fres_word hf
  obtain ⟨q1, q2⟩ := chkK ci h2
  rcases Nat.lt_or_ge a 1000 with ha | ha
  · obtain ⟨g1, g2, g3, g4⟩ := hRO.1 a ha
    rw [hs] at g3 g4
    have hc0 : ci = 0 := by
      have := kds_lt h2
      dsimp only at g4
      omega
    subst hc0
    obtain ⟨k1, k2, v, k3, k4, k5⟩ := g3 rfl
    rw [rA_ro ha]
    have hk2 : k < 2 := chkF0 _ hn _ (fres_mem hf).2 rfl
    rcases (by omega : k = 0 ∨ k = 1) with rfl | rfl
    · have e1 : fV base ro μ a 0 0 = .ref (ro v) := by
        show va_rf ((mR μ a 0).map (rA base ro)) = _
        rw [k3]; show Value.ref (rA base ro v) = _; rw [rA_ro k4]
      rw [e1] at kk
      exact vk_getf hx hb k5 hS hown (hts _ h4) (fun _ h => h) hdg kk
    · exact vk_getf hx hb k2 hS hown (hts _ h4) (fun _ h => h) hdg kk
  · obtain ⟨p1, p2, p3⟩ := hP
    obtain ⟨w1, w2, -⟩ := p3 a ha (by rw [hs]; have := kds_lt h2; dsimp only; omega)
    rw [cE_obj h2 hs] at w2
    have hPw : va_P D vwCl [(rA base ro a, .inr (ci, (List.range (cnf ci)).map (fV base ro μ a ci)))] H := by
      intro k q hq
      have hk : k < 1 := (List.getElem?_eq_some_iff.mp hq).1
      rw [show k = 0 by omega] at hq
      cases hq
      exact w2
    exact va_get (C := (kcl ci).1) (T := (kcl ci).2.1) (N := (kcl ci).2.2) hx hb hts (fun w hw => inG_mem (chkU ci h2 w hw)) hown hK hPw 0 rfl q1 k (by rw [q2]; exact h3) (hts _ h4) (fun _ h => h) (map_get h3) hdg kk
theorem sl_range (n k : Nat) : True := trivial
theorem pg_put (C : Ctx p R s m args c M D cA base) {idx ci k a : Nat} {v : Value} {μ' : Mu} (hP : Pic D cA base ro μ H) (hS : va_S (isO base) s.heap H locs) (hf : fres (mi_n M) idx = some (ci, k)) (hs : mS μ a = (ci, cnf ci)) (ha : 1000 ≤ a) (hfo : pfo M ci k = true) (hmn : (mi_y M).name = "<init>" → meth.name = "<init>")
    (hn : narrow (fty ci k) v = v) (hfit : fits (fty ci k) v = true)
    (hX : mX μ' = mX μ) (hSS : mS μ' = mS μ) (hI : ∀ b, b ≠ a → mI μ' b = mI μ b) (hJ : ∀ b, b ≠ a → mJ μ' b = mJ μ b) (hR : ∀ b, b ≠ a → mR μ' b = mR μ b) (hfv : ∀ j, fV base ro μ' a ci j = if j = k then v else fV base ro μ a ci j)
    (hdg : decode (mi_c M) pc = .ok (.putfield idx, 3))
    (kk : ∀ (H1 : Heap) (locs1 : List Loc), Pic D cA base ro μ' H1 → va_S (isO base) s.heap H1 locs1 → W p l e R s m args below meth c H1 locs1 cells slots Qe (F0 m (pc + 3) rls r)) : W p l e R s m args below meth c H locs cells slots Qe (F0 m pc rls (v :: .ref (rA base ro a) :: r)) := by
  obtain ⟨hx, hb, hml, hown, hts, hK, hbase, hn20, hRc, hRs, hRf, hRl⟩ := C
  obtain ⟨-, h2, h3, h4⟩ := fres_word hf
  obtain ⟨q1, q2⟩ := chkK ci h2
  obtain ⟨t1, t2⟩ := chkT ci h2 k h3
  have hk13 := kds_lt h2
  have hP0 := hP
  obtain ⟨p1, p2, p3⟩ := hP
  obtain ⟨w1, w2, -⟩ := p3 a ha (by rw [hs]; dsimp only; omega)
  rw [cE_obj h2 hs] at w2
  have hin : ∀ w ∈ u_ws (kcl ci).1 (kcl ci).2.1 (kcl ci).2.2, w ∈ ALLG := fun w hw => inG_mem (chkU ci h2 w hw)
  have hap := va_apart (own := cnm.getD (mi_n M) "") (D := D) (cl := vwCl) (tys := tysL cA) (ci := ci) hts hin (fty ci) (fun k hk => (chkT ci h2 k (by rw [← q2]; exact hk)).1) (fun a ha b hb hne => chkN ci h2 a (by rw [← q2]; exact ha) b (by rw [← q2]; exact hb) hne) hK q1
  obtain ⟨rr, z1, cell, y1, y2, y3, y4⟩ := w2
  have hr : rr = kcl ci := Option.some.inj (z1.symm.trans q1)
  subst hr
  obtain ⟨hSl, hfc, kC, hkC, hkind⟩ := hK.1 ci _ q1
  have h3' : k < (kcl ci).2.2 := by rw [q2]; exact h3
  obtain ⟨cf, kf, fi, f, hi, hsl⟩ := hSl k h3'
  have hlay := hts _ (hin _ (u_in_lay h3'))
  have hst := (u_facts hfc hkC (u_lays hts hin h3') hi).1
  have fin : ∀ H' : Heap, H'[rA base ro a]? = some (cell.setSlot f.slot v) → H'.size = H.size → (∀ q, q ≠ rA base ro a → H'[q]? = H[q]?) → W p l e R s m args below meth c H' (locs ++ [⟨rA base ro a, f.slot⟩]) cells slots Qe (F0 m (pc + 3) rls r) := by
    intro H' e1 e2 e3
    rw [hsl] at e1
    have hob : t_OB (rA base ro a) (D.1 ci) (kcl ci).2.2 (D.2 ci) H' (vp_V ((List.range (cnf ci)).map (fV base ro μ' a ci))) := by
      have hs9 : ((List.range (cnf ci)).map (fV base ro μ a ci)).set k v = (List.range (cnf ci)).map (fV base ro μ' a ci) := by
        rw [setMap]; congr 1; funext j; exact (hfv j).symm
      rw [← hs9]
      exact t_OB.to (V := updV (vp_V ((List.range (cnf ci)).map (fV base ro μ a ci))) k v) ⟨_, e1, y2, y3, t_set y4 hap h3' v⟩ (fun j _ => vp_updV_set (by simpa using h3) v j)
    refine kk H' _ (hP0.upd ha e2 e3 hX hSS hI hJ hR ?_ (fun z => by rw [hs] at z; dsimp only at z; omega)) (hS.put e2 e3 (by show base ≤ rA base ro a; rw [rA_big ha]; omega))
    rw [cE_obj h2 (by rw [hSS]; exact hs)]
    exact ⟨_, q1, hob⟩
  cases hff : ffin ci k with
  | false =>
    unfold u_lay at hlay
    rw [if_neg (by rw [← t2, hff]; decide)] at hlay
    have h6 := u_store hfc hkC hkind hlay hi t1 hn hfit
    exact W.putK hx hb (f := f) ⟨hown, hts _ h4, ⟨_, _, _, hi⟩, hst⟩ (by rw [y2]; exact h6) y1 y3 (by rw [hsl]; exact k2_hasslot (y4 k h3')) rfl rfl hdg fin
  | true =>
    unfold u_lay at hlay
    rw [if_pos (by rw [← t2, hff])] at hlay
    unfold pfo at hfo
    rw [hff] at hfo
    simp only [Bool.not_true, Bool.false_or, Bool.and_eq_true, beq_iff_eq] at hfo
    obtain ⟨o1, o2⟩ := hfo
    have hd : ((kcl ci).2.1 k).1 = cnm.getD (mi_n M) "" := by
      have hno : mi_n M ∉ [1, 2] := by
        intro hm
        have e2 : ci = 1 := by
          rcases List.mem_cons.mp hm with z | z
          · rw [z] at o2; rw [← o2]; rfl
          · rw [List.mem_singleton.mp z] at o2; rw [← o2]; rfl
        subst e2
        have : ∀ k, k < cnf 1 → ffin 1 k = false := by decide
        rw [this k h3] at hff; cases hff
      have := (chkO (mi_n M) hn20 (by rw [o2]; exact h2) hno).2 k (by rw [o2]; exact h3)
      rw [o2] at this
      exact this
    have hcf : m.cls = cf := by
      obtain ⟨_, _, c', _, _, _, -, -, hf', -, -, -, hown2, -⟩ := Cond.laysFinal_spec hlay
      have e1 : c' = cf := by have := hi.symm.trans hf'; simp at this; exact this.1.symm
      rw [hd] at hown2
      rw [← e1]; exact Option.some.inj (hown.symm.trans hown2)
    have h6 := u_fits hfc hkC hkind (Or.inr hlay) hi t1 hn hfit
    exact W.putFinK hx hb hown (hts _ h4) hi hst hcf (hmn o1) (by rw [y2]; exact h6) y1 y3 (by rw [hsl]; exact k2_hasslot (y4 k h3')) rfl rfl hdg fin
theorem cE_20 {a : Nat} (h : (mS μ a).1 = 20) : cE cA base ro μ a = .inl (cA 20, (mS μ a).2, .inl (mI μ a)) := by unfold cE; rw [if_pos h]
theorem cE_21 {a : Nat} (h : (mS μ a).1 = 21) : cE cA base ro μ a = .inl (cA 21, (mS μ a).2, .inl (mI μ a)) := by unfold cE; rw [if_neg (by rw [h]; decide), if_pos h]
theorem cE_22 {a : Nat} (h : (mS μ a).1 = 22) : cE cA base ro μ a = .inl (cA 21, (mS μ a).2, .inl (mI μ a)) := by unfold cE; rw [if_neg (by rw [h]; decide), if_neg (by rw [h]; decide), if_pos h]
theorem cE_23 {a : Nat} (h : (mS μ a).1 = 23) : cE cA base ro μ a = .inl (cA 23, (mS μ a).2, .inr (.inr (.inr (.inr fun j => (mR μ a j).map (rA base ro))))) := by unfold cE; rw [if_neg (by rw [h]; decide), if_neg (by rw [h]; decide), if_neg (by rw [h]; decide), if_pos h]
theorem cE_24 {a : Nat} (h : (mS μ a).1 = 24) : cE cA base ro μ a = .inl (cA 24, (mS μ a).2, .inr (.inr (.inr (.inr fun j => (mR μ a j).map (rA base ro))))) := by unfold cE; rw [if_neg (by rw [h]; decide), if_neg (by rw [h]; decide), if_neg (by rw [h]; decide), if_neg (by rw [h]; decide), if_pos h]
theorem cE_25 {a : Nat} (h : (mS μ a).1 = 25) : cE cA base ro μ a = .inl (cA 25, (mS μ a).2, .inl (mI μ a)) := by unfold cE; rw [if_neg (by rw [h]; decide), if_neg (by rw [h]; decide), if_neg (by rw [h]; decide), if_neg (by rw [h]; decide), if_neg (by rw [h]; decide), if_pos h]
theorem cE_26 {a : Nat} (h : (mS μ a).1 = 26) : cE cA base ro μ a = .inl (cA 26, (mS μ a).2, .inr (.inr (.inr (.inr fun j => (mR μ a j).map (rA base ro))))) := by unfold cE; rw [if_neg (by rw [h]; decide), if_neg (by rw [h]; decide), if_neg (by rw [h]; decide), if_neg (by rw [h]; decide), if_neg (by rw [h]; decide), if_neg (by rw [h]; decide), if_pos h]
/-- one thing as a world of its own -/
theorem one_P {a : Nat} {x : va_E} (h : va_at D vwCl (rA base ro a, x) H) : va_P D vwCl [(rA base ro a, x)] H := by
  intro k q hq
  have hk : k < 1 := (List.getElem?_eq_some_iff.mp hq).1
  rw [show k = 0 by omega] at hq
  cases hq
  exact h
theorem pg_ild (C : Ctx p R s m args c M D cA base) {a : Nat} {i : Int32} (hP : Pic D cA base ro μ H) (hRO : RO base ro μ s s.heap) (hS : va_S (isO base) s.heap H locs) (hs : (mS μ a).1 = 20) (hin : vp_in i (mS μ a).2) (hdg : decode (mi_c M) pc = .ok (.iaload, 1))
    (kk : W p l e R s m args below meth c H locs cells slots Qe (F0 m (pc + 1) rls (.int (mI μ a i.toNatClampNeg) :: r))) : W p l e R s m args below meth c H locs cells slots Qe (F0 m pc rls (.int i :: .ref (rA base ro a) :: r)) := by
  obtain ⟨hx, hb, hml, hown, hts, hK, -⟩ := C
  rcases Nat.lt_or_ge a 1000 with ha | ha
  · rw [rA_ro ha]
    exact va_ti hx hb ((hRO.1 a ha).1 hs) hS hin rfl hdg kk
  · obtain ⟨w1, w2, -⟩ := hP.2.2 a ha (by rw [hs]; decide)
    rw [cE_20 hs] at w2
    exact va_iald hx hb hK (one_P w2) 0 0 rfl rfl hin hdg kk
theorem pg_bld (C : Ctx p R s m args c M D cA base) {a : Nat} {i : Int32} (hP : Pic D cA base ro μ H) (hRO : RO base ro μ s s.heap) (hS : va_S (isO base) s.heap H locs) (hs : (mS μ a).1 = 21) (hin : vp_in i (mS μ a).2) (hdg : decode (mi_c M) pc = .ok (.baload, 1))
    (kk : W p l e R s m args below meth c H locs cells slots Qe (F0 m (pc + 1) rls (.int (mI μ a i.toNatClampNeg) :: r))) : W p l e R s m args below meth c H locs cells slots Qe (F0 m pc rls (.int i :: .ref (rA base ro a) :: r)) := by
  obtain ⟨hx, hb, hml, hown, hts, hK, -⟩ := C
  rcases Nat.lt_or_ge a 1000 with ha | ha
  · rw [rA_ro ha]
    exact va_tb hx hb ((hRO.1 a ha).2.1 hs) hS hin rfl hdg kk
  · obtain ⟨w1, w2, -⟩ := hP.2.2 a ha (by rw [hs]; decide)
    rw [cE_21 hs] at w2
    exact va_bald hx hb hK (one_P w2) 0 1 rfl rfl hin hdg kk
theorem pg_zld (C : Ctx p R s m args c M D cA base) {a : Nat} {i : Int32} (hP : Pic D cA base ro μ H) (ha : 1000 ≤ a) (hs : (mS μ a).1 = 25) (hin : vp_in i (mS μ a).2) (hdg : decode (mi_c M) pc = .ok (.baload, 1))
    (kk : W p l e R s m args below meth c H locs cells slots Qe (F0 m (pc + 1) rls (.int (mI μ a i.toNatClampNeg) :: r))) : W p l e R s m args below meth c H locs cells slots Qe (F0 m pc rls (.int i :: .ref (rA base ro a) :: r)) := by
  obtain ⟨hx, hb, hml, hown, hts, hK, -⟩ := C
  obtain ⟨w1, w2, -⟩ := hP.2.2 a ha (by rw [hs]; decide)
  rw [cE_25 hs] at w2
  exact va_zald hx hb hK (one_P w2) 0 5 rfl rfl hin hdg kk
theorem pg_sld (C : Ctx p R s m args c M D cA base) {a b : Nat} {i : Int32} (hP : Pic D cA base ro μ H) (ha : 1000 ≤ a) (hs : (mS μ a).1 = 26) (hin : vp_in i (mS μ a).2) (hb9 : mR μ a i.toNatClampNeg = some b) (hdg : decode (mi_c M) pc = .ok (.aaload, 1))
    (kk : W p l e R s m args below meth c H locs cells slots Qe (F0 m (pc + 1) rls (.ref (rA base ro b) :: r))) : W p l e R s m args below meth c H locs cells slots Qe (F0 m pc rls (.int i :: .ref (rA base ro a) :: r)) := by
  obtain ⟨hx, hb, hml, hown, hts, hK, -⟩ := C
  have e : va_rf ((fun j => (mR μ a j).map (rA base ro)) i.toNatClampNeg) = .ref (rA base ro b) := by dsimp only; rw [hb9]; rfl
  obtain ⟨w1, w2, -⟩ := hP.2.2 a ha (by rw [hs]; decide)
  rw [cE_26 hs] at w2
  exact va_aldq hx hb hK (one_P w2) 0 6 rfl rfl hin hdg (by rw [e]; exact kk)
theorem pg_ald (C : Ctx p R s m args c M D cA base) {a b : Nat} {i : Int32} (hP : Pic D cA base ro μ H) (ha : 1000 ≤ a) (hs : (mS μ a).1 = 23 ∨ (mS μ a).1 = 24) (hin : vp_in i (mS μ a).2) (hb9 : mR μ a i.toNatClampNeg = some b) (hdg : decode (mi_c M) pc = .ok (.aaload, 1))
    (kk : W p l e R s m args below meth c H locs cells slots Qe (F0 m (pc + 1) rls (.ref (rA base ro b) :: r))) : W p l e R s m args below meth c H locs cells slots Qe (F0 m pc rls (.int i :: .ref (rA base ro a) :: r)) := by
  obtain ⟨hx, hb, hml, hown, hts, hK, -⟩ := C
  have e : va_rf ((fun j => (mR μ a j).map (rA base ro)) i.toNatClampNeg) = .ref (rA base ro b) := by dsimp only; rw [hb9]; rfl
  rcases hs with hs | hs
  · obtain ⟨w1, w2, -⟩ := hP.2.2 a ha (by rw [hs]; decide)
    rw [cE_23 hs] at w2
    exact va_aldq hx hb hK (one_P w2) 0 3 rfl rfl hin hdg (by rw [e]; exact kk)
  · obtain ⟨w1, w2, -⟩ := hP.2.2 a ha (by rw [hs]; decide)
    rw [cE_24 hs] at w2
    exact va_aldq hx hb hK (one_P w2) 0 4 rfl rfl hin hdg (by rw [e]; exact kk)
theorem in_base {a : Nat} (ha : 1000 ≤ a) : isO base (rA base ro a) := by show base ≤ _; rw [rA_big ha]; omega
theorem upd_at (f : Nat → Int32) (k : Nat) (x : Int32) : (fun j => if j = k then x else f j) = upd f k x := rfl
theorem pg_ist (C : Ctx p R s m args c M D cA base) {a : Nat} {i x : Int32} (hP : Pic D cA base ro μ H) (hS : va_S (isO base) s.heap H locs) (ha : 1000 ≤ a) (hs : (mS μ a).1 = 20) (hin : vp_in i (mS μ a).2) (hdg : decode (mi_c M) pc = .ok (.iastore, 1))
    (kk : ∀ (H1 : Heap) (locs1 : List Loc), Pic D cA base ro (uI μ a i.toNatClampNeg x) H1 → va_S (isO base) s.heap H1 locs1 → W p l e R s m args below meth c H1 locs1 cells slots Qe (F0 m (pc + 1) rls r)) : W p l e R s m args below meth c H locs cells slots Qe (F0 m pc rls (.int x :: .int i :: .ref (rA base ro a) :: r)) := by
  obtain ⟨hx, hb, hml, hown, hts, hK, -⟩ := C
  obtain ⟨w1, w2, -⟩ := hP.2.2 a ha (by rw [hs]; decide)
  rw [cE_20 hs] at w2
  refine W.iast hx hb w2 ((hK.2 0 _ rfl).1 (mS μ a).2 (fun j => .int (mI μ a j))) (fun q => by cases q) (by show ¬ (i < 0 ∨ (arrV _ _ _).slots.size ≤ _); rw [arrV_size]; exact hin) rfl rfl hdg fun H1 e1 z oq => ?_
  have eI : mI (uI μ a i.toNatClampNeg x) a = upd (mI μ a) i.toNatClampNeg x := by
    funext j; simp [mI, uI, upd]
  refine kk H1 _ (hP.upd ha z oq rfl rfl (fun b hb => by funext j; simp [mI, uI, hb]) (fun _ _ => rfl) (fun _ _ => rfl) ?_ (fun q => by rw [hs] at q; cases q)) (hS.put z oq (in_base ha))
  rw [cE_20 (show (mS (uI μ a i.toNatClampNeg x) a).1 = 20 from hs), eI]
  show H1[rA base ro a]? = some (vp_cell _ _)
  rw [e1]
  rw [vp_cell_i, vp_cell_i, arrV_store]
  congr 2
  funext q
  by_cases hq : q = i.toNatClampNeg
  · subst hq; simp [updV, upd]
  · simp [updV, upd, hq]
theorem pg_bst (C : Ctx p R s m args c M D cA base) {a : Nat} {i x : Int32} (hP : Pic D cA base ro μ H) (hS : va_S (isO base) s.heap H locs) (ha : 1000 ≤ a) (hs : (mS μ a).1 = 21) (hin : vp_in i (mS μ a).2) (hdg : decode (mi_c M) pc = .ok (.bastore, 1))
    (kk : ∀ (H1 : Heap) (locs1 : List Loc), Pic D cA base ro (uI μ a i.toNatClampNeg x.toInt8.toInt32) H1 → va_S (isO base) s.heap H1 locs1 → W p l e R s m args below meth c H1 locs1 cells slots Qe (F0 m (pc + 1) rls r)) : W p l e R s m args below meth c H locs cells slots Qe (F0 m pc rls (.int x :: .int i :: .ref (rA base ro a) :: r)) := by
  obtain ⟨hx, hb, hml, hown, hts, hK, -⟩ := C
  obtain ⟨w1, w2, w3⟩ := hP.2.2 a ha (by rw [hs]; decide)
  rw [cE_21 hs] at w2
  refine W.bast hx hb w2 ((hK.2 1 _ rfl).1 (mS μ a).2 (fun j => .int (mI μ a j))) (fun q => by cases q) (by show ¬ (i < 0 ∨ (arrV _ _ _).slots.size ≤ _); rw [arrV_size]; exact hin) rfl rfl hdg fun H1 e1 z oq => ?_
  have eI : mI (uI μ a i.toNatClampNeg x.toInt8.toInt32) a = upd (mI μ a) i.toNatClampNeg x.toInt8.toInt32 := by
    funext j; simp [mI, uI, upd]
  refine kk H1 _ (hP.upd ha z oq rfl rfl (fun b hb => by funext j; simp [mI, uI, hb]) (fun _ _ => rfl) (fun _ _ => rfl) ?_ (fun q j => ?_)) (hS.put z oq (in_base ha))
  · rw [cE_21 (show (mS (uI μ a i.toNatClampNeg x.toInt8.toInt32) a).1 = 21 from hs), eI]
    show H1[rA base ro a]? = some (vp_cell _ _)
    rw [e1]
    rw [vp_cell_i, vp_cell_i, arrV_store]
    congr 2
    funext q
    by_cases hq : q = i.toNatClampNeg
    · subst hq; simp [updV, upd]
      try rfl
    · simp [updV, upd, hq]
  · rw [eI]
    unfold upd
    split
    · simp
    · exact w3 hs j
theorem pg_zst (C : Ctx p R s m args c M D cA base) {a : Nat} {i x : Int32} (hP : Pic D cA base ro μ H) (hS : va_S (isO base) s.heap H locs) (ha : 1000 ≤ a) (hs : (mS μ a).1 = 25) (hx01 : x = 0 ∨ x = 1) (hin : vp_in i (mS μ a).2) (hdg : decode (mi_c M) pc = .ok (.bastore, 1))
    (kk : ∀ (H1 : Heap) (locs1 : List Loc), Pic D cA base ro (uI μ a i.toNatClampNeg x) H1 → va_S (isO base) s.heap H1 locs1 → W p l e R s m args below meth c H1 locs1 cells slots Qe (F0 m (pc + 1) rls r)) : W p l e R s m args below meth c H locs cells slots Qe (F0 m pc rls (.int x :: .int i :: .ref (rA base ro a) :: r)) := by
  obtain ⟨hx, hb, hml, hown, hts, hK, -⟩ := C
  obtain ⟨w1, w2, w3⟩ := hP.2.2 a ha (by rw [hs]; decide)
  rw [cE_25 hs] at w2
  refine W.zast hx hb w2 ((hK.2 5 _ rfl).1 (mS μ a).2 (fun j => .int (mI μ a j))) (fun q => by cases q) (by show ¬ (i < 0 ∨ (arrV _ _ _).slots.size ≤ _); rw [arrV_size]; exact hin) rfl rfl hdg fun H1 e1 z oq => ?_
  have eI : mI (uI μ a i.toNatClampNeg x) a = upd (mI μ a) i.toNatClampNeg x := by
    funext j; simp [mI, uI, upd]
  refine kk H1 _ (hP.upd ha z oq rfl rfl (fun b hb => by funext j; simp [mI, uI, hb]) (fun _ _ => rfl) (fun _ _ => rfl) ?_ (fun q j => by rw [hs] at q; cases q)) (hS.put z oq (in_base ha))
  rw [cE_25 (show (mS (uI μ a i.toNatClampNeg x) a).1 = 25 from hs), eI]
  show H1[rA base ro a]? = some (vp_cell _ _)
  rw [e1]
  rw [vp_cell_i, vp_cell_i, arrV_store]
  congr 2
  funext q
  by_cases hq : q = i.toNatClampNeg
  · subst hq
    rcases hx01 with rfl | rfl <;> simp [updV, upd, vp_nar] <;> rfl
  · simp [updV, upd, hq]
end HeapRows
end
section
/-! ===== BEGIN a constructor that throws (launches without stack traces) ===== -/
section VXIA
variable {p : Program} {l : Launch} {e : Env} {R : Room} {s : State} {m : MethodId} {args : Array Value} {below : List Frame} {meth : Method} {c : Code} {T : State} {locs : List Loc} {cells slots : Nat}
theorem vx_callI (X : Stand p l e R s m args below meth c T locs cells slots) (hexec : p.tables.exec = Jvm.exec) {own : String} {index : Nat} {y : MethodName} {bytes : ByteArray} {maxL : Nat}
    (hown : s.vm.findClass own = some m.cls) (hy1 : y.name = "<init>") (hlink : (Cond.methodLink own index y).before args s = true) (hinst : (Cond.instanceMethod y).before args s = true)
    (hcode : (Cond.code y bytes maxL none).before args s = true) (hy : y.cls ≠ "java/lang/invoke/MethodHandle" ∧ y.cls ≠ "java/lang/invoke/VarHandle")
    {W9 : Nat} {Pre : Pt → Array Value → Prop} {Post : Pt → Array Value → Option Value → Pt → Prop} {PostX : Pt → Array Value → Addr → Pt → Prop} (hK : vx_Back l R p e below s args y 3 W9 Pre Post PostX)
    {g : JFrame} (hg : g.method = m) (hsize : g.locals.size = c.maxLocals) {a : Addr} {argsL rest : List Value} (hlen : ∀ sig, parseMethodDescriptor y.desc = some sig → argsL.length = sig.parameters.length)
    (hstack : g.stack = argsL.reverse ++ .ref a :: rest) (hW : 2 * g.monitorRoom + (rest.map fun v => v.category).sum ≤ W9) (hdg : decode c.code g.pc = .ok (.invokespecial index, 3))
    (hpre : ∀ vm₁, s.WarmedH vm₁ → Pre ⟨T.setVm vm₁, locs, cells, slots⟩ (Value.ref a :: argsL).toArray) :
    (∃ (v : Option Value) (vm₁ : Vm) (B : Pt), s.WarmedH vm₁ ∧ Stand p l e R s m args below meth c B.U B.locs B.cells B.slots ∧ Post ⟨T.setVm vm₁, locs, cells, slots⟩ (Value.ref a :: argsL).toArray v B ∧
      ∀ target, Steps p.tables e below (B.U.setTop { g with pc := g.pc + 3, stack := v.toList ++ rest }) target → Steps p.tables e below (T.setTop g) target) ∨
    (∃ (q : Addr) (vm₁ : Vm) (B : Pt), s.WarmedH vm₁ ∧ Stand p l e R s m args below meth c B.U B.locs B.cells B.slots ∧ PostX ⟨T.setVm vm₁, locs, cells, slots⟩ (Value.ref a :: argsL).toArray q B ∧
      Steps p.tables e below (T.setTop g) ((B.U.setTop { g with stack := rest }).pushFrame (.throwing q))) := by
  subst hg
  have hpl : e.platform.magicAccessors = ({} : Platform).magicAccessors := by rw [X.admits.platform]
  obtain ⟨mk, methM, cM, kP, vm₁, hnamed, hmethM, hcodeM, -, hlocalsM, -, hkP, -, hW₁, hstep₁⟩ := Steps.initColdArgs (e := e) X.here hexec X.warmed hpl hown hy1 hy hlink hinst hcode (f := g) rfl hlen hstack hdg
  have X₁ := X.noted hW₁
  rcases hK g.method meth c ⟨T.setVm vm₁, locs, cells, slots⟩ { g with stack := rest } (.invokespecial index) mk (Value.ref a :: argsL).toArray X₁ rfl hsize hdg hW (X₁.named hnamed) (hpre vm₁ X₁.warmed) with ⟨v, B, X', hpost, hsteps⟩ | ⟨q, B, X', hpost, hsteps⟩
  · exact Or.inl ⟨v, vm₁, B, X₁.warmed, X', hpost, fun target h => hstep₁ _ fun acts => by rw [doInvoke_state]; exact hsteps.trans h⟩
  · exact Or.inr ⟨q, vm₁, B, X₁.warmed, X', hpost, hstep₁ _ fun acts => by rw [doInvoke_state]; exact hsteps⟩
end VXIA
section VXIB
variable {p : Program} {l : Launch} {e : Env} {R : Room} {s : State} {m : MethodId} {args : Array Value} {below : List Frame} {meth : Method} {c : Code} {H : Heap} {locs : List Loc} {cells slots : Nat}
variable {y : MethodName} {bytes cc : ByteArray} {maxL nL mc ms n index : Nat} {ret : Option FieldType} {ws : List Cond} {rm : Room} {Pc : Array Value → State → Prop} {Qc : Array Value → State → Outcome → State → Prop} {XC : String → State → State → Prop} {free : Addr → Prop} {Ts : List Cond} {own C : String} {b : Addr} {As rest : List Value} {g : JFrame}
theorem vx_runI (S : CallFix p m c cc nL s args Ts own) (hM : vx_Met l y ws rm Pc Qc XC mc ms free) (cw : CallB R s args own index y bytes maxL none ws rm mc ms n ∧ y.name = "<init>" ∧ (Cond.instanceMethod y).before args s = true) (hp : PreS s H Pc (.ref b :: As))
    (hg : g.method = m) (hn : As.length = n) (hsize : g.locals.size = nL) (hstack : g.stack = As.reverse ++ .ref b :: rest) (hW : 2 * g.monitorRoom + (rest.map fun v => v.category).sum ≤ 8) (hdg : decode cc g.pc = .ok (.invokespecial index, 3)) (hf : cells + mc ≤ R.cells ∧ slots + ms ≤ R.slots) :
    vx_Run p l e R s m args below meth c H locs cells slots mc ms g rest (Qc (Value.ref b :: As).toArray) XC free := by
  have hK : vx_Back l R p e below s args y 3 8 (PreOf R mc ms Pc) (PostOf Qc mc ms free) (vx_Post XC mc ms free) := vx_callBack cw.1 hM hp.1
  obtain ⟨⟨-, -, -, -, -, -, hcode, -, hy, hlen, hl⟩, hy1, hin⟩ := cw
  obtain ⟨hx, hb, hml, ho, -⟩ := S
  have hPc := hp.2
  intro T hT X
  rcases vx_callI X hx (bytes := bytes) (maxL := maxL) ho hy1 hl hin hcode hy hK hg (hsize.trans hml.symm) (a := b) (argsL := As) (rest := rest) (fun sig h => hn.trans (hlen sig h)) hstack hW (by rw [hb]; exact hdg)
    (fun vm₁ hW₁ => ⟨hf.1, hf.2, hPc (T.setVm vm₁) hT hW₁⟩) with ⟨v, vm₁, ⟨U', l2, c2, s2⟩, hW₁, X', ⟨g', mk, t, L, e1, e2, hq, h1, hL, h2, h3⟩, st⟩ | ⟨q, vm₁, ⟨U', l2, c2, s2⟩, hW₁, X', ⟨g', mk, t, L, E, ce, e1, e2, hq, hce, hcv, hcl, h1, hL, h2, h3⟩, st⟩
  · dsimp only [Pt.U, Pt.locs, Pt.cells, Pt.slots] at X' e1 e2 h1 h2 h3 st
    subst h1; subst h2; subst h3
    exact Or.inl ⟨v, (T.setVm vm₁).calling g' mk (Value.ref b :: As).toArray, t, U', L, hT, X', hL, e1, e2, hq, st⟩
  · dsimp only [Pt.U, Pt.locs, Pt.cells, Pt.slots] at X' e1 e2 h1 h2 h3 st hcl
    subst h1; subst h2; subst h3
    exact Or.inr ⟨q, (T.setVm vm₁).calling g' mk (Value.ref b :: As).toArray, t, U', L, E, ce, hT, X', hL, e1, e2, hq, hce, hcv, vx_cls hW₁ hcl, st⟩
end VXIB
/-! ===== END ===== -/
/-! ===== BEGIN a private constructor of a nest mate that throws ===== -/
section VXIC
variable {p : Program} {l : Launch} {e : Env} {R : Room} {s : State} {m : MethodId} {args : Array Value} {below : List Frame} {meth : Method} {c : Code} {T : State} {locs : List Loc} {cells slots : Nat}
theorem vx_callIN (X : Stand p l e R s m args below meth c T locs cells slots) (hexec : p.tables.exec = Jvm.exec) {own : String} {index : Nat} {host : String} {y : MethodName} {bytes : ByteArray} {maxL : Nat}
    (hown : s.vm.findClass own = some m.cls) (hy1 : y.name = "<init>") (hlink : (Cond.methodLinkNest own index y host).before args s = true) (hinst : (Cond.instanceMethod y).before args s = true)
    (hcode : (Cond.code y bytes maxL none).before args s = true) (hy : y.cls ≠ "java/lang/invoke/MethodHandle" ∧ y.cls ≠ "java/lang/invoke/VarHandle")
    {W9 : Nat} {Pre : Pt → Array Value → Prop} {Post : Pt → Array Value → Option Value → Pt → Prop} {PostX : Pt → Array Value → Addr → Pt → Prop} (hK : vx_Back l R p e below s args y 3 W9 Pre Post PostX)
    {g : JFrame} (hg : g.method = m) (hsize : g.locals.size = c.maxLocals) {a : Addr} {argsL rest : List Value} (hlen : ∀ sig, parseMethodDescriptor y.desc = some sig → argsL.length = sig.parameters.length)
    (hstack : g.stack = argsL.reverse ++ .ref a :: rest) (hW : 2 * g.monitorRoom + (rest.map fun v => v.category).sum ≤ W9) (hdg : decode c.code g.pc = .ok (.invokespecial index, 3))
    (hpre : ∀ vm₁, s.WarmedH vm₁ → Pre ⟨T.setVm vm₁, locs, cells, slots⟩ (Value.ref a :: argsL).toArray) :
    (∃ (v : Option Value) (vm₁ : Vm) (B : Pt), s.WarmedH vm₁ ∧ Stand p l e R s m args below meth c B.U B.locs B.cells B.slots ∧ Post ⟨T.setVm vm₁, locs, cells, slots⟩ (Value.ref a :: argsL).toArray v B ∧
      ∀ target, Steps p.tables e below (B.U.setTop { g with pc := g.pc + 3, stack := v.toList ++ rest }) target → Steps p.tables e below (T.setTop g) target) ∨
    (∃ (q : Addr) (vm₁ : Vm) (B : Pt), s.WarmedH vm₁ ∧ Stand p l e R s m args below meth c B.U B.locs B.cells B.slots ∧ PostX ⟨T.setVm vm₁, locs, cells, slots⟩ (Value.ref a :: argsL).toArray q B ∧
      Steps p.tables e below (T.setTop g) ((B.U.setTop { g with stack := rest }).pushFrame (.throwing q))) := by
  subst hg
  have hpl : e.platform.magicAccessors = ({} : Platform).magicAccessors := by rw [X.admits.platform]
  obtain ⟨mk, methM, cM, kP, vm₁, hnamed, hmethM, hcodeM, -, hlocalsM, -, hkP, -, hW₁, hstep₁⟩ := Steps.initColdArgsNest (e := e) X.here hexec X.warmed hpl hown hy1 hy hlink hinst hcode (f := g) rfl hlen hstack hdg
  have X₁ := X.noted hW₁
  rcases hK g.method meth c ⟨T.setVm vm₁, locs, cells, slots⟩ { g with stack := rest } (.invokespecial index) mk (Value.ref a :: argsL).toArray X₁ rfl hsize hdg hW (X₁.named hnamed) (hpre vm₁ X₁.warmed) with ⟨v, B, X', hpost, hsteps⟩ | ⟨q, B, X', hpost, hsteps⟩
  · exact Or.inl ⟨v, vm₁, B, X₁.warmed, X', hpost, fun target h => hstep₁ _ fun acts => by rw [doInvoke_state]; exact hsteps.trans h⟩
  · exact Or.inr ⟨q, vm₁, B, X₁.warmed, X', hpost, hstep₁ _ fun acts => by rw [doInvoke_state]; exact hsteps⟩
end VXIC
section VXID
variable {p : Program} {l : Launch} {e : Env} {R : Room} {s : State} {m : MethodId} {args : Array Value} {below : List Frame} {meth : Method} {c : Code} {H : Heap} {locs : List Loc} {cells slots : Nat}
theorem vx_runIN {y : MethodName} {bytes cc : ByteArray} {maxL nL mc ms n index : Nat} {ws : List Cond} {rm : Room} {Pc : Array Value → State → Prop} {Qc : Array Value → State → Outcome → State → Prop} {XC : String → State → State → Prop} {free : Addr → Prop} {Ts : List Cond} {own host : String} {b : Addr} {As rest : List Value} {g : JFrame}
    (S : CallFix p m c cc nL s args Ts own) (hM : vx_Met l y ws rm Pc Qc XC mc ms free) (cw : va_CN R s args own index y host bytes maxL none ws rm mc ms n ∧ y.name = "<init>" ∧ (Cond.instanceMethod y).before args s = true) (hp : PreS s H Pc (.ref b :: As))
    (hg : g.method = m) (hn : As.length = n) (hsize : g.locals.size = nL) (hstack : g.stack = As.reverse ++ .ref b :: rest) (hW : 2 * g.monitorRoom + (rest.map fun v => v.category).sum ≤ 8) (hdg : decode cc g.pc = .ok (.invokespecial index, 3)) (hf : cells + mc ≤ R.cells ∧ slots + ms ≤ R.slots) :
    vx_Run p l e R s m args below meth c H locs cells slots mc ms g rest (Qc (Value.ref b :: As).toArray) XC free := by
  obtain ⟨⟨⟨hrc, hrs, hfr, hlo, hws, hcw⟩, hcode, hini, hy, hlen, hl⟩, hx1, hx2⟩ := cw
  have hK : vx_Back l R p e below s args y 3 8 (PreOf R mc ms Pc) (PostOf Qc mc ms free) (vx_Post XC mc ms free) := vx_back (bytes := bytes) (maxL := maxL) (ret := none) hM hp.1 hrc hrs hfr hlo hws hcw (fun a' U hW => word_at hW (Or.inl (by first | rfl | simp [Cond.onTables, Cond.keeps, Cond.steady])) hini)
  obtain ⟨hx, hb, hml, ho, -⟩ := S
  have hPc := hp.2
  intro T hT X
  rcases vx_callIN X hx (bytes := bytes) (maxL := maxL) ho hx1 hl hx2 hcode hy hK hg (hsize.trans hml.symm) (a := b) (argsL := As) (rest := rest) (fun sig h => hn.trans (hlen sig h)) hstack hW (by rw [hb]; exact hdg)
    (fun vm₁ hW₁ => ⟨hf.1, hf.2, hPc (T.setVm vm₁) hT hW₁⟩) with ⟨v, vm₁, ⟨U', l2, c2, s2⟩, hW₁, X', ⟨g', mk, t, L, e1, e2, hq, h1, hL, h2, h3⟩, st⟩ | ⟨q, vm₁, ⟨U', l2, c2, s2⟩, hW₁, X', ⟨g', mk, t, L, E, ce, e1, e2, hq, hce, hcv, hcl, h1, hL, h2, h3⟩, st⟩
  · dsimp only [Pt.U, Pt.locs, Pt.cells, Pt.slots] at X' e1 e2 h1 h2 h3 st
    subst h1; subst h2; subst h3
    exact Or.inl ⟨v, (T.setVm vm₁).calling g' mk (Value.ref b :: As).toArray, t, U', L, hT, X', hL, e1, e2, hq, st⟩
  · dsimp only [Pt.U, Pt.locs, Pt.cells, Pt.slots] at X' e1 e2 h1 h2 h3 st hcl
    subst h1; subst h2; subst h3
    exact Or.inr ⟨q, (T.setVm vm₁).calling g' mk (Value.ref b :: As).toArray, t, U', L, E, ce, hT, X', hL, e1, e2, hq, hce, hcv, vx_cls hW₁ hcl, st⟩
end VXID
/-! ===== END ===== -/
/-! ===== BEGIN a method of a class above, found by the receiver, that may throw (follows va_callVU, va_runU of this kit) ===== -/
section
variable {p : Program} {l : Launch} {e : Env} {R : Room} {s : State} {m : MethodId} {args : Array Value} {below : List Frame} {meth : Method} {c : Code} {H : Heap} {locs : List Loc} {cells slots : Nat}
theorem vx_callVU {T : State} {locs : List Loc} {cells slots : Nat} (X : Stand p l e R s m args below meth c T locs cells slots) (hexec : p.tables.exec = Jvm.exec) {own C owner : String} {index : Nat} {x y : MethodName} {bytes : ByteArray} {maxL : Nat} {ret : Option FieldType}
    (hown : s.vm.findClass own = some m.cls) (hlink : (Cond.methodLink own index x).before args s = true) (hsame : (Cond.sameMethod x.cls owner x.name x.desc).before args s = true)
    (hd0 : va_Decl s ⟨owner, x.name, x.desc⟩) (howner : owner ≠ "java/lang/invoke/MethodHandle" ∧ owner ≠ "java/lang/invoke/VarHandle")
    (hsel : (Cond.selects C x y).before args s = true) (hinst : (Cond.instanceMethod y).before args s = true) (hcode : (Cond.code y bytes maxL ret).before args s = true)
    {W : Nat} {Pre : Pt → Array Value → Prop} {Post : Pt → Array Value → Option Value → Pt → Prop} {PostX : Pt → Array Value → Addr → Pt → Prop} (hK : vx_Back l R p e below s args y 3 W Pre Post PostX)
    {b : Addr} {cellB : Cell} (hcell : T.heap[b]? = some cellB) (hobj : cellB.vm.isStatics = false) (hcls : s.vm.findClass C = some cellB.cls)
    {g : JFrame} (hg : g.method = m) (hsize : g.locals.size = c.maxLocals) {argsL rest : List Value} (hlen : ∀ sig, parseMethodDescriptor x.desc = some sig → argsL.length = sig.parameters.length)
    (hstack : g.stack = argsL.reverse ++ .ref b :: rest) (hW : 2 * g.monitorRoom + (rest.map fun v => v.category).sum ≤ W) (hdg : decode c.code g.pc = .ok (.invokevirtual index, 3))
    (hpre : ∀ vm₁, s.WarmedH vm₁ → Pre ⟨T.setVm vm₁, locs, cells, slots⟩ (Value.ref b :: argsL).toArray) :
    (∃ (v : Option Value) (vm₁ : Vm) (B : Pt), s.WarmedH vm₁ ∧ Stand p l e R s m args below meth c B.U B.locs B.cells B.slots ∧ Post ⟨T.setVm vm₁, locs, cells, slots⟩ (Value.ref b :: argsL).toArray v B ∧
      ∀ target, Steps p.tables e below (B.U.setTop { g with pc := g.pc + 3, stack := v.toList ++ rest }) target → Steps p.tables e below (T.setTop g) target) ∨
    (∃ (q : Addr) (vm₁ : Vm) (B : Pt), s.WarmedH vm₁ ∧ Stand p l e R s m args below meth c B.U B.locs B.cells B.slots ∧ PostX ⟨T.setVm vm₁, locs, cells, slots⟩ (Value.ref b :: argsL).toArray q B ∧
      Steps p.tables e below (T.setTop g) ((B.U.setTop { g with stack := rest }).pushFrame (.throwing q))) := by
  obtain ⟨r0, r, hn, hrm, hstR, hsigR⟩ := hd0
  obtain ⟨cn, ck, r1, hcn, hck, hni, hf, hn1⟩ := Cond.sameMethod_found hsame
  cases hn.symm.trans hn1
  obtain ⟨mk, methM, hnamed, hmethM, -, habM⟩ := Cond.instanceMethod_spec hinst
  obtain ⟨c2, r2, m2, q1, q2, q3, q4, kP, hkP, hkPi⟩ := Cond.selects_spec hsel
  cases hcls.symm.trans q1
  cases hf.symm.trans q2
  cases hnamed.symm.trans q3
  have hselP : selectMethod e.platform s.vm cellB.cls r0 = .method mk := by rw [Launch.admits_selectMethod X.admits]; exact q4
  obtain ⟨vm₁, X₁, hstep₁⟩ := X.invokevirtualUp hexec hown hlink hsame howner hn hrm hstR (a := b) (cell := cellB) hcell
    (fun z h => by rw [h] at hobj; cases hobj) hselP hmethM habM hkP hkPi (g := g) hg (argsL := argsL) (rest := rest) (hlen _ hsigR) hstack hdg
  rcases hK m meth c ⟨T.setVm vm₁, locs, cells, slots⟩ { g with stack := rest } (.invokevirtual index) mk (Value.ref b :: argsL).toArray X₁ hg hsize hdg hW (X₁.named hnamed) (hpre vm₁ X₁.warmed) with ⟨v, B, X', hpost, hsteps⟩ | ⟨q, B, X', hpost, hsteps⟩
  · exact Or.inl ⟨v, vm₁, B, X₁.warmed, X', hpost, fun target h => hstep₁ _ fun acts => by rw [doInvoke_state]; exact hsteps.trans h⟩
  · exact Or.inr ⟨q, vm₁, B, X₁.warmed, X', hpost, hstep₁ _ fun acts => by rw [doInvoke_state]; exact hsteps⟩
theorem vx_runU {x y : MethodName} {bytes cc : ByteArray} {maxL nL mc ms n index : Nat} {ret : Option FieldType} {ws : List Cond} {rm : Room} {Pc : Array Value → State → Prop} {Qc : Array Value → State → Outcome → State → Prop} {XC : String → State → State → Prop} {free : Addr → Prop} {Ts : List Cond} {own C owner : String} {b : Addr} {As rest : List Value} {g : JFrame}
    (S : CallFix p m c cc nL s args Ts own) (hM : vx_Met l y ws rm Pc Qc XC mc ms free) (cw : va_CU R s args own C owner index x y bytes maxL ret ws rm mc ms n) (hp : PreV s H C b Pc As)
    (hg : g.method = m) (hn : As.length = n) (hsize : g.locals.size = nL) (hstack : g.stack = As.reverse ++ .ref b :: rest) (hW : 2 * g.monitorRoom + (rest.map fun v => v.category).sum ≤ 8) (hdg : decode cc g.pc = .ok (.invokevirtual index, 3)) (hf : cells + mc ≤ R.cells ∧ slots + ms ≤ R.slots) :
    vx_Run p l e R s m args below meth c H locs cells slots mc ms g rest (Qc (Value.ref b :: As).toArray) XC free := by
  obtain ⟨hrc, hrs, hfr, hlo, hws, hcw⟩ := cw.back
  have hini := cw.init
  have hK : vx_Back l R p e below s args y 3 8 (PreOf R mc ms Pc) (PostOf Qc mc ms free) (vx_Post XC mc ms free) := vx_back (bytes := bytes) (maxL := maxL) (ret := ret) hM hp.1 hrc hrs hfr hlo hws hcw (fun a' U hW => word_at hW (Or.inl (by first | rfl | simp [Cond.onTables, Cond.keeps, Cond.steady])) hini)
  obtain ⟨hx, hb, hml, ho, -⟩ := S
  obtain ⟨-, ⟨cellB, hcB, hoB, hclB⟩, hPc⟩ := hp
  intro T hT X
  rcases vx_callVU X hx (C := C) (owner := owner) (bytes := bytes) (maxL := maxL) (ret := ret) ho cw.link cw.same cw.decl cw.notMH cw.sel cw.inst cw.code hK (by rw [hT]; exact hcB) hoB hclB hg (hsize.trans hml.symm) (argsL := As) (rest := rest) (fun sig h => hn.trans (cw.len sig h)) hstack hW (by rw [hb]; exact hdg)
    (fun vm₁ hW₁ => ⟨hf.1, hf.2, hPc (T.setVm vm₁) hT hW₁⟩) with ⟨v, vm₁, ⟨U', l2, c2, s2⟩, hW₁, X', ⟨g', mk, t, L, e1, e2, hq, h1, hL, h2, h3⟩, st⟩ | ⟨q, vm₁, ⟨U', l2, c2, s2⟩, hW₁, X', ⟨g', mk, t, L, E, ce, e1, e2, hq, hce, hcv, hcl, h1, hL, h2, h3⟩, st⟩
  · dsimp only [Pt.U, Pt.locs, Pt.cells, Pt.slots] at X' e1 e2 h1 h2 h3 st
    subst h1; subst h2; subst h3
    exact Or.inl ⟨v, (T.setVm vm₁).calling g' mk (Value.ref b :: As).toArray, t, U', L, hT, X', hL, e1, e2, hq, st⟩
  · dsimp only [Pt.U, Pt.locs, Pt.cells, Pt.slots] at X' e1 e2 h1 h2 h3 st hcl
    subst h1; subst h2; subst h3
    exact Or.inr ⟨q, (T.setVm vm₁).calling g' mk (Value.ref b :: As).toArray, t, U', L, E, ce, hT, X', hL, e1, e2, hq, hce, hcv, vx_cls hW₁ hcl, st⟩
end
/-! ===== END ===== -/
/-! ===== BEGIN super.m(..) that may throw (follows va_callSU, va_runSU) ===== -/
section
variable {p : Program} {l : Launch} {e : Env} {R : Room} {s : State} {m : MethodId} {args : Array Value} {below : List Frame} {meth : Method} {c : Code} {H : Heap} {locs : List Loc} {cells slots : Nat}
theorem vx_callSU {T : State} {locs : List Loc} {cells slots : Nat} (X : Stand p l e R s m args below meth c T locs cells slots) (hexec : p.tables.exec = Jvm.exec) {own : String} {index : Nat} {y : MethodName} {bytes : ByteArray} {maxL : Nat} {ret : Option FieldType}
    (hown : s.vm.findClass own = some m.cls) (hlink : (Cond.methodLink own index y).before args s = true) (hsame : (Cond.sameMethod y.cls y.cls y.name y.desc).before args s = true) (hsup : (Cond.superclass own y.cls).before args s = true)
    (hinst : (Cond.instanceMethod y).before args s = true) (hcode : (Cond.code y bytes maxL ret).before args s = true) (hno : y.name ≠ "<init>")
    {W : Nat} {Pre : Pt → Array Value → Prop} {Post : Pt → Array Value → Option Value → Pt → Prop} {PostX : Pt → Array Value → Addr → Pt → Prop} (hK : vx_Back l R p e below s args y 3 W Pre Post PostX)
    {b : Addr} {cellB : Cell} {kB : Class} (hcell : T.heap[b]? = some cellB) (hobj : cellB.vm.isStatics = false) (hkB : s.vm.classes[cellB.cls]? = some kB)
    {g : JFrame} (hg : g.method = m) (hsize : g.locals.size = c.maxLocals) {argsL rest : List Value} (hlen : ∀ sig, parseMethodDescriptor y.desc = some sig → argsL.length = sig.parameters.length)
    (hstack : g.stack = argsL.reverse ++ .ref b :: rest) (hW : 2 * g.monitorRoom + (rest.map fun v => v.category).sum ≤ W) (hdg : decode c.code g.pc = .ok (.invokespecial index, 3))
    (hpre : ∀ vm₁, s.WarmedH vm₁ → Pre ⟨T.setVm vm₁, locs, cells, slots⟩ (Value.ref b :: argsL).toArray) :
    (∃ (v : Option Value) (vm₁ : Vm) (B : Pt), s.WarmedH vm₁ ∧ Stand p l e R s m args below meth c B.U B.locs B.cells B.slots ∧ Post ⟨T.setVm vm₁, locs, cells, slots⟩ (Value.ref b :: argsL).toArray v B ∧
      ∀ target, Steps p.tables e below (B.U.setTop { g with pc := g.pc + 3, stack := v.toList ++ rest }) target → Steps p.tables e below (T.setTop g) target) ∨
    (∃ (q : Addr) (vm₁ : Vm) (B : Pt), s.WarmedH vm₁ ∧ Stand p l e R s m args below meth c B.U B.locs B.cells B.slots ∧ PostX ⟨T.setVm vm₁, locs, cells, slots⟩ (Value.ref b :: argsL).toArray q B ∧
      Steps p.tables e below (T.setTop g) ((B.U.setTop { g with stack := rest }).pushFrame (.throwing q))) := by
  obtain ⟨mk, methM, hnamed, hmethM, hstM, habM⟩ := Cond.instanceMethod_spec hinst
  obtain ⟨methM', cM, hmethM', -, -, -, -, -, -, hsigM⟩ := Cond.code_spec hnamed hcode
  cases hmethM.symm.trans hmethM'
  obtain ⟨ps, dk, kp, hps, hdk, hkp, hsuper, -, -, hnid⟩ := Cond.superclass_spec hown hsup
  have hn : s.methodNamed? ⟨y.cls, y.name, y.desc⟩ = some mk := hnamed
  have hpm : ps = mk.cls := Option.some.inj (hps.symm.trans (findClass_of_methodNamed hnamed))
  have hsub : s.vm.isSubclass ps mk.cls = true := by rw [hpm]; simp [Vm.isSubclass, Vm.isSubclassAux]
  obtain ⟨vm₁, X₁, hstep₁⟩ := X.invokespecialUp hexec hown hlink hsame hn hmethM hstM habM hno hdk hnid hps hsuper hsub (a := b) (cell := cellB) hcell
    (fun z h => by rw [h] at hobj; cases hobj) hkB (g := g) hg (argsL := argsL) (rest := rest) (hlen _ hsigM) hstack hdg
  rcases hK m meth c ⟨T.setVm vm₁, locs, cells, slots⟩ { g with stack := rest } (.invokespecial index) mk (Value.ref b :: argsL).toArray X₁ hg hsize hdg hW (X₁.named hnamed) (hpre vm₁ X₁.warmed) with ⟨v, B, X', hpost, hsteps⟩ | ⟨q, B, X', hpost, hsteps⟩
  · exact Or.inl ⟨v, vm₁, B, X₁.warmed, X', hpost, fun target h => hstep₁ _ (by rw [doInvoke_state]; exact hsteps.trans h)⟩
  · exact Or.inr ⟨q, vm₁, B, X₁.warmed, X', hpost, hstep₁ _ (by rw [doInvoke_state]; exact hsteps)⟩
theorem vx_runSU {y : MethodName} {bytes cc : ByteArray} {maxL nL mc ms n index : Nat} {ret : Option FieldType} {ws : List Cond} {rm : Room} {Pc : Array Value → State → Prop} {Qc : Array Value → State → Outcome → State → Prop} {XC : String → State → State → Prop} {free : Addr → Prop} {Ts : List Cond} {own C : String} {cC : ClassId} {b : Addr} {As rest : List Value} {g : JFrame}
    (hat : ClassAt s C cC) (S : CallFix p m c cc nL s args Ts own) (hM : vx_Met l y ws rm Pc Qc XC mc ms free) (cw : va_CS R s args own index y bytes maxL ret ws rm mc ms n) (hp : PreV s H C b Pc As)
    (hg : g.method = m) (hn : As.length = n) (hsize : g.locals.size = nL) (hstack : g.stack = As.reverse ++ .ref b :: rest) (hW : 2 * g.monitorRoom + (rest.map fun v => v.category).sum ≤ 8) (hdg : decode cc g.pc = .ok (.invokespecial index, 3)) (hf : cells + mc ≤ R.cells ∧ slots + ms ≤ R.slots) :
    vx_Run p l e R s m args below meth c H locs cells slots mc ms g rest (Qc (Value.ref b :: As).toArray) XC free := by
  obtain ⟨⟨hrc, hrs, hfr, hlo, hws, hcw⟩, hl1, hl2, hl3, hl4, hini, hcode, hno, hlen⟩ := cw
  have hK : vx_Back l R p e below s args y 3 8 (PreOf R mc ms Pc) (PostOf Qc mc ms free) (vx_Post XC mc ms free) := vx_back (bytes := bytes) (maxL := maxL) (ret := ret) hM hp.1 hrc hrs hfr hlo hws hcw (fun a' U hW => word_at hW (Or.inl (by first | rfl | simp [Cond.onTables, Cond.keeps, Cond.steady])) hini)
  obtain ⟨hx, hb, hml, ho, -⟩ := S
  obtain ⟨-, ⟨cellB, hcB, hoB, hclB⟩, hPc⟩ := hp
  obtain ⟨hfc, kB, hkB, -⟩ := hat
  cases hfc.symm.trans hclB
  intro T hT X
  rcases vx_callSU X hx (bytes := bytes) (maxL := maxL) (ret := ret) ho hl1 hl2 hl3 hl4 hcode hno hK (by rw [hT]; exact hcB) hoB hkB hg (hsize.trans hml.symm) (argsL := As) (rest := rest) (fun sig h => hn.trans (hlen sig h)) hstack hW (by rw [hb]; exact hdg)
    (fun vm₁ hW₁ => ⟨hf.1, hf.2, hPc (T.setVm vm₁) hT hW₁⟩) with ⟨v, vm₁, ⟨U', l2, c2, s2⟩, hW₁, X', ⟨g', mk, t, L, e1, e2, hq, h1, hL, h2, h3⟩, st⟩ | ⟨q, vm₁, ⟨U', l2, c2, s2⟩, hW₁, X', ⟨g', mk, t, L, E, ce, e1, e2, hq, hce, hcv, hcl, h1, hL, h2, h3⟩, st⟩
  · dsimp only [Pt.U, Pt.locs, Pt.cells, Pt.slots] at X' e1 e2 h1 h2 h3 st
    subst h1; subst h2; subst h3
    exact Or.inl ⟨v, (T.setVm vm₁).calling g' mk (Value.ref b :: As).toArray, t, U', L, hT, X', hL, e1, e2, hq, st⟩
  · dsimp only [Pt.U, Pt.locs, Pt.cells, Pt.slots] at X' e1 e2 h1 h2 h3 st hcl
    subst h1; subst h2; subst h3
    exact Or.inr ⟨q, (T.setVm vm₁).calling g' mk (Value.ref b :: As).toArray, t, U', L, E, ce, hT, X', hL, e1, e2, hq, hce, hcv, vx_cls hW₁ hcl, st⟩
end
/-! ===== END ===== -/
/-! ===== BEGIN a private method of a nest mate that may throw (follows va_callVN, va_callSN, va_runVN, va_runSN) ===== -/
section
variable {p : Program} {l : Launch} {e : Env} {R : Room} {s : State} {m : MethodId} {args : Array Value} {below : List Frame} {meth : Method} {c : Code} {H : Heap} {locs : List Loc} {cells slots : Nat}
variable {T : State}
theorem vx_callVN (X : Stand p l e R s m args below meth c T locs cells slots) (hexec : p.tables.exec = Jvm.exec) {own C : String} {index : Nat} {host : String} {y : MethodName} {bytes : ByteArray} {maxL : Nat} {ret : Option FieldType}
    (hown : s.vm.findClass own = some m.cls) (hlink : (Cond.methodLinkNest own index y host).before args s = true) (hinst : (Cond.instanceMethod y).before args s = true) (hsel : (Cond.selects C y y).before args s = true)
    (hcode : (Cond.code y bytes maxL ret).before args s = true) (hy : y.cls ≠ "java/lang/invoke/MethodHandle" ∧ y.cls ≠ "java/lang/invoke/VarHandle")
    {W : Nat} {Pre : Pt → Array Value → Prop} {Post : Pt → Array Value → Option Value → Pt → Prop} {PostX : Pt → Array Value → Addr → Pt → Prop} (hK : vx_Back l R p e below s args y 3 W Pre Post PostX)
    {b : Addr} {cellB : Cell} (hcell : T.heap[b]? = some cellB) (hobj : cellB.vm.isStatics = false) (hcls : s.vm.findClass C = some cellB.cls)
    {g : JFrame} (hg : g.method = m) (hsize : g.locals.size = c.maxLocals) {argsL rest : List Value} (hlen : ∀ sig, parseMethodDescriptor y.desc = some sig → argsL.length = sig.parameters.length)
    (hstack : g.stack = argsL.reverse ++ .ref b :: rest) (hW : 2 * g.monitorRoom + (rest.map fun v => v.category).sum ≤ W) (hdg : decode c.code g.pc = .ok (.invokevirtual index, 3))
    (hpre : ∀ vm₁, s.WarmedH vm₁ → Pre ⟨T.setVm vm₁, locs, cells, slots⟩ (Value.ref b :: argsL).toArray) :
    (∃ (v : Option Value) (vm₁ : Vm) (B : Pt), s.WarmedH vm₁ ∧ Stand p l e R s m args below meth c B.U B.locs B.cells B.slots ∧ Post ⟨T.setVm vm₁, locs, cells, slots⟩ (Value.ref b :: argsL).toArray v B ∧
      ∀ target, Steps p.tables e below (B.U.setTop { g with pc := g.pc + 3, stack := v.toList ++ rest }) target → Steps p.tables e below (T.setTop g) target) ∨
    (∃ (q : Addr) (vm₁ : Vm) (B : Pt), s.WarmedH vm₁ ∧ Stand p l e R s m args below meth c B.U B.locs B.cells B.slots ∧ PostX ⟨T.setVm vm₁, locs, cells, slots⟩ (Value.ref b :: argsL).toArray q B ∧
      Steps p.tables e below (T.setTop g) ((B.U.setTop { g with stack := rest }).pushFrame (.throwing q))) := by
  obtain ⟨mk, methM, hnamed, hmethM, hstM, habM⟩ := Cond.instanceMethod_spec hinst
  obtain ⟨methM', cM, hmethM', -, -, -, -, -, -, hsigM⟩ := Cond.code_spec hnamed hcode
  cases hmethM.symm.trans hmethM'
  obtain ⟨c2, r2, m2, q1, q2, q3, q4, kP, hkP, hkPi⟩ := Cond.selects_spec hsel
  cases hcls.symm.trans q1
  cases (State.methodFound?_of_named hnamed hy).symm.trans q2
  cases hnamed.symm.trans q3
  have hselP : selectMethod e.platform s.vm cellB.cls mk = .method mk := by rw [Launch.admits_selectMethod X.admits]; exact q4
  obtain ⟨vm₁, X₁, hstep₁⟩ := X.invokevirtualNest hexec hown hlink hnamed hmethM hstM hkP hkPi hy (a := b) (cell := cellB) hcell
    (fun z h => by rw [h] at hobj; cases hobj) hselP hmethM habM hkP hkPi (g := g) hg (argsL := argsL) (rest := rest) (hlen _ hsigM) hstack hdg
  rcases hK m meth c ⟨T.setVm vm₁, locs, cells, slots⟩ { g with stack := rest } (.invokevirtual index) mk (Value.ref b :: argsL).toArray X₁ hg hsize hdg hW (X₁.named hnamed) (hpre vm₁ X₁.warmed) with ⟨v, B, X', hpost, hsteps⟩ | ⟨q, B, X', hpost, hsteps⟩
  · exact Or.inl ⟨v, vm₁, B, X₁.warmed, X', hpost, fun target h => hstep₁ _ fun acts => by rw [doInvoke_state]; exact hsteps.trans h⟩
  · exact Or.inr ⟨q, vm₁, B, X₁.warmed, X', hpost, hstep₁ _ fun acts => by rw [doInvoke_state]; exact hsteps⟩
theorem vx_callSN (X : Stand p l e R s m args below meth c T locs cells slots) (hexec : p.tables.exec = Jvm.exec) {own : String} {index : Nat} {host : String} {y : MethodName} {bytes : ByteArray} {maxL : Nat} {ret : Option FieldType}
    (hown : s.vm.findClass own = some m.cls) (hlink : (Cond.methodLinkNest own index y host).before args s = true) (hstat : (Cond.static y).before args s = true) (hinit : (Cond.initialized y.cls).before args s = true)
    (hcode : (Cond.code y bytes maxL ret).before args s = true) (hy : y.cls ≠ "java/lang/invoke/MethodHandle" ∧ y.cls ≠ "java/lang/invoke/VarHandle")
    {W : Nat} {Pre : Pt → Array Value → Prop} {Post : Pt → Array Value → Option Value → Pt → Prop} {PostX : Pt → Array Value → Addr → Pt → Prop} (hK : vx_Back l R p e below s args y 3 W Pre Post PostX)
    {g : JFrame} (hg : g.method = m) (hsize : g.locals.size = c.maxLocals) {argsL rest : List Value} (hlen : ∀ sig, parseMethodDescriptor y.desc = some sig → argsL.length = sig.parameters.length)
    (hstack : g.stack = argsL.reverse ++ rest) (hW : 2 * g.monitorRoom + (rest.map fun v => v.category).sum ≤ W) (hdg : decode c.code g.pc = .ok (.invokestatic index, 3))
    (hpre : ∀ vm₁, s.WarmedH vm₁ → Pre ⟨T.setVm vm₁, locs, cells, slots⟩ argsL.toArray) :
    (∃ (v : Option Value) (vm₁ : Vm) (B : Pt), s.WarmedH vm₁ ∧ Stand p l e R s m args below meth c B.U B.locs B.cells B.slots ∧ Post ⟨T.setVm vm₁, locs, cells, slots⟩ argsL.toArray v B ∧
      ∀ target, Steps p.tables e below (B.U.setTop { g with pc := g.pc + 3, stack := v.toList ++ rest }) target → Steps p.tables e below (T.setTop g) target) ∨
    (∃ (q : Addr) (vm₁ : Vm) (B : Pt), s.WarmedH vm₁ ∧ Stand p l e R s m args below meth c B.U B.locs B.cells B.slots ∧ PostX ⟨T.setVm vm₁, locs, cells, slots⟩ argsL.toArray q B ∧
      Steps p.tables e below (T.setTop g) ((B.U.setTop { g with stack := rest }).pushFrame (.throwing q))) := by
  obtain ⟨mk, hnamed⟩ := Cond.code_named hcode
  obtain ⟨methM, cM, hmethM, -, -, -, -, -, -, hsigM⟩ := Cond.code_spec hnamed hcode
  have hstatic : methM.isStatic = true := Cond.static_spec hnamed hmethM hstat
  obtain ⟨kP, hkP, -⟩ := className_of_methodNamed hnamed
  have hinitP : kP.init = .initialized := Cond.initialized_spec (findClass_of_methodNamed hnamed) hkP hinit
  obtain ⟨vm₁, X₁, hstep₁⟩ := X.invokestaticNest hexec hown hlink hnamed hmethM hstatic hkP hinitP hy (g := g) hg (argsL := argsL) (rest := rest) (hlen _ hsigM) hstack hdg
  rcases hK m meth c ⟨T.setVm vm₁, locs, cells, slots⟩ { g with stack := rest } (.invokestatic index) mk argsL.toArray X₁ hg hsize hdg hW (X₁.named hnamed) (hpre vm₁ X₁.warmed) with ⟨v, B, X', hpost, hsteps⟩ | ⟨q, B, X', hpost, hsteps⟩
  · exact Or.inl ⟨v, vm₁, B, X₁.warmed, X', hpost, fun target h => hstep₁ _ fun acts => by rw [doInvoke_state]; exact hsteps.trans h⟩
  · exact Or.inr ⟨q, vm₁, B, X₁.warmed, X', hpost, hstep₁ _ fun acts => by rw [doInvoke_state]; exact hsteps⟩
theorem vx_runVN {y : MethodName} {bytes cc : ByteArray} {maxL nL mc ms n index : Nat} {ret : Option FieldType} {ws : List Cond} {rm : Room} {Pc : Array Value → State → Prop} {Qc : Array Value → State → Outcome → State → Prop} {XC : String → State → State → Prop} {free : Addr → Prop} {Ts : List Cond} {own C host : String} {b : Addr} {As rest : List Value} {g : JFrame}
    (S : CallFix p m c cc nL s args Ts own) (hM : vx_Met l y ws rm Pc Qc XC mc ms free) (cw : va_CN R s args own index y host bytes maxL ret ws rm mc ms n ∧ (Cond.instanceMethod y).before args s = true ∧ (Cond.selects C y y).before args s = true) (hp : PreV s H C b Pc As)
    (hg : g.method = m) (hn : As.length = n) (hsize : g.locals.size = nL) (hstack : g.stack = As.reverse ++ .ref b :: rest) (hW : 2 * g.monitorRoom + (rest.map fun v => v.category).sum ≤ 8) (hdg : decode cc g.pc = .ok (.invokevirtual index, 3)) (hf : cells + mc ≤ R.cells ∧ slots + ms ≤ R.slots) :
    vx_Run p l e R s m args below meth c H locs cells slots mc ms g rest (Qc (Value.ref b :: As).toArray) XC free := by
  obtain ⟨⟨⟨hrc, hrs, hfr, hlo, hws, hcw⟩, hcode, hini, hy, hlen, hl⟩, hx1, hx2⟩ := cw
  have hK : vx_Back l R p e below s args y 3 8 (PreOf R mc ms Pc) (PostOf Qc mc ms free) (vx_Post XC mc ms free) := vx_back (bytes := bytes) (maxL := maxL) (ret := ret) hM hp.1 hrc hrs hfr hlo hws hcw (fun a' U hW => word_at hW (Or.inl (by first | rfl | simp [Cond.onTables, Cond.keeps, Cond.steady])) hini)
  obtain ⟨hx, hb, hml, ho, -⟩ := S
  obtain ⟨-, ⟨cellB, hcB, hoB, hclB⟩, hPc⟩ := hp
  intro T hT X
  rcases vx_callVN X hx (C := C) (bytes := bytes) (maxL := maxL) (ret := ret) ho hl hx1 hx2 hcode hy hK (by rw [hT]; exact hcB) hoB hclB hg (hsize.trans hml.symm) (argsL := As) (rest := rest) (fun sig h => hn.trans (hlen sig h)) hstack hW (by rw [hb]; exact hdg)
    (fun vm₁ hW₁ => ⟨hf.1, hf.2, hPc (T.setVm vm₁) hT hW₁⟩) with ⟨v, vm₁, ⟨U', l2, c2, s2⟩, hW₁, X', ⟨g', mk, t, L, e1, e2, hq, h1, hL, h2, h3⟩, st⟩ | ⟨q, vm₁, ⟨U', l2, c2, s2⟩, hW₁, X', ⟨g', mk, t, L, E, ce, e1, e2, hq, hce, hcv, hcl, h1, hL, h2, h3⟩, st⟩
  · dsimp only [Pt.U, Pt.locs, Pt.cells, Pt.slots] at X' e1 e2 h1 h2 h3 st
    subst h1; subst h2; subst h3
    exact Or.inl ⟨v, (T.setVm vm₁).calling g' mk (Value.ref b :: As).toArray, t, U', L, hT, X', hL, e1, e2, hq, st⟩
  · dsimp only [Pt.U, Pt.locs, Pt.cells, Pt.slots] at X' e1 e2 h1 h2 h3 st hcl
    subst h1; subst h2; subst h3
    exact Or.inr ⟨q, (T.setVm vm₁).calling g' mk (Value.ref b :: As).toArray, t, U', L, E, ce, hT, X', hL, e1, e2, hq, hce, hcv, vx_cls hW₁ hcl, st⟩
theorem vx_runSN {y : MethodName} {bytes cc : ByteArray} {maxL nL mc ms n index : Nat} {ret : Option FieldType} {ws : List Cond} {rm : Room} {Pc : Array Value → State → Prop} {Qc : Array Value → State → Outcome → State → Prop} {XC : String → State → State → Prop} {free : Addr → Prop} {Ts : List Cond} {own host : String} {As rest : List Value} {g : JFrame}
    (S : CallFix p m c cc nL s args Ts own) (hM : vx_Met l y ws rm Pc Qc XC mc ms free) (cw : va_CN R s args own index y host bytes maxL ret ws rm mc ms n ∧ (Cond.static y).before args s = true ∧ True) (hp : PreS s H Pc As)
    (hg : g.method = m) (hn : As.length = n) (hsize : g.locals.size = nL) (hstack : g.stack = As.reverse ++ rest) (hW : 2 * g.monitorRoom + (rest.map fun v => v.category).sum ≤ 8) (hdg : decode cc g.pc = .ok (.invokestatic index, 3)) (hf : cells + mc ≤ R.cells ∧ slots + ms ≤ R.slots) :
    vx_Run p l e R s m args below meth c H locs cells slots mc ms g rest (Qc As.toArray) XC free := by
  obtain ⟨⟨⟨hrc, hrs, hfr, hlo, hws, hcw⟩, hcode, hini, hy, hlen, hl⟩, hx1, hx2⟩ := cw
  have hK : vx_Back l R p e below s args y 3 8 (PreOf R mc ms Pc) (PostOf Qc mc ms free) (vx_Post XC mc ms free) := vx_back (bytes := bytes) (maxL := maxL) (ret := ret) hM hp.1 hrc hrs hfr hlo hws hcw (fun a' U hW => word_at hW (Or.inl (by first | rfl | simp [Cond.onTables, Cond.keeps, Cond.steady])) hini)
  obtain ⟨hx, hb, hml, ho, -⟩ := S
  have hPc := hp.2
  intro T hT X
  rcases vx_callSN X hx (bytes := bytes) (maxL := maxL) (ret := ret) ho hl hx1 hini hcode hy hK hg (hsize.trans hml.symm) (argsL := As) (rest := rest) (fun sig h => hn.trans (hlen sig h)) hstack hW (by rw [hb]; exact hdg)
    (fun vm₁ hW₁ => ⟨hf.1, hf.2, hPc (T.setVm vm₁) hT hW₁⟩) with ⟨v, vm₁, ⟨U', l2, c2, s2⟩, hW₁, X', ⟨g', mk, t, L, e1, e2, hq, h1, hL, h2, h3⟩, st⟩ | ⟨q, vm₁, ⟨U', l2, c2, s2⟩, hW₁, X', ⟨g', mk, t, L, E, ce, e1, e2, hq, hce, hcv, hcl, h1, hL, h2, h3⟩, st⟩
  · dsimp only [Pt.U, Pt.locs, Pt.cells, Pt.slots] at X' e1 e2 h1 h2 h3 st
    subst h1; subst h2; subst h3
    exact Or.inl ⟨v, (T.setVm vm₁).calling g' mk As.toArray, t, U', L, hT, X', hL, e1, e2, hq, st⟩
  · dsimp only [Pt.U, Pt.locs, Pt.cells, Pt.slots] at X' e1 e2 h1 h2 h3 st hcl
    subst h1; subst h2; subst h3
    exact Or.inr ⟨q, (T.setVm vm₁).calling g' mk As.toArray, t, U', L, E, ce, hT, X', hL, e1, e2, hq, hce, hcv, vx_cls hW₁ hcl, st⟩
end
/-! ===== END ===== -/
end
section
/-! more rows of the heap: new things, references, texts, copies -/
set_option maxRecDepth 100000 in
theorem cwO : Cond.code Lib.objectInit ⟨#[0xb1]⟩ 1 none ∈ ALLG := by
  have h : [Cond.code Lib.objectInit ⟨#[0xb1]⟩ 1 none] = [83].filterMap (fun i => lwE[i]?) := rfl
  refine List.mem_filter.mpr ⟨?_, rfl⟩
  have h1 : Cond.code Lib.objectInit ⟨#[0xb1]⟩ 1 none ∈ [83].filterMap (fun i => lwE[i]?) := by rw [← h]; exact List.mem_cons_self
  obtain ⟨i, -, hi⟩ := List.mem_filterMap.mp h1
  exact List.mem_of_getElem? hi
set_option maxRecDepth 100000 in
theorem cwMax : Cond.code Lib.Math.max.name Lib.Math.max.code 2 (some .int) ∈ ALLG := by
  have h : [Cond.code Lib.Math.max.name Lib.Math.max.code 2 (some .int)] = [403].filterMap (fun i => lwE[i]?) := rfl
  refine List.mem_filter.mpr ⟨?_, rfl⟩
  have h1 : Cond.code Lib.Math.max.name Lib.Math.max.code 2 (some .int) ∈ [403].filterMap (fun i => lwE[i]?) := by rw [← h]; exact List.mem_cons_self
  obtain ⟨i, -, hi⟩ := List.mem_filterMap.mp h1
  exact List.mem_of_getElem? hi
set_option maxRecDepth 100000 in
theorem cwMin : Cond.code Lib.Math.min.name Lib.Math.min.code 2 (some .int) ∈ ALLG := by
  have h : [Cond.code Lib.Math.min.name Lib.Math.min.code 2 (some .int)] = [421].filterMap (fun i => lwE[i]?) := rfl
  refine List.mem_filter.mpr ⟨?_, rfl⟩
  have h1 : Cond.code Lib.Math.min.name Lib.Math.min.code 2 (some .int) ∈ [421].filterMap (fun i => lwE[i]?) := by rw [← h]; exact List.mem_cons_self
  obtain ⟨i, -, hi⟩ := List.mem_filterMap.mp h1
  exact List.mem_of_getElem? hi
theorem chkDef : ∀ ci ∈ kds, ∀ k, k < cnf ci → (match fref ci k with | true => defaultValue (fty ci k) = .null | false => defaultValue (fty ci k) = .int 0) := by
  have h : ∀ ci ∈ kds, ∀ k, k < cnf ci → (match fref ci k with | true => decide (defaultValue (fty ci k) = .null) | false => decide (defaultValue (fty ci k) = .int 0)) = true := by decide +kernel
  intro ci h1 k h2
  have := h ci h1 k h2
  revert this
  cases fref ci k <;> simp
theorem chkFit : ∀ ci ∈ kds, ∀ k, k < cnf ci → fty ci k ≠ .char := by decide +kernel
theorem chkN100 : ∀ n, n < 20 → ∀ r ∈ ntab.getD n [], r.2 = 100 → n = 17 → r.1 = 206 := by decide +kernel
theorem chkArr : kcl 7 = (("LockstepRoom$Member" : String), (kcl 7).2) ∧ kcl 9 = (("LockstepRoom$State" : String), (kcl 9).2) := ⟨rfl, rfl⟩
theorem tab_mem {α : Type} {tb : List (List (Nat × α))} {n idx : Nat} {x : α} (h : ((tb.getD n []).find? (fun r => r.1 == idx)).map (·.2) = some x) : (idx, x) ∈ tb.getD n [] := by
  obtain ⟨⟨i, q⟩, hq, he⟩ := Option.map_eq_some_iff.mp h
  have h1 := List.find?_some hq
  have e1 : i = idx := eq_of_beq h1
  have e2 : q = x := he
  subst e1; subst e2
  exact List.mem_of_find?_eq_some hq
section Heap2
variable {p : Program} {l : Launch} {e : Env} {R : Room} {s : State} {m : MethodId} {args : Array Value} {below : List Frame} {meth : Method} {c : Code} {H : Heap} {locs : List Loc} {Qe : State → Prop} {cells slots : Nat}
variable {M : MI} {D : va_G} {cA : Nat → ClassId} {base : Nat} {ro : Nat → Nat} {μ : Mu} {pc : Nat} {rls : Array Slot} {r : List Value}
theorem pg_len (C : Ctx p R s m args c M D cA base) {a : Nat} (hP : Pic D cA base ro μ H) (hRO : RO base ro μ s s.heap) (hS : va_S (isO base) s.heap H locs) (hs : 20 ≤ (mS μ a).1 ∧ (mS μ a).1 ≤ 24) (hdg : decode (mi_c M) pc = .ok (.arraylength, 1))
    (kk : W p l e R s m args below meth c H locs cells slots Qe (F0 m (pc + 1) rls (.int (Int32.ofNat (mS μ a).2) :: r))) : W p l e R s m args below meth c H locs cells slots Qe (F0 m pc rls (.ref (rA base ro a) :: r)) := by
  obtain ⟨hx, hb, hml, hown, hts, hK, -⟩ := C
  rcases Nat.lt_or_ge a 1000 with ha | ha
  · obtain ⟨g1, g2, -, g4⟩ := hRO.1 a ha
    rw [rA_ro ha]
    rcases (by omega : (mS μ a).1 = 20 ∨ (mS μ a).1 = 21) with h | h
    · exact va_tlen hx hb (g1 h) hS rfl hdg kk
    · exact va_tlen hx hb (g2 h) hS rfl hdg kk
  · obtain ⟨w1, w2, -⟩ := hP.2.2 a ha (by omega)
    rcases (by omega : (mS μ a).1 = 20 ∨ (mS μ a).1 = 21 ∨ (mS μ a).1 = 22 ∨ (mS μ a).1 = 23 ∨ (mS μ a).1 = 24) with h | h | h | h | h
    · rw [cE_20 h] at w2; exact va_alen hx hb hK (one_P w2) 0 0 rfl rfl rfl hdg kk
    · rw [cE_21 h] at w2; exact va_alen hx hb hK (one_P w2) 0 1 rfl rfl rfl hdg kk
    · rw [cE_22 h] at w2; exact va_alen hx hb hK (one_P w2) 0 1 rfl rfl rfl hdg kk
    · rw [cE_23 h] at w2; exact va_alen hx hb hK (one_P w2) 0 3 rfl rfl rfl hdg kk
    · rw [cE_24 h] at w2; exact va_alen hx hb hK (one_P w2) 0 4 rfl rfl rfl hdg kk
theorem pg_ast0 (C : Ctx p R s m args c M D cA base) {a v t0 ci kd : Nat} {i : Int32} (hP : Pic D cA base ro μ H) (hS : va_S (isO base) s.heap H locs) (ha : 1000 ≤ a) (hv : 1000 ≤ v) (hs : (mS μ a).1 = kd) (hkd : 22 < kd ∧ kd < 90)
    (hce : ∀ μ' : Mu, (mS μ' a).1 = kd → cE cA base ro μ' a = .inl (cA kd, (mS μ' a).2, .inr (.inr (.inr (.inr fun j => (mR μ' a j).map (rA base ro))))))
    (ht : (tysL cA)[t0]? = some (cA kd, .object (kcl ci).1)) (hci : ci ∈ kds) (hsv : mS μ v = (ci, cnf ci)) (hin : vp_in i (mS μ a).2) (hdg : decode (mi_c M) pc = .ok (.aastore, 1))
    (kk : ∀ (H1 : Heap) (locs1 : List Loc), Pic D cA base ro (uR μ a i.toNatClampNeg (some v)) H1 → va_S (isO base) s.heap H1 locs1 → W p l e R s m args below meth c H1 locs1 cells slots Qe (F0 m (pc + 1) rls r)) : W p l e R s m args below meth c H locs cells slots Qe (F0 m pc rls (.ref (rA base ro v) :: .int i :: .ref (rA base ro a) :: r)) := by
  obtain ⟨hx, hb, hml, hown, hts, hK, -⟩ := C
  have hlt : i.toNatClampNeg < (mS μ a).2 := Nat.not_le.mp fun q => hin (Or.inr q)
  have h0 : ¬ i < 0 := fun q => hin (Or.inl q)
  obtain ⟨w1, w2, -⟩ := hP.2.2 a ha (by rw [hs]; exact hkd.2)
  rw [hce μ hs] at w2
  obtain ⟨v1, v2, -⟩ := hP.2.2 v hv (by rw [hsv]; have := kds_lt hci; dsimp only; omega)
  rw [cE_obj hci hsv] at v2
  obtain ⟨r', hr', cellV, g1, g2, g3, -⟩ := v2
  obtain ⟨q1, q2⟩ := chkK ci hci
  have hcls := (hK.1 ci _ q1).2
  obtain ⟨kA, comp, k1, k2, k3, -⟩ := (hK.2 t0 _ ht).2
  have hcomp : comp = D.1 ci := Option.some.inj (k3.symm.trans hcls.1)
  subst hcomp
  obtain ⟨kC, hkC, -⟩ := hcls.2
  refine W.aast hx hb w2 (fun q h => by cases h) (fun h => by cases h) k1 k2 rfl hkC ⟨h0, by show _ < (arrV _ _ _).slots.size; rw [arrV_size]; exact hlt⟩ g1 (fun q h => by rw [g3] at h; cases h) (by rw [g2]; exact hkC) (by rw [g2]; exact va_assign hcls) rfl rfl hdg fun H1 e z oq => ?_
  refine kk H1 _ (hP.upd ha z oq rfl rfl (fun _ _ => rfl) (fun _ _ => rfl) (fun b hb => by funext j; simp [mR, uR, hb]) ?_ (fun q => by omega)) (hS.put z oq (in_base ha))
  rw [hce (uR μ a i.toNatClampNeg (some v)) hs]
  show H1[rA base ro a]? = some (vp_cell _ _)
  rw [e]
  rw [vp_cell_q, vp_cell_q, arrV_store]
  congr 2
  funext q
  by_cases hq : q = i.toNatClampNeg
  · subst hq; simp [updV, va_rf, mR, uR]
  · simp [updV, mR, uR, hq]
theorem pg_ast (C : Ctx p R s m args c M D cA base) {a v : Nat} {i : Int32} (hP : Pic D cA base ro μ H) (hS : va_S (isO base) s.heap H locs) (ha : 1000 ≤ a) (hv : 1000 ≤ v) (hs : (mS μ a).1 = 23 ∧ mS μ v = (7, cnf 7) ∨ (mS μ a).1 = 24 ∧ mS μ v = (9, cnf 9)) (hin : vp_in i (mS μ a).2) (hdg : decode (mi_c M) pc = .ok (.aastore, 1))
    (kk : ∀ (H1 : Heap) (locs1 : List Loc), Pic D cA base ro (uR μ a i.toNatClampNeg (some v)) H1 → va_S (isO base) s.heap H1 locs1 → W p l e R s m args below meth c H1 locs1 cells slots Qe (F0 m (pc + 1) rls r)) : W p l e R s m args below meth c H locs cells slots Qe (F0 m pc rls (.ref (rA base ro v) :: .int i :: .ref (rA base ro a) :: r)) := by
  rcases hs with ⟨h1, h2⟩ | ⟨h1, h2⟩
  · exact pg_ast0 C hP hS ha hv h1 (by omega) (fun μ' h => cE_23 h) (t0 := 3) (ci := 7) rfl (by decide) h2 hin hdg kk
  · exact pg_ast0 C hP hS ha hv h1 (by omega) (fun μ' h => cE_24 h) (t0 := 4) (ci := 9) rfl (by decide) h2 hin hdg kk
theorem pg_sst (C : Ctx p R s m args c M D cA base) {a v : Nat} {i : Int32} (hP : Pic D cA base ro μ H) (hRO : RO base ro μ s s.heap) (hS : va_S (isO base) s.heap H locs) (ha : 1000 ≤ a) (hv : v < 1000) (hs : (mS μ a).1 = 26) (hsv : (mS μ v).1 = 0) (hin : vp_in i (mS μ a).2) (hdg : decode (mi_c M) pc = .ok (.aastore, 1))
    (kk : ∀ (H1 : Heap) (locs1 : List Loc), Pic D cA base ro (uR μ a i.toNatClampNeg (some v)) H1 → va_S (isO base) s.heap H1 locs1 → W p l e R s m args below meth c H1 locs1 cells slots Qe (F0 m (pc + 1) rls r)) : W p l e R s m args below meth c H locs cells slots Qe (F0 m pc rls (.ref (rA base ro v) :: .int i :: .ref (rA base ro a) :: r)) := by
  obtain ⟨hx, hb, hml, hown, hts, hK, -⟩ := C
  have hlt : i.toNatClampNeg < (mS μ a).2 := Nat.not_le.mp fun q => hin (Or.inr q)
  have h0 : ¬ i < 0 := fun q => hin (Or.inl q)
  obtain ⟨w1, w2, -⟩ := hP.2.2 a ha (by rw [hs]; decide)
  rw [cE_26 hs] at w2
  obtain ⟨⟨cellV, g1, g2, g3, g4⟩, -⟩ := (hRO.1 v hv).2.2.1 hsv
  have g1' : H[rA base ro v]? = some cellV := by
    rw [rA_ro hv, hS.2.1 _ (Array.getElem?_eq_some_iff.mp g1).1 g4]; exact g1
  have hcls : ClassAt s "java/lang/String" (D.1 0) := (hK.1 0 _ (chkK 0 (by decide)).1).2
  obtain ⟨kA, comp, k1, k2, k3, -⟩ := (hK.2 6 _ rfl).2
  have hcomp : comp = D.1 0 := Option.some.inj (k3.symm.trans hcls.1)
  subst hcomp
  have hcv : cellV.cls = D.1 0 := Option.some.inj (g3.symm.trans hcls.1)
  obtain ⟨kC, hkC, -⟩ := hcls.2
  refine W.aast hx hb w2 (fun q h => by cases h) (fun h => by cases h) k1 k2 rfl hkC ⟨h0, by show _ < (arrV _ _ _).slots.size; rw [arrV_size]; exact hlt⟩ g1' (fun q h => by rw [h] at g2; cases g2) (by rw [hcv]; exact hkC) (by rw [hcv]; exact va_assign hcls) rfl rfl hdg fun H1 e z oq => ?_
  refine kk H1 _ (hP.upd ha z oq rfl rfl (fun _ _ => rfl) (fun _ _ => rfl) (fun b hb => by funext j; simp [mR, uR, hb]) ?_ (fun q => by omega)) (hS.put z oq (in_base ha))
  rw [cE_26 (show (mS (uR μ a i.toNatClampNeg (some v)) a).1 = 26 from hs)]
  show H1[rA base ro a]? = some (vp_cell _ _)
  rw [e]
  rw [vp_cell_q, vp_cell_q, arrV_store]
  congr 2
  funext q
  by_cases hq : q = i.toNatClampNeg
  · subst hq; simp [updV, va_rf, mR, uR]
  · simp [updV, mR, uR, hq]
theorem pg_cast (C : Ctx p R s m args c M D cA base) {a : Nat} (hP : Pic D cA base ro μ H) (ha : 1000 ≤ a) (hs : (mS μ a).1 = 21) (hn5 : mi_n M = 5) (hdg : decode (mi_c M) pc = .ok (.checkcast 311, 3))
    (kk : W p l e R s m args below meth c H locs cells slots Qe (F0 m (pc + 3) rls (.ref (rA base ro a) :: r))) : W p l e R s m args below meth c H locs cells slots Qe (F0 m pc rls (.ref (rA base ro a) :: r)) := by
  obtain ⟨hx, hb, hml, hown, hts, hK, -⟩ := C
  obtain ⟨w1, w2, -⟩ := hP.2.2 a ha (by rw [hs]; decide)
  rw [cE_21 hs] at w2
  have e5 : cnm.getD (mi_n M) "" = "java/util/Arrays" := by rw [hn5]; rfl
  rw [e5] at hown
  exact va_castA hx hb hown (hts _ (inG_mem chkCC)) (one_P w2) 0 rfl (va_nm_byte (hK.2 1 _ rfl).2) hdg kk
theorem Pic.fill {f : Nat → Int32} {n : Nat} {H1 : Heap} (hP : Pic D cA base ro μ H) (hz : H1.size = H.size + 1) (ho : ∀ q, q < H.size → H1[q]? = H[q]?) (hf : ∀ j, (f j).toInt8.toInt32 = f j) (hat : H1[H.size]? = some (vp_cell (cA 21) (n, .inl f))) : Pic D cA base ro (uA (uN μ 21 n) (mX μ) f) H1 := by
  obtain ⟨p1, p2, p3⟩ := hP
  have hs : H.size = rA base ro (mX μ) := by rw [rA_big p2]; omega
  have eX : mX (uA (uN μ 21 n) (mX μ) f) = mX μ + 1 := rfl
  refine ⟨by rw [hz, eX]; omega, by rw [eX]; omega, fun b hb1 hb2 => ?_⟩
  by_cases e : b = mX μ
  · subst e
    have e1 : (mS (uA (uN μ 21 n) (mX μ) f) (mX μ)) = (21, n) := by simp [mS, uA, uN, mX]
    have e2 : mI (uA (uN μ 21 n) (mX μ) f) (mX μ) = f := by funext j; simp [mI, uA]
    refine ⟨by rw [eX]; omega, ?_, fun _ j => by rw [e2]; exact hf j⟩
    rw [cE_21 (by rw [e1]), e1, e2, ← hs]
    exact hat
  · have e' : b ≠ μ.1 := e
    have hS : mS (uA (uN μ 21 n) (mX μ) f) b = mS μ b := by simp [mS, uA, uN, e']
    have hI : mI (uA (uN μ 21 n) (mX μ) f) b = mI μ b := by funext j; simp [mI, uA, uN, mX, e']
    have hJ : mJ (uA (uN μ 21 n) (mX μ) f) b = mJ μ b := by funext j; simp [mJ, uA, uN, e']
    have hR : mR (uA (uN μ 21 n) (mX μ) f) b = mR μ b := by funext j; simp [mR, uA, uN, e']
    rw [hS] at hb2
    obtain ⟨g1, g2, g3⟩ := p3 b hb1 hb2
    have ce : cE cA base ro (uA (uN μ 21 n) (mX μ) f) b = cE cA base ro μ b := by
      have : fV base ro (uA (uN μ 21 n) (mX μ) f) b = fV base ro μ b := by funext c j; simp only [fV, hI, hR]
      simp only [cE, hS, hI, hJ, hR, this]
    refine ⟨by rw [eX]; omega, ?_, fun z j => ?_⟩
    · rw [ce]
      exact g2.kept (ho _ g2.lt)
    · rw [hS] at z; rw [hI]; exact g3 z j
theorem pg_new (C : Ctx p R s m args c M D cA base) {idx ci : Nat} (hP : Pic D cA base ro μ H) (hS : va_S (isO base) s.heap H locs) (hc : cres (mi_n M) idx = some ci) (h100 : ci ≠ 100) (hcells : cells + 1 ≤ R.cells) (hslots : slots + cnf ci ≤ R.slots) (hdg : decode (mi_c M) pc = .ok (.new idx, 3))
    (kk : ∀ H1 : Heap, Pic D cA base ro (uN μ ci (cnf ci)) H1 → va_S (isO base) s.heap H1 locs → W p l e R s m args below meth c H1 locs (cells + 1) (slots + cnf ci) Qe (F0 m (pc + 3) rls (.ref (rA base ro (mX μ)) :: r))) : W p l e R s m args below meth c H locs cells slots Qe (F0 m pc rls r) := by
  obtain ⟨hx, hb, hml, hown, hts, hK, hbase, hn20, -⟩ := C
  obtain ⟨hci, n1, n2, n3⟩ := chkNw _ hn20 _ (tab_mem hc) h100
  dsimp only at hci n1 n2 n3
  obtain ⟨q1, q2⟩ := chkK ci hci
  have hKn := hK.1 ci _ q1
  have hin : ∀ w ∈ u_ws (kcl ci).1 (kcl ci).2.1 (kcl ci).2.2, w ∈ ALLG := fun w hw => inG_mem (chkU ci hci w hw)
  refine W.newcK hx hb hown (hts _ (inG_mem n1)) (hts _ (inG_mem n2)) (hts _ (inG_mem n3)) rfl hdg hcells hslots hKn.2.1 rfl fun H1 kC hkC e1 z1 o1 => ?_
  have hs : H.size = rA base ro (mX μ) := by rw [rA_big hP.2.1]; have := hP.1; have := hP.2.1; omega
  have hob := u_born (fty ci) hts hin hKn hkC e1 (fun k hk => (chkT ci hci k (by rw [← q2]; exact hk)).1)
  rw [hs]
  refine kk H1 (hP.new z1 o1 ?_) ⟨Nat.le_trans hS.1 (by omega), fun x h1 h2 => (o1 x (Nat.lt_of_lt_of_le h1 hS.1)).trans (hS.2.1 x h1 h2), hS.2.2⟩
  rw [cE_obj hci (show mS (uN μ ci (cnf ci)) (mX μ) = (ci, cnf ci) by simp [mS, uN, mX])]
  refine ⟨_, q1, hob.to fun j hj => ?_⟩
  rw [q2] at hj
  have hd := chkDef ci hci j hj
  show _ = ((List.map _ _).getD j Value.null)
  rw [List.getD_eq_getElem?_getD, map_get hj]
  show _ = fV base ro _ _ ci j
  unfold fV
  revert hd
  cases fref ci j with
  | true => intro hd; rw [hd]; simp [mR, uN, mX, va_rf]
  | false => intro hd; rw [hd]; simp [mI, uN, mX]
theorem pg_newa (C : Ctx p R s m args c M D cA base) {at9 : ArrayType} {ty : FieldType} {k0 : Int32} {kd t0 : Nat} {a0 : Nat → vp_A} (hP : Pic D cA base ro μ H) (hS : va_S (isO base) s.heap H locs) (hk : ¬ k0 < 0) (hk6 : k0.toNatClampNeg ≤ 60000000) (hcells : cells + 1 ≤ R.cells) (hslots : slots + k0.toNatClampNeg ≤ R.slots)
    (hty : newarray.typeOf at9 = ty) (hcb : componentBytes ty ≤ 8) (hw : (Cond.arrayClass ty) ∈ ALLG) (ht : (tysL cA)[t0]? = some (cA kd, ty)) (hRA : va_RA s (cA kd) ty = (s.vm.findClass ("[" ++ ty.toString) = some (cA kd)))
    (ha0 : cE cA base ro (uN μ kd k0.toNatClampNeg) (mX μ) = .inl (cA kd, a0 k0.toNatClampNeg)) (hac : vp_cell (cA kd) (a0 k0.toNatClampNeg) = arrV (cA kd) k0.toNatClampNeg (fun _ => defaultValue ty)) (hdg : decode (mi_c M) pc = .ok (.newarray at9, 2))
    (kk : ∀ H1 : Heap, Pic D cA base ro (uN μ kd k0.toNatClampNeg) H1 → va_S (isO base) s.heap H1 locs → W p l e R s m args below meth c H1 locs (cells + 1) (slots + k0.toNatClampNeg) Qe (F0 m (pc + 2) rls (.ref (rA base ro (mX μ)) :: r))) : W p l e R s m args below meth c H locs cells slots Qe (F0 m pc rls (.int k0 :: r)) := by
  obtain ⟨hx, hb, hml, hown, hts, hK, hbase, hn20, -⟩ := C
  subst hty
  have hs : H.size = rA base ro (mX μ) := by rw [rA_big hP.2.1]; have := hP.1; have := hP.2.1; omega
  refine va_newaK hx hb (hts _ hw) rfl hdg rfl hk rfl ?_ hcells hslots rfl fun H1 cI e1 z1 o1 hAr hNm => ?_
  · have : k0.toNatClampNeg * componentBytes (newarray.typeOf at9) ≤ k0.toNatClampNeg * 8 := Nat.mul_le_mul_left _ hcb
    omega
  · have h9 : cI = cA kd := by
      have h8 := (hK.2 t0 _ ht).2
      dsimp only at h8
      rw [hRA] at h8
      exact Option.some.inj (hNm.symm.trans h8)
    subst h9
    rw [hs]
    refine kk H1 (hP.new z1 o1 ?_) ⟨Nat.le_trans hS.1 (by omega), fun x h1 h2 => (o1 x (Nat.lt_of_lt_of_le h1 hS.1)).trans (hS.2.1 x h1 h2), hS.2.2⟩
    rw [ha0]
    show H1[H.size]? = some (vp_cell _ _)
    rw [hac]
    exact e1
theorem pg_anew (C : Ctx p R s m args c M D cA base) {idx ci kd t0 : Nat} {k0 : Int32} (hP : Pic D cA base ro μ H) (hS : va_S (isO base) s.heap H locs) (hc : cres (mi_n M) idx = some ci) (h100 : ci ≠ 100) (hAO : va_AO (kcl ci).1 s) (hk : ¬ k0 < 0) (hk6 : k0.toNatClampNeg ≤ 60000000) (hcells : cells + 1 ≤ R.cells) (hslots : slots + k0.toNatClampNeg ≤ R.slots)
    (ht : (tysL cA)[t0]? = some (cA kd, .object (kcl ci).1))
    (ha0 : cE cA base ro (uN μ kd k0.toNatClampNeg) (mX μ) = .inl (cA kd, k0.toNatClampNeg, .inr (.inr (.inr (.inr fun _ => none))))) (hdg : decode (mi_c M) pc = .ok (.anewarray idx, 3))
    (kk : ∀ H1 : Heap, Pic D cA base ro (uN μ kd k0.toNatClampNeg) H1 → va_S (isO base) s.heap H1 locs → W p l e R s m args below meth c H1 locs (cells + 1) (slots + k0.toNatClampNeg) Qe (F0 m (pc + 3) rls (.ref (rA base ro (mX μ)) :: r))) : W p l e R s m args below meth c H locs cells slots Qe (F0 m pc rls (.int k0 :: r)) := by
  obtain ⟨hx, hb, hml, hown, hts, hK, hbase, hn20, -⟩ := C
  obtain ⟨hci, n1, n2, n3⟩ := chkNw _ hn20 _ (tab_mem hc) h100
  dsimp only at hci n1 n2 n3
  have hs : H.size = rA base ro (mX μ) := by rw [rA_big hP.2.1]; have := hP.1; have := hP.2.1; omega
  refine W.anew hx hb hown (hts _ (inG_mem n1)) (va_AO.use hAO) rfl hdg rfl hk (by omega) hcells hslots fun cI kA comp f1 f2 f3 f4 => ?_
  generalize hH1 : H.push ({ cls := cI, slots := Array.replicate k0.toNatClampNeg .null, vm := .none } : Cell) = H1
  have z1 : H1.size = H.size + 1 := by rw [← hH1, Array.size_push]
  have e1 : H1[H.size]? = some (arrV cI k0.toNatClampNeg (fun _ => .null)) := by rw [← hH1, Array.getElem?_push_size, ← arrV_new]
  have o1 : ∀ q : Nat, q < H.size → H1[q]? = H[q]? := fun q hq => by rw [← hH1, Array.getElem?_push, if_neg (Nat.ne_of_lt hq)]
  have h9 : cI = cA kd := by
    obtain ⟨kA', comp', -, -, -, h8⟩ := (hK.2 t0 _ ht).2
    exact Option.some.inj (f1.symm.trans h8)
  subst h9
  rw [hs]
  refine kk H1 (hP.new z1 o1 ?_) ⟨Nat.le_trans hS.1 (by omega), fun x h1 h2 => (o1 x (Nat.lt_of_lt_of_le h1 hS.1)).trans (hS.2.1 x h1 h2), hS.2.2⟩
  rw [ha0]
  show H1[H.size]? = some (vp_cell _ _)
  rw [vp_cell_q]
  exact e1
theorem pg_gets (C : Ctx p R s m args c M D cA base) {idx k : Nat} (hRO : RO base ro μ s s.heap) (hS : va_S (isO base) s.heap H locs) (hf : sres (mi_n M) idx = some k) (hdg : decode (mi_c M) pc = .ok (.getstatic idx, 3))
    (kk : W p l e R s m args below meth c H locs cells slots Qe (F0 m (pc + 3) rls (rV base ro (sval k) :: r))) (kn : k = 3 → W p l e R s m args below meth c H locs cells slots Qe (F0 m (pc + 3) rls (.null :: r))) : W p l e R s m args below meth c H locs cells slots Qe (F0 m pc rls r) := by
  obtain ⟨hx, hb, hml, hown, hts, hK, hbase, hn20, -⟩ := C
  obtain ⟨k3, w⟩ := chkSt _ hn20 _ (tab_mem hf)
  obtain ⟨v, hv, hZ⟩ := hRO.2.1 k k3
  rcases hv with rfl | ⟨h3, rfl⟩
  · exact va_gets hx hb hZ hS hown (hts _ (inG_mem w)) (fun _ h => h) hdg kk
  · exact va_gets hx hb hZ hS hown (hts _ (inG_mem w)) (fun _ h => h) hdg (kn h3)
theorem pg_ldcs (C : Ctx p R s m args c M D cA base) {idx k : Nat} (hRO : RO base ro μ s s.heap) (hf : kres (mi_n M) idx = some (.inr k)) (hdg : decode (mi_c M) pc = .ok (.ldc idx, 2))
    (kk : W p l e R s m args below meth c H locs cells slots Qe (F0 m (pc + 2) rls (.ref (rA base ro k) :: r))) : W p l e R s m args below meth c H locs cells slots Qe (F0 m pc rls r) := by
  obtain ⟨hx, hb, hml, hown, hts, hK, hbase, hn20, -⟩ := C
  obtain ⟨k1, k2⟩ := hRO.2.2.2.1 _ hn20 _ (tab_mem hf) k rfl
  rw [rA_ro (by omega)] at kk
  exact va_ldcS hx hb hown k2 hdg kk
theorem pg_ldcsw (C : Ctx p R s m args c M D cA base) {idx k : Nat} (hRO : RO base ro μ s s.heap) (hf : kres (mi_n M) idx = some (.inr k)) (hdg : decode (mi_c M) pc = .ok (.ldc_w idx, 3))
    (kk : W p l e R s m args below meth c H locs cells slots Qe (F0 m (pc + 3) rls (.ref (rA base ro k) :: r))) : W p l e R s m args below meth c H locs cells slots Qe (F0 m pc rls r) := by
  obtain ⟨hx, hb, hml, hown, hts, hK, hbase, hn20, -⟩ := C
  obtain ⟨k1, k2⟩ := hRO.2.2.2.1 _ hn20 _ (tab_mem hf) k rfl
  rw [rA_ro (by omega)] at kk
  intro T hT X
  obtain ⟨t, a1, b1⟩ := kk T hT X
  exact ⟨t, X.ldcStringW hx hown (text := txts.getD k "") (a := ro k) k2.1 k2.2 (g := F0 m pc rls r) rfl (by rw [hb]; exact hdg) t a1, b1⟩
theorem nn_int (z : Int32) (hz : ¬ z < 0) : z.toInt = (z.toNatClampNeg : Int) := by
  have hz0 : (0 : Int) ≤ z.toInt := by
    have := Int32.not_lt.mp hz
    simpa using Int32.le_iff_toInt_le.mp this
  show z.toInt = ((z.toInt.toNat : Nat) : Int)
  omega
theorem b8_fit {v : Int32} (h : v.toInt8.toInt32 = v) : fits .byte (.int v) = true := by
  have e : v.toInt = v.toInt8.toInt := by
    have := congrArg Int32.toInt h
    rw [Int8.toInt_toInt32] at this
    exact this.symm
  have h1 := Int8.le_toInt v.toInt8
  have h2 := Int8.toInt_lt v.toInt8
  have g1 : (-128 : Int32) ≤ v := by rw [Int32.le_iff_toInt_le]; have : (-128 : Int32).toInt = -128 := rfl; omega
  have g2 : v ≤ (127 : Int32) := by rw [Int32.le_iff_toInt_le]; have : (127 : Int32).toInt = 127 := rfl; omega
  simp [fits, g1, g2]
theorem okT_n {ty : FieldType} {v : Int32} (h : okT ty v) : narrow ty (.int v) = .int v := by
  unfold okT at h
  split at h
  · rfl
  · rcases h with rfl | rfl <;> rfl
  · show Value.int v.toInt8.toInt32 = _; rw [h]
  · show Value.int v.toUInt32.toUInt16.toUInt32.toInt32 = _
    have e : v.toUInt32.toUInt16.toUInt32 = v.toUInt32 % 65536 := by
      apply UInt32.toNat_inj.mp
      simp
    rw [e, h]
  · exact h.elim
theorem okT_f {ty : FieldType} {v : Int32} (h : okT ty v) (hc : ty ≠ .char) : fits ty (.int v) = true := by
  unfold okT at h
  split at h
  · rfl
  · rcases h with rfl | rfl <;> rfl
  · exact b8_fit h
  · exact absurd rfl hc
  · exact h.elim
end Heap2
end
section
/-! one step of the small machine is a step of the big one -/
def Sm (μ μ' : Mu) : Prop := ∀ a, a < 1000 → mS μ' a = mS μ a ∧ mI μ' a = mI μ a ∧ mR μ' a = mR μ a
theorem Sm.rfl' {μ : Mu} : Sm μ μ := fun _ _ => ⟨rfl, rfl, rfl⟩
theorem Sm.trans {μ μ1 μ2 : Mu} (h : Sm μ μ1) (k : Sm μ1 μ2) : Sm μ μ2 := fun a ha => ⟨(k a ha).1.trans (h a ha).1, (k a ha).2.1.trans (h a ha).2.1, (k a ha).2.2.trans (h a ha).2.2⟩
theorem Sm.oI {μ μ1 : Mu} {a k : Nat} {v : Int32} (h : Sm μ μ1) (ha : 1000 ≤ a) : Sm μ (uI μ1 a k v) := h.trans fun b hb => ⟨rfl, by funext j; simp [mI, uI, show ¬ b = a by omega], rfl⟩
theorem Sm.oA {μ μ1 : Mu} {a : Nat} {f : Nat → Int32} (h : Sm μ μ1) (ha : 1000 ≤ a) : Sm μ (uA μ1 a f) := h.trans fun b hb => ⟨rfl, by funext j; simp [mI, uA, show ¬ b = a by omega], rfl⟩
theorem Sm.oJ {μ μ1 : Mu} {a k : Nat} {v : Int64} (h : Sm μ μ1) : Sm μ (uJ μ1 a k v) := h.trans fun b hb => ⟨rfl, rfl, rfl⟩
theorem Sm.oR {μ μ1 : Mu} {a k : Nat} {v : Option Nat} (h : Sm μ μ1) (ha : 1000 ≤ a) : Sm μ (uR μ1 a k v) := h.trans fun b hb => ⟨rfl, rfl, by funext j; simp [mR, uR, show ¬ b = a by omega]⟩
theorem Sm.oX {μ μ1 : Mu} {x : Nat} (h : Sm μ μ1) : Sm μ (uX μ1 x) := h.trans fun b hb => ⟨rfl, rfl, rfl⟩
theorem Sm.oN {μ μ1 : Mu} {k n : Nat} (h : Sm μ μ1) (ha : 1000 ≤ mX μ1) : Sm μ (uN μ1 k n) := h.trans fun b hb => by
  have e : ¬ b = μ1.1 := by have : 1000 ≤ μ1.1 := ha; omega
  exact ⟨by simp [mS, uN, e], by funext j; simp [mI, uN, e], by funext j; simp [mR, uN, e]⟩
def Rl (D : va_G) (cA : Nat → ClassId) (base : Nat) (ro : Nat → Nat) (M : MI) (s : State) (μ0 : Mu) (ls : LV) (μ : Mu) (u : Nat × Nat) (H : Heap) (locs : List Loc) (rls : Array Slot) : Prop :=
  Pic D cA base ro μ H ∧ (RO base ro μ s s.heap ∧ Sm μ0 μ) ∧ va_S (isO base) s.heap H locs ∧ LR base ro M ls rls ∧ ule u (mi_al M)
/-- old things keep their numbers of places -/
def SZ (H H1 : Heap) : Prop := ∀ (a : Nat) (c : Cell), H[a]? = some c → ∃ c' : Cell, H1[a]? = some c' ∧ c'.slots.size = c.slots.size
/-- what a method says of its end: returned, thrown -/
def QcO (D : va_G) (cA : Nat → ClassId) (base : Nat) (ro : Nat → Nat) (Q : Po) (μ0 : Mu) : Array Value → State → Outcome → State → Prop := fun _ st o t => ∃ (v : Option Value) (μ' : Mu), o = .returned (v.map (rV base ro)) ∧ Q (some v) μ' ∧ Pic D cA base ro μ' t.heap ∧ va_F (isO base) st t ∧ Sm μ0 μ' ∧ SZ st.heap t.heap
def XCO (D : va_G) (cA : Nat → ClassId) (base : Nat) (ro : Nat → Nat) (Q : Po) (μ0 : Mu) (th : Bool) : String → State → State → Prop := fun E st t => E = IOB ∧ th = true ∧ ∃ μ' : Mu, Q none μ' ∧ Pic D cA base ro μ' t.heap ∧ va_F (isO base) st t ∧ Sm μ0 μ'
def XW (p : Program) (l : Launch) (e : Env) (R : Room) (s : State) (m : MethodId) (args : Array Value) (below : List Frame) (meth : Method) (c : Code) (Qe : State → Prop) (D : va_G) (cA : Nat → ClassId) (base : Nat) (ro : Nat → Nat) (M : MI) (μ0 : Mu) : Nat → LV → List Value → Mu → Nat × Nat → Prop := fun pc ls st μ u =>
  ∀ (H : Heap) (locs : List Loc) (rls : Array Slot), Rl D cA base ro M s μ0 ls μ u H locs rls → W p l e R s m args below meth c H locs u.1 u.2 Qe (F0 m pc rls (st.map (rV base ro)))
def ivk (kind idx : Nat) : Instr := match kind with | 0 => .invokevirtual idx | 1 => .invokestatic idx | _ => .invokespecial idx
theorem RO.sm {base : Nat} {ro : Nat → Nat} {μ μ' : Mu} {U : State} {H : Heap} (h : RO base ro μ U H) (k : Sm μ μ') : RO base ro μ' U H := h.same (fun a ha => (k a ha).1) (fun a ha => (k a ha).2.1) (fun a ha => (k a ha).2.2)
section Step
variable {p : Program} {l : Launch} {e : Env} {R : Room} {s : State} {m : MethodId} {args : Array Value} {below : List Frame} {meth : Method} {c : Code} {H : Heap} {locs : List Loc} {Qe : State → Prop} {cells slots : Nat}
variable {M : MI} {D : va_G} {cA : Nat → ClassId} {base : Nat} {ro : Nat → Nat} {μ μ0 : Mu} {pc : Nat} {rls : Array Slot} {r : List Value}
theorem W_sz {g : JFrame} (k : SZ s.heap H → W p l e R s m args below meth c H locs cells slots Qe g) : W p l e R s m args below meth c H locs cells slots Qe g := by
  intro T hT X
  refine k (fun a c0 h => ?_) T hT X
  obtain ⟨c', h1, -, h2, -⟩ := X.same.2.2.2.2.2 a c0 h
  exact ⟨c', by rw [← hT]; exact h1, h2⟩
theorem chkVX : ∀ w ∈ vx_atS "LockstepRoom" 210 IOB ["java/lang/RuntimeException", "java/lang/Exception"], w ∈ ALLG ∨ w = .castable IOB IOB ∨ w = .declares (Bundle.initS "java/lang/RuntimeException") ∨ w = .declares (Bundle.initS "java/lang/Exception") ∨ w = .declares (Bundle.initS "java/lang/Throwable") := by
  intro w hw
  have h := List.all_eq_true.mp chkX w hw
  simp only [Bool.or_eq_true, beq_iff_eq] at h
  rcases h with (((h | h) | h) | h) | h
  · exact Or.inl (inG_mem h)
  · exact Or.inr (Or.inl h)
  · exact Or.inr (Or.inr (Or.inl h))
  · exact Or.inr (Or.inr (Or.inr (Or.inl h)))
  · exact Or.inr (Or.inr (Or.inr (Or.inr h)))
theorem chkVX2 : ∀ w ∈ Cond.classLink "LockstepRoom" 206 IOB :: Cond.initialized IOB :: vx_atS "LockstepRoom" 210 IOB ["java/lang/RuntimeException", "java/lang/Exception"], vx_ot w = true := by decide +kernel
theorem chkVX3 : Bundle.fit IOB = true ∧ ∀ n ∈ ["java/lang/RuntimeException", "java/lang/Exception"], Bundle.fit n = true := by decide +kernel
theorem pg_throw (C : Ctx p R s m args c M D cA base) {idx is k : Nat} {Q : Po} (hl : l.stackTraces = false) (hlk : meth.locks = false) (htab : ∀ x ∈ c.exceptionTable.toList, False) (hQe : Qe = vx_MQ below (QcO D cA base ro Q μ0) (XCO D cA base ro Q μ0 true) args s (mi_al M).1 (mi_al M).2 (isO base))
    (hP : Pic D cA base ro μ H) (hRO : RO base ro μ s s.heap) (hSm : Sm μ0 μ) (hS : va_S (isO base) s.heap H locs) (hL : rls.size = mi_L M) (hn : mi_n M = 17) (hc : cres (mi_n M) idx = some 100)
    (hu : cells + 1 ≤ (mi_al M).1 ∧ slots + 6 ≤ (mi_al M).2) (hQ : ∀ x, mX μ ≤ x → Q none (uX μ x))
    (d0 : decode (mi_c M) pc = .ok (.new idx, 3)) (d3 : decode (mi_c M) (pc + 3) = .ok (.dup, 1)) (d4 : (decode (mi_c M) (pc + 4) = .ok (.ldc is, 2) ∧ decode (mi_c M) (pc + 6) = .ok (.invokespecial 210, 3) ∧ decode (mi_c M) (pc + 9) = .ok (.athrow, 1)) ∨ (decode (mi_c M) (pc + 4) = .ok (.ldc_w is, 3) ∧ decode (mi_c M) (pc + 7) = .ok (.invokespecial 210, 3) ∧ decode (mi_c M) (pc + 10) = .ok (.athrow, 1))) (hk : kres (mi_n M) is = some (.inr k)) :
    W p l e R s m args below meth c H locs cells slots Qe (F0 m pc rls []) := by
  obtain ⟨hx, hb, hml, hown, hts, hK, hbase, hn20, hRc, hRs, hRf, hRl⟩ := C
  have hidx : idx = 206 := chkN100 _ hn20 _ (tab_mem hc) rfl hn
  subst hidx
  obtain ⟨k1, k2⟩ := hRO.2.2.2.1 _ hn20 _ (tab_mem hk) k rfl
  have e17 : cnm.getD (mi_n M) "" = "LockstepRoom" := by rw [hn]; rfl
  rw [e17] at hown k2
  obtain ⟨-, -, hz, -, -, hno, -⟩ := hRO
  subst hQe
  rcases d4 with d4 | d4
  · refine vx_throwS (own := "LockstepRoom") (cls := IOB) (names := ["java/lang/RuntimeException", "java/lang/Exception"]) hx hb hl hown chkVX3.1 chkVX3.2 (hts _ (inG_mem chkX2.1)) (hts _ (inG_mem chkX2.2.1)) k2 (fun w hw => ?_) chkVX2 hz.1 hz.2 hS (by rw [hL, hml]) d0 d3 d4.1 d4.2.1 d4.2.2 (fun x hx => (htab x hx).elim) (by show 5 < _; omega) (by show 0 + 82 ≤ _; omega) (by omega) (by omega) hlk (fun t hvm g1 g2 => ?_) hS.2.2 hu.1 hu.2
    · rcases chkVX w hw with h | h | h | h | h
      · exact hts w h
      · rw [h]; exact va_Nw.use rfl hno.1
      · rw [h]; exact va_Nw.use rfl (hno.2 _ (by simp))
      · rw [h]; exact va_Nw.use rfl (hno.2 _ (by simp))
      · rw [h]; exact va_Nw.use rfl (hno.2 _ (by simp))
    · have hsz := hP.1
      refine ⟨rfl, rfl, uX μ (mX μ + (t.heap.size - H.size)), hQ _ (by omega), hP.skip (by omega) (by omega) g2, ⟨Nat.le_trans hS.1 g1, fun q h1 h2 => (g2 q (Nat.lt_of_lt_of_le h1 hS.1)).trans (hS.2.1 q h1 h2)⟩, hSm.oX⟩
  · refine vx_throwSW (own := "LockstepRoom") (cls := IOB) (names := ["java/lang/RuntimeException", "java/lang/Exception"]) hx hb hl hown chkVX3.1 chkVX3.2 (hts _ (inG_mem chkX2.1)) (hts _ (inG_mem chkX2.2.1)) k2 (fun w hw => ?_) chkVX2 hz.1 hz.2 hS (by rw [hL, hml]) d0 d3 d4.1 d4.2.1 d4.2.2 (fun x hx => (htab x hx).elim) (by show 5 < _; omega) (by show 0 + 82 ≤ _; omega) (by omega) (by omega) hlk (fun t hvm g1 g2 => ?_) hS.2.2 hu.1 hu.2
    · rcases chkVX w hw with h | h | h | h | h
      · exact hts w h
      · rw [h]; exact va_Nw.use rfl hno.1
      · rw [h]; exact va_Nw.use rfl (hno.2 _ (by simp))
      · rw [h]; exact va_Nw.use rfl (hno.2 _ (by simp))
      · rw [h]; exact va_Nw.use rfl (hno.2 _ (by simp))
    · have hsz := hP.1
      refine ⟨rfl, rfl, uX μ (mX μ + (t.heap.size - H.size)), hQ _ (by omega), hP.skip (by omega) (by omega) g2, ⟨Nat.le_trans hS.1 g1, fun q h1 h2 => (g2 q (Nat.lt_of_lt_of_le h1 hS.1)).trans (hS.2.1 q h1 h2)⟩, hSm.oX⟩
set_option maxHeartbeats 4000000 in
theorem sim_stp {ev : Nat → List Value → Mu → Po → Prop} {Q : Po} (C : Ctx p R s m args c M D cA base) (hmn : (mi_y M).name = "<init>" → meth.name = "<init>") (hrt : meth.sig.returnType = mi_rt M) (hlk : meth.locks = false) (hl : l.stackTraces = false) (htab : mi_th M = true → ∀ x ∈ c.exceptionTable.toList, False)
    (hQe : Qe = vx_MQ below (QcO D cA base ro Q μ0) (XCO D cA base ro Q μ0 (mi_th M)) args s (mi_al M).1 (mi_al M).2 (isO base))
    (hinv : ∀ (idx kind pc : Nat) (ls : LV) (st : List Value) (μ : Mu) (u : Nat × Nat) (H : Heap) (locs : List Loc) (rls : Array Slot), Rl D cA base ro M s μ0 ls μ u H locs rls → decode (mi_c M) pc = .ok (ivk kind idx, 3) → inv ev M Q (XW p l e R s m args below meth c Qe D cA base ro M μ0) idx kind pc ls st μ u → W p l e R s m args below meth c H locs u.1 u.2 Qe (F0 m pc rls (st.map (rV base ro))))
    {ins : Instr} {n pc : Nat} {ls : LV} {st : List Value} {μ : Mu} {u : Nat × Nat} (hdg : decode (mi_c M) pc = .ok (ins, n)) (hlen : ilen ins n = true) (h : stp ev M Q (XW p l e R s m args below meth c Qe D cA base ro M μ0) ins n pc ls st μ u) : XW p l e R s m args below meth c Qe D cA base ro M μ0 pc ls st μ u := by
  intro H locs rls hR
  have hR0 := hR
  have C0 := C
  obtain ⟨hx, hb, hml, hown, hts, hK, hbase, hn20, hRc, hRs, hRf, hRl⟩ := C0
  obtain ⟨hP, ⟨hRO, hSm⟩, hS, hL, hu⟩ := hR0
  unfold stp at h
  split at h
  case _ =>
    have en : n = 2 := eq_of_beq hlen
    subst en
    obtain ⟨x, h1, h2⟩ := lI_inv h
    exact lv_iload hx hb hdg (hL.2.2.2.2 _ _ h1) (h2 H locs rls hR)
  case _ =>
    have en : n = 1 := eq_of_beq hlen
    subst en
    obtain ⟨x, h1, h2⟩ := lI_inv h
    exact lv_iload_n hx hb hdg rfl (hL.2.2.2.2 _ _ h1) (h2 H locs rls hR)
  case _ =>
    have en : n = 2 := eq_of_beq hlen
    subst en
    obtain ⟨x, h1, h2⟩ := lA_inv h
    exact lv_aload hx hb hdg (hL.2.2.2.2 _ _ h1) (h2 H locs rls hR)
  case _ =>
    have en : n = 1 := eq_of_beq hlen
    subst en
    obtain ⟨x, h1, h2⟩ := lA_inv h
    exact lv_aload_n hx hb hdg rfl (hL.2.2.2.2 _ _ h1) (h2 H locs rls hR)
  case _ =>
    have en : n = 2 := eq_of_beq hlen
    subst en
    obtain ⟨x, h1, h2⟩ := lL_inv h
    exact lv_lload hx hb hdg (hL.2.2.2.2 _ _ h1) (h2 H locs rls hR)
  case _ =>
    have en : n = 1 := eq_of_beq hlen
    subst en
    obtain ⟨x, h1, h2⟩ := lL_inv h
    exact lv_lload_n hx hb hdg rfl (hL.2.2.2.2 _ _ h1) (h2 H locs rls hR)
  case _ =>
    have en : n = 2 := eq_of_beq hlen
    subst en
    obtain ⟨x, h1, h2⟩ := lD_inv h
    exact lv_dload hx hb hdg (hL.2.2.2.2 _ _ h1) (h2 H locs rls hR)
  case _ =>
    have en : n = 1 := eq_of_beq hlen
    subst en
    obtain ⟨x, h1, h2⟩ := lD_inv h
    exact lv_dload_n hx hb hdg rfl (hL.2.2.2.2 _ _ h1) (h2 H locs rls hR)
  case _ =>
    have en : n = 2 := eq_of_beq hlen
    subst en
    obtain ⟨x, r, rfl, h1⟩ := pI_inv h
    obtain ⟨hi, h2⟩ := oki_inv h1
    exact lv_istore hx hb hdg hL.has hi rfl fun ls' h' => h2 H locs ls' ⟨hP, ⟨hRO, hSm⟩, hS, hL.st1 hi rfl h', hu⟩
  case _ =>
    have en : n = 1 := eq_of_beq hlen
    subst en
    obtain ⟨x, r, rfl, h1⟩ := pI_inv h
    obtain ⟨hi, h2⟩ := oki_inv h1
    exact lv_istore_n hx hb hdg rfl hL.has hi rfl fun ls' h' => h2 H locs ls' ⟨hP, ⟨hRO, hSm⟩, hS, hL.st1 hi rfl h', hu⟩
  case _ =>
    have en : n = 2 := eq_of_beq hlen
    subst en
    obtain ⟨x, r, rfl, h1⟩ := pA_inv h
    obtain ⟨hi, h2⟩ := oki_inv h1
    exact lv_astore hx hb hdg hL.has hi rfl fun ls' h' => h2 H locs ls' ⟨hP, ⟨hRO, hSm⟩, hS, hL.st1 hi rfl h', hu⟩
  case _ =>
    have en : n = 1 := eq_of_beq hlen
    subst en
    obtain ⟨x, r, rfl, h1⟩ := pA_inv h
    obtain ⟨hi, h2⟩ := oki_inv h1
    exact lv_astore_n hx hb hdg rfl hL.has hi rfl fun ls' h' => h2 H locs ls' ⟨hP, ⟨hRO, hSm⟩, hS, hL.st1 hi rfl h', hu⟩
  case _ =>
    have en : n = 2 := eq_of_beq hlen
    subst en
    obtain ⟨x, r, rfl, h1⟩ := pL_inv h
    obtain ⟨hi, h2⟩ := oki_inv h1.2
    exact lv_lstore hx hb hdg hL.has hi rfl fun ls' h' => h2 H locs ls' ⟨hP, ⟨hRO, hSm⟩, hS, hL.st2 hi h1.1 h', hu⟩
  case _ =>
    have en : n = 1 := eq_of_beq hlen
    subst en
    obtain ⟨x, r, rfl, h1⟩ := pL_inv h
    obtain ⟨hi, h2⟩ := oki_inv h1.2
    exact lv_lstore_n hx hb hdg rfl hL.has hi rfl fun ls' h' => h2 H locs ls' ⟨hP, ⟨hRO, hSm⟩, hS, hL.st2 hi h1.1 h', hu⟩
  case _ =>
    have en : n = 2 := eq_of_beq hlen
    subst en
    obtain ⟨x, r, rfl, h1⟩ := pD_inv h
    obtain ⟨hi, h2⟩ := oki_inv h1.2
    exact lv_dstore hx hb hdg hL.has hi rfl fun ls' h' => h2 H locs ls' ⟨hP, ⟨hRO, hSm⟩, hS, hL.st2 hi h1.1 h', hu⟩
  case _ =>
    have en : n = 1 := eq_of_beq hlen
    subst en
    obtain ⟨x, r, rfl, h1⟩ := pD_inv h
    obtain ⟨hi, h2⟩ := oki_inv h1.2
    exact lv_dstore_n hx hb hdg rfl hL.has hi rfl fun ls' h' => h2 H locs ls' ⟨hP, ⟨hRO, hSm⟩, hS, hL.st2 hi h1.1 h', hu⟩
  case _ =>
    have en : n = 3 := eq_of_beq hlen
    subst en
    obtain ⟨x, h1, h2⟩ := lI_inv h
    obtain ⟨k9, hk9⟩ := List.getElem?_of_mem (lvE_mem (base := base) (ro := ro) h1)
    have hi := hL.lt h1
    exact lv_iinc hx hb hdg hL.has hk9 rfl hi rfl fun ls' h' => h2 H locs ls' ⟨hP, ⟨hRO, hSm⟩, hS, hL.sti h1 rfl h', hu⟩
  case _ =>
    have en : n = 3 := eq_of_beq hlen
    subst en
    obtain ⟨x, r, rfl, h1⟩ := pI_inv h
    obtain ⟨t, ht, h2⟩ := tgt_inv h1
    rename_i c9 _
    cases c9
    · exact lv_if_eq hx hb hdg ht (fun z => h2.1 z H locs rls hR) (fun z => h2.2 z H locs rls hR)
    · exact lv_if_ne hx hb hdg ht (fun z => h2.2 z H locs rls hR) (fun z => h2.1 z H locs rls hR)
    · exact lv_if_lt hx hb hdg ht (fun z => h2.1 z H locs rls hR) (fun z => h2.2 z H locs rls hR)
    · exact lv_if_ge hx hb hdg ht (fun z => h2.1 z H locs rls hR) (fun z => h2.2 z H locs rls hR)
    · exact lv_if_gt hx hb hdg ht (fun z => h2.1 z H locs rls hR) (fun z => h2.2 z H locs rls hR)
    · exact lv_if_le hx hb hdg ht (fun z => h2.1 z H locs rls hR) (fun z => h2.2 z H locs rls hR)
  case _ =>
    have en : n = 3 := eq_of_beq hlen
    subst en
    obtain ⟨y, r, rfl, h0⟩ := pI_inv h
    obtain ⟨x, r, rfl, h1⟩ := pI_inv h0
    obtain ⟨t, ht, h2⟩ := tgt_inv h1
    rename_i c9 _
    cases c9
    · exact lv_icmp_eq hx hb hdg ht (fun z => h2.1 z H locs rls hR) (fun z => h2.2 z H locs rls hR)
    · exact lv_icmp_ne hx hb hdg ht (fun z => h2.2 z H locs rls hR) (fun z => h2.1 z H locs rls hR)
    · exact lv_icmp_lt hx hb hdg ht (fun z => h2.1 z H locs rls hR) (fun z => h2.2 z H locs rls hR)
    · exact lv_icmp_ge hx hb hdg ht (fun z => h2.1 z H locs rls hR) (fun z => h2.2 z H locs rls hR)
    · exact lv_icmp_gt hx hb hdg ht (fun z => h2.1 z H locs rls hR) (fun z => h2.2 z H locs rls hR)
    · exact lv_icmp_le hx hb hdg ht (fun z => h2.1 z H locs rls hR) (fun z => h2.2 z H locs rls hR)
  case _ =>
    have en : n = 3 := eq_of_beq hlen
    subst en
    obtain ⟨x, r, rfl, h1⟩ := pA_inv h
    obtain ⟨t, ht, h2⟩ := tgt_inv h1
    exact lv_ifnonnull hx hb hdg ht (h2 H locs rls hR)
  case _ =>
    have en : n = 3 := eq_of_beq hlen
    subst en
    obtain ⟨a, r, rfl, ⟨h5, rfl, ha, hs⟩, h2⟩ := pA_inv h
    exact pg_cast C hP ha hs h5 hdg (h2 H locs rls hR)
  case _ =>
    have en : n = 3 := eq_of_beq hlen
    subst en
    obtain ⟨t, ht, h2⟩ := tgt_inv h
    exact lv_goto hx hb hdg ht (h2 H locs rls hR)
  case _ =>
    obtain ⟨x, r, rfl, h1, h2⟩ := pI_inv h
    rename_i d9 lo9 hi9 offs9
    by_cases g : x.toInt < lo9 ∨ hi9 < x.toInt
    · obtain ⟨t, ht, h3⟩ := tgt_inv (h1 g)
      exact lv_tableOut hx hb hdg g ht (h3 H locs rls hR)
    · have g1 : ¬ x.toInt < lo9 := fun q => g (Or.inl q)
      have g2 : ¬ hi9 < x.toInt := fun q => g (Or.inr q)
      have h3 := h2 g1 g2
      split at h3
      · rename_i off ho
        obtain ⟨t, ht, h4⟩ := tgt_inv h3
        exact lv_tableIn hx hb hdg g1 g2 ho ht (h4 H locs rls hR)
      · exact h3.elim
  case _ =>
    have en : n = 3 := eq_of_beq hlen
    subst en
    obtain ⟨a, r, rfl, h1⟩ := pA_inv h
    split at h1
    · rename_i ci k hf
      obtain ⟨hs, h2⟩ := h1
      refine pg_get C hP hRO hS hf hs hdg ?_
      unfold fV
      split at h2
      · rename_i hr
        obtain ⟨b, hb9, h3⟩ := onR_inv h2
        rw [hr, hb9]
        exact h3 H locs rls hR
      · rename_i hr
        rw [hr]
        exact h2 H locs rls hR
    · exact h1.elim
  case _ =>
    have en : n = 3 := eq_of_beq hlen
    subst en
    obtain ⟨v, r, rfl, h0⟩ := pV_inv h
    obtain ⟨a, r, rfl, h1⟩ := pA_inv h0
    split at h1
    · rename_i ci k hf
      split at h1
      · rename_i hpfo
        obtain ⟨hs, ha, h2⟩ := h1
        obtain ⟨-, hci, hkn, -⟩ := fres_word hf
        split at h2
        · rename_i b hr
          refine pg_put (μ' := uR μ a k (some b)) C hP hS hf hs ha hpfo hmn ?_ ?_ rfl rfl (fun _ _ => rfl) (fun _ _ => rfl) (fun b' hb' => by funext j; simp [mR, uR, hb']) (fun j => ?_) hdg fun H1 locs1 g1 g2 => h2 H1 locs1 rls ⟨g1, ⟨hRO.sm (Sm.rfl'.oR ha), hSm.oR ha⟩, g2, hL, hu⟩
          · unfold fref at hr; split at hr <;> first | (rename_i e9; rw [e9]; rfl) | cases hr
          · unfold fref at hr; split at hr <;> first | (rename_i e9; rw [e9]; rfl) | cases hr
          · unfold fV
            by_cases hj : j = k
            · subst hj; rw [hr]; simp [mR, uR, va_rf, rV]
            · rw [if_neg hj]; simp [mR, mI, uR, hj]
        · rename_i x hr
          obtain ⟨ho, h2⟩ := h2
          refine pg_put (μ' := uI μ a k x) C hP hS hf hs ha hpfo hmn (okT_n ho) (okT_f ho (chkFit ci hci k hkn)) rfl rfl (fun b' hb' => by funext j; simp [mI, uI, hb']) (fun _ _ => rfl) (fun _ _ => rfl) (fun j => ?_) hdg fun H1 locs1 g1 g2 => h2 H1 locs1 rls ⟨g1, ⟨hRO.sm (Sm.rfl'.oI ha), hSm.oI ha⟩, g2, hL, hu⟩
          unfold fV
          by_cases hj : j = k
          · subst hj; rw [hr]; simp [mI, uI, rV]
          · rw [if_neg hj]; simp [mR, mI, uI, hj]
        · exact h2.elim
      · exact h1.elim
    · exact h1.elim
  case _ =>
    have en : n = 1 := eq_of_beq hlen
    subst en
    obtain ⟨i, r, rfl, h0⟩ := pI_inv h
    obtain ⟨a, r, rfl, h1⟩ := pA_inv h0
    obtain ⟨hs, hin, h2⟩ := h1
    exact pg_ild C hP hRO hS hs hin hdg (h2 H locs rls hR)
  case _ =>
    have en : n = 1 := eq_of_beq hlen
    subst en
    obtain ⟨i, r, rfl, h0⟩ := pI_inv h
    obtain ⟨a, r, rfl, h1⟩ := pA_inv h0
    obtain ⟨hs, hin, h2⟩ := h1
    generalize isL M = b9 at hs
    cases b9
    · exact pg_bld C hP hRO hS hs hin hdg (h2 H locs rls hR)
    · exact pg_zld C hP hs.2 hs.1 hin hdg (h2 H locs rls hR)
  case _ =>
    have en : n = 1 := eq_of_beq hlen
    subst en
    obtain ⟨i, r, rfl, h0⟩ := pI_inv h
    obtain ⟨a, r, rfl, h1⟩ := pA_inv h0
    obtain ⟨hs, ha, hin, h2⟩ := h1
    obtain ⟨b, hb9, h3⟩ := onR_inv h2
    generalize isL M = b9 at hs
    cases b9
    · exact pg_ald C hP ha hs hin hb9 hdg (h3 H locs rls hR)
    · exact pg_sld C hP ha hs hin hb9 hdg (h3 H locs rls hR)
  case _ =>
    have en : n = 1 := eq_of_beq hlen
    subst en
    obtain ⟨x, r, rfl, h9⟩ := pI_inv h
    obtain ⟨i, r, rfl, h0⟩ := pI_inv h9
    obtain ⟨a, r, rfl, h1⟩ := pA_inv h0
    obtain ⟨hs, ha, hin, h2⟩ := h1
    exact pg_ist C hP hS ha hs hin hdg fun H1 locs1 g1 g2 => h2 H1 locs1 rls ⟨g1, ⟨hRO.sm (Sm.rfl'.oI ha), hSm.oI ha⟩, g2, hL, hu⟩
  case _ =>
    have en : n = 1 := eq_of_beq hlen
    subst en
    obtain ⟨x, r, rfl, h9⟩ := pI_inv h
    obtain ⟨i, r, rfl, h0⟩ := pI_inv h9
    obtain ⟨a, r, rfl, h1⟩ := pA_inv h0
    generalize isL M = b9 at h1
    cases b9
    · obtain ⟨hs, ha, hin, h2⟩ := h1
      exact pg_bst C hP hS ha hs hin hdg fun H1 locs1 g1 g2 => h2 H1 locs1 rls ⟨g1, ⟨hRO.sm (Sm.rfl'.oI ha), hSm.oI ha⟩, g2, hL, hu⟩
    · obtain ⟨hs, ha, hin, hx01, h2⟩ := h1
      exact pg_zst C hP hS ha hs hx01 hin hdg fun H1 locs1 g1 g2 => h2 H1 locs1 rls ⟨g1, ⟨hRO.sm (Sm.rfl'.oI ha), hSm.oI ha⟩, g2, hL, hu⟩
  case _ =>
    have en : n = 1 := eq_of_beq hlen
    subst en
    obtain ⟨x, r, rfl, h9⟩ := pA_inv h
    obtain ⟨i, r, rfl, h0⟩ := pI_inv h9
    obtain ⟨a, r, rfl, h1⟩ := pA_inv h0
    obtain ⟨hs, ha, hin, h2⟩ := h1
    generalize isL M = b9 at hs
    cases b9
    · exact pg_ast C hP hS ha hs.2 hs.1 hin hdg fun H1 locs1 g1 g2 => h2 H1 locs1 rls ⟨g1, ⟨hRO.sm (Sm.rfl'.oR ha), hSm.oR ha⟩, g2, hL, hu⟩
    · exact pg_sst C hP hRO hS ha hs.2.1 hs.1 hs.2.2 hin hdg fun H1 locs1 g1 g2 => h2 H1 locs1 rls ⟨g1, ⟨hRO.sm (Sm.rfl'.oR ha), hSm.oR ha⟩, g2, hL, hu⟩
  case _ =>
    have en : n = 1 := eq_of_beq hlen
    subst en
    obtain ⟨a, r, rfl, hs, h1⟩ := pA_inv h
    exact pg_len C hP hRO hS hs hdg (h1 H locs rls hR)
  case _ =>
    have en : n = 3 := eq_of_beq hlen
    subst en
    split at h
    · rename_i ci hc
      split at h
      · obtain ⟨t1, rfl, t2, ⟨is, k, t3, t4, t5, t8⟩, t9⟩ := h
        rw [t1] at hQe
        exact pg_throw C hl hlk (htab t1) hQe hP hRO hSm hS hL.1 t3 hc ⟨t2.1, t2.2⟩ t9 hdg t4 t5 t8
      · rename_i hne
        obtain ⟨h1, h2⟩ := h
        have hX := hP.2.1
        exact pg_new C hP hS hc (fun q => hne q) (by rw [hRc]; exact h1.1) (by rw [hRs]; exact h1.2) hdg fun H1 g1 g2 => h2 H1 locs rls ⟨g1, ⟨hRO.sm (Sm.rfl'.oN hX), hSm.oN hX⟩, g2, hL, h1⟩
    · exact h.elim
  case _ =>
    have en : n = 2 := eq_of_beq hlen
    subst en
    obtain ⟨k0, r, rfl, hk0, hk6, h1, h2⟩ := pI_inv h
    have hX := hP.2.1
    split at h2
    · exact pg_newa (kd := 20) (t0 := 0) (ty := .int) (a0 := fun n => (n, .inl fun _ => 0)) C hP hS hk0 hk6 (by rw [hRc]; exact h1.1) (by rw [hRs]; exact h1.2) rfl (by decide) (inG_mem chkA.1) rfl rfl (by rw [cE_20 (show (mS (uN μ 20 k0.toNatClampNeg) (mX μ)).1 = 20 by simp [mS, uN, mX])]; (try funext j); simp [mS, mI, uN, mX]; first | done | (funext j; simp [mS, mI, mJ, uN, mX]) | rfl) rfl hdg fun H1 g1 g2 => h2 H1 locs rls ⟨g1, ⟨hRO.sm (Sm.rfl'.oN hX), hSm.oN hX⟩, g2, hL, h1⟩
    · exact pg_newa (kd := 21) (t0 := 1) (ty := .byte) (a0 := fun n => (n, .inl fun _ => 0)) C hP hS hk0 hk6 (by rw [hRc]; exact h1.1) (by rw [hRs]; exact h1.2) rfl (by decide) (inG_mem chkA.2.1) rfl rfl (by rw [cE_21 (show (mS (uN μ 21 k0.toNatClampNeg) (mX μ)).1 = 21 by simp [mS, uN, mX])]; (try funext j); simp [mS, mI, uN, mX]; first | done | (funext j; simp [mS, mI, mJ, uN, mX]) | rfl) rfl hdg fun H1 g1 g2 => h2 H1 locs rls ⟨g1, ⟨hRO.sm (Sm.rfl'.oN hX), hSm.oN hX⟩, g2, hL, h1⟩
    · exact pg_newa (kd := 25) (t0 := 5) (ty := .boolean) (a0 := fun n => (n, .inl fun _ => 0)) C hP hS hk0 hk6 (by rw [hRc]; exact h1.1) (by rw [hRs]; exact h1.2) rfl (by decide) (inG_mem chkA.2.2) rfl rfl (by rw [cE_25 (show (mS (uN μ 25 k0.toNatClampNeg) (mX μ)).1 = 25 by simp [mS, uN, mX])]; (try funext j); simp [mS, mI, uN, mX]; first | done | (funext j; simp [mS, mI, mJ, uN, mX]) | rfl) rfl hdg fun H1 g1 g2 => h2 H1 locs rls ⟨g1, ⟨hRO.sm (Sm.rfl'.oN hX), hSm.oN hX⟩, g2, hL, h1⟩
    · exact h2.elim
  case _ =>
    have en : n = 3 := eq_of_beq hlen
    subst en
    obtain ⟨k0, r, rfl, hk0, hk6, h1, h2⟩ := pI_inv h
    have hX := hP.2.1
    split at h2
    · rename_i hc
      exact pg_anew (kd := 23) (t0 := 3) (ci := 7) C hP hS hc (by decide) hRO.2.2.2.2.2.2.1 hk0 hk6 (by rw [hRc]; exact h1.1) (by rw [hRs]; exact h1.2) rfl (by rw [cE_23 (show (mS (uN μ 23 k0.toNatClampNeg) (mX μ)).1 = 23 by simp [mS, uN, mX])]; simp [mS, mR, uN, mX]) hdg fun H1 g1 g2 => h2 H1 locs rls ⟨g1, ⟨hRO.sm (Sm.rfl'.oN hX), hSm.oN hX⟩, g2, hL, h1⟩
    · rename_i hc
      exact pg_anew (kd := 24) (t0 := 4) (ci := 9) C hP hS hc (by decide) hRO.2.2.2.2.2.2.2.1 hk0 hk6 (by rw [hRc]; exact h1.1) (by rw [hRs]; exact h1.2) rfl (by rw [cE_24 (show (mS (uN μ 24 k0.toNatClampNeg) (mX μ)).1 = 24 by simp [mS, uN, mX])]; simp [mS, mR, uN, mX]) hdg fun H1 g1 g2 => h2 H1 locs rls ⟨g1, ⟨hRO.sm (Sm.rfl'.oN hX), hSm.oN hX⟩, g2, hL, h1⟩
    · rename_i hc
      exact pg_anew (kd := 26) (t0 := 6) (ci := 0) C hP hS hc (by decide) hRO.2.2.2.2.2.2.2.2.1 hk0 hk6 (by rw [hRc]; exact h1.1) (by rw [hRs]; exact h1.2) rfl (by rw [cE_26 (show (mS (uN μ 26 k0.toNatClampNeg) (mX μ)).1 = 26 by simp [mS, uN, mX])]; simp [mS, mR, uN, mX]) hdg fun H1 g1 g2 => h2 H1 locs rls ⟨g1, ⟨hRO.sm (Sm.rfl'.oN hX), hSm.oN hX⟩, g2, hL, h1⟩
    · exact h2.elim
  case _ =>
    have en : n = 2 := eq_of_beq hlen
    subst en
    split at h
    · rename_i v hk
      exact lv_ldc hx hb hown (hts _ (inG_mem (chkKt _ hn20 _ (tab_mem hk) v rfl))) hdg (h H locs rls hR)
    · rename_i a hk
      exact pg_ldcs C hRO hk hdg (h H locs rls hR)
    · exact h.elim
  case _ =>
    have en : n = 3 := eq_of_beq hlen
    subst en
    split at h
    · rename_i v hk
      exact lv_ldcw hx hb hown (hts _ (inG_mem (chkKt _ hn20 _ (tab_mem hk) v rfl))) hdg (h H locs rls hR)
    · rename_i a hk
      exact pg_ldcsw C hRO hk hdg (h H locs rls hR)
    · exact h.elim
  case _ =>
    have en : n = 3 := eq_of_beq hlen
    subst en
    split at h
    · rename_i v hk
      exact lv_ldc2 hx hb hown (hts _ (inG_mem (chkLt _ hn20 _ (tab_mem hk)))) hdg (h H locs rls hR)
    · exact h.elim
  case _ =>
    have en : n = 3 := eq_of_beq hlen
    subst en
    split at h
    · rename_i k hk
      exact pg_gets C hRO hS hk hdg (h.1 H locs rls hR) (fun h3 => h.2 h3 H locs rls hR)
    · exact h.elim
  case _ =>
    have en : n = 3 := eq_of_beq hlen
    subst en
    exact hinv _ 0 pc ls st μ u H locs rls hR hdg h
  case _ =>
    have en : n = 3 := eq_of_beq hlen
    subst en
    exact hinv _ 1 pc ls st μ u H locs rls hR hdg h
  case _ =>
    have en : n = 3 := eq_of_beq hlen
    subst en
    exact hinv _ 2 pc ls st μ u H locs rls hR hdg h
  case _ =>
    have en : n = 1 := eq_of_beq hlen
    subst en
    obtain ⟨v, r, rfl, rfl, hu9, h1⟩ := pI_inv h
    subst hQe
    refine W_sz fun hsz => ?_
    refine W.widen hu9.1 hu9.2 (vx_ret ?_)
    split at h1
    · rename_i ty hty
      exact W.zret hx hb (hrt.trans hty) (okT_n h1.1) (fun t ht _ => ⟨some (.int v), μ, rfl, h1.2, by rw [ht]; exact hP, hS.F ht, hSm, by rw [ht]; exact hsz⟩) hS.2.2 hdg hlk
    · exact h1.elim
  case _ =>
    have en : n = 1 := eq_of_beq hlen
    subst en
    obtain ⟨v, r, rfl, rfl, hu9, h1⟩ := pA_inv h
    subst hQe
    refine W_sz fun hsz => ?_
    refine W.widen hu9.1 hu9.2 (vx_ret ?_)
    split at h1
    · rename_i ty hty
      exact W.aret hx hb (hrt.trans hty) (Or.inl ⟨_, rfl⟩) (Or.inr ⟨_, rfl⟩) (fun t ht _ => ⟨some (.ref v), μ, rfl, h1, by rw [ht]; exact hP, hS.F ht, hSm, by rw [ht]; exact hsz⟩) hS.2.2 hdg hlk
    · rename_i ty hty
      exact W.aret hx hb (hrt.trans hty) (Or.inr ⟨_, rfl⟩) (Or.inr ⟨_, rfl⟩) (fun t ht _ => ⟨some (.ref v), μ, rfl, h1, by rw [ht]; exact hP, hS.F ht, hSm, by rw [ht]; exact hsz⟩) hS.2.2 hdg hlk
    · exact h1.elim
  case _ =>
    have en : n = 1 := eq_of_beq hlen
    subst en
    obtain ⟨v, r, rfl, rfl, hu9, hty, h1⟩ := pD_inv h
    subst hQe
    refine W_sz fun hsz => ?_
    refine W.widen hu9.1 hu9.2 (vx_ret ?_)
    exact W.dret hx hb (hrt.trans hty) (fun t ht _ => ⟨some (.double v), μ, rfl, h1, by rw [ht]; exact hP, hS.F ht, hSm, by rw [ht]; exact hsz⟩) hS.2.2 hdg hlk
  case _ =>
    have en : n = 1 := eq_of_beq hlen
    subst en
    obtain ⟨rfl, hu9, hty, h1⟩ := h
    subst hQe
    refine W_sz fun hsz => ?_
    refine W.widen hu9.1 hu9.2 (vx_ret ?_)
    exact W.vret hx hb (hrt.trans hty) (fun t ht _ => ⟨none, μ, rfl, h1, by rw [ht]; exact hP, hS.F ht, hSm, by rw [ht]; exact hsz⟩) hS.2.2 hdg hlk
  case _ =>
    exact sim_sop hx hb hdg hlen h fun r hr => hr H locs rls hR
end Step
end
section
/-! calls: contracts of all methods at a depth give the contracts a depth higher -/
def rmD (d : Nat) (M : MI) : Room := { frames := d + 5, locals := 35 * d + 200, cells := (mi_al M).1, slots := (mi_al M).2 }
def PcO (D : va_G) (cA : Nat → ClassId) (base : Nat) (ro : Nat → Nat) (d j : Nat) (args : List Value) (μ : Mu) (Q : Po) : Array Value → State → Prop := fun v U => v = (args.map (rV base ro)).toArray ∧ Wd D cA base ro μ U ∧ Ev d j args μ Q
def Ctr (l : Launch) (d j : Nat) : Prop := ∀ (D : va_G) (cA : Nat → ClassId) (base : Nat) (ro : Nat → Nat) (args : List Value) (μ : Mu) (Q : Po),
  vx_Met l (mi_y (minfo j)) (ws (minfo j)) (rmD d (minfo j)) (PcO D cA base ro d j args μ Q) (QcO D cA base ro Q μ) (XCO D cA base ro Q μ (mi_th (minfo j))) (mi_al (minfo j)).1 (mi_al (minfo j)).2 (isO base)
theorem PcO.blind {D : va_G} {cA : Nat → ClassId} {base : Nat} {ro : Nat → Nat} {d j : Nat} {args : List Value} {μ : Mu} {Q : Po} : FrameBlind (PcO D cA base ro d j args μ Q) := by
  intro a U g mk h
  obtain ⟨h1, ⟨h2, h3, h4⟩, h5⟩ := h
  have hW : U.WarmedH (U.calling g mk a).vm := State.WarmedH.refl U
  exact ⟨h1, ⟨h2, h3.moved hW.alike, RO.warm hW h4⟩, h5⟩
theorem chkHd : mtab.all (fun M => (mi_hd M).isNone) = true := by decide +kernel
theorem hd_none {M : MI} (hM : M ∈ mtab) : mi_hd M = none := by
  have h1 := List.all_eq_true.mp chkHd M hM
  exact Option.isNone_iff_eq_none.mp h1
theorem hdOk_th {M : MI} (hM : M ∈ mtab) (h : mi_th M = true) : mi_hd M = none := hd_none hM
theorem minfo_mem {j : Nat} (h : j < 195) : minfo j ∈ mtab := by
  have hl : mtab.length = 195 := mtab_len
  unfold minfo
  rw [List.getD_eq_getElem?_getD, List.getElem?_eq_getElem (by omega)]
  exact List.getElem_mem _
theorem gI {L : List Cond} (h : ∀ w ∈ L, w ∈ ALLG) : GoodIn ALLG L := fun w hw => ⟨h w hw, good_of_word (allG_good w (h w hw))⟩
theorem ws_in {j : Nat} (h : j < 194) : ∀ w ∈ ws (minfo j), w ∈ ALLG := by
  intro w hw
  rcases List.mem_cons.mp hw with e | h1
  · rw [e]; exact chkW j h
  · exact h1
theorem ws_app {j : Nat} (h : j < 194) {L : List Cond} (hL : ∀ w ∈ L, w ∈ ALLG) : ∀ w ∈ L ++ ws (minfo j), w ∈ ALLG := fun w hw => (List.mem_append.mp hw).elim (hL w) (ws_in h w)
theorem ws_none {M : MI} (h : mi_hd M = none) : ws M = Cond.code (mi_y M) (mi_c M) (mi_L M) (mi_rt M) :: ALLG := by unfold ws mw; rw [h]
theorem ws_some {M : MI} {f t h0 h k : Nat} (hh : mi_hd M = some (f, t, h0, h, k)) : ws M = Cond.codeWith (mi_y M) (mi_c M) (mi_L M) (mi_rt M) [(f, t, h0, 13)] :: ALLG := by unfold ws mw; rw [hh]
section CallRows
variable {p : Program} {l : Launch} {e : Env} {R : Room} {s : State} {m : MethodId} {args : Array Value} {below : List Frame} {meth : Method} {c : Code} {H : Heap} {locs : List Loc} {Qe : State → Prop} {cells slots : Nat}
variable {M : MI} {D : va_G} {cA : Nat → ClassId} {base : Nat} {ro : Nat → Nat} {μ μ0 : Mu} {pc : Nat} {rls : Array Slot} {r : List Value}
/-- the method's own table of handlers -/
def Tb (M : MI) (c : Code) : Prop := match mi_hd M with
  | none => mi_th M = true → ∀ x ∈ c.exceptionTable.toList, False
  | some (f, t, h0, _, _) => c.exceptionTable.toList = tableOf [(f, t, h0, 13)]
theorem stand_same {T T' : State} {locs' : List Loc} {k1 k2 c1 c2 : Nat} (X : Stand p l e R s m args below meth c T locs k1 k2) (X' : Stand p l e R s m args below meth c T' locs' c1 c2) (hz : SZ T.heap T'.heap) (hs : T'.heap.size = T.heap.size) : Stand p l e R s m args below meth c T' locs' k1 k2 := by
  have h3 : T.heap.size ≤ s.heap.size + k1 := X.same.2.2.1
  have h5 : ((T.heap.toList.drop s.heap.size).map (·.slots.size)).sum ≤ k2 := X.same.2.2.2.2.1
  have e : (T'.heap.toList.drop s.heap.size).map (·.slots.size) = (T.heap.toList.drop s.heap.size).map (·.slots.size) := by
    apply List.ext_getElem?
    intro i
    rw [List.getElem?_map, List.getElem?_map, List.getElem?_drop, List.getElem?_drop, Array.getElem?_toList, Array.getElem?_toList]
    cases hc : T.heap[s.heap.size + i]? with
    | none =>
      have : T'.heap[s.heap.size + i]? = none := by
        rw [Array.getElem?_eq_none_iff] at hc ⊢
        omega
      rw [this]
    | some c0 =>
      obtain ⟨c', q1, q2⟩ := hz _ _ hc
      rw [q1]
      simp [q2]
  exact { X' with same := ⟨X'.same.1, X'.same.2.1, by show T'.heap.size ≤ _; rw [hs]; exact h3, X'.same.2.2.2.1, by show ((T'.heap.toList.drop s.heap.size).map (·.slots.size)).sum ≤ _; rw [e]; exact h5, X'.same.2.2.2.2.2⟩ }
theorem run_cal (C : Ctx p R s m args c M D cA base) (hM : M ∈ mtab) (htb : Tb M c) (hlk : meth.locks = false) {Q : Po} (hQe : Qe = vx_MQ below (QcO D cA base ro Q μ0) (XCO D cA base ro Q μ0 (mi_th M)) args s (mi_al M).1 (mi_al M).2 (isO base))
    {ls : LV} {st0 rest : List Value} {a9 : Array Value} {u al : Nat × Nat} {th : Bool} (hR : Rl D cA base ro M s μ0 ls μ u H locs rls) (hu' : ule (uad u al) (mi_al M))
    (hr : vx_Run p l e R s m args below meth c H locs u.1 u.2 al.1 al.2 (F0 m pc rls st0) (rest.map (rV base ro))
      (QcO D cA base ro (kC (fun s2 μ2 => XW p l e R s m args below meth c Qe D cA base ro M μ0 (pc + 3) ls s2 μ2 (chg M μ μ2 u al)) rest (thr M Q (XW p l e R s m args below meth c Qe D cA base ro M μ0) pc ls (uad u al))) μ a9)
      (XCO D cA base ro (kC (fun s2 μ2 => XW p l e R s m args below meth c Qe D cA base ro M μ0 (pc + 3) ls s2 μ2 (chg M μ μ2 u al)) rest (thr M Q (XW p l e R s m args below meth c Qe D cA base ro M μ0) pc ls (uad u al))) μ th) (isO base)) :
    W p l e R s m args below meth c H locs u.1 u.2 Qe (F0 m pc rls st0) := by
  have hR0 := hR
  obtain ⟨hP, ⟨hRO, hSm⟩, hS, hL, hu⟩ := hR0
  intro T hT Xs
  rcases hr T hT Xs with ⟨v, st₀, t, T', L, h0, X', hLL, e1, e2, ⟨v0, μ', hv, hq, hp, hF, hsm, hsz⟩, st⟩ | ⟨q, st₀, t, T', L, E, ce, h0, X', hLL, e1, e2, ⟨hE, hth, μ', hq, hp, hF, hsm⟩, hce, hcv, hcl, st⟩
  · obtain ⟨k1, k2, k3⟩ := vx_keep h0 e1 hS (fun _ _ h => h) (fun _ h => h) hLL hF
    cases hv
    have hXX : XW p l e R s m args below meth c Qe D cA base ro M μ0 (pc + 3) ls (v0.toList ++ rest) μ' (chg M μ μ' u al) := by cases v0 <;> exact hq
    have hst : Stand p l e R s m args below meth c T' (locs ++ L) (chg M μ μ' u al).1 (chg M μ μ' u al).2 ∧ ule (chg M μ μ' u al) (mi_al M) := by
      unfold chg
      generalize isL M = b9
      cases b9
      · exact ⟨X', hu'⟩
      · dsimp only
        split
        · rename_i hmx
          refine ⟨stand_same Xs X' (by rw [e1, hT, ← h0]; exact hsz) ?_, hu⟩
          have q1 := hP.1
          have q2 := hp.1
          rw [e1, hT]; omega
        · exact ⟨X', hu'⟩
    obtain ⟨t2, a1, b1⟩ := hXX T'.heap (locs ++ L) rls ⟨by rw [e1]; exact hp, ⟨hRO.sm hsm, hSm.trans hsm⟩, k3, hL, hst.2⟩ T' rfl hst.1
    refine ⟨t2, st t2 ?_, b1⟩
    cases v0 <;> exact a1
  · obtain ⟨k1, k2, k3⟩ := vx_keep h0 e1 hS (fun _ _ h => h) (fun _ h => h) hLL hF
    subst hE
    have hR' : Rl D cA base ro M s μ0 ls μ' (uad u al) T'.heap (locs ++ L) rls := ⟨by rw [e1]; exact hp, ⟨hRO.sm hsm, hSm.trans hsm⟩, k3, hL, hu'⟩
    have hce' : T'.heap[q]? = some ce := by rw [e1]; exact hce
    have key : vx_W p l e R s m args below meth c T'.heap (locs ++ L) (uad u al).1 (uad u al).2 Qe (F0 m pc rls (rest.map (rV base ro))) q := by
      have hq' : thr M Q (XW p l e R s m args below meth c Qe D cA base ro M μ0) pc ls (uad u al) μ' := hq
      unfold thr at hq'
      split at hq'
      · rename_i hhd
        rw [hd_none hM] at hhd; cases hhd
      · rename_i hhd
        subst hQe
        unfold Tb at htb
        rw [hhd] at htb
        refine vx_out (fun x hx => (htb hq'.1 x hx).elim) hlk hce' hcv hcl (fun t9 ht9 _ => ⟨rfl, hq'.1, μ', hq'.2.2, by rw [ht9]; exact hR'.1, k3.F ht9, hR'.2.1.2⟩) k3.2.2 hq'.2.1.1 hq'.2.1.2
    obtain ⟨t2, a1, b1⟩ := key T' rfl X'
    exact ⟨t2, st.trans a1, b1⟩
/-- the world that a called method starts in -/
theorem Rl.wd (C : Ctx p R s m args c M D cA base) {ls : LV} {u : Nat × Nat} (hR : Rl D cA base ro M s μ0 ls μ u H locs rls) {U : State} (hU : U.heap = H) (hW : s.WarmedH U.vm) : Wd D cA base ro μ U := by
  obtain ⟨hx, hb, hml, hown, hts, hK, hbase, hn20, hRc, hRs, hRf, hRl⟩ := C
  obtain ⟨hP, ⟨hRO, hSm⟩, hS, hL, hu⟩ := hR
  subst hU
  exact ⟨hP, hK.moved hW.alike, (RO.warm hW hRO).kept hS.2.1⟩
theorem Rl.cell (C : Ctx p R s m args c M D cA base) {ls : LV} {u : Nat × Nat} (hR : Rl D cA base ro M s μ0 ls μ u H locs rls) {a ci : Nat} (hci : ci ∈ kds) (hs : mS μ a = (ci, cnf ci)) : ∃ cellB : Cell, H[rA base ro a]? = some cellB ∧ cellB.vm.isStatics = false ∧ s.vm.findClass (kcl ci).1 = some cellB.cls := by
  obtain ⟨hx, hb, hml, hown, hts, hK, hbase, hn20, hRc, hRs, hRf, hRl⟩ := C
  obtain ⟨hP, ⟨hRO, hSm⟩, hS, hL, hu⟩ := hR
  rcases Nat.lt_or_ge a 1000 with ha | ha
  · obtain ⟨g1, g2, g3, g4⟩ := hRO.1 a ha
    rw [hs] at g3 g4
    have hc0 : ci = 0 := by
      have := kds_lt hci
      dsimp only at g4
      omega
    subst hc0
    obtain ⟨⟨cell, z1, z2, z3, z4⟩, -⟩ := g3 rfl
    rw [rA_ro ha]
    exact ⟨cell, by rw [hS.2.1 _ (Array.getElem?_eq_some_iff.mp z1).1 z4]; exact z1, z2, z3⟩
  · obtain ⟨w1, w2, -⟩ := hP.2.2 a ha (by rw [hs]; have := kds_lt hci; dsimp only; omega)
    rw [cE_obj hci hs] at w2
    exact va_recv hK (one_P w2) (q0 := 0) (chkK ci hci).1 rfl
theorem rest_map {st : List Value} {n : Nat} : (st.map (rV base ro)) = (((st.take n).reverse).map (rV base ro)).reverse ++ (st.drop n).map (rV base ro) := by
  rw [List.map_reverse, List.reverse_reverse, ← List.map_append, List.take_append_drop]
theorem cat_map (st : List Value) : ((st.map (rV base ro)).map fun v => v.category) = st.map fun v => v.category := by
  rw [List.map_map]
  exact List.map_congr_left fun v _ => rV_cat v
theorem drop_ref {st : List Value} {n : Nat} {a : Nat} {t : List Value} (hn : 0 < n) (h : st.drop (n - 1) = .ref a :: t) : st.take n = st.take (n - 1) ++ [.ref a] ∧ st.drop n = t ∧ n ≤ st.length := by
  have h1 : st = st.take (n - 1) ++ (.ref a :: t) := by rw [← h, List.take_append_drop]
  have hl : n - 1 < st.length := by
    rcases Nat.lt_or_ge (n - 1) st.length with g | g
    · exact g
    · rw [List.drop_eq_nil_of_le g] at h; cases h
  have h2 : (st.take (n - 1)).length = n - 1 := by rw [List.length_take]; omega
  refine ⟨?_, ?_, by omega⟩
  · have : n = (n - 1) + 1 := by omega
    rw [this, List.take_add_one, List.getElem?_eq_getElem hl]
    simp only [Nat.add_sub_cancel, Option.toList_some]
    congr 2
    have := List.getElem_cons_drop (h := hl)
    rw [h] at this
    injection this
  · have e : st.drop n = (st.drop (n - 1)).drop 1 := by rw [List.drop_drop]; congr 1; omega
    rw [e, h]; rfl
end CallRows
end
section
/-! every kind of call -/
theorem npar_s {j n : Nat} (h : npar j = some n) : (parseMethodDescriptor (mi_y (minfo j)).desc).map (fun d => d.parameters.length) = some n := h
theorem npar_v {j n : Nat} (h : (npar j).map (· + 1) = some n) : (parseMethodDescriptor (mi_y (minfo j)).desc).map (fun d => d.parameters.length) = some (n - 1) ∧ 0 < n := by
  unfold npar at h
  cases hd : (parseMethodDescriptor (mi_y (minfo j)).desc) with
  | none => rw [hd] at h; cases h
  | some d => rw [hd] at h; simp at h; subst h; simp
section InvRows
variable {p : Program} {l : Launch} {e : Env} {R : Room} {s : State} {m : MethodId} {args : Array Value} {below : List Frame} {meth : Method} {c : Code} {H : Heap} {locs : List Loc} {Qe : State → Prop} {cells slots : Nat}
variable {M : MI} {D : va_G} {cA : Nat → ClassId} {base : Nat} {ro : Nat → Nat} {μ μ0 : Mu} {pc : Nat} {rls : Array Slot} {r : List Value}
/-- what all kinds share: the callee's contract at this depth, the room, the words -/
theorem room_ok {d : Nat} {Mj : MI} (hRf : d + 6 ≤ R.frames) (hRl : 35 * d + 235 ≤ R.locals) (hL : mi_L Mj ≤ 16) : (rmD d Mj).frames + 1 ≤ R.frames ∧ 8 + (mi_L Mj + 11) + (rmD d Mj).locals ≤ R.locals := by
  refine ⟨?_, ?_⟩
  · show d + 5 + 1 ≤ R.frames; omega
  · show 8 + (mi_L Mj + 11) + (35 * d + 200) ≤ R.locals; omega
theorem room_f {u al : Nat × Nat} (hRc : R.cells = (mi_al M).1) (hRs : R.slots = (mi_al M).2) (h : ule (uad u al) (mi_al M)) : u.1 + al.1 ≤ R.cells ∧ u.2 + al.2 ≤ R.slots := by
  rw [hRc, hRs]; exact h
theorem cat8 {st : List Value} {n : Nat} (h : ((st.drop n).map fun v => v.category).sum ≤ 8) (z : Nat) (hz : z = 0) : 2 * z + (((st.drop n).map (rV base ro)).map fun v => v.category).sum ≤ 8 := by
  rw [hz, cat_map]; omega
theorem nfw : nativeFrameWords "java/lang/System" "arraycopy" 5 ≤ 100 := by decide +kernel
theorem pg_copy0 (C : Ctx p R s m args c M D cA base) {a b kd t0 idx : Nat} {ty : FieldType} {sp dp n : Int32} (hP : Pic D cA base ro μ H) (hS : va_S (isO base) s.heap H locs) (ha : 1000 ≤ a) (hb9 : 1000 ≤ b) (hsa : (mS μ a).1 = kd) (hsb : (mS μ b).1 = kd) (hkd : kd < 90)
    (hce : ∀ (μ' : Mu) (x : Nat), (mS μ' x).1 = kd → cE cA base ro μ' x = .inl (cA kd, (mS μ' x).2, .inl (mI μ' x))) (ht : (tysL cA)[t0]? = some (cA kd, ty)) (hprim : refKind ty = false) (hfit : ∀ i, fits ty (.int (mI μ b i)) = true)
    (hby : kd = 21 → ∀ i, (mI μ b i).toInt8.toInt32 = mI μ b i ∧ (mI μ a i).toInt8.toInt32 = mI μ a i)
    (h1 : ¬ sp < 0) (h2 : ¬ dp < 0) (h3 : ¬ n < 0) (h4 : sp.toNatClampNeg + n.toNatClampNeg ≤ (mS μ b).2) (h5 : dp.toNatClampNeg + n.toNatClampNeg ≤ (mS μ a).2)
    (hml : c.maxLocals = rls.size) (hlink : (Cond.methodLink (cnm.getD (mi_n M) "") idx arraycopyName).before args s = true) (hnat : (Cond.native arraycopyName).before args s = true) (hstat : (Cond.static arraycopyName).before args s = true) (hini : (Cond.initialized "java/lang/System").before args s = true)
    (hlocals : (r.map fun v => v.category).sum ≤ 8) (hdg : decode (mi_c M) pc = .ok (.invokestatic idx, 3))
    (kk : ∀ (H1 : Heap) (locs1 : List Loc), Pic D cA base ro (uA μ a (va_cpy (mI μ b) (mI μ a) sp.toNatClampNeg dp.toNatClampNeg n.toNatClampNeg)) H1 → va_S (isO base) s.heap H1 locs1 → W p l e R s m args below meth c H1 locs1 cells slots Qe (F0 m (pc + 3) rls r)) : W p l e R s m args below meth c H locs cells slots Qe (F0 m pc rls (.int n :: .int dp :: .ref (rA base ro a) :: .int sp :: .ref (rA base ro b) :: r)) := by
  obtain ⟨hexec, hb, hml0, hown, hts, hK, hbase, hn20, hRc, hRs, hRf, hRl⟩ := C
  intro T hT X
  obtain ⟨w1, w2, -⟩ := hP.2.2 a ha (by rw [hsa]; exact hkd)
  obtain ⟨v1, v2, -⟩ := hP.2.2 b hb9 (by rw [hsb]; exact hkd)
  rw [hce μ a hsa] at w2
  rw [hce μ b hsb] at v2
  have hc1 : H[rA base ro a]? = some (vp_cell (cA kd) ((mS μ a).2, .inl (mI μ a))) := w2
  have hc0 : H[rA base ro b]? = some (vp_cell (cA kd) ((mS μ b).2, .inl (mI μ b))) := v2
  obtain ⟨-, k0, hk0, cm0, hkk0⟩ := (hK.2 t0 _ ht).1 (mS μ b).2 (fun j => .int (mI μ b j))
  obtain ⟨-, k1, hk1, cm1, hkk1⟩ := (hK.2 t0 _ ht).1 (mS μ a).2 (fun j => .int (mI μ a j))
  obtain ⟨vm', X', step⟩ := X.arraycopy hexec hown hlink hnat hstat hini (src := rA base ro b) (dst := rA base ro a) (cs := vp_cell (cA kd) ((mS μ b).2, .inl (mI μ b))) (cd := vp_cell (cA kd) ((mS μ a).2, .inl (mI μ a))) (srcPos := sp) (destPos := dp) (n := n) (by rw [hT]; exact hc0) (by rw [hT]; exact hc1)
    (fun _ h => by cases h) (fun _ h => by cases h) (fun h => by cases h) (fun h => by cases h) hk0 hk1 hkk0 hkk1 (by simp [hprim]) h1 h2 h3
    (by rw [nn_int sp h1, nn_int n h3]; show ¬ _ > ((arrV _ _ (fun j => .int (mI μ b j))).slots.size : Int); rw [arrV_size]; omega)
    (by rw [nn_int dp h2, nn_int n h3]; show ¬ _ > ((arrV _ _ (fun j => .int (mI μ a j))).slots.size : Int); rw [arrV_size]; omega)
    (fun vm₁ _ i hi => by
      have e : (vp_cell (cA kd) ((mS μ b).2, .inl (mI μ b))).slots.getD (sp.toNatClampNeg + i) .null = .int (mI μ b (sp.toNatClampNeg + i)) := by
        show (arrV _ _ (fun j => .int (mI μ b j))).slots.getD _ _ = _
        rw [Array.getD_eq_getD_getElem?, arrV_read _ _ (by omega)]
        rfl
      refine ⟨?_, ?_⟩
      · rw [e]
        exact hfit _
      · rw [e]
        exact trivial)
    (g := F0 m pc rls (.int n :: .int dp :: .ref (rA base ro a) :: .int sp :: .ref (rA base ro b) :: r)) rfl (by rw [hml]) (rest := r) rfl (by rw [hb]; exact hdg) (by omega) (by have := nfw; show 2 * 0 + _ + (nativeFrameWords "java/lang/System" "arraycopy" 5 + 11) ≤ _; omega)
  have e1 : copied (vp_cell (cA kd) ((mS μ b).2, .inl (mI μ b))) (vp_cell (cA kd) ((mS μ a).2, .inl (mI μ a))) sp dp n = vp_cell (cA kd) ((mS μ a).2, .inl (va_cpy (mI μ b) (mI μ a) sp.toNatClampNeg dp.toNatClampNeg n.toNatClampNeg)) := va_copied (fun z => .int z) (cA kd) (cA kd) (mI μ b) (mI μ a) h4
  rw [e1] at X' step
  have hl : rA base ro a < H.size := (Array.getElem?_eq_some_iff.mp hc1).1
  have hheap : ((T.setVm vm').setCell (rA base ro a) (vp_cell (cA kd) ((mS μ a).2, .inl (va_cpy (mI μ b) (mI μ a) sp.toNatClampNeg dp.toNatClampNeg n.toNatClampNeg)))).heap = H.setIfInBounds (rA base ro a) (vp_cell (cA kd) ((mS μ a).2, .inl (va_cpy (mI μ b) (mI μ a) sp.toNatClampNeg dp.toNatClampNeg n.toNatClampNeg))) := by rw [← hT]; rfl
  have oq : ∀ q : Nat, q ≠ rA base ro a → (H.setIfInBounds (rA base ro a) (vp_cell (cA kd) ((mS μ a).2, .inl (va_cpy (mI μ b) (mI μ a) sp.toNatClampNeg dp.toNatClampNeg n.toNatClampNeg))))[q]? = H[q]? := fun q hq => by simp [Array.getElem?_setIfInBounds, Ne.symm hq]
  have eI : mI (uA μ a (va_cpy (mI μ b) (mI μ a) sp.toNatClampNeg dp.toNatClampNeg n.toNatClampNeg)) a = va_cpy (mI μ b) (mI μ a) sp.toNatClampNeg dp.toNatClampNeg n.toNatClampNeg := by funext j; simp [mI, uA]
  obtain ⟨t, a1, b1⟩ := kk _ _ (hP.upd (H1 := H.setIfInBounds (rA base ro a) (vp_cell (cA kd) ((mS μ a).2, .inl (va_cpy (mI μ b) (mI μ a) sp.toNatClampNeg dp.toNatClampNeg n.toNatClampNeg)))) ha (by simp) oq rfl rfl (fun x hx => by funext j; simp [mI, uA, hx]) (fun _ _ => rfl) (fun _ _ => rfl) (by
      rw [hce (uA μ a _) a hsa, eI]
      show (H.setIfInBounds _ _)[_]? = some _
      simp [Array.getElem?_setIfInBounds, hl]
      rfl) (fun z i => by
      rw [eI]
      have h9 := hby (by rw [← hsa]; exact z)
      unfold va_cpy
      split
      · exact (h9 _).1
      · exact (h9 _).2)) ⟨by simp; exact hS.1, fun q g1 g2 => by
      rw [oq q (fun e => g2 (by rw [e]; exact in_base ha))]
      exact hS.2.1 q g1 g2, fun q hq => by
      rcases List.mem_append.mp hq with h | h
      · exact hS.2.2 q h
      · obtain ⟨z, -, hz⟩ := List.mem_map.mp h
        rw [← hz]
        exact in_base ha⟩ _ hheap X'
  exact ⟨t, step t a1, b1⟩
theorem pg_copyR (C : Ctx p R s m args c M D cA base) {a b kd t0 idx : Nat} {ty : FieldType} {sp dp n : Int32} (hP : Pic D cA base ro μ H) (hS : va_S (isO base) s.heap H locs) (ha : 1000 ≤ a) (hb9 : b < 1000) (hsa : (mS μ a).1 = kd) (hkd : kd < 90)
    (hT0 : va_T ty (ro b) (mS μ b).2 (fun j => .int (mI μ b j)) (isO base) s s.heap)
    (hce : ∀ (μ' : Mu) (x : Nat), (mS μ' x).1 = kd → cE cA base ro μ' x = .inl (cA kd, (mS μ' x).2, .inl (mI μ' x))) (ht : (tysL cA)[t0]? = some (cA kd, ty)) (hprim : refKind ty = false) (hfit : ∀ i, fits ty (.int (mI μ b i)) = true)
    (hby : kd = 21 → ∀ i, (mI μ b i).toInt8.toInt32 = mI μ b i ∧ (mI μ a i).toInt8.toInt32 = mI μ a i)
    (h1 : ¬ sp < 0) (h2 : ¬ dp < 0) (h3 : ¬ n < 0) (h4 : sp.toNatClampNeg + n.toNatClampNeg ≤ (mS μ b).2) (h5 : dp.toNatClampNeg + n.toNatClampNeg ≤ (mS μ a).2)
    (hml : c.maxLocals = rls.size) (hlink : (Cond.methodLink (cnm.getD (mi_n M) "") idx arraycopyName).before args s = true) (hnat : (Cond.native arraycopyName).before args s = true) (hstat : (Cond.static arraycopyName).before args s = true) (hini : (Cond.initialized "java/lang/System").before args s = true)
    (hlocals : (r.map fun v => v.category).sum ≤ 8) (hdg : decode (mi_c M) pc = .ok (.invokestatic idx, 3))
    (kk : ∀ (H1 : Heap) (locs1 : List Loc), Pic D cA base ro (uA μ a (va_cpy (mI μ b) (mI μ a) sp.toNatClampNeg dp.toNatClampNeg n.toNatClampNeg)) H1 → va_S (isO base) s.heap H1 locs1 → W p l e R s m args below meth c H1 locs1 cells slots Qe (F0 m (pc + 3) rls r)) : W p l e R s m args below meth c H locs cells slots Qe (F0 m pc rls (.int n :: .int dp :: .ref (rA base ro a) :: .int sp :: .ref (rA base ro b) :: r)) := by
  obtain ⟨hexec, hb, hml0, hown, hts, hK, hbase, hn20, hRc, hRs, hRf, hRl⟩ := C
  intro T hT X
  obtain ⟨w1, w2, -⟩ := hP.2.2 a ha (by rw [hsa]; exact hkd)
  rw [hce μ a hsa] at w2
  obtain ⟨scr, z1, z2, z3, z4, z5, z6, z7⟩ := hT0
  have hc1 : H[rA base ro a]? = some (vp_cell (cA kd) ((mS μ a).2, .inl (mI μ a))) := w2
  have hc0 : H[rA base ro b]? = some scr := by
    rw [rA_ro hb9, hS.2.1 _ (Array.getElem?_eq_some_iff.mp z1).1 z7]; exact z1
  obtain ⟨hs6, k0, hk0, cm0, hkk0⟩ := z2
  obtain ⟨-, k1, hk1, cm1, hkk1⟩ := (hK.2 t0 _ ht).1 (mS μ a).2 (fun j => .int (mI μ a j))
  obtain ⟨vm', X', step⟩ := X.arraycopy hexec hown hlink hnat hstat hini (src := rA base ro b) (dst := rA base ro a) (cs := scr) (cd := vp_cell (cA kd) ((mS μ a).2, .inl (mI μ a))) (srcPos := sp) (destPos := dp) (n := n) (by rw [hT]; exact hc0) (by rw [hT]; exact hc1)
    hs6 (fun _ h => by cases h) z3 (fun h => by cases h) hk0 hk1 hkk0 hkk1 (by simp [hprim]) h1 h2 h3
    (by rw [nn_int sp h1, nn_int n h3]; omega)
    (by rw [nn_int dp h2, nn_int n h3]; show ¬ _ > ((arrV _ _ (fun j => .int (mI μ a j))).slots.size : Int); rw [arrV_size]; omega)
    (fun vm₁ _ i hi => by
      have e : scr.slots.getD (sp.toNatClampNeg + i) .null = .int (mI μ b (sp.toNatClampNeg + i)) := by
        rw [Array.getD_eq_getD_getElem?, z6 _ (by omega)]
        rfl
      refine ⟨?_, ?_⟩
      · rw [e]
        exact hfit _
      · rw [e]
        exact trivial)
    (g := F0 m pc rls (.int n :: .int dp :: .ref (rA base ro a) :: .int sp :: .ref (rA base ro b) :: r)) rfl (by rw [hml]) (rest := r) rfl (by rw [hb]; exact hdg) (by omega) (by have := nfw; show 2 * 0 + _ + (nativeFrameWords "java/lang/System" "arraycopy" 5 + 11) ≤ _; omega)
  have e1 : copied scr (vp_cell (cA kd) ((mS μ a).2, .inl (mI μ a))) sp dp n = vp_cell (cA kd) ((mS μ a).2, .inl (va_cpy (mI μ b) (mI μ a) sp.toNatClampNeg dp.toNatClampNeg n.toNatClampNeg)) := va_copiedX (fun z => .int z) scr (cA kd) (mI μ b) (mI μ a) z6 h4
  rw [e1] at X' step
  have hl : rA base ro a < H.size := (Array.getElem?_eq_some_iff.mp hc1).1
  have hheap : ((T.setVm vm').setCell (rA base ro a) (vp_cell (cA kd) ((mS μ a).2, .inl (va_cpy (mI μ b) (mI μ a) sp.toNatClampNeg dp.toNatClampNeg n.toNatClampNeg)))).heap = H.setIfInBounds (rA base ro a) (vp_cell (cA kd) ((mS μ a).2, .inl (va_cpy (mI μ b) (mI μ a) sp.toNatClampNeg dp.toNatClampNeg n.toNatClampNeg))) := by rw [← hT]; rfl
  have oq : ∀ q : Nat, q ≠ rA base ro a → (H.setIfInBounds (rA base ro a) (vp_cell (cA kd) ((mS μ a).2, .inl (va_cpy (mI μ b) (mI μ a) sp.toNatClampNeg dp.toNatClampNeg n.toNatClampNeg))))[q]? = H[q]? := fun q hq => by simp [Array.getElem?_setIfInBounds, Ne.symm hq]
  have eI : mI (uA μ a (va_cpy (mI μ b) (mI μ a) sp.toNatClampNeg dp.toNatClampNeg n.toNatClampNeg)) a = va_cpy (mI μ b) (mI μ a) sp.toNatClampNeg dp.toNatClampNeg n.toNatClampNeg := by funext j; simp [mI, uA]
  obtain ⟨t, a1, b1⟩ := kk _ _ (hP.upd (H1 := H.setIfInBounds (rA base ro a) (vp_cell (cA kd) ((mS μ a).2, .inl (va_cpy (mI μ b) (mI μ a) sp.toNatClampNeg dp.toNatClampNeg n.toNatClampNeg)))) ha (by simp) oq rfl rfl (fun x hx => by funext j; simp [mI, uA, hx]) (fun _ _ => rfl) (fun _ _ => rfl) (by
      rw [hce (uA μ a _) a hsa, eI]
      show (H.setIfInBounds _ _)[_]? = some _
      simp [Array.getElem?_setIfInBounds, hl]
      rfl) (fun z i => by
      rw [eI]
      have h9 := hby (by rw [← hsa]; exact z)
      unfold va_cpy
      split
      · exact (h9 _).1
      · exact (h9 _).2)) ⟨by simp; exact hS.1, fun q g1 g2 => by
      rw [oq q (fun e => g2 (by rw [e]; exact in_base ha))]
      exact hS.2.1 q g1 g2, fun q hq => by
      rcases List.mem_append.mp hq with h | h
      · exact hS.2.2 q h
      · obtain ⟨z, -, hz⟩ := List.mem_map.mp h
        rw [← hz]
        exact in_base ha⟩ _ hheap X'
  exact ⟨t, step t a1, b1⟩
theorem pg_clone (C : Ctx p R s m args c M D cA base) {a idx : Nat} (hP : Pic D cA base ro μ H) (hRO : RO base ro μ s s.heap) (hS : va_S (isO base) s.heap H locs) (ha : 1000 ≤ a) (hs : (mS μ a).1 = 21) (hml : c.maxLocals = rls.size)
    (hlink : (Cond.methodLink (cnm.getD (mi_n M) "") idx clnB).before args s = true) (hsame : (Cond.sameMethod "[B" "java/lang/Object" "clone" "()Ljava/lang/Object;").before args s = true)
    (hnat : (Cond.native cln).before args s = true) (hinst : (Cond.instanceMethod cln).before args s = true) (hsel : (Cond.selects "[B" clnB cln).before args s = true)
    (hcells : cells + 1 ≤ R.cells) (hslots : slots + (mS μ a).2 ≤ R.slots) (hlocals : (r.map fun v => v.category).sum ≤ 8) (hdg : decode (mi_c M) pc = .ok (.invokevirtual idx, 3))
    (kk : ∀ H1 : Heap, Pic D cA base ro (uA (uN μ 21 (mS μ a).2) (mX μ) (mI μ a)) H1 → va_S (isO base) s.heap H1 locs → W p l e R s m args below meth c H1 locs (cells + 1) (slots + (mS μ a).2) Qe (F0 m (pc + 3) rls (.ref (rA base ro (mX μ)) :: r))) : W p l e R s m args below meth c H locs cells slots Qe (F0 m pc rls (.ref (rA base ro a) :: r)) := by
  obtain ⟨hexec, hb, hml0, hown, hts, hK, hbase, hn20, hRc, hRs, hRf, hRl⟩ := C
  obtain ⟨w1, w2, w3⟩ := hP.2.2 a ha (by rw [hs]; decide)
  rw [cE_21 hs] at w2
  have hcell : H[rA base ro a]? = some (vp_cell (cA 21) ((mS μ a).2, .inl (mI μ a))) := w2
  have hnm : s.vm.findClass "[B" = some (cA 21) := va_nm_byte (hK.2 1 _ rfl).2
  have hsz : (vp_cell (cA 21) ((mS μ a).2, .inl (mI μ a))).slots.size = (mS μ a).2 := arrV_size _ _ _
  obtain ⟨c0, t0', f1, f2, f3⟩ := Cond.castable_spec (va_Nw.use (A := args) rfl hRO.2.2.2.2.2.2.2.2.2)
  cases hnm.symm.trans f1
  intro T hT X
  have hcellT : T.heap[rA base ro a]? = some (vp_cell (cA 21) ((mS μ a).2, .inl (mI μ a))) := by rw [hT]; exact hcell
  obtain ⟨-, kA, hkA, comp, hkind⟩ := State.isArrayOf_alike X.warmed.alike ((hK.2 1 _ rfl).1 0 (fun _ => .null))
  obtain ⟨-, kS, hkS, compS, hkindS⟩ := (hK.2 1 _ rfl).1 0 (fun _ => .null)
  have hcl0 : (vp_cell (cA 21) ((mS μ a).2, .inl (mI μ a))).cls = cA 21 := rfl
  have hvm0 : (vp_cell (cA 21) ((mS μ a).2, .inl (mI μ a))).vm = .none := rfl
  obtain ⟨vm', X', st⟩ := X.cloneArray hexec hown hlink hsame hnat hinst hsel (a := rA base ro a) (cell := vp_cell (cA 21) ((mS μ a).2, .inl (mI μ a))) hcellT (fun k h => by rw [hvm0] at h; cases h) (by rw [hvm0]; exact fun h => by cases h) (by rw [hcl0]; exact hnm) f2 (by rw [hcl0]; exact f3)
    (fun i v hv => by
      rw [hcl0]
      have hk' : T.vm.classes[cA 21]? = some kA := hkA
      have hfit : fits .byte v = true := by
        have hi : i < (mS μ a).2 := by
          have := (Array.getElem?_eq_some_iff.mp hv).1
          rw [hsz] at this; exact this
        have e : (vp_cell (cA 21) ((mS μ a).2, .inl (mI μ a))).slots[i]? = some (.int (mI μ a i)) := arrV_read _ _ hi
        rw [e] at hv
        cases hv
        exact b8_fit (w3 hs i)
      simpa [State.fitsSlot, State.slotType?, hk', hkind] using hfit)
    (g := F0 m pc rls (.ref (rA base ro a) :: r)) rfl (by rw [hml]) rfl (by rw [hb]; exact hdg) (by omega) (by show 2 * 0 + _ + 14 ≤ _; omega) hcells (by rw [hsz]; exact hslots) (hloader := by rw [hcl0]; exact Vm.clonesLoader_of_array hkS hkindS)
  rw [hsz] at X'
  have hsa : H.size = rA base ro (mX μ) := by rw [rA_big hP.2.1]; have := hP.1; have := hP.2.1; omega
  generalize hH1 : H.push (vp_cell (cA 21) ((mS μ a).2, .inl (mI μ a))) = H1
  have z1 : H1.size = H.size + 1 := by rw [← hH1, Array.size_push]
  have e1 : H1[H.size]? = some (vp_cell (cA 21) ((mS μ a).2, .inl (mI μ a))) := by rw [← hH1, Array.getElem?_push_size]
  have o1 : ∀ q : Nat, q < H.size → H1[q]? = H[q]? := fun q hq => by rw [← hH1, Array.getElem?_push, if_neg (Nat.ne_of_lt hq)]
  obtain ⟨t, b1, b2⟩ := kk H1 (hP.fill z1 o1 (w3 hs) e1) ⟨Nat.le_trans hS.1 (by omega), fun y h1 h2 => (o1 y (Nat.lt_of_lt_of_le h1 hS.1)).trans (hS.2.1 y h1 h2), hS.2.2⟩
    ((T.setVm vm').pushCell (vp_cell (cA 21) ((mS μ a).2, .inl (mI μ a)))) (by rw [← hH1, ← hT]; rfl) X'
  refine ⟨t, st t ?_, b2⟩
  rw [hT, hsa]
  exact b1
set_option maxHeartbeats 4000000 in
theorem sim_inv {d : Nat} {Q : Po} (hctr : ∀ j, j < 194 → Ctr l d j) (C : Ctx p R s m args c M D cA base) (hM : M ∈ mtab) (htb : Tb M c) (hlk : meth.locks = false) (hRf : d + 6 ≤ R.frames) (hRl : 35 * d + 235 ≤ R.locals)
    (hQe : Qe = vx_MQ below (QcO D cA base ro Q μ0) (XCO D cA base ro Q μ0 (mi_th M)) args s (mi_al M).1 (mi_al M).2 (isO base))
    (idx kind pc : Nat) (ls : LV) (st : List Value) (μ : Mu) (u : Nat × Nat) (H : Heap) (locs : List Loc) (rls : Array Slot) (hR : Rl D cA base ro M s μ0 ls μ u H locs rls) (hdg : decode (mi_c M) pc = .ok (ivk kind idx, 3))
    (h : inv (Ev d) M Q (XW p l e R s m args below meth c Qe D cA base ro M μ0) idx kind pc ls st μ u) : W p l e R s m args below meth c H locs u.1 u.2 Qe (F0 m pc rls (st.map (rV base ro))) := by
  have C0 := C
  obtain ⟨hx, hb, hml, hown, hts, hK, hbase, hn20, hRc, hRs, -, -⟩ := C0
  have hR0 := hR
  obtain ⟨hP, ⟨hRO, hSm⟩, hS, hL, hu⟩ := hR0
  unfold inv at h
  split at h
  · rename_i k j hm
    have hmem := tab_mem hm
    have hw := chkC _ hn20 _ hmem
    have hok : cok k j := @of_decide_eq_true _ (cokd k j) (chkC2 _ hn20 _ hmem)
    dsimp only at hw
    have S : CallFix p m c (mi_c M) (mi_L M) s args ALLG (cnm.getD (mi_n M) "") := ⟨hx, hb, hml, hown, hts⟩
    -- a static call
    have kS : j < 194 → mi_hd (minfo j) = none → npar j = some (mi_na (minfo j)) → (∀ w ∈ [Cond.methodLink (cnm.getD (mi_n M) "") idx (mi_y (minfo j)), .static (mi_y (minfo j)), .initialized (mi_y (minfo j)).cls], w ∈ ALLG) → decode (mi_c M) pc = .ok (.invokestatic idx, 3) →
        cal (Ev d) M Q (XW p l e R s m args below meth c Qe D cA base ro M μ0) j pc ls st μ u → W p l e R s m args below meth c H locs u.1 u.2 Qe (F0 m pc rls (st.map (rV base ro))) := by
      intro hj hhd hnp hww hdg h
      obtain ⟨h1, h2, h3, h4⟩ := h
      obtain ⟨m1, m2, m3, m4, m5, m6⟩ := chkM _ (minfo_mem (j := j) (by omega))
      refine run_cal C hM htb hlk hQe hR h3 (vx_runS (n := mi_na (minfo j)) (As := ((st.take (mi_na (minfo j))).reverse).map (rV base ro)) S (hctr j hj D cA base ro _ μ _) (va_cwS (mi_na (minfo j)) hts (gI (ws_app hj hww)) (ws_none hhd) rfl rfl ⟨m2.1, m2.2, npar_s hnp⟩ (room_ok hRf hRl m6)) ⟨PcO.blind, fun U hU hW => ⟨rfl, hR.wd C hU hW, h4⟩⟩ rfl ?_ hL.1 rest_map (cat8 h1 _ rfl) hdg (room_f hRc hRs h3))
      rw [List.length_map, List.length_reverse, List.length_take]; omega
    have kV : j < 194 → mi_hd (minfo j) = none → (npar j).map (· + 1) = some (mi_na (minfo j)) → rkd j ∈ kds → (kcl (rkd j)).1 = (mi_y (minfo j)).cls → (∀ w ∈ [Cond.methodLink (cnm.getD (mi_n M) "") idx (mi_y (minfo j)), .instanceMethod (mi_y (minfo j)), .selects (mi_y (minfo j)).cls (mi_y (minfo j)) (mi_y (minfo j)), .initialized (mi_y (minfo j)).cls], w ∈ ALLG) → decode (mi_c M) pc = .ok (.invokevirtual idx, 3) →
        rcv j st μ → cal (Ev d) M Q (XW p l e R s m args below meth c Qe D cA base ro M μ0) j pc ls st μ u → W p l e R s m args below meth c H locs u.1 u.2 Qe (F0 m pc rls (st.map (rV base ro))) := by
      intro hj hhd hnp hci hcl hww hdg hrc h
      obtain ⟨h1, h2, h3, h4⟩ := h
      obtain ⟨n1, n2⟩ := npar_v hnp
      obtain ⟨m1, m2, m3, m4, m5, m6⟩ := chkM _ (minfo_mem (j := j) (by omega))
      unfold rcv at hrc
      split at hrc
      · rename_i a t hst
        obtain ⟨d1, d2, d3⟩ := drop_ref n2 hst
        have hcell := hR.cell C hci hrc
        rw [hcl] at hcell
        have h4' := h4
        rw [d1, List.reverse_append] at h4'
        refine run_cal C hM htb hlk hQe hR h3 (vx_runV (n := mi_na (minfo j) - 1) (C := (mi_y (minfo j)).cls) (b := rA base ro a) (As := ((st.take (mi_na (minfo j) - 1)).reverse).map (rV base ro)) S (hctr j hj D cA base ro ([.ref a].reverse ++ (st.take (mi_na (minfo j) - 1)).reverse) μ _) (cwV (mi_na (minfo j) - 1) hts (gI (ws_app hj hww)) (ws_none hhd) rfl rfl ⟨rfl, m2.1, m2.2, n1⟩ (room_ok hRf hRl m6)) ⟨PcO.blind, hcell, fun U hU hW => ⟨rfl, hR.wd C hU hW, h4'⟩⟩ rfl ?_ hL.1 ?_ (cat8 h1 _ rfl) hdg (room_f hRc hRs h3))
        · rw [List.length_map, List.length_reverse, List.length_take]; omega
        · show st.map (rV base ro) = _
          rw [rest_map (base := base) (ro := ro) (st := st) (n := mi_na (minfo j)), d1, d2]
          simp [rV]
      · exact hrc.elim
    have kI : j < 194 → mi_hd (minfo j) = none → (npar j).map (· + 1) = some (mi_na (minfo j)) → (mi_y (minfo j)).name = "<init>" → mi_rt (minfo j) = none → decode (mi_c M) pc = .ok (.invokespecial idx, 3) → rcq j st → (cal (Ev d) M Q (XW p l e R s m args below meth c Qe D cA base ro M μ0) j pc ls st μ u) →
        (∀ (a : Nat) (t : List Value), st.drop (mi_na (minfo j) - 1) = .ref a :: t → (CallB R s args (cnm.getD (mi_n M) "") idx (mi_y (minfo j)) (mi_c (minfo j)) (mi_L (minfo j)) none (ws (minfo j)) (rmD d (minfo j)) (mi_al (minfo j)).1 (mi_al (minfo j)).2 (mi_na (minfo j) - 1) ∧ (mi_y (minfo j)).name = "<init>" ∧ (Cond.instanceMethod (mi_y (minfo j))).before args s = true) ∨
          (va_CN R s args (cnm.getD (mi_n M) "") idx (mi_y (minfo j)) "LockstepRoom" (mi_c (minfo j)) (mi_L (minfo j)) none (ws (minfo j)) (rmD d (minfo j)) (mi_al (minfo j)).1 (mi_al (minfo j)).2 (mi_na (minfo j) - 1) ∧ (mi_y (minfo j)).name = "<init>" ∧ (Cond.instanceMethod (mi_y (minfo j))).before args s = true)) →
        W p l e R s m args below meth c H locs u.1 u.2 Qe (F0 m pc rls (st.map (rV base ro))) := by
      intro hj hhd hnp hin hrt hdg hrc h hcw
      obtain ⟨h1, h2, h3, h4⟩ := h
      obtain ⟨n1, n2⟩ := npar_v hnp
      unfold rcq at hrc
      split at hrc
      · rename_i a t hst
        obtain ⟨d1, d2, d3⟩ := drop_ref n2 hst
        have h4' := h4
        rw [d1, List.reverse_append] at h4'
        have hlen : (((st.take (mi_na (minfo j) - 1)).reverse).map (rV base ro)).length = mi_na (minfo j) - 1 := by
          rw [List.length_map, List.length_reverse, List.length_take]; omega
        have hstk : st.map (rV base ro) = (((st.take (mi_na (minfo j) - 1)).reverse).map (rV base ro)).reverse ++ .ref (rA base ro a) :: (st.drop (mi_na (minfo j))).map (rV base ro) := by
          rw [rest_map (base := base) (ro := ro) (st := st) (n := mi_na (minfo j)), d1, d2]
          simp [rV]
        have hp9 : PreS s H (PcO D cA base ro d j ([.ref a].reverse ++ (st.take (mi_na (minfo j) - 1)).reverse) μ (kC (fun s2 μ2 => XW p l e R s m args below meth c Qe D cA base ro M μ0 (pc + 3) ls s2 μ2 (uad u (mi_al (minfo j)))) (st.drop (mi_na (minfo j))) (thr M Q (XW p l e R s m args below meth c Qe D cA base ro M μ0) pc ls (uad u (mi_al (minfo j)))))) (.ref (rA base ro a) :: ((st.take (mi_na (minfo j) - 1)).reverse).map (rV base ro)) :=
          ⟨PcO.blind, fun U hU hW => ⟨rfl, hR.wd C hU hW, h4'⟩⟩
        rcases hcw a t hst with hcw | hcw
        · exact run_cal C hM htb hlk hQe hR h3 (vx_runI S (hctr j hj D cA base ro ([.ref a].reverse ++ (st.take (mi_na (minfo j) - 1)).reverse) μ _) hcw hp9 rfl hlen hL.1 hstk (cat8 h1 _ rfl) hdg (room_f hRc hRs h3))
        · exact run_cal C hM htb hlk hQe hR h3 (vx_runIN S (hctr j hj D cA base ro ([.ref a].reverse ++ (st.take (mi_na (minfo j) - 1)).reverse) μ _) hcw hp9 rfl hlen hL.1 hstk (cat8 h1 _ rfl) hdg (room_f hRc hRs h3))
      · exact hrc.elim
    split at h
    · -- Object.<init>
      obtain ⟨a, r, rfl, h1, h2⟩ := pA_inv h
      exact W.objInit hx hb hown (hts _ (hw _ (by simp [cwd]))) (hts _ (hw _ (by simp [cwd]))) (hts _ cwO) rfl (by rw [hml]; exact hL.1) rfl hdg (by omega) (by show 2 * 0 + _ + 12 ≤ _; rw [cat_map]; omega) (h2 H locs rls hR)
    · -- arraycopy
      obtain ⟨n, r, rfl, g0⟩ := pI_inv h
      obtain ⟨dp, r, rfl, g1⟩ := pI_inv g0
      obtain ⟨a, r, rfl, g2⟩ := pA_inv g1
      obtain ⟨sp, r, rfl, g3⟩ := pI_inv g2
      obtain ⟨b, r, rfl, h1, h2, h3, h4, h5, h6, h7, h8, h9, h10⟩ := pA_inv g3
      have hml9 : c.maxLocals = rls.size := by rw [hml]; exact hL.1.symm
      have hfin : ∀ (H1 : Heap) (locs1 : List Loc), Pic D cA base ro (uA μ a (va_cpy (mI μ b) (mI μ a) sp.toNatClampNeg dp.toNatClampNeg n.toNatClampNeg)) H1 → va_S (isO base) s.heap H1 locs1 → W p l e R s m args below meth c H1 locs1 u.1 u.2 Qe (F0 m (pc + 3) rls (r.map (rV base ro))) :=
        fun H1 locs1 g1 g2 => h10 H1 locs1 rls ⟨g1, ⟨hRO.sm (Sm.rfl'.oA h1), hSm.oA h1⟩, g2, hL, hu⟩
      have h4' : 1000 ≤ b ∨ b < 1000 ∧ ∀ i, (mI μ b i).toInt8.toInt32 = mI μ b i := by
        generalize isS M = b9 at h4
        cases b9
        · exact Or.inl h4
        · rcases Nat.lt_or_ge b 1000 with q | q
          · exact Or.inr ⟨q, h4⟩
          · exact Or.inl q
      rcases h4' with h4 | ⟨hb1, hbyt⟩
      rotate_left
      · obtain ⟨g1, g2, -, -⟩ := hRO.1 b hb1
        rcases h3 with ⟨h3a, h3b⟩ | ⟨h3a, h3b⟩
        · exact pg_copyR (ty := .int) (t0 := 0) C hP hS h1 hb1 h3a (by decide) (g1 h3b) (fun μ' x h => cE_20 h) rfl rfl (fun _ => rfl) (fun z => by cases z) h5 h6 h7 h8 h9 hml9 (hts _ (hw _ (by simp [cwd]))) (hts _ (hw _ (by simp [cwd]))) (hts _ (hw _ (by simp [cwd]))) (hts _ (hw _ (by simp [cwd]))) (by rw [cat_map]; exact h2) hdg hfin
        · have hba := (hP.2.2 a h1 (by rw [h3a]; decide)).2.2 h3a
          exact pg_copyR (ty := .byte) (t0 := 1) C hP hS h1 hb1 h3a (by decide) (g2 h3b) (fun μ' x h => cE_21 h) rfl rfl (fun i => b8_fit (hbyt i)) (fun _ i => ⟨hbyt i, hba i⟩) h5 h6 h7 h8 h9 hml9 (hts _ (hw _ (by simp [cwd]))) (hts _ (hw _ (by simp [cwd]))) (hts _ (hw _ (by simp [cwd]))) (hts _ (hw _ (by simp [cwd]))) (by rw [cat_map]; exact h2) hdg hfin
      rcases h3 with ⟨h3a, h3b⟩ | ⟨h3a, h3b⟩
      · exact pg_copy0 (ty := .int) (t0 := 0) C hP hS h1 h4 h3a h3b (by decide) (fun μ' x h => cE_20 h) rfl rfl (fun _ => rfl) (fun z => by cases z) h5 h6 h7 h8 h9 hml9 (hts _ (hw _ (by simp [cwd]))) (hts _ (hw _ (by simp [cwd]))) (hts _ (hw _ (by simp [cwd]))) (hts _ (hw _ (by simp [cwd]))) (by rw [cat_map]; exact h2) hdg hfin
      · have hbb := (hP.2.2 b h4 (by rw [h3b]; decide)).2.2 h3b
        have hba := (hP.2.2 a h1 (by rw [h3a]; decide)).2.2 h3a
        exact pg_copy0 (ty := .byte) (t0 := 1) C hP hS h1 h4 h3a h3b (by decide) (fun μ' x h => cE_21 h) rfl rfl (fun i => b8_fit (hbb i)) (fun _ i => ⟨hbb i, hba i⟩) h5 h6 h7 h8 h9 hml9 (hts _ (hw _ (by simp [cwd]))) (hts _ (hw _ (by simp [cwd]))) (hts _ (hw _ (by simp [cwd]))) (hts _ (hw _ (by simp [cwd]))) (by rw [cat_map]; exact h2) hdg hfin
    · -- clone of an array of bytes
      obtain ⟨a, r, rfl, h1, h5, ha, hs, hul, h2⟩ := pA_inv h
      have hX := hP.2.1
      exact pg_clone C hP hRO hS ha hs (by rw [hml]; exact hL.1.symm) (hts _ (hw _ (by simp [cwd]))) (hts _ (hw _ (by simp [cwd]))) (hts _ (hw _ (by simp [cwd]))) (hts _ (hw _ (by simp [cwd]))) (hts _ (hw _ (by simp [cwd]))) (by rw [hRc]; exact hul.1) (by rw [hRs]; exact hul.2) (by rw [cat_map]; exact h1) hdg fun H1 g1 g2 => h2 H1 locs rls ⟨g1, ⟨hRO.sm ((Sm.rfl'.oN hX).oA hX), (hSm.oN hX).oA hX⟩, g2, hL, hul⟩
    · -- named in the class above, found in the class below
      obtain ⟨o1, o2, o3, o4, o5, o6, o7⟩ := hok
      obtain ⟨hrc, h1, h2, h3, h4⟩ := h
      obtain ⟨n1, n2⟩ := npar_v o3
      obtain ⟨m1, m2, m3, m4, m5, m6⟩ := chkM _ (minfo_mem (j := j) (by omega))
      obtain ⟨l1, l2, -⟩ := chkM _ (minfo_mem (j := 7) (by omega))
      unfold rcv at hrc
      split at hrc
      · rename_i a t hst
        obtain ⟨d1, d2, d3⟩ := drop_ref n2 hst
        have hcell := hR.cell C o6 hrc
        have h4' := h4
        rw [d1, List.reverse_append] at h4'
        have hx7 : (parseMethodDescriptor (mi_y (minfo 7)).desc).map (fun d => d.parameters.length) = some (mi_na (minfo j) - 1) := by rw [o7]; decide +kernel
        have hc7 : Cond.code ⟨(mi_y (minfo 7)).cls, (mi_y (minfo 7)).name, (mi_y (minfo 7)).desc⟩ (mi_c (minfo 7)) (mi_L (minfo 7)) (mi_rt (minfo 7)) ∈ ALLG := chkW 7 (by omega)
        refine run_cal C hM htb hlk hQe hR h3 (vx_runU (n := mi_na (minfo j) - 1) (C := (kcl (rkd j)).1) (owner := (mi_y (minfo 7)).cls) (x := mi_y (minfo 7)) (b := rA base ro a) (As := ((st.take (mi_na (minfo j) - 1)).reverse).map (rV base ro)) S (hctr j o1 D cA base ro ([.ref a].reverse ++ (st.take (mi_na (minfo j) - 1)).reverse) μ _) (va_cwO (mi_na (minfo j) - 1) hts (gI (ws_app o1 hw)) (ws_none o2) rfl rfl hc7 ⟨l2.1, l2.2, hx7⟩ (room_ok hRf hRl m6)) ⟨PcO.blind, hcell, fun U hU hW => ⟨rfl, hR.wd C hU hW, h4'⟩⟩ rfl ?_ hL.1 ?_ (cat8 h1 _ rfl) hdg (room_f hRc hRs h3))
        · rw [List.length_map, List.length_reverse, List.length_take]; omega
        · show st.map (rV base ro) = _
          rw [rest_map (base := base) (ro := ro) (st := st) (n := mi_na (minfo j)), d1, d2]
          simp [rV]
      · exact hrc.elim
    · obtain ⟨y, r, rfl, h0⟩ := pI_inv h
      obtain ⟨x, r, rfl, h1, h2⟩ := pI_inv h0
      exact va_mmax hx hb (by rw [hml]; exact hL.1.symm) hown (hts _ (hw _ (by simp [cwd]))) (hts _ (hw _ (by simp [cwd]))) (hts _ (hw _ (by simp [cwd]))) (hts _ cwMax) (by omega) (by rw [cat_map]; omega) (by rw [hRc]; exact hu.1) (by rw [hRs]; exact hu.2) hdg (h2 H locs rls hR)
    · obtain ⟨y, r, rfl, h0⟩ := pI_inv h
      obtain ⟨x, r, rfl, h1, h2⟩ := pI_inv h0
      exact va_mmin hx hb (by rw [hml]; exact hL.1.symm) hown (hts _ (hw _ (by simp [cwd]))) (hts _ (hw _ (by simp [cwd]))) (hts _ (hw _ (by simp [cwd]))) (hts _ cwMin) (by omega) (by rw [cat_map]; omega) (by rw [hRc]; exact hu.1) (by rw [hRs]; exact hu.2) hdg (h2 H locs rls hR)
    · exact kS hok.1 hok.2.1 hok.2.2.1 hw hdg h
    · -- nest static
      obtain ⟨o1, o2, o3, o4⟩ := hok
      obtain ⟨h1, h2, h3, h4⟩ := h
      obtain ⟨m1, m2, m3, m4, m5, m6⟩ := chkM _ (minfo_mem (j := j) (by omega))
      refine run_cal C hM htb hlk hQe hR h3 (vx_runSN (n := mi_na (minfo j)) (As := ((st.take (mi_na (minfo j))).reverse).map (rV base ro)) S (hctr j o1 D cA base ro _ μ _) ⟨va_cnB (mi_na (minfo j)) hts (gI (ws_in o1)) (ws_none o2) rfl rfl (hRO.2.2.2.2.1 _ hn20 _ hmem (Or.inr rfl)) (hts _ (hw _ (by simp [cwd]))) ⟨m2.1, m2.2, npar_s o3⟩ (room_ok hRf hRl m6), hts _ (hw _ (by simp [cwd])), trivial⟩ ⟨PcO.blind, fun U hU hW => ⟨rfl, hR.wd C hU hW, h4⟩⟩ rfl ?_ hL.1 rest_map (cat8 h1 _ rfl) hdg (room_f hRc hRs h3))
      rw [List.length_map, List.length_reverse, List.length_take]; omega
    · -- a static method with a handler
      obtain ⟨o1, o2, o3, o4⟩ := hok
      obtain ⟨h1, h2, h3, h4⟩ := h
      obtain ⟨m1, m2, m3, m4, m5, m6⟩ := chkM _ (minfo_mem (j := j) (by omega))
      obtain ⟨⟨f, t, h0, h9, k9⟩, hhd⟩ := Option.isSome_iff_exists.mp o2
      refine run_cal C hM htb hlk hQe hR h3 (vx_runSX (n := mi_na (minfo j)) (As := ((st.take (mi_na (minfo j))).reverse).map (rV base ro)) S (hctr j o1 D cA base ro _ μ _) (vx_cwSW (mi_na (minfo j)) hts (gI (ws_app o1 hw)) (ws_some hhd) rfl rfl ⟨m2.1, m2.2, npar_s o3⟩ (room_ok hRf hRl m6)) ⟨PcO.blind, fun U hU hW => ⟨rfl, hR.wd C hU hW, h4⟩⟩ rfl ?_ hL.1 rest_map (cat8 h1 _ rfl) hdg (room_f hRc hRs h3))
      rw [List.length_map, List.length_reverse, List.length_take]; omega
    · exact kS hok.1 hok.2.1 hok.2.2.1 hw hdg h
    · obtain ⟨o1, o2, o3, o4, o5, o6⟩ := hok
      obtain ⟨m1, m2, m3, m4, m5, m6⟩ := chkM _ (minfo_mem (j := j) (by omega))
      exact kI o1 o2 o3 o5 o6 hdg h.1 h.2 fun _ _ _ => Or.inl (cwI (mi_na (minfo j) - 1) hts (gI (ws_in o1)) (by rw [ws_none o2, o6]) rfl rfl (hts _ (hw _ (by simp [cwd]))) (hts _ (hw _ (by simp [cwd]))) (hts _ (hw _ (by simp [cwd]))) o5 ⟨m2.1, m2.2, (npar_v o3).1⟩ (room_ok hRf hRl m6))
    · obtain ⟨o1, o2, o3, o4, o5, o6⟩ := hok
      obtain ⟨m1, m2, m3, m4, m5, m6⟩ := chkM _ (minfo_mem (j := j) (by omega))
      exact kI o1 o2 o3 o5 o6 hdg h.1 h.2 fun _ _ _ => Or.inr ⟨va_cnB (mi_na (minfo j) - 1) hts (gI (ws_in o1)) (by rw [ws_none o2, o6]) rfl rfl (hRO.2.2.2.2.1 _ hn20 _ hmem (Or.inl rfl)) (hts _ (hw _ (by simp [cwd]))) ⟨m2.1, m2.2, (npar_v o3).1⟩ (room_ok hRf hRl m6), o5, hts _ (hw _ (by simp [cwd]))⟩
    · obtain ⟨o1, o2, o3, o4, o5, o6, o7⟩ := hok
      exact kV o1 o2 o3 o6 o7 hw hdg h.1 h.2
    · -- inherited
      obtain ⟨o1, o2, o3, o4, o5, o6⟩ := hok
      obtain ⟨hrc, h1, h2, h3, h4⟩ := h
      obtain ⟨n1, n2⟩ := npar_v o3
      obtain ⟨m1, m2, m3, m4, m5, m6⟩ := chkM _ (minfo_mem (j := j) (by omega))
      unfold rcv at hrc
      split at hrc
      · rename_i a t hst
        obtain ⟨d1, d2, d3⟩ := drop_ref n2 hst
        have hcell := hR.cell C o6 hrc
        have h4' := h4
        rw [d1, List.reverse_append] at h4'
        refine run_cal C hM htb hlk hQe hR h3 (vx_runU (n := mi_na (minfo j) - 1) (C := (kcl (rkd j)).1) (owner := (mi_y (minfo j)).cls) (b := rA base ro a) (As := ((st.take (mi_na (minfo j) - 1)).reverse).map (rV base ro)) S (hctr j o1 D cA base ro ([.ref a].reverse ++ (st.take (mi_na (minfo j) - 1)).reverse) μ _) (va_cwU (mi_na (minfo j) - 1) hts (gI (ws_app o1 hw)) (ws_none o2) rfl rfl rfl ⟨m2.1, m2.2, n1⟩ (room_ok hRf hRl m6)) ⟨PcO.blind, hcell, fun U hU hW => ⟨rfl, hR.wd C hU hW, h4'⟩⟩ rfl ?_ hL.1 ?_ (cat8 h1 _ rfl) hdg (room_f hRc hRs h3))
        · rw [List.length_map, List.length_reverse, List.length_take]; omega
        · show st.map (rV base ro) = _
          rw [rest_map (base := base) (ro := ro) (st := st) (n := mi_na (minfo j)), d1, d2]
          simp [rV]
      · exact hrc.elim
    · obtain ⟨o1, o2, o3, o4, o5, o6, o7⟩ := hok
      exact kV o1 o2 o3 o6 o7 hw hdg h.1 h.2
    · -- super
      obtain ⟨o1, o2, o3, o4, o5, o6⟩ := hok
      obtain ⟨hrc, h1, h2, h3, h4⟩ := h
      obtain ⟨n1, n2⟩ := npar_v o3
      obtain ⟨m1, m2, m3, m4, m5, m6⟩ := chkM _ (minfo_mem (j := j) (by omega))
      unfold rcv at hrc
      split at hrc
      · rename_i a t hst
        obtain ⟨d1, d2, d3⟩ := drop_ref n2 hst
        have hcell := hR.cell C o6 hrc
        have h4' := h4
        rw [d1, List.reverse_append] at h4'
        refine run_cal C hM htb hlk hQe hR h3 (vx_runSU (n := mi_na (minfo j) - 1) (C := (kcl (rkd j)).1) (b := rA base ro a) (As := ((st.take (mi_na (minfo j) - 1)).reverse).map (rV base ro)) (hK.1 (rkd j) _ (chkK _ o6).1).2 S (hctr j o1 D cA base ro ([.ref a].reverse ++ (st.take (mi_na (minfo j) - 1)).reverse) μ _) (va_cwSU (mi_na (minfo j) - 1) hts (gI (ws_app o1 hw)) (ws_none o2) rfl rfl ⟨o5, n1⟩ (room_ok hRf hRl m6)) ⟨PcO.blind, hcell, fun U hU hW => ⟨rfl, hR.wd C hU hW, h4'⟩⟩ rfl ?_ hL.1 ?_ (cat8 h1 _ rfl) hdg (room_f hRc hRs h3))
        · rw [List.length_map, List.length_reverse, List.length_take]; omega
        · show st.map (rV base ro) = _
          rw [rest_map (base := base) (ro := ro) (st := st) (n := mi_na (minfo j)), d1, d2]
          simp [rV]
      · exact hrc.elim
    · exact h.elim
  · exact h.elim
end InvRows
end
section
/-! all methods keep their contracts, at every depth -/
theorem lr_entry {base : Nat} {ro : Nat → Nat} {M : MI} {vs : List Value} (hl : vs.length = mi_na M) (hc : ∀ v ∈ vs, v.category = 1) (hn : mi_na M ≤ mi_L M) :
    LR base ro M (ent vs (mi_L M)) (((vs.map (rV base ro)).map Slot.val ++ List.replicate (mi_L M - (vs.map (rV base ro)).length) Slot.unset).toArray) := by
  have hg : ∀ i : Nat, (((vs.map (rV base ro)).map Slot.val ++ List.replicate (mi_L M - (vs.map (rV base ro)).length) Slot.unset).toArray)[i]? = if i < vs.length then ((vs[i]?).map (fun v => Slot.val (rV base ro v))) else if i < mi_L M then some Slot.unset else none := by
    intro i
    rw [List.getElem?_toArray, List.map_map]
    by_cases h : i < vs.length
    · rw [if_pos h, List.getElem?_append_left (by simpa using h), List.getElem?_map]; rfl
    · rw [if_neg h, List.getElem?_append_right (by simpa using h), List.getElem?_replicate]
      simp only [List.length_map]
      by_cases h2 : i < mi_L M
      · rw [if_pos h2, if_pos (by omega)]
      · rw [if_neg h2, if_neg (by omega)]
  have he : ∀ (i : Nat) (v : Value), (ent vs (mi_L M)).getD i none = some v → vs[i]? = some v := by
    intro i v h
    unfold ent at h
    rw [List.getD_eq_getElem?_getD] at h
    by_cases g : i < vs.length
    · rw [List.getElem?_append_left (by simpa using g), List.getElem?_map, List.getElem?_eq_getElem g] at h
      rw [List.getElem?_eq_getElem g]; exact h
    · rw [List.getElem?_append_right (by simpa using g), List.getElem?_replicate] at h
      split at h <;> cases h
  refine ⟨?_, ?_, ⟨fun i v h h2 => ?_, fun i h => ?_⟩, fun _ i v h => hc v (List.mem_of_getElem? (he i v h)), fun i v h => ?_⟩
  · simp; omega
  · unfold ent; simp; omega
  · rw [hg] at h
    split at h
    · rename_i g
      rw [List.getElem?_eq_getElem g] at h
      simp at h
      have h1 := hc _ (List.getElem_mem g)
      rw [← rV_cat (base := base) (ro := ro), h] at h1
      omega
    · split at h <;> cases h
  · rw [hg] at h
    split at h
    · rename_i g
      rw [List.getElem?_eq_getElem g] at h
      cases h
    · split at h <;> cases h
  · have h1 := he i v h
    have g : i < vs.length := (List.getElem?_eq_some_iff.mp h1).1
    rw [hg, if_pos g, h1]; rfl
theorem body_ok {l : Launch} (hl : l.stackTraces = false) {d j : Nat} (ih : ∀ j, j < 194 → Ctr l d j) (hj : j < 194) {D : va_G} {cA : Nat → ClassId} {base : Nat} {ro : Nat → Nat} {as0 : List Value} {μ : Mu} {Q : Po}
    {p : Program} {e : Env} {s : State} {m : MethodId} {args : Array Value} {below : List Frame} {meth : Method} {c : Code} {s₁ : State}
    (B : BodyLoose p l (mi_y (minfo j)) (headSpec (ws (minfo j)) (rmD (d + 1) (minfo j))) (mi_c (minfo j)) (mi_L (minfo j)) (mi_rt (minfo j)) e s m args below meth c s₁) (hml : c.maxLocals = mi_L (minfo j)) (htb : Tb (minfo j) c) (hPc : PcO D cA base ro (d + 1) j as0 μ Q args s) :
    W p l e (headSpec (ws (minfo j)) (rmD (d + 1) (minfo j))).room s m args below meth c s.heap [] 0 0 (vx_MQ below (QcO D cA base ro Q μ) (XCO D cA base ro Q μ (mi_th (minfo j))) args s (mi_al (minfo j)).1 (mi_al (minfo j)).2 (isO base)) (entryFrame m args (mi_L (minfo j))) := by
  obtain ⟨hv, ⟨hP, hK, hRO⟩, hE1, hE2, hE3⟩ := hPc
  have hM := minfo_mem (j := j) (by omega)
  obtain ⟨m1, m2, m3, m4, m5, m6⟩ := chkM _ hM
  have C : Ctx p (headSpec (ws (minfo j)) (rmD (d + 1) (minfo j))).room s m args c (minfo j) D cA base :=
    ⟨B.exec, B.bytes, hml, by rw [m3]; exact findClass_of_methodNamed B.named, fun w hw => atoms_spec (ws := ws (minfo j)) B.pre w (List.mem_cons_of_mem _ hw), hK, by have := hP.1; have := hP.2.1; omega, m4, rfl, rfl, by show 6 ≤ d + 1 + 5; omega, by show 200 ≤ 35 * (d + 1) + 200; omega⟩
  have hc : ∀ v ∈ as0.map (rV base ro), v.category = 1 := by
    intro v hv
    obtain ⟨w, hw, rfl⟩ := List.mem_map.mp hv
    rw [rV_cat]; exact hE2 w hw
  have h9 := hE3 (XW p l e (headSpec (ws (minfo j)) (rmD (d + 1) (minfo j))).room s m args below meth c (vx_MQ below (QcO D cA base ro Q μ) (XCO D cA base ro Q μ (mi_th (minfo j))) args s (mi_al (minfo j)).1 (mi_al (minfo j)).2 (isO base)) D cA base ro (minfo j) μ)
    fun pc ls st μ1 u ⟨ins, n, h1, h2, h3⟩ => sim_stp C (fun h => (name_of_methodNamed B.named B.method).1.trans h) B.returns B.notSynchronized hl (fun hth x hx => by
      have h8 := htb
      unfold Tb at h8
      rw [hdOk_th hM hth] at h8
      exact h8 hth x hx) rfl (sim_inv ih C hM htb B.notSynchronized (by show d + 6 ≤ d + 1 + 5; omega) (by show 35 * d + 235 ≤ 35 * (d + 1) + 200; omega) rfl) h1 h2 h3
  have h7 := h9 s.heap [] _ ⟨hP, ⟨hRO, Sm.rfl'⟩, va_S.rf, lr_entry hE1 hE2 m5, ⟨Nat.zero_le _, Nat.zero_le _⟩⟩
  have he : entryFrame m args (mi_L (minfo j)) = F0 m 0 (((as0.map (rV base ro)).map Slot.val ++ List.replicate (mi_L (minfo j) - (as0.map (rV base ro)).length) Slot.unset).toArray) [] := by
    rw [hv]
    exact entry_eq m _ hc _
  rw [he]
  exact h7
theorem ctr_all {l : Launch} (hl : l.stackTraces = false) : ∀ (d j : Nat), j < 194 → Ctr l d j := by
  intro d
  induction d with
  | zero =>
    intro j hj D cA base ro as0 μ Q
    obtain ⟨m1, -⟩ := chkM _ (minfo_mem (j := j) (by omega))
    cases hhd : mi_hd (minfo j) with
    | none => exact vx_ofW m1 (ws_none hhd) fun p e s m args below meth c s₁ B hml htab hPc => hPc.2.2.elim
    | some q =>
      obtain ⟨f, t, h0, h, k⟩ := q
      exact vx_ofWH m1 (ws_some hhd) fun p e s m args below meth c s₁ B hml hPc => hPc.2.2.elim
  | succ d ih =>
    intro j hj D cA base ro as0 μ Q
    obtain ⟨m1, -⟩ := chkM _ (minfo_mem (j := j) (by omega))
    cases hhd : mi_hd (minfo j) with
    | none => exact vx_ofW m1 (ws_none hhd) fun p e s m args below meth c s₁ B hml htab hPc => body_ok hl ih hj B hml (by unfold Tb; rw [hhd]; exact fun _ => htab) hPc
    | some q =>
      obtain ⟨f, t, h0, h, k⟩ := q
      refine vx_ofWH m1 (ws_some hhd) fun p e s m args below meth c s₁ B hml hPc => body_ok hl ih hj B hml ?_ hPc
      unfold Tb
      rw [hhd]
      exact vx_table (x := mi_y (minfo j)) B (atoms_spec (ws := ws (minfo j)) B.pre _ (by rw [ws_some hhd]; exact List.mem_cons_self))
end
section
/-! the start: the law's world out of what the Statement gives, and its end -/
def tsrc : List (String × Nat) := [("LockstepRoom$Loader", 90), ("LockstepRoom$Loader", 98), ("LockstepRoom$Loader", 103), ("LockstepRoom$Loader", 201), ("LockstepRoom$Loader", 203), ("LockstepRoom$Loader", 205), ("LockstepRoom$Loader", 207), ("LockstepRoom$Loader", 209), ("LockstepRoom$Loader", 211), ("LockstepRoom$Loader", 108), ("LockstepRoom$Loader", 113), ("LockstepRoom$Loader", 118), ("LockstepRoom$Loader", 188), ("LockstepRoom$Loader", 190), ("LockstepRoom", 370), ("LockstepRoom", 374), ("LockstepRoom", 372), ("LockstepRoom", 208), ("LockstepRoomLaw", 56), ("LockstepRoomLaw", 58), ("LockstepRoomLaw", 60), ("LockstepRoomLaw", 62), ("LockstepRoomLaw", 64), ("LockstepRoomLaw", 66), ("LockstepRoomLaw", 68), ("LockstepRoomLaw", 76), ("LockstepRoomLaw", 78), ("LockstepRoomLaw", 21), ("LockstepRoomLaw", 83), ("LockstepRoomLaw", 85), ("LockstepRoomLaw", 51), ("LockstepRoomLaw", 100), ("LockstepRoomLaw", 106)]
/-- the bytes of the texts -/
def txby : List (List Int32) := [[115, 116, 97, 114, 116], [109, 101, 109, 98, 101, 114], [100, 111], [112, 117, 116], [97, 100, 100], [99, 111, 112, 121], [115, 117, 109], [115, 119, 97, 112], [109, 117, 108], [115, 101, 97, 108], [102, 97, 117, 108, 116], [115, 101, 116], [108, 97, 103], [113, 117, 111, 114, 117, 109], [110, 111, 32, 115, 117, 99, 104, 32, 109, 101, 109, 98, 101, 114], [110, 111, 32, 115, 117, 99, 104, 32, 99, 101, 108, 108], [110, 111, 32, 115, 117, 99, 104, 32, 115, 101, 97, 108, 101, 100, 32, 116, 117, 114, 110], [110, 111, 32, 115, 117, 99, 104, 32, 102, 97, 117, 108, 116], [112, 117, 116], [97, 100, 100], [99, 111, 112, 121], [115, 117, 109], [115, 119, 97, 112], [109, 117, 108], [115, 101, 116, 32, 108, 97, 103, 32], [59, 115, 101, 116, 32, 113, 117, 111, 114, 117, 109, 32], [59, 115, 116, 97, 114, 116], [32], [59], [109, 101, 109, 98, 101, 114, 32], [109], [100, 111, 32], [115, 101, 97, 108, 59]]
def tens : List Int32 := [48, 48, 48, 48, 48, 48, 48, 48, 48, 48, 49, 49, 49, 49, 49, 49, 49, 49, 49, 49, 50, 50, 50, 50, 50, 50, 50, 50, 50, 50, 51, 51, 51, 51, 51, 51, 51, 51, 51, 51, 52, 52, 52, 52, 52, 52, 52, 52, 52, 52, 53, 53, 53, 53, 53, 53, 53, 53, 53, 53, 54, 54, 54, 54, 54, 54, 54, 54, 54, 54, 55, 55, 55, 55, 55, 55, 55, 55, 55, 55, 56, 56, 56, 56, 56, 56, 56, 56, 56, 56, 57, 57, 57, 57, 57, 57, 57, 57, 57, 57]
def ones : List Int32 := [48, 49, 50, 51, 52, 53, 54, 55, 56, 57, 48, 49, 50, 51, 52, 53, 54, 55, 56, 57, 48, 49, 50, 51, 52, 53, 54, 55, 56, 57, 48, 49, 50, 51, 52, 53, 54, 55, 56, 57, 48, 49, 50, 51, 52, 53, 54, 55, 56, 57, 48, 49, 50, 51, 52, 53, 54, 55, 56, 57, 48, 49, 50, 51, 52, 53, 54, 55, 56, 57, 48, 49, 50, 51, 52, 53, 54, 55, 56, 57, 48, 49, 50, 51, 52, 53, 54, 55, 56, 57, 48, 49, 50, 51, 52, 53, 54, 55, 56, 57]
def k0 (L : Nat) (a : Nat) : Nat × Nat := if a < 33 then (0, 4) else if 100 ≤ a ∧ a < 133 then (21, (txby.getD (a - 100) []).length) else if a = 200 then (21, 100) else if a = 201 then (21, 100) else if a = 300 then (20, L) else (99, 0)
def i0 (xs : Nat → Int32) (a k : Nat) : Int32 := if a < 33 then 0 else if 100 ≤ a ∧ a < 133 then (txby.getD (a - 100) []).getD k 0 else if a = 200 then tens.getD k 0 else if a = 201 then ones.getD k 0 else if a = 300 then xs k else 0
def r0 (a k : Nat) : Option Nat := if a < 33 ∧ k = 0 then some (100 + a) else none
/-- the small heap at the start: texts, tables, the script -/
def mu0 (L : Nat) (xs : Nat → Int32) : Mu := (1000, k0 L, i0 xs, fun _ _ => 0, r0)
def tm0 (i : Nat) : Term := .string (tsrc.getD i ("", 0)).1 (tsrc.getD i ("", 0)).2
def gvn : List Cond := flatC (Jvm.Cond.and given_1 narrow_1)
set_option maxRecDepth 100000 in
theorem ck_ex : ∀ i, i < 33 → Cond.exactly (tm0 i) "java/lang/String" ∈ gvn := by decide +kernel
set_option maxRecDepth 100000 in
theorem ck_co : ∀ i, i < 33 → Cond.eq (.field (tm0 i) "java/lang/String" "coder" "B") (.int 0) ∈ gvn := by decide +kernel
set_option maxRecDepth 100000 in
theorem ck_ar : ∀ i, i < 33 → Cond.arrayOf (.field (tm0 i) "java/lang/String" "value" "[B") .byte ∈ gvn := by decide +kernel
set_option maxRecDepth 100000 in
theorem ck_le : ∀ i, i < 33 → Cond.eq (.length (.field (tm0 i) "java/lang/String" "value" "[B")) (.int (Int32.ofNat ((txby.map List.length).getD i 0))) ∈ gvn := by decide +kernel
set_option maxRecDepth 100000 in
theorem ck_el0 : ((List.range 5).map fun j => Cond.eq (.elem (.field (tm0 0) "java/lang/String" "value" "[B") (.int (Int32.ofNat j))) (.int ((txby.getD 0 []).getD j 0))) = [367, 368, 369, 370, 371].filterMap (fun i => gvn[i]?) := rfl
set_option maxRecDepth 100000 in
theorem ck_el1 : ((List.range 6).map fun j => Cond.eq (.elem (.field (tm0 1) "java/lang/String" "value" "[B") (.int (Int32.ofNat j))) (.int ((txby.getD 1 []).getD j 0))) = [376, 377, 378, 379, 380, 381].filterMap (fun i => gvn[i]?) := rfl
set_option maxRecDepth 100000 in
theorem ck_el2 : ((List.range 2).map fun j => Cond.eq (.elem (.field (tm0 2) "java/lang/String" "value" "[B") (.int (Int32.ofNat j))) (.int ((txby.getD 2 []).getD j 0))) = [386, 387].filterMap (fun i => gvn[i]?) := rfl
set_option maxRecDepth 100000 in
theorem ck_el3 : ((List.range 3).map fun j => Cond.eq (.elem (.field (tm0 3) "java/lang/String" "value" "[B") (.int (Int32.ofNat j))) (.int ((txby.getD 3 []).getD j 0))) = [392, 393, 394].filterMap (fun i => gvn[i]?) := rfl
set_option maxRecDepth 100000 in
theorem ck_el4 : ((List.range 3).map fun j => Cond.eq (.elem (.field (tm0 4) "java/lang/String" "value" "[B") (.int (Int32.ofNat j))) (.int ((txby.getD 4 []).getD j 0))) = [400, 401, 402].filterMap (fun i => gvn[i]?) := rfl
set_option maxRecDepth 100000 in
theorem ck_el5 : ((List.range 4).map fun j => Cond.eq (.elem (.field (tm0 5) "java/lang/String" "value" "[B") (.int (Int32.ofNat j))) (.int ((txby.getD 5 []).getD j 0))) = [408, 409, 410, 411].filterMap (fun i => gvn[i]?) := rfl
set_option maxRecDepth 100000 in
theorem ck_el6 : ((List.range 3).map fun j => Cond.eq (.elem (.field (tm0 6) "java/lang/String" "value" "[B") (.int (Int32.ofNat j))) (.int ((txby.getD 6 []).getD j 0))) = [417, 418, 419].filterMap (fun i => gvn[i]?) := rfl
set_option maxRecDepth 100000 in
theorem ck_el7 : ((List.range 4).map fun j => Cond.eq (.elem (.field (tm0 7) "java/lang/String" "value" "[B") (.int (Int32.ofNat j))) (.int ((txby.getD 7 []).getD j 0))) = [425, 426, 427, 428].filterMap (fun i => gvn[i]?) := rfl
set_option maxRecDepth 100000 in
theorem ck_el8 : ((List.range 3).map fun j => Cond.eq (.elem (.field (tm0 8) "java/lang/String" "value" "[B") (.int (Int32.ofNat j))) (.int ((txby.getD 8 []).getD j 0))) = [434, 435, 436].filterMap (fun i => gvn[i]?) := rfl
set_option maxRecDepth 100000 in
theorem ck_el9 : ((List.range 4).map fun j => Cond.eq (.elem (.field (tm0 9) "java/lang/String" "value" "[B") (.int (Int32.ofNat j))) (.int ((txby.getD 9 []).getD j 0))) = [442, 443, 444, 445].filterMap (fun i => gvn[i]?) := rfl
set_option maxRecDepth 100000 in
theorem ck_el10 : ((List.range 5).map fun j => Cond.eq (.elem (.field (tm0 10) "java/lang/String" "value" "[B") (.int (Int32.ofNat j))) (.int ((txby.getD 10 []).getD j 0))) = [450, 451, 452, 453, 454].filterMap (fun i => gvn[i]?) := rfl
set_option maxRecDepth 100000 in
theorem ck_el11 : ((List.range 3).map fun j => Cond.eq (.elem (.field (tm0 11) "java/lang/String" "value" "[B") (.int (Int32.ofNat j))) (.int ((txby.getD 11 []).getD j 0))) = [459, 460, 461].filterMap (fun i => gvn[i]?) := rfl
set_option maxRecDepth 100000 in
theorem ck_el12 : ((List.range 3).map fun j => Cond.eq (.elem (.field (tm0 12) "java/lang/String" "value" "[B") (.int (Int32.ofNat j))) (.int ((txby.getD 12 []).getD j 0))) = [466, 467, 468].filterMap (fun i => gvn[i]?) := rfl
set_option maxRecDepth 100000 in
theorem ck_el13 : ((List.range 6).map fun j => Cond.eq (.elem (.field (tm0 13) "java/lang/String" "value" "[B") (.int (Int32.ofNat j))) (.int ((txby.getD 13 []).getD j 0))) = [473, 474, 475, 476, 477, 478].filterMap (fun i => gvn[i]?) := rfl
set_option maxRecDepth 100000 in
theorem ck_el14 : ((List.range 14).map fun j => Cond.eq (.elem (.field (tm0 14) "java/lang/String" "value" "[B") (.int (Int32.ofNat j))) (.int ((txby.getD 14 []).getD j 0))) = [483, 484, 485, 486, 487, 488, 489, 490, 491, 492, 493, 494, 495, 496].filterMap (fun i => gvn[i]?) := rfl
set_option maxRecDepth 100000 in
theorem ck_el15 : ((List.range 12).map fun j => Cond.eq (.elem (.field (tm0 15) "java/lang/String" "value" "[B") (.int (Int32.ofNat j))) (.int ((txby.getD 15 []).getD j 0))) = [501, 502, 503, 504, 505, 506, 507, 508, 509, 510, 511, 512].filterMap (fun i => gvn[i]?) := rfl
set_option maxRecDepth 100000 in
theorem ck_el16 : ((List.range 19).map fun j => Cond.eq (.elem (.field (tm0 16) "java/lang/String" "value" "[B") (.int (Int32.ofNat j))) (.int ((txby.getD 16 []).getD j 0))) = [517, 518, 519, 520, 521, 522, 523, 524, 525, 526, 527, 528, 529, 530, 531, 532, 533, 534, 535].filterMap (fun i => gvn[i]?) := rfl
set_option maxRecDepth 100000 in
theorem ck_el17 : ((List.range 13).map fun j => Cond.eq (.elem (.field (tm0 17) "java/lang/String" "value" "[B") (.int (Int32.ofNat j))) (.int ((txby.getD 17 []).getD j 0))) = [540, 541, 542, 543, 544, 545, 546, 547, 548, 549, 550, 551, 552].filterMap (fun i => gvn[i]?) := rfl
set_option maxRecDepth 100000 in
theorem ck_el18 : ((List.range 3).map fun j => Cond.eq (.elem (.field (tm0 18) "java/lang/String" "value" "[B") (.int (Int32.ofNat j))) (.int ((txby.getD 18 []).getD j 0))) = [243, 244, 245].filterMap (fun i => gvn[i]?) := rfl
set_option maxRecDepth 100000 in
theorem ck_el19 : ((List.range 3).map fun j => Cond.eq (.elem (.field (tm0 19) "java/lang/String" "value" "[B") (.int (Int32.ofNat j))) (.int ((txby.getD 19 []).getD j 0))) = [250, 251, 252].filterMap (fun i => gvn[i]?) := rfl
set_option maxRecDepth 100000 in
theorem ck_el20 : ((List.range 4).map fun j => Cond.eq (.elem (.field (tm0 20) "java/lang/String" "value" "[B") (.int (Int32.ofNat j))) (.int ((txby.getD 20 []).getD j 0))) = [257, 258, 259, 260].filterMap (fun i => gvn[i]?) := rfl
set_option maxRecDepth 100000 in
theorem ck_el21 : ((List.range 3).map fun j => Cond.eq (.elem (.field (tm0 21) "java/lang/String" "value" "[B") (.int (Int32.ofNat j))) (.int ((txby.getD 21 []).getD j 0))) = [265, 266, 267].filterMap (fun i => gvn[i]?) := rfl
set_option maxRecDepth 100000 in
theorem ck_el22 : ((List.range 4).map fun j => Cond.eq (.elem (.field (tm0 22) "java/lang/String" "value" "[B") (.int (Int32.ofNat j))) (.int ((txby.getD 22 []).getD j 0))) = [272, 273, 274, 275].filterMap (fun i => gvn[i]?) := rfl
set_option maxRecDepth 100000 in
theorem ck_el23 : ((List.range 3).map fun j => Cond.eq (.elem (.field (tm0 23) "java/lang/String" "value" "[B") (.int (Int32.ofNat j))) (.int ((txby.getD 23 []).getD j 0))) = [280, 281, 282].filterMap (fun i => gvn[i]?) := rfl
set_option maxRecDepth 100000 in
theorem ck_el24 : ((List.range 8).map fun j => Cond.eq (.elem (.field (tm0 24) "java/lang/String" "value" "[B") (.int (Int32.ofNat j))) (.int ((txby.getD 24 []).getD j 0))) = [287, 288, 289, 290, 291, 292, 293, 294].filterMap (fun i => gvn[i]?) := rfl
set_option maxRecDepth 100000 in
theorem ck_el25 : ((List.range 12).map fun j => Cond.eq (.elem (.field (tm0 25) "java/lang/String" "value" "[B") (.int (Int32.ofNat j))) (.int ((txby.getD 25 []).getD j 0))) = [299, 300, 301, 302, 303, 304, 305, 306, 307, 308, 309, 310].filterMap (fun i => gvn[i]?) := rfl
set_option maxRecDepth 100000 in
theorem ck_el26 : ((List.range 6).map fun j => Cond.eq (.elem (.field (tm0 26) "java/lang/String" "value" "[B") (.int (Int32.ofNat j))) (.int ((txby.getD 26 []).getD j 0))) = [315, 316, 317, 318, 319, 320].filterMap (fun i => gvn[i]?) := rfl
set_option maxRecDepth 100000 in
theorem ck_el27 : ((List.range 1).map fun j => Cond.eq (.elem (.field (tm0 27) "java/lang/String" "value" "[B") (.int (Int32.ofNat j))) (.int ((txby.getD 27 []).getD j 0))) = [325].filterMap (fun i => gvn[i]?) := rfl
set_option maxRecDepth 100000 in
theorem ck_el28 : ((List.range 1).map fun j => Cond.eq (.elem (.field (tm0 28) "java/lang/String" "value" "[B") (.int (Int32.ofNat j))) (.int ((txby.getD 28 []).getD j 0))) = [330].filterMap (fun i => gvn[i]?) := rfl
set_option maxRecDepth 100000 in
theorem ck_el29 : ((List.range 7).map fun j => Cond.eq (.elem (.field (tm0 29) "java/lang/String" "value" "[B") (.int (Int32.ofNat j))) (.int ((txby.getD 29 []).getD j 0))) = [335, 336, 337, 338, 339, 340, 341].filterMap (fun i => gvn[i]?) := rfl
set_option maxRecDepth 100000 in
theorem ck_el30 : ((List.range 1).map fun j => Cond.eq (.elem (.field (tm0 30) "java/lang/String" "value" "[B") (.int (Int32.ofNat j))) (.int ((txby.getD 30 []).getD j 0))) = [346].filterMap (fun i => gvn[i]?) := rfl
set_option maxRecDepth 100000 in
theorem ck_el31 : ((List.range 3).map fun j => Cond.eq (.elem (.field (tm0 31) "java/lang/String" "value" "[B") (.int (Int32.ofNat j))) (.int ((txby.getD 31 []).getD j 0))) = [351, 352, 353].filterMap (fun i => gvn[i]?) := rfl
set_option maxRecDepth 100000 in
theorem ck_el32 : ((List.range 5).map fun j => Cond.eq (.elem (.field (tm0 32) "java/lang/String" "value" "[B") (.int (Int32.ofNat j))) (.int ((txby.getD 32 []).getD j 0))) = [358, 359, 360, 361, 362].filterMap (fun i => gvn[i]?) := rfl
theorem pl_mem {α : Type} {G : List α} {f : Nat → α} {n : Nat} {ps : List Nat} (h : (List.range n).map f = ps.filterMap (fun i => G[i]?)) : ∀ j, j < n → f j ∈ G := by
  intro j hj
  have h1 : f j ∈ (List.range n).map f := List.mem_map.mpr ⟨j, List.mem_range.mpr hj, rfl⟩
  rw [h] at h1
  obtain ⟨i, -, hi⟩ := List.mem_filterMap.mp h1
  exact List.mem_of_getElem? hi
theorem ck_el : ∀ i, i < 33 → ∀ j, j < (txby.map List.length).getD i 0 → Cond.eq (.elem (.field (tm0 i) "java/lang/String" "value" "[B") (.int (Int32.ofNat j))) (.int ((txby.getD i []).getD j 0)) ∈ gvn := by
  intro i hi
  have hc : i = 0 ∨ i = 1 ∨ i = 2 ∨ i = 3 ∨ i = 4 ∨ i = 5 ∨ i = 6 ∨ i = 7 ∨ i = 8 ∨ i = 9 ∨ i = 10 ∨ i = 11 ∨ i = 12 ∨ i = 13 ∨ i = 14 ∨ i = 15 ∨ i = 16 ∨ i = 17 ∨ i = 18 ∨ i = 19 ∨ i = 20 ∨ i = 21 ∨ i = 22 ∨ i = 23 ∨ i = 24 ∨ i = 25 ∨ i = 26 ∨ i = 27 ∨ i = 28 ∨ i = 29 ∨ i = 30 ∨ i = 31 ∨ i = 32 := by omega
  rcases hc with rfl | rfl | rfl | rfl | rfl | rfl | rfl | rfl | rfl | rfl | rfl | rfl | rfl | rfl | rfl | rfl | rfl | rfl | rfl | rfl | rfl | rfl | rfl | rfl | rfl | rfl | rfl | rfl | rfl | rfl | rfl | rfl | rfl
  · exact pl_mem ck_el0
  · exact pl_mem ck_el1
  · exact pl_mem ck_el2
  · exact pl_mem ck_el3
  · exact pl_mem ck_el4
  · exact pl_mem ck_el5
  · exact pl_mem ck_el6
  · exact pl_mem ck_el7
  · exact pl_mem ck_el8
  · exact pl_mem ck_el9
  · exact pl_mem ck_el10
  · exact pl_mem ck_el11
  · exact pl_mem ck_el12
  · exact pl_mem ck_el13
  · exact pl_mem ck_el14
  · exact pl_mem ck_el15
  · exact pl_mem ck_el16
  · exact pl_mem ck_el17
  · exact pl_mem ck_el18
  · exact pl_mem ck_el19
  · exact pl_mem ck_el20
  · exact pl_mem ck_el21
  · exact pl_mem ck_el22
  · exact pl_mem ck_el23
  · exact pl_mem ck_el24
  · exact pl_mem ck_el25
  · exact pl_mem ck_el26
  · exact pl_mem ck_el27
  · exact pl_mem ck_el28
  · exact pl_mem ck_el29
  · exact pl_mem ck_el30
  · exact pl_mem ck_el31
  · exact pl_mem ck_el32
theorem ck_ln : ∀ i, i < 33 → (txby.map List.length).getD i 0 < 2 ^ 31 ∧ (txby.map List.length).getD i 0 = (txby.getD i []).length := by decide +kernel
def tnT : Term := .static "java/lang/Integer" "DigitTens" "[B"
def onT : Term := .static "java/lang/Integer" "DigitOnes" "[B"
set_option maxRecDepth 100000 in
theorem ck_dg : Cond.arrayOf tnT .byte ∈ gvn ∧ Cond.arrayOf onT .byte ∈ gvn ∧ Cond.eq (.length tnT) (.int (Int32.ofNat 100)) ∈ gvn ∧ Cond.eq (.length onT) (.int (Int32.ofNat 100)) ∈ gvn := by decide +kernel
set_option maxRecDepth 100000 in
theorem ck_d1_0 : ((List.range 25).map fun j => Cond.eq (.elem tnT (.int (Int32.ofNat (0 + j)))) (.int (tens.getD (0 + j) 0))) = [115, 116, 117, 118, 119, 120, 121, 122, 123, 124, 125, 126, 127, 128, 129, 130, 131, 132, 133, 134, 135, 136, 137, 138, 139].filterMap (fun i => gvn[i]?) := rfl
set_option maxRecDepth 100000 in
theorem ck_d1_25 : ((List.range 25).map fun j => Cond.eq (.elem tnT (.int (Int32.ofNat (25 + j)))) (.int (tens.getD (25 + j) 0))) = [140, 141, 142, 143, 144, 145, 146, 147, 148, 149, 150, 151, 152, 153, 154, 155, 156, 157, 158, 159, 160, 161, 162, 163, 164].filterMap (fun i => gvn[i]?) := rfl
set_option maxRecDepth 100000 in
theorem ck_d1_50 : ((List.range 25).map fun j => Cond.eq (.elem tnT (.int (Int32.ofNat (50 + j)))) (.int (tens.getD (50 + j) 0))) = [165, 166, 167, 168, 169, 170, 171, 172, 173, 174, 175, 176, 177, 178, 179, 180, 181, 182, 183, 184, 185, 186, 187, 188, 189].filterMap (fun i => gvn[i]?) := rfl
set_option maxRecDepth 100000 in
theorem ck_d1_75 : ((List.range 25).map fun j => Cond.eq (.elem tnT (.int (Int32.ofNat (75 + j)))) (.int (tens.getD (75 + j) 0))) = [190, 191, 192, 193, 194, 195, 196, 197, 198, 199, 200, 201, 202, 203, 204, 205, 206, 207, 208, 209, 210, 211, 212, 213, 214].filterMap (fun i => gvn[i]?) := rfl
theorem ck_d1 : ∀ j, j < 100 → Cond.eq (.elem tnT (.int (Int32.ofNat j))) (.int (tens.getD j 0)) ∈ gvn := by
  intro j hj
  rcases (by omega : j < 25 ∨ 25 ≤ j ∧ j < 50 ∨ 50 ≤ j ∧ j < 75 ∨ 75 ≤ j) with h | h | h | h
  · have := pl_mem ck_d1_0 (j - 0) (by omega)
    rw [show 0 + (j - 0) = j by omega] at this; exact this
  · have := pl_mem ck_d1_25 (j - 25) (by omega)
    rw [show 25 + (j - 25) = j by omega] at this; exact this
  · have := pl_mem ck_d1_50 (j - 50) (by omega)
    rw [show 50 + (j - 50) = j by omega] at this; exact this
  · have := pl_mem ck_d1_75 (j - 75) (by omega)
    rw [show 75 + (j - 75) = j by omega] at this; exact this
set_option maxRecDepth 100000 in
theorem ck_d2_0 : ((List.range 25).map fun j => Cond.eq (.elem onT (.int (Int32.ofNat (0 + j)))) (.int (ones.getD (0 + j) 0))) = [12, 13, 14, 15, 16, 17, 18, 19, 20, 21, 22, 23, 24, 25, 26, 27, 28, 29, 30, 31, 32, 33, 34, 35, 36].filterMap (fun i => gvn[i]?) := rfl
set_option maxRecDepth 100000 in
theorem ck_d2_25 : ((List.range 25).map fun j => Cond.eq (.elem onT (.int (Int32.ofNat (25 + j)))) (.int (ones.getD (25 + j) 0))) = [37, 38, 39, 40, 41, 42, 43, 44, 45, 46, 47, 48, 49, 50, 51, 52, 53, 54, 55, 56, 57, 58, 59, 60, 61].filterMap (fun i => gvn[i]?) := rfl
set_option maxRecDepth 100000 in
theorem ck_d2_50 : ((List.range 25).map fun j => Cond.eq (.elem onT (.int (Int32.ofNat (50 + j)))) (.int (ones.getD (50 + j) 0))) = [62, 63, 64, 65, 66, 67, 68, 69, 70, 71, 72, 73, 74, 75, 76, 77, 78, 79, 80, 81, 82, 83, 84, 85, 86].filterMap (fun i => gvn[i]?) := rfl
set_option maxRecDepth 100000 in
theorem ck_d2_75 : ((List.range 25).map fun j => Cond.eq (.elem onT (.int (Int32.ofNat (75 + j)))) (.int (ones.getD (75 + j) 0))) = [87, 88, 89, 90, 91, 92, 93, 94, 95, 96, 97, 98, 99, 100, 101, 102, 103, 104, 105, 106, 107, 108, 109, 110, 111].filterMap (fun i => gvn[i]?) := rfl
theorem ck_d2 : ∀ j, j < 100 → Cond.eq (.elem onT (.int (Int32.ofNat j))) (.int (ones.getD j 0)) ∈ gvn := by
  intro j hj
  rcases (by omega : j < 25 ∨ 25 ≤ j ∧ j < 50 ∨ 50 ≤ j ∧ j < 75 ∨ 75 ≤ j) with h | h | h | h
  · have := pl_mem ck_d2_0 (j - 0) (by omega)
    rw [show 0 + (j - 0) = j by omega] at this; exact this
  · have := pl_mem ck_d2_25 (j - 25) (by omega)
    rw [show 25 + (j - 25) = j by omega] at this; exact this
  · have := pl_mem ck_d2_50 (j - 50) (by omega)
    rw [show 50 + (j - 50) = j by omega] at this; exact this
  · have := pl_mem ck_d2_75 (j - 75) (by omega)
    rw [show 75 + (j - 75) = j by omega] at this; exact this
set_option maxRecDepth 100000 in
theorem ck_cs : Cond.eq (.static "java/lang/String" "COMPACT_STRINGS" "Z") (.int 1) ∈ gvn ∧ Cond.isRef (.static Bundle.tN "UNASSIGNED_STACK" Bundle.steD) ∈ gvn ∧ Cond.isRef (.static Bundle.tN "SUPPRESSED_SENTINEL" Bundle.listD) ∈ gvn ∧ Cond.isRef (.static "jdk/internal/util/Preconditions" "SIOOBE_FORMATTER" "Ljava/util/function/BiFunction;") ∈ gvn := by decide +kernel
def tbl (w : Cond) : Bool := decide (w ∈ lw_tbl)
theorem ck_st : (tbl (.laysStatic "java/lang/String" "COMPACT_STRINGS" "Z") && tbl (.laysStatic "java/lang/Integer" "DigitTens" "[B") && tbl (.laysStatic "java/lang/Integer" "DigitOnes" "[B") && tbl (.laysStatic Bundle.tN "UNASSIGNED_STACK" Bundle.steD) && tbl (.laysStatic Bundle.tN "SUPPRESSED_SENTINEL" Bundle.listD) && tbl (.initialized "java/lang/String") && tbl (.initialized "java/lang/Integer") && tbl (.initialized Bundle.tN) && tbl (.laysStatic "jdk/internal/util/Preconditions" "SIOOBE_FORMATTER" "Ljava/util/function/BiFunction;") && tbl (.initialized "jdk/internal/util/Preconditions")) = true := by decide +kernel
theorem ck_k : ∀ n, n < 20 → ∀ r ∈ ktab.getD n [], (match r.2 with | .inr k => Nat.blt k 33 && decide (tsrc.getD k ("", 0) = (cnm.getD n "", r.1)) && tbl (.stringRef (cnm.getD n "") r.1 (txts.getD k "")) | .inl _ => true) = true := by decide +kernel
theorem ck_n : ∀ n, n < 20 → ∀ r ∈ ctab.getD n [], (match r.2.1 with | 3 => tbl (.methodLinkNest (cnm.getD n "") r.1 (mi_y (minfo r.2.2)) "LockstepRoom") | 4 => tbl (.methodLinkNest (cnm.getD n "") r.1 (mi_y (minfo r.2.2)) "LockstepRoom") | _ => true) = true := by decide +kernel
theorem ck_x : (tbl (.castable IOB IOB) && tbl (.declares (Bundle.initS "java/lang/RuntimeException")) && tbl (.declares (Bundle.initS "java/lang/Exception")) && tbl (.declares (Bundle.initS "java/lang/Throwable")) && tbl (.arrayOver (.object "LockstepRoom$Member")) && tbl (.arrayOver (.object "LockstepRoom$State")) && tbl (.arrayClass .int) && tbl (.arrayClass .byte) && tbl (.arrayClass .boolean) && tbl (.arrayOver (.object "java/lang/String")) && tbl (.castable "[B" "java/lang/Cloneable")) = true := by decide +kernel
theorem ck_cl : vwCl.all (fun q => (u_ws q.1 q.2.1 q.2.2).all tbl && tbl (.instantiable q.1 q.2.2)) = true := by decide +kernel
end
section
/-! THE CLAIM OUT OF ONE WALK OF THE LAW'S BODY. Your part is whole_start (and what it stands on); all else here is the same for every law, but numbers. -/
def R_law : String := "LockstepRoomLaw"
def lw_P (b : Addr) (xs : List Int32) (args : Array Value) (s : State) : Prop := args = #[.ref b] ∧ s.IntsAt b xs ∧ xs.length ≤ 260 ∧ (Jvm.Cond.and given_1 narrow_1).before args s = true
def lw_Q (_ : Array Value) (s : State) (o : Outcome) (t : State) : Prop := o = .returned (some (.int 1)) ∧ Framed s o t [] 600086 7301442
def lw_Z (below : List Frame) (a : Array Value) (s : State) : State → Prop := fun t => ∃ o, t.status = .running ∧ Ended t below o ∧ lw_Q a s o t
/-- the law's own end, with 1 on the stack, nothing written that was there before, its room as the claim has it -/
theorem lw_ret {p : Program} {l : Launch} {e : Env} {s : State} {m : MethodId} {below : List Frame} {meth : Method} {c : Code} {b : Nat} (hx : p.tables.exec = Jvm.exec) (hb : c.code = code) (hr : meth.sig.returnType = ret) (hlocks : meth.locks = false) {pc : Nat} {H : Heap} {ls : Array Slot} (hdg : decode code pc = .ok (.ireturn, 1)) : W p l e room_1 s m #[Value.ref b] below meth c H [] 600086 7301442 (lw_Z below #[Value.ref b] s) (F0 m pc ls [.int 1]) := by
  intro T hT X
  obtain ⟨fs, hret, hrun, hended, hW, hframe⟩ := X.leave (v := some (.int 1)) (hlocks := hlocks) (fun h => by rw [hr] at h; cases h)
  have hmeth' : T.vm.method? m = some meth := X.method'
  refine ⟨T.setFrames fs, ?_, .returned (some (.int 1)), hrun, hended, rfl, ⟨_, rfl⟩, hW, hframe⟩
  jvm_step X.here [X.here.top, hx, hb, hdg, hmeth', hr, ret, narrow_b1]
  (try refine ⟨rfl, ?_⟩); (try refine ⟨rfl, ?_⟩)
  first | (intro acts; rw [hret _ acts rfl rfl rfl]) | rw [hret _ _ rfl rfl rfl]
  exact Steps.refl _
/-- what holds at the law's entry: the machine, the code, the tables' words (any of lw_tbl by 'hts w (by decide +kernel)'), the script of L ints xs at the cell b, what the Statement gives of the start (any of its parts by flat_of_before) -/
def lw_At (p : Program) (s : State) (m : MethodId) (meth : Method) (c : Code) (b L : Nat) (xs : Nat → Int32) : Prop :=
  p.tables.exec = Jvm.exec ∧ c.code = code ∧ meth.sig.returnType = ret ∧ c.maxLocals = 6 ∧ s.vm.findClass R_law = some m.cls ∧ (∀ w ∈ lw_tbl, w.before #[Value.ref b] s = true) ∧ va_X b L xs s s.heap ∧ b < s.heap.size ∧ meth.locks = false ∧ (Jvm.Cond.and given_1 narrow_1).before #[Value.ref b] s = true
end
section
theorem tbl_ok {s : State} {a9 : Array Value} (hts : ∀ w ∈ lw_tbl, w.before a9 s = true) {w : Cond} (h : tbl w = true) : w.before a9 s = true := hts w (of_decide_eq_true h)
theorem arr_of {s : State} {cA : ClassId} {kA : Class} {comp : ClassId} {ty : FieldType} (h2 : s.vm.classes[cA]? = some kA) (h3 : kA.kind = .array comp ty) : ArrOfT s cA ty := fun n z => ⟨(fun k h => by cases h), kA, h2, comp, h3⟩
theorem lt21 {a : Nat} (h : ¬ a < 33) : (a < 33) = False := by simp [h]
set_option maxHeartbeats 2000000 in
theorem start_world {p : Program} {s : State} {m : MethodId} {meth : Method} {c : Code} {b L : Nat} {xs : Nat → Int32} (hL : L ≤ 260) (C0 : lw_At p s m meth c b L xs) : ∃ (D : va_G) (cA : Nat → ClassId) (ro : Nat → Nat), ro 300 = b ∧ Wd D cA s.heap.size ro (mu0 L xs) s := by
  obtain ⟨hx, hb, hr, hml, hown, hts, hX, hbl, hlk, hgv⟩ := C0
  have hg : ∀ w ∈ gvn, w.before #[Value.ref b] s = true := flat_of_before _ hgv
  have hA : ∀ a : Nat, a < s.heap.size → ¬ isO s.heap.size a := fun a h q => Nat.not_lt.mpr q h
  -- the classes
  have hkn : ∀ c : Nat, ∃ d : ClassId × (Nat → Nat), ∀ q, vwCl[c]? = some q → u_Kn s q.1 q.2.1 q.2.2 d.1 d.2 := by
    intro c
    cases hq : vwCl[c]? with
    | none => exact ⟨(0, fun _ => 0), fun q h => by cases h⟩
    | some q =>
      have h1 := List.all_eq_true.mp ck_cl q (List.mem_of_getElem? hq)
      rw [Bool.and_eq_true] at h1
      obtain ⟨cC, iS, hk⟩ := u_known (ws := lw_tbl) hts (fun w hw => of_decide_eq_true (List.all_eq_true.mp h1.1 w hw)) (tbl_ok hts h1.2)
      exact ⟨(cC, iS), fun q' h => by cases h; exact hk⟩
  obtain ⟨f, hf⟩ := Classical.axiomOfChoice hkn
  have hxs := ck_x
  simp only [Bool.and_eq_true] at hxs
  obtain ⟨⟨⟨⟨⟨⟨⟨⟨⟨⟨x1, x2⟩, x3⟩, x4⟩, x5⟩, x6⟩, x7⟩, x8⟩, x9⟩, x10⟩, x11⟩ := hxs
  obtain ⟨c20, k20, m20, a1, a2, a3⟩ := Cond.arrayClass_spec (args := #[Value.ref b]) (first := s) (o := none) (s := s) (idx := []) (tbl_ok hts x7)
  obtain ⟨c21, k21, m21, b1, b2, b3⟩ := Cond.arrayClass_spec (args := #[Value.ref b]) (first := s) (o := none) (s := s) (idx := []) (tbl_ok hts x8)
  obtain ⟨c22, k22, m22, d1, d2, d3⟩ := Cond.arrayClass_spec (args := #[Value.ref b]) (first := s) (o := none) (s := s) (idx := []) (tbl_ok hts x9)
  obtain ⟨m23, c23, k23, e1, e2, e3, e4, e5⟩ := Cond.arrayOver_spec (args := #[Value.ref b]) (first := s) (o := none) (s := s) (idx := []) (tbl_ok hts x5)
  obtain ⟨m24, c24, k24, f1, f2, f3, f4, f5⟩ := Cond.arrayOver_spec (args := #[Value.ref b]) (first := s) (o := none) (s := s) (idx := []) (tbl_ok hts x6)
  obtain ⟨m26, c26, k26, h1, h2, h3, h4, h5⟩ := Cond.arrayOver_spec (args := #[Value.ref b]) (first := s) (o := none) (s := s) (idx := []) (tbl_ok hts x10)
  -- the texts
  have hstr : ∀ i : Nat, ∃ q : Nat × Nat, i < 33 → (tm0 i).eval #[Value.ref b] s none [] s = some (.ref q.1) ∧ va_O "java/lang/String" q.1 (isO s.heap.size) s s.heap ∧ va_OF "java/lang/String" "coder" "B" (.int 0) q.1 (isO s.heap.size) s s.heap ∧ va_OF "java/lang/String" "value" "[B" (.ref q.2) q.1 (isO s.heap.size) s s.heap ∧ va_T .byte q.2 ((txby.getD i []).length) (fun j => .int ((txby.getD i []).getD j 0)) (isO s.heap.size) s s.heap := by
    intro i
    by_cases hi : i < 33
    · obtain ⟨a, c, cA, kA, q1, q2, q3, q4, q5, q6, -⟩ := Cond.exactly_spec (args := #[Value.ref b]) (first := s) (o := none) (s := s) (idx := []) (t := tm0 i) (cls := "java/lang/String") (hg _ (ck_ex i hi))
      obtain ⟨t, ht, hT⟩ := va_Tof (f := fun j => .int ((txby.getD i []).getD j 0)) (A := isO s.heap.size) (ck_ln i hi).1 (hg _ (ck_ar i hi)) (va_eqt (hg _ (ck_le i hi))) (fun j hj => va_eqt (hg _ (ck_el i hi j hj))) hA
      rw [(ck_ln i hi).2] at hT
      exact ⟨(a, t), fun _ => ⟨q1, ⟨cA, q3, q5, by rw [q6]; exact q2, hA a (Array.getElem?_eq_some_iff.mp q3).1⟩, vk_OFof q1 (va_eqt (hg _ (ck_co i hi))) hA, vk_OFof q1 ht hA, hT⟩⟩
    · exact ⟨(0, 0), fun h => absurd h hi⟩
  obtain ⟨ad, had⟩ := Classical.axiomOfChoice hstr
  obtain ⟨tT, hT1, hT2⟩ := va_Tof (f := fun j => .int (tens.getD j 0)) (A := isO s.heap.size) (N := 100) (by decide) (hg _ ck_dg.1) (va_eqt (hg _ ck_dg.2.2.1)) (fun j hj => va_eqt (hg _ (ck_d1 j hj))) hA
  obtain ⟨tO, hO1, hO2⟩ := va_Tof (f := fun j => .int (ones.getD j 0)) (A := isO s.heap.size) (N := 100) (by decide) (hg _ ck_dg.2.1) (va_eqt (hg _ ck_dg.2.2.2)) (fun j hj => va_eqt (hg _ (ck_d2 j hj))) hA
  have hst := ck_st
  simp only [Bool.and_eq_true] at hst
  obtain ⟨⟨⟨⟨⟨⟨⟨⟨⟨s1, s2⟩, s3⟩, s4⟩, s5⟩, s6⟩, s7⟩, s8⟩, s9⟩, s10⟩ := hst
  obtain ⟨vF, hF1, hF2⟩ := Cond.isRef_spec (args := #[Value.ref b]) (first := s) (o := none) (s := s) (idx := []) (hg _ ck_cs.2.2.2)
  obtain ⟨qF, hF3⟩ : ∃ q, vF = .ref q ∨ vF = .null := by
    cases vF
    all_goals first
      | exact ⟨_, Or.inl rfl⟩
      | exact ⟨0, Or.inr rfl⟩
      | cases hF2
  refine ⟨(fun c => (f c).1, fun c => (f c).2), fun k => match k with | 20 => c20 | 21 => c21 | 23 => c23 | 24 => c24 | 25 => c22 | _ => c26,
    fun a => if a < 33 then (ad a).1 else if 100 ≤ a ∧ a < 133 then (ad (a - 100)).2 else if a = 200 then tT else if a = 201 then tO else if a = 301 then qF else b, ?_, ?_, ?_, ?_⟩
  · simp
  · refine ⟨rfl, Nat.le_refl _, fun a ha hk => ?_⟩
    exfalso
    have : mS (mu0 L xs) a = (99, 0) := by
      show k0 L a = _
      unfold k0
      rw [if_neg (by omega), if_neg (by omega), if_neg (by omega), if_neg (by omega), if_neg (by omega)]
    rw [this] at hk
    exact absurd hk (by decide)
  · refine ⟨fun c q hq => hf c q hq, fun k q hq => ?_⟩
    have hk : k < 7 := (List.getElem?_eq_some_iff.mp hq).1
    rcases (by omega : k = 0 ∨ k = 1 ∨ k = 2 ∨ k = 3 ∨ k = 4 ∨ k = 5 ∨ k = 6) with rfl | rfl | rfl | rfl | rfl | rfl | rfl <;> cases hq
    · exact ⟨arr_of a2 a3, a1⟩
    · exact ⟨arr_of b2 b3, b1⟩
    · exact ⟨arr_of b2 b3, b1⟩
    · exact ⟨arr_of e3 e4, k23, m23, e3, e4, e1, e5⟩
    · exact ⟨arr_of f3 f4, k24, m24, f3, f4, f1, f5⟩
    · exact ⟨arr_of d2 d3, d1⟩
    · exact ⟨arr_of h3 h4, k26, m26, h3, h4, h1, h5⟩
  · refine ⟨fun a ha => ?_, fun k hk => ?_, ⟨vx_Zqof (tbl_ok hts s4) (tbl_ok hts s8) (hg _ ck_cs.2.1) hA, vx_Zqof (tbl_ok hts s5) (tbl_ok hts s8) (hg _ ck_cs.2.2.1) hA⟩, fun n hn r hr k hk => ?_, fun n hn r hr hk => ?_, ⟨va_Nw.of rfl (tbl_ok hts x1), fun Y hY => ?_⟩, va_AO.of (tbl_ok hts x5), va_AO.of (tbl_ok hts x6), va_AO.of (tbl_ok hts x10), va_Nw.of rfl (tbl_ok hts x11)⟩
    · rw [show mS (mu0 L xs) a = k0 L a from rfl, show mI (mu0 L xs) a = i0 xs a from rfl, show mR (mu0 L xs) a = r0 a from rfl]
      by_cases h1 : a < 33
      · have e : k0 L a = (0, 4) := by unfold k0; rw [if_pos h1]
        rw [e]
        refine ⟨(fun z => by cases z), (fun z => by cases z), fun _ => ?_, Or.inl rfl⟩
        obtain ⟨g1, g2, g3, g4, g5⟩ := had a h1
        have ei : i0 xs a 1 = 0 := by unfold i0; rw [if_pos h1]
        dsimp only
        rw [if_pos h1, ei]
        refine ⟨g2, g3, 100 + a, by unfold r0; rw [if_pos ⟨h1, rfl⟩], by omega, ?_⟩
        rw [if_neg (by omega), if_pos (by omega), show 100 + a - 100 = a by omega]
        exact g4
      · by_cases h2 : 100 ≤ a ∧ a < 133
        · have e : k0 L a = (21, (txby.getD (a - 100) []).length) := by unfold k0; rw [if_neg h1, if_pos h2]
          have ei : i0 xs a = fun k => (txby.getD (a - 100) []).getD k 0 := by funext k; unfold i0; rw [if_neg h1, if_pos h2]
          rw [e, ei]
          refine ⟨(fun z => by cases z), fun _ => ?_, (fun z => by cases z), Or.inr (Or.inr (Or.inl rfl))⟩
          dsimp only
          rw [if_neg h1, if_pos h2]
          exact (had (a - 100) (by omega)).2.2.2.2
        · by_cases h3 : a = 200
          · subst h3
            have e : k0 L 200 = (21, 100) := rfl
            rw [e]
            refine ⟨(fun z => by cases z), fun _ => hT2, (fun z => by cases z), Or.inr (Or.inr (Or.inl rfl))⟩
          · by_cases h4 : a = 201
            · subst h4
              have e : k0 L 201 = (21, 100) := rfl
              rw [e]
              refine ⟨(fun z => by cases z), fun _ => hO2, (fun z => by cases z), Or.inr (Or.inr (Or.inl rfl))⟩
            · by_cases h5 : a = 300
              · subst h5
                have e : k0 L 300 = (20, L) := rfl
                rw [e]
                refine ⟨fun _ => ?_, (fun z => by cases z), (fun z => by cases z), Or.inr (Or.inl rfl)⟩
                obtain ⟨scr, y1, y2, y3, y4, y5⟩ := hX
                refine ⟨scr, y1, y2, y3, by rw [y4]; exact Nat.le_refl _, (by rw [y4] : scr.slots.size.toInt32 = Int32.ofNat L), fun j hj => ?_, hA b hbl⟩
                have : i0 xs 300 j = xs j := rfl
                show scr.slots[j]? = some (Value.int (i0 xs 300 j))
                rw [this]
                exact y5 j hj
              · have e : k0 L a = (99, 0) := by unfold k0; rw [if_neg h1, if_neg h2, if_neg h3, if_neg h4, if_neg h5]
                rw [e]
                exact ⟨(fun z => by cases z), (fun z => by cases z), (fun z => by cases z), Or.inr (Or.inr (Or.inr rfl))⟩
    · rcases (by omega : k = 0 ∨ k = 1 ∨ k = 2 ∨ k = 3) with rfl | rfl | rfl | rfl
      · exact ⟨_, Or.inl rfl, va_Zof (tbl_ok hts s1) (tbl_ok hts s6) (va_eqi (hg _ ck_cs.1)) hA⟩
      · exact ⟨_, Or.inl rfl, va_Zof (tbl_ok hts s2) (tbl_ok hts s7) hT1 hA⟩
      · exact ⟨_, Or.inl rfl, va_Zof (tbl_ok hts s3) (tbl_ok hts s7) hO1 hA⟩
      · rcases hF3 with rfl | rfl
        · exact ⟨_, Or.inl rfl, va_Zof (tbl_ok hts s9) (tbl_ok hts s10) hF1 hA⟩
        · exact ⟨_, Or.inr ⟨rfl, rfl⟩, va_Zof (tbl_ok hts s9) (tbl_ok hts s10) hF1 hA⟩
    · have h1 := ck_k n hn r hr
      rw [hk] at h1
      simp only [Bool.and_eq_true] at h1
      obtain ⟨⟨g1, g2⟩, g3⟩ := h1
      have hk21 : k < 33 := by simpa using g1
      refine ⟨by omega, vk_R.of (tbl_ok hts g3) ?_⟩
      have h2 := (had k hk21).1
      unfold tm0 at h2
      rw [of_decide_eq_true g2] at h2
      dsimp only
      rw [if_pos hk21]
      exact h2
    · have h1 := ck_n n hn r hr
      rcases hk with hk | hk <;> (rw [hk] at h1; exact va_Nw.of rfl (tbl_ok hts h1))
    · simp only [List.mem_cons, List.not_mem_nil, or_false] at hY
      rcases hY with rfl | rfl | rfl
      · exact va_Nw.of rfl (tbl_ok hts x2)
      · exact va_Nw.of rfl (tbl_ok hts x3)
      · exact va_Nw.of rfl (tbl_ok hts x4)
/-- the law's end is what the claim asks -/
theorem law_end {s t : State} {below : List Frame} {b : Nat} {D : va_G} {cA : Nat → ClassId} {ro : Nat → Nat} {μ0 : Mu} (h : vx_MQ below (QcO D cA s.heap.size ro (fun o _ => o = some (some (.int 1))) μ0) (XCO D cA s.heap.size ro (fun o _ => o = some (some (.int 1))) μ0 false) #[Value.ref b] s 600086 7301442 (isO s.heap.size) t) : lw_Z below #[Value.ref b] s t := by
  obtain ⟨o, hrun, hend, h⟩ := h
  rcases h with ⟨⟨v, μ', ho, hq, -⟩, L, hF, hL⟩ | ⟨q, -, E, ce, L, ⟨-, hth, -⟩, -⟩
  · have hv : v = some (.int 1) := Option.some.inj hq
    subst hv
    refine ⟨o, hrun, hend, ho, ?_⟩
    exact ⟨⟨_, ho⟩, hF.2.1, hF.2.2.drop_fresh (L := []) (J := L) hL⟩
  · cases hth
theorem cL_eq : mi_c mi194 = code := rfl
theorem minfo194 : minfo 194 = mi194 := rfl
/-- THE LAW: if the small machine brings the law to its end with true, so does the big one -/
theorem law_walked {p : Program} {e : Env} {s : State} {m : MethodId} {below : List Frame} {meth : Method} {c : Code} (l : Launch) (hflags : l.flags = flags0) {b L : Nat} {xs : Nat → Int32} (hL : L ≤ 260) (C0 : lw_At p s m meth c b L xs) (hE : E (Ev 9) mi194 0 (ent [.ref 300] 6) [] (mu0 L xs) (0, 0) (fun o _ => o = some (some (.int 1)))) :
    W p l e room_1 s m #[Value.ref b] below meth c s.heap [] 0 0 (lw_Z below #[Value.ref b] s) (entryFrame m ([Value.ref b] : List Value).toArray 6) := by
  have C1 := C0
  obtain ⟨D, cA, ro, hro, hP, hK, hRO⟩ := start_world hL C0
  obtain ⟨hx, hb, hr, hml, hown, hts, hX, hbl, hlk, hgv⟩ := C1
  have hl : l.stackTraces = false := by unfold Launch.stackTraces; rw [hflags]; decide
  have hM : mi194 ∈ mtab := by rw [← minfo194]; exact minfo_mem (by omega)
  have C : Ctx p room_1 s m #[Value.ref b] c mi194 D cA s.heap.size :=
    ⟨hx, hb, hml, hown, fun w hw => lwE_ok hts w (List.mem_filter.mp hw).1, hK, Nat.le_refl _, by decide, rfl, rfl, by decide, by decide⟩
  have hr2 : room_1.frames = 15 ∧ room_1.locals = 578 := ⟨rfl, rfl⟩
  have h9 := hE (XW p l e room_1 s m #[Value.ref b] below meth c (vx_MQ below (QcO D cA s.heap.size ro (fun o _ => o = some (some (.int 1))) (mu0 L xs)) (XCO D cA s.heap.size ro (fun o _ => o = some (some (.int 1))) (mu0 L xs) false) #[Value.ref b] s 600086 7301442 (isO s.heap.size)) D cA s.heap.size ro mi194 (mu0 L xs))
    fun pc ls st μ1 u ⟨ins, n, h1, h2, h3⟩ => sim_stp C (fun h => absurd h (by decide)) hr hlk hl (fun hth => by cases hth) rfl (sim_inv (ctr_all hl 9) C hM (fun z => by cases z) hlk (by rw [hr2.1]; decide) (by rw [hr2.2]; decide) rfl) h1 h2 h3
  have h7 := h9 s.heap [] _ ⟨hP, ⟨hRO, Sm.rfl'⟩, va_S.rf, lr_entry (M := mi194) (vs := [.ref 300]) rfl (fun v hv => by cases List.mem_singleton.mp hv; rfl) (by decide), ⟨Nat.zero_le _, Nat.zero_le _⟩⟩
  have he : entryFrame m ([Value.ref b] : List Value).toArray 6 = F0 m 0 ((([Value.ref 300].map (rV s.heap.size ro)).map Slot.val ++ List.replicate (mi_L mi194 - ([Value.ref 300].map (rV s.heap.size ro)).length) Slot.unset).toArray) [] := by
    have e1 : [Value.ref 300].map (rV s.heap.size ro) = [Value.ref b] := by
      show [Value.ref (rA s.heap.size ro 300)] = _
      rw [rA_ro (by omega), hro]
    rw [e1]
    exact entry_eq m _ (fun v hv => by cases List.mem_singleton.mp hv; rfl) _
  rw [he]
  intro T hT X
  obtain ⟨t, a1, b1⟩ := h7 T hT X
  exact ⟨t, a1, law_end b1⟩
end
