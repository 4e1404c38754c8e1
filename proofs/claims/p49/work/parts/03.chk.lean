abbrev IOB : String := "java/lang/IndexOutOfBoundsException"
/-! the tables against the Statement's words, by the kernel -/
/-- words more: a private method of the class above, found by a receiver of the class below -/
def lwX : List Jvm.Cond := [.selects "java/lang/StringBuilder" yJ5_ensureCapacityInternal_d00df yJ5_ensureCapacityInternal_d00df, .selects "java/lang/StringBuilder" yJ5_newCapacity_0f7a4 yJ5_newCapacity_0f7a4, .selects "java/lang/StringBuilder" yJ5_putStringAt_47b60 yJ5_putStringAt_47b60, .selects "java/lang/StringBuilder" yJ5_inflateIfNeededFor_a7421 yJ5_inflateIfNeededFor_a7421]
theorem selPriv {C : String} {y z : MethodName} {s : State} {args : Array Value} {n : Nat} (hy : y.cls ≠ "java/lang/invoke/MethodHandle" ∧ y.cls ≠ "java/lang/invoke/VarHandle") (hz : z.cls = y.cls)
    (hins : (Cond.instantiable C n).before args s = true) (hpriv : (Cond.privateMethod y).before args s = true) (hinst : (Cond.instanceMethod y).before args s = true) (hsel : (Cond.selects C z z).before args s = true) :
    (Cond.selects C y y).before args s = true := by
  obtain ⟨c, k, hc, hk, -, -, -, -⟩ := Cond.instantiable_spec hins
  obtain ⟨mk, methM, hnamed, hmethM, -, -⟩ := Cond.instanceMethod_spec hinst
  obtain ⟨c2, r2, m2, q1, q2, q3, q4, kP, hkP, hkPi⟩ := Cond.selects_spec hsel
  have hfound : s.methodFound? y.cls y.name y.desc = some mk := State.methodFound?_of_named hnamed hy
  have hcls : m2.cls = mk.cls := by
    have e1 := findClass_of_methodNamed hnamed
    have e2 := findClass_of_methodNamed q3
    rw [hz] at e2
    exact Option.some.inj (e2.symm.trans e1)
  rw [hcls] at hkP
  have hsel : selectMethod {} s.vm c mk = .method mk := selectMethod_private hmethM (Cond.privateMethod_at hpriv mk methM hnamed hmethM)
  simp only [Cond.before, Cond.holds, Cond.value, hc, hfound, hnamed, hsel, hkP]
  simp; exact hkPi
theorem lwX_ok {args : Array Value} {s : State} (hts : ∀ w ∈ lw_tbl, w.before args s = true) : ∀ w ∈ lwX, w.before args s = true := by
  have h1 := hts (.instantiable "java/lang/StringBuilder" 4) (by decide +kernel)
  have h2 := hts (.selects "java/lang/StringBuilder" yJ5_isLatin1_aae02 yJ5_isLatin1_aae02) (by decide +kernel)
  intro w hw
  simp only [lwX, List.mem_cons, List.not_mem_nil, or_false] at hw
  rcases hw with rfl | rfl | rfl | rfl
  · exact selPriv (z := yJ5_isLatin1_aae02) (by decide +kernel) rfl h1 (hts _ (by decide +kernel)) (hts _ (by decide +kernel)) h2
  · exact selPriv (z := yJ5_isLatin1_aae02) (by decide +kernel) rfl h1 (hts _ (by decide +kernel)) (hts _ (by decide +kernel)) h2
  · exact selPriv (z := yJ5_isLatin1_aae02) (by decide +kernel) rfl h1 (hts _ (by decide +kernel)) (hts _ (by decide +kernel)) h2
  · exact selPriv (z := yJ5_isLatin1_aae02) (by decide +kernel) rfl h1 (hts _ (by decide +kernel)) (hts _ (by decide +kernel)) h2
def lwE : List Jvm.Cond := lwX ++ lw_tbl
theorem lwE_ok {args : Array Value} {s : State} (hts : ∀ w ∈ lw_tbl, w.before args s = true) : ∀ w ∈ lwE, w.before args s = true := fun w h => (List.mem_append.mp h).elim (lwX_ok hts w) (hts w)
def ALLG : List Jvm.Cond := lwE.filter goodWord
def inG (w : Jvm.Cond) : Bool := decide (w ∈ lwE) && goodWord w
theorem inG_mem {w : Jvm.Cond} (h : inG w = true) : w ∈ ALLG := by
  unfold inG at h
  rw [Bool.and_eq_true, decide_eq_true_eq] at h
  exact List.mem_filter.mpr h
theorem allG_good : ∀ w ∈ ALLG, goodWord w = true := fun w h => (List.mem_filter.mp h).2
def kcl (ci : Nat) : vw_C := vwCl.getD ci (RJ0, TJ0, 4)
def kds : List Nat := [0, 1, 4, 5, 6, 7, 8, 9, 10, 11]
theorem chkK : ∀ ci ∈ kds, vwCl[ci]? = some (kcl ci) ∧ (kcl ci).2.2 = cnf ci := by
  intro ci h
  simp only [kds, List.mem_cons, List.not_mem_nil, or_false] at h
  rcases h with rfl | rfl | rfl | rfl | rfl | rfl | rfl | rfl | rfl | rfl <;> exact ⟨rfl, rfl⟩
theorem chkT : ∀ ci ∈ kds, ∀ k, k < cnf ci → parseFieldDescriptor ((kcl ci).2.1 k).2.2.1 = some (fty ci k) ∧ ffin ci k = ((kcl ci).2.1 k).2.2.2 := by decide +kernel
theorem chkN : ∀ ci ∈ kds, ∀ a, a < cnf ci → ∀ b, b < cnf ci → a ≠ b → ((kcl ci).2.1 a).2.1 ≠ ((kcl ci).2.1 b).2.1 := by decide +kernel
theorem chkF : ∀ n, n < 20 → ∀ r ∈ ftab.getD n [], r.2.1 ∈ kds ∧ r.2.2 < cnf r.2.1 ∧ inG (.fieldLink (cnm.getD n "") r.1 ((kcl r.2.1).2.1 r.2.2).1 ((kcl r.2.1).2.1 r.2.2).2.1 ((kcl r.2.1).2.1 r.2.2).2.2.1) = true := by decide +kernel
theorem chkU : ∀ ci ∈ kds, ∀ w ∈ u_ws (kcl ci).1 (kcl ci).2.1 (kcl ci).2.2, inG w = true := by decide +kernel
theorem chkO : ∀ n, n < 20 → rkl.getD n 99 ∈ kds → n ∉ [1, 2] → (kcl (rkl.getD n 99)).1 = cnm.getD n "" ∧ ∀ k, k < cnf (rkl.getD n 99) → ((kcl (rkl.getD n 99)).2.1 k).1 = cnm.getD n "" := by decide +kernel
theorem chkNw : ∀ n, n < 20 → ∀ r ∈ ntab.getD n [], r.2 ≠ 100 → r.2 ∈ kds ∧ inG (.classLink (cnm.getD n "") r.1 (kcl r.2).1) = true ∧ inG (.instantiable (kcl r.2).1 (cnf r.2)) = true ∧ inG (.initialized (kcl r.2).1) = true := by decide +kernel
theorem chkKt : ∀ n, n < 20 → ∀ r ∈ ktab.getD n [], ∀ v, r.2 = .inl v → inG (.constant (cnm.getD n "") r.1 v) = true := by
  intro n hn r hr v hv
  have h : ∀ n, n < 20 → ∀ r ∈ ktab.getD n [], (match r.2 with | .inl v => inG (.constant (cnm.getD n "") r.1 v) | .inr _ => true) = true := by decide +kernel
  have h1 := h n hn r hr
  rw [hv] at h1
  exact h1
theorem chkLt : ∀ n, n < 20 → ∀ r ∈ ltab.getD n [], inG (.constantLong (cnm.getD n "") r.1 r.2) = true := by decide +kernel
theorem chkSt : ∀ n, n < 20 → ∀ r ∈ stab.getD n [], r.2 < 4 ∧ inG (.fieldLink (cnm.getD n "") r.1 (snm r.2).1 (snm r.2).2.1 (snm r.2).2.2) = true := by decide +kernel
theorem chkA : inG (.arrayClass .int) = true ∧ inG (.arrayClass .byte) = true ∧ inG (.arrayClass .boolean) = true := by decide +kernel
theorem chkCC : inG (.classLink "java/util/Arrays" 311 "[B") = true := by decide +kernel
abbrev cln : MethodName := ⟨"java/lang/Object", "clone", "()Ljava/lang/Object;"⟩
abbrev clnB : MethodName := ⟨"[B", "clone", "()Ljava/lang/Object;"⟩
/-- the word of a method's code -/
def mw (M : MI) : Jvm.Cond := match mi_hd M with
  | none => .code (mi_y M) (mi_c M) (mi_L M) (mi_rt M)
  | some (f, t, h, _, _) => .codeWith (mi_y M) (mi_c M) (mi_L M) (mi_rt M) [(f, t, h, 13)]
def ws (M : MI) : List Jvm.Cond := mw M :: ALLG
/-- the words of a call -/
def cwd (n idx k j : Nat) : List Jvm.Cond := match k with
  | 9 => [.methodLink (cnm.getD n "") idx objectInit, .instanceMethod objectInit]
  | 10 => [.methodLink (cnm.getD n "") idx arraycopyName, .native arraycopyName, .static arraycopyName, .initialized "java/lang/System"]
  | 12 => [.methodLink (cnm.getD n "") idx Lib.Math.max.name, .static Lib.Math.max.name, .initialized "java/lang/Math"]
  | 13 => [.methodLink (cnm.getD n "") idx Lib.Math.min.name, .static Lib.Math.min.name, .initialized "java/lang/Math"]
  | 14 => [.methodLink (cnm.getD n "") idx clnB, .sameMethod "[B" "java/lang/Object" "clone" "()Ljava/lang/Object;", .native cln, .instanceMethod cln, .selects "[B" clnB cln]
  | 15 => [.methodLink (cnm.getD n "") idx (mi_y (minfo 7)), .sameMethod (mi_y (minfo 7)).cls (mi_y (minfo 7)).cls (mi_y (minfo 7)).name (mi_y (minfo 7)).desc, .instanceMethod (mi_y (minfo 7)), .selects (kcl (rkd j)).1 (mi_y (minfo 7)) (mi_y (minfo j)), .instanceMethod (mi_y (minfo j)), .initialized (mi_y (minfo j)).cls]
  | 1 => [.methodLink (cnm.getD n "") idx (mi_y (minfo j)), .static (mi_y (minfo j)), .initialized (mi_y (minfo j)).cls]
  | 8 => [.methodLink (cnm.getD n "") idx (mi_y (minfo j)), .static (mi_y (minfo j)), .initialized (mi_y (minfo j)).cls]
  | 11 => [.methodLink (cnm.getD n "") idx (mi_y (minfo j)), .static (mi_y (minfo j)), .initialized (mi_y (minfo j)).cls]
  | 2 => [.methodLink (cnm.getD n "") idx (mi_y (minfo j)), .instanceMethod (mi_y (minfo j)), .initialized (mi_y (minfo j)).cls]
  | 3 => [.instanceMethod (mi_y (minfo j)), .initialized (mi_y (minfo j)).cls]
  | 4 => [.static (mi_y (minfo j)), .initialized (mi_y (minfo j)).cls]
  | 5 => [.methodLink (cnm.getD n "") idx (mi_y (minfo j)), .sameMethod (mi_y (minfo j)).cls (mi_y (minfo j)).cls (mi_y (minfo j)).name (mi_y (minfo j)).desc, .selects (kcl (rkd j)).1 (mi_y (minfo j)) (mi_y (minfo j)), .instanceMethod (mi_y (minfo j)), .initialized (mi_y (minfo j)).cls]
  | 6 => [.methodLink (cnm.getD n "") idx (mi_y (minfo j)), .sameMethod (mi_y (minfo j)).cls (mi_y (minfo j)).cls (mi_y (minfo j)).name (mi_y (minfo j)).desc, .superclass (cnm.getD n "") (mi_y (minfo j)).cls, .instanceMethod (mi_y (minfo j)), .initialized (mi_y (minfo j)).cls]
  | _ => [.methodLink (cnm.getD n "") idx (mi_y (minfo j)), .instanceMethod (mi_y (minfo j)), .selects (mi_y (minfo j)).cls (mi_y (minfo j)) (mi_y (minfo j)), .initialized (mi_y (minfo j)).cls]
/-- what else a call's kind asks of its method -/
def npar (j : Nat) : Option Nat := (parseMethodDescriptor (mi_y (minfo j)).desc).map (fun d => d.parameters.length)
def cok (k j : Nat) : Prop := match k with
  | 9 => True
  | 10 => True
  | 12 => True
  | 13 => True
  | 14 => True
  | 15 => j < 194 ∧ mi_hd (minfo j) = none ∧ (npar j).map (· + 1) = some (mi_na (minfo j)) ∧ mi_th (minfo j) = false ∧ (mi_y (minfo j)).name ≠ "<init>" ∧ rkd j ∈ kds ∧ j = 5
  | 1 => j < 194 ∧ mi_hd (minfo j) = none ∧ npar j = some (mi_na (minfo j)) ∧ mi_th (minfo j) = false
  | 4 => j < 194 ∧ mi_hd (minfo j) = none ∧ npar j = some (mi_na (minfo j)) ∧ mi_th (minfo j) = false
  | 11 => j < 194 ∧ mi_hd (minfo j) = none ∧ npar j = some (mi_na (minfo j)) ∧ mi_th (minfo j) = true
  | 8 => j < 194 ∧ (mi_hd (minfo j)).isSome = true ∧ npar j = some (mi_na (minfo j)) ∧ mi_th (minfo j) = false
  | 2 => j < 194 ∧ mi_hd (minfo j) = none ∧ (npar j).map (· + 1) = some (mi_na (minfo j)) ∧ mi_th (minfo j) = false ∧ (mi_y (minfo j)).name = "<init>" ∧ mi_rt (minfo j) = none
  | 3 => j < 194 ∧ mi_hd (minfo j) = none ∧ (npar j).map (· + 1) = some (mi_na (minfo j)) ∧ mi_th (minfo j) = false ∧ (mi_y (minfo j)).name = "<init>" ∧ mi_rt (minfo j) = none
  | 0 => j < 194 ∧ mi_hd (minfo j) = none ∧ (npar j).map (· + 1) = some (mi_na (minfo j)) ∧ mi_th (minfo j) = false ∧ (mi_y (minfo j)).name ≠ "<init>" ∧ rkd j ∈ kds ∧ (kcl (rkd j)).1 = (mi_y (minfo j)).cls
  | 7 => j < 194 ∧ mi_hd (minfo j) = none ∧ (npar j).map (· + 1) = some (mi_na (minfo j)) ∧ mi_th (minfo j) = true ∧ (mi_y (minfo j)).name ≠ "<init>" ∧ rkd j ∈ kds ∧ (kcl (rkd j)).1 = (mi_y (minfo j)).cls
  | 5 => j < 194 ∧ mi_hd (minfo j) = none ∧ (npar j).map (· + 1) = some (mi_na (minfo j)) ∧ mi_th (minfo j) = false ∧ (mi_y (minfo j)).name ≠ "<init>" ∧ rkd j ∈ kds
  | 6 => j < 194 ∧ mi_hd (minfo j) = none ∧ (npar j).map (· + 1) = some (mi_na (minfo j)) ∧ mi_th (minfo j) = false ∧ (mi_y (minfo j)).name ≠ "<init>" ∧ rkd j ∈ kds
  | _ => False
def cokd (k j : Nat) : Decidable (cok k j) := by
  unfold cok
  split <;> exact inferInstance
set_option maxRecDepth 100000 in
theorem cq_0_0 : (((ctab.getD 0 []).drop 0).take 20).flatMap (fun r => cwd 0 r.1 r.2.1 r.2.2) = [541, 82, 556, 557, 52, 497, 424, 423, 53, 460, 461, 462, 46, 538, 539, 46, 646, 647, 648, 46, 650, 651, 55, 547, 549, 548, 550, 551, 45, 542, 544, 545, 543, 44, 555, 427, 428, 426, 44, 621, 622, 54].filterMap (fun i => lwE[i]?) := rfl
set_option maxRecDepth 100000 in
theorem cq_1_0 : (((ctab.getD 1 []).drop 0).take 20).flatMap (fun r => cwd 1 r.1 r.2.1 r.2.2) = [273, 274, 44, 383, 1216, 298, 384, 44, 606, 1224, 298, 607, 44, 506, 1223, 298, 507, 44, 535, 536, 46, 553, 549, 298, 548, 44].filterMap (fun i => lwE[i]?) := rfl
set_option maxRecDepth 100000 in
theorem cq_2_0 : (((ctab.getD 2 []).drop 0).take 20).flatMap (fun r => cwd 2 r.1 r.2.1 r.2.2) = [276, 82, 456, 457, 458, 46, 473, 461, 462, 46, 425, 427, 428, 426, 44, 390, 1218, 0, 392, 44, 394, 1219, 1, 396, 44, 409, 410, 52, 398, 399, 50, 609, 610, 55, 465, 1220, 2, 467, 44, 509, 510, 57, 512, 513, 57, 469, 1221, 3, 471, 44, 493, 494, 495, 46].filterMap (fun i => lwE[i]?) := rfl
set_option maxRecDepth 100000 in
theorem cq_5_0 : (((ctab.getD 5 []).drop 0).take 20).flatMap (fun r => cwd 5 r.1 r.2.1 r.2.2) = [422, 424, 423, 53, 419, 420, 51, 412, 413, 414, 415, 416, 559, 560, 52, 562, 563, 52].filterMap (fun i => lwE[i]?) := rfl
set_option maxRecDepth 100000 in
theorem cq_6_0 : (((ctab.getD 6 []).drop 0).take 20).flatMap (fun r => cwd 6 r.1 r.2.1 r.2.2) = [653, 619, 46].filterMap (fun i => lwE[i]?) := rfl
set_option maxRecDepth 100000 in
theorem cq_7_0 : (((ctab.getD 7 []).drop 0).take 20).flatMap (fun r => cwd 7 r.1 r.2.1 r.2.2) = [401, 402, 51].filterMap (fun i => lwE[i]?) := rfl
set_option maxRecDepth 100000 in
theorem cq_10_0 : (((ctab.getD 10 []).drop 0).take 20).flatMap (fun r => cwd 10 r.1 r.2.1 r.2.2) = [304, 82, 308, 49, 837, 838, 839, 49, 833, 834, 835, 48, 812, 38].filterMap (fun i => lwE[i]?) := rfl
set_option maxRecDepth 100000 in
theorem cq_11_0 : (((ctab.getD 11 []).drop 0).take 20).flatMap (fun r => cwd 11 r.1 r.2.1 r.2.2) = [97, 82, 883, 424, 423, 53, 670, 38, 1001, 1003, 32, 40].filterMap (fun i => lwE[i]?) := rfl
set_option maxRecDepth 100000 in
theorem cq_12_0 : (((ctab.getD 12 []).drop 0).take 20).flatMap (fun r => cwd 12 r.1 r.2.1 r.2.2) = [218, 82, 220, 87, 39, 193, 42, 676, 420, 51, 677, 678, 679, 39, 681, 682, 52, 684, 686, 5, 43, 696, 698, 8, 43, 817, 819, 23, 43, 701, 703, 9, 43, 707, 709, 10, 43, 721, 723, 13, 43, 753, 755, 17, 43, 783, 785, 20, 43, 796, 798, 21, 43, 805, 807, 22, 43, 711, 713, 11, 43, 715, 717, 12, 43, 725, 727, 14, 43, 729, 731, 15, 43].filterMap (fun i => lwE[i]?) := rfl
set_option maxRecDepth 100000 in
theorem cq_12_20 : (((ctab.getD 12 []).drop 20).take 20).flatMap (fun r => cwd 12 r.1 r.2.1 r.2.2) = [736, 737, 738, 39, 740, 742, 16, 43, 744, 745, 746, 39, 757, 759, 18, 43, 761, 763, 19, 43, 772, 38, 774, 775, 776, 39, 787, 788, 789, 39, 800, 801, 802, 40, 812, 38, 815, 38, 670, 38, 734, 38, 705, 457, 458, 46, 706, 643, 644, 46, 688, 690, 6, 43, 692, 694, 7, 43].filterMap (fun i => lwE[i]?) := rfl
set_option maxRecDepth 100000 in
theorem cq_13_0 : (((ctab.getD 13 []).drop 0).take 20).flatMap (fun r => cwd 13 r.1 r.2.1 r.2.2) = [114, 82, 877, 424, 423, 53].filterMap (fun i => lwE[i]?) := rfl
set_option maxRecDepth 100000 in
theorem cq_14_0 : (((ctab.getD 14 []).drop 0).take 20).flatMap (fun r => cwd 14 r.1 r.2.1 r.2.2) = [195, 82, 987, 988, 989, 42, 991, 992, 42, 994, 995, 42].filterMap (fun i => lwE[i]?) := rfl
set_option maxRecDepth 100000 in
theorem cq_15_0 : (((ctab.getD 15 []).drop 0).take 20).flatMap (fun r => cwd 15 r.1 r.2.1 r.2.2) = [89, 82, 95, 40, 112, 41, 873, 874, 875, 41, 878, 424, 423, 53, 879, 880, 881, 40, 748, 749, 750, 41, 778, 779, 780, 42, 791, 792, 793, 42, 1032, 1033, 1034, 41, 1040, 1042, 33, 39, 1036, 1037, 1038, 39, 1048, 1029, 1030, 39].filterMap (fun i => lwE[i]?) := rfl
set_option maxRecDepth 100000 in
theorem cq_16_0 : (((ctab.getD 16 []).drop 0).take 20).flatMap (fun r => cwd 16 r.1 r.2.1 r.2.2) = [310, 82].filterMap (fun i => lwE[i]?) := rfl
set_option maxRecDepth 100000 in
theorem cq_17_0 : (((ctab.getD 17 []).drop 0).take 20).flatMap (fun r => cwd 17 r.1 r.2.1 r.2.2) = [81, 82, 86, 87, 39, 193, 42, 216, 43, 270, 271, 45, 302, 48, 661, 663, 4, 38, 669, 670, 38, 672, 673, 674, 43, 821, 823, 24, 38, 825, 827, 25, 38, 829, 830, 831, 48, 845, 424, 423, 53, 898, 900, 28, 38, 1094, 1095, 38, 1105, 1106, 38, 1127, 1129, 35, 38, 1136, 988, 989, 42, 1167, 834, 835, 48, 1191, 1033, 1034, 41].filterMap (fun i => lwE[i]?) := rfl
set_option maxRecDepth 100000 in
theorem cq_17_20 : (((ctab.getD 17 []).drop 20).take 20).flatMap (fun r => cwd 17 r.1 r.2.1 r.2.2) = [1200, 1201, 38, 1203, 1204, 38, 978, 402, 51, 868, 420, 51, 1214, 1207, 1208, 38, 1215, 1197, 1198, 38, 1057, 1058, 1059, 48, 1065, 812, 38, 1028, 1029, 1030, 39, 1044, 1045, 1046, 39, 1049, 1050, 1051, 39, 856, 858, 26, 38, 1024, 1025, 1026, 38, 864, 866, 27, 38, 1053, 1055, 34, 38, 1062, 1063, 38, 1066, 1067, 57, 971, 972, 973, 39, 1080, 745, 746, 39, 1006, 1007, 1008, 40].filterMap (fun i => lwE[i]?) := rfl
set_option maxRecDepth 100000 in
theorem cq_17_40 : (((ctab.getD 17 []).drop 40).take 20).flatMap (fun r => cwd 17 r.1 r.2.1 r.2.2) = [1086, 1087, 1088, 39, 967, 969, 30, 38, 975, 976, 38, 983, 984, 985, 42, 1153, 1155, 36, 38, 1157, 1158, 38, 997, 998, 999, 40, 860, 861, 38, 863, 772, 38, 884, 775, 776, 39, 889, 788, 789, 39, 894, 895, 896, 38, 979, 981, 31, 38, 1019, 801, 802, 40, 1097, 815, 38, 869, 870, 871, 39].filterMap (fun i => lwE[i]?) := rfl
set_option maxRecDepth 100000 in
theorem cq_19_0 : (((ctab.getD 19 []).drop 0).take 20).flatMap (fun r => cwd 19 r.1 r.2.1 r.2.2) = [641, 457, 458, 46, 377, 271, 45, 379, 380, 381, 45, 529, 530, 531, 45, 642, 643, 644, 46, 657, 658, 659, 38, 66, 67, 37, 69, 70, 37, 594, 595, 37, 602, 603, 604, 45, 499, 500, 37, 502, 503, 504, 45, 590, 591, 37, 598, 599, 37, 624, 625, 37, 627, 628, 37, 630, 631, 37, 634, 635, 37, 78, 79, 38, 365, 366, 37].filterMap (fun i => lwE[i]?) := rfl
set_option maxRecDepth 100000 in
theorem cq_19_20 : (((ctab.getD 19 []).drop 20).take 20).flatMap (fun r => cwd 19 r.1 r.2.1 r.2.2) = [638, 639, 37, 665, 666, 667, 38, 846, 847, 37, 62, 63, 64, 38, 852, 853, 854, 38, 885, 886, 887, 38, 890, 891, 892, 38, 1010, 1011, 1012, 38, 1015, 1016, 1017, 38, 1020, 1021, 1022, 38, 1072, 1073, 1074, 38, 1076, 1077, 1078, 38, 1082, 1083, 1084, 38, 1090, 1091, 1092, 38, 1112, 1113, 1114, 38, 1123, 1124, 1125, 38, 1132, 1133, 1134, 38, 1137, 1138, 37, 1101, 1102, 1103, 38, 1109, 1110, 37].filterMap (fun i => lwE[i]?) := rfl
set_option maxRecDepth 100000 in
theorem cq_19_40 : (((ctab.getD 19 []).drop 40).take 20).flatMap (fun r => cwd 19 r.1 r.2.1 r.2.2) = [1116, 1117, 1118, 38, 1120, 1121, 37, 1140, 1141, 1142, 38, 1145, 1146, 1147, 38, 1149, 1150, 1151, 38, 1163, 1164, 1165, 38, 1172, 1173, 37, 1175, 1176, 1177, 38, 1179, 1180, 1181, 38, 1183, 1184, 1185, 38, 1187, 1188, 1189, 38, 1196, 1197, 1198, 38, 1206, 1207, 1208, 38, 1210, 1211, 1212, 38, 73, 74, 37, 1098, 1099, 37, 1160, 1161, 37, 1193, 1194, 37, 849, 850, 37].filterMap (fun i => lwE[i]?) := rfl
theorem cq_key {n b B : Nat} {is : List Nat} (h : (((ctab.getD n []).drop b).take B).flatMap (fun r => cwd n r.1 r.2.1 r.2.2) = is.filterMap (fun i => lwE[i]?)) : ∀ r ∈ ((ctab.getD n []).drop b).take B, ∀ w ∈ cwd n r.1 r.2.1 r.2.2, w ∈ lwE := by
  intro r hr w hw
  have h1 : w ∈ (((ctab.getD n []).drop b).take B).flatMap (fun r => cwd n r.1 r.2.1 r.2.2) := List.mem_flatMap.mpr ⟨r, hr, hw⟩
  rw [h] at h1
  obtain ⟨i, -, hi⟩ := List.mem_filterMap.mp h1
  exact List.mem_of_getElem? hi
theorem chkCm : ∀ n, n < 20 → ∀ r ∈ ctab.getD n [], ∀ w ∈ cwd n r.1 r.2.1 r.2.2, w ∈ lwE := by
  intro n hn r hr
  have hc : n = 0 ∨ n = 1 ∨ n = 2 ∨ n = 3 ∨ n = 4 ∨ n = 5 ∨ n = 6 ∨ n = 7 ∨ n = 8 ∨ n = 9 ∨ n = 10 ∨ n = 11 ∨ n = 12 ∨ n = 13 ∨ n = 14 ∨ n = 15 ∨ n = 16 ∨ n = 17 ∨ n = 18 ∨ n = 19 := by omega
  rcases hc with rfl | rfl | rfl | rfl | rfl | rfl | rfl | rfl | rfl | rfl | rfl | rfl | rfl | rfl | rfl | rfl | rfl | rfl | rfl | rfl
  · have hh : ctab.getD 0 [] = ((ctab.getD 0 []).drop 0).take 20 := rfl
    rw [hh] at hr
    exact cq_key cq_0_0 r hr
  · have hh : ctab.getD 1 [] = ((ctab.getD 1 []).drop 0).take 20 := rfl
    rw [hh] at hr
    exact cq_key cq_1_0 r hr
  · have hh : ctab.getD 2 [] = ((ctab.getD 2 []).drop 0).take 20 := rfl
    rw [hh] at hr
    exact cq_key cq_2_0 r hr
  · exact absurd hr (by simp [ctab])
  · exact absurd hr (by simp [ctab])
  · have hh : ctab.getD 5 [] = ((ctab.getD 5 []).drop 0).take 20 := rfl
    rw [hh] at hr
    exact cq_key cq_5_0 r hr
  · have hh : ctab.getD 6 [] = ((ctab.getD 6 []).drop 0).take 20 := rfl
    rw [hh] at hr
    exact cq_key cq_6_0 r hr
  · have hh : ctab.getD 7 [] = ((ctab.getD 7 []).drop 0).take 20 := rfl
    rw [hh] at hr
    exact cq_key cq_7_0 r hr
  · exact absurd hr (by simp [ctab])
  · exact absurd hr (by simp [ctab])
  · have hh : ctab.getD 10 [] = ((ctab.getD 10 []).drop 0).take 20 := rfl
    rw [hh] at hr
    exact cq_key cq_10_0 r hr
  · have hh : ctab.getD 11 [] = ((ctab.getD 11 []).drop 0).take 20 := rfl
    rw [hh] at hr
    exact cq_key cq_11_0 r hr
  · have hh : ctab.getD 12 [] = ((ctab.getD 12 []).drop 0).take 20 ++ ((ctab.getD 12 []).drop 20).take 20 := rfl
    rw [hh] at hr
    simp only [List.mem_append] at hr
    rcases hr with hr | hr
    · exact cq_key cq_12_0 r hr
    · exact cq_key cq_12_20 r hr
  · have hh : ctab.getD 13 [] = ((ctab.getD 13 []).drop 0).take 20 := rfl
    rw [hh] at hr
    exact cq_key cq_13_0 r hr
  · have hh : ctab.getD 14 [] = ((ctab.getD 14 []).drop 0).take 20 := rfl
    rw [hh] at hr
    exact cq_key cq_14_0 r hr
  · have hh : ctab.getD 15 [] = ((ctab.getD 15 []).drop 0).take 20 := rfl
    rw [hh] at hr
    exact cq_key cq_15_0 r hr
  · have hh : ctab.getD 16 [] = ((ctab.getD 16 []).drop 0).take 20 := rfl
    rw [hh] at hr
    exact cq_key cq_16_0 r hr
  · have hh : ctab.getD 17 [] = ((ctab.getD 17 []).drop 0).take 20 ++ ((ctab.getD 17 []).drop 20).take 20 ++ ((ctab.getD 17 []).drop 40).take 20 := rfl
    rw [hh] at hr
    simp only [List.mem_append] at hr
    rcases hr with (hr | hr) | hr
    · exact cq_key cq_17_0 r hr
    · exact cq_key cq_17_20 r hr
    · exact cq_key cq_17_40 r hr
  · exact absurd hr (by simp [ctab])
  · have hh : ctab.getD 19 [] = ((ctab.getD 19 []).drop 0).take 20 ++ ((ctab.getD 19 []).drop 20).take 20 ++ ((ctab.getD 19 []).drop 40).take 20 := rfl
    rw [hh] at hr
    simp only [List.mem_append] at hr
    rcases hr with (hr | hr) | hr
    · exact cq_key cq_19_0 r hr
    · exact cq_key cq_19_20 r hr
    · exact cq_key cq_19_40 r hr
theorem chkCg : ∀ n, n < 20 → ∀ r ∈ ctab.getD n [], (cwd n r.1 r.2.1 r.2.2).all goodWord = true := by decide +kernel
theorem chkC : ∀ n, n < 20 → ∀ r ∈ ctab.getD n [], ∀ w ∈ cwd n r.1 r.2.1 r.2.2, w ∈ ALLG := fun n hn r hr w hw => List.mem_filter.mpr ⟨chkCm n hn r hr w hw, List.all_eq_true.mp (chkCg n hn r hr) w hw⟩
theorem chkC2 : ∀ n, n < 20 → ∀ r ∈ ctab.getD n [], @decide (cok r.2.1 r.2.2) (cokd r.2.1 r.2.2) = true := by decide +kernel
theorem chkM : ∀ M ∈ mtab, plainName (mi_y M).cls = true ∧ ((mi_y M).cls ≠ "java/lang/invoke/MethodHandle" ∧ (mi_y M).cls ≠ "java/lang/invoke/VarHandle") ∧ cnm.getD (mi_n M) "" = (mi_y M).cls ∧ mi_n M < 20 ∧ mi_na M ≤ mi_L M ∧ mi_L M ≤ 16 := by decide +kernel
theorem chkX : (vx_atS "LockstepRoom" 210 IOB ["java/lang/RuntimeException", "java/lang/Exception"]).all (fun w => inG w || w == .castable IOB IOB || w == .declares (Bundle.initS "java/lang/RuntimeException") || w == .declares (Bundle.initS "java/lang/Exception") || w == .declares (Bundle.initS "java/lang/Throwable")) = true := by decide +kernel
theorem chkX2 : inG (.classLink "LockstepRoom" 206 IOB) = true ∧ inG (.initialized IOB) = true := by decide +kernel
set_option maxRecDepth 100000 in
theorem cm_0 : ((mtab.drop 0).take 25).map mw = [272, 605, 505, 459, 459, 552, 275, 554, 393, 397, 459, 459, 608, 508, 429, 514, 511, 1068, 459, 645, 463, 649, 620, 611, 652].filterMap (fun i => lwE[i]?) := rfl
set_option maxRecDepth 100000 in
theorem cm_25 : ((mtab.drop 25).take 25).map mw = [683, 411, 400, 623, 303, 836, 832, 1060, 96, 882, 803, 1004, 1000, 1009, 217, 675, 699, 710, 724, 756, 786, 799, 808, 764, 760].filterMap (fun i => lwE[i]?) := rfl
set_option maxRecDepth 100000 in
theorem cm_50 : ((mtab.drop 50).take 25).map mw = [743, 718, 820, 714, 728, 732, 704, 687, 691, 695, 113, 876, 751, 1035, 194, 781, 794, 990, 986, 993, 996, 459, 88, 680, 872].filterMap (fun i => lwE[i]?) := rfl
set_option maxRecDepth 100000 in
theorem cm_75 : ((mtab.drop 75).take 25).map mw = [747, 777, 790, 739, 1089, 974, 1043, 1039, 1031, 1047, 1052, 309, 840, 80, 660, 664, 668, 824, 828, 459, 459, 459, 459, 65, 459].filterMap (fun i => lwE[i]?) := rfl
set_option maxRecDepth 100000 in
theorem cm_100 : ((mtab.drop 100).take 25).map mw = [459, 1115, 459, 1119, 1126, 1135, 1143, 1166, 1190, 1199, 1209, 1205, 1202, 1213, 1186, 1178, 1182, 459, 459, 459, 459, 459, 1027, 1023, 1075].filterMap (fun i => lwE[i]?) := rfl
set_option maxRecDepth 100000 in
theorem cm_125 : ((mtab.drop 125).take 25).map mw = [1056, 1064, 1079, 1085, 459, 897, 970, 977, 459, 1104, 1152, 1156, 1159, 1148, 459, 855, 888, 893, 1013, 982, 1018, 1093, 459, 867, 859].filterMap (fun i => lwE[i]?) := rfl
set_option maxRecDepth 100000 in
theorem cm_150 : ((mtab.drop 150).take 25).map mw = [901, 1130, 1107, 862, 1096, 671, 813, 773, 816, 735, 382, 385, 468, 472, 496, 532, 537, 540, 546, 558, 561, 564, 68, 71, 596].filterMap (fun i => lwE[i]?) := rfl
set_option maxRecDepth 100000 in
theorem cm_175 : ((mtab.drop 175).take 19).map mw = [626, 592, 629, 632, 636, 501, 600, 367, 848, 640, 75, 1174, 1111, 1139, 1122, 1100, 1162, 1195, 851].filterMap (fun i => lwE[i]?) := rfl
set_option maxRecDepth 100000 in
theorem mtab_len : mtab.length = 195 := by decide +kernel
theorem chkW : ∀ j, j < 194 → mw (minfo j) ∈ ALLG := by
  intro j hj
  have key : ∀ (b n : Nat) (is : List Nat), ((mtab.drop b).take n).map mw = is.filterMap (fun i => lwE[i]?) → ∀ j, b ≤ j → j < b + n → j < mtab.length → mw (minfo j) ∈ lwE := by
    intro b n is h j h1 h2 h3
    have h4 : ((mtab.drop b).take n)[j - b]? = some (minfo j) := by
      rw [List.getElem?_take_of_lt (by omega), List.getElem?_drop, show b + (j - b) = j by omega, List.getElem?_eq_getElem h3]
      simp [minfo, List.getD, List.getElem?_eq_getElem h3]
    have h5 : mw (minfo j) ∈ ((mtab.drop b).take n).map mw := List.mem_map.mpr ⟨_, List.mem_of_getElem? h4, rfl⟩
    rw [h] at h5
    obtain ⟨i, -, hi⟩ := List.mem_filterMap.mp h5
    exact List.mem_of_getElem? hi
  have hl : mtab.length = 195 := mtab_len
  have hm : mw (minfo j) ∈ lwE := by
    have hc : (0 ≤ j ∧ j < 0 + 25) ∨ (25 ≤ j ∧ j < 25 + 25) ∨ (50 ≤ j ∧ j < 50 + 25) ∨ (75 ≤ j ∧ j < 75 + 25) ∨ (100 ≤ j ∧ j < 100 + 25) ∨ (125 ≤ j ∧ j < 125 + 25) ∨ (150 ≤ j ∧ j < 150 + 25) ∨ (175 ≤ j ∧ j < 175 + 19) := by omega
    rcases hc with h | h | h | h | h | h | h | h
    · exact key _ _ _ cm_0 j h.1 h.2 (by omega)
    · exact key _ _ _ cm_25 j h.1 h.2 (by omega)
    · exact key _ _ _ cm_50 j h.1 h.2 (by omega)
    · exact key _ _ _ cm_75 j h.1 h.2 (by omega)
    · exact key _ _ _ cm_100 j h.1 h.2 (by omega)
    · exact key _ _ _ cm_125 j h.1 h.2 (by omega)
    · exact key _ _ _ cm_150 j h.1 h.2 (by omega)
    · exact key _ _ _ cm_175 j h.1 h.2 (by omega)
  refine List.mem_filter.mpr ⟨hm, ?_⟩
  unfold mw
  split <;> rfl
