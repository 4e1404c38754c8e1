abbrev IOB : String := "java/lang/IndexOutOfBoundsException"
/-! the tables against the Statement's words, by the kernel -/
/-- two words more: a private method of the class above, found by a receiver of the class below -/
def lwX : List Jvm.Cond := [.selects "java/lang/StringBuilder" yJ5_ensureCapacityInternal_d00df yJ5_ensureCapacityInternal_d00df, .selects "java/lang/StringBuilder" yJ5_newCapacity_0f7a4 yJ5_newCapacity_0f7a4]
theorem selPriv {C : String} {y z : MethodName} {s : State} {args : Array Value} {n : Nat} (hy : y.cls ≠ "java/lang/invoke/MethodHandle" ∧ y.cls ≠ "java/lang/invoke/VarHandle") (hz : z.cls = y.cls)
    (hins : (Cond.instantiable C n).before args s = true) (hpriv : (Cond.privateMethod y).before args s = true) (hinst : (Cond.instanceMethod y).before args s = true) (hsel : (Cond.selects C z z).before args s = true) :
    (Cond.selects C y y).before args s = true := by
  obtain ⟨c, k, hc, hk, -, -, -, -⟩ := Cond.instantiable_spec hins
  obtain ⟨mk, methM, hnamed, hmethM, -, -⟩ := Cond.instanceMethod_spec hinst
  obtain ⟨c2, r2, m2, q1, q2, q3, q4, kP, hkP, hkPi⟩ := Cond.selects_spec hsel
  have hfound : s.methodFound? y.cls y.name y.desc = some mk := State.methodFound?_of_named hnamed hy
  have hcls : m2.cls = mk.cls := by
    have e1 := findClass_of_methodNamed hnamed
    have e2 := findClass_of_methodNamed q3
    rw [hz] at e2
    exact Option.some.inj (e2.symm.trans e1)
  rw [hcls] at hkP
  have hsel : selectMethod {} s.vm c mk = .method mk := selectMethod_private hmethM (Cond.privateMethod_at hpriv mk methM hnamed hmethM)
  simp only [Cond.before, Cond.holds, Cond.value, hc, hfound, hnamed, hsel, hkP]
  simp; exact hkPi
theorem lwX_ok {args : Array Value} {s : State} (hts : ∀ w ∈ lw_tbl, w.before args s = true) : ∀ w ∈ lwX, w.before args s = true := by
  have h1 := hts (.instantiable "java/lang/StringBuilder" 4) (by decide +kernel)
  have h2 := hts (.selects "java/lang/StringBuilder" yJ5_isLatin1_aae02 yJ5_isLatin1_aae02) (by decide +kernel)
  intro w hw
  simp only [lwX, List.mem_cons, List.not_mem_nil, or_false] at hw
  rcases hw with rfl | rfl
  · exact selPriv (z := yJ5_isLatin1_aae02) (by decide +kernel) rfl h1 (hts _ (by decide +kernel)) (hts _ (by decide +kernel)) h2
  · exact selPriv (z := yJ5_isLatin1_aae02) (by decide +kernel) rfl h1 (hts _ (by decide +kernel)) (hts _ (by decide +kernel)) h2
def lwE : List Jvm.Cond := lwX ++ lw_tbl
theorem lwE_ok {args : Array Value} {s : State} (hts : ∀ w ∈ lw_tbl, w.before args s = true) : ∀ w ∈ lwE, w.before args s = true := fun w h => (List.mem_append.mp h).elim (lwX_ok hts w) (hts w)
def ALLG : List Jvm.Cond := lwE.filter goodWord
def inG (w : Jvm.Cond) : Bool := decide (w ∈ lwE) && goodWord w
theorem inG_mem {w : Jvm.Cond} (h : inG w = true) : w ∈ ALLG := by
  unfold inG at h
  rw [Bool.and_eq_true, decide_eq_true_eq] at h
  exact List.mem_filter.mpr h
theorem allG_good : ∀ w ∈ ALLG, goodWord w = true := fun w h => (List.mem_filter.mp h).2
def kcl (ci : Nat) : vw_C := vwCl.getD ci (RJ0, TJ0, 4)
def kds : List Nat := [0, 1, 4, 5, 6, 7, 8, 9, 10, 11, 12]
theorem chkK : ∀ ci ∈ kds, vwCl[ci]? = some (kcl ci) ∧ (kcl ci).2.2 = cnf ci := by
  intro ci h
  simp only [kds, List.mem_cons, List.not_mem_nil, or_false] at h
  rcases h with rfl | rfl | rfl | rfl | rfl | rfl | rfl | rfl | rfl | rfl | rfl <;> exact ⟨rfl, rfl⟩
theorem chkT : ∀ ci ∈ kds, ∀ k, k < cnf ci → parseFieldDescriptor ((kcl ci).2.1 k).2.2.1 = some (fty ci k) ∧ ffin ci k = ((kcl ci).2.1 k).2.2.2 := by decide +kernel
theorem chkN : ∀ ci ∈ kds, ∀ a, a < cnf ci → ∀ b, b < cnf ci → a ≠ b → ((kcl ci).2.1 a).2.1 ≠ ((kcl ci).2.1 b).2.1 := by decide +kernel
theorem chkF : ∀ n, n < 20 → ∀ r ∈ ftab.getD n [], r.2.1 ∈ kds ∧ r.2.2 < cnf r.2.1 ∧ inG (.fieldLink (cnm.getD n "") r.1 ((kcl r.2.1).2.1 r.2.2).1 ((kcl r.2.1).2.1 r.2.2).2.1 ((kcl r.2.1).2.1 r.2.2).2.2.1) = true := by decide +kernel
theorem chkU : ∀ ci ∈ kds, ∀ w ∈ u_ws (kcl ci).1 (kcl ci).2.1 (kcl ci).2.2, inG w = true := by decide +kernel
theorem chkO : ∀ n, n < 20 → rkl.getD n 99 ∈ kds → n ∉ [1, 2] → (kcl (rkl.getD n 99)).1 = cnm.getD n "" ∧ ∀ k, k < cnf (rkl.getD n 99) → ((kcl (rkl.getD n 99)).2.1 k).1 = cnm.getD n "" := by decide +kernel
theorem chkNw : ∀ n, n < 20 → ∀ r ∈ ntab.getD n [], r.2 ≠ 100 → r.2 ∈ kds ∧ inG (.classLink (cnm.getD n "") r.1 (kcl r.2).1) = true ∧ inG (.instantiable (kcl r.2).1 (cnf r.2)) = true ∧ inG (.initialized (kcl r.2).1) = true := by decide +kernel
theorem chkKt : ∀ n, n < 20 → ∀ r ∈ ktab.getD n [], ∀ v, r.2 = .inl v → inG (.constant (cnm.getD n "") r.1 v) = true := by
  intro n hn r hr v hv
  have h : ∀ n, n < 20 → ∀ r ∈ ktab.getD n [], (match r.2 with | .inl v => inG (.constant (cnm.getD n "") r.1 v) | .inr _ => true) = true := by decide +kernel
  have h1 := h n hn r hr
  rw [hv] at h1
  exact h1
theorem chkLt : ∀ n, n < 20 → ∀ r ∈ ltab.getD n [], inG (.constantLong (cnm.getD n "") r.1 r.2) = true := by decide +kernel
theorem chkSt : ∀ n, n < 20 → ∀ r ∈ stab.getD n [], r.2 < 4 ∧ inG (.fieldLink (cnm.getD n "") r.1 (snm r.2).1 (snm r.2).2.1 (snm r.2).2.2) = true := by decide +kernel
theorem chkA : inG (.arrayClass .int) = true ∧ inG (.arrayClass .byte) = true ∧ inG (.arrayClass .long) = true := by decide +kernel
/-- the word of a method's code -/
def mw (M : MI) : Jvm.Cond := match mi_hd M with
  | none => .code (mi_y M) (mi_c M) (mi_L M) (mi_rt M)
  | some (f, t, h, _, _) => .codeWith (mi_y M) (mi_c M) (mi_L M) (mi_rt M) [(f, t, h, 13)]
def ws (M : MI) : List Jvm.Cond := mw M :: ALLG
/-- the words of a call -/
def cwd (n idx k j : Nat) : List Jvm.Cond := match k with
  | 9 => [.methodLink (cnm.getD n "") idx objectInit, .instanceMethod objectInit]
  | 10 => [.methodLink (cnm.getD n "") idx arraycopyName, .native arraycopyName, .static arraycopyName, .initialized "java/lang/System"]
  | 12 => [.methodLink (cnm.getD n "") idx Lib.Math.max.name, .static Lib.Math.max.name, .initialized "java/lang/Math"]
  | 13 => [.methodLink (cnm.getD n "") idx Lib.Math.min.name, .static Lib.Math.min.name, .initialized "java/lang/Math"]
  | 1 => [.methodLink (cnm.getD n "") idx (mi_y (minfo j)), .static (mi_y (minfo j)), .initialized (mi_y (minfo j)).cls]
  | 8 => [.methodLink (cnm.getD n "") idx (mi_y (minfo j)), .static (mi_y (minfo j)), .initialized (mi_y (minfo j)).cls]
  | 11 => [.methodLink (cnm.getD n "") idx (mi_y (minfo j)), .static (mi_y (minfo j)), .initialized (mi_y (minfo j)).cls]
  | 2 => [.methodLink (cnm.getD n "") idx (mi_y (minfo j)), .instanceMethod (mi_y (minfo j)), .initialized (mi_y (minfo j)).cls]
  | 3 => [.instanceMethod (mi_y (minfo j)), .initialized (mi_y (minfo j)).cls]
  | 4 => [.static (mi_y (minfo j)), .initialized (mi_y (minfo j)).cls]
  | 5 => [.methodLink (cnm.getD n "") idx (mi_y (minfo j)), .sameMethod (mi_y (minfo j)).cls (mi_y (minfo j)).cls (mi_y (minfo j)).name (mi_y (minfo j)).desc, .selects (kcl (rkd j)).1 (mi_y (minfo j)) (mi_y (minfo j)), .instanceMethod (mi_y (minfo j)), .initialized (mi_y (minfo j)).cls]
  | 6 => [.methodLink (cnm.getD n "") idx (mi_y (minfo j)), .sameMethod (mi_y (minfo j)).cls (mi_y (minfo j)).cls (mi_y (minfo j)).name (mi_y (minfo j)).desc, .superclass (cnm.getD n "") (mi_y (minfo j)).cls, .instanceMethod (mi_y (minfo j)), .initialized (mi_y (minfo j)).cls]
  | _ => [.methodLink (cnm.getD n "") idx (mi_y (minfo j)), .instanceMethod (mi_y (minfo j)), .selects (mi_y (minfo j)).cls (mi_y (minfo j)) (mi_y (minfo j)), .initialized (mi_y (minfo j)).cls]
/-- what else a call's kind asks of its method -/
def npar (j : Nat) : Option Nat := (parseMethodDescriptor (mi_y (minfo j)).desc).map (fun d => d.parameters.length)
def cok (k j : Nat) : Prop := match k with
  | 9 => True
  | 10 => True
  | 12 => True
  | 13 => True
  | 1 => j < 304 ∧ mi_hd (minfo j) = none ∧ npar j = some (mi_na (minfo j)) ∧ mi_th (minfo j) = false
  | 4 => j < 304 ∧ mi_hd (minfo j) = none ∧ npar j = some (mi_na (minfo j)) ∧ mi_th (minfo j) = false
  | 11 => j < 304 ∧ mi_hd (minfo j) = none ∧ npar j = some (mi_na (minfo j)) ∧ mi_th (minfo j) = true
  | 8 => j < 304 ∧ (mi_hd (minfo j)).isSome = true ∧ npar j = some (mi_na (minfo j)) ∧ mi_th (minfo j) = false
  | 2 => j < 304 ∧ mi_hd (minfo j) = none ∧ (npar j).map (· + 1) = some (mi_na (minfo j)) ∧ mi_th (minfo j) = false ∧ (mi_y (minfo j)).name = "<init>" ∧ mi_rt (minfo j) = none
  | 3 => j < 304 ∧ mi_hd (minfo j) = none ∧ (npar j).map (· + 1) = some (mi_na (minfo j)) ∧ mi_th (minfo j) = false ∧ (mi_y (minfo j)).name = "<init>" ∧ mi_rt (minfo j) = none
  | 0 => j < 304 ∧ mi_hd (minfo j) = none ∧ (npar j).map (· + 1) = some (mi_na (minfo j)) ∧ mi_th (minfo j) = false ∧ (mi_y (minfo j)).name ≠ "<init>" ∧ rkd j ∈ kds ∧ (kcl (rkd j)).1 = (mi_y (minfo j)).cls
  | 7 => j < 304 ∧ mi_hd (minfo j) = none ∧ (npar j).map (· + 1) = some (mi_na (minfo j)) ∧ mi_th (minfo j) = true ∧ (mi_y (minfo j)).name ≠ "<init>" ∧ rkd j ∈ kds ∧ (kcl (rkd j)).1 = (mi_y (minfo j)).cls
  | 5 => j < 304 ∧ mi_hd (minfo j) = none ∧ (npar j).map (· + 1) = some (mi_na (minfo j)) ∧ mi_th (minfo j) = false ∧ (mi_y (minfo j)).name ≠ "<init>" ∧ rkd j ∈ kds
  | 6 => j < 304 ∧ mi_hd (minfo j) = none ∧ (npar j).map (· + 1) = some (mi_na (minfo j)) ∧ mi_th (minfo j) = false ∧ (mi_y (minfo j)).name ≠ "<init>" ∧ rkd j ∈ kds
  | _ => False
def cokd (k j : Nat) : Decidable (cok k j) := by
  unfold cok
  split <;> exact inferInstance
set_option maxRecDepth 100000 in
theorem cq_0_0 : (((ctab.getD 0 []).drop 0).take 20).flatMap (fun r => cwd 0 r.1 r.2.1 r.2.2) = [474, 475, 476, 110, 483, 484, 485, 110, 487, 488, 117, 495, 496, 118].filterMap (fun i => lwE[i]?) := rfl
set_option maxRecDepth 100000 in
theorem cq_1_0 : (((ctab.getD 1 []).drop 0).take 20).flatMap (fun r => cwd 1 r.1 r.2.1 r.2.2) = [327, 328, 108, 1388, 1992, 353, 1389, 108, 1269, 1990, 353, 1270, 108, 677, 1980, 353, 678, 108, 1159, 1982, 353, 1160, 108, 670, 1979, 353, 671, 108].filterMap (fun i => lwE[i]?) := rfl
set_option maxRecDepth 100000 in
theorem cq_2_0 : (((ctab.getD 2 []).drop 0).take 20).flatMap (fun r => cwd 2 r.1 r.2.1 r.2.2) = [330, 135, 1210, 1212, 1213, 1211, 108, 1181, 1985, 0, 1183, 108, 1185, 1986, 1, 1187, 108, 1198, 1199, 116, 1189, 1190, 127, 680, 440, 115, 681, 491, 110, 1391, 1392, 117, 1272, 1273, 125, 1275, 1276, 125].filterMap (fun i => lwE[i]?) := rfl
set_option maxRecDepth 100000 in
theorem cq_5_0 : (((ctab.getD 5 []).drop 0).take 20).flatMap (fun r => cwd 5 r.1 r.2.1 r.2.2) = [1209, 657, 656, 119, 1208, 440, 115].filterMap (fun i => lwE[i]?) := rfl
set_option maxRecDepth 100000 in
theorem cq_6_0 : (((ctab.getD 6 []).drop 0).take 20).flatMap (fun r => cwd 6 r.1 r.2.1 r.2.2) = [490, 491, 110].filterMap (fun i => lwE[i]?) := rfl
set_option maxRecDepth 100000 in
theorem cq_7_0 : (((ctab.getD 7 []).drop 0).take 20).flatMap (fun r => cwd 7 r.1 r.2.1 r.2.2) = [1192, 952, 115].filterMap (fun i => lwE[i]?) := rfl
set_option maxRecDepth 100000 in
theorem cq_10_0 : (((ctab.getD 10 []).drop 0).take 20).flatMap (fun r => cwd 10 r.1 r.2.1 r.2.2) = [359, 135, 363, 113, 647, 648, 649, 113, 643, 644, 645, 112, 622, 102].filterMap (fun i => lwE[i]?) := rfl
set_option maxRecDepth 100000 in
theorem cq_11_0 : (((ctab.getD 11 []).drop 0).take 20).flatMap (fun r => cwd 11 r.1 r.2.1 r.2.2) = [150, 135, 838, 657, 656, 119, 433, 102, 880, 882, 30, 104].filterMap (fun i => lwE[i]?) := rfl
set_option maxRecDepth 100000 in
theorem cq_12_0 : (((ctab.getD 12 []).drop 0).take 20).flatMap (fun r => cwd 12 r.1 r.2.1 r.2.2) = [272, 135, 274, 140, 103, 247, 106, 439, 440, 115, 442, 443, 444, 103, 446, 447, 116, 449, 451, 3, 107, 461, 463, 6, 107, 627, 629, 21, 107, 466, 468, 7, 107, 517, 519, 8, 107, 531, 533, 11, 107, 563, 565, 15, 107, 593, 595, 18, 107, 606, 608, 19, 107, 615, 617, 20, 107, 521, 523, 9, 107, 525, 527, 10, 107, 535, 537, 12, 107, 539, 541, 13, 107].filterMap (fun i => lwE[i]?) := rfl
set_option maxRecDepth 100000 in
theorem cq_12_20 : (((ctab.getD 12 []).drop 20).take 20).flatMap (fun r => cwd 12 r.1 r.2.1 r.2.2) = [546, 547, 548, 103, 550, 552, 14, 107, 554, 555, 556, 103, 567, 569, 16, 107, 571, 573, 17, 107, 582, 102, 584, 585, 586, 103, 597, 598, 599, 103, 610, 611, 612, 104, 622, 102, 625, 102, 433, 102, 544, 102, 470, 471, 472, 110, 479, 480, 481, 110, 453, 455, 4, 107, 457, 459, 5, 107].filterMap (fun i => lwE[i]?) := rfl
set_option maxRecDepth 100000 in
theorem cq_13_0 : (((ctab.getD 13 []).drop 0).take 20).flatMap (fun r => cwd 13 r.1 r.2.1 r.2.2) = [167, 135, 832, 657, 656, 119].filterMap (fun i => lwE[i]?) := rfl
set_option maxRecDepth 100000 in
theorem cq_14_0 : (((ctab.getD 14 []).drop 0).take 20).flatMap (fun r => cwd 14 r.1 r.2.1 r.2.2) = [249, 135, 905, 906, 907, 106, 909, 910, 106, 912, 913, 106].filterMap (fun i => lwE[i]?) := rfl
set_option maxRecDepth 100000 in
theorem cq_15_0 : (((ctab.getD 15 []).drop 0).take 20).flatMap (fun r => cwd 15 r.1 r.2.1 r.2.2) = [142, 135, 148, 104, 165, 105, 828, 829, 830, 105, 833, 657, 656, 119, 834, 835, 836, 104, 558, 559, 560, 105, 588, 589, 590, 106, 601, 602, 603, 106, 711, 712, 713, 105, 719, 721, 24, 103, 715, 716, 717, 103, 731, 708, 709, 103].filterMap (fun i => lwE[i]?) := rfl
set_option maxRecDepth 100000 in
theorem cq_16_0 : (((ctab.getD 16 []).drop 0).take 20).flatMap (fun r => cwd 16 r.1 r.2.1 r.2.2) = [365, 135].filterMap (fun i => lwE[i]?) := rfl
set_option maxRecDepth 100000 in
theorem cq_17_0 : (((ctab.getD 17 []).drop 0).take 20).flatMap (fun r => cwd 17 r.1 r.2.1 r.2.2) = [134, 135, 139, 140, 103, 247, 106, 270, 107, 324, 325, 109, 357, 112, 424, 426, 2, 102, 432, 433, 102, 435, 436, 437, 107, 631, 633, 22, 102, 635, 637, 23, 102, 639, 640, 641, 112, 655, 657, 656, 119, 744, 746, 26, 102, 1155, 1156, 1157, 109, 1384, 1385, 1386, 109, 1397, 1399, 35, 102, 1402, 1266, 1267, 109, 666, 667, 668, 109, 1401, 544, 102].filterMap (fun i => lwE[i]?) := rfl
set_option maxRecDepth 100000 in
theorem cq_17_20 : (((ctab.getD 17 []).drop 20).take 20).flatMap (fun r => cwd 17 r.1 r.2.1 r.2.2) = [673, 674, 675, 109, 695, 547, 548, 103, 700, 701, 102, 995, 996, 102, 1006, 1008, 34, 102, 1018, 906, 907, 106, 1034, 644, 645, 112, 1042, 712, 713, 105, 1050, 1051, 102, 1053, 1054, 102, 951, 952, 115, 823, 440, 115, 1070, 1060, 1061, 102, 1071, 1047, 1048, 102, 843, 844, 845, 112, 851, 622, 102, 1100, 716, 717, 103, 707, 708, 709, 103, 727, 728, 729, 103, 815, 816, 817, 103].filterMap (fun i => lwE[i]?) := rfl
set_option maxRecDepth 100000 in
theorem cq_17_40 : (((ctab.getD 17 []).drop 40).take 20).flatMap (fun r => cwd 17 r.1 r.2.1 r.2.2) = [736, 738, 25, 102, 740, 741, 742, 102, 819, 821, 28, 102, 839, 841, 29, 102, 848, 849, 102, 852, 853, 125, 866, 867, 868, 103, 870, 555, 556, 103, 876, 877, 878, 104, 885, 886, 887, 103, 944, 946, 32, 102, 948, 949, 102, 901, 902, 903, 106, 915, 917, 31, 102, 919, 920, 102, 958, 959, 960, 104, 1144, 1145, 1146, 106, 926, 927, 102, 929, 582, 102, 930, 585, 586, 103].filterMap (fun i => lwE[i]?) := rfl
set_option maxRecDepth 100000 in
theorem cq_17_60 : (((ctab.getD 17 []).drop 60).take 20).flatMap (fun r => cwd 17 r.1 r.2.1 r.2.2) = [935, 598, 599, 103, 940, 941, 942, 102, 954, 956, 33, 102, 970, 611, 612, 104, 975, 625, 102, 824, 825, 826, 103].filterMap (fun i => lwE[i]?) := rfl
set_option maxRecDepth 100000 in
theorem cq_18_0 : (((ctab.getD 18 []).drop 0).take 20).flatMap (fun r => cwd 18 r.1 r.2.1 r.2.2) = [1408, 135, 1409, 1411, 36, 114, 1624, 1626, 61, 114, 1868, 1870, 91, 114, 1702, 1704, 68, 114, 1632, 1634, 63, 114, 1636, 1638, 64, 114, 1772, 1774, 79, 114, 1768, 1770, 78, 114, 1620, 1622, 60, 114, 1628, 1630, 62, 114, 1572, 1574, 50, 114, 1864, 1866, 90, 114, 1880, 1882, 92, 114, 1923, 1925, 97, 114, 1616, 1618, 59, 114, 1556, 1558, 46, 114, 1792, 1794, 81, 114, 1738, 952, 115, 1743, 440, 115].filterMap (fun i => lwE[i]?) := rfl
set_option maxRecDepth 100000 in
theorem cq_18_20 : (((ctab.getD 18 []).drop 20).take 20).flatMap (fun r => cwd 18 r.1 r.2.1 r.2.2) = [1844, 1846, 87, 114, 1919, 1921, 96, 114, 1714, 1716, 69, 114, 1718, 1720, 70, 114, 1788, 1790, 80, 114, 1800, 1802, 82, 114, 1808, 1810, 83, 114, 1820, 1822, 84, 114, 1764, 1766, 77, 114, 1943, 1944, 114, 1514, 1516, 38, 114, 1518, 1519, 114, 1521, 1522, 114, 1534, 471, 472, 110, 1535, 480, 481, 110, 1510, 1512, 37, 114, 1540, 1542, 42, 114, 1544, 1546, 43, 114, 1560, 1562, 47, 114, 1564, 1566, 48, 114].filterMap (fun i => lwE[i]?) := rfl
set_option maxRecDepth 100000 in
theorem cq_18_40 : (((ctab.getD 18 []).drop 40).take 20).flatMap (fun r => cwd 18 r.1 r.2.1 r.2.2) = [1548, 1550, 44, 114, 1568, 1570, 49, 114, 1580, 1582, 52, 114, 1530, 1532, 40, 114, 1585, 1587, 53, 114, 1593, 1595, 55, 114, 1601, 1603, 57, 114, 1610, 1611, 114, 1613, 1614, 114, 1536, 1538, 41, 114, 1552, 1554, 45, 114, 1576, 1578, 51, 114, 1589, 1591, 54, 114, 1597, 1599, 56, 114, 1605, 1607, 58, 114, 1507, 1508, 114, 1525, 1527, 39, 114, 1664, 1666, 65, 114, 1668, 1670, 66, 114, 1676, 1677, 114].filterMap (fun i => lwE[i]?) := rfl
set_option maxRecDepth 100000 in
theorem cq_18_60 : (((ctab.getD 18 []).drop 60).take 20).flatMap (fun r => cwd 18 r.1 r.2.1 r.2.2) = [1683, 1684, 114, 1690, 1692, 67, 114, 1734, 1736, 73, 114, 1739, 1741, 74, 114, 1744, 1746, 75, 114, 1726, 1728, 71, 114, 1730, 1732, 72, 114, 1752, 1754, 76, 114, 1828, 1830, 85, 114, 1836, 1838, 86, 114, 1860, 1862, 89, 114, 1856, 1858, 88, 114, 1888, 1890, 93, 114, 1900, 1901, 114, 1903, 1905, 94, 114, 1915, 1917, 95, 114, 1939, 1941, 98, 114, 1966, 1968, 99, 114, 1970, 1972, 100, 114].filterMap (fun i => lwE[i]?) := rfl
set_option maxRecDepth 100000 in
theorem cq_19_0 : (((ctab.getD 19 []).drop 0).take 20).flatMap (fun r => cwd 19 r.1 r.2.1 r.2.2) = [984, 985, 986, 102, 991, 992, 993, 102, 1002, 1003, 1004, 102, 1014, 1015, 1016, 102, 1022, 1023, 1024, 102, 1030, 1031, 1032, 102, 1038, 1039, 1040, 102, 1046, 1047, 1048, 102, 1059, 1060, 1061, 102, 1066, 1067, 1068, 102, 1075, 1076, 1077, 102, 1082, 1083, 1084, 102, 1089, 1090, 1091, 102, 1096, 1097, 1098, 102, 1104, 1105, 1106, 102, 1111, 1112, 1113, 102, 1118, 741, 742, 102, 1122, 941, 942, 102, 1126, 1127, 1128, 102, 1133, 1134, 1135, 102].filterMap (fun i => lwE[i]?) := rfl
set_option maxRecDepth 100000 in
theorem cq_19_20 : (((ctab.getD 19 []).drop 20).take 20).flatMap (fun r => cwd 19 r.1 r.2.1 r.2.2) = [1140, 1141, 1142, 102, 1151, 1152, 1153, 102, 131, 132, 102, 1405, 1406, 114, 420, 421, 422, 102, 1499, 1500, 1501, 114, 428, 429, 430, 102, 1503, 1504, 1505, 114, 658, 659, 660, 102, 1644, 1645, 1646, 114, 683, 684, 685, 102, 1648, 1649, 1650, 114, 687, 688, 689, 102, 1652, 1653, 1654, 114, 691, 692, 693, 102, 1656, 1657, 1658, 114, 980, 981, 101, 1660, 1661, 1662, 114, 1495, 1496, 1497, 114, 696, 697, 698, 102].filterMap (fun i => lwE[i]?) := rfl
set_option maxRecDepth 100000 in
theorem cq_19_40 : (((ctab.getD 19 []).drop 40).take 20).flatMap (fun r => cwd 19 r.1 r.2.1 r.2.2) = [1672, 1673, 1674, 114, 988, 989, 101, 1679, 1680, 1681, 114, 999, 1000, 101, 1686, 1687, 1688, 114, 1011, 1012, 101, 1694, 1695, 1696, 114, 1019, 1020, 101, 1698, 1699, 1700, 114, 1027, 1028, 101, 1706, 1707, 1708, 114, 1035, 1036, 101, 1710, 1711, 1712, 114, 1043, 1044, 101, 1722, 1723, 1724, 114, 1056, 1057, 101, 1748, 1749, 1750, 114, 1063, 1064, 101, 1756, 1757, 1758, 114, 1072, 1073, 101].filterMap (fun i => lwE[i]?) := rfl
set_option maxRecDepth 100000 in
theorem cq_19_60 : (((ctab.getD 19 []).drop 60).take 20).flatMap (fun r => cwd 19 r.1 r.2.1 r.2.2) = [1760, 1761, 1762, 114, 1079, 1080, 101, 1776, 1777, 1778, 114, 1086, 1087, 101, 1780, 1781, 1782, 114, 1093, 1094, 101, 1784, 1785, 1786, 114, 703, 704, 705, 102, 1796, 1797, 1798, 114, 1101, 1102, 101, 1804, 1805, 1806, 114, 723, 724, 725, 102, 1812, 1813, 1814, 114, 1108, 1109, 101, 1816, 1817, 1818, 114, 1115, 1116, 101, 1824, 1825, 1826, 114, 889, 890, 891, 102, 1832, 1833, 1834, 114, 1119, 1120, 101].filterMap (fun i => lwE[i]?) := rfl
set_option maxRecDepth 100000 in
theorem cq_19_80 : (((ctab.getD 19 []).drop 80).take 20).flatMap (fun r => cwd 19 r.1 r.2.1 r.2.2) = [1840, 1841, 1842, 114, 893, 894, 895, 102, 1848, 1849, 1850, 114, 1123, 1124, 101, 1852, 1853, 1854, 114, 897, 898, 899, 102, 1872, 1873, 1874, 114, 1130, 1131, 101, 1876, 1877, 1878, 114, 1137, 1138, 101, 1884, 1885, 1886, 114, 922, 923, 924, 102, 1896, 1897, 1898, 114, 931, 932, 933, 102, 1907, 1908, 1909, 114, 936, 937, 938, 102, 1911, 1912, 1913, 114, 962, 963, 964, 102, 1927, 1928, 1929, 114, 966, 967, 968, 102].filterMap (fun i => lwE[i]?) := rfl
set_option maxRecDepth 100000 in
theorem cq_19_100 : (((ctab.getD 19 []).drop 100).take 20).flatMap (fun r => cwd 19 r.1 r.2.1 r.2.2) = [1931, 1932, 1933, 114, 732, 733, 734, 102, 1935, 1936, 1937, 114, 858, 859, 860, 102, 1946, 1947, 1948, 114, 862, 863, 864, 102, 1950, 1951, 1952, 114, 872, 873, 874, 102, 1954, 1955, 1956, 114, 971, 972, 973, 102, 1958, 1959, 1960, 114, 976, 977, 978, 102, 1892, 1893, 1894, 114, 1148, 1149, 101, 1962, 1963, 1964, 114, 662, 663, 664, 102, 1974, 1975, 1976, 114].filterMap (fun i => lwE[i]?) := rfl
theorem cq_key {n b B : Nat} {is : List Nat} (h : (((ctab.getD n []).drop b).take B).flatMap (fun r => cwd n r.1 r.2.1 r.2.2) = is.filterMap (fun i => lwE[i]?)) : ∀ r ∈ ((ctab.getD n []).drop b).take B, ∀ w ∈ cwd n r.1 r.2.1 r.2.2, w ∈ lwE := by
  intro r hr w hw
  have h1 : w ∈ (((ctab.getD n []).drop b).take B).flatMap (fun r => cwd n r.1 r.2.1 r.2.2) := List.mem_flatMap.mpr ⟨r, hr, hw⟩
  rw [h] at h1
  obtain ⟨i, -, hi⟩ := List.mem_filterMap.mp h1
  exact List.mem_of_getElem? hi
theorem chkCm : ∀ n, n < 20 → ∀ r ∈ ctab.getD n [], ∀ w ∈ cwd n r.1 r.2.1 r.2.2, w ∈ lwE := by
  intro n hn r hr
  have hc : n = 0 ∨ n = 1 ∨ n = 2 ∨ n = 3 ∨ n = 4 ∨ n = 5 ∨ n = 6 ∨ n = 7 ∨ n = 8 ∨ n = 9 ∨ n = 10 ∨ n = 11 ∨ n = 12 ∨ n = 13 ∨ n = 14 ∨ n = 15 ∨ n = 16 ∨ n = 17 ∨ n = 18 ∨ n = 19 := by omega
  rcases hc with rfl | rfl | rfl | rfl | rfl | rfl | rfl | rfl | rfl | rfl | rfl | rfl | rfl | rfl | rfl | rfl | rfl | rfl | rfl | rfl
  · have hh : ctab.getD 0 [] = ((ctab.getD 0 []).drop 0).take 20 := rfl
    rw [hh] at hr
    exact cq_key cq_0_0 r hr
  · have hh : ctab.getD 1 [] = ((ctab.getD 1 []).drop 0).take 20 := rfl
    rw [hh] at hr
    exact cq_key cq_1_0 r hr
  · have hh : ctab.getD 2 [] = ((ctab.getD 2 []).drop 0).take 20 := rfl
    rw [hh] at hr
    exact cq_key cq_2_0 r hr
  · exact absurd hr (by simp [ctab])
  · exact absurd hr (by simp [ctab])
  · have hh : ctab.getD 5 [] = ((ctab.getD 5 []).drop 0).take 20 := rfl
    rw [hh] at hr
    exact cq_key cq_5_0 r hr
  · have hh : ctab.getD 6 [] = ((ctab.getD 6 []).drop 0).take 20 := rfl
    rw [hh] at hr
    exact cq_key cq_6_0 r hr
  · have hh : ctab.getD 7 [] = ((ctab.getD 7 []).drop 0).take 20 := rfl
    rw [hh] at hr
    exact cq_key cq_7_0 r hr
  · exact absurd hr (by simp [ctab])
  · exact absurd hr (by simp [ctab])
  · have hh : ctab.getD 10 [] = ((ctab.getD 10 []).drop 0).take 20 := rfl
    rw [hh] at hr
    exact cq_key cq_10_0 r hr
  · have hh : ctab.getD 11 [] = ((ctab.getD 11 []).drop 0).take 20 := rfl
    rw [hh] at hr
    exact cq_key cq_11_0 r hr
  · have hh : ctab.getD 12 [] = ((ctab.getD 12 []).drop 0).take 20 ++ ((ctab.getD 12 []).drop 20).take 20 := rfl
    rw [hh] at hr
    simp only [List.mem_append] at hr
    rcases hr with hr | hr
    · exact cq_key cq_12_0 r hr
    · exact cq_key cq_12_20 r hr
  · have hh : ctab.getD 13 [] = ((ctab.getD 13 []).drop 0).take 20 := rfl
    rw [hh] at hr
    exact cq_key cq_13_0 r hr
  · have hh : ctab.getD 14 [] = ((ctab.getD 14 []).drop 0).take 20 := rfl
    rw [hh] at hr
    exact cq_key cq_14_0 r hr
  · have hh : ctab.getD 15 [] = ((ctab.getD 15 []).drop 0).take 20 := rfl
    rw [hh] at hr
    exact cq_key cq_15_0 r hr
  · have hh : ctab.getD 16 [] = ((ctab.getD 16 []).drop 0).take 20 := rfl
    rw [hh] at hr
    exact cq_key cq_16_0 r hr
  · have hh : ctab.getD 17 [] = ((ctab.getD 17 []).drop 0).take 20 ++ ((ctab.getD 17 []).drop 20).take 20 ++ ((ctab.getD 17 []).drop 40).take 20 ++ ((ctab.getD 17 []).drop 60).take 20 := rfl
    rw [hh] at hr
    simp only [List.mem_append] at hr
    rcases hr with ((hr | hr) | hr) | hr
    · exact cq_key cq_17_0 r hr
    · exact cq_key cq_17_20 r hr
    · exact cq_key cq_17_40 r hr
    · exact cq_key cq_17_60 r hr
  · have hh : ctab.getD 18 [] = ((ctab.getD 18 []).drop 0).take 20 ++ ((ctab.getD 18 []).drop 20).take 20 ++ ((ctab.getD 18 []).drop 40).take 20 ++ ((ctab.getD 18 []).drop 60).take 20 := rfl
    rw [hh] at hr
    simp only [List.mem_append] at hr
    rcases hr with ((hr | hr) | hr) | hr
    · exact cq_key cq_18_0 r hr
    · exact cq_key cq_18_20 r hr
    · exact cq_key cq_18_40 r hr
    · exact cq_key cq_18_60 r hr
  · have hh : ctab.getD 19 [] = ((ctab.getD 19 []).drop 0).take 20 ++ ((ctab.getD 19 []).drop 20).take 20 ++ ((ctab.getD 19 []).drop 40).take 20 ++ ((ctab.getD 19 []).drop 60).take 20 ++ ((ctab.getD 19 []).drop 80).take 20 ++ ((ctab.getD 19 []).drop 100).take 20 := rfl
    rw [hh] at hr
    simp only [List.mem_append] at hr
    rcases hr with ((((hr | hr) | hr) | hr) | hr) | hr
    · exact cq_key cq_19_0 r hr
    · exact cq_key cq_19_20 r hr
    · exact cq_key cq_19_40 r hr
    · exact cq_key cq_19_60 r hr
    · exact cq_key cq_19_80 r hr
    · exact cq_key cq_19_100 r hr
theorem chkCg : ∀ n, n < 20 → ∀ r ∈ ctab.getD n [], (cwd n r.1 r.2.1 r.2.2).all goodWord = true := by decide +kernel
theorem chkC : ∀ n, n < 20 → ∀ r ∈ ctab.getD n [], ∀ w ∈ cwd n r.1 r.2.1 r.2.2, w ∈ ALLG := fun n hn r hr w hw => List.mem_filter.mpr ⟨chkCm n hn r hr w hw, List.all_eq_true.mp (chkCg n hn r hr) w hw⟩
theorem chkC2 : ∀ n, n < 20 → ∀ r ∈ ctab.getD n [], @decide (cok r.2.1 r.2.2) (cokd r.2.1 r.2.2) = true := by decide +kernel
theorem chkM : ∀ M ∈ mtab, plainName (mi_y M).cls = true ∧ ((mi_y M).cls ≠ "java/lang/invoke/MethodHandle" ∧ (mi_y M).cls ≠ "java/lang/invoke/VarHandle") ∧ cnm.getD (mi_n M) "" = (mi_y M).cls ∧ mi_n M < 20 ∧ mi_na M ≤ mi_L M ∧ mi_L M ≤ 40 := by decide +kernel
theorem chkX : (vx_atS "LockstepRoom" 210 IOB ["java/lang/RuntimeException", "java/lang/Exception"]).all (fun w => inG w || w == .castable IOB IOB || w == .declares (Bundle.initS "java/lang/RuntimeException") || w == .declares (Bundle.initS "java/lang/Exception") || w == .declares (Bundle.initS "java/lang/Throwable")) = true := by decide +kernel
theorem chkX2 : inG (.classLink "LockstepRoom" 206 IOB) = true ∧ inG (.initialized IOB) = true ∧ inG (.classLink "LockstepRoomLaw" 13 IOB) = true := by decide +kernel
set_option maxRecDepth 100000 in
theorem cm_0 : ((mtab.drop 0).take 25).map mw = [326, 1387, 1268, 676, 1158, 669, 329, 672, 1184, 1188, 1161, 679, 1390, 1271, 1214, 1277, 1274, 854, 473, 482, 477, 486, 492, 1393, 489].filterMap (fun i => lwE[i]?) := rfl
set_option maxRecDepth 100000 in
theorem cm_25 : ((mtab.drop 25).take 25).map mw = [448, 1200, 1191, 497, 358, 646, 642, 846, 149, 837, 613, 883, 961, 879, 271, 438, 464, 520, 534, 566, 596, 609, 618, 574, 570].filterMap (fun i => lwE[i]?) := rfl
set_option maxRecDepth 100000 in
theorem cm_50 : ((mtab.drop 50).take 25).map mw = [553, 528, 630, 524, 538, 542, 469, 452, 456, 460, 166, 831, 561, 714, 248, 591, 604, 908, 904, 911, 914, 1147, 141, 445, 827].filterMap (fun i => lwE[i]?) := rfl
set_option maxRecDepth 100000 in
theorem cm_75 : ((mtab.drop 75).take 25).map mw = [557, 587, 600, 549, 888, 869, 722, 718, 710, 730, 818, 364, 650, 133, 423, 427, 431, 634, 638, 661, 1154, 1400, 665, 686, 690].filterMap (fun i => lwE[i]?) := rfl
set_option maxRecDepth 100000 in
theorem cm_100 : ((mtab.drop 100).take 25).map mw = [694, 987, 699, 994, 1005, 1017, 1025, 1033, 1041, 1049, 1062, 1055, 1052, 1069, 1078, 1085, 1092, 1099, 706, 1107, 726, 1114, 743, 735, 861].filterMap (fun i => lwE[i]?) := rfl
set_option maxRecDepth 100000 in
theorem cm_125 : ((mtab.drop 125).take 25).map mw = [842, 850, 865, 875, 892, 943, 947, 950, 896, 1129, 900, 918, 921, 1136, 1143, 925, 934, 939, 965, 957, 969, 974, 979, 822, 739].filterMap (fun i => lwE[i]?) := rfl
set_option maxRecDepth 100000 in
theorem cm_150 : ((mtab.drop 150).take 25).map mw = [747, 1009, 997, 928, 702, 434, 623, 583, 626, 545, 1407, 1498, 1502, 1509, 1412, 1559, 1627, 1575, 1795, 1623, 1635, 1863, 1871, 1867, 1705].filterMap (fun i => lwE[i]?) := rfl
set_option maxRecDepth 100000 in
theorem cm_175 : ((mtab.drop 175).take 25).map mw = [1883, 1926, 1639, 1631, 1771, 1775, 1767, 1945, 1619, 1922, 1839, 1847, 1918, 1717, 1721, 1791, 1803, 1811, 1823, 1831, 1942, 1902, 1588, 1596, 1604].filterMap (fun i => lwE[i]?) := rfl
set_option maxRecDepth 100000 in
theorem cm_200 : ((mtab.drop 200).take 25).map mw = [1517, 1520, 1523, 1513, 1533, 1543, 1547, 1551, 1563, 1567, 1583, 1539, 1571, 1555, 1579, 1592, 1600, 1612, 1615, 1608, 1528, 1506, 1647, 1667, 1685].filterMap (fun i => lwE[i]?) := rfl
set_option maxRecDepth 100000 in
theorem cm_225 : ((mtab.drop 225).take 25).map mw = [1693, 1678, 1671, 1729, 1651, 1655, 1659, 1663, 1675, 1682, 1689, 1697, 1701, 1709, 1713, 1737, 1742, 1747, 1733, 1755, 1725, 1751, 1759, 1763, 1779].filterMap (fun i => lwE[i]?) := rfl
set_option maxRecDepth 100000 in
theorem cm_250 : ((mtab.drop 250).take 25).map mw = [1783, 1787, 1799, 1807, 1815, 1819, 1827, 1835, 1843, 1851, 1859, 1855, 1875, 1879, 1891, 1887, 1906, 1895, 1899, 1910, 1914, 1930, 1934, 1938, 1949].filterMap (fun i => lwE[i]?) := rfl
set_option maxRecDepth 100000 in
theorem cm_275 : ((mtab.drop 275).take 25).map mw = [1953, 1957, 1961, 1969, 1973, 1965, 1977, 982, 990, 1001, 1013, 1021, 1029, 1037, 1045, 1058, 1065, 1074, 1081, 1088, 1095, 1103, 1110, 1117, 1121].filterMap (fun i => lwE[i]?) := rfl
set_option maxRecDepth 100000 in
theorem cm_300 : ((mtab.drop 300).take 4).map mw = [1125, 1132, 1139, 1150].filterMap (fun i => lwE[i]?) := rfl
set_option maxRecDepth 100000 in
theorem mtab_len : mtab.length = 305 := by decide +kernel
theorem chkW : ∀ j, j < 304 → mw (minfo j) ∈ ALLG := by
  intro j hj
  have key : ∀ (b n : Nat) (is : List Nat), ((mtab.drop b).take n).map mw = is.filterMap (fun i => lwE[i]?) → ∀ j, b ≤ j → j < b + n → j < mtab.length → mw (minfo j) ∈ lwE := by
    intro b n is h j h1 h2 h3
    have h4 : ((mtab.drop b).take n)[j - b]? = some (minfo j) := by
      rw [List.getElem?_take_of_lt (by omega), List.getElem?_drop, show b + (j - b) = j by omega, List.getElem?_eq_getElem h3]
      simp [minfo, List.getD, List.getElem?_eq_getElem h3]
    have h5 : mw (minfo j) ∈ ((mtab.drop b).take n).map mw := List.mem_map.mpr ⟨_, List.mem_of_getElem? h4, rfl⟩
    rw [h] at h5
    obtain ⟨i, -, hi⟩ := List.mem_filterMap.mp h5
    exact List.mem_of_getElem? hi
  have hl : mtab.length = 305 := mtab_len
  have hm : mw (minfo j) ∈ lwE := by
    have hc : (0 ≤ j ∧ j < 0 + 25) ∨ (25 ≤ j ∧ j < 25 + 25) ∨ (50 ≤ j ∧ j < 50 + 25) ∨ (75 ≤ j ∧ j < 75 + 25) ∨ (100 ≤ j ∧ j < 100 + 25) ∨ (125 ≤ j ∧ j < 125 + 25) ∨ (150 ≤ j ∧ j < 150 + 25) ∨ (175 ≤ j ∧ j < 175 + 25) ∨ (200 ≤ j ∧ j < 200 + 25) ∨ (225 ≤ j ∧ j < 225 + 25) ∨ (250 ≤ j ∧ j < 250 + 25) ∨ (275 ≤ j ∧ j < 275 + 25) ∨ (300 ≤ j ∧ j < 300 + 4) := by omega
    rcases hc with h | h | h | h | h | h | h | h | h | h | h | h | h
    · exact key _ _ _ cm_0 j h.1 h.2 (by omega)
    · exact key _ _ _ cm_25 j h.1 h.2 (by omega)
    · exact key _ _ _ cm_50 j h.1 h.2 (by omega)
    · exact key _ _ _ cm_75 j h.1 h.2 (by omega)
    · exact key _ _ _ cm_100 j h.1 h.2 (by omega)
    · exact key _ _ _ cm_125 j h.1 h.2 (by omega)
    · exact key _ _ _ cm_150 j h.1 h.2 (by omega)
    · exact key _ _ _ cm_175 j h.1 h.2 (by omega)
    · exact key _ _ _ cm_200 j h.1 h.2 (by omega)
    · exact key _ _ _ cm_225 j h.1 h.2 (by omega)
    · exact key _ _ _ cm_250 j h.1 h.2 (by omega)
    · exact key _ _ _ cm_275 j h.1 h.2 (by omega)
    · exact key _ _ _ cm_300 j h.1 h.2 (by omega)
  refine List.mem_filter.mpr ⟨hm, ?_⟩
  unfold mw
  split <;> rfl
