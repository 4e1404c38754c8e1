/-! the start: the law's world out of what the Statement gives, and its end -/
def tsrc : List (String × Nat) := [("LockstepRoom$Loader", 90), ("LockstepRoom$Loader", 98), ("LockstepRoom$Loader", 103), ("LockstepRoom$Loader", 201), ("LockstepRoom$Loader", 203), ("LockstepRoom$Loader", 205), ("LockstepRoom$Loader", 207), ("LockstepRoom$Loader", 209), ("LockstepRoom$Loader", 211), ("LockstepRoom$Loader", 108), ("LockstepRoom$Loader", 113), ("LockstepRoom$Loader", 118), ("LockstepRoom$Loader", 188), ("LockstepRoom$Loader", 190), ("LockstepRoom", 370), ("LockstepRoom", 374), ("LockstepRoom", 372), ("LockstepRoom", 208), ("LockstepRoomModel", 256), ("LockstepRoomModel", 229), ("LockstepRoomModel", 245)]
/-- the bytes of the texts -/
def txby : List (List Int32) := [[115, 116, 97, 114, 116], [109, 101, 109, 98, 101, 114], [100, 111], [112, 117, 116], [97, 100, 100], [99, 111, 112, 121], [115, 117, 109], [115, 119, 97, 112], [109, 117, 108], [115, 101, 97, 108], [102, 97, 117, 108, 116], [115, 101, 116], [108, 97, 103], [113, 117, 111, 114, 117, 109], [110, 111, 32, 115, 117, 99, 104, 32, 109, 101, 109, 98, 101, 114], [110, 111, 32, 115, 117, 99, 104, 32, 99, 101, 108, 108], [110, 111, 32, 115, 117, 99, 104, 32, 115, 101, 97, 108, 101, 100, 32, 116, 117, 114, 110], [110, 111, 32, 115, 117, 99, 104, 32, 102, 97, 117, 108, 116], [115, 116, 97, 114, 116, 32, 109, 101, 109, 98, 101, 114, 32, 100, 111, 32, 115, 101, 97, 108, 32, 102, 97, 117, 108, 116, 32, 115, 101, 116, 32], [112, 117, 116, 32, 97, 100, 100, 32, 99, 111, 112, 121, 32, 115, 117, 109, 32, 115, 119, 97, 112, 32, 109, 117, 108, 32], [108, 97, 103, 32, 113, 117, 111, 114, 117, 109, 32]]
def tens : List Int32 := [48, 48, 48, 48, 48, 48, 48, 48, 48, 48, 49, 49, 49, 49, 49, 49, 49, 49, 49, 49, 50, 50, 50, 50, 50, 50, 50, 50, 50, 50, 51, 51, 51, 51, 51, 51, 51, 51, 51, 51, 52, 52, 52, 52, 52, 52, 52, 52, 52, 52, 53, 53, 53, 53, 53, 53, 53, 53, 53, 53, 54, 54, 54, 54, 54, 54, 54, 54, 54, 54, 55, 55, 55, 55, 55, 55, 55, 55, 55, 55, 56, 56, 56, 56, 56, 56, 56, 56, 56, 56, 57, 57, 57, 57, 57, 57, 57, 57, 57, 57]
def ones : List Int32 := [48, 49, 50, 51, 52, 53, 54, 55, 56, 57, 48, 49, 50, 51, 52, 53, 54, 55, 56, 57, 48, 49, 50, 51, 52, 53, 54, 55, 56, 57, 48, 49, 50, 51, 52, 53, 54, 55, 56, 57, 48, 49, 50, 51, 52, 53, 54, 55, 56, 57, 48, 49, 50, 51, 52, 53, 54, 55, 56, 57, 48, 49, 50, 51, 52, 53, 54, 55, 56, 57, 48, 49, 50, 51, 52, 53, 54, 55, 56, 57, 48, 49, 50, 51, 52, 53, 54, 55, 56, 57, 48, 49, 50, 51, 52, 53, 54, 55, 56, 57]
def k0 (L : Nat) (a : Nat) : Nat × Nat := if a < 21 then (0, 4) else if 100 ≤ a ∧ a < 121 then (21, (txby.getD (a - 100) []).length) else if a = 200 then (21, 100) else if a = 201 then (21, 100) else if a = 300 then (20, L) else (99, 0)
def i0 (xs : Nat → Int32) (a k : Nat) : Int32 := if a < 21 then 0 else if 100 ≤ a ∧ a < 121 then (txby.getD (a - 100) []).getD k 0 else if a = 200 then tens.getD k 0 else if a = 201 then ones.getD k 0 else if a = 300 then xs k else 0
def r0 (a k : Nat) : Option Nat := if a < 21 ∧ k = 0 then some (100 + a) else none
/-- the small heap at the start: texts, tables, the script -/
def mu0 (L : Nat) (xs : Nat → Int32) : Mu := (1000, k0 L, i0 xs, fun _ _ => 0, r0)
def tm0 (i : Nat) : Term := .string (tsrc.getD i ("", 0)).1 (tsrc.getD i ("", 0)).2
def gvn : List Cond := flatC (Jvm.Cond.and given_1 narrow_1)
set_option maxRecDepth 100000 in
theorem ck_ex : ∀ i, i < 21 → Cond.exactly (tm0 i) "java/lang/String" ∈ gvn := by decide +kernel
set_option maxRecDepth 100000 in
theorem ck_co : ∀ i, i < 21 → Cond.eq (.field (tm0 i) "java/lang/String" "coder" "B") (.int 0) ∈ gvn := by decide +kernel
set_option maxRecDepth 100000 in
theorem ck_ar : ∀ i, i < 21 → Cond.arrayOf (.field (tm0 i) "java/lang/String" "value" "[B") .byte ∈ gvn := by decide +kernel
set_option maxRecDepth 100000 in
theorem ck_le : ∀ i, i < 21 → Cond.eq (.length (.field (tm0 i) "java/lang/String" "value" "[B")) (.int (Int32.ofNat ((txby.map List.length).getD i 0))) ∈ gvn := by decide +kernel
set_option maxRecDepth 100000 in
theorem ck_el0 : ((List.range 5).map fun j => Cond.eq (.elem (.field (tm0 0) "java/lang/String" "value" "[B") (.int (Int32.ofNat j))) (.int ((txby.getD 0 []).getD j 0))) = [260, 261, 262, 263, 264].filterMap (fun i => gvn[i]?) := rfl
set_option maxRecDepth 100000 in
theorem ck_el1 : ((List.range 6).map fun j => Cond.eq (.elem (.field (tm0 1) "java/lang/String" "value" "[B") (.int (Int32.ofNat j))) (.int ((txby.getD 1 []).getD j 0))) = [269, 270, 271, 272, 273, 274].filterMap (fun i => gvn[i]?) := rfl
set_option maxRecDepth 100000 in
theorem ck_el2 : ((List.range 2).map fun j => Cond.eq (.elem (.field (tm0 2) "java/lang/String" "value" "[B") (.int (Int32.ofNat j))) (.int ((txby.getD 2 []).getD j 0))) = [280, 281].filterMap (fun i => gvn[i]?) := rfl
set_option maxRecDepth 100000 in
theorem ck_el3 : ((List.range 3).map fun j => Cond.eq (.elem (.field (tm0 3) "java/lang/String" "value" "[B") (.int (Int32.ofNat j))) (.int ((txby.getD 3 []).getD j 0))) = [288, 289, 290].filterMap (fun i => gvn[i]?) := rfl
set_option maxRecDepth 100000 in
theorem ck_el4 : ((List.range 3).map fun j => Cond.eq (.elem (.field (tm0 4) "java/lang/String" "value" "[B") (.int (Int32.ofNat j))) (.int ((txby.getD 4 []).getD j 0))) = [298, 299, 300].filterMap (fun i => gvn[i]?) := rfl
set_option maxRecDepth 100000 in
theorem ck_el5 : ((List.range 4).map fun j => Cond.eq (.elem (.field (tm0 5) "java/lang/String" "value" "[B") (.int (Int32.ofNat j))) (.int ((txby.getD 5 []).getD j 0))) = [309, 310, 311, 312].filterMap (fun i => gvn[i]?) := rfl
set_option maxRecDepth 100000 in
theorem ck_el6 : ((List.range 3).map fun j => Cond.eq (.elem (.field (tm0 6) "java/lang/String" "value" "[B") (.int (Int32.ofNat j))) (.int ((txby.getD 6 []).getD j 0))) = [322, 323, 324].filterMap (fun i => gvn[i]?) := rfl
set_option maxRecDepth 100000 in
theorem ck_el7 : ((List.range 4).map fun j => Cond.eq (.elem (.field (tm0 7) "java/lang/String" "value" "[B") (.int (Int32.ofNat j))) (.int ((txby.getD 7 []).getD j 0))) = [335, 336, 337, 338].filterMap (fun i => gvn[i]?) := rfl
set_option maxRecDepth 100000 in
theorem ck_el8 : ((List.range 3).map fun j => Cond.eq (.elem (.field (tm0 8) "java/lang/String" "value" "[B") (.int (Int32.ofNat j))) (.int ((txby.getD 8 []).getD j 0))) = [350, 351, 352].filterMap (fun i => gvn[i]?) := rfl
set_option maxRecDepth 100000 in
theorem ck_el9 : ((List.range 4).map fun j => Cond.eq (.elem (.field (tm0 9) "java/lang/String" "value" "[B") (.int (Int32.ofNat j))) (.int ((txby.getD 9 []).getD j 0))) = [365, 366, 367, 368].filterMap (fun i => gvn[i]?) := rfl
set_option maxRecDepth 100000 in
theorem ck_el10 : ((List.range 5).map fun j => Cond.eq (.elem (.field (tm0 10) "java/lang/String" "value" "[B") (.int (Int32.ofNat j))) (.int ((txby.getD 10 []).getD j 0))) = [382, 383, 384, 385, 386].filterMap (fun i => gvn[i]?) := rfl
set_option maxRecDepth 100000 in
theorem ck_el11 : ((List.range 3).map fun j => Cond.eq (.elem (.field (tm0 11) "java/lang/String" "value" "[B") (.int (Int32.ofNat j))) (.int ((txby.getD 11 []).getD j 0))) = [401, 402, 403].filterMap (fun i => gvn[i]?) := rfl
set_option maxRecDepth 100000 in
theorem ck_el12 : ((List.range 3).map fun j => Cond.eq (.elem (.field (tm0 12) "java/lang/String" "value" "[B") (.int (Int32.ofNat j))) (.int ((txby.getD 12 []).getD j 0))) = [419, 420, 421].filterMap (fun i => gvn[i]?) := rfl
set_option maxRecDepth 100000 in
theorem ck_el13 : ((List.range 6).map fun j => Cond.eq (.elem (.field (tm0 13) "java/lang/String" "value" "[B") (.int (Int32.ofNat j))) (.int ((txby.getD 13 []).getD j 0))) = [438, 439, 440, 441, 442, 443].filterMap (fun i => gvn[i]?) := rfl
set_option maxRecDepth 100000 in
theorem ck_el14 : ((List.range 14).map fun j => Cond.eq (.elem (.field (tm0 14) "java/lang/String" "value" "[B") (.int (Int32.ofNat j))) (.int ((txby.getD 14 []).getD j 0))) = [461, 462, 463, 464, 465, 466, 467, 468, 469, 470, 471, 472, 473, 474].filterMap (fun i => gvn[i]?) := rfl
set_option maxRecDepth 100000 in
theorem ck_el15 : ((List.range 12).map fun j => Cond.eq (.elem (.field (tm0 15) "java/lang/String" "value" "[B") (.int (Int32.ofNat j))) (.int ((txby.getD 15 []).getD j 0))) = [493, 494, 495, 496, 497, 498, 499, 500, 501, 502, 503, 504].filterMap (fun i => gvn[i]?) := rfl
set_option maxRecDepth 100000 in
theorem ck_el16 : ((List.range 19).map fun j => Cond.eq (.elem (.field (tm0 16) "java/lang/String" "value" "[B") (.int (Int32.ofNat j))) (.int ((txby.getD 16 []).getD j 0))) = [524, 525, 526, 527, 528, 529, 530, 531, 532, 533, 534, 535, 536, 537, 538, 539, 540, 541, 542].filterMap (fun i => gvn[i]?) := rfl
set_option maxRecDepth 100000 in
theorem ck_el17 : ((List.range 13).map fun j => Cond.eq (.elem (.field (tm0 17) "java/lang/String" "value" "[B") (.int (Int32.ofNat j))) (.int ((txby.getD 17 []).getD j 0))) = [563, 564, 565, 566, 567, 568, 569, 570, 571, 572, 573, 574, 575].filterMap (fun i => gvn[i]?) := rfl
set_option maxRecDepth 100000 in
theorem ck_el18 : ((List.range 31).map fun j => Cond.eq (.elem (.field (tm0 18) "java/lang/String" "value" "[B") (.int (Int32.ofNat j))) (.int ((txby.getD 18 []).getD j 0))) = [695, 696, 697, 698, 699, 700, 701, 702, 703, 704, 705, 706, 707, 708, 709, 710, 711, 712, 713, 714, 715, 716, 717, 718, 719, 720, 721, 722, 723, 724, 725].filterMap (fun i => gvn[i]?) := rfl
set_option maxRecDepth 100000 in
theorem ck_el19 : ((List.range 26).map fun j => Cond.eq (.elem (.field (tm0 19) "java/lang/String" "value" "[B") (.int (Int32.ofNat j))) (.int ((txby.getD 19 []).getD j 0))) = [750, 751, 752, 753, 754, 755, 756, 757, 758, 759, 760, 761, 762, 763, 764, 765, 766, 767, 768, 769, 770, 771, 772, 773, 774, 775].filterMap (fun i => gvn[i]?) := rfl
set_option maxRecDepth 100000 in
theorem ck_el20 : ((List.range 11).map fun j => Cond.eq (.elem (.field (tm0 20) "java/lang/String" "value" "[B") (.int (Int32.ofNat j))) (.int ((txby.getD 20 []).getD j 0))) = [801, 802, 803, 804, 805, 806, 807, 808, 809, 810, 811].filterMap (fun i => gvn[i]?) := rfl
theorem pl_mem {α : Type} {G : List α} {f : Nat → α} {n : Nat} {ps : List Nat} (h : (List.range n).map f = ps.filterMap (fun i => G[i]?)) : ∀ j, j < n → f j ∈ G := by
  intro j hj
  have h1 : f j ∈ (List.range n).map f := List.mem_map.mpr ⟨j, List.mem_range.mpr hj, rfl⟩
  rw [h] at h1
  obtain ⟨i, -, hi⟩ := List.mem_filterMap.mp h1
  exact List.mem_of_getElem? hi
theorem ck_el : ∀ i, i < 21 → ∀ j, j < (txby.map List.length).getD i 0 → Cond.eq (.elem (.field (tm0 i) "java/lang/String" "value" "[B") (.int (Int32.ofNat j))) (.int ((txby.getD i []).getD j 0)) ∈ gvn := by
  intro i hi
  have hc : i = 0 ∨ i = 1 ∨ i = 2 ∨ i = 3 ∨ i = 4 ∨ i = 5 ∨ i = 6 ∨ i = 7 ∨ i = 8 ∨ i = 9 ∨ i = 10 ∨ i = 11 ∨ i = 12 ∨ i = 13 ∨ i = 14 ∨ i = 15 ∨ i = 16 ∨ i = 17 ∨ i = 18 ∨ i = 19 ∨ i = 20 := by omega
  rcases hc with rfl | rfl | rfl | rfl | rfl | rfl | rfl | rfl | rfl | rfl | rfl | rfl | rfl | rfl | rfl | rfl | rfl | rfl | rfl | rfl | rfl
  · exact pl_mem ck_el0
  · exact pl_mem ck_el1
  · exact pl_mem ck_el2
  · exact pl_mem ck_el3
  · exact pl_mem ck_el4
  · exact pl_mem ck_el5
  · exact pl_mem ck_el6
  · exact pl_mem ck_el7
  · exact pl_mem ck_el8
  · exact pl_mem ck_el9
  · exact pl_mem ck_el10
  · exact pl_mem ck_el11
  · exact pl_mem ck_el12
  · exact pl_mem ck_el13
  · exact pl_mem ck_el14
  · exact pl_mem ck_el15
  · exact pl_mem ck_el16
  · exact pl_mem ck_el17
  · exact pl_mem ck_el18
  · exact pl_mem ck_el19
  · exact pl_mem ck_el20
theorem ck_ln : ∀ i, i < 21 → (txby.map List.length).getD i 0 < 2 ^ 31 ∧ (txby.map List.length).getD i 0 = (txby.getD i []).length := by decide +kernel
def tnT : Term := .static "java/lang/Integer" "DigitTens" "[B"
def onT : Term := .static "java/lang/Integer" "DigitOnes" "[B"
set_option maxRecDepth 100000 in
theorem ck_dg : Cond.arrayOf tnT .byte ∈ gvn ∧ Cond.arrayOf onT .byte ∈ gvn ∧ Cond.eq (.length tnT) (.int (Int32.ofNat 100)) ∈ gvn ∧ Cond.eq (.length onT) (.int (Int32.ofNat 100)) ∈ gvn := by decide +kernel
set_option maxRecDepth 100000 in
theorem ck_d1_0 : ((List.range 25).map fun j => Cond.eq (.elem tnT (.int (Int32.ofNat (0 + j)))) (.int (tens.getD (0 + j) 0))) = [117, 118, 119, 120, 121, 122, 123, 124, 125, 126, 127, 128, 129, 130, 131, 132, 133, 134, 135, 136, 137, 138, 139, 140, 141].filterMap (fun i => gvn[i]?) := rfl
set_option maxRecDepth 100000 in
theorem ck_d1_25 : ((List.range 25).map fun j => Cond.eq (.elem tnT (.int (Int32.ofNat (25 + j)))) (.int (tens.getD (25 + j) 0))) = [142, 143, 144, 145, 146, 147, 148, 149, 150, 151, 152, 153, 154, 155, 156, 157, 158, 159, 160, 161, 162, 163, 164, 165, 166].filterMap (fun i => gvn[i]?) := rfl
set_option maxRecDepth 100000 in
theorem ck_d1_50 : ((List.range 25).map fun j => Cond.eq (.elem tnT (.int (Int32.ofNat (50 + j)))) (.int (tens.getD (50 + j) 0))) = [167, 168, 169, 170, 171, 172, 173, 174, 175, 176, 177, 178, 179, 180, 181, 182, 183, 184, 185, 186, 187, 188, 189, 190, 191].filterMap (fun i => gvn[i]?) := rfl
set_option maxRecDepth 100000 in
theorem ck_d1_75 : ((List.range 25).map fun j => Cond.eq (.elem tnT (.int (Int32.ofNat (75 + j)))) (.int (tens.getD (75 + j) 0))) = [192, 193, 194, 195, 196, 197, 198, 199, 200, 201, 202, 203, 204, 205, 206, 207, 208, 209, 210, 211, 212, 213, 214, 215, 216].filterMap (fun i => gvn[i]?) := rfl
theorem ck_d1 : ∀ j, j < 100 → Cond.eq (.elem tnT (.int (Int32.ofNat j))) (.int (tens.getD j 0)) ∈ gvn := by
  intro j hj
  rcases (by omega : j < 25 ∨ 25 ≤ j ∧ j < 50 ∨ 50 ≤ j ∧ j < 75 ∨ 75 ≤ j) with h | h | h | h
  · have := pl_mem ck_d1_0 (j - 0) (by omega)
    rw [show 0 + (j - 0) = j by omega] at this; exact this
  · have := pl_mem ck_d1_25 (j - 25) (by omega)
    rw [show 25 + (j - 25) = j by omega] at this; exact this
  · have := pl_mem ck_d1_50 (j - 50) (by omega)
    rw [show 50 + (j - 50) = j by omega] at this; exact this
  · have := pl_mem ck_d1_75 (j - 75) (by omega)
    rw [show 75 + (j - 75) = j by omega] at this; exact this
set_option maxRecDepth 100000 in
theorem ck_d2_0 : ((List.range 25).map fun j => Cond.eq (.elem onT (.int (Int32.ofNat (0 + j)))) (.int (ones.getD (0 + j) 0))) = [14, 15, 16, 17, 18, 19, 20, 21, 22, 23, 24, 25, 26, 27, 28, 29, 30, 31, 32, 33, 34, 35, 36, 37, 38].filterMap (fun i => gvn[i]?) := rfl
set_option maxRecDepth 100000 in
theorem ck_d2_25 : ((List.range 25).map fun j => Cond.eq (.elem onT (.int (Int32.ofNat (25 + j)))) (.int (ones.getD (25 + j) 0))) = [39, 40, 41, 42, 43, 44, 45, 46, 47, 48, 49, 50, 51, 52, 53, 54, 55, 56, 57, 58, 59, 60, 61, 62, 63].filterMap (fun i => gvn[i]?) := rfl
set_option maxRecDepth 100000 in
theorem ck_d2_50 : ((List.range 25).map fun j => Cond.eq (.elem onT (.int (Int32.ofNat (50 + j)))) (.int (ones.getD (50 + j) 0))) = [64, 65, 66, 67, 68, 69, 70, 71, 72, 73, 74, 75, 76, 77, 78, 79, 80, 81, 82, 83, 84, 85, 86, 87, 88].filterMap (fun i => gvn[i]?) := rfl
set_option maxRecDepth 100000 in
theorem ck_d2_75 : ((List.range 25).map fun j => Cond.eq (.elem onT (.int (Int32.ofNat (75 + j)))) (.int (ones.getD (75 + j) 0))) = [89, 90, 91, 92, 93, 94, 95, 96, 97, 98, 99, 100, 101, 102, 103, 104, 105, 106, 107, 108, 109, 110, 111, 112, 113].filterMap (fun i => gvn[i]?) := rfl
theorem ck_d2 : ∀ j, j < 100 → Cond.eq (.elem onT (.int (Int32.ofNat j))) (.int (ones.getD j 0)) ∈ gvn := by
  intro j hj
  rcases (by omega : j < 25 ∨ 25 ≤ j ∧ j < 50 ∨ 50 ≤ j ∧ j < 75 ∨ 75 ≤ j) with h | h | h | h
  · have := pl_mem ck_d2_0 (j - 0) (by omega)
    rw [show 0 + (j - 0) = j by omega] at this; exact this
  · have := pl_mem ck_d2_25 (j - 25) (by omega)
    rw [show 25 + (j - 25) = j by omega] at this; exact this
  · have := pl_mem ck_d2_50 (j - 50) (by omega)
    rw [show 50 + (j - 50) = j by omega] at this; exact this
  · have := pl_mem ck_d2_75 (j - 75) (by omega)
    rw [show 75 + (j - 75) = j by omega] at this; exact this
set_option maxRecDepth 100000 in
theorem ck_cs : Cond.eq (.static "java/lang/String" "COMPACT_STRINGS" "Z") (.int 1) ∈ gvn ∧ Cond.isRef (.static Bundle.tN "UNASSIGNED_STACK" Bundle.steD) ∈ gvn ∧ Cond.isRef (.static Bundle.tN "SUPPRESSED_SENTINEL" Bundle.listD) ∈ gvn ∧ Cond.isRef (.static "jdk/internal/util/Preconditions" "SIOOBE_FORMATTER" "Ljava/util/function/BiFunction;") ∈ gvn := by decide +kernel
def tbl (w : Cond) : Bool := decide (w ∈ lw_tbl)
theorem ck_st : (tbl (.laysStatic "java/lang/String" "COMPACT_STRINGS" "Z") && tbl (.laysStatic "java/lang/Integer" "DigitTens" "[B") && tbl (.laysStatic "java/lang/Integer" "DigitOnes" "[B") && tbl (.laysStatic Bundle.tN "UNASSIGNED_STACK" Bundle.steD) && tbl (.laysStatic Bundle.tN "SUPPRESSED_SENTINEL" Bundle.listD) && tbl (.initialized "java/lang/String") && tbl (.initialized "java/lang/Integer") && tbl (.initialized Bundle.tN) && tbl (.laysStatic "jdk/internal/util/Preconditions" "SIOOBE_FORMATTER" "Ljava/util/function/BiFunction;") && tbl (.initialized "jdk/internal/util/Preconditions")) = true := by decide +kernel
theorem ck_k : ∀ n, n < 20 → ∀ r ∈ ktab.getD n [], (match r.2 with | .inr k => Nat.blt k 21 && decide (tsrc.getD k ("", 0) = (cnm.getD n "", r.1)) && tbl (.stringRef (cnm.getD n "") r.1 (txts.getD k "")) | .inl _ => true) = true := by decide +kernel
theorem ck_n : ∀ n, n < 20 → ∀ r ∈ ctab.getD n [], (match r.2.1 with | 3 => tbl (.methodLinkNest (cnm.getD n "") r.1 (mi_y (minfo r.2.2)) "LockstepRoom") | 4 => tbl (.methodLinkNest (cnm.getD n "") r.1 (mi_y (minfo r.2.2)) "LockstepRoom") | _ => true) = true := by decide +kernel
theorem ck_x : (tbl (.castable IOB IOB) && tbl (.declares (Bundle.initS "java/lang/RuntimeException")) && tbl (.declares (Bundle.initS "java/lang/Exception")) && tbl (.declares (Bundle.initS "java/lang/Throwable")) && tbl (.arrayOver (.object "LockstepRoom$Member")) && tbl (.arrayOver (.object "LockstepRoom$State")) && tbl (.arrayClass .int) && tbl (.arrayClass .byte) && tbl (.arrayClass .long)) = true := by decide +kernel
theorem ck_cl : vwCl.all (fun q => (u_ws q.1 q.2.1 q.2.2).all tbl && tbl (.instantiable q.1 q.2.2)) = true := by decide +kernel
