/-! the start: the law's world out of what the Statement gives, and its end -/
def tsrc : List (String × Nat) := [("LockstepRoom$Loader", 90), ("LockstepRoom$Loader", 98), ("LockstepRoom$Loader", 103), ("LockstepRoom$Loader", 201), ("LockstepRoom$Loader", 203), ("LockstepRoom$Loader", 205), ("LockstepRoom$Loader", 207), ("LockstepRoom$Loader", 209), ("LockstepRoom$Loader", 211), ("LockstepRoom$Loader", 108), ("LockstepRoom$Loader", 113), ("LockstepRoom$Loader", 118), ("LockstepRoom$Loader", 188), ("LockstepRoom$Loader", 190), ("LockstepRoom", 370), ("LockstepRoom", 374), ("LockstepRoom", 372), ("LockstepRoom", 208), ("LockstepRoomLaw", 56), ("LockstepRoomLaw", 58), ("LockstepRoomLaw", 60), ("LockstepRoomLaw", 62), ("LockstepRoomLaw", 64), ("LockstepRoomLaw", 66), ("LockstepRoomLaw", 68), ("LockstepRoomLaw", 76), ("LockstepRoomLaw", 78), ("LockstepRoomLaw", 21), ("LockstepRoomLaw", 83), ("LockstepRoomLaw", 85), ("LockstepRoomLaw", 51), ("LockstepRoomLaw", 100), ("LockstepRoomLaw", 106)]
/-- the bytes of the texts -/
def txby : List (List Int32) := [[115, 116, 97, 114, 116], [109, 101, 109, 98, 101, 114], [100, 111], [112, 117, 116], [97, 100, 100], [99, 111, 112, 121], [115, 117, 109], [115, 119, 97, 112], [109, 117, 108], [115, 101, 97, 108], [102, 97, 117, 108, 116], [115, 101, 116], [108, 97, 103], [113, 117, 111, 114, 117, 109], [110, 111, 32, 115, 117, 99, 104, 32, 109, 101, 109, 98, 101, 114], [110, 111, 32, 115, 117, 99, 104, 32, 99, 101, 108, 108], [110, 111, 32, 115, 117, 99, 104, 32, 115, 101, 97, 108, 101, 100, 32, 116, 117, 114, 110], [110, 111, 32, 115, 117, 99, 104, 32, 102, 97, 117, 108, 116], [112, 117, 116], [97, 100, 100], [99, 111, 112, 121], [115, 117, 109], [115, 119, 97, 112], [109, 117, 108], [115, 101, 116, 32, 108, 97, 103, 32], [59, 115, 101, 116, 32, 113, 117, 111, 114, 117, 109, 32], [59, 115, 116, 97, 114, 116], [32], [59], [109, 101, 109, 98, 101, 114, 32], [109], [100, 111, 32], [115, 101, 97, 108, 59]]
def tens : List Int32 := [48, 48, 48, 48, 48, 48, 48, 48, 48, 48, 49, 49, 49, 49, 49, 49, 49, 49, 49, 49, 50, 50, 50, 50, 50, 50, 50, 50, 50, 50, 51, 51, 51, 51, 51, 51, 51, 51, 51, 51, 52, 52, 52, 52, 52, 52, 52, 52, 52, 52, 53, 53, 53, 53, 53, 53, 53, 53, 53, 53, 54, 54, 54, 54, 54, 54, 54, 54, 54, 54, 55, 55, 55, 55, 55, 55, 55, 55, 55, 55, 56, 56, 56, 56, 56, 56, 56, 56, 56, 56, 57, 57, 57, 57, 57, 57, 57, 57, 57, 57]
def ones : List Int32 := [48, 49, 50, 51, 52, 53, 54, 55, 56, 57, 48, 49, 50, 51, 52, 53, 54, 55, 56, 57, 48, 49, 50, 51, 52, 53, 54, 55, 56, 57, 48, 49, 50, 51, 52, 53, 54, 55, 56, 57, 48, 49, 50, 51, 52, 53, 54, 55, 56, 57, 48, 49, 50, 51, 52, 53, 54, 55, 56, 57, 48, 49, 50, 51, 52, 53, 54, 55, 56, 57, 48, 49, 50, 51, 52, 53, 54, 55, 56, 57, 48, 49, 50, 51, 52, 53, 54, 55, 56, 57, 48, 49, 50, 51, 52, 53, 54, 55, 56, 57]
def k0 (L : Nat) (a : Nat) : Nat × Nat := if a < 33 then (0, 4) else if 100 ≤ a ∧ a < 133 then (21, (txby.getD (a - 100) []).length) else if a = 200 then (21, 100) else if a = 201 then (21, 100) else if a = 300 then (20, L) else (99, 0)
def i0 (xs : Nat → Int32) (a k : Nat) : Int32 := if a < 33 then 0 else if 100 ≤ a ∧ a < 133 then (txby.getD (a - 100) []).getD k 0 else if a = 200 then tens.getD k 0 else if a = 201 then ones.getD k 0 else if a = 300 then xs k else 0
def r0 (a k : Nat) : Option Nat := if a < 33 ∧ k = 0 then some (100 + a) else none
/-- the small heap at the start: texts, tables, the script -/
def mu0 (L : Nat) (xs : Nat → Int32) : Mu := (1000, k0 L, i0 xs, fun _ _ => 0, r0)
def tm0 (i : Nat) : Term := .string (tsrc.getD i ("", 0)).1 (tsrc.getD i ("", 0)).2
def gvn : List Cond := flatC (Jvm.Cond.and given_1 narrow_1)
set_option maxRecDepth 100000 in
theorem ck_ex : ∀ i, i < 33 → Cond.exactly (tm0 i) "java/lang/String" ∈ gvn := by decide +kernel
set_option maxRecDepth 100000 in
theorem ck_co : ∀ i, i < 33 → Cond.eq (.field (tm0 i) "java/lang/String" "coder" "B") (.int 0) ∈ gvn := by decide +kernel
set_option maxRecDepth 100000 in
theorem ck_ar : ∀ i, i < 33 → Cond.arrayOf (.field (tm0 i) "java/lang/String" "value" "[B") .byte ∈ gvn := by decide +kernel
set_option maxRecDepth 100000 in
theorem ck_le : ∀ i, i < 33 → Cond.eq (.length (.field (tm0 i) "java/lang/String" "value" "[B")) (.int (Int32.ofNat ((txby.map List.length).getD i 0))) ∈ gvn := by decide +kernel
set_option maxRecDepth 100000 in
theorem ck_el0 : ((List.range 5).map fun j => Cond.eq (.elem (.field (tm0 0) "java/lang/String" "value" "[B") (.int (Int32.ofNat j))) (.int ((txby.getD 0 []).getD j 0))) = [367, 368, 369, 370, 371].filterMap (fun i => gvn[i]?) := rfl
set_option maxRecDepth 100000 in
theorem ck_el1 : ((List.range 6).map fun j => Cond.eq (.elem (.field (tm0 1) "java/lang/String" "value" "[B") (.int (Int32.ofNat j))) (.int ((txby.getD 1 []).getD j 0))) = [376, 377, 378, 379, 380, 381].filterMap (fun i => gvn[i]?) := rfl
set_option maxRecDepth 100000 in
theorem ck_el2 : ((List.range 2).map fun j => Cond.eq (.elem (.field (tm0 2) "java/lang/String" "value" "[B") (.int (Int32.ofNat j))) (.int ((txby.getD 2 []).getD j 0))) = [386, 387].filterMap (fun i => gvn[i]?) := rfl
set_option maxRecDepth 100000 in
theorem ck_el3 : ((List.range 3).map fun j => Cond.eq (.elem (.field (tm0 3) "java/lang/String" "value" "[B") (.int (Int32.ofNat j))) (.int ((txby.getD 3 []).getD j 0))) = [392, 393, 394].filterMap (fun i => gvn[i]?) := rfl
set_option maxRecDepth 100000 in
theorem ck_el4 : ((List.range 3).map fun j => Cond.eq (.elem (.field (tm0 4) "java/lang/String" "value" "[B") (.int (Int32.ofNat j))) (.int ((txby.getD 4 []).getD j 0))) = [400, 401, 402].filterMap (fun i => gvn[i]?) := rfl
set_option maxRecDepth 100000 in
theorem ck_el5 : ((List.range 4).map fun j => Cond.eq (.elem (.field (tm0 5) "java/lang/String" "value" "[B") (.int (Int32.ofNat j))) (.int ((txby.getD 5 []).getD j 0))) = [408, 409, 410, 411].filterMap (fun i => gvn[i]?) := rfl
set_option maxRecDepth 100000 in
theorem ck_el6 : ((List.range 3).map fun j => Cond.eq (.elem (.field (tm0 6) "java/lang/String" "value" "[B") (.int (Int32.ofNat j))) (.int ((txby.getD 6 []).getD j 0))) = [417, 418, 419].filterMap (fun i => gvn[i]?) := rfl
set_option maxRecDepth 100000 in
theorem ck_el7 : ((List.range 4).map fun j => Cond.eq (.elem (.field (tm0 7) "java/lang/String" "value" "[B") (.int (Int32.ofNat j))) (.int ((txby.getD 7 []).getD j 0))) = [425, 426, 427, 428].filterMap (fun i => gvn[i]?) := rfl
set_option maxRecDepth 100000 in
theorem ck_el8 : ((List.range 3).map fun j => Cond.eq (.elem (.field (tm0 8) "java/lang/String" "value" "[B") (.int (Int32.ofNat j))) (.int ((txby.getD 8 []).getD j 0))) = [434, 435, 436].filterMap (fun i => gvn[i]?) := rfl
set_option maxRecDepth 100000 in
theorem ck_el9 : ((List.range 4).map fun j => Cond.eq (.elem (.field (tm0 9) "java/lang/String" "value" "[B") (.int (Int32.ofNat j))) (.int ((txby.getD 9 []).getD j 0))) = [442, 443, 444, 445].filterMap (fun i => gvn[i]?) := rfl
set_option maxRecDepth 100000 in
theorem ck_el10 : ((List.range 5).map fun j => Cond.eq (.elem (.field (tm0 10) "java/lang/String" "value" "[B") (.int (Int32.ofNat j))) (.int ((txby.getD 10 []).getD j 0))) = [450, 451, 452, 453, 454].filterMap (fun i => gvn[i]?) := rfl
set_option maxRecDepth 100000 in
theorem ck_el11 : ((List.range 3).map fun j => Cond.eq (.elem (.field (tm0 11) "java/lang/String" "value" "[B") (.int (Int32.ofNat j))) (.int ((txby.getD 11 []).getD j 0))) = [459, 460, 461].filterMap (fun i => gvn[i]?) := rfl
set_option maxRecDepth 100000 in
theorem ck_el12 : ((List.range 3).map fun j => Cond.eq (.elem (.field (tm0 12) "java/lang/String" "value" "[B") (.int (Int32.ofNat j))) (.int ((txby.getD 12 []).getD j 0))) = [466, 467, 468].filterMap (fun i => gvn[i]?) := rfl
set_option maxRecDepth 100000 in
theorem ck_el13 : ((List.range 6).map fun j => Cond.eq (.elem (.field (tm0 13) "java/lang/String" "value" "[B") (.int (Int32.ofNat j))) (.int ((txby.getD 13 []).getD j 0))) = [473, 474, 475, 476, 477, 478].filterMap (fun i => gvn[i]?) := rfl
set_option maxRecDepth 100000 in
theorem ck_el14 : ((List.range 14).map fun j => Cond.eq (.elem (.field (tm0 14) "java/lang/String" "value" "[B") (.int (Int32.ofNat j))) (.int ((txby.getD 14 []).getD j 0))) = [483, 484, 485, 486, 487, 488, 489, 490, 491, 492, 493, 494, 495, 496].filterMap (fun i => gvn[i]?) := rfl
set_option maxRecDepth 100000 in
theorem ck_el15 : ((List.range 12).map fun j => Cond.eq (.elem (.field (tm0 15) "java/lang/String" "value" "[B") (.int (Int32.ofNat j))) (.int ((txby.getD 15 []).getD j 0))) = [501, 502, 503, 504, 505, 506, 507, 508, 509, 510, 511, 512].filterMap (fun i => gvn[i]?) := rfl
set_option maxRecDepth 100000 in
theorem ck_el16 : ((List.range 19).map fun j => Cond.eq (.elem (.field (tm0 16) "java/lang/String" "value" "[B") (.int (Int32.ofNat j))) (.int ((txby.getD 16 []).getD j 0))) = [517, 518, 519, 520, 521, 522, 523, 524, 525, 526, 527, 528, 529, 530, 531, 532, 533, 534, 535].filterMap (fun i => gvn[i]?) := rfl
set_option maxRecDepth 100000 in
theorem ck_el17 : ((List.range 13).map fun j => Cond.eq (.elem (.field (tm0 17) "java/lang/String" "value" "[B") (.int (Int32.ofNat j))) (.int ((txby.getD 17 []).getD j 0))) = [540, 541, 542, 543, 544, 545, 546, 547, 548, 549, 550, 551, 552].filterMap (fun i => gvn[i]?) := rfl
set_option maxRecDepth 100000 in
theorem ck_el18 : ((List.range 3).map fun j => Cond.eq (.elem (.field (tm0 18) "java/lang/String" "value" "[B") (.int (Int32.ofNat j))) (.int ((txby.getD 18 []).getD j 0))) = [243, 244, 245].filterMap (fun i => gvn[i]?) := rfl
set_option maxRecDepth 100000 in
theorem ck_el19 : ((List.range 3).map fun j => Cond.eq (.elem (.field (tm0 19) "java/lang/String" "value" "[B") (.int (Int32.ofNat j))) (.int ((txby.getD 19 []).getD j 0))) = [250, 251, 252].filterMap (fun i => gvn[i]?) := rfl
set_option maxRecDepth 100000 in
theorem ck_el20 : ((List.range 4).map fun j => Cond.eq (.elem (.field (tm0 20) "java/lang/String" "value" "[B") (.int (Int32.ofNat j))) (.int ((txby.getD 20 []).getD j 0))) = [257, 258, 259, 260].filterMap (fun i => gvn[i]?) := rfl
set_option maxRecDepth 100000 in
theorem ck_el21 : ((List.range 3).map fun j => Cond.eq (.elem (.field (tm0 21) "java/lang/String" "value" "[B") (.int (Int32.ofNat j))) (.int ((txby.getD 21 []).getD j 0))) = [265, 266, 267].filterMap (fun i => gvn[i]?) := rfl
set_option maxRecDepth 100000 in
theorem ck_el22 : ((List.range 4).map fun j => Cond.eq (.elem (.field (tm0 22) "java/lang/String" "value" "[B") (.int (Int32.ofNat j))) (.int ((txby.getD 22 []).getD j 0))) = [272, 273, 274, 275].filterMap (fun i => gvn[i]?) := rfl
set_option maxRecDepth 100000 in
theorem ck_el23 : ((List.range 3).map fun j => Cond.eq (.elem (.field (tm0 23) "java/lang/String" "value" "[B") (.int (Int32.ofNat j))) (.int ((txby.getD 23 []).getD j 0))) = [280, 281, 282].filterMap (fun i => gvn[i]?) := rfl
set_option maxRecDepth 100000 in
theorem ck_el24 : ((List.range 8).map fun j => Cond.eq (.elem (.field (tm0 24) "java/lang/String" "value" "[B") (.int (Int32.ofNat j))) (.int ((txby.getD 24 []).getD j 0))) = [287, 288, 289, 290, 291, 292, 293, 294].filterMap (fun i => gvn[i]?) := rfl
set_option maxRecDepth 100000 in
theorem ck_el25 : ((List.range 12).map fun j => Cond.eq (.elem (.field (tm0 25) "java/lang/String" "value" "[B") (.int (Int32.ofNat j))) (.int ((txby.getD 25 []).getD j 0))) = [299, 300, 301, 302, 303, 304, 305, 306, 307, 308, 309, 310].filterMap (fun i => gvn[i]?) := rfl
set_option maxRecDepth 100000 in
theorem ck_el26 : ((List.range 6).map fun j => Cond.eq (.elem (.field (tm0 26) "java/lang/String" "value" "[B") (.int (Int32.ofNat j))) (.int ((txby.getD 26 []).getD j 0))) = [315, 316, 317, 318, 319, 320].filterMap (fun i => gvn[i]?) := rfl
set_option maxRecDepth 100000 in
theorem ck_el27 : ((List.range 1).map fun j => Cond.eq (.elem (.field (tm0 27) "java/lang/String" "value" "[B") (.int (Int32.ofNat j))) (.int ((txby.getD 27 []).getD j 0))) = [325].filterMap (fun i => gvn[i]?) := rfl
set_option maxRecDepth 100000 in
theorem ck_el28 : ((List.range 1).map fun j => Cond.eq (.elem (.field (tm0 28) "java/lang/String" "value" "[B") (.int (Int32.ofNat j))) (.int ((txby.getD 28 []).getD j 0))) = [330].filterMap (fun i => gvn[i]?) := rfl
set_option maxRecDepth 100000 in
theorem ck_el29 : ((List.range 7).map fun j => Cond.eq (.elem (.field (tm0 29) "java/lang/String" "value" "[B") (.int (Int32.ofNat j))) (.int ((txby.getD 29 []).getD j 0))) = [335, 336, 337, 338, 339, 340, 341].filterMap (fun i => gvn[i]?) := rfl
set_option maxRecDepth 100000 in
theorem ck_el30 : ((List.range 1).map fun j => Cond.eq (.elem (.field (tm0 30) "java/lang/String" "value" "[B") (.int (Int32.ofNat j))) (.int ((txby.getD 30 []).getD j 0))) = [346].filterMap (fun i => gvn[i]?) := rfl
set_option maxRecDepth 100000 in
theorem ck_el31 : ((List.range 3).map fun j => Cond.eq (.elem (.field (tm0 31) "java/lang/String" "value" "[B") (.int (Int32.ofNat j))) (.int ((txby.getD 31 []).getD j 0))) = [351, 352, 353].filterMap (fun i => gvn[i]?) := rfl
set_option maxRecDepth 100000 in
theorem ck_el32 : ((List.range 5).map fun j => Cond.eq (.elem (.field (tm0 32) "java/lang/String" "value" "[B") (.int (Int32.ofNat j))) (.int ((txby.getD 32 []).getD j 0))) = [358, 359, 360, 361, 362].filterMap (fun i => gvn[i]?) := rfl
theorem pl_mem {α : Type} {G : List α} {f : Nat → α} {n : Nat} {ps : List Nat} (h : (List.range n).map f = ps.filterMap (fun i => G[i]?)) : ∀ j, j < n → f j ∈ G := by
  intro j hj
  have h1 : f j ∈ (List.range n).map f := List.mem_map.mpr ⟨j, List.mem_range.mpr hj, rfl⟩
  rw [h] at h1
  obtain ⟨i, -, hi⟩ := List.mem_filterMap.mp h1
  exact List.mem_of_getElem? hi
theorem ck_el : ∀ i, i < 33 → ∀ j, j < (txby.map List.length).getD i 0 → Cond.eq (.elem (.field (tm0 i) "java/lang/String" "value" "[B") (.int (Int32.ofNat j))) (.int ((txby.getD i []).getD j 0)) ∈ gvn := by
  intro i hi
  have hc : i = 0 ∨ i = 1 ∨ i = 2 ∨ i = 3 ∨ i = 4 ∨ i = 5 ∨ i = 6 ∨ i = 7 ∨ i = 8 ∨ i = 9 ∨ i = 10 ∨ i = 11 ∨ i = 12 ∨ i = 13 ∨ i = 14 ∨ i = 15 ∨ i = 16 ∨ i = 17 ∨ i = 18 ∨ i = 19 ∨ i = 20 ∨ i = 21 ∨ i = 22 ∨ i = 23 ∨ i = 24 ∨ i = 25 ∨ i = 26 ∨ i = 27 ∨ i = 28 ∨ i = 29 ∨ i = 30 ∨ i = 31 ∨ i = 32 := by omega
  rcases hc with rfl | rfl | rfl | rfl | rfl | rfl | rfl | rfl | rfl | rfl | rfl | rfl | rfl | rfl | rfl | rfl | rfl | rfl | rfl | rfl | rfl | rfl | rfl | rfl | rfl | rfl | rfl | rfl | rfl | rfl | rfl | rfl | rfl
  · exact pl_mem ck_el0
  · exact pl_mem ck_el1
  · exact pl_mem ck_el2
  · exact pl_mem ck_el3
  · exact pl_mem ck_el4
  · exact pl_mem ck_el5
  · exact pl_mem ck_el6
  · exact pl_mem ck_el7
  · exact pl_mem ck_el8
  · exact pl_mem ck_el9
  · exact pl_mem ck_el10
  · exact pl_mem ck_el11
  · exact pl_mem ck_el12
  · exact pl_mem ck_el13
  · exact pl_mem ck_el14
  · exact pl_mem ck_el15
  · exact pl_mem ck_el16
  · exact pl_mem ck_el17
  · exact pl_mem ck_el18
  · exact pl_mem ck_el19
  · exact pl_mem ck_el20
  · exact pl_mem ck_el21
  · exact pl_mem ck_el22
  · exact pl_mem ck_el23
  · exact pl_mem ck_el24
  · exact pl_mem ck_el25
  · exact pl_mem ck_el26
  · exact pl_mem ck_el27
  · exact pl_mem ck_el28
  · exact pl_mem ck_el29
  · exact pl_mem ck_el30
  · exact pl_mem ck_el31
  · exact pl_mem ck_el32
theorem ck_ln : ∀ i, i < 33 → (txby.map List.length).getD i 0 < 2 ^ 31 ∧ (txby.map List.length).getD i 0 = (txby.getD i []).length := by decide +kernel
def tnT : Term := .static "java/lang/Integer" "DigitTens" "[B"
def onT : Term := .static "java/lang/Integer" "DigitOnes" "[B"
set_option maxRecDepth 100000 in
theorem ck_dg : Cond.arrayOf tnT .byte ∈ gvn ∧ Cond.arrayOf onT .byte ∈ gvn ∧ Cond.eq (.length tnT) (.int (Int32.ofNat 100)) ∈ gvn ∧ Cond.eq (.length onT) (.int (Int32.ofNat 100)) ∈ gvn := by decide +kernel
set_option maxRecDepth 100000 in
theorem ck_d1_0 : ((List.range 25).map fun j => Cond.eq (.elem tnT (.int (Int32.ofNat (0 + j)))) (.int (tens.getD (0 + j) 0))) = [115, 116, 117, 118, 119, 120, 121, 122, 123, 124, 125, 126, 127, 128, 129, 130, 131, 132, 133, 134, 135, 136, 137, 138, 139].filterMap (fun i => gvn[i]?) := rfl
set_option maxRecDepth 100000 in
theorem ck_d1_25 : ((List.range 25).map fun j => Cond.eq (.elem tnT (.int (Int32.ofNat (25 + j)))) (.int (tens.getD (25 + j) 0))) = [140, 141, 142, 143, 144, 145, 146, 147, 148, 149, 150, 151, 152, 153, 154, 155, 156, 157, 158, 159, 160, 161, 162, 163, 164].filterMap (fun i => gvn[i]?) := rfl
set_option maxRecDepth 100000 in
theorem ck_d1_50 : ((List.range 25).map fun j => Cond.eq (.elem tnT (.int (Int32.ofNat (50 + j)))) (.int (tens.getD (50 + j) 0))) = [165, 166, 167, 168, 169, 170, 171, 172, 173, 174, 175, 176, 177, 178, 179, 180, 181, 182, 183, 184, 185, 186, 187, 188, 189].filterMap (fun i => gvn[i]?) := rfl
set_option maxRecDepth 100000 in
theorem ck_d1_75 : ((List.range 25).map fun j => Cond.eq (.elem tnT (.int (Int32.ofNat (75 + j)))) (.int (tens.getD (75 + j) 0))) = [190, 191, 192, 193, 194, 195, 196, 197, 198, 199, 200, 201, 202, 203, 204, 205, 206, 207, 208, 209, 210, 211, 212, 213, 214].filterMap (fun i => gvn[i]?) := rfl
theorem ck_d1 : ∀ j, j < 100 → Cond.eq (.elem tnT (.int (Int32.ofNat j))) (.int (tens.getD j 0)) ∈ gvn := by
  intro j hj
  rcases (by omega : j < 25 ∨ 25 ≤ j ∧ j < 50 ∨ 50 ≤ j ∧ j < 75 ∨ 75 ≤ j) with h | h | h | h
  · have := pl_mem ck_d1_0 (j - 0) (by omega)
    rw [show 0 + (j - 0) = j by omega] at this; exact this
  · have := pl_mem ck_d1_25 (j - 25) (by omega)
    rw [show 25 + (j - 25) = j by omega] at this; exact this
  · have := pl_mem ck_d1_50 (j - 50) (by omega)
    rw [show 50 + (j - 50) = j by omega] at this; exact this
  · have := pl_mem ck_d1_75 (j - 75) (by omega)
    rw [show 75 + (j - 75) = j by omega] at this; exact this
set_option maxRecDepth 100000 in
theorem ck_d2_0 : ((List.range 25).map fun j => Cond.eq (.elem onT (.int (Int32.ofNat (0 + j)))) (.int (ones.getD (0 + j) 0))) = [12, 13, 14, 15, 16, 17, 18, 19, 20, 21, 22, 23, 24, 25, 26, 27, 28, 29, 30, 31, 32, 33, 34, 35, 36].filterMap (fun i => gvn[i]?) := rfl
set_option maxRecDepth 100000 in
theorem ck_d2_25 : ((List.range 25).map fun j => Cond.eq (.elem onT (.int (Int32.ofNat (25 + j)))) (.int (ones.getD (25 + j) 0))) = [37, 38, 39, 40, 41, 42, 43, 44, 45, 46, 47, 48, 49, 50, 51, 52, 53, 54, 55, 56, 57, 58, 59, 60, 61].filterMap (fun i => gvn[i]?) := rfl
set_option maxRecDepth 100000 in
theorem ck_d2_50 : ((List.range 25).map fun j => Cond.eq (.elem onT (.int (Int32.ofNat (50 + j)))) (.int (ones.getD (50 + j) 0))) = [62, 63, 64, 65, 66, 67, 68, 69, 70, 71, 72, 73, 74, 75, 76, 77, 78, 79, 80, 81, 82, 83, 84, 85, 86].filterMap (fun i => gvn[i]?) := rfl
set_option maxRecDepth 100000 in
theorem ck_d2_75 : ((List.range 25).map fun j => Cond.eq (.elem onT (.int (Int32.ofNat (75 + j)))) (.int (ones.getD (75 + j) 0))) = [87, 88, 89, 90, 91, 92, 93, 94, 95, 96, 97, 98, 99, 100, 101, 102, 103, 104, 105, 106, 107, 108, 109, 110, 111].filterMap (fun i => gvn[i]?) := rfl
theorem ck_d2 : ∀ j, j < 100 → Cond.eq (.elem onT (.int (Int32.ofNat j))) (.int (ones.getD j 0)) ∈ gvn := by
  intro j hj
  rcases (by omega : j < 25 ∨ 25 ≤ j ∧ j < 50 ∨ 50 ≤ j ∧ j < 75 ∨ 75 ≤ j) with h | h | h | h
  · have := pl_mem ck_d2_0 (j - 0) (by omega)
    rw [show 0 + (j - 0) = j by omega] at this; exact this
  · have := pl_mem ck_d2_25 (j - 25) (by omega)
    rw [show 25 + (j - 25) = j by omega] at this; exact this
  · have := pl_mem ck_d2_50 (j - 50) (by omega)
    rw [show 50 + (j - 50) = j by omega] at this; exact this
  · have := pl_mem ck_d2_75 (j - 75) (by omega)
    rw [show 75 + (j - 75) = j by omega] at this; exact this
set_option maxRecDepth 100000 in
theorem ck_cs : Cond.eq (.static "java/lang/String" "COMPACT_STRINGS" "Z") (.int 1) ∈ gvn ∧ Cond.isRef (.static Bundle.tN "UNASSIGNED_STACK" Bundle.steD) ∈ gvn ∧ Cond.isRef (.static Bundle.tN "SUPPRESSED_SENTINEL" Bundle.listD) ∈ gvn ∧ Cond.isRef (.static "jdk/internal/util/Preconditions" "SIOOBE_FORMATTER" "Ljava/util/function/BiFunction;") ∈ gvn := by decide +kernel
def tbl (w : Cond) : Bool := decide (w ∈ lw_tbl)
theorem ck_st : (tbl (.laysStatic "java/lang/String" "COMPACT_STRINGS" "Z") && tbl (.laysStatic "java/lang/Integer" "DigitTens" "[B") && tbl (.laysStatic "java/lang/Integer" "DigitOnes" "[B") && tbl (.laysStatic Bundle.tN "UNASSIGNED_STACK" Bundle.steD) && tbl (.laysStatic Bundle.tN "SUPPRESSED_SENTINEL" Bundle.listD) && tbl (.initialized "java/lang/String") && tbl (.initialized "java/lang/Integer") && tbl (.initialized Bundle.tN) && tbl (.laysStatic "jdk/internal/util/Preconditions" "SIOOBE_FORMATTER" "Ljava/util/function/BiFunction;") && tbl (.initialized "jdk/internal/util/Preconditions")) = true := by decide +kernel
theorem ck_k : ∀ n, n < 20 → ∀ r ∈ ktab.getD n [], (match r.2 with | .inr k => Nat.blt k 33 && decide (tsrc.getD k ("", 0) = (cnm.getD n "", r.1)) && tbl (.stringRef (cnm.getD n "") r.1 (txts.getD k "")) | .inl _ => true) = true := by decide +kernel
theorem ck_n : ∀ n, n < 20 → ∀ r ∈ ctab.getD n [], (match r.2.1 with | 3 => tbl (.methodLinkNest (cnm.getD n "") r.1 (mi_y (minfo r.2.2)) "LockstepRoom") | 4 => tbl (.methodLinkNest (cnm.getD n "") r.1 (mi_y (minfo r.2.2)) "LockstepRoom") | _ => true) = true := by decide +kernel
theorem ck_x : (tbl (.castable IOB IOB) && tbl (.declares (Bundle.initS "java/lang/RuntimeException")) && tbl (.declares (Bundle.initS "java/lang/Exception")) && tbl (.declares (Bundle.initS "java/lang/Throwable")) && tbl (.arrayOver (.object "LockstepRoom$Member")) && tbl (.arrayOver (.object "LockstepRoom$State")) && tbl (.arrayClass .int) && tbl (.arrayClass .byte) && tbl (.arrayClass .boolean) && tbl (.arrayOver (.object "java/lang/String")) && tbl (.castable "[B" "java/lang/Cloneable")) = true := by decide +kernel
theorem ck_cl : vwCl.all (fun q => (u_ws q.1 q.2.1 q.2.2).all tbl && tbl (.instantiable q.1 q.2.2)) = true := by decide +kernel
