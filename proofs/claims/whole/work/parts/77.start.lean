/-! THE START: what the Statement gives of it -/
section XST
def narL : List Cond := flatC (Jvm.Cond.and given_1 narrow_1)
def wk9 : List Nat := [431, 433, 434, 435, 437, 439, 441, 442, 443, 444, 446, 448, 450, 451, 452, 453, 455, 457, 459, 460]
def sk9 : List Nat := [145, 151, 154, 157, 160, 163, 166, 169, 172, 175, 178, 181, 184, 187, 190, 193, 196, 199, 202, 205, 208, 211, 214, 217, 220, 223, 226, 229, 232, 235, 238, 241, 244, 247, 250, 253, 253, 253, 253]
def sgT (i : Nat) : Term := .static "BeltRounds$Sign" (xx_sg.getD i "") xx_dS
def alT : Term := .static "BeltRounds$Sign" "ALL" "[LBeltRounds$Sign;"
def woT : Term := .static "BeltRoundsModel" "WORDS" "[Ljava/lang/String;"
def stT (i : Nat) : Term := if i < 20 then .string "BeltRoundsModel" (wk9.getD i 0) else .string "BeltRounds$Sign" (sk9.getD (i - 20) 0)
def vaT (i : Nat) : Term := .field (stT i) "java/lang/String" "value" "[B"
def fmT : Term := .static "jdk/internal/util/Preconditions" "SIOOBE_FORMATTER" "Ljava/util/function/BiFunction;"
def tmT (h : Nat) : Term := if h < 39 then sgT h else if h = 39 then alT else if h = 40 then woT else if h < 100 then stT (h - 41) else if h < 159 then vaT (h - 100) else fmT
abbrev at_ (p : List Nat) (a : Nat → Cond) (n : Nat) : Bool := (List.range n).all (fun i => decide (narL[p.getD i 0]? = some (a i)))
theorem at_m {p : List Nat} {a : Nat → Cond} {n : Nat} (h : at_ p a n = true) {i : Nat} (hi : i < n) : a i ∈ narL :=
  List.mem_of_getElem? (of_decide_eq_true (List.all_eq_true.mp h i (List.mem_range.mpr hi)))
theorem na_1 : at_ [65, 68, 71, 77, 134, 74, 80, 83, 86, 89, 104, 125, 101, 128, 131, 92, 161, 164, 116, 119, 110, 113, 95, 98, 167, 122, 143, 107, 137, 140, 146, 149, 152, 155, 158, 62, 10, 4, 7] (fun i => .exactly (sgT i) "BeltRounds$Sign") 39 = true := by decide +kernel
theorem na_2 : at_ [66, 69, 72, 78, 135, 75, 81, 84, 87, 90, 105, 126, 102, 129, 132, 93, 162, 165, 117, 120, 111, 114, 96, 99, 168, 123, 144, 108, 138, 141, 147, 150, 153, 156, 159, 63, 11, 5, 8] (fun i => .eq (.field (sgT i) "java/lang/Enum" "ordinal" "I") (.int (Int32.ofNat i))) 39 = true := by decide +kernel
theorem na_3 : at_ [67, 70, 73, 79, 136, 76, 82, 85, 88, 91, 106, 127, 103, 130, 133, 94, 163, 166, 118, 121, 112, 115, 97, 100, 169, 124, 145, 109, 139, 142, 148, 151, 154, 157, 160, 64, 12, 6, 9] (fun i => .eq (.field (sgT i) "BeltRounds$Sign" "text" "Ljava/lang/String;") (stT (20 + i))) 39 = true := by decide +kernel
theorem na_5 : at_ [18, 19, 20, 21, 22, 23, 24, 25, 26, 27, 28, 29, 30, 31, 32, 33, 34, 35, 36, 37, 38, 39, 40, 41, 42, 43, 44, 45, 46, 47, 48, 49, 50, 51, 52, 53, 54, 55, 56] (fun i => .eq (.elem alT (.int (Int32.ofNat i))) (sgT i)) 39 = true := by decide +kernel
theorem na_6 : at_ [175, 176, 177, 178, 179, 180, 181, 182, 183, 184, 185, 186, 187, 188, 189, 190, 191, 192, 193, 194] (fun i => .eq (.elem woT (.int (Int32.ofNat i))) (stT i)) 20 = true := by decide +kernel
def pb9 : List Nat := [913, 926, 939, 950, 959, 968, 977, 985, 994, 1003, 1012, 1022, 1030, 1038, 1048, 1059, 1067, 1075, 1082, 1090, 671, 683, 695, 713, 845, 705, 721, 728, 736, 744, 776, 819, 769, 826, 835, 752, 895, 902, 800, 807, 790, 795, 759, 764, 908, 814, 863, 785, 853, 858, 868, 873, 878, 883, 889, 667, 667, 667, 667]
theorem na_7 : at_ pb9 (fun i => .exactly (stT i) "java/lang/String") 59 = true := by decide +kernel
theorem na_8 : at_ (pb9.map (· + 1)) (fun i => .eq (.field (stT i) "java/lang/String" "coder" "B") (.int 0)) 59 = true := by decide +kernel
theorem na_9 : at_ (pb9.map (· + 2)) (fun i => .arrayOf (vaT i) .byte) 59 = true := by decide +kernel
theorem na_10 : at_ (pb9.map (· + 3)) (fun i => .eq (.length (vaT i)) (.int (Int32.ofNat (xx_tx.getD i []).length))) 59 = true := by decide +kernel
theorem na_11 : (List.range 59).all (fun i => (List.range (xx_tx.getD i []).length).all (fun j => decide (narL[pb9.getD i 0 + 4 + j]? = some (.eq (.elem (vaT i) (.int (Int32.ofNat j))) (.int ((xx_tx.getD i []).getD j 0)))))) = true := by decide +kernel
theorem na_x : at_ [231, 261, 315, 367, 398, 442, 488, 507, 534, 567, 641, 295, 331, 458, 616] (fun i => .exactly (.string (xx_sx.getD i ("", 0, "")).1 (xx_sx.getD i ("", 0, "")).2.1) "java/lang/String") 15 = true := by decide +kernel
theorem na_n : at_ [229, 228, 216] (fun i => .not (.castable (xx_sn.getD i ("", "")).1 (xx_sn.getD i ("", "")).2)) 3 = true := by decide +kernel
theorem na_a : Cond.arrayOf alT (.object "BeltRounds$Sign") ∈ narL := List.mem_of_getElem? (i := 15) (by decide +kernel)
theorem na_b : Cond.eq (.length alT) (.int 39) ∈ narL := List.mem_of_getElem? (i := 16) (by decide +kernel)
theorem na_c : Cond.arrayOf woT (.object "java/lang/String") ∈ narL := List.mem_of_getElem? (i := 173) (by decide +kernel)
theorem na_d : Cond.eq (.length woT) (.int 20) ∈ narL := List.mem_of_getElem? (i := 174) (by decide +kernel)
theorem na_e : Cond.eq (.static "java/lang/String" "COMPACT_STRINGS" "Z") (.int 1) ∈ narL := List.mem_of_getElem? (i := 57) (by decide +kernel)
theorem na_f : Cond.isRef fmT ∈ narL := List.mem_of_getElem? (i := 58) (by decide +kernel)
theorem na_g : Cond.isRef (.static Bundle.tN "UNASSIGNED_STACK" Bundle.steD) ∈ narL := List.mem_of_getElem? (i := 170) (by decide +kernel)
theorem na_h : Cond.isRef (.static Bundle.tN "SUPPRESSED_SENTINEL" Bundle.listD) ∈ narL := List.mem_of_getElem? (i := 171) (by decide +kernel)
end XST
