/-! THE START: what the Statement gives of it -/
section XST
def narL : List Cond := flatC (Jvm.Cond.and given_1 narrow_1)
def sk9 : List Nat := [145, 151, 154, 157, 160, 163, 166, 169, 172, 175, 178, 181, 184, 187, 190, 193, 196, 199, 202, 205, 208, 211, 214, 217, 220, 223, 226, 229, 232, 235, 238, 241, 244, 247, 250, 253, 253, 253, 253]
def sgT (i : Nat) : Term := .static "BeltRounds$Sign" (xx_sg.getD i "") xx_dS
def alT : Term := .static "BeltRounds$Sign" "ALL" "[LBeltRounds$Sign;"
def dgT (ten : Bool) : Term := .static "java/lang/Integer" (if ten then "DigitTens" else "DigitOnes") "[B"
def ltT (k : Nat) : Term := .string (xx_lits.getD k ("", 0, "")).1 (xx_lits.getD k ("", 0, "")).2.1
def stT (i : Nat) : Term := if i < 20 then ltT i else if i < 59 then .string "BeltRounds$Sign" (sk9.getD (i - 20) 0) else ltT (i - 39)
def vaT (i : Nat) : Term := .field (stT i) "java/lang/String" "value" "[B"
def fmT : Term := .static "jdk/internal/util/Preconditions" "SIOOBE_FORMATTER" "Ljava/util/function/BiFunction;"
def tmT (h : Nat) : Term := if h < 39 then sgT h else if h = 39 then alT else if h < 100 then stT (h - 41) else if h < 159 then vaT (h - 100) else if h = 159 then fmT else if h = 161 then dgT false else if h = 162 then dgT true else if h < 300 then stT (h - 141) else vaT (h - 241)
abbrev at_ (p : List Nat) (a : Nat → Cond) (n : Nat) : Bool := (List.range n).all (fun i => decide (narL[p.getD i 0]? = some (a i)))
theorem at_m {p : List Nat} {a : Nat → Cond} {n : Nat} (h : at_ p a n = true) {i : Nat} (hi : i < n) : a i ∈ narL :=
  List.mem_of_getElem? (of_decide_eq_true (List.all_eq_true.mp h i (List.mem_range.mpr hi)))
theorem na_1 : at_ [67, 70, 73, 79, 136, 76, 82, 85, 88, 91, 106, 127, 103, 130, 133, 94, 163, 166, 118, 121, 112, 115, 97, 100, 169, 124, 145, 109, 139, 142, 148, 151, 154, 157, 160, 64, 17, 11, 14] (fun i => .exactly (sgT i) "BeltRounds$Sign") 39 = true := by decide +kernel
theorem na_2 : at_ [68, 71, 74, 80, 137, 77, 83, 86, 89, 92, 107, 128, 104, 131, 134, 95, 164, 167, 119, 122, 113, 116, 98, 101, 170, 125, 146, 110, 140, 143, 149, 152, 155, 158, 161, 65, 18, 12, 15] (fun i => .eq (.field (sgT i) "java/lang/Enum" "ordinal" "I") (.int (Int32.ofNat i))) 39 = true := by decide +kernel
theorem na_3 : at_ [69, 72, 75, 81, 138, 78, 84, 87, 90, 93, 108, 129, 105, 132, 135, 96, 165, 168, 120, 123, 114, 117, 99, 102, 171, 126, 147, 111, 141, 144, 150, 153, 156, 159, 162, 66, 19, 13, 16] (fun i => .eq (.field (sgT i) "BeltRounds$Sign" "text" "Ljava/lang/String;") (stT (20 + i))) 39 = true := by decide +kernel
theorem na_5 : at_ [25, 26, 27, 28, 29, 30, 31, 32, 33, 34, 35, 36, 37, 38, 39, 40, 41, 42, 43, 44, 45, 46, 47, 48, 49, 50, 51, 52, 53, 54, 55, 56, 57, 58, 59, 60, 61, 62, 63] (fun i => .eq (.elem alT (.int (Int32.ofNat i))) (sgT i)) 39 = true := by decide +kernel
def pb9 : List Nat := [730, 740, 745, 750, 764, 778, 788, 800, 808, 821, 825, 835, 840, 849, 860, 872, 879, 888, 898, 906, 1190, 1202, 1215, 1235, 1378, 1227, 1244, 1251, 1259, 1267, 1301, 1349, 1294, 1357, 1367, 1275, 1437, 1445, 1329, 1336, 1317, 1323, 1282, 1288, 1452, 1343, 1399, 1311, 1387, 1393, 1405, 1411, 1417, 1423, 1430, 1184, 1184, 1184, 1184, 911, 916, 921, 926, 934, 942, 947, 952, 957, 963, 969, 979, 988, 998, 1005, 1010, 1015, 1020, 1028, 1036, 1041, 1046, 1053]
theorem na_7 : at_ pb9 (fun i => .exactly (stT i) "java/lang/String") 82 = true := by decide +kernel
theorem na_8 : at_ (pb9.map (· + 1)) (fun i => .eq (.field (stT i) "java/lang/String" "coder" "B") (.int 0)) 82 = true := by decide +kernel
theorem na_9 : at_ (pb9.map (· + 2)) (fun i => .arrayOf (vaT i) .byte) 82 = true := by decide +kernel
theorem na_10 : at_ (pb9.map (· + 3)) (fun i => .eq (.length (vaT i)) (.int (Int32.ofNat (xx_tx.getD i []).length))) 82 = true := by decide +kernel
theorem na_11 : (List.range 82).all (fun i => (List.range (xx_tx.getD i []).length).all (fun j => decide (narL[pb9.getD i 0 + 4 + j]? = some (.eq (.elem (vaT i) (.int (Int32.ofNat j))) (.int ((xx_tx.getD i []).getD j 0)))))) = true := by decide +kernel
theorem na_12 : at_ [175, 176, 177, 178, 179, 180, 181, 182, 183, 184, 185, 186, 187, 188, 189, 190, 191, 192, 193, 194, 195, 196, 197, 198, 199, 200, 201, 202, 203, 204, 205, 206, 207, 208, 209, 210, 211, 212, 213, 214, 215, 216, 217, 218, 219, 220, 221, 222, 223, 224, 225, 226, 227, 228, 229, 230, 231, 232, 233, 234, 235, 236, 237, 238, 239, 240, 241, 242, 243, 244, 245, 246, 247, 248, 249, 250, 251, 252, 253, 254, 255, 256, 257, 258, 259, 260, 261, 262, 263, 264, 265, 266, 267, 268, 269, 270, 271, 272, 273, 274] (fun j => .eq (.elem (dgT false) (.int (Int32.ofNat j))) (.int (Int32.ofNat (48 + j % 10)))) 100 = true := by decide +kernel
theorem na_13 : at_ [278, 279, 280, 281, 282, 283, 284, 285, 286, 287, 288, 289, 290, 291, 292, 293, 294, 295, 296, 297, 298, 299, 300, 301, 302, 303, 304, 305, 306, 307, 308, 309, 310, 311, 312, 313, 314, 315, 316, 317, 318, 319, 320, 321, 322, 323, 324, 325, 326, 327, 328, 329, 330, 331, 332, 333, 334, 335, 336, 337, 338, 339, 340, 341, 342, 343, 344, 345, 346, 347, 348, 349, 350, 351, 352, 353, 354, 355, 356, 357, 358, 359, 360, 361, 362, 363, 364, 365, 366, 367, 368, 369, 370, 371, 372, 373, 374, 375, 376, 377] (fun j => .eq (.elem (dgT true) (.int (Int32.ofNat j))) (.int (Int32.ofNat (48 + j / 10)))) 100 = true := by decide +kernel
theorem na_x : at_ [666, 696, 439, 575, 606, 650, 1089, 1108, 491, 1135, 549, 419, 455, 1059, 524] (fun i => .exactly (.string (xx_sx.getD i ("", 0, "")).1 (xx_sx.getD i ("", 0, "")).2.1) "java/lang/String") 15 = true := by decide +kernel
theorem na_a : Cond.arrayOf alT (.object "BeltRounds$Sign") ∈ narL := List.mem_of_getElem? (i := 22) (by decide +kernel)
theorem na_b : Cond.eq (.length alT) (.int 39) ∈ narL := List.mem_of_getElem? (i := 23) (by decide +kernel)
theorem na_c0 : Cond.arrayOf (dgT false) .byte ∈ narL := List.mem_of_getElem? (i := 173) (by decide +kernel)
theorem na_d0 : Cond.eq (.length (dgT false)) (.int 100) ∈ narL := List.mem_of_getElem? (i := 174) (by decide +kernel)
theorem na_c1 : Cond.arrayOf (dgT true) .byte ∈ narL := List.mem_of_getElem? (i := 276) (by decide +kernel)
theorem na_d1 : Cond.eq (.length (dgT true)) (.int 100) ∈ narL := List.mem_of_getElem? (i := 277) (by decide +kernel)
theorem na_e : Cond.eq (.static "java/lang/String" "COMPACT_STRINGS" "Z") (.int 1) ∈ narL := List.mem_of_getElem? (i := 6) (by decide +kernel)
theorem na_f : Cond.isRef fmT ∈ narL := List.mem_of_getElem? (i := 7) (by decide +kernel)
theorem na_g : Cond.isRef (.static Bundle.tN "UNASSIGNED_STACK" Bundle.steD) ∈ narL := List.mem_of_getElem? (i := 4) (by decide +kernel)
theorem na_h : Cond.isRef (.static Bundle.tN "SUPPRESSED_SENTINEL" Bundle.listD) ∈ narL := List.mem_of_getElem? (i := 5) (by decide +kernel)
end XST
section XSU
variable {s : State} {b L : Nat} {xs : Nat → Int32} {i j k q e t d n h : Nat} {D : va_G} {dA : Nat → ClassId}
def adr (s : State) (b : Nat) (t : Term) : Nat := match t.eval #[Value.ref b] s none [] s with
  | some (.ref a) => a
  | _ => 0
theorem adr_of {t : Term} {a : Nat} (h : t.eval #[Value.ref b] s none [] s = some (.ref a)) : adr s b t = a := by unfold adr; rw [h]
def adG (s : State) (b L : Nat) (xs : Nat → Int32) : Nat → Nat := fun h => if h = 160 then b else if h < 400 then adr s b (tmT h) else if h = 400 then L else (xs (h - 401)).toBitVec.toNat
abbrev gG (D : va_G) (dA : Nat → ClassId) (s : State) (b L : Nat) (xs : Nat → Int32) : xx_G := (D, dA, s.heap.size, adG s b L xs)
def narH (s : State) (b : Nat) : Prop := ∀ w ∈ narL, w.before #[Value.ref b] s = true
def tblH (s : State) (b : Nat) : Prop := ∀ w ∈ lw_tbl, w.before #[Value.ref b] s = true
theorem ex_ev {t : Term} {C : String} (h : (Cond.exactly t C).before #[Value.ref b] s = true) : t.eval #[Value.ref b] s none [] s = some (.ref (adr s b t)) := by
  obtain ⟨a, c, cA, kA, q1, -⟩ := Cond.exactly_spec (args := #[Value.ref b]) (first := s) (o := none) (s := s) (idx := []) h
  rw [adr_of q1]; exact q1
theorem sg_ex (hs : narH s b) (hi : i < 39) : (Cond.exactly (sgT i) "BeltRounds$Sign").before #[Value.ref b] s = true := hs _ (at_m na_1 hi)
theorem tx_ex (hs : narH s b) (hi : i < 82) : (Cond.exactly (stT i) "java/lang/String").before #[Value.ref b] s = true := hs _ (at_m na_7 hi)
theorem sg_ev (hs : narH s b) (hi : i < 39) : (sgT i).eval #[Value.ref b] s none [] s = some (.ref (adr s b (sgT i))) := ex_ev (sg_ex hs hi)
theorem tx_ev (hs : narH s b) (hi : i < 82) : (stT i).eval #[Value.ref b] s none [] s = some (.ref (adr s b (stT i))) := ex_ev (tx_ex hs hi)
theorem tm_sg : (List.range 39).all (fun i => decide (tmT i = sgT i)) = true := by decide +kernel
theorem tm_tx : (List.range 82).all (fun i => decide (tmT (th i) = stT i)) = true := by decide +kernel
theorem tm_va : (List.range 82).all (fun i => decide (tmT (bh i) = vaT i)) = true := by decide +kernel
theorem ad_tm {t : Term} (h4 : h < 400) (h1 : ¬ h = 160) (e : tmT h = t) : adG s b L xs h = adr s b t := by
  unfold adG
  rw [if_neg h1, if_pos h4, e]
theorem ad_sg (hi : i < 39) : adG s b L xs i = adr s b (sgT i) := ad_tm (by omega) (by omega) (of_decide_eq_true (List.all_eq_true.mp tm_sg i (List.mem_range.mpr hi)))
theorem ad_al : adG s b L xs 39 = adr s b alT := rfl
theorem ad_d0 : adG s b L xs 161 = adr s b (dgT false) := rfl
theorem ad_d1 : adG s b L xs 162 = adr s b (dgT true) := rfl
theorem ad_tx (hi : i < 82) : adG s b L xs (th i) = adr s b (stT i) := ad_tm (th_lt hi) (by unfold th; split <;> omega) (of_decide_eq_true (List.all_eq_true.mp tm_tx i (List.mem_range.mpr hi)))
theorem ad_va (hi : i < 82) : adG s b L xs (bh i) = adr s b (vaT i) := ad_tm (bh_lt hi) (by unfold bh; split <;> omega) (of_decide_eq_true (List.all_eq_true.mp tm_va i (List.mem_range.mpr hi)))
theorem ad_fm : adG s b L xs 159 = adr s b fmT := rfl
theorem tx_n : (List.range 82).all (fun i => decide ((xx_tx.getD i []).length < 100)) = true := by decide +kernel
theorem hA9 : ∀ a : Nat, a < s.heap.size → ¬ xx_A (gG D dA s b L xs) a := fun a h => Nat.not_le.mpr h
theorem va_ev (hs : narH s b) (hi : i < 82) : (vaT i).eval #[Value.ref b] s none [] s = some (.ref (adr s b (vaT i))) ∧ va_T .byte (adr s b (vaT i)) (xx_tx.getD i []).length (fun j => .int ((xx_tx.getD i []).getD j 0)) (xx_A (gG D dA s b L xs)) s s.heap := by
  have hN := of_decide_eq_true (List.all_eq_true.mp tx_n i (List.mem_range.mpr hi))
  obtain ⟨t, h1, h2⟩ := va_Tof (args := #[Value.ref b]) (s := s) (tm := vaT i) (ty := .byte) (N := (xx_tx.getD i []).length) (f := fun j => .int ((xx_tx.getD i []).getD j 0)) (A := xx_A (gG D dA s b L xs)) (by omega) (hs _ (at_m na_9 hi)) (Cond.eq_int (hs _ (at_m na_10 hi)) rfl) (fun j hj => Cond.eq_int (hs _ (List.mem_of_getElem? (of_decide_eq_true (List.all_eq_true.mp (List.all_eq_true.mp na_11 i (List.mem_range.mpr hi)) j (List.mem_range.mpr hj))))) rfl) hA9
  rw [adr_of h1]
  exact ⟨h1, h2⟩
theorem al_T (hs : narH s b) : alT.eval #[Value.ref b] s none [] s = some (.ref (adr s b alT)) ∧ va_T (.object "BeltRounds$Sign") (adr s b alT) 39 (fun j => .ref (adG s b L xs j)) (xx_A (gG D dA s b L xs)) s s.heap := by
  obtain ⟨t, h1, h2⟩ := va_Tof (args := #[Value.ref b]) (s := s) (tm := alT) (ty := .object "BeltRounds$Sign") (N := 39) (f := fun j => .ref (adG s b L xs j)) (A := xx_A (gG D dA s b L xs)) (by omega) (hs _ na_a) (Cond.eq_int (hs _ na_b) rfl) (fun j hj => Cond.eq_refs (hs _ (at_m na_5 hj)) (by rw [ad_sg hj]; exact sg_ev hs hj) rfl) hA9
  rw [adr_of h1]
  exact ⟨h1, h2⟩
theorem d0_T (hs : narH s b) : (dgT false).eval #[Value.ref b] s none [] s = some (.ref (adr s b (dgT false))) ∧ va_T .byte (adr s b (dgT false)) 100 (xx_dg false) (xx_A (gG D dA s b L xs)) s s.heap := by
  obtain ⟨t, h1, h2⟩ := va_Tof (args := #[Value.ref b]) (s := s) (tm := dgT false) (ty := .byte) (N := 100) (f := xx_dg false) (A := xx_A (gG D dA s b L xs)) (by omega) (hs _ na_c0) (Cond.eq_int (hs _ na_d0) rfl) (fun j hj => Cond.eq_int (hs _ (at_m na_12 hj)) rfl) hA9
  rw [adr_of h1]
  exact ⟨h1, h2⟩
theorem d1_T (hs : narH s b) : (dgT true).eval #[Value.ref b] s none [] s = some (.ref (adr s b (dgT true))) ∧ va_T .byte (adr s b (dgT true)) 100 (xx_dg true) (xx_A (gG D dA s b L xs)) s s.heap := by
  obtain ⟨t, h1, h2⟩ := va_Tof (args := #[Value.ref b]) (s := s) (tm := dgT true) (ty := .byte) (N := 100) (f := xx_dg true) (A := xx_A (gG D dA s b L xs)) (by omega) (hs _ na_c1) (Cond.eq_int (hs _ na_d1) rfl) (fun j hj => Cond.eq_int (hs _ (at_m na_13 hj)) rfl) hA9
  rw [adr_of h1]
  exact ⟨h1, h2⟩
theorem tb_st : xx_st.all (fun q => decide (Cond.laysStatic q.1 q.2.1 q.2.2.1 ∈ lw_tbl) && decide (Cond.initialized q.1 ∈ lw_tbl)) = true := by decide +kernel
theorem tb_sx : xx_sx.all (fun q => decide (Cond.stringRef q.1 q.2.1 q.2.2 ∈ lw_tbl)) = true := by decide +kernel
theorem tb_li : xx_lits.all (fun q => decide (Cond.stringRef q.1 q.2.1 q.2.2 ∈ lw_tbl)) = true := by decide +kernel
theorem tb_ln : (List.range 43).all (fun k => decide (stT (xx_ln k) = ltT k) && decide (xx_ln k < 82)) = true := by decide +kernel
theorem tb_fm : Cond.laysStatic "jdk/internal/util/Preconditions" "SIOOBE_FORMATTER" "Ljava/util/function/BiFunction;" ∈ lw_tbl ∧ Cond.initialized "jdk/internal/util/Preconditions" ∈ lw_tbl ∧ Cond.laysStatic Bundle.tN "UNASSIGNED_STACK" Bundle.steD ∈ lw_tbl ∧ Cond.laysStatic Bundle.tN "SUPPRESSED_SENTINEL" Bundle.listD ∈ lw_tbl ∧ Cond.initialized Bundle.tN ∈ lw_tbl := ⟨by decide +kernel, by decide +kernel, by decide +kernel, by decide +kernel, by decide +kernel⟩
/-- a static field -/
theorem st_1 (hs : narH s b) (hts : tblH s b) : ∀ q ∈ xx_st, va_Z q.1 q.2.1 q.2.2.1 (xx_v (adG s b L xs) q.2.2.2) (xx_A (gG D dA s b L xs)) s s.heap := by
  intro q hq
  have hw := List.all_eq_true.mp tb_st q hq
  rw [Bool.and_eq_true] at hw
  have w1 := hts _ (of_decide_eq_true hw.1)
  have w2 := hts _ (of_decide_eq_true hw.2)
  refine va_Zof w1 w2 ?_ hA9
  rcases List.mem_append.mp hq with hq | hq
  · obtain ⟨i, hi, rfl⟩ := List.mem_map.mp hq
    have hi := List.mem_range.mp hi
    show (sgT i).eval _ s none [] s = some (.ref (adG s b L xs i))
    rw [ad_sg hi]
    exact sg_ev hs hi
  · simp only [List.mem_cons, List.not_mem_nil, or_false] at hq
    rcases hq with rfl | rfl | rfl | rfl
    · exact (al_T (L := L) (xs := xs) (D := D) (dA := dA) hs).1
    · exact (d0_T (L := L) (xs := xs) (D := D) (dA := dA) hs).1
    · exact (d1_T (L := L) (xs := xs) (D := D) (dA := dA) hs).1
    · exact Cond.eq_int (hs _ na_e) rfl
theorem st_2 (hs : narH s b) : ∀ q ∈ xx_sf, va_OF q.2.1 q.2.2.1 q.2.2.2.1 (xx_v (adG s b L xs) q.2.2.2.2) (adG s b L xs q.1) (xx_A (gG D dA s b L xs)) s s.heap := by
  intro q hq
  rcases List.mem_append.mp hq with hq | hq
  · obtain ⟨i, hi, rfl⟩ := List.mem_map.mp hq
    have hi := List.mem_range.mp hi
    show va_OF _ _ _ (.ref (adG s b L xs (61 + i))) (adG s b L xs i) _ s s.heap
    have e61 : (61 : Nat) + i = th (20 + i) := by unfold th; rw [if_pos (by omega)]; omega
    have h59 : 20 + i < 82 := Nat.lt_of_lt_of_le (Nat.add_lt_add_left hi 20) (by decide)
    rw [ad_sg hi, e61, ad_tx h59]
    exact vk_OFof (sg_ev hs hi) (Cond.eq_refs (hs _ (at_m na_3 hi)) (tx_ev hs h59) rfl) hA9
  · rcases List.mem_append.mp hq with hq | hq
    · obtain ⟨i, hi, rfl⟩ := List.mem_map.mp hq
      have hi := List.mem_range.mp hi
      show va_OF _ _ _ (.ref (adG s b L xs (bh i))) (adG s b L xs (th i)) _ s s.heap
      rw [ad_tx hi, ad_va hi]
      exact vk_OFof (tx_ev hs hi) (va_ev (L := L) (xs := xs) (D := D) (dA := dA) hs hi).1 hA9
    · obtain ⟨i, hi, rfl⟩ := List.mem_map.mp hq
      have hi := List.mem_range.mp hi
      show va_OF _ _ _ (.int 0) (adG s b L xs (th i)) _ s s.heap
      rw [ad_tx hi]
      exact vk_OFof (tx_ev hs hi) (Cond.eq_int (hs _ (at_m na_8 hi)) rfl) hA9
theorem st_3 (hs : narH s b) : ∀ q ∈ xx_so, va_O q.2 (adG s b L xs q.1) (xx_A (gG D dA s b L xs)) s s.heap := by
  intro q hq
  rcases List.mem_append.mp hq with hq | hq
  · obtain ⟨i, hi, rfl⟩ := List.mem_map.mp hq
    have hi := List.mem_range.mp hi
    show va_O _ (adG s b L xs i) _ s s.heap
    rw [ad_sg hi]
    exact va_Oof (sg_ex hs hi) (sg_ev hs hi) hA9
  · obtain ⟨i, hi, rfl⟩ := List.mem_map.mp hq
    have hi := List.mem_range.mp hi
    show va_O _ (adG s b L xs (th i)) _ s s.heap
    rw [ad_tx hi]
    exact va_Oof (tx_ex hs hi) (tx_ev hs hi) hA9
theorem st_4 (hs : narH s b) : ∀ q ∈ xx_sa, va_T q.2.1 (adG s b L xs q.1) q.2.2.1 (fun j => xx_v (adG s b L xs) (q.2.2.2 j)) (xx_A (gG D dA s b L xs)) s s.heap := by
  intro q hq
  rcases List.mem_cons.mp hq with rfl | hq
  · exact (al_T (L := L) (xs := xs) (D := D) (dA := dA) hs).2
  rcases List.mem_cons.mp hq with rfl | hq
  · exact (d0_T (L := L) (xs := xs) (D := D) (dA := dA) hs).2
  rcases List.mem_cons.mp hq with rfl | hq
  · exact (d1_T (L := L) (xs := xs) (D := D) (dA := dA) hs).2
  · obtain ⟨i, hi, rfl⟩ := List.mem_map.mp hq
    have hi := List.mem_range.mp hi
    show va_T .byte (adG s b L xs (bh i)) _ _ _ s s.heap
    rw [ad_va hi]
    exact (va_ev (L := L) (xs := xs) (D := D) (dA := dA) hs hi).2
theorem st_5 (hs : narH s b) : ∀ i j, i < 39 → j < 39 → adG s b L xs i = adG s b L xs j → i = j := by
  intro i j hi hj h
  rw [ad_sg hi, ad_sg hj] at h
  have e1 := va_fe (c := "java/lang/Enum") (n := "ordinal") (d := "I") (sg_ev hs hi)
  have e2 := va_fe (c := "java/lang/Enum") (n := "ordinal") (d := "I") (sg_ev hs hj)
  have f1 : (Term.field (sgT i) "java/lang/Enum" "ordinal" "I").eval #[Value.ref b] s none [] s = some (.int (Int32.ofNat i)) := Cond.eq_int (hs _ (at_m na_2 hi)) rfl
  have f2 : (Term.field (sgT j) "java/lang/Enum" "ordinal" "I").eval #[Value.ref b] s none [] s = some (.int (Int32.ofNat j)) := Cond.eq_int (hs _ (at_m na_2 hj)) rfl
  rw [e1, h] at f1
  rw [e2] at f2
  have := f1.symm.trans f2
  exact (nI_ij (a := i) (c := j) (by omega) (by omega)).mp (Value.int.inj (Option.some.inj this))
theorem st_S (hs : narH s b) (hts : tblH s b) : xx_S (gG D dA s b L xs) s s.heap := by
  refine ⟨st_1 hs hts, st_2 hs, st_3 hs, st_4 hs, st_5 hs, ?_, ?_, ?_, fun q hq => ?_, fun k q hq => ?_⟩
  · obtain ⟨v, h1, h2⟩ := Cond.isRef_spec (hs _ na_f)
    have z := fun (v : Value) (hv : fmT.eval #[Value.ref b] s none [] s = some v) => va_Zof (A := xx_A (gG D dA s b L xs)) (hts _ tb_fm.1) (hts _ tb_fm.2.1) hv hA9
    cases v with
    | null => exact Or.inl (z _ h1)
    | ref a =>
      refine Or.inr ?_
      show va_Z _ _ _ (.ref (adG s b L xs 159)) _ s s.heap
      rw [ad_fm, adr_of h1]
      exact z _ h1
    | _ => exact absurd h2 (by simp [Value.isRef])
  · exact vx_Zqof (hts _ tb_fm.2.2.1) (hts _ tb_fm.2.2.2.2) (hs _ na_g) hA9
  · exact vx_Zqof (hts _ tb_fm.2.2.2.1) (hts _ tb_fm.2.2.2.2) (hs _ na_h) hA9
  · have w1 := hts _ (of_decide_eq_true (List.all_eq_true.mp tb_sx q hq))
    obtain ⟨i, hi, e⟩ := List.getElem_of_mem hq
    have hi15 : i < 15 := hi
    have w2 := hs _ (at_m na_x hi15)
    have eq9 : xx_sx.getD i ("", 0, "") = q := by rw [List.getD_eq_getElem?_getD, List.getElem?_eq_getElem hi, e]; rfl
    rw [eq9] at w2
    exact ⟨_, vk_R.of w1 (ex_ev w2)⟩
  · have w1 := hts _ (of_decide_eq_true (List.all_eq_true.mp tb_li q (List.mem_of_getElem? hq)))
    have hk : k < 43 := (List.getElem?_eq_some_iff.mp hq).1
    have z := List.all_eq_true.mp tb_ln k (List.mem_range.mpr hk)
    rw [Bool.and_eq_true] at z
    have e1 : stT (xx_ln k) = ltT k := of_decide_eq_true z.1
    have h82 : xx_ln k < 82 := of_decide_eq_true z.2
    have e2 : ltT k = .string q.1 q.2.1 := by unfold ltT; rw [List.getD_eq_getElem?_getD, hq]; rfl
    have ev := tx_ev hs h82
    show vk_R _ _ _ (adG s b L xs (th (xx_ln k))) s
    rw [ad_tx h82]
    rw [e1, e2] at ev ⊢
    exact vk_R.of w1 ev
end XSU
