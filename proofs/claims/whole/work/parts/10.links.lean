/-! each class, its fields, its methods, by the places of the words -/
theorem xx_sub1 : ∀ w ∈ tables_1_1, w ∈ lw_tbl := fun w h => List.mem_append_right _ (List.mem_append_left _ h)
theorem xx_good1 {i : Nat} {w : Cond} (h : tables_1_1[i]? = some w) (g : goodWord w = true) : w ∈ xx_T := List.mem_filter.mpr ⟨xx_sub1 _ (List.mem_of_getElem? h), g⟩
theorem xx_sub2 : ∀ w ∈ tables_1_2, w ∈ lw_tbl := fun w h => List.mem_append_right _ (List.mem_append_right _ (List.mem_append_left _ h))
theorem xx_good2 {i : Nat} {w : Cond} (h : tables_1_2[i]? = some w) (g : goodWord w = true) : w ∈ xx_T := List.mem_filter.mpr ⟨xx_sub2 _ (List.mem_of_getElem? h), g⟩
theorem xx_sub3 : ∀ w ∈ tables_1_3, w ∈ lw_tbl := fun w h => List.mem_append_right _ (List.mem_append_right _ (List.mem_append_right _ (List.mem_append_left _ h)))
theorem xx_good3 {i : Nat} {w : Cond} (h : tables_1_3[i]? = some w) (g : goodWord w = true) : w ∈ xx_T := List.mem_filter.mpr ⟨xx_sub3 _ (List.mem_of_getElem? h), g⟩
theorem xx_sub4 : ∀ w ∈ tables_1_4, w ∈ lw_tbl := fun w h => List.mem_append_right _ (List.mem_append_right _ (List.mem_append_right _ (List.mem_append_right _ (List.mem_append_left _ h))))
theorem xx_good4 {i : Nat} {w : Cond} (h : tables_1_4[i]? = some w) (g : goodWord w = true) : w ∈ xx_T := List.mem_filter.mpr ⟨xx_sub4 _ (List.mem_of_getElem? h), g⟩
theorem xx_sub5 : ∀ w ∈ tables_1_5, w ∈ lw_tbl := fun w h => List.mem_append_right _ (List.mem_append_right _ (List.mem_append_right _ (List.mem_append_right _ (List.mem_append_right _ (List.mem_append_left _ h)))))
theorem xx_good5 {i : Nat} {w : Cond} (h : tables_1_5[i]? = some w) (g : goodWord w = true) : w ∈ xx_T := List.mem_filter.mpr ⟨xx_sub5 _ (List.mem_of_getElem? h), g⟩
theorem xx_sub6 : ∀ w ∈ tables_1_6, w ∈ lw_tbl := fun w h => List.mem_append_right _ (List.mem_append_right _ (List.mem_append_right _ (List.mem_append_right _ (List.mem_append_right _ (List.mem_append_right _ (List.mem_append_left _ h))))))
theorem xx_good6 {i : Nat} {w : Cond} (h : tables_1_6[i]? = some w) (g : goodWord w = true) : w ∈ xx_T := List.mem_filter.mpr ⟨xx_sub6 _ (List.mem_of_getElem? h), g⟩
theorem xx_sub7 : ∀ w ∈ tables_1_7, w ∈ lw_tbl := fun w h => List.mem_append_right _ (List.mem_append_right _ (List.mem_append_right _ (List.mem_append_right _ (List.mem_append_right _ (List.mem_append_right _ (List.mem_append_right _ (List.mem_append_left _ h)))))))
theorem xx_good7 {i : Nat} {w : Cond} (h : tables_1_7[i]? = some w) (g : goodWord w = true) : w ∈ xx_T := List.mem_filter.mpr ⟨xx_sub7 _ (List.mem_of_getElem? h), g⟩
theorem xx_sub8 : ∀ w ∈ tables_1_8, w ∈ lw_tbl := fun w h => List.mem_append_right _ (List.mem_append_right _ (List.mem_append_right _ (List.mem_append_right _ (List.mem_append_right _ (List.mem_append_right _ (List.mem_append_right _ (List.mem_append_right _ (h))))))))
theorem xx_good8 {i : Nat} {w : Cond} (h : tables_1_8[i]? = some w) (g : goodWord w = true) : w ∈ xx_T := List.mem_filter.mpr ⟨xx_sub8 _ (List.mem_of_getElem? h), g⟩
theorem k_0_ws : ∀ w ∈ u_ws RX0 TX0 12, w ∈ xx_T := by
  have h : GoodIn lw_tbl (u_ws RX0 TX0 12) := goodIn_r _ [278, 280, 282, 284, 286, 288, 290, 292, 294, 296, 298, 300] (by decide +kernel) (by decide +kernel)
  have g : (u_ws RX0 TX0 12).all goodWord = true := by decide +kernel
  exact fun w hw => List.mem_filter.mpr ⟨(h w hw).1, List.all_eq_true.mp g w hw⟩
theorem k_0 : xx_Cl 0 RX0 TX0 12 tyX0 := ⟨rfl, k_0_ws, tyX0_ok, nmX0⟩
theorem k_1_ws : ∀ w ∈ u_ws RX1 TX1 9, w ∈ xx_T := by
  have h : GoodIn lw_tbl (u_ws RX1 TX1 9) := goodIn_r _ [321, 323, 325, 327, 329, 331, 333, 335, 337] (by decide +kernel) (by decide +kernel)
  have g : (u_ws RX1 TX1 9).all goodWord = true := by decide +kernel
  exact fun w hw => List.mem_filter.mpr ⟨(h w hw).1, List.all_eq_true.mp g w hw⟩
theorem k_1 : xx_Cl 1 RX1 TX1 9 tyX1 := ⟨rfl, k_1_ws, tyX1_ok, nmX1⟩
theorem k_2_ws : ∀ w ∈ u_ws RX2 TX2 9, w ∈ xx_T := by
  have h : GoodIn lw_tbl (u_ws RX2 TX2 9) := goodIn_r _ [233, 235, 237, 239, 241, 243, 245, 247, 249] (by decide +kernel) (by decide +kernel)
  have g : (u_ws RX2 TX2 9).all goodWord = true := by decide +kernel
  exact fun w hw => List.mem_filter.mpr ⟨(h w hw).1, List.all_eq_true.mp g w hw⟩
theorem k_2 : xx_Cl 2 RX2 TX2 9 tyX2 := ⟨rfl, k_2_ws, tyX2_ok, nmX2⟩
theorem k_3_ws : ∀ w ∈ u_ws RX3 TX3 8, w ∈ xx_T := by
  have h : GoodIn lw_tbl (u_ws RX3 TX3 8) := goodIn_r _ [201, 203, 205, 207, 209, 211, 213, 215] (by decide +kernel) (by decide +kernel)
  have g : (u_ws RX3 TX3 8).all goodWord = true := by decide +kernel
  exact fun w hw => List.mem_filter.mpr ⟨(h w hw).1, List.all_eq_true.mp g w hw⟩
theorem k_3 : xx_Cl 3 RX3 TX3 8 tyX3 := ⟨rfl, k_3_ws, tyX3_ok, nmX3⟩
theorem k_4_ws : ∀ w ∈ u_ws RX5 TX5 6, w ∈ xx_T := by
  have h : GoodIn lw_tbl (u_ws RX5 TX5 6) := goodIn_r _ [170, 172, 174, 176, 178, 180] (by decide +kernel) (by decide +kernel)
  have g : (u_ws RX5 TX5 6).all goodWord = true := by decide +kernel
  exact fun w hw => List.mem_filter.mpr ⟨(h w hw).1, List.all_eq_true.mp g w hw⟩
theorem k_4 : xx_Cl 4 RX5 TX5 6 tyX5 := ⟨rfl, k_4_ws, tyX5_ok, nmX5⟩
theorem k_5_ws : ∀ w ∈ u_ws RX6 TX6 6, w ∈ xx_T := by
  have h : GoodIn lw_tbl (u_ws RX6 TX6 6) := goodIn_r _ [346, 348, 350, 352, 354, 356] (by decide +kernel) (by decide +kernel)
  have g : (u_ws RX6 TX6 6).all goodWord = true := by decide +kernel
  exact fun w hw => List.mem_filter.mpr ⟨(h w hw).1, List.all_eq_true.mp g w hw⟩
theorem k_5 : xx_Cl 5 RX6 TX6 6 tyX6 := ⟨rfl, k_5_ws, tyX6_ok, nmX6⟩
theorem k_6_ws : ∀ w ∈ u_ws RX7 TX7 11, w ∈ xx_T := by
  have h : GoodIn lw_tbl (u_ws RX7 TX7 11) := goodIn_r _ [1318, 1320, 1322, 1324, 1326, 1328, 1330, 1332, 1334, 1336, 1338] (by decide +kernel) (by decide +kernel)
  have g : (u_ws RX7 TX7 11).all goodWord = true := by decide +kernel
  exact fun w hw => List.mem_filter.mpr ⟨(h w hw).1, List.all_eq_true.mp g w hw⟩
theorem k_6 : xx_Cl 6 RX7 TX7 11 tyX7 := ⟨rfl, k_6_ws, tyX7_ok, nmX7⟩
theorem k_7_ws : ∀ w ∈ u_ws RX8 TX8 16, w ∈ xx_T := by
  have h : GoodIn lw_tbl (u_ws RX8 TX8 16) := goodIn_r _ [1379, 1381, 1383, 1385, 1387, 1389, 1391, 1393, 1395, 1397, 1399, 1401, 1403, 1405, 1407, 1409] (by decide +kernel) (by decide +kernel)
  have g : (u_ws RX8 TX8 16).all goodWord = true := by decide +kernel
  exact fun w hw => List.mem_filter.mpr ⟨(h w hw).1, List.all_eq_true.mp g w hw⟩
theorem k_7 : xx_Cl 7 RX8 TX8 16 tyX8 := ⟨rfl, k_7_ws, tyX8_ok, nmX8⟩
theorem k_8_ws : ∀ w ∈ u_ws RX9 TX9 22, w ∈ xx_T := by
  have h : GoodIn lw_tbl (u_ws RX9 TX9 22) := goodIn_r _ [1435, 1437, 1439, 1441, 1443, 1445, 1447, 1449, 1451, 1453, 1455, 1457, 1459, 1461, 1463, 1465, 1467, 1469, 1471, 1473, 1475, 1477] (by decide +kernel) (by decide +kernel)
  have g : (u_ws RX9 TX9 22).all goodWord = true := by decide +kernel
  exact fun w hw => List.mem_filter.mpr ⟨(h w hw).1, List.all_eq_true.mp g w hw⟩
theorem k_8 : xx_Cl 8 RX9 TX9 22 tyX9 := ⟨rfl, k_8_ws, tyX9_ok, nmX9⟩
abbrev mX6_init : xx_M := (RX6, "<init>", cX6_init, 1, none, [])
set_option maxRecDepth 100000 in
theorem cal_X6_init : xx_Cal yX6_init mX6_init 0 := ⟨xx_good1 (i := 30) rfl rfl, xx_good1 (i := 1) (by decide +kernel) (by decide +kernel), by decide +kernel, by decide +kernel, by decide +kernel⟩
theorem im_X6_init : Cond.instanceMethod yX6_init ∈ xx_T := xx_good1 (i := 29) (by decide +kernel) (by decide +kernel)
abbrev mX2_init : xx_M := (RX2, "<init>", cX2_init, 1, none, [])
set_option maxRecDepth 100000 in
theorem cal_X2_init : xx_Cal yX2_init mX2_init 0 := ⟨xx_good1 (i := 38) rfl rfl, xx_good1 (i := 2) (by decide +kernel) (by decide +kernel), by decide +kernel, by decide +kernel, by decide +kernel⟩
theorem im_X2_init : Cond.instanceMethod yX2_init ∈ xx_T := xx_good1 (i := 37) (by decide +kernel) (by decide +kernel)
abbrev mX5_init : xx_M := (RX5, "<init>", cX5_init, 1, none, [])
set_option maxRecDepth 100000 in
theorem cal_X5_init : xx_Cal yX5_init mX5_init 0 := ⟨xx_good1 (i := 44) rfl rfl, xx_good1 (i := 3) (by decide +kernel) (by decide +kernel), by decide +kernel, by decide +kernel, by decide +kernel⟩
theorem im_X5_init : Cond.instanceMethod yX5_init ∈ xx_T := xx_good1 (i := 43) (by decide +kernel) (by decide +kernel)
abbrev mX3_init : xx_M := (RX3, "<init>", cX3_init, 1, none, [])
set_option maxRecDepth 100000 in
theorem cal_X3_init : xx_Cal yX3_init mX3_init 0 := ⟨xx_good1 (i := 76) rfl rfl, xx_good1 (i := 4) (by decide +kernel) (by decide +kernel), by decide +kernel, by decide +kernel, by decide +kernel⟩
theorem im_X3_init : Cond.instanceMethod yX3_init ∈ xx_T := xx_good1 (i := 75) (by decide +kernel) (by decide +kernel)
abbrev mX0_init : xx_M := (RX0, "<init>", cX0_init, 1, none, [])
set_option maxRecDepth 100000 in
theorem cal_X0_init : xx_Cal yX0_init mX0_init 0 := ⟨xx_good1 (i := 145) rfl rfl, xx_good1 (i := 5) (by decide +kernel) (by decide +kernel), by decide +kernel, by decide +kernel, by decide +kernel⟩
theorem im_X0_init : Cond.instanceMethod yX0_init ∈ xx_T := xx_good1 (i := 144) (by decide +kernel) (by decide +kernel)
abbrev mX1_init : xx_M := (RX1, "<init>", cX1_init, 1, none, [])
set_option maxRecDepth 100000 in
theorem cal_X1_init : xx_Cal yX1_init mX1_init 0 := ⟨xx_good1 (i := 194) rfl rfl, xx_good1 (i := 6) (by decide +kernel) (by decide +kernel), by decide +kernel, by decide +kernel, by decide +kernel⟩
theorem im_X1_init : Cond.instanceMethod yX1_init ∈ xx_T := xx_good1 (i := 193) (by decide +kernel) (by decide +kernel)
abbrev mX6_teach : xx_M := (RX6, "teach", cX6_teach, 2, some .int, [])
set_option maxRecDepth 100000 in
theorem cal_X6_teach : xx_Cal yX6_teach mX6_teach 0 := ⟨xx_good2 (i := 9) rfl rfl, xx_good1 (i := 1) (by decide +kernel) (by decide +kernel), by decide +kernel, by decide +kernel, by decide +kernel⟩
theorem im_X6_teach : Cond.instanceMethod yX6_teach ∈ xx_T := xx_good2 (i := 7) (by decide +kernel) (by decide +kernel)
theorem se_X6_teach : Cond.selects yX6_teach.cls yX6_teach yX6_teach ∈ xx_T := xx_good2 (i := 8) (by decide +kernel) (by decide +kernel)
abbrev mX2_read : xx_M := (RX2, "read", cX2_read, 3, some .int, [])
set_option maxRecDepth 100000 in
theorem cal_X2_read : xx_Cal yX2_read mX2_read 0 := ⟨xx_good2 (i := 13) rfl rfl, xx_good1 (i := 2) (by decide +kernel) (by decide +kernel), by decide +kernel, by decide +kernel, by decide +kernel⟩
theorem im_X2_read : Cond.instanceMethod yX2_read ∈ xx_T := xx_good2 (i := 11) (by decide +kernel) (by decide +kernel)
theorem se_X2_read : Cond.selects yX2_read.cls yX2_read yX2_read ∈ xx_T := xx_good2 (i := 12) (by decide +kernel) (by decide +kernel)
abbrev mX2_begin : xx_M := (RX2, "begin", cX2_begin, 1, none, [])
set_option maxRecDepth 100000 in
theorem cal_X2_begin : xx_Cal yX2_begin mX2_begin 0 := ⟨xx_good2 (i := 17) rfl rfl, xx_good1 (i := 2) (by decide +kernel) (by decide +kernel), by decide +kernel, by decide +kernel, by decide +kernel⟩
theorem im_X2_begin : Cond.instanceMethod yX2_begin ∈ xx_T := xx_good2 (i := 16) (by decide +kernel) (by decide +kernel)
theorem se_X2_begin : Cond.selects yX2_begin.cls yX2_begin yX2_begin ∈ xx_T := xx_good (i := 0) (by decide +kernel) (by decide +kernel)
abbrev mX5_scan : xx_M := (RX5, "scan", cX5_scan, 5, none, [])
set_option maxRecDepth 100000 in
theorem cal_X5_scan : xx_Cal yX5_scan mX5_scan 0 := ⟨xx_good2 (i := 21) rfl rfl, xx_good1 (i := 3) (by decide +kernel) (by decide +kernel), by decide +kernel, by decide +kernel, by decide +kernel⟩
theorem im_X5_scan : Cond.instanceMethod yX5_scan ∈ xx_T := xx_good2 (i := 19) (by decide +kernel) (by decide +kernel)
theorem se_X5_scan : Cond.selects yX5_scan.cls yX5_scan yX5_scan ∈ xx_T := xx_good2 (i := 20) (by decide +kernel) (by decide +kernel)
abbrev mX5_behindBlanks : xx_M := (RX5, "behindBlanks", cX5_behindBlanks, 3, some .int, [])
set_option maxRecDepth 100000 in
theorem cal_X5_behindBlanks : xx_Cal yX5_behindBlanks mX5_behindBlanks 1 := ⟨xx_good2 (i := 25) rfl rfl, xx_good1 (i := 3) (by decide +kernel) (by decide +kernel), by decide +kernel, by decide +kernel, by decide +kernel⟩
theorem im_X5_behindBlanks : Cond.instanceMethod yX5_behindBlanks ∈ xx_T := xx_good2 (i := 24) (by decide +kernel) (by decide +kernel)
theorem se_X5_behindBlanks : Cond.selects yX5_behindBlanks.cls yX5_behindBlanks yX5_behindBlanks ∈ xx_T := xx_good (i := 1) (by decide +kernel) (by decide +kernel)
abbrev mX5_byteAt : xx_M := (RX5, "byteAt", cX5_byteAt, 2, some .int, [])
set_option maxRecDepth 100000 in
theorem cal_X5_byteAt : xx_Cal yX5_byteAt mX5_byteAt 1 := ⟨xx_good2 (i := 29) rfl rfl, xx_good1 (i := 3) (by decide +kernel) (by decide +kernel), by decide +kernel, by decide +kernel, by decide +kernel⟩
theorem im_X5_byteAt : Cond.instanceMethod yX5_byteAt ∈ xx_T := xx_good2 (i := 28) (by decide +kernel) (by decide +kernel)
theorem se_X5_byteAt : Cond.selects yX5_byteAt.cls yX5_byteAt yX5_byteAt ∈ xx_T := xx_good (i := 2) (by decide +kernel) (by decide +kernel)
abbrev mX5_endOfToken : xx_M := (RX5, "endOfToken", cX5_endOfToken, 5, some .int, [])
set_option maxRecDepth 100000 in
theorem cal_X5_endOfToken : xx_Cal yX5_endOfToken mX5_endOfToken 1 := ⟨xx_good2 (i := 33) rfl rfl, xx_good1 (i := 3) (by decide +kernel) (by decide +kernel), by decide +kernel, by decide +kernel, by decide +kernel⟩
theorem im_X5_endOfToken : Cond.instanceMethod yX5_endOfToken ∈ xx_T := xx_good2 (i := 32) (by decide +kernel) (by decide +kernel)
theorem se_X5_endOfToken : Cond.selects yX5_endOfToken.cls yX5_endOfToken yX5_endOfToken ∈ xx_T := xx_good (i := 3) (by decide +kernel) (by decide +kernel)
abbrev mX5_isLetter : xx_M := (RX5, "isLetter", cX5_isLetter, 1, some .boolean, [])
set_option maxRecDepth 100000 in
theorem cal_X5_isLetter : xx_Cal yX5_isLetter mX5_isLetter 1 := ⟨xx_good2 (i := 36) rfl rfl, xx_good1 (i := 3) (by decide +kernel) (by decide +kernel), by decide +kernel, by decide +kernel, by decide +kernel⟩
theorem sm_X5_isLetter : Cond.static yX5_isLetter ∈ xx_T := xx_good2 (i := 35) (by decide +kernel) (by decide +kernel)
abbrev mX5_isDigit : xx_M := (RX5, "isDigit", cX5_isDigit, 1, some .boolean, [])
set_option maxRecDepth 100000 in
theorem cal_X5_isDigit : xx_Cal yX5_isDigit mX5_isDigit 1 := ⟨xx_good2 (i := 39) rfl rfl, xx_good1 (i := 3) (by decide +kernel) (by decide +kernel), by decide +kernel, by decide +kernel, by decide +kernel⟩
theorem sm_X5_isDigit : Cond.static yX5_isDigit ∈ xx_T := xx_good2 (i := 38) (by decide +kernel) (by decide +kernel)
abbrev mX5_endOfSymbol : xx_M := (RX5, "endOfSymbol", cX5_endOfSymbol, 4, some .int, [])
set_option maxRecDepth 100000 in
theorem cal_X5_endOfSymbol : xx_Cal yX5_endOfSymbol mX5_endOfSymbol 1 := ⟨xx_good2 (i := 43) rfl rfl, xx_good1 (i := 3) (by decide +kernel) (by decide +kernel), by decide +kernel, by decide +kernel, by decide +kernel⟩
theorem im_X5_endOfSymbol : Cond.instanceMethod yX5_endOfSymbol ∈ xx_T := xx_good2 (i := 42) (by decide +kernel) (by decide +kernel)
theorem se_X5_endOfSymbol : Cond.selects yX5_endOfSymbol.cls yX5_endOfSymbol yX5_endOfSymbol ∈ xx_T := xx_good (i := 4) (by decide +kernel) (by decide +kernel)
abbrev mJ9_min_7cf53 : xx_M := (RJ9, "min", cJ9_min_7cf53, 2, some .int, [])
set_option maxRecDepth 100000 in
theorem cal_J9_min_7cf53 : xx_Cal yJ9_min_7cf53 mJ9_min_7cf53 2 := ⟨xx_good2 (i := 46) rfl rfl, xx_good1 (i := 15) (by decide +kernel) (by decide +kernel), by decide +kernel, by decide +kernel, by decide +kernel⟩
theorem sm_J9_min_7cf53 : Cond.static yJ9_min_7cf53 ∈ xx_T := xx_good2 (i := 45) (by decide +kernel) (by decide +kernel)
abbrev mX5_signOf : xx_M := (RX5, "signOf", cX5_signOf, 4, some (.object "BeltRounds$Sign"), [])
set_option maxRecDepth 100000 in
theorem cal_X5_signOf : xx_Cal yX5_signOf mX5_signOf 2 := ⟨xx_good2 (i := 50) rfl rfl, xx_good1 (i := 3) (by decide +kernel) (by decide +kernel), by decide +kernel, by decide +kernel, by decide +kernel⟩
theorem im_X5_signOf : Cond.instanceMethod yX5_signOf ∈ xx_T := xx_good2 (i := 49) (by decide +kernel) (by decide +kernel)
theorem se_X5_signOf : Cond.selects yX5_signOf.cls yX5_signOf yX5_signOf ∈ xx_T := xx_good (i := 5) (by decide +kernel) (by decide +kernel)
abbrev mX5_signWithText : xx_M := (RX5, "signWithText", cX5_signWithText, 6, some (.object "BeltRounds$Sign"), [])
set_option maxRecDepth 100000 in
theorem cal_X5_signWithText : xx_Cal yX5_signWithText mX5_signWithText 3 := ⟨xx_good2 (i := 60) rfl rfl, xx_good1 (i := 3) (by decide +kernel) (by decide +kernel), by decide +kernel, by decide +kernel, by decide +kernel⟩
theorem im_X5_signWithText : Cond.instanceMethod yX5_signWithText ∈ xx_T := xx_good2 (i := 59) (by decide +kernel) (by decide +kernel)
theorem se_X5_signWithText : Cond.selects yX5_signWithText.cls yX5_signWithText yX5_signWithText ∈ xx_T := xx_good (i := 6) (by decide +kernel) (by decide +kernel)
abbrev mX5_isSpelt : xx_M := (RX5, "isSpelt", cX5_isSpelt, 6, some .boolean, [])
set_option maxRecDepth 100000 in
theorem cal_X5_isSpelt : xx_Cal yX5_isSpelt mX5_isSpelt 3 := ⟨xx_good2 (i := 66) rfl rfl, xx_good1 (i := 3) (by decide +kernel) (by decide +kernel), by decide +kernel, by decide +kernel, by decide +kernel⟩
theorem im_X5_isSpelt : Cond.instanceMethod yX5_isSpelt ∈ xx_T := xx_good2 (i := 65) (by decide +kernel) (by decide +kernel)
theorem se_X5_isSpelt : Cond.selects yX5_isSpelt.cls yX5_isSpelt yX5_isSpelt ∈ xx_T := xx_good (i := 7) (by decide +kernel) (by decide +kernel)
abbrev mJ0_length_8abf5 : xx_M := (RJ0, "length", cJ0_length_8abf5, 1, some .int, [])
set_option maxRecDepth 100000 in
theorem cal_J0_length_8abf5 : xx_Cal yJ0_length_8abf5 mJ0_length_8abf5 0 := ⟨xx_good2 (i := 70) rfl rfl, xx_good1 (i := 18) (by decide +kernel) (by decide +kernel), by decide +kernel, by decide +kernel, by decide +kernel⟩
theorem im_J0_length_8abf5 : Cond.instanceMethod yJ0_length_8abf5 ∈ xx_T := xx_good2 (i := 68) (by decide +kernel) (by decide +kernel)
theorem se_J0_length_8abf5 : Cond.selects yJ0_length_8abf5.cls yJ0_length_8abf5 yJ0_length_8abf5 ∈ xx_T := xx_good2 (i := 69) (by decide +kernel) (by decide +kernel)
abbrev mJ0_coder_7d493 : xx_M := (RJ0, "coder", cJ0_coder_7d493, 1, some .byte, [])
set_option maxRecDepth 100000 in
theorem cal_J0_coder_7d493 : xx_Cal yJ0_coder_7d493 mJ0_coder_7d493 0 := ⟨xx_good2 (i := 74) rfl rfl, xx_good1 (i := 18) (by decide +kernel) (by decide +kernel), by decide +kernel, by decide +kernel, by decide +kernel⟩
theorem im_J0_coder_7d493 : Cond.instanceMethod yJ0_coder_7d493 ∈ xx_T := xx_good2 (i := 72) (by decide +kernel) (by decide +kernel)
theorem se_J0_coder_7d493 : Cond.selects yJ0_coder_7d493.cls yJ0_coder_7d493 yJ0_coder_7d493 ∈ xx_T := xx_good2 (i := 73) (by decide +kernel) (by decide +kernel)
abbrev mJ0_charAt_5068e : xx_M := (RJ0, "charAt", cJ0_charAt_5068e, 2, some .char, [])
set_option maxRecDepth 100000 in
theorem cal_J0_charAt_5068e : xx_Cal yJ0_charAt_5068e mJ0_charAt_5068e 1 := ⟨xx_good2 (i := 80) rfl rfl, xx_good1 (i := 18) (by decide +kernel) (by decide +kernel), by decide +kernel, by decide +kernel, by decide +kernel⟩
theorem im_J0_charAt_5068e : Cond.instanceMethod yJ0_charAt_5068e ∈ xx_T := xx_good2 (i := 78) (by decide +kernel) (by decide +kernel)
theorem se_J0_charAt_5068e : Cond.selects yJ0_charAt_5068e.cls yJ0_charAt_5068e yJ0_charAt_5068e ∈ xx_T := xx_good2 (i := 79) (by decide +kernel) (by decide +kernel)
abbrev mJ0_isLatin1_aae02 : xx_M := (RJ0, "isLatin1", cJ0_isLatin1_aae02, 1, some .boolean, [])
set_option maxRecDepth 100000 in
theorem cal_J0_isLatin1_aae02 : xx_Cal yJ0_isLatin1_aae02 mJ0_isLatin1_aae02 0 := ⟨xx_good2 (i := 84) rfl rfl, xx_good1 (i := 18) (by decide +kernel) (by decide +kernel), by decide +kernel, by decide +kernel, by decide +kernel⟩
theorem im_J0_isLatin1_aae02 : Cond.instanceMethod yJ0_isLatin1_aae02 ∈ xx_T := xx_good2 (i := 82) (by decide +kernel) (by decide +kernel)
theorem se_J0_isLatin1_aae02 : Cond.selects yJ0_isLatin1_aae02.cls yJ0_isLatin1_aae02 yJ0_isLatin1_aae02 ∈ xx_T := xx_good2 (i := 83) (by decide +kernel) (by decide +kernel)
abbrev mJ1_charAt_3b067 : xx_M := (RJ1, "charAt", cJ1_charAt_3b067, 2, some .char, [])
set_option maxRecDepth 100000 in
theorem cal_J1_charAt_3b067 : xx_Cal yJ1_charAt_3b067 mJ1_charAt_3b067 2 := ⟨xx_good2 (i := 87) rfl rfl, xx_good1 (i := 19) (by decide +kernel) (by decide +kernel), by decide +kernel, by decide +kernel, by decide +kernel⟩
theorem sm_J1_charAt_3b067 : Cond.static yJ1_charAt_3b067 ∈ xx_T := xx_good2 (i := 86) (by decide +kernel) (by decide +kernel)
abbrev mJ0_checkIndex_df160 : xx_M := (RJ0, "checkIndex", cJ0_checkIndex_df160, 2, none, [])
set_option maxRecDepth 100000 in
theorem cal_J0_checkIndex_df160 : xx_Cal yJ0_checkIndex_df160 mJ0_checkIndex_df160 2 := ⟨xx_good2 (i := 90) rfl rfl, xx_good1 (i := 18) (by decide +kernel) (by decide +kernel), by decide +kernel, by decide +kernel, by decide +kernel⟩
theorem sm_J0_checkIndex_df160 : Cond.static yJ0_checkIndex_df160 ∈ xx_T := xx_good2 (i := 89) (by decide +kernel) (by decide +kernel)
abbrev mJ3_checkIndex_8e157 : xx_M := (RJ3, "checkIndex", cJ3_checkIndex_8e157, 3, some .int, [])
set_option maxRecDepth 100000 in
theorem cal_J3_checkIndex_8e157 : xx_Cal yJ3_checkIndex_8e157 mJ3_checkIndex_8e157 3 := ⟨xx_good2 (i := 95) rfl rfl, xx_good1 (i := 20) (by decide +kernel) (by decide +kernel), by decide +kernel, by decide +kernel, by decide +kernel⟩
theorem sm_J3_checkIndex_8e157 : Cond.static yJ3_checkIndex_8e157 ∈ xx_T := xx_good2 (i := 94) (by decide +kernel) (by decide +kernel)
abbrev mJ2_charAt_3b067 : xx_M := (RJ2, "charAt", cJ2_charAt_3b067, 2, some .char, [])
set_option maxRecDepth 100000 in
theorem cal_J2_charAt_3b067 : xx_Cal yJ2_charAt_3b067 mJ2_charAt_3b067 2 := ⟨xx_good2 (i := 98) rfl rfl, xx_good1 (i := 21) (by decide +kernel) (by decide +kernel), by decide +kernel, by decide +kernel, by decide +kernel⟩
theorem sm_J2_charAt_3b067 : Cond.static yJ2_charAt_3b067 ∈ xx_T := xx_good2 (i := 97) (by decide +kernel) (by decide +kernel)
abbrev mJ2_checkIndex_2214a : xx_M := (RJ2, "checkIndex", cJ2_checkIndex_2214a, 2, none, [])
set_option maxRecDepth 100000 in
theorem cal_J2_checkIndex_2214a : xx_Cal yJ2_checkIndex_2214a mJ2_checkIndex_2214a 2 := ⟨xx_good2 (i := 101) rfl rfl, xx_good1 (i := 21) (by decide +kernel) (by decide +kernel), by decide +kernel, by decide +kernel, by decide +kernel⟩
theorem sm_J2_checkIndex_2214a : Cond.static yJ2_checkIndex_2214a ∈ xx_T := xx_good2 (i := 100) (by decide +kernel) (by decide +kernel)
abbrev mJ2_length_9d52b : xx_M := (RJ2, "length", cJ2_length_9d52b, 1, some .int, [])
set_option maxRecDepth 100000 in
theorem cal_J2_length_9d52b : xx_Cal yJ2_length_9d52b mJ2_length_9d52b 1 := ⟨xx_good2 (i := 104) rfl rfl, xx_good1 (i := 21) (by decide +kernel) (by decide +kernel), by decide +kernel, by decide +kernel, by decide +kernel⟩
theorem sm_J2_length_9d52b : Cond.static yJ2_length_9d52b ∈ xx_T := xx_good2 (i := 103) (by decide +kernel) (by decide +kernel)
abbrev mJ2_getChar_3b067 : xx_M := (RJ2, "getChar", cJ2_getChar_3b067, 2, some .char, [])
set_option maxRecDepth 100000 in
theorem cal_J2_getChar_3b067 : xx_Cal yJ2_getChar_3b067 mJ2_getChar_3b067 2 := ⟨xx_good2 (i := 108) rfl rfl, xx_good1 (i := 21) (by decide +kernel) (by decide +kernel), by decide +kernel, by decide +kernel, by decide +kernel⟩
theorem sm_J2_getChar_3b067 : Cond.static yJ2_getChar_3b067 ∈ xx_T := xx_good2 (i := 107) (by decide +kernel) (by decide +kernel)
abbrev mX3_clear : xx_M := (RX3, "clear", cX3_clear, 1, none, [])
set_option maxRecDepth 100000 in
theorem cal_X3_clear : xx_Cal yX3_clear mX3_clear 0 := ⟨xx_good2 (i := 120) rfl rfl, xx_good1 (i := 4) (by decide +kernel) (by decide +kernel), by decide +kernel, by decide +kernel, by decide +kernel⟩
theorem im_X3_clear : Cond.instanceMethod yX3_clear ∈ xx_T := xx_good2 (i := 118) (by decide +kernel) (by decide +kernel)
theorem se_X3_clear : Cond.selects yX3_clear.cls yX3_clear yX3_clear ∈ xx_T := xx_good2 (i := 119) (by decide +kernel) (by decide +kernel)
abbrev mX2_sees : xx_M := (RX2, "sees", cX2_sees, 2, some .boolean, [])
set_option maxRecDepth 100000 in
theorem cal_X2_sees : xx_Cal yX2_sees mX2_sees 1 := ⟨xx_good2 (i := 125) rfl rfl, xx_good1 (i := 2) (by decide +kernel) (by decide +kernel), by decide +kernel, by decide +kernel, by decide +kernel⟩
theorem im_X2_sees : Cond.instanceMethod yX2_sees ∈ xx_T := xx_good2 (i := 124) (by decide +kernel) (by decide +kernel)
theorem se_X2_sees : Cond.selects yX2_sees.cls yX2_sees yX2_sees ∈ xx_T := xx_good (i := 8) (by decide +kernel) (by decide +kernel)
abbrev mX2_takes : xx_M := (RX2, "takes", cX2_takes, 2, some .boolean, [])
set_option maxRecDepth 100000 in
theorem cal_X2_takes : xx_Cal yX2_takes mX2_takes 1 := ⟨xx_good2 (i := 131) rfl rfl, xx_good1 (i := 2) (by decide +kernel) (by decide +kernel), by decide +kernel, by decide +kernel, by decide +kernel⟩
theorem im_X2_takes : Cond.instanceMethod yX2_takes ∈ xx_T := xx_good2 (i := 130) (by decide +kernel) (by decide +kernel)
theorem se_X2_takes : Cond.selects yX2_takes.cls yX2_takes yX2_takes ∈ xx_T := xx_good (i := 9) (by decide +kernel) (by decide +kernel)
abbrev mX2_readWrestler : xx_M := (RX2, "readWrestler", cX2_readWrestler, 3, some .boolean, [])
set_option maxRecDepth 100000 in
theorem cal_X2_readWrestler : xx_Cal yX2_readWrestler mX2_readWrestler 0 := ⟨xx_good2 (i := 135) rfl rfl, xx_good1 (i := 2) (by decide +kernel) (by decide +kernel), by decide +kernel, by decide +kernel, by decide +kernel⟩
theorem im_X2_readWrestler : Cond.instanceMethod yX2_readWrestler ∈ xx_T := xx_good2 (i := 134) (by decide +kernel) (by decide +kernel)
theorem se_X2_readWrestler : Cond.selects yX2_readWrestler.cls yX2_readWrestler yX2_readWrestler ∈ xx_T := xx_good (i := 10) (by decide +kernel) (by decide +kernel)
abbrev mX2_checkName : xx_M := (RX2, "checkName", cX2_checkName, 2, none, [])
set_option maxRecDepth 100000 in
theorem cal_X2_checkName : xx_Cal yX2_checkName mX2_checkName 0 := ⟨xx_good2 (i := 140) rfl rfl, xx_good1 (i := 2) (by decide +kernel) (by decide +kernel), by decide +kernel, by decide +kernel, by decide +kernel⟩
theorem im_X2_checkName : Cond.instanceMethod yX2_checkName ∈ xx_T := xx_good2 (i := 139) (by decide +kernel) (by decide +kernel)
theorem se_X2_checkName : Cond.selects yX2_checkName.cls yX2_checkName yX2_checkName ∈ xx_T := xx_good (i := 11) (by decide +kernel) (by decide +kernel)
abbrev mX5_sameText : xx_M := (RX5, "sameText", cX5_sameText, 6, some .boolean, [])
set_option maxRecDepth 100000 in
theorem cal_X5_sameText : xx_Cal yX5_sameText mX5_sameText 2 := ⟨xx_good2 (i := 144) rfl rfl, xx_good1 (i := 3) (by decide +kernel) (by decide +kernel), by decide +kernel, by decide +kernel, by decide +kernel⟩
theorem im_X5_sameText : Cond.instanceMethod yX5_sameText ∈ xx_T := xx_good2 (i := 142) (by decide +kernel) (by decide +kernel)
theorem se_X5_sameText : Cond.selects yX5_sameText.cls yX5_sameText yX5_sameText ∈ xx_T := xx_good2 (i := 143) (by decide +kernel) (by decide +kernel)
abbrev mX5_hasToken : xx_M := (RX5, "hasToken", cX5_hasToken, 2, some .boolean, [])
set_option maxRecDepth 100000 in
theorem cal_X5_hasToken : xx_Cal yX5_hasToken mX5_hasToken 1 := ⟨xx_good2 (i := 148) rfl rfl, xx_good1 (i := 3) (by decide +kernel) (by decide +kernel), by decide +kernel, by decide +kernel, by decide +kernel⟩
theorem im_X5_hasToken : Cond.instanceMethod yX5_hasToken ∈ xx_T := xx_good2 (i := 147) (by decide +kernel) (by decide +kernel)
theorem se_X5_hasToken : Cond.selects yX5_hasToken.cls yX5_hasToken yX5_hasToken ∈ xx_T := xx_good (i := 12) (by decide +kernel) (by decide +kernel)
abbrev mX2_noteError : xx_M := (RX2, "noteError", cX2_noteError, 3, none, [])
set_option maxRecDepth 100000 in
theorem cal_X2_noteError : xx_Cal yX2_noteError mX2_noteError 2 := ⟨xx_good2 (i := 152) rfl rfl, xx_good1 (i := 2) (by decide +kernel) (by decide +kernel), by decide +kernel, by decide +kernel, by decide +kernel⟩
theorem im_X2_noteError : Cond.instanceMethod yX2_noteError ∈ xx_T := xx_good2 (i := 151) (by decide +kernel) (by decide +kernel)
theorem se_X2_noteError : Cond.selects yX2_noteError.cls yX2_noteError yX2_noteError ∈ xx_T := xx_good (i := 13) (by decide +kernel) (by decide +kernel)
abbrev mX5_start : xx_M := (RX5, "start", cX5_start, 2, some .int, [])
set_option maxRecDepth 100000 in
theorem cal_X5_start : xx_Cal yX5_start mX5_start 1 := ⟨xx_good2 (i := 156) rfl rfl, xx_good1 (i := 3) (by decide +kernel) (by decide +kernel), by decide +kernel, by decide +kernel, by decide +kernel⟩
theorem im_X5_start : Cond.instanceMethod yX5_start ∈ xx_T := xx_good2 (i := 154) (by decide +kernel) (by decide +kernel)
theorem se_X5_start : Cond.selects yX5_start.cls yX5_start yX5_start ∈ xx_T := xx_good2 (i := 155) (by decide +kernel) (by decide +kernel)
abbrev mX2_takeNumber : xx_M := (RX2, "takeNumber", cX2_takeNumber, 4, some .int, [])
set_option maxRecDepth 100000 in
theorem cal_X2_takeNumber : xx_Cal yX2_takeNumber mX2_takeNumber 2 := ⟨xx_good2 (i := 163) rfl rfl, xx_good1 (i := 2) (by decide +kernel) (by decide +kernel), by decide +kernel, by decide +kernel, by decide +kernel⟩
theorem im_X2_takeNumber : Cond.instanceMethod yX2_takeNumber ∈ xx_T := xx_good2 (i := 162) (by decide +kernel) (by decide +kernel)
theorem se_X2_takeNumber : Cond.selects yX2_takeNumber.cls yX2_takeNumber yX2_takeNumber ∈ xx_T := xx_good (i := 14) (by decide +kernel) (by decide +kernel)
abbrev mX5_number : xx_M := (RX5, "number", cX5_number, 4, some .int, [])
set_option maxRecDepth 100000 in
theorem cal_X5_number : xx_Cal yX5_number mX5_number 1 := ⟨xx_good2 (i := 167) rfl rfl, xx_good1 (i := 3) (by decide +kernel) (by decide +kernel), by decide +kernel, by decide +kernel, by decide +kernel⟩
theorem im_X5_number : Cond.instanceMethod yX5_number ∈ xx_T := xx_good2 (i := 165) (by decide +kernel) (by decide +kernel)
theorem se_X5_number : Cond.selects yX5_number.cls yX5_number yX5_number ∈ xx_T := xx_good2 (i := 166) (by decide +kernel) (by decide +kernel)
abbrev mX2_readPoints : xx_M := (RX2, "readPoints", cX2_readPoints, 2, some .boolean, [])
set_option maxRecDepth 100000 in
theorem cal_X2_readPoints : xx_Cal yX2_readPoints mX2_readPoints 0 := ⟨xx_good2 (i := 173) rfl rfl, xx_good1 (i := 2) (by decide +kernel) (by decide +kernel), by decide +kernel, by decide +kernel, by decide +kernel⟩
theorem im_X2_readPoints : Cond.instanceMethod yX2_readPoints ∈ xx_T := xx_good2 (i := 172) (by decide +kernel) (by decide +kernel)
theorem se_X2_readPoints : Cond.selects yX2_readPoints.cls yX2_readPoints yX2_readPoints ∈ xx_T := xx_good (i := 15) (by decide +kernel) (by decide +kernel)
abbrev mX2_readRule : xx_M := (RX2, "readRule", cX2_readRule, 2, some .boolean, [])
set_option maxRecDepth 100000 in
theorem cal_X2_readRule : xx_Cal yX2_readRule mX2_readRule 0 := ⟨xx_good2 (i := 179) rfl rfl, xx_good1 (i := 2) (by decide +kernel) (by decide +kernel), by decide +kernel, by decide +kernel, by decide +kernel⟩
theorem im_X2_readRule : Cond.instanceMethod yX2_readRule ∈ xx_T := xx_good2 (i := 178) (by decide +kernel) (by decide +kernel)
theorem se_X2_readRule : Cond.selects yX2_readRule.cls yX2_readRule yX2_readRule ∈ xx_T := xx_good (i := 16) (by decide +kernel) (by decide +kernel)
abbrev mX2_readOutcome : xx_M := (RX2, "readOutcome", cX2_readOutcome, 2, some .int, [])
set_option maxRecDepth 100000 in
theorem cal_X2_readOutcome : xx_Cal yX2_readOutcome mX2_readOutcome 0 := ⟨xx_good2 (i := 183) rfl rfl, xx_good1 (i := 2) (by decide +kernel) (by decide +kernel), by decide +kernel, by decide +kernel, by decide +kernel⟩
theorem im_X2_readOutcome : Cond.instanceMethod yX2_readOutcome ∈ xx_T := xx_good2 (i := 182) (by decide +kernel) (by decide +kernel)
theorem se_X2_readOutcome : Cond.selects yX2_readOutcome.cls yX2_readOutcome yX2_readOutcome ∈ xx_T := xx_good (i := 17) (by decide +kernel) (by decide +kernel)
abbrev mX2_readTest : xx_M := (RX2, "readTest", cX2_readTest, 3, some .boolean, [])
set_option maxRecDepth 100000 in
theorem cal_X2_readTest : xx_Cal yX2_readTest mX2_readTest 1 := ⟨xx_good2 (i := 197) rfl rfl, xx_good1 (i := 2) (by decide +kernel) (by decide +kernel), by decide +kernel, by decide +kernel, by decide +kernel⟩
theorem im_X2_readTest : Cond.instanceMethod yX2_readTest ∈ xx_T := xx_good2 (i := 196) (by decide +kernel) (by decide +kernel)
theorem se_X2_readTest : Cond.selects yX2_readTest.cls yX2_readTest yX2_readTest ∈ xx_T := xx_good (i := 18) (by decide +kernel) (by decide +kernel)
abbrev mX2_readBoth : xx_M := (RX2, "readBoth", cX2_readBoth, 3, some .boolean, [])
set_option maxRecDepth 100000 in
theorem cal_X2_readBoth : xx_Cal yX2_readBoth mX2_readBoth 1 := ⟨xx_good2 (i := 201) rfl rfl, xx_good1 (i := 2) (by decide +kernel) (by decide +kernel), by decide +kernel, by decide +kernel, by decide +kernel⟩
theorem im_X2_readBoth : Cond.instanceMethod yX2_readBoth ∈ xx_T := xx_good2 (i := 200) (by decide +kernel) (by decide +kernel)
theorem se_X2_readBoth : Cond.selects yX2_readBoth.cls yX2_readBoth yX2_readBoth ∈ xx_T := xx_good (i := 19) (by decide +kernel) (by decide +kernel)
abbrev mX2_readSingle : xx_M := (RX2, "readSingle", cX2_readSingle, 2, some .boolean, [])
set_option maxRecDepth 100000 in
theorem cal_X2_readSingle : xx_Cal yX2_readSingle mX2_readSingle 1 := ⟨xx_good2 (i := 205) rfl rfl, xx_good1 (i := 2) (by decide +kernel) (by decide +kernel), by decide +kernel, by decide +kernel, by decide +kernel⟩
theorem im_X2_readSingle : Cond.instanceMethod yX2_readSingle ∈ xx_T := xx_good2 (i := 204) (by decide +kernel) (by decide +kernel)
theorem se_X2_readSingle : Cond.selects yX2_readSingle.cls yX2_readSingle yX2_readSingle ∈ xx_T := xx_good (i := 20) (by decide +kernel) (by decide +kernel)
abbrev mX2_readNot : xx_M := (RX2, "readNot", cX2_readNot, 2, some .boolean, [])
set_option maxRecDepth 100000 in
theorem cal_X2_readNot : xx_Cal yX2_readNot mX2_readNot 1 := ⟨xx_good2 (i := 211) rfl rfl, xx_good1 (i := 2) (by decide +kernel) (by decide +kernel), by decide +kernel, by decide +kernel, by decide +kernel⟩
theorem im_X2_readNot : Cond.instanceMethod yX2_readNot ∈ xx_T := xx_good2 (i := 210) (by decide +kernel) (by decide +kernel)
theorem se_X2_readNot : Cond.selects yX2_readNot.cls yX2_readNot yX2_readNot ∈ xx_T := xx_good (i := 21) (by decide +kernel) (by decide +kernel)
abbrev mX2_takesDeeper : xx_M := (RX2, "takesDeeper", cX2_takesDeeper, 3, some .boolean, [])
set_option maxRecDepth 100000 in
theorem cal_X2_takesDeeper : xx_Cal yX2_takesDeeper mX2_takesDeeper 2 := ⟨xx_good2 (i := 215) rfl rfl, xx_good1 (i := 2) (by decide +kernel) (by decide +kernel), by decide +kernel, by decide +kernel, by decide +kernel⟩
theorem im_X2_takesDeeper : Cond.instanceMethod yX2_takesDeeper ∈ xx_T := xx_good2 (i := 214) (by decide +kernel) (by decide +kernel)
theorem se_X2_takesDeeper : Cond.selects yX2_takesDeeper.cls yX2_takesDeeper yX2_takesDeeper ∈ xx_T := xx_good (i := 22) (by decide +kernel) (by decide +kernel)
abbrev mX3_emit : xx_M := (RX3, "emit", cX3_emit, 2, none, [])
set_option maxRecDepth 100000 in
theorem cal_X3_emit : xx_Cal yX3_emit mX3_emit 1 := ⟨xx_good2 (i := 219) rfl rfl, xx_good1 (i := 4) (by decide +kernel) (by decide +kernel), by decide +kernel, by decide +kernel, by decide +kernel⟩
theorem im_X3_emit : Cond.instanceMethod yX3_emit ∈ xx_T := xx_good2 (i := 217) (by decide +kernel) (by decide +kernel)
theorem se_X3_emit : Cond.selects yX3_emit.cls yX3_emit yX3_emit ∈ xx_T := xx_good2 (i := 218) (by decide +kernel) (by decide +kernel)
abbrev mX3_emit_ : xx_M := (RX3, "emit", cX3_emit_, 3, none, [])
set_option maxRecDepth 100000 in
theorem cal_X3_emit_ : xx_Cal yX3_emit_ mX3_emit_ 2 := ⟨xx_good2 (i := 223) rfl rfl, xx_good1 (i := 4) (by decide +kernel) (by decide +kernel), by decide +kernel, by decide +kernel, by decide +kernel⟩
theorem im_X3_emit_ : Cond.instanceMethod yX3_emit_ ∈ xx_T := xx_good2 (i := 221) (by decide +kernel) (by decide +kernel)
theorem se_X3_emit_ : Cond.selects yX3_emit_.cls yX3_emit_ yX3_emit_ ∈ xx_T := xx_good2 (i := 222) (by decide +kernel) (by decide +kernel)
abbrev mX2_readComparison : xx_M := (RX2, "readComparison", cX2_readComparison, 3, some .boolean, [])
set_option maxRecDepth 100000 in
theorem cal_X2_readComparison : xx_Cal yX2_readComparison mX2_readComparison 1 := ⟨xx_good2 (i := 233) rfl rfl, xx_good1 (i := 2) (by decide +kernel) (by decide +kernel), by decide +kernel, by decide +kernel, by decide +kernel⟩
theorem im_X2_readComparison : Cond.instanceMethod yX2_readComparison ∈ xx_T := xx_good2 (i := 232) (by decide +kernel) (by decide +kernel)
theorem se_X2_readComparison : Cond.selects yX2_readComparison.cls yX2_readComparison yX2_readComparison ∈ xx_T := xx_good (i := 23) (by decide +kernel) (by decide +kernel)
abbrev mX2_readSum : xx_M := (RX2, "readSum", cX2_readSum, 4, some .boolean, [])
set_option maxRecDepth 100000 in
theorem cal_X2_readSum : xx_Cal yX2_readSum mX2_readSum 1 := ⟨xx_good2 (i := 237) rfl rfl, xx_good1 (i := 2) (by decide +kernel) (by decide +kernel), by decide +kernel, by decide +kernel, by decide +kernel⟩
theorem im_X2_readSum : Cond.instanceMethod yX2_readSum ∈ xx_T := xx_good2 (i := 236) (by decide +kernel) (by decide +kernel)
theorem se_X2_readSum : Cond.selects yX2_readSum.cls yX2_readSum yX2_readSum ∈ xx_T := xx_good (i := 24) (by decide +kernel) (by decide +kernel)
abbrev mX2_readProduct : xx_M := (RX2, "readProduct", cX2_readProduct, 4, some .boolean, [])
set_option maxRecDepth 100000 in
theorem cal_X2_readProduct : xx_Cal yX2_readProduct mX2_readProduct 1 := ⟨xx_good3 (i := 1) rfl rfl, xx_good1 (i := 2) (by decide +kernel) (by decide +kernel), by decide +kernel, by decide +kernel, by decide +kernel⟩
theorem im_X2_readProduct : Cond.instanceMethod yX2_readProduct ∈ xx_T := xx_good3 (i := 0) (by decide +kernel) (by decide +kernel)
theorem se_X2_readProduct : Cond.selects yX2_readProduct.cls yX2_readProduct yX2_readProduct ∈ xx_T := xx_good (i := 25) (by decide +kernel) (by decide +kernel)
abbrev mX2_readValue : xx_M := (RX2, "readValue", cX2_readValue, 3, some .boolean, [])
set_option maxRecDepth 100000 in
theorem cal_X2_readValue : xx_Cal yX2_readValue mX2_readValue 1 := ⟨xx_good3 (i := 5) rfl rfl, xx_good1 (i := 2) (by decide +kernel) (by decide +kernel), by decide +kernel, by decide +kernel, by decide +kernel⟩
theorem im_X2_readValue : Cond.instanceMethod yX2_readValue ∈ xx_T := xx_good3 (i := 4) (by decide +kernel) (by decide +kernel)
theorem se_X2_readValue : Cond.selects yX2_readValue.cls yX2_readValue yX2_readValue ∈ xx_T := xx_good (i := 26) (by decide +kernel) (by decide +kernel)
abbrev mX2_readNegative : xx_M := (RX2, "readNegative", cX2_readNegative, 2, some .boolean, [])
set_option maxRecDepth 100000 in
theorem cal_X2_readNegative : xx_Cal yX2_readNegative mX2_readNegative 1 := ⟨xx_good3 (i := 14) rfl rfl, xx_good1 (i := 2) (by decide +kernel) (by decide +kernel), by decide +kernel, by decide +kernel, by decide +kernel⟩
theorem im_X2_readNegative : Cond.instanceMethod yX2_readNegative ∈ xx_T := xx_good3 (i := 13) (by decide +kernel) (by decide +kernel)
theorem se_X2_readNegative : Cond.selects yX2_readNegative.cls yX2_readNegative yX2_readNegative ∈ xx_T := xx_good (i := 27) (by decide +kernel) (by decide +kernel)
abbrev mX2_readChoice : xx_M := (RX2, "readChoice", cX2_readChoice, 3, some .boolean, [])
set_option maxRecDepth 100000 in
theorem cal_X2_readChoice : xx_Cal yX2_readChoice mX2_readChoice 1 := ⟨xx_good3 (i := 26) rfl rfl, xx_good1 (i := 2) (by decide +kernel) (by decide +kernel), by decide +kernel, by decide +kernel, by decide +kernel⟩
theorem im_X2_readChoice : Cond.instanceMethod yX2_readChoice ∈ xx_T := xx_good3 (i := 25) (by decide +kernel) (by decide +kernel)
theorem se_X2_readChoice : Cond.selects yX2_readChoice.cls yX2_readChoice yX2_readChoice ∈ xx_T := xx_good (i := 28) (by decide +kernel) (by decide +kernel)
abbrev mX2_countSeen : xx_M := (RX2, "countSeen", cX2_countSeen, 1, some .int, [])
set_option maxRecDepth 100000 in
theorem cal_X2_countSeen : xx_Cal yX2_countSeen mX2_countSeen 0 := ⟨xx_good3 (i := 32) rfl rfl, xx_good1 (i := 2) (by decide +kernel) (by decide +kernel), by decide +kernel, by decide +kernel, by decide +kernel⟩
theorem im_X2_countSeen : Cond.instanceMethod yX2_countSeen ∈ xx_T := xx_good3 (i := 31) (by decide +kernel) (by decide +kernel)
theorem se_X2_countSeen : Cond.selects yX2_countSeen.cls yX2_countSeen yX2_countSeen ∈ xx_T := xx_good (i := 29) (by decide +kernel) (by decide +kernel)
abbrev mX2_readSide : xx_M := (RX2, "readSide", cX2_readSide, 2, some .boolean, [])
set_option maxRecDepth 100000 in
theorem cal_X2_readSide : xx_Cal yX2_readSide mX2_readSide 1 := ⟨xx_good3 (i := 44) rfl rfl, xx_good1 (i := 2) (by decide +kernel) (by decide +kernel), by decide +kernel, by decide +kernel, by decide +kernel⟩
theorem im_X2_readSide : Cond.instanceMethod yX2_readSide ∈ xx_T := xx_good3 (i := 43) (by decide +kernel) (by decide +kernel)
theorem se_X2_readSide : Cond.selects yX2_readSide.cls yX2_readSide yX2_readSide ∈ xx_T := xx_good (i := 30) (by decide +kernel) (by decide +kernel)
abbrev mX2_comparisonSeen : xx_M := (RX2, "comparisonSeen", cX2_comparisonSeen, 1, some .int, [])
set_option maxRecDepth 100000 in
theorem cal_X2_comparisonSeen : xx_Cal yX2_comparisonSeen mX2_comparisonSeen 0 := ⟨xx_good3 (i := 54) rfl rfl, xx_good1 (i := 2) (by decide +kernel) (by decide +kernel), by decide +kernel, by decide +kernel, by decide +kernel⟩
theorem im_X2_comparisonSeen : Cond.instanceMethod yX2_comparisonSeen ∈ xx_T := xx_good3 (i := 53) (by decide +kernel) (by decide +kernel)
theorem se_X2_comparisonSeen : Cond.selects yX2_comparisonSeen.cls yX2_comparisonSeen yX2_comparisonSeen ∈ xx_T := xx_good (i := 31) (by decide +kernel) (by decide +kernel)
abbrev mX3_endRule : xx_M := (RX3, "endRule", cX3_endRule, 2, none, [])
set_option maxRecDepth 100000 in
theorem cal_X3_endRule : xx_Cal yX3_endRule mX3_endRule 1 := ⟨xx_good3 (i := 72) rfl rfl, xx_good1 (i := 4) (by decide +kernel) (by decide +kernel), by decide +kernel, by decide +kernel, by decide +kernel⟩
theorem im_X3_endRule : Cond.instanceMethod yX3_endRule ∈ xx_T := xx_good3 (i := 70) (by decide +kernel) (by decide +kernel)
theorem se_X3_endRule : Cond.selects yX3_endRule.cls yX3_endRule yX3_endRule ∈ xx_T := xx_good3 (i := 71) (by decide +kernel) (by decide +kernel)
abbrev mX3_copyFrom : xx_M := (RX3, "copyFrom", cX3_copyFrom, 2, none, [])
set_option maxRecDepth 100000 in
theorem cal_X3_copyFrom : xx_Cal yX3_copyFrom mX3_copyFrom 1 := ⟨xx_good3 (i := 78) rfl rfl, xx_good1 (i := 4) (by decide +kernel) (by decide +kernel), by decide +kernel, by decide +kernel, by decide +kernel⟩
theorem im_X3_copyFrom : Cond.instanceMethod yX3_copyFrom ∈ xx_T := xx_good3 (i := 76) (by decide +kernel) (by decide +kernel)
theorem se_X3_copyFrom : Cond.selects yX3_copyFrom.cls yX3_copyFrom yX3_copyFrom ∈ xx_T := xx_good3 (i := 77) (by decide +kernel) (by decide +kernel)
abbrev mX0_begin : xx_M := (RX0, "begin", cX0_begin, 5, none, [])
set_option maxRecDepth 100000 in
theorem cal_X0_begin : xx_Cal yX0_begin mX0_begin 3 := ⟨xx_good3 (i := 85) rfl rfl, xx_good1 (i := 5) (by decide +kernel) (by decide +kernel), by decide +kernel, by decide +kernel, by decide +kernel⟩
theorem im_X0_begin : Cond.instanceMethod yX0_begin ∈ xx_T := xx_good3 (i := 83) (by decide +kernel) (by decide +kernel)
theorem se_X0_begin : Cond.selects yX0_begin.cls yX0_begin yX0_begin ∈ xx_T := xx_good3 (i := 84) (by decide +kernel) (by decide +kernel)
abbrev mJ7_fill_53178 : xx_M := (RJ7, "fill", cJ7_fill_53178, 4, none, [])
set_option maxRecDepth 100000 in
theorem cal_J7_fill_53178 : xx_Cal yJ7_fill_53178 mJ7_fill_53178 2 := ⟨xx_good3 (i := 89) rfl rfl, xx_good1 (i := 23) (by decide +kernel) (by decide +kernel), by decide +kernel, by decide +kernel, by decide +kernel⟩
theorem sm_J7_fill_53178 : Cond.static yJ7_fill_53178 ∈ xx_T := xx_good3 (i := 88) (by decide +kernel) (by decide +kernel)
abbrev mX0_set : xx_M := (RX0, "set", cX0_set, 4, none, [])
set_option maxRecDepth 100000 in
theorem cal_X0_set : xx_Cal yX0_set mX0_set 3 := ⟨xx_good3 (i := 93) rfl rfl, xx_good1 (i := 5) (by decide +kernel) (by decide +kernel), by decide +kernel, by decide +kernel, by decide +kernel⟩
theorem im_X0_set : Cond.instanceMethod yX0_set ∈ xx_T := xx_good3 (i := 91) (by decide +kernel) (by decide +kernel)
theorem se_X0_set : Cond.selects yX0_set.cls yX0_set yX0_set ∈ xx_T := xx_good3 (i := 92) (by decide +kernel) (by decide +kernel)
abbrev mX0_hasCount : xx_M := (RX0, "hasCount", cX0_hasCount, 3, some .boolean, [])
set_option maxRecDepth 100000 in
theorem cal_X0_hasCount : xx_Cal yX0_hasCount mX0_hasCount 2 := ⟨xx_good3 (i := 97) rfl rfl, xx_good1 (i := 5) (by decide +kernel) (by decide +kernel), by decide +kernel, by decide +kernel, by decide +kernel⟩
theorem im_X0_hasCount : Cond.instanceMethod yX0_hasCount ∈ xx_T := xx_good3 (i := 96) (by decide +kernel) (by decide +kernel)
theorem se_X0_hasCount : Cond.selects yX0_hasCount.cls yX0_hasCount yX0_hasCount ∈ xx_T := xx_good (i := 32) (by decide +kernel) (by decide +kernel)
abbrev mX6_errorAt : xx_M := (RX6, "errorAt", cX6_errorAt, 1, some .int, [])
set_option maxRecDepth 100000 in
theorem cal_X6_errorAt : xx_Cal yX6_errorAt mX6_errorAt 0 := ⟨xx_good3 (i := 101) rfl rfl, xx_good1 (i := 1) (by decide +kernel) (by decide +kernel), by decide +kernel, by decide +kernel, by decide +kernel⟩
theorem im_X6_errorAt : Cond.instanceMethod yX6_errorAt ∈ xx_T := xx_good3 (i := 99) (by decide +kernel) (by decide +kernel)
theorem se_X6_errorAt : Cond.selects yX6_errorAt.cls yX6_errorAt yX6_errorAt ∈ xx_T := xx_good3 (i := 100) (by decide +kernel) (by decide +kernel)
abbrev mX6_wrestlers : xx_M := (RX6, "wrestlers", cX6_wrestlers, 1, some .int, [])
set_option maxRecDepth 100000 in
theorem cal_X6_wrestlers : xx_Cal yX6_wrestlers mX6_wrestlers 0 := ⟨xx_good3 (i := 105) rfl rfl, xx_good1 (i := 1) (by decide +kernel) (by decide +kernel), by decide +kernel, by decide +kernel, by decide +kernel⟩
theorem im_X6_wrestlers : Cond.instanceMethod yX6_wrestlers ∈ xx_T := xx_good3 (i := 103) (by decide +kernel) (by decide +kernel)
theorem se_X6_wrestlers : Cond.selects yX6_wrestlers.cls yX6_wrestlers yX6_wrestlers ∈ xx_T := xx_good3 (i := 104) (by decide +kernel) (by decide +kernel)
abbrev mX6_wrestlersIn : xx_M := (RX6, "wrestlersIn", cX6_wrestlersIn, 1, some .int, [])
set_option maxRecDepth 100000 in
theorem cal_X6_wrestlersIn : xx_Cal yX6_wrestlersIn mX6_wrestlersIn 0 := ⟨xx_good3 (i := 109) rfl rfl, xx_good1 (i := 1) (by decide +kernel) (by decide +kernel), by decide +kernel, by decide +kernel, by decide +kernel⟩
theorem im_X6_wrestlersIn : Cond.instanceMethod yX6_wrestlersIn ∈ xx_T := xx_good3 (i := 107) (by decide +kernel) (by decide +kernel)
theorem se_X6_wrestlersIn : Cond.selects yX6_wrestlersIn.cls yX6_wrestlersIn yX6_wrestlersIn ∈ xx_T := xx_good3 (i := 108) (by decide +kernel) (by decide +kernel)
abbrev mX0_countIn : xx_M := (RX0, "countIn", cX0_countIn, 3, some .int, [])
set_option maxRecDepth 100000 in
theorem cal_X0_countIn : xx_Cal yX0_countIn mX0_countIn 0 := ⟨xx_good3 (i := 113) rfl rfl, xx_good1 (i := 5) (by decide +kernel) (by decide +kernel), by decide +kernel, by decide +kernel, by decide +kernel⟩
theorem im_X0_countIn : Cond.instanceMethod yX0_countIn ∈ xx_T := xx_good3 (i := 111) (by decide +kernel) (by decide +kernel)
theorem se_X0_countIn : Cond.selects yX0_countIn.cls yX0_countIn yX0_countIn ∈ xx_T := xx_good3 (i := 112) (by decide +kernel) (by decide +kernel)
abbrev mX0_of : xx_M := (RX0, "of", cX0_of, 3, some .int, [])
set_option maxRecDepth 100000 in
theorem cal_X0_of : xx_Cal yX0_of mX0_of 2 := ⟨xx_good3 (i := 117) rfl rfl, xx_good1 (i := 5) (by decide +kernel) (by decide +kernel), by decide +kernel, by decide +kernel, by decide +kernel⟩
theorem im_X0_of : Cond.instanceMethod yX0_of ∈ xx_T := xx_good3 (i := 115) (by decide +kernel) (by decide +kernel)
theorem se_X0_of : Cond.selects yX0_of.cls yX0_of yX0_of ∈ xx_T := xx_good3 (i := 116) (by decide +kernel) (by decide +kernel)
abbrev mX6_rules : xx_M := (RX6, "rules", cX6_rules, 1, some .int, [])
set_option maxRecDepth 100000 in
theorem cal_X6_rules : xx_Cal yX6_rules mX6_rules 0 := ⟨xx_good3 (i := 121) rfl rfl, xx_good1 (i := 1) (by decide +kernel) (by decide +kernel), by decide +kernel, by decide +kernel, by decide +kernel⟩
theorem im_X6_rules : Cond.instanceMethod yX6_rules ∈ xx_T := xx_good3 (i := 119) (by decide +kernel) (by decide +kernel)
theorem se_X6_rules : Cond.selects yX6_rules.cls yX6_rules yX6_rules ∈ xx_T := xx_good3 (i := 120) (by decide +kernel) (by decide +kernel)
abbrev mX6_rounds : xx_M := (RX6, "rounds", cX6_rounds, 1, some .int, [])
set_option maxRecDepth 100000 in
theorem cal_X6_rounds : xx_Cal yX6_rounds mX6_rounds 0 := ⟨xx_good3 (i := 125) rfl rfl, xx_good1 (i := 1) (by decide +kernel) (by decide +kernel), by decide +kernel, by decide +kernel, by decide +kernel⟩
theorem im_X6_rounds : Cond.instanceMethod yX6_rounds ∈ xx_T := xx_good3 (i := 123) (by decide +kernel) (by decide +kernel)
theorem se_X6_rounds : Cond.selects yX6_rounds.cls yX6_rounds yX6_rounds ∈ xx_T := xx_good3 (i := 124) (by decide +kernel) (by decide +kernel)
abbrev mX6_tapeBytes : xx_M := (RX6, "tapeBytes", cX6_tapeBytes, 1, some .int, [])
set_option maxRecDepth 100000 in
theorem cal_X6_tapeBytes : xx_Cal yX6_tapeBytes mX6_tapeBytes 0 := ⟨xx_good3 (i := 129) rfl rfl, xx_good1 (i := 1) (by decide +kernel) (by decide +kernel), by decide +kernel, by decide +kernel, by decide +kernel⟩
theorem im_X6_tapeBytes : Cond.instanceMethod yX6_tapeBytes ∈ xx_T := xx_good3 (i := 127) (by decide +kernel) (by decide +kernel)
theorem se_X6_tapeBytes : Cond.selects yX6_tapeBytes.cls yX6_tapeBytes yX6_tapeBytes ∈ xx_T := xx_good3 (i := 128) (by decide +kernel) (by decide +kernel)
abbrev mX6_bouts : xx_M := (RX6, "bouts", cX6_bouts, 1, some .int, [])
set_option maxRecDepth 100000 in
theorem cal_X6_bouts : xx_Cal yX6_bouts mX6_bouts 0 := ⟨xx_good3 (i := 133) rfl rfl, xx_good1 (i := 1) (by decide +kernel) (by decide +kernel), by decide +kernel, by decide +kernel, by decide +kernel⟩
theorem im_X6_bouts : Cond.instanceMethod yX6_bouts ∈ xx_T := xx_good3 (i := 131) (by decide +kernel) (by decide +kernel)
theorem se_X6_bouts : Cond.selects yX6_bouts.cls yX6_bouts yX6_bouts ∈ xx_T := xx_good3 (i := 132) (by decide +kernel) (by decide +kernel)
abbrev mX6_openBouts : xx_M := (RX6, "openBouts", cX6_openBouts, 1, some .int, [])
set_option maxRecDepth 100000 in
theorem cal_X6_openBouts : xx_Cal yX6_openBouts mX6_openBouts 0 := ⟨xx_good3 (i := 137) rfl rfl, xx_good1 (i := 1) (by decide +kernel) (by decide +kernel), by decide +kernel, by decide +kernel, by decide +kernel⟩
theorem im_X6_openBouts : Cond.instanceMethod yX6_openBouts ∈ xx_T := xx_good3 (i := 135) (by decide +kernel) (by decide +kernel)
theorem se_X6_openBouts : Cond.selects yX6_openBouts.cls yX6_openBouts yX6_openBouts ∈ xx_T := xx_good3 (i := 136) (by decide +kernel) (by decide +kernel)
abbrev mX0_countOpen : xx_M := (RX0, "countOpen", cX0_countOpen, 3, some .int, [])
set_option maxRecDepth 100000 in
theorem cal_X0_countOpen : xx_Cal yX0_countOpen mX0_countOpen 0 := ⟨xx_good3 (i := 141) rfl rfl, xx_good1 (i := 5) (by decide +kernel) (by decide +kernel), by decide +kernel, by decide +kernel, by decide +kernel⟩
theorem im_X0_countOpen : Cond.instanceMethod yX0_countOpen ∈ xx_T := xx_good3 (i := 139) (by decide +kernel) (by decide +kernel)
theorem se_X0_countOpen : Cond.selects yX0_countOpen.cls yX0_countOpen yX0_countOpen ∈ xx_T := xx_good3 (i := 140) (by decide +kernel) (by decide +kernel)
abbrev mX0_outcomeIn : xx_M := (RX0, "outcomeIn", cX0_outcomeIn, 2, some .int, [])
set_option maxRecDepth 100000 in
theorem cal_X0_outcomeIn : xx_Cal yX0_outcomeIn mX0_outcomeIn 1 := ⟨xx_good3 (i := 145) rfl rfl, xx_good1 (i := 5) (by decide +kernel) (by decide +kernel), by decide +kernel, by decide +kernel, by decide +kernel⟩
theorem im_X0_outcomeIn : Cond.instanceMethod yX0_outcomeIn ∈ xx_T := xx_good3 (i := 143) (by decide +kernel) (by decide +kernel)
theorem se_X0_outcomeIn : Cond.selects yX0_outcomeIn.cls yX0_outcomeIn yX0_outcomeIn ∈ xx_T := xx_good3 (i := 144) (by decide +kernel) (by decide +kernel)
abbrev mX0_hasBout : xx_M := (RX0, "hasBout", cX0_hasBout, 2, some .boolean, [])
set_option maxRecDepth 100000 in
theorem cal_X0_hasBout : xx_Cal yX0_hasBout mX0_hasBout 1 := ⟨xx_good3 (i := 149) rfl rfl, xx_good1 (i := 5) (by decide +kernel) (by decide +kernel), by decide +kernel, by decide +kernel, by decide +kernel⟩
theorem im_X0_hasBout : Cond.instanceMethod yX0_hasBout ∈ xx_T := xx_good3 (i := 147) (by decide +kernel) (by decide +kernel)
theorem se_X0_hasBout : Cond.selects yX0_hasBout.cls yX0_hasBout yX0_hasBout ∈ xx_T := xx_good3 (i := 148) (by decide +kernel) (by decide +kernel)
abbrev mX6_meanPoints : xx_M := (RX6, "meanPoints", cX6_meanPoints, 3, some .double, [])
set_option maxRecDepth 100000 in
theorem cal_X6_meanPoints : xx_Cal yX6_meanPoints mX6_meanPoints 0 := ⟨xx_good3 (i := 153) rfl rfl, xx_good1 (i := 1) (by decide +kernel) (by decide +kernel), by decide +kernel, by decide +kernel, by decide +kernel⟩
theorem im_X6_meanPoints : Cond.instanceMethod yX6_meanPoints ∈ xx_T := xx_good3 (i := 151) (by decide +kernel) (by decide +kernel)
theorem se_X6_meanPoints : Cond.selects yX6_meanPoints.cls yX6_meanPoints yX6_meanPoints ∈ xx_T := xx_good3 (i := 152) (by decide +kernel) (by decide +kernel)
abbrev mX6_digest : xx_M := (RX6, "digest", cX6_digest, 4, some .long, [])
set_option maxRecDepth 100000 in
theorem cal_X6_digest : xx_Cal yX6_digest mX6_digest 0 := ⟨xx_good3 (i := 158) rfl rfl, xx_good1 (i := 1) (by decide +kernel) (by decide +kernel), by decide +kernel, by decide +kernel, by decide +kernel⟩
theorem im_X6_digest : Cond.instanceMethod yX6_digest ∈ xx_T := xx_good3 (i := 156) (by decide +kernel) (by decide +kernel)
theorem se_X6_digest : Cond.selects yX6_digest.cls yX6_digest yX6_digest ∈ xx_T := xx_good3 (i := 157) (by decide +kernel) (by decide +kernel)
abbrev mX0_putInOrder : xx_M := (RX0, "putInOrder", cX0_putInOrder, 3, none, [])
set_option maxRecDepth 100000 in
theorem cal_X0_putInOrder : xx_Cal yX0_putInOrder mX0_putInOrder 0 := ⟨xx_good3 (i := 171) rfl rfl, xx_good1 (i := 5) (by decide +kernel) (by decide +kernel), by decide +kernel, by decide +kernel, by decide +kernel⟩
theorem im_X0_putInOrder : Cond.instanceMethod yX0_putInOrder ∈ xx_T := xx_good3 (i := 169) (by decide +kernel) (by decide +kernel)
theorem se_X0_putInOrder : Cond.selects yX0_putInOrder.cls yX0_putInOrder yX0_putInOrder ∈ xx_T := xx_good3 (i := 170) (by decide +kernel) (by decide +kernel)
abbrev mX0_pointsOfRivals : xx_M := (RX0, "pointsOfRivals", cX0_pointsOfRivals, 4, some .int, [])
set_option maxRecDepth 100000 in
theorem cal_X0_pointsOfRivals : xx_Cal yX0_pointsOfRivals mX0_pointsOfRivals 1 := ⟨xx_good3 (i := 175) rfl rfl, xx_good1 (i := 5) (by decide +kernel) (by decide +kernel), by decide +kernel, by decide +kernel, by decide +kernel⟩
theorem im_X0_pointsOfRivals : Cond.instanceMethod yX0_pointsOfRivals ∈ xx_T := xx_good3 (i := 173) (by decide +kernel) (by decide +kernel)
theorem se_X0_pointsOfRivals : Cond.selects yX0_pointsOfRivals.cls yX0_pointsOfRivals yX0_pointsOfRivals ∈ xx_T := xx_good3 (i := 174) (by decide +kernel) (by decide +kernel)
abbrev mX0_meetings : xx_M := (RX0, "meetings", cX0_meetings, 3, some .int, [])
set_option maxRecDepth 100000 in
theorem cal_X0_meetings : xx_Cal yX0_meetings mX0_meetings 2 := ⟨xx_good3 (i := 179) rfl rfl, xx_good1 (i := 5) (by decide +kernel) (by decide +kernel), by decide +kernel, by decide +kernel, by decide +kernel⟩
theorem im_X0_meetings : Cond.instanceMethod yX0_meetings ∈ xx_T := xx_good3 (i := 177) (by decide +kernel) (by decide +kernel)
theorem se_X0_meetings : Cond.selects yX0_meetings.cls yX0_meetings yX0_meetings ∈ xx_T := xx_good3 (i := 178) (by decide +kernel) (by decide +kernel)
abbrev mX0_hasWrestler : xx_M := (RX0, "hasWrestler", cX0_hasWrestler, 2, some .boolean, [])
set_option maxRecDepth 100000 in
theorem cal_X0_hasWrestler : xx_Cal yX0_hasWrestler mX0_hasWrestler 1 := ⟨xx_good3 (i := 183) rfl rfl, xx_good1 (i := 5) (by decide +kernel) (by decide +kernel), by decide +kernel, by decide +kernel, by decide +kernel⟩
theorem im_X0_hasWrestler : Cond.instanceMethod yX0_hasWrestler ∈ xx_T := xx_good3 (i := 181) (by decide +kernel) (by decide +kernel)
theorem se_X0_hasWrestler : Cond.selects yX0_hasWrestler.cls yX0_hasWrestler yX0_hasWrestler ∈ xx_T := xx_good3 (i := 182) (by decide +kernel) (by decide +kernel)
abbrev mX0_standsAhead : xx_M := (RX0, "standsAhead", cX0_standsAhead, 3, some .boolean, [])
set_option maxRecDepth 100000 in
theorem cal_X0_standsAhead : xx_Cal yX0_standsAhead mX0_standsAhead 2 := ⟨xx_good3 (i := 187) rfl rfl, xx_good1 (i := 5) (by decide +kernel) (by decide +kernel), by decide +kernel, by decide +kernel, by decide +kernel⟩
theorem im_X0_standsAhead : Cond.instanceMethod yX0_standsAhead ∈ xx_T := xx_good3 (i := 186) (by decide +kernel) (by decide +kernel)
theorem se_X0_standsAhead : Cond.selects yX0_standsAhead.cls yX0_standsAhead yX0_standsAhead ∈ xx_T := xx_good (i := 33) (by decide +kernel) (by decide +kernel)
abbrev mX6_digestWrestler : xx_M := (RX6, "digestWrestler", cX6_digestWrestler, 7, some .long, [])
set_option maxRecDepth 100000 in
theorem cal_X6_digestWrestler : xx_Cal yX6_digestWrestler mX6_digestWrestler 2 := ⟨xx_good3 (i := 191) rfl rfl, xx_good1 (i := 1) (by decide +kernel) (by decide +kernel), by decide +kernel, by decide +kernel, by decide +kernel⟩
theorem im_X6_digestWrestler : Cond.instanceMethod yX6_digestWrestler ∈ xx_T := xx_good3 (i := 190) (by decide +kernel) (by decide +kernel)
theorem se_X6_digestWrestler : Cond.selects yX6_digestWrestler.cls yX6_digestWrestler yX6_digestWrestler ∈ xx_T := xx_good (i := 34) (by decide +kernel) (by decide +kernel)
abbrev mX0_placeOf : xx_M := (RX0, "placeOf", cX0_placeOf, 3, some .int, [])
set_option maxRecDepth 100000 in
theorem cal_X0_placeOf : xx_Cal yX0_placeOf mX0_placeOf 1 := ⟨xx_good3 (i := 196) rfl rfl, xx_good1 (i := 5) (by decide +kernel) (by decide +kernel), by decide +kernel, by decide +kernel, by decide +kernel⟩
theorem im_X0_placeOf : Cond.instanceMethod yX0_placeOf ∈ xx_T := xx_good3 (i := 194) (by decide +kernel) (by decide +kernel)
theorem se_X0_placeOf : Cond.selects yX0_placeOf.cls yX0_placeOf yX0_placeOf ∈ xx_T := xx_good3 (i := 195) (by decide +kernel) (by decide +kernel)
abbrev mX0_redIn : xx_M := (RX0, "redIn", cX0_redIn, 2, some .int, [])
set_option maxRecDepth 100000 in
theorem cal_X0_redIn : xx_Cal yX0_redIn mX0_redIn 1 := ⟨xx_good3 (i := 201) rfl rfl, xx_good1 (i := 5) (by decide +kernel) (by decide +kernel), by decide +kernel, by decide +kernel, by decide +kernel⟩
theorem im_X0_redIn : Cond.instanceMethod yX0_redIn ∈ xx_T := xx_good3 (i := 199) (by decide +kernel) (by decide +kernel)
theorem se_X0_redIn : Cond.selects yX0_redIn.cls yX0_redIn yX0_redIn ∈ xx_T := xx_good3 (i := 200) (by decide +kernel) (by decide +kernel)
abbrev mX0_blueIn : xx_M := (RX0, "blueIn", cX0_blueIn, 2, some .int, [])
set_option maxRecDepth 100000 in
theorem cal_X0_blueIn : xx_Cal yX0_blueIn mX0_blueIn 1 := ⟨xx_good3 (i := 205) rfl rfl, xx_good1 (i := 5) (by decide +kernel) (by decide +kernel), by decide +kernel, by decide +kernel, by decide +kernel⟩
theorem im_X0_blueIn : Cond.instanceMethod yX0_blueIn ∈ xx_T := xx_good3 (i := 203) (by decide +kernel) (by decide +kernel)
theorem se_X0_blueIn : Cond.selects yX0_blueIn.cls yX0_blueIn yX0_blueIn ∈ xx_T := xx_good3 (i := 204) (by decide +kernel) (by decide +kernel)
abbrev mL_feed : xx_M := (RL, "feed", cL_feed, 8, some .int, [(0, 16, 19, 13)])
set_option maxRecDepth 100000 in
theorem cal_L_feed : xx_Cal yL_feed mL_feed 7 := ⟨xx_good3 (i := 209) rfl rfl, xx_good1 (i := 0) (by decide +kernel) (by decide +kernel), by decide +kernel, by decide +kernel, by decide +kernel⟩
theorem sm_L_feed : Cond.static yL_feed ∈ xx_T := xx_good3 (i := 208) (by decide +kernel) (by decide +kernel)
abbrev mX6_feed : xx_M := (RX6, "feed", cX6_feed, 6, some .int, [])
set_option maxRecDepth 100000 in
theorem cal_X6_feed : xx_Cal yX6_feed mX6_feed 5 := ⟨xx_good3 (i := 214) rfl rfl, xx_good1 (i := 1) (by decide +kernel) (by decide +kernel), by decide +kernel, by decide +kernel, by decide +kernel⟩
theorem im_X6_feed : Cond.instanceMethod yX6_feed ∈ xx_T := xx_good3 (i := 212) (by decide +kernel) (by decide +kernel)
theorem se_X6_feed : Cond.selects yX6_feed.cls yX6_feed yX6_feed ∈ xx_T := xx_good3 (i := 213) (by decide +kernel) (by decide +kernel)
abbrev mX5_append : xx_M := (RX5, "append", cX5_append, 3, none, [])
set_option maxRecDepth 100000 in
theorem cal_X5_append : xx_Cal yX5_append mX5_append 1 := ⟨xx_good4 (i := 45) rfl rfl, xx_good1 (i := 3) (by decide +kernel) (by decide +kernel), by decide +kernel, by decide +kernel, by decide +kernel⟩
theorem im_X5_append : Cond.instanceMethod yX5_append ∈ xx_T := xx_good4 (i := 43) (by decide +kernel) (by decide +kernel)
theorem se_X5_append : Cond.selects yX5_append.cls yX5_append yX5_append ∈ xx_T := xx_good4 (i := 44) (by decide +kernel) (by decide +kernel)
abbrev mL_trim : xx_M := (RL, "trim", cL_trim, 4, some .int, [(0, 9, 12, 19)])
set_option maxRecDepth 100000 in
theorem cal_L_trim : xx_Cal yL_trim mL_trim 3 := ⟨xx_good4 (i := 48) rfl rfl, xx_good1 (i := 0) (by decide +kernel) (by decide +kernel), by decide +kernel, by decide +kernel, by decide +kernel⟩
theorem sm_L_trim : Cond.static yL_trim ∈ xx_T := xx_good4 (i := 47) (by decide +kernel) (by decide +kernel)
abbrev mX6_trim : xx_M := (RX6, "trim", cX6_trim, 2, some .int, [])
set_option maxRecDepth 100000 in
theorem cal_X6_trim : xx_Cal yX6_trim mX6_trim 1 := ⟨xx_good4 (i := 53) rfl rfl, xx_good1 (i := 1) (by decide +kernel) (by decide +kernel), by decide +kernel, by decide +kernel, by decide +kernel⟩
theorem im_X6_trim : Cond.instanceMethod yX6_trim ∈ xx_T := xx_good4 (i := 51) (by decide +kernel) (by decide +kernel)
theorem se_X6_trim : Cond.selects yX6_trim.cls yX6_trim yX6_trim ∈ xx_T := xx_good4 (i := 52) (by decide +kernel) (by decide +kernel)
abbrev mL_strengthOf : xx_M := (RL, "strengthOf", cL_strengthOf, 4, some .int, [(0, 9, 12, 24)])
set_option maxRecDepth 100000 in
theorem cal_L_strengthOf : xx_Cal yL_strengthOf mL_strengthOf 3 := ⟨xx_good4 (i := 72) rfl rfl, xx_good1 (i := 0) (by decide +kernel) (by decide +kernel), by decide +kernel, by decide +kernel, by decide +kernel⟩
theorem sm_L_strengthOf : Cond.static yL_strengthOf ∈ xx_T := xx_good4 (i := 71) (by decide +kernel) (by decide +kernel)
abbrev mX6_strengthOf : xx_M := (RX6, "strengthOf", cX6_strengthOf, 2, some .int, [])
set_option maxRecDepth 100000 in
theorem cal_X6_strengthOf : xx_Cal yX6_strengthOf mX6_strengthOf 1 := ⟨xx_good4 (i := 77) rfl rfl, xx_good1 (i := 1) (by decide +kernel) (by decide +kernel), by decide +kernel, by decide +kernel, by decide +kernel⟩
theorem im_X6_strengthOf : Cond.instanceMethod yX6_strengthOf ∈ xx_T := xx_good4 (i := 75) (by decide +kernel) (by decide +kernel)
theorem se_X6_strengthOf : Cond.selects yX6_strengthOf.cls yX6_strengthOf yX6_strengthOf ∈ xx_T := xx_good4 (i := 76) (by decide +kernel) (by decide +kernel)
abbrev mX6_needWrestler : xx_M := (RX6, "needWrestler", cX6_needWrestler, 2, none, [])
set_option maxRecDepth 100000 in
theorem cal_X6_needWrestler : xx_Cal yX6_needWrestler mX6_needWrestler 1 := ⟨xx_good4 (i := 81) rfl rfl, xx_good1 (i := 1) (by decide +kernel) (by decide +kernel), by decide +kernel, by decide +kernel, by decide +kernel⟩
theorem im_X6_needWrestler : Cond.instanceMethod yX6_needWrestler ∈ xx_T := xx_good4 (i := 80) (by decide +kernel) (by decide +kernel)
theorem se_X6_needWrestler : Cond.selects yX6_needWrestler.cls yX6_needWrestler yX6_needWrestler ∈ xx_T := xx_good (i := 36) (by decide +kernel) (by decide +kernel)
abbrev mL_pointsOf : xx_M := (RL, "pointsOf", cL_pointsOf, 4, some .int, [(0, 9, 12, 24)])
set_option maxRecDepth 100000 in
theorem cal_L_pointsOf : xx_Cal yL_pointsOf mL_pointsOf 3 := ⟨xx_good4 (i := 101) rfl rfl, xx_good1 (i := 0) (by decide +kernel) (by decide +kernel), by decide +kernel, by decide +kernel, by decide +kernel⟩
theorem sm_L_pointsOf : Cond.static yL_pointsOf ∈ xx_T := xx_good4 (i := 100) (by decide +kernel) (by decide +kernel)
abbrev mX6_pointsOf : xx_M := (RX6, "pointsOf", cX6_pointsOf, 2, some .int, [])
set_option maxRecDepth 100000 in
theorem cal_X6_pointsOf : xx_Cal yX6_pointsOf mX6_pointsOf 1 := ⟨xx_good4 (i := 105) rfl rfl, xx_good1 (i := 1) (by decide +kernel) (by decide +kernel), by decide +kernel, by decide +kernel, by decide +kernel⟩
theorem im_X6_pointsOf : Cond.instanceMethod yX6_pointsOf ∈ xx_T := xx_good4 (i := 103) (by decide +kernel) (by decide +kernel)
theorem se_X6_pointsOf : Cond.selects yX6_pointsOf.cls yX6_pointsOf yX6_pointsOf ∈ xx_T := xx_good4 (i := 104) (by decide +kernel) (by decide +kernel)
abbrev mL_winsOf : xx_M := (RL, "winsOf", cL_winsOf, 4, some .int, [(0, 9, 12, 24)])
set_option maxRecDepth 100000 in
theorem cal_L_winsOf : xx_Cal yL_winsOf mL_winsOf 3 := ⟨xx_good4 (i := 108) rfl rfl, xx_good1 (i := 0) (by decide +kernel) (by decide +kernel), by decide +kernel, by decide +kernel, by decide +kernel⟩
theorem sm_L_winsOf : Cond.static yL_winsOf ∈ xx_T := xx_good4 (i := 107) (by decide +kernel) (by decide +kernel)
abbrev mX6_winsOf : xx_M := (RX6, "winsOf", cX6_winsOf, 2, some .int, [])
set_option maxRecDepth 100000 in
theorem cal_X6_winsOf : xx_Cal yX6_winsOf mX6_winsOf 1 := ⟨xx_good4 (i := 112) rfl rfl, xx_good1 (i := 1) (by decide +kernel) (by decide +kernel), by decide +kernel, by decide +kernel, by decide +kernel⟩
theorem im_X6_winsOf : Cond.instanceMethod yX6_winsOf ∈ xx_T := xx_good4 (i := 110) (by decide +kernel) (by decide +kernel)
theorem se_X6_winsOf : Cond.selects yX6_winsOf.cls yX6_winsOf yX6_winsOf ∈ xx_T := xx_good4 (i := 111) (by decide +kernel) (by decide +kernel)
abbrev mL_drawsOf : xx_M := (RL, "drawsOf", cL_drawsOf, 4, some .int, [(0, 9, 12, 24)])
set_option maxRecDepth 100000 in
theorem cal_L_drawsOf : xx_Cal yL_drawsOf mL_drawsOf 3 := ⟨xx_good4 (i := 115) rfl rfl, xx_good1 (i := 0) (by decide +kernel) (by decide +kernel), by decide +kernel, by decide +kernel, by decide +kernel⟩
theorem sm_L_drawsOf : Cond.static yL_drawsOf ∈ xx_T := xx_good4 (i := 114) (by decide +kernel) (by decide +kernel)
abbrev mX6_drawsOf : xx_M := (RX6, "drawsOf", cX6_drawsOf, 2, some .int, [])
set_option maxRecDepth 100000 in
theorem cal_X6_drawsOf : xx_Cal yX6_drawsOf mX6_drawsOf 1 := ⟨xx_good4 (i := 119) rfl rfl, xx_good1 (i := 1) (by decide +kernel) (by decide +kernel), by decide +kernel, by decide +kernel, by decide +kernel⟩
theorem im_X6_drawsOf : Cond.instanceMethod yX6_drawsOf ∈ xx_T := xx_good4 (i := 117) (by decide +kernel) (by decide +kernel)
theorem se_X6_drawsOf : Cond.selects yX6_drawsOf.cls yX6_drawsOf yX6_drawsOf ∈ xx_T := xx_good4 (i := 118) (by decide +kernel) (by decide +kernel)
abbrev mL_lossesOf : xx_M := (RL, "lossesOf", cL_lossesOf, 4, some .int, [(0, 9, 12, 24)])
set_option maxRecDepth 100000 in
theorem cal_L_lossesOf : xx_Cal yL_lossesOf mL_lossesOf 3 := ⟨xx_good4 (i := 122) rfl rfl, xx_good1 (i := 0) (by decide +kernel) (by decide +kernel), by decide +kernel, by decide +kernel, by decide +kernel⟩
theorem sm_L_lossesOf : Cond.static yL_lossesOf ∈ xx_T := xx_good4 (i := 121) (by decide +kernel) (by decide +kernel)
abbrev mX6_lossesOf : xx_M := (RX6, "lossesOf", cX6_lossesOf, 2, some .int, [])
set_option maxRecDepth 100000 in
theorem cal_X6_lossesOf : xx_Cal yX6_lossesOf mX6_lossesOf 1 := ⟨xx_good4 (i := 126) rfl rfl, xx_good1 (i := 1) (by decide +kernel) (by decide +kernel), by decide +kernel, by decide +kernel, by decide +kernel⟩
theorem im_X6_lossesOf : Cond.instanceMethod yX6_lossesOf ∈ xx_T := xx_good4 (i := 124) (by decide +kernel) (by decide +kernel)
theorem se_X6_lossesOf : Cond.selects yX6_lossesOf.cls yX6_lossesOf yX6_lossesOf ∈ xx_T := xx_good4 (i := 125) (by decide +kernel) (by decide +kernel)
abbrev mL_restsOf : xx_M := (RL, "restsOf", cL_restsOf, 4, some .int, [(0, 9, 12, 24)])
set_option maxRecDepth 100000 in
theorem cal_L_restsOf : xx_Cal yL_restsOf mL_restsOf 3 := ⟨xx_good4 (i := 129) rfl rfl, xx_good1 (i := 0) (by decide +kernel) (by decide +kernel), by decide +kernel, by decide +kernel, by decide +kernel⟩
theorem sm_L_restsOf : Cond.static yL_restsOf ∈ xx_T := xx_good4 (i := 128) (by decide +kernel) (by decide +kernel)
abbrev mX6_restsOf : xx_M := (RX6, "restsOf", cX6_restsOf, 2, some .int, [])
set_option maxRecDepth 100000 in
theorem cal_X6_restsOf : xx_Cal yX6_restsOf mX6_restsOf 1 := ⟨xx_good4 (i := 133) rfl rfl, xx_good1 (i := 1) (by decide +kernel) (by decide +kernel), by decide +kernel, by decide +kernel, by decide +kernel⟩
theorem im_X6_restsOf : Cond.instanceMethod yX6_restsOf ∈ xx_T := xx_good4 (i := 131) (by decide +kernel) (by decide +kernel)
theorem se_X6_restsOf : Cond.selects yX6_restsOf.cls yX6_restsOf yX6_restsOf ∈ xx_T := xx_good4 (i := 132) (by decide +kernel) (by decide +kernel)
abbrev mL_beltsOf : xx_M := (RL, "beltsOf", cL_beltsOf, 4, some .int, [(0, 9, 12, 24)])
set_option maxRecDepth 100000 in
theorem cal_L_beltsOf : xx_Cal yL_beltsOf mL_beltsOf 3 := ⟨xx_good4 (i := 136) rfl rfl, xx_good1 (i := 0) (by decide +kernel) (by decide +kernel), by decide +kernel, by decide +kernel, by decide +kernel⟩
theorem sm_L_beltsOf : Cond.static yL_beltsOf ∈ xx_T := xx_good4 (i := 135) (by decide +kernel) (by decide +kernel)
abbrev mX6_beltsOf : xx_M := (RX6, "beltsOf", cX6_beltsOf, 2, some .int, [])
set_option maxRecDepth 100000 in
theorem cal_X6_beltsOf : xx_Cal yX6_beltsOf mX6_beltsOf 1 := ⟨xx_good4 (i := 140) rfl rfl, xx_good1 (i := 1) (by decide +kernel) (by decide +kernel), by decide +kernel, by decide +kernel, by decide +kernel⟩
theorem im_X6_beltsOf : Cond.instanceMethod yX6_beltsOf ∈ xx_T := xx_good4 (i := 138) (by decide +kernel) (by decide +kernel)
theorem se_X6_beltsOf : Cond.selects yX6_beltsOf.cls yX6_beltsOf yX6_beltsOf ∈ xx_T := xx_good4 (i := 139) (by decide +kernel) (by decide +kernel)
abbrev mL_floatsOf : xx_M := (RL, "floatsOf", cL_floatsOf, 4, some .int, [(0, 9, 12, 24)])
set_option maxRecDepth 100000 in
theorem cal_L_floatsOf : xx_Cal yL_floatsOf mL_floatsOf 3 := ⟨xx_good4 (i := 143) rfl rfl, xx_good1 (i := 0) (by decide +kernel) (by decide +kernel), by decide +kernel, by decide +kernel, by decide +kernel⟩
theorem sm_L_floatsOf : Cond.static yL_floatsOf ∈ xx_T := xx_good4 (i := 142) (by decide +kernel) (by decide +kernel)
abbrev mX6_floatsOf : xx_M := (RX6, "floatsOf", cX6_floatsOf, 2, some .int, [])
set_option maxRecDepth 100000 in
theorem cal_X6_floatsOf : xx_Cal yX6_floatsOf mX6_floatsOf 1 := ⟨xx_good4 (i := 147) rfl rfl, xx_good1 (i := 1) (by decide +kernel) (by decide +kernel), by decide +kernel, by decide +kernel, by decide +kernel⟩
theorem im_X6_floatsOf : Cond.instanceMethod yX6_floatsOf ∈ xx_T := xx_good4 (i := 145) (by decide +kernel) (by decide +kernel)
theorem se_X6_floatsOf : Cond.selects yX6_floatsOf.cls yX6_floatsOf yX6_floatsOf ∈ xx_T := xx_good4 (i := 146) (by decide +kernel) (by decide +kernel)
abbrev mL_pointsOfMet : xx_M := (RL, "pointsOfMet", cL_pointsOfMet, 4, some .int, [(0, 9, 12, 24)])
set_option maxRecDepth 100000 in
theorem cal_L_pointsOfMet : xx_Cal yL_pointsOfMet mL_pointsOfMet 3 := ⟨xx_good4 (i := 150) rfl rfl, xx_good1 (i := 0) (by decide +kernel) (by decide +kernel), by decide +kernel, by decide +kernel, by decide +kernel⟩
theorem sm_L_pointsOfMet : Cond.static yL_pointsOfMet ∈ xx_T := xx_good4 (i := 149) (by decide +kernel) (by decide +kernel)
abbrev mX6_pointsOfMet : xx_M := (RX6, "pointsOfMet", cX6_pointsOfMet, 2, some .int, [])
set_option maxRecDepth 100000 in
theorem cal_X6_pointsOfMet : xx_Cal yX6_pointsOfMet mX6_pointsOfMet 1 := ⟨xx_good4 (i := 154) rfl rfl, xx_good1 (i := 1) (by decide +kernel) (by decide +kernel), by decide +kernel, by decide +kernel, by decide +kernel⟩
theorem im_X6_pointsOfMet : Cond.instanceMethod yX6_pointsOfMet ∈ xx_T := xx_good4 (i := 152) (by decide +kernel) (by decide +kernel)
theorem se_X6_pointsOfMet : Cond.selects yX6_pointsOfMet.cls yX6_pointsOfMet yX6_pointsOfMet ∈ xx_T := xx_good4 (i := 153) (by decide +kernel) (by decide +kernel)
abbrev mL_rankOf : xx_M := (RL, "rankOf", cL_rankOf, 4, some .int, [(0, 9, 12, 24)])
set_option maxRecDepth 100000 in
theorem cal_L_rankOf : xx_Cal yL_rankOf mL_rankOf 3 := ⟨xx_good4 (i := 157) rfl rfl, xx_good1 (i := 0) (by decide +kernel) (by decide +kernel), by decide +kernel, by decide +kernel, by decide +kernel⟩
theorem sm_L_rankOf : Cond.static yL_rankOf ∈ xx_T := xx_good4 (i := 156) (by decide +kernel) (by decide +kernel)
abbrev mX6_rankOf : xx_M := (RX6, "rankOf", cX6_rankOf, 2, some .int, [])
set_option maxRecDepth 100000 in
theorem cal_X6_rankOf : xx_Cal yX6_rankOf mX6_rankOf 1 := ⟨xx_good4 (i := 161) rfl rfl, xx_good1 (i := 1) (by decide +kernel) (by decide +kernel), by decide +kernel, by decide +kernel, by decide +kernel⟩
theorem im_X6_rankOf : Cond.instanceMethod yX6_rankOf ∈ xx_T := xx_good4 (i := 159) (by decide +kernel) (by decide +kernel)
theorem se_X6_rankOf : Cond.selects yX6_rankOf.cls yX6_rankOf yX6_rankOf ∈ xx_T := xx_good4 (i := 160) (by decide +kernel) (by decide +kernel)
abbrev mL_isIn : xx_M := (RL, "isIn", cL_isIn, 4, some .int, [(0, 16, 19, 24)])
set_option maxRecDepth 100000 in
theorem cal_L_isIn : xx_Cal yL_isIn mL_isIn 3 := ⟨xx_good4 (i := 164) rfl rfl, xx_good1 (i := 0) (by decide +kernel) (by decide +kernel), by decide +kernel, by decide +kernel, by decide +kernel⟩
theorem sm_L_isIn : Cond.static yL_isIn ∈ xx_T := xx_good4 (i := 163) (by decide +kernel) (by decide +kernel)
abbrev mX6_isIn : xx_M := (RX6, "isIn", cX6_isIn, 2, some .boolean, [])
set_option maxRecDepth 100000 in
theorem cal_X6_isIn : xx_Cal yX6_isIn mX6_isIn 1 := ⟨xx_good4 (i := 168) rfl rfl, xx_good1 (i := 1) (by decide +kernel) (by decide +kernel), by decide +kernel, by decide +kernel, by decide +kernel⟩
theorem im_X6_isIn : Cond.instanceMethod yX6_isIn ∈ xx_T := xx_good4 (i := 166) (by decide +kernel) (by decide +kernel)
theorem se_X6_isIn : Cond.selects yX6_isIn.cls yX6_isIn yX6_isIn ∈ xx_T := xx_good4 (i := 167) (by decide +kernel) (by decide +kernel)
abbrev mL_wrestlerAt : xx_M := (RL, "wrestlerAt", cL_wrestlerAt, 4, some .int, [(0, 9, 12, 24)])
set_option maxRecDepth 100000 in
theorem cal_L_wrestlerAt : xx_Cal yL_wrestlerAt mL_wrestlerAt 3 := ⟨xx_good4 (i := 171) rfl rfl, xx_good1 (i := 0) (by decide +kernel) (by decide +kernel), by decide +kernel, by decide +kernel, by decide +kernel⟩
theorem sm_L_wrestlerAt : Cond.static yL_wrestlerAt ∈ xx_T := xx_good4 (i := 170) (by decide +kernel) (by decide +kernel)
abbrev mX6_wrestlerAt : xx_M := (RX6, "wrestlerAt", cX6_wrestlerAt, 2, some .int, [])
set_option maxRecDepth 100000 in
theorem cal_X6_wrestlerAt : xx_Cal yX6_wrestlerAt mX6_wrestlerAt 1 := ⟨xx_good4 (i := 175) rfl rfl, xx_good1 (i := 1) (by decide +kernel) (by decide +kernel), by decide +kernel, by decide +kernel, by decide +kernel⟩
theorem im_X6_wrestlerAt : Cond.instanceMethod yX6_wrestlerAt ∈ xx_T := xx_good4 (i := 173) (by decide +kernel) (by decide +kernel)
theorem se_X6_wrestlerAt : Cond.selects yX6_wrestlerAt.cls yX6_wrestlerAt yX6_wrestlerAt ∈ xx_T := xx_good4 (i := 174) (by decide +kernel) (by decide +kernel)
abbrev mX0_atPlace : xx_M := (RX0, "atPlace", cX0_atPlace, 2, some .int, [])
set_option maxRecDepth 100000 in
theorem cal_X0_atPlace : xx_Cal yX0_atPlace mX0_atPlace 1 := ⟨xx_good4 (i := 180) rfl rfl, xx_good1 (i := 5) (by decide +kernel) (by decide +kernel), by decide +kernel, by decide +kernel, by decide +kernel⟩
theorem im_X0_atPlace : Cond.instanceMethod yX0_atPlace ∈ xx_T := xx_good4 (i := 178) (by decide +kernel) (by decide +kernel)
theorem se_X0_atPlace : Cond.selects yX0_atPlace.cls yX0_atPlace yX0_atPlace ∈ xx_T := xx_good4 (i := 179) (by decide +kernel) (by decide +kernel)
abbrev mL_timesMet : xx_M := (RL, "timesMet", cL_timesMet, 5, some .int, [(0, 10, 13, 24)])
set_option maxRecDepth 100000 in
theorem cal_L_timesMet : xx_Cal yL_timesMet mL_timesMet 4 := ⟨xx_good4 (i := 183) rfl rfl, xx_good1 (i := 0) (by decide +kernel) (by decide +kernel), by decide +kernel, by decide +kernel, by decide +kernel⟩
theorem sm_L_timesMet : Cond.static yL_timesMet ∈ xx_T := xx_good4 (i := 182) (by decide +kernel) (by decide +kernel)
abbrev mX6_timesMet : xx_M := (RX6, "timesMet", cX6_timesMet, 3, some .int, [])
set_option maxRecDepth 100000 in
theorem cal_X6_timesMet : xx_Cal yX6_timesMet mX6_timesMet 2 := ⟨xx_good4 (i := 187) rfl rfl, xx_good1 (i := 1) (by decide +kernel) (by decide +kernel), by decide +kernel, by decide +kernel, by decide +kernel⟩
theorem im_X6_timesMet : Cond.instanceMethod yX6_timesMet ∈ xx_T := xx_good4 (i := 185) (by decide +kernel) (by decide +kernel)
theorem se_X6_timesMet : Cond.selects yX6_timesMet.cls yX6_timesMet yX6_timesMet ∈ xx_T := xx_good4 (i := 186) (by decide +kernel) (by decide +kernel)
abbrev mL_redOf : xx_M := (RL, "redOf", cL_redOf, 4, some .int, [(0, 9, 12, 24)])
set_option maxRecDepth 100000 in
theorem cal_L_redOf : xx_Cal yL_redOf mL_redOf 3 := ⟨xx_good4 (i := 190) rfl rfl, xx_good1 (i := 0) (by decide +kernel) (by decide +kernel), by decide +kernel, by decide +kernel, by decide +kernel⟩
theorem sm_L_redOf : Cond.static yL_redOf ∈ xx_T := xx_good4 (i := 189) (by decide +kernel) (by decide +kernel)
abbrev mX6_redOf : xx_M := (RX6, "redOf", cX6_redOf, 2, some .int, [])
set_option maxRecDepth 100000 in
theorem cal_X6_redOf : xx_Cal yX6_redOf mX6_redOf 1 := ⟨xx_good4 (i := 194) rfl rfl, xx_good1 (i := 1) (by decide +kernel) (by decide +kernel), by decide +kernel, by decide +kernel, by decide +kernel⟩
theorem im_X6_redOf : Cond.instanceMethod yX6_redOf ∈ xx_T := xx_good4 (i := 192) (by decide +kernel) (by decide +kernel)
theorem se_X6_redOf : Cond.selects yX6_redOf.cls yX6_redOf yX6_redOf ∈ xx_T := xx_good4 (i := 193) (by decide +kernel) (by decide +kernel)
abbrev mX6_needBout : xx_M := (RX6, "needBout", cX6_needBout, 2, none, [])
set_option maxRecDepth 100000 in
theorem cal_X6_needBout : xx_Cal yX6_needBout mX6_needBout 1 := ⟨xx_good4 (i := 198) rfl rfl, xx_good1 (i := 1) (by decide +kernel) (by decide +kernel), by decide +kernel, by decide +kernel, by decide +kernel⟩
theorem im_X6_needBout : Cond.instanceMethod yX6_needBout ∈ xx_T := xx_good4 (i := 197) (by decide +kernel) (by decide +kernel)
theorem se_X6_needBout : Cond.selects yX6_needBout.cls yX6_needBout yX6_needBout ∈ xx_T := xx_good (i := 37) (by decide +kernel) (by decide +kernel)
abbrev mL_blueOf : xx_M := (RL, "blueOf", cL_blueOf, 4, some .int, [(0, 9, 12, 24)])
set_option maxRecDepth 100000 in
theorem cal_L_blueOf : xx_Cal yL_blueOf mL_blueOf 3 := ⟨xx_good4 (i := 203) rfl rfl, xx_good1 (i := 0) (by decide +kernel) (by decide +kernel), by decide +kernel, by decide +kernel, by decide +kernel⟩
theorem sm_L_blueOf : Cond.static yL_blueOf ∈ xx_T := xx_good4 (i := 202) (by decide +kernel) (by decide +kernel)
abbrev mX6_blueOf : xx_M := (RX6, "blueOf", cX6_blueOf, 2, some .int, [])
set_option maxRecDepth 100000 in
theorem cal_X6_blueOf : xx_Cal yX6_blueOf mX6_blueOf 1 := ⟨xx_good4 (i := 207) rfl rfl, xx_good1 (i := 1) (by decide +kernel) (by decide +kernel), by decide +kernel, by decide +kernel, by decide +kernel⟩
theorem im_X6_blueOf : Cond.instanceMethod yX6_blueOf ∈ xx_T := xx_good4 (i := 205) (by decide +kernel) (by decide +kernel)
theorem se_X6_blueOf : Cond.selects yX6_blueOf.cls yX6_blueOf yX6_blueOf ∈ xx_T := xx_good4 (i := 206) (by decide +kernel) (by decide +kernel)
abbrev mL_outcomeOf : xx_M := (RL, "outcomeOf", cL_outcomeOf, 4, some .int, [(0, 9, 12, 24), (0, 9, 15, 13)])
set_option maxRecDepth 100000 in
theorem cal_L_outcomeOf : xx_Cal yL_outcomeOf mL_outcomeOf 3 := ⟨xx_good4 (i := 210) rfl rfl, xx_good1 (i := 0) (by decide +kernel) (by decide +kernel), by decide +kernel, by decide +kernel, by decide +kernel⟩
theorem sm_L_outcomeOf : Cond.static yL_outcomeOf ∈ xx_T := xx_good4 (i := 209) (by decide +kernel) (by decide +kernel)
abbrev mX6_outcomeOf : xx_M := (RX6, "outcomeOf", cX6_outcomeOf, 3, some .int, [])
set_option maxRecDepth 100000 in
theorem cal_X6_outcomeOf : xx_Cal yX6_outcomeOf mX6_outcomeOf 1 := ⟨xx_good4 (i := 214) rfl rfl, xx_good1 (i := 1) (by decide +kernel) (by decide +kernel), by decide +kernel, by decide +kernel, by decide +kernel⟩
theorem im_X6_outcomeOf : Cond.instanceMethod yX6_outcomeOf ∈ xx_T := xx_good4 (i := 212) (by decide +kernel) (by decide +kernel)
theorem se_X6_outcomeOf : Cond.selects yX6_outcomeOf.cls yX6_outcomeOf yX6_outcomeOf ∈ xx_T := xx_good4 (i := 213) (by decide +kernel) (by decide +kernel)
abbrev mL_ruledOutcome : xx_M := (RL, "ruledOutcome", cL_ruledOutcome, 4, some .int, [(0, 9, 12, 24)])
set_option maxRecDepth 100000 in
theorem cal_L_ruledOutcome : xx_Cal yL_ruledOutcome mL_ruledOutcome 3 := ⟨xx_good4 (i := 218) rfl rfl, xx_good1 (i := 0) (by decide +kernel) (by decide +kernel), by decide +kernel, by decide +kernel, by decide +kernel⟩
theorem sm_L_ruledOutcome : Cond.static yL_ruledOutcome ∈ xx_T := xx_good4 (i := 217) (by decide +kernel) (by decide +kernel)
abbrev mX6_ruledOutcome : xx_M := (RX6, "ruledOutcome", cX6_ruledOutcome, 2, some .int, [])
set_option maxRecDepth 100000 in
theorem cal_X6_ruledOutcome : xx_Cal yX6_ruledOutcome mX6_ruledOutcome 1 := ⟨xx_good4 (i := 222) rfl rfl, xx_good1 (i := 1) (by decide +kernel) (by decide +kernel), by decide +kernel, by decide +kernel, by decide +kernel⟩
theorem im_X6_ruledOutcome : Cond.instanceMethod yX6_ruledOutcome ∈ xx_T := xx_good4 (i := 220) (by decide +kernel) (by decide +kernel)
theorem se_X6_ruledOutcome : Cond.selects yX6_ruledOutcome.cls yX6_ruledOutcome yX6_ruledOutcome ∈ xx_T := xx_good4 (i := 221) (by decide +kernel) (by decide +kernel)
abbrev mX3_outcomeFor : xx_M := (RX3, "outcomeFor", cX3_outcomeFor, 5, some .int, [])
set_option maxRecDepth 100000 in
theorem cal_X3_outcomeFor : xx_Cal yX3_outcomeFor mX3_outcomeFor 2 := ⟨xx_good4 (i := 226) rfl rfl, xx_good1 (i := 4) (by decide +kernel) (by decide +kernel), by decide +kernel, by decide +kernel, by decide +kernel⟩
theorem im_X3_outcomeFor : Cond.instanceMethod yX3_outcomeFor ∈ xx_T := xx_good4 (i := 224) (by decide +kernel) (by decide +kernel)
theorem se_X3_outcomeFor : Cond.selects yX3_outcomeFor.cls yX3_outcomeFor yX3_outcomeFor ∈ xx_T := xx_good4 (i := 225) (by decide +kernel) (by decide +kernel)
abbrev mX3_holds : xx_M := (RX3, "holds", cX3_holds, 6, some .boolean, [])
set_option maxRecDepth 100000 in
theorem cal_X3_holds : xx_Cal yX3_holds mX3_holds 4 := ⟨xx_good4 (i := 230) rfl rfl, xx_good1 (i := 4) (by decide +kernel) (by decide +kernel), by decide +kernel, by decide +kernel, by decide +kernel⟩
theorem im_X3_holds : Cond.instanceMethod yX3_holds ∈ xx_T := xx_good4 (i := 229) (by decide +kernel) (by decide +kernel)
theorem se_X3_holds : Cond.selects yX3_holds.cls yX3_holds yX3_holds ∈ xx_T := xx_good (i := 38) (by decide +kernel) (by decide +kernel)
abbrev mX3_doStep : xx_M := (RX3, "doStep", cX3_doStep, 7, none, [])
set_option maxRecDepth 100000 in
theorem cal_X3_doStep : xx_Cal yX3_doStep mX3_doStep 4 := ⟨xx_good4 (i := 234) rfl rfl, xx_good1 (i := 4) (by decide +kernel) (by decide +kernel), by decide +kernel, by decide +kernel, by decide +kernel⟩
theorem im_X3_doStep : Cond.instanceMethod yX3_doStep ∈ xx_T := xx_good4 (i := 233) (by decide +kernel) (by decide +kernel)
theorem se_X3_doStep : Cond.selects yX3_doStep.cls yX3_doStep yX3_doStep ∈ xx_T := xx_good (i := 39) (by decide +kernel) (by decide +kernel)
abbrev mX3_push : xx_M := (RX3, "push", cX3_push, 2, none, [])
set_option maxRecDepth 100000 in
theorem cal_X3_push : xx_Cal yX3_push mX3_push 1 := ⟨xx_good4 (i := 238) rfl rfl, xx_good1 (i := 4) (by decide +kernel) (by decide +kernel), by decide +kernel, by decide +kernel, by decide +kernel⟩
theorem im_X3_push : Cond.instanceMethod yX3_push ∈ xx_T := xx_good4 (i := 237) (by decide +kernel) (by decide +kernel)
theorem se_X3_push : Cond.selects yX3_push.cls yX3_push yX3_push ∈ xx_T := xx_good (i := 40) (by decide +kernel) (by decide +kernel)
abbrev mX3_pop : xx_M := (RX3, "pop", cX3_pop, 1, some .int, [])
set_option maxRecDepth 100000 in
theorem cal_X3_pop : xx_Cal yX3_pop mX3_pop 0 := ⟨xx_good5 (i := 6) rfl rfl, xx_good1 (i := 4) (by decide +kernel) (by decide +kernel), by decide +kernel, by decide +kernel, by decide +kernel⟩
theorem im_X3_pop : Cond.instanceMethod yX3_pop ∈ xx_T := xx_good5 (i := 5) (by decide +kernel) (by decide +kernel)
theorem se_X3_pop : Cond.selects yX3_pop.cls yX3_pop yX3_pop ∈ xx_T := xx_good (i := 41) (by decide +kernel) (by decide +kernel)
abbrev mX3_join : xx_M := (RX3, "join", cX3_join, 3, some .int, [])
set_option maxRecDepth 100000 in
theorem cal_X3_join : xx_Cal yX3_join mX3_join 3 := ⟨xx_good5 (i := 9) rfl rfl, xx_good1 (i := 4) (by decide +kernel) (by decide +kernel), by decide +kernel, by decide +kernel, by decide +kernel⟩
theorem sm_X3_join : Cond.static yX3_join ∈ xx_T := xx_good5 (i := 8) (by decide +kernel) (by decide +kernel)
abbrev mJ9_max_7cf53 : xx_M := (RJ9, "max", cJ9_max_7cf53, 2, some .int, [])
set_option maxRecDepth 100000 in
theorem cal_J9_max_7cf53 : xx_Cal yJ9_max_7cf53 mJ9_max_7cf53 2 := ⟨xx_good5 (i := 13) rfl rfl, xx_good1 (i := 15) (by decide +kernel) (by decide +kernel), by decide +kernel, by decide +kernel, by decide +kernel⟩
theorem sm_J9_max_7cf53 : Cond.static yJ9_max_7cf53 ∈ xx_T := xx_good5 (i := 12) (by decide +kernel) (by decide +kernel)
abbrev mL_opponentOf : xx_M := (RL, "opponentOf", cL_opponentOf, 4, some .int, [(0, 9, 12, 24), (0, 9, 15, 13)])
set_option maxRecDepth 100000 in
theorem cal_L_opponentOf : xx_Cal yL_opponentOf mL_opponentOf 3 := ⟨xx_good5 (i := 16) rfl rfl, xx_good1 (i := 0) (by decide +kernel) (by decide +kernel), by decide +kernel, by decide +kernel, by decide +kernel⟩
theorem sm_L_opponentOf : Cond.static yL_opponentOf ∈ xx_T := xx_good5 (i := 15) (by decide +kernel) (by decide +kernel)
abbrev mX6_opponentOf : xx_M := (RX6, "opponentOf", cX6_opponentOf, 3, some .int, [])
set_option maxRecDepth 100000 in
theorem cal_X6_opponentOf : xx_Cal yX6_opponentOf mX6_opponentOf 1 := ⟨xx_good5 (i := 20) rfl rfl, xx_good1 (i := 1) (by decide +kernel) (by decide +kernel), by decide +kernel, by decide +kernel, by decide +kernel⟩
theorem im_X6_opponentOf : Cond.instanceMethod yX6_opponentOf ∈ xx_T := xx_good5 (i := 18) (by decide +kernel) (by decide +kernel)
theorem se_X6_opponentOf : Cond.selects yX6_opponentOf.cls yX6_opponentOf yX6_opponentOf ∈ xx_T := xx_good5 (i := 19) (by decide +kernel) (by decide +kernel)
abbrev mX0_rivalOf : xx_M := (RX0, "rivalOf", cX0_rivalOf, 3, some .int, [])
set_option maxRecDepth 100000 in
theorem cal_X0_rivalOf : xx_Cal yX0_rivalOf mX0_rivalOf 1 := ⟨xx_good5 (i := 24) rfl rfl, xx_good1 (i := 5) (by decide +kernel) (by decide +kernel), by decide +kernel, by decide +kernel, by decide +kernel⟩
theorem im_X0_rivalOf : Cond.instanceMethod yX0_rivalOf ∈ xx_T := xx_good5 (i := 22) (by decide +kernel) (by decide +kernel)
theorem se_X0_rivalOf : Cond.selects yX0_rivalOf.cls yX0_rivalOf yX0_rivalOf ∈ xx_T := xx_good5 (i := 23) (by decide +kernel) (by decide +kernel)
abbrev mL_restingOne : xx_M := (RL, "restingOne", cL_restingOne, 3, some .int, [(0, 8, 11, 13)])
set_option maxRecDepth 100000 in
theorem cal_L_restingOne : xx_Cal yL_restingOne mL_restingOne 2 := ⟨xx_good5 (i := 30) rfl rfl, xx_good1 (i := 0) (by decide +kernel) (by decide +kernel), by decide +kernel, by decide +kernel, by decide +kernel⟩
theorem sm_L_restingOne : Cond.static yL_restingOne ∈ xx_T := xx_good5 (i := 29) (by decide +kernel) (by decide +kernel)
abbrev mX6_restingOne : xx_M := (RX6, "restingOne", cX6_restingOne, 1, some .int, [])
set_option maxRecDepth 100000 in
theorem cal_X6_restingOne : xx_Cal yX6_restingOne mX6_restingOne 0 := ⟨xx_good5 (i := 34) rfl rfl, xx_good1 (i := 1) (by decide +kernel) (by decide +kernel), by decide +kernel, by decide +kernel, by decide +kernel⟩
theorem im_X6_restingOne : Cond.instanceMethod yX6_restingOne ∈ xx_T := xx_good5 (i := 32) (by decide +kernel) (by decide +kernel)
theorem se_X6_restingOne : Cond.selects yX6_restingOne.cls yX6_restingOne yX6_restingOne ∈ xx_T := xx_good5 (i := 33) (by decide +kernel) (by decide +kernel)
abbrev mL_pairRound : xx_M := (RL, "pairRound", cL_pairRound, 3, some .int, [(0, 8, 11, 13)])
set_option maxRecDepth 100000 in
theorem cal_L_pairRound : xx_Cal yL_pairRound mL_pairRound 2 := ⟨xx_good5 (i := 38) rfl rfl, xx_good1 (i := 0) (by decide +kernel) (by decide +kernel), by decide +kernel, by decide +kernel, by decide +kernel⟩
theorem sm_L_pairRound : Cond.static yL_pairRound ∈ xx_T := xx_good5 (i := 37) (by decide +kernel) (by decide +kernel)
abbrev mX6_pairRound : xx_M := (RX6, "pairRound", cX6_pairRound, 1, some .int, [])
set_option maxRecDepth 100000 in
theorem cal_X6_pairRound : xx_Cal yX6_pairRound mX6_pairRound 0 := ⟨xx_good5 (i := 42) rfl rfl, xx_good1 (i := 1) (by decide +kernel) (by decide +kernel), by decide +kernel, by decide +kernel, by decide +kernel⟩
theorem im_X6_pairRound : Cond.instanceMethod yX6_pairRound ∈ xx_T := xx_good5 (i := 40) (by decide +kernel) (by decide +kernel)
theorem se_X6_pairRound : Cond.selects yX6_pairRound.cls yX6_pairRound yX6_pairRound ∈ xx_T := xx_good5 (i := 41) (by decide +kernel) (by decide +kernel)
abbrev mX6_needPairable : xx_M := (RX6, "needPairable", cX6_needPairable, 1, none, [])
set_option maxRecDepth 100000 in
theorem cal_X6_needPairable : xx_Cal yX6_needPairable mX6_needPairable 0 := ⟨xx_good5 (i := 46) rfl rfl, xx_good1 (i := 1) (by decide +kernel) (by decide +kernel), by decide +kernel, by decide +kernel, by decide +kernel⟩
theorem im_X6_needPairable : Cond.instanceMethod yX6_needPairable ∈ xx_T := xx_good5 (i := 45) (by decide +kernel) (by decide +kernel)
theorem se_X6_needPairable : Cond.selects yX6_needPairable.cls yX6_needPairable yX6_needPairable ∈ xx_T := xx_good (i := 42) (by decide +kernel) (by decide +kernel)
abbrev mX0_canPair : xx_M := (RX0, "canPair", cX0_canPair, 1, some .boolean, [])
set_option maxRecDepth 100000 in
theorem cal_X0_canPair : xx_Cal yX0_canPair mX0_canPair 0 := ⟨xx_good5 (i := 50) rfl rfl, xx_good1 (i := 5) (by decide +kernel) (by decide +kernel), by decide +kernel, by decide +kernel, by decide +kernel⟩
theorem im_X0_canPair : Cond.instanceMethod yX0_canPair ∈ xx_T := xx_good5 (i := 48) (by decide +kernel) (by decide +kernel)
theorem se_X0_canPair : Cond.selects yX0_canPair.cls yX0_canPair yX0_canPair ∈ xx_T := xx_good5 (i := 49) (by decide +kernel) (by decide +kernel)
abbrev mX1_find : xx_M := (RX1, "find", cX1_find, 7, none, [])
set_option maxRecDepth 100000 in
theorem cal_X1_find : xx_Cal yX1_find mX1_find 1 := ⟨xx_good5 (i := 57) rfl rfl, xx_good1 (i := 6) (by decide +kernel) (by decide +kernel), by decide +kernel, by decide +kernel, by decide +kernel⟩
theorem im_X1_find : Cond.instanceMethod yX1_find ∈ xx_T := xx_good5 (i := 55) (by decide +kernel) (by decide +kernel)
theorem se_X1_find : Cond.selects yX1_find.cls yX1_find yX1_find ∈ xx_T := xx_good5 (i := 56) (by decide +kernel) (by decide +kernel)
abbrev mX1_lineUp : xx_M := (RX1, "lineUp", cX1_lineUp, 4, none, [])
set_option maxRecDepth 100000 in
theorem cal_X1_lineUp : xx_Cal yX1_lineUp mX1_lineUp 1 := ⟨xx_good5 (i := 61) rfl rfl, xx_good1 (i := 6) (by decide +kernel) (by decide +kernel), by decide +kernel, by decide +kernel, by decide +kernel⟩
theorem im_X1_lineUp : Cond.instanceMethod yX1_lineUp ∈ xx_T := xx_good5 (i := 60) (by decide +kernel) (by decide +kernel)
theorem se_X1_lineUp : Cond.selects yX1_lineUp.cls yX1_lineUp yX1_lineUp ∈ xx_T := xx_good (i := 43) (by decide +kernel) (by decide +kernel)
abbrev mX1_takeOutResting : xx_M := (RX1, "takeOutResting", cX1_takeOutResting, 4, none, [])
set_option maxRecDepth 100000 in
theorem cal_X1_takeOutResting : xx_Cal yX1_takeOutResting mX1_takeOutResting 1 := ⟨xx_good5 (i := 68) rfl rfl, xx_good1 (i := 6) (by decide +kernel) (by decide +kernel), by decide +kernel, by decide +kernel, by decide +kernel⟩
theorem im_X1_takeOutResting : Cond.instanceMethod yX1_takeOutResting ∈ xx_T := xx_good5 (i := 67) (by decide +kernel) (by decide +kernel)
theorem se_X1_takeOutResting : Cond.selects yX1_takeOutResting.cls yX1_takeOutResting yX1_takeOutResting ∈ xx_T := xx_good (i := 44) (by decide +kernel) (by decide +kernel)
abbrev mX1_noteMeetings : xx_M := (RX1, "noteMeetings", cX1_noteMeetings, 4, none, [])
set_option maxRecDepth 100000 in
theorem cal_X1_noteMeetings : xx_Cal yX1_noteMeetings mX1_noteMeetings 1 := ⟨xx_good5 (i := 72) rfl rfl, xx_good1 (i := 6) (by decide +kernel) (by decide +kernel), by decide +kernel, by decide +kernel, by decide +kernel⟩
theorem im_X1_noteMeetings : Cond.instanceMethod yX1_noteMeetings ∈ xx_T := xx_good5 (i := 71) (by decide +kernel) (by decide +kernel)
theorem se_X1_noteMeetings : Cond.selects yX1_noteMeetings.cls yX1_noteMeetings yX1_noteMeetings ∈ xx_T := xx_good (i := 45) (by decide +kernel) (by decide +kernel)
abbrev mX1_fewestRematches : xx_M := (RX1, "fewestRematches", cX1_fewestRematches, 3, some .int, [])
set_option maxRecDepth 100000 in
theorem cal_X1_fewestRematches : xx_Cal yX1_fewestRematches mX1_fewestRematches 2 := ⟨xx_good5 (i := 78) rfl rfl, xx_good1 (i := 6) (by decide +kernel) (by decide +kernel), by decide +kernel, by decide +kernel, by decide +kernel⟩
theorem im_X1_fewestRematches : Cond.instanceMethod yX1_fewestRematches ∈ xx_T := xx_good5 (i := 77) (by decide +kernel) (by decide +kernel)
theorem se_X1_fewestRematches : Cond.selects yX1_fewestRematches.cls yX1_fewestRematches yX1_fewestRematches ∈ xx_T := xx_good (i := 46) (by decide +kernel) (by decide +kernel)
abbrev mX1_reckonFewest : xx_M := (RX1, "reckonFewest", cX1_reckonFewest, 7, some .int, [])
set_option maxRecDepth 100000 in
theorem cal_X1_reckonFewest : xx_Cal yX1_reckonFewest mX1_reckonFewest 2 := ⟨xx_good5 (i := 82) rfl rfl, xx_good1 (i := 6) (by decide +kernel) (by decide +kernel), by decide +kernel, by decide +kernel, by decide +kernel⟩
theorem im_X1_reckonFewest : Cond.instanceMethod yX1_reckonFewest ∈ xx_T := xx_good5 (i := 81) (by decide +kernel) (by decide +kernel)
theorem se_X1_reckonFewest : Cond.selects yX1_reckonFewest.cls yX1_reckonFewest yX1_reckonFewest ∈ xx_T := xx_good (i := 47) (by decide +kernel) (by decide +kernel)
abbrev mX1_firstOf : xx_M := (RX1, "firstOf", cX1_firstOf, 1, some .int, [])
set_option maxRecDepth 100000 in
theorem cal_X1_firstOf : xx_Cal yX1_firstOf mX1_firstOf 1 := ⟨xx_good5 (i := 85) rfl rfl, xx_good1 (i := 6) (by decide +kernel) (by decide +kernel), by decide +kernel, by decide +kernel, by decide +kernel⟩
theorem sm_X1_firstOf : Cond.static yX1_firstOf ∈ xx_T := xx_good5 (i := 84) (by decide +kernel) (by decide +kernel)
abbrev mJ6_numberOfTrailingZeros_0f7a4 : xx_M := (RJ6, "numberOfTrailingZeros", cJ6_numberOfTrailingZeros_0f7a4, 2, some .int, [])
set_option maxRecDepth 100000 in
theorem cal_J6_numberOfTrailingZeros_0f7a4 : xx_Cal yJ6_numberOfTrailingZeros_0f7a4 mJ6_numberOfTrailingZeros_0f7a4 1 := ⟨xx_good5 (i := 88) rfl rfl, xx_good1 (i := 25) (by decide +kernel) (by decide +kernel), by decide +kernel, by decide +kernel, by decide +kernel⟩
theorem sm_J6_numberOfTrailingZeros_0f7a4 : Cond.static yJ6_numberOfTrailingZeros_0f7a4 ∈ xx_T := xx_good5 (i := 87) (by decide +kernel) (by decide +kernel)
abbrev mX1_has : xx_M := (RX1, "has", cX1_has, 2, some .boolean, [])
set_option maxRecDepth 100000 in
theorem cal_X1_has : xx_Cal yX1_has mX1_has 2 := ⟨xx_good5 (i := 93) rfl rfl, xx_good1 (i := 6) (by decide +kernel) (by decide +kernel), by decide +kernel, by decide +kernel, by decide +kernel⟩
theorem sm_X1_has : Cond.static yX1_has ∈ xx_T := xx_good5 (i := 92) (by decide +kernel) (by decide +kernel)
abbrev mX1_rematchesWith : xx_M := (RX1, "rematchesWith", cX1_rematchesWith, 6, some .int, [])
set_option maxRecDepth 100000 in
theorem cal_X1_rematchesWith : xx_Cal yX1_rematchesWith mX1_rematchesWith 4 := ⟨xx_good5 (i := 97) rfl rfl, xx_good1 (i := 6) (by decide +kernel) (by decide +kernel), by decide +kernel, by decide +kernel, by decide +kernel⟩
theorem im_X1_rematchesWith : Cond.instanceMethod yX1_rematchesWith ∈ xx_T := xx_good5 (i := 96) (by decide +kernel) (by decide +kernel)
theorem se_X1_rematchesWith : Cond.selects yX1_rematchesWith.cls yX1_rematchesWith yX1_rematchesWith ∈ xx_T := xx_good (i := 48) (by decide +kernel) (by decide +kernel)
abbrev mX1_secondFor : xx_M := (RX1, "secondFor", cX1_secondFor, 6, some .int, [])
set_option maxRecDepth 100000 in
theorem cal_X1_secondFor : xx_Cal yX1_secondFor mX1_secondFor 3 := ⟨xx_good5 (i := 101) rfl rfl, xx_good1 (i := 6) (by decide +kernel) (by decide +kernel), by decide +kernel, by decide +kernel, by decide +kernel⟩
theorem im_X1_secondFor : Cond.instanceMethod yX1_secondFor ∈ xx_T := xx_good5 (i := 100) (by decide +kernel) (by decide +kernel)
theorem se_X1_secondFor : Cond.selects yX1_secondFor.cls yX1_secondFor yX1_secondFor ∈ xx_T := xx_good (i := 49) (by decide +kernel) (by decide +kernel)
abbrev mX0_startRound : xx_M := (RX0, "startRound", cX0_startRound, 3, none, [])
set_option maxRecDepth 100000 in
theorem cal_X0_startRound : xx_Cal yX0_startRound mX0_startRound 1 := ⟨xx_good5 (i := 105) rfl rfl, xx_good1 (i := 5) (by decide +kernel) (by decide +kernel), by decide +kernel, by decide +kernel, by decide +kernel⟩
theorem im_X0_startRound : Cond.instanceMethod yX0_startRound ∈ xx_T := xx_good5 (i := 103) (by decide +kernel) (by decide +kernel)
theorem se_X0_startRound : Cond.selects yX0_startRound.cls yX0_startRound yX0_startRound ∈ xx_T := xx_good5 (i := 104) (by decide +kernel) (by decide +kernel)
abbrev mX1_aheadIn : xx_M := (RX1, "aheadIn", cX1_aheadIn, 2, some .int, [])
set_option maxRecDepth 100000 in
theorem cal_X1_aheadIn : xx_Cal yX1_aheadIn mX1_aheadIn 1 := ⟨xx_good5 (i := 109) rfl rfl, xx_good1 (i := 6) (by decide +kernel) (by decide +kernel), by decide +kernel, by decide +kernel, by decide +kernel⟩
theorem im_X1_aheadIn : Cond.instanceMethod yX1_aheadIn ∈ xx_T := xx_good5 (i := 107) (by decide +kernel) (by decide +kernel)
theorem se_X1_aheadIn : Cond.selects yX1_aheadIn.cls yX1_aheadIn yX1_aheadIn ∈ xx_T := xx_good5 (i := 108) (by decide +kernel) (by decide +kernel)
abbrev mX1_behindIn : xx_M := (RX1, "behindIn", cX1_behindIn, 2, some .int, [])
set_option maxRecDepth 100000 in
theorem cal_X1_behindIn : xx_Cal yX1_behindIn mX1_behindIn 1 := ⟨xx_good5 (i := 113) rfl rfl, xx_good1 (i := 6) (by decide +kernel) (by decide +kernel), by decide +kernel, by decide +kernel, by decide +kernel⟩
theorem im_X1_behindIn : Cond.instanceMethod yX1_behindIn ∈ xx_T := xx_good5 (i := 111) (by decide +kernel) (by decide +kernel)
theorem se_X1_behindIn : Cond.selects yX1_behindIn.cls yX1_behindIn yX1_behindIn ∈ xx_T := xx_good5 (i := 112) (by decide +kernel) (by decide +kernel)
abbrev mX0_startBout : xx_M := (RX0, "startBout", cX0_startBout, 5, none, [])
set_option maxRecDepth 100000 in
theorem cal_X0_startBout : xx_Cal yX0_startBout mX0_startBout 3 := ⟨xx_good5 (i := 117) rfl rfl, xx_good1 (i := 5) (by decide +kernel) (by decide +kernel), by decide +kernel, by decide +kernel, by decide +kernel⟩
theorem im_X0_startBout : Cond.instanceMethod yX0_startBout ∈ xx_T := xx_good5 (i := 116) (by decide +kernel) (by decide +kernel)
theorem se_X0_startBout : Cond.selects yX0_startBout.cls yX0_startBout yX0_startBout ∈ xx_T := xx_good (i := 50) (by decide +kernel) (by decide +kernel)
abbrev mX0_takesRedAhead : xx_M := (RX0, "takesRedAhead", cX0_takesRedAhead, 3, some .boolean, [])
set_option maxRecDepth 100000 in
theorem cal_X0_takesRedAhead : xx_Cal yX0_takesRedAhead mX0_takesRedAhead 2 := ⟨xx_good5 (i := 121) rfl rfl, xx_good1 (i := 5) (by decide +kernel) (by decide +kernel), by decide +kernel, by decide +kernel, by decide +kernel⟩
theorem im_X0_takesRedAhead : Cond.instanceMethod yX0_takesRedAhead ∈ xx_T := xx_good5 (i := 120) (by decide +kernel) (by decide +kernel)
theorem se_X0_takesRedAhead : Cond.selects yX0_takesRedAhead.cls yX0_takesRedAhead yX0_takesRedAhead ∈ xx_T := xx_good (i := 51) (by decide +kernel) (by decide +kernel)
abbrev mX0_addMeeting : xx_M := (RX0, "addMeeting", cX0_addMeeting, 3, none, [])
set_option maxRecDepth 100000 in
theorem cal_X0_addMeeting : xx_Cal yX0_addMeeting mX0_addMeeting 2 := ⟨xx_good5 (i := 125) rfl rfl, xx_good1 (i := 5) (by decide +kernel) (by decide +kernel), by decide +kernel, by decide +kernel, by decide +kernel⟩
theorem im_X0_addMeeting : Cond.instanceMethod yX0_addMeeting ∈ xx_T := xx_good5 (i := 124) (by decide +kernel) (by decide +kernel)
theorem se_X0_addMeeting : Cond.selects yX0_addMeeting.cls yX0_addMeeting yX0_addMeeting ∈ xx_T := xx_good (i := 52) (by decide +kernel) (by decide +kernel)
abbrev mX0_add : xx_M := (RX0, "add", cX0_add, 4, none, [])
set_option maxRecDepth 100000 in
theorem cal_X0_add : xx_Cal yX0_add mX0_add 3 := ⟨xx_good5 (i := 129) rfl rfl, xx_good1 (i := 5) (by decide +kernel) (by decide +kernel), by decide +kernel, by decide +kernel, by decide +kernel⟩
theorem im_X0_add : Cond.instanceMethod yX0_add ∈ xx_T := xx_good5 (i := 128) (by decide +kernel) (by decide +kernel)
theorem se_X0_add : Cond.selects yX0_add.cls yX0_add yX0_add ∈ xx_T := xx_good (i := 53) (by decide +kernel) (by decide +kernel)
abbrev mL_tell : xx_M := (RL, "tell", cL_tell, 5, some .int, [(0, 10, 13, 24), (0, 10, 17, 19), (0, 10, 21, 13)])
set_option maxRecDepth 100000 in
theorem cal_L_tell : xx_Cal yL_tell mL_tell 4 := ⟨xx_good5 (i := 132) rfl rfl, xx_good1 (i := 0) (by decide +kernel) (by decide +kernel), by decide +kernel, by decide +kernel, by decide +kernel⟩
theorem sm_L_tell : Cond.static yL_tell ∈ xx_T := xx_good5 (i := 131) (by decide +kernel) (by decide +kernel)
abbrev mX6_tell : xx_M := (RX6, "tell", cX6_tell, 3, some .int, [])
set_option maxRecDepth 100000 in
theorem cal_X6_tell : xx_Cal yX6_tell mX6_tell 2 := ⟨xx_good5 (i := 136) rfl rfl, xx_good1 (i := 1) (by decide +kernel) (by decide +kernel), by decide +kernel, by decide +kernel, by decide +kernel⟩
theorem im_X6_tell : Cond.instanceMethod yX6_tell ∈ xx_T := xx_good5 (i := 134) (by decide +kernel) (by decide +kernel)
theorem se_X6_tell : Cond.selects yX6_tell.cls yX6_tell yX6_tell ∈ xx_T := xx_good5 (i := 135) (by decide +kernel) (by decide +kernel)
abbrev mX0_tellOutcome : xx_M := (RX0, "tellOutcome", cX0_tellOutcome, 4, none, [])
set_option maxRecDepth 100000 in
theorem cal_X0_tellOutcome : xx_Cal yX0_tellOutcome mX0_tellOutcome 2 := ⟨xx_good5 (i := 142) rfl rfl, xx_good1 (i := 5) (by decide +kernel) (by decide +kernel), by decide +kernel, by decide +kernel, by decide +kernel⟩
theorem im_X0_tellOutcome : Cond.instanceMethod yX0_tellOutcome ∈ xx_T := xx_good5 (i := 140) (by decide +kernel) (by decide +kernel)
theorem se_X0_tellOutcome : Cond.selects yX0_tellOutcome.cls yX0_tellOutcome yX0_tellOutcome ∈ xx_T := xx_good5 (i := 141) (by decide +kernel) (by decide +kernel)
abbrev mX0_tellDraw : xx_M := (RX0, "tellDraw", cX0_tellDraw, 2, none, [])
set_option maxRecDepth 100000 in
theorem cal_X0_tellDraw : xx_Cal yX0_tellDraw mX0_tellDraw 1 := ⟨xx_good5 (i := 146) rfl rfl, xx_good1 (i := 5) (by decide +kernel) (by decide +kernel), by decide +kernel, by decide +kernel, by decide +kernel⟩
theorem im_X0_tellDraw : Cond.instanceMethod yX0_tellDraw ∈ xx_T := xx_good5 (i := 145) (by decide +kernel) (by decide +kernel)
theorem se_X0_tellDraw : Cond.selects yX0_tellDraw.cls yX0_tellDraw yX0_tellDraw ∈ xx_T := xx_good (i := 54) (by decide +kernel) (by decide +kernel)
abbrev mL_tellByRules : xx_M := (RL, "tellByRules", cL_tellByRules, 3, some .int, [(0, 8, 11, 13)])
set_option maxRecDepth 100000 in
theorem cal_L_tellByRules : xx_Cal yL_tellByRules mL_tellByRules 2 := ⟨xx_good5 (i := 149) rfl rfl, xx_good1 (i := 0) (by decide +kernel) (by decide +kernel), by decide +kernel, by decide +kernel, by decide +kernel⟩
theorem sm_L_tellByRules : Cond.static yL_tellByRules ∈ xx_T := xx_good5 (i := 148) (by decide +kernel) (by decide +kernel)
abbrev mX6_tellByRules : xx_M := (RX6, "tellByRules", cX6_tellByRules, 1, some .int, [])
set_option maxRecDepth 100000 in
theorem cal_X6_tellByRules : xx_Cal yX6_tellByRules mX6_tellByRules 0 := ⟨xx_good5 (i := 153) rfl rfl, xx_good1 (i := 1) (by decide +kernel) (by decide +kernel), by decide +kernel, by decide +kernel, by decide +kernel⟩
theorem im_X6_tellByRules : Cond.instanceMethod yX6_tellByRules ∈ xx_T := xx_good5 (i := 151) (by decide +kernel) (by decide +kernel)
theorem se_X6_tellByRules : Cond.selects yX6_tellByRules.cls yX6_tellByRules yX6_tellByRules ∈ xx_T := xx_good5 (i := 152) (by decide +kernel) (by decide +kernel)
abbrev mX6_tellOpenBouts : xx_M := (RX6, "tellOpenBouts", cX6_tellOpenBouts, 5, some .int, [])
set_option maxRecDepth 100000 in
theorem cal_X6_tellOpenBouts : xx_Cal yX6_tellOpenBouts mX6_tellOpenBouts 1 := ⟨xx_good5 (i := 158) rfl rfl, xx_good1 (i := 1) (by decide +kernel) (by decide +kernel), by decide +kernel, by decide +kernel, by decide +kernel⟩
theorem im_X6_tellOpenBouts : Cond.instanceMethod yX6_tellOpenBouts ∈ xx_T := xx_good5 (i := 157) (by decide +kernel) (by decide +kernel)
theorem se_X6_tellOpenBouts : Cond.selects yX6_tellOpenBouts.cls yX6_tellOpenBouts yX6_tellOpenBouts ∈ xx_T := xx_good (i := 55) (by decide +kernel) (by decide +kernel)
abbrev mL_turnIn : xx_M := (RL, "turnIn", cL_turnIn, 4, some .int, [(0, 16, 19, 24)])
set_option maxRecDepth 100000 in
theorem cal_L_turnIn : xx_Cal yL_turnIn mL_turnIn 3 := ⟨xx_good5 (i := 161) rfl rfl, xx_good1 (i := 0) (by decide +kernel) (by decide +kernel), by decide +kernel, by decide +kernel, by decide +kernel⟩
theorem sm_L_turnIn : Cond.static yL_turnIn ∈ xx_T := xx_good5 (i := 160) (by decide +kernel) (by decide +kernel)
abbrev mX6_turnIn : xx_M := (RX6, "turnIn", cX6_turnIn, 2, some .boolean, [])
set_option maxRecDepth 100000 in
theorem cal_X6_turnIn : xx_Cal yX6_turnIn mX6_turnIn 1 := ⟨xx_good5 (i := 165) rfl rfl, xx_good1 (i := 1) (by decide +kernel) (by decide +kernel), by decide +kernel, by decide +kernel, by decide +kernel⟩
theorem im_X6_turnIn : Cond.instanceMethod yX6_turnIn ∈ xx_T := xx_good5 (i := 163) (by decide +kernel) (by decide +kernel)
theorem se_X6_turnIn : Cond.selects yX6_turnIn.cls yX6_turnIn yX6_turnIn ∈ xx_T := xx_good5 (i := 164) (by decide +kernel) (by decide +kernel)
abbrev mL_nextOpponentOf : xx_M := (RL, "nextOpponentOf", cL_nextOpponentOf, 4, some .int, [(0, 9, 12, 24), (0, 9, 15, 13)])
set_option maxRecDepth 100000 in
theorem cal_L_nextOpponentOf : xx_Cal yL_nextOpponentOf mL_nextOpponentOf 3 := ⟨xx_good5 (i := 169) rfl rfl, xx_good1 (i := 0) (by decide +kernel) (by decide +kernel), by decide +kernel, by decide +kernel, by decide +kernel⟩
theorem sm_L_nextOpponentOf : Cond.static yL_nextOpponentOf ∈ xx_T := xx_good5 (i := 168) (by decide +kernel) (by decide +kernel)
abbrev mX6_nextOpponentOf : xx_M := (RX6, "nextOpponentOf", cX6_nextOpponentOf, 3, some .int, [])
set_option maxRecDepth 100000 in
theorem cal_X6_nextOpponentOf : xx_Cal yX6_nextOpponentOf mX6_nextOpponentOf 1 := ⟨xx_good5 (i := 173) rfl rfl, xx_good1 (i := 1) (by decide +kernel) (by decide +kernel), by decide +kernel, by decide +kernel, by decide +kernel⟩
theorem im_X6_nextOpponentOf : Cond.instanceMethod yX6_nextOpponentOf ∈ xx_T := xx_good5 (i := 171) (by decide +kernel) (by decide +kernel)
theorem se_X6_nextOpponentOf : Cond.selects yX6_nextOpponentOf.cls yX6_nextOpponentOf yX6_nextOpponentOf ∈ xx_T := xx_good5 (i := 172) (by decide +kernel) (by decide +kernel)
abbrev mX1_rivalOf : xx_M := (RX1, "rivalOf", cX1_rivalOf, 3, some .int, [])
set_option maxRecDepth 100000 in
theorem cal_X1_rivalOf : xx_Cal yX1_rivalOf mX1_rivalOf 1 := ⟨xx_good5 (i := 177) rfl rfl, xx_good1 (i := 6) (by decide +kernel) (by decide +kernel), by decide +kernel, by decide +kernel, by decide +kernel⟩
theorem im_X1_rivalOf : Cond.instanceMethod yX1_rivalOf ∈ xx_T := xx_good5 (i := 175) (by decide +kernel) (by decide +kernel)
theorem se_X1_rivalOf : Cond.selects yX1_rivalOf.cls yX1_rivalOf yX1_rivalOf ∈ xx_T := xx_good5 (i := 176) (by decide +kernel) (by decide +kernel)
abbrev mL_nextRematches : xx_M := (RL, "nextRematches", cL_nextRematches, 3, some .int, [(0, 8, 11, 13)])
set_option maxRecDepth 100000 in
theorem cal_L_nextRematches : xx_Cal yL_nextRematches mL_nextRematches 2 := ⟨xx_good5 (i := 181) rfl rfl, xx_good1 (i := 0) (by decide +kernel) (by decide +kernel), by decide +kernel, by decide +kernel, by decide +kernel⟩
theorem sm_L_nextRematches : Cond.static yL_nextRematches ∈ xx_T := xx_good5 (i := 180) (by decide +kernel) (by decide +kernel)
abbrev mX6_nextRematches : xx_M := (RX6, "nextRematches", cX6_nextRematches, 1, some .int, [])
set_option maxRecDepth 100000 in
theorem cal_X6_nextRematches : xx_Cal yX6_nextRematches mX6_nextRematches 0 := ⟨xx_good5 (i := 185) rfl rfl, xx_good1 (i := 1) (by decide +kernel) (by decide +kernel), by decide +kernel, by decide +kernel, by decide +kernel⟩
theorem im_X6_nextRematches : Cond.instanceMethod yX6_nextRematches ∈ xx_T := xx_good5 (i := 183) (by decide +kernel) (by decide +kernel)
theorem se_X6_nextRematches : Cond.selects yX6_nextRematches.cls yX6_nextRematches yX6_nextRematches ∈ xx_T := xx_good5 (i := 184) (by decide +kernel) (by decide +kernel)
abbrev mL_leaderAfter : xx_M := (RL, "leaderAfter", cL_leaderAfter, 4, some .int, [(0, 9, 12, 19), (0, 9, 15, 13)])
set_option maxRecDepth 100000 in
theorem cal_L_leaderAfter : xx_Cal yL_leaderAfter mL_leaderAfter 3 := ⟨xx_good5 (i := 188) rfl rfl, xx_good1 (i := 0) (by decide +kernel) (by decide +kernel), by decide +kernel, by decide +kernel, by decide +kernel⟩
theorem sm_L_leaderAfter : Cond.static yL_leaderAfter ∈ xx_T := xx_good5 (i := 187) (by decide +kernel) (by decide +kernel)
abbrev mX6_leaderAfter : xx_M := (RX6, "leaderAfter", cX6_leaderAfter, 2, some .int, [])
set_option maxRecDepth 100000 in
theorem cal_X6_leaderAfter : xx_Cal yX6_leaderAfter mX6_leaderAfter 1 := ⟨xx_good5 (i := 192) rfl rfl, xx_good1 (i := 1) (by decide +kernel) (by decide +kernel), by decide +kernel, by decide +kernel, by decide +kernel⟩
theorem im_X6_leaderAfter : Cond.instanceMethod yX6_leaderAfter ∈ xx_T := xx_good5 (i := 190) (by decide +kernel) (by decide +kernel)
theorem se_X6_leaderAfter : Cond.selects yX6_leaderAfter.cls yX6_leaderAfter yX6_leaderAfter ∈ xx_T := xx_good5 (i := 191) (by decide +kernel) (by decide +kernel)
abbrev mX6_needRoundsAhead : xx_M := (RX6, "needRoundsAhead", cX6_needRoundsAhead, 1, none, [])
set_option maxRecDepth 100000 in
theorem cal_X6_needRoundsAhead : xx_Cal yX6_needRoundsAhead mX6_needRoundsAhead 1 := ⟨xx_good5 (i := 195) rfl rfl, xx_good1 (i := 1) (by decide +kernel) (by decide +kernel), by decide +kernel, by decide +kernel, by decide +kernel⟩
theorem sm_X6_needRoundsAhead : Cond.static yX6_needRoundsAhead ∈ xx_T := xx_good5 (i := 194) (by decide +kernel) (by decide +kernel)
abbrev mX6_playTrial : xx_M := (RX6, "playTrial", cX6_playTrial, 3, none, [])
set_option maxRecDepth 100000 in
theorem cal_X6_playTrial : xx_Cal yX6_playTrial mX6_playTrial 1 := ⟨xx_good5 (i := 201) rfl rfl, xx_good1 (i := 1) (by decide +kernel) (by decide +kernel), by decide +kernel, by decide +kernel, by decide +kernel⟩
theorem im_X6_playTrial : Cond.instanceMethod yX6_playTrial ∈ xx_T := xx_good5 (i := 200) (by decide +kernel) (by decide +kernel)
theorem se_X6_playTrial : Cond.selects yX6_playTrial.cls yX6_playTrial yX6_playTrial ∈ xx_T := xx_good (i := 56) (by decide +kernel) (by decide +kernel)
abbrev mX0_copyFrom : xx_M := (RX0, "copyFrom", cX0_copyFrom, 2, none, [])
set_option maxRecDepth 100000 in
theorem cal_X0_copyFrom : xx_Cal yX0_copyFrom mX0_copyFrom 1 := ⟨xx_good5 (i := 205) rfl rfl, xx_good1 (i := 5) (by decide +kernel) (by decide +kernel), by decide +kernel, by decide +kernel, by decide +kernel⟩
theorem im_X0_copyFrom : Cond.instanceMethod yX0_copyFrom ∈ xx_T := xx_good5 (i := 203) (by decide +kernel) (by decide +kernel)
theorem se_X0_copyFrom : Cond.selects yX0_copyFrom.cls yX0_copyFrom yX0_copyFrom ∈ xx_T := xx_good5 (i := 204) (by decide +kernel) (by decide +kernel)
abbrev mL_pointsAfter : xx_M := (RL, "pointsAfter", cL_pointsAfter, 5, some .int, [(0, 10, 13, 24), (0, 10, 17, 19)])
set_option maxRecDepth 100000 in
theorem cal_L_pointsAfter : xx_Cal yL_pointsAfter mL_pointsAfter 4 := ⟨xx_good5 (i := 209) rfl rfl, xx_good1 (i := 0) (by decide +kernel) (by decide +kernel), by decide +kernel, by decide +kernel, by decide +kernel⟩
theorem sm_L_pointsAfter : Cond.static yL_pointsAfter ∈ xx_T := xx_good5 (i := 208) (by decide +kernel) (by decide +kernel)
abbrev mX6_pointsAfter : xx_M := (RX6, "pointsAfter", cX6_pointsAfter, 3, some .int, [])
set_option maxRecDepth 100000 in
theorem cal_X6_pointsAfter : xx_Cal yX6_pointsAfter mX6_pointsAfter 2 := ⟨xx_good5 (i := 213) rfl rfl, xx_good1 (i := 1) (by decide +kernel) (by decide +kernel), by decide +kernel, by decide +kernel, by decide +kernel⟩
theorem im_X6_pointsAfter : Cond.instanceMethod yX6_pointsAfter ∈ xx_T := xx_good5 (i := 211) (by decide +kernel) (by decide +kernel)
theorem se_X6_pointsAfter : Cond.selects yX6_pointsAfter.cls yX6_pointsAfter yX6_pointsAfter ∈ xx_T := xx_good5 (i := 212) (by decide +kernel) (by decide +kernel)
abbrev mX9_init : xx_M := (RX9, "<init>", cX9_init, 1, none, [])
set_option maxRecDepth 100000 in
theorem cal_X9_init : xx_Cal yX9_init mX9_init 0 := ⟨xx_good5 (i := 218) rfl rfl, xx_good1 (i := 7) (by decide +kernel) (by decide +kernel), by decide +kernel, by decide +kernel, by decide +kernel⟩
theorem im_X9_init : Cond.instanceMethod yX9_init ∈ xx_T := xx_good5 (i := 217) (by decide +kernel) (by decide +kernel)
abbrev mX7_init : xx_M := (RX7, "<init>", cX7_init, 1, none, [])
set_option maxRecDepth 100000 in
theorem cal_X7_init : xx_Cal yX7_init mX7_init 0 := ⟨xx_good5 (i := 224) rfl rfl, xx_good1 (i := 8) (by decide +kernel) (by decide +kernel), by decide +kernel, by decide +kernel, by decide +kernel⟩
theorem im_X7_init : Cond.instanceMethod yX7_init ∈ xx_T := xx_good5 (i := 223) (by decide +kernel) (by decide +kernel)
abbrev mX8_init : xx_M := (RX8, "<init>", cX8_init, 1, none, [])
set_option maxRecDepth 100000 in
theorem cal_X8_init : xx_Cal yX8_init mX8_init 0 := ⟨xx_good6 (i := 33) rfl rfl, xx_good1 (i := 9) (by decide +kernel) (by decide +kernel), by decide +kernel, by decide +kernel, by decide +kernel⟩
theorem im_X8_init : Cond.instanceMethod yX8_init ∈ xx_T := xx_good6 (i := 32) (by decide +kernel) (by decide +kernel)
abbrev mX9_thrown : xx_M := (RX9, "thrown", cX9_thrown, 1, some .int, [])
set_option maxRecDepth 100000 in
theorem cal_X9_thrown : xx_Cal yX9_thrown mX9_thrown 0 := ⟨xx_good6 (i := 170) rfl rfl, xx_good1 (i := 7) (by decide +kernel) (by decide +kernel), by decide +kernel, by decide +kernel, by decide +kernel⟩
theorem im_X9_thrown : Cond.instanceMethod yX9_thrown ∈ xx_T := xx_good6 (i := 168) (by decide +kernel) (by decide +kernel)
theorem se_X9_thrown : Cond.selects yX9_thrown.cls yX9_thrown yX9_thrown ∈ xx_T := xx_good6 (i := 169) (by decide +kernel) (by decide +kernel)
abbrev mX9_feed : xx_M := (RX9, "feed", cX9_feed, 8, some .int, [])
set_option maxRecDepth 100000 in
theorem cal_X9_feed : xx_Cal yX9_feed mX9_feed 5 := ⟨xx_good6 (i := 174) rfl rfl, xx_good1 (i := 7) (by decide +kernel) (by decide +kernel), by decide +kernel, by decide +kernel, by decide +kernel⟩
theorem im_X9_feed : Cond.instanceMethod yX9_feed ∈ xx_T := xx_good6 (i := 172) (by decide +kernel) (by decide +kernel)
theorem se_X9_feed : Cond.selects yX9_feed.cls yX9_feed yX9_feed ∈ xx_T := xx_good6 (i := 173) (by decide +kernel) (by decide +kernel)
abbrev mX9_no : xx_M := (RX9, "no", cX9_no, 2, some .int, [])
set_option maxRecDepth 100000 in
theorem cal_X9_no : xx_Cal yX9_no mX9_no 1 := ⟨xx_good6 (i := 178) rfl rfl, xx_good1 (i := 7) (by decide +kernel) (by decide +kernel), by decide +kernel, by decide +kernel, by decide +kernel⟩
theorem im_X9_no : Cond.instanceMethod yX9_no ∈ xx_T := xx_good6 (i := 177) (by decide +kernel) (by decide +kernel)
theorem se_X9_no : Cond.selects yX9_no.cls yX9_no yX9_no ∈ xx_T := xx_good (i := 57) (by decide +kernel) (by decide +kernel)
abbrev mX9_trim : xx_M := (RX9, "trim", cX9_trim, 2, some .int, [])
set_option maxRecDepth 100000 in
theorem cal_X9_trim : xx_Cal yX9_trim mX9_trim 1 := ⟨xx_good6 (i := 182) rfl rfl, xx_good1 (i := 7) (by decide +kernel) (by decide +kernel), by decide +kernel, by decide +kernel, by decide +kernel⟩
theorem im_X9_trim : Cond.instanceMethod yX9_trim ∈ xx_T := xx_good6 (i := 180) (by decide +kernel) (by decide +kernel)
theorem se_X9_trim : Cond.selects yX9_trim.cls yX9_trim yX9_trim ∈ xx_T := xx_good6 (i := 181) (by decide +kernel) (by decide +kernel)
abbrev mX9_isIn : xx_M := (RX9, "isIn", cX9_isIn, 3, some .boolean, [])
set_option maxRecDepth 100000 in
theorem cal_X9_isIn : xx_Cal yX9_isIn mX9_isIn 3 := ⟨xx_good6 (i := 185) rfl rfl, xx_good1 (i := 7) (by decide +kernel) (by decide +kernel), by decide +kernel, by decide +kernel, by decide +kernel⟩
theorem sm_X9_isIn : Cond.static yX9_isIn ∈ xx_T := xx_good6 (i := 184) (by decide +kernel) (by decide +kernel)
abbrev mX9_teach : xx_M := (RX9, "teach", cX9_teach, 3, some .int, [])
set_option maxRecDepth 100000 in
theorem cal_X9_teach : xx_Cal yX9_teach mX9_teach 0 := ⟨xx_good6 (i := 189) rfl rfl, xx_good1 (i := 7) (by decide +kernel) (by decide +kernel), by decide +kernel, by decide +kernel, by decide +kernel⟩
theorem im_X9_teach : Cond.instanceMethod yX9_teach ∈ xx_T := xx_good6 (i := 187) (by decide +kernel) (by decide +kernel)
theorem se_X9_teach : Cond.selects yX9_teach.cls yX9_teach yX9_teach ∈ xx_T := xx_good6 (i := 188) (by decide +kernel) (by decide +kernel)
abbrev mX9_read : xx_M := (RX9, "read", cX9_read, 4, some .int, [])
set_option maxRecDepth 100000 in
theorem cal_X9_read : xx_Cal yX9_read mX9_read 1 := ⟨xx_good6 (i := 193) rfl rfl, xx_good1 (i := 7) (by decide +kernel) (by decide +kernel), by decide +kernel, by decide +kernel, by decide +kernel⟩
theorem im_X9_read : Cond.instanceMethod yX9_read ∈ xx_T := xx_good6 (i := 192) (by decide +kernel) (by decide +kernel)
theorem se_X9_read : Cond.selects yX9_read.cls yX9_read yX9_read ∈ xx_T := xx_good (i := 58) (by decide +kernel) (by decide +kernel)
abbrev mX9_cutIntoTokens : xx_M := (RX9, "cutIntoTokens", cX9_cutIntoTokens, 4, none, [])
set_option maxRecDepth 100000 in
theorem cal_X9_cutIntoTokens : xx_Cal yX9_cutIntoTokens mX9_cutIntoTokens 0 := ⟨xx_good6 (i := 197) rfl rfl, xx_good1 (i := 7) (by decide +kernel) (by decide +kernel), by decide +kernel, by decide +kernel, by decide +kernel⟩
theorem im_X9_cutIntoTokens : Cond.instanceMethod yX9_cutIntoTokens ∈ xx_T := xx_good6 (i := 196) (by decide +kernel) (by decide +kernel)
theorem se_X9_cutIntoTokens : Cond.selects yX9_cutIntoTokens.cls yX9_cutIntoTokens yX9_cutIntoTokens ∈ xx_T := xx_good (i := 59) (by decide +kernel) (by decide +kernel)
abbrev mX9_byteOf : xx_M := (RX9, "byteOf", cX9_byteOf, 2, some .int, [])
set_option maxRecDepth 100000 in
theorem cal_X9_byteOf : xx_Cal yX9_byteOf mX9_byteOf 1 := ⟨xx_good6 (i := 201) rfl rfl, xx_good1 (i := 7) (by decide +kernel) (by decide +kernel), by decide +kernel, by decide +kernel, by decide +kernel⟩
theorem im_X9_byteOf : Cond.instanceMethod yX9_byteOf ∈ xx_T := xx_good6 (i := 200) (by decide +kernel) (by decide +kernel)
theorem se_X9_byteOf : Cond.selects yX9_byteOf.cls yX9_byteOf yX9_byteOf ∈ xx_T := xx_good (i := 60) (by decide +kernel) (by decide +kernel)
abbrev mX9_endOf : xx_M := (RX9, "endOf", cX9_endOf, 4, some .int, [])
set_option maxRecDepth 100000 in
theorem cal_X9_endOf : xx_Cal yX9_endOf mX9_endOf 1 := ⟨xx_good6 (i := 205) rfl rfl, xx_good1 (i := 7) (by decide +kernel) (by decide +kernel), by decide +kernel, by decide +kernel, by decide +kernel⟩
theorem im_X9_endOf : Cond.instanceMethod yX9_endOf ∈ xx_T := xx_good6 (i := 204) (by decide +kernel) (by decide +kernel)
theorem se_X9_endOf : Cond.selects yX9_endOf.cls yX9_endOf yX9_endOf ∈ xx_T := xx_good (i := 61) (by decide +kernel) (by decide +kernel)
abbrev mX9_isSmall : xx_M := (RX9, "isSmall", cX9_isSmall, 1, some .boolean, [])
set_option maxRecDepth 100000 in
theorem cal_X9_isSmall : xx_Cal yX9_isSmall mX9_isSmall 1 := ⟨xx_good6 (i := 208) rfl rfl, xx_good1 (i := 7) (by decide +kernel) (by decide +kernel), by decide +kernel, by decide +kernel, by decide +kernel⟩
theorem sm_X9_isSmall : Cond.static yX9_isSmall ∈ xx_T := xx_good6 (i := 207) (by decide +kernel) (by decide +kernel)
abbrev mX9_isDigit : xx_M := (RX9, "isDigit", cX9_isDigit, 1, some .boolean, [])
set_option maxRecDepth 100000 in
theorem cal_X9_isDigit : xx_Cal yX9_isDigit mX9_isDigit 1 := ⟨xx_good6 (i := 211) rfl rfl, xx_good1 (i := 7) (by decide +kernel) (by decide +kernel), by decide +kernel, by decide +kernel, by decide +kernel⟩
theorem sm_X9_isDigit : Cond.static yX9_isDigit ∈ xx_T := xx_good6 (i := 210) (by decide +kernel) (by decide +kernel)
abbrev mX9_kindOf : xx_M := (RX9, "kindOf", cX9_kindOf, 5, some .int, [])
set_option maxRecDepth 100000 in
theorem cal_X9_kindOf : xx_Cal yX9_kindOf mX9_kindOf 3 := ⟨xx_good6 (i := 215) rfl rfl, xx_good1 (i := 7) (by decide +kernel) (by decide +kernel), by decide +kernel, by decide +kernel, by decide +kernel⟩
theorem im_X9_kindOf : Cond.instanceMethod yX9_kindOf ∈ xx_T := xx_good6 (i := 214) (by decide +kernel) (by decide +kernel)
theorem se_X9_kindOf : Cond.selects yX9_kindOf.cls yX9_kindOf yX9_kindOf ∈ xx_T := xx_good (i := 62) (by decide +kernel) (by decide +kernel)
abbrev mX9_numberAt : xx_M := (RX9, "numberAt", cX9_numberAt, 6, some .int, [])
set_option maxRecDepth 100000 in
theorem cal_X9_numberAt : xx_Cal yX9_numberAt mX9_numberAt 3 := ⟨xx_good6 (i := 219) rfl rfl, xx_good1 (i := 7) (by decide +kernel) (by decide +kernel), by decide +kernel, by decide +kernel, by decide +kernel⟩
theorem im_X9_numberAt : Cond.instanceMethod yX9_numberAt ∈ xx_T := xx_good6 (i := 218) (by decide +kernel) (by decide +kernel)
theorem se_X9_numberAt : Cond.selects yX9_numberAt.cls yX9_numberAt yX9_numberAt ∈ xx_T := xx_good (i := 63) (by decide +kernel) (by decide +kernel)
abbrev mX9_wordAt : xx_M := (RX9, "wordAt", cX9_wordAt, 7, some .int, [])
set_option maxRecDepth 100000 in
theorem cal_X9_wordAt : xx_Cal yX9_wordAt mX9_wordAt 3 := ⟨xx_good6 (i := 223) rfl rfl, xx_good1 (i := 7) (by decide +kernel) (by decide +kernel), by decide +kernel, by decide +kernel, by decide +kernel⟩
theorem im_X9_wordAt : Cond.instanceMethod yX9_wordAt ∈ xx_T := xx_good6 (i := 222) (by decide +kernel) (by decide +kernel)
theorem se_X9_wordAt : Cond.selects yX9_wordAt.cls yX9_wordAt yX9_wordAt ∈ xx_T := xx_good (i := 64) (by decide +kernel) (by decide +kernel)
abbrev mX9_letter : xx_M := (RX9, "letter", cX9_letter, 1, some .int, [])
set_option maxRecDepth 100000 in
theorem cal_X9_letter : xx_Cal yX9_letter mX9_letter 1 := ⟨xx_good6 (i := 227) rfl rfl, xx_good1 (i := 7) (by decide +kernel) (by decide +kernel), by decide +kernel, by decide +kernel, by decide +kernel⟩
theorem sm_X9_letter : Cond.static yX9_letter ∈ xx_T := xx_good6 (i := 226) (by decide +kernel) (by decide +kernel)
abbrev mX9_nameOf : xx_M := (RX9, "nameOf", cX9_nameOf, 4, some .long, [])
set_option maxRecDepth 100000 in
theorem cal_X9_nameOf : xx_Cal yX9_nameOf mX9_nameOf 1 := ⟨xx_good6 (i := 232) rfl rfl, xx_good1 (i := 7) (by decide +kernel) (by decide +kernel), by decide +kernel, by decide +kernel, by decide +kernel⟩
theorem sm_X9_nameOf : Cond.static yX9_nameOf ∈ xx_T := xx_good6 (i := 231) (by decide +kernel) (by decide +kernel)
abbrev mX9_isBook : xx_M := (RX9, "isBook", cX9_isBook, 2, some .boolean, [])
set_option maxRecDepth 100000 in
theorem cal_X9_isBook : xx_Cal yX9_isBook mX9_isBook 1 := ⟨xx_good6 (i := 238) rfl rfl, xx_good1 (i := 7) (by decide +kernel) (by decide +kernel), by decide +kernel, by decide +kernel, by decide +kernel⟩
theorem im_X9_isBook : Cond.instanceMethod yX9_isBook ∈ xx_T := xx_good6 (i := 237) (by decide +kernel) (by decide +kernel)
theorem se_X9_isBook : Cond.selects yX9_isBook.cls yX9_isBook yX9_isBook ∈ xx_T := xx_good (i := 65) (by decide +kernel) (by decide +kernel)
abbrev mX9_isLine : xx_M := (RX9, "isLine", cX9_isLine, 3, some .boolean, [])
set_option maxRecDepth 100000 in
theorem cal_X9_isLine : xx_Cal yX9_isLine mX9_isLine 1 := ⟨xx_good7 (i := 2) rfl rfl, xx_good1 (i := 7) (by decide +kernel) (by decide +kernel), by decide +kernel, by decide +kernel, by decide +kernel⟩
theorem im_X9_isLine : Cond.instanceMethod yX9_isLine ∈ xx_T := xx_good7 (i := 1) (by decide +kernel) (by decide +kernel)
theorem se_X9_isLine : Cond.selects yX9_isLine.cls yX9_isLine yX9_isLine ∈ xx_T := xx_good (i := 66) (by decide +kernel) (by decide +kernel)
abbrev mX9_eatAs : xx_M := (RX9, "eatAs", cX9_eatAs, 3, some .boolean, [])
set_option maxRecDepth 100000 in
theorem cal_X9_eatAs : xx_Cal yX9_eatAs mX9_eatAs 2 := ⟨xx_good7 (i := 6) rfl rfl, xx_good1 (i := 7) (by decide +kernel) (by decide +kernel), by decide +kernel, by decide +kernel, by decide +kernel⟩
theorem im_X9_eatAs : Cond.instanceMethod yX9_eatAs ∈ xx_T := xx_good7 (i := 5) (by decide +kernel) (by decide +kernel)
theorem se_X9_eatAs : Cond.selects yX9_eatAs.cls yX9_eatAs yX9_eatAs ∈ xx_T := xx_good (i := 67) (by decide +kernel) (by decide +kernel)
abbrev mX9_eat : xx_M := (RX9, "eat", cX9_eat, 2, some .boolean, [])
set_option maxRecDepth 100000 in
theorem cal_X9_eat : xx_Cal yX9_eat mX9_eat 1 := ⟨xx_good7 (i := 10) rfl rfl, xx_good1 (i := 7) (by decide +kernel) (by decide +kernel), by decide +kernel, by decide +kernel, by decide +kernel⟩
theorem im_X9_eat : Cond.instanceMethod yX9_eat ∈ xx_T := xx_good7 (i := 9) (by decide +kernel) (by decide +kernel)
theorem se_X9_eat : Cond.selects yX9_eat.cls yX9_eat yX9_eat ∈ xx_T := xx_good (i := 68) (by decide +kernel) (by decide +kernel)
abbrev mX9_isRule : xx_M := (RX9, "isRule", cX9_isRule, 3, some .boolean, [])
set_option maxRecDepth 100000 in
theorem cal_X9_isRule : xx_Cal yX9_isRule mX9_isRule 1 := ⟨xx_good7 (i := 14) rfl rfl, xx_good1 (i := 7) (by decide +kernel) (by decide +kernel), by decide +kernel, by decide +kernel, by decide +kernel⟩
theorem im_X9_isRule : Cond.instanceMethod yX9_isRule ∈ xx_T := xx_good7 (i := 13) (by decide +kernel) (by decide +kernel)
theorem se_X9_isRule : Cond.selects yX9_isRule.cls yX9_isRule yX9_isRule ∈ xx_T := xx_good (i := 69) (by decide +kernel) (by decide +kernel)
abbrev mX9_isOutcome : xx_M := (RX9, "isOutcome", cX9_isOutcome, 1, some .boolean, [])
set_option maxRecDepth 100000 in
theorem cal_X9_isOutcome : xx_Cal yX9_isOutcome mX9_isOutcome 0 := ⟨xx_good7 (i := 19) rfl rfl, xx_good1 (i := 7) (by decide +kernel) (by decide +kernel), by decide +kernel, by decide +kernel, by decide +kernel⟩
theorem im_X9_isOutcome : Cond.instanceMethod yX9_isOutcome ∈ xx_T := xx_good7 (i := 18) (by decide +kernel) (by decide +kernel)
theorem se_X9_isOutcome : Cond.selects yX9_isOutcome.cls yX9_isOutcome yX9_isOutcome ∈ xx_T := xx_good (i := 70) (by decide +kernel) (by decide +kernel)
abbrev mX9_isTest : xx_M := (RX9, "isTest", cX9_isTest, 2, some .boolean, [])
set_option maxRecDepth 100000 in
theorem cal_X9_isTest : xx_Cal yX9_isTest mX9_isTest 1 := ⟨xx_good7 (i := 23) rfl rfl, xx_good1 (i := 7) (by decide +kernel) (by decide +kernel), by decide +kernel, by decide +kernel, by decide +kernel⟩
theorem im_X9_isTest : Cond.instanceMethod yX9_isTest ∈ xx_T := xx_good7 (i := 22) (by decide +kernel) (by decide +kernel)
theorem se_X9_isTest : Cond.selects yX9_isTest.cls yX9_isTest yX9_isTest ∈ xx_T := xx_good (i := 71) (by decide +kernel) (by decide +kernel)
abbrev mX9_isBoth : xx_M := (RX9, "isBoth", cX9_isBoth, 2, some .boolean, [])
set_option maxRecDepth 100000 in
theorem cal_X9_isBoth : xx_Cal yX9_isBoth mX9_isBoth 1 := ⟨xx_good7 (i := 27) rfl rfl, xx_good1 (i := 7) (by decide +kernel) (by decide +kernel), by decide +kernel, by decide +kernel, by decide +kernel⟩
theorem im_X9_isBoth : Cond.instanceMethod yX9_isBoth ∈ xx_T := xx_good7 (i := 26) (by decide +kernel) (by decide +kernel)
theorem se_X9_isBoth : Cond.selects yX9_isBoth.cls yX9_isBoth yX9_isBoth ∈ xx_T := xx_good (i := 72) (by decide +kernel) (by decide +kernel)
abbrev mX9_isSingle : xx_M := (RX9, "isSingle", cX9_isSingle, 2, some .boolean, [])
set_option maxRecDepth 100000 in
theorem cal_X9_isSingle : xx_Cal yX9_isSingle mX9_isSingle 1 := ⟨xx_good7 (i := 31) rfl rfl, xx_good1 (i := 7) (by decide +kernel) (by decide +kernel), by decide +kernel, by decide +kernel, by decide +kernel⟩
theorem im_X9_isSingle : Cond.instanceMethod yX9_isSingle ∈ xx_T := xx_good7 (i := 30) (by decide +kernel) (by decide +kernel)
theorem se_X9_isSingle : Cond.selects yX9_isSingle.cls yX9_isSingle yX9_isSingle ∈ xx_T := xx_good (i := 73) (by decide +kernel) (by decide +kernel)
abbrev mX9_deeper : xx_M := (RX9, "deeper", cX9_deeper, 2, some .boolean, [])
set_option maxRecDepth 100000 in
theorem cal_X9_deeper : xx_Cal yX9_deeper mX9_deeper 1 := ⟨xx_good7 (i := 35) rfl rfl, xx_good1 (i := 7) (by decide +kernel) (by decide +kernel), by decide +kernel, by decide +kernel, by decide +kernel⟩
theorem im_X9_deeper : Cond.instanceMethod yX9_deeper ∈ xx_T := xx_good7 (i := 34) (by decide +kernel) (by decide +kernel)
theorem se_X9_deeper : Cond.selects yX9_deeper.cls yX9_deeper yX9_deeper ∈ xx_T := xx_good (i := 74) (by decide +kernel) (by decide +kernel)
abbrev mX9_put : xx_M := (RX9, "put", cX9_put, 4, none, [])
set_option maxRecDepth 100000 in
theorem cal_X9_put : xx_Cal yX9_put mX9_put 3 := ⟨xx_good7 (i := 39) rfl rfl, xx_good1 (i := 7) (by decide +kernel) (by decide +kernel), by decide +kernel, by decide +kernel, by decide +kernel⟩
theorem im_X9_put : Cond.instanceMethod yX9_put ∈ xx_T := xx_good7 (i := 38) (by decide +kernel) (by decide +kernel)
theorem se_X9_put : Cond.selects yX9_put.cls yX9_put yX9_put ∈ xx_T := xx_good (i := 75) (by decide +kernel) (by decide +kernel)
abbrev mX9_closes : xx_M := (RX9, "closes", cX9_closes, 2, some .boolean, [])
set_option maxRecDepth 100000 in
theorem cal_X9_closes : xx_Cal yX9_closes mX9_closes 1 := ⟨xx_good7 (i := 43) rfl rfl, xx_good1 (i := 7) (by decide +kernel) (by decide +kernel), by decide +kernel, by decide +kernel, by decide +kernel⟩
theorem im_X9_closes : Cond.instanceMethod yX9_closes ∈ xx_T := xx_good7 (i := 42) (by decide +kernel) (by decide +kernel)
theorem se_X9_closes : Cond.selects yX9_closes.cls yX9_closes yX9_closes ∈ xx_T := xx_good (i := 76) (by decide +kernel) (by decide +kernel)
abbrev mX9_isCompare : xx_M := (RX9, "isCompare", cX9_isCompare, 4, some .boolean, [])
set_option maxRecDepth 100000 in
theorem cal_X9_isCompare : xx_Cal yX9_isCompare mX9_isCompare 1 := ⟨xx_good7 (i := 47) rfl rfl, xx_good1 (i := 7) (by decide +kernel) (by decide +kernel), by decide +kernel, by decide +kernel, by decide +kernel⟩
theorem im_X9_isCompare : Cond.instanceMethod yX9_isCompare ∈ xx_T := xx_good7 (i := 46) (by decide +kernel) (by decide +kernel)
theorem se_X9_isCompare : Cond.selects yX9_isCompare.cls yX9_isCompare yX9_isCompare ∈ xx_T := xx_good (i := 77) (by decide +kernel) (by decide +kernel)
abbrev mX9_isSum : xx_M := (RX9, "isSum", cX9_isSum, 3, some .boolean, [])
set_option maxRecDepth 100000 in
theorem cal_X9_isSum : xx_Cal yX9_isSum mX9_isSum 1 := ⟨xx_good7 (i := 51) rfl rfl, xx_good1 (i := 7) (by decide +kernel) (by decide +kernel), by decide +kernel, by decide +kernel, by decide +kernel⟩
theorem im_X9_isSum : Cond.instanceMethod yX9_isSum ∈ xx_T := xx_good7 (i := 50) (by decide +kernel) (by decide +kernel)
theorem se_X9_isSum : Cond.selects yX9_isSum.cls yX9_isSum yX9_isSum ∈ xx_T := xx_good (i := 78) (by decide +kernel) (by decide +kernel)
abbrev mX9_isProduct : xx_M := (RX9, "isProduct", cX9_isProduct, 3, some .boolean, [])
set_option maxRecDepth 100000 in
theorem cal_X9_isProduct : xx_Cal yX9_isProduct mX9_isProduct 1 := ⟨xx_good7 (i := 55) rfl rfl, xx_good1 (i := 7) (by decide +kernel) (by decide +kernel), by decide +kernel, by decide +kernel, by decide +kernel⟩
theorem im_X9_isProduct : Cond.instanceMethod yX9_isProduct ∈ xx_T := xx_good7 (i := 54) (by decide +kernel) (by decide +kernel)
theorem se_X9_isProduct : Cond.selects yX9_isProduct.cls yX9_isProduct yX9_isProduct ∈ xx_T := xx_good (i := 79) (by decide +kernel) (by decide +kernel)
abbrev mX9_isValue : xx_M := (RX9, "isValue", cX9_isValue, 3, some .boolean, [])
set_option maxRecDepth 100000 in
theorem cal_X9_isValue : xx_Cal yX9_isValue mX9_isValue 1 := ⟨xx_good7 (i := 59) rfl rfl, xx_good1 (i := 7) (by decide +kernel) (by decide +kernel), by decide +kernel, by decide +kernel, by decide +kernel⟩
theorem im_X9_isValue : Cond.instanceMethod yX9_isValue ∈ xx_T := xx_good7 (i := 58) (by decide +kernel) (by decide +kernel)
theorem se_X9_isValue : Cond.selects yX9_isValue.cls yX9_isValue yX9_isValue ∈ xx_T := xx_good (i := 80) (by decide +kernel) (by decide +kernel)
abbrev mX9_isOfTwo : xx_M := (RX9, "isOfTwo", cX9_isOfTwo, 3, some .boolean, [])
set_option maxRecDepth 100000 in
theorem cal_X9_isOfTwo : xx_Cal yX9_isOfTwo mX9_isOfTwo 2 := ⟨xx_good7 (i := 63) rfl rfl, xx_good1 (i := 7) (by decide +kernel) (by decide +kernel), by decide +kernel, by decide +kernel, by decide +kernel⟩
theorem im_X9_isOfTwo : Cond.instanceMethod yX9_isOfTwo ∈ xx_T := xx_good7 (i := 62) (by decide +kernel) (by decide +kernel)
theorem se_X9_isOfTwo : Cond.selects yX9_isOfTwo.cls yX9_isOfTwo yX9_isOfTwo ∈ xx_T := xx_good (i := 81) (by decide +kernel) (by decide +kernel)
abbrev mX9_isSided : xx_M := (RX9, "isSided", cX9_isSided, 1, some .boolean, [])
set_option maxRecDepth 100000 in
theorem cal_X9_isSided : xx_Cal yX9_isSided mX9_isSided 1 := ⟨xx_good7 (i := 66) rfl rfl, xx_good1 (i := 7) (by decide +kernel) (by decide +kernel), by decide +kernel, by decide +kernel, by decide +kernel⟩
theorem sm_X9_isSided : Cond.static yX9_isSided ∈ xx_T := xx_good7 (i := 65) (by decide +kernel) (by decide +kernel)
abbrev mX9_isOfSide : xx_M := (RX9, "isOfSide", cX9_isOfSide, 3, some .boolean, [])
set_option maxRecDepth 100000 in
theorem cal_X9_isOfSide : xx_Cal yX9_isOfSide mX9_isOfSide 2 := ⟨xx_good7 (i := 70) rfl rfl, xx_good1 (i := 7) (by decide +kernel) (by decide +kernel), by decide +kernel, by decide +kernel, by decide +kernel⟩
theorem im_X9_isOfSide : Cond.instanceMethod yX9_isOfSide ∈ xx_T := xx_good7 (i := 69) (by decide +kernel) (by decide +kernel)
theorem se_X9_isOfSide : Cond.selects yX9_isOfSide.cls yX9_isOfSide yX9_isOfSide ∈ xx_T := xx_good (i := 82) (by decide +kernel) (by decide +kernel)
abbrev mX9_errorOf : xx_M := (RX9, "errorOf", cX9_errorOf, 4, some .int, [])
set_option maxRecDepth 100000 in
theorem cal_X9_errorOf : xx_Cal yX9_errorOf mX9_errorOf 2 := ⟨xx_good7 (i := 74) rfl rfl, xx_good1 (i := 7) (by decide +kernel) (by decide +kernel), by decide +kernel, by decide +kernel, by decide +kernel⟩
theorem im_X9_errorOf : Cond.instanceMethod yX9_errorOf ∈ xx_T := xx_good7 (i := 73) (by decide +kernel) (by decide +kernel)
theorem se_X9_errorOf : Cond.selects yX9_errorOf.cls yX9_errorOf yX9_errorOf ∈ xx_T := xx_good (i := 83) (by decide +kernel) (by decide +kernel)
abbrev mX9_newWrestler : xx_M := (RX9, "newWrestler", cX9_newWrestler, 5, some .int, [])
set_option maxRecDepth 100000 in
theorem cal_X9_newWrestler : xx_Cal yX9_newWrestler mX9_newWrestler 2 := ⟨xx_good7 (i := 78) rfl rfl, xx_good1 (i := 7) (by decide +kernel) (by decide +kernel), by decide +kernel, by decide +kernel, by decide +kernel⟩
theorem im_X9_newWrestler : Cond.instanceMethod yX9_newWrestler ∈ xx_T := xx_good7 (i := 77) (by decide +kernel) (by decide +kernel)
theorem se_X9_newWrestler : Cond.selects yX9_newWrestler.cls yX9_newWrestler yX9_newWrestler ∈ xx_T := xx_good (i := 84) (by decide +kernel) (by decide +kernel)
abbrev mX9_errorAt : xx_M := (RX9, "errorAt", cX9_errorAt, 1, some .int, [])
set_option maxRecDepth 100000 in
theorem cal_X9_errorAt : xx_Cal yX9_errorAt mX9_errorAt 0 := ⟨xx_good7 (i := 82) rfl rfl, xx_good1 (i := 7) (by decide +kernel) (by decide +kernel), by decide +kernel, by decide +kernel, by decide +kernel⟩
theorem im_X9_errorAt : Cond.instanceMethod yX9_errorAt ∈ xx_T := xx_good7 (i := 80) (by decide +kernel) (by decide +kernel)
theorem se_X9_errorAt : Cond.selects yX9_errorAt.cls yX9_errorAt yX9_errorAt ∈ xx_T := xx_good7 (i := 81) (by decide +kernel) (by decide +kernel)
abbrev mX9_ok : xx_M := (RX9, "ok", cX9_ok, 2, some .int, [])
set_option maxRecDepth 100000 in
theorem cal_X9_ok : xx_Cal yX9_ok mX9_ok 1 := ⟨xx_good7 (i := 86) rfl rfl, xx_good1 (i := 7) (by decide +kernel) (by decide +kernel), by decide +kernel, by decide +kernel, by decide +kernel⟩
theorem im_X9_ok : Cond.instanceMethod yX9_ok ∈ xx_T := xx_good7 (i := 85) (by decide +kernel) (by decide +kernel)
theorem se_X9_ok : Cond.selects yX9_ok.cls yX9_ok yX9_ok ∈ xx_T := xx_good (i := 85) (by decide +kernel) (by decide +kernel)
abbrev mX9_wrestlers : xx_M := (RX9, "wrestlers", cX9_wrestlers, 1, some .int, [])
set_option maxRecDepth 100000 in
theorem cal_X9_wrestlers : xx_Cal yX9_wrestlers mX9_wrestlers 0 := ⟨xx_good7 (i := 90) rfl rfl, xx_good1 (i := 7) (by decide +kernel) (by decide +kernel), by decide +kernel, by decide +kernel, by decide +kernel⟩
theorem im_X9_wrestlers : Cond.instanceMethod yX9_wrestlers ∈ xx_T := xx_good7 (i := 88) (by decide +kernel) (by decide +kernel)
theorem se_X9_wrestlers : Cond.selects yX9_wrestlers.cls yX9_wrestlers yX9_wrestlers ∈ xx_T := xx_good7 (i := 89) (by decide +kernel) (by decide +kernel)
abbrev mX9_wrestlersIn : xx_M := (RX9, "wrestlersIn", cX9_wrestlersIn, 1, some .int, [])
set_option maxRecDepth 100000 in
theorem cal_X9_wrestlersIn : xx_Cal yX9_wrestlersIn mX9_wrestlersIn 0 := ⟨xx_good7 (i := 94) rfl rfl, xx_good1 (i := 7) (by decide +kernel) (by decide +kernel), by decide +kernel, by decide +kernel, by decide +kernel⟩
theorem im_X9_wrestlersIn : Cond.instanceMethod yX9_wrestlersIn ∈ xx_T := xx_good7 (i := 92) (by decide +kernel) (by decide +kernel)
theorem se_X9_wrestlersIn : Cond.selects yX9_wrestlersIn.cls yX9_wrestlersIn yX9_wrestlersIn ∈ xx_T := xx_good7 (i := 93) (by decide +kernel) (by decide +kernel)
abbrev mX9_in : xx_M := (RX9, "in", cX9_in, 4, some .int, [])
set_option maxRecDepth 100000 in
theorem cal_X9_in : xx_Cal yX9_in mX9_in 1 := ⟨xx_good7 (i := 98) rfl rfl, xx_good1 (i := 7) (by decide +kernel) (by decide +kernel), by decide +kernel, by decide +kernel, by decide +kernel⟩
theorem im_X9_in : Cond.instanceMethod yX9_in ∈ xx_T := xx_good7 (i := 97) (by decide +kernel) (by decide +kernel)
theorem se_X9_in : Cond.selects yX9_in.cls yX9_in yX9_in ∈ xx_T := xx_good (i := 86) (by decide +kernel) (by decide +kernel)
abbrev mX9_rules : xx_M := (RX9, "rules", cX9_rules, 1, some .int, [])
set_option maxRecDepth 100000 in
theorem cal_X9_rules : xx_Cal yX9_rules mX9_rules 0 := ⟨xx_good7 (i := 102) rfl rfl, xx_good1 (i := 7) (by decide +kernel) (by decide +kernel), by decide +kernel, by decide +kernel, by decide +kernel⟩
theorem im_X9_rules : Cond.instanceMethod yX9_rules ∈ xx_T := xx_good7 (i := 100) (by decide +kernel) (by decide +kernel)
theorem se_X9_rules : Cond.selects yX9_rules.cls yX9_rules yX9_rules ∈ xx_T := xx_good7 (i := 101) (by decide +kernel) (by decide +kernel)
abbrev mX9_rounds : xx_M := (RX9, "rounds", cX9_rounds, 1, some .int, [])
set_option maxRecDepth 100000 in
theorem cal_X9_rounds : xx_Cal yX9_rounds mX9_rounds 0 := ⟨xx_good7 (i := 106) rfl rfl, xx_good1 (i := 7) (by decide +kernel) (by decide +kernel), by decide +kernel, by decide +kernel, by decide +kernel⟩
theorem im_X9_rounds : Cond.instanceMethod yX9_rounds ∈ xx_T := xx_good7 (i := 104) (by decide +kernel) (by decide +kernel)
theorem se_X9_rounds : Cond.selects yX9_rounds.cls yX9_rounds yX9_rounds ∈ xx_T := xx_good7 (i := 105) (by decide +kernel) (by decide +kernel)
abbrev mX9_tapeBytes : xx_M := (RX9, "tapeBytes", cX9_tapeBytes, 1, some .int, [])
set_option maxRecDepth 100000 in
theorem cal_X9_tapeBytes : xx_Cal yX9_tapeBytes mX9_tapeBytes 0 := ⟨xx_good7 (i := 110) rfl rfl, xx_good1 (i := 7) (by decide +kernel) (by decide +kernel), by decide +kernel, by decide +kernel, by decide +kernel⟩
theorem im_X9_tapeBytes : Cond.instanceMethod yX9_tapeBytes ∈ xx_T := xx_good7 (i := 108) (by decide +kernel) (by decide +kernel)
theorem se_X9_tapeBytes : Cond.selects yX9_tapeBytes.cls yX9_tapeBytes yX9_tapeBytes ∈ xx_T := xx_good7 (i := 109) (by decide +kernel) (by decide +kernel)
abbrev mX9_bouts : xx_M := (RX9, "bouts", cX9_bouts, 1, some .int, [])
set_option maxRecDepth 100000 in
theorem cal_X9_bouts : xx_Cal yX9_bouts mX9_bouts 0 := ⟨xx_good7 (i := 114) rfl rfl, xx_good1 (i := 7) (by decide +kernel) (by decide +kernel), by decide +kernel, by decide +kernel, by decide +kernel⟩
theorem im_X9_bouts : Cond.instanceMethod yX9_bouts ∈ xx_T := xx_good7 (i := 112) (by decide +kernel) (by decide +kernel)
theorem se_X9_bouts : Cond.selects yX9_bouts.cls yX9_bouts yX9_bouts ∈ xx_T := xx_good7 (i := 113) (by decide +kernel) (by decide +kernel)
abbrev mX9_openBouts : xx_M := (RX9, "openBouts", cX9_openBouts, 1, some .int, [])
set_option maxRecDepth 100000 in
theorem cal_X9_openBouts : xx_Cal yX9_openBouts mX9_openBouts 0 := ⟨xx_good7 (i := 118) rfl rfl, xx_good1 (i := 7) (by decide +kernel) (by decide +kernel), by decide +kernel, by decide +kernel, by decide +kernel⟩
theorem im_X9_openBouts : Cond.instanceMethod yX9_openBouts ∈ xx_T := xx_good7 (i := 116) (by decide +kernel) (by decide +kernel)
theorem se_X9_openBouts : Cond.selects yX9_openBouts.cls yX9_openBouts yX9_openBouts ∈ xx_T := xx_good7 (i := 117) (by decide +kernel) (by decide +kernel)
abbrev mX8_open : xx_M := (RX8, "open", cX8_open, 3, some .int, [])
set_option maxRecDepth 100000 in
theorem cal_X8_open : xx_Cal yX8_open mX8_open 0 := ⟨xx_good7 (i := 122) rfl rfl, xx_good1 (i := 9) (by decide +kernel) (by decide +kernel), by decide +kernel, by decide +kernel, by decide +kernel⟩
theorem im_X8_open : Cond.instanceMethod yX8_open ∈ xx_T := xx_good7 (i := 120) (by decide +kernel) (by decide +kernel)
theorem se_X8_open : Cond.selects yX8_open.cls yX8_open yX8_open ∈ xx_T := xx_good7 (i := 121) (by decide +kernel) (by decide +kernel)
abbrev mX9_strengthOf : xx_M := (RX9, "strengthOf", cX9_strengthOf, 2, some .int, [])
set_option maxRecDepth 100000 in
theorem cal_X9_strengthOf : xx_Cal yX9_strengthOf mX9_strengthOf 1 := ⟨xx_good7 (i := 126) rfl rfl, xx_good1 (i := 7) (by decide +kernel) (by decide +kernel), by decide +kernel, by decide +kernel, by decide +kernel⟩
theorem im_X9_strengthOf : Cond.instanceMethod yX9_strengthOf ∈ xx_T := xx_good7 (i := 124) (by decide +kernel) (by decide +kernel)
theorem se_X9_strengthOf : Cond.selects yX9_strengthOf.cls yX9_strengthOf yX9_strengthOf ∈ xx_T := xx_good7 (i := 125) (by decide +kernel) (by decide +kernel)
abbrev mX9_of : xx_M := (RX9, "of", cX9_of, 3, some .int, [])
set_option maxRecDepth 100000 in
theorem cal_X9_of : xx_Cal yX9_of mX9_of 2 := ⟨xx_good7 (i := 130) rfl rfl, xx_good1 (i := 7) (by decide +kernel) (by decide +kernel), by decide +kernel, by decide +kernel, by decide +kernel⟩
theorem im_X9_of : Cond.instanceMethod yX9_of ∈ xx_T := xx_good7 (i := 129) (by decide +kernel) (by decide +kernel)
theorem se_X9_of : Cond.selects yX9_of.cls yX9_of yX9_of ∈ xx_T := xx_good (i := 87) (by decide +kernel) (by decide +kernel)
abbrev mX9_isOne : xx_M := (RX9, "isOne", cX9_isOne, 2, some .boolean, [])
set_option maxRecDepth 100000 in
theorem cal_X9_isOne : xx_Cal yX9_isOne mX9_isOne 1 := ⟨xx_good7 (i := 134) rfl rfl, xx_good1 (i := 7) (by decide +kernel) (by decide +kernel), by decide +kernel, by decide +kernel, by decide +kernel⟩
theorem im_X9_isOne : Cond.instanceMethod yX9_isOne ∈ xx_T := xx_good7 (i := 133) (by decide +kernel) (by decide +kernel)
theorem se_X9_isOne : Cond.selects yX9_isOne.cls yX9_isOne yX9_isOne ∈ xx_T := xx_good (i := 88) (by decide +kernel) (by decide +kernel)
abbrev mX9_pointsOf : xx_M := (RX9, "pointsOf", cX9_pointsOf, 2, some .int, [])
set_option maxRecDepth 100000 in
theorem cal_X9_pointsOf : xx_Cal yX9_pointsOf mX9_pointsOf 1 := ⟨xx_good7 (i := 138) rfl rfl, xx_good1 (i := 7) (by decide +kernel) (by decide +kernel), by decide +kernel, by decide +kernel, by decide +kernel⟩
theorem im_X9_pointsOf : Cond.instanceMethod yX9_pointsOf ∈ xx_T := xx_good7 (i := 136) (by decide +kernel) (by decide +kernel)
theorem se_X9_pointsOf : Cond.selects yX9_pointsOf.cls yX9_pointsOf yX9_pointsOf ∈ xx_T := xx_good7 (i := 137) (by decide +kernel) (by decide +kernel)
abbrev mX9_winsOf : xx_M := (RX9, "winsOf", cX9_winsOf, 2, some .int, [])
set_option maxRecDepth 100000 in
theorem cal_X9_winsOf : xx_Cal yX9_winsOf mX9_winsOf 1 := ⟨xx_good7 (i := 142) rfl rfl, xx_good1 (i := 7) (by decide +kernel) (by decide +kernel), by decide +kernel, by decide +kernel, by decide +kernel⟩
theorem im_X9_winsOf : Cond.instanceMethod yX9_winsOf ∈ xx_T := xx_good7 (i := 140) (by decide +kernel) (by decide +kernel)
theorem se_X9_winsOf : Cond.selects yX9_winsOf.cls yX9_winsOf yX9_winsOf ∈ xx_T := xx_good7 (i := 141) (by decide +kernel) (by decide +kernel)
abbrev mX9_drawsOf : xx_M := (RX9, "drawsOf", cX9_drawsOf, 2, some .int, [])
set_option maxRecDepth 100000 in
theorem cal_X9_drawsOf : xx_Cal yX9_drawsOf mX9_drawsOf 1 := ⟨xx_good7 (i := 146) rfl rfl, xx_good1 (i := 7) (by decide +kernel) (by decide +kernel), by decide +kernel, by decide +kernel, by decide +kernel⟩
theorem im_X9_drawsOf : Cond.instanceMethod yX9_drawsOf ∈ xx_T := xx_good7 (i := 144) (by decide +kernel) (by decide +kernel)
theorem se_X9_drawsOf : Cond.selects yX9_drawsOf.cls yX9_drawsOf yX9_drawsOf ∈ xx_T := xx_good7 (i := 145) (by decide +kernel) (by decide +kernel)
abbrev mX9_lossesOf : xx_M := (RX9, "lossesOf", cX9_lossesOf, 2, some .int, [])
set_option maxRecDepth 100000 in
theorem cal_X9_lossesOf : xx_Cal yX9_lossesOf mX9_lossesOf 1 := ⟨xx_good7 (i := 150) rfl rfl, xx_good1 (i := 7) (by decide +kernel) (by decide +kernel), by decide +kernel, by decide +kernel, by decide +kernel⟩
theorem im_X9_lossesOf : Cond.instanceMethod yX9_lossesOf ∈ xx_T := xx_good7 (i := 148) (by decide +kernel) (by decide +kernel)
theorem se_X9_lossesOf : Cond.selects yX9_lossesOf.cls yX9_lossesOf yX9_lossesOf ∈ xx_T := xx_good7 (i := 149) (by decide +kernel) (by decide +kernel)
abbrev mX9_restsOf : xx_M := (RX9, "restsOf", cX9_restsOf, 2, some .int, [])
set_option maxRecDepth 100000 in
theorem cal_X9_restsOf : xx_Cal yX9_restsOf mX9_restsOf 1 := ⟨xx_good7 (i := 154) rfl rfl, xx_good1 (i := 7) (by decide +kernel) (by decide +kernel), by decide +kernel, by decide +kernel, by decide +kernel⟩
theorem im_X9_restsOf : Cond.instanceMethod yX9_restsOf ∈ xx_T := xx_good7 (i := 152) (by decide +kernel) (by decide +kernel)
theorem se_X9_restsOf : Cond.selects yX9_restsOf.cls yX9_restsOf yX9_restsOf ∈ xx_T := xx_good7 (i := 153) (by decide +kernel) (by decide +kernel)
abbrev mX9_beltsOf : xx_M := (RX9, "beltsOf", cX9_beltsOf, 2, some .int, [])
set_option maxRecDepth 100000 in
theorem cal_X9_beltsOf : xx_Cal yX9_beltsOf mX9_beltsOf 1 := ⟨xx_good7 (i := 158) rfl rfl, xx_good1 (i := 7) (by decide +kernel) (by decide +kernel), by decide +kernel, by decide +kernel, by decide +kernel⟩
theorem im_X9_beltsOf : Cond.instanceMethod yX9_beltsOf ∈ xx_T := xx_good7 (i := 156) (by decide +kernel) (by decide +kernel)
theorem se_X9_beltsOf : Cond.selects yX9_beltsOf.cls yX9_beltsOf yX9_beltsOf ∈ xx_T := xx_good7 (i := 157) (by decide +kernel) (by decide +kernel)
abbrev mX9_floatsOf : xx_M := (RX9, "floatsOf", cX9_floatsOf, 2, some .int, [])
set_option maxRecDepth 100000 in
theorem cal_X9_floatsOf : xx_Cal yX9_floatsOf mX9_floatsOf 1 := ⟨xx_good7 (i := 162) rfl rfl, xx_good1 (i := 7) (by decide +kernel) (by decide +kernel), by decide +kernel, by decide +kernel, by decide +kernel⟩
theorem im_X9_floatsOf : Cond.instanceMethod yX9_floatsOf ∈ xx_T := xx_good7 (i := 160) (by decide +kernel) (by decide +kernel)
theorem se_X9_floatsOf : Cond.selects yX9_floatsOf.cls yX9_floatsOf yX9_floatsOf ∈ xx_T := xx_good7 (i := 161) (by decide +kernel) (by decide +kernel)
abbrev mX9_pointsOfMet : xx_M := (RX9, "pointsOfMet", cX9_pointsOfMet, 2, some .int, [])
set_option maxRecDepth 100000 in
theorem cal_X9_pointsOfMet : xx_Cal yX9_pointsOfMet mX9_pointsOfMet 1 := ⟨xx_good7 (i := 166) rfl rfl, xx_good1 (i := 7) (by decide +kernel) (by decide +kernel), by decide +kernel, by decide +kernel, by decide +kernel⟩
theorem im_X9_pointsOfMet : Cond.instanceMethod yX9_pointsOfMet ∈ xx_T := xx_good7 (i := 164) (by decide +kernel) (by decide +kernel)
theorem se_X9_pointsOfMet : Cond.selects yX9_pointsOfMet.cls yX9_pointsOfMet yX9_pointsOfMet ∈ xx_T := xx_good7 (i := 165) (by decide +kernel) (by decide +kernel)
abbrev mX9_ofMet : xx_M := (RX9, "ofMet", cX9_ofMet, 5, some .int, [])
set_option maxRecDepth 100000 in
theorem cal_X9_ofMet : xx_Cal yX9_ofMet mX9_ofMet 2 := ⟨xx_good7 (i := 170) rfl rfl, xx_good1 (i := 7) (by decide +kernel) (by decide +kernel), by decide +kernel, by decide +kernel, by decide +kernel⟩
theorem im_X9_ofMet : Cond.instanceMethod yX9_ofMet ∈ xx_T := xx_good7 (i := 169) (by decide +kernel) (by decide +kernel)
theorem se_X9_ofMet : Cond.selects yX9_ofMet.cls yX9_ofMet yX9_ofMet ∈ xx_T := xx_good (i := 89) (by decide +kernel) (by decide +kernel)
abbrev mX8_met : xx_M := (RX8, "met", cX8_met, 3, some .int, [])
set_option maxRecDepth 100000 in
theorem cal_X8_met : xx_Cal yX8_met mX8_met 2 := ⟨xx_good7 (i := 174) rfl rfl, xx_good1 (i := 9) (by decide +kernel) (by decide +kernel), by decide +kernel, by decide +kernel, by decide +kernel⟩
theorem im_X8_met : Cond.instanceMethod yX8_met ∈ xx_T := xx_good7 (i := 172) (by decide +kernel) (by decide +kernel)
theorem se_X8_met : Cond.selects yX8_met.cls yX8_met yX8_met ∈ xx_T := xx_good7 (i := 173) (by decide +kernel) (by decide +kernel)
abbrev mX9_rankOf : xx_M := (RX9, "rankOf", cX9_rankOf, 2, some .int, [])
set_option maxRecDepth 100000 in
theorem cal_X9_rankOf : xx_Cal yX9_rankOf mX9_rankOf 1 := ⟨xx_good7 (i := 178) rfl rfl, xx_good1 (i := 7) (by decide +kernel) (by decide +kernel), by decide +kernel, by decide +kernel, by decide +kernel⟩
theorem im_X9_rankOf : Cond.instanceMethod yX9_rankOf ∈ xx_T := xx_good7 (i := 176) (by decide +kernel) (by decide +kernel)
theorem se_X9_rankOf : Cond.selects yX9_rankOf.cls yX9_rankOf yX9_rankOf ∈ xx_T := xx_good7 (i := 177) (by decide +kernel) (by decide +kernel)
abbrev mX9_rank : xx_M := (RX9, "rank", cX9_rank, 5, some .int, [])
set_option maxRecDepth 100000 in
theorem cal_X9_rank : xx_Cal yX9_rank mX9_rank 2 := ⟨xx_good7 (i := 182) rfl rfl, xx_good1 (i := 7) (by decide +kernel) (by decide +kernel), by decide +kernel, by decide +kernel, by decide +kernel⟩
theorem im_X9_rank : Cond.instanceMethod yX9_rank ∈ xx_T := xx_good7 (i := 181) (by decide +kernel) (by decide +kernel)
theorem se_X9_rank : Cond.selects yX9_rank.cls yX9_rank yX9_rank ∈ xx_T := xx_good (i := 90) (by decide +kernel) (by decide +kernel)
abbrev mX9_isAhead : xx_M := (RX9, "isAhead", cX9_isAhead, 5, some .boolean, [])
set_option maxRecDepth 100000 in
theorem cal_X9_isAhead : xx_Cal yX9_isAhead mX9_isAhead 3 := ⟨xx_good7 (i := 186) rfl rfl, xx_good1 (i := 7) (by decide +kernel) (by decide +kernel), by decide +kernel, by decide +kernel, by decide +kernel⟩
theorem im_X9_isAhead : Cond.instanceMethod yX9_isAhead ∈ xx_T := xx_good7 (i := 185) (by decide +kernel) (by decide +kernel)
theorem se_X9_isAhead : Cond.selects yX9_isAhead.cls yX9_isAhead yX9_isAhead ∈ xx_T := xx_good (i := 91) (by decide +kernel) (by decide +kernel)
abbrev mX9_isIn_ : xx_M := (RX9, "isIn", cX9_isIn_, 2, some .boolean, [])
set_option maxRecDepth 100000 in
theorem cal_X9_isIn_ : xx_Cal yX9_isIn_ mX9_isIn_ 1 := ⟨xx_good7 (i := 190) rfl rfl, xx_good1 (i := 7) (by decide +kernel) (by decide +kernel), by decide +kernel, by decide +kernel, by decide +kernel⟩
theorem im_X9_isIn_ : Cond.instanceMethod yX9_isIn_ ∈ xx_T := xx_good7 (i := 188) (by decide +kernel) (by decide +kernel)
theorem se_X9_isIn_ : Cond.selects yX9_isIn_.cls yX9_isIn_ yX9_isIn_ ∈ xx_T := xx_good7 (i := 189) (by decide +kernel) (by decide +kernel)
abbrev mX9_isNot : xx_M := (RX9, "isNot", cX9_isNot, 2, some .boolean, [])
set_option maxRecDepth 100000 in
theorem cal_X9_isNot : xx_Cal yX9_isNot mX9_isNot 1 := ⟨xx_good7 (i := 194) rfl rfl, xx_good1 (i := 7) (by decide +kernel) (by decide +kernel), by decide +kernel, by decide +kernel, by decide +kernel⟩
theorem im_X9_isNot : Cond.instanceMethod yX9_isNot ∈ xx_T := xx_good7 (i := 193) (by decide +kernel) (by decide +kernel)
theorem se_X9_isNot : Cond.selects yX9_isNot.cls yX9_isNot yX9_isNot ∈ xx_T := xx_good (i := 92) (by decide +kernel) (by decide +kernel)
abbrev mX9_wrestlerAt : xx_M := (RX9, "wrestlerAt", cX9_wrestlerAt, 2, some .int, [])
set_option maxRecDepth 100000 in
theorem cal_X9_wrestlerAt : xx_Cal yX9_wrestlerAt mX9_wrestlerAt 1 := ⟨xx_good7 (i := 198) rfl rfl, xx_good1 (i := 7) (by decide +kernel) (by decide +kernel), by decide +kernel, by decide +kernel, by decide +kernel⟩
theorem im_X9_wrestlerAt : Cond.instanceMethod yX9_wrestlerAt ∈ xx_T := xx_good7 (i := 196) (by decide +kernel) (by decide +kernel)
theorem se_X9_wrestlerAt : Cond.selects yX9_wrestlerAt.cls yX9_wrestlerAt yX9_wrestlerAt ∈ xx_T := xx_good7 (i := 197) (by decide +kernel) (by decide +kernel)
abbrev mX9_at : xx_M := (RX9, "at", cX9_at, 4, some .int, [])
set_option maxRecDepth 100000 in
theorem cal_X9_at : xx_Cal yX9_at mX9_at 2 := ⟨xx_good7 (i := 202) rfl rfl, xx_good1 (i := 7) (by decide +kernel) (by decide +kernel), by decide +kernel, by decide +kernel, by decide +kernel⟩
theorem im_X9_at : Cond.instanceMethod yX9_at ∈ xx_T := xx_good7 (i := 201) (by decide +kernel) (by decide +kernel)
theorem se_X9_at : Cond.selects yX9_at.cls yX9_at yX9_at ∈ xx_T := xx_good (i := 93) (by decide +kernel) (by decide +kernel)
abbrev mX9_timesMet : xx_M := (RX9, "timesMet", cX9_timesMet, 3, some .int, [])
set_option maxRecDepth 100000 in
theorem cal_X9_timesMet : xx_Cal yX9_timesMet mX9_timesMet 2 := ⟨xx_good7 (i := 206) rfl rfl, xx_good1 (i := 7) (by decide +kernel) (by decide +kernel), by decide +kernel, by decide +kernel, by decide +kernel⟩
theorem im_X9_timesMet : Cond.instanceMethod yX9_timesMet ∈ xx_T := xx_good7 (i := 204) (by decide +kernel) (by decide +kernel)
theorem se_X9_timesMet : Cond.selects yX9_timesMet.cls yX9_timesMet yX9_timesMet ∈ xx_T := xx_good7 (i := 205) (by decide +kernel) (by decide +kernel)
abbrev mX9_redOf : xx_M := (RX9, "redOf", cX9_redOf, 2, some .int, [])
set_option maxRecDepth 100000 in
theorem cal_X9_redOf : xx_Cal yX9_redOf mX9_redOf 1 := ⟨xx_good7 (i := 210) rfl rfl, xx_good1 (i := 7) (by decide +kernel) (by decide +kernel), by decide +kernel, by decide +kernel, by decide +kernel⟩
theorem im_X9_redOf : Cond.instanceMethod yX9_redOf ∈ xx_T := xx_good7 (i := 208) (by decide +kernel) (by decide +kernel)
theorem se_X9_redOf : Cond.selects yX9_redOf.cls yX9_redOf yX9_redOf ∈ xx_T := xx_good7 (i := 209) (by decide +kernel) (by decide +kernel)
abbrev mX9_isBout : xx_M := (RX9, "isBout", cX9_isBout, 2, some .boolean, [])
set_option maxRecDepth 100000 in
theorem cal_X9_isBout : xx_Cal yX9_isBout mX9_isBout 1 := ⟨xx_good7 (i := 214) rfl rfl, xx_good1 (i := 7) (by decide +kernel) (by decide +kernel), by decide +kernel, by decide +kernel, by decide +kernel⟩
theorem im_X9_isBout : Cond.instanceMethod yX9_isBout ∈ xx_T := xx_good7 (i := 213) (by decide +kernel) (by decide +kernel)
theorem se_X9_isBout : Cond.selects yX9_isBout.cls yX9_isBout yX9_isBout ∈ xx_T := xx_good (i := 94) (by decide +kernel) (by decide +kernel)
abbrev mX9_blueOf : xx_M := (RX9, "blueOf", cX9_blueOf, 2, some .int, [])
set_option maxRecDepth 100000 in
theorem cal_X9_blueOf : xx_Cal yX9_blueOf mX9_blueOf 1 := ⟨xx_good7 (i := 218) rfl rfl, xx_good1 (i := 7) (by decide +kernel) (by decide +kernel), by decide +kernel, by decide +kernel, by decide +kernel⟩
theorem im_X9_blueOf : Cond.instanceMethod yX9_blueOf ∈ xx_T := xx_good7 (i := 216) (by decide +kernel) (by decide +kernel)
theorem se_X9_blueOf : Cond.selects yX9_blueOf.cls yX9_blueOf yX9_blueOf ∈ xx_T := xx_good7 (i := 217) (by decide +kernel) (by decide +kernel)
abbrev mX9_outcomeOf : xx_M := (RX9, "outcomeOf", cX9_outcomeOf, 2, some .int, [])
set_option maxRecDepth 100000 in
theorem cal_X9_outcomeOf : xx_Cal yX9_outcomeOf mX9_outcomeOf 1 := ⟨xx_good7 (i := 222) rfl rfl, xx_good1 (i := 7) (by decide +kernel) (by decide +kernel), by decide +kernel, by decide +kernel, by decide +kernel⟩
theorem im_X9_outcomeOf : Cond.instanceMethod yX9_outcomeOf ∈ xx_T := xx_good7 (i := 220) (by decide +kernel) (by decide +kernel)
theorem se_X9_outcomeOf : Cond.selects yX9_outcomeOf.cls yX9_outcomeOf yX9_outcomeOf ∈ xx_T := xx_good7 (i := 221) (by decide +kernel) (by decide +kernel)
abbrev mX9_ruledOutcome : xx_M := (RX9, "ruledOutcome", cX9_ruledOutcome, 2, some .int, [])
set_option maxRecDepth 100000 in
theorem cal_X9_ruledOutcome : xx_Cal yX9_ruledOutcome mX9_ruledOutcome 1 := ⟨xx_good7 (i := 226) rfl rfl, xx_good1 (i := 7) (by decide +kernel) (by decide +kernel), by decide +kernel, by decide +kernel, by decide +kernel⟩
theorem im_X9_ruledOutcome : Cond.instanceMethod yX9_ruledOutcome ∈ xx_T := xx_good7 (i := 224) (by decide +kernel) (by decide +kernel)
theorem se_X9_ruledOutcome : Cond.selects yX9_ruledOutcome.cls yX9_ruledOutcome yX9_ruledOutcome ∈ xx_T := xx_good7 (i := 225) (by decide +kernel) (by decide +kernel)
abbrev mX9_ruled : xx_M := (RX9, "ruled", cX9_ruled, 4, some .int, [])
set_option maxRecDepth 100000 in
theorem cal_X9_ruled : xx_Cal yX9_ruled mX9_ruled 2 := ⟨xx_good7 (i := 230) rfl rfl, xx_good1 (i := 7) (by decide +kernel) (by decide +kernel), by decide +kernel, by decide +kernel, by decide +kernel⟩
theorem im_X9_ruled : Cond.instanceMethod yX9_ruled ∈ xx_T := xx_good7 (i := 229) (by decide +kernel) (by decide +kernel)
theorem se_X9_ruled : Cond.selects yX9_ruled.cls yX9_ruled yX9_ruled ∈ xx_T := xx_good (i := 95) (by decide +kernel) (by decide +kernel)
abbrev mX9_holds : xx_M := (RX9, "holds", cX9_holds, 7, some .boolean, [])
set_option maxRecDepth 100000 in
theorem cal_X9_holds : xx_Cal yX9_holds mX9_holds 3 := ⟨xx_good7 (i := 234) rfl rfl, xx_good1 (i := 7) (by decide +kernel) (by decide +kernel), by decide +kernel, by decide +kernel, by decide +kernel⟩
theorem im_X9_holds : Cond.instanceMethod yX9_holds ∈ xx_T := xx_good7 (i := 233) (by decide +kernel) (by decide +kernel)
theorem se_X9_holds : Cond.selects yX9_holds.cls yX9_holds yX9_holds ∈ xx_T := xx_good (i := 96) (by decide +kernel) (by decide +kernel)
abbrev mX9_isAsked : xx_M := (RX9, "isAsked", cX9_isAsked, 1, some .boolean, [])
set_option maxRecDepth 100000 in
theorem cal_X9_isAsked : xx_Cal yX9_isAsked mX9_isAsked 1 := ⟨xx_good7 (i := 237) rfl rfl, xx_good1 (i := 7) (by decide +kernel) (by decide +kernel), by decide +kernel, by decide +kernel, by decide +kernel⟩
theorem sm_X9_isAsked : Cond.static yX9_isAsked ∈ xx_T := xx_good7 (i := 236) (by decide +kernel) (by decide +kernel)
abbrev mX9_ask : xx_M := (RX9, "ask", cX9_ask, 6, some .int, [])
set_option maxRecDepth 100000 in
theorem cal_X9_ask : xx_Cal yX9_ask mX9_ask 4 := ⟨xx_good8 (i := 1) rfl rfl, xx_good1 (i := 7) (by decide +kernel) (by decide +kernel), by decide +kernel, by decide +kernel, by decide +kernel⟩
theorem im_X9_ask : Cond.instanceMethod yX9_ask ∈ xx_T := xx_good8 (i := 0) (by decide +kernel) (by decide +kernel)
theorem se_X9_ask : Cond.selects yX9_ask.cls yX9_ask yX9_ask ∈ xx_T := xx_good (i := 97) (by decide +kernel) (by decide +kernel)
abbrev mX9_reckon : xx_M := (RX9, "reckon", cX9_reckon, 3, some .int, [])
set_option maxRecDepth 100000 in
theorem cal_X9_reckon : xx_Cal yX9_reckon mX9_reckon 3 := ⟨xx_good8 (i := 4) rfl rfl, xx_good1 (i := 7) (by decide +kernel) (by decide +kernel), by decide +kernel, by decide +kernel, by decide +kernel⟩
theorem sm_X9_reckon : Cond.static yX9_reckon ∈ xx_T := xx_good8 (i := 3) (by decide +kernel) (by decide +kernel)
abbrev mX9_one : xx_M := (RX9, "one", cX9_one, 1, some .int, [])
set_option maxRecDepth 100000 in
theorem cal_X9_one : xx_Cal yX9_one mX9_one 1 := ⟨xx_good8 (i := 8) rfl rfl, xx_good1 (i := 7) (by decide +kernel) (by decide +kernel), by decide +kernel, by decide +kernel, by decide +kernel⟩
theorem sm_X9_one : Cond.static yX9_one ∈ xx_T := xx_good8 (i := 7) (by decide +kernel) (by decide +kernel)
abbrev mX9_opponentOf : xx_M := (RX9, "opponentOf", cX9_opponentOf, 3, some .int, [])
set_option maxRecDepth 100000 in
theorem cal_X9_opponentOf : xx_Cal yX9_opponentOf mX9_opponentOf 1 := ⟨xx_good8 (i := 12) rfl rfl, xx_good1 (i := 7) (by decide +kernel) (by decide +kernel), by decide +kernel, by decide +kernel, by decide +kernel⟩
theorem im_X9_opponentOf : Cond.instanceMethod yX9_opponentOf ∈ xx_T := xx_good8 (i := 10) (by decide +kernel) (by decide +kernel)
theorem se_X9_opponentOf : Cond.selects yX9_opponentOf.cls yX9_opponentOf yX9_opponentOf ∈ xx_T := xx_good8 (i := 11) (by decide +kernel) (by decide +kernel)
abbrev mX9_restingOne : xx_M := (RX9, "restingOne", cX9_restingOne, 1, some .int, [])
set_option maxRecDepth 100000 in
theorem cal_X9_restingOne : xx_Cal yX9_restingOne mX9_restingOne 0 := ⟨xx_good8 (i := 16) rfl rfl, xx_good1 (i := 7) (by decide +kernel) (by decide +kernel), by decide +kernel, by decide +kernel, by decide +kernel⟩
theorem im_X9_restingOne : Cond.instanceMethod yX9_restingOne ∈ xx_T := xx_good8 (i := 14) (by decide +kernel) (by decide +kernel)
theorem se_X9_restingOne : Cond.selects yX9_restingOne.cls yX9_restingOne yX9_restingOne ∈ xx_T := xx_good8 (i := 15) (by decide +kernel) (by decide +kernel)
abbrev mX9_pairRound : xx_M := (RX9, "pairRound", cX9_pairRound, 1, some .int, [])
set_option maxRecDepth 100000 in
theorem cal_X9_pairRound : xx_Cal yX9_pairRound mX9_pairRound 0 := ⟨xx_good8 (i := 20) rfl rfl, xx_good1 (i := 7) (by decide +kernel) (by decide +kernel), by decide +kernel, by decide +kernel, by decide +kernel⟩
theorem im_X9_pairRound : Cond.instanceMethod yX9_pairRound ∈ xx_T := xx_good8 (i := 18) (by decide +kernel) (by decide +kernel)
theorem se_X9_pairRound : Cond.selects yX9_pairRound.cls yX9_pairRound yX9_pairRound ∈ xx_T := xx_good8 (i := 19) (by decide +kernel) (by decide +kernel)
abbrev mX9_canPair : xx_M := (RX9, "canPair", cX9_canPair, 2, some .boolean, [])
set_option maxRecDepth 100000 in
theorem cal_X9_canPair : xx_Cal yX9_canPair mX9_canPair 1 := ⟨xx_good8 (i := 24) rfl rfl, xx_good1 (i := 7) (by decide +kernel) (by decide +kernel), by decide +kernel, by decide +kernel, by decide +kernel⟩
theorem im_X9_canPair : Cond.instanceMethod yX9_canPair ∈ xx_T := xx_good8 (i := 23) (by decide +kernel) (by decide +kernel)
theorem se_X9_canPair : Cond.selects yX9_canPair.cls yX9_canPair yX9_canPair ∈ xx_T := xx_good (i := 98) (by decide +kernel) (by decide +kernel)
abbrev mX9_pair : xx_M := (RX9, "pair", cX9_pair, 7, none, [])
set_option maxRecDepth 100000 in
theorem cal_X9_pair : xx_Cal yX9_pair mX9_pair 1 := ⟨xx_good8 (i := 28) rfl rfl, xx_good1 (i := 7) (by decide +kernel) (by decide +kernel), by decide +kernel, by decide +kernel, by decide +kernel⟩
theorem im_X9_pair : Cond.instanceMethod yX9_pair ∈ xx_T := xx_good8 (i := 27) (by decide +kernel) (by decide +kernel)
theorem se_X9_pair : Cond.selects yX9_pair.cls yX9_pair yX9_pair ∈ xx_T := xx_good (i := 99) (by decide +kernel) (by decide +kernel)
abbrev mX9_pairs : xx_M := (RX9, "pairs", cX9_pairs, 6, some .int, [])
set_option maxRecDepth 100000 in
theorem cal_X9_pairs : xx_Cal yX9_pairs mX9_pairs 1 := ⟨xx_good8 (i := 32) rfl rfl, xx_good1 (i := 7) (by decide +kernel) (by decide +kernel), by decide +kernel, by decide +kernel, by decide +kernel⟩
theorem im_X9_pairs : Cond.instanceMethod yX9_pairs ∈ xx_T := xx_good8 (i := 31) (by decide +kernel) (by decide +kernel)
theorem se_X9_pairs : Cond.selects yX9_pairs.cls yX9_pairs yX9_pairs ∈ xx_T := xx_good (i := 100) (by decide +kernel) (by decide +kernel)
abbrev mX9_layRow : xx_M := (RX9, "layRow", cX9_layRow, 4, none, [])
set_option maxRecDepth 100000 in
theorem cal_X9_layRow : xx_Cal yX9_layRow mX9_layRow 1 := ⟨xx_good8 (i := 36) rfl rfl, xx_good1 (i := 7) (by decide +kernel) (by decide +kernel), by decide +kernel, by decide +kernel, by decide +kernel⟩
theorem im_X9_layRow : Cond.instanceMethod yX9_layRow ∈ xx_T := xx_good8 (i := 35) (by decide +kernel) (by decide +kernel)
theorem se_X9_layRow : Cond.selects yX9_layRow.cls yX9_layRow yX9_layRow ∈ xx_T := xx_good (i := 101) (by decide +kernel) (by decide +kernel)
abbrev mX9_letRest : xx_M := (RX9, "letRest", cX9_letRest, 4, none, [])
set_option maxRecDepth 100000 in
theorem cal_X9_letRest : xx_Cal yX9_letRest mX9_letRest 1 := ⟨xx_good8 (i := 40) rfl rfl, xx_good1 (i := 7) (by decide +kernel) (by decide +kernel), by decide +kernel, by decide +kernel, by decide +kernel⟩
theorem im_X9_letRest : Cond.instanceMethod yX9_letRest ∈ xx_T := xx_good8 (i := 39) (by decide +kernel) (by decide +kernel)
theorem se_X9_letRest : Cond.selects yX9_letRest.cls yX9_letRest yX9_letRest ∈ xx_T := xx_good (i := 102) (by decide +kernel) (by decide +kernel)
abbrev mJ6_bitCount_0f7a4 : xx_M := (RJ6, "bitCount", cJ6_bitCount_0f7a4, 1, some .int, [])
set_option maxRecDepth 100000 in
theorem cal_J6_bitCount_0f7a4 : xx_Cal yJ6_bitCount_0f7a4 mJ6_bitCount_0f7a4 1 := ⟨xx_good8 (i := 43) rfl rfl, xx_good1 (i := 25) (by decide +kernel) (by decide +kernel), by decide +kernel, by decide +kernel, by decide +kernel⟩
theorem sm_J6_bitCount_0f7a4 : Cond.static yJ6_bitCount_0f7a4 ∈ xx_T := xx_good8 (i := 42) (by decide +kernel) (by decide +kernel)
abbrev mX9_partner : xx_M := (RX9, "partner", cX9_partner, 8, some .int, [])
set_option maxRecDepth 100000 in
theorem cal_X9_partner : xx_Cal yX9_partner mX9_partner 2 := ⟨xx_good8 (i := 50) rfl rfl, xx_good1 (i := 7) (by decide +kernel) (by decide +kernel), by decide +kernel, by decide +kernel, by decide +kernel⟩
theorem im_X9_partner : Cond.instanceMethod yX9_partner ∈ xx_T := xx_good8 (i := 49) (by decide +kernel) (by decide +kernel)
theorem se_X9_partner : Cond.selects yX9_partner.cls yX9_partner yX9_partner ∈ xx_T := xx_good (i := 103) (by decide +kernel) (by decide +kernel)
abbrev mX9_lowest : xx_M := (RX9, "lowest", cX9_lowest, 3, some .int, [])
set_option maxRecDepth 100000 in
theorem cal_X9_lowest : xx_Cal yX9_lowest mX9_lowest 1 := ⟨xx_good8 (i := 54) rfl rfl, xx_good1 (i := 7) (by decide +kernel) (by decide +kernel), by decide +kernel, by decide +kernel, by decide +kernel⟩
theorem im_X9_lowest : Cond.instanceMethod yX9_lowest ∈ xx_T := xx_good8 (i := 53) (by decide +kernel) (by decide +kernel)
theorem se_X9_lowest : Cond.selects yX9_lowest.cls yX9_lowest yX9_lowest ∈ xx_T := xx_good (i := 104) (by decide +kernel) (by decide +kernel)
abbrev mX9_rematch : xx_M := (RX9, "rematch", cX9_rematch, 4, some .int, [])
set_option maxRecDepth 100000 in
theorem cal_X9_rematch : xx_Cal yX9_rematch mX9_rematch 3 := ⟨xx_good8 (i := 58) rfl rfl, xx_good1 (i := 7) (by decide +kernel) (by decide +kernel), by decide +kernel, by decide +kernel, by decide +kernel⟩
theorem im_X9_rematch : Cond.instanceMethod yX9_rematch ∈ xx_T := xx_good8 (i := 57) (by decide +kernel) (by decide +kernel)
theorem se_X9_rematch : Cond.selects yX9_rematch.cls yX9_rematch yX9_rematch ∈ xx_T := xx_good (i := 105) (by decide +kernel) (by decide +kernel)
abbrev mX9_isFirstRed : xx_M := (RX9, "isFirstRed", cX9_isFirstRed, 4, some .boolean, [])
set_option maxRecDepth 100000 in
theorem cal_X9_isFirstRed : xx_Cal yX9_isFirstRed mX9_isFirstRed 3 := ⟨xx_good8 (i := 62) rfl rfl, xx_good1 (i := 7) (by decide +kernel) (by decide +kernel), by decide +kernel, by decide +kernel, by decide +kernel⟩
theorem im_X9_isFirstRed : Cond.instanceMethod yX9_isFirstRed ∈ xx_T := xx_good8 (i := 61) (by decide +kernel) (by decide +kernel)
theorem se_X9_isFirstRed : Cond.selects yX9_isFirstRed.cls yX9_isFirstRed yX9_isFirstRed ∈ xx_T := xx_good (i := 106) (by decide +kernel) (by decide +kernel)
abbrev mX9_giveBelts : xx_M := (RX9, "giveBelts", cX9_giveBelts, 4, none, [])
set_option maxRecDepth 100000 in
theorem cal_X9_giveBelts : xx_Cal yX9_giveBelts mX9_giveBelts 3 := ⟨xx_good8 (i := 66) rfl rfl, xx_good1 (i := 7) (by decide +kernel) (by decide +kernel), by decide +kernel, by decide +kernel, by decide +kernel⟩
theorem im_X9_giveBelts : Cond.instanceMethod yX9_giveBelts ∈ xx_T := xx_good8 (i := 65) (by decide +kernel) (by decide +kernel)
theorem se_X9_giveBelts : Cond.selects yX9_giveBelts.cls yX9_giveBelts yX9_giveBelts ∈ xx_T := xx_good (i := 107) (by decide +kernel) (by decide +kernel)
abbrev mX8_meet : xx_M := (RX8, "meet", cX8_meet, 3, none, [])
set_option maxRecDepth 100000 in
theorem cal_X8_meet : xx_Cal yX8_meet mX8_meet 2 := ⟨xx_good8 (i := 70) rfl rfl, xx_good1 (i := 9) (by decide +kernel) (by decide +kernel), by decide +kernel, by decide +kernel, by decide +kernel⟩
theorem im_X8_meet : Cond.instanceMethod yX8_meet ∈ xx_T := xx_good8 (i := 68) (by decide +kernel) (by decide +kernel)
theorem se_X8_meet : Cond.selects yX8_meet.cls yX8_meet yX8_meet ∈ xx_T := xx_good8 (i := 69) (by decide +kernel) (by decide +kernel)
abbrev mX9_tell_ : xx_M := (RX9, "tell", cX9_tell_, 3, some .int, [])
set_option maxRecDepth 100000 in
theorem cal_X9_tell_ : xx_Cal yX9_tell_ mX9_tell_ 2 := ⟨xx_good8 (i := 74) rfl rfl, xx_good1 (i := 7) (by decide +kernel) (by decide +kernel), by decide +kernel, by decide +kernel, by decide +kernel⟩
theorem im_X9_tell_ : Cond.instanceMethod yX9_tell_ ∈ xx_T := xx_good8 (i := 72) (by decide +kernel) (by decide +kernel)
theorem se_X9_tell_ : Cond.selects yX9_tell_.cls yX9_tell_ yX9_tell_ ∈ xx_T := xx_good8 (i := 73) (by decide +kernel) (by decide +kernel)
abbrev mX9_tell : xx_M := (RX9, "tell", cX9_tell, 6, none, [])
set_option maxRecDepth 100000 in
theorem cal_X9_tell : xx_Cal yX9_tell mX9_tell 3 := ⟨xx_good8 (i := 78) rfl rfl, xx_good1 (i := 7) (by decide +kernel) (by decide +kernel), by decide +kernel, by decide +kernel, by decide +kernel⟩
theorem im_X9_tell : Cond.instanceMethod yX9_tell ∈ xx_T := xx_good8 (i := 77) (by decide +kernel) (by decide +kernel)
theorem se_X9_tell : Cond.selects yX9_tell.cls yX9_tell yX9_tell ∈ xx_T := xx_good (i := 108) (by decide +kernel) (by decide +kernel)
abbrev mX9_tellByRules : xx_M := (RX9, "tellByRules", cX9_tellByRules, 1, some .int, [])
set_option maxRecDepth 100000 in
theorem cal_X9_tellByRules : xx_Cal yX9_tellByRules mX9_tellByRules 0 := ⟨xx_good8 (i := 82) rfl rfl, xx_good1 (i := 7) (by decide +kernel) (by decide +kernel), by decide +kernel, by decide +kernel, by decide +kernel⟩
theorem im_X9_tellByRules : Cond.instanceMethod yX9_tellByRules ∈ xx_T := xx_good8 (i := 80) (by decide +kernel) (by decide +kernel)
theorem se_X9_tellByRules : Cond.selects yX9_tellByRules.cls yX9_tellByRules yX9_tellByRules ∈ xx_T := xx_good8 (i := 81) (by decide +kernel) (by decide +kernel)
abbrev mX9_tellAll : xx_M := (RX9, "tellAll", cX9_tellAll, 5, some .int, [])
set_option maxRecDepth 100000 in
theorem cal_X9_tellAll : xx_Cal yX9_tellAll mX9_tellAll 1 := ⟨xx_good8 (i := 86) rfl rfl, xx_good1 (i := 7) (by decide +kernel) (by decide +kernel), by decide +kernel, by decide +kernel, by decide +kernel⟩
theorem im_X9_tellAll : Cond.instanceMethod yX9_tellAll ∈ xx_T := xx_good8 (i := 85) (by decide +kernel) (by decide +kernel)
theorem se_X9_tellAll : Cond.selects yX9_tellAll.cls yX9_tellAll yX9_tellAll ∈ xx_T := xx_good (i := 109) (by decide +kernel) (by decide +kernel)
abbrev mX9_turnIn : xx_M := (RX9, "turnIn", cX9_turnIn, 2, some .boolean, [])
set_option maxRecDepth 100000 in
theorem cal_X9_turnIn : xx_Cal yX9_turnIn mX9_turnIn 1 := ⟨xx_good8 (i := 90) rfl rfl, xx_good1 (i := 7) (by decide +kernel) (by decide +kernel), by decide +kernel, by decide +kernel, by decide +kernel⟩
theorem im_X9_turnIn : Cond.instanceMethod yX9_turnIn ∈ xx_T := xx_good8 (i := 88) (by decide +kernel) (by decide +kernel)
theorem se_X9_turnIn : Cond.selects yX9_turnIn.cls yX9_turnIn yX9_turnIn ∈ xx_T := xx_good8 (i := 89) (by decide +kernel) (by decide +kernel)
abbrev mX9_nextOpponentOf : xx_M := (RX9, "nextOpponentOf", cX9_nextOpponentOf, 2, some .int, [])
set_option maxRecDepth 100000 in
theorem cal_X9_nextOpponentOf : xx_Cal yX9_nextOpponentOf mX9_nextOpponentOf 1 := ⟨xx_good8 (i := 94) rfl rfl, xx_good1 (i := 7) (by decide +kernel) (by decide +kernel), by decide +kernel, by decide +kernel, by decide +kernel⟩
theorem im_X9_nextOpponentOf : Cond.instanceMethod yX9_nextOpponentOf ∈ xx_T := xx_good8 (i := 92) (by decide +kernel) (by decide +kernel)
theorem se_X9_nextOpponentOf : Cond.selects yX9_nextOpponentOf.cls yX9_nextOpponentOf yX9_nextOpponentOf ∈ xx_T := xx_good8 (i := 93) (by decide +kernel) (by decide +kernel)
abbrev mX9_nextOf : xx_M := (RX9, "nextOf", cX9_nextOf, 4, some .int, [])
set_option maxRecDepth 100000 in
theorem cal_X9_nextOf : xx_Cal yX9_nextOf mX9_nextOf 1 := ⟨xx_good8 (i := 98) rfl rfl, xx_good1 (i := 7) (by decide +kernel) (by decide +kernel), by decide +kernel, by decide +kernel, by decide +kernel⟩
theorem im_X9_nextOf : Cond.instanceMethod yX9_nextOf ∈ xx_T := xx_good8 (i := 97) (by decide +kernel) (by decide +kernel)
theorem se_X9_nextOf : Cond.selects yX9_nextOf.cls yX9_nextOf yX9_nextOf ∈ xx_T := xx_good (i := 110) (by decide +kernel) (by decide +kernel)
abbrev mX9_nextRematches : xx_M := (RX9, "nextRematches", cX9_nextRematches, 4, some .int, [])
set_option maxRecDepth 100000 in
theorem cal_X9_nextRematches : xx_Cal yX9_nextRematches mX9_nextRematches 0 := ⟨xx_good8 (i := 102) rfl rfl, xx_good1 (i := 7) (by decide +kernel) (by decide +kernel), by decide +kernel, by decide +kernel, by decide +kernel⟩
theorem im_X9_nextRematches : Cond.instanceMethod yX9_nextRematches ∈ xx_T := xx_good8 (i := 100) (by decide +kernel) (by decide +kernel)
theorem se_X9_nextRematches : Cond.selects yX9_nextRematches.cls yX9_nextRematches yX9_nextRematches ∈ xx_T := xx_good8 (i := 101) (by decide +kernel) (by decide +kernel)
abbrev mX9_leaderAfter : xx_M := (RX9, "leaderAfter", cX9_leaderAfter, 2, some .int, [])
set_option maxRecDepth 100000 in
theorem cal_X9_leaderAfter : xx_Cal yX9_leaderAfter mX9_leaderAfter 1 := ⟨xx_good8 (i := 106) rfl rfl, xx_good1 (i := 7) (by decide +kernel) (by decide +kernel), by decide +kernel, by decide +kernel, by decide +kernel⟩
theorem im_X9_leaderAfter : Cond.instanceMethod yX9_leaderAfter ∈ xx_T := xx_good8 (i := 104) (by decide +kernel) (by decide +kernel)
theorem se_X9_leaderAfter : Cond.selects yX9_leaderAfter.cls yX9_leaderAfter yX9_leaderAfter ∈ xx_T := xx_good8 (i := 105) (by decide +kernel) (by decide +kernel)
abbrev mX9_goAhead : xx_M := (RX9, "goAhead", cX9_goAhead, 3, none, [])
set_option maxRecDepth 100000 in
theorem cal_X9_goAhead : xx_Cal yX9_goAhead mX9_goAhead 1 := ⟨xx_good8 (i := 110) rfl rfl, xx_good1 (i := 7) (by decide +kernel) (by decide +kernel), by decide +kernel, by decide +kernel, by decide +kernel⟩
theorem im_X9_goAhead : Cond.instanceMethod yX9_goAhead ∈ xx_T := xx_good8 (i := 109) (by decide +kernel) (by decide +kernel)
theorem se_X9_goAhead : Cond.selects yX9_goAhead.cls yX9_goAhead yX9_goAhead ∈ xx_T := xx_good (i := 111) (by decide +kernel) (by decide +kernel)
abbrev mX8_become : xx_M := (RX8, "become", cX8_become, 2, none, [])
set_option maxRecDepth 100000 in
theorem cal_X8_become : xx_Cal yX8_become mX8_become 1 := ⟨xx_good8 (i := 114) rfl rfl, xx_good1 (i := 9) (by decide +kernel) (by decide +kernel), by decide +kernel, by decide +kernel, by decide +kernel⟩
theorem im_X8_become : Cond.instanceMethod yX8_become ∈ xx_T := xx_good8 (i := 112) (by decide +kernel) (by decide +kernel)
theorem se_X8_become : Cond.selects yX8_become.cls yX8_become yX8_become ∈ xx_T := xx_good8 (i := 113) (by decide +kernel) (by decide +kernel)
abbrev mX9_pointsAfter : xx_M := (RX9, "pointsAfter", cX9_pointsAfter, 3, some .int, [])
set_option maxRecDepth 100000 in
theorem cal_X9_pointsAfter : xx_Cal yX9_pointsAfter mX9_pointsAfter 2 := ⟨xx_good8 (i := 119) rfl rfl, xx_good1 (i := 7) (by decide +kernel) (by decide +kernel), by decide +kernel, by decide +kernel, by decide +kernel⟩
theorem im_X9_pointsAfter : Cond.instanceMethod yX9_pointsAfter ∈ xx_T := xx_good8 (i := 117) (by decide +kernel) (by decide +kernel)
theorem se_X9_pointsAfter : Cond.selects yX9_pointsAfter.cls yX9_pointsAfter yX9_pointsAfter ∈ xx_T := xx_good8 (i := 118) (by decide +kernel) (by decide +kernel)
abbrev mX9_meanPoints : xx_M := (RX9, "meanPoints", cX9_meanPoints, 3, some .double, [])
set_option maxRecDepth 100000 in
theorem cal_X9_meanPoints : xx_Cal yX9_meanPoints mX9_meanPoints 0 := ⟨xx_good8 (i := 123) rfl rfl, xx_good1 (i := 7) (by decide +kernel) (by decide +kernel), by decide +kernel, by decide +kernel, by decide +kernel⟩
theorem im_X9_meanPoints : Cond.instanceMethod yX9_meanPoints ∈ xx_T := xx_good8 (i := 121) (by decide +kernel) (by decide +kernel)
theorem se_X9_meanPoints : Cond.selects yX9_meanPoints.cls yX9_meanPoints yX9_meanPoints ∈ xx_T := xx_good8 (i := 122) (by decide +kernel) (by decide +kernel)
abbrev mX9_digest : xx_M := (RX9, "digest", cX9_digest, 8, some .long, [])
set_option maxRecDepth 100000 in
theorem cal_X9_digest : xx_Cal yX9_digest mX9_digest 0 := ⟨xx_good8 (i := 127) rfl rfl, xx_good1 (i := 7) (by decide +kernel) (by decide +kernel), by decide +kernel, by decide +kernel, by decide +kernel⟩
theorem im_X9_digest : Cond.instanceMethod yX9_digest ∈ xx_T := xx_good8 (i := 125) (by decide +kernel) (by decide +kernel)
theorem se_X9_digest : Cond.selects yX9_digest.cls yX9_digest yX9_digest ∈ xx_T := xx_good8 (i := 126) (by decide +kernel) (by decide +kernel)
abbrev mX9_digestOne : xx_M := (RX9, "digestOne", cX9_digestOne, 11, some .long, [])
set_option maxRecDepth 100000 in
theorem cal_X9_digestOne : xx_Cal yX9_digestOne mX9_digestOne 2 := ⟨xx_good8 (i := 133) rfl rfl, xx_good1 (i := 7) (by decide +kernel) (by decide +kernel), by decide +kernel, by decide +kernel, by decide +kernel⟩
theorem im_X9_digestOne : Cond.instanceMethod yX9_digestOne ∈ xx_T := xx_good8 (i := 132) (by decide +kernel) (by decide +kernel)
theorem se_X9_digestOne : Cond.selects yX9_digestOne.cls yX9_digestOne yX9_digestOne ∈ xx_T := xx_good (i := 112) (by decide +kernel) (by decide +kernel)
theorem in_BeltRoundsLaw : Cond.initialized "BeltRoundsLaw" ∈ xx_T := xx_good1 (i := 0) (by decide +kernel) (by decide +kernel)
theorem in_BeltRounds : Cond.initialized RX6 ∈ xx_T := xx_good1 (i := 1) (by decide +kernel) (by decide +kernel)
theorem in_BeltRounds_Reader : Cond.initialized RX2 ∈ xx_T := xx_good1 (i := 2) (by decide +kernel) (by decide +kernel)
theorem in_BeltRounds_Tape : Cond.initialized RX5 ∈ xx_T := xx_good1 (i := 3) (by decide +kernel) (by decide +kernel)
theorem in_BeltRounds_Rules : Cond.initialized RX3 ∈ xx_T := xx_good1 (i := 4) (by decide +kernel) (by decide +kernel)
theorem in_BeltRounds_Field : Cond.initialized RX0 ∈ xx_T := xx_good1 (i := 5) (by decide +kernel) (by decide +kernel)
theorem in_BeltRounds_Pairing : Cond.initialized RX1 ∈ xx_T := xx_good1 (i := 6) (by decide +kernel) (by decide +kernel)
theorem in_BeltRoundsModel : Cond.initialized RX9 ∈ xx_T := xx_good1 (i := 7) (by decide +kernel) (by decide +kernel)
theorem in_BeltRoundsModel_Plan : Cond.initialized RX7 ∈ xx_T := xx_good1 (i := 8) (by decide +kernel) (by decide +kernel)
theorem in_BeltRoundsModel_State : Cond.initialized RX8 ∈ xx_T := xx_good1 (i := 9) (by decide +kernel) (by decide +kernel)
theorem in_java_lang_Throwable : Cond.initialized "java/lang/Throwable" ∈ xx_T := xx_good1 (i := 10) (by decide +kernel) (by decide +kernel)
theorem in_java_lang_Exception : Cond.initialized "java/lang/Exception" ∈ xx_T := xx_good1 (i := 11) (by decide +kernel) (by decide +kernel)
theorem in_java_lang_RuntimeException : Cond.initialized "java/lang/RuntimeException" ∈ xx_T := xx_good1 (i := 12) (by decide +kernel) (by decide +kernel)
theorem in_java_lang_IllegalStateException : Cond.initialized "java/lang/IllegalStateException" ∈ xx_T := xx_good1 (i := 13) (by decide +kernel) (by decide +kernel)
theorem in_java_lang_IllegalArgumentException : Cond.initialized "java/lang/IllegalArgumentException" ∈ xx_T := xx_good1 (i := 14) (by decide +kernel) (by decide +kernel)
theorem in_java_lang_Math : Cond.initialized "java/lang/Math" ∈ xx_T := xx_good1 (i := 15) (by decide +kernel) (by decide +kernel)
theorem in_java_lang_Enum : Cond.initialized "java/lang/Enum" ∈ xx_T := xx_good1 (i := 16) (by decide +kernel) (by decide +kernel)
theorem in_BeltRounds_Sign : Cond.initialized RX4 ∈ xx_T := xx_good1 (i := 17) (by decide +kernel) (by decide +kernel)
theorem in_java_lang_String : Cond.initialized "java/lang/String" ∈ xx_T := xx_good1 (i := 18) (by decide +kernel) (by decide +kernel)
theorem in_java_lang_StringLatin1 : Cond.initialized "java/lang/StringLatin1" ∈ xx_T := xx_good1 (i := 19) (by decide +kernel) (by decide +kernel)
theorem in_jdk_internal_util_Preconditions : Cond.initialized "jdk/internal/util/Preconditions" ∈ xx_T := xx_good1 (i := 20) (by decide +kernel) (by decide +kernel)
theorem in_java_lang_StringUTF16 : Cond.initialized "java/lang/StringUTF16" ∈ xx_T := xx_good1 (i := 21) (by decide +kernel) (by decide +kernel)
theorem in_java_lang_System : Cond.initialized "java/lang/System" ∈ xx_T := xx_good1 (i := 22) (by decide +kernel) (by decide +kernel)
theorem in_java_util_Arrays : Cond.initialized "java/util/Arrays" ∈ xx_T := xx_good1 (i := 23) (by decide +kernel) (by decide +kernel)
theorem in_java_lang_IndexOutOfBoundsException : Cond.initialized "java/lang/IndexOutOfBoundsException" ∈ xx_T := xx_good1 (i := 24) (by decide +kernel) (by decide +kernel)
theorem in_java_lang_Integer : Cond.initialized "java/lang/Integer" ∈ xx_T := xx_good1 (i := 25) (by decide +kernel) (by decide +kernel)
theorem cl_L_8 : Cond.classLink RL 8 RX6 ∈ xx_T := xx_good1 (i := 26) (by decide +kernel) (by decide +kernel)
theorem ins_BeltRounds : Cond.instantiable RX6 6 ∈ xx_T := xx_good1 (i := 27) (by decide +kernel) (by decide +kernel)
theorem ml_L_107 : Cond.methodLink RL 107 yX6_init ∈ xx_T := xx_good1 (i := 28) (by decide +kernel) (by decide +kernel)
theorem ml_X6_1 : Cond.methodLink RX6 1 objectInit ∈ xx_T := xx_good1 (i := 31) (by decide +kernel) (by decide +kernel)
theorem cl_X6_7 : Cond.classLink RX6 7 RX2 ∈ xx_T := xx_good1 (i := 34) (by decide +kernel) (by decide +kernel)
theorem ins_BeltRounds_Reader : Cond.instantiable RX2 9 ∈ xx_T := xx_good1 (i := 35) (by decide +kernel) (by decide +kernel)
theorem ml_X6_9 : Cond.methodLinkNest RX6 9 yX2_init "BeltRounds" ∈ xx_N := xx_oddin (i := 149) (by decide +kernel) (by decide +kernel)
theorem ml_X2_3 : Cond.methodLink RX2 3 objectInit ∈ xx_T := xx_good1 (i := 39) (by decide +kernel) (by decide +kernel)
theorem cl_X2_9 : Cond.classLink RX2 9 RX5 ∈ xx_T := xx_good1 (i := 40) (by decide +kernel) (by decide +kernel)
theorem ins_BeltRounds_Tape : Cond.instantiable RX5 6 ∈ xx_T := xx_good1 (i := 41) (by decide +kernel) (by decide +kernel)
theorem ml_X2_11 : Cond.methodLinkNest RX2 11 yX5_init "BeltRounds" ∈ xx_N := xx_oddin (i := 155) (by decide +kernel) (by decide +kernel)
theorem ml_X5_3 : Cond.methodLink RX5 3 objectInit ∈ xx_T := xx_good1 (i := 45) (by decide +kernel) (by decide +kernel)
theorem cl_X5_19 : Cond.classLink RX5 19 "BeltRounds$Sign" ∈ xx_T := xx_good1 (i := 46) (by decide +kernel) (by decide +kernel)
theorem fl_X5_9 : xx_Fl RX5 9 4 0 := ⟨RX5, TX5, 6, tyX5, k_4, by decide, Or.inl (xx_good1 (i := 48) (by decide +kernel) (by decide +kernel))⟩
theorem ff_X5_9 : xx_Ff RX5 9 4 0 (.array .byte) := ⟨RX5, TX5, 6, tyX5, k_4, by decide, rfl, rfl, by decide +kernel, xx_good1 (i := 48) (by decide +kernel) (by decide +kernel)⟩
theorem fl_X5_15 : xx_Fl RX5 15 4 1 := ⟨RX5, TX5, 6, tyX5, k_4, by decide, Or.inl (xx_good1 (i := 49) (by decide +kernel) (by decide +kernel))⟩
theorem fp_X5_15 : xx_Fp RX5 15 4 1 (.int) := ⟨RX5, TX5, 6, tyX5, k_4, by decide, rfl, by decide +kernel, Or.inl (xx_good1 (i := 49) (by decide +kernel) (by decide +kernel))⟩
theorem fl_X6_45 : xx_Fl RX6 45 4 1 := ⟨RX5, TX5, 6, tyX5, k_4, by decide, Or.inr ⟨"BeltRounds", xx_oddin (i := 163) (by decide +kernel) (by decide +kernel)⟩⟩
theorem fp_X6_45 : xx_Fp RX6 45 4 1 (.int) := ⟨RX5, TX5, 6, tyX5, k_4, by decide, rfl, by decide +kernel, Or.inr ⟨"BeltRounds", xx_oddin (i := 163) (by decide +kernel) (by decide +kernel)⟩⟩
theorem fl_X5_21 : xx_Fl RX5 21 4 2 := ⟨RX5, TX5, 6, tyX5, k_4, by decide, Or.inl (xx_good1 (i := 51) (by decide +kernel) (by decide +kernel))⟩
theorem ff_X5_21 : xx_Ff RX5 21 4 2 (.array (.object "BeltRounds$Sign")) := ⟨RX5, TX5, 6, tyX5, k_4, by decide, rfl, rfl, by decide +kernel, xx_good1 (i := 51) (by decide +kernel) (by decide +kernel)⟩
theorem fl_X2_276 : xx_Fl RX2 276 4 2 := ⟨RX5, TX5, 6, tyX5, k_4, by decide, Or.inr ⟨"BeltRounds", xx_oddin (i := 165) (by decide +kernel) (by decide +kernel)⟩⟩
theorem fl_X5_25 : xx_Fl RX5 25 4 3 := ⟨RX5, TX5, 6, tyX5, k_4, by decide, Or.inl (xx_good1 (i := 53) (by decide +kernel) (by decide +kernel))⟩
theorem ff_X5_25 : xx_Ff RX5 25 4 3 (.array .int) := ⟨RX5, TX5, 6, tyX5, k_4, by decide, rfl, rfl, by decide +kernel, xx_good1 (i := 53) (by decide +kernel) (by decide +kernel)⟩
theorem fl_X5_29 : xx_Fl RX5 29 4 4 := ⟨RX5, TX5, 6, tyX5, k_4, by decide, Or.inl (xx_good1 (i := 54) (by decide +kernel) (by decide +kernel))⟩
theorem ff_X5_29 : xx_Ff RX5 29 4 4 (.array .int) := ⟨RX5, TX5, 6, tyX5, k_4, by decide, rfl, rfl, by decide +kernel, xx_good1 (i := 54) (by decide +kernel) (by decide +kernel)⟩
theorem fl_X5_32 : xx_Fl RX5 32 4 5 := ⟨RX5, TX5, 6, tyX5, k_4, by decide, Or.inl (xx_good1 (i := 55) (by decide +kernel) (by decide +kernel))⟩
theorem fp_X5_32 : xx_Fp RX5 32 4 5 (.int) := ⟨RX5, TX5, 6, tyX5, k_4, by decide, rfl, by decide +kernel, Or.inl (xx_good1 (i := 55) (by decide +kernel) (by decide +kernel))⟩
theorem fl_X2_273 : xx_Fl RX2 273 4 5 := ⟨RX5, TX5, 6, tyX5, k_4, by decide, Or.inr ⟨"BeltRounds", xx_oddin (i := 169) (by decide +kernel) (by decide +kernel)⟩⟩
theorem fp_X2_273 : xx_Fp RX2 273 4 5 (.int) := ⟨RX5, TX5, 6, tyX5, k_4, by decide, rfl, by decide +kernel, Or.inr ⟨"BeltRounds", xx_oddin (i := 169) (by decide +kernel) (by decide +kernel)⟩⟩
theorem ac_byte : Cond.arrayClass .byte ∈ xx_T := xx_good1 (i := 70) (by decide +kernel) (by decide +kernel)
theorem ac_int : Cond.arrayClass .int ∈ xx_T := xx_good1 (i := 71) (by decide +kernel) (by decide +kernel)
theorem cl_X2_18 : Cond.classLink RX2 18 RX3 ∈ xx_T := xx_good1 (i := 72) (by decide +kernel) (by decide +kernel)
theorem ins_BeltRounds_Rules : Cond.instantiable RX3 8 ∈ xx_T := xx_good1 (i := 73) (by decide +kernel) (by decide +kernel)
theorem ml_X2_20 : Cond.methodLinkNest RX2 20 yX3_init "BeltRounds" ∈ xx_N := xx_oddin (i := 187) (by decide +kernel) (by decide +kernel)
theorem ml_X3_3 : Cond.methodLink RX3 3 objectInit ∈ xx_T := xx_good1 (i := 77) (by decide +kernel) (by decide +kernel)
theorem fl_X3_9 : xx_Fl RX3 9 3 0 := ⟨RX3, TX3, 8, tyX3, k_3, by decide, Or.inl (xx_good1 (i := 78) (by decide +kernel) (by decide +kernel))⟩
theorem fp_X3_9 : xx_Fp RX3 9 3 0 (.int) := ⟨RX3, TX3, 8, tyX3, k_3, by decide, rfl, by decide +kernel, Or.inl (xx_good1 (i := 78) (by decide +kernel) (by decide +kernel))⟩
theorem fl_X2_120 : xx_Fl RX2 120 3 0 := ⟨RX3, TX3, 8, tyX3, k_3, by decide, Or.inr ⟨"BeltRounds", xx_oddin (i := 192) (by decide +kernel) (by decide +kernel)⟩⟩
theorem fp_X2_120 : xx_Fp RX2 120 3 0 (.int) := ⟨RX3, TX3, 8, tyX3, k_3, by decide, rfl, by decide +kernel, Or.inr ⟨"BeltRounds", xx_oddin (i := 192) (by decide +kernel) (by decide +kernel)⟩⟩
theorem fl_X6_97 : xx_Fl RX6 97 3 0 := ⟨RX3, TX3, 8, tyX3, k_3, by decide, Or.inr ⟨"BeltRounds", xx_oddin (i := 193) (by decide +kernel) (by decide +kernel)⟩⟩
theorem fp_X6_97 : xx_Fp RX6 97 3 0 (.int) := ⟨RX3, TX3, 8, tyX3, k_3, by decide, rfl, by decide +kernel, Or.inr ⟨"BeltRounds", xx_oddin (i := 193) (by decide +kernel) (by decide +kernel)⟩⟩
theorem fl_X3_15 : xx_Fl RX3 15 3 1 := ⟨RX3, TX3, 8, tyX3, k_3, by decide, Or.inl (xx_good1 (i := 81) (by decide +kernel) (by decide +kernel))⟩
theorem ff_X3_15 : xx_Ff RX3 15 3 1 (.array .int) := ⟨RX3, TX3, 8, tyX3, k_3, by decide, rfl, rfl, by decide +kernel, xx_good1 (i := 81) (by decide +kernel) (by decide +kernel)⟩
theorem fl_X3_19 : xx_Fl RX3 19 3 2 := ⟨RX3, TX3, 8, tyX3, k_3, by decide, Or.inl (xx_good1 (i := 82) (by decide +kernel) (by decide +kernel))⟩
theorem ff_X3_19 : xx_Ff RX3 19 3 2 (.array .int) := ⟨RX3, TX3, 8, tyX3, k_3, by decide, rfl, rfl, by decide +kernel, xx_good1 (i := 82) (by decide +kernel) (by decide +kernel)⟩
theorem fl_X3_22 : xx_Fl RX3 22 3 3 := ⟨RX3, TX3, 8, tyX3, k_3, by decide, Or.inl (xx_good1 (i := 83) (by decide +kernel) (by decide +kernel))⟩
theorem fp_X3_22 : xx_Fp RX3 22 3 3 (.int) := ⟨RX3, TX3, 8, tyX3, k_3, by decide, rfl, by decide +kernel, Or.inl (xx_good1 (i := 83) (by decide +kernel) (by decide +kernel))⟩
theorem fl_X3_25 : xx_Fl RX3 25 3 4 := ⟨RX3, TX3, 8, tyX3, k_3, by decide, Or.inl (xx_good1 (i := 84) (by decide +kernel) (by decide +kernel))⟩
theorem ff_X3_25 : xx_Ff RX3 25 3 4 (.array .int) := ⟨RX3, TX3, 8, tyX3, k_3, by decide, rfl, rfl, by decide +kernel, xx_good1 (i := 84) (by decide +kernel) (by decide +kernel)⟩
theorem fl_X3_28 : xx_Fl RX3 28 3 5 := ⟨RX3, TX3, 8, tyX3, k_3, by decide, Or.inl (xx_good1 (i := 85) (by decide +kernel) (by decide +kernel))⟩
theorem ff_X3_28 : xx_Ff RX3 28 3 5 (.array .int) := ⟨RX3, TX3, 8, tyX3, k_3, by decide, rfl, rfl, by decide +kernel, xx_good1 (i := 85) (by decide +kernel) (by decide +kernel)⟩
theorem fl_X3_31 : xx_Fl RX3 31 3 6 := ⟨RX3, TX3, 8, tyX3, k_3, by decide, Or.inl (xx_good1 (i := 86) (by decide +kernel) (by decide +kernel))⟩
theorem fp_X3_31 : xx_Fp RX3 31 3 6 (.int) := ⟨RX3, TX3, 8, tyX3, k_3, by decide, rfl, by decide +kernel, Or.inl (xx_good1 (i := 86) (by decide +kernel) (by decide +kernel))⟩
theorem fl_X3_34 : xx_Fl RX3 34 3 7 := ⟨RX3, TX3, 8, tyX3, k_3, by decide, Or.inl (xx_good1 (i := 87) (by decide +kernel) (by decide +kernel))⟩
theorem ff_X3_34 : xx_Ff RX3 34 3 7 (.array .int) := ⟨RX3, TX3, 8, tyX3, k_3, by decide, rfl, rfl, by decide +kernel, xx_good1 (i := 87) (by decide +kernel) (by decide +kernel)⟩
theorem fl_X2_12 : xx_Fl RX2 12 2 0 := ⟨RX2, TX2, 9, tyX2, k_2, by decide, Or.inl (xx_good1 (i := 105) (by decide +kernel) (by decide +kernel))⟩
theorem ff_X2_12 : xx_Ff RX2 12 2 0 (.object "BeltRounds$Tape") := ⟨RX2, TX2, 9, tyX2, k_2, by decide, rfl, rfl, by decide +kernel, xx_good1 (i := 105) (by decide +kernel) (by decide +kernel)⟩
theorem fl_X6_16 : xx_Fl RX6 16 2 0 := ⟨RX2, TX2, 9, tyX2, k_2, by decide, Or.inr ⟨"BeltRounds", xx_oddin (i := 219) (by decide +kernel) (by decide +kernel)⟩⟩
theorem fl_X2_21 : xx_Fl RX2 21 2 1 := ⟨RX2, TX2, 9, tyX2, k_2, by decide, Or.inl (xx_good1 (i := 107) (by decide +kernel) (by decide +kernel))⟩
theorem ff_X2_21 : xx_Ff RX2 21 2 1 (.object "BeltRounds$Rules") := ⟨RX2, TX2, 9, tyX2, k_2, by decide, rfl, rfl, by decide +kernel, xx_good1 (i := 107) (by decide +kernel) (by decide +kernel)⟩
theorem fl_X6_71 : xx_Fl RX6 71 2 1 := ⟨RX2, TX2, 9, tyX2, k_2, by decide, Or.inr ⟨"BeltRounds", xx_oddin (i := 221) (by decide +kernel) (by decide +kernel)⟩⟩
theorem fl_X2_25 : xx_Fl RX2 25 2 2 := ⟨RX2, TX2, 9, tyX2, k_2, by decide, Or.inl (xx_good1 (i := 109) (by decide +kernel) (by decide +kernel))⟩
theorem ff_X2_25 : xx_Ff RX2 25 2 2 (.array .int) := ⟨RX2, TX2, 9, tyX2, k_2, by decide, rfl, rfl, by decide +kernel, xx_good1 (i := 109) (by decide +kernel) (by decide +kernel)⟩
theorem fl_X6_79 : xx_Fl RX6 79 2 2 := ⟨RX2, TX2, 9, tyX2, k_2, by decide, Or.inr ⟨"BeltRounds", xx_oddin (i := 223) (by decide +kernel) (by decide +kernel)⟩⟩
theorem fl_X2_29 : xx_Fl RX2 29 2 3 := ⟨RX2, TX2, 9, tyX2, k_2, by decide, Or.inl (xx_good1 (i := 111) (by decide +kernel) (by decide +kernel))⟩
theorem ff_X2_29 : xx_Ff RX2 29 2 3 (.array .int) := ⟨RX2, TX2, 9, tyX2, k_2, by decide, rfl, rfl, by decide +kernel, xx_good1 (i := 111) (by decide +kernel) (by decide +kernel)⟩
theorem fl_X2_32 : xx_Fl RX2 32 2 4 := ⟨RX2, TX2, 9, tyX2, k_2, by decide, Or.inl (xx_good1 (i := 112) (by decide +kernel) (by decide +kernel))⟩
theorem ff_X2_32 : xx_Ff RX2 32 2 4 (.array .int) := ⟨RX2, TX2, 9, tyX2, k_2, by decide, rfl, rfl, by decide +kernel, xx_good1 (i := 112) (by decide +kernel) (by decide +kernel)⟩
theorem fl_X6_83 : xx_Fl RX6 83 2 4 := ⟨RX2, TX2, 9, tyX2, k_2, by decide, Or.inr ⟨"BeltRounds", xx_oddin (i := 226) (by decide +kernel) (by decide +kernel)⟩⟩
theorem fl_X2_35 : xx_Fl RX2 35 2 5 := ⟨RX2, TX2, 9, tyX2, k_2, by decide, Or.inl (xx_good1 (i := 114) (by decide +kernel) (by decide +kernel))⟩
theorem fp_X2_35 : xx_Fp RX2 35 2 5 (.int) := ⟨RX2, TX2, 9, tyX2, k_2, by decide, rfl, by decide +kernel, Or.inl (xx_good1 (i := 114) (by decide +kernel) (by decide +kernel))⟩
theorem fl_X6_76 : xx_Fl RX6 76 2 5 := ⟨RX2, TX2, 9, tyX2, k_2, by decide, Or.inr ⟨"BeltRounds", xx_oddin (i := 228) (by decide +kernel) (by decide +kernel)⟩⟩
theorem fp_X6_76 : xx_Fp RX6 76 2 5 (.int) := ⟨RX2, TX2, 9, tyX2, k_2, by decide, rfl, by decide +kernel, Or.inr ⟨"BeltRounds", xx_oddin (i := 228) (by decide +kernel) (by decide +kernel)⟩⟩
theorem fl_X2_39 : xx_Fl RX2 39 2 6 := ⟨RX2, TX2, 9, tyX2, k_2, by decide, Or.inl (xx_good1 (i := 116) (by decide +kernel) (by decide +kernel))⟩
theorem fp_X2_39 : xx_Fp RX2 39 2 6 (.int) := ⟨RX2, TX2, 9, tyX2, k_2, by decide, rfl, by decide +kernel, Or.inl (xx_good1 (i := 116) (by decide +kernel) (by decide +kernel))⟩
theorem fl_X2_42 : xx_Fl RX2 42 2 7 := ⟨RX2, TX2, 9, tyX2, k_2, by decide, Or.inl (xx_good1 (i := 117) (by decide +kernel) (by decide +kernel))⟩
theorem fp_X2_42 : xx_Fp RX2 42 2 7 (.int) := ⟨RX2, TX2, 9, tyX2, k_2, by decide, rfl, by decide +kernel, Or.inl (xx_good1 (i := 117) (by decide +kernel) (by decide +kernel))⟩
theorem fl_X2_45 : xx_Fl RX2 45 2 8 := ⟨RX2, TX2, 9, tyX2, k_2, by decide, Or.inl (xx_good1 (i := 118) (by decide +kernel) (by decide +kernel))⟩
theorem fp_X2_45 : xx_Fp RX2 45 2 8 (.int) := ⟨RX2, TX2, 9, tyX2, k_2, by decide, rfl, by decide +kernel, Or.inl (xx_good1 (i := 118) (by decide +kernel) (by decide +kernel))⟩
theorem fl_X6_90 : xx_Fl RX6 90 2 8 := ⟨RX2, TX2, 9, tyX2, k_2, by decide, Or.inr ⟨"BeltRounds", xx_oddin (i := 232) (by decide +kernel) (by decide +kernel)⟩⟩
theorem fp_X6_90 : xx_Fp RX6 90 2 8 (.int) := ⟨RX2, TX2, 9, tyX2, k_2, by decide, rfl, by decide +kernel, Or.inr ⟨"BeltRounds", xx_oddin (i := 232) (by decide +kernel) (by decide +kernel)⟩⟩
theorem cl_X6_21 : Cond.classLink RX6 21 RX3 ∈ xx_T := xx_good1 (i := 139) (by decide +kernel) (by decide +kernel)
theorem ml_X6_23 : Cond.methodLinkNest RX6 23 yX3_init "BeltRounds" ∈ xx_N := xx_oddin (i := 253) (by decide +kernel) (by decide +kernel)
theorem cl_X6_28 : Cond.classLink RX6 28 RX0 ∈ xx_T := xx_good1 (i := 141) (by decide +kernel) (by decide +kernel)
theorem ins_BeltRounds_Field : Cond.instantiable RX0 12 ∈ xx_T := xx_good1 (i := 142) (by decide +kernel) (by decide +kernel)
theorem ml_X6_30 : Cond.methodLinkNest RX6 30 yX0_init "BeltRounds" ∈ xx_N := xx_oddin (i := 256) (by decide +kernel) (by decide +kernel)
theorem ml_X0_3 : Cond.methodLink RX0 3 objectInit ∈ xx_T := xx_good1 (i := 146) (by decide +kernel) (by decide +kernel)
theorem fl_X0_9 : xx_Fl RX0 9 0 0 := ⟨RX0, TX0, 12, tyX0, k_0, by decide, Or.inl (xx_good1 (i := 147) (by decide +kernel) (by decide +kernel))⟩
theorem fp_X0_9 : xx_Fp RX0 9 0 0 (.int) := ⟨RX0, TX0, 12, tyX0, k_0, by decide, rfl, by decide +kernel, Or.inl (xx_good1 (i := 147) (by decide +kernel) (by decide +kernel))⟩
theorem fl_X6_93 : xx_Fl RX6 93 0 0 := ⟨RX0, TX0, 12, tyX0, k_0, by decide, Or.inr ⟨"BeltRounds", xx_oddin (i := 261) (by decide +kernel) (by decide +kernel)⟩⟩
theorem fp_X6_93 : xx_Fp RX6 93 0 0 (.int) := ⟨RX0, TX0, 12, tyX0, k_0, by decide, rfl, by decide +kernel, Or.inr ⟨"BeltRounds", xx_oddin (i := 261) (by decide +kernel) (by decide +kernel)⟩⟩
theorem fl_X1_73 : xx_Fl RX1 73 0 0 := ⟨RX0, TX0, 12, tyX0, k_0, by decide, Or.inr ⟨"BeltRounds", xx_oddin (i := 262) (by decide +kernel) (by decide +kernel)⟩⟩
theorem fp_X1_73 : xx_Fp RX1 73 0 0 (.int) := ⟨RX0, TX0, 12, tyX0, k_0, by decide, rfl, by decide +kernel, Or.inr ⟨"BeltRounds", xx_oddin (i := 262) (by decide +kernel) (by decide +kernel)⟩⟩
theorem fl_X0_15 : xx_Fl RX0 15 0 1 := ⟨RX0, TX0, 12, tyX0, k_0, by decide, Or.inl (xx_good1 (i := 150) (by decide +kernel) (by decide +kernel))⟩
theorem fp_X0_15 : xx_Fp RX0 15 0 1 (.int) := ⟨RX0, TX0, 12, tyX0, k_0, by decide, rfl, by decide +kernel, Or.inl (xx_good1 (i := 150) (by decide +kernel) (by decide +kernel))⟩
theorem fl_X6_100 : xx_Fl RX6 100 0 1 := ⟨RX0, TX0, 12, tyX0, k_0, by decide, Or.inr ⟨"BeltRounds", xx_oddin (i := 264) (by decide +kernel) (by decide +kernel)⟩⟩
theorem fp_X6_100 : xx_Fp RX6 100 0 1 (.int) := ⟨RX0, TX0, 12, tyX0, k_0, by decide, rfl, by decide +kernel, Or.inr ⟨"BeltRounds", xx_oddin (i := 264) (by decide +kernel) (by decide +kernel)⟩⟩
theorem fl_X3_63 : xx_Fl RX3 63 0 1 := ⟨RX0, TX0, 12, tyX0, k_0, by decide, Or.inr ⟨"BeltRounds", xx_oddin (i := 265) (by decide +kernel) (by decide +kernel)⟩⟩
theorem fp_X3_63 : xx_Fp RX3 63 0 1 (.int) := ⟨RX0, TX0, 12, tyX0, k_0, by decide, rfl, by decide +kernel, Or.inr ⟨"BeltRounds", xx_oddin (i := 265) (by decide +kernel) (by decide +kernel)⟩⟩
theorem fl_X0_18 : xx_Fl RX0 18 0 2 := ⟨RX0, TX0, 12, tyX0, k_0, by decide, Or.inl (xx_good1 (i := 153) (by decide +kernel) (by decide +kernel))⟩
theorem ff_X0_18 : xx_Ff RX0 18 0 2 (.array .int) := ⟨RX0, TX0, 12, tyX0, k_0, by decide, rfl, rfl, by decide +kernel, xx_good1 (i := 153) (by decide +kernel) (by decide +kernel)⟩
theorem fl_X0_22 : xx_Fl RX0 22 0 3 := ⟨RX0, TX0, 12, tyX0, k_0, by decide, Or.inl (xx_good1 (i := 154) (by decide +kernel) (by decide +kernel))⟩
theorem ff_X0_22 : xx_Ff RX0 22 0 3 (.array .int) := ⟨RX0, TX0, 12, tyX0, k_0, by decide, rfl, rfl, by decide +kernel, xx_good1 (i := 154) (by decide +kernel) (by decide +kernel)⟩
theorem fl_X0_25 : xx_Fl RX0 25 0 4 := ⟨RX0, TX0, 12, tyX0, k_0, by decide, Or.inl (xx_good1 (i := 155) (by decide +kernel) (by decide +kernel))⟩
theorem ff_X0_25 : xx_Ff RX0 25 0 4 (.array .int) := ⟨RX0, TX0, 12, tyX0, k_0, by decide, rfl, rfl, by decide +kernel, xx_good1 (i := 155) (by decide +kernel) (by decide +kernel)⟩
theorem fl_X0_28 : xx_Fl RX0 28 0 5 := ⟨RX0, TX0, 12, tyX0, k_0, by decide, Or.inl (xx_good1 (i := 156) (by decide +kernel) (by decide +kernel))⟩
theorem fp_X0_28 : xx_Fp RX0 28 0 5 (.int) := ⟨RX0, TX0, 12, tyX0, k_0, by decide, rfl, by decide +kernel, Or.inl (xx_good1 (i := 156) (by decide +kernel) (by decide +kernel))⟩
theorem fl_X6_103 : xx_Fl RX6 103 0 5 := ⟨RX0, TX0, 12, tyX0, k_0, by decide, Or.inr ⟨"BeltRounds", xx_oddin (i := 270) (by decide +kernel) (by decide +kernel)⟩⟩
theorem fp_X6_103 : xx_Fp RX6 103 0 5 (.int) := ⟨RX0, TX0, 12, tyX0, k_0, by decide, rfl, by decide +kernel, Or.inr ⟨"BeltRounds", xx_oddin (i := 270) (by decide +kernel) (by decide +kernel)⟩⟩
theorem fl_X0_31 : xx_Fl RX0 31 0 6 := ⟨RX0, TX0, 12, tyX0, k_0, by decide, Or.inl (xx_good1 (i := 158) (by decide +kernel) (by decide +kernel))⟩
theorem ff_X0_31 : xx_Ff RX0 31 0 6 (.array .int) := ⟨RX0, TX0, 12, tyX0, k_0, by decide, rfl, rfl, by decide +kernel, xx_good1 (i := 158) (by decide +kernel) (by decide +kernel)⟩
theorem fl_X0_34 : xx_Fl RX0 34 0 7 := ⟨RX0, TX0, 12, tyX0, k_0, by decide, Or.inl (xx_good1 (i := 159) (by decide +kernel) (by decide +kernel))⟩
theorem ff_X0_34 : xx_Ff RX0 34 0 7 (.array .int) := ⟨RX0, TX0, 12, tyX0, k_0, by decide, rfl, rfl, by decide +kernel, xx_good1 (i := 159) (by decide +kernel) (by decide +kernel)⟩
theorem fl_X0_37 : xx_Fl RX0 37 0 8 := ⟨RX0, TX0, 12, tyX0, k_0, by decide, Or.inl (xx_good1 (i := 160) (by decide +kernel) (by decide +kernel))⟩
theorem ff_X0_37 : xx_Ff RX0 37 0 8 (.array .int) := ⟨RX0, TX0, 12, tyX0, k_0, by decide, rfl, rfl, by decide +kernel, xx_good1 (i := 160) (by decide +kernel) (by decide +kernel)⟩
theorem fl_X0_40 : xx_Fl RX0 40 0 9 := ⟨RX0, TX0, 12, tyX0, k_0, by decide, Or.inl (xx_good1 (i := 161) (by decide +kernel) (by decide +kernel))⟩
theorem fp_X0_40 : xx_Fp RX0 40 0 9 (.int) := ⟨RX0, TX0, 12, tyX0, k_0, by decide, rfl, by decide +kernel, Or.inl (xx_good1 (i := 161) (by decide +kernel) (by decide +kernel))⟩
theorem fl_X6_164 : xx_Fl RX6 164 0 9 := ⟨RX0, TX0, 12, tyX0, k_0, by decide, Or.inr ⟨"BeltRounds", xx_oddin (i := 275) (by decide +kernel) (by decide +kernel)⟩⟩
theorem fp_X6_164 : xx_Fp RX6 164 0 9 (.int) := ⟨RX0, TX0, 12, tyX0, k_0, by decide, rfl, by decide +kernel, Or.inr ⟨"BeltRounds", xx_oddin (i := 275) (by decide +kernel) (by decide +kernel)⟩⟩
theorem fl_X0_43 : xx_Fl RX0 43 0 10 := ⟨RX0, TX0, 12, tyX0, k_0, by decide, Or.inl (xx_good1 (i := 163) (by decide +kernel) (by decide +kernel))⟩
theorem ff_X0_43 : xx_Ff RX0 43 0 10 (.array .int) := ⟨RX0, TX0, 12, tyX0, k_0, by decide, rfl, rfl, by decide +kernel, xx_good1 (i := 163) (by decide +kernel) (by decide +kernel)⟩
theorem fl_X0_46 : xx_Fl RX0 46 0 11 := ⟨RX0, TX0, 12, tyX0, k_0, by decide, Or.inl (xx_good1 (i := 164) (by decide +kernel) (by decide +kernel))⟩
theorem ff_X0_46 : xx_Ff RX0 46 0 11 (.array .int) := ⟨RX0, TX0, 12, tyX0, k_0, by decide, rfl, rfl, by decide +kernel, xx_good1 (i := 164) (by decide +kernel) (by decide +kernel)⟩
theorem cl_X6_38 : Cond.classLink RX6 38 RX1 ∈ xx_T := xx_good1 (i := 190) (by decide +kernel) (by decide +kernel)
theorem ins_BeltRounds_Pairing : Cond.instantiable RX1 9 ∈ xx_T := xx_good1 (i := 191) (by decide +kernel) (by decide +kernel)
theorem ml_X6_40 : Cond.methodLinkNest RX6 40 yX1_init "BeltRounds" ∈ xx_N := xx_oddin (i := 305) (by decide +kernel) (by decide +kernel)
theorem ml_X1_3 : Cond.methodLink RX1 3 objectInit ∈ xx_T := xx_good1 (i := 195) (by decide +kernel) (by decide +kernel)
theorem fl_X1_9 : xx_Fl RX1 9 1 0 := ⟨RX1, TX1, 9, tyX1, k_1, by decide, Or.inl (xx_good1 (i := 196) (by decide +kernel) (by decide +kernel))⟩
theorem fp_X1_9 : xx_Fp RX1 9 1 0 (.int) := ⟨RX1, TX1, 9, tyX1, k_1, by decide, rfl, by decide +kernel, Or.inl (xx_good1 (i := 196) (by decide +kernel) (by decide +kernel))⟩
theorem fl_X0_111 : xx_Fl RX0 111 1 0 := ⟨RX1, TX1, 9, tyX1, k_1, by decide, Or.inr ⟨"BeltRounds", xx_oddin (i := 310) (by decide +kernel) (by decide +kernel)⟩⟩
theorem fp_X0_111 : xx_Fp RX0 111 1 0 (.int) := ⟨RX1, TX1, 9, tyX1, k_1, by decide, rfl, by decide +kernel, Or.inr ⟨"BeltRounds", xx_oddin (i := 310) (by decide +kernel) (by decide +kernel)⟩⟩
theorem fl_X1_15 : xx_Fl RX1 15 1 1 := ⟨RX1, TX1, 9, tyX1, k_1, by decide, Or.inl (xx_good1 (i := 198) (by decide +kernel) (by decide +kernel))⟩
theorem fp_X1_15 : xx_Fp RX1 15 1 1 (.int) := ⟨RX1, TX1, 9, tyX1, k_1, by decide, rfl, by decide +kernel, Or.inl (xx_good1 (i := 198) (by decide +kernel) (by decide +kernel))⟩
theorem fl_X6_201 : xx_Fl RX6 201 1 1 := ⟨RX1, TX1, 9, tyX1, k_1, by decide, Or.inr ⟨"BeltRounds", xx_oddin (i := 312) (by decide +kernel) (by decide +kernel)⟩⟩
theorem fp_X6_201 : xx_Fp RX6 201 1 1 (.int) := ⟨RX1, TX1, 9, tyX1, k_1, by decide, rfl, by decide +kernel, Or.inr ⟨"BeltRounds", xx_oddin (i := 312) (by decide +kernel) (by decide +kernel)⟩⟩
theorem fl_X1_18 : xx_Fl RX1 18 1 2 := ⟨RX1, TX1, 9, tyX1, k_1, by decide, Or.inl (xx_good1 (i := 200) (by decide +kernel) (by decide +kernel))⟩
theorem fp_X1_18 : xx_Fp RX1 18 1 2 (.int) := ⟨RX1, TX1, 9, tyX1, k_1, by decide, rfl, by decide +kernel, Or.inl (xx_good1 (i := 200) (by decide +kernel) (by decide +kernel))⟩
theorem fl_X0_125 : xx_Fl RX0 125 1 2 := ⟨RX1, TX1, 9, tyX1, k_1, by decide, Or.inr ⟨"BeltRounds", xx_oddin (i := 314) (by decide +kernel) (by decide +kernel)⟩⟩
theorem fp_X0_125 : xx_Fp RX0 125 1 2 (.int) := ⟨RX1, TX1, 9, tyX1, k_1, by decide, rfl, by decide +kernel, Or.inr ⟨"BeltRounds", xx_oddin (i := 314) (by decide +kernel) (by decide +kernel)⟩⟩
theorem fl_X1_21 : xx_Fl RX1 21 1 3 := ⟨RX1, TX1, 9, tyX1, k_1, by decide, Or.inl (xx_good1 (i := 202) (by decide +kernel) (by decide +kernel))⟩
theorem ff_X1_21 : xx_Ff RX1 21 1 3 (.array .int) := ⟨RX1, TX1, 9, tyX1, k_1, by decide, rfl, rfl, by decide +kernel, xx_good1 (i := 202) (by decide +kernel) (by decide +kernel)⟩
theorem fl_X1_25 : xx_Fl RX1 25 1 4 := ⟨RX1, TX1, 9, tyX1, k_1, by decide, Or.inl (xx_good1 (i := 203) (by decide +kernel) (by decide +kernel))⟩
theorem ff_X1_25 : xx_Ff RX1 25 1 4 (.array .int) := ⟨RX1, TX1, 9, tyX1, k_1, by decide, rfl, rfl, by decide +kernel, xx_good1 (i := 203) (by decide +kernel) (by decide +kernel)⟩
theorem fl_X1_28 : xx_Fl RX1 28 1 5 := ⟨RX1, TX1, 9, tyX1, k_1, by decide, Or.inl (xx_good1 (i := 204) (by decide +kernel) (by decide +kernel))⟩
theorem fp_X1_28 : xx_Fp RX1 28 1 5 (.int) := ⟨RX1, TX1, 9, tyX1, k_1, by decide, rfl, by decide +kernel, Or.inl (xx_good1 (i := 204) (by decide +kernel) (by decide +kernel))⟩
theorem fl_X1_31 : xx_Fl RX1 31 1 6 := ⟨RX1, TX1, 9, tyX1, k_1, by decide, Or.inl (xx_good1 (i := 205) (by decide +kernel) (by decide +kernel))⟩
theorem ff_X1_31 : xx_Ff RX1 31 1 6 (.array .int) := ⟨RX1, TX1, 9, tyX1, k_1, by decide, rfl, rfl, by decide +kernel, xx_good1 (i := 205) (by decide +kernel) (by decide +kernel)⟩
theorem fl_X1_34 : xx_Fl RX1 34 1 7 := ⟨RX1, TX1, 9, tyX1, k_1, by decide, Or.inl (xx_good1 (i := 206) (by decide +kernel) (by decide +kernel))⟩
theorem ff_X1_34 : xx_Ff RX1 34 1 7 (.array .int) := ⟨RX1, TX1, 9, tyX1, k_1, by decide, rfl, rfl, by decide +kernel, xx_good1 (i := 206) (by decide +kernel) (by decide +kernel)⟩
theorem fl_X1_37 : xx_Fl RX1 37 1 8 := ⟨RX1, TX1, 9, tyX1, k_1, by decide, Or.inl (xx_good1 (i := 207) (by decide +kernel) (by decide +kernel))⟩
theorem ff_X1_37 : xx_Ff RX1 37 1 8 (.array .int) := ⟨RX1, TX1, 9, tyX1, k_1, by decide, rfl, rfl, by decide +kernel, xx_good1 (i := 207) (by decide +kernel) (by decide +kernel)⟩
theorem fl_X6_10 : xx_Fl RX6 10 5 0 := ⟨RX6, TX6, 6, tyX6, k_5, by decide, Or.inl (xx_good1 (i := 227) (by decide +kernel) (by decide +kernel))⟩
theorem ff_X6_10 : xx_Ff RX6 10 5 0 (.object "BeltRounds$Reader") := ⟨RX6, TX6, 6, tyX6, k_5, by decide, rfl, rfl, by decide +kernel, xx_good1 (i := 227) (by decide +kernel) (by decide +kernel)⟩
theorem fl_X6_20 : xx_Fl RX6 20 5 1 := ⟨RX6, TX6, 6, tyX6, k_5, by decide, Or.inl (xx_good1 (i := 228) (by decide +kernel) (by decide +kernel))⟩
theorem ff_X6_20 : xx_Ff RX6 20 5 1 (.object "BeltRounds$Tape") := ⟨RX6, TX6, 6, tyX6, k_5, by decide, rfl, rfl, by decide +kernel, xx_good1 (i := 228) (by decide +kernel) (by decide +kernel)⟩
theorem fl_X6_24 : xx_Fl RX6 24 5 2 := ⟨RX6, TX6, 6, tyX6, k_5, by decide, Or.inl (xx_good1 (i := 229) (by decide +kernel) (by decide +kernel))⟩
theorem ff_X6_24 : xx_Ff RX6 24 5 2 (.object "BeltRounds$Rules") := ⟨RX6, TX6, 6, tyX6, k_5, by decide, rfl, rfl, by decide +kernel, xx_good1 (i := 229) (by decide +kernel) (by decide +kernel)⟩
theorem fl_X6_31 : xx_Fl RX6 31 5 3 := ⟨RX6, TX6, 6, tyX6, k_5, by decide, Or.inl (xx_good1 (i := 230) (by decide +kernel) (by decide +kernel))⟩
theorem ff_X6_31 : xx_Ff RX6 31 5 3 (.object "BeltRounds$Field") := ⟨RX6, TX6, 6, tyX6, k_5, by decide, rfl, rfl, by decide +kernel, xx_good1 (i := 230) (by decide +kernel) (by decide +kernel)⟩
theorem fl_X6_35 : xx_Fl RX6 35 5 4 := ⟨RX6, TX6, 6, tyX6, k_5, by decide, Or.inl (xx_good1 (i := 231) (by decide +kernel) (by decide +kernel))⟩
theorem ff_X6_35 : xx_Ff RX6 35 5 4 (.object "BeltRounds$Field") := ⟨RX6, TX6, 6, tyX6, k_5, by decide, rfl, rfl, by decide +kernel, xx_good1 (i := 231) (by decide +kernel) (by decide +kernel)⟩
theorem fl_X6_41 : xx_Fl RX6 41 5 5 := ⟨RX6, TX6, 6, tyX6, k_5, by decide, Or.inl (xx_good1 (i := 232) (by decide +kernel) (by decide +kernel))⟩
theorem ff_X6_41 : xx_Ff RX6 41 5 5 (.object "BeltRounds$Pairing") := ⟨RX6, TX6, 6, tyX6, k_5, by decide, rfl, rfl, by decide +kernel, xx_good1 (i := 232) (by decide +kernel) (by decide +kernel)⟩
theorem ml_L_124 : Cond.methodLink RL 124 yX6_teach ∈ xx_T := xx_good2 (i := 6) (by decide +kernel) (by decide +kernel)
theorem ml_X6_67 : Cond.methodLink RX6 67 yX2_read ∈ xx_T := xx_good2 (i := 10) (by decide +kernel) (by decide +kernel)
theorem ml_X2_48 : Cond.methodLink RX2 48 yX2_begin ∈ xx_T := xx_good2 (i := 14) (by decide +kernel) (by decide +kernel)
theorem ml_X2_90 : Cond.methodLink RX2 90 yX5_scan ∈ xx_T := xx_good2 (i := 18) (by decide +kernel) (by decide +kernel)
theorem ml_X5_35 : Cond.methodLink RX5 35 yX5_behindBlanks ∈ xx_T := xx_good2 (i := 22) (by decide +kernel) (by decide +kernel)
theorem ml_X5_60 : Cond.methodLink RX5 60 yX5_byteAt ∈ xx_T := xx_good2 (i := 26) (by decide +kernel) (by decide +kernel)
theorem ml_X5_39 : Cond.methodLink RX5 39 yX5_endOfToken ∈ xx_T := xx_good2 (i := 30) (by decide +kernel) (by decide +kernel)
theorem ml_X5_63 : Cond.methodLink RX5 63 yX5_isLetter ∈ xx_T := xx_good2 (i := 34) (by decide +kernel) (by decide +kernel)
theorem ml_X5_66 : Cond.methodLink RX5 66 yX5_isDigit ∈ xx_T := xx_good2 (i := 37) (by decide +kernel) (by decide +kernel)
theorem ml_X5_69 : Cond.methodLink RX5 69 yX5_endOfSymbol ∈ xx_T := xx_good2 (i := 40) (by decide +kernel) (by decide +kernel)
theorem ml_X5_72 : Cond.methodLink RX5 72 yJ9_min_7cf53 ∈ xx_T := xx_good2 (i := 44) (by decide +kernel) (by decide +kernel)
theorem ml_X5_42 : Cond.methodLink RX5 42 yX5_signOf ∈ xx_T := xx_good2 (i := 47) (by decide +kernel) (by decide +kernel)
theorem sl_X5_46 : Cond.fieldLink RX5 46 "BeltRounds$Sign" "END" "LBeltRounds$Sign;" ∈ xx_T := xx_good2 (i := 51) (by decide +kernel) (by decide +kernel)
theorem sl_X5_50 : Cond.fieldLink RX5 50 "BeltRounds$Sign" "UNKNOWN" "LBeltRounds$Sign;" ∈ xx_T := xx_good2 (i := 53) (by decide +kernel) (by decide +kernel)
theorem sl_X5_57 : Cond.fieldLink RX5 57 "BeltRounds$Sign" "NUMBER" "LBeltRounds$Sign;" ∈ xx_T := xx_good2 (i := 55) (by decide +kernel) (by decide +kernel)
theorem ml_X5_78 : Cond.methodLink RX5 78 yX5_signWithText ∈ xx_T := xx_good2 (i := 57) (by decide +kernel) (by decide +kernel)
theorem sl_X5_85 : Cond.fieldLinkNest RX5 85 "BeltRounds$Sign" "ALL" "[LBeltRounds$Sign;" "BeltRounds" ∈ xx_N := xx_oddin (i := 414) (by decide +kernel) (by decide +kernel)
theorem ml_X5_92 : Cond.methodLink RX5 92 yX5_isSpelt ∈ xx_T := xx_good2 (i := 63) (by decide +kernel) (by decide +kernel)
theorem ml_X5_96 : Cond.methodLink RX5 96 yJ0_length_8abf5 ∈ xx_T := xx_good2 (i := 67) (by decide +kernel) (by decide +kernel)
theorem ml_J0_335 : Cond.methodLink RJ0 335 yJ0_coder_7d493 ∈ xx_T := xx_good2 (i := 71) (by decide +kernel) (by decide +kernel)
theorem sl_J0_38 : Cond.fieldLink RJ0 38 "java/lang/String" "COMPACT_STRINGS" "Z" ∈ xx_T := xx_good2 (i := 75) (by decide +kernel) (by decide +kernel)
theorem ml_X5_101 : Cond.methodLink RX5 101 yJ0_charAt_5068e ∈ xx_T := xx_good2 (i := 77) (by decide +kernel) (by decide +kernel)
theorem ml_J0_492 : Cond.methodLink RJ0 492 yJ0_isLatin1_aae02 ∈ xx_T := xx_good2 (i := 81) (by decide +kernel) (by decide +kernel)
theorem ml_J0_495 : Cond.methodLink RJ0 495 yJ1_charAt_3b067 ∈ xx_T := xx_good2 (i := 85) (by decide +kernel) (by decide +kernel)
theorem ml_J1_9 : Cond.methodLink RJ1 9 yJ0_checkIndex_df160 ∈ xx_T := xx_good2 (i := 88) (by decide +kernel) (by decide +kernel)
theorem sl_J0_1053 : Cond.fieldLink RJ0 1053 "jdk/internal/util/Preconditions" "SIOOBE_FORMATTER" "Ljava/util/function/BiFunction;" ∈ xx_T := xx_good2 (i := 91) (by decide +kernel) (by decide +kernel)
theorem ml_J0_1059 : Cond.methodLink RJ0 1059 yJ3_checkIndex_8e157 ∈ xx_T := xx_good2 (i := 93) (by decide +kernel) (by decide +kernel)
theorem ml_J0_498 : Cond.methodLink RJ0 498 yJ2_charAt_3b067 ∈ xx_T := xx_good2 (i := 96) (by decide +kernel) (by decide +kernel)
theorem ml_J2_67 : Cond.methodLink RJ2 67 yJ2_checkIndex_2214a ∈ xx_T := xx_good2 (i := 99) (by decide +kernel) (by decide +kernel)
theorem ml_J2_48 : Cond.methodLink RJ2 48 yJ2_length_9d52b ∈ xx_T := xx_good2 (i := 102) (by decide +kernel) (by decide +kernel)
theorem ml_J2_414 : Cond.methodLink RJ2 414 yJ0_checkIndex_df160 ∈ xx_T := xx_good2 (i := 105) (by decide +kernel) (by decide +kernel)
theorem ml_J2_71 : Cond.methodLink RJ2 71 yJ2_getChar_3b067 ∈ xx_T := xx_good2 (i := 106) (by decide +kernel) (by decide +kernel)
theorem sl_J2_44 : Cond.fieldLink RJ2 44 "java/lang/StringUTF16" "$assertionsDisabled" "Z" ∈ xx_T := xx_good2 (i := 109) (by decide +kernel) (by decide +kernel)
theorem sl_J2_59 : Cond.fieldLink RJ2 59 "java/lang/StringUTF16" "HI_BYTE_SHIFT" "I" ∈ xx_T := xx_good2 (i := 111) (by decide +kernel) (by decide +kernel)
theorem sl_J2_63 : Cond.fieldLink RJ2 63 "java/lang/StringUTF16" "LO_BYTE_SHIFT" "I" ∈ xx_T := xx_good2 (i := 113) (by decide +kernel) (by decide +kernel)
theorem sl_X5_82 : Cond.fieldLink RX5 82 "BeltRounds$Sign" "NAME" "LBeltRounds$Sign;" ∈ xx_T := xx_good2 (i := 115) (by decide +kernel) (by decide +kernel)
theorem ml_X2_93 : Cond.methodLink RX2 93 yX3_clear ∈ xx_T := xx_good2 (i := 117) (by decide +kernel) (by decide +kernel)
theorem sl_X2_51 : Cond.fieldLink RX2 51 "BeltRounds$Sign" "END" "LBeltRounds$Sign;" ∈ xx_T := xx_good2 (i := 121) (by decide +kernel) (by decide +kernel)
theorem ml_X2_57 : Cond.methodLink RX2 57 yX2_sees ∈ xx_T := xx_good2 (i := 122) (by decide +kernel) (by decide +kernel)
theorem sl_X2_61 : Cond.fieldLink RX2 61 "BeltRounds$Sign" "WRESTLER" "LBeltRounds$Sign;" ∈ xx_T := xx_good2 (i := 126) (by decide +kernel) (by decide +kernel)
theorem ml_X2_64 : Cond.methodLink RX2 64 yX2_takes ∈ xx_T := xx_good2 (i := 128) (by decide +kernel) (by decide +kernel)
theorem ml_X2_67 : Cond.methodLink RX2 67 yX2_readWrestler ∈ xx_T := xx_good2 (i := 132) (by decide +kernel) (by decide +kernel)
theorem sl_X2_96 : Cond.fieldLink RX2 96 "BeltRounds$Sign" "NAME" "LBeltRounds$Sign;" ∈ xx_T := xx_good2 (i := 136) (by decide +kernel) (by decide +kernel)
theorem ml_X2_99 : Cond.methodLink RX2 99 yX2_checkName ∈ xx_T := xx_good2 (i := 137) (by decide +kernel) (by decide +kernel)
theorem ml_X2_112 : Cond.methodLink RX2 112 yX5_sameText ∈ xx_T := xx_good2 (i := 141) (by decide +kernel) (by decide +kernel)
theorem ml_X5_53 : Cond.methodLink RX5 53 yX5_hasToken ∈ xx_T := xx_good2 (i := 145) (by decide +kernel) (by decide +kernel)
theorem ml_X2_116 : Cond.methodLink RX2 116 yX2_noteError ∈ xx_T := xx_good2 (i := 149) (by decide +kernel) (by decide +kernel)
theorem ml_X2_86 : Cond.methodLink RX2 86 yX5_start ∈ xx_T := xx_good2 (i := 153) (by decide +kernel) (by decide +kernel)
theorem sl_X2_102 : Cond.fieldLink RX2 102 "BeltRounds$Sign" "STRENGTH" "LBeltRounds$Sign;" ∈ xx_T := xx_good2 (i := 157) (by decide +kernel) (by decide +kernel)
theorem sl_X2_105 : Cond.fieldLink RX2 105 "BeltRounds$Sign" "NUMBER" "LBeltRounds$Sign;" ∈ xx_T := xx_good2 (i := 159) (by decide +kernel) (by decide +kernel)
theorem ml_X2_108 : Cond.methodLink RX2 108 yX2_takeNumber ∈ xx_T := xx_good2 (i := 160) (by decide +kernel) (by decide +kernel)
theorem ml_X2_226 : Cond.methodLink RX2 226 yX5_number ∈ xx_T := xx_good2 (i := 164) (by decide +kernel) (by decide +kernel)
theorem sl_X2_71 : Cond.fieldLink RX2 71 "BeltRounds$Sign" "POINTS" "LBeltRounds$Sign;" ∈ xx_T := xx_good2 (i := 168) (by decide +kernel) (by decide +kernel)
theorem ml_X2_74 : Cond.methodLink RX2 74 yX2_readPoints ∈ xx_T := xx_good2 (i := 170) (by decide +kernel) (by decide +kernel)
theorem sl_X2_77 : Cond.fieldLink RX2 77 "BeltRounds$Sign" "RULE" "LBeltRounds$Sign;" ∈ xx_T := xx_good2 (i := 174) (by decide +kernel) (by decide +kernel)
theorem ml_X2_80 : Cond.methodLink RX2 80 yX2_readRule ∈ xx_T := xx_good2 (i := 176) (by decide +kernel) (by decide +kernel)
theorem ml_X2_123 : Cond.methodLink RX2 123 yX2_readOutcome ∈ xx_T := xx_good2 (i := 180) (by decide +kernel) (by decide +kernel)
theorem sl_X2_138 : Cond.fieldLink RX2 138 "BeltRounds$Sign" "DRAW" "LBeltRounds$Sign;" ∈ xx_T := xx_good2 (i := 184) (by decide +kernel) (by decide +kernel)
theorem sl_X2_141 : Cond.fieldLink RX2 141 "BeltRounds$Sign" "RED" "LBeltRounds$Sign;" ∈ xx_T := xx_good2 (i := 186) (by decide +kernel) (by decide +kernel)
theorem sl_X2_144 : Cond.fieldLink RX2 144 "BeltRounds$Sign" "BLUE" "LBeltRounds$Sign;" ∈ xx_T := xx_good2 (i := 188) (by decide +kernel) (by decide +kernel)
theorem sl_X2_147 : Cond.fieldLink RX2 147 "BeltRounds$Sign" "WINS" "LBeltRounds$Sign;" ∈ xx_T := xx_good2 (i := 190) (by decide +kernel) (by decide +kernel)
theorem sl_X2_127 : Cond.fieldLink RX2 127 "BeltRounds$Sign" "WHEN" "LBeltRounds$Sign;" ∈ xx_T := xx_good2 (i := 192) (by decide +kernel) (by decide +kernel)
theorem ml_X2_130 : Cond.methodLink RX2 130 yX2_readTest ∈ xx_T := xx_good2 (i := 194) (by decide +kernel) (by decide +kernel)
theorem ml_X2_150 : Cond.methodLink RX2 150 yX2_readBoth ∈ xx_T := xx_good2 (i := 198) (by decide +kernel) (by decide +kernel)
theorem ml_X2_159 : Cond.methodLink RX2 159 yX2_readSingle ∈ xx_T := xx_good2 (i := 202) (by decide +kernel) (by decide +kernel)
theorem sl_X2_165 : Cond.fieldLink RX2 165 "BeltRounds$Sign" "NOT" "LBeltRounds$Sign;" ∈ xx_T := xx_good2 (i := 206) (by decide +kernel) (by decide +kernel)
theorem ml_X2_168 : Cond.methodLink RX2 168 yX2_readNot ∈ xx_T := xx_good2 (i := 208) (by decide +kernel) (by decide +kernel)
theorem ml_X2_174 : Cond.methodLink RX2 174 yX2_takesDeeper ∈ xx_T := xx_good2 (i := 212) (by decide +kernel) (by decide +kernel)
theorem ml_X2_156 : Cond.methodLink RX2 156 yX3_emit ∈ xx_T := xx_good2 (i := 216) (by decide +kernel) (by decide +kernel)
theorem ml_X3_43 : Cond.methodLink RX3 43 yX3_emit_ ∈ xx_T := xx_good2 (i := 220) (by decide +kernel) (by decide +kernel)
theorem sl_X2_171 : Cond.fieldLink RX2 171 "BeltRounds$Sign" "SQUARE_OPEN" "LBeltRounds$Sign;" ∈ xx_T := xx_good2 (i := 224) (by decide +kernel) (by decide +kernel)
theorem sl_X2_178 : Cond.fieldLink RX2 178 "BeltRounds$Sign" "SQUARE_CLOSE" "LBeltRounds$Sign;" ∈ xx_T := xx_good2 (i := 226) (by decide +kernel) (by decide +kernel)
theorem sl_X2_181 : Cond.fieldLink RX2 181 "BeltRounds$Sign" "MET" "LBeltRounds$Sign;" ∈ xx_T := xx_good2 (i := 228) (by decide +kernel) (by decide +kernel)
theorem ml_X2_184 : Cond.methodLink RX2 184 yX2_readComparison ∈ xx_T := xx_good2 (i := 230) (by decide +kernel) (by decide +kernel)
theorem ml_X2_187 : Cond.methodLink RX2 187 yX2_readSum ∈ xx_T := xx_good2 (i := 234) (by decide +kernel) (by decide +kernel)
theorem ml_X2_208 : Cond.methodLink RX2 208 yX2_readProduct ∈ xx_T := xx_good2 (i := 238) (by decide +kernel) (by decide +kernel)
theorem ml_X2_217 : Cond.methodLink RX2 217 yX2_readValue ∈ xx_T := xx_good3 (i := 2) (by decide +kernel) (by decide +kernel)
theorem ml_X2_229 : Cond.methodLink RX2 229 yX3_emit_ ∈ xx_T := xx_good3 (i := 6) (by decide +kernel) (by decide +kernel)
theorem sl_X2_231 : Cond.fieldLink RX2 231 "BeltRounds$Sign" "ROUND" "LBeltRounds$Sign;" ∈ xx_T := xx_good3 (i := 7) (by decide +kernel) (by decide +kernel)
theorem sl_X2_214 : Cond.fieldLink RX2 214 "BeltRounds$Sign" "MINUS" "LBeltRounds$Sign;" ∈ xx_T := xx_good3 (i := 9) (by decide +kernel) (by decide +kernel)
theorem ml_X2_234 : Cond.methodLink RX2 234 yX2_readNegative ∈ xx_T := xx_good3 (i := 11) (by decide +kernel) (by decide +kernel)
theorem sl_X2_237 : Cond.fieldLink RX2 237 "BeltRounds$Sign" "OPEN" "LBeltRounds$Sign;" ∈ xx_T := xx_good3 (i := 15) (by decide +kernel) (by decide +kernel)
theorem sl_X2_240 : Cond.fieldLink RX2 240 "BeltRounds$Sign" "CLOSE" "LBeltRounds$Sign;" ∈ xx_T := xx_good3 (i := 17) (by decide +kernel) (by decide +kernel)
theorem sl_X2_243 : Cond.fieldLink RX2 243 "BeltRounds$Sign" "MIN" "LBeltRounds$Sign;" ∈ xx_T := xx_good3 (i := 19) (by decide +kernel) (by decide +kernel)
theorem sl_X2_246 : Cond.fieldLink RX2 246 "BeltRounds$Sign" "MAX" "LBeltRounds$Sign;" ∈ xx_T := xx_good3 (i := 21) (by decide +kernel) (by decide +kernel)
theorem ml_X2_249 : Cond.methodLink RX2 249 yX2_readChoice ∈ xx_T := xx_good3 (i := 23) (by decide +kernel) (by decide +kernel)
theorem sl_X2_258 : Cond.fieldLink RX2 258 "BeltRounds$Sign" "COMMA" "LBeltRounds$Sign;" ∈ xx_T := xx_good3 (i := 27) (by decide +kernel) (by decide +kernel)
theorem ml_X2_252 : Cond.methodLink RX2 252 yX2_countSeen ∈ xx_T := xx_good3 (i := 29) (by decide +kernel) (by decide +kernel)
theorem sl_X2_261 : Cond.fieldLink RX2 261 "BeltRounds$Sign" "WON" "LBeltRounds$Sign;" ∈ xx_T := xx_good3 (i := 33) (by decide +kernel) (by decide +kernel)
theorem sl_X2_264 : Cond.fieldLink RX2 264 "BeltRounds$Sign" "BELTS" "LBeltRounds$Sign;" ∈ xx_T := xx_good3 (i := 35) (by decide +kernel) (by decide +kernel)
theorem sl_X2_267 : Cond.fieldLink RX2 267 "BeltRounds$Sign" "FLOATS" "LBeltRounds$Sign;" ∈ xx_T := xx_good3 (i := 37) (by decide +kernel) (by decide +kernel)
theorem sl_X2_270 : Cond.fieldLink RX2 270 "BeltRounds$Sign" "REST" "LBeltRounds$Sign;" ∈ xx_T := xx_good3 (i := 39) (by decide +kernel) (by decide +kernel)
theorem ml_X2_255 : Cond.methodLink RX2 255 yX2_readSide ∈ xx_T := xx_good3 (i := 41) (by decide +kernel) (by decide +kernel)
theorem sl_X2_220 : Cond.fieldLink RX2 220 "BeltRounds$Sign" "TIMES" "LBeltRounds$Sign;" ∈ xx_T := xx_good3 (i := 45) (by decide +kernel) (by decide +kernel)
theorem sl_X2_223 : Cond.fieldLink RX2 223 "BeltRounds$Sign" "OVER" "LBeltRounds$Sign;" ∈ xx_T := xx_good3 (i := 47) (by decide +kernel) (by decide +kernel)
theorem sl_X2_211 : Cond.fieldLink RX2 211 "BeltRounds$Sign" "PLUS" "LBeltRounds$Sign;" ∈ xx_T := xx_good3 (i := 49) (by decide +kernel) (by decide +kernel)
theorem ml_X2_190 : Cond.methodLink RX2 190 yX2_comparisonSeen ∈ xx_T := xx_good3 (i := 51) (by decide +kernel) (by decide +kernel)
theorem sl_X2_193 : Cond.fieldLink RX2 193 "BeltRounds$Sign" "LESS" "LBeltRounds$Sign;" ∈ xx_T := xx_good3 (i := 55) (by decide +kernel) (by decide +kernel)
theorem sl_X2_196 : Cond.fieldLink RX2 196 "BeltRounds$Sign" "MORE" "LBeltRounds$Sign;" ∈ xx_T := xx_good3 (i := 57) (by decide +kernel) (by decide +kernel)
theorem sl_X2_199 : Cond.fieldLink RX2 199 "BeltRounds$Sign" "EQUAL" "LBeltRounds$Sign;" ∈ xx_T := xx_good3 (i := 59) (by decide +kernel) (by decide +kernel)
theorem sl_X2_202 : Cond.fieldLink RX2 202 "BeltRounds$Sign" "AT_MOST" "LBeltRounds$Sign;" ∈ xx_T := xx_good3 (i := 61) (by decide +kernel) (by decide +kernel)
theorem sl_X2_205 : Cond.fieldLink RX2 205 "BeltRounds$Sign" "AT_LEAST" "LBeltRounds$Sign;" ∈ xx_T := xx_good3 (i := 63) (by decide +kernel) (by decide +kernel)
theorem sl_X2_162 : Cond.fieldLink RX2 162 "BeltRounds$Sign" "AND" "LBeltRounds$Sign;" ∈ xx_T := xx_good3 (i := 65) (by decide +kernel) (by decide +kernel)
theorem sl_X2_153 : Cond.fieldLink RX2 153 "BeltRounds$Sign" "OR" "LBeltRounds$Sign;" ∈ xx_T := xx_good3 (i := 67) (by decide +kernel) (by decide +kernel)
theorem ml_X2_134 : Cond.methodLink RX2 134 yX3_endRule ∈ xx_T := xx_good3 (i := 69) (by decide +kernel) (by decide +kernel)
theorem sl_X2_83 : Cond.fieldLink RX2 83 "BeltRounds$Sign" "SEMICOLON" "LBeltRounds$Sign;" ∈ xx_T := xx_good3 (i := 73) (by decide +kernel) (by decide +kernel)
theorem ml_X6_72 : Cond.methodLink RX6 72 yX3_copyFrom ∈ xx_T := xx_good3 (i := 75) (by decide +kernel) (by decide +kernel)
theorem ml_X3_37 : Cond.methodLink RX3 37 ⟨"java/lang/System", "arraycopy", "(Ljava/lang/Object;ILjava/lang/Object;II)V"⟩ ∈ xx_T := xx_good3 (i := 79) (by decide +kernel) (by decide +kernel)
theorem ml_X6_86 : Cond.methodLink RX6 86 yX0_begin ∈ xx_T := xx_good3 (i := 82) (by decide +kernel) (by decide +kernel)
theorem ml_X0_49 : Cond.methodLink RX0 49 yJ9_min_7cf53 ∈ xx_T := xx_good3 (i := 86) (by decide +kernel) (by decide +kernel)
theorem ml_X0_55 : Cond.methodLink RX0 55 yJ7_fill_53178 ∈ xx_T := xx_good3 (i := 87) (by decide +kernel) (by decide +kernel)
theorem ml_X0_61 : Cond.methodLink RX0 61 yX0_set ∈ xx_T := xx_good3 (i := 90) (by decide +kernel) (by decide +kernel)
theorem ml_X0_71 : Cond.methodLink RX0 71 yX0_hasCount ∈ xx_T := xx_good3 (i := 94) (by decide +kernel) (by decide +kernel)
theorem ml_L_128 : Cond.methodLink RL 128 yX6_errorAt ∈ xx_T := xx_good3 (i := 98) (by decide +kernel) (by decide +kernel)
theorem ml_L_132 : Cond.methodLink RL 132 yX6_wrestlers ∈ xx_T := xx_good3 (i := 102) (by decide +kernel) (by decide +kernel)
theorem ml_L_136 : Cond.methodLink RL 136 yX6_wrestlersIn ∈ xx_T := xx_good3 (i := 106) (by decide +kernel) (by decide +kernel)
theorem ml_X6_94 : Cond.methodLink RX6 94 yX0_countIn ∈ xx_T := xx_good3 (i := 110) (by decide +kernel) (by decide +kernel)
theorem ml_X0_75 : Cond.methodLink RX0 75 yX0_of ∈ xx_T := xx_good3 (i := 114) (by decide +kernel) (by decide +kernel)
theorem ml_L_140 : Cond.methodLink RL 140 yX6_rules ∈ xx_T := xx_good3 (i := 118) (by decide +kernel) (by decide +kernel)
theorem ml_L_144 : Cond.methodLink RL 144 yX6_rounds ∈ xx_T := xx_good3 (i := 122) (by decide +kernel) (by decide +kernel)
theorem ml_L_148 : Cond.methodLink RL 148 yX6_tapeBytes ∈ xx_T := xx_good3 (i := 126) (by decide +kernel) (by decide +kernel)
theorem ml_L_152 : Cond.methodLink RL 152 yX6_bouts ∈ xx_T := xx_good3 (i := 130) (by decide +kernel) (by decide +kernel)
theorem ml_L_156 : Cond.methodLink RL 156 yX6_openBouts ∈ xx_T := xx_good3 (i := 134) (by decide +kernel) (by decide +kernel)
theorem ml_X6_106 : Cond.methodLink RX6 106 yX0_countOpen ∈ xx_T := xx_good3 (i := 138) (by decide +kernel) (by decide +kernel)
theorem ml_X0_85 : Cond.methodLink RX0 85 yX0_outcomeIn ∈ xx_T := xx_good3 (i := 142) (by decide +kernel) (by decide +kernel)
theorem ml_X0_82 : Cond.methodLink RX0 82 yX0_hasBout ∈ xx_T := xx_good3 (i := 146) (by decide +kernel) (by decide +kernel)
theorem ml_L_243 : Cond.methodLink RL 243 yX6_meanPoints ∈ xx_T := xx_good3 (i := 150) (by decide +kernel) (by decide +kernel)
theorem ml_X6_112 : Cond.methodLink RX6 112 yX0_of ∈ xx_T := xx_good3 (i := 154) (by decide +kernel) (by decide +kernel)
theorem ml_L_248 : Cond.methodLink RL 248 yX6_digest ∈ xx_T := xx_good3 (i := 155) (by decide +kernel) (by decide +kernel)
theorem kl_X6_212 : Cond.constantLong RX6 212 967 ∈ xx_T := xx_good3 (i := 159) (by decide +kernel) (by decide +kernel)
theorem kl_X6_214 : Cond.constantLong RX6 214 31 ∈ xx_T := xx_good3 (i := 160) (by decide +kernel) (by decide +kernel)
theorem ml_X6_216 : Cond.methodLink RX6 216 yX6_wrestlers ∈ xx_T := xx_good3 (i := 161) (by decide +kernel) (by decide +kernel)
theorem ml_X6_218 : Cond.methodLink RX6 218 yX6_wrestlersIn ∈ xx_T := xx_good3 (i := 162) (by decide +kernel) (by decide +kernel)
theorem ml_X6_221 : Cond.methodLink RX6 221 yX6_rules ∈ xx_T := xx_good3 (i := 163) (by decide +kernel) (by decide +kernel)
theorem ml_X6_223 : Cond.methodLink RX6 223 yX6_rounds ∈ xx_T := xx_good3 (i := 164) (by decide +kernel) (by decide +kernel)
theorem ml_X6_225 : Cond.methodLink RX6 225 yX6_tapeBytes ∈ xx_T := xx_good3 (i := 165) (by decide +kernel) (by decide +kernel)
theorem ml_X6_228 : Cond.methodLink RX6 228 yX6_bouts ∈ xx_T := xx_good3 (i := 166) (by decide +kernel) (by decide +kernel)
theorem ml_X6_230 : Cond.methodLink RX6 230 yX6_openBouts ∈ xx_T := xx_good3 (i := 167) (by decide +kernel) (by decide +kernel)
theorem ml_X6_120 : Cond.methodLink RX6 120 yX0_putInOrder ∈ xx_T := xx_good3 (i := 168) (by decide +kernel) (by decide +kernel)
theorem ml_X0_105 : Cond.methodLink RX0 105 yX0_pointsOfRivals ∈ xx_T := xx_good3 (i := 172) (by decide +kernel) (by decide +kernel)
theorem ml_X0_102 : Cond.methodLink RX0 102 yX0_meetings ∈ xx_T := xx_good3 (i := 176) (by decide +kernel) (by decide +kernel)
theorem ml_X0_78 : Cond.methodLink RX0 78 yX0_hasWrestler ∈ xx_T := xx_good3 (i := 180) (by decide +kernel) (by decide +kernel)
theorem ml_X0_108 : Cond.methodLink RX0 108 yX0_standsAhead ∈ xx_T := xx_good3 (i := 184) (by decide +kernel) (by decide +kernel)
theorem ml_X6_233 : Cond.methodLink RX6 233 yX6_digestWrestler ∈ xx_T := xx_good3 (i := 188) (by decide +kernel) (by decide +kernel)
theorem ml_X6_116 : Cond.methodLink RX6 116 yX0_pointsOfRivals ∈ xx_T := xx_good3 (i := 192) (by decide +kernel) (by decide +kernel)
theorem ml_X6_123 : Cond.methodLink RX6 123 yX0_placeOf ∈ xx_T := xx_good3 (i := 193) (by decide +kernel) (by decide +kernel)
theorem ml_X6_138 : Cond.methodLink RX6 138 yX0_meetings ∈ xx_T := xx_good3 (i := 197) (by decide +kernel) (by decide +kernel)
theorem ml_X6_144 : Cond.methodLink RX6 144 yX0_redIn ∈ xx_T := xx_good3 (i := 198) (by decide +kernel) (by decide +kernel)
theorem ml_X6_147 : Cond.methodLink RX6 147 yX0_blueIn ∈ xx_T := xx_good3 (i := 202) (by decide +kernel) (by decide +kernel)
theorem ml_X6_150 : Cond.methodLink RX6 150 yX0_outcomeIn ∈ xx_T := xx_good3 (i := 206) (by decide +kernel) (by decide +kernel)
theorem ml_L_111 : Cond.methodLink RL 111 yL_feed ∈ xx_T := xx_good3 (i := 207) (by decide +kernel) (by decide +kernel)
theorem cl_L_13 : Cond.classLink RL 13 "java/lang/IllegalStateException" ∈ xx_T := xx_good3 (i := 210) (by decide +kernel) (by decide +kernel)
theorem ml_L_7 : Cond.methodLink RL 7 yX6_feed ∈ xx_T := xx_good3 (i := 211) (by decide +kernel) (by decide +kernel)
theorem cl_X6_51 : Cond.classLink RX6 51 "java/lang/IllegalStateException" ∈ xx_T := xx_good3 (i := 215) (by decide +kernel) (by decide +kernel)
theorem ins_java_lang_IllegalStateException : Cond.instantiable "java/lang/IllegalStateException" 6 ∈ xx_T := xx_good3 (i := 216) (by decide +kernel) (by decide +kernel)
theorem ins_java_lang_Throwable : Cond.instantiable "java/lang/Throwable" 6 ∈ xx_T := xx_good4 (i := 14) (by decide +kernel) (by decide +kernel)
theorem ml_X6_55 : Cond.methodLink RX6 55 ⟨"java/lang/IllegalStateException", "<init>", "(Ljava/lang/String;)V"⟩ ∈ xx_T := xx_good4 (i := 17) (by decide +kernel) (by decide +kernel)
theorem ml_X6_58 : Cond.methodLink RX6 58 yX5_append ∈ xx_T := xx_good4 (i := 42) (by decide +kernel) (by decide +kernel)
theorem ml_L_120 : Cond.methodLink RL 120 yL_trim ∈ xx_T := xx_good4 (i := 46) (by decide +kernel) (by decide +kernel)
theorem cl_L_19 : Cond.classLink RL 19 "java/lang/IllegalArgumentException" ∈ xx_T := xx_good4 (i := 49) (by decide +kernel) (by decide +kernel)
theorem ml_L_15 : Cond.methodLink RL 15 yX6_trim ∈ xx_T := xx_good4 (i := 50) (by decide +kernel) (by decide +kernel)
theorem cl_X6_62 : Cond.classLink RX6 62 "java/lang/IllegalArgumentException" ∈ xx_T := xx_good4 (i := 54) (by decide +kernel) (by decide +kernel)
theorem ins_java_lang_IllegalArgumentException : Cond.instantiable "java/lang/IllegalArgumentException" 6 ∈ xx_T := xx_good4 (i := 55) (by decide +kernel) (by decide +kernel)
theorem ml_X6_66 : Cond.methodLink RX6 66 ⟨"java/lang/IllegalArgumentException", "<init>", "(Ljava/lang/String;)V"⟩ ∈ xx_T := xx_good4 (i := 64) (by decide +kernel) (by decide +kernel)
theorem ml_L_160 : Cond.methodLink RL 160 yL_strengthOf ∈ xx_T := xx_good4 (i := 70) (by decide +kernel) (by decide +kernel)
theorem cl_L_24 : Cond.classLink RL 24 "java/lang/IndexOutOfBoundsException" ∈ xx_T := xx_good4 (i := 73) (by decide +kernel) (by decide +kernel)
theorem ml_L_21 : Cond.methodLink RL 21 yX6_strengthOf ∈ xx_T := xx_good4 (i := 74) (by decide +kernel) (by decide +kernel)
theorem ml_X6_109 : Cond.methodLink RX6 109 yX6_needWrestler ∈ xx_T := xx_good4 (i := 78) (by decide +kernel) (by decide +kernel)
theorem ml_X6_126 : Cond.methodLink RX6 126 yX0_hasWrestler ∈ xx_T := xx_good4 (i := 82) (by decide +kernel) (by decide +kernel)
theorem cl_X6_130 : Cond.classLink RX6 130 "java/lang/IndexOutOfBoundsException" ∈ xx_T := xx_good4 (i := 83) (by decide +kernel) (by decide +kernel)
theorem ins_java_lang_IndexOutOfBoundsException : Cond.instantiable "java/lang/IndexOutOfBoundsException" 6 ∈ xx_T := xx_good4 (i := 84) (by decide +kernel) (by decide +kernel)
theorem ml_X6_134 : Cond.methodLink RX6 134 ⟨"java/lang/IndexOutOfBoundsException", "<init>", "(Ljava/lang/String;)V"⟩ ∈ xx_T := xx_good4 (i := 93) (by decide +kernel) (by decide +kernel)
theorem ml_L_163 : Cond.methodLink RL 163 yL_pointsOf ∈ xx_T := xx_good4 (i := 99) (by decide +kernel) (by decide +kernel)
theorem ml_L_26 : Cond.methodLink RL 26 yX6_pointsOf ∈ xx_T := xx_good4 (i := 102) (by decide +kernel) (by decide +kernel)
theorem ml_L_166 : Cond.methodLink RL 166 yL_winsOf ∈ xx_T := xx_good4 (i := 106) (by decide +kernel) (by decide +kernel)
theorem ml_L_29 : Cond.methodLink RL 29 yX6_winsOf ∈ xx_T := xx_good4 (i := 109) (by decide +kernel) (by decide +kernel)
theorem ml_L_169 : Cond.methodLink RL 169 yL_drawsOf ∈ xx_T := xx_good4 (i := 113) (by decide +kernel) (by decide +kernel)
theorem ml_L_32 : Cond.methodLink RL 32 yX6_drawsOf ∈ xx_T := xx_good4 (i := 116) (by decide +kernel) (by decide +kernel)
theorem ml_L_172 : Cond.methodLink RL 172 yL_lossesOf ∈ xx_T := xx_good4 (i := 120) (by decide +kernel) (by decide +kernel)
theorem ml_L_35 : Cond.methodLink RL 35 yX6_lossesOf ∈ xx_T := xx_good4 (i := 123) (by decide +kernel) (by decide +kernel)
theorem ml_L_175 : Cond.methodLink RL 175 yL_restsOf ∈ xx_T := xx_good4 (i := 127) (by decide +kernel) (by decide +kernel)
theorem ml_L_38 : Cond.methodLink RL 38 yX6_restsOf ∈ xx_T := xx_good4 (i := 130) (by decide +kernel) (by decide +kernel)
theorem ml_L_178 : Cond.methodLink RL 178 yL_beltsOf ∈ xx_T := xx_good4 (i := 134) (by decide +kernel) (by decide +kernel)
theorem ml_L_41 : Cond.methodLink RL 41 yX6_beltsOf ∈ xx_T := xx_good4 (i := 137) (by decide +kernel) (by decide +kernel)
theorem ml_L_181 : Cond.methodLink RL 181 yL_floatsOf ∈ xx_T := xx_good4 (i := 141) (by decide +kernel) (by decide +kernel)
theorem ml_L_44 : Cond.methodLink RL 44 yX6_floatsOf ∈ xx_T := xx_good4 (i := 144) (by decide +kernel) (by decide +kernel)
theorem ml_L_184 : Cond.methodLink RL 184 yL_pointsOfMet ∈ xx_T := xx_good4 (i := 148) (by decide +kernel) (by decide +kernel)
theorem ml_L_47 : Cond.methodLink RL 47 yX6_pointsOfMet ∈ xx_T := xx_good4 (i := 151) (by decide +kernel) (by decide +kernel)
theorem ml_L_187 : Cond.methodLink RL 187 yL_rankOf ∈ xx_T := xx_good4 (i := 155) (by decide +kernel) (by decide +kernel)
theorem ml_L_50 : Cond.methodLink RL 50 yX6_rankOf ∈ xx_T := xx_good4 (i := 158) (by decide +kernel) (by decide +kernel)
theorem ml_L_190 : Cond.methodLink RL 190 yL_isIn ∈ xx_T := xx_good4 (i := 162) (by decide +kernel) (by decide +kernel)
theorem ml_L_53 : Cond.methodLink RL 53 yX6_isIn ∈ xx_T := xx_good4 (i := 165) (by decide +kernel) (by decide +kernel)
theorem ml_L_193 : Cond.methodLink RL 193 yL_wrestlerAt ∈ xx_T := xx_good4 (i := 169) (by decide +kernel) (by decide +kernel)
theorem ml_L_57 : Cond.methodLink RL 57 yX6_wrestlerAt ∈ xx_T := xx_good4 (i := 172) (by decide +kernel) (by decide +kernel)
theorem ml_X6_135 : Cond.methodLink RX6 135 yX0_atPlace ∈ xx_T := xx_good4 (i := 177) (by decide +kernel) (by decide +kernel)
theorem ml_L_196 : Cond.methodLink RL 196 yL_timesMet ∈ xx_T := xx_good4 (i := 181) (by decide +kernel) (by decide +kernel)
theorem ml_L_60 : Cond.methodLink RL 60 yX6_timesMet ∈ xx_T := xx_good4 (i := 184) (by decide +kernel) (by decide +kernel)
theorem ml_L_200 : Cond.methodLink RL 200 yL_redOf ∈ xx_T := xx_good4 (i := 188) (by decide +kernel) (by decide +kernel)
theorem ml_L_64 : Cond.methodLink RL 64 yX6_redOf ∈ xx_T := xx_good4 (i := 191) (by decide +kernel) (by decide +kernel)
theorem ml_X6_141 : Cond.methodLink RX6 141 yX6_needBout ∈ xx_T := xx_good4 (i := 195) (by decide +kernel) (by decide +kernel)
theorem ml_X6_239 : Cond.methodLink RX6 239 yX0_hasBout ∈ xx_T := xx_good4 (i := 199) (by decide +kernel) (by decide +kernel)
theorem ml_L_203 : Cond.methodLink RL 203 yL_blueOf ∈ xx_T := xx_good4 (i := 201) (by decide +kernel) (by decide +kernel)
theorem ml_L_67 : Cond.methodLink RL 67 yX6_blueOf ∈ xx_T := xx_good4 (i := 204) (by decide +kernel) (by decide +kernel)
theorem ml_L_206 : Cond.methodLink RL 206 yL_outcomeOf ∈ xx_T := xx_good4 (i := 208) (by decide +kernel) (by decide +kernel)
theorem ml_L_70 : Cond.methodLink RL 70 yX6_outcomeOf ∈ xx_T := xx_good4 (i := 211) (by decide +kernel) (by decide +kernel)
theorem ml_L_209 : Cond.methodLink RL 209 yL_ruledOutcome ∈ xx_T := xx_good4 (i := 216) (by decide +kernel) (by decide +kernel)
theorem ml_L_73 : Cond.methodLink RL 73 yX6_ruledOutcome ∈ xx_T := xx_good4 (i := 219) (by decide +kernel) (by decide +kernel)
theorem ml_X6_155 : Cond.methodLink RX6 155 yX3_outcomeFor ∈ xx_T := xx_good4 (i := 223) (by decide +kernel) (by decide +kernel)
theorem ml_X3_47 : Cond.methodLink RX3 47 yX3_holds ∈ xx_T := xx_good4 (i := 227) (by decide +kernel) (by decide +kernel)
theorem ml_X3_51 : Cond.methodLink RX3 51 yX3_doStep ∈ xx_T := xx_good4 (i := 231) (by decide +kernel) (by decide +kernel)
theorem ml_X3_59 : Cond.methodLink RX3 59 yX3_push ∈ xx_T := xx_good4 (i := 235) (by decide +kernel) (by decide +kernel)
theorem ml_X3_68 : Cond.methodLink RX3 68 yX0_redIn ∈ xx_T := xx_good4 (i := 239) (by decide +kernel) (by decide +kernel)
theorem ml_X3_72 : Cond.methodLink RX3 72 yX0_of ∈ xx_T := xx_good5 (i := 0) (by decide +kernel) (by decide +kernel)
theorem ml_X3_76 : Cond.methodLink RX3 76 yX0_blueIn ∈ xx_T := xx_good5 (i := 1) (by decide +kernel) (by decide +kernel)
theorem ml_X3_79 : Cond.methodLink RX3 79 yX0_meetings ∈ xx_T := xx_good5 (i := 2) (by decide +kernel) (by decide +kernel)
theorem ml_X3_55 : Cond.methodLink RX3 55 yX3_pop ∈ xx_T := xx_good5 (i := 3) (by decide +kernel) (by decide +kernel)
theorem ml_X3_82 : Cond.methodLink RX3 82 yX3_join ∈ xx_T := xx_good5 (i := 7) (by decide +kernel) (by decide +kernel)
theorem ml_X3_86 : Cond.methodLink RX3 86 yJ9_min_7cf53 ∈ xx_T := xx_good5 (i := 10) (by decide +kernel) (by decide +kernel)
theorem ml_X3_91 : Cond.methodLink RX3 91 yJ9_max_7cf53 ∈ xx_T := xx_good5 (i := 11) (by decide +kernel) (by decide +kernel)
theorem ml_L_212 : Cond.methodLink RL 212 yL_opponentOf ∈ xx_T := xx_good5 (i := 14) (by decide +kernel) (by decide +kernel)
theorem ml_L_76 : Cond.methodLink RL 76 yX6_opponentOf ∈ xx_T := xx_good5 (i := 17) (by decide +kernel) (by decide +kernel)
theorem ml_X6_159 : Cond.methodLink RX6 159 yX0_rivalOf ∈ xx_T := xx_good5 (i := 21) (by decide +kernel) (by decide +kernel)
theorem ml_X0_96 : Cond.methodLink RX0 96 yX0_redIn ∈ xx_T := xx_good5 (i := 25) (by decide +kernel) (by decide +kernel)
theorem ml_X0_99 : Cond.methodLink RX0 99 yX0_blueIn ∈ xx_T := xx_good5 (i := 26) (by decide +kernel) (by decide +kernel)
theorem ml_L_215 : Cond.methodLink RL 215 yL_restingOne ∈ xx_T := xx_good5 (i := 28) (by decide +kernel) (by decide +kernel)
theorem ml_L_79 : Cond.methodLink RL 79 yX6_restingOne ∈ xx_T := xx_good5 (i := 31) (by decide +kernel) (by decide +kernel)
theorem ml_L_219 : Cond.methodLink RL 219 yL_pairRound ∈ xx_T := xx_good5 (i := 36) (by decide +kernel) (by decide +kernel)
theorem ml_L_83 : Cond.methodLink RL 83 yX6_pairRound ∈ xx_T := xx_good5 (i := 39) (by decide +kernel) (by decide +kernel)
theorem ml_X6_169 : Cond.methodLink RX6 169 yX6_needPairable ∈ xx_T := xx_good5 (i := 43) (by decide +kernel) (by decide +kernel)
theorem ml_X6_244 : Cond.methodLink RX6 244 yX0_canPair ∈ xx_T := xx_good5 (i := 47) (by decide +kernel) (by decide +kernel)
theorem ml_X0_89 : Cond.methodLink RX0 89 yX0_countOpen ∈ xx_T := xx_good5 (i := 51) (by decide +kernel) (by decide +kernel)
theorem ml_X0_93 : Cond.methodLink RX0 93 yX0_countIn ∈ xx_T := xx_good5 (i := 52) (by decide +kernel) (by decide +kernel)
theorem ml_X6_172 : Cond.methodLink RX6 172 yX1_find ∈ xx_T := xx_good5 (i := 54) (by decide +kernel) (by decide +kernel)
theorem ml_X1_40 : Cond.methodLink RX1 40 yX1_lineUp ∈ xx_T := xx_good5 (i := 58) (by decide +kernel) (by decide +kernel)
theorem ml_X1_68 : Cond.methodLink RX1 68 yX0_putInOrder ∈ xx_T := xx_good5 (i := 62) (by decide +kernel) (by decide +kernel)
theorem ml_X1_76 : Cond.methodLink RX1 76 yX0_atPlace ∈ xx_T := xx_good5 (i := 63) (by decide +kernel) (by decide +kernel)
theorem ml_X1_79 : Cond.methodLink RX1 79 yX0_of ∈ xx_T := xx_good5 (i := 64) (by decide +kernel) (by decide +kernel)
theorem ml_X1_44 : Cond.methodLink RX1 44 yX1_takeOutResting ∈ xx_T := xx_good5 (i := 65) (by decide +kernel) (by decide +kernel)
theorem ml_X1_47 : Cond.methodLink RX1 47 yX1_noteMeetings ∈ xx_T := xx_good5 (i := 69) (by decide +kernel) (by decide +kernel)
theorem ml_X1_82 : Cond.methodLink RX1 82 yX0_meetings ∈ xx_T := xx_good5 (i := 73) (by decide +kernel) (by decide +kernel)
theorem ml_X1_50 : Cond.methodLink RX1 50 yJ7_fill_53178 ∈ xx_T := xx_good5 (i := 74) (by decide +kernel) (by decide +kernel)
theorem ml_X1_56 : Cond.methodLink RX1 56 yX1_fewestRematches ∈ xx_T := xx_good5 (i := 75) (by decide +kernel) (by decide +kernel)
theorem ml_X1_93 : Cond.methodLink RX1 93 yX1_reckonFewest ∈ xx_T := xx_good5 (i := 79) (by decide +kernel) (by decide +kernel)
theorem ml_X1_60 : Cond.methodLink RX1 60 yX1_firstOf ∈ xx_T := xx_good5 (i := 83) (by decide +kernel) (by decide +kernel)
theorem ml_X1_101 : Cond.methodLink RX1 101 yJ6_numberOfTrailingZeros_0f7a4 ∈ xx_T := xx_good5 (i := 86) (by decide +kernel) (by decide +kernel)
theorem kc_J6_264 : Cond.constant RJ6 264 65536 ∈ xx_T := xx_good5 (i := 89) (by decide +kernel) (by decide +kernel)
theorem ml_X1_96 : Cond.methodLink RX1 96 yJ9_min_7cf53 ∈ xx_T := xx_good5 (i := 90) (by decide +kernel) (by decide +kernel)
theorem ml_X1_85 : Cond.methodLink RX1 85 yX1_has ∈ xx_T := xx_good5 (i := 91) (by decide +kernel) (by decide +kernel)
theorem ml_X1_89 : Cond.methodLink RX1 89 yX1_rematchesWith ∈ xx_T := xx_good5 (i := 94) (by decide +kernel) (by decide +kernel)
theorem ml_X1_64 : Cond.methodLink RX1 64 yX1_secondFor ∈ xx_T := xx_good5 (i := 98) (by decide +kernel) (by decide +kernel)
theorem ml_X6_176 : Cond.methodLink RX6 176 yX0_startRound ∈ xx_T := xx_good5 (i := 102) (by decide +kernel) (by decide +kernel)
theorem ml_X0_116 : Cond.methodLink RX0 116 yX1_aheadIn ∈ xx_T := xx_good5 (i := 106) (by decide +kernel) (by decide +kernel)
theorem ml_X0_119 : Cond.methodLink RX0 119 yX1_behindIn ∈ xx_T := xx_good5 (i := 110) (by decide +kernel) (by decide +kernel)
theorem ml_X0_122 : Cond.methodLink RX0 122 yX0_startBout ∈ xx_T := xx_good5 (i := 114) (by decide +kernel) (by decide +kernel)
theorem ml_X0_129 : Cond.methodLink RX0 129 yX0_takesRedAhead ∈ xx_T := xx_good5 (i := 118) (by decide +kernel) (by decide +kernel)
theorem ml_X0_132 : Cond.methodLink RX0 132 yX0_addMeeting ∈ xx_T := xx_good5 (i := 122) (by decide +kernel) (by decide +kernel)
theorem ml_X0_126 : Cond.methodLink RX0 126 yX0_add ∈ xx_T := xx_good5 (i := 126) (by decide +kernel) (by decide +kernel)
theorem ml_L_222 : Cond.methodLink RL 222 yL_tell ∈ xx_T := xx_good5 (i := 130) (by decide +kernel) (by decide +kernel)
theorem ml_L_86 : Cond.methodLink RL 86 yX6_tell ∈ xx_T := xx_good5 (i := 133) (by decide +kernel) (by decide +kernel)
theorem ml_X6_184 : Cond.methodLink RX6 184 yX0_tellOutcome ∈ xx_T := xx_good5 (i := 139) (by decide +kernel) (by decide +kernel)
theorem ml_X0_136 : Cond.methodLink RX0 136 yX0_tellDraw ∈ xx_T := xx_good5 (i := 143) (by decide +kernel) (by decide +kernel)
theorem ml_L_225 : Cond.methodLink RL 225 yL_tellByRules ∈ xx_T := xx_good5 (i := 147) (by decide +kernel) (by decide +kernel)
theorem ml_L_89 : Cond.methodLink RL 89 yX6_tellByRules ∈ xx_T := xx_good5 (i := 150) (by decide +kernel) (by decide +kernel)
theorem ml_X6_190 : Cond.methodLink RX6 190 yX6_tellOpenBouts ∈ xx_T := xx_good5 (i := 155) (by decide +kernel) (by decide +kernel)
theorem ml_L_228 : Cond.methodLink RL 228 yL_turnIn ∈ xx_T := xx_good5 (i := 159) (by decide +kernel) (by decide +kernel)
theorem ml_L_92 : Cond.methodLink RL 92 yX6_turnIn ∈ xx_T := xx_good5 (i := 162) (by decide +kernel) (by decide +kernel)
theorem ml_X6_194 : Cond.methodLink RX6 194 yX0_set ∈ xx_T := xx_good5 (i := 166) (by decide +kernel) (by decide +kernel)
theorem ml_L_231 : Cond.methodLink RL 231 yL_nextOpponentOf ∈ xx_T := xx_good5 (i := 167) (by decide +kernel) (by decide +kernel)
theorem ml_L_95 : Cond.methodLink RL 95 yX6_nextOpponentOf ∈ xx_T := xx_good5 (i := 170) (by decide +kernel) (by decide +kernel)
theorem ml_X6_198 : Cond.methodLink RX6 198 yX1_rivalOf ∈ xx_T := xx_good5 (i := 174) (by decide +kernel) (by decide +kernel)
theorem ml_L_234 : Cond.methodLink RL 234 yL_nextRematches ∈ xx_T := xx_good5 (i := 179) (by decide +kernel) (by decide +kernel)
theorem ml_L_98 : Cond.methodLink RL 98 yX6_nextRematches ∈ xx_T := xx_good5 (i := 182) (by decide +kernel) (by decide +kernel)
theorem ml_L_237 : Cond.methodLink RL 237 yL_leaderAfter ∈ xx_T := xx_good5 (i := 186) (by decide +kernel) (by decide +kernel)
theorem ml_L_101 : Cond.methodLink RL 101 yX6_leaderAfter ∈ xx_T := xx_good5 (i := 189) (by decide +kernel) (by decide +kernel)
theorem ml_X6_204 : Cond.methodLink RX6 204 yX6_needRoundsAhead ∈ xx_T := xx_good5 (i := 193) (by decide +kernel) (by decide +kernel)
theorem ml_X6_209 : Cond.methodLink RX6 209 yX6_playTrial ∈ xx_T := xx_good5 (i := 198) (by decide +kernel) (by decide +kernel)
theorem ml_X6_252 : Cond.methodLink RX6 252 yX0_copyFrom ∈ xx_T := xx_good5 (i := 202) (by decide +kernel) (by decide +kernel)
theorem ml_X0_65 : Cond.methodLink RX0 65 ⟨"java/lang/System", "arraycopy", "(Ljava/lang/Object;ILjava/lang/Object;II)V"⟩ ∈ xx_T := xx_good5 (i := 206) (by decide +kernel) (by decide +kernel)
theorem ml_L_240 : Cond.methodLink RL 240 yL_pointsAfter ∈ xx_T := xx_good5 (i := 207) (by decide +kernel) (by decide +kernel)
theorem ml_L_104 : Cond.methodLink RL 104 yX6_pointsAfter ∈ xx_T := xx_good5 (i := 210) (by decide +kernel) (by decide +kernel)
theorem cl_L_108 : Cond.classLink RL 108 RX9 ∈ xx_T := xx_good5 (i := 214) (by decide +kernel) (by decide +kernel)
theorem ins_BeltRoundsModel : Cond.instantiable RX9 22 ∈ xx_T := xx_good5 (i := 215) (by decide +kernel) (by decide +kernel)
theorem ml_L_110 : Cond.methodLink RL 110 yX9_init ∈ xx_T := xx_good5 (i := 216) (by decide +kernel) (by decide +kernel)
theorem ml_X9_1 : Cond.methodLink RX9 1 objectInit ∈ xx_T := xx_good5 (i := 219) (by decide +kernel) (by decide +kernel)
theorem cl_X9_17 : Cond.classLink RX9 17 RX7 ∈ xx_T := xx_good5 (i := 220) (by decide +kernel) (by decide +kernel)
theorem ins_BeltRoundsModel_Plan : Cond.instantiable RX7 11 ∈ xx_T := xx_good5 (i := 221) (by decide +kernel) (by decide +kernel)
theorem ml_X9_19 : Cond.methodLinkNest RX9 19 yX7_init "BeltRoundsModel" ∈ xx_N := xx_oddin (i := 1295) (by decide +kernel) (by decide +kernel)
theorem ml_X7_3 : Cond.methodLink RX7 3 objectInit ∈ xx_T := xx_good5 (i := 225) (by decide +kernel) (by decide +kernel)
theorem fl_X9_65 : xx_Fl RX9 65 6 0 := ⟨RX7, TX7, 11, tyX7, k_6, by decide, Or.inr ⟨"BeltRoundsModel", xx_oddin (i := 1299) (by decide +kernel) (by decide +kernel)⟩⟩
theorem fp_X9_65 : xx_Fp RX9 65 6 0 (.int) := ⟨RX7, TX7, 11, tyX7, k_6, by decide, rfl, by decide +kernel, Or.inr ⟨"BeltRoundsModel", xx_oddin (i := 1299) (by decide +kernel) (by decide +kernel)⟩⟩
theorem fl_X7_9 : xx_Fl RX7 9 6 1 := ⟨RX7, TX7, 11, tyX7, k_6, by decide, Or.inl (xx_good5 (i := 227) (by decide +kernel) (by decide +kernel))⟩
theorem ff_X7_9 : xx_Ff RX7 9 6 1 (.array .long) := ⟨RX7, TX7, 11, tyX7, k_6, by decide, rfl, rfl, by decide +kernel, xx_good5 (i := 227) (by decide +kernel) (by decide +kernel)⟩
theorem fl_X9_376 : xx_Fl RX9 376 6 1 := ⟨RX7, TX7, 11, tyX7, k_6, by decide, Or.inr ⟨"BeltRoundsModel", xx_oddin (i := 1301) (by decide +kernel) (by decide +kernel)⟩⟩
theorem fl_X7_15 : xx_Fl RX7 15 6 2 := ⟨RX7, TX7, 11, tyX7, k_6, by decide, Or.inl (xx_good5 (i := 229) (by decide +kernel) (by decide +kernel))⟩
theorem ff_X7_15 : xx_Ff RX7 15 6 2 (.array .int) := ⟨RX7, TX7, 11, tyX7, k_6, by decide, rfl, rfl, by decide +kernel, xx_good5 (i := 229) (by decide +kernel) (by decide +kernel)⟩
theorem fl_X9_83 : xx_Fl RX9 83 6 2 := ⟨RX7, TX7, 11, tyX7, k_6, by decide, Or.inr ⟨"BeltRoundsModel", xx_oddin (i := 1303) (by decide +kernel) (by decide +kernel)⟩⟩
theorem fl_X7_19 : xx_Fl RX7 19 6 3 := ⟨RX7, TX7, 11, tyX7, k_6, by decide, Or.inl (xx_good5 (i := 231) (by decide +kernel) (by decide +kernel))⟩
theorem ff_X7_19 : xx_Ff RX7 19 6 3 (.array .int) := ⟨RX7, TX7, 11, tyX7, k_6, by decide, rfl, rfl, by decide +kernel, xx_good5 (i := 231) (by decide +kernel) (by decide +kernel)⟩
theorem fl_X9_180 : xx_Fl RX9 180 6 3 := ⟨RX7, TX7, 11, tyX7, k_6, by decide, Or.inr ⟨"BeltRoundsModel", xx_oddin (i := 1305) (by decide +kernel) (by decide +kernel)⟩⟩
theorem fl_X9_192 : xx_Fl RX9 192 6 4 := ⟨RX7, TX7, 11, tyX7, k_6, by decide, Or.inr ⟨"BeltRoundsModel", xx_oddin (i := 1306) (by decide +kernel) (by decide +kernel)⟩⟩
theorem fp_X9_192 : xx_Fp RX9 192 6 4 (.int) := ⟨RX7, TX7, 11, tyX7, k_6, by decide, rfl, by decide +kernel, Or.inr ⟨"BeltRoundsModel", xx_oddin (i := 1306) (by decide +kernel) (by decide +kernel)⟩⟩
theorem fl_X7_22 : xx_Fl RX7 22 6 5 := ⟨RX7, TX7, 11, tyX7, k_6, by decide, Or.inl (xx_good5 (i := 234) (by decide +kernel) (by decide +kernel))⟩
theorem ff_X7_22 : xx_Ff RX7 22 6 5 (.array .int) := ⟨RX7, TX7, 11, tyX7, k_6, by decide, rfl, rfl, by decide +kernel, xx_good5 (i := 234) (by decide +kernel) (by decide +kernel)⟩
theorem fl_X9_198 : xx_Fl RX9 198 6 5 := ⟨RX7, TX7, 11, tyX7, k_6, by decide, Or.inr ⟨"BeltRoundsModel", xx_oddin (i := 1308) (by decide +kernel) (by decide +kernel)⟩⟩
theorem fl_X7_25 : xx_Fl RX7 25 6 6 := ⟨RX7, TX7, 11, tyX7, k_6, by decide, Or.inl (xx_good5 (i := 236) (by decide +kernel) (by decide +kernel))⟩
theorem ff_X7_25 : xx_Ff RX7 25 6 6 (.array .int) := ⟨RX7, TX7, 11, tyX7, k_6, by decide, rfl, rfl, by decide +kernel, xx_good5 (i := 236) (by decide +kernel) (by decide +kernel)⟩
theorem fl_X9_236 : xx_Fl RX9 236 6 6 := ⟨RX7, TX7, 11, tyX7, k_6, by decide, Or.inr ⟨"BeltRoundsModel", xx_oddin (i := 1310) (by decide +kernel) (by decide +kernel)⟩⟩
theorem fl_X7_28 : xx_Fl RX7 28 6 7 := ⟨RX7, TX7, 11, tyX7, k_6, by decide, Or.inl (xx_good5 (i := 238) (by decide +kernel) (by decide +kernel))⟩
theorem ff_X7_28 : xx_Ff RX7 28 6 7 (.array .int) := ⟨RX7, TX7, 11, tyX7, k_6, by decide, rfl, rfl, by decide +kernel, xx_good5 (i := 238) (by decide +kernel) (by decide +kernel)⟩
theorem fl_X9_239 : xx_Fl RX9 239 6 7 := ⟨RX7, TX7, 11, tyX7, k_6, by decide, Or.inr ⟨"BeltRoundsModel", xx_oddin (i := 1312) (by decide +kernel) (by decide +kernel)⟩⟩
theorem fl_X7_31 : xx_Fl RX7 31 6 8 := ⟨RX7, TX7, 11, tyX7, k_6, by decide, Or.inl (xx_good6 (i := 0) (by decide +kernel) (by decide +kernel))⟩
theorem ff_X7_31 : xx_Ff RX7 31 6 8 (.array .int) := ⟨RX7, TX7, 11, tyX7, k_6, by decide, rfl, rfl, by decide +kernel, xx_good6 (i := 0) (by decide +kernel) (by decide +kernel)⟩
theorem fl_X9_242 : xx_Fl RX9 242 6 8 := ⟨RX7, TX7, 11, tyX7, k_6, by decide, Or.inr ⟨"BeltRoundsModel", xx_oddin (i := 1314) (by decide +kernel) (by decide +kernel)⟩⟩
theorem fl_X7_34 : xx_Fl RX7 34 6 9 := ⟨RX7, TX7, 11, tyX7, k_6, by decide, Or.inl (xx_good6 (i := 2) (by decide +kernel) (by decide +kernel))⟩
theorem ff_X7_34 : xx_Ff RX7 34 6 9 (.array .int) := ⟨RX7, TX7, 11, tyX7, k_6, by decide, rfl, rfl, by decide +kernel, xx_good6 (i := 2) (by decide +kernel) (by decide +kernel)⟩
theorem fl_X9_248 : xx_Fl RX9 248 6 9 := ⟨RX7, TX7, 11, tyX7, k_6, by decide, Or.inr ⟨"BeltRoundsModel", xx_oddin (i := 1316) (by decide +kernel) (by decide +kernel)⟩⟩
theorem fl_X9_314 : xx_Fl RX9 314 6 10 := ⟨RX7, TX7, 11, tyX7, k_6, by decide, Or.inr ⟨"BeltRoundsModel", xx_oddin (i := 1317) (by decide +kernel) (by decide +kernel)⟩⟩
theorem fp_X9_314 : xx_Fp RX9 314 6 10 (.int) := ⟨RX7, TX7, 11, tyX7, k_6, by decide, rfl, by decide +kernel, Or.inr ⟨"BeltRoundsModel", xx_oddin (i := 1317) (by decide +kernel) (by decide +kernel)⟩⟩
theorem ac_long : Cond.arrayClass .long ∈ xx_T := xx_good6 (i := 28) (by decide +kernel) (by decide +kernel)
theorem cl_X9_37 : Cond.classLink RX9 37 RX8 ∈ xx_T := xx_good6 (i := 29) (by decide +kernel) (by decide +kernel)
theorem ins_BeltRoundsModel_State : Cond.instantiable RX8 16 ∈ xx_T := xx_good6 (i := 30) (by decide +kernel) (by decide +kernel)
theorem ml_X9_39 : Cond.methodLinkNest RX9 39 yX8_init "BeltRoundsModel" ∈ xx_N := xx_oddin (i := 1344) (by decide +kernel) (by decide +kernel)
theorem ml_X8_3 : Cond.methodLink RX8 3 objectInit ∈ xx_T := xx_good6 (i := 34) (by decide +kernel) (by decide +kernel)
theorem fl_X8_56 : xx_Fl RX8 56 7 0 := ⟨RX8, TX8, 16, tyX8, k_7, by decide, Or.inl (xx_good6 (i := 35) (by decide +kernel) (by decide +kernel))⟩
theorem fp_X8_56 : xx_Fp RX8 56 7 0 (.int) := ⟨RX8, TX8, 16, tyX8, k_7, by decide, rfl, by decide +kernel, Or.inl (xx_good6 (i := 35) (by decide +kernel) (by decide +kernel))⟩
theorem fl_X9_101 : xx_Fl RX9 101 7 0 := ⟨RX8, TX8, 16, tyX8, k_7, by decide, Or.inr ⟨"BeltRoundsModel", xx_oddin (i := 1349) (by decide +kernel) (by decide +kernel)⟩⟩
theorem fp_X9_101 : xx_Fp RX9 101 7 0 (.int) := ⟨RX8, TX8, 16, tyX8, k_7, by decide, rfl, by decide +kernel, Or.inr ⟨"BeltRoundsModel", xx_oddin (i := 1349) (by decide +kernel) (by decide +kernel)⟩⟩
theorem fl_X8_59 : xx_Fl RX8 59 7 1 := ⟨RX8, TX8, 16, tyX8, k_7, by decide, Or.inl (xx_good6 (i := 37) (by decide +kernel) (by decide +kernel))⟩
theorem fp_X8_59 : xx_Fp RX8 59 7 1 (.int) := ⟨RX8, TX8, 16, tyX8, k_7, by decide, rfl, by decide +kernel, Or.inl (xx_good6 (i := 37) (by decide +kernel) (by decide +kernel))⟩
theorem fl_X9_151 : xx_Fl RX9 151 7 1 := ⟨RX8, TX8, 16, tyX8, k_7, by decide, Or.inr ⟨"BeltRoundsModel", xx_oddin (i := 1351) (by decide +kernel) (by decide +kernel)⟩⟩
theorem fp_X9_151 : xx_Fp RX9 151 7 1 (.int) := ⟨RX8, TX8, 16, tyX8, k_7, by decide, rfl, by decide +kernel, Or.inr ⟨"BeltRoundsModel", xx_oddin (i := 1351) (by decide +kernel) (by decide +kernel)⟩⟩
theorem fl_X8_9 : xx_Fl RX8 9 7 2 := ⟨RX8, TX8, 16, tyX8, k_7, by decide, Or.inl (xx_good6 (i := 39) (by decide +kernel) (by decide +kernel))⟩
theorem fp_X8_9 : xx_Fp RX8 9 7 2 (.int) := ⟨RX8, TX8, 16, tyX8, k_7, by decide, rfl, by decide +kernel, Or.inl (xx_good6 (i := 39) (by decide +kernel) (by decide +kernel))⟩
theorem fl_X9_154 : xx_Fl RX9 154 7 2 := ⟨RX8, TX8, 16, tyX8, k_7, by decide, Or.inr ⟨"BeltRoundsModel", xx_oddin (i := 1353) (by decide +kernel) (by decide +kernel)⟩⟩
theorem fp_X9_154 : xx_Fp RX9 154 7 2 (.int) := ⟨RX8, TX8, 16, tyX8, k_7, by decide, rfl, by decide +kernel, Or.inr ⟨"BeltRoundsModel", xx_oddin (i := 1353) (by decide +kernel) (by decide +kernel)⟩⟩
theorem fl_X8_15 : xx_Fl RX8 15 7 3 := ⟨RX8, TX8, 16, tyX8, k_7, by decide, Or.inl (xx_good6 (i := 41) (by decide +kernel) (by decide +kernel))⟩
theorem ff_X8_15 : xx_Ff RX8 15 7 3 (.array .int) := ⟨RX8, TX8, 16, tyX8, k_7, by decide, rfl, rfl, by decide +kernel, xx_good6 (i := 41) (by decide +kernel) (by decide +kernel)⟩
theorem fl_X9_76 : xx_Fl RX9 76 7 3 := ⟨RX8, TX8, 16, tyX8, k_7, by decide, Or.inr ⟨"BeltRoundsModel", xx_oddin (i := 1355) (by decide +kernel) (by decide +kernel)⟩⟩
theorem fl_X8_19 : xx_Fl RX8 19 7 4 := ⟨RX8, TX8, 16, tyX8, k_7, by decide, Or.inl (xx_good6 (i := 43) (by decide +kernel) (by decide +kernel))⟩
theorem ff_X8_19 : xx_Ff RX8 19 7 4 (.array .int) := ⟨RX8, TX8, 16, tyX8, k_7, by decide, rfl, rfl, by decide +kernel, xx_good6 (i := 43) (by decide +kernel) (by decide +kernel)⟩
theorem fl_X9_186 : xx_Fl RX9 186 7 4 := ⟨RX8, TX8, 16, tyX8, k_7, by decide, Or.inr ⟨"BeltRoundsModel", xx_oddin (i := 1357) (by decide +kernel) (by decide +kernel)⟩⟩
theorem fl_X8_22 : xx_Fl RX8 22 7 5 := ⟨RX8, TX8, 16, tyX8, k_7, by decide, Or.inl (xx_good6 (i := 45) (by decide +kernel) (by decide +kernel))⟩
theorem ff_X8_22 : xx_Ff RX8 22 7 5 (.array .int) := ⟨RX8, TX8, 16, tyX8, k_7, by decide, rfl, rfl, by decide +kernel, xx_good6 (i := 45) (by decide +kernel) (by decide +kernel)⟩
theorem fl_X9_183 : xx_Fl RX9 183 7 5 := ⟨RX8, TX8, 16, tyX8, k_7, by decide, Or.inr ⟨"BeltRoundsModel", xx_oddin (i := 1359) (by decide +kernel) (by decide +kernel)⟩⟩
theorem fl_X8_25 : xx_Fl RX8 25 7 6 := ⟨RX8, TX8, 16, tyX8, k_7, by decide, Or.inl (xx_good6 (i := 47) (by decide +kernel) (by decide +kernel))⟩
theorem ff_X8_25 : xx_Ff RX8 25 7 6 (.array .int) := ⟨RX8, TX8, 16, tyX8, k_7, by decide, rfl, rfl, by decide +kernel, xx_good6 (i := 47) (by decide +kernel) (by decide +kernel)⟩
theorem fl_X9_189 : xx_Fl RX9 189 7 6 := ⟨RX8, TX8, 16, tyX8, k_7, by decide, Or.inr ⟨"BeltRoundsModel", xx_oddin (i := 1361) (by decide +kernel) (by decide +kernel)⟩⟩
theorem fl_X8_28 : xx_Fl RX8 28 7 7 := ⟨RX8, TX8, 16, tyX8, k_7, by decide, Or.inl (xx_good6 (i := 49) (by decide +kernel) (by decide +kernel))⟩
theorem ff_X8_28 : xx_Ff RX8 28 7 7 (.array .int) := ⟨RX8, TX8, 16, tyX8, k_7, by decide, rfl, rfl, by decide +kernel, xx_good6 (i := 49) (by decide +kernel) (by decide +kernel)⟩
theorem fl_X9_117 : xx_Fl RX9 117 7 7 := ⟨RX8, TX8, 16, tyX8, k_7, by decide, Or.inr ⟨"BeltRoundsModel", xx_oddin (i := 1363) (by decide +kernel) (by decide +kernel)⟩⟩
theorem fl_X8_31 : xx_Fl RX8 31 7 8 := ⟨RX8, TX8, 16, tyX8, k_7, by decide, Or.inl (xx_good6 (i := 51) (by decide +kernel) (by decide +kernel))⟩
theorem ff_X8_31 : xx_Ff RX8 31 7 8 (.array .int) := ⟨RX8, TX8, 16, tyX8, k_7, by decide, rfl, rfl, by decide +kernel, xx_good6 (i := 51) (by decide +kernel) (by decide +kernel)⟩
theorem fl_X9_142 : xx_Fl RX9 142 7 8 := ⟨RX8, TX8, 16, tyX8, k_7, by decide, Or.inr ⟨"BeltRoundsModel", xx_oddin (i := 1365) (by decide +kernel) (by decide +kernel)⟩⟩
theorem fl_X8_34 : xx_Fl RX8 34 7 9 := ⟨RX8, TX8, 16, tyX8, k_7, by decide, Or.inl (xx_good6 (i := 53) (by decide +kernel) (by decide +kernel))⟩
theorem ff_X8_34 : xx_Ff RX8 34 7 9 (.array .int) := ⟨RX8, TX8, 16, tyX8, k_7, by decide, rfl, rfl, by decide +kernel, xx_good6 (i := 53) (by decide +kernel) (by decide +kernel)⟩
theorem fl_X9_157 : xx_Fl RX9 157 7 9 := ⟨RX8, TX8, 16, tyX8, k_7, by decide, Or.inr ⟨"BeltRoundsModel", xx_oddin (i := 1367) (by decide +kernel) (by decide +kernel)⟩⟩
theorem fl_X8_37 : xx_Fl RX8 37 7 10 := ⟨RX8, TX8, 16, tyX8, k_7, by decide, Or.inl (xx_good6 (i := 55) (by decide +kernel) (by decide +kernel))⟩
theorem ff_X8_37 : xx_Ff RX8 37 7 10 (.array .int) := ⟨RX8, TX8, 16, tyX8, k_7, by decide, rfl, rfl, by decide +kernel, xx_good6 (i := 55) (by decide +kernel) (by decide +kernel)⟩
theorem fl_X9_145 : xx_Fl RX9 145 7 10 := ⟨RX8, TX8, 16, tyX8, k_7, by decide, Or.inr ⟨"BeltRoundsModel", xx_oddin (i := 1369) (by decide +kernel) (by decide +kernel)⟩⟩
theorem fl_X8_40 : xx_Fl RX8 40 7 11 := ⟨RX8, TX8, 16, tyX8, k_7, by decide, Or.inl (xx_good6 (i := 57) (by decide +kernel) (by decide +kernel))⟩
theorem ff_X8_40 : xx_Ff RX8 40 7 11 (.array .boolean) := ⟨RX8, TX8, 16, tyX8, k_7, by decide, rfl, rfl, by decide +kernel, xx_good6 (i := 57) (by decide +kernel) (by decide +kernel)⟩
theorem fl_X9_93 : xx_Fl RX9 93 7 11 := ⟨RX8, TX8, 16, tyX8, k_7, by decide, Or.inr ⟨"BeltRoundsModel", xx_oddin (i := 1371) (by decide +kernel) (by decide +kernel)⟩⟩
theorem fl_X8_44 : xx_Fl RX8 44 7 12 := ⟨RX8, TX8, 16, tyX8, k_7, by decide, Or.inl (xx_good6 (i := 59) (by decide +kernel) (by decide +kernel))⟩
theorem ff_X8_44 : xx_Ff RX8 44 7 12 (.array .int) := ⟨RX8, TX8, 16, tyX8, k_7, by decide, rfl, rfl, by decide +kernel, xx_good6 (i := 59) (by decide +kernel) (by decide +kernel)⟩
theorem fl_X8_47 : xx_Fl RX8 47 7 13 := ⟨RX8, TX8, 16, tyX8, k_7, by decide, Or.inl (xx_good6 (i := 60) (by decide +kernel) (by decide +kernel))⟩
theorem ff_X8_47 : xx_Ff RX8 47 7 13 (.array .int) := ⟨RX8, TX8, 16, tyX8, k_7, by decide, rfl, rfl, by decide +kernel, xx_good6 (i := 60) (by decide +kernel) (by decide +kernel)⟩
theorem fl_X9_163 : xx_Fl RX9 163 7 13 := ⟨RX8, TX8, 16, tyX8, k_7, by decide, Or.inr ⟨"BeltRoundsModel", xx_oddin (i := 1374) (by decide +kernel) (by decide +kernel)⟩⟩
theorem fl_X8_50 : xx_Fl RX8 50 7 14 := ⟨RX8, TX8, 16, tyX8, k_7, by decide, Or.inl (xx_good6 (i := 62) (by decide +kernel) (by decide +kernel))⟩
theorem ff_X8_50 : xx_Ff RX8 50 7 14 (.array .int) := ⟨RX8, TX8, 16, tyX8, k_7, by decide, rfl, rfl, by decide +kernel, xx_good6 (i := 62) (by decide +kernel) (by decide +kernel)⟩
theorem fl_X9_166 : xx_Fl RX9 166 7 14 := ⟨RX8, TX8, 16, tyX8, k_7, by decide, Or.inr ⟨"BeltRoundsModel", xx_oddin (i := 1376) (by decide +kernel) (by decide +kernel)⟩⟩
theorem fl_X8_53 : xx_Fl RX8 53 7 15 := ⟨RX8, TX8, 16, tyX8, k_7, by decide, Or.inl (xx_good6 (i := 64) (by decide +kernel) (by decide +kernel))⟩
theorem ff_X8_53 : xx_Ff RX8 53 7 15 (.array .int) := ⟨RX8, TX8, 16, tyX8, k_7, by decide, rfl, rfl, by decide +kernel, xx_good6 (i := 64) (by decide +kernel) (by decide +kernel)⟩
theorem fl_X9_177 : xx_Fl RX9 177 7 15 := ⟨RX8, TX8, 16, tyX8, k_7, by decide, Or.inr ⟨"BeltRoundsModel", xx_oddin (i := 1378) (by decide +kernel) (by decide +kernel)⟩⟩
theorem ac_boolean : Cond.arrayClass .boolean ∈ xx_T := xx_good6 (i := 99) (by decide +kernel) (by decide +kernel)
theorem fl_X9_62 : xx_Fl RX9 62 8 0 := ⟨RX9, TX9, 22, tyX9, k_8, by decide, Or.inl (xx_good6 (i := 100) (by decide +kernel) (by decide +kernel))⟩
theorem fp_X9_62 : xx_Fp RX9 62 8 0 (.int) := ⟨RX9, TX9, 22, tyX9, k_8, by decide, rfl, by decide +kernel, Or.inl (xx_good6 (i := 100) (by decide +kernel) (by decide +kernel))⟩
theorem fl_X9_9 : xx_Fl RX9 9 8 1 := ⟨RX9, TX9, 22, tyX9, k_8, by decide, Or.inl (xx_good6 (i := 101) (by decide +kernel) (by decide +kernel))⟩
theorem ff_X9_9 : xx_Ff RX9 9 8 1 (.array .int) := ⟨RX9, TX9, 22, tyX9, k_8, by decide, rfl, rfl, by decide +kernel, xx_good6 (i := 101) (by decide +kernel) (by decide +kernel)⟩
theorem fl_X9_259 : xx_Fl RX9 259 8 2 := ⟨RX9, TX9, 22, tyX9, k_8, by decide, Or.inl (xx_good6 (i := 102) (by decide +kernel) (by decide +kernel))⟩
theorem fp_X9_259 : xx_Fp RX9 259 8 2 (.int) := ⟨RX9, TX9, 22, tyX9, k_8, by decide, rfl, by decide +kernel, Or.inl (xx_good6 (i := 102) (by decide +kernel) (by decide +kernel))⟩
theorem fl_X9_13 : xx_Fl RX9 13 8 3 := ⟨RX9, TX9, 22, tyX9, k_8, by decide, Or.inl (xx_good6 (i := 103) (by decide +kernel) (by decide +kernel))⟩
theorem fp_X9_13 : xx_Fp RX9 13 8 3 (.int) := ⟨RX9, TX9, 22, tyX9, k_8, by decide, rfl, by decide +kernel, Or.inl (xx_good6 (i := 103) (by decide +kernel) (by decide +kernel))⟩
theorem fl_X9_20 : xx_Fl RX9 20 8 4 := ⟨RX9, TX9, 22, tyX9, k_8, by decide, Or.inl (xx_good6 (i := 104) (by decide +kernel) (by decide +kernel))⟩
theorem fp_X9_20 : xx_Fp RX9 20 8 4 (.object "BeltRoundsModel$Plan") := ⟨RX9, TX9, 22, tyX9, k_8, by decide, rfl, by decide +kernel, Or.inl (xx_good6 (i := 104) (by decide +kernel) (by decide +kernel))⟩
theorem fl_X9_24 : xx_Fl RX9 24 8 5 := ⟨RX9, TX9, 22, tyX9, k_8, by decide, Or.inl (xx_good6 (i := 105) (by decide +kernel) (by decide +kernel))⟩
theorem ff_X9_24 : xx_Ff RX9 24 8 5 (.array .int) := ⟨RX9, TX9, 22, tyX9, k_8, by decide, rfl, rfl, by decide +kernel, xx_good6 (i := 105) (by decide +kernel) (by decide +kernel)⟩
theorem fl_X9_27 : xx_Fl RX9 27 8 6 := ⟨RX9, TX9, 22, tyX9, k_8, by decide, Or.inl (xx_good6 (i := 106) (by decide +kernel) (by decide +kernel))⟩
theorem ff_X9_27 : xx_Ff RX9 27 8 6 (.array .int) := ⟨RX9, TX9, 22, tyX9, k_8, by decide, rfl, rfl, by decide +kernel, xx_good6 (i := 106) (by decide +kernel) (by decide +kernel)⟩
theorem fl_X9_30 : xx_Fl RX9 30 8 7 := ⟨RX9, TX9, 22, tyX9, k_8, by decide, Or.inl (xx_good6 (i := 107) (by decide +kernel) (by decide +kernel))⟩
theorem ff_X9_30 : xx_Ff RX9 30 8 7 (.array .int) := ⟨RX9, TX9, 22, tyX9, k_8, by decide, rfl, rfl, by decide +kernel, xx_good6 (i := 107) (by decide +kernel) (by decide +kernel)⟩
theorem fl_X9_33 : xx_Fl RX9 33 8 8 := ⟨RX9, TX9, 22, tyX9, k_8, by decide, Or.inl (xx_good6 (i := 108) (by decide +kernel) (by decide +kernel))⟩
theorem ff_X9_33 : xx_Ff RX9 33 8 8 (.array .long) := ⟨RX9, TX9, 22, tyX9, k_8, by decide, rfl, rfl, by decide +kernel, xx_good6 (i := 108) (by decide +kernel) (by decide +kernel)⟩
theorem fl_X9_305 : xx_Fl RX9 305 8 9 := ⟨RX9, TX9, 22, tyX9, k_8, by decide, Or.inl (xx_good6 (i := 109) (by decide +kernel) (by decide +kernel))⟩
theorem fp_X9_305 : xx_Fp RX9 305 8 9 (.int) := ⟨RX9, TX9, 22, tyX9, k_8, by decide, rfl, by decide +kernel, Or.inl (xx_good6 (i := 109) (by decide +kernel) (by decide +kernel))⟩
theorem fl_X9_311 : xx_Fl RX9 311 8 10 := ⟨RX9, TX9, 22, tyX9, k_8, by decide, Or.inl (xx_good6 (i := 110) (by decide +kernel) (by decide +kernel))⟩
theorem fp_X9_311 : xx_Fp RX9 311 8 10 (.int) := ⟨RX9, TX9, 22, tyX9, k_8, by decide, rfl, by decide +kernel, Or.inl (xx_good6 (i := 110) (by decide +kernel) (by decide +kernel))⟩
theorem fl_X9_40 : xx_Fl RX9 40 8 11 := ⟨RX9, TX9, 22, tyX9, k_8, by decide, Or.inl (xx_good6 (i := 111) (by decide +kernel) (by decide +kernel))⟩
theorem fp_X9_40 : xx_Fp RX9 40 8 11 (.object "BeltRoundsModel$State") := ⟨RX9, TX9, 22, tyX9, k_8, by decide, rfl, by decide +kernel, Or.inl (xx_good6 (i := 111) (by decide +kernel) (by decide +kernel))⟩
theorem fl_X9_44 : xx_Fl RX9 44 8 12 := ⟨RX9, TX9, 22, tyX9, k_8, by decide, Or.inl (xx_good6 (i := 112) (by decide +kernel) (by decide +kernel))⟩
theorem ff_X9_44 : xx_Ff RX9 44 8 12 (.object "BeltRoundsModel$State") := ⟨RX9, TX9, 22, tyX9, k_8, by decide, rfl, rfl, by decide +kernel, xx_good6 (i := 112) (by decide +kernel) (by decide +kernel)⟩
theorem fl_X9_47 : xx_Fl RX9 47 8 13 := ⟨RX9, TX9, 22, tyX9, k_8, by decide, Or.inl (xx_good6 (i := 113) (by decide +kernel) (by decide +kernel))⟩
theorem ff_X9_47 : xx_Ff RX9 47 8 13 (.array .int) := ⟨RX9, TX9, 22, tyX9, k_8, by decide, rfl, rfl, by decide +kernel, xx_good6 (i := 113) (by decide +kernel) (by decide +kernel)⟩
theorem fl_X9_108 : xx_Fl RX9 108 8 14 := ⟨RX9, TX9, 22, tyX9, k_8, by decide, Or.inl (xx_good6 (i := 114) (by decide +kernel) (by decide +kernel))⟩
theorem fp_X9_108 : xx_Fp RX9 108 8 14 (.int) := ⟨RX9, TX9, 22, tyX9, k_8, by decide, rfl, by decide +kernel, Or.inl (xx_good6 (i := 114) (by decide +kernel) (by decide +kernel))⟩
theorem fl_X9_114 : xx_Fl RX9 114 8 15 := ⟨RX9, TX9, 22, tyX9, k_8, by decide, Or.inl (xx_good6 (i := 115) (by decide +kernel) (by decide +kernel))⟩
theorem fp_X9_114 : xx_Fp RX9 114 8 15 (.int) := ⟨RX9, TX9, 22, tyX9, k_8, by decide, rfl, by decide +kernel, Or.inl (xx_good6 (i := 115) (by decide +kernel) (by decide +kernel))⟩
theorem fl_X9_50 : xx_Fl RX9 50 8 16 := ⟨RX9, TX9, 22, tyX9, k_8, by decide, Or.inl (xx_good6 (i := 116) (by decide +kernel) (by decide +kernel))⟩
theorem ff_X9_50 : xx_Ff RX9 50 8 16 (.array .int) := ⟨RX9, TX9, 22, tyX9, k_8, by decide, rfl, rfl, by decide +kernel, xx_good6 (i := 116) (by decide +kernel) (by decide +kernel)⟩
theorem fl_X9_53 : xx_Fl RX9 53 8 17 := ⟨RX9, TX9, 22, tyX9, k_8, by decide, Or.inl (xx_good6 (i := 117) (by decide +kernel) (by decide +kernel))⟩
theorem ff_X9_53 : xx_Ff RX9 53 8 17 (.array .int) := ⟨RX9, TX9, 22, tyX9, k_8, by decide, rfl, rfl, by decide +kernel, xx_good6 (i := 117) (by decide +kernel) (by decide +kernel)⟩
theorem fl_X9_56 : xx_Fl RX9 56 8 18 := ⟨RX9, TX9, 22, tyX9, k_8, by decide, Or.inl (xx_good6 (i := 118) (by decide +kernel) (by decide +kernel))⟩
theorem ff_X9_56 : xx_Ff RX9 56 8 18 (.array .int) := ⟨RX9, TX9, 22, tyX9, k_8, by decide, rfl, rfl, by decide +kernel, xx_good6 (i := 118) (by decide +kernel) (by decide +kernel)⟩
theorem fl_X9_59 : xx_Fl RX9 59 8 19 := ⟨RX9, TX9, 22, tyX9, k_8, by decide, Or.inl (xx_good6 (i := 119) (by decide +kernel) (by decide +kernel))⟩
theorem ff_X9_59 : xx_Ff RX9 59 8 19 (.array .int) := ⟨RX9, TX9, 22, tyX9, k_8, by decide, rfl, rfl, by decide +kernel, xx_good6 (i := 119) (by decide +kernel) (by decide +kernel)⟩
theorem fl_X9_363 : xx_Fl RX9 363 8 20 := ⟨RX9, TX9, 22, tyX9, k_8, by decide, Or.inl (xx_good6 (i := 120) (by decide +kernel) (by decide +kernel))⟩
theorem fp_X9_363 : xx_Fp RX9 363 8 20 (.int) := ⟨RX9, TX9, 22, tyX9, k_8, by decide, rfl, by decide +kernel, Or.inl (xx_good6 (i := 120) (by decide +kernel) (by decide +kernel))⟩
theorem fl_X9_366 : xx_Fl RX9 366 8 21 := ⟨RX9, TX9, 22, tyX9, k_8, by decide, Or.inl (xx_good6 (i := 121) (by decide +kernel) (by decide +kernel))⟩
theorem fp_X9_366 : xx_Fp RX9 366 8 21 (.int) := ⟨RX9, TX9, 22, tyX9, k_8, by decide, rfl, by decide +kernel, Or.inl (xx_good6 (i := 121) (by decide +kernel) (by decide +kernel))⟩
theorem ml_L_117 : Cond.methodLink RL 117 yX9_thrown ∈ xx_T := xx_good6 (i := 167) (by decide +kernel) (by decide +kernel)
theorem ml_L_116 : Cond.methodLink RL 116 yX9_feed ∈ xx_T := xx_good6 (i := 171) (by decide +kernel) (by decide +kernel)
theorem ml_X9_393 : Cond.methodLink RX9 393 yX9_no ∈ xx_T := xx_good6 (i := 175) (by decide +kernel) (by decide +kernel)
theorem ml_L_123 : Cond.methodLink RL 123 yX9_trim ∈ xx_T := xx_good6 (i := 179) (by decide +kernel) (by decide +kernel)
theorem ml_X9_68 : Cond.methodLink RX9 68 yX9_isIn ∈ xx_T := xx_good6 (i := 183) (by decide +kernel) (by decide +kernel)
theorem ml_L_127 : Cond.methodLink RL 127 yX9_teach ∈ xx_T := xx_good6 (i := 186) (by decide +kernel) (by decide +kernel)
theorem ml_X9_396 : Cond.methodLink RX9 396 yX9_read ∈ xx_T := xx_good6 (i := 190) (by decide +kernel) (by decide +kernel)
theorem ml_X9_383 : Cond.methodLink RX9 383 yX9_cutIntoTokens ∈ xx_T := xx_good6 (i := 194) (by decide +kernel) (by decide +kernel)
theorem ml_X9_262 : Cond.methodLink RX9 262 yX9_byteOf ∈ xx_T := xx_good6 (i := 198) (by decide +kernel) (by decide +kernel)
theorem ml_X9_299 : Cond.methodLink RX9 299 yX9_endOf ∈ xx_T := xx_good6 (i := 202) (by decide +kernel) (by decide +kernel)
theorem ml_X9_265 : Cond.methodLink RX9 265 yX9_isSmall ∈ xx_T := xx_good6 (i := 206) (by decide +kernel) (by decide +kernel)
theorem ml_X9_268 : Cond.methodLink RX9 268 yX9_isDigit ∈ xx_T := xx_good6 (i := 209) (by decide +kernel) (by decide +kernel)
theorem ml_X9_302 : Cond.methodLink RX9 302 yX9_kindOf ∈ xx_T := xx_good6 (i := 212) (by decide +kernel) (by decide +kernel)
theorem ml_X9_271 : Cond.methodLink RX9 271 yX9_numberAt ∈ xx_T := xx_good6 (i := 216) (by decide +kernel) (by decide +kernel)
theorem ml_X9_274 : Cond.methodLink RX9 274 yX9_wordAt ∈ xx_T := xx_good6 (i := 220) (by decide +kernel) (by decide +kernel)
theorem kl_X9_282 : Cond.constantLong RX9 282 37 ∈ xx_T := xx_good6 (i := 224) (by decide +kernel) (by decide +kernel)
theorem ml_X9_288 : Cond.methodLink RX9 288 yX9_letter ∈ xx_T := xx_good6 (i := 225) (by decide +kernel) (by decide +kernel)
theorem sl_X9_291 : Cond.fieldLink RX9 291 "BeltRoundsModel" "WORDS" "[Ljava/lang/String;" ∈ xx_T := xx_good6 (i := 228) (by decide +kernel) (by decide +kernel)
theorem ml_X9_295 : Cond.methodLink RX9 295 yX9_nameOf ∈ xx_T := xx_good6 (i := 230) (by decide +kernel) (by decide +kernel)
theorem ml_X9_277 : Cond.methodLink RX9 277 yJ0_length_8abf5 ∈ xx_T := xx_good6 (i := 233) (by decide +kernel) (by decide +kernel)
theorem ml_X9_284 : Cond.methodLink RX9 284 yJ0_charAt_5068e ∈ xx_T := xx_good6 (i := 234) (by decide +kernel) (by decide +kernel)
theorem ml_X9_386 : Cond.methodLink RX9 386 yX9_isBook ∈ xx_T := xx_good6 (i := 235) (by decide +kernel) (by decide +kernel)
theorem ml_X9_373 : Cond.methodLink RX9 373 yX9_isLine ∈ xx_T := xx_good6 (i := 239) (by decide +kernel) (by decide +kernel)
theorem ml_X9_356 : Cond.methodLink RX9 356 yX9_eatAs ∈ xx_T := xx_good7 (i := 3) (by decide +kernel) (by decide +kernel)
theorem ml_X9_308 : Cond.methodLink RX9 308 yX9_eat ∈ xx_T := xx_good7 (i := 7) (by decide +kernel) (by decide +kernel)
theorem ml_X9_360 : Cond.methodLink RX9 360 yX9_isRule ∈ xx_T := xx_good7 (i := 11) (by decide +kernel) (by decide +kernel)
theorem ml_X9_224 : Cond.methodLink RX9 224 yJ9_min_7cf53 ∈ xx_T := xx_good7 (i := 15) (by decide +kernel) (by decide +kernel)
theorem ml_X9_369 : Cond.methodLink RX9 369 yX9_isOutcome ∈ xx_T := xx_good7 (i := 16) (by decide +kernel) (by decide +kernel)
theorem ml_X9_331 : Cond.methodLink RX9 331 yX9_isTest ∈ xx_T := xx_good7 (i := 20) (by decide +kernel) (by decide +kernel)
theorem ml_X9_317 : Cond.methodLink RX9 317 yX9_isBoth ∈ xx_T := xx_good7 (i := 24) (by decide +kernel) (by decide +kernel)
theorem ml_X9_325 : Cond.methodLink RX9 325 yX9_isSingle ∈ xx_T := xx_good7 (i := 28) (by decide +kernel) (by decide +kernel)
theorem ml_X9_328 : Cond.methodLink RX9 328 yX9_deeper ∈ xx_T := xx_good7 (i := 32) (by decide +kernel) (by decide +kernel)
theorem ml_X9_321 : Cond.methodLink RX9 321 yX9_put ∈ xx_T := xx_good7 (i := 36) (by decide +kernel) (by decide +kernel)
theorem ml_X9_334 : Cond.methodLink RX9 334 yX9_closes ∈ xx_T := xx_good7 (i := 40) (by decide +kernel) (by decide +kernel)
theorem ml_X9_337 : Cond.methodLink RX9 337 yX9_isCompare ∈ xx_T := xx_good7 (i := 44) (by decide +kernel) (by decide +kernel)
theorem ml_X9_340 : Cond.methodLink RX9 340 yX9_isSum ∈ xx_T := xx_good7 (i := 48) (by decide +kernel) (by decide +kernel)
theorem ml_X9_343 : Cond.methodLink RX9 343 yX9_isProduct ∈ xx_T := xx_good7 (i := 52) (by decide +kernel) (by decide +kernel)
theorem ml_X9_346 : Cond.methodLink RX9 346 yX9_isValue ∈ xx_T := xx_good7 (i := 56) (by decide +kernel) (by decide +kernel)
theorem ml_X9_349 : Cond.methodLink RX9 349 yX9_isOfTwo ∈ xx_T := xx_good7 (i := 60) (by decide +kernel) (by decide +kernel)
theorem ml_X9_220 : Cond.methodLink RX9 220 yX9_isSided ∈ xx_T := xx_good7 (i := 64) (by decide +kernel) (by decide +kernel)
theorem ml_X9_353 : Cond.methodLink RX9 353 yX9_isOfSide ∈ xx_T := xx_good7 (i := 67) (by decide +kernel) (by decide +kernel)
theorem ml_X9_389 : Cond.methodLink RX9 389 yX9_errorOf ∈ xx_T := xx_good7 (i := 71) (by decide +kernel) (by decide +kernel)
theorem ml_X9_379 : Cond.methodLink RX9 379 yX9_newWrestler ∈ xx_T := xx_good7 (i := 75) (by decide +kernel) (by decide +kernel)
theorem ml_L_131 : Cond.methodLink RL 131 yX9_errorAt ∈ xx_T := xx_good7 (i := 79) (by decide +kernel) (by decide +kernel)
theorem ml_X9_400 : Cond.methodLink RX9 400 yX9_ok ∈ xx_T := xx_good7 (i := 83) (by decide +kernel) (by decide +kernel)
theorem ml_L_135 : Cond.methodLink RL 135 yX9_wrestlers ∈ xx_T := xx_good7 (i := 87) (by decide +kernel) (by decide +kernel)
theorem ml_L_139 : Cond.methodLink RL 139 yX9_wrestlersIn ∈ xx_T := xx_good7 (i := 91) (by decide +kernel) (by decide +kernel)
theorem ml_X9_104 : Cond.methodLink RX9 104 yX9_in ∈ xx_T := xx_good7 (i := 95) (by decide +kernel) (by decide +kernel)
theorem ml_L_143 : Cond.methodLink RL 143 yX9_rules ∈ xx_T := xx_good7 (i := 99) (by decide +kernel) (by decide +kernel)
theorem ml_L_147 : Cond.methodLink RL 147 yX9_rounds ∈ xx_T := xx_good7 (i := 103) (by decide +kernel) (by decide +kernel)
theorem ml_L_151 : Cond.methodLink RL 151 yX9_tapeBytes ∈ xx_T := xx_good7 (i := 107) (by decide +kernel) (by decide +kernel)
theorem ml_L_155 : Cond.methodLink RL 155 yX9_bouts ∈ xx_T := xx_good7 (i := 111) (by decide +kernel) (by decide +kernel)
theorem ml_L_159 : Cond.methodLink RL 159 yX9_openBouts ∈ xx_T := xx_good7 (i := 115) (by decide +kernel) (by decide +kernel)
theorem ml_X9_97 : Cond.methodLink RX9 97 yX8_open ∈ xx_T := xx_good7 (i := 119) (by decide +kernel) (by decide +kernel)
theorem ml_L_162 : Cond.methodLink RL 162 yX9_strengthOf ∈ xx_T := xx_good7 (i := 123) (by decide +kernel) (by decide +kernel)
theorem ml_X9_406 : Cond.methodLink RX9 406 yX9_of ∈ xx_T := xx_good7 (i := 127) (by decide +kernel) (by decide +kernel)
theorem ml_X9_403 : Cond.methodLink RX9 403 yX9_isOne ∈ xx_T := xx_good7 (i := 131) (by decide +kernel) (by decide +kernel)
theorem ml_L_165 : Cond.methodLink RL 165 yX9_pointsOf ∈ xx_T := xx_good7 (i := 135) (by decide +kernel) (by decide +kernel)
theorem ml_L_168 : Cond.methodLink RL 168 yX9_winsOf ∈ xx_T := xx_good7 (i := 139) (by decide +kernel) (by decide +kernel)
theorem ml_L_171 : Cond.methodLink RL 171 yX9_drawsOf ∈ xx_T := xx_good7 (i := 143) (by decide +kernel) (by decide +kernel)
theorem ml_L_174 : Cond.methodLink RL 174 yX9_lossesOf ∈ xx_T := xx_good7 (i := 147) (by decide +kernel) (by decide +kernel)
theorem ml_L_177 : Cond.methodLink RL 177 yX9_restsOf ∈ xx_T := xx_good7 (i := 151) (by decide +kernel) (by decide +kernel)
theorem ml_L_180 : Cond.methodLink RL 180 yX9_beltsOf ∈ xx_T := xx_good7 (i := 155) (by decide +kernel) (by decide +kernel)
theorem ml_L_183 : Cond.methodLink RL 183 yX9_floatsOf ∈ xx_T := xx_good7 (i := 159) (by decide +kernel) (by decide +kernel)
theorem ml_L_186 : Cond.methodLink RL 186 yX9_pointsOfMet ∈ xx_T := xx_good7 (i := 163) (by decide +kernel) (by decide +kernel)
theorem ml_X9_79 : Cond.methodLink RX9 79 yX9_ofMet ∈ xx_T := xx_good7 (i := 167) (by decide +kernel) (by decide +kernel)
theorem ml_X9_72 : Cond.methodLink RX9 72 yX8_met ∈ xx_T := xx_good7 (i := 171) (by decide +kernel) (by decide +kernel)
theorem ml_L_189 : Cond.methodLink RL 189 yX9_rankOf ∈ xx_T := xx_good7 (i := 175) (by decide +kernel) (by decide +kernel)
theorem ml_X9_90 : Cond.methodLink RX9 90 yX9_rank ∈ xx_T := xx_good7 (i := 179) (by decide +kernel) (by decide +kernel)
theorem ml_X9_86 : Cond.methodLink RX9 86 yX9_isAhead ∈ xx_T := xx_good7 (i := 183) (by decide +kernel) (by decide +kernel)
theorem ml_L_192 : Cond.methodLink RL 192 yX9_isIn_ ∈ xx_T := xx_good7 (i := 187) (by decide +kernel) (by decide +kernel)
theorem ml_X9_410 : Cond.methodLink RX9 410 yX9_isNot ∈ xx_T := xx_good7 (i := 191) (by decide +kernel) (by decide +kernel)
theorem ml_L_195 : Cond.methodLink RL 195 yX9_wrestlerAt ∈ xx_T := xx_good7 (i := 195) (by decide +kernel) (by decide +kernel)
theorem ml_X9_111 : Cond.methodLink RX9 111 yX9_at ∈ xx_T := xx_good7 (i := 199) (by decide +kernel) (by decide +kernel)
theorem ml_L_199 : Cond.methodLink RL 199 yX9_timesMet ∈ xx_T := xx_good7 (i := 203) (by decide +kernel) (by decide +kernel)
theorem ml_L_202 : Cond.methodLink RL 202 yX9_redOf ∈ xx_T := xx_good7 (i := 207) (by decide +kernel) (by decide +kernel)
theorem ml_X9_413 : Cond.methodLink RX9 413 yX9_isBout ∈ xx_T := xx_good7 (i := 211) (by decide +kernel) (by decide +kernel)
theorem ml_L_205 : Cond.methodLink RL 205 yX9_blueOf ∈ xx_T := xx_good7 (i := 215) (by decide +kernel) (by decide +kernel)
theorem ml_L_208 : Cond.methodLink RL 208 yX9_outcomeOf ∈ xx_T := xx_good7 (i := 219) (by decide +kernel) (by decide +kernel)
theorem ml_L_211 : Cond.methodLink RL 211 yX9_ruledOutcome ∈ xx_T := xx_good7 (i := 223) (by decide +kernel) (by decide +kernel)
theorem ml_X9_201 : Cond.methodLink RX9 201 yX9_ruled ∈ xx_T := xx_good7 (i := 227) (by decide +kernel) (by decide +kernel)
theorem ml_X9_195 : Cond.methodLink RX9 195 yX9_holds ∈ xx_T := xx_good7 (i := 231) (by decide +kernel) (by decide +kernel)
theorem ml_X9_245 : Cond.methodLink RX9 245 yX9_isAsked ∈ xx_T := xx_good7 (i := 235) (by decide +kernel) (by decide +kernel)
theorem ml_X9_251 : Cond.methodLink RX9 251 yX9_ask ∈ xx_T := xx_good7 (i := 238) (by decide +kernel) (by decide +kernel)
theorem ml_X9_255 : Cond.methodLink RX9 255 yX9_reckon ∈ xx_T := xx_good8 (i := 2) (by decide +kernel) (by decide +kernel)
theorem ml_X9_229 : Cond.methodLink RX9 229 yJ9_max_7cf53 ∈ xx_T := xx_good8 (i := 5) (by decide +kernel) (by decide +kernel)
theorem ml_X9_232 : Cond.methodLink RX9 232 yX9_one ∈ xx_T := xx_good8 (i := 6) (by decide +kernel) (by decide +kernel)
theorem ml_L_214 : Cond.methodLink RL 214 yX9_opponentOf ∈ xx_T := xx_good8 (i := 9) (by decide +kernel) (by decide +kernel)
theorem ml_L_218 : Cond.methodLink RL 218 yX9_restingOne ∈ xx_T := xx_good8 (i := 13) (by decide +kernel) (by decide +kernel)
theorem ml_L_221 : Cond.methodLink RL 221 yX9_pairRound ∈ xx_T := xx_good8 (i := 17) (by decide +kernel) (by decide +kernel)
theorem ml_X9_213 : Cond.methodLink RX9 213 yX9_canPair ∈ xx_T := xx_good8 (i := 21) (by decide +kernel) (by decide +kernel)
theorem ml_X9_217 : Cond.methodLink RX9 217 yX9_pair ∈ xx_T := xx_good8 (i := 25) (by decide +kernel) (by decide +kernel)
theorem ml_X9_148 : Cond.methodLink RX9 148 yX9_pairs ∈ xx_T := xx_good8 (i := 29) (by decide +kernel) (by decide +kernel)
theorem ml_X9_127 : Cond.methodLink RX9 127 yX9_layRow ∈ xx_T := xx_good8 (i := 33) (by decide +kernel) (by decide +kernel)
theorem ml_X9_131 : Cond.methodLink RX9 131 yX9_letRest ∈ xx_T := xx_good8 (i := 37) (by decide +kernel) (by decide +kernel)
theorem ml_X9_134 : Cond.methodLink RX9 134 yJ6_bitCount_0f7a4 ∈ xx_T := xx_good8 (i := 41) (by decide +kernel) (by decide +kernel)
theorem kc_J6_265 : Cond.constant RJ6 265 1431655765 ∈ xx_T := xx_good8 (i := 44) (by decide +kernel) (by decide +kernel)
theorem kc_J6_266 : Cond.constant RJ6 266 858993459 ∈ xx_T := xx_good8 (i := 45) (by decide +kernel) (by decide +kernel)
theorem kc_J6_267 : Cond.constant RJ6 267 252645135 ∈ xx_T := xx_good8 (i := 46) (by decide +kernel) (by decide +kernel)
theorem ml_X9_139 : Cond.methodLink RX9 139 yX9_partner ∈ xx_T := xx_good8 (i := 47) (by decide +kernel) (by decide +kernel)
theorem ml_X9_119 : Cond.methodLink RX9 119 yX9_lowest ∈ xx_T := xx_good8 (i := 51) (by decide +kernel) (by decide +kernel)
theorem ml_X9_123 : Cond.methodLink RX9 123 yX9_rematch ∈ xx_T := xx_good8 (i := 55) (by decide +kernel) (by decide +kernel)
theorem ml_X9_160 : Cond.methodLink RX9 160 yX9_isFirstRed ∈ xx_T := xx_good8 (i := 59) (by decide +kernel) (by decide +kernel)
theorem ml_X9_169 : Cond.methodLink RX9 169 yX9_giveBelts ∈ xx_T := xx_good8 (i := 63) (by decide +kernel) (by decide +kernel)
theorem ml_X9_173 : Cond.methodLink RX9 173 yX8_meet ∈ xx_T := xx_good8 (i := 67) (by decide +kernel) (by decide +kernel)
theorem ml_L_224 : Cond.methodLink RL 224 yX9_tell_ ∈ xx_T := xx_good8 (i := 71) (by decide +kernel) (by decide +kernel)
theorem ml_X9_204 : Cond.methodLink RX9 204 yX9_tell ∈ xx_T := xx_good8 (i := 75) (by decide +kernel) (by decide +kernel)
theorem ml_L_227 : Cond.methodLink RL 227 yX9_tellByRules ∈ xx_T := xx_good8 (i := 79) (by decide +kernel) (by decide +kernel)
theorem ml_X9_210 : Cond.methodLink RX9 210 yX9_tellAll ∈ xx_T := xx_good8 (i := 83) (by decide +kernel) (by decide +kernel)
theorem ml_L_230 : Cond.methodLink RL 230 yX9_turnIn ∈ xx_T := xx_good8 (i := 87) (by decide +kernel) (by decide +kernel)
theorem ml_L_233 : Cond.methodLink RL 233 yX9_nextOpponentOf ∈ xx_T := xx_good8 (i := 91) (by decide +kernel) (by decide +kernel)
theorem ml_X9_416 : Cond.methodLink RX9 416 yX9_nextOf ∈ xx_T := xx_good8 (i := 95) (by decide +kernel) (by decide +kernel)
theorem ml_L_236 : Cond.methodLink RL 236 yX9_nextRematches ∈ xx_T := xx_good8 (i := 99) (by decide +kernel) (by decide +kernel)
theorem ml_L_239 : Cond.methodLink RL 239 yX9_leaderAfter ∈ xx_T := xx_good8 (i := 103) (by decide +kernel) (by decide +kernel)
theorem ml_X9_419 : Cond.methodLink RX9 419 yX9_goAhead ∈ xx_T := xx_good8 (i := 107) (by decide +kernel) (by decide +kernel)
theorem ml_X9_207 : Cond.methodLink RX9 207 yX8_become ∈ xx_T := xx_good8 (i := 111) (by decide +kernel) (by decide +kernel)
theorem ml_X8_62 : Cond.methodLink RX8 62 ⟨"java/lang/System", "arraycopy", "(Ljava/lang/Object;ILjava/lang/Object;II)V"⟩ ∈ xx_T := xx_good8 (i := 115) (by decide +kernel) (by decide +kernel)
theorem ml_L_242 : Cond.methodLink RL 242 yX9_pointsAfter ∈ xx_T := xx_good8 (i := 116) (by decide +kernel) (by decide +kernel)
theorem ml_L_247 : Cond.methodLink RL 247 yX9_meanPoints ∈ xx_T := xx_good8 (i := 120) (by decide +kernel) (by decide +kernel)
theorem ml_L_252 : Cond.methodLink RL 252 yX9_digest ∈ xx_T := xx_good8 (i := 124) (by decide +kernel) (by decide +kernel)
theorem kl_X9_425 : Cond.constantLong RX9 425 967 ∈ xx_T := xx_good8 (i := 128) (by decide +kernel) (by decide +kernel)
theorem kl_X9_423 : Cond.constantLong RX9 423 31 ∈ xx_T := xx_good8 (i := 129) (by decide +kernel) (by decide +kernel)
theorem ml_X9_427 : Cond.methodLink RX9 427 yX9_digestOne ∈ xx_T := xx_good8 (i := 130) (by decide +kernel) (by decide +kernel)
theorem sl_X5_88 : Cond.fieldLinkNest RX5 88 "BeltRounds$Sign" "text" "Ljava/lang/String;" "BeltRounds" ∈ xx_N := xx_oddin (i := 1928) (by decide +kernel) (by decide +kernel)
theorem sl_J0_9 : Cond.fieldLink RJ0 9 "java/lang/String" "value" "[B" ∈ xx_T := xx_good8 (i := 136) (by decide +kernel) (by decide +kernel)
theorem sl_J0_15 : Cond.fieldLink RJ0 15 "java/lang/String" "coder" "B" ∈ xx_T := xx_good8 (i := 137) (by decide +kernel) (by decide +kernel)
theorem im_objectInit : Cond.instanceMethod objectInit ∈ xx_T := xx_good1 (i := 32) (by decide +kernel) (by decide +kernel)
theorem co_objectInit : Cond.code objectInit ⟨#[0xb1]⟩ 1 none ∈ xx_T := xx_good1 (i := 33) (by decide +kernel) (by decide +kernel)
