/-! each class, its fields, its methods, by the places of the words -/
theorem xx_sub1 : ∀ w ∈ tables_1_1, w ∈ lw_tbl := fun w h => List.mem_append_right _ (List.mem_append_left _ h)
theorem xx_good1 {i : Nat} {w : Cond} (h : tables_1_1[i]? = some w) (g : goodWord w = true) : w ∈ xx_T := xx_inT (xx_sub1 _ (List.mem_of_getElem? h)) g
theorem xx_sub2 : ∀ w ∈ tables_1_2, w ∈ lw_tbl := fun w h => List.mem_append_right _ (List.mem_append_right _ (List.mem_append_left _ h))
theorem xx_good2 {i : Nat} {w : Cond} (h : tables_1_2[i]? = some w) (g : goodWord w = true) : w ∈ xx_T := xx_inT (xx_sub2 _ (List.mem_of_getElem? h)) g
theorem xx_sub3 : ∀ w ∈ tables_1_3, w ∈ lw_tbl := fun w h => List.mem_append_right _ (List.mem_append_right _ (List.mem_append_right _ (List.mem_append_left _ h)))
theorem xx_good3 {i : Nat} {w : Cond} (h : tables_1_3[i]? = some w) (g : goodWord w = true) : w ∈ xx_T := xx_inT (xx_sub3 _ (List.mem_of_getElem? h)) g
theorem xx_sub4 : ∀ w ∈ tables_1_4, w ∈ lw_tbl := fun w h => List.mem_append_right _ (List.mem_append_right _ (List.mem_append_right _ (List.mem_append_right _ (List.mem_append_left _ h))))
theorem xx_good4 {i : Nat} {w : Cond} (h : tables_1_4[i]? = some w) (g : goodWord w = true) : w ∈ xx_T := xx_inT (xx_sub4 _ (List.mem_of_getElem? h)) g
theorem xx_sub5 : ∀ w ∈ tables_1_5, w ∈ lw_tbl := fun w h => List.mem_append_right _ (List.mem_append_right _ (List.mem_append_right _ (List.mem_append_right _ (List.mem_append_right _ (List.mem_append_left _ h)))))
theorem xx_good5 {i : Nat} {w : Cond} (h : tables_1_5[i]? = some w) (g : goodWord w = true) : w ∈ xx_T := xx_inT (xx_sub5 _ (List.mem_of_getElem? h)) g
theorem xx_sub6 : ∀ w ∈ tables_1_6, w ∈ lw_tbl := fun w h => List.mem_append_right _ (List.mem_append_right _ (List.mem_append_right _ (List.mem_append_right _ (List.mem_append_right _ (List.mem_append_right _ (List.mem_append_left _ h))))))
theorem xx_good6 {i : Nat} {w : Cond} (h : tables_1_6[i]? = some w) (g : goodWord w = true) : w ∈ xx_T := xx_inT (xx_sub6 _ (List.mem_of_getElem? h)) g
theorem xx_sub7 : ∀ w ∈ tables_1_7, w ∈ lw_tbl := fun w h => List.mem_append_right _ (List.mem_append_right _ (List.mem_append_right _ (List.mem_append_right _ (List.mem_append_right _ (List.mem_append_right _ (List.mem_append_right _ (h)))))))
theorem xx_good7 {i : Nat} {w : Cond} (h : tables_1_7[i]? = some w) (g : goodWord w = true) : w ∈ xx_T := xx_inT (xx_sub7 _ (List.mem_of_getElem? h)) g
theorem k_0_ws : ∀ w ∈ u_ws RX0 TX0 12, w ∈ xx_T := by
  have h : GoodIn lw_tbl (u_ws RX0 TX0 12) := goodIn_r _ [227, 229, 231, 233, 235, 237, 239, 241, 243, 245, 247, 249] (by decide +kernel) (by decide +kernel)
  have g : (u_ws RX0 TX0 12).all goodWord = true := by decide +kernel
  exact fun w hw => xx_inT (h w hw).1 (List.all_eq_true.mp g w hw)
theorem k_0 : xx_Cl 0 RX0 TX0 12 tyX0 := ⟨rfl, k_0_ws, tyX0_ok, nmX0⟩
theorem k_1_ws : ∀ w ∈ u_ws RX1 TX1 9, w ∈ xx_T := by
  have h : GoodIn lw_tbl (u_ws RX1 TX1 9) := goodIn_r _ [270, 272, 274, 276, 278, 280, 282, 284, 286] (by decide +kernel) (by decide +kernel)
  have g : (u_ws RX1 TX1 9).all goodWord = true := by decide +kernel
  exact fun w hw => xx_inT (h w hw).1 (List.all_eq_true.mp g w hw)
theorem k_1 : xx_Cl 1 RX1 TX1 9 tyX1 := ⟨rfl, k_1_ws, tyX1_ok, nmX1⟩
theorem k_2_ws : ∀ w ∈ u_ws RX2 TX2 9, w ∈ xx_T := by
  have h : GoodIn lw_tbl (u_ws RX2 TX2 9) := goodIn_r _ [182, 184, 186, 188, 190, 192, 194, 196, 198] (by decide +kernel) (by decide +kernel)
  have g : (u_ws RX2 TX2 9).all goodWord = true := by decide +kernel
  exact fun w hw => xx_inT (h w hw).1 (List.all_eq_true.mp g w hw)
theorem k_2 : xx_Cl 2 RX2 TX2 9 tyX2 := ⟨rfl, k_2_ws, tyX2_ok, nmX2⟩
theorem k_3_ws : ∀ w ∈ u_ws RX3 TX3 8, w ∈ xx_T := by
  have h : GoodIn lw_tbl (u_ws RX3 TX3 8) := goodIn_r _ [151, 153, 155, 157, 159, 161, 163, 165] (by decide +kernel) (by decide +kernel)
  have g : (u_ws RX3 TX3 8).all goodWord = true := by decide +kernel
  exact fun w hw => xx_inT (h w hw).1 (List.all_eq_true.mp g w hw)
theorem k_3 : xx_Cl 3 RX3 TX3 8 tyX3 := ⟨rfl, k_3_ws, tyX3_ok, nmX3⟩
theorem k_4_ws : ∀ w ∈ u_ws RX5 TX5 6, w ∈ xx_T := by
  have h : GoodIn lw_tbl (u_ws RX5 TX5 6) := goodIn_r _ [120, 122, 124, 126, 128, 130] (by decide +kernel) (by decide +kernel)
  have g : (u_ws RX5 TX5 6).all goodWord = true := by decide +kernel
  exact fun w hw => xx_inT (h w hw).1 (List.all_eq_true.mp g w hw)
theorem k_4 : xx_Cl 4 RX5 TX5 6 tyX5 := ⟨rfl, k_4_ws, tyX5_ok, nmX5⟩
theorem k_5_ws : ∀ w ∈ u_ws RX6 TX6 6, w ∈ xx_T := by
  have h : GoodIn lw_tbl (u_ws RX6 TX6 6) := goodIn_r _ [295, 297, 299, 301, 303, 305] (by decide +kernel) (by decide +kernel)
  have g : (u_ws RX6 TX6 6).all goodWord = true := by decide +kernel
  exact fun w hw => xx_inT (h w hw).1 (List.all_eq_true.mp g w hw)
theorem k_5 : xx_Cl 5 RX6 TX6 6 tyX6 := ⟨rfl, k_5_ws, tyX6_ok, nmX6⟩
theorem k_6_ws : ∀ w ∈ u_ws RX7 TX7 9, w ∈ xx_T := by
  have h : GoodIn lw_tbl (u_ws RX7 TX7 9) := goodIn_r _ [1241, 1243, 1245, 1247, 1249, 1251, 1253, 1255, 1257] (by decide +kernel) (by decide +kernel)
  have g : (u_ws RX7 TX7 9).all goodWord = true := by decide +kernel
  exact fun w hw => xx_inT (h w hw).1 (List.all_eq_true.mp g w hw)
theorem k_6 : xx_Cl 6 RX7 TX7 9 tyX7 := ⟨rfl, k_6_ws, tyX7_ok, nmX7⟩
theorem k_7_ws : ∀ w ∈ u_ws RX8 TX8 4, w ∈ xx_T := by
  have h : GoodIn lw_tbl (u_ws RX8 TX8 4) := goodIn_r _ [1411, 1413, 1415, 1417] (by decide +kernel) (by decide +kernel)
  have g : (u_ws RX8 TX8 4).all goodWord = true := by decide +kernel
  exact fun w hw => xx_inT (h w hw).1 (List.all_eq_true.mp g w hw)
theorem k_7 : xx_Cl 7 RX8 TX8 4 tyX8 := ⟨rfl, k_7_ws, tyX8_ok, nmX8⟩
theorem k_8_ws : ∀ w ∈ u_ws RJ0 TJ0 4, w ∈ xx_T := by
  have h : GoodIn lw_tbl (u_ws RJ0 TJ0 4) := goodIn_r _ [1531, 1533, 1535, 1537] (by decide +kernel) (by decide +kernel)
  have g : (u_ws RJ0 TJ0 4).all goodWord = true := by decide +kernel
  exact fun w hw => xx_inT (h w hw).1 (List.all_eq_true.mp g w hw)
theorem k_8 : xx_Cl 8 RJ0 TJ0 4 tyJ0 := ⟨rfl, k_8_ws, tyJ0_ok, nmJ0⟩
theorem k_9_ws : ∀ w ∈ u_ws RJ4 TJ4 4, w ∈ xx_T := by
  have h : GoodIn lw_tbl (u_ws RJ4 TJ4 4) := goodIn_r _ [1445, 1447, 1449, 1451] (by decide +kernel) (by decide +kernel)
  have g : (u_ws RJ4 TJ4 4).all goodWord = true := by decide +kernel
  exact fun w hw => xx_inT (h w hw).1 (List.all_eq_true.mp g w hw)
theorem k_9 : xx_Cl 9 RJ4 TJ4 4 tyJ4 := ⟨rfl, k_9_ws, tyJ4_ok, nmJ4⟩
abbrev mX6_init : xx_M := (RX6, "<init>", cX6_init, 1, none, [])
set_option maxRecDepth 100000 in
theorem cal_X6_init : xx_Cal yX6_init mX6_init 0 := ⟨xx_good1 (i := 33) rfl rfl, xx_good1 (i := 1) (by decide +kernel) (by decide +kernel), by decide +kernel, by decide +kernel, by decide +kernel⟩
theorem im_X6_init : Cond.instanceMethod yX6_init ∈ xx_T := xx_good1 (i := 32) (by decide +kernel) (by decide +kernel)
abbrev mX2_init : xx_M := (RX2, "<init>", cX2_init, 1, none, [])
set_option maxRecDepth 100000 in
theorem cal_X2_init : xx_Cal yX2_init mX2_init 0 := ⟨xx_good1 (i := 41) rfl rfl, xx_good1 (i := 2) (by decide +kernel) (by decide +kernel), by decide +kernel, by decide +kernel, by decide +kernel⟩
theorem im_X2_init : Cond.instanceMethod yX2_init ∈ xx_T := xx_good1 (i := 40) (by decide +kernel) (by decide +kernel)
abbrev mX5_init : xx_M := (RX5, "<init>", cX5_init, 1, none, [])
set_option maxRecDepth 100000 in
theorem cal_X5_init : xx_Cal yX5_init mX5_init 0 := ⟨xx_good1 (i := 47) rfl rfl, xx_good1 (i := 3) (by decide +kernel) (by decide +kernel), by decide +kernel, by decide +kernel, by decide +kernel⟩
theorem im_X5_init : Cond.instanceMethod yX5_init ∈ xx_T := xx_good1 (i := 46) (by decide +kernel) (by decide +kernel)
abbrev mX3_init : xx_M := (RX3, "<init>", cX3_init, 1, none, [])
set_option maxRecDepth 100000 in
theorem cal_X3_init : xx_Cal yX3_init mX3_init 0 := ⟨xx_good1 (i := 79) rfl rfl, xx_good1 (i := 4) (by decide +kernel) (by decide +kernel), by decide +kernel, by decide +kernel, by decide +kernel⟩
theorem im_X3_init : Cond.instanceMethod yX3_init ∈ xx_T := xx_good1 (i := 78) (by decide +kernel) (by decide +kernel)
abbrev mX0_init : xx_M := (RX0, "<init>", cX0_init, 1, none, [])
set_option maxRecDepth 100000 in
theorem cal_X0_init : xx_Cal yX0_init mX0_init 0 := ⟨xx_good1 (i := 147) rfl rfl, xx_good1 (i := 5) (by decide +kernel) (by decide +kernel), by decide +kernel, by decide +kernel, by decide +kernel⟩
theorem im_X0_init : Cond.instanceMethod yX0_init ∈ xx_T := xx_good1 (i := 146) (by decide +kernel) (by decide +kernel)
abbrev mX1_init : xx_M := (RX1, "<init>", cX1_init, 1, none, [])
set_option maxRecDepth 100000 in
theorem cal_X1_init : xx_Cal yX1_init mX1_init 0 := ⟨xx_good1 (i := 196) rfl rfl, xx_good1 (i := 6) (by decide +kernel) (by decide +kernel), by decide +kernel, by decide +kernel, by decide +kernel⟩
theorem im_X1_init : Cond.instanceMethod yX1_init ∈ xx_T := xx_good1 (i := 195) (by decide +kernel) (by decide +kernel)
abbrev mX6_wrestlers : xx_M := (RX6, "wrestlers", cX6_wrestlers, 1, some .int, [])
set_option maxRecDepth 100000 in
theorem cal_X6_wrestlers : xx_Cal yX6_wrestlers mX6_wrestlers 0 := ⟨xx_good2 (i := 11) rfl rfl, xx_good1 (i := 1) (by decide +kernel) (by decide +kernel), by decide +kernel, by decide +kernel, by decide +kernel⟩
theorem im_X6_wrestlers : Cond.instanceMethod yX6_wrestlers ∈ xx_T := xx_good2 (i := 9) (by decide +kernel) (by decide +kernel)
theorem se_X6_wrestlers : Cond.selects yX6_wrestlers.cls yX6_wrestlers yX6_wrestlers ∈ xx_T := xx_good2 (i := 10) (by decide +kernel) (by decide +kernel)
abbrev mX6_wrestlersIn : xx_M := (RX6, "wrestlersIn", cX6_wrestlersIn, 1, some .int, [])
set_option maxRecDepth 100000 in
theorem cal_X6_wrestlersIn : xx_Cal yX6_wrestlersIn mX6_wrestlersIn 0 := ⟨xx_good2 (i := 15) rfl rfl, xx_good1 (i := 1) (by decide +kernel) (by decide +kernel), by decide +kernel, by decide +kernel, by decide +kernel⟩
theorem im_X6_wrestlersIn : Cond.instanceMethod yX6_wrestlersIn ∈ xx_T := xx_good2 (i := 13) (by decide +kernel) (by decide +kernel)
theorem se_X6_wrestlersIn : Cond.selects yX6_wrestlersIn.cls yX6_wrestlersIn yX6_wrestlersIn ∈ xx_T := xx_good2 (i := 14) (by decide +kernel) (by decide +kernel)
abbrev mX0_countIn : xx_M := (RX0, "countIn", cX0_countIn, 3, some .int, [])
set_option maxRecDepth 100000 in
theorem cal_X0_countIn : xx_Cal yX0_countIn mX0_countIn 0 := ⟨xx_good2 (i := 19) rfl rfl, xx_good1 (i := 5) (by decide +kernel) (by decide +kernel), by decide +kernel, by decide +kernel, by decide +kernel⟩
theorem im_X0_countIn : Cond.instanceMethod yX0_countIn ∈ xx_T := xx_good2 (i := 17) (by decide +kernel) (by decide +kernel)
theorem se_X0_countIn : Cond.selects yX0_countIn.cls yX0_countIn yX0_countIn ∈ xx_T := xx_good2 (i := 18) (by decide +kernel) (by decide +kernel)
abbrev mX0_of : xx_M := (RX0, "of", cX0_of, 3, some .int, [])
set_option maxRecDepth 100000 in
theorem cal_X0_of : xx_Cal yX0_of mX0_of 2 := ⟨xx_good2 (i := 23) rfl rfl, xx_good1 (i := 5) (by decide +kernel) (by decide +kernel), by decide +kernel, by decide +kernel, by decide +kernel⟩
theorem im_X0_of : Cond.instanceMethod yX0_of ∈ xx_T := xx_good2 (i := 21) (by decide +kernel) (by decide +kernel)
theorem se_X0_of : Cond.selects yX0_of.cls yX0_of yX0_of ∈ xx_T := xx_good2 (i := 22) (by decide +kernel) (by decide +kernel)
abbrev mX0_hasCount : xx_M := (RX0, "hasCount", cX0_hasCount, 3, some .boolean, [])
set_option maxRecDepth 100000 in
theorem cal_X0_hasCount : xx_Cal yX0_hasCount mX0_hasCount 2 := ⟨xx_good2 (i := 27) rfl rfl, xx_good1 (i := 5) (by decide +kernel) (by decide +kernel), by decide +kernel, by decide +kernel, by decide +kernel⟩
theorem im_X0_hasCount : Cond.instanceMethod yX0_hasCount ∈ xx_T := xx_good2 (i := 26) (by decide +kernel) (by decide +kernel)
theorem se_X0_hasCount : Cond.selects yX0_hasCount.cls yX0_hasCount yX0_hasCount ∈ xx_T := xx_good (i := 0) (by decide +kernel) (by decide +kernel)
abbrev mX6_rounds : xx_M := (RX6, "rounds", cX6_rounds, 1, some .int, [])
set_option maxRecDepth 100000 in
theorem cal_X6_rounds : xx_Cal yX6_rounds mX6_rounds 0 := ⟨xx_good2 (i := 31) rfl rfl, xx_good1 (i := 1) (by decide +kernel) (by decide +kernel), by decide +kernel, by decide +kernel, by decide +kernel⟩
theorem im_X6_rounds : Cond.instanceMethod yX6_rounds ∈ xx_T := xx_good2 (i := 29) (by decide +kernel) (by decide +kernel)
theorem se_X6_rounds : Cond.selects yX6_rounds.cls yX6_rounds yX6_rounds ∈ xx_T := xx_good2 (i := 30) (by decide +kernel) (by decide +kernel)
abbrev mX6_bouts : xx_M := (RX6, "bouts", cX6_bouts, 1, some .int, [])
set_option maxRecDepth 100000 in
theorem cal_X6_bouts : xx_Cal yX6_bouts mX6_bouts 0 := ⟨xx_good2 (i := 35) rfl rfl, xx_good1 (i := 1) (by decide +kernel) (by decide +kernel), by decide +kernel, by decide +kernel, by decide +kernel⟩
theorem im_X6_bouts : Cond.instanceMethod yX6_bouts ∈ xx_T := xx_good2 (i := 33) (by decide +kernel) (by decide +kernel)
theorem se_X6_bouts : Cond.selects yX6_bouts.cls yX6_bouts yX6_bouts ∈ xx_T := xx_good2 (i := 34) (by decide +kernel) (by decide +kernel)
abbrev mX6_openBouts : xx_M := (RX6, "openBouts", cX6_openBouts, 1, some .int, [])
set_option maxRecDepth 100000 in
theorem cal_X6_openBouts : xx_Cal yX6_openBouts mX6_openBouts 0 := ⟨xx_good2 (i := 39) rfl rfl, xx_good1 (i := 1) (by decide +kernel) (by decide +kernel), by decide +kernel, by decide +kernel, by decide +kernel⟩
theorem im_X6_openBouts : Cond.instanceMethod yX6_openBouts ∈ xx_T := xx_good2 (i := 37) (by decide +kernel) (by decide +kernel)
theorem se_X6_openBouts : Cond.selects yX6_openBouts.cls yX6_openBouts yX6_openBouts ∈ xx_T := xx_good2 (i := 38) (by decide +kernel) (by decide +kernel)
abbrev mX0_countOpen : xx_M := (RX0, "countOpen", cX0_countOpen, 3, some .int, [])
set_option maxRecDepth 100000 in
theorem cal_X0_countOpen : xx_Cal yX0_countOpen mX0_countOpen 0 := ⟨xx_good2 (i := 43) rfl rfl, xx_good1 (i := 5) (by decide +kernel) (by decide +kernel), by decide +kernel, by decide +kernel, by decide +kernel⟩
theorem im_X0_countOpen : Cond.instanceMethod yX0_countOpen ∈ xx_T := xx_good2 (i := 41) (by decide +kernel) (by decide +kernel)
theorem se_X0_countOpen : Cond.selects yX0_countOpen.cls yX0_countOpen yX0_countOpen ∈ xx_T := xx_good2 (i := 42) (by decide +kernel) (by decide +kernel)
abbrev mX0_outcomeIn : xx_M := (RX0, "outcomeIn", cX0_outcomeIn, 2, some .int, [])
set_option maxRecDepth 100000 in
theorem cal_X0_outcomeIn : xx_Cal yX0_outcomeIn mX0_outcomeIn 1 := ⟨xx_good2 (i := 47) rfl rfl, xx_good1 (i := 5) (by decide +kernel) (by decide +kernel), by decide +kernel, by decide +kernel, by decide +kernel⟩
theorem im_X0_outcomeIn : Cond.instanceMethod yX0_outcomeIn ∈ xx_T := xx_good2 (i := 45) (by decide +kernel) (by decide +kernel)
theorem se_X0_outcomeIn : Cond.selects yX0_outcomeIn.cls yX0_outcomeIn yX0_outcomeIn ∈ xx_T := xx_good2 (i := 46) (by decide +kernel) (by decide +kernel)
abbrev mX0_hasBout : xx_M := (RX0, "hasBout", cX0_hasBout, 2, some .boolean, [])
set_option maxRecDepth 100000 in
theorem cal_X0_hasBout : xx_Cal yX0_hasBout mX0_hasBout 1 := ⟨xx_good2 (i := 51) rfl rfl, xx_good1 (i := 5) (by decide +kernel) (by decide +kernel), by decide +kernel, by decide +kernel, by decide +kernel⟩
theorem im_X0_hasBout : Cond.instanceMethod yX0_hasBout ∈ xx_T := xx_good2 (i := 49) (by decide +kernel) (by decide +kernel)
theorem se_X0_hasBout : Cond.selects yX0_hasBout.cls yX0_hasBout yX0_hasBout ∈ xx_T := xx_good2 (i := 50) (by decide +kernel) (by decide +kernel)
abbrev mX6_pointsOf : xx_M := (RX6, "pointsOf", cX6_pointsOf, 2, some .int, [])
set_option maxRecDepth 100000 in
theorem cal_X6_pointsOf : xx_Cal yX6_pointsOf mX6_pointsOf 1 := ⟨xx_good2 (i := 55) rfl rfl, xx_good1 (i := 1) (by decide +kernel) (by decide +kernel), by decide +kernel, by decide +kernel, by decide +kernel⟩
theorem im_X6_pointsOf : Cond.instanceMethod yX6_pointsOf ∈ xx_T := xx_good2 (i := 53) (by decide +kernel) (by decide +kernel)
theorem se_X6_pointsOf : Cond.selects yX6_pointsOf.cls yX6_pointsOf yX6_pointsOf ∈ xx_T := xx_good2 (i := 54) (by decide +kernel) (by decide +kernel)
abbrev mX6_needWrestler : xx_M := (RX6, "needWrestler", cX6_needWrestler, 2, none, [])
set_option maxRecDepth 100000 in
theorem cal_X6_needWrestler : xx_Cal yX6_needWrestler mX6_needWrestler 1 := ⟨xx_good2 (i := 59) rfl rfl, xx_good1 (i := 1) (by decide +kernel) (by decide +kernel), by decide +kernel, by decide +kernel, by decide +kernel⟩
theorem im_X6_needWrestler : Cond.instanceMethod yX6_needWrestler ∈ xx_T := xx_good2 (i := 58) (by decide +kernel) (by decide +kernel)
theorem se_X6_needWrestler : Cond.selects yX6_needWrestler.cls yX6_needWrestler yX6_needWrestler ∈ xx_T := xx_good (i := 1) (by decide +kernel) (by decide +kernel)
abbrev mX0_hasWrestler : xx_M := (RX0, "hasWrestler", cX0_hasWrestler, 2, some .boolean, [])
set_option maxRecDepth 100000 in
theorem cal_X0_hasWrestler : xx_Cal yX0_hasWrestler mX0_hasWrestler 1 := ⟨xx_good2 (i := 63) rfl rfl, xx_good1 (i := 5) (by decide +kernel) (by decide +kernel), by decide +kernel, by decide +kernel, by decide +kernel⟩
theorem im_X0_hasWrestler : Cond.instanceMethod yX0_hasWrestler ∈ xx_T := xx_good2 (i := 61) (by decide +kernel) (by decide +kernel)
theorem se_X0_hasWrestler : Cond.selects yX0_hasWrestler.cls yX0_hasWrestler yX0_hasWrestler ∈ xx_T := xx_good2 (i := 62) (by decide +kernel) (by decide +kernel)
abbrev mX6_winsOf : xx_M := (RX6, "winsOf", cX6_winsOf, 2, some .int, [])
set_option maxRecDepth 100000 in
theorem cal_X6_winsOf : xx_Cal yX6_winsOf mX6_winsOf 1 := ⟨xx_good2 (i := 135) rfl rfl, xx_good1 (i := 1) (by decide +kernel) (by decide +kernel), by decide +kernel, by decide +kernel, by decide +kernel⟩
theorem im_X6_winsOf : Cond.instanceMethod yX6_winsOf ∈ xx_T := xx_good2 (i := 133) (by decide +kernel) (by decide +kernel)
theorem se_X6_winsOf : Cond.selects yX6_winsOf.cls yX6_winsOf yX6_winsOf ∈ xx_T := xx_good2 (i := 134) (by decide +kernel) (by decide +kernel)
abbrev mX6_drawsOf : xx_M := (RX6, "drawsOf", cX6_drawsOf, 2, some .int, [])
set_option maxRecDepth 100000 in
theorem cal_X6_drawsOf : xx_Cal yX6_drawsOf mX6_drawsOf 1 := ⟨xx_good2 (i := 139) rfl rfl, xx_good1 (i := 1) (by decide +kernel) (by decide +kernel), by decide +kernel, by decide +kernel, by decide +kernel⟩
theorem im_X6_drawsOf : Cond.instanceMethod yX6_drawsOf ∈ xx_T := xx_good2 (i := 137) (by decide +kernel) (by decide +kernel)
theorem se_X6_drawsOf : Cond.selects yX6_drawsOf.cls yX6_drawsOf yX6_drawsOf ∈ xx_T := xx_good2 (i := 138) (by decide +kernel) (by decide +kernel)
abbrev mX6_lossesOf : xx_M := (RX6, "lossesOf", cX6_lossesOf, 2, some .int, [])
set_option maxRecDepth 100000 in
theorem cal_X6_lossesOf : xx_Cal yX6_lossesOf mX6_lossesOf 1 := ⟨xx_good2 (i := 143) rfl rfl, xx_good1 (i := 1) (by decide +kernel) (by decide +kernel), by decide +kernel, by decide +kernel, by decide +kernel⟩
theorem im_X6_lossesOf : Cond.instanceMethod yX6_lossesOf ∈ xx_T := xx_good2 (i := 141) (by decide +kernel) (by decide +kernel)
theorem se_X6_lossesOf : Cond.selects yX6_lossesOf.cls yX6_lossesOf yX6_lossesOf ∈ xx_T := xx_good2 (i := 142) (by decide +kernel) (by decide +kernel)
abbrev mX6_restsOf : xx_M := (RX6, "restsOf", cX6_restsOf, 2, some .int, [])
set_option maxRecDepth 100000 in
theorem cal_X6_restsOf : xx_Cal yX6_restsOf mX6_restsOf 1 := ⟨xx_good2 (i := 147) rfl rfl, xx_good1 (i := 1) (by decide +kernel) (by decide +kernel), by decide +kernel, by decide +kernel, by decide +kernel⟩
theorem im_X6_restsOf : Cond.instanceMethod yX6_restsOf ∈ xx_T := xx_good2 (i := 145) (by decide +kernel) (by decide +kernel)
theorem se_X6_restsOf : Cond.selects yX6_restsOf.cls yX6_restsOf yX6_restsOf ∈ xx_T := xx_good2 (i := 146) (by decide +kernel) (by decide +kernel)
abbrev mX6_beltsOf : xx_M := (RX6, "beltsOf", cX6_beltsOf, 2, some .int, [])
set_option maxRecDepth 100000 in
theorem cal_X6_beltsOf : xx_Cal yX6_beltsOf mX6_beltsOf 1 := ⟨xx_good2 (i := 151) rfl rfl, xx_good1 (i := 1) (by decide +kernel) (by decide +kernel), by decide +kernel, by decide +kernel, by decide +kernel⟩
theorem im_X6_beltsOf : Cond.instanceMethod yX6_beltsOf ∈ xx_T := xx_good2 (i := 149) (by decide +kernel) (by decide +kernel)
theorem se_X6_beltsOf : Cond.selects yX6_beltsOf.cls yX6_beltsOf yX6_beltsOf ∈ xx_T := xx_good2 (i := 150) (by decide +kernel) (by decide +kernel)
abbrev mX6_floatsOf : xx_M := (RX6, "floatsOf", cX6_floatsOf, 2, some .int, [])
set_option maxRecDepth 100000 in
theorem cal_X6_floatsOf : xx_Cal yX6_floatsOf mX6_floatsOf 1 := ⟨xx_good2 (i := 155) rfl rfl, xx_good1 (i := 1) (by decide +kernel) (by decide +kernel), by decide +kernel, by decide +kernel, by decide +kernel⟩
theorem im_X6_floatsOf : Cond.instanceMethod yX6_floatsOf ∈ xx_T := xx_good2 (i := 153) (by decide +kernel) (by decide +kernel)
theorem se_X6_floatsOf : Cond.selects yX6_floatsOf.cls yX6_floatsOf yX6_floatsOf ∈ xx_T := xx_good2 (i := 154) (by decide +kernel) (by decide +kernel)
abbrev mX6_pointsOfMet : xx_M := (RX6, "pointsOfMet", cX6_pointsOfMet, 2, some .int, [])
set_option maxRecDepth 100000 in
theorem cal_X6_pointsOfMet : xx_Cal yX6_pointsOfMet mX6_pointsOfMet 1 := ⟨xx_good2 (i := 159) rfl rfl, xx_good1 (i := 1) (by decide +kernel) (by decide +kernel), by decide +kernel, by decide +kernel, by decide +kernel⟩
theorem im_X6_pointsOfMet : Cond.instanceMethod yX6_pointsOfMet ∈ xx_T := xx_good2 (i := 157) (by decide +kernel) (by decide +kernel)
theorem se_X6_pointsOfMet : Cond.selects yX6_pointsOfMet.cls yX6_pointsOfMet yX6_pointsOfMet ∈ xx_T := xx_good2 (i := 158) (by decide +kernel) (by decide +kernel)
abbrev mX0_pointsOfRivals : xx_M := (RX0, "pointsOfRivals", cX0_pointsOfRivals, 4, some .int, [])
set_option maxRecDepth 100000 in
theorem cal_X0_pointsOfRivals : xx_Cal yX0_pointsOfRivals mX0_pointsOfRivals 1 := ⟨xx_good2 (i := 163) rfl rfl, xx_good1 (i := 5) (by decide +kernel) (by decide +kernel), by decide +kernel, by decide +kernel, by decide +kernel⟩
theorem im_X0_pointsOfRivals : Cond.instanceMethod yX0_pointsOfRivals ∈ xx_T := xx_good2 (i := 161) (by decide +kernel) (by decide +kernel)
theorem se_X0_pointsOfRivals : Cond.selects yX0_pointsOfRivals.cls yX0_pointsOfRivals yX0_pointsOfRivals ∈ xx_T := xx_good2 (i := 162) (by decide +kernel) (by decide +kernel)
abbrev mX0_meetings : xx_M := (RX0, "meetings", cX0_meetings, 3, some .int, [])
set_option maxRecDepth 100000 in
theorem cal_X0_meetings : xx_Cal yX0_meetings mX0_meetings 2 := ⟨xx_good2 (i := 167) rfl rfl, xx_good1 (i := 5) (by decide +kernel) (by decide +kernel), by decide +kernel, by decide +kernel, by decide +kernel⟩
theorem im_X0_meetings : Cond.instanceMethod yX0_meetings ∈ xx_T := xx_good2 (i := 165) (by decide +kernel) (by decide +kernel)
theorem se_X0_meetings : Cond.selects yX0_meetings.cls yX0_meetings yX0_meetings ∈ xx_T := xx_good2 (i := 166) (by decide +kernel) (by decide +kernel)
abbrev mX6_rankOf : xx_M := (RX6, "rankOf", cX6_rankOf, 2, some .int, [])
set_option maxRecDepth 100000 in
theorem cal_X6_rankOf : xx_Cal yX6_rankOf mX6_rankOf 1 := ⟨xx_good2 (i := 172) rfl rfl, xx_good1 (i := 1) (by decide +kernel) (by decide +kernel), by decide +kernel, by decide +kernel, by decide +kernel⟩
theorem im_X6_rankOf : Cond.instanceMethod yX6_rankOf ∈ xx_T := xx_good2 (i := 170) (by decide +kernel) (by decide +kernel)
theorem se_X6_rankOf : Cond.selects yX6_rankOf.cls yX6_rankOf yX6_rankOf ∈ xx_T := xx_good2 (i := 171) (by decide +kernel) (by decide +kernel)
abbrev mX0_putInOrder : xx_M := (RX0, "putInOrder", cX0_putInOrder, 3, none, [])
set_option maxRecDepth 100000 in
theorem cal_X0_putInOrder : xx_Cal yX0_putInOrder mX0_putInOrder 0 := ⟨xx_good2 (i := 176) rfl rfl, xx_good1 (i := 5) (by decide +kernel) (by decide +kernel), by decide +kernel, by decide +kernel, by decide +kernel⟩
theorem im_X0_putInOrder : Cond.instanceMethod yX0_putInOrder ∈ xx_T := xx_good2 (i := 174) (by decide +kernel) (by decide +kernel)
theorem se_X0_putInOrder : Cond.selects yX0_putInOrder.cls yX0_putInOrder yX0_putInOrder ∈ xx_T := xx_good2 (i := 175) (by decide +kernel) (by decide +kernel)
abbrev mX0_standsAhead : xx_M := (RX0, "standsAhead", cX0_standsAhead, 3, some .boolean, [])
set_option maxRecDepth 100000 in
theorem cal_X0_standsAhead : xx_Cal yX0_standsAhead mX0_standsAhead 2 := ⟨xx_good2 (i := 181) rfl rfl, xx_good1 (i := 5) (by decide +kernel) (by decide +kernel), by decide +kernel, by decide +kernel, by decide +kernel⟩
theorem im_X0_standsAhead : Cond.instanceMethod yX0_standsAhead ∈ xx_T := xx_good2 (i := 180) (by decide +kernel) (by decide +kernel)
theorem se_X0_standsAhead : Cond.selects yX0_standsAhead.cls yX0_standsAhead yX0_standsAhead ∈ xx_T := xx_good (i := 3) (by decide +kernel) (by decide +kernel)
abbrev mX0_placeOf : xx_M := (RX0, "placeOf", cX0_placeOf, 3, some .int, [])
set_option maxRecDepth 100000 in
theorem cal_X0_placeOf : xx_Cal yX0_placeOf mX0_placeOf 1 := ⟨xx_good2 (i := 185) rfl rfl, xx_good1 (i := 5) (by decide +kernel) (by decide +kernel), by decide +kernel, by decide +kernel, by decide +kernel⟩
theorem im_X0_placeOf : Cond.instanceMethod yX0_placeOf ∈ xx_T := xx_good2 (i := 183) (by decide +kernel) (by decide +kernel)
theorem se_X0_placeOf : Cond.selects yX0_placeOf.cls yX0_placeOf yX0_placeOf ∈ xx_T := xx_good2 (i := 184) (by decide +kernel) (by decide +kernel)
abbrev mX6_isIn : xx_M := (RX6, "isIn", cX6_isIn, 2, some .boolean, [])
set_option maxRecDepth 100000 in
theorem cal_X6_isIn : xx_Cal yX6_isIn mX6_isIn 1 := ⟨xx_good2 (i := 189) rfl rfl, xx_good1 (i := 1) (by decide +kernel) (by decide +kernel), by decide +kernel, by decide +kernel, by decide +kernel⟩
theorem im_X6_isIn : Cond.instanceMethod yX6_isIn ∈ xx_T := xx_good2 (i := 187) (by decide +kernel) (by decide +kernel)
theorem se_X6_isIn : Cond.selects yX6_isIn.cls yX6_isIn yX6_isIn ∈ xx_T := xx_good2 (i := 188) (by decide +kernel) (by decide +kernel)
abbrev mX6_wrestlerAt : xx_M := (RX6, "wrestlerAt", cX6_wrestlerAt, 2, some .int, [])
set_option maxRecDepth 100000 in
theorem cal_X6_wrestlerAt : xx_Cal yX6_wrestlerAt mX6_wrestlerAt 1 := ⟨xx_good2 (i := 193) rfl rfl, xx_good1 (i := 1) (by decide +kernel) (by decide +kernel), by decide +kernel, by decide +kernel, by decide +kernel⟩
theorem im_X6_wrestlerAt : Cond.instanceMethod yX6_wrestlerAt ∈ xx_T := xx_good2 (i := 191) (by decide +kernel) (by decide +kernel)
theorem se_X6_wrestlerAt : Cond.selects yX6_wrestlerAt.cls yX6_wrestlerAt yX6_wrestlerAt ∈ xx_T := xx_good2 (i := 192) (by decide +kernel) (by decide +kernel)
abbrev mX0_atPlace : xx_M := (RX0, "atPlace", cX0_atPlace, 2, some .int, [])
set_option maxRecDepth 100000 in
theorem cal_X0_atPlace : xx_Cal yX0_atPlace mX0_atPlace 1 := ⟨xx_good2 (i := 198) rfl rfl, xx_good1 (i := 5) (by decide +kernel) (by decide +kernel), by decide +kernel, by decide +kernel, by decide +kernel⟩
theorem im_X0_atPlace : Cond.instanceMethod yX0_atPlace ∈ xx_T := xx_good2 (i := 196) (by decide +kernel) (by decide +kernel)
theorem se_X0_atPlace : Cond.selects yX0_atPlace.cls yX0_atPlace yX0_atPlace ∈ xx_T := xx_good2 (i := 197) (by decide +kernel) (by decide +kernel)
abbrev mX6_timesMet : xx_M := (RX6, "timesMet", cX6_timesMet, 3, some .int, [])
set_option maxRecDepth 100000 in
theorem cal_X6_timesMet : xx_Cal yX6_timesMet mX6_timesMet 2 := ⟨xx_good2 (i := 202) rfl rfl, xx_good1 (i := 1) (by decide +kernel) (by decide +kernel), by decide +kernel, by decide +kernel, by decide +kernel⟩
theorem im_X6_timesMet : Cond.instanceMethod yX6_timesMet ∈ xx_T := xx_good2 (i := 200) (by decide +kernel) (by decide +kernel)
theorem se_X6_timesMet : Cond.selects yX6_timesMet.cls yX6_timesMet yX6_timesMet ∈ xx_T := xx_good2 (i := 201) (by decide +kernel) (by decide +kernel)
abbrev mX6_ruledOutcome : xx_M := (RX6, "ruledOutcome", cX6_ruledOutcome, 2, some .int, [])
set_option maxRecDepth 100000 in
theorem cal_X6_ruledOutcome : xx_Cal yX6_ruledOutcome mX6_ruledOutcome 1 := ⟨xx_good2 (i := 207) rfl rfl, xx_good1 (i := 1) (by decide +kernel) (by decide +kernel), by decide +kernel, by decide +kernel, by decide +kernel⟩
theorem im_X6_ruledOutcome : Cond.instanceMethod yX6_ruledOutcome ∈ xx_T := xx_good2 (i := 205) (by decide +kernel) (by decide +kernel)
theorem se_X6_ruledOutcome : Cond.selects yX6_ruledOutcome.cls yX6_ruledOutcome yX6_ruledOutcome ∈ xx_T := xx_good2 (i := 206) (by decide +kernel) (by decide +kernel)
abbrev mX6_needBout : xx_M := (RX6, "needBout", cX6_needBout, 2, none, [])
set_option maxRecDepth 100000 in
theorem cal_X6_needBout : xx_Cal yX6_needBout mX6_needBout 1 := ⟨xx_good2 (i := 211) rfl rfl, xx_good1 (i := 1) (by decide +kernel) (by decide +kernel), by decide +kernel, by decide +kernel, by decide +kernel⟩
theorem im_X6_needBout : Cond.instanceMethod yX6_needBout ∈ xx_T := xx_good2 (i := 210) (by decide +kernel) (by decide +kernel)
theorem se_X6_needBout : Cond.selects yX6_needBout.cls yX6_needBout yX6_needBout ∈ xx_T := xx_good (i := 4) (by decide +kernel) (by decide +kernel)
abbrev mX3_outcomeFor : xx_M := (RX3, "outcomeFor", cX3_outcomeFor, 5, some .int, [])
set_option maxRecDepth 100000 in
theorem cal_X3_outcomeFor : xx_Cal yX3_outcomeFor mX3_outcomeFor 2 := ⟨xx_good2 (i := 217) rfl rfl, xx_good1 (i := 4) (by decide +kernel) (by decide +kernel), by decide +kernel, by decide +kernel, by decide +kernel⟩
theorem im_X3_outcomeFor : Cond.instanceMethod yX3_outcomeFor ∈ xx_T := xx_good2 (i := 215) (by decide +kernel) (by decide +kernel)
theorem se_X3_outcomeFor : Cond.selects yX3_outcomeFor.cls yX3_outcomeFor yX3_outcomeFor ∈ xx_T := xx_good2 (i := 216) (by decide +kernel) (by decide +kernel)
abbrev mX3_holds : xx_M := (RX3, "holds", cX3_holds, 6, some .boolean, [])
set_option maxRecDepth 100000 in
theorem cal_X3_holds : xx_Cal yX3_holds mX3_holds 4 := ⟨xx_good2 (i := 221) rfl rfl, xx_good1 (i := 4) (by decide +kernel) (by decide +kernel), by decide +kernel, by decide +kernel, by decide +kernel⟩
theorem im_X3_holds : Cond.instanceMethod yX3_holds ∈ xx_T := xx_good2 (i := 220) (by decide +kernel) (by decide +kernel)
theorem se_X3_holds : Cond.selects yX3_holds.cls yX3_holds yX3_holds ∈ xx_T := xx_good (i := 5) (by decide +kernel) (by decide +kernel)
abbrev mX3_doStep : xx_M := (RX3, "doStep", cX3_doStep, 7, none, [])
set_option maxRecDepth 100000 in
theorem cal_X3_doStep : xx_Cal yX3_doStep mX3_doStep 4 := ⟨xx_good2 (i := 225) rfl rfl, xx_good1 (i := 4) (by decide +kernel) (by decide +kernel), by decide +kernel, by decide +kernel, by decide +kernel⟩
theorem im_X3_doStep : Cond.instanceMethod yX3_doStep ∈ xx_T := xx_good2 (i := 224) (by decide +kernel) (by decide +kernel)
theorem se_X3_doStep : Cond.selects yX3_doStep.cls yX3_doStep yX3_doStep ∈ xx_T := xx_good (i := 6) (by decide +kernel) (by decide +kernel)
abbrev mX3_push : xx_M := (RX3, "push", cX3_push, 2, none, [])
set_option maxRecDepth 100000 in
theorem cal_X3_push : xx_Cal yX3_push mX3_push 1 := ⟨xx_good2 (i := 229) rfl rfl, xx_good1 (i := 4) (by decide +kernel) (by decide +kernel), by decide +kernel, by decide +kernel, by decide +kernel⟩
theorem im_X3_push : Cond.instanceMethod yX3_push ∈ xx_T := xx_good2 (i := 228) (by decide +kernel) (by decide +kernel)
theorem se_X3_push : Cond.selects yX3_push.cls yX3_push yX3_push ∈ xx_T := xx_good (i := 7) (by decide +kernel) (by decide +kernel)
abbrev mX0_redIn : xx_M := (RX0, "redIn", cX0_redIn, 2, some .int, [])
set_option maxRecDepth 100000 in
theorem cal_X0_redIn : xx_Cal yX0_redIn mX0_redIn 1 := ⟨xx_good2 (i := 233) rfl rfl, xx_good1 (i := 5) (by decide +kernel) (by decide +kernel), by decide +kernel, by decide +kernel, by decide +kernel⟩
theorem im_X0_redIn : Cond.instanceMethod yX0_redIn ∈ xx_T := xx_good2 (i := 231) (by decide +kernel) (by decide +kernel)
theorem se_X0_redIn : Cond.selects yX0_redIn.cls yX0_redIn yX0_redIn ∈ xx_T := xx_good2 (i := 232) (by decide +kernel) (by decide +kernel)
abbrev mX0_blueIn : xx_M := (RX0, "blueIn", cX0_blueIn, 2, some .int, [])
set_option maxRecDepth 100000 in
theorem cal_X0_blueIn : xx_Cal yX0_blueIn mX0_blueIn 1 := ⟨xx_good2 (i := 238) rfl rfl, xx_good1 (i := 5) (by decide +kernel) (by decide +kernel), by decide +kernel, by decide +kernel, by decide +kernel⟩
theorem im_X0_blueIn : Cond.instanceMethod yX0_blueIn ∈ xx_T := xx_good2 (i := 236) (by decide +kernel) (by decide +kernel)
theorem se_X0_blueIn : Cond.selects yX0_blueIn.cls yX0_blueIn yX0_blueIn ∈ xx_T := xx_good2 (i := 237) (by decide +kernel) (by decide +kernel)
abbrev mX3_pop : xx_M := (RX3, "pop", cX3_pop, 1, some .int, [])
set_option maxRecDepth 100000 in
theorem cal_X3_pop : xx_Cal yX3_pop mX3_pop 0 := ⟨xx_good3 (i := 3) rfl rfl, xx_good1 (i := 4) (by decide +kernel) (by decide +kernel), by decide +kernel, by decide +kernel, by decide +kernel⟩
theorem im_X3_pop : Cond.instanceMethod yX3_pop ∈ xx_T := xx_good3 (i := 2) (by decide +kernel) (by decide +kernel)
theorem se_X3_pop : Cond.selects yX3_pop.cls yX3_pop yX3_pop ∈ xx_T := xx_good (i := 8) (by decide +kernel) (by decide +kernel)
abbrev mX3_join : xx_M := (RX3, "join", cX3_join, 3, some .int, [])
set_option maxRecDepth 100000 in
theorem cal_X3_join : xx_Cal yX3_join mX3_join 3 := ⟨xx_good3 (i := 6) rfl rfl, xx_good1 (i := 4) (by decide +kernel) (by decide +kernel), by decide +kernel, by decide +kernel, by decide +kernel⟩
theorem sm_X3_join : Cond.static yX3_join ∈ xx_T := xx_good3 (i := 5) (by decide +kernel) (by decide +kernel)
abbrev mJ9_min_7cf53 : xx_M := (RJ9, "min", cJ9_min_7cf53, 2, some .int, [])
set_option maxRecDepth 100000 in
theorem cal_J9_min_7cf53 : xx_Cal yJ9_min_7cf53 mJ9_min_7cf53 2 := ⟨xx_good3 (i := 9) rfl rfl, xx_good1 (i := 13) (by decide +kernel) (by decide +kernel), by decide +kernel, by decide +kernel, by decide +kernel⟩
theorem sm_J9_min_7cf53 : Cond.static yJ9_min_7cf53 ∈ xx_T := xx_good3 (i := 8) (by decide +kernel) (by decide +kernel)
abbrev mJ9_max_7cf53 : xx_M := (RJ9, "max", cJ9_max_7cf53, 2, some .int, [])
set_option maxRecDepth 100000 in
theorem cal_J9_max_7cf53 : xx_Cal yJ9_max_7cf53 mJ9_max_7cf53 2 := ⟨xx_good3 (i := 12) rfl rfl, xx_good1 (i := 13) (by decide +kernel) (by decide +kernel), by decide +kernel, by decide +kernel, by decide +kernel⟩
theorem sm_J9_max_7cf53 : Cond.static yJ9_max_7cf53 ∈ xx_T := xx_good3 (i := 11) (by decide +kernel) (by decide +kernel)
abbrev mX6_tellByRules : xx_M := (RX6, "tellByRules", cX6_tellByRules, 1, some .int, [])
set_option maxRecDepth 100000 in
theorem cal_X6_tellByRules : xx_Cal yX6_tellByRules mX6_tellByRules 0 := ⟨xx_good3 (i := 16) rfl rfl, xx_good1 (i := 1) (by decide +kernel) (by decide +kernel), by decide +kernel, by decide +kernel, by decide +kernel⟩
theorem im_X6_tellByRules : Cond.instanceMethod yX6_tellByRules ∈ xx_T := xx_good3 (i := 14) (by decide +kernel) (by decide +kernel)
theorem se_X6_tellByRules : Cond.selects yX6_tellByRules.cls yX6_tellByRules yX6_tellByRules ∈ xx_T := xx_good3 (i := 15) (by decide +kernel) (by decide +kernel)
abbrev mX6_tellOpenBouts : xx_M := (RX6, "tellOpenBouts", cX6_tellOpenBouts, 5, some .int, [])
set_option maxRecDepth 100000 in
theorem cal_X6_tellOpenBouts : xx_Cal yX6_tellOpenBouts mX6_tellOpenBouts 1 := ⟨xx_good3 (i := 36) rfl rfl, xx_good1 (i := 1) (by decide +kernel) (by decide +kernel), by decide +kernel, by decide +kernel, by decide +kernel⟩
theorem im_X6_tellOpenBouts : Cond.instanceMethod yX6_tellOpenBouts ∈ xx_T := xx_good3 (i := 35) (by decide +kernel) (by decide +kernel)
theorem se_X6_tellOpenBouts : Cond.selects yX6_tellOpenBouts.cls yX6_tellOpenBouts yX6_tellOpenBouts ∈ xx_T := xx_good (i := 9) (by decide +kernel) (by decide +kernel)
abbrev mX0_tellOutcome : xx_M := (RX0, "tellOutcome", cX0_tellOutcome, 4, none, [])
set_option maxRecDepth 100000 in
theorem cal_X0_tellOutcome : xx_Cal yX0_tellOutcome mX0_tellOutcome 2 := ⟨xx_good3 (i := 41) rfl rfl, xx_good1 (i := 5) (by decide +kernel) (by decide +kernel), by decide +kernel, by decide +kernel, by decide +kernel⟩
theorem im_X0_tellOutcome : Cond.instanceMethod yX0_tellOutcome ∈ xx_T := xx_good3 (i := 39) (by decide +kernel) (by decide +kernel)
theorem se_X0_tellOutcome : Cond.selects yX0_tellOutcome.cls yX0_tellOutcome yX0_tellOutcome ∈ xx_T := xx_good3 (i := 40) (by decide +kernel) (by decide +kernel)
abbrev mX0_tellDraw : xx_M := (RX0, "tellDraw", cX0_tellDraw, 2, none, [])
set_option maxRecDepth 100000 in
theorem cal_X0_tellDraw : xx_Cal yX0_tellDraw mX0_tellDraw 1 := ⟨xx_good3 (i := 45) rfl rfl, xx_good1 (i := 5) (by decide +kernel) (by decide +kernel), by decide +kernel, by decide +kernel, by decide +kernel⟩
theorem im_X0_tellDraw : Cond.instanceMethod yX0_tellDraw ∈ xx_T := xx_good3 (i := 44) (by decide +kernel) (by decide +kernel)
theorem se_X0_tellDraw : Cond.selects yX0_tellDraw.cls yX0_tellDraw yX0_tellDraw ∈ xx_T := xx_good (i := 10) (by decide +kernel) (by decide +kernel)
abbrev mX0_add : xx_M := (RX0, "add", cX0_add, 4, none, [])
set_option maxRecDepth 100000 in
theorem cal_X0_add : xx_Cal yX0_add mX0_add 3 := ⟨xx_good3 (i := 49) rfl rfl, xx_good1 (i := 5) (by decide +kernel) (by decide +kernel), by decide +kernel, by decide +kernel, by decide +kernel⟩
theorem im_X0_add : Cond.instanceMethod yX0_add ∈ xx_T := xx_good3 (i := 48) (by decide +kernel) (by decide +kernel)
theorem se_X0_add : Cond.selects yX0_add.cls yX0_add yX0_add ∈ xx_T := xx_good (i := 11) (by decide +kernel) (by decide +kernel)
abbrev mX0_set : xx_M := (RX0, "set", cX0_set, 4, none, [])
set_option maxRecDepth 100000 in
theorem cal_X0_set : xx_Cal yX0_set mX0_set 3 := ⟨xx_good3 (i := 53) rfl rfl, xx_good1 (i := 5) (by decide +kernel) (by decide +kernel), by decide +kernel, by decide +kernel, by decide +kernel⟩
theorem im_X0_set : Cond.instanceMethod yX0_set ∈ xx_T := xx_good3 (i := 51) (by decide +kernel) (by decide +kernel)
theorem se_X0_set : Cond.selects yX0_set.cls yX0_set yX0_set ∈ xx_T := xx_good3 (i := 52) (by decide +kernel) (by decide +kernel)
abbrev mX6_leaderAfter : xx_M := (RX6, "leaderAfter", cX6_leaderAfter, 2, some .int, [])
set_option maxRecDepth 100000 in
theorem cal_X6_leaderAfter : xx_Cal yX6_leaderAfter mX6_leaderAfter 1 := ⟨xx_good3 (i := 57) rfl rfl, xx_good1 (i := 1) (by decide +kernel) (by decide +kernel), by decide +kernel, by decide +kernel, by decide +kernel⟩
theorem im_X6_leaderAfter : Cond.instanceMethod yX6_leaderAfter ∈ xx_T := xx_good3 (i := 55) (by decide +kernel) (by decide +kernel)
theorem se_X6_leaderAfter : Cond.selects yX6_leaderAfter.cls yX6_leaderAfter yX6_leaderAfter ∈ xx_T := xx_good3 (i := 56) (by decide +kernel) (by decide +kernel)
abbrev mX6_needRoundsAhead : xx_M := (RX6, "needRoundsAhead", cX6_needRoundsAhead, 1, none, [])
set_option maxRecDepth 100000 in
theorem cal_X6_needRoundsAhead : xx_Cal yX6_needRoundsAhead mX6_needRoundsAhead 1 := ⟨xx_good3 (i := 60) rfl rfl, xx_good1 (i := 1) (by decide +kernel) (by decide +kernel), by decide +kernel, by decide +kernel, by decide +kernel⟩
theorem sm_X6_needRoundsAhead : Cond.static yX6_needRoundsAhead ∈ xx_T := xx_good3 (i := 59) (by decide +kernel) (by decide +kernel)
abbrev mX6_playTrial : xx_M := (RX6, "playTrial", cX6_playTrial, 3, none, [])
set_option maxRecDepth 100000 in
theorem cal_X6_playTrial : xx_Cal yX6_playTrial mX6_playTrial 1 := ⟨xx_good3 (i := 81) rfl rfl, xx_good1 (i := 1) (by decide +kernel) (by decide +kernel), by decide +kernel, by decide +kernel, by decide +kernel⟩
theorem im_X6_playTrial : Cond.instanceMethod yX6_playTrial ∈ xx_T := xx_good3 (i := 80) (by decide +kernel) (by decide +kernel)
theorem se_X6_playTrial : Cond.selects yX6_playTrial.cls yX6_playTrial yX6_playTrial ∈ xx_T := xx_good (i := 12) (by decide +kernel) (by decide +kernel)
abbrev mX0_copyFrom : xx_M := (RX0, "copyFrom", cX0_copyFrom, 2, none, [])
set_option maxRecDepth 100000 in
theorem cal_X0_copyFrom : xx_Cal yX0_copyFrom mX0_copyFrom 1 := ⟨xx_good3 (i := 85) rfl rfl, xx_good1 (i := 5) (by decide +kernel) (by decide +kernel), by decide +kernel, by decide +kernel, by decide +kernel⟩
theorem im_X0_copyFrom : Cond.instanceMethod yX0_copyFrom ∈ xx_T := xx_good3 (i := 83) (by decide +kernel) (by decide +kernel)
theorem se_X0_copyFrom : Cond.selects yX0_copyFrom.cls yX0_copyFrom yX0_copyFrom ∈ xx_T := xx_good3 (i := 84) (by decide +kernel) (by decide +kernel)
abbrev mX0_canPair : xx_M := (RX0, "canPair", cX0_canPair, 1, some .boolean, [])
set_option maxRecDepth 100000 in
theorem cal_X0_canPair : xx_Cal yX0_canPair mX0_canPair 0 := ⟨xx_good3 (i := 92) rfl rfl, xx_good1 (i := 5) (by decide +kernel) (by decide +kernel), by decide +kernel, by decide +kernel, by decide +kernel⟩
theorem im_X0_canPair : Cond.instanceMethod yX0_canPair ∈ xx_T := xx_good3 (i := 90) (by decide +kernel) (by decide +kernel)
theorem se_X0_canPair : Cond.selects yX0_canPair.cls yX0_canPair yX0_canPair ∈ xx_T := xx_good3 (i := 91) (by decide +kernel) (by decide +kernel)
abbrev mX1_find : xx_M := (RX1, "find", cX1_find, 7, none, [])
set_option maxRecDepth 100000 in
theorem cal_X1_find : xx_Cal yX1_find mX1_find 1 := ⟨xx_good3 (i := 98) rfl rfl, xx_good1 (i := 6) (by decide +kernel) (by decide +kernel), by decide +kernel, by decide +kernel, by decide +kernel⟩
theorem im_X1_find : Cond.instanceMethod yX1_find ∈ xx_T := xx_good3 (i := 96) (by decide +kernel) (by decide +kernel)
theorem se_X1_find : Cond.selects yX1_find.cls yX1_find yX1_find ∈ xx_T := xx_good3 (i := 97) (by decide +kernel) (by decide +kernel)
abbrev mX1_lineUp : xx_M := (RX1, "lineUp", cX1_lineUp, 4, none, [])
set_option maxRecDepth 100000 in
theorem cal_X1_lineUp : xx_Cal yX1_lineUp mX1_lineUp 1 := ⟨xx_good3 (i := 102) rfl rfl, xx_good1 (i := 6) (by decide +kernel) (by decide +kernel), by decide +kernel, by decide +kernel, by decide +kernel⟩
theorem im_X1_lineUp : Cond.instanceMethod yX1_lineUp ∈ xx_T := xx_good3 (i := 101) (by decide +kernel) (by decide +kernel)
theorem se_X1_lineUp : Cond.selects yX1_lineUp.cls yX1_lineUp yX1_lineUp ∈ xx_T := xx_good (i := 13) (by decide +kernel) (by decide +kernel)
abbrev mX1_takeOutResting : xx_M := (RX1, "takeOutResting", cX1_takeOutResting, 4, none, [])
set_option maxRecDepth 100000 in
theorem cal_X1_takeOutResting : xx_Cal yX1_takeOutResting mX1_takeOutResting 1 := ⟨xx_good3 (i := 109) rfl rfl, xx_good1 (i := 6) (by decide +kernel) (by decide +kernel), by decide +kernel, by decide +kernel, by decide +kernel⟩
theorem im_X1_takeOutResting : Cond.instanceMethod yX1_takeOutResting ∈ xx_T := xx_good3 (i := 108) (by decide +kernel) (by decide +kernel)
theorem se_X1_takeOutResting : Cond.selects yX1_takeOutResting.cls yX1_takeOutResting yX1_takeOutResting ∈ xx_T := xx_good (i := 14) (by decide +kernel) (by decide +kernel)
abbrev mX1_noteMeetings : xx_M := (RX1, "noteMeetings", cX1_noteMeetings, 4, none, [])
set_option maxRecDepth 100000 in
theorem cal_X1_noteMeetings : xx_Cal yX1_noteMeetings mX1_noteMeetings 1 := ⟨xx_good3 (i := 113) rfl rfl, xx_good1 (i := 6) (by decide +kernel) (by decide +kernel), by decide +kernel, by decide +kernel, by decide +kernel⟩
theorem im_X1_noteMeetings : Cond.instanceMethod yX1_noteMeetings ∈ xx_T := xx_good3 (i := 112) (by decide +kernel) (by decide +kernel)
theorem se_X1_noteMeetings : Cond.selects yX1_noteMeetings.cls yX1_noteMeetings yX1_noteMeetings ∈ xx_T := xx_good (i := 15) (by decide +kernel) (by decide +kernel)
abbrev mJ7_fill_53178 : xx_M := (RJ7, "fill", cJ7_fill_53178, 4, none, [])
set_option maxRecDepth 100000 in
theorem cal_J7_fill_53178 : xx_Cal yJ7_fill_53178 mJ7_fill_53178 2 := ⟨xx_good3 (i := 117) rfl rfl, xx_good1 (i := 14) (by decide +kernel) (by decide +kernel), by decide +kernel, by decide +kernel, by decide +kernel⟩
theorem sm_J7_fill_53178 : Cond.static yJ7_fill_53178 ∈ xx_T := xx_good3 (i := 116) (by decide +kernel) (by decide +kernel)
abbrev mX1_fewestRematches : xx_M := (RX1, "fewestRematches", cX1_fewestRematches, 3, some .int, [])
set_option maxRecDepth 100000 in
theorem cal_X1_fewestRematches : xx_Cal yX1_fewestRematches mX1_fewestRematches 2 := ⟨xx_good3 (i := 121) rfl rfl, xx_good1 (i := 6) (by decide +kernel) (by decide +kernel), by decide +kernel, by decide +kernel, by decide +kernel⟩
theorem im_X1_fewestRematches : Cond.instanceMethod yX1_fewestRematches ∈ xx_T := xx_good3 (i := 120) (by decide +kernel) (by decide +kernel)
theorem se_X1_fewestRematches : Cond.selects yX1_fewestRematches.cls yX1_fewestRematches yX1_fewestRematches ∈ xx_T := xx_good (i := 16) (by decide +kernel) (by decide +kernel)
abbrev mX1_reckonFewest : xx_M := (RX1, "reckonFewest", cX1_reckonFewest, 7, some .int, [])
set_option maxRecDepth 100000 in
theorem cal_X1_reckonFewest : xx_Cal yX1_reckonFewest mX1_reckonFewest 2 := ⟨xx_good3 (i := 125) rfl rfl, xx_good1 (i := 6) (by decide +kernel) (by decide +kernel), by decide +kernel, by decide +kernel, by decide +kernel⟩
theorem im_X1_reckonFewest : Cond.instanceMethod yX1_reckonFewest ∈ xx_T := xx_good3 (i := 124) (by decide +kernel) (by decide +kernel)
theorem se_X1_reckonFewest : Cond.selects yX1_reckonFewest.cls yX1_reckonFewest yX1_reckonFewest ∈ xx_T := xx_good (i := 17) (by decide +kernel) (by decide +kernel)
abbrev mX1_firstOf : xx_M := (RX1, "firstOf", cX1_firstOf, 1, some .int, [])
set_option maxRecDepth 100000 in
theorem cal_X1_firstOf : xx_Cal yX1_firstOf mX1_firstOf 1 := ⟨xx_good3 (i := 128) rfl rfl, xx_good1 (i := 6) (by decide +kernel) (by decide +kernel), by decide +kernel, by decide +kernel, by decide +kernel⟩
theorem sm_X1_firstOf : Cond.static yX1_firstOf ∈ xx_T := xx_good3 (i := 127) (by decide +kernel) (by decide +kernel)
abbrev mJ6_numberOfTrailingZeros_0f7a4 : xx_M := (RJ6, "numberOfTrailingZeros", cJ6_numberOfTrailingZeros_0f7a4, 2, some .int, [])
set_option maxRecDepth 100000 in
theorem cal_J6_numberOfTrailingZeros_0f7a4 : xx_Cal yJ6_numberOfTrailingZeros_0f7a4 mJ6_numberOfTrailingZeros_0f7a4 1 := ⟨xx_good3 (i := 131) rfl rfl, xx_good1 (i := 19) (by decide +kernel) (by decide +kernel), by decide +kernel, by decide +kernel, by decide +kernel⟩
theorem sm_J6_numberOfTrailingZeros_0f7a4 : Cond.static yJ6_numberOfTrailingZeros_0f7a4 ∈ xx_T := xx_good3 (i := 130) (by decide +kernel) (by decide +kernel)
abbrev mX1_has : xx_M := (RX1, "has", cX1_has, 2, some .boolean, [])
set_option maxRecDepth 100000 in
theorem cal_X1_has : xx_Cal yX1_has mX1_has 2 := ⟨xx_good3 (i := 136) rfl rfl, xx_good1 (i := 6) (by decide +kernel) (by decide +kernel), by decide +kernel, by decide +kernel, by decide +kernel⟩
theorem sm_X1_has : Cond.static yX1_has ∈ xx_T := xx_good3 (i := 135) (by decide +kernel) (by decide +kernel)
abbrev mX1_rematchesWith : xx_M := (RX1, "rematchesWith", cX1_rematchesWith, 6, some .int, [])
set_option maxRecDepth 100000 in
theorem cal_X1_rematchesWith : xx_Cal yX1_rematchesWith mX1_rematchesWith 4 := ⟨xx_good3 (i := 140) rfl rfl, xx_good1 (i := 6) (by decide +kernel) (by decide +kernel), by decide +kernel, by decide +kernel, by decide +kernel⟩
theorem im_X1_rematchesWith : Cond.instanceMethod yX1_rematchesWith ∈ xx_T := xx_good3 (i := 139) (by decide +kernel) (by decide +kernel)
theorem se_X1_rematchesWith : Cond.selects yX1_rematchesWith.cls yX1_rematchesWith yX1_rematchesWith ∈ xx_T := xx_good (i := 18) (by decide +kernel) (by decide +kernel)
abbrev mX1_secondFor : xx_M := (RX1, "secondFor", cX1_secondFor, 6, some .int, [])
set_option maxRecDepth 100000 in
theorem cal_X1_secondFor : xx_Cal yX1_secondFor mX1_secondFor 3 := ⟨xx_good3 (i := 144) rfl rfl, xx_good1 (i := 6) (by decide +kernel) (by decide +kernel), by decide +kernel, by decide +kernel, by decide +kernel⟩
theorem im_X1_secondFor : Cond.instanceMethod yX1_secondFor ∈ xx_T := xx_good3 (i := 143) (by decide +kernel) (by decide +kernel)
theorem se_X1_secondFor : Cond.selects yX1_secondFor.cls yX1_secondFor yX1_secondFor ∈ xx_T := xx_good (i := 19) (by decide +kernel) (by decide +kernel)
abbrev mX0_startRound : xx_M := (RX0, "startRound", cX0_startRound, 3, none, [])
set_option maxRecDepth 100000 in
theorem cal_X0_startRound : xx_Cal yX0_startRound mX0_startRound 1 := ⟨xx_good3 (i := 148) rfl rfl, xx_good1 (i := 5) (by decide +kernel) (by decide +kernel), by decide +kernel, by decide +kernel, by decide +kernel⟩
theorem im_X0_startRound : Cond.instanceMethod yX0_startRound ∈ xx_T := xx_good3 (i := 146) (by decide +kernel) (by decide +kernel)
theorem se_X0_startRound : Cond.selects yX0_startRound.cls yX0_startRound yX0_startRound ∈ xx_T := xx_good3 (i := 147) (by decide +kernel) (by decide +kernel)
abbrev mX1_aheadIn : xx_M := (RX1, "aheadIn", cX1_aheadIn, 2, some .int, [])
set_option maxRecDepth 100000 in
theorem cal_X1_aheadIn : xx_Cal yX1_aheadIn mX1_aheadIn 1 := ⟨xx_good3 (i := 152) rfl rfl, xx_good1 (i := 6) (by decide +kernel) (by decide +kernel), by decide +kernel, by decide +kernel, by decide +kernel⟩
theorem im_X1_aheadIn : Cond.instanceMethod yX1_aheadIn ∈ xx_T := xx_good3 (i := 150) (by decide +kernel) (by decide +kernel)
theorem se_X1_aheadIn : Cond.selects yX1_aheadIn.cls yX1_aheadIn yX1_aheadIn ∈ xx_T := xx_good3 (i := 151) (by decide +kernel) (by decide +kernel)
abbrev mX1_behindIn : xx_M := (RX1, "behindIn", cX1_behindIn, 2, some .int, [])
set_option maxRecDepth 100000 in
theorem cal_X1_behindIn : xx_Cal yX1_behindIn mX1_behindIn 1 := ⟨xx_good3 (i := 156) rfl rfl, xx_good1 (i := 6) (by decide +kernel) (by decide +kernel), by decide +kernel, by decide +kernel, by decide +kernel⟩
theorem im_X1_behindIn : Cond.instanceMethod yX1_behindIn ∈ xx_T := xx_good3 (i := 154) (by decide +kernel) (by decide +kernel)
theorem se_X1_behindIn : Cond.selects yX1_behindIn.cls yX1_behindIn yX1_behindIn ∈ xx_T := xx_good3 (i := 155) (by decide +kernel) (by decide +kernel)
abbrev mX0_startBout : xx_M := (RX0, "startBout", cX0_startBout, 5, none, [])
set_option maxRecDepth 100000 in
theorem cal_X0_startBout : xx_Cal yX0_startBout mX0_startBout 3 := ⟨xx_good3 (i := 160) rfl rfl, xx_good1 (i := 5) (by decide +kernel) (by decide +kernel), by decide +kernel, by decide +kernel, by decide +kernel⟩
theorem im_X0_startBout : Cond.instanceMethod yX0_startBout ∈ xx_T := xx_good3 (i := 159) (by decide +kernel) (by decide +kernel)
theorem se_X0_startBout : Cond.selects yX0_startBout.cls yX0_startBout yX0_startBout ∈ xx_T := xx_good (i := 20) (by decide +kernel) (by decide +kernel)
abbrev mX0_takesRedAhead : xx_M := (RX0, "takesRedAhead", cX0_takesRedAhead, 3, some .boolean, [])
set_option maxRecDepth 100000 in
theorem cal_X0_takesRedAhead : xx_Cal yX0_takesRedAhead mX0_takesRedAhead 2 := ⟨xx_good3 (i := 164) rfl rfl, xx_good1 (i := 5) (by decide +kernel) (by decide +kernel), by decide +kernel, by decide +kernel, by decide +kernel⟩
theorem im_X0_takesRedAhead : Cond.instanceMethod yX0_takesRedAhead ∈ xx_T := xx_good3 (i := 163) (by decide +kernel) (by decide +kernel)
theorem se_X0_takesRedAhead : Cond.selects yX0_takesRedAhead.cls yX0_takesRedAhead yX0_takesRedAhead ∈ xx_T := xx_good (i := 21) (by decide +kernel) (by decide +kernel)
abbrev mX0_addMeeting : xx_M := (RX0, "addMeeting", cX0_addMeeting, 3, none, [])
set_option maxRecDepth 100000 in
theorem cal_X0_addMeeting : xx_Cal yX0_addMeeting mX0_addMeeting 2 := ⟨xx_good3 (i := 168) rfl rfl, xx_good1 (i := 5) (by decide +kernel) (by decide +kernel), by decide +kernel, by decide +kernel, by decide +kernel⟩
theorem im_X0_addMeeting : Cond.instanceMethod yX0_addMeeting ∈ xx_T := xx_good3 (i := 167) (by decide +kernel) (by decide +kernel)
theorem se_X0_addMeeting : Cond.selects yX0_addMeeting.cls yX0_addMeeting yX0_addMeeting ∈ xx_T := xx_good (i := 22) (by decide +kernel) (by decide +kernel)
abbrev mX6_pointsAfter : xx_M := (RX6, "pointsAfter", cX6_pointsAfter, 3, some .int, [])
set_option maxRecDepth 100000 in
theorem cal_X6_pointsAfter : xx_Cal yX6_pointsAfter mX6_pointsAfter 2 := ⟨xx_good3 (i := 172) rfl rfl, xx_good1 (i := 1) (by decide +kernel) (by decide +kernel), by decide +kernel, by decide +kernel, by decide +kernel⟩
theorem im_X6_pointsAfter : Cond.instanceMethod yX6_pointsAfter ∈ xx_T := xx_good3 (i := 170) (by decide +kernel) (by decide +kernel)
theorem se_X6_pointsAfter : Cond.selects yX6_pointsAfter.cls yX6_pointsAfter yX6_pointsAfter ∈ xx_T := xx_good3 (i := 171) (by decide +kernel) (by decide +kernel)
abbrev mX6_digest : xx_M := (RX6, "digest", cX6_digest, 4, some .long, [])
set_option maxRecDepth 100000 in
theorem cal_X6_digest : xx_Cal yX6_digest mX6_digest 0 := ⟨xx_good3 (i := 176) rfl rfl, xx_good1 (i := 1) (by decide +kernel) (by decide +kernel), by decide +kernel, by decide +kernel, by decide +kernel⟩
theorem im_X6_digest : Cond.instanceMethod yX6_digest ∈ xx_T := xx_good3 (i := 174) (by decide +kernel) (by decide +kernel)
theorem se_X6_digest : Cond.selects yX6_digest.cls yX6_digest yX6_digest ∈ xx_T := xx_good3 (i := 175) (by decide +kernel) (by decide +kernel)
abbrev mX6_rules : xx_M := (RX6, "rules", cX6_rules, 1, some .int, [])
set_option maxRecDepth 100000 in
theorem cal_X6_rules : xx_Cal yX6_rules mX6_rules 0 := ⟨xx_good3 (i := 184) rfl rfl, xx_good1 (i := 1) (by decide +kernel) (by decide +kernel), by decide +kernel, by decide +kernel, by decide +kernel⟩
theorem im_X6_rules : Cond.instanceMethod yX6_rules ∈ xx_T := xx_good3 (i := 182) (by decide +kernel) (by decide +kernel)
theorem se_X6_rules : Cond.selects yX6_rules.cls yX6_rules yX6_rules ∈ xx_T := xx_good3 (i := 183) (by decide +kernel) (by decide +kernel)
abbrev mX6_tapeBytes : xx_M := (RX6, "tapeBytes", cX6_tapeBytes, 1, some .int, [])
set_option maxRecDepth 100000 in
theorem cal_X6_tapeBytes : xx_Cal yX6_tapeBytes mX6_tapeBytes 0 := ⟨xx_good3 (i := 189) rfl rfl, xx_good1 (i := 1) (by decide +kernel) (by decide +kernel), by decide +kernel, by decide +kernel, by decide +kernel⟩
theorem im_X6_tapeBytes : Cond.instanceMethod yX6_tapeBytes ∈ xx_T := xx_good3 (i := 187) (by decide +kernel) (by decide +kernel)
theorem se_X6_tapeBytes : Cond.selects yX6_tapeBytes.cls yX6_tapeBytes yX6_tapeBytes ∈ xx_T := xx_good3 (i := 188) (by decide +kernel) (by decide +kernel)
abbrev mX6_digestWrestler : xx_M := (RX6, "digestWrestler", cX6_digestWrestler, 7, some .long, [])
set_option maxRecDepth 100000 in
theorem cal_X6_digestWrestler : xx_Cal yX6_digestWrestler mX6_digestWrestler 2 := ⟨xx_good3 (i := 195) rfl rfl, xx_good1 (i := 1) (by decide +kernel) (by decide +kernel), by decide +kernel, by decide +kernel, by decide +kernel⟩
theorem im_X6_digestWrestler : Cond.instanceMethod yX6_digestWrestler ∈ xx_T := xx_good3 (i := 194) (by decide +kernel) (by decide +kernel)
theorem se_X6_digestWrestler : Cond.selects yX6_digestWrestler.cls yX6_digestWrestler yX6_digestWrestler ∈ xx_T := xx_good (i := 23) (by decide +kernel) (by decide +kernel)
abbrev mX7_tellAll : xx_M := (RX7, "tellAll", cX7_tellAll, 6, some .int, [])
set_option maxRecDepth 100000 in
theorem cal_X7_tellAll : xx_Cal yX7_tellAll mX7_tellAll 0 := ⟨xx_good3 (i := 201) rfl rfl, xx_good1 (i := 11) (by decide +kernel) (by decide +kernel), by decide +kernel, by decide +kernel, by decide +kernel⟩
theorem im_X7_tellAll : Cond.instanceMethod yX7_tellAll ∈ xx_T := xx_good3 (i := 199) (by decide +kernel) (by decide +kernel)
theorem se_X7_tellAll : Cond.selects yX7_tellAll.cls yX7_tellAll yX7_tellAll ∈ xx_T := xx_good3 (i := 200) (by decide +kernel) (by decide +kernel)
abbrev mX7_ruled : xx_M := (RX7, "ruled", cX7_ruled, 3, some .int, [])
set_option maxRecDepth 100000 in
theorem cal_X7_ruled : xx_Cal yX7_ruled mX7_ruled 1 := ⟨xx_good3 (i := 205) rfl rfl, xx_good1 (i := 11) (by decide +kernel) (by decide +kernel), by decide +kernel, by decide +kernel, by decide +kernel⟩
theorem im_X7_ruled : Cond.instanceMethod yX7_ruled ∈ xx_T := xx_good3 (i := 203) (by decide +kernel) (by decide +kernel)
theorem se_X7_ruled : Cond.selects yX7_ruled.cls yX7_ruled yX7_ruled ∈ xx_T := xx_good3 (i := 204) (by decide +kernel) (by decide +kernel)
abbrev mX8_of : xx_M := (RX8, "of", cX8_of, 4, some .int, [])
set_option maxRecDepth 100000 in
theorem cal_X8_of : xx_Cal yX8_of mX8_of 2 := ⟨xx_good3 (i := 209) rfl rfl, xx_good1 (i := 20) (by decide +kernel) (by decide +kernel), by decide +kernel, by decide +kernel, by decide +kernel⟩
theorem im_X8_of : Cond.instanceMethod yX8_of ∈ xx_T := xx_good3 (i := 207) (by decide +kernel) (by decide +kernel)
theorem se_X8_of : Cond.selects yX8_of.cls yX8_of yX8_of ∈ xx_T := xx_good3 (i := 208) (by decide +kernel) (by decide +kernel)
abbrev mX7_of : xx_M := (RX7, "of", cX7_of, 3, some .int, [])
set_option maxRecDepth 100000 in
theorem cal_X7_of : xx_Cal yX7_of mX7_of 2 := ⟨xx_good3 (i := 213) rfl rfl, xx_good1 (i := 11) (by decide +kernel) (by decide +kernel), by decide +kernel, by decide +kernel, by decide +kernel⟩
theorem im_X7_of : Cond.instanceMethod yX7_of ∈ xx_T := xx_good3 (i := 211) (by decide +kernel) (by decide +kernel)
theorem se_X7_of : Cond.selects yX7_of.cls yX7_of yX7_of ∈ xx_T := xx_good3 (i := 212) (by decide +kernel) (by decide +kernel)
abbrev mX7_points : xx_M := (RX7, "points", cX7_points, 2, some .int, [])
set_option maxRecDepth 100000 in
theorem cal_X7_points : xx_Cal yX7_points mX7_points 1 := ⟨xx_good3 (i := 217) rfl rfl, xx_good1 (i := 11) (by decide +kernel) (by decide +kernel), by decide +kernel, by decide +kernel, by decide +kernel⟩
theorem im_X7_points : Cond.instanceMethod yX7_points ∈ xx_T := xx_good3 (i := 215) (by decide +kernel) (by decide +kernel)
theorem se_X7_points : Cond.selects yX7_points.cls yX7_points yX7_points ∈ xx_T := xx_good3 (i := 216) (by decide +kernel) (by decide +kernel)
abbrev mX7_many : xx_M := (RX7, "many", cX7_many, 8, some .int, [])
set_option maxRecDepth 100000 in
theorem cal_X7_many : xx_Cal yX7_many mX7_many 2 := ⟨xx_good3 (i := 221) rfl rfl, xx_good1 (i := 11) (by decide +kernel) (by decide +kernel), by decide +kernel, by decide +kernel, by decide +kernel⟩
theorem im_X7_many : Cond.instanceMethod yX7_many ∈ xx_T := xx_good3 (i := 219) (by decide +kernel) (by decide +kernel)
theorem se_X7_many : Cond.selects yX7_many.cls yX7_many yX7_many ∈ xx_T := xx_good3 (i := 220) (by decide +kernel) (by decide +kernel)
abbrev mX7_rested : xx_M := (RX7, "rested", cX7_rested, 7, some .int, [])
set_option maxRecDepth 100000 in
theorem cal_X7_rested : xx_Cal yX7_rested mX7_rested 1 := ⟨xx_good3 (i := 225) rfl rfl, xx_good1 (i := 11) (by decide +kernel) (by decide +kernel), by decide +kernel, by decide +kernel, by decide +kernel⟩
theorem im_X7_rested : Cond.instanceMethod yX7_rested ∈ xx_T := xx_good3 (i := 223) (by decide +kernel) (by decide +kernel)
theorem se_X7_rested : Cond.selects yX7_rested.cls yX7_rested yX7_rested ∈ xx_T := xx_good3 (i := 224) (by decide +kernel) (by decide +kernel)
abbrev mX7_belts : xx_M := (RX7, "belts", cX7_belts, 7, some .int, [])
set_option maxRecDepth 100000 in
theorem cal_X7_belts : xx_Cal yX7_belts mX7_belts 1 := ⟨xx_good3 (i := 229) rfl rfl, xx_good1 (i := 11) (by decide +kernel) (by decide +kernel), by decide +kernel, by decide +kernel, by decide +kernel⟩
theorem im_X7_belts : Cond.instanceMethod yX7_belts ∈ xx_T := xx_good3 (i := 227) (by decide +kernel) (by decide +kernel)
theorem se_X7_belts : Cond.selects yX7_belts.cls yX7_belts yX7_belts ∈ xx_T := xx_good3 (i := 228) (by decide +kernel) (by decide +kernel)
abbrev mX7_floats : xx_M := (RX7, "floats", cX7_floats, 7, some .int, [])
set_option maxRecDepth 100000 in
theorem cal_X7_floats : xx_Cal yX7_floats mX7_floats 1 := ⟨xx_good3 (i := 233) rfl rfl, xx_good1 (i := 11) (by decide +kernel) (by decide +kernel), by decide +kernel, by decide +kernel, by decide +kernel⟩
theorem im_X7_floats : Cond.instanceMethod yX7_floats ∈ xx_T := xx_good3 (i := 231) (by decide +kernel) (by decide +kernel)
theorem se_X7_floats : Cond.selects yX7_floats.cls yX7_floats yX7_floats ∈ xx_T := xx_good3 (i := 232) (by decide +kernel) (by decide +kernel)
abbrev mX7_met : xx_M := (RX7, "met", cX7_met, 9, some .int, [])
set_option maxRecDepth 100000 in
theorem cal_X7_met : xx_Cal yX7_met mX7_met 3 := ⟨xx_good3 (i := 237) rfl rfl, xx_good1 (i := 11) (by decide +kernel) (by decide +kernel), by decide +kernel, by decide +kernel, by decide +kernel⟩
theorem im_X7_met : Cond.instanceMethod yX7_met ∈ xx_T := xx_good3 (i := 235) (by decide +kernel) (by decide +kernel)
theorem se_X7_met : Cond.selects yX7_met.cls yX7_met yX7_met ∈ xx_T := xx_good3 (i := 236) (by decide +kernel) (by decide +kernel)
abbrev mX8_ofTwo : xx_M := (RX8, "ofTwo", cX8_ofTwo, 3, some .int, [])
set_option maxRecDepth 100000 in
theorem cal_X8_ofTwo : xx_Cal yX8_ofTwo mX8_ofTwo 2 := ⟨xx_good4 (i := 3) rfl rfl, xx_good1 (i := 20) (by decide +kernel) (by decide +kernel), by decide +kernel, by decide +kernel, by decide +kernel⟩
theorem im_X8_ofTwo : Cond.instanceMethod yX8_ofTwo ∈ xx_T := xx_good4 (i := 1) (by decide +kernel) (by decide +kernel)
theorem se_X8_ofTwo : Cond.selects yX8_ofTwo.cls yX8_ofTwo yX8_ofTwo ∈ xx_T := xx_good (i := 24) (by decide +kernel) (by decide +kernel)
abbrev mX7_isSame : xx_M := (RX7, "isSame", cX7_isSame, 9, some .boolean, [])
set_option maxRecDepth 100000 in
theorem cal_X7_isSame : xx_Cal yX7_isSame mX7_isSame 1 := ⟨xx_good4 (i := 7) rfl rfl, xx_good1 (i := 11) (by decide +kernel) (by decide +kernel), by decide +kernel, by decide +kernel, by decide +kernel⟩
theorem im_X7_isSame : Cond.instanceMethod yX7_isSame ∈ xx_T := xx_good4 (i := 5) (by decide +kernel) (by decide +kernel)
theorem se_X7_isSame : Cond.selects yX7_isSame.cls yX7_isSame yX7_isSame ∈ xx_T := xx_good4 (i := 6) (by decide +kernel) (by decide +kernel)
abbrev mX7_latest : xx_M := (RX7, "latest", cX7_latest, 6, some (.array (.array .int)), [])
set_option maxRecDepth 100000 in
theorem cal_X7_latest : xx_Cal yX7_latest mX7_latest 0 := ⟨xx_good4 (i := 11) rfl rfl, xx_good1 (i := 11) (by decide +kernel) (by decide +kernel), by decide +kernel, by decide +kernel, by decide +kernel⟩
theorem im_X7_latest : Cond.instanceMethod yX7_latest ∈ xx_T := xx_good4 (i := 9) (by decide +kernel) (by decide +kernel)
theorem se_X7_latest : Cond.selects yX7_latest.cls yX7_latest yX7_latest ∈ xx_T := xx_good4 (i := 10) (by decide +kernel) (by decide +kernel)
abbrev mX7_with : xx_M := (RX7, "with", cX7_with, 4, some (.array (.array .int)), [])
set_option maxRecDepth 100000 in
theorem cal_X7_with : xx_Cal yX7_with mX7_with 2 := ⟨xx_good4 (i := 16) rfl rfl, xx_good1 (i := 11) (by decide +kernel) (by decide +kernel), by decide +kernel, by decide +kernel, by decide +kernel⟩
theorem sm_X7_with : Cond.static yX7_with ∈ xx_T := xx_good4 (i := 15) (by decide +kernel) (by decide +kernel)
abbrev mX7_in : xx_M := (RX7, "in", cX7_in, 3, some .int, [])
set_option maxRecDepth 100000 in
theorem cal_X7_in : xx_Cal yX7_in mX7_in 0 := ⟨xx_good4 (i := 22) rfl rfl, xx_good1 (i := 11) (by decide +kernel) (by decide +kernel), by decide +kernel, by decide +kernel, by decide +kernel⟩
theorem im_X7_in : Cond.instanceMethod yX7_in ∈ xx_T := xx_good4 (i := 20) (by decide +kernel) (by decide +kernel)
theorem se_X7_in : Cond.selects yX7_in.cls yX7_in yX7_in ∈ xx_T := xx_good4 (i := 21) (by decide +kernel) (by decide +kernel)
abbrev mX7_open : xx_M := (RX7, "open", cX7_open, 6, some .int, [])
set_option maxRecDepth 100000 in
theorem cal_X7_open : xx_Cal yX7_open mX7_open 0 := ⟨xx_good4 (i := 30) rfl rfl, xx_good1 (i := 11) (by decide +kernel) (by decide +kernel), by decide +kernel, by decide +kernel, by decide +kernel⟩
theorem im_X7_open : Cond.instanceMethod yX7_open ∈ xx_T := xx_good4 (i := 28) (by decide +kernel) (by decide +kernel)
theorem se_X7_open : Cond.selects yX7_open.cls yX7_open yX7_open ∈ xx_T := xx_good4 (i := 29) (by decide +kernel) (by decide +kernel)
abbrev mX7_order : xx_M := (RX7, "order", cX7_order, 7, some (.array .int), [])
set_option maxRecDepth 100000 in
theorem cal_X7_order : xx_Cal yX7_order mX7_order 0 := ⟨xx_good4 (i := 34) rfl rfl, xx_good1 (i := 11) (by decide +kernel) (by decide +kernel), by decide +kernel, by decide +kernel, by decide +kernel⟩
theorem im_X7_order : Cond.instanceMethod yX7_order ∈ xx_T := xx_good4 (i := 32) (by decide +kernel) (by decide +kernel)
theorem se_X7_order : Cond.selects yX7_order.cls yX7_order yX7_order ∈ xx_T := xx_good4 (i := 33) (by decide +kernel) (by decide +kernel)
abbrev mX7_ofMet : xx_M := (RX7, "ofMet", cX7_ofMet, 7, some .int, [])
set_option maxRecDepth 100000 in
theorem cal_X7_ofMet : xx_Cal yX7_ofMet mX7_ofMet 1 := ⟨xx_good4 (i := 38) rfl rfl, xx_good1 (i := 11) (by decide +kernel) (by decide +kernel), by decide +kernel, by decide +kernel, by decide +kernel⟩
theorem im_X7_ofMet : Cond.instanceMethod yX7_ofMet ∈ xx_T := xx_good4 (i := 36) (by decide +kernel) (by decide +kernel)
theorem se_X7_ofMet : Cond.selects yX7_ofMet.cls yX7_ofMet yX7_ofMet ∈ xx_T := xx_good4 (i := 37) (by decide +kernel) (by decide +kernel)
abbrev mX6_strengthOf : xx_M := (RX6, "strengthOf", cX6_strengthOf, 2, some .int, [])
set_option maxRecDepth 100000 in
theorem cal_X6_strengthOf : xx_Cal yX6_strengthOf mX6_strengthOf 1 := ⟨xx_good4 (i := 44) rfl rfl, xx_good1 (i := 1) (by decide +kernel) (by decide +kernel), by decide +kernel, by decide +kernel, by decide +kernel⟩
theorem im_X6_strengthOf : Cond.instanceMethod yX6_strengthOf ∈ xx_T := xx_good4 (i := 42) (by decide +kernel) (by decide +kernel)
theorem se_X6_strengthOf : Cond.selects yX6_strengthOf.cls yX6_strengthOf yX6_strengthOf ∈ xx_T := xx_good4 (i := 43) (by decide +kernel) (by decide +kernel)
abbrev mX6_redOf : xx_M := (RX6, "redOf", cX6_redOf, 2, some .int, [])
set_option maxRecDepth 100000 in
theorem cal_X6_redOf : xx_Cal yX6_redOf mX6_redOf 1 := ⟨xx_good4 (i := 59) rfl rfl, xx_good1 (i := 1) (by decide +kernel) (by decide +kernel), by decide +kernel, by decide +kernel, by decide +kernel⟩
theorem im_X6_redOf : Cond.instanceMethod yX6_redOf ∈ xx_T := xx_good4 (i := 57) (by decide +kernel) (by decide +kernel)
theorem se_X6_redOf : Cond.selects yX6_redOf.cls yX6_redOf yX6_redOf ∈ xx_T := xx_good4 (i := 58) (by decide +kernel) (by decide +kernel)
abbrev mX6_blueOf : xx_M := (RX6, "blueOf", cX6_blueOf, 2, some .int, [])
set_option maxRecDepth 100000 in
theorem cal_X6_blueOf : xx_Cal yX6_blueOf mX6_blueOf 1 := ⟨xx_good4 (i := 63) rfl rfl, xx_good1 (i := 1) (by decide +kernel) (by decide +kernel), by decide +kernel, by decide +kernel, by decide +kernel⟩
theorem im_X6_blueOf : Cond.instanceMethod yX6_blueOf ∈ xx_T := xx_good4 (i := 61) (by decide +kernel) (by decide +kernel)
theorem se_X6_blueOf : Cond.selects yX6_blueOf.cls yX6_blueOf yX6_blueOf ∈ xx_T := xx_good4 (i := 62) (by decide +kernel) (by decide +kernel)
abbrev mX6_outcomeOf : xx_M := (RX6, "outcomeOf", cX6_outcomeOf, 3, some .int, [])
set_option maxRecDepth 100000 in
theorem cal_X6_outcomeOf : xx_Cal yX6_outcomeOf mX6_outcomeOf 1 := ⟨xx_good4 (i := 68) rfl rfl, xx_good1 (i := 1) (by decide +kernel) (by decide +kernel), by decide +kernel, by decide +kernel, by decide +kernel⟩
theorem im_X6_outcomeOf : Cond.instanceMethod yX6_outcomeOf ∈ xx_T := xx_good4 (i := 66) (by decide +kernel) (by decide +kernel)
theorem se_X6_outcomeOf : Cond.selects yX6_outcomeOf.cls yX6_outcomeOf yX6_outcomeOf ∈ xx_T := xx_good4 (i := 67) (by decide +kernel) (by decide +kernel)
abbrev mX6_opponentOf : xx_M := (RX6, "opponentOf", cX6_opponentOf, 3, some .int, [])
set_option maxRecDepth 100000 in
theorem cal_X6_opponentOf : xx_Cal yX6_opponentOf mX6_opponentOf 1 := ⟨xx_good4 (i := 73) rfl rfl, xx_good1 (i := 1) (by decide +kernel) (by decide +kernel), by decide +kernel, by decide +kernel, by decide +kernel⟩
theorem im_X6_opponentOf : Cond.instanceMethod yX6_opponentOf ∈ xx_T := xx_good4 (i := 71) (by decide +kernel) (by decide +kernel)
theorem se_X6_opponentOf : Cond.selects yX6_opponentOf.cls yX6_opponentOf yX6_opponentOf ∈ xx_T := xx_good4 (i := 72) (by decide +kernel) (by decide +kernel)
abbrev mX0_rivalOf : xx_M := (RX0, "rivalOf", cX0_rivalOf, 3, some .int, [])
set_option maxRecDepth 100000 in
theorem cal_X0_rivalOf : xx_Cal yX0_rivalOf mX0_rivalOf 1 := ⟨xx_good4 (i := 77) rfl rfl, xx_good1 (i := 5) (by decide +kernel) (by decide +kernel), by decide +kernel, by decide +kernel, by decide +kernel⟩
theorem im_X0_rivalOf : Cond.instanceMethod yX0_rivalOf ∈ xx_T := xx_good4 (i := 75) (by decide +kernel) (by decide +kernel)
theorem se_X0_rivalOf : Cond.selects yX0_rivalOf.cls yX0_rivalOf yX0_rivalOf ∈ xx_T := xx_good4 (i := 76) (by decide +kernel) (by decide +kernel)
abbrev mX6_restingOne : xx_M := (RX6, "restingOne", cX6_restingOne, 1, some .int, [])
set_option maxRecDepth 100000 in
theorem cal_X6_restingOne : xx_Cal yX6_restingOne mX6_restingOne 0 := ⟨xx_good4 (i := 84) rfl rfl, xx_good1 (i := 1) (by decide +kernel) (by decide +kernel), by decide +kernel, by decide +kernel, by decide +kernel⟩
theorem im_X6_restingOne : Cond.instanceMethod yX6_restingOne ∈ xx_T := xx_good4 (i := 82) (by decide +kernel) (by decide +kernel)
theorem se_X6_restingOne : Cond.selects yX6_restingOne.cls yX6_restingOne yX6_restingOne ∈ xx_T := xx_good4 (i := 83) (by decide +kernel) (by decide +kernel)
abbrev mX6_meanPoints : xx_M := (RX6, "meanPoints", cX6_meanPoints, 3, some .double, [])
set_option maxRecDepth 100000 in
theorem cal_X6_meanPoints : xx_Cal yX6_meanPoints mX6_meanPoints 0 := ⟨xx_good4 (i := 89) rfl rfl, xx_good1 (i := 1) (by decide +kernel) (by decide +kernel), by decide +kernel, by decide +kernel, by decide +kernel⟩
theorem im_X6_meanPoints : Cond.instanceMethod yX6_meanPoints ∈ xx_T := xx_good4 (i := 87) (by decide +kernel) (by decide +kernel)
theorem se_X6_meanPoints : Cond.selects yX6_meanPoints.cls yX6_meanPoints yX6_meanPoints ∈ xx_T := xx_good4 (i := 88) (by decide +kernel) (by decide +kernel)
abbrev mL_below : xx_M := (RL, "below", cL_below, 2, some .int, [])
set_option maxRecDepth 100000 in
theorem cal_L_below : xx_Cal yL_below mL_below 2 := ⟨xx_good4 (i := 92) rfl rfl, xx_good1 (i := 0) (by decide +kernel) (by decide +kernel), by decide +kernel, by decide +kernel, by decide +kernel⟩
theorem sm_L_below : Cond.static yL_below ∈ xx_T := xx_good4 (i := 91) (by decide +kernel) (by decide +kernel)
abbrev mL_cell : xx_M := (RL, "cell", cL_cell, 2, some .int, [])
set_option maxRecDepth 100000 in
theorem cal_L_cell : xx_Cal yL_cell mL_cell 2 := ⟨xx_good4 (i := 96) rfl rfl, xx_good1 (i := 0) (by decide +kernel) (by decide +kernel), by decide +kernel, by decide +kernel, by decide +kernel⟩
theorem sm_L_cell : Cond.static yL_cell ∈ xx_T := xx_good4 (i := 95) (by decide +kernel) (by decide +kernel)
abbrev mL_taught : xx_M := (RL, "taught", cL_taught, 6, some .int, [])
set_option maxRecDepth 100000 in
theorem cal_L_taught : xx_Cal yL_taught mL_taught 2 := ⟨xx_good4 (i := 100) rfl rfl, xx_good1 (i := 0) (by decide +kernel) (by decide +kernel), by decide +kernel, by decide +kernel, by decide +kernel⟩
theorem sm_L_taught : Cond.static yL_taught ∈ xx_T := xx_good4 (i := 99) (by decide +kernel) (by decide +kernel)
abbrev mJ0_length_8abf5 : xx_M := (RJ0, "length", cJ0_length_8abf5, 1, some .int, [])
set_option maxRecDepth 100000 in
theorem cal_J0_length_8abf5 : xx_Cal yJ0_length_8abf5 mJ0_length_8abf5 0 := ⟨xx_good4 (i := 104) rfl rfl, xx_good1 (i := 9) (by decide +kernel) (by decide +kernel), by decide +kernel, by decide +kernel, by decide +kernel⟩
theorem im_J0_length_8abf5 : Cond.instanceMethod yJ0_length_8abf5 ∈ xx_T := xx_good4 (i := 102) (by decide +kernel) (by decide +kernel)
theorem se_J0_length_8abf5 : Cond.selects yJ0_length_8abf5.cls yJ0_length_8abf5 yJ0_length_8abf5 ∈ xx_T := xx_good4 (i := 103) (by decide +kernel) (by decide +kernel)
abbrev mJ0_coder_7d493 : xx_M := (RJ0, "coder", cJ0_coder_7d493, 1, some .byte, [])
set_option maxRecDepth 100000 in
theorem cal_J0_coder_7d493 : xx_Cal yJ0_coder_7d493 mJ0_coder_7d493 0 := ⟨xx_good4 (i := 108) rfl rfl, xx_good1 (i := 9) (by decide +kernel) (by decide +kernel), by decide +kernel, by decide +kernel, by decide +kernel⟩
theorem im_J0_coder_7d493 : Cond.instanceMethod yJ0_coder_7d493 ∈ xx_T := xx_good4 (i := 106) (by decide +kernel) (by decide +kernel)
theorem se_J0_coder_7d493 : Cond.selects yJ0_coder_7d493.cls yJ0_coder_7d493 yJ0_coder_7d493 ∈ xx_T := xx_good4 (i := 107) (by decide +kernel) (by decide +kernel)
abbrev mJ0_charAt_5068e : xx_M := (RJ0, "charAt", cJ0_charAt_5068e, 2, some .char, [])
set_option maxRecDepth 100000 in
theorem cal_J0_charAt_5068e : xx_Cal yJ0_charAt_5068e mJ0_charAt_5068e 1 := ⟨xx_good4 (i := 114) rfl rfl, xx_good1 (i := 9) (by decide +kernel) (by decide +kernel), by decide +kernel, by decide +kernel, by decide +kernel⟩
theorem im_J0_charAt_5068e : Cond.instanceMethod yJ0_charAt_5068e ∈ xx_T := xx_good4 (i := 112) (by decide +kernel) (by decide +kernel)
theorem se_J0_charAt_5068e : Cond.selects yJ0_charAt_5068e.cls yJ0_charAt_5068e yJ0_charAt_5068e ∈ xx_T := xx_good4 (i := 113) (by decide +kernel) (by decide +kernel)
abbrev mJ0_isLatin1_aae02 : xx_M := (RJ0, "isLatin1", cJ0_isLatin1_aae02, 1, some .boolean, [])
set_option maxRecDepth 100000 in
theorem cal_J0_isLatin1_aae02 : xx_Cal yJ0_isLatin1_aae02 mJ0_isLatin1_aae02 0 := ⟨xx_good4 (i := 118) rfl rfl, xx_good1 (i := 9) (by decide +kernel) (by decide +kernel), by decide +kernel, by decide +kernel, by decide +kernel⟩
theorem im_J0_isLatin1_aae02 : Cond.instanceMethod yJ0_isLatin1_aae02 ∈ xx_T := xx_good4 (i := 116) (by decide +kernel) (by decide +kernel)
theorem se_J0_isLatin1_aae02 : Cond.selects yJ0_isLatin1_aae02.cls yJ0_isLatin1_aae02 yJ0_isLatin1_aae02 ∈ xx_T := xx_good4 (i := 117) (by decide +kernel) (by decide +kernel)
abbrev mJ1_charAt_3b067 : xx_M := (RJ1, "charAt", cJ1_charAt_3b067, 2, some .char, [])
set_option maxRecDepth 100000 in
theorem cal_J1_charAt_3b067 : xx_Cal yJ1_charAt_3b067 mJ1_charAt_3b067 2 := ⟨xx_good4 (i := 121) rfl rfl, xx_good1 (i := 17) (by decide +kernel) (by decide +kernel), by decide +kernel, by decide +kernel, by decide +kernel⟩
theorem sm_J1_charAt_3b067 : Cond.static yJ1_charAt_3b067 ∈ xx_T := xx_good4 (i := 120) (by decide +kernel) (by decide +kernel)
abbrev mJ0_checkIndex_df160 : xx_M := (RJ0, "checkIndex", cJ0_checkIndex_df160, 2, none, [])
set_option maxRecDepth 100000 in
theorem cal_J0_checkIndex_df160 : xx_Cal yJ0_checkIndex_df160 mJ0_checkIndex_df160 2 := ⟨xx_good4 (i := 124) rfl rfl, xx_good1 (i := 9) (by decide +kernel) (by decide +kernel), by decide +kernel, by decide +kernel, by decide +kernel⟩
theorem sm_J0_checkIndex_df160 : Cond.static yJ0_checkIndex_df160 ∈ xx_T := xx_good4 (i := 123) (by decide +kernel) (by decide +kernel)
abbrev mJ3_checkIndex_8e157 : xx_M := (RJ3, "checkIndex", cJ3_checkIndex_8e157, 3, some .int, [])
set_option maxRecDepth 100000 in
theorem cal_J3_checkIndex_8e157 : xx_Cal yJ3_checkIndex_8e157 mJ3_checkIndex_8e157 3 := ⟨xx_good4 (i := 129) rfl rfl, xx_good1 (i := 16) (by decide +kernel) (by decide +kernel), by decide +kernel, by decide +kernel, by decide +kernel⟩
theorem sm_J3_checkIndex_8e157 : Cond.static yJ3_checkIndex_8e157 ∈ xx_T := xx_good4 (i := 128) (by decide +kernel) (by decide +kernel)
abbrev mJ2_charAt_3b067 : xx_M := (RJ2, "charAt", cJ2_charAt_3b067, 2, some .char, [])
set_option maxRecDepth 100000 in
theorem cal_J2_charAt_3b067 : xx_Cal yJ2_charAt_3b067 mJ2_charAt_3b067 2 := ⟨xx_good4 (i := 132) rfl rfl, xx_good1 (i := 10) (by decide +kernel) (by decide +kernel), by decide +kernel, by decide +kernel, by decide +kernel⟩
theorem sm_J2_charAt_3b067 : Cond.static yJ2_charAt_3b067 ∈ xx_T := xx_good4 (i := 131) (by decide +kernel) (by decide +kernel)
abbrev mJ2_checkIndex_2214a : xx_M := (RJ2, "checkIndex", cJ2_checkIndex_2214a, 2, none, [])
set_option maxRecDepth 100000 in
theorem cal_J2_checkIndex_2214a : xx_Cal yJ2_checkIndex_2214a mJ2_checkIndex_2214a 2 := ⟨xx_good4 (i := 135) rfl rfl, xx_good1 (i := 10) (by decide +kernel) (by decide +kernel), by decide +kernel, by decide +kernel, by decide +kernel⟩
theorem sm_J2_checkIndex_2214a : Cond.static yJ2_checkIndex_2214a ∈ xx_T := xx_good4 (i := 134) (by decide +kernel) (by decide +kernel)
abbrev mJ2_length_9d52b : xx_M := (RJ2, "length", cJ2_length_9d52b, 1, some .int, [])
set_option maxRecDepth 100000 in
theorem cal_J2_length_9d52b : xx_Cal yJ2_length_9d52b mJ2_length_9d52b 1 := ⟨xx_good4 (i := 138) rfl rfl, xx_good1 (i := 10) (by decide +kernel) (by decide +kernel), by decide +kernel, by decide +kernel, by decide +kernel⟩
theorem sm_J2_length_9d52b : Cond.static yJ2_length_9d52b ∈ xx_T := xx_good4 (i := 137) (by decide +kernel) (by decide +kernel)
abbrev mJ2_getChar_3b067 : xx_M := (RJ2, "getChar", cJ2_getChar_3b067, 2, some .char, [])
set_option maxRecDepth 100000 in
theorem cal_J2_getChar_3b067 : xx_Cal yJ2_getChar_3b067 mJ2_getChar_3b067 2 := ⟨xx_good4 (i := 142) rfl rfl, xx_good1 (i := 10) (by decide +kernel) (by decide +kernel), by decide +kernel, by decide +kernel, by decide +kernel⟩
theorem sm_J2_getChar_3b067 : Cond.static yJ2_getChar_3b067 ∈ xx_T := xx_good4 (i := 141) (by decide +kernel) (by decide +kernel)
abbrev mX6_feed : xx_M := (RX6, "feed", cX6_feed, 6, some .int, [])
set_option maxRecDepth 100000 in
theorem cal_X6_feed : xx_Cal yX6_feed mX6_feed 5 := ⟨xx_good4 (i := 152) rfl rfl, xx_good1 (i := 1) (by decide +kernel) (by decide +kernel), by decide +kernel, by decide +kernel, by decide +kernel⟩
theorem im_X6_feed : Cond.instanceMethod yX6_feed ∈ xx_T := xx_good4 (i := 150) (by decide +kernel) (by decide +kernel)
theorem se_X6_feed : Cond.selects yX6_feed.cls yX6_feed yX6_feed ∈ xx_T := xx_good4 (i := 151) (by decide +kernel) (by decide +kernel)
abbrev mX5_append : xx_M := (RX5, "append", cX5_append, 3, none, [])
set_option maxRecDepth 100000 in
theorem cal_X5_append : xx_Cal yX5_append mX5_append 1 := ⟨xx_good4 (i := 157) rfl rfl, xx_good1 (i := 3) (by decide +kernel) (by decide +kernel), by decide +kernel, by decide +kernel, by decide +kernel⟩
theorem im_X5_append : Cond.instanceMethod yX5_append ∈ xx_T := xx_good4 (i := 155) (by decide +kernel) (by decide +kernel)
theorem se_X5_append : Cond.selects yX5_append.cls yX5_append yX5_append ∈ xx_T := xx_good4 (i := 156) (by decide +kernel) (by decide +kernel)
abbrev mX6_trim : xx_M := (RX6, "trim", cX6_trim, 2, some .int, [])
set_option maxRecDepth 100000 in
theorem cal_X6_trim : xx_Cal yX6_trim mX6_trim 1 := ⟨xx_good4 (i := 161) rfl rfl, xx_good1 (i := 1) (by decide +kernel) (by decide +kernel), by decide +kernel, by decide +kernel, by decide +kernel⟩
theorem im_X6_trim : Cond.instanceMethod yX6_trim ∈ xx_T := xx_good4 (i := 159) (by decide +kernel) (by decide +kernel)
theorem se_X6_trim : Cond.selects yX6_trim.cls yX6_trim yX6_trim ∈ xx_T := xx_good4 (i := 160) (by decide +kernel) (by decide +kernel)
abbrev mX6_teach : xx_M := (RX6, "teach", cX6_teach, 2, some .int, [])
set_option maxRecDepth 100000 in
theorem cal_X6_teach : xx_Cal yX6_teach mX6_teach 0 := ⟨xx_good4 (i := 166) rfl rfl, xx_good1 (i := 1) (by decide +kernel) (by decide +kernel), by decide +kernel, by decide +kernel, by decide +kernel⟩
theorem im_X6_teach : Cond.instanceMethod yX6_teach ∈ xx_T := xx_good4 (i := 164) (by decide +kernel) (by decide +kernel)
theorem se_X6_teach : Cond.selects yX6_teach.cls yX6_teach yX6_teach ∈ xx_T := xx_good4 (i := 165) (by decide +kernel) (by decide +kernel)
abbrev mX2_read : xx_M := (RX2, "read", cX2_read, 3, some .int, [])
set_option maxRecDepth 100000 in
theorem cal_X2_read : xx_Cal yX2_read mX2_read 0 := ⟨xx_good4 (i := 170) rfl rfl, xx_good1 (i := 2) (by decide +kernel) (by decide +kernel), by decide +kernel, by decide +kernel, by decide +kernel⟩
theorem im_X2_read : Cond.instanceMethod yX2_read ∈ xx_T := xx_good4 (i := 168) (by decide +kernel) (by decide +kernel)
theorem se_X2_read : Cond.selects yX2_read.cls yX2_read yX2_read ∈ xx_T := xx_good4 (i := 169) (by decide +kernel) (by decide +kernel)
abbrev mX2_begin : xx_M := (RX2, "begin", cX2_begin, 1, none, [])
set_option maxRecDepth 100000 in
theorem cal_X2_begin : xx_Cal yX2_begin mX2_begin 0 := ⟨xx_good4 (i := 174) rfl rfl, xx_good1 (i := 2) (by decide +kernel) (by decide +kernel), by decide +kernel, by decide +kernel, by decide +kernel⟩
theorem im_X2_begin : Cond.instanceMethod yX2_begin ∈ xx_T := xx_good4 (i := 173) (by decide +kernel) (by decide +kernel)
theorem se_X2_begin : Cond.selects yX2_begin.cls yX2_begin yX2_begin ∈ xx_T := xx_good (i := 25) (by decide +kernel) (by decide +kernel)
abbrev mX5_scan : xx_M := (RX5, "scan", cX5_scan, 5, none, [])
set_option maxRecDepth 100000 in
theorem cal_X5_scan : xx_Cal yX5_scan mX5_scan 0 := ⟨xx_good4 (i := 178) rfl rfl, xx_good1 (i := 3) (by decide +kernel) (by decide +kernel), by decide +kernel, by decide +kernel, by decide +kernel⟩
theorem im_X5_scan : Cond.instanceMethod yX5_scan ∈ xx_T := xx_good4 (i := 176) (by decide +kernel) (by decide +kernel)
theorem se_X5_scan : Cond.selects yX5_scan.cls yX5_scan yX5_scan ∈ xx_T := xx_good4 (i := 177) (by decide +kernel) (by decide +kernel)
abbrev mX5_behindBlanks : xx_M := (RX5, "behindBlanks", cX5_behindBlanks, 3, some .int, [])
set_option maxRecDepth 100000 in
theorem cal_X5_behindBlanks : xx_Cal yX5_behindBlanks mX5_behindBlanks 1 := ⟨xx_good4 (i := 182) rfl rfl, xx_good1 (i := 3) (by decide +kernel) (by decide +kernel), by decide +kernel, by decide +kernel, by decide +kernel⟩
theorem im_X5_behindBlanks : Cond.instanceMethod yX5_behindBlanks ∈ xx_T := xx_good4 (i := 181) (by decide +kernel) (by decide +kernel)
theorem se_X5_behindBlanks : Cond.selects yX5_behindBlanks.cls yX5_behindBlanks yX5_behindBlanks ∈ xx_T := xx_good (i := 26) (by decide +kernel) (by decide +kernel)
abbrev mX5_byteAt : xx_M := (RX5, "byteAt", cX5_byteAt, 2, some .int, [])
set_option maxRecDepth 100000 in
theorem cal_X5_byteAt : xx_Cal yX5_byteAt mX5_byteAt 1 := ⟨xx_good4 (i := 186) rfl rfl, xx_good1 (i := 3) (by decide +kernel) (by decide +kernel), by decide +kernel, by decide +kernel, by decide +kernel⟩
theorem im_X5_byteAt : Cond.instanceMethod yX5_byteAt ∈ xx_T := xx_good4 (i := 185) (by decide +kernel) (by decide +kernel)
theorem se_X5_byteAt : Cond.selects yX5_byteAt.cls yX5_byteAt yX5_byteAt ∈ xx_T := xx_good (i := 27) (by decide +kernel) (by decide +kernel)
abbrev mX5_endOfToken : xx_M := (RX5, "endOfToken", cX5_endOfToken, 5, some .int, [])
set_option maxRecDepth 100000 in
theorem cal_X5_endOfToken : xx_Cal yX5_endOfToken mX5_endOfToken 1 := ⟨xx_good4 (i := 190) rfl rfl, xx_good1 (i := 3) (by decide +kernel) (by decide +kernel), by decide +kernel, by decide +kernel, by decide +kernel⟩
theorem im_X5_endOfToken : Cond.instanceMethod yX5_endOfToken ∈ xx_T := xx_good4 (i := 189) (by decide +kernel) (by decide +kernel)
theorem se_X5_endOfToken : Cond.selects yX5_endOfToken.cls yX5_endOfToken yX5_endOfToken ∈ xx_T := xx_good (i := 28) (by decide +kernel) (by decide +kernel)
abbrev mX5_isLetter : xx_M := (RX5, "isLetter", cX5_isLetter, 1, some .boolean, [])
set_option maxRecDepth 100000 in
theorem cal_X5_isLetter : xx_Cal yX5_isLetter mX5_isLetter 1 := ⟨xx_good4 (i := 193) rfl rfl, xx_good1 (i := 3) (by decide +kernel) (by decide +kernel), by decide +kernel, by decide +kernel, by decide +kernel⟩
theorem sm_X5_isLetter : Cond.static yX5_isLetter ∈ xx_T := xx_good4 (i := 192) (by decide +kernel) (by decide +kernel)
abbrev mX5_isDigit : xx_M := (RX5, "isDigit", cX5_isDigit, 1, some .boolean, [])
set_option maxRecDepth 100000 in
theorem cal_X5_isDigit : xx_Cal yX5_isDigit mX5_isDigit 1 := ⟨xx_good4 (i := 196) rfl rfl, xx_good1 (i := 3) (by decide +kernel) (by decide +kernel), by decide +kernel, by decide +kernel, by decide +kernel⟩
theorem sm_X5_isDigit : Cond.static yX5_isDigit ∈ xx_T := xx_good4 (i := 195) (by decide +kernel) (by decide +kernel)
abbrev mX5_endOfSymbol : xx_M := (RX5, "endOfSymbol", cX5_endOfSymbol, 4, some .int, [])
set_option maxRecDepth 100000 in
theorem cal_X5_endOfSymbol : xx_Cal yX5_endOfSymbol mX5_endOfSymbol 1 := ⟨xx_good4 (i := 200) rfl rfl, xx_good1 (i := 3) (by decide +kernel) (by decide +kernel), by decide +kernel, by decide +kernel, by decide +kernel⟩
theorem im_X5_endOfSymbol : Cond.instanceMethod yX5_endOfSymbol ∈ xx_T := xx_good4 (i := 199) (by decide +kernel) (by decide +kernel)
theorem se_X5_endOfSymbol : Cond.selects yX5_endOfSymbol.cls yX5_endOfSymbol yX5_endOfSymbol ∈ xx_T := xx_good (i := 29) (by decide +kernel) (by decide +kernel)
abbrev mX5_signOf : xx_M := (RX5, "signOf", cX5_signOf, 4, some (.object "BeltRounds$Sign"), [])
set_option maxRecDepth 100000 in
theorem cal_X5_signOf : xx_Cal yX5_signOf mX5_signOf 2 := ⟨xx_good4 (i := 205) rfl rfl, xx_good1 (i := 3) (by decide +kernel) (by decide +kernel), by decide +kernel, by decide +kernel, by decide +kernel⟩
theorem im_X5_signOf : Cond.instanceMethod yX5_signOf ∈ xx_T := xx_good4 (i := 204) (by decide +kernel) (by decide +kernel)
theorem se_X5_signOf : Cond.selects yX5_signOf.cls yX5_signOf yX5_signOf ∈ xx_T := xx_good (i := 30) (by decide +kernel) (by decide +kernel)
abbrev mX5_signWithText : xx_M := (RX5, "signWithText", cX5_signWithText, 6, some (.object "BeltRounds$Sign"), [])
set_option maxRecDepth 100000 in
theorem cal_X5_signWithText : xx_Cal yX5_signWithText mX5_signWithText 3 := ⟨xx_good4 (i := 215) rfl rfl, xx_good1 (i := 3) (by decide +kernel) (by decide +kernel), by decide +kernel, by decide +kernel, by decide +kernel⟩
theorem im_X5_signWithText : Cond.instanceMethod yX5_signWithText ∈ xx_T := xx_good4 (i := 214) (by decide +kernel) (by decide +kernel)
theorem se_X5_signWithText : Cond.selects yX5_signWithText.cls yX5_signWithText yX5_signWithText ∈ xx_T := xx_good (i := 31) (by decide +kernel) (by decide +kernel)
abbrev mX5_isSpelt : xx_M := (RX5, "isSpelt", cX5_isSpelt, 6, some .boolean, [])
set_option maxRecDepth 100000 in
theorem cal_X5_isSpelt : xx_Cal yX5_isSpelt mX5_isSpelt 3 := ⟨xx_good4 (i := 221) rfl rfl, xx_good1 (i := 3) (by decide +kernel) (by decide +kernel), by decide +kernel, by decide +kernel, by decide +kernel⟩
theorem im_X5_isSpelt : Cond.instanceMethod yX5_isSpelt ∈ xx_T := xx_good4 (i := 220) (by decide +kernel) (by decide +kernel)
theorem se_X5_isSpelt : Cond.selects yX5_isSpelt.cls yX5_isSpelt yX5_isSpelt ∈ xx_T := xx_good (i := 32) (by decide +kernel) (by decide +kernel)
abbrev mX3_clear : xx_M := (RX3, "clear", cX3_clear, 1, none, [])
set_option maxRecDepth 100000 in
theorem cal_X3_clear : xx_Cal yX3_clear mX3_clear 0 := ⟨xx_good4 (i := 229) rfl rfl, xx_good1 (i := 4) (by decide +kernel) (by decide +kernel), by decide +kernel, by decide +kernel, by decide +kernel⟩
theorem im_X3_clear : Cond.instanceMethod yX3_clear ∈ xx_T := xx_good4 (i := 227) (by decide +kernel) (by decide +kernel)
theorem se_X3_clear : Cond.selects yX3_clear.cls yX3_clear yX3_clear ∈ xx_T := xx_good4 (i := 228) (by decide +kernel) (by decide +kernel)
abbrev mX2_sees : xx_M := (RX2, "sees", cX2_sees, 2, some .boolean, [])
set_option maxRecDepth 100000 in
theorem cal_X2_sees : xx_Cal yX2_sees mX2_sees 1 := ⟨xx_good4 (i := 234) rfl rfl, xx_good1 (i := 2) (by decide +kernel) (by decide +kernel), by decide +kernel, by decide +kernel, by decide +kernel⟩
theorem im_X2_sees : Cond.instanceMethod yX2_sees ∈ xx_T := xx_good4 (i := 233) (by decide +kernel) (by decide +kernel)
theorem se_X2_sees : Cond.selects yX2_sees.cls yX2_sees yX2_sees ∈ xx_T := xx_good (i := 33) (by decide +kernel) (by decide +kernel)
abbrev mX2_takes : xx_M := (RX2, "takes", cX2_takes, 2, some .boolean, [])
set_option maxRecDepth 100000 in
theorem cal_X2_takes : xx_Cal yX2_takes mX2_takes 1 := ⟨xx_good5 (i := 0) rfl rfl, xx_good1 (i := 2) (by decide +kernel) (by decide +kernel), by decide +kernel, by decide +kernel, by decide +kernel⟩
theorem im_X2_takes : Cond.instanceMethod yX2_takes ∈ xx_T := xx_good4 (i := 239) (by decide +kernel) (by decide +kernel)
theorem se_X2_takes : Cond.selects yX2_takes.cls yX2_takes yX2_takes ∈ xx_T := xx_good (i := 34) (by decide +kernel) (by decide +kernel)
abbrev mX2_readWrestler : xx_M := (RX2, "readWrestler", cX2_readWrestler, 3, some .boolean, [])
set_option maxRecDepth 100000 in
theorem cal_X2_readWrestler : xx_Cal yX2_readWrestler mX2_readWrestler 0 := ⟨xx_good5 (i := 4) rfl rfl, xx_good1 (i := 2) (by decide +kernel) (by decide +kernel), by decide +kernel, by decide +kernel, by decide +kernel⟩
theorem im_X2_readWrestler : Cond.instanceMethod yX2_readWrestler ∈ xx_T := xx_good5 (i := 3) (by decide +kernel) (by decide +kernel)
theorem se_X2_readWrestler : Cond.selects yX2_readWrestler.cls yX2_readWrestler yX2_readWrestler ∈ xx_T := xx_good (i := 35) (by decide +kernel) (by decide +kernel)
abbrev mX2_checkName : xx_M := (RX2, "checkName", cX2_checkName, 2, none, [])
set_option maxRecDepth 100000 in
theorem cal_X2_checkName : xx_Cal yX2_checkName mX2_checkName 0 := ⟨xx_good5 (i := 9) rfl rfl, xx_good1 (i := 2) (by decide +kernel) (by decide +kernel), by decide +kernel, by decide +kernel, by decide +kernel⟩
theorem im_X2_checkName : Cond.instanceMethod yX2_checkName ∈ xx_T := xx_good5 (i := 8) (by decide +kernel) (by decide +kernel)
theorem se_X2_checkName : Cond.selects yX2_checkName.cls yX2_checkName yX2_checkName ∈ xx_T := xx_good (i := 36) (by decide +kernel) (by decide +kernel)
abbrev mX5_sameText : xx_M := (RX5, "sameText", cX5_sameText, 6, some .boolean, [])
set_option maxRecDepth 100000 in
theorem cal_X5_sameText : xx_Cal yX5_sameText mX5_sameText 2 := ⟨xx_good5 (i := 13) rfl rfl, xx_good1 (i := 3) (by decide +kernel) (by decide +kernel), by decide +kernel, by decide +kernel, by decide +kernel⟩
theorem im_X5_sameText : Cond.instanceMethod yX5_sameText ∈ xx_T := xx_good5 (i := 11) (by decide +kernel) (by decide +kernel)
theorem se_X5_sameText : Cond.selects yX5_sameText.cls yX5_sameText yX5_sameText ∈ xx_T := xx_good5 (i := 12) (by decide +kernel) (by decide +kernel)
abbrev mX5_hasToken : xx_M := (RX5, "hasToken", cX5_hasToken, 2, some .boolean, [])
set_option maxRecDepth 100000 in
theorem cal_X5_hasToken : xx_Cal yX5_hasToken mX5_hasToken 1 := ⟨xx_good5 (i := 17) rfl rfl, xx_good1 (i := 3) (by decide +kernel) (by decide +kernel), by decide +kernel, by decide +kernel, by decide +kernel⟩
theorem im_X5_hasToken : Cond.instanceMethod yX5_hasToken ∈ xx_T := xx_good5 (i := 16) (by decide +kernel) (by decide +kernel)
theorem se_X5_hasToken : Cond.selects yX5_hasToken.cls yX5_hasToken yX5_hasToken ∈ xx_T := xx_good (i := 37) (by decide +kernel) (by decide +kernel)
abbrev mX2_noteError : xx_M := (RX2, "noteError", cX2_noteError, 3, none, [])
set_option maxRecDepth 100000 in
theorem cal_X2_noteError : xx_Cal yX2_noteError mX2_noteError 2 := ⟨xx_good5 (i := 21) rfl rfl, xx_good1 (i := 2) (by decide +kernel) (by decide +kernel), by decide +kernel, by decide +kernel, by decide +kernel⟩
theorem im_X2_noteError : Cond.instanceMethod yX2_noteError ∈ xx_T := xx_good5 (i := 20) (by decide +kernel) (by decide +kernel)
theorem se_X2_noteError : Cond.selects yX2_noteError.cls yX2_noteError yX2_noteError ∈ xx_T := xx_good (i := 38) (by decide +kernel) (by decide +kernel)
abbrev mX5_start : xx_M := (RX5, "start", cX5_start, 2, some .int, [])
set_option maxRecDepth 100000 in
theorem cal_X5_start : xx_Cal yX5_start mX5_start 1 := ⟨xx_good5 (i := 25) rfl rfl, xx_good1 (i := 3) (by decide +kernel) (by decide +kernel), by decide +kernel, by decide +kernel, by decide +kernel⟩
theorem im_X5_start : Cond.instanceMethod yX5_start ∈ xx_T := xx_good5 (i := 23) (by decide +kernel) (by decide +kernel)
theorem se_X5_start : Cond.selects yX5_start.cls yX5_start yX5_start ∈ xx_T := xx_good5 (i := 24) (by decide +kernel) (by decide +kernel)
abbrev mX2_takeNumber : xx_M := (RX2, "takeNumber", cX2_takeNumber, 4, some .int, [])
set_option maxRecDepth 100000 in
theorem cal_X2_takeNumber : xx_Cal yX2_takeNumber mX2_takeNumber 2 := ⟨xx_good5 (i := 32) rfl rfl, xx_good1 (i := 2) (by decide +kernel) (by decide +kernel), by decide +kernel, by decide +kernel, by decide +kernel⟩
theorem im_X2_takeNumber : Cond.instanceMethod yX2_takeNumber ∈ xx_T := xx_good5 (i := 31) (by decide +kernel) (by decide +kernel)
theorem se_X2_takeNumber : Cond.selects yX2_takeNumber.cls yX2_takeNumber yX2_takeNumber ∈ xx_T := xx_good (i := 39) (by decide +kernel) (by decide +kernel)
abbrev mX5_number : xx_M := (RX5, "number", cX5_number, 4, some .int, [])
set_option maxRecDepth 100000 in
theorem cal_X5_number : xx_Cal yX5_number mX5_number 1 := ⟨xx_good5 (i := 36) rfl rfl, xx_good1 (i := 3) (by decide +kernel) (by decide +kernel), by decide +kernel, by decide +kernel, by decide +kernel⟩
theorem im_X5_number : Cond.instanceMethod yX5_number ∈ xx_T := xx_good5 (i := 34) (by decide +kernel) (by decide +kernel)
theorem se_X5_number : Cond.selects yX5_number.cls yX5_number yX5_number ∈ xx_T := xx_good5 (i := 35) (by decide +kernel) (by decide +kernel)
abbrev mX2_readPoints : xx_M := (RX2, "readPoints", cX2_readPoints, 2, some .boolean, [])
set_option maxRecDepth 100000 in
theorem cal_X2_readPoints : xx_Cal yX2_readPoints mX2_readPoints 0 := ⟨xx_good5 (i := 42) rfl rfl, xx_good1 (i := 2) (by decide +kernel) (by decide +kernel), by decide +kernel, by decide +kernel, by decide +kernel⟩
theorem im_X2_readPoints : Cond.instanceMethod yX2_readPoints ∈ xx_T := xx_good5 (i := 41) (by decide +kernel) (by decide +kernel)
theorem se_X2_readPoints : Cond.selects yX2_readPoints.cls yX2_readPoints yX2_readPoints ∈ xx_T := xx_good (i := 40) (by decide +kernel) (by decide +kernel)
abbrev mX2_readRule : xx_M := (RX2, "readRule", cX2_readRule, 2, some .boolean, [])
set_option maxRecDepth 100000 in
theorem cal_X2_readRule : xx_Cal yX2_readRule mX2_readRule 0 := ⟨xx_good5 (i := 48) rfl rfl, xx_good1 (i := 2) (by decide +kernel) (by decide +kernel), by decide +kernel, by decide +kernel, by decide +kernel⟩
theorem im_X2_readRule : Cond.instanceMethod yX2_readRule ∈ xx_T := xx_good5 (i := 47) (by decide +kernel) (by decide +kernel)
theorem se_X2_readRule : Cond.selects yX2_readRule.cls yX2_readRule yX2_readRule ∈ xx_T := xx_good (i := 41) (by decide +kernel) (by decide +kernel)
abbrev mX2_readOutcome : xx_M := (RX2, "readOutcome", cX2_readOutcome, 2, some .int, [])
set_option maxRecDepth 100000 in
theorem cal_X2_readOutcome : xx_Cal yX2_readOutcome mX2_readOutcome 0 := ⟨xx_good5 (i := 52) rfl rfl, xx_good1 (i := 2) (by decide +kernel) (by decide +kernel), by decide +kernel, by decide +kernel, by decide +kernel⟩
theorem im_X2_readOutcome : Cond.instanceMethod yX2_readOutcome ∈ xx_T := xx_good5 (i := 51) (by decide +kernel) (by decide +kernel)
theorem se_X2_readOutcome : Cond.selects yX2_readOutcome.cls yX2_readOutcome yX2_readOutcome ∈ xx_T := xx_good (i := 42) (by decide +kernel) (by decide +kernel)
abbrev mX2_readTest : xx_M := (RX2, "readTest", cX2_readTest, 3, some .boolean, [])
set_option maxRecDepth 100000 in
theorem cal_X2_readTest : xx_Cal yX2_readTest mX2_readTest 1 := ⟨xx_good5 (i := 66) rfl rfl, xx_good1 (i := 2) (by decide +kernel) (by decide +kernel), by decide +kernel, by decide +kernel, by decide +kernel⟩
theorem im_X2_readTest : Cond.instanceMethod yX2_readTest ∈ xx_T := xx_good5 (i := 65) (by decide +kernel) (by decide +kernel)
theorem se_X2_readTest : Cond.selects yX2_readTest.cls yX2_readTest yX2_readTest ∈ xx_T := xx_good (i := 43) (by decide +kernel) (by decide +kernel)
abbrev mX2_readBoth : xx_M := (RX2, "readBoth", cX2_readBoth, 3, some .boolean, [])
set_option maxRecDepth 100000 in
theorem cal_X2_readBoth : xx_Cal yX2_readBoth mX2_readBoth 1 := ⟨xx_good5 (i := 70) rfl rfl, xx_good1 (i := 2) (by decide +kernel) (by decide +kernel), by decide +kernel, by decide +kernel, by decide +kernel⟩
theorem im_X2_readBoth : Cond.instanceMethod yX2_readBoth ∈ xx_T := xx_good5 (i := 69) (by decide +kernel) (by decide +kernel)
theorem se_X2_readBoth : Cond.selects yX2_readBoth.cls yX2_readBoth yX2_readBoth ∈ xx_T := xx_good (i := 44) (by decide +kernel) (by decide +kernel)
abbrev mX2_readSingle : xx_M := (RX2, "readSingle", cX2_readSingle, 2, some .boolean, [])
set_option maxRecDepth 100000 in
theorem cal_X2_readSingle : xx_Cal yX2_readSingle mX2_readSingle 1 := ⟨xx_good5 (i := 74) rfl rfl, xx_good1 (i := 2) (by decide +kernel) (by decide +kernel), by decide +kernel, by decide +kernel, by decide +kernel⟩
theorem im_X2_readSingle : Cond.instanceMethod yX2_readSingle ∈ xx_T := xx_good5 (i := 73) (by decide +kernel) (by decide +kernel)
theorem se_X2_readSingle : Cond.selects yX2_readSingle.cls yX2_readSingle yX2_readSingle ∈ xx_T := xx_good (i := 45) (by decide +kernel) (by decide +kernel)
abbrev mX2_readNot : xx_M := (RX2, "readNot", cX2_readNot, 2, some .boolean, [])
set_option maxRecDepth 100000 in
theorem cal_X2_readNot : xx_Cal yX2_readNot mX2_readNot 1 := ⟨xx_good5 (i := 80) rfl rfl, xx_good1 (i := 2) (by decide +kernel) (by decide +kernel), by decide +kernel, by decide +kernel, by decide +kernel⟩
theorem im_X2_readNot : Cond.instanceMethod yX2_readNot ∈ xx_T := xx_good5 (i := 79) (by decide +kernel) (by decide +kernel)
theorem se_X2_readNot : Cond.selects yX2_readNot.cls yX2_readNot yX2_readNot ∈ xx_T := xx_good (i := 46) (by decide +kernel) (by decide +kernel)
abbrev mX2_takesDeeper : xx_M := (RX2, "takesDeeper", cX2_takesDeeper, 3, some .boolean, [])
set_option maxRecDepth 100000 in
theorem cal_X2_takesDeeper : xx_Cal yX2_takesDeeper mX2_takesDeeper 2 := ⟨xx_good5 (i := 84) rfl rfl, xx_good1 (i := 2) (by decide +kernel) (by decide +kernel), by decide +kernel, by decide +kernel, by decide +kernel⟩
theorem im_X2_takesDeeper : Cond.instanceMethod yX2_takesDeeper ∈ xx_T := xx_good5 (i := 83) (by decide +kernel) (by decide +kernel)
theorem se_X2_takesDeeper : Cond.selects yX2_takesDeeper.cls yX2_takesDeeper yX2_takesDeeper ∈ xx_T := xx_good (i := 47) (by decide +kernel) (by decide +kernel)
abbrev mX3_emit : xx_M := (RX3, "emit", cX3_emit, 2, none, [])
set_option maxRecDepth 100000 in
theorem cal_X3_emit : xx_Cal yX3_emit mX3_emit 1 := ⟨xx_good5 (i := 88) rfl rfl, xx_good1 (i := 4) (by decide +kernel) (by decide +kernel), by decide +kernel, by decide +kernel, by decide +kernel⟩
theorem im_X3_emit : Cond.instanceMethod yX3_emit ∈ xx_T := xx_good5 (i := 86) (by decide +kernel) (by decide +kernel)
theorem se_X3_emit : Cond.selects yX3_emit.cls yX3_emit yX3_emit ∈ xx_T := xx_good5 (i := 87) (by decide +kernel) (by decide +kernel)
abbrev mX3_emit_ : xx_M := (RX3, "emit", cX3_emit_, 3, none, [])
set_option maxRecDepth 100000 in
theorem cal_X3_emit_ : xx_Cal yX3_emit_ mX3_emit_ 2 := ⟨xx_good5 (i := 92) rfl rfl, xx_good1 (i := 4) (by decide +kernel) (by decide +kernel), by decide +kernel, by decide +kernel, by decide +kernel⟩
theorem im_X3_emit_ : Cond.instanceMethod yX3_emit_ ∈ xx_T := xx_good5 (i := 90) (by decide +kernel) (by decide +kernel)
theorem se_X3_emit_ : Cond.selects yX3_emit_.cls yX3_emit_ yX3_emit_ ∈ xx_T := xx_good5 (i := 91) (by decide +kernel) (by decide +kernel)
abbrev mX2_readComparison : xx_M := (RX2, "readComparison", cX2_readComparison, 3, some .boolean, [])
set_option maxRecDepth 100000 in
theorem cal_X2_readComparison : xx_Cal yX2_readComparison mX2_readComparison 1 := ⟨xx_good5 (i := 102) rfl rfl, xx_good1 (i := 2) (by decide +kernel) (by decide +kernel), by decide +kernel, by decide +kernel, by decide +kernel⟩
theorem im_X2_readComparison : Cond.instanceMethod yX2_readComparison ∈ xx_T := xx_good5 (i := 101) (by decide +kernel) (by decide +kernel)
theorem se_X2_readComparison : Cond.selects yX2_readComparison.cls yX2_readComparison yX2_readComparison ∈ xx_T := xx_good (i := 48) (by decide +kernel) (by decide +kernel)
abbrev mX2_readSum : xx_M := (RX2, "readSum", cX2_readSum, 4, some .boolean, [])
set_option maxRecDepth 100000 in
theorem cal_X2_readSum : xx_Cal yX2_readSum mX2_readSum 1 := ⟨xx_good5 (i := 106) rfl rfl, xx_good1 (i := 2) (by decide +kernel) (by decide +kernel), by decide +kernel, by decide +kernel, by decide +kernel⟩
theorem im_X2_readSum : Cond.instanceMethod yX2_readSum ∈ xx_T := xx_good5 (i := 105) (by decide +kernel) (by decide +kernel)
theorem se_X2_readSum : Cond.selects yX2_readSum.cls yX2_readSum yX2_readSum ∈ xx_T := xx_good (i := 49) (by decide +kernel) (by decide +kernel)
abbrev mX2_readProduct : xx_M := (RX2, "readProduct", cX2_readProduct, 4, some .boolean, [])
set_option maxRecDepth 100000 in
theorem cal_X2_readProduct : xx_Cal yX2_readProduct mX2_readProduct 1 := ⟨xx_good5 (i := 110) rfl rfl, xx_good1 (i := 2) (by decide +kernel) (by decide +kernel), by decide +kernel, by decide +kernel, by decide +kernel⟩
theorem im_X2_readProduct : Cond.instanceMethod yX2_readProduct ∈ xx_T := xx_good5 (i := 109) (by decide +kernel) (by decide +kernel)
theorem se_X2_readProduct : Cond.selects yX2_readProduct.cls yX2_readProduct yX2_readProduct ∈ xx_T := xx_good (i := 50) (by decide +kernel) (by decide +kernel)
abbrev mX2_readValue : xx_M := (RX2, "readValue", cX2_readValue, 3, some .boolean, [])
set_option maxRecDepth 100000 in
theorem cal_X2_readValue : xx_Cal yX2_readValue mX2_readValue 1 := ⟨xx_good5 (i := 114) rfl rfl, xx_good1 (i := 2) (by decide +kernel) (by decide +kernel), by decide +kernel, by decide +kernel, by decide +kernel⟩
theorem im_X2_readValue : Cond.instanceMethod yX2_readValue ∈ xx_T := xx_good5 (i := 113) (by decide +kernel) (by decide +kernel)
theorem se_X2_readValue : Cond.selects yX2_readValue.cls yX2_readValue yX2_readValue ∈ xx_T := xx_good (i := 51) (by decide +kernel) (by decide +kernel)
abbrev mX2_readNegative : xx_M := (RX2, "readNegative", cX2_readNegative, 2, some .boolean, [])
set_option maxRecDepth 100000 in
theorem cal_X2_readNegative : xx_Cal yX2_readNegative mX2_readNegative 1 := ⟨xx_good5 (i := 123) rfl rfl, xx_good1 (i := 2) (by decide +kernel) (by decide +kernel), by decide +kernel, by decide +kernel, by decide +kernel⟩
theorem im_X2_readNegative : Cond.instanceMethod yX2_readNegative ∈ xx_T := xx_good5 (i := 122) (by decide +kernel) (by decide +kernel)
theorem se_X2_readNegative : Cond.selects yX2_readNegative.cls yX2_readNegative yX2_readNegative ∈ xx_T := xx_good (i := 52) (by decide +kernel) (by decide +kernel)
abbrev mX2_readChoice : xx_M := (RX2, "readChoice", cX2_readChoice, 3, some .boolean, [])
set_option maxRecDepth 100000 in
theorem cal_X2_readChoice : xx_Cal yX2_readChoice mX2_readChoice 1 := ⟨xx_good5 (i := 135) rfl rfl, xx_good1 (i := 2) (by decide +kernel) (by decide +kernel), by decide +kernel, by decide +kernel, by decide +kernel⟩
theorem im_X2_readChoice : Cond.instanceMethod yX2_readChoice ∈ xx_T := xx_good5 (i := 134) (by decide +kernel) (by decide +kernel)
theorem se_X2_readChoice : Cond.selects yX2_readChoice.cls yX2_readChoice yX2_readChoice ∈ xx_T := xx_good (i := 53) (by decide +kernel) (by decide +kernel)
abbrev mX2_countSeen : xx_M := (RX2, "countSeen", cX2_countSeen, 1, some .int, [])
set_option maxRecDepth 100000 in
theorem cal_X2_countSeen : xx_Cal yX2_countSeen mX2_countSeen 0 := ⟨xx_good5 (i := 141) rfl rfl, xx_good1 (i := 2) (by decide +kernel) (by decide +kernel), by decide +kernel, by decide +kernel, by decide +kernel⟩
theorem im_X2_countSeen : Cond.instanceMethod yX2_countSeen ∈ xx_T := xx_good5 (i := 140) (by decide +kernel) (by decide +kernel)
theorem se_X2_countSeen : Cond.selects yX2_countSeen.cls yX2_countSeen yX2_countSeen ∈ xx_T := xx_good (i := 54) (by decide +kernel) (by decide +kernel)
abbrev mX2_readSide : xx_M := (RX2, "readSide", cX2_readSide, 2, some .boolean, [])
set_option maxRecDepth 100000 in
theorem cal_X2_readSide : xx_Cal yX2_readSide mX2_readSide 1 := ⟨xx_good5 (i := 153) rfl rfl, xx_good1 (i := 2) (by decide +kernel) (by decide +kernel), by decide +kernel, by decide +kernel, by decide +kernel⟩
theorem im_X2_readSide : Cond.instanceMethod yX2_readSide ∈ xx_T := xx_good5 (i := 152) (by decide +kernel) (by decide +kernel)
theorem se_X2_readSide : Cond.selects yX2_readSide.cls yX2_readSide yX2_readSide ∈ xx_T := xx_good (i := 55) (by decide +kernel) (by decide +kernel)
abbrev mX2_comparisonSeen : xx_M := (RX2, "comparisonSeen", cX2_comparisonSeen, 1, some .int, [])
set_option maxRecDepth 100000 in
theorem cal_X2_comparisonSeen : xx_Cal yX2_comparisonSeen mX2_comparisonSeen 0 := ⟨xx_good5 (i := 163) rfl rfl, xx_good1 (i := 2) (by decide +kernel) (by decide +kernel), by decide +kernel, by decide +kernel, by decide +kernel⟩
theorem im_X2_comparisonSeen : Cond.instanceMethod yX2_comparisonSeen ∈ xx_T := xx_good5 (i := 162) (by decide +kernel) (by decide +kernel)
theorem se_X2_comparisonSeen : Cond.selects yX2_comparisonSeen.cls yX2_comparisonSeen yX2_comparisonSeen ∈ xx_T := xx_good (i := 56) (by decide +kernel) (by decide +kernel)
abbrev mX3_endRule : xx_M := (RX3, "endRule", cX3_endRule, 2, none, [])
set_option maxRecDepth 100000 in
theorem cal_X3_endRule : xx_Cal yX3_endRule mX3_endRule 1 := ⟨xx_good5 (i := 181) rfl rfl, xx_good1 (i := 4) (by decide +kernel) (by decide +kernel), by decide +kernel, by decide +kernel, by decide +kernel⟩
theorem im_X3_endRule : Cond.instanceMethod yX3_endRule ∈ xx_T := xx_good5 (i := 179) (by decide +kernel) (by decide +kernel)
theorem se_X3_endRule : Cond.selects yX3_endRule.cls yX3_endRule yX3_endRule ∈ xx_T := xx_good5 (i := 180) (by decide +kernel) (by decide +kernel)
abbrev mX3_copyFrom : xx_M := (RX3, "copyFrom", cX3_copyFrom, 2, none, [])
set_option maxRecDepth 100000 in
theorem cal_X3_copyFrom : xx_Cal yX3_copyFrom mX3_copyFrom 1 := ⟨xx_good5 (i := 187) rfl rfl, xx_good1 (i := 4) (by decide +kernel) (by decide +kernel), by decide +kernel, by decide +kernel, by decide +kernel⟩
theorem im_X3_copyFrom : Cond.instanceMethod yX3_copyFrom ∈ xx_T := xx_good5 (i := 185) (by decide +kernel) (by decide +kernel)
theorem se_X3_copyFrom : Cond.selects yX3_copyFrom.cls yX3_copyFrom yX3_copyFrom ∈ xx_T := xx_good5 (i := 186) (by decide +kernel) (by decide +kernel)
abbrev mX0_begin : xx_M := (RX0, "begin", cX0_begin, 5, none, [])
set_option maxRecDepth 100000 in
theorem cal_X0_begin : xx_Cal yX0_begin mX0_begin 3 := ⟨xx_good5 (i := 192) rfl rfl, xx_good1 (i := 5) (by decide +kernel) (by decide +kernel), by decide +kernel, by decide +kernel, by decide +kernel⟩
theorem im_X0_begin : Cond.instanceMethod yX0_begin ∈ xx_T := xx_good5 (i := 190) (by decide +kernel) (by decide +kernel)
theorem se_X0_begin : Cond.selects yX0_begin.cls yX0_begin yX0_begin ∈ xx_T := xx_good5 (i := 191) (by decide +kernel) (by decide +kernel)
abbrev mL_told : xx_M := (RL, "told", cL_told, 11, some (.object "BeltRoundsLaw$Sim"), [])
set_option maxRecDepth 100000 in
theorem cal_L_told : xx_Cal yL_told mL_told 3 := ⟨xx_good5 (i := 197) rfl rfl, xx_good1 (i := 0) (by decide +kernel) (by decide +kernel), by decide +kernel, by decide +kernel, by decide +kernel⟩
theorem sm_L_told : Cond.static yL_told ∈ xx_T := xx_good5 (i := 196) (by decide +kernel) (by decide +kernel)
abbrev mX7_init : xx_M := (RX7, "<init>", cX7_init, 1, none, [])
set_option maxRecDepth 100000 in
theorem cal_X7_init : xx_Cal yX7_init mX7_init 0 := ⟨xx_good5 (i := 202) rfl rfl, xx_good1 (i := 11) (by decide +kernel) (by decide +kernel), by decide +kernel, by decide +kernel, by decide +kernel⟩
theorem im_X7_init : Cond.instanceMethod yX7_init ∈ xx_T := xx_good5 (i := 201) (by decide +kernel) (by decide +kernel)
abbrev mJ4_append_15ec4 : xx_M := (RJ4, "append", cJ4_append_15ec4, 2, some (.object "java/lang/StringBuilder"), [])
set_option maxRecDepth 100000 in
theorem cal_J4_append_15ec4 : xx_Cal yJ4_append_15ec4 mJ4_append_15ec4 1 := ⟨xx_good6 (i := 5) rfl rfl, xx_good1 (i := 8) (by decide +kernel) (by decide +kernel), by decide +kernel, by decide +kernel, by decide +kernel⟩
theorem im_J4_append_15ec4 : Cond.instanceMethod yJ4_append_15ec4 ∈ xx_T := xx_good6 (i := 3) (by decide +kernel) (by decide +kernel)
theorem se_J4_append_15ec4 : Cond.selects yJ4_append_15ec4.cls yJ4_append_15ec4 yJ4_append_15ec4 ∈ xx_T := xx_good6 (i := 4) (by decide +kernel) (by decide +kernel)
abbrev mJ5_append_cf1ce : xx_M := (RJ5, "append", cJ5_append_cf1ce, 3, some (.object "java/lang/AbstractStringBuilder"), [])
set_option maxRecDepth 100000 in
theorem cal_J5_append_cf1ce : xx_Cal yJ5_append_cf1ce mJ5_append_cf1ce 1 := ⟨xx_good6 (i := 9) rfl rfl, xx_good1 (i := 7) (by decide +kernel) (by decide +kernel), by decide +kernel, by decide +kernel, by decide +kernel⟩
theorem im_J5_append_cf1ce : Cond.instanceMethod yJ5_append_cf1ce ∈ xx_T := xx_good6 (i := 8) (by decide +kernel) (by decide +kernel)
abbrev mJ5_appendNull_278bc : xx_M := (RJ5, "appendNull", cJ5_appendNull_278bc, 3, some (.object "java/lang/AbstractStringBuilder"), [])
set_option maxRecDepth 100000 in
theorem cal_J5_appendNull_278bc : xx_Cal yJ5_appendNull_278bc mJ5_appendNull_278bc 0 := ⟨xx_good6 (i := 13) rfl rfl, xx_good1 (i := 7) (by decide +kernel) (by decide +kernel), by decide +kernel, by decide +kernel, by decide +kernel⟩
theorem im_J5_appendNull_278bc : Cond.instanceMethod yJ5_appendNull_278bc ∈ xx_T := xx_good6 (i := 12) (by decide +kernel) (by decide +kernel)
abbrev mJ5_ensureCapacityInternal_d00df : xx_M := (RJ5, "ensureCapacityInternal", cJ5_ensureCapacityInternal_d00df, 3, none, [])
set_option maxRecDepth 100000 in
theorem cal_J5_ensureCapacityInternal_d00df : xx_Cal yJ5_ensureCapacityInternal_d00df mJ5_ensureCapacityInternal_d00df 1 := ⟨xx_good6 (i := 17) rfl rfl, xx_good1 (i := 7) (by decide +kernel) (by decide +kernel), by decide +kernel, by decide +kernel, by decide +kernel⟩
theorem im_J5_ensureCapacityInternal_d00df : Cond.instanceMethod yJ5_ensureCapacityInternal_d00df ∈ xx_T := xx_good6 (i := 16) (by decide +kernel) (by decide +kernel)
abbrev mJ5_newCapacity_0f7a4 : xx_M := (RJ5, "newCapacity", cJ5_newCapacity_0f7a4, 6, some .int, [])
set_option maxRecDepth 100000 in
theorem cal_J5_newCapacity_0f7a4 : xx_Cal yJ5_newCapacity_0f7a4 mJ5_newCapacity_0f7a4 1 := ⟨xx_good6 (i := 21) rfl rfl, xx_good1 (i := 7) (by decide +kernel) (by decide +kernel), by decide +kernel, by decide +kernel, by decide +kernel⟩
theorem im_J5_newCapacity_0f7a4 : Cond.instanceMethod yJ5_newCapacity_0f7a4 ∈ xx_T := xx_good6 (i := 20) (by decide +kernel) (by decide +kernel)
abbrev mJ8_newLength_cabcc : xx_M := (RJ8, "newLength", cJ8_newLength_cabcc, 4, some .int, [])
set_option maxRecDepth 100000 in
theorem cal_J8_newLength_cabcc : xx_Cal yJ8_newLength_cabcc mJ8_newLength_cabcc 3 := ⟨xx_good6 (i := 24) rfl rfl, xx_good1 (i := 12) (by decide +kernel) (by decide +kernel), by decide +kernel, by decide +kernel, by decide +kernel⟩
theorem sm_J8_newLength_cabcc : Cond.static yJ8_newLength_cabcc ∈ xx_T := xx_good6 (i := 23) (by decide +kernel) (by decide +kernel)
abbrev mJ8_hugeLength_7cf53 : xx_M := (RJ8, "hugeLength", cJ8_hugeLength_7cf53, 3, some .int, [])
set_option maxRecDepth 100000 in
theorem cal_J8_hugeLength_7cf53 : xx_Cal yJ8_hugeLength_7cf53 mJ8_hugeLength_7cf53 2 := ⟨xx_good6 (i := 29) rfl rfl, xx_good1 (i := 12) (by decide +kernel) (by decide +kernel), by decide +kernel, by decide +kernel, by decide +kernel⟩
theorem sm_J8_hugeLength_7cf53 : Cond.static yJ8_hugeLength_7cf53 ∈ xx_T := xx_good6 (i := 28) (by decide +kernel) (by decide +kernel)
abbrev mJ7_copyOf_9075b : xx_M := (RJ7, "copyOf", cJ7_copyOf_9075b, 3, some (.array .byte), [])
set_option maxRecDepth 100000 in
theorem cal_J7_copyOf_9075b : xx_Cal yJ7_copyOf_9075b mJ7_copyOf_9075b 2 := ⟨xx_good6 (i := 33) rfl rfl, xx_good1 (i := 14) (by decide +kernel) (by decide +kernel), by decide +kernel, by decide +kernel, by decide +kernel⟩
theorem sm_J7_copyOf_9075b : Cond.static yJ7_copyOf_9075b ∈ xx_T := xx_good6 (i := 32) (by decide +kernel) (by decide +kernel)
abbrev mJ5_isLatin1_aae02 : xx_M := (RJ5, "isLatin1", cJ5_isLatin1_aae02, 1, some .boolean, [])
set_option maxRecDepth 100000 in
theorem cal_J5_isLatin1_aae02 : xx_Cal yJ5_isLatin1_aae02 mJ5_isLatin1_aae02 0 := ⟨xx_good6 (i := 47) rfl rfl, xx_good1 (i := 7) (by decide +kernel) (by decide +kernel), by decide +kernel, by decide +kernel, by decide +kernel⟩
theorem im_J5_isLatin1_aae02 : Cond.instanceMethod yJ5_isLatin1_aae02 ∈ xx_T := xx_good6 (i := 44) (by decide +kernel) (by decide +kernel)
abbrev mJ2_putCharsAt_cd4e5 : xx_M := (RJ2, "putCharsAt", cJ2_putCharsAt_cd4e5, 7, some .int, [])
set_option maxRecDepth 100000 in
theorem cal_J2_putCharsAt_cd4e5 : xx_Cal yJ2_putCharsAt_cd4e5 mJ2_putCharsAt_cd4e5 6 := ⟨xx_good6 (i := 51) rfl rfl, xx_good1 (i := 10) (by decide +kernel) (by decide +kernel), by decide +kernel, by decide +kernel, by decide +kernel⟩
theorem sm_J2_putCharsAt_cd4e5 : Cond.static yJ2_putCharsAt_cd4e5 ∈ xx_T := xx_good6 (i := 50) (by decide +kernel) (by decide +kernel)
abbrev mJ2_checkBoundsBeginEnd_d044e : xx_M := (RJ2, "checkBoundsBeginEnd", cJ2_checkBoundsBeginEnd_d044e, 3, none, [])
set_option maxRecDepth 100000 in
theorem cal_J2_checkBoundsBeginEnd_d044e : xx_Cal yJ2_checkBoundsBeginEnd_d044e mJ2_checkBoundsBeginEnd_d044e 3 := ⟨xx_good6 (i := 54) rfl rfl, xx_good1 (i := 10) (by decide +kernel) (by decide +kernel), by decide +kernel, by decide +kernel, by decide +kernel⟩
theorem sm_J2_checkBoundsBeginEnd_d044e : Cond.static yJ2_checkBoundsBeginEnd_d044e ∈ xx_T := xx_good6 (i := 53) (by decide +kernel) (by decide +kernel)
abbrev mJ0_checkBoundsBeginEnd_23922 : xx_M := (RJ0, "checkBoundsBeginEnd", cJ0_checkBoundsBeginEnd_23922, 3, none, [])
set_option maxRecDepth 100000 in
theorem cal_J0_checkBoundsBeginEnd_23922 : xx_Cal yJ0_checkBoundsBeginEnd_23922 mJ0_checkBoundsBeginEnd_23922 3 := ⟨xx_good6 (i := 57) rfl rfl, xx_good1 (i := 9) (by decide +kernel) (by decide +kernel), by decide +kernel, by decide +kernel, by decide +kernel⟩
theorem sm_J0_checkBoundsBeginEnd_23922 : Cond.static yJ0_checkBoundsBeginEnd_23922 ∈ xx_T := xx_good6 (i := 56) (by decide +kernel) (by decide +kernel)
abbrev mJ3_checkFromToIndex_8c36e : xx_M := (RJ3, "checkFromToIndex", cJ3_checkFromToIndex_8c36e, 4, some .int, [])
set_option maxRecDepth 100000 in
theorem cal_J3_checkFromToIndex_8c36e : xx_Cal yJ3_checkFromToIndex_8c36e mJ3_checkFromToIndex_8c36e 4 := ⟨xx_good6 (i := 60) rfl rfl, xx_good1 (i := 16) (by decide +kernel) (by decide +kernel), by decide +kernel, by decide +kernel, by decide +kernel⟩
theorem sm_J3_checkFromToIndex_8c36e : Cond.static yJ3_checkFromToIndex_8c36e ∈ xx_T := xx_good6 (i := 59) (by decide +kernel) (by decide +kernel)
abbrev mJ2_putChar_b72d1 : xx_M := (RJ2, "putChar", cJ2_putChar_b72d1, 3, none, [])
set_option maxRecDepth 100000 in
theorem cal_J2_putChar_b72d1 : xx_Cal yJ2_putChar_b72d1 mJ2_putChar_b72d1 3 := ⟨xx_good6 (i := 63) rfl rfl, xx_good1 (i := 10) (by decide +kernel) (by decide +kernel), by decide +kernel, by decide +kernel, by decide +kernel⟩
theorem sm_J2_putChar_b72d1 : Cond.static yJ2_putChar_b72d1 ∈ xx_T := xx_good6 (i := 62) (by decide +kernel) (by decide +kernel)
abbrev mJ5_putStringAt_47b60 : xx_M := (RJ5, "putStringAt", cJ5_putStringAt_47b60, 3, none, [])
set_option maxRecDepth 100000 in
theorem cal_J5_putStringAt_47b60 : xx_Cal yJ5_putStringAt_47b60 mJ5_putStringAt_47b60 2 := ⟨xx_good6 (i := 68) rfl rfl, xx_good1 (i := 7) (by decide +kernel) (by decide +kernel), by decide +kernel, by decide +kernel, by decide +kernel⟩
theorem im_J5_putStringAt_47b60 : Cond.instanceMethod yJ5_putStringAt_47b60 ∈ xx_T := xx_good6 (i := 67) (by decide +kernel) (by decide +kernel)
abbrev mJ5_inflateIfNeededFor_a7421 : xx_M := (RJ5, "inflateIfNeededFor", cJ5_inflateIfNeededFor_a7421, 2, none, [])
set_option maxRecDepth 100000 in
theorem cal_J5_inflateIfNeededFor_a7421 : xx_Cal yJ5_inflateIfNeededFor_a7421 mJ5_inflateIfNeededFor_a7421 1 := ⟨xx_good6 (i := 72) rfl rfl, xx_good1 (i := 7) (by decide +kernel) (by decide +kernel), by decide +kernel, by decide +kernel, by decide +kernel⟩
theorem im_J5_inflateIfNeededFor_a7421 : Cond.instanceMethod yJ5_inflateIfNeededFor_a7421 ∈ xx_T := xx_good6 (i := 71) (by decide +kernel) (by decide +kernel)
abbrev mJ5_inflate_da8c8 : xx_M := (RJ5, "inflate", cJ5_inflate_da8c8, 2, none, [])
set_option maxRecDepth 100000 in
theorem cal_J5_inflate_da8c8 : xx_Cal yJ5_inflate_da8c8 mJ5_inflate_da8c8 0 := ⟨xx_good6 (i := 77) rfl rfl, xx_good1 (i := 7) (by decide +kernel) (by decide +kernel), by decide +kernel, by decide +kernel, by decide +kernel⟩
theorem im_J5_inflate_da8c8 : Cond.instanceMethod yJ5_inflate_da8c8 ∈ xx_T := xx_good6 (i := 76) (by decide +kernel) (by decide +kernel)
abbrev mJ2_newBytesFor_77867 : xx_M := (RJ2, "newBytesFor", cJ2_newBytesFor_77867, 1, some (.array .byte), [])
set_option maxRecDepth 100000 in
theorem cal_J2_newBytesFor_77867 : xx_Cal yJ2_newBytesFor_77867 mJ2_newBytesFor_77867 1 := ⟨xx_good6 (i := 80) rfl rfl, xx_good1 (i := 10) (by decide +kernel) (by decide +kernel), by decide +kernel, by decide +kernel, by decide +kernel⟩
theorem sm_J2_newBytesFor_77867 : Cond.static yJ2_newBytesFor_77867 ∈ xx_T := xx_good6 (i := 79) (by decide +kernel) (by decide +kernel)
abbrev mJ2_newBytesLength_0f7a4 : xx_M := (RJ2, "newBytesLength", cJ2_newBytesLength_0f7a4, 1, some .int, [])
set_option maxRecDepth 100000 in
theorem cal_J2_newBytesLength_0f7a4 : xx_Cal yJ2_newBytesLength_0f7a4 mJ2_newBytesLength_0f7a4 1 := ⟨xx_good6 (i := 83) rfl rfl, xx_good1 (i := 10) (by decide +kernel) (by decide +kernel), by decide +kernel, by decide +kernel, by decide +kernel⟩
theorem sm_J2_newBytesLength_0f7a4 : Cond.static yJ2_newBytesLength_0f7a4 ∈ xx_T := xx_good6 (i := 82) (by decide +kernel) (by decide +kernel)
abbrev mJ1_inflate_0e8fd : xx_M := (RJ1, "inflate", cJ1_inflate_0e8fd, 5, none, [])
set_option maxRecDepth 100000 in
theorem cal_J1_inflate_0e8fd : xx_Cal yJ1_inflate_0e8fd mJ1_inflate_0e8fd 5 := ⟨xx_good6 (i := 87) rfl rfl, xx_good1 (i := 17) (by decide +kernel) (by decide +kernel), by decide +kernel, by decide +kernel, by decide +kernel⟩
theorem sm_J1_inflate_0e8fd : Cond.static yJ1_inflate_0e8fd ∈ xx_T := xx_good6 (i := 86) (by decide +kernel) (by decide +kernel)
abbrev mJ2_inflate_0e8fd : xx_M := (RJ2, "inflate", cJ2_inflate_0e8fd, 6, none, [])
set_option maxRecDepth 100000 in
theorem cal_J2_inflate_0e8fd : xx_Cal yJ2_inflate_0e8fd mJ2_inflate_0e8fd 5 := ⟨xx_good6 (i := 90) rfl rfl, xx_good1 (i := 10) (by decide +kernel) (by decide +kernel), by decide +kernel, by decide +kernel, by decide +kernel⟩
theorem sm_J2_inflate_0e8fd : Cond.static yJ2_inflate_0e8fd ∈ xx_T := xx_good6 (i := 89) (by decide +kernel) (by decide +kernel)
abbrev mJ2_checkBoundsOffCount_d044e : xx_M := (RJ2, "checkBoundsOffCount", cJ2_checkBoundsOffCount_d044e, 3, none, [])
set_option maxRecDepth 100000 in
theorem cal_J2_checkBoundsOffCount_d044e : xx_Cal yJ2_checkBoundsOffCount_d044e mJ2_checkBoundsOffCount_d044e 3 := ⟨xx_good6 (i := 93) rfl rfl, xx_good1 (i := 10) (by decide +kernel) (by decide +kernel), by decide +kernel, by decide +kernel, by decide +kernel⟩
theorem sm_J2_checkBoundsOffCount_d044e : Cond.static yJ2_checkBoundsOffCount_d044e ∈ xx_T := xx_good6 (i := 92) (by decide +kernel) (by decide +kernel)
abbrev mJ0_checkBoundsOffCount_cabcc : xx_M := (RJ0, "checkBoundsOffCount", cJ0_checkBoundsOffCount_cabcc, 3, some .int, [])
set_option maxRecDepth 100000 in
theorem cal_J0_checkBoundsOffCount_cabcc : xx_Cal yJ0_checkBoundsOffCount_cabcc mJ0_checkBoundsOffCount_cabcc 3 := ⟨xx_good6 (i := 96) rfl rfl, xx_good1 (i := 9) (by decide +kernel) (by decide +kernel), by decide +kernel, by decide +kernel, by decide +kernel⟩
theorem sm_J0_checkBoundsOffCount_cabcc : Cond.static yJ0_checkBoundsOffCount_cabcc ∈ xx_T := xx_good6 (i := 95) (by decide +kernel) (by decide +kernel)
abbrev mJ3_checkFromIndexSize_8c36e : xx_M := (RJ3, "checkFromIndexSize", cJ3_checkFromIndexSize_8c36e, 4, some .int, [])
set_option maxRecDepth 100000 in
theorem cal_J3_checkFromIndexSize_8c36e : xx_Cal yJ3_checkFromIndexSize_8c36e mJ3_checkFromIndexSize_8c36e 4 := ⟨xx_good6 (i := 99) rfl rfl, xx_good1 (i := 16) (by decide +kernel) (by decide +kernel), by decide +kernel, by decide +kernel, by decide +kernel⟩
theorem sm_J3_checkFromIndexSize_8c36e : Cond.static yJ3_checkFromIndexSize_8c36e ∈ xx_T := xx_good6 (i := 98) (by decide +kernel) (by decide +kernel)
abbrev mJ0_getBytes_840e7 : xx_M := (RJ0, "getBytes", cJ0_getBytes_840e7, 4, none, [])
set_option maxRecDepth 100000 in
theorem cal_J0_getBytes_840e7 : xx_Cal yJ0_getBytes_840e7 mJ0_getBytes_840e7 3 := ⟨xx_good6 (i := 103) rfl rfl, xx_good1 (i := 9) (by decide +kernel) (by decide +kernel), by decide +kernel, by decide +kernel, by decide +kernel⟩
theorem im_J0_getBytes_840e7 : Cond.instanceMethod yJ0_getBytes_840e7 ∈ xx_T := xx_good6 (i := 101) (by decide +kernel) (by decide +kernel)
theorem se_J0_getBytes_840e7 : Cond.selects yJ0_getBytes_840e7.cls yJ0_getBytes_840e7 yJ0_getBytes_840e7 ∈ xx_T := xx_good6 (i := 102) (by decide +kernel) (by decide +kernel)
abbrev mJ4_append_bf812 : xx_M := (RJ4, "append", cJ4_append_bf812, 2, some (.object "java/lang/StringBuilder"), [])
set_option maxRecDepth 100000 in
theorem cal_J4_append_bf812 : xx_Cal yJ4_append_bf812 mJ4_append_bf812 1 := ⟨xx_good6 (i := 110) rfl rfl, xx_good1 (i := 8) (by decide +kernel) (by decide +kernel), by decide +kernel, by decide +kernel, by decide +kernel⟩
theorem im_J4_append_bf812 : Cond.instanceMethod yJ4_append_bf812 ∈ xx_T := xx_good6 (i := 108) (by decide +kernel) (by decide +kernel)
theorem se_J4_append_bf812 : Cond.selects yJ4_append_bf812.cls yJ4_append_bf812 yJ4_append_bf812 ∈ xx_T := xx_good6 (i := 109) (by decide +kernel) (by decide +kernel)
abbrev mJ5_append_c97b9 : xx_M := (RJ5, "append", cJ5_append_c97b9, 4, some (.object "java/lang/AbstractStringBuilder"), [])
set_option maxRecDepth 100000 in
theorem cal_J5_append_c97b9 : xx_Cal yJ5_append_c97b9 mJ5_append_c97b9 1 := ⟨xx_good6 (i := 113) rfl rfl, xx_good1 (i := 7) (by decide +kernel) (by decide +kernel), by decide +kernel, by decide +kernel, by decide +kernel⟩
theorem im_J5_append_c97b9 : Cond.instanceMethod yJ5_append_c97b9 ∈ xx_T := xx_good6 (i := 112) (by decide +kernel) (by decide +kernel)
abbrev mJ6_stringSize_0f7a4 : xx_M := (RJ6, "stringSize", cJ6_stringSize_0f7a4, 4, some .int, [])
set_option maxRecDepth 100000 in
theorem cal_J6_stringSize_0f7a4 : xx_Cal yJ6_stringSize_0f7a4 mJ6_stringSize_0f7a4 1 := ⟨xx_good6 (i := 116) rfl rfl, xx_good1 (i := 19) (by decide +kernel) (by decide +kernel), by decide +kernel, by decide +kernel, by decide +kernel⟩
theorem sm_J6_stringSize_0f7a4 : Cond.static yJ6_stringSize_0f7a4 ∈ xx_T := xx_good6 (i := 115) (by decide +kernel) (by decide +kernel)
abbrev mJ6_getChars_ba4f3 : xx_M := (RJ6, "getChars", cJ6_getChars_ba4f3, 7, some .int, [])
set_option maxRecDepth 100000 in
theorem cal_J6_getChars_ba4f3 : xx_Cal yJ6_getChars_ba4f3 mJ6_getChars_ba4f3 3 := ⟨xx_good6 (i := 119) rfl rfl, xx_good1 (i := 19) (by decide +kernel) (by decide +kernel), by decide +kernel, by decide +kernel, by decide +kernel⟩
theorem sm_J6_getChars_ba4f3 : Cond.static yJ6_getChars_ba4f3 ∈ xx_T := xx_good6 (i := 118) (by decide +kernel) (by decide +kernel)
abbrev mJ2_getChars_46870 : xx_M := (RJ2, "getChars", cJ2_getChars_46870, 5, some .int, [])
set_option maxRecDepth 100000 in
theorem cal_J2_getChars_46870 : xx_Cal yJ2_getChars_46870 mJ2_getChars_46870 4 := ⟨xx_good6 (i := 126) rfl rfl, xx_good1 (i := 10) (by decide +kernel) (by decide +kernel), by decide +kernel, by decide +kernel, by decide +kernel⟩
theorem sm_J2_getChars_46870 : Cond.static yJ2_getChars_46870 ∈ xx_T := xx_good6 (i := 125) (by decide +kernel) (by decide +kernel)
abbrev mJ2_getChars_ba4f3 : xx_M := (RJ2, "getChars", cJ2_getChars_ba4f3, 7, some .int, [])
set_option maxRecDepth 100000 in
theorem cal_J2_getChars_ba4f3 : xx_Cal yJ2_getChars_ba4f3 mJ2_getChars_ba4f3 3 := ⟨xx_good6 (i := 129) rfl rfl, xx_good1 (i := 10) (by decide +kernel) (by decide +kernel), by decide +kernel, by decide +kernel, by decide +kernel⟩
theorem sm_J2_getChars_ba4f3 : Cond.static yJ2_getChars_ba4f3 ∈ xx_T := xx_good6 (i := 128) (by decide +kernel) (by decide +kernel)
abbrev mL_test : xx_M := (RL, "test", cL_test, 4, some (.object "BeltRoundsLaw$Tree"), [])
set_option maxRecDepth 100000 in
theorem cal_L_test : xx_Cal yL_test mL_test 2 := ⟨xx_good6 (i := 137) rfl rfl, xx_good1 (i := 0) (by decide +kernel) (by decide +kernel), by decide +kernel, by decide +kernel, by decide +kernel⟩
theorem sm_L_test : Cond.static yL_test ∈ xx_T := xx_good6 (i := 136) (by decide +kernel) (by decide +kernel)
abbrev mX8_init : xx_M := (RX8, "<init>", cX8_init, 1, none, [])
set_option maxRecDepth 100000 in
theorem cal_X8_init : xx_Cal yX8_init mX8_init 0 := ⟨xx_good6 (i := 141) rfl rfl, xx_good1 (i := 20) (by decide +kernel) (by decide +kernel), by decide +kernel, by decide +kernel, by decide +kernel⟩
theorem im_X8_init : Cond.instanceMethod yX8_init ∈ xx_T := xx_good6 (i := 140) (by decide +kernel) (by decide +kernel)
abbrev mL_sum : xx_M := (RL, "sum", cL_sum, 4, some (.object "BeltRoundsLaw$Tree"), [])
set_option maxRecDepth 100000 in
theorem cal_L_sum : xx_Cal yL_sum mL_sum 2 := ⟨xx_good6 (i := 162) rfl rfl, xx_good1 (i := 0) (by decide +kernel) (by decide +kernel), by decide +kernel, by decide +kernel, by decide +kernel⟩
theorem sm_L_sum : Cond.static yL_sum ∈ xx_T := xx_good6 (i := 161) (by decide +kernel) (by decide +kernel)
abbrev mX7_with_ : xx_M := (RX7, "with", cX7_with_, 4, some (.array .int), [])
set_option maxRecDepth 100000 in
theorem cal_X7_with_ : xx_Cal yX7_with_ mX7_with_ 2 := ⟨xx_good6 (i := 166) rfl rfl, xx_good1 (i := 11) (by decide +kernel) (by decide +kernel), by decide +kernel, by decide +kernel, by decide +kernel⟩
theorem sm_X7_with_ : Cond.static yX7_with_ ∈ xx_T := xx_good6 (i := 165) (by decide +kernel) (by decide +kernel)
abbrev mJ4_init_da8c8 : xx_M := (RJ4, "<init>", cJ4_init_da8c8, 1, none, [])
set_option maxRecDepth 100000 in
theorem cal_J4_init_da8c8 : xx_Cal yJ4_init_da8c8 mJ4_init_da8c8 0 := ⟨xx_good6 (i := 176) rfl rfl, xx_good1 (i := 8) (by decide +kernel) (by decide +kernel), by decide +kernel, by decide +kernel, by decide +kernel⟩
theorem im_J4_init_da8c8 : Cond.instanceMethod yJ4_init_da8c8 ∈ xx_T := xx_good6 (i := 175) (by decide +kernel) (by decide +kernel)
abbrev mJ5_init_d00df : xx_M := (RJ5, "<init>", cJ5_init_d00df, 2, none, [])
set_option maxRecDepth 100000 in
theorem cal_J5_init_d00df : xx_Cal yJ5_init_d00df mJ5_init_d00df 1 := ⟨xx_good6 (i := 179) rfl rfl, xx_good1 (i := 7) (by decide +kernel) (by decide +kernel), by decide +kernel, by decide +kernel, by decide +kernel⟩
theorem im_J5_init_d00df : Cond.instanceMethod yJ5_init_d00df ∈ xx_T := xx_good6 (i := 178) (by decide +kernel) (by decide +kernel)
abbrev mX8_text : xx_M := (RX8, "text", cX8_text, 4, some (.object "java/lang/String"), [])
set_option maxRecDepth 100000 in
theorem cal_X8_text : xx_Cal yX8_text mX8_text 0 := ⟨xx_good6 (i := 197) rfl rfl, xx_good1 (i := 20) (by decide +kernel) (by decide +kernel), by decide +kernel, by decide +kernel, by decide +kernel⟩
theorem im_X8_text : Cond.instanceMethod yX8_text ∈ xx_T := xx_good6 (i := 195) (by decide +kernel) (by decide +kernel)
theorem se_X8_text : Cond.selects yX8_text.cls yX8_text yX8_text ∈ xx_T := xx_good6 (i := 196) (by decide +kernel) (by decide +kernel)
abbrev mJ4_toString_0e30d : xx_M := (RJ4, "toString", cJ4_toString_0e30d, 1, some (.object "java/lang/String"), [])
set_option maxRecDepth 100000 in
theorem cal_J4_toString_0e30d : xx_Cal yJ4_toString_0e30d mJ4_toString_0e30d 0 := ⟨xx_good6 (i := 226) rfl rfl, xx_good1 (i := 8) (by decide +kernel) (by decide +kernel), by decide +kernel, by decide +kernel, by decide +kernel⟩
theorem im_J4_toString_0e30d : Cond.instanceMethod yJ4_toString_0e30d ∈ xx_T := xx_good6 (i := 224) (by decide +kernel) (by decide +kernel)
theorem se_J4_toString_0e30d : Cond.selects yJ4_toString_0e30d.cls yJ4_toString_0e30d yJ4_toString_0e30d ∈ xx_T := xx_good6 (i := 225) (by decide +kernel) (by decide +kernel)
abbrev mJ0_init_81219 : xx_M := (RJ0, "<init>", cJ0_init_81219, 2, none, [])
set_option maxRecDepth 100000 in
theorem cal_J0_init_81219 : xx_Cal yJ0_init_81219 mJ0_init_81219 1 := ⟨xx_good6 (i := 231) rfl rfl, xx_good1 (i := 9) (by decide +kernel) (by decide +kernel), by decide +kernel, by decide +kernel, by decide +kernel⟩
theorem im_J0_init_81219 : Cond.instanceMethod yJ0_init_81219 ∈ xx_T := xx_good6 (i := 230) (by decide +kernel) (by decide +kernel)
abbrev mJ0_init_db425 : xx_M := (RJ0, "<init>", cJ0_init_db425, 5, none, [])
set_option maxRecDepth 100000 in
theorem cal_J0_init_db425 : xx_Cal yJ0_init_db425 mJ0_init_db425 2 := ⟨xx_good6 (i := 234) rfl rfl, xx_good1 (i := 9) (by decide +kernel) (by decide +kernel), by decide +kernel, by decide +kernel, by decide +kernel⟩
theorem im_J0_init_db425 : Cond.instanceMethod yJ0_init_db425 ∈ xx_T := xx_good6 (i := 233) (by decide +kernel) (by decide +kernel)
abbrev mJ5_getValue_6d5f1 : xx_M := (RJ5, "getValue", cJ5_getValue_6d5f1, 1, some (.array .byte), [])
set_option maxRecDepth 100000 in
theorem cal_J5_getValue_6d5f1 : xx_Cal yJ5_getValue_6d5f1 mJ5_getValue_6d5f1 0 := ⟨xx_good7 (i := 0) rfl rfl, xx_good1 (i := 7) (by decide +kernel) (by decide +kernel), by decide +kernel, by decide +kernel, by decide +kernel⟩
theorem im_J5_getValue_6d5f1 : Cond.instanceMethod yJ5_getValue_6d5f1 ∈ xx_T := xx_good6 (i := 237) (by decide +kernel) (by decide +kernel)
abbrev mJ4_length_8abf5 : xx_M := (RJ4, "length", cJ4_length_8abf5, 1, some .int, [])
set_option maxRecDepth 100000 in
theorem cal_J4_length_8abf5 : xx_Cal yJ4_length_8abf5 mJ4_length_8abf5 0 := ⟨xx_good7 (i := 6) rfl rfl, xx_good1 (i := 8) (by decide +kernel) (by decide +kernel), by decide +kernel, by decide +kernel, by decide +kernel⟩
theorem im_J4_length_8abf5 : Cond.instanceMethod yJ4_length_8abf5 ∈ xx_T := xx_good7 (i := 5) (by decide +kernel) (by decide +kernel)
abbrev mJ5_length_8abf5 : xx_M := (RJ5, "length", cJ5_length_8abf5, 1, some .int, [])
set_option maxRecDepth 100000 in
theorem cal_J5_length_8abf5 : xx_Cal yJ5_length_8abf5 mJ5_length_8abf5 0 := ⟨xx_good7 (i := 8) rfl rfl, xx_good1 (i := 7) (by decide +kernel) (by decide +kernel), by decide +kernel, by decide +kernel, by decide +kernel⟩
theorem im_J5_length_8abf5 : Cond.instanceMethod yJ5_length_8abf5 ∈ xx_T := xx_good7 (i := 2) (by decide +kernel) (by decide +kernel)
abbrev mJ7_copyOfRange_39247 : xx_M := (RJ7, "copyOfRange", cJ7_copyOfRange_39247, 3, some (.array .byte), [])
set_option maxRecDepth 100000 in
theorem cal_J7_copyOfRange_39247 : xx_Cal yJ7_copyOfRange_39247 mJ7_copyOfRange_39247 3 := ⟨xx_good7 (i := 12) rfl rfl, xx_good1 (i := 14) (by decide +kernel) (by decide +kernel), by decide +kernel, by decide +kernel, by decide +kernel⟩
theorem sm_J7_copyOfRange_39247 : Cond.static yJ7_copyOfRange_39247 ∈ xx_T := xx_good7 (i := 11) (by decide +kernel) (by decide +kernel)
abbrev mJ7_copyOfRangeByte_39247 : xx_M := (RJ7, "copyOfRangeByte", cJ7_copyOfRangeByte_39247, 5, some (.array .byte), [])
set_option maxRecDepth 100000 in
theorem cal_J7_copyOfRangeByte_39247 : xx_Cal yJ7_copyOfRangeByte_39247 mJ7_copyOfRangeByte_39247 3 := ⟨xx_good7 (i := 15) rfl rfl, xx_good1 (i := 14) (by decide +kernel) (by decide +kernel), by decide +kernel, by decide +kernel, by decide +kernel⟩
theorem sm_J7_copyOfRangeByte_39247 : Cond.static yJ7_copyOfRangeByte_39247 ∈ xx_T := xx_good7 (i := 14) (by decide +kernel) (by decide +kernel)
abbrev mJ7_checkLength_df160 : xx_M := (RJ7, "checkLength", cJ7_checkLength_df160, 2, none, [])
set_option maxRecDepth 100000 in
theorem cal_J7_checkLength_df160 : xx_Cal yJ7_checkLength_df160 mJ7_checkLength_df160 2 := ⟨xx_good7 (i := 18) rfl rfl, xx_good1 (i := 14) (by decide +kernel) (by decide +kernel), by decide +kernel, by decide +kernel, by decide +kernel⟩
theorem sm_J7_checkLength_df160 : Cond.static yJ7_checkLength_df160 ∈ xx_T := xx_good7 (i := 17) (by decide +kernel) (by decide +kernel)
abbrev mJ2_compress_39247 : xx_M := (RJ2, "compress", cJ2_compress_39247, 6, some (.array .byte), [])
set_option maxRecDepth 100000 in
theorem cal_J2_compress_39247 : xx_Cal yJ2_compress_39247 mJ2_compress_39247 3 := ⟨xx_good7 (i := 21) rfl rfl, xx_good1 (i := 10) (by decide +kernel) (by decide +kernel), by decide +kernel, by decide +kernel, by decide +kernel⟩
theorem sm_J2_compress_39247 : Cond.static yJ2_compress_39247 ∈ xx_T := xx_good7 (i := 20) (by decide +kernel) (by decide +kernel)
abbrev mJ2_compress_5af95 : xx_M := (RJ2, "compress", cJ2_compress_5af95, 7, some .int, [])
set_option maxRecDepth 100000 in
theorem cal_J2_compress_5af95 : xx_Cal yJ2_compress_5af95 mJ2_compress_5af95 5 := ⟨xx_good7 (i := 24) rfl rfl, xx_good1 (i := 10) (by decide +kernel) (by decide +kernel), by decide +kernel, by decide +kernel, by decide +kernel⟩
theorem sm_J2_compress_5af95 : Cond.static yJ2_compress_5af95 ∈ xx_T := xx_good7 (i := 23) (by decide +kernel) (by decide +kernel)
abbrev mJ2_coderFromArrayLen_85cad : xx_M := (RJ2, "coderFromArrayLen", cJ2_coderFromArrayLen_85cad, 2, some .byte, [])
set_option maxRecDepth 100000 in
theorem cal_J2_coderFromArrayLen_85cad : xx_Cal yJ2_coderFromArrayLen_85cad mJ2_coderFromArrayLen_85cad 2 := ⟨xx_good7 (i := 28) rfl rfl, xx_good1 (i := 10) (by decide +kernel) (by decide +kernel), by decide +kernel, by decide +kernel, by decide +kernel⟩
theorem sm_J2_coderFromArrayLen_85cad : Cond.static yJ2_coderFromArrayLen_85cad ∈ xx_T := xx_good7 (i := 27) (by decide +kernel) (by decide +kernel)
abbrev mL_act : xx_M := (RL, "act", cL_act, 9, some .boolean, [(128, 150, 151, 152), (184, 203, 204, 152), (283, 308, 309, 152)])
set_option maxRecDepth 100000 in
theorem cal_L_act : xx_Cal yL_act mL_act 3 := ⟨xx_good7 (i := 57) rfl rfl, xx_good1 (i := 0) (by decide +kernel) (by decide +kernel), by decide +kernel, by decide +kernel, by decide +kernel⟩
theorem sm_L_act : Cond.static yL_act ∈ xx_T := xx_good7 (i := 56) (by decide +kernel) (by decide +kernel)
abbrev mX6_turnIn : xx_M := (RX6, "turnIn", cX6_turnIn, 2, some .boolean, [])
set_option maxRecDepth 100000 in
theorem cal_X6_turnIn : xx_Cal yX6_turnIn mX6_turnIn 1 := ⟨xx_good7 (i := 62) rfl rfl, xx_good1 (i := 1) (by decide +kernel) (by decide +kernel), by decide +kernel, by decide +kernel, by decide +kernel⟩
theorem im_X6_turnIn : Cond.instanceMethod yX6_turnIn ∈ xx_T := xx_good7 (i := 60) (by decide +kernel) (by decide +kernel)
theorem se_X6_turnIn : Cond.selects yX6_turnIn.cls yX6_turnIn yX6_turnIn ∈ xx_T := xx_good7 (i := 61) (by decide +kernel) (by decide +kernel)
abbrev mX7_canPair : xx_M := (RX7, "canPair", cX7_canPair, 1, some .boolean, [])
set_option maxRecDepth 100000 in
theorem cal_X7_canPair : xx_Cal yX7_canPair mX7_canPair 0 := ⟨xx_good7 (i := 67) rfl rfl, xx_good1 (i := 11) (by decide +kernel) (by decide +kernel), by decide +kernel, by decide +kernel, by decide +kernel⟩
theorem im_X7_canPair : Cond.instanceMethod yX7_canPair ∈ xx_T := xx_good7 (i := 65) (by decide +kernel) (by decide +kernel)
theorem se_X7_canPair : Cond.selects yX7_canPair.cls yX7_canPair yX7_canPair ∈ xx_T := xx_good7 (i := 66) (by decide +kernel) (by decide +kernel)
abbrev mX7_pair : xx_M := (RX7, "pair", cX7_pair, 10, none, [])
set_option maxRecDepth 100000 in
theorem cal_X7_pair : xx_Cal yX7_pair mX7_pair 0 := ⟨xx_good7 (i := 71) rfl rfl, xx_good1 (i := 11) (by decide +kernel) (by decide +kernel), by decide +kernel, by decide +kernel, by decide +kernel⟩
theorem im_X7_pair : Cond.instanceMethod yX7_pair ∈ xx_T := xx_good7 (i := 69) (by decide +kernel) (by decide +kernel)
theorem se_X7_pair : Cond.selects yX7_pair.cls yX7_pair yX7_pair ∈ xx_T := xx_good7 (i := 70) (by decide +kernel) (by decide +kernel)
abbrev mX7_row : xx_M := (RX7, "row", cX7_row, 6, some (.array .int), [])
set_option maxRecDepth 100000 in
theorem cal_X7_row : xx_Cal yX7_row mX7_row 0 := ⟨xx_good7 (i := 75) rfl rfl, xx_good1 (i := 11) (by decide +kernel) (by decide +kernel), by decide +kernel, by decide +kernel, by decide +kernel⟩
theorem im_X7_row : Cond.instanceMethod yX7_row ∈ xx_T := xx_good7 (i := 73) (by decide +kernel) (by decide +kernel)
theorem se_X7_row : Cond.selects yX7_row.cls yX7_row yX7_row ∈ xx_T := xx_good7 (i := 74) (by decide +kernel) (by decide +kernel)
abbrev mX7_mates : xx_M := (RX7, "mates", cX7_mates, 5, some (.array .int), [])
set_option maxRecDepth 100000 in
theorem cal_X7_mates : xx_Cal yX7_mates mX7_mates 1 := ⟨xx_good7 (i := 80) rfl rfl, xx_good1 (i := 11) (by decide +kernel) (by decide +kernel), by decide +kernel, by decide +kernel, by decide +kernel⟩
theorem im_X7_mates : Cond.instanceMethod yX7_mates ∈ xx_T := xx_good7 (i := 78) (by decide +kernel) (by decide +kernel)
theorem se_X7_mates : Cond.selects yX7_mates.cls yX7_mates yX7_mates ∈ xx_T := xx_good7 (i := 79) (by decide +kernel) (by decide +kernel)
abbrev mX7_tryOut : xx_M := (RX7, "tryOut", cX7_tryOut, 8, none, [])
set_option maxRecDepth 100000 in
theorem cal_X7_tryOut : xx_Cal yX7_tryOut mX7_tryOut 4 := ⟨xx_good7 (i := 84) rfl rfl, xx_good1 (i := 11) (by decide +kernel) (by decide +kernel), by decide +kernel, by decide +kernel, by decide +kernel⟩
theorem im_X7_tryOut : Cond.instanceMethod yX7_tryOut ∈ xx_T := xx_good7 (i := 83) (by decide +kernel) (by decide +kernel)
theorem se_X7_tryOut : Cond.selects yX7_tryOut.cls yX7_tryOut yX7_tryOut ∈ xx_T := xx_good (i := 57) (by decide +kernel) (by decide +kernel)
abbrev mX7_wasBlue : xx_M := (RX7, "wasBlue", cX7_wasBlue, 7, some .boolean, [])
set_option maxRecDepth 100000 in
theorem cal_X7_wasBlue : xx_Cal yX7_wasBlue mX7_wasBlue 1 := ⟨xx_good7 (i := 88) rfl rfl, xx_good1 (i := 11) (by decide +kernel) (by decide +kernel), by decide +kernel, by decide +kernel, by decide +kernel⟩
theorem im_X7_wasBlue : Cond.instanceMethod yX7_wasBlue ∈ xx_T := xx_good7 (i := 87) (by decide +kernel) (by decide +kernel)
theorem se_X7_wasBlue : Cond.selects yX7_wasBlue.cls yX7_wasBlue yX7_wasBlue ∈ xx_T := xx_good (i := 58) (by decide +kernel) (by decide +kernel)
abbrev mX6_pairRound : xx_M := (RX6, "pairRound", cX6_pairRound, 1, some .int, [])
set_option maxRecDepth 100000 in
theorem cal_X6_pairRound : xx_Cal yX6_pairRound mX6_pairRound 0 := ⟨xx_good7 (i := 92) rfl rfl, xx_good1 (i := 1) (by decide +kernel) (by decide +kernel), by decide +kernel, by decide +kernel, by decide +kernel⟩
theorem im_X6_pairRound : Cond.instanceMethod yX6_pairRound ∈ xx_T := xx_good7 (i := 90) (by decide +kernel) (by decide +kernel)
theorem se_X6_pairRound : Cond.selects yX6_pairRound.cls yX6_pairRound yX6_pairRound ∈ xx_T := xx_good7 (i := 91) (by decide +kernel) (by decide +kernel)
abbrev mX6_needPairable : xx_M := (RX6, "needPairable", cX6_needPairable, 1, none, [])
set_option maxRecDepth 100000 in
theorem cal_X6_needPairable : xx_Cal yX6_needPairable mX6_needPairable 0 := ⟨xx_good7 (i := 96) rfl rfl, xx_good1 (i := 1) (by decide +kernel) (by decide +kernel), by decide +kernel, by decide +kernel, by decide +kernel⟩
theorem im_X6_needPairable : Cond.instanceMethod yX6_needPairable ∈ xx_T := xx_good7 (i := 95) (by decide +kernel) (by decide +kernel)
theorem se_X6_needPairable : Cond.selects yX6_needPairable.cls yX6_needPairable yX6_needPairable ∈ xx_T := xx_good (i := 59) (by decide +kernel) (by decide +kernel)
abbrev mX6_tell : xx_M := (RX6, "tell", cX6_tell, 3, some .int, [])
set_option maxRecDepth 100000 in
theorem cal_X6_tell : xx_Cal yX6_tell mX6_tell 2 := ⟨xx_good7 (i := 103) rfl rfl, xx_good1 (i := 1) (by decide +kernel) (by decide +kernel), by decide +kernel, by decide +kernel, by decide +kernel⟩
theorem im_X6_tell : Cond.instanceMethod yX6_tell ∈ xx_T := xx_good7 (i := 101) (by decide +kernel) (by decide +kernel)
theorem se_X6_tell : Cond.selects yX6_tell.cls yX6_tell yX6_tell ∈ xx_T := xx_good7 (i := 102) (by decide +kernel) (by decide +kernel)
abbrev mL_isOpen : xx_M := (RL, "isOpen", cL_isOpen, 3, some .boolean, [(0, 13, 14, 152)])
set_option maxRecDepth 100000 in
theorem cal_L_isOpen : xx_Cal yL_isOpen mL_isOpen 2 := ⟨xx_good7 (i := 108) rfl rfl, xx_good1 (i := 0) (by decide +kernel) (by decide +kernel), by decide +kernel, by decide +kernel, by decide +kernel⟩
theorem sm_L_isOpen : Cond.static yL_isOpen ∈ xx_T := xx_good7 (i := 107) (by decide +kernel) (by decide +kernel)
abbrev mL_pairs : xx_M := (RL, "pairs", cL_pairs, 15, some .boolean, [(82, 92, 95, 152)])
set_option maxRecDepth 100000 in
theorem cal_L_pairs : xx_Cal yL_pairs mL_pairs 2 := ⟨xx_good7 (i := 112) rfl rfl, xx_good1 (i := 0) (by decide +kernel) (by decide +kernel), by decide +kernel, by decide +kernel, by decide +kernel⟩
theorem sm_L_pairs : Cond.static yL_pairs ∈ xx_T := xx_good7 (i := 111) (by decide +kernel) (by decide +kernel)
abbrev mX6_nextOpponentOf : xx_M := (RX6, "nextOpponentOf", cX6_nextOpponentOf, 3, some .int, [])
set_option maxRecDepth 100000 in
theorem cal_X6_nextOpponentOf : xx_Cal yX6_nextOpponentOf mX6_nextOpponentOf 1 := ⟨xx_good7 (i := 116) rfl rfl, xx_good1 (i := 1) (by decide +kernel) (by decide +kernel), by decide +kernel, by decide +kernel, by decide +kernel⟩
theorem im_X6_nextOpponentOf : Cond.instanceMethod yX6_nextOpponentOf ∈ xx_T := xx_good7 (i := 114) (by decide +kernel) (by decide +kernel)
theorem se_X6_nextOpponentOf : Cond.selects yX6_nextOpponentOf.cls yX6_nextOpponentOf yX6_nextOpponentOf ∈ xx_T := xx_good7 (i := 115) (by decide +kernel) (by decide +kernel)
abbrev mX1_rivalOf : xx_M := (RX1, "rivalOf", cX1_rivalOf, 3, some .int, [])
set_option maxRecDepth 100000 in
theorem cal_X1_rivalOf : xx_Cal yX1_rivalOf mX1_rivalOf 1 := ⟨xx_good7 (i := 120) rfl rfl, xx_good1 (i := 6) (by decide +kernel) (by decide +kernel), by decide +kernel, by decide +kernel, by decide +kernel⟩
theorem im_X1_rivalOf : Cond.instanceMethod yX1_rivalOf ∈ xx_T := xx_good7 (i := 118) (by decide +kernel) (by decide +kernel)
theorem se_X1_rivalOf : Cond.selects yX1_rivalOf.cls yX1_rivalOf yX1_rivalOf ∈ xx_T := xx_good7 (i := 119) (by decide +kernel) (by decide +kernel)
abbrev mX6_nextRematches : xx_M := (RX6, "nextRematches", cX6_nextRematches, 1, some .int, [])
set_option maxRecDepth 100000 in
theorem cal_X6_nextRematches : xx_Cal yX6_nextRematches mX6_nextRematches 0 := ⟨xx_good7 (i := 125) rfl rfl, xx_good1 (i := 1) (by decide +kernel) (by decide +kernel), by decide +kernel, by decide +kernel, by decide +kernel⟩
theorem im_X6_nextRematches : Cond.instanceMethod yX6_nextRematches ∈ xx_T := xx_good7 (i := 123) (by decide +kernel) (by decide +kernel)
theorem se_X6_nextRematches : Cond.selects yX6_nextRematches.cls yX6_nextRematches yX6_nextRematches ∈ xx_T := xx_good7 (i := 124) (by decide +kernel) (by decide +kernel)
theorem in_BeltRoundsLaw : Cond.initialized "BeltRoundsLaw" ∈ xx_T := xx_good1 (i := 0) (by decide +kernel) (by decide +kernel)
theorem in_BeltRounds : Cond.initialized RX6 ∈ xx_T := xx_good1 (i := 1) (by decide +kernel) (by decide +kernel)
theorem in_BeltRounds_Reader : Cond.initialized RX2 ∈ xx_T := xx_good1 (i := 2) (by decide +kernel) (by decide +kernel)
theorem in_BeltRounds_Tape : Cond.initialized RX5 ∈ xx_T := xx_good1 (i := 3) (by decide +kernel) (by decide +kernel)
theorem in_BeltRounds_Rules : Cond.initialized RX3 ∈ xx_T := xx_good1 (i := 4) (by decide +kernel) (by decide +kernel)
theorem in_BeltRounds_Field : Cond.initialized RX0 ∈ xx_T := xx_good1 (i := 5) (by decide +kernel) (by decide +kernel)
theorem in_BeltRounds_Pairing : Cond.initialized RX1 ∈ xx_T := xx_good1 (i := 6) (by decide +kernel) (by decide +kernel)
theorem in_java_lang_AbstractStringBuilder : Cond.initialized "java/lang/AbstractStringBuilder" ∈ xx_T := xx_good1 (i := 7) (by decide +kernel) (by decide +kernel)
theorem in_java_lang_StringBuilder : Cond.initialized RJ4 ∈ xx_T := xx_good1 (i := 8) (by decide +kernel) (by decide +kernel)
theorem in_java_lang_String : Cond.initialized RJ0 ∈ xx_T := xx_good1 (i := 9) (by decide +kernel) (by decide +kernel)
theorem in_java_lang_StringUTF16 : Cond.initialized "java/lang/StringUTF16" ∈ xx_T := xx_good1 (i := 10) (by decide +kernel) (by decide +kernel)
theorem in_BeltRoundsLaw_Sim : Cond.initialized RX7 ∈ xx_T := xx_good1 (i := 11) (by decide +kernel) (by decide +kernel)
theorem in_jdk_internal_util_ArraysSupport : Cond.initialized "jdk/internal/util/ArraysSupport" ∈ xx_T := xx_good1 (i := 12) (by decide +kernel) (by decide +kernel)
theorem in_java_lang_Math : Cond.initialized "java/lang/Math" ∈ xx_T := xx_good1 (i := 13) (by decide +kernel) (by decide +kernel)
theorem in_java_util_Arrays : Cond.initialized "java/util/Arrays" ∈ xx_T := xx_good1 (i := 14) (by decide +kernel) (by decide +kernel)
theorem in_java_lang_System : Cond.initialized "java/lang/System" ∈ xx_T := xx_good1 (i := 15) (by decide +kernel) (by decide +kernel)
theorem in_jdk_internal_util_Preconditions : Cond.initialized "jdk/internal/util/Preconditions" ∈ xx_T := xx_good1 (i := 16) (by decide +kernel) (by decide +kernel)
theorem in_java_lang_StringLatin1 : Cond.initialized "java/lang/StringLatin1" ∈ xx_T := xx_good1 (i := 17) (by decide +kernel) (by decide +kernel)
theorem in_java_lang_Number : Cond.initialized "java/lang/Number" ∈ xx_T := xx_good1 (i := 18) (by decide +kernel) (by decide +kernel)
theorem in_java_lang_Integer : Cond.initialized "java/lang/Integer" ∈ xx_T := xx_good1 (i := 19) (by decide +kernel) (by decide +kernel)
theorem in_BeltRoundsLaw_Tree : Cond.initialized RX8 ∈ xx_T := xx_good1 (i := 20) (by decide +kernel) (by decide +kernel)
theorem in_java_lang_Throwable : Cond.initialized "java/lang/Throwable" ∈ xx_T := xx_good1 (i := 21) (by decide +kernel) (by decide +kernel)
theorem in_java_lang_Exception : Cond.initialized "java/lang/Exception" ∈ xx_T := xx_good1 (i := 22) (by decide +kernel) (by decide +kernel)
theorem in_java_lang_RuntimeException : Cond.initialized "java/lang/RuntimeException" ∈ xx_T := xx_good1 (i := 23) (by decide +kernel) (by decide +kernel)
theorem in_java_lang_IllegalStateException : Cond.initialized "java/lang/IllegalStateException" ∈ xx_T := xx_good1 (i := 24) (by decide +kernel) (by decide +kernel)
theorem in_java_lang_IllegalArgumentException : Cond.initialized "java/lang/IllegalArgumentException" ∈ xx_T := xx_good1 (i := 25) (by decide +kernel) (by decide +kernel)
theorem in_java_lang_Enum : Cond.initialized "java/lang/Enum" ∈ xx_T := xx_good1 (i := 26) (by decide +kernel) (by decide +kernel)
theorem in_BeltRounds_Sign : Cond.initialized RX4 ∈ xx_T := xx_good1 (i := 27) (by decide +kernel) (by decide +kernel)
theorem in_java_lang_IndexOutOfBoundsException : Cond.initialized "java/lang/IndexOutOfBoundsException" ∈ xx_T := xx_good1 (i := 28) (by decide +kernel) (by decide +kernel)
theorem cl_L_20 : Cond.classLink RL 20 RX6 ∈ xx_T := xx_good1 (i := 29) (by decide +kernel) (by decide +kernel)
theorem ins_BeltRounds : Cond.instantiable RX6 6 ∈ xx_T := xx_good1 (i := 30) (by decide +kernel) (by decide +kernel)
theorem ml_L_166 : Cond.methodLink RL 166 yX6_init ∈ xx_T := xx_good1 (i := 31) (by decide +kernel) (by decide +kernel)
theorem ml_X6_1 : Cond.methodLink RX6 1 objectInit ∈ xx_T := xx_good1 (i := 34) (by decide +kernel) (by decide +kernel)
theorem cl_X6_7 : Cond.classLink RX6 7 RX2 ∈ xx_T := xx_good1 (i := 37) (by decide +kernel) (by decide +kernel)
theorem ins_BeltRounds_Reader : Cond.instantiable RX2 9 ∈ xx_T := xx_good1 (i := 38) (by decide +kernel) (by decide +kernel)
theorem ml_X6_9 : Cond.methodLinkNest RX6 9 yX2_init "BeltRounds" ∈ xx_N := xx_oddin (i := 99) (by decide +kernel) (by decide +kernel)
theorem ml_X2_3 : Cond.methodLink RX2 3 objectInit ∈ xx_T := xx_good1 (i := 42) (by decide +kernel) (by decide +kernel)
theorem cl_X2_9 : Cond.classLink RX2 9 RX5 ∈ xx_T := xx_good1 (i := 43) (by decide +kernel) (by decide +kernel)
theorem ins_BeltRounds_Tape : Cond.instantiable RX5 6 ∈ xx_T := xx_good1 (i := 44) (by decide +kernel) (by decide +kernel)
theorem ml_X2_11 : Cond.methodLinkNest RX2 11 yX5_init "BeltRounds" ∈ xx_N := xx_oddin (i := 105) (by decide +kernel) (by decide +kernel)
theorem ml_X5_3 : Cond.methodLink RX5 3 objectInit ∈ xx_T := xx_good1 (i := 48) (by decide +kernel) (by decide +kernel)
theorem cl_X5_19 : Cond.classLink RX5 19 "BeltRounds$Sign" ∈ xx_T := xx_good1 (i := 49) (by decide +kernel) (by decide +kernel)
theorem fl_X5_9 : xx_Fl RX5 9 4 0 := ⟨RX5, TX5, 6, tyX5, k_4, by decide, Or.inl (xx_good1 (i := 51) (by decide +kernel) (by decide +kernel))⟩
theorem ff_X5_9 : xx_Ff RX5 9 4 0 (.array .byte) := ⟨RX5, TX5, 6, tyX5, k_4, by decide, rfl, rfl, by decide +kernel, xx_good1 (i := 51) (by decide +kernel) (by decide +kernel)⟩
theorem fl_X5_15 : xx_Fl RX5 15 4 1 := ⟨RX5, TX5, 6, tyX5, k_4, by decide, Or.inl (xx_good1 (i := 52) (by decide +kernel) (by decide +kernel))⟩
theorem fp_X5_15 : xx_Fp RX5 15 4 1 (.int) := ⟨RX5, TX5, 6, tyX5, k_4, by decide, rfl, by decide +kernel, Or.inl (xx_good1 (i := 52) (by decide +kernel) (by decide +kernel))⟩
theorem fl_X6_45 : xx_Fl RX6 45 4 1 := ⟨RX5, TX5, 6, tyX5, k_4, by decide, Or.inr ⟨"BeltRounds", xx_oddin (i := 113) (by decide +kernel) (by decide +kernel)⟩⟩
theorem fp_X6_45 : xx_Fp RX6 45 4 1 (.int) := ⟨RX5, TX5, 6, tyX5, k_4, by decide, rfl, by decide +kernel, Or.inr ⟨"BeltRounds", xx_oddin (i := 113) (by decide +kernel) (by decide +kernel)⟩⟩
theorem fl_X5_21 : xx_Fl RX5 21 4 2 := ⟨RX5, TX5, 6, tyX5, k_4, by decide, Or.inl (xx_good1 (i := 54) (by decide +kernel) (by decide +kernel))⟩
theorem ff_X5_21 : xx_Ff RX5 21 4 2 (.array (.object "BeltRounds$Sign")) := ⟨RX5, TX5, 6, tyX5, k_4, by decide, rfl, rfl, by decide +kernel, xx_good1 (i := 54) (by decide +kernel) (by decide +kernel)⟩
theorem fl_X2_276 : xx_Fl RX2 276 4 2 := ⟨RX5, TX5, 6, tyX5, k_4, by decide, Or.inr ⟨"BeltRounds", xx_oddin (i := 115) (by decide +kernel) (by decide +kernel)⟩⟩
theorem fl_X5_25 : xx_Fl RX5 25 4 3 := ⟨RX5, TX5, 6, tyX5, k_4, by decide, Or.inl (xx_good1 (i := 56) (by decide +kernel) (by decide +kernel))⟩
theorem ff_X5_25 : xx_Ff RX5 25 4 3 (.array .int) := ⟨RX5, TX5, 6, tyX5, k_4, by decide, rfl, rfl, by decide +kernel, xx_good1 (i := 56) (by decide +kernel) (by decide +kernel)⟩
theorem fl_X5_29 : xx_Fl RX5 29 4 4 := ⟨RX5, TX5, 6, tyX5, k_4, by decide, Or.inl (xx_good1 (i := 57) (by decide +kernel) (by decide +kernel))⟩
theorem ff_X5_29 : xx_Ff RX5 29 4 4 (.array .int) := ⟨RX5, TX5, 6, tyX5, k_4, by decide, rfl, rfl, by decide +kernel, xx_good1 (i := 57) (by decide +kernel) (by decide +kernel)⟩
theorem fl_X5_32 : xx_Fl RX5 32 4 5 := ⟨RX5, TX5, 6, tyX5, k_4, by decide, Or.inl (xx_good1 (i := 58) (by decide +kernel) (by decide +kernel))⟩
theorem fp_X5_32 : xx_Fp RX5 32 4 5 (.int) := ⟨RX5, TX5, 6, tyX5, k_4, by decide, rfl, by decide +kernel, Or.inl (xx_good1 (i := 58) (by decide +kernel) (by decide +kernel))⟩
theorem fl_X2_273 : xx_Fl RX2 273 4 5 := ⟨RX5, TX5, 6, tyX5, k_4, by decide, Or.inr ⟨"BeltRounds", xx_oddin (i := 119) (by decide +kernel) (by decide +kernel)⟩⟩
theorem fp_X2_273 : xx_Fp RX2 273 4 5 (.int) := ⟨RX5, TX5, 6, tyX5, k_4, by decide, rfl, by decide +kernel, Or.inr ⟨"BeltRounds", xx_oddin (i := 119) (by decide +kernel) (by decide +kernel)⟩⟩
theorem ac_byte : Cond.arrayClass .byte ∈ xx_T := xx_good1 (i := 73) (by decide +kernel) (by decide +kernel)
theorem ac_int : Cond.arrayClass .int ∈ xx_T := xx_good1 (i := 74) (by decide +kernel) (by decide +kernel)
theorem cl_X2_18 : Cond.classLink RX2 18 RX3 ∈ xx_T := xx_good1 (i := 75) (by decide +kernel) (by decide +kernel)
theorem ins_BeltRounds_Rules : Cond.instantiable RX3 8 ∈ xx_T := xx_good1 (i := 76) (by decide +kernel) (by decide +kernel)
theorem ml_X2_20 : Cond.methodLinkNest RX2 20 yX3_init "BeltRounds" ∈ xx_N := xx_oddin (i := 137) (by decide +kernel) (by decide +kernel)
theorem ml_X3_3 : Cond.methodLink RX3 3 objectInit ∈ xx_T := xx_good1 (i := 80) (by decide +kernel) (by decide +kernel)
theorem fl_X3_9 : xx_Fl RX3 9 3 0 := ⟨RX3, TX3, 8, tyX3, k_3, by decide, Or.inl (xx_good1 (i := 81) (by decide +kernel) (by decide +kernel))⟩
theorem fp_X3_9 : xx_Fp RX3 9 3 0 (.int) := ⟨RX3, TX3, 8, tyX3, k_3, by decide, rfl, by decide +kernel, Or.inl (xx_good1 (i := 81) (by decide +kernel) (by decide +kernel))⟩
theorem fl_X2_120 : xx_Fl RX2 120 3 0 := ⟨RX3, TX3, 8, tyX3, k_3, by decide, Or.inr ⟨"BeltRounds", xx_oddin (i := 142) (by decide +kernel) (by decide +kernel)⟩⟩
theorem fp_X2_120 : xx_Fp RX2 120 3 0 (.int) := ⟨RX3, TX3, 8, tyX3, k_3, by decide, rfl, by decide +kernel, Or.inr ⟨"BeltRounds", xx_oddin (i := 142) (by decide +kernel) (by decide +kernel)⟩⟩
theorem fl_X6_97 : xx_Fl RX6 97 3 0 := ⟨RX3, TX3, 8, tyX3, k_3, by decide, Or.inr ⟨"BeltRounds", xx_oddin (i := 143) (by decide +kernel) (by decide +kernel)⟩⟩
theorem fp_X6_97 : xx_Fp RX6 97 3 0 (.int) := ⟨RX3, TX3, 8, tyX3, k_3, by decide, rfl, by decide +kernel, Or.inr ⟨"BeltRounds", xx_oddin (i := 143) (by decide +kernel) (by decide +kernel)⟩⟩
theorem fl_X3_15 : xx_Fl RX3 15 3 1 := ⟨RX3, TX3, 8, tyX3, k_3, by decide, Or.inl (xx_good1 (i := 84) (by decide +kernel) (by decide +kernel))⟩
theorem ff_X3_15 : xx_Ff RX3 15 3 1 (.array .int) := ⟨RX3, TX3, 8, tyX3, k_3, by decide, rfl, rfl, by decide +kernel, xx_good1 (i := 84) (by decide +kernel) (by decide +kernel)⟩
theorem fl_X3_19 : xx_Fl RX3 19 3 2 := ⟨RX3, TX3, 8, tyX3, k_3, by decide, Or.inl (xx_good1 (i := 85) (by decide +kernel) (by decide +kernel))⟩
theorem ff_X3_19 : xx_Ff RX3 19 3 2 (.array .int) := ⟨RX3, TX3, 8, tyX3, k_3, by decide, rfl, rfl, by decide +kernel, xx_good1 (i := 85) (by decide +kernel) (by decide +kernel)⟩
theorem fl_X3_22 : xx_Fl RX3 22 3 3 := ⟨RX3, TX3, 8, tyX3, k_3, by decide, Or.inl (xx_good1 (i := 86) (by decide +kernel) (by decide +kernel))⟩
theorem fp_X3_22 : xx_Fp RX3 22 3 3 (.int) := ⟨RX3, TX3, 8, tyX3, k_3, by decide, rfl, by decide +kernel, Or.inl (xx_good1 (i := 86) (by decide +kernel) (by decide +kernel))⟩
theorem fl_X3_25 : xx_Fl RX3 25 3 4 := ⟨RX3, TX3, 8, tyX3, k_3, by decide, Or.inl (xx_good1 (i := 87) (by decide +kernel) (by decide +kernel))⟩
theorem ff_X3_25 : xx_Ff RX3 25 3 4 (.array .int) := ⟨RX3, TX3, 8, tyX3, k_3, by decide, rfl, rfl, by decide +kernel, xx_good1 (i := 87) (by decide +kernel) (by decide +kernel)⟩
theorem fl_X3_28 : xx_Fl RX3 28 3 5 := ⟨RX3, TX3, 8, tyX3, k_3, by decide, Or.inl (xx_good1 (i := 88) (by decide +kernel) (by decide +kernel))⟩
theorem ff_X3_28 : xx_Ff RX3 28 3 5 (.array .int) := ⟨RX3, TX3, 8, tyX3, k_3, by decide, rfl, rfl, by decide +kernel, xx_good1 (i := 88) (by decide +kernel) (by decide +kernel)⟩
theorem fl_X3_31 : xx_Fl RX3 31 3 6 := ⟨RX3, TX3, 8, tyX3, k_3, by decide, Or.inl (xx_good1 (i := 89) (by decide +kernel) (by decide +kernel))⟩
theorem fp_X3_31 : xx_Fp RX3 31 3 6 (.int) := ⟨RX3, TX3, 8, tyX3, k_3, by decide, rfl, by decide +kernel, Or.inl (xx_good1 (i := 89) (by decide +kernel) (by decide +kernel))⟩
theorem fl_X3_34 : xx_Fl RX3 34 3 7 := ⟨RX3, TX3, 8, tyX3, k_3, by decide, Or.inl (xx_good1 (i := 90) (by decide +kernel) (by decide +kernel))⟩
theorem ff_X3_34 : xx_Ff RX3 34 3 7 (.array .int) := ⟨RX3, TX3, 8, tyX3, k_3, by decide, rfl, rfl, by decide +kernel, xx_good1 (i := 90) (by decide +kernel) (by decide +kernel)⟩
theorem fl_X2_12 : xx_Fl RX2 12 2 0 := ⟨RX2, TX2, 9, tyX2, k_2, by decide, Or.inl (xx_good1 (i := 108) (by decide +kernel) (by decide +kernel))⟩
theorem ff_X2_12 : xx_Ff RX2 12 2 0 (.object "BeltRounds$Tape") := ⟨RX2, TX2, 9, tyX2, k_2, by decide, rfl, rfl, by decide +kernel, xx_good1 (i := 108) (by decide +kernel) (by decide +kernel)⟩
theorem fl_X6_16 : xx_Fl RX6 16 2 0 := ⟨RX2, TX2, 9, tyX2, k_2, by decide, Or.inr ⟨"BeltRounds", xx_oddin (i := 169) (by decide +kernel) (by decide +kernel)⟩⟩
theorem fl_X2_21 : xx_Fl RX2 21 2 1 := ⟨RX2, TX2, 9, tyX2, k_2, by decide, Or.inl (xx_good1 (i := 110) (by decide +kernel) (by decide +kernel))⟩
theorem ff_X2_21 : xx_Ff RX2 21 2 1 (.object "BeltRounds$Rules") := ⟨RX2, TX2, 9, tyX2, k_2, by decide, rfl, rfl, by decide +kernel, xx_good1 (i := 110) (by decide +kernel) (by decide +kernel)⟩
theorem fl_X6_71 : xx_Fl RX6 71 2 1 := ⟨RX2, TX2, 9, tyX2, k_2, by decide, Or.inr ⟨"BeltRounds", xx_oddin (i := 171) (by decide +kernel) (by decide +kernel)⟩⟩
theorem fl_X2_25 : xx_Fl RX2 25 2 2 := ⟨RX2, TX2, 9, tyX2, k_2, by decide, Or.inl (xx_good1 (i := 112) (by decide +kernel) (by decide +kernel))⟩
theorem ff_X2_25 : xx_Ff RX2 25 2 2 (.array .int) := ⟨RX2, TX2, 9, tyX2, k_2, by decide, rfl, rfl, by decide +kernel, xx_good1 (i := 112) (by decide +kernel) (by decide +kernel)⟩
theorem fl_X6_79 : xx_Fl RX6 79 2 2 := ⟨RX2, TX2, 9, tyX2, k_2, by decide, Or.inr ⟨"BeltRounds", xx_oddin (i := 173) (by decide +kernel) (by decide +kernel)⟩⟩
theorem fl_X2_29 : xx_Fl RX2 29 2 3 := ⟨RX2, TX2, 9, tyX2, k_2, by decide, Or.inl (xx_good1 (i := 114) (by decide +kernel) (by decide +kernel))⟩
theorem ff_X2_29 : xx_Ff RX2 29 2 3 (.array .int) := ⟨RX2, TX2, 9, tyX2, k_2, by decide, rfl, rfl, by decide +kernel, xx_good1 (i := 114) (by decide +kernel) (by decide +kernel)⟩
theorem fl_X2_32 : xx_Fl RX2 32 2 4 := ⟨RX2, TX2, 9, tyX2, k_2, by decide, Or.inl (xx_good1 (i := 115) (by decide +kernel) (by decide +kernel))⟩
theorem ff_X2_32 : xx_Ff RX2 32 2 4 (.array .int) := ⟨RX2, TX2, 9, tyX2, k_2, by decide, rfl, rfl, by decide +kernel, xx_good1 (i := 115) (by decide +kernel) (by decide +kernel)⟩
theorem fl_X6_83 : xx_Fl RX6 83 2 4 := ⟨RX2, TX2, 9, tyX2, k_2, by decide, Or.inr ⟨"BeltRounds", xx_oddin (i := 176) (by decide +kernel) (by decide +kernel)⟩⟩
theorem fl_X2_35 : xx_Fl RX2 35 2 5 := ⟨RX2, TX2, 9, tyX2, k_2, by decide, Or.inl (xx_good1 (i := 117) (by decide +kernel) (by decide +kernel))⟩
theorem fp_X2_35 : xx_Fp RX2 35 2 5 (.int) := ⟨RX2, TX2, 9, tyX2, k_2, by decide, rfl, by decide +kernel, Or.inl (xx_good1 (i := 117) (by decide +kernel) (by decide +kernel))⟩
theorem fl_X6_76 : xx_Fl RX6 76 2 5 := ⟨RX2, TX2, 9, tyX2, k_2, by decide, Or.inr ⟨"BeltRounds", xx_oddin (i := 178) (by decide +kernel) (by decide +kernel)⟩⟩
theorem fp_X6_76 : xx_Fp RX6 76 2 5 (.int) := ⟨RX2, TX2, 9, tyX2, k_2, by decide, rfl, by decide +kernel, Or.inr ⟨"BeltRounds", xx_oddin (i := 178) (by decide +kernel) (by decide +kernel)⟩⟩
theorem fl_X2_39 : xx_Fl RX2 39 2 6 := ⟨RX2, TX2, 9, tyX2, k_2, by decide, Or.inl (xx_good1 (i := 119) (by decide +kernel) (by decide +kernel))⟩
theorem fp_X2_39 : xx_Fp RX2 39 2 6 (.int) := ⟨RX2, TX2, 9, tyX2, k_2, by decide, rfl, by decide +kernel, Or.inl (xx_good1 (i := 119) (by decide +kernel) (by decide +kernel))⟩
theorem fl_X2_42 : xx_Fl RX2 42 2 7 := ⟨RX2, TX2, 9, tyX2, k_2, by decide, Or.inl (xx_good1 (i := 120) (by decide +kernel) (by decide +kernel))⟩
theorem fp_X2_42 : xx_Fp RX2 42 2 7 (.int) := ⟨RX2, TX2, 9, tyX2, k_2, by decide, rfl, by decide +kernel, Or.inl (xx_good1 (i := 120) (by decide +kernel) (by decide +kernel))⟩
theorem fl_X2_45 : xx_Fl RX2 45 2 8 := ⟨RX2, TX2, 9, tyX2, k_2, by decide, Or.inl (xx_good1 (i := 121) (by decide +kernel) (by decide +kernel))⟩
theorem fp_X2_45 : xx_Fp RX2 45 2 8 (.int) := ⟨RX2, TX2, 9, tyX2, k_2, by decide, rfl, by decide +kernel, Or.inl (xx_good1 (i := 121) (by decide +kernel) (by decide +kernel))⟩
theorem cl_X6_21 : Cond.classLink RX6 21 RX3 ∈ xx_T := xx_good1 (i := 141) (by decide +kernel) (by decide +kernel)
theorem ml_X6_23 : Cond.methodLinkNest RX6 23 yX3_init "BeltRounds" ∈ xx_N := xx_oddin (i := 202) (by decide +kernel) (by decide +kernel)
theorem cl_X6_28 : Cond.classLink RX6 28 RX0 ∈ xx_T := xx_good1 (i := 143) (by decide +kernel) (by decide +kernel)
theorem ins_BeltRounds_Field : Cond.instantiable RX0 12 ∈ xx_T := xx_good1 (i := 144) (by decide +kernel) (by decide +kernel)
theorem ml_X6_30 : Cond.methodLinkNest RX6 30 yX0_init "BeltRounds" ∈ xx_N := xx_oddin (i := 205) (by decide +kernel) (by decide +kernel)
theorem ml_X0_3 : Cond.methodLink RX0 3 objectInit ∈ xx_T := xx_good1 (i := 148) (by decide +kernel) (by decide +kernel)
theorem fl_X0_9 : xx_Fl RX0 9 0 0 := ⟨RX0, TX0, 12, tyX0, k_0, by decide, Or.inl (xx_good1 (i := 149) (by decide +kernel) (by decide +kernel))⟩
theorem fp_X0_9 : xx_Fp RX0 9 0 0 (.int) := ⟨RX0, TX0, 12, tyX0, k_0, by decide, rfl, by decide +kernel, Or.inl (xx_good1 (i := 149) (by decide +kernel) (by decide +kernel))⟩
theorem fl_X6_93 : xx_Fl RX6 93 0 0 := ⟨RX0, TX0, 12, tyX0, k_0, by decide, Or.inr ⟨"BeltRounds", xx_oddin (i := 210) (by decide +kernel) (by decide +kernel)⟩⟩
theorem fp_X6_93 : xx_Fp RX6 93 0 0 (.int) := ⟨RX0, TX0, 12, tyX0, k_0, by decide, rfl, by decide +kernel, Or.inr ⟨"BeltRounds", xx_oddin (i := 210) (by decide +kernel) (by decide +kernel)⟩⟩
theorem fl_X1_73 : xx_Fl RX1 73 0 0 := ⟨RX0, TX0, 12, tyX0, k_0, by decide, Or.inr ⟨"BeltRounds", xx_oddin (i := 211) (by decide +kernel) (by decide +kernel)⟩⟩
theorem fp_X1_73 : xx_Fp RX1 73 0 0 (.int) := ⟨RX0, TX0, 12, tyX0, k_0, by decide, rfl, by decide +kernel, Or.inr ⟨"BeltRounds", xx_oddin (i := 211) (by decide +kernel) (by decide +kernel)⟩⟩
theorem fl_X0_15 : xx_Fl RX0 15 0 1 := ⟨RX0, TX0, 12, tyX0, k_0, by decide, Or.inl (xx_good1 (i := 152) (by decide +kernel) (by decide +kernel))⟩
theorem fp_X0_15 : xx_Fp RX0 15 0 1 (.int) := ⟨RX0, TX0, 12, tyX0, k_0, by decide, rfl, by decide +kernel, Or.inl (xx_good1 (i := 152) (by decide +kernel) (by decide +kernel))⟩
theorem fl_X6_100 : xx_Fl RX6 100 0 1 := ⟨RX0, TX0, 12, tyX0, k_0, by decide, Or.inr ⟨"BeltRounds", xx_oddin (i := 213) (by decide +kernel) (by decide +kernel)⟩⟩
theorem fp_X6_100 : xx_Fp RX6 100 0 1 (.int) := ⟨RX0, TX0, 12, tyX0, k_0, by decide, rfl, by decide +kernel, Or.inr ⟨"BeltRounds", xx_oddin (i := 213) (by decide +kernel) (by decide +kernel)⟩⟩
theorem fl_X3_63 : xx_Fl RX3 63 0 1 := ⟨RX0, TX0, 12, tyX0, k_0, by decide, Or.inr ⟨"BeltRounds", xx_oddin (i := 214) (by decide +kernel) (by decide +kernel)⟩⟩
theorem fp_X3_63 : xx_Fp RX3 63 0 1 (.int) := ⟨RX0, TX0, 12, tyX0, k_0, by decide, rfl, by decide +kernel, Or.inr ⟨"BeltRounds", xx_oddin (i := 214) (by decide +kernel) (by decide +kernel)⟩⟩
theorem fl_X0_18 : xx_Fl RX0 18 0 2 := ⟨RX0, TX0, 12, tyX0, k_0, by decide, Or.inl (xx_good1 (i := 155) (by decide +kernel) (by decide +kernel))⟩
theorem ff_X0_18 : xx_Ff RX0 18 0 2 (.array .int) := ⟨RX0, TX0, 12, tyX0, k_0, by decide, rfl, rfl, by decide +kernel, xx_good1 (i := 155) (by decide +kernel) (by decide +kernel)⟩
theorem fl_X0_22 : xx_Fl RX0 22 0 3 := ⟨RX0, TX0, 12, tyX0, k_0, by decide, Or.inl (xx_good1 (i := 156) (by decide +kernel) (by decide +kernel))⟩
theorem ff_X0_22 : xx_Ff RX0 22 0 3 (.array .int) := ⟨RX0, TX0, 12, tyX0, k_0, by decide, rfl, rfl, by decide +kernel, xx_good1 (i := 156) (by decide +kernel) (by decide +kernel)⟩
theorem fl_X0_25 : xx_Fl RX0 25 0 4 := ⟨RX0, TX0, 12, tyX0, k_0, by decide, Or.inl (xx_good1 (i := 157) (by decide +kernel) (by decide +kernel))⟩
theorem ff_X0_25 : xx_Ff RX0 25 0 4 (.array .int) := ⟨RX0, TX0, 12, tyX0, k_0, by decide, rfl, rfl, by decide +kernel, xx_good1 (i := 157) (by decide +kernel) (by decide +kernel)⟩
theorem fl_X0_28 : xx_Fl RX0 28 0 5 := ⟨RX0, TX0, 12, tyX0, k_0, by decide, Or.inl (xx_good1 (i := 158) (by decide +kernel) (by decide +kernel))⟩
theorem fp_X0_28 : xx_Fp RX0 28 0 5 (.int) := ⟨RX0, TX0, 12, tyX0, k_0, by decide, rfl, by decide +kernel, Or.inl (xx_good1 (i := 158) (by decide +kernel) (by decide +kernel))⟩
theorem fl_X6_103 : xx_Fl RX6 103 0 5 := ⟨RX0, TX0, 12, tyX0, k_0, by decide, Or.inr ⟨"BeltRounds", xx_oddin (i := 219) (by decide +kernel) (by decide +kernel)⟩⟩
theorem fp_X6_103 : xx_Fp RX6 103 0 5 (.int) := ⟨RX0, TX0, 12, tyX0, k_0, by decide, rfl, by decide +kernel, Or.inr ⟨"BeltRounds", xx_oddin (i := 219) (by decide +kernel) (by decide +kernel)⟩⟩
theorem fl_X0_31 : xx_Fl RX0 31 0 6 := ⟨RX0, TX0, 12, tyX0, k_0, by decide, Or.inl (xx_good1 (i := 160) (by decide +kernel) (by decide +kernel))⟩
theorem ff_X0_31 : xx_Ff RX0 31 0 6 (.array .int) := ⟨RX0, TX0, 12, tyX0, k_0, by decide, rfl, rfl, by decide +kernel, xx_good1 (i := 160) (by decide +kernel) (by decide +kernel)⟩
theorem fl_X0_34 : xx_Fl RX0 34 0 7 := ⟨RX0, TX0, 12, tyX0, k_0, by decide, Or.inl (xx_good1 (i := 161) (by decide +kernel) (by decide +kernel))⟩
theorem ff_X0_34 : xx_Ff RX0 34 0 7 (.array .int) := ⟨RX0, TX0, 12, tyX0, k_0, by decide, rfl, rfl, by decide +kernel, xx_good1 (i := 161) (by decide +kernel) (by decide +kernel)⟩
theorem fl_X0_37 : xx_Fl RX0 37 0 8 := ⟨RX0, TX0, 12, tyX0, k_0, by decide, Or.inl (xx_good1 (i := 162) (by decide +kernel) (by decide +kernel))⟩
theorem ff_X0_37 : xx_Ff RX0 37 0 8 (.array .int) := ⟨RX0, TX0, 12, tyX0, k_0, by decide, rfl, rfl, by decide +kernel, xx_good1 (i := 162) (by decide +kernel) (by decide +kernel)⟩
theorem fl_X0_40 : xx_Fl RX0 40 0 9 := ⟨RX0, TX0, 12, tyX0, k_0, by decide, Or.inl (xx_good1 (i := 163) (by decide +kernel) (by decide +kernel))⟩
theorem fp_X0_40 : xx_Fp RX0 40 0 9 (.int) := ⟨RX0, TX0, 12, tyX0, k_0, by decide, rfl, by decide +kernel, Or.inl (xx_good1 (i := 163) (by decide +kernel) (by decide +kernel))⟩
theorem fl_X6_164 : xx_Fl RX6 164 0 9 := ⟨RX0, TX0, 12, tyX0, k_0, by decide, Or.inr ⟨"BeltRounds", xx_oddin (i := 224) (by decide +kernel) (by decide +kernel)⟩⟩
theorem fp_X6_164 : xx_Fp RX6 164 0 9 (.int) := ⟨RX0, TX0, 12, tyX0, k_0, by decide, rfl, by decide +kernel, Or.inr ⟨"BeltRounds", xx_oddin (i := 224) (by decide +kernel) (by decide +kernel)⟩⟩
theorem fl_X0_43 : xx_Fl RX0 43 0 10 := ⟨RX0, TX0, 12, tyX0, k_0, by decide, Or.inl (xx_good1 (i := 165) (by decide +kernel) (by decide +kernel))⟩
theorem ff_X0_43 : xx_Ff RX0 43 0 10 (.array .int) := ⟨RX0, TX0, 12, tyX0, k_0, by decide, rfl, rfl, by decide +kernel, xx_good1 (i := 165) (by decide +kernel) (by decide +kernel)⟩
theorem fl_X0_46 : xx_Fl RX0 46 0 11 := ⟨RX0, TX0, 12, tyX0, k_0, by decide, Or.inl (xx_good1 (i := 166) (by decide +kernel) (by decide +kernel))⟩
theorem ff_X0_46 : xx_Ff RX0 46 0 11 (.array .int) := ⟨RX0, TX0, 12, tyX0, k_0, by decide, rfl, rfl, by decide +kernel, xx_good1 (i := 166) (by decide +kernel) (by decide +kernel)⟩
theorem cl_X6_38 : Cond.classLink RX6 38 RX1 ∈ xx_T := xx_good1 (i := 192) (by decide +kernel) (by decide +kernel)
theorem ins_BeltRounds_Pairing : Cond.instantiable RX1 9 ∈ xx_T := xx_good1 (i := 193) (by decide +kernel) (by decide +kernel)
theorem ml_X6_40 : Cond.methodLinkNest RX6 40 yX1_init "BeltRounds" ∈ xx_N := xx_oddin (i := 254) (by decide +kernel) (by decide +kernel)
theorem ml_X1_3 : Cond.methodLink RX1 3 objectInit ∈ xx_T := xx_good1 (i := 197) (by decide +kernel) (by decide +kernel)
theorem fl_X1_9 : xx_Fl RX1 9 1 0 := ⟨RX1, TX1, 9, tyX1, k_1, by decide, Or.inl (xx_good1 (i := 198) (by decide +kernel) (by decide +kernel))⟩
theorem fp_X1_9 : xx_Fp RX1 9 1 0 (.int) := ⟨RX1, TX1, 9, tyX1, k_1, by decide, rfl, by decide +kernel, Or.inl (xx_good1 (i := 198) (by decide +kernel) (by decide +kernel))⟩
theorem fl_X0_111 : xx_Fl RX0 111 1 0 := ⟨RX1, TX1, 9, tyX1, k_1, by decide, Or.inr ⟨"BeltRounds", xx_oddin (i := 259) (by decide +kernel) (by decide +kernel)⟩⟩
theorem fp_X0_111 : xx_Fp RX0 111 1 0 (.int) := ⟨RX1, TX1, 9, tyX1, k_1, by decide, rfl, by decide +kernel, Or.inr ⟨"BeltRounds", xx_oddin (i := 259) (by decide +kernel) (by decide +kernel)⟩⟩
theorem fl_X1_15 : xx_Fl RX1 15 1 1 := ⟨RX1, TX1, 9, tyX1, k_1, by decide, Or.inl (xx_good1 (i := 200) (by decide +kernel) (by decide +kernel))⟩
theorem fp_X1_15 : xx_Fp RX1 15 1 1 (.int) := ⟨RX1, TX1, 9, tyX1, k_1, by decide, rfl, by decide +kernel, Or.inl (xx_good1 (i := 200) (by decide +kernel) (by decide +kernel))⟩
theorem fl_X6_201 : xx_Fl RX6 201 1 1 := ⟨RX1, TX1, 9, tyX1, k_1, by decide, Or.inr ⟨"BeltRounds", xx_oddin (i := 261) (by decide +kernel) (by decide +kernel)⟩⟩
theorem fp_X6_201 : xx_Fp RX6 201 1 1 (.int) := ⟨RX1, TX1, 9, tyX1, k_1, by decide, rfl, by decide +kernel, Or.inr ⟨"BeltRounds", xx_oddin (i := 261) (by decide +kernel) (by decide +kernel)⟩⟩
theorem fl_X1_18 : xx_Fl RX1 18 1 2 := ⟨RX1, TX1, 9, tyX1, k_1, by decide, Or.inl (xx_good1 (i := 202) (by decide +kernel) (by decide +kernel))⟩
theorem fp_X1_18 : xx_Fp RX1 18 1 2 (.int) := ⟨RX1, TX1, 9, tyX1, k_1, by decide, rfl, by decide +kernel, Or.inl (xx_good1 (i := 202) (by decide +kernel) (by decide +kernel))⟩
theorem fl_X0_125 : xx_Fl RX0 125 1 2 := ⟨RX1, TX1, 9, tyX1, k_1, by decide, Or.inr ⟨"BeltRounds", xx_oddin (i := 263) (by decide +kernel) (by decide +kernel)⟩⟩
theorem fp_X0_125 : xx_Fp RX0 125 1 2 (.int) := ⟨RX1, TX1, 9, tyX1, k_1, by decide, rfl, by decide +kernel, Or.inr ⟨"BeltRounds", xx_oddin (i := 263) (by decide +kernel) (by decide +kernel)⟩⟩
theorem fl_X1_21 : xx_Fl RX1 21 1 3 := ⟨RX1, TX1, 9, tyX1, k_1, by decide, Or.inl (xx_good1 (i := 204) (by decide +kernel) (by decide +kernel))⟩
theorem ff_X1_21 : xx_Ff RX1 21 1 3 (.array .int) := ⟨RX1, TX1, 9, tyX1, k_1, by decide, rfl, rfl, by decide +kernel, xx_good1 (i := 204) (by decide +kernel) (by decide +kernel)⟩
theorem fl_X1_25 : xx_Fl RX1 25 1 4 := ⟨RX1, TX1, 9, tyX1, k_1, by decide, Or.inl (xx_good1 (i := 205) (by decide +kernel) (by decide +kernel))⟩
theorem ff_X1_25 : xx_Ff RX1 25 1 4 (.array .int) := ⟨RX1, TX1, 9, tyX1, k_1, by decide, rfl, rfl, by decide +kernel, xx_good1 (i := 205) (by decide +kernel) (by decide +kernel)⟩
theorem fl_X1_28 : xx_Fl RX1 28 1 5 := ⟨RX1, TX1, 9, tyX1, k_1, by decide, Or.inl (xx_good1 (i := 206) (by decide +kernel) (by decide +kernel))⟩
theorem fp_X1_28 : xx_Fp RX1 28 1 5 (.int) := ⟨RX1, TX1, 9, tyX1, k_1, by decide, rfl, by decide +kernel, Or.inl (xx_good1 (i := 206) (by decide +kernel) (by decide +kernel))⟩
theorem fl_X1_31 : xx_Fl RX1 31 1 6 := ⟨RX1, TX1, 9, tyX1, k_1, by decide, Or.inl (xx_good1 (i := 207) (by decide +kernel) (by decide +kernel))⟩
theorem ff_X1_31 : xx_Ff RX1 31 1 6 (.array .int) := ⟨RX1, TX1, 9, tyX1, k_1, by decide, rfl, rfl, by decide +kernel, xx_good1 (i := 207) (by decide +kernel) (by decide +kernel)⟩
theorem fl_X1_34 : xx_Fl RX1 34 1 7 := ⟨RX1, TX1, 9, tyX1, k_1, by decide, Or.inl (xx_good1 (i := 208) (by decide +kernel) (by decide +kernel))⟩
theorem ff_X1_34 : xx_Ff RX1 34 1 7 (.array .int) := ⟨RX1, TX1, 9, tyX1, k_1, by decide, rfl, rfl, by decide +kernel, xx_good1 (i := 208) (by decide +kernel) (by decide +kernel)⟩
theorem fl_X1_37 : xx_Fl RX1 37 1 8 := ⟨RX1, TX1, 9, tyX1, k_1, by decide, Or.inl (xx_good1 (i := 209) (by decide +kernel) (by decide +kernel))⟩
theorem ff_X1_37 : xx_Ff RX1 37 1 8 (.array .int) := ⟨RX1, TX1, 9, tyX1, k_1, by decide, rfl, rfl, by decide +kernel, xx_good1 (i := 209) (by decide +kernel) (by decide +kernel)⟩
theorem fl_X6_10 : xx_Fl RX6 10 5 0 := ⟨RX6, TX6, 6, tyX6, k_5, by decide, Or.inl (xx_good1 (i := 229) (by decide +kernel) (by decide +kernel))⟩
theorem ff_X6_10 : xx_Ff RX6 10 5 0 (.object "BeltRounds$Reader") := ⟨RX6, TX6, 6, tyX6, k_5, by decide, rfl, rfl, by decide +kernel, xx_good1 (i := 229) (by decide +kernel) (by decide +kernel)⟩
theorem fl_X6_20 : xx_Fl RX6 20 5 1 := ⟨RX6, TX6, 6, tyX6, k_5, by decide, Or.inl (xx_good1 (i := 230) (by decide +kernel) (by decide +kernel))⟩
theorem ff_X6_20 : xx_Ff RX6 20 5 1 (.object "BeltRounds$Tape") := ⟨RX6, TX6, 6, tyX6, k_5, by decide, rfl, rfl, by decide +kernel, xx_good1 (i := 230) (by decide +kernel) (by decide +kernel)⟩
theorem fl_X6_24 : xx_Fl RX6 24 5 2 := ⟨RX6, TX6, 6, tyX6, k_5, by decide, Or.inl (xx_good1 (i := 231) (by decide +kernel) (by decide +kernel))⟩
theorem ff_X6_24 : xx_Ff RX6 24 5 2 (.object "BeltRounds$Rules") := ⟨RX6, TX6, 6, tyX6, k_5, by decide, rfl, rfl, by decide +kernel, xx_good1 (i := 231) (by decide +kernel) (by decide +kernel)⟩
theorem fl_X6_31 : xx_Fl RX6 31 5 3 := ⟨RX6, TX6, 6, tyX6, k_5, by decide, Or.inl (xx_good1 (i := 232) (by decide +kernel) (by decide +kernel))⟩
theorem ff_X6_31 : xx_Ff RX6 31 5 3 (.object "BeltRounds$Field") := ⟨RX6, TX6, 6, tyX6, k_5, by decide, rfl, rfl, by decide +kernel, xx_good1 (i := 232) (by decide +kernel) (by decide +kernel)⟩
theorem fl_X6_35 : xx_Fl RX6 35 5 4 := ⟨RX6, TX6, 6, tyX6, k_5, by decide, Or.inl (xx_good1 (i := 233) (by decide +kernel) (by decide +kernel))⟩
theorem ff_X6_35 : xx_Ff RX6 35 5 4 (.object "BeltRounds$Field") := ⟨RX6, TX6, 6, tyX6, k_5, by decide, rfl, rfl, by decide +kernel, xx_good1 (i := 233) (by decide +kernel) (by decide +kernel)⟩
theorem fl_X6_41 : xx_Fl RX6 41 5 5 := ⟨RX6, TX6, 6, tyX6, k_5, by decide, Or.inl (xx_good1 (i := 234) (by decide +kernel) (by decide +kernel))⟩
theorem ff_X6_41 : xx_Ff RX6 41 5 5 (.object "BeltRounds$Pairing") := ⟨RX6, TX6, 6, tyX6, k_5, by decide, rfl, rfl, by decide +kernel, xx_good1 (i := 234) (by decide +kernel) (by decide +kernel)⟩
theorem ml_L_183 : Cond.methodLink RL 183 yX6_wrestlers ∈ xx_T := xx_good2 (i := 8) (by decide +kernel) (by decide +kernel)
theorem ml_L_224 : Cond.methodLink RL 224 yX6_wrestlersIn ∈ xx_T := xx_good2 (i := 12) (by decide +kernel) (by decide +kernel)
theorem ml_X6_94 : Cond.methodLink RX6 94 yX0_countIn ∈ xx_T := xx_good2 (i := 16) (by decide +kernel) (by decide +kernel)
theorem ml_X0_75 : Cond.methodLink RX0 75 yX0_of ∈ xx_T := xx_good2 (i := 20) (by decide +kernel) (by decide +kernel)
theorem ml_X0_71 : Cond.methodLink RX0 71 yX0_hasCount ∈ xx_T := xx_good2 (i := 24) (by decide +kernel) (by decide +kernel)
theorem ml_L_209 : Cond.methodLink RL 209 yX6_rounds ∈ xx_T := xx_good2 (i := 28) (by decide +kernel) (by decide +kernel)
theorem ml_L_236 : Cond.methodLink RL 236 yX6_bouts ∈ xx_T := xx_good2 (i := 32) (by decide +kernel) (by decide +kernel)
theorem ml_L_233 : Cond.methodLink RL 233 yX6_openBouts ∈ xx_T := xx_good2 (i := 36) (by decide +kernel) (by decide +kernel)
theorem ml_X6_106 : Cond.methodLink RX6 106 yX0_countOpen ∈ xx_T := xx_good2 (i := 40) (by decide +kernel) (by decide +kernel)
theorem ml_X0_85 : Cond.methodLink RX0 85 yX0_outcomeIn ∈ xx_T := xx_good2 (i := 44) (by decide +kernel) (by decide +kernel)
theorem ml_X0_82 : Cond.methodLink RX0 82 yX0_hasBout ∈ xx_T := xx_good2 (i := 48) (by decide +kernel) (by decide +kernel)
theorem ml_L_200 : Cond.methodLink RL 200 yX6_pointsOf ∈ xx_T := xx_good2 (i := 52) (by decide +kernel) (by decide +kernel)
theorem ml_X6_109 : Cond.methodLink RX6 109 yX6_needWrestler ∈ xx_T := xx_good2 (i := 56) (by decide +kernel) (by decide +kernel)
theorem ml_X6_126 : Cond.methodLink RX6 126 yX0_hasWrestler ∈ xx_T := xx_good2 (i := 60) (by decide +kernel) (by decide +kernel)
theorem cl_X6_130 : Cond.classLink RX6 130 "java/lang/IndexOutOfBoundsException" ∈ xx_T := xx_good2 (i := 64) (by decide +kernel) (by decide +kernel)
theorem ins_java_lang_IndexOutOfBoundsException : Cond.instantiable "java/lang/IndexOutOfBoundsException" 6 ∈ xx_T := xx_good2 (i := 65) (by decide +kernel) (by decide +kernel)
theorem ins_java_lang_Throwable : Cond.instantiable "java/lang/Throwable" 6 ∈ xx_T := xx_good2 (i := 103) (by decide +kernel) (by decide +kernel)
theorem ml_X6_134 : Cond.methodLink RX6 134 ⟨"java/lang/IndexOutOfBoundsException", "<init>", "(Ljava/lang/String;)V"⟩ ∈ xx_T := xx_good2 (i := 106) (by decide +kernel) (by decide +kernel)
theorem ml_X6_112 : Cond.methodLink RX6 112 yX0_of ∈ xx_T := xx_good2 (i := 131) (by decide +kernel) (by decide +kernel)
theorem ml_L_185 : Cond.methodLink RL 185 yX6_winsOf ∈ xx_T := xx_good2 (i := 132) (by decide +kernel) (by decide +kernel)
theorem ml_L_212 : Cond.methodLink RL 212 yX6_drawsOf ∈ xx_T := xx_good2 (i := 136) (by decide +kernel) (by decide +kernel)
theorem ml_L_188 : Cond.methodLink RL 188 yX6_lossesOf ∈ xx_T := xx_good2 (i := 140) (by decide +kernel) (by decide +kernel)
theorem ml_L_215 : Cond.methodLink RL 215 yX6_restsOf ∈ xx_T := xx_good2 (i := 144) (by decide +kernel) (by decide +kernel)
theorem ml_L_191 : Cond.methodLink RL 191 yX6_beltsOf ∈ xx_T := xx_good2 (i := 148) (by decide +kernel) (by decide +kernel)
theorem ml_L_218 : Cond.methodLink RL 218 yX6_floatsOf ∈ xx_T := xx_good2 (i := 152) (by decide +kernel) (by decide +kernel)
theorem ml_L_206 : Cond.methodLink RL 206 yX6_pointsOfMet ∈ xx_T := xx_good2 (i := 156) (by decide +kernel) (by decide +kernel)
theorem ml_X6_116 : Cond.methodLink RX6 116 yX0_pointsOfRivals ∈ xx_T := xx_good2 (i := 160) (by decide +kernel) (by decide +kernel)
theorem ml_X0_102 : Cond.methodLink RX0 102 yX0_meetings ∈ xx_T := xx_good2 (i := 164) (by decide +kernel) (by decide +kernel)
theorem ml_X0_78 : Cond.methodLink RX0 78 yX0_hasWrestler ∈ xx_T := xx_good2 (i := 168) (by decide +kernel) (by decide +kernel)
theorem ml_L_203 : Cond.methodLink RL 203 yX6_rankOf ∈ xx_T := xx_good2 (i := 169) (by decide +kernel) (by decide +kernel)
theorem ml_X6_120 : Cond.methodLink RX6 120 yX0_putInOrder ∈ xx_T := xx_good2 (i := 173) (by decide +kernel) (by decide +kernel)
theorem ml_X0_105 : Cond.methodLink RX0 105 yX0_pointsOfRivals ∈ xx_T := xx_good2 (i := 177) (by decide +kernel) (by decide +kernel)
theorem ml_X0_108 : Cond.methodLink RX0 108 yX0_standsAhead ∈ xx_T := xx_good2 (i := 178) (by decide +kernel) (by decide +kernel)
theorem ml_X6_123 : Cond.methodLink RX6 123 yX0_placeOf ∈ xx_T := xx_good2 (i := 182) (by decide +kernel) (by decide +kernel)
theorem ml_L_194 : Cond.methodLink RL 194 yX6_isIn ∈ xx_T := xx_good2 (i := 186) (by decide +kernel) (by decide +kernel)
theorem ml_L_221 : Cond.methodLink RL 221 yX6_wrestlerAt ∈ xx_T := xx_good2 (i := 190) (by decide +kernel) (by decide +kernel)
theorem ml_X6_135 : Cond.methodLink RX6 135 yX0_atPlace ∈ xx_T := xx_good2 (i := 195) (by decide +kernel) (by decide +kernel)
theorem ml_L_197 : Cond.methodLink RL 197 yX6_timesMet ∈ xx_T := xx_good2 (i := 199) (by decide +kernel) (by decide +kernel)
theorem ml_X6_138 : Cond.methodLink RX6 138 yX0_meetings ∈ xx_T := xx_good2 (i := 203) (by decide +kernel) (by decide +kernel)
theorem ml_L_243 : Cond.methodLink RL 243 yX6_ruledOutcome ∈ xx_T := xx_good2 (i := 204) (by decide +kernel) (by decide +kernel)
theorem ml_X6_141 : Cond.methodLink RX6 141 yX6_needBout ∈ xx_T := xx_good2 (i := 208) (by decide +kernel) (by decide +kernel)
theorem ml_X6_239 : Cond.methodLink RX6 239 yX0_hasBout ∈ xx_T := xx_good2 (i := 212) (by decide +kernel) (by decide +kernel)
theorem ml_X6_155 : Cond.methodLink RX6 155 yX3_outcomeFor ∈ xx_T := xx_good2 (i := 214) (by decide +kernel) (by decide +kernel)
theorem ml_X3_47 : Cond.methodLink RX3 47 yX3_holds ∈ xx_T := xx_good2 (i := 218) (by decide +kernel) (by decide +kernel)
theorem ml_X3_51 : Cond.methodLink RX3 51 yX3_doStep ∈ xx_T := xx_good2 (i := 222) (by decide +kernel) (by decide +kernel)
theorem ml_X3_59 : Cond.methodLink RX3 59 yX3_push ∈ xx_T := xx_good2 (i := 226) (by decide +kernel) (by decide +kernel)
theorem ml_X3_68 : Cond.methodLink RX3 68 yX0_redIn ∈ xx_T := xx_good2 (i := 230) (by decide +kernel) (by decide +kernel)
theorem ml_X3_72 : Cond.methodLink RX3 72 yX0_of ∈ xx_T := xx_good2 (i := 234) (by decide +kernel) (by decide +kernel)
theorem ml_X3_76 : Cond.methodLink RX3 76 yX0_blueIn ∈ xx_T := xx_good2 (i := 235) (by decide +kernel) (by decide +kernel)
theorem ml_X3_79 : Cond.methodLink RX3 79 yX0_meetings ∈ xx_T := xx_good2 (i := 239) (by decide +kernel) (by decide +kernel)
theorem ml_X3_55 : Cond.methodLink RX3 55 yX3_pop ∈ xx_T := xx_good3 (i := 0) (by decide +kernel) (by decide +kernel)
theorem ml_X3_82 : Cond.methodLink RX3 82 yX3_join ∈ xx_T := xx_good3 (i := 4) (by decide +kernel) (by decide +kernel)
theorem ml_X3_86 : Cond.methodLink RX3 86 yJ9_min_7cf53 ∈ xx_T := xx_good3 (i := 7) (by decide +kernel) (by decide +kernel)
theorem ml_X3_91 : Cond.methodLink RX3 91 yJ9_max_7cf53 ∈ xx_T := xx_good3 (i := 10) (by decide +kernel) (by decide +kernel)
theorem ml_L_160 : Cond.methodLink RL 160 yX6_tellByRules ∈ xx_T := xx_good3 (i := 13) (by decide +kernel) (by decide +kernel)
theorem cl_X6_51 : Cond.classLink RX6 51 "java/lang/IllegalStateException" ∈ xx_T := xx_good3 (i := 17) (by decide +kernel) (by decide +kernel)
theorem ins_java_lang_IllegalStateException : Cond.instantiable "java/lang/IllegalStateException" 6 ∈ xx_T := xx_good3 (i := 18) (by decide +kernel) (by decide +kernel)
theorem ml_X6_55 : Cond.methodLink RX6 55 ⟨"java/lang/IllegalStateException", "<init>", "(Ljava/lang/String;)V"⟩ ∈ xx_T := xx_good3 (i := 27) (by decide +kernel) (by decide +kernel)
theorem ml_X6_190 : Cond.methodLink RX6 190 yX6_tellOpenBouts ∈ xx_T := xx_good3 (i := 33) (by decide +kernel) (by decide +kernel)
theorem ml_X6_150 : Cond.methodLink RX6 150 yX0_outcomeIn ∈ xx_T := xx_good3 (i := 37) (by decide +kernel) (by decide +kernel)
theorem ml_X6_184 : Cond.methodLink RX6 184 yX0_tellOutcome ∈ xx_T := xx_good3 (i := 38) (by decide +kernel) (by decide +kernel)
theorem ml_X0_136 : Cond.methodLink RX0 136 yX0_tellDraw ∈ xx_T := xx_good3 (i := 42) (by decide +kernel) (by decide +kernel)
theorem ml_X0_126 : Cond.methodLink RX0 126 yX0_add ∈ xx_T := xx_good3 (i := 46) (by decide +kernel) (by decide +kernel)
theorem ml_X0_61 : Cond.methodLink RX0 61 yX0_set ∈ xx_T := xx_good3 (i := 50) (by decide +kernel) (by decide +kernel)
theorem ml_L_227 : Cond.methodLink RL 227 yX6_leaderAfter ∈ xx_T := xx_good3 (i := 54) (by decide +kernel) (by decide +kernel)
theorem ml_X6_204 : Cond.methodLink RX6 204 yX6_needRoundsAhead ∈ xx_T := xx_good3 (i := 58) (by decide +kernel) (by decide +kernel)
theorem cl_X6_62 : Cond.classLink RX6 62 "java/lang/IllegalArgumentException" ∈ xx_T := xx_good3 (i := 61) (by decide +kernel) (by decide +kernel)
theorem ins_java_lang_IllegalArgumentException : Cond.instantiable "java/lang/IllegalArgumentException" 6 ∈ xx_T := xx_good3 (i := 62) (by decide +kernel) (by decide +kernel)
theorem ml_X6_66 : Cond.methodLink RX6 66 ⟨"java/lang/IllegalArgumentException", "<init>", "(Ljava/lang/String;)V"⟩ ∈ xx_T := xx_good3 (i := 71) (by decide +kernel) (by decide +kernel)
theorem ml_X6_209 : Cond.methodLink RX6 209 yX6_playTrial ∈ xx_T := xx_good3 (i := 78) (by decide +kernel) (by decide +kernel)
theorem ml_X6_252 : Cond.methodLink RX6 252 yX0_copyFrom ∈ xx_T := xx_good3 (i := 82) (by decide +kernel) (by decide +kernel)
theorem ml_X0_65 : Cond.methodLink RX0 65 ⟨"java/lang/System", "arraycopy", "(Ljava/lang/Object;ILjava/lang/Object;II)V"⟩ ∈ xx_T := xx_good3 (i := 86) (by decide +kernel) (by decide +kernel)
theorem ml_X6_244 : Cond.methodLink RX6 244 yX0_canPair ∈ xx_T := xx_good3 (i := 89) (by decide +kernel) (by decide +kernel)
theorem ml_X0_89 : Cond.methodLink RX0 89 yX0_countOpen ∈ xx_T := xx_good3 (i := 93) (by decide +kernel) (by decide +kernel)
theorem ml_X0_93 : Cond.methodLink RX0 93 yX0_countIn ∈ xx_T := xx_good3 (i := 94) (by decide +kernel) (by decide +kernel)
theorem ml_X6_172 : Cond.methodLink RX6 172 yX1_find ∈ xx_T := xx_good3 (i := 95) (by decide +kernel) (by decide +kernel)
theorem ml_X1_40 : Cond.methodLink RX1 40 yX1_lineUp ∈ xx_T := xx_good3 (i := 99) (by decide +kernel) (by decide +kernel)
theorem ml_X1_68 : Cond.methodLink RX1 68 yX0_putInOrder ∈ xx_T := xx_good3 (i := 103) (by decide +kernel) (by decide +kernel)
theorem ml_X1_76 : Cond.methodLink RX1 76 yX0_atPlace ∈ xx_T := xx_good3 (i := 104) (by decide +kernel) (by decide +kernel)
theorem ml_X1_79 : Cond.methodLink RX1 79 yX0_of ∈ xx_T := xx_good3 (i := 105) (by decide +kernel) (by decide +kernel)
theorem ml_X1_44 : Cond.methodLink RX1 44 yX1_takeOutResting ∈ xx_T := xx_good3 (i := 106) (by decide +kernel) (by decide +kernel)
theorem ml_X1_47 : Cond.methodLink RX1 47 yX1_noteMeetings ∈ xx_T := xx_good3 (i := 110) (by decide +kernel) (by decide +kernel)
theorem ml_X1_82 : Cond.methodLink RX1 82 yX0_meetings ∈ xx_T := xx_good3 (i := 114) (by decide +kernel) (by decide +kernel)
theorem ml_X1_50 : Cond.methodLink RX1 50 yJ7_fill_53178 ∈ xx_T := xx_good3 (i := 115) (by decide +kernel) (by decide +kernel)
theorem ml_X1_56 : Cond.methodLink RX1 56 yX1_fewestRematches ∈ xx_T := xx_good3 (i := 118) (by decide +kernel) (by decide +kernel)
theorem ml_X1_93 : Cond.methodLink RX1 93 yX1_reckonFewest ∈ xx_T := xx_good3 (i := 122) (by decide +kernel) (by decide +kernel)
theorem ml_X1_60 : Cond.methodLink RX1 60 yX1_firstOf ∈ xx_T := xx_good3 (i := 126) (by decide +kernel) (by decide +kernel)
theorem ml_X1_101 : Cond.methodLink RX1 101 yJ6_numberOfTrailingZeros_0f7a4 ∈ xx_T := xx_good3 (i := 129) (by decide +kernel) (by decide +kernel)
theorem kc_J6_264 : Cond.constant RJ6 264 65536 ∈ xx_T := xx_good3 (i := 132) (by decide +kernel) (by decide +kernel)
theorem ml_X1_96 : Cond.methodLink RX1 96 yJ9_min_7cf53 ∈ xx_T := xx_good3 (i := 133) (by decide +kernel) (by decide +kernel)
theorem ml_X1_85 : Cond.methodLink RX1 85 yX1_has ∈ xx_T := xx_good3 (i := 134) (by decide +kernel) (by decide +kernel)
theorem ml_X1_89 : Cond.methodLink RX1 89 yX1_rematchesWith ∈ xx_T := xx_good3 (i := 137) (by decide +kernel) (by decide +kernel)
theorem ml_X1_64 : Cond.methodLink RX1 64 yX1_secondFor ∈ xx_T := xx_good3 (i := 141) (by decide +kernel) (by decide +kernel)
theorem ml_X6_176 : Cond.methodLink RX6 176 yX0_startRound ∈ xx_T := xx_good3 (i := 145) (by decide +kernel) (by decide +kernel)
theorem ml_X0_116 : Cond.methodLink RX0 116 yX1_aheadIn ∈ xx_T := xx_good3 (i := 149) (by decide +kernel) (by decide +kernel)
theorem ml_X0_119 : Cond.methodLink RX0 119 yX1_behindIn ∈ xx_T := xx_good3 (i := 153) (by decide +kernel) (by decide +kernel)
theorem ml_X0_122 : Cond.methodLink RX0 122 yX0_startBout ∈ xx_T := xx_good3 (i := 157) (by decide +kernel) (by decide +kernel)
theorem ml_X0_129 : Cond.methodLink RX0 129 yX0_takesRedAhead ∈ xx_T := xx_good3 (i := 161) (by decide +kernel) (by decide +kernel)
theorem ml_X0_132 : Cond.methodLink RX0 132 yX0_addMeeting ∈ xx_T := xx_good3 (i := 165) (by decide +kernel) (by decide +kernel)
theorem ml_L_230 : Cond.methodLink RL 230 yX6_pointsAfter ∈ xx_T := xx_good3 (i := 169) (by decide +kernel) (by decide +kernel)
theorem ml_L_179 : Cond.methodLink RL 179 yX6_digest ∈ xx_T := xx_good3 (i := 173) (by decide +kernel) (by decide +kernel)
theorem kl_X6_212 : Cond.constantLong RX6 212 967 ∈ xx_T := xx_good3 (i := 177) (by decide +kernel) (by decide +kernel)
theorem kl_X6_214 : Cond.constantLong RX6 214 31 ∈ xx_T := xx_good3 (i := 178) (by decide +kernel) (by decide +kernel)
theorem ml_X6_216 : Cond.methodLink RX6 216 yX6_wrestlers ∈ xx_T := xx_good3 (i := 179) (by decide +kernel) (by decide +kernel)
theorem ml_X6_218 : Cond.methodLink RX6 218 yX6_wrestlersIn ∈ xx_T := xx_good3 (i := 180) (by decide +kernel) (by decide +kernel)
theorem ml_X6_221 : Cond.methodLink RX6 221 yX6_rules ∈ xx_T := xx_good3 (i := 181) (by decide +kernel) (by decide +kernel)
theorem ml_X6_223 : Cond.methodLink RX6 223 yX6_rounds ∈ xx_T := xx_good3 (i := 185) (by decide +kernel) (by decide +kernel)
theorem ml_X6_225 : Cond.methodLink RX6 225 yX6_tapeBytes ∈ xx_T := xx_good3 (i := 186) (by decide +kernel) (by decide +kernel)
theorem ml_X6_228 : Cond.methodLink RX6 228 yX6_bouts ∈ xx_T := xx_good3 (i := 190) (by decide +kernel) (by decide +kernel)
theorem ml_X6_230 : Cond.methodLink RX6 230 yX6_openBouts ∈ xx_T := xx_good3 (i := 191) (by decide +kernel) (by decide +kernel)
theorem ml_X6_233 : Cond.methodLink RX6 233 yX6_digestWrestler ∈ xx_T := xx_good3 (i := 192) (by decide +kernel) (by decide +kernel)
theorem ml_X6_144 : Cond.methodLink RX6 144 yX0_redIn ∈ xx_T := xx_good3 (i := 196) (by decide +kernel) (by decide +kernel)
theorem ml_X6_147 : Cond.methodLink RX6 147 yX0_blueIn ∈ xx_T := xx_good3 (i := 197) (by decide +kernel) (by decide +kernel)
theorem ml_L_157 : Cond.methodLink RL 157 yX7_tellAll ∈ xx_T := xx_good3 (i := 198) (by decide +kernel) (by decide +kernel)
theorem ml_X7_106 : Cond.methodLink RX7 106 yX7_ruled ∈ xx_T := xx_good3 (i := 202) (by decide +kernel) (by decide +kernel)
theorem ml_X7_102 : Cond.methodLink RX7 102 yX8_of ∈ xx_T := xx_good3 (i := 206) (by decide +kernel) (by decide +kernel)
theorem ml_X8_16 : Cond.methodLink RX8 16 yX7_of ∈ xx_T := xx_good3 (i := 210) (by decide +kernel) (by decide +kernel)
theorem ml_X7_57 : Cond.methodLink RX7 57 yX7_points ∈ xx_T := xx_good3 (i := 214) (by decide +kernel) (by decide +kernel)
theorem ml_X7_49 : Cond.methodLink RX7 49 yX7_many ∈ xx_T := xx_good3 (i := 218) (by decide +kernel) (by decide +kernel)
theorem ml_X7_53 : Cond.methodLink RX7 53 yX7_rested ∈ xx_T := xx_good3 (i := 222) (by decide +kernel) (by decide +kernel)
theorem ml_X7_60 : Cond.methodLink RX7 60 yX7_belts ∈ xx_T := xx_good3 (i := 226) (by decide +kernel) (by decide +kernel)
theorem ml_X7_63 : Cond.methodLink RX7 63 yX7_floats ∈ xx_T := xx_good3 (i := 230) (by decide +kernel) (by decide +kernel)
theorem ml_X8_22 : Cond.methodLink RX8 22 yX7_met ∈ xx_T := xx_good3 (i := 234) (by decide +kernel) (by decide +kernel)
theorem ml_X8_30 : Cond.methodLink RX8 30 yX8_of ∈ xx_T := xx_good3 (i := 238) (by decide +kernel) (by decide +kernel)
theorem ml_X8_36 : Cond.methodLink RX8 36 yX8_ofTwo ∈ xx_T := xx_good3 (i := 239) (by decide +kernel) (by decide +kernel)
theorem ins_BeltRoundsLaw_Tree : Cond.instantiable RX8 4 ∈ xx_T := xx_good4 (i := 2) (by decide +kernel) (by decide +kernel)
theorem ml_L_250 : Cond.methodLink RL 250 yX7_isSame ∈ xx_T := xx_good4 (i := 4) (by decide +kernel) (by decide +kernel)
theorem ml_X7_124 : Cond.methodLink RX7 124 yX7_latest ∈ xx_T := xx_good4 (i := 8) (by decide +kernel) (by decide +kernel)
theorem cl_X7_29 : Cond.classLink RX7 29 "[I" ∈ xx_T := xx_good4 (i := 12) (by decide +kernel) (by decide +kernel)
theorem ml_X7_45 : Cond.methodLink RX7 45 yX7_with ∈ xx_T := xx_good4 (i := 14) (by decide +kernel) (by decide +kernel)
theorem ml_X7_128 : Cond.methodLink RX7 128 yX6_wrestlers ∈ xx_T := xx_good4 (i := 17) (by decide +kernel) (by decide +kernel)
theorem ml_X7_132 : Cond.methodLink RX7 132 yX6_wrestlersIn ∈ xx_T := xx_good4 (i := 18) (by decide +kernel) (by decide +kernel)
theorem ml_X7_73 : Cond.methodLink RX7 73 yX7_in ∈ xx_T := xx_good4 (i := 19) (by decide +kernel) (by decide +kernel)
theorem ml_X7_135 : Cond.methodLink RX7 135 yX6_rules ∈ xx_T := xx_good4 (i := 23) (by decide +kernel) (by decide +kernel)
theorem ml_X7_138 : Cond.methodLink RX7 138 yX6_rounds ∈ xx_T := xx_good4 (i := 24) (by decide +kernel) (by decide +kernel)
theorem ml_X7_140 : Cond.methodLink RX7 140 yX6_bouts ∈ xx_T := xx_good4 (i := 25) (by decide +kernel) (by decide +kernel)
theorem ml_X7_143 : Cond.methodLink RX7 143 yX6_openBouts ∈ xx_T := xx_good4 (i := 26) (by decide +kernel) (by decide +kernel)
theorem ml_X7_69 : Cond.methodLink RX7 69 yX7_open ∈ xx_T := xx_good4 (i := 27) (by decide +kernel) (by decide +kernel)
theorem ml_X7_76 : Cond.methodLink RX7 76 yX7_order ∈ xx_T := xx_good4 (i := 31) (by decide +kernel) (by decide +kernel)
theorem ml_X7_66 : Cond.methodLink RX7 66 yX7_ofMet ∈ xx_T := xx_good4 (i := 35) (by decide +kernel) (by decide +kernel)
theorem ml_X7_146 : Cond.methodLink RX7 146 yX6_wrestlerAt ∈ xx_T := xx_good4 (i := 39) (by decide +kernel) (by decide +kernel)
theorem ml_X7_149 : Cond.methodLink RX7 149 yX6_rankOf ∈ xx_T := xx_good4 (i := 40) (by decide +kernel) (by decide +kernel)
theorem ml_X7_152 : Cond.methodLink RX7 152 yX6_strengthOf ∈ xx_T := xx_good4 (i := 41) (by decide +kernel) (by decide +kernel)
theorem ml_X7_155 : Cond.methodLink RX7 155 yX6_pointsOf ∈ xx_T := xx_good4 (i := 45) (by decide +kernel) (by decide +kernel)
theorem ml_X7_158 : Cond.methodLink RX7 158 yX6_winsOf ∈ xx_T := xx_good4 (i := 46) (by decide +kernel) (by decide +kernel)
theorem ml_X7_161 : Cond.methodLink RX7 161 yX6_drawsOf ∈ xx_T := xx_good4 (i := 47) (by decide +kernel) (by decide +kernel)
theorem ml_X7_164 : Cond.methodLink RX7 164 yX6_lossesOf ∈ xx_T := xx_good4 (i := 48) (by decide +kernel) (by decide +kernel)
theorem ml_X7_167 : Cond.methodLink RX7 167 yX6_restsOf ∈ xx_T := xx_good4 (i := 49) (by decide +kernel) (by decide +kernel)
theorem ml_X7_170 : Cond.methodLink RX7 170 yX6_beltsOf ∈ xx_T := xx_good4 (i := 50) (by decide +kernel) (by decide +kernel)
theorem ml_X7_173 : Cond.methodLink RX7 173 yX6_floatsOf ∈ xx_T := xx_good4 (i := 51) (by decide +kernel) (by decide +kernel)
theorem ml_X7_176 : Cond.methodLink RX7 176 yX6_pointsOfMet ∈ xx_T := xx_good4 (i := 52) (by decide +kernel) (by decide +kernel)
theorem ml_X7_179 : Cond.methodLink RX7 179 yX6_isIn ∈ xx_T := xx_good4 (i := 53) (by decide +kernel) (by decide +kernel)
theorem ml_X7_182 : Cond.methodLink RX7 182 yX6_timesMet ∈ xx_T := xx_good4 (i := 54) (by decide +kernel) (by decide +kernel)
theorem ml_X7_83 : Cond.methodLink RX7 83 yX7_met ∈ xx_T := xx_good4 (i := 55) (by decide +kernel) (by decide +kernel)
theorem ml_X7_185 : Cond.methodLink RX7 185 yX6_redOf ∈ xx_T := xx_good4 (i := 56) (by decide +kernel) (by decide +kernel)
theorem ml_X7_188 : Cond.methodLink RX7 188 yX6_blueOf ∈ xx_T := xx_good4 (i := 60) (by decide +kernel) (by decide +kernel)
theorem ml_X7_191 : Cond.methodLink RX7 191 yX6_ruledOutcome ∈ xx_T := xx_good4 (i := 64) (by decide +kernel) (by decide +kernel)
theorem ml_X7_194 : Cond.methodLink RX7 194 yX6_outcomeOf ∈ xx_T := xx_good4 (i := 65) (by decide +kernel) (by decide +kernel)
theorem ml_X7_197 : Cond.methodLink RX7 197 yX6_opponentOf ∈ xx_T := xx_good4 (i := 70) (by decide +kernel) (by decide +kernel)
theorem ml_X6_159 : Cond.methodLink RX6 159 yX0_rivalOf ∈ xx_T := xx_good4 (i := 74) (by decide +kernel) (by decide +kernel)
theorem ml_X0_96 : Cond.methodLink RX0 96 yX0_redIn ∈ xx_T := xx_good4 (i := 78) (by decide +kernel) (by decide +kernel)
theorem ml_X0_99 : Cond.methodLink RX0 99 yX0_blueIn ∈ xx_T := xx_good4 (i := 79) (by decide +kernel) (by decide +kernel)
theorem ml_X7_200 : Cond.methodLink RX7 200 yX6_restingOne ∈ xx_T := xx_good4 (i := 81) (by decide +kernel) (by decide +kernel)
theorem ml_X7_203 : Cond.methodLink RX7 203 yX6_meanPoints ∈ xx_T := xx_good4 (i := 86) (by decide +kernel) (by decide +kernel)
theorem ml_L_35 : Cond.methodLink RL 35 yL_below ∈ xx_T := xx_good4 (i := 90) (by decide +kernel) (by decide +kernel)
theorem kc_L_7 : Cond.constant RL 7 2147483647 ∈ xx_T := xx_good4 (i := 93) (by decide +kernel) (by decide +kernel)
theorem ml_L_66 : Cond.methodLink RL 66 yL_cell ∈ xx_T := xx_good4 (i := 94) (by decide +kernel) (by decide +kernel)
theorem kc_L_8 : Cond.constant RL 8 790386105 ∈ xx_T := xx_good4 (i := 97) (by decide +kernel) (by decide +kernel)
theorem ml_L_171 : Cond.methodLink RL 171 yL_taught ∈ xx_T := xx_good4 (i := 98) (by decide +kernel) (by decide +kernel)
theorem ml_L_9 : Cond.methodLink RL 9 yJ0_length_8abf5 ∈ xx_T := xx_good4 (i := 101) (by decide +kernel) (by decide +kernel)
theorem ml_J0_335 : Cond.methodLink RJ0 335 yJ0_coder_7d493 ∈ xx_T := xx_good4 (i := 105) (by decide +kernel) (by decide +kernel)
theorem sl_J0_38 : Cond.fieldLink RJ0 38 "java/lang/String" "COMPACT_STRINGS" "Z" ∈ xx_T := xx_good4 (i := 109) (by decide +kernel) (by decide +kernel)
theorem ml_L_15 : Cond.methodLink RL 15 yJ0_charAt_5068e ∈ xx_T := xx_good4 (i := 111) (by decide +kernel) (by decide +kernel)
theorem ml_J0_492 : Cond.methodLink RJ0 492 yJ0_isLatin1_aae02 ∈ xx_T := xx_good4 (i := 115) (by decide +kernel) (by decide +kernel)
theorem ml_J0_495 : Cond.methodLink RJ0 495 yJ1_charAt_3b067 ∈ xx_T := xx_good4 (i := 119) (by decide +kernel) (by decide +kernel)
theorem ml_J1_9 : Cond.methodLink RJ1 9 yJ0_checkIndex_df160 ∈ xx_T := xx_good4 (i := 122) (by decide +kernel) (by decide +kernel)
theorem sl_J0_1053 : Cond.fieldLink RJ0 1053 "jdk/internal/util/Preconditions" "SIOOBE_FORMATTER" "Ljava/util/function/BiFunction;" ∈ xx_T := xx_good4 (i := 125) (by decide +kernel) (by decide +kernel)
theorem ml_J0_1059 : Cond.methodLink RJ0 1059 yJ3_checkIndex_8e157 ∈ xx_T := xx_good4 (i := 127) (by decide +kernel) (by decide +kernel)
theorem ml_J0_498 : Cond.methodLink RJ0 498 yJ2_charAt_3b067 ∈ xx_T := xx_good4 (i := 130) (by decide +kernel) (by decide +kernel)
theorem ml_J2_67 : Cond.methodLink RJ2 67 yJ2_checkIndex_2214a ∈ xx_T := xx_good4 (i := 133) (by decide +kernel) (by decide +kernel)
theorem ml_J2_48 : Cond.methodLink RJ2 48 yJ2_length_9d52b ∈ xx_T := xx_good4 (i := 136) (by decide +kernel) (by decide +kernel)
theorem ml_J2_414 : Cond.methodLink RJ2 414 yJ0_checkIndex_df160 ∈ xx_T := xx_good4 (i := 139) (by decide +kernel) (by decide +kernel)
theorem ml_J2_71 : Cond.methodLink RJ2 71 yJ2_getChar_3b067 ∈ xx_T := xx_good4 (i := 140) (by decide +kernel) (by decide +kernel)
theorem sl_J2_44 : Cond.fieldLink RJ2 44 "java/lang/StringUTF16" "$assertionsDisabled" "Z" ∈ xx_T := xx_good4 (i := 143) (by decide +kernel) (by decide +kernel)
theorem sl_J2_59 : Cond.fieldLink RJ2 59 "java/lang/StringUTF16" "HI_BYTE_SHIFT" "I" ∈ xx_T := xx_good4 (i := 145) (by decide +kernel) (by decide +kernel)
theorem sl_J2_63 : Cond.fieldLink RJ2 63 "java/lang/StringUTF16" "LO_BYTE_SHIFT" "I" ∈ xx_T := xx_good4 (i := 147) (by decide +kernel) (by decide +kernel)
theorem ml_L_19 : Cond.methodLink RL 19 yX6_feed ∈ xx_T := xx_good4 (i := 149) (by decide +kernel) (by decide +kernel)
theorem ml_X6_58 : Cond.methodLink RX6 58 yX5_append ∈ xx_T := xx_good4 (i := 154) (by decide +kernel) (by decide +kernel)
theorem ml_L_25 : Cond.methodLink RL 25 yX6_trim ∈ xx_T := xx_good4 (i := 158) (by decide +kernel) (by decide +kernel)
theorem ml_L_29 : Cond.methodLink RL 29 yX6_teach ∈ xx_T := xx_good4 (i := 163) (by decide +kernel) (by decide +kernel)
theorem ml_X6_67 : Cond.methodLink RX6 67 yX2_read ∈ xx_T := xx_good4 (i := 167) (by decide +kernel) (by decide +kernel)
theorem ml_X2_48 : Cond.methodLink RX2 48 yX2_begin ∈ xx_T := xx_good4 (i := 171) (by decide +kernel) (by decide +kernel)
theorem ml_X2_90 : Cond.methodLink RX2 90 yX5_scan ∈ xx_T := xx_good4 (i := 175) (by decide +kernel) (by decide +kernel)
theorem ml_X5_35 : Cond.methodLink RX5 35 yX5_behindBlanks ∈ xx_T := xx_good4 (i := 179) (by decide +kernel) (by decide +kernel)
theorem ml_X5_60 : Cond.methodLink RX5 60 yX5_byteAt ∈ xx_T := xx_good4 (i := 183) (by decide +kernel) (by decide +kernel)
theorem ml_X5_39 : Cond.methodLink RX5 39 yX5_endOfToken ∈ xx_T := xx_good4 (i := 187) (by decide +kernel) (by decide +kernel)
theorem ml_X5_63 : Cond.methodLink RX5 63 yX5_isLetter ∈ xx_T := xx_good4 (i := 191) (by decide +kernel) (by decide +kernel)
theorem ml_X5_66 : Cond.methodLink RX5 66 yX5_isDigit ∈ xx_T := xx_good4 (i := 194) (by decide +kernel) (by decide +kernel)
theorem ml_X5_69 : Cond.methodLink RX5 69 yX5_endOfSymbol ∈ xx_T := xx_good4 (i := 197) (by decide +kernel) (by decide +kernel)
theorem ml_X5_72 : Cond.methodLink RX5 72 yJ9_min_7cf53 ∈ xx_T := xx_good4 (i := 201) (by decide +kernel) (by decide +kernel)
theorem ml_X5_42 : Cond.methodLink RX5 42 yX5_signOf ∈ xx_T := xx_good4 (i := 202) (by decide +kernel) (by decide +kernel)
theorem sl_X5_46 : Cond.fieldLink RX5 46 "BeltRounds$Sign" "END" "LBeltRounds$Sign;" ∈ xx_T := xx_good4 (i := 206) (by decide +kernel) (by decide +kernel)
theorem sl_X5_50 : Cond.fieldLink RX5 50 "BeltRounds$Sign" "UNKNOWN" "LBeltRounds$Sign;" ∈ xx_T := xx_good4 (i := 208) (by decide +kernel) (by decide +kernel)
theorem sl_X5_57 : Cond.fieldLink RX5 57 "BeltRounds$Sign" "NUMBER" "LBeltRounds$Sign;" ∈ xx_T := xx_good4 (i := 210) (by decide +kernel) (by decide +kernel)
theorem ml_X5_78 : Cond.methodLink RX5 78 yX5_signWithText ∈ xx_T := xx_good4 (i := 212) (by decide +kernel) (by decide +kernel)
theorem sl_X5_85 : Cond.fieldLinkNest RX5 85 "BeltRounds$Sign" "ALL" "[LBeltRounds$Sign;" "BeltRounds" ∈ xx_N := xx_oddin (i := 996) (by decide +kernel) (by decide +kernel)
theorem ml_X5_92 : Cond.methodLink RX5 92 yX5_isSpelt ∈ xx_T := xx_good4 (i := 218) (by decide +kernel) (by decide +kernel)
theorem ml_X5_96 : Cond.methodLink RX5 96 yJ0_length_8abf5 ∈ xx_T := xx_good4 (i := 222) (by decide +kernel) (by decide +kernel)
theorem ml_X5_101 : Cond.methodLink RX5 101 yJ0_charAt_5068e ∈ xx_T := xx_good4 (i := 223) (by decide +kernel) (by decide +kernel)
theorem sl_X5_82 : Cond.fieldLink RX5 82 "BeltRounds$Sign" "NAME" "LBeltRounds$Sign;" ∈ xx_T := xx_good4 (i := 224) (by decide +kernel) (by decide +kernel)
theorem ml_X2_93 : Cond.methodLink RX2 93 yX3_clear ∈ xx_T := xx_good4 (i := 226) (by decide +kernel) (by decide +kernel)
theorem sl_X2_51 : Cond.fieldLink RX2 51 "BeltRounds$Sign" "END" "LBeltRounds$Sign;" ∈ xx_T := xx_good4 (i := 230) (by decide +kernel) (by decide +kernel)
theorem ml_X2_57 : Cond.methodLink RX2 57 yX2_sees ∈ xx_T := xx_good4 (i := 231) (by decide +kernel) (by decide +kernel)
theorem sl_X2_61 : Cond.fieldLink RX2 61 "BeltRounds$Sign" "WRESTLER" "LBeltRounds$Sign;" ∈ xx_T := xx_good4 (i := 235) (by decide +kernel) (by decide +kernel)
theorem ml_X2_64 : Cond.methodLink RX2 64 yX2_takes ∈ xx_T := xx_good4 (i := 237) (by decide +kernel) (by decide +kernel)
theorem ml_X2_67 : Cond.methodLink RX2 67 yX2_readWrestler ∈ xx_T := xx_good5 (i := 1) (by decide +kernel) (by decide +kernel)
theorem sl_X2_96 : Cond.fieldLink RX2 96 "BeltRounds$Sign" "NAME" "LBeltRounds$Sign;" ∈ xx_T := xx_good5 (i := 5) (by decide +kernel) (by decide +kernel)
theorem ml_X2_99 : Cond.methodLink RX2 99 yX2_checkName ∈ xx_T := xx_good5 (i := 6) (by decide +kernel) (by decide +kernel)
theorem ml_X2_112 : Cond.methodLink RX2 112 yX5_sameText ∈ xx_T := xx_good5 (i := 10) (by decide +kernel) (by decide +kernel)
theorem ml_X5_53 : Cond.methodLink RX5 53 yX5_hasToken ∈ xx_T := xx_good5 (i := 14) (by decide +kernel) (by decide +kernel)
theorem ml_X2_116 : Cond.methodLink RX2 116 yX2_noteError ∈ xx_T := xx_good5 (i := 18) (by decide +kernel) (by decide +kernel)
theorem ml_X2_86 : Cond.methodLink RX2 86 yX5_start ∈ xx_T := xx_good5 (i := 22) (by decide +kernel) (by decide +kernel)
theorem sl_X2_102 : Cond.fieldLink RX2 102 "BeltRounds$Sign" "STRENGTH" "LBeltRounds$Sign;" ∈ xx_T := xx_good5 (i := 26) (by decide +kernel) (by decide +kernel)
theorem sl_X2_105 : Cond.fieldLink RX2 105 "BeltRounds$Sign" "NUMBER" "LBeltRounds$Sign;" ∈ xx_T := xx_good5 (i := 28) (by decide +kernel) (by decide +kernel)
theorem ml_X2_108 : Cond.methodLink RX2 108 yX2_takeNumber ∈ xx_T := xx_good5 (i := 29) (by decide +kernel) (by decide +kernel)
theorem ml_X2_226 : Cond.methodLink RX2 226 yX5_number ∈ xx_T := xx_good5 (i := 33) (by decide +kernel) (by decide +kernel)
theorem sl_X2_71 : Cond.fieldLink RX2 71 "BeltRounds$Sign" "POINTS" "LBeltRounds$Sign;" ∈ xx_T := xx_good5 (i := 37) (by decide +kernel) (by decide +kernel)
theorem ml_X2_74 : Cond.methodLink RX2 74 yX2_readPoints ∈ xx_T := xx_good5 (i := 39) (by decide +kernel) (by decide +kernel)
theorem sl_X2_77 : Cond.fieldLink RX2 77 "BeltRounds$Sign" "RULE" "LBeltRounds$Sign;" ∈ xx_T := xx_good5 (i := 43) (by decide +kernel) (by decide +kernel)
theorem ml_X2_80 : Cond.methodLink RX2 80 yX2_readRule ∈ xx_T := xx_good5 (i := 45) (by decide +kernel) (by decide +kernel)
theorem ml_X2_123 : Cond.methodLink RX2 123 yX2_readOutcome ∈ xx_T := xx_good5 (i := 49) (by decide +kernel) (by decide +kernel)
theorem sl_X2_138 : Cond.fieldLink RX2 138 "BeltRounds$Sign" "DRAW" "LBeltRounds$Sign;" ∈ xx_T := xx_good5 (i := 53) (by decide +kernel) (by decide +kernel)
theorem sl_X2_141 : Cond.fieldLink RX2 141 "BeltRounds$Sign" "RED" "LBeltRounds$Sign;" ∈ xx_T := xx_good5 (i := 55) (by decide +kernel) (by decide +kernel)
theorem sl_X2_144 : Cond.fieldLink RX2 144 "BeltRounds$Sign" "BLUE" "LBeltRounds$Sign;" ∈ xx_T := xx_good5 (i := 57) (by decide +kernel) (by decide +kernel)
theorem sl_X2_147 : Cond.fieldLink RX2 147 "BeltRounds$Sign" "WINS" "LBeltRounds$Sign;" ∈ xx_T := xx_good5 (i := 59) (by decide +kernel) (by decide +kernel)
theorem sl_X2_127 : Cond.fieldLink RX2 127 "BeltRounds$Sign" "WHEN" "LBeltRounds$Sign;" ∈ xx_T := xx_good5 (i := 61) (by decide +kernel) (by decide +kernel)
theorem ml_X2_130 : Cond.methodLink RX2 130 yX2_readTest ∈ xx_T := xx_good5 (i := 63) (by decide +kernel) (by decide +kernel)
theorem ml_X2_150 : Cond.methodLink RX2 150 yX2_readBoth ∈ xx_T := xx_good5 (i := 67) (by decide +kernel) (by decide +kernel)
theorem ml_X2_159 : Cond.methodLink RX2 159 yX2_readSingle ∈ xx_T := xx_good5 (i := 71) (by decide +kernel) (by decide +kernel)
theorem sl_X2_165 : Cond.fieldLink RX2 165 "BeltRounds$Sign" "NOT" "LBeltRounds$Sign;" ∈ xx_T := xx_good5 (i := 75) (by decide +kernel) (by decide +kernel)
theorem ml_X2_168 : Cond.methodLink RX2 168 yX2_readNot ∈ xx_T := xx_good5 (i := 77) (by decide +kernel) (by decide +kernel)
theorem ml_X2_174 : Cond.methodLink RX2 174 yX2_takesDeeper ∈ xx_T := xx_good5 (i := 81) (by decide +kernel) (by decide +kernel)
theorem ml_X2_156 : Cond.methodLink RX2 156 yX3_emit ∈ xx_T := xx_good5 (i := 85) (by decide +kernel) (by decide +kernel)
theorem ml_X3_43 : Cond.methodLink RX3 43 yX3_emit_ ∈ xx_T := xx_good5 (i := 89) (by decide +kernel) (by decide +kernel)
theorem sl_X2_171 : Cond.fieldLink RX2 171 "BeltRounds$Sign" "SQUARE_OPEN" "LBeltRounds$Sign;" ∈ xx_T := xx_good5 (i := 93) (by decide +kernel) (by decide +kernel)
theorem sl_X2_178 : Cond.fieldLink RX2 178 "BeltRounds$Sign" "SQUARE_CLOSE" "LBeltRounds$Sign;" ∈ xx_T := xx_good5 (i := 95) (by decide +kernel) (by decide +kernel)
theorem sl_X2_181 : Cond.fieldLink RX2 181 "BeltRounds$Sign" "MET" "LBeltRounds$Sign;" ∈ xx_T := xx_good5 (i := 97) (by decide +kernel) (by decide +kernel)
theorem ml_X2_184 : Cond.methodLink RX2 184 yX2_readComparison ∈ xx_T := xx_good5 (i := 99) (by decide +kernel) (by decide +kernel)
theorem ml_X2_187 : Cond.methodLink RX2 187 yX2_readSum ∈ xx_T := xx_good5 (i := 103) (by decide +kernel) (by decide +kernel)
theorem ml_X2_208 : Cond.methodLink RX2 208 yX2_readProduct ∈ xx_T := xx_good5 (i := 107) (by decide +kernel) (by decide +kernel)
theorem ml_X2_217 : Cond.methodLink RX2 217 yX2_readValue ∈ xx_T := xx_good5 (i := 111) (by decide +kernel) (by decide +kernel)
theorem ml_X2_229 : Cond.methodLink RX2 229 yX3_emit_ ∈ xx_T := xx_good5 (i := 115) (by decide +kernel) (by decide +kernel)
theorem sl_X2_231 : Cond.fieldLink RX2 231 "BeltRounds$Sign" "ROUND" "LBeltRounds$Sign;" ∈ xx_T := xx_good5 (i := 116) (by decide +kernel) (by decide +kernel)
theorem sl_X2_214 : Cond.fieldLink RX2 214 "BeltRounds$Sign" "MINUS" "LBeltRounds$Sign;" ∈ xx_T := xx_good5 (i := 118) (by decide +kernel) (by decide +kernel)
theorem ml_X2_234 : Cond.methodLink RX2 234 yX2_readNegative ∈ xx_T := xx_good5 (i := 120) (by decide +kernel) (by decide +kernel)
theorem sl_X2_237 : Cond.fieldLink RX2 237 "BeltRounds$Sign" "OPEN" "LBeltRounds$Sign;" ∈ xx_T := xx_good5 (i := 124) (by decide +kernel) (by decide +kernel)
theorem sl_X2_240 : Cond.fieldLink RX2 240 "BeltRounds$Sign" "CLOSE" "LBeltRounds$Sign;" ∈ xx_T := xx_good5 (i := 126) (by decide +kernel) (by decide +kernel)
theorem sl_X2_243 : Cond.fieldLink RX2 243 "BeltRounds$Sign" "MIN" "LBeltRounds$Sign;" ∈ xx_T := xx_good5 (i := 128) (by decide +kernel) (by decide +kernel)
theorem sl_X2_246 : Cond.fieldLink RX2 246 "BeltRounds$Sign" "MAX" "LBeltRounds$Sign;" ∈ xx_T := xx_good5 (i := 130) (by decide +kernel) (by decide +kernel)
theorem ml_X2_249 : Cond.methodLink RX2 249 yX2_readChoice ∈ xx_T := xx_good5 (i := 132) (by decide +kernel) (by decide +kernel)
theorem sl_X2_258 : Cond.fieldLink RX2 258 "BeltRounds$Sign" "COMMA" "LBeltRounds$Sign;" ∈ xx_T := xx_good5 (i := 136) (by decide +kernel) (by decide +kernel)
theorem ml_X2_252 : Cond.methodLink RX2 252 yX2_countSeen ∈ xx_T := xx_good5 (i := 138) (by decide +kernel) (by decide +kernel)
theorem sl_X2_261 : Cond.fieldLink RX2 261 "BeltRounds$Sign" "WON" "LBeltRounds$Sign;" ∈ xx_T := xx_good5 (i := 142) (by decide +kernel) (by decide +kernel)
theorem sl_X2_264 : Cond.fieldLink RX2 264 "BeltRounds$Sign" "BELTS" "LBeltRounds$Sign;" ∈ xx_T := xx_good5 (i := 144) (by decide +kernel) (by decide +kernel)
theorem sl_X2_267 : Cond.fieldLink RX2 267 "BeltRounds$Sign" "FLOATS" "LBeltRounds$Sign;" ∈ xx_T := xx_good5 (i := 146) (by decide +kernel) (by decide +kernel)
theorem sl_X2_270 : Cond.fieldLink RX2 270 "BeltRounds$Sign" "REST" "LBeltRounds$Sign;" ∈ xx_T := xx_good5 (i := 148) (by decide +kernel) (by decide +kernel)
theorem ml_X2_255 : Cond.methodLink RX2 255 yX2_readSide ∈ xx_T := xx_good5 (i := 150) (by decide +kernel) (by decide +kernel)
theorem sl_X2_220 : Cond.fieldLink RX2 220 "BeltRounds$Sign" "TIMES" "LBeltRounds$Sign;" ∈ xx_T := xx_good5 (i := 154) (by decide +kernel) (by decide +kernel)
theorem sl_X2_223 : Cond.fieldLink RX2 223 "BeltRounds$Sign" "OVER" "LBeltRounds$Sign;" ∈ xx_T := xx_good5 (i := 156) (by decide +kernel) (by decide +kernel)
theorem sl_X2_211 : Cond.fieldLink RX2 211 "BeltRounds$Sign" "PLUS" "LBeltRounds$Sign;" ∈ xx_T := xx_good5 (i := 158) (by decide +kernel) (by decide +kernel)
theorem ml_X2_190 : Cond.methodLink RX2 190 yX2_comparisonSeen ∈ xx_T := xx_good5 (i := 160) (by decide +kernel) (by decide +kernel)
theorem sl_X2_193 : Cond.fieldLink RX2 193 "BeltRounds$Sign" "LESS" "LBeltRounds$Sign;" ∈ xx_T := xx_good5 (i := 164) (by decide +kernel) (by decide +kernel)
theorem sl_X2_196 : Cond.fieldLink RX2 196 "BeltRounds$Sign" "MORE" "LBeltRounds$Sign;" ∈ xx_T := xx_good5 (i := 166) (by decide +kernel) (by decide +kernel)
theorem sl_X2_199 : Cond.fieldLink RX2 199 "BeltRounds$Sign" "EQUAL" "LBeltRounds$Sign;" ∈ xx_T := xx_good5 (i := 168) (by decide +kernel) (by decide +kernel)
theorem sl_X2_202 : Cond.fieldLink RX2 202 "BeltRounds$Sign" "AT_MOST" "LBeltRounds$Sign;" ∈ xx_T := xx_good5 (i := 170) (by decide +kernel) (by decide +kernel)
theorem sl_X2_205 : Cond.fieldLink RX2 205 "BeltRounds$Sign" "AT_LEAST" "LBeltRounds$Sign;" ∈ xx_T := xx_good5 (i := 172) (by decide +kernel) (by decide +kernel)
theorem sl_X2_162 : Cond.fieldLink RX2 162 "BeltRounds$Sign" "AND" "LBeltRounds$Sign;" ∈ xx_T := xx_good5 (i := 174) (by decide +kernel) (by decide +kernel)
theorem sl_X2_153 : Cond.fieldLink RX2 153 "BeltRounds$Sign" "OR" "LBeltRounds$Sign;" ∈ xx_T := xx_good5 (i := 176) (by decide +kernel) (by decide +kernel)
theorem ml_X2_134 : Cond.methodLink RX2 134 yX3_endRule ∈ xx_T := xx_good5 (i := 178) (by decide +kernel) (by decide +kernel)
theorem sl_X2_83 : Cond.fieldLink RX2 83 "BeltRounds$Sign" "SEMICOLON" "LBeltRounds$Sign;" ∈ xx_T := xx_good5 (i := 182) (by decide +kernel) (by decide +kernel)
theorem ml_X6_72 : Cond.methodLink RX6 72 yX3_copyFrom ∈ xx_T := xx_good5 (i := 184) (by decide +kernel) (by decide +kernel)
theorem ml_X3_37 : Cond.methodLink RX3 37 ⟨"java/lang/System", "arraycopy", "(Ljava/lang/Object;ILjava/lang/Object;II)V"⟩ ∈ xx_T := xx_good5 (i := 188) (by decide +kernel) (by decide +kernel)
theorem ml_X6_86 : Cond.methodLink RX6 86 yX0_begin ∈ xx_T := xx_good5 (i := 189) (by decide +kernel) (by decide +kernel)
theorem ml_X0_49 : Cond.methodLink RX0 49 yJ9_min_7cf53 ∈ xx_T := xx_good5 (i := 193) (by decide +kernel) (by decide +kernel)
theorem ml_X0_55 : Cond.methodLink RX0 55 yJ7_fill_53178 ∈ xx_T := xx_good5 (i := 194) (by decide +kernel) (by decide +kernel)
theorem ml_L_167 : Cond.methodLink RL 167 yL_told ∈ xx_T := xx_good5 (i := 195) (by decide +kernel) (by decide +kernel)
theorem cl_L_63 : Cond.classLink RL 63 RX7 ∈ xx_T := xx_good5 (i := 198) (by decide +kernel) (by decide +kernel)
theorem ins_BeltRoundsLaw_Sim : Cond.instantiable RX7 9 ∈ xx_T := xx_good5 (i := 199) (by decide +kernel) (by decide +kernel)
theorem ml_L_65 : Cond.methodLinkNest RL 65 yX7_init "BeltRoundsLaw" ∈ xx_N := xx_oddin (i := 1220) (by decide +kernel) (by decide +kernel)
theorem ml_X7_1 : Cond.methodLink RX7 1 objectInit ∈ xx_T := xx_good5 (i := 203) (by decide +kernel) (by decide +kernel)
theorem cl_X7_19 : Cond.classLink RX7 19 RX8 ∈ xx_T := xx_good5 (i := 204) (by decide +kernel) (by decide +kernel)
theorem fl_L_70 : xx_Fl RL 70 6 0 := ⟨RX7, TX7, 9, tyX7, k_6, by decide, Or.inl (xx_good5 (i := 206) (by decide +kernel) (by decide +kernel))⟩
theorem fp_L_70 : xx_Fp RL 70 6 0 (.int) := ⟨RX7, TX7, 9, tyX7, k_6, by decide, rfl, by decide +kernel, Or.inl (xx_good5 (i := 206) (by decide +kernel) (by decide +kernel))⟩
theorem fl_X7_38 : xx_Fl RX7 38 6 0 := ⟨RX7, TX7, 9, tyX7, k_6, by decide, Or.inl (xx_good5 (i := 207) (by decide +kernel) (by decide +kernel))⟩
theorem fp_X7_38 : xx_Fp RX7 38 6 0 (.int) := ⟨RX7, TX7, 9, tyX7, k_6, by decide, rfl, by decide +kernel, Or.inl (xx_good5 (i := 207) (by decide +kernel) (by decide +kernel))⟩
theorem fl_X7_7 : xx_Fl RX7 7 6 1 := ⟨RX7, TX7, 9, tyX7, k_6, by decide, Or.inl (xx_good5 (i := 208) (by decide +kernel) (by decide +kernel))⟩
theorem ff_X7_7 : xx_Ff RX7 7 6 1 (.array .int) := ⟨RX7, TX7, 9, tyX7, k_6, by decide, rfl, rfl, by decide +kernel, xx_good5 (i := 208) (by decide +kernel) (by decide +kernel)⟩
theorem fl_L_92 : xx_Fl RL 92 6 1 := ⟨RX7, TX7, 9, tyX7, k_6, by decide, Or.inl (xx_good5 (i := 209) (by decide +kernel) (by decide +kernel))⟩
theorem fl_X7_13 : xx_Fl RX7 13 6 2 := ⟨RX7, TX7, 9, tyX7, k_6, by decide, Or.inl (xx_good5 (i := 210) (by decide +kernel) (by decide +kernel))⟩
theorem ff_X7_13 : xx_Ff RX7 13 6 2 (.array .int) := ⟨RX7, TX7, 9, tyX7, k_6, by decide, rfl, rfl, by decide +kernel, xx_good5 (i := 210) (by decide +kernel) (by decide +kernel)⟩
theorem fl_L_81 : xx_Fl RL 81 6 2 := ⟨RX7, TX7, 9, tyX7, k_6, by decide, Or.inl (xx_good5 (i := 211) (by decide +kernel) (by decide +kernel))⟩
theorem fl_X7_16 : xx_Fl RX7 16 6 3 := ⟨RX7, TX7, 9, tyX7, k_6, by decide, Or.inl (xx_good5 (i := 212) (by decide +kernel) (by decide +kernel))⟩
theorem fp_X7_16 : xx_Fp RX7 16 6 3 (.array .int) := ⟨RX7, TX7, 9, tyX7, k_6, by decide, rfl, by decide +kernel, Or.inl (xx_good5 (i := 212) (by decide +kernel) (by decide +kernel))⟩
theorem fl_L_99 : xx_Fl RL 99 6 3 := ⟨RX7, TX7, 9, tyX7, k_6, by decide, Or.inl (xx_good5 (i := 213) (by decide +kernel) (by decide +kernel))⟩
theorem fp_L_99 : xx_Fp RL 99 6 3 (.array .int) := ⟨RX7, TX7, 9, tyX7, k_6, by decide, rfl, by decide +kernel, Or.inl (xx_good5 (i := 213) (by decide +kernel) (by decide +kernel))⟩
theorem fl_X7_21 : xx_Fl RX7 21 6 4 := ⟨RX7, TX7, 9, tyX7, k_6, by decide, Or.inl (xx_good5 (i := 214) (by decide +kernel) (by decide +kernel))⟩
theorem fp_X7_21 : xx_Fp RX7 21 6 4 (.array (.object "BeltRoundsLaw$Tree")) := ⟨RX7, TX7, 9, tyX7, k_6, by decide, rfl, by decide +kernel, Or.inl (xx_good5 (i := 214) (by decide +kernel) (by decide +kernel))⟩
theorem fl_L_106 : xx_Fl RL 106 6 4 := ⟨RX7, TX7, 9, tyX7, k_6, by decide, Or.inl (xx_good5 (i := 215) (by decide +kernel) (by decide +kernel))⟩
theorem fp_L_106 : xx_Fp RL 106 6 4 (.array (.object "BeltRoundsLaw$Tree")) := ⟨RX7, TX7, 9, tyX7, k_6, by decide, rfl, by decide +kernel, Or.inl (xx_good5 (i := 215) (by decide +kernel) (by decide +kernel))⟩
theorem fl_X7_42 : xx_Fl RX7 42 6 5 := ⟨RX7, TX7, 9, tyX7, k_6, by decide, Or.inl (xx_good5 (i := 216) (by decide +kernel) (by decide +kernel))⟩
theorem fp_X7_42 : xx_Fp RX7 42 6 5 (.int) := ⟨RX7, TX7, 9, tyX7, k_6, by decide, rfl, by decide +kernel, Or.inl (xx_good5 (i := 216) (by decide +kernel) (by decide +kernel))⟩
theorem fl_X7_25 : xx_Fl RX7 25 6 6 := ⟨RX7, TX7, 9, tyX7, k_6, by decide, Or.inl (xx_good5 (i := 217) (by decide +kernel) (by decide +kernel))⟩
theorem ff_X7_25 : xx_Ff RX7 25 6 6 (.array .boolean) := ⟨RX7, TX7, 9, tyX7, k_6, by decide, rfl, rfl, by decide +kernel, xx_good5 (i := 217) (by decide +kernel) (by decide +kernel)⟩
theorem fl_L_130 : xx_Fl RL 130 6 6 := ⟨RX7, TX7, 9, tyX7, k_6, by decide, Or.inl (xx_good5 (i := 218) (by decide +kernel) (by decide +kernel))⟩
theorem fl_X7_30 : xx_Fl RX7 30 6 7 := ⟨RX7, TX7, 9, tyX7, k_6, by decide, Or.inl (xx_good5 (i := 219) (by decide +kernel) (by decide +kernel))⟩
theorem fp_X7_30 : xx_Fp RX7 30 6 7 (.array (.array .int)) := ⟨RX7, TX7, 9, tyX7, k_6, by decide, rfl, by decide +kernel, Or.inl (xx_good5 (i := 219) (by decide +kernel) (by decide +kernel))⟩
theorem fl_X7_34 : xx_Fl RX7 34 6 8 := ⟨RX7, TX7, 9, tyX7, k_6, by decide, Or.inl (xx_good5 (i := 220) (by decide +kernel) (by decide +kernel))⟩
theorem fp_X7_34 : xx_Fp RX7 34 6 8 (.array .int) := ⟨RX7, TX7, 9, tyX7, k_6, by decide, rfl, by decide +kernel, Or.inl (xx_good5 (i := 220) (by decide +kernel) (by decide +kernel))⟩
theorem ac_boolean : Cond.arrayClass .boolean ∈ xx_T := xx_good6 (i := 0) (by decide +kernel) (by decide +kernel)
theorem ml_L_75 : Cond.methodLink RL 75 yJ4_append_15ec4 ∈ xx_T := xx_good6 (i := 2) (by decide +kernel) (by decide +kernel)
theorem ml_J4_29 : Cond.methodLink RJ4 29 yJ5_append_cf1ce ∈ xx_T := xx_good6 (i := 6) (by decide +kernel) (by decide +kernel)
theorem ml_J5_204 : Cond.methodLink RJ5 204 yJ5_appendNull_278bc ∈ xx_T := xx_good6 (i := 10) (by decide +kernel) (by decide +kernel)
theorem ml_J5_100 : Cond.methodLink RJ5 100 yJ5_ensureCapacityInternal_d00df ∈ xx_T := xx_good6 (i := 14) (by decide +kernel) (by decide +kernel)
theorem ml_J5_104 : Cond.methodLink RJ5 104 yJ5_newCapacity_0f7a4 ∈ xx_T := xx_good6 (i := 18) (by decide +kernel) (by decide +kernel)
theorem ml_J5_114 : Cond.methodLink RJ5 114 yJ8_newLength_cabcc ∈ xx_T := xx_good6 (i := 22) (by decide +kernel) (by decide +kernel)
theorem ml_J8_194 : Cond.methodLink RJ8 194 yJ9_max_7cf53 ∈ xx_T := xx_good6 (i := 25) (by decide +kernel) (by decide +kernel)
theorem kc_J8_200 : Cond.constant RJ8 200 2147483639 ∈ xx_T := xx_good6 (i := 26) (by decide +kernel) (by decide +kernel)
theorem ml_J8_201 : Cond.methodLink RJ8 201 yJ8_hugeLength_7cf53 ∈ xx_T := xx_good6 (i := 27) (by decide +kernel) (by decide +kernel)
theorem kc_J5_39 : Cond.constant RJ5 39 2147483647 ∈ xx_T := xx_good6 (i := 30) (by decide +kernel) (by decide +kernel)
theorem ml_J5_108 : Cond.methodLink RJ5 108 yJ7_copyOf_9075b ∈ xx_T := xx_good6 (i := 31) (by decide +kernel) (by decide +kernel)
theorem ml_J7_310 : Cond.methodLink RJ7 310 ⟨"[B", "clone", "()Ljava/lang/Object;"⟩ ∈ xx_T := xx_good6 (i := 34) (by decide +kernel) (by decide +kernel)
theorem cl_J7_311 : Cond.classLink RJ7 311 "[B" ∈ xx_T := xx_good6 (i := 40) (by decide +kernel) (by decide +kernel)
theorem ml_J7_304 : Cond.methodLink RJ7 304 yJ9_min_7cf53 ∈ xx_T := xx_good6 (i := 41) (by decide +kernel) (by decide +kernel)
theorem ml_J7_150 : Cond.methodLink RJ7 150 ⟨"java/lang/System", "arraycopy", "(Ljava/lang/Object;ILjava/lang/Object;II)V"⟩ ∈ xx_T := xx_good6 (i := 42) (by decide +kernel) (by decide +kernel)
theorem ml_J5_83 : Cond.methodLink RJ5 83 yJ5_isLatin1_aae02 ∈ xx_T := xx_good6 (i := 43) (by decide +kernel) (by decide +kernel)
theorem sl_J5_18 : Cond.fieldLink RJ5 18 "java/lang/String" "COMPACT_STRINGS" "Z" ∈ xx_T := xx_good6 (i := 48) (by decide +kernel) (by decide +kernel)
theorem ml_J5_226 : Cond.methodLink RJ5 226 yJ2_putCharsAt_cd4e5 ∈ xx_T := xx_good6 (i := 49) (by decide +kernel) (by decide +kernel)
theorem ml_J2_96 : Cond.methodLink RJ2 96 yJ2_checkBoundsBeginEnd_d044e ∈ xx_T := xx_good6 (i := 52) (by decide +kernel) (by decide +kernel)
theorem ml_J2_241 : Cond.methodLink RJ2 241 yJ0_checkBoundsBeginEnd_23922 ∈ xx_T := xx_good6 (i := 55) (by decide +kernel) (by decide +kernel)
theorem ml_J0_1062 : Cond.methodLink RJ0 1062 yJ3_checkFromToIndex_8c36e ∈ xx_T := xx_good6 (i := 58) (by decide +kernel) (by decide +kernel)
theorem ml_J2_111 : Cond.methodLink RJ2 111 yJ2_putChar_b72d1 ∈ xx_T := xx_good6 (i := 61) (by decide +kernel) (by decide +kernel)
theorem ml_J5_32 : Cond.methodLink RJ5 32 yJ0_length_8abf5 ∈ xx_T := xx_good6 (i := 64) (by decide +kernel) (by decide +kernel)
theorem ml_J5_208 : Cond.methodLink RJ5 208 yJ5_putStringAt_47b60 ∈ xx_T := xx_good6 (i := 65) (by decide +kernel) (by decide +kernel)
theorem ml_J5_397 : Cond.methodLink RJ5 397 yJ5_inflateIfNeededFor_a7421 ∈ xx_T := xx_good6 (i := 69) (by decide +kernel) (by decide +kernel)
theorem ml_J5_40 : Cond.methodLink RJ5 40 yJ0_coder_7d493 ∈ xx_T := xx_good6 (i := 73) (by decide +kernel) (by decide +kernel)
theorem ml_J5_195 : Cond.methodLink RJ5 195 yJ5_inflate_da8c8 ∈ xx_T := xx_good6 (i := 74) (by decide +kernel) (by decide +kernel)
theorem ml_J5_26 : Cond.methodLink RJ5 26 yJ2_newBytesFor_77867 ∈ xx_T := xx_good6 (i := 78) (by decide +kernel) (by decide +kernel)
theorem ml_J2_11 : Cond.methodLink RJ2 11 yJ2_newBytesLength_0f7a4 ∈ xx_T := xx_good6 (i := 81) (by decide +kernel) (by decide +kernel)
theorem kc_J2_20 : Cond.constant RJ2 20 1073741823 ∈ xx_T := xx_good6 (i := 84) (by decide +kernel) (by decide +kernel)
theorem ml_J5_125 : Cond.methodLink RJ5 125 yJ1_inflate_0e8fd ∈ xx_T := xx_good6 (i := 85) (by decide +kernel) (by decide +kernel)
theorem ml_J1_240 : Cond.methodLink RJ1 240 yJ2_inflate_0e8fd ∈ xx_T := xx_good6 (i := 88) (by decide +kernel) (by decide +kernel)
theorem ml_J2_173 : Cond.methodLink RJ2 173 yJ2_checkBoundsOffCount_d044e ∈ xx_T := xx_good6 (i := 91) (by decide +kernel) (by decide +kernel)
theorem ml_J2_419 : Cond.methodLink RJ2 419 yJ0_checkBoundsOffCount_cabcc ∈ xx_T := xx_good6 (i := 94) (by decide +kernel) (by decide +kernel)
theorem ml_J0_1065 : Cond.methodLink RJ0 1065 yJ3_checkFromIndexSize_8c36e ∈ xx_T := xx_good6 (i := 97) (by decide +kernel) (by decide +kernel)
theorem ml_J5_399 : Cond.methodLink RJ5 399 yJ0_getBytes_840e7 ∈ xx_T := xx_good6 (i := 100) (by decide +kernel) (by decide +kernel)
theorem ml_J0_212 : Cond.methodLink RJ0 212 ⟨"java/lang/System", "arraycopy", "(Ljava/lang/Object;ILjava/lang/Object;II)V"⟩ ∈ xx_T := xx_good6 (i := 104) (by decide +kernel) (by decide +kernel)
theorem ml_J0_106 : Cond.methodLink RJ0 106 yJ1_inflate_0e8fd ∈ xx_T := xx_good6 (i := 105) (by decide +kernel) (by decide +kernel)
theorem ml_L_87 : Cond.methodLink RL 87 yJ4_append_bf812 ∈ xx_T := xx_good6 (i := 107) (by decide +kernel) (by decide +kernel)
theorem ml_J4_53 : Cond.methodLink RJ4 53 yJ5_append_c97b9 ∈ xx_T := xx_good6 (i := 111) (by decide +kernel) (by decide +kernel)
theorem ml_J5_245 : Cond.methodLink RJ5 245 yJ6_stringSize_0f7a4 ∈ xx_T := xx_good6 (i := 114) (by decide +kernel) (by decide +kernel)
theorem ml_J5_248 : Cond.methodLink RJ5 248 yJ6_getChars_ba4f3 ∈ xx_T := xx_good6 (i := 117) (by decide +kernel) (by decide +kernel)
theorem sl_J6_83 : Cond.fieldLink RJ6 83 "java/lang/Integer" "DigitOnes" "[B" ∈ xx_T := xx_good6 (i := 120) (by decide +kernel) (by decide +kernel)
theorem sl_J6_87 : Cond.fieldLink RJ6 87 "java/lang/Integer" "DigitTens" "[B" ∈ xx_T := xx_good6 (i := 122) (by decide +kernel) (by decide +kernel)
theorem ml_J5_251 : Cond.methodLink RJ5 251 yJ2_getChars_46870 ∈ xx_T := xx_good6 (i := 124) (by decide +kernel) (by decide +kernel)
theorem ml_J2_393 : Cond.methodLink RJ2 393 yJ2_getChars_ba4f3 ∈ xx_T := xx_good6 (i := 127) (by decide +kernel) (by decide +kernel)
theorem sl_J2_403 : Cond.fieldLink RJ2 403 "java/lang/Integer" "DigitOnes" "[B" ∈ xx_T := xx_good6 (i := 130) (by decide +kernel) (by decide +kernel)
theorem sl_J2_407 : Cond.fieldLink RJ2 407 "java/lang/Integer" "DigitTens" "[B" ∈ xx_T := xx_good6 (i := 131) (by decide +kernel) (by decide +kernel)
theorem ml_L_60 : Cond.methodLink RL 60 yL_test ∈ xx_T := xx_good6 (i := 135) (by decide +kernel) (by decide +kernel)
theorem cl_L_32 : Cond.classLink RL 32 RX8 ∈ xx_T := xx_good6 (i := 138) (by decide +kernel) (by decide +kernel)
theorem ml_L_34 : Cond.methodLinkNest RL 34 yX8_init "BeltRoundsLaw" ∈ xx_N := xx_oddin (i := 1399) (by decide +kernel) (by decide +kernel)
theorem ml_X8_1 : Cond.methodLink RX8 1 objectInit ∈ xx_T := xx_good6 (i := 142) (by decide +kernel) (by decide +kernel)
theorem fl_X8_7 : xx_Fl RX8 7 7 0 := ⟨RX8, TX8, 4, tyX8, k_7, by decide, Or.inl (xx_good6 (i := 143) (by decide +kernel) (by decide +kernel))⟩
theorem fp_X8_7 : xx_Fp RX8 7 7 0 (.int) := ⟨RX8, TX8, 4, tyX8, k_7, by decide, rfl, by decide +kernel, Or.inl (xx_good6 (i := 143) (by decide +kernel) (by decide +kernel))⟩
theorem fl_L_41 : xx_Fl RL 41 7 0 := ⟨RX8, TX8, 4, tyX8, k_7, by decide, Or.inl (xx_good6 (i := 144) (by decide +kernel) (by decide +kernel))⟩
theorem fp_L_41 : xx_Fp RL 41 7 0 (.int) := ⟨RX8, TX8, 4, tyX8, k_7, by decide, rfl, by decide +kernel, Or.inl (xx_good6 (i := 144) (by decide +kernel) (by decide +kernel))⟩
theorem fl_X8_13 : xx_Fl RX8 13 7 1 := ⟨RX8, TX8, 4, tyX8, k_7, by decide, Or.inl (xx_good6 (i := 145) (by decide +kernel) (by decide +kernel))⟩
theorem fp_X8_13 : xx_Fp RX8 13 7 1 (.int) := ⟨RX8, TX8, 4, tyX8, k_7, by decide, rfl, by decide +kernel, Or.inl (xx_good6 (i := 145) (by decide +kernel) (by decide +kernel))⟩
theorem fl_L_46 : xx_Fl RL 46 7 1 := ⟨RX8, TX8, 4, tyX8, k_7, by decide, Or.inl (xx_good6 (i := 146) (by decide +kernel) (by decide +kernel))⟩
theorem fp_L_46 : xx_Fp RL 46 7 1 (.int) := ⟨RX8, TX8, 4, tyX8, k_7, by decide, rfl, by decide +kernel, Or.inl (xx_good6 (i := 146) (by decide +kernel) (by decide +kernel))⟩
theorem fl_X8_26 : xx_Fl RX8 26 7 2 := ⟨RX8, TX8, 4, tyX8, k_7, by decide, Or.inl (xx_good6 (i := 147) (by decide +kernel) (by decide +kernel))⟩
theorem fp_X8_26 : xx_Fp RX8 26 7 2 (.object "BeltRoundsLaw$Tree") := ⟨RX8, TX8, 4, tyX8, k_7, by decide, rfl, by decide +kernel, Or.inl (xx_good6 (i := 147) (by decide +kernel) (by decide +kernel))⟩
theorem fl_L_53 : xx_Fl RL 53 7 2 := ⟨RX8, TX8, 4, tyX8, k_7, by decide, Or.inl (xx_good6 (i := 148) (by decide +kernel) (by decide +kernel))⟩
theorem fp_L_53 : xx_Fp RL 53 7 2 (.object "BeltRoundsLaw$Tree") := ⟨RX8, TX8, 4, tyX8, k_7, by decide, rfl, by decide +kernel, Or.inl (xx_good6 (i := 148) (by decide +kernel) (by decide +kernel))⟩
theorem fl_X8_33 : xx_Fl RX8 33 7 3 := ⟨RX8, TX8, 4, tyX8, k_7, by decide, Or.inl (xx_good6 (i := 149) (by decide +kernel) (by decide +kernel))⟩
theorem fp_X8_33 : xx_Fp RX8 33 7 3 (.object "BeltRoundsLaw$Tree") := ⟨RX8, TX8, 4, tyX8, k_7, by decide, rfl, by decide +kernel, Or.inl (xx_good6 (i := 149) (by decide +kernel) (by decide +kernel))⟩
theorem fl_L_57 : xx_Fl RL 57 7 3 := ⟨RX8, TX8, 4, tyX8, k_7, by decide, Or.inl (xx_good6 (i := 150) (by decide +kernel) (by decide +kernel))⟩
theorem fp_L_57 : xx_Fp RL 57 7 3 (.object "BeltRoundsLaw$Tree") := ⟨RX8, TX8, 4, tyX8, k_7, by decide, rfl, by decide +kernel, Or.inl (xx_good6 (i := 150) (by decide +kernel) (by decide +kernel))⟩
theorem ml_L_49 : Cond.methodLink RL 49 yL_sum ∈ xx_T := xx_good6 (i := 160) (by decide +kernel) (by decide +kernel)
theorem kc_L_45 : Cond.constant RL 45 1000000 ∈ xx_T := xx_good6 (i := 163) (by decide +kernel) (by decide +kernel)
theorem ml_L_102 : Cond.methodLink RL 102 yX7_with_ ∈ xx_T := xx_good6 (i := 164) (by decide +kernel) (by decide +kernel)
theorem cl_L_76 : Cond.classLink RL 76 RJ4 ∈ xx_T := xx_good6 (i := 172) (by decide +kernel) (by decide +kernel)
theorem ins_java_lang_StringBuilder : Cond.instantiable RJ4 4 ∈ xx_T := xx_good6 (i := 173) (by decide +kernel) (by decide +kernel)
theorem ml_L_120 : Cond.methodLink RL 120 yJ4_init_da8c8 ∈ xx_T := xx_good6 (i := 174) (by decide +kernel) (by decide +kernel)
theorem ml_J4_1 : Cond.methodLink RJ4 1 yJ5_init_d00df ∈ xx_T := xx_good6 (i := 177) (by decide +kernel) (by decide +kernel)
theorem ml_J5_3 : Cond.methodLink RJ5 3 objectInit ∈ xx_T := xx_good6 (i := 180) (by decide +kernel) (by decide +kernel)
theorem fl_J5_15 : xx_Fl RJ5 15 9 0 := ⟨RJ4, TJ4, 4, tyJ4, k_9, by decide, Or.inl (xx_good6 (i := 181) (by decide +kernel) (by decide +kernel))⟩
theorem fp_J5_15 : xx_Fp RJ5 15 9 0 (.array .byte) := ⟨RJ4, TJ4, 4, tyJ4, k_9, by decide, rfl, by decide +kernel, Or.inl (xx_good6 (i := 181) (by decide +kernel) (by decide +kernel))⟩
theorem fl_J5_22 : xx_Fl RJ5 22 9 1 := ⟨RJ4, TJ4, 4, tyJ4, k_9, by decide, Or.inl (xx_good6 (i := 182) (by decide +kernel) (by decide +kernel))⟩
theorem fp_J5_22 : xx_Fp RJ5 22 9 1 (.byte) := ⟨RJ4, TJ4, 4, tyJ4, k_9, by decide, rfl, by decide +kernel, Or.inl (xx_good6 (i := 182) (by decide +kernel) (by decide +kernel))⟩
theorem fl_J0_1048 : xx_Fl RJ0 1048 9 2 := ⟨RJ4, TJ4, 4, tyJ4, k_9, by decide, Or.inl (xx_good6 (i := 183) (by decide +kernel) (by decide +kernel))⟩
theorem fp_J0_1048 : xx_Fp RJ0 1048 9 2 (.boolean) := ⟨RJ4, TJ4, 4, tyJ4, k_9, by decide, rfl, by decide +kernel, Or.inl (xx_good6 (i := 183) (by decide +kernel) (by decide +kernel))⟩
theorem fl_J5_79 : xx_Fl RJ5 79 9 3 := ⟨RJ4, TJ4, 4, tyJ4, k_9, by decide, Or.inl (xx_good6 (i := 184) (by decide +kernel) (by decide +kernel))⟩
theorem fp_J5_79 : xx_Fp RJ5 79 9 3 (.int) := ⟨RJ4, TJ4, 4, tyJ4, k_9, by decide, rfl, by decide +kernel, Or.inl (xx_good6 (i := 184) (by decide +kernel) (by decide +kernel))⟩
theorem ml_L_123 : Cond.methodLink RL 123 yX8_text ∈ xx_T := xx_good6 (i := 194) (by decide +kernel) (by decide +kernel)
theorem cl_X8_39 : Cond.classLink RX8 39 RJ0 ∈ xx_T := xx_good6 (i := 198) (by decide +kernel) (by decide +kernel)
theorem cl_X8_79 : Cond.classLink RX8 79 RJ4 ∈ xx_T := xx_good6 (i := 219) (by decide +kernel) (by decide +kernel)
theorem ml_X8_81 : Cond.methodLink RX8 81 yJ4_init_da8c8 ∈ xx_T := xx_good6 (i := 220) (by decide +kernel) (by decide +kernel)
theorem ml_X8_82 : Cond.methodLink RX8 82 yJ4_append_15ec4 ∈ xx_T := xx_good6 (i := 221) (by decide +kernel) (by decide +kernel)
theorem ml_X8_86 : Cond.methodLink RX8 86 yJ4_append_bf812 ∈ xx_T := xx_good6 (i := 222) (by decide +kernel) (by decide +kernel)
theorem ml_X8_89 : Cond.methodLink RX8 89 yJ4_toString_0e30d ∈ xx_T := xx_good6 (i := 223) (by decide +kernel) (by decide +kernel)
theorem cl_J4_18 : Cond.classLink RJ4 18 RJ0 ∈ xx_T := xx_good6 (i := 227) (by decide +kernel) (by decide +kernel)
theorem ins_java_lang_String : Cond.instantiable RJ0 4 ∈ xx_T := xx_good6 (i := 228) (by decide +kernel) (by decide +kernel)
theorem ml_J4_137 : Cond.methodLink RJ4 137 yJ0_init_81219 ∈ xx_T := xx_good6 (i := 229) (by decide +kernel) (by decide +kernel)
theorem ml_J0_489 : Cond.methodLink RJ0 489 yJ0_init_db425 ∈ xx_T := xx_good6 (i := 232) (by decide +kernel) (by decide +kernel)
theorem ml_J0_1 : Cond.methodLink RJ0 1 objectInit ∈ xx_T := xx_good6 (i := 235) (by decide +kernel) (by decide +kernel)
theorem ml_J0_552 : Cond.methodLink RJ0 552 yJ5_getValue_6d5f1 ∈ xx_T := xx_good6 (i := 236) (by decide +kernel) (by decide +kernel)
theorem ml_J0_549 : Cond.methodLink RJ0 549 yJ5_length_8abf5 ∈ xx_T := xx_good7 (i := 1) (by decide +kernel) (by decide +kernel)
theorem ml_J4_343 : Cond.methodLink RJ4 343 yJ5_length_8abf5 ∈ xx_T := xx_good7 (i := 7) (by decide +kernel) (by decide +kernel)
theorem ml_J0_1047 : Cond.methodLink RJ0 1047 yJ5_isLatin1_aae02 ∈ xx_T := xx_good7 (i := 9) (by decide +kernel) (by decide +kernel)
theorem ml_J0_54 : Cond.methodLink RJ0 54 yJ7_copyOfRange_39247 ∈ xx_T := xx_good7 (i := 10) (by decide +kernel) (by decide +kernel)
theorem ml_J7_339 : Cond.methodLink RJ7 339 yJ7_copyOfRangeByte_39247 ∈ xx_T := xx_good7 (i := 13) (by decide +kernel) (by decide +kernel)
theorem ml_J7_343 : Cond.methodLink RJ7 343 yJ7_checkLength_df160 ∈ xx_T := xx_good7 (i := 16) (by decide +kernel) (by decide +kernel)
theorem ml_J0_1051 : Cond.methodLink RJ0 1051 yJ2_compress_39247 ∈ xx_T := xx_good7 (i := 19) (by decide +kernel) (by decide +kernel)
theorem ml_J2_123 : Cond.methodLink RJ2 123 yJ2_compress_5af95 ∈ xx_T := xx_good7 (i := 22) (by decide +kernel) (by decide +kernel)
theorem ml_J2_126 : Cond.methodLink RJ2 126 yJ7_copyOfRange_39247 ∈ xx_T := xx_good7 (i := 25) (by decide +kernel) (by decide +kernel)
theorem ml_J0_47 : Cond.methodLink RJ0 47 yJ2_coderFromArrayLen_85cad ∈ xx_T := xx_good7 (i := 26) (by decide +kernel) (by decide +kernel)
theorem fl_J0_9 : xx_Fl RJ0 9 8 0 := ⟨RJ0, TJ0, 4, tyJ0, k_8, by decide, Or.inl (xx_good7 (i := 29) (by decide +kernel) (by decide +kernel))⟩
theorem ff_J0_9 : xx_Ff RJ0 9 8 0 (.array .byte) := ⟨RJ0, TJ0, 4, tyJ0, k_8, by decide, rfl, rfl, by decide +kernel, xx_good7 (i := 29) (by decide +kernel) (by decide +kernel)⟩
theorem sl_J0_9 : Cond.fieldLink RJ0 9 "java/lang/String" "value" "[B" ∈ xx_T := xx_good7 (i := 29) (by decide +kernel) (by decide +kernel)
theorem fl_J0_15 : xx_Fl RJ0 15 8 1 := ⟨RJ0, TJ0, 4, tyJ0, k_8, by decide, Or.inl (xx_good7 (i := 30) (by decide +kernel) (by decide +kernel))⟩
theorem ff_J0_15 : xx_Ff RJ0 15 8 1 (.byte) := ⟨RJ0, TJ0, 4, tyJ0, k_8, by decide, rfl, rfl, by decide +kernel, xx_good7 (i := 30) (by decide +kernel) (by decide +kernel)⟩
theorem sl_J0_15 : Cond.fieldLink RJ0 15 "java/lang/String" "coder" "B" ∈ xx_T := xx_good7 (i := 30) (by decide +kernel) (by decide +kernel)
theorem ml_X8_101 : Cond.methodLink RX8 101 yX8_text ∈ xx_T := xx_good7 (i := 44) (by decide +kernel) (by decide +kernel)
theorem ml_L_127 : Cond.methodLink RL 127 yJ4_toString_0e30d ∈ xx_T := xx_good7 (i := 54) (by decide +kernel) (by decide +kernel)
theorem ml_L_175 : Cond.methodLink RL 175 yL_act ∈ xx_T := xx_good7 (i := 55) (by decide +kernel) (by decide +kernel)
theorem cl_L_152 : Cond.classLink RL 152 "java/lang/IllegalStateException" ∈ xx_T := xx_good7 (i := 58) (by decide +kernel) (by decide +kernel)
theorem ml_L_134 : Cond.methodLink RL 134 yX6_turnIn ∈ xx_T := xx_good7 (i := 59) (by decide +kernel) (by decide +kernel)
theorem ml_X6_194 : Cond.methodLink RX6 194 yX0_set ∈ xx_T := xx_good7 (i := 63) (by decide +kernel) (by decide +kernel)
theorem ml_L_138 : Cond.methodLink RL 138 yX7_canPair ∈ xx_T := xx_good7 (i := 64) (by decide +kernel) (by decide +kernel)
theorem ml_L_142 : Cond.methodLink RL 142 yX7_pair ∈ xx_T := xx_good7 (i := 68) (by decide +kernel) (by decide +kernel)
theorem ml_X7_91 : Cond.methodLink RX7 91 yX7_row ∈ xx_T := xx_good7 (i := 72) (by decide +kernel) (by decide +kernel)
theorem ml_X7_80 : Cond.methodLink RX7 80 yX7_with_ ∈ xx_T := xx_good7 (i := 76) (by decide +kernel) (by decide +kernel)
theorem ml_X7_94 : Cond.methodLink RX7 94 yX7_mates ∈ xx_T := xx_good7 (i := 77) (by decide +kernel) (by decide +kernel)
theorem ml_X7_87 : Cond.methodLink RX7 87 yX7_tryOut ∈ xx_T := xx_good7 (i := 81) (by decide +kernel) (by decide +kernel)
theorem ml_X7_98 : Cond.methodLink RX7 98 yX7_wasBlue ∈ xx_T := xx_good7 (i := 85) (by decide +kernel) (by decide +kernel)
theorem ml_L_145 : Cond.methodLink RL 145 yX6_pairRound ∈ xx_T := xx_good7 (i := 89) (by decide +kernel) (by decide +kernel)
theorem ml_X6_169 : Cond.methodLink RX6 169 yX6_needPairable ∈ xx_T := xx_good7 (i := 93) (by decide +kernel) (by decide +kernel)
theorem ml_L_148 : Cond.methodLink RL 148 yX7_latest ∈ xx_T := xx_good7 (i := 98) (by decide +kernel) (by decide +kernel)
theorem ml_L_154 : Cond.methodLink RL 154 yX7_open ∈ xx_T := xx_good7 (i := 99) (by decide +kernel) (by decide +kernel)
theorem ml_L_163 : Cond.methodLink RL 163 yX6_tell ∈ xx_T := xx_good7 (i := 100) (by decide +kernel) (by decide +kernel)
theorem ml_L_239 : Cond.methodLink RL 239 yL_isOpen ∈ xx_T := xx_good7 (i := 106) (by decide +kernel) (by decide +kernel)
theorem ml_L_254 : Cond.methodLink RL 254 yX6_outcomeOf ∈ xx_T := xx_good7 (i := 109) (by decide +kernel) (by decide +kernel)
theorem ml_L_246 : Cond.methodLink RL 246 yL_pairs ∈ xx_T := xx_good7 (i := 110) (by decide +kernel) (by decide +kernel)
theorem ml_L_257 : Cond.methodLink RL 257 yX6_nextOpponentOf ∈ xx_T := xx_good7 (i := 113) (by decide +kernel) (by decide +kernel)
theorem ml_X6_198 : Cond.methodLink RX6 198 yX1_rivalOf ∈ xx_T := xx_good7 (i := 117) (by decide +kernel) (by decide +kernel)
theorem ml_L_260 : Cond.methodLink RL 260 yX6_nextRematches ∈ xx_T := xx_good7 (i := 122) (by decide +kernel) (by decide +kernel)
theorem ml_L_263 : Cond.methodLink RL 263 yX6_restingOne ∈ xx_T := xx_good7 (i := 126) (by decide +kernel) (by decide +kernel)
theorem ml_L_266 : Cond.methodLink RL 266 yX6_opponentOf ∈ xx_T := xx_good7 (i := 127) (by decide +kernel) (by decide +kernel)
theorem ml_L_269 : Cond.methodLink RL 269 yX6_redOf ∈ xx_T := xx_good7 (i := 128) (by decide +kernel) (by decide +kernel)
theorem ml_L_272 : Cond.methodLink RL 272 yX6_blueOf ∈ xx_T := xx_good7 (i := 129) (by decide +kernel) (by decide +kernel)
theorem sl_X5_88 : Cond.fieldLinkNest RX5 88 "BeltRounds$Sign" "text" "Ljava/lang/String;" "BeltRounds" ∈ xx_N := xx_oddin (i := 1639) (by decide +kernel) (by decide +kernel)
theorem su_J4 : Cond.superclass RJ4 RJ5 ∈ xx_T := xx_good6 (i := 7) (by decide +kernel) (by decide +kernel)
theorem sv_J5_ensureCapacityInternal_d00df : Cond.selects RJ4 yJ5_ensureCapacityInternal_d00df yJ5_ensureCapacityInternal_d00df ∈ xx_T := xx_inX (by decide +kernel) (by decide +kernel)
theorem sv_J5_newCapacity_0f7a4 : Cond.selects RJ4 yJ5_newCapacity_0f7a4 yJ5_newCapacity_0f7a4 ∈ xx_T := xx_inX (by decide +kernel) (by decide +kernel)
theorem sa_J5_isLatin1_aae02 : Cond.sameMethod yJ5_isLatin1_aae02.cls yJ5_isLatin1_aae02.cls yJ5_isLatin1_aae02.name yJ5_isLatin1_aae02.desc ∈ xx_T := xx_good6 (i := 45) (by decide +kernel) (by decide +kernel)
theorem sv_J5_isLatin1_aae02 : Cond.selects RJ4 yJ5_isLatin1_aae02 yJ5_isLatin1_aae02 ∈ xx_T := xx_good6 (i := 46) (by decide +kernel) (by decide +kernel)
theorem sv_J5_putStringAt_47b60 : Cond.selects RJ4 yJ5_putStringAt_47b60 yJ5_putStringAt_47b60 ∈ xx_T := xx_inX (by decide +kernel) (by decide +kernel)
theorem sv_J5_inflateIfNeededFor_a7421 : Cond.selects RJ4 yJ5_inflateIfNeededFor_a7421 yJ5_inflateIfNeededFor_a7421 ∈ xx_T := xx_inX (by decide +kernel) (by decide +kernel)
theorem sa_J5_getValue_6d5f1 : Cond.sameMethod yJ5_getValue_6d5f1.cls yJ5_getValue_6d5f1.cls yJ5_getValue_6d5f1.name yJ5_getValue_6d5f1.desc ∈ xx_T := xx_good6 (i := 238) (by decide +kernel) (by decide +kernel)
theorem sv_J5_getValue_6d5f1 : Cond.selects RJ4 yJ5_getValue_6d5f1 yJ5_getValue_6d5f1 ∈ xx_T := xx_good6 (i := 239) (by decide +kernel) (by decide +kernel)
theorem sa_J5_length_8abf5 : Cond.sameMethod yJ5_length_8abf5.cls yJ5_length_8abf5.cls yJ5_length_8abf5.name yJ5_length_8abf5.desc ∈ xx_T := xx_good7 (i := 3) (by decide +kernel) (by decide +kernel)
theorem sv_J5_length_8abf5 : Cond.selects RJ4 yJ5_length_8abf5 yJ4_length_8abf5 ∈ xx_T := xx_good7 (i := 4) (by decide +kernel) (by decide +kernel)
theorem sa_J5_append_cf1ce : Cond.sameMethod yJ5_append_cf1ce.cls yJ5_append_cf1ce.cls yJ5_append_cf1ce.name yJ5_append_cf1ce.desc ∈ xx_T := xx_good7 (i := 131) (by decide +kernel) (by decide +kernel)
theorem sa_J5_appendNull_278bc : Cond.sameMethod yJ5_appendNull_278bc.cls yJ5_appendNull_278bc.cls yJ5_appendNull_278bc.name yJ5_appendNull_278bc.desc ∈ xx_T := xx_good7 (i := 132) (by decide +kernel) (by decide +kernel)
theorem sa_J5_ensureCapacityInternal_d00df : Cond.sameMethod yJ5_ensureCapacityInternal_d00df.cls yJ5_ensureCapacityInternal_d00df.cls yJ5_ensureCapacityInternal_d00df.name yJ5_ensureCapacityInternal_d00df.desc ∈ xx_T := xx_good7 (i := 133) (by decide +kernel) (by decide +kernel)
theorem sa_J5_newCapacity_0f7a4 : Cond.sameMethod yJ5_newCapacity_0f7a4.cls yJ5_newCapacity_0f7a4.cls yJ5_newCapacity_0f7a4.name yJ5_newCapacity_0f7a4.desc ∈ xx_T := xx_good7 (i := 134) (by decide +kernel) (by decide +kernel)
theorem sa_J5_putStringAt_47b60 : Cond.sameMethod yJ5_putStringAt_47b60.cls yJ5_putStringAt_47b60.cls yJ5_putStringAt_47b60.name yJ5_putStringAt_47b60.desc ∈ xx_T := xx_good7 (i := 135) (by decide +kernel) (by decide +kernel)
theorem sa_J5_inflateIfNeededFor_a7421 : Cond.sameMethod yJ5_inflateIfNeededFor_a7421.cls yJ5_inflateIfNeededFor_a7421.cls yJ5_inflateIfNeededFor_a7421.name yJ5_inflateIfNeededFor_a7421.desc ∈ xx_T := xx_good7 (i := 136) (by decide +kernel) (by decide +kernel)
theorem sa_J5_inflate_da8c8 : Cond.sameMethod yJ5_inflate_da8c8.cls yJ5_inflate_da8c8.cls yJ5_inflate_da8c8.name yJ5_inflate_da8c8.desc ∈ xx_T := xx_good7 (i := 137) (by decide +kernel) (by decide +kernel)
theorem sa_J5_append_c97b9 : Cond.sameMethod yJ5_append_c97b9.cls yJ5_append_c97b9.cls yJ5_append_c97b9.name yJ5_append_c97b9.desc ∈ xx_T := xx_good7 (i := 138) (by decide +kernel) (by decide +kernel)
theorem im_objectInit : Cond.instanceMethod objectInit ∈ xx_T := xx_good1 (i := 35) (by decide +kernel) (by decide +kernel)
theorem co_objectInit : Cond.code objectInit ⟨#[0xb1]⟩ 1 none ∈ xx_T := xx_good1 (i := 36) (by decide +kernel) (by decide +kernel)
