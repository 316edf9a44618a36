/-! CONSTRUCTORS; the reference's worlds -/
section XCT
theorem xx_w.up {b q m : Nat} {cs : List (Nat × va_E)} {A : xx_H} {c : va_E} (h : xx_w b cs A) (hb : (cs.map Prod.fst).all (fun z => decide (z < m)) = true) (hd : q < b ∨ b + m ≤ q) : xx_w b cs (xx_up A q c) := h.o2 (fun _ hz => xx_up_n _ _ hz) hb hd
theorem xx_w_nil {b : Nat} {A : xx_H} : xx_w b [] A := fun _ _ _ h => nomatch h
theorem xx_w_cons {b o : Nat} {e : va_E} {cs : List (Nat × va_E)} {A : xx_H} (h : A (b + o) = some e) (hs : xx_w b cs A) : xx_w b ((o, e) :: cs) A := fun i o' e' he => by
  cases i with
  | zero => cases he; exact h
  | succ i => exact hs i o' e' he
abbrev x0 : xS := (fun _ => 0, fun _ _ => 0)
/-- behind a constructor: m cells from b on -/
def ctQ (b m : Nat) (A : xx_H) (W : xx_H → Prop) : xx_Q := fun r A' n' => r = .inl none ∧ n' = b + m ∧ (∀ z, z < b → A' z = A z) ∧ W A'
variable {G : xx_G} {l : Launch} {A : xx_H} {b : Nat}
theorem xx_w.below {b b1 m : Nat} {cs : List (Nat × va_E)} {A' A0 Ax : xx_H} (h0 : xx_w b cs Ax) (o : ∀ z, z < b1 → A' z = A0 z) (h : xx_w b cs A0) (hb : (cs.map Prod.fst).all (fun z => decide (z < m)) = true) (hd : b + m ≤ b1) : xx_w b cs A' := fun i z e he => by
  have hz := List.all_eq_true.mp hb z (List.mem_map.mpr ⟨_, List.mem_of_getElem? he, rfl⟩)
  have hz := of_decide_eq_true hz
  rw [o _ (by omega)]
  exact h i z e he
set_option maxHeartbeats 8000000 in
theorem c_X5_init (hst : l.stackTraces = false) (hA : A b = some (.inr (4, [.null, .int 0, .null, .null, .null, .int 0]))) : xx_D G l yX5_init mX5_init 1 20 4 3203 [.ref b] A (b + 1) (ctQ b 5 A (fun A' => xx_w b (layT (fun _ => none) b x0) A')) := by
  refine J_D hst (by decide +kernel) rfl rfl rfl (Nat.le_of_ble_eq_true rfl) (fun E A n h => nomatch h.1) ?_
  show xx_J _ _ _ _ _ _ _ _ 0 [(0, _)] [] _ _ _ _
  refine J_aload_n dX5_init_0 rfl rfl ?_
  refine J_objInit dX5_init_1 ml_X5_3 im_objectInit co_objectInit ⟨by decide, by decide⟩ ?_
  refine J_aload_n dX5_init_4 rfl rfl ?_
  refine J_sipush (v := 2000) dX5_init_5 (by decide) ?_
  refine J_newb (N := 2000) dX5_init_8 ac_byte (by decide) (by decide) (by decide) (Nat.le_of_ble_eq_true rfl) (Nat.le_of_ble_eq_true rfl) ?_
  refine J_putF dX5_init_10 rfl ff_X5_9 (fun _ => ⟨rfl, rfl⟩) ((xx_up_n _ _ (by omega)).trans hA) (Nat.le_of_ble_eq_true rfl) ?_
  refine J_aload_n dX5_init_13 rfl rfl ?_
  refine J_iconst (v := 0) dX5_init_14 (by decide) ?_
  refine J_putf dX5_init_15 fp_X5_15 (fun _ => ⟨rfl, rfl⟩) (xx_up_s _ _ _) (Nat.le_of_ble_eq_true rfl) ?_
  refine J_aload_n dX5_init_18 rfl rfl ?_
  refine J_sipush (v := 401) dX5_init_19 (by decide) ?_
  refine J_newq (N := 401) dX5_init_22 cl_X5_19 (by decide) (by decide) (by decide) (Nat.le_of_ble_eq_true rfl) (Nat.le_of_ble_eq_true rfl) ?_
  refine J_putF dX5_init_25 rfl ff_X5_21 (fun _ => ⟨rfl, rfl⟩) ((xx_up_n _ _ (by omega)).trans (xx_up_s _ _ _)) (Nat.le_of_ble_eq_true rfl) ?_
  refine J_aload_n dX5_init_28 rfl rfl ?_
  refine J_sipush (v := 401) dX5_init_29 (by decide) ?_
  refine J_newi (N := 401) dX5_init_32 ac_int (by decide) (by decide) (by decide) (Nat.le_of_ble_eq_true rfl) (Nat.le_of_ble_eq_true rfl) ?_
  refine J_putF dX5_init_34 rfl ff_X5_25 (fun _ => ⟨rfl, rfl⟩) ((xx_up_n _ _ (by omega)).trans (xx_up_s _ _ _)) (Nat.le_of_ble_eq_true rfl) ?_
  refine J_aload_n dX5_init_37 rfl rfl ?_
  refine J_sipush (v := 401) dX5_init_38 (by decide) ?_
  refine J_newi (N := 401) dX5_init_41 ac_int (by decide) (by decide) (by decide) (Nat.le_of_ble_eq_true rfl) (Nat.le_of_ble_eq_true rfl) ?_
  refine J_putF dX5_init_43 rfl ff_X5_29 (fun _ => ⟨rfl, rfl⟩) ((xx_up_n _ _ (by omega)).trans (xx_up_s _ _ _)) (Nat.le_of_ble_eq_true rfl) ?_
  refine J_aload_n dX5_init_46 rfl rfl ?_
  refine J_iconst (v := 0) dX5_init_47 (by decide) ?_
  refine J_putf dX5_init_48 fp_X5_32 (fun _ => ⟨rfl, rfl⟩) (xx_up_s _ _ _) (Nat.le_of_ble_eq_true rfl) ?_
  refine J_return dX5_init_51 rfl (Nat.le_of_ble_eq_true rfl) (Nat.le_of_ble_eq_true rfl) ?_
  refine ⟨rfl, rfl, fun z hz => ?_, ?_⟩
  · repeat rw [xx_up_n _ _ (by omega)]
  · show xx_w b (layT (fun _ => none) b x0) _
    refine xx_w_cons ?_ (xx_w_cons ?_ (xx_w_cons ?_ (xx_w_cons ?_ (xx_w_cons ?_ xx_w_nil)))) <;> first | rfl | (simp [xx_up]; done) | (simp [xx_up]; repeat' (first | rfl | constructor))
set_option maxHeartbeats 8000000 in
theorem c_X3_init (hst : l.stackTraces = false) (hA : A b = some (.inr (3, [.int 0, .null, .null, .int 0, .null, .null, .int 0, .null]))) : xx_D G l yX3_init mX3_init 1 20 5 1232 [.ref b] A (b + 1) (ctQ b 6 A (fun A' => xx_w b (layR b x0) A')) := by
  refine J_D hst (by decide +kernel) rfl rfl rfl (Nat.le_of_ble_eq_true rfl) (fun E A n h => nomatch h.1) ?_
  show xx_J _ _ _ _ _ _ _ _ 0 [(0, _)] [] _ _ _ _
  refine J_aload_n dX3_init_0 rfl rfl ?_
  refine J_objInit dX3_init_1 ml_X3_3 im_objectInit co_objectInit ⟨by decide, by decide⟩ ?_
  refine J_aload_n dX3_init_4 rfl rfl ?_
  refine J_iconst (v := 0) dX3_init_5 (by decide) ?_
  refine J_putf dX3_init_6 fp_X3_9 (fun _ => ⟨rfl, rfl⟩) hA (Nat.le_of_ble_eq_true rfl) ?_
  refine J_aload_n dX3_init_9 rfl rfl ?_
  refine J_bipush (v := 16) dX3_init_10 (by decide) ?_
  refine J_newi (N := 16) dX3_init_12 ac_int (by decide) (by decide) (by decide) (Nat.le_of_ble_eq_true rfl) (Nat.le_of_ble_eq_true rfl) ?_
  refine J_putF dX3_init_14 rfl ff_X3_15 (fun _ => ⟨rfl, rfl⟩) ((xx_up_n _ _ (by omega)).trans (xx_up_s _ _ _)) (Nat.le_of_ble_eq_true rfl) ?_
  refine J_aload_n dX3_init_17 rfl rfl ?_
  refine J_bipush (v := 16) dX3_init_18 (by decide) ?_
  refine J_newi (N := 16) dX3_init_20 ac_int (by decide) (by decide) (by decide) (Nat.le_of_ble_eq_true rfl) (Nat.le_of_ble_eq_true rfl) ?_
  refine J_putF dX3_init_22 rfl ff_X3_19 (fun _ => ⟨rfl, rfl⟩) ((xx_up_n _ _ (by omega)).trans (xx_up_s _ _ _)) (Nat.le_of_ble_eq_true rfl) ?_
  refine J_aload_n dX3_init_25 rfl rfl ?_
  refine J_iconst (v := 0) dX3_init_26 (by decide) ?_
  refine J_putf dX3_init_27 fp_X3_22 (fun _ => ⟨rfl, rfl⟩) (xx_up_s _ _ _) (Nat.le_of_ble_eq_true rfl) ?_
  refine J_aload_n dX3_init_30 rfl rfl ?_
  refine J_sipush (v := 400) dX3_init_31 (by decide) ?_
  refine J_newi (N := 400) dX3_init_34 ac_int (by decide) (by decide) (by decide) (Nat.le_of_ble_eq_true rfl) (Nat.le_of_ble_eq_true rfl) ?_
  refine J_putF dX3_init_36 rfl ff_X3_25 (fun _ => ⟨rfl, rfl⟩) ((xx_up_n _ _ (by omega)).trans (xx_up_s _ _ _)) (Nat.le_of_ble_eq_true rfl) ?_
  refine J_aload_n dX3_init_39 rfl rfl ?_
  refine J_sipush (v := 400) dX3_init_40 (by decide) ?_
  refine J_newi (N := 400) dX3_init_43 ac_int (by decide) (by decide) (by decide) (Nat.le_of_ble_eq_true rfl) (Nat.le_of_ble_eq_true rfl) ?_
  refine J_putF dX3_init_45 rfl ff_X3_28 (fun _ => ⟨rfl, rfl⟩) ((xx_up_n _ _ (by omega)).trans (xx_up_s _ _ _)) (Nat.le_of_ble_eq_true rfl) ?_
  refine J_aload_n dX3_init_48 rfl rfl ?_
  refine J_iconst (v := 0) dX3_init_49 (by decide) ?_
  refine J_putf dX3_init_50 fp_X3_31 (fun _ => ⟨rfl, rfl⟩) (xx_up_s _ _ _) (Nat.le_of_ble_eq_true rfl) ?_
  refine J_aload_n dX3_init_53 rfl rfl ?_
  refine J_sipush (v := 400) dX3_init_54 (by decide) ?_
  refine J_newi (N := 400) dX3_init_57 ac_int (by decide) (by decide) (by decide) (Nat.le_of_ble_eq_true rfl) (Nat.le_of_ble_eq_true rfl) ?_
  refine J_putF dX3_init_59 rfl ff_X3_34 (fun _ => ⟨rfl, rfl⟩) ((xx_up_n _ _ (by omega)).trans (xx_up_s _ _ _)) (Nat.le_of_ble_eq_true rfl) ?_
  refine J_return dX3_init_62 rfl (Nat.le_of_ble_eq_true rfl) (Nat.le_of_ble_eq_true rfl) ?_
  refine ⟨rfl, rfl, fun z hz => ?_, ?_⟩
  · repeat rw [xx_up_n _ _ (by omega)]
  · show xx_w b (layR b x0) _
    refine xx_w_cons ?_ (xx_w_cons ?_ (xx_w_cons ?_ (xx_w_cons ?_ (xx_w_cons ?_ (xx_w_cons ?_ xx_w_nil))))) <;> first | rfl | (simp [xx_up]; done) | (simp [xx_up]; repeat' (first | rfl | constructor))
set_option maxHeartbeats 8000000 in
theorem c_X0_init (hst : l.stackTraces = false) (hA : A b = some (.inr (0, [.int 0, .int 0, .null, .null, .null, .int 0, .null, .null, .null, .int 0, .null, .null]))) : xx_D G l yX0_init mX0_init 1 20 8 309 [.ref b] A (b + 1) (ctQ b 9 A (fun A' => xx_w b (layF b (s_up x0 9 (-1))) A')) := by
  refine J_D hst (by decide +kernel) rfl rfl rfl (Nat.le_of_ble_eq_true rfl) (fun E A n h => nomatch h.1) ?_
  show xx_J _ _ _ _ _ _ _ _ 0 [(0, _)] [] _ _ _ _
  refine J_aload_n dX0_init_0 rfl rfl ?_
  refine J_objInit dX0_init_1 ml_X0_3 im_objectInit co_objectInit ⟨by decide, by decide⟩ ?_
  refine J_aload_n dX0_init_4 rfl rfl ?_
  refine J_iconst (v := 0) dX0_init_5 (by decide) ?_
  refine J_putf dX0_init_6 fp_X0_9 (fun _ => ⟨rfl, rfl⟩) hA (Nat.le_of_ble_eq_true rfl) ?_
  refine J_aload_n dX0_init_9 rfl rfl ?_
  refine J_iconst (v := 0) dX0_init_10 (by decide) ?_
  refine J_putf dX0_init_11 fp_X0_15 (fun _ => ⟨rfl, rfl⟩) (xx_up_s _ _ _) (Nat.le_of_ble_eq_true rfl) ?_
  refine J_aload_n dX0_init_14 rfl rfl ?_
  refine J_iconst (v := 3) dX0_init_15 (by decide) ?_
  refine J_newi (N := 3) dX0_init_16 ac_int (by decide) (by decide) (by decide) (Nat.le_of_ble_eq_true rfl) (Nat.le_of_ble_eq_true rfl) ?_
  refine J_putF dX0_init_18 rfl ff_X0_18 (fun _ => ⟨rfl, rfl⟩) ((xx_up_n _ _ (by omega)).trans (xx_up_s _ _ _)) (Nat.le_of_ble_eq_true rfl) ?_
  refine J_aload_n dX0_init_21 rfl rfl ?_
  refine J_bipush (v := 120) dX0_init_22 (by decide) ?_
  refine J_newi (N := 120) dX0_init_24 ac_int (by decide) (by decide) (by decide) (Nat.le_of_ble_eq_true rfl) (Nat.le_of_ble_eq_true rfl) ?_
  refine J_putF dX0_init_26 rfl ff_X0_22 (fun _ => ⟨rfl, rfl⟩) ((xx_up_n _ _ (by omega)).trans (xx_up_s _ _ _)) (Nat.le_of_ble_eq_true rfl) ?_
  refine J_aload_n dX0_init_29 rfl rfl ?_
  refine J_sipush (v := 144) dX0_init_30 (by decide) ?_
  refine J_newi (N := 144) dX0_init_33 ac_int (by decide) (by decide) (by decide) (Nat.le_of_ble_eq_true rfl) (Nat.le_of_ble_eq_true rfl) ?_
  refine J_putF dX0_init_35 rfl ff_X0_25 (fun _ => ⟨rfl, rfl⟩) ((xx_up_n _ _ (by omega)).trans (xx_up_s _ _ _)) (Nat.le_of_ble_eq_true rfl) ?_
  refine J_aload_n dX0_init_38 rfl rfl ?_
  refine J_iconst (v := 0) dX0_init_39 (by decide) ?_
  refine J_putf dX0_init_40 fp_X0_28 (fun _ => ⟨rfl, rfl⟩) (xx_up_s _ _ _) (Nat.le_of_ble_eq_true rfl) ?_
  refine J_aload_n dX0_init_43 rfl rfl ?_
  refine J_bipush (v := 6) dX0_init_44 (by decide) ?_
  refine J_newi (N := 6) dX0_init_46 ac_int (by decide) (by decide) (by decide) (Nat.le_of_ble_eq_true rfl) (Nat.le_of_ble_eq_true rfl) ?_
  refine J_putF dX0_init_48 rfl ff_X0_31 (fun _ => ⟨rfl, rfl⟩) ((xx_up_n _ _ (by omega)).trans (xx_up_s _ _ _)) (Nat.le_of_ble_eq_true rfl) ?_
  refine J_aload_n dX0_init_51 rfl rfl ?_
  refine J_bipush (v := 6) dX0_init_52 (by decide) ?_
  refine J_newi (N := 6) dX0_init_54 ac_int (by decide) (by decide) (by decide) (Nat.le_of_ble_eq_true rfl) (Nat.le_of_ble_eq_true rfl) ?_
  refine J_putF dX0_init_56 rfl ff_X0_34 (fun _ => ⟨rfl, rfl⟩) ((xx_up_n _ _ (by omega)).trans (xx_up_s _ _ _)) (Nat.le_of_ble_eq_true rfl) ?_
  refine J_aload_n dX0_init_59 rfl rfl ?_
  refine J_bipush (v := 6) dX0_init_60 (by decide) ?_
  refine J_newi (N := 6) dX0_init_62 ac_int (by decide) (by decide) (by decide) (Nat.le_of_ble_eq_true rfl) (Nat.le_of_ble_eq_true rfl) ?_
  refine J_putF dX0_init_64 rfl ff_X0_37 (fun _ => ⟨rfl, rfl⟩) ((xx_up_n _ _ (by omega)).trans (xx_up_s _ _ _)) (Nat.le_of_ble_eq_true rfl) ?_
  refine J_aload_n dX0_init_67 rfl rfl ?_
  refine J_iconst (v := -1) dX0_init_68 (by decide) ?_
  refine J_putf dX0_init_69 fp_X0_40 (fun _ => ⟨rfl, rfl⟩) (xx_up_s _ _ _) (Nat.le_of_ble_eq_true rfl) ?_
  refine J_aload_n dX0_init_72 rfl rfl ?_
  refine J_bipush (v := 12) dX0_init_73 (by decide) ?_
  refine J_newi (N := 12) dX0_init_75 ac_int (by decide) (by decide) (by decide) (Nat.le_of_ble_eq_true rfl) (Nat.le_of_ble_eq_true rfl) ?_
  refine J_putF dX0_init_77 rfl ff_X0_43 (fun _ => ⟨rfl, rfl⟩) ((xx_up_n _ _ (by omega)).trans (xx_up_s _ _ _)) (Nat.le_of_ble_eq_true rfl) ?_
  refine J_aload_n dX0_init_80 rfl rfl ?_
  refine J_bipush (v := 12) dX0_init_81 (by decide) ?_
  refine J_newi (N := 12) dX0_init_83 ac_int (by decide) (by decide) (by decide) (Nat.le_of_ble_eq_true rfl) (Nat.le_of_ble_eq_true rfl) ?_
  refine J_putF dX0_init_85 rfl ff_X0_46 (fun _ => ⟨rfl, rfl⟩) ((xx_up_n _ _ (by omega)).trans (xx_up_s _ _ _)) (Nat.le_of_ble_eq_true rfl) ?_
  refine J_return dX0_init_88 rfl (Nat.le_of_ble_eq_true rfl) (Nat.le_of_ble_eq_true rfl) ?_
  refine ⟨rfl, rfl, fun z hz => ?_, ?_⟩
  · repeat rw [xx_up_n _ _ (by omega)]
  · show xx_w b (layF b (s_up x0 9 (-1))) _
    refine xx_w_cons ?_ (xx_w_cons ?_ (xx_w_cons ?_ (xx_w_cons ?_ (xx_w_cons ?_ (xx_w_cons ?_ (xx_w_cons ?_ (xx_w_cons ?_ (xx_w_cons ?_ xx_w_nil)))))))) <;> first | rfl | (simp [xx_up]; done) | (simp [xx_up]; repeat' (first | rfl | constructor))
set_option maxHeartbeats 8000000 in
theorem c_X1_init (hst : l.stackTraces = false) (hA : A b = some (.inr (1, [.int 0, .int 0, .int 0, .null, .null, .int 0, .null, .null, .null]))) : xx_D G l yX1_init mX1_init 1 20 5 4132 [.ref b] A (b + 1) (ctQ b 6 A (fun A' => xx_w b (layP b (s_up x0 2 (-1))) A')) := by
  refine J_D hst (by decide +kernel) rfl rfl rfl (Nat.le_of_ble_eq_true rfl) (fun E A n h => nomatch h.1) ?_
  show xx_J _ _ _ _ _ _ _ _ 0 [(0, _)] [] _ _ _ _
  refine J_aload_n dX1_init_0 rfl rfl ?_
  refine J_objInit dX1_init_1 ml_X1_3 im_objectInit co_objectInit ⟨by decide, by decide⟩ ?_
  refine J_aload_n dX1_init_4 rfl rfl ?_
  refine J_iconst (v := 0) dX1_init_5 (by decide) ?_
  refine J_putf dX1_init_6 fp_X1_9 (fun _ => ⟨rfl, rfl⟩) hA (Nat.le_of_ble_eq_true rfl) ?_
  refine J_aload_n dX1_init_9 rfl rfl ?_
  refine J_iconst (v := 0) dX1_init_10 (by decide) ?_
  refine J_putf dX1_init_11 fp_X1_15 (fun _ => ⟨rfl, rfl⟩) (xx_up_s _ _ _) (Nat.le_of_ble_eq_true rfl) ?_
  refine J_aload_n dX1_init_14 rfl rfl ?_
  refine J_iconst (v := -1) dX1_init_15 (by decide) ?_
  refine J_putf dX1_init_16 fp_X1_18 (fun _ => ⟨rfl, rfl⟩) (xx_up_s _ _ _) (Nat.le_of_ble_eq_true rfl) ?_
  refine J_aload_n dX1_init_19 rfl rfl ?_
  refine J_bipush (v := 6) dX1_init_20 (by decide) ?_
  refine J_newi (N := 6) dX1_init_22 ac_int (by decide) (by decide) (by decide) (Nat.le_of_ble_eq_true rfl) (Nat.le_of_ble_eq_true rfl) ?_
  refine J_putF dX1_init_24 rfl ff_X1_21 (fun _ => ⟨rfl, rfl⟩) ((xx_up_n _ _ (by omega)).trans (xx_up_s _ _ _)) (Nat.le_of_ble_eq_true rfl) ?_
  refine J_aload_n dX1_init_27 rfl rfl ?_
  refine J_bipush (v := 6) dX1_init_28 (by decide) ?_
  refine J_newi (N := 6) dX1_init_30 ac_int (by decide) (by decide) (by decide) (Nat.le_of_ble_eq_true rfl) (Nat.le_of_ble_eq_true rfl) ?_
  refine J_putF dX1_init_32 rfl ff_X1_25 (fun _ => ⟨rfl, rfl⟩) ((xx_up_n _ _ (by omega)).trans (xx_up_s _ _ _)) (Nat.le_of_ble_eq_true rfl) ?_
  refine J_aload_n dX1_init_35 rfl rfl ?_
  refine J_iconst (v := 0) dX1_init_36 (by decide) ?_
  refine J_putf dX1_init_37 fp_X1_28 (fun _ => ⟨rfl, rfl⟩) (xx_up_s _ _ _) (Nat.le_of_ble_eq_true rfl) ?_
  refine J_aload_n dX1_init_40 rfl rfl ?_
  refine J_bipush (v := 12) dX1_init_41 (by decide) ?_
  refine J_newi (N := 12) dX1_init_43 ac_int (by decide) (by decide) (by decide) (Nat.le_of_ble_eq_true rfl) (Nat.le_of_ble_eq_true rfl) ?_
  refine J_putF dX1_init_45 rfl ff_X1_31 (fun _ => ⟨rfl, rfl⟩) ((xx_up_n _ _ (by omega)).trans (xx_up_s _ _ _)) (Nat.le_of_ble_eq_true rfl) ?_
  refine J_aload_n dX1_init_48 rfl rfl ?_
  refine J_bipush (v := 12) dX1_init_49 (by decide) ?_
  refine J_newi (N := 12) dX1_init_51 ac_int (by decide) (by decide) (by decide) (Nat.le_of_ble_eq_true rfl) (Nat.le_of_ble_eq_true rfl) ?_
  refine J_putF dX1_init_53 rfl ff_X1_34 (fun _ => ⟨rfl, rfl⟩) ((xx_up_n _ _ (by omega)).trans (xx_up_s _ _ _)) (Nat.le_of_ble_eq_true rfl) ?_
  refine J_aload_n dX1_init_56 rfl rfl ?_
  refine J_sipush (v := 4096) dX1_init_57 (by decide) ?_
  refine J_newi (N := 4096) dX1_init_60 ac_int (by decide) (by decide) (by decide) (Nat.le_of_ble_eq_true rfl) (Nat.le_of_ble_eq_true rfl) ?_
  refine J_putF dX1_init_62 rfl ff_X1_37 (fun _ => ⟨rfl, rfl⟩) ((xx_up_n _ _ (by omega)).trans (xx_up_s _ _ _)) (Nat.le_of_ble_eq_true rfl) ?_
  refine J_return dX1_init_65 rfl (Nat.le_of_ble_eq_true rfl) (Nat.le_of_ble_eq_true rfl) ?_
  refine ⟨rfl, rfl, fun z hz => ?_, ?_⟩
  · repeat rw [xx_up_n _ _ (by omega)]
  · show xx_w b (layP b (s_up x0 2 (-1))) _
    refine xx_w_cons ?_ (xx_w_cons ?_ (xx_w_cons ?_ (xx_w_cons ?_ (xx_w_cons ?_ (xx_w_cons ?_ xx_w_nil))))) <;> first | rfl | (simp [xx_up]; done) | (simp [xx_up]; repeat' (first | rfl | constructor))
set_option maxHeartbeats 8000000 in
theorem c_X2_init (hst : l.stackTraces = false) (hA : A b = some (.inr (2, [.null, .null, .null, .null, .null, .int 0, .int 0, .int 0, .int 0]))) : xx_D G l yX2_init mX2_init 2 40 14 4476 [.ref b] A (b + 1) (ctQ b 15 A (fun A' => rdW b (s_up x0 8 (-1)) x0 x0 (fun _ => none) A')) := by
  refine J_D hst (by decide +kernel) rfl rfl rfl (Nat.le_of_ble_eq_true rfl) (fun E A n h => nomatch h.1) ?_
  show xx_J _ _ _ _ _ _ _ _ 0 [(0, _)] [] _ _ _ _
  refine J_aload_n dX2_init_0 rfl rfl ?_
  refine J_objInit dX2_init_1 ml_X2_3 im_objectInit co_objectInit ⟨by decide, by decide⟩ ?_
  refine J_aload_n dX2_init_4 rfl rfl ?_
  refine J_new (fs := [.null, .int 0, .null, .null, .null, .int 0]) dX2_init_5 k_4 cl_X2_9 ins_BeltRounds_Tape in_BeltRounds_Tape (fun q hq => by rcases (show q = 0 ∨ q = 1 ∨ q = 2 ∨ q = 3 ∨ q = 4 ∨ q = 5 by omega) with rfl | rfl | rfl | rfl | rfl | rfl <;> rfl) (fun v hv q h => by subst h; simp at hv) (Nat.le_of_ble_eq_true rfl) (Nat.le_of_ble_eq_true rfl) ?_
  refine J_dup dX2_init_8 rfl ?_
  refine J_callI (As := []) dX2_init_9 (Or.inr ⟨_, ml_X2_11⟩) cal_X5_init rfl rfl rfl im_X5_init rfl (Nat.le_of_ble_eq_true rfl) ⟨by decide, by decide⟩ ⟨Nat.le_of_ble_eq_true rfl, Nat.le_of_ble_eq_true rfl⟩ (c_X5_init (b := b + 1) hst (xx_up_s _ _ _)) (fun v1 A1 n1 _ hQ1 => ?_)
  obtain ⟨e1, en1, old1, w1⟩ := hQ1
  cases e1
  have en1b : n1 = b + 6 := by rw [en1]
  subst en1b
  have hb1 := (old1 b (by omega)).trans ((xx_up_n _ _ (by omega)).trans hA)
  refine J_putF dX2_init_12 rfl ff_X2_12 (fun _ => ⟨rfl, rfl⟩) hb1 (Nat.le_of_ble_eq_true rfl) ?_
  refine J_aload_n dX2_init_15 rfl rfl ?_
  refine J_new (fs := [.int 0, .null, .null, .int 0, .null, .null, .int 0, .null]) dX2_init_16 k_3 cl_X2_18 ins_BeltRounds_Rules in_BeltRounds_Rules (fun q hq => by rcases (show q = 0 ∨ q = 1 ∨ q = 2 ∨ q = 3 ∨ q = 4 ∨ q = 5 ∨ q = 6 ∨ q = 7 by omega) with rfl | rfl | rfl | rfl | rfl | rfl | rfl | rfl <;> rfl) (fun v hv q h => by subst h; simp at hv) (Nat.le_of_ble_eq_true rfl) (Nat.le_of_ble_eq_true rfl) ?_
  refine J_dup dX2_init_19 rfl ?_
  refine J_callI (As := []) dX2_init_20 (Or.inr ⟨_, ml_X2_20⟩) cal_X3_init rfl rfl rfl im_X3_init rfl (Nat.le_of_ble_eq_true rfl) ⟨by decide, by decide⟩ ⟨Nat.le_of_ble_eq_true rfl, Nat.le_of_ble_eq_true rfl⟩ (c_X3_init (b := b + 6) hst (xx_up_s _ _ _)) (fun v2 A2 n2 _ hQ2 => ?_)
  obtain ⟨e2, en2, old2, w2⟩ := hQ2
  cases e2
  have en2b : n2 = b + 12 := by rw [en2]
  subst en2b
  have hb2 := (old2 b (by omega)).trans ((xx_up_n _ _ (by omega)).trans (xx_up_s _ _ _))
  have w1k := xx_w.below (b := b + 1) (m := 5) w1 old2 (by repeat (first | exact w1 | refine xx_w.up (m := 5) ?_ rfl (by omega))) rfl (by omega)
  refine J_putF dX2_init_23 rfl ff_X2_21 (fun _ => ⟨rfl, rfl⟩) hb2 (Nat.le_of_ble_eq_true rfl) ?_
  refine J_aload_n dX2_init_26 rfl rfl ?_
  refine J_bipush (v := 12) dX2_init_27 (by decide) ?_
  refine J_newi (N := 12) dX2_init_29 ac_int (by decide) (by decide) (by decide) (Nat.le_of_ble_eq_true rfl) (Nat.le_of_ble_eq_true rfl) ?_
  refine J_putF dX2_init_31 rfl ff_X2_25 (fun _ => ⟨rfl, rfl⟩) ((xx_up_n _ _ (by omega)).trans (xx_up_s _ _ _)) (Nat.le_of_ble_eq_true rfl) ?_
  refine J_aload_n dX2_init_34 rfl rfl ?_
  refine J_bipush (v := 12) dX2_init_35 (by decide) ?_
  refine J_newi (N := 12) dX2_init_37 ac_int (by decide) (by decide) (by decide) (Nat.le_of_ble_eq_true rfl) (Nat.le_of_ble_eq_true rfl) ?_
  refine J_putF dX2_init_39 rfl ff_X2_29 (fun _ => ⟨rfl, rfl⟩) ((xx_up_n _ _ (by omega)).trans (xx_up_s _ _ _)) (Nat.le_of_ble_eq_true rfl) ?_
  refine J_aload_n dX2_init_42 rfl rfl ?_
  refine J_iconst (v := 3) dX2_init_43 (by decide) ?_
  refine J_newi (N := 3) dX2_init_44 ac_int (by decide) (by decide) (by decide) (Nat.le_of_ble_eq_true rfl) (Nat.le_of_ble_eq_true rfl) ?_
  refine J_putF dX2_init_46 rfl ff_X2_32 (fun _ => ⟨rfl, rfl⟩) ((xx_up_n _ _ (by omega)).trans (xx_up_s _ _ _)) (Nat.le_of_ble_eq_true rfl) ?_
  refine J_aload_n dX2_init_49 rfl rfl ?_
  refine J_iconst (v := 0) dX2_init_50 (by decide) ?_
  refine J_putf dX2_init_51 fp_X2_35 (fun _ => ⟨rfl, rfl⟩) (xx_up_s _ _ _) (Nat.le_of_ble_eq_true rfl) ?_
  refine J_aload_n dX2_init_54 rfl rfl ?_
  refine J_iconst (v := 0) dX2_init_55 (by decide) ?_
  refine J_putf dX2_init_56 fp_X2_39 (fun _ => ⟨rfl, rfl⟩) (xx_up_s _ _ _) (Nat.le_of_ble_eq_true rfl) ?_
  refine J_aload_n dX2_init_59 rfl rfl ?_
  refine J_iconst (v := 0) dX2_init_60 (by decide) ?_
  refine J_putf dX2_init_61 fp_X2_42 (fun _ => ⟨rfl, rfl⟩) (xx_up_s _ _ _) (Nat.le_of_ble_eq_true rfl) ?_
  refine J_aload_n dX2_init_64 rfl rfl ?_
  refine J_iconst (v := -1) dX2_init_65 (by decide) ?_
  refine J_putf dX2_init_66 fp_X2_45 (fun _ => ⟨rfl, rfl⟩) (xx_up_s _ _ _) (Nat.le_of_ble_eq_true rfl) ?_
  refine J_return dX2_init_69 rfl (Nat.le_of_ble_eq_true rfl) (Nat.le_of_ble_eq_true rfl) ?_
  refine ⟨rfl, rfl, fun z hz => ?_, ?_⟩
  · repeat rw [xx_up_n _ _ (by omega)]
    rw [old2 z (by omega)]
    repeat rw [xx_up_n _ _ (by omega)]
    rw [old1 z (by omega)]
    repeat rw [xx_up_n _ _ (by omega)]
  · refine ⟨?_, (by repeat (first | exact w1k | refine xx_w.up (m := 5) ?_ rfl (by omega))), (by repeat (first | exact w2 | refine xx_w.up (m := 6) ?_ rfl (by omega)))⟩
    show xx_w b (layD (b + 1) (b + 6) b (s_up x0 8 (-1))) _
    refine xx_w_cons ?_ (xx_w_cons ?_ (xx_w_cons ?_ (xx_w_cons ?_ xx_w_nil))) <;> first | rfl | (simp [xx_up]; done) | (simp [xx_up]; repeat' (first | rfl | constructor))
/-- a BeltRounds: its Reader at b + 1 (tape b + 2, rules b + 7), rules b + 16, field b + 22, trial b + 31, pairing b + 40 -/
def layX (b : Nat) : List (Nat × va_E) := [(0, .inr (5, [.ref (b + 1), .ref (b + 2), .ref (b + 16), .ref (b + 22), .ref (b + 31), .ref (b + 40)]))]
set_option maxHeartbeats 8000000 in
theorem c_X6_init (hst : l.stackTraces = false) (hA : A b = some (.inr (5, [.null, .null, .null, .null, .null, .null]))) : xx_D G l yX6_init mX6_init 3 60 45 10508 [.ref b] A (b + 1) (ctQ b 46 A (fun A' => xx_w b (layX b) A' ∧ rdW (b + 1) (s_up x0 8 (-1)) x0 x0 (fun _ => none) A' ∧ xx_w (b + 16) (layR (b + 16) x0) A' ∧ xx_w (b + 22) (layF (b + 22) (s_up x0 9 (-1))) A' ∧ xx_w (b + 31) (layF (b + 31) (s_up x0 9 (-1))) A' ∧ xx_w (b + 40) (layP (b + 40) (s_up x0 2 (-1))) A')) := by
  refine J_D hst (by decide +kernel) rfl rfl rfl (Nat.le_of_ble_eq_true rfl) (fun E A n h => nomatch h.1) ?_
  show xx_J _ _ _ _ _ _ _ _ 0 [(0, _)] [] _ _ _ _
  refine J_aload_n dX6_init_0 rfl rfl ?_
  refine J_objInit dX6_init_1 ml_X6_1 im_objectInit co_objectInit ⟨by decide, by decide⟩ ?_
  refine J_aload_n dX6_init_4 rfl rfl ?_
  refine J_new (fs := [.null, .null, .null, .null, .null, .int 0, .int 0, .int 0, .int 0]) dX6_init_5 k_2 cl_X6_7 ins_BeltRounds_Reader in_BeltRounds_Reader (fun q hq => by rcases (show q = 0 ∨ q = 1 ∨ q = 2 ∨ q = 3 ∨ q = 4 ∨ q = 5 ∨ q = 6 ∨ q = 7 ∨ q = 8 by omega) with rfl | rfl | rfl | rfl | rfl | rfl | rfl | rfl | rfl <;> rfl) (fun v hv q h => by subst h; simp at hv) (Nat.le_of_ble_eq_true rfl) (Nat.le_of_ble_eq_true rfl) ?_
  refine J_dup dX6_init_8 rfl ?_
  refine J_callI (As := []) dX6_init_9 (Or.inr ⟨_, ml_X6_9⟩) cal_X2_init rfl rfl rfl im_X2_init rfl (Nat.le_of_ble_eq_true rfl) ⟨by decide, by decide⟩ ⟨Nat.le_of_ble_eq_true rfl, Nat.le_of_ble_eq_true rfl⟩ (c_X2_init (b := b + 1) hst (xx_up_s _ _ _)) (fun v1 A1 n1 _ hQ1 => ?_)
  obtain ⟨e1, en1, old1, w1⟩ := hQ1
  cases e1
  have en1b : n1 = b + 16 := by rw [en1]
  subst en1b
  have hb1 := (old1 b (by omega)).trans ((xx_up_n _ _ (by omega)).trans hA)
  obtain ⟨w1a, w1b, w1c⟩ := w1
  refine J_putF dX6_init_12 rfl ff_X6_10 (fun _ => ⟨rfl, rfl⟩) hb1 (Nat.le_of_ble_eq_true rfl) ?_
  refine J_aload_n dX6_init_15 rfl rfl ?_
  refine J_aload_n dX6_init_16 rfl rfl ?_
  refine J_getf dX6_init_17 fl_X6_10 (xx_up_s _ _ _) rfl ?_
  refine J_getf dX6_init_20 fl_X6_16 ((xx_w.up (m := 15) w1a rfl (by omega)).at 0 rfl) rfl ?_
  refine J_putF dX6_init_23 rfl ff_X6_20 (fun _ => ⟨rfl, rfl⟩) (xx_up_s _ _ _) (Nat.le_of_ble_eq_true rfl) ?_
  refine J_aload_n dX6_init_26 rfl rfl ?_
  refine J_new (fs := [.int 0, .null, .null, .int 0, .null, .null, .int 0, .null]) dX6_init_27 k_3 cl_X6_21 ins_BeltRounds_Rules in_BeltRounds_Rules (fun q hq => by rcases (show q = 0 ∨ q = 1 ∨ q = 2 ∨ q = 3 ∨ q = 4 ∨ q = 5 ∨ q = 6 ∨ q = 7 by omega) with rfl | rfl | rfl | rfl | rfl | rfl | rfl | rfl <;> rfl) (fun v hv q h => by subst h; simp at hv) (Nat.le_of_ble_eq_true rfl) (Nat.le_of_ble_eq_true rfl) ?_
  refine J_dup dX6_init_30 rfl ?_
  refine J_callI (As := []) dX6_init_31 (Or.inr ⟨_, ml_X6_23⟩) cal_X3_init rfl rfl rfl im_X3_init rfl (Nat.le_of_ble_eq_true rfl) ⟨by decide, by decide⟩ ⟨Nat.le_of_ble_eq_true rfl, Nat.le_of_ble_eq_true rfl⟩ (c_X3_init (b := b + 16) hst (xx_up_s _ _ _)) (fun v2 A2 n2 _ hQ2 => ?_)
  obtain ⟨e2, en2, old2, w2⟩ := hQ2
  cases e2
  have en2b : n2 = b + 22 := by rw [en2]
  subst en2b
  have hb2 := (old2 b (by omega)).trans ((xx_up_n _ _ (by omega)).trans (xx_up_s _ _ _))
  have w1ak := xx_w.below (b := b + 1) (m := 15) w1a old2 (by repeat (first | exact w1a | refine xx_w.up (m := 15) ?_ rfl (by omega))) rfl (by omega)
  have w1bk := xx_w.below (b := b + 2) (m := 5) w1b old2 (by repeat (first | exact w1b | refine xx_w.up (m := 5) ?_ rfl (by omega))) rfl (by omega)
  have w1ck := xx_w.below (b := b + 7) (m := 6) w1c old2 (by repeat (first | exact w1c | refine xx_w.up (m := 6) ?_ rfl (by omega))) rfl (by omega)
  refine J_putF dX6_init_34 rfl ff_X6_24 (fun _ => ⟨rfl, rfl⟩) hb2 (Nat.le_of_ble_eq_true rfl) ?_
  refine J_aload_n dX6_init_37 rfl rfl ?_
  refine J_new (fs := [.int 0, .int 0, .null, .null, .null, .int 0, .null, .null, .null, .int 0, .null, .null]) dX6_init_38 k_0 cl_X6_28 ins_BeltRounds_Field in_BeltRounds_Field (fun q hq => by rcases (show q = 0 ∨ q = 1 ∨ q = 2 ∨ q = 3 ∨ q = 4 ∨ q = 5 ∨ q = 6 ∨ q = 7 ∨ q = 8 ∨ q = 9 ∨ q = 10 ∨ q = 11 by omega) with rfl | rfl | rfl | rfl | rfl | rfl | rfl | rfl | rfl | rfl | rfl | rfl <;> rfl) (fun v hv q h => by subst h; simp at hv) (Nat.le_of_ble_eq_true rfl) (Nat.le_of_ble_eq_true rfl) ?_
  refine J_dup dX6_init_41 rfl ?_
  refine J_callI (As := []) dX6_init_42 (Or.inr ⟨_, ml_X6_30⟩) cal_X0_init rfl rfl rfl im_X0_init rfl (Nat.le_of_ble_eq_true rfl) ⟨by decide, by decide⟩ ⟨Nat.le_of_ble_eq_true rfl, Nat.le_of_ble_eq_true rfl⟩ (c_X0_init (b := b + 22) hst (xx_up_s _ _ _)) (fun v3 A3 n3 _ hQ3 => ?_)
  obtain ⟨e3, en3, old3, w3⟩ := hQ3
  cases e3
  have en3b : n3 = b + 31 := by rw [en3]
  subst en3b
  have hb3 := (old3 b (by omega)).trans ((xx_up_n _ _ (by omega)).trans (xx_up_s _ _ _))
  have w1akk := xx_w.below (b := b + 1) (m := 15) w1ak old3 (by repeat (first | exact w1ak | refine xx_w.up (m := 15) ?_ rfl (by omega))) rfl (by omega)
  have w1bkk := xx_w.below (b := b + 2) (m := 5) w1bk old3 (by repeat (first | exact w1bk | refine xx_w.up (m := 5) ?_ rfl (by omega))) rfl (by omega)
  have w1ckk := xx_w.below (b := b + 7) (m := 6) w1ck old3 (by repeat (first | exact w1ck | refine xx_w.up (m := 6) ?_ rfl (by omega))) rfl (by omega)
  have w2k := xx_w.below (b := b + 16) (m := 6) w2 old3 (by repeat (first | exact w2 | refine xx_w.up (m := 6) ?_ rfl (by omega))) rfl (by omega)
  refine J_putF dX6_init_45 rfl ff_X6_31 (fun _ => ⟨rfl, rfl⟩) hb3 (Nat.le_of_ble_eq_true rfl) ?_
  refine J_aload_n dX6_init_48 rfl rfl ?_
  refine J_new (fs := [.int 0, .int 0, .null, .null, .null, .int 0, .null, .null, .null, .int 0, .null, .null]) dX6_init_49 k_0 cl_X6_28 ins_BeltRounds_Field in_BeltRounds_Field (fun q hq => by rcases (show q = 0 ∨ q = 1 ∨ q = 2 ∨ q = 3 ∨ q = 4 ∨ q = 5 ∨ q = 6 ∨ q = 7 ∨ q = 8 ∨ q = 9 ∨ q = 10 ∨ q = 11 by omega) with rfl | rfl | rfl | rfl | rfl | rfl | rfl | rfl | rfl | rfl | rfl | rfl <;> rfl) (fun v hv q h => by subst h; simp at hv) (Nat.le_of_ble_eq_true rfl) (Nat.le_of_ble_eq_true rfl) ?_
  refine J_dup dX6_init_52 rfl ?_
  refine J_callI (As := []) dX6_init_53 (Or.inr ⟨_, ml_X6_30⟩) cal_X0_init rfl rfl rfl im_X0_init rfl (Nat.le_of_ble_eq_true rfl) ⟨by decide, by decide⟩ ⟨Nat.le_of_ble_eq_true rfl, Nat.le_of_ble_eq_true rfl⟩ (c_X0_init (b := b + 31) hst (xx_up_s _ _ _)) (fun v4 A4 n4 _ hQ4 => ?_)
  obtain ⟨e4, en4, old4, w4⟩ := hQ4
  cases e4
  have en4b : n4 = b + 40 := by rw [en4]
  subst en4b
  have hb4 := (old4 b (by omega)).trans ((xx_up_n _ _ (by omega)).trans (xx_up_s _ _ _))
  have w1akkk := xx_w.below (b := b + 1) (m := 15) w1akk old4 (by repeat (first | exact w1akk | refine xx_w.up (m := 15) ?_ rfl (by omega))) rfl (by omega)
  have w1bkkk := xx_w.below (b := b + 2) (m := 5) w1bkk old4 (by repeat (first | exact w1bkk | refine xx_w.up (m := 5) ?_ rfl (by omega))) rfl (by omega)
  have w1ckkk := xx_w.below (b := b + 7) (m := 6) w1ckk old4 (by repeat (first | exact w1ckk | refine xx_w.up (m := 6) ?_ rfl (by omega))) rfl (by omega)
  have w2kk := xx_w.below (b := b + 16) (m := 6) w2k old4 (by repeat (first | exact w2k | refine xx_w.up (m := 6) ?_ rfl (by omega))) rfl (by omega)
  have w3k := xx_w.below (b := b + 22) (m := 9) w3 old4 (by repeat (first | exact w3 | refine xx_w.up (m := 9) ?_ rfl (by omega))) rfl (by omega)
  refine J_putF dX6_init_56 rfl ff_X6_35 (fun _ => ⟨rfl, rfl⟩) hb4 (Nat.le_of_ble_eq_true rfl) ?_
  refine J_aload_n dX6_init_59 rfl rfl ?_
  refine J_new (fs := [.int 0, .int 0, .int 0, .null, .null, .int 0, .null, .null, .null]) dX6_init_60 k_1 cl_X6_38 ins_BeltRounds_Pairing in_BeltRounds_Pairing (fun q hq => by rcases (show q = 0 ∨ q = 1 ∨ q = 2 ∨ q = 3 ∨ q = 4 ∨ q = 5 ∨ q = 6 ∨ q = 7 ∨ q = 8 by omega) with rfl | rfl | rfl | rfl | rfl | rfl | rfl | rfl | rfl <;> rfl) (fun v hv q h => by subst h; simp at hv) (Nat.le_of_ble_eq_true rfl) (Nat.le_of_ble_eq_true rfl) ?_
  refine J_dup dX6_init_63 rfl ?_
  refine J_callI (As := []) dX6_init_64 (Or.inr ⟨_, ml_X6_40⟩) cal_X1_init rfl rfl rfl im_X1_init rfl (Nat.le_of_ble_eq_true rfl) ⟨by decide, by decide⟩ ⟨Nat.le_of_ble_eq_true rfl, Nat.le_of_ble_eq_true rfl⟩ (c_X1_init (b := b + 40) hst (xx_up_s _ _ _)) (fun v5 A5 n5 _ hQ5 => ?_)
  obtain ⟨e5, en5, old5, w5⟩ := hQ5
  cases e5
  have en5b : n5 = b + 46 := by rw [en5]
  subst en5b
  have hb5 := (old5 b (by omega)).trans ((xx_up_n _ _ (by omega)).trans (xx_up_s _ _ _))
  have w1akkkk := xx_w.below (b := b + 1) (m := 15) w1akkk old5 (by repeat (first | exact w1akkk | refine xx_w.up (m := 15) ?_ rfl (by omega))) rfl (by omega)
  have w1bkkkk := xx_w.below (b := b + 2) (m := 5) w1bkkk old5 (by repeat (first | exact w1bkkk | refine xx_w.up (m := 5) ?_ rfl (by omega))) rfl (by omega)
  have w1ckkkk := xx_w.below (b := b + 7) (m := 6) w1ckkk old5 (by repeat (first | exact w1ckkk | refine xx_w.up (m := 6) ?_ rfl (by omega))) rfl (by omega)
  have w2kkk := xx_w.below (b := b + 16) (m := 6) w2kk old5 (by repeat (first | exact w2kk | refine xx_w.up (m := 6) ?_ rfl (by omega))) rfl (by omega)
  have w3kk := xx_w.below (b := b + 22) (m := 9) w3k old5 (by repeat (first | exact w3k | refine xx_w.up (m := 9) ?_ rfl (by omega))) rfl (by omega)
  have w4k := xx_w.below (b := b + 31) (m := 9) w4 old5 (by repeat (first | exact w4 | refine xx_w.up (m := 9) ?_ rfl (by omega))) rfl (by omega)
  refine J_putF dX6_init_67 rfl ff_X6_41 (fun _ => ⟨rfl, rfl⟩) hb5 (Nat.le_of_ble_eq_true rfl) ?_
  refine J_return dX6_init_70 rfl (Nat.le_of_ble_eq_true rfl) (Nat.le_of_ble_eq_true rfl) ?_
  refine ⟨rfl, rfl, fun z hz => ?_, ?_⟩
  · repeat rw [xx_up_n _ _ (by omega)]
    rw [old5 z (by omega)]
    repeat rw [xx_up_n _ _ (by omega)]
    rw [old4 z (by omega)]
    repeat rw [xx_up_n _ _ (by omega)]
    rw [old3 z (by omega)]
    repeat rw [xx_up_n _ _ (by omega)]
    rw [old2 z (by omega)]
    repeat rw [xx_up_n _ _ (by omega)]
    rw [old1 z (by omega)]
    repeat rw [xx_up_n _ _ (by omega)]
  · refine ⟨?_, ⟨(by repeat (first | exact w1akkkk | refine xx_w.up (m := 15) ?_ rfl (by omega))), (by repeat (first | exact w1bkkkk | refine xx_w.up (m := 5) ?_ rfl (by omega))), (by repeat (first | exact w1ckkkk | refine xx_w.up (m := 6) ?_ rfl (by omega)))⟩, (by repeat (first | exact w2kkk | refine xx_w.up (m := 6) ?_ rfl (by omega))), (by repeat (first | exact w3kk | refine xx_w.up (m := 9) ?_ rfl (by omega))), (by repeat (first | exact w4k | refine xx_w.up (m := 9) ?_ rfl (by omega))), (by repeat (first | exact w5 | refine xx_w.up (m := 6) ?_ rfl (by omega)))⟩
    show xx_w b (layX b) _
    refine xx_w_cons ?_ xx_w_nil <;> first | rfl | (simp [xx_up]; done) | (simp [xx_up]; repeat' (first | rfl | constructor))
end XCT
