/-! TEXTS: String.length, charAt -/
section XTX
variable {G : xx_G} {l : Launch} {n : Nat} {A : xx_H}
abbrev txt (i : Nat) : List Int32 := xx_tx.getD i []
theorem sf_val {i : Nat} (hi : i < 82) : (th i, "java/lang/String", "value", "[B", Value.ref (bh i)) ∈ xx_sf := List.mem_append_right _ (List.mem_append_left _ (List.mem_map.mpr ⟨i, List.mem_range.mpr hi, rfl⟩))
theorem sf_cod {i : Nat} (hi : i < 82) : (th i, "java/lang/String", "coder", "B", Value.int 0) ∈ xx_sf := List.mem_append_right _ (List.mem_append_right _ (List.mem_map.mpr ⟨i, List.mem_range.mpr hi, rfl⟩))
theorem th_lt {i : Nat} (hi : i < 82) : th i < 400 := by unfold th; split <;> omega
theorem bh_lt {i : Nat} (hi : i < 82) : bh i < 400 := by unfold bh; split <;> omega
theorem sa_tx {i : Nat} (hi : i < 82) : (bh i, FieldType.byte, (txt i).length, fun j => Value.int ((txt i).getD j 0)) ∈ xx_sa := List.mem_cons_of_mem _ (List.mem_cons_of_mem _ (List.mem_cons_of_mem _ (List.mem_map.mpr ⟨i, List.mem_range.mpr hi, rfl⟩)))
theorem so_tx {i : Nat} (hi : i < 82) : (th i, "java/lang/String") ∈ xx_so := List.mem_append_right _ (List.mem_map.mpr ⟨i, List.mem_range.mpr hi, rfl⟩)
theorem st_cs : ("java/lang/String", "COMPACT_STRINGS", "Z", Value.int 1) ∈ xx_st := List.mem_append_right _ (List.mem_cons_of_mem _ (List.mem_cons_of_mem _ (List.mem_cons_of_mem _ (List.mem_cons_self ..))))
theorem tx_len : ∀ i, i < 82 → (txt i).length ≤ 10 := by decide +kernel
theorem tx_pos : ∀ i, i < 82 → ∀ j, j < 10 → (((txt i).getD j 0 &&& 255).toUInt32 % 65536).toInt32 = (txt i).getD j 0 := by decide +kernel
theorem tx_nar : ∀ i, i < 82 → ∀ j, j < 10 → narrow .char (.int ((txt i).getD j 0)) = .int ((txt i).getD j 0) := by
  have h : ∀ i, i < 82 → ∀ j, j < 10 → (((txt i).getD j 0).toUInt32 % 65536).toInt32 = (txt i).getD j 0 := by decide +kernel
  intro i hi j hj
  exact congrArg Value.int (h i hi j hj)
theorem c_J0_coder_7d493T (hst : l.stackTraces = false) {i : Nat} (hi : i < 82) : xx_C G l yJ0_coder_7d493 mJ0_coder_7d493 0 0 0 0 [.ref (th i)] A n (xx_ro (some (.int 0)) A n) := by
  refine J_C hst (by decide +kernel) rfl rfl rfl (Nat.le_of_ble_eq_true rfl) ?_
  show xx_J _ _ _ _ _ _ _ _ 0 [(0, _)] [] _ _ _ _
  refine J_gets (v := .int 1) dJ0_coder_7d493_0 st_cs trivial sl_J0_38 ?_
  refine J_if_eq (tgt := 13) dJ0_coder_7d493_3 rfl (fun h => absurd h (by decide)) (fun _ => ?_)
  refine J_aload_n dJ0_coder_7d493_6 rfl rfl ?_
  refine J_getS dJ0_coder_7d493_7 (sf_cod hi) (th_lt hi) trivial (Or.inl sl_J0_15) ?_
  refine J_goto (tgt := 14) dJ0_coder_7d493_10 rfl ?_
  refine J_ireturn dJ0_coder_7d493_14 rfl rfl (by decide) (by decide) ?_
  exact ⟨rfl, rfl, rfl⟩
theorem c_J0_isLatin1_aae02T (hst : l.stackTraces = false) {i : Nat} (hi : i < 82) : xx_C G l yJ0_isLatin1_aae02 mJ0_isLatin1_aae02 0 0 0 0 [.ref (th i)] A n (xx_ro (some (.int 1)) A n) := by
  refine J_C hst (by decide +kernel) rfl rfl rfl (Nat.le_of_ble_eq_true rfl) ?_
  show xx_J _ _ _ _ _ _ _ _ 0 [(0, _)] [] _ _ _ _
  refine J_gets (v := .int 1) dJ0_isLatin1_aae02_0 st_cs trivial sl_J0_38 ?_
  refine J_if_eq (tgt := 17) dJ0_isLatin1_aae02_3 rfl (fun h => absurd h (by decide)) (fun _ => ?_)
  refine J_aload_n dJ0_isLatin1_aae02_6 rfl rfl ?_
  refine J_getS dJ0_isLatin1_aae02_7 (sf_cod hi) (th_lt hi) trivial (Or.inl sl_J0_15) ?_
  refine J_if_ne (tgt := 17) dJ0_isLatin1_aae02_10 rfl (fun h => absurd rfl h) (fun _ => ?_)
  refine J_iconst (v := 1) dJ0_isLatin1_aae02_13 (by decide) ?_
  refine J_goto (tgt := 18) dJ0_isLatin1_aae02_14 rfl ?_
  refine J_ireturn dJ0_isLatin1_aae02_18 rfl rfl (by decide) (by decide) ?_
  exact ⟨rfl, rfl, rfl⟩
theorem c_J0_length_8abf5T (hst : l.stackTraces = false) {i : Nat} (hi : i < 82) : xx_C G l yJ0_length_8abf5 mJ0_length_8abf5 1 20 0 0 [.ref (th i)] A n (xx_ro (some (.int (nI (txt i).length))) A n) := by
  have hl := tx_len i hi
  refine J_C hst (by decide +kernel) rfl rfl rfl (Nat.le_of_ble_eq_true rfl) ?_
  show xx_J _ _ _ _ _ _ _ _ 0 [(0, _)] [] _ _ _ _
  refine J_aload_n dJ0_length_8abf5_0 rfl rfl ?_
  refine J_getS dJ0_length_8abf5_1 (sf_val hi) (th_lt hi) (bh_lt hi) (Or.inl sl_J0_9) ?_
  refine J_alenS dJ0_length_8abf5_4 (sa_tx hi) (bh_lt hi) rfl ?_
  refine J_aload_n dJ0_length_8abf5_5 rfl rfl ?_
  refine J_callVrS (As := []) dJ0_length_8abf5_6 ml_J0_335 cal_J0_coder_7d493 im_J0_coder_7d493 se_J0_coder_7d493 (th_lt hi) (so_tx hi) rfl rfl (Nat.le_of_ble_eq_true rfl) ⟨by decide, by decide⟩ ⟨by decide, by decide⟩ (c_J0_coder_7d493T hst hi) ?_
  refine J_ishr dJ0_length_8abf5_9 ?_
  refine J_ireturn dJ0_length_8abf5_10 rfl rfl (by decide) (by decide) ?_
  exact ⟨by rw [show ((0 : Int32) &&& 31) = nI 0 &&& 31 from rfl]; exact congrArg (fun v => Sum.inl (some (Value.int v))) ((pk_shrN (by omega) _ 0 (is_sh 0 (by omega))).trans (by rw [Nat.pow_zero, Nat.div_one])), rfl, rfl⟩
theorem c_J3_checkIndex_8e157 (hst : l.stackTraces = false) {q m : Nat} {x y : Int32} (hx : x = nI q) (hy : y = nI m) (hq : q < m) (hm : m < 2 ^ 31) {v : Value} (hv : v = .null ∨ v = .ref 159) : xx_C G l yJ3_checkIndex_8e157 mJ3_checkIndex_8e157 0 0 0 0 [.int x, .int y, v] A n (xx_ro (some (.int x)) A n) := by
  subst hx hy
  rcases hv with rfl | rfl
  all_goals
    refine J_C hst (by decide +kernel) rfl rfl rfl (Nat.le_of_ble_eq_true rfl) ?_
    show xx_J _ _ _ _ _ _ _ _ 0 [(0, _), (1, _), (2, _)] [] _ _ _ _
    refine J_iload_n dJ3_checkIndex_8e157_0 rfl rfl ?_
    refine J_if_lt (tgt := 9) dJ3_checkIndex_8e157_1 rfl (fun h => absurd h (nI_pos (by omega))) (fun _ => ?_)
    refine J_iload_n dJ3_checkIndex_8e157_4 rfl rfl ?_
    refine J_iload_n dJ3_checkIndex_8e157_5 rfl rfl ?_
    refine J_icmp_lt (tgt := 16) dJ3_checkIndex_8e157_6 rfl (fun _ => ?_) (fun h => absurd (nI_lt hq hm) h)
    refine J_iload_n dJ3_checkIndex_8e157_16 rfl rfl ?_
    refine J_ireturn dJ3_checkIndex_8e157_17 rfl rfl (by decide) (by decide) ?_
    exact ⟨rfl, rfl, rfl⟩
theorem c_J0_checkIndex_df160 (hst : l.stackTraces = false) {q m : Nat} {x y : Int32} (hx : x = nI q) (hy : y = nI m) (hq : q < m) (hm : m < 2 ^ 31) : xx_C G l yJ0_checkIndex_df160 mJ0_checkIndex_df160 1 22 0 0 [.int x, .int y] A n (xx_wr none n (fun A' => A' = A)) := by
  refine J_C hst (by decide +kernel) rfl rfl rfl (Nat.le_of_ble_eq_true rfl) ?_
  show xx_J _ _ _ _ _ _ _ _ 0 [(0, _), (1, _)] [] _ _ _ _
  refine J_iload_n dJ0_checkIndex_df160_0 rfl rfl ?_
  refine J_iload_n dJ0_checkIndex_df160_1 rfl rfl ?_
  refine J_getsq dJ0_checkIndex_df160_2 sl_J0_1053 (fun v hv => ?_)
  refine J_callSr (As := [.int x, .int y, v]) dJ0_checkIndex_df160_5 ml_J0_1059 cal_J3_checkIndex_8e157 sm_J3_checkIndex_8e157 rfl rfl (Nat.le_of_ble_eq_true rfl) ⟨by decide, by decide⟩ ⟨by decide, by decide⟩ (c_J3_checkIndex_8e157 hst hx hy hq hm hv) ?_
  refine J_pop dJ0_checkIndex_df160_8 rfl ?_
  refine J_return dJ0_checkIndex_df160_9 rfl (by decide) (by decide) ?_
  exact ⟨rfl, rfl, rfl⟩
theorem c_J1_charAt_3b067T (hst : l.stackTraces = false) {i : Nat} (hi : i < 82) {q : Nat} {x : Int32} (hx : x = nI q) (hq : q < (txt i).length) : xx_C G l yJ1_charAt_3b067 mJ1_charAt_3b067 2 45 0 0 [.ref (bh i), .int x] A n (xx_ro (some (.int ((txt i).getD q 0))) A n) := by
  have hl := tx_len i hi
  subst hx
  refine J_C hst (by decide +kernel) rfl rfl rfl (Nat.le_of_ble_eq_true rfl) ?_
  show xx_J _ _ _ _ _ _ _ _ 0 [(0, _), (1, _)] [] _ _ _ _
  refine J_iload_n dJ1_charAt_3b067_0 rfl rfl ?_
  refine J_aload_n dJ1_charAt_3b067_1 rfl rfl ?_
  refine J_alenS dJ1_charAt_3b067_2 (sa_tx hi) (bh_lt hi) rfl ?_
  refine J_callSw (As := [_, _]) dJ1_charAt_3b067_3 ml_J1_9 cal_J0_checkIndex_df160 sm_J0_checkIndex_df160 rfl rfl (Nat.le_of_ble_eq_true rfl) ⟨by decide, by decide⟩ ⟨by decide, by decide⟩ (c_J0_checkIndex_df160 hst rfl rfl hq (by omega)) (fun A' hA => ?_)
  subst hA
  refine J_aload_n dJ1_charAt_3b067_6 rfl rfl ?_
  refine J_iload_n dJ1_charAt_3b067_7 rfl rfl ?_
  refine J_baldS (v := (txt i).getD q 0) dJ1_charAt_3b067_8 (sa_tx hi) (bh_lt hi) (vp_in_nI hq (by omega)) (by rw [nI_clamp (by omega)]) ?_
  refine J_sipush (v := 255) dJ1_charAt_3b067_9 (by decide) ?_
  refine J_iand dJ1_charAt_3b067_12 ?_
  refine J_i2c dJ1_charAt_3b067_13 (tx_pos i hi q (by omega)) ?_
  refine J_ireturn dJ1_charAt_3b067_14 rfl (tx_nar i hi q (by omega)) (by decide) (by decide) ?_
  exact ⟨rfl, rfl, rfl⟩
theorem c_J0_charAt_5068eT (hst : l.stackTraces = false) {i : Nat} (hi : i < 82) {q : Nat} {x : Int32} (hx : x = nI q) (hq : q < (txt i).length) : xx_C G l yJ0_charAt_5068e mJ0_charAt_5068e 3 70 0 0 [.ref (th i), .int x] A n (xx_ro (some (.int ((txt i).getD q 0))) A n) := by
  have hl := tx_len i hi
  refine J_C hst (by decide +kernel) rfl rfl rfl (Nat.le_of_ble_eq_true rfl) ?_
  show xx_J _ _ _ _ _ _ _ _ 0 [(0, _), (1, _)] [] _ _ _ _
  refine J_aload_n dJ0_charAt_5068e_0 rfl rfl ?_
  refine J_callVrS (As := []) dJ0_charAt_5068e_1 ml_J0_492 cal_J0_isLatin1_aae02 im_J0_isLatin1_aae02 se_J0_isLatin1_aae02 (th_lt hi) (so_tx hi) rfl rfl (Nat.le_of_ble_eq_true rfl) ⟨by decide, by decide⟩ ⟨by decide, by decide⟩ (c_J0_isLatin1_aae02T hst hi) ?_
  refine J_if_eq (tgt := 16) dJ0_charAt_5068e_4 rfl (fun h => absurd h (by decide)) (fun _ => ?_)
  refine J_aload_n dJ0_charAt_5068e_7 rfl rfl ?_
  refine J_getS dJ0_charAt_5068e_8 (sf_val hi) (th_lt hi) (bh_lt hi) (Or.inl sl_J0_9) ?_
  refine J_iload_n dJ0_charAt_5068e_11 rfl rfl ?_
  refine J_callSr (As := [_, _]) dJ0_charAt_5068e_12 ml_J0_495 cal_J1_charAt_3b067 sm_J1_charAt_3b067 rfl rfl (Nat.le_of_ble_eq_true rfl) ⟨by decide, by decide⟩ ⟨by decide, by decide⟩ (c_J1_charAt_3b067T hst hi hx hq) ?_
  refine J_ireturn dJ0_charAt_5068e_15 rfl (tx_nar i hi q (by omega)) (by decide) (by decide) ?_
  exact ⟨rfl, rfl, rfl⟩
theorem c_J0_length_8abf5 (hst : l.stackTraces = false) {i : Nat} (hi : i < 59) : xx_C G l yJ0_length_8abf5 mJ0_length_8abf5 1 20 0 0 [.ref (41 + i)] A n (xx_ro (some (.int (nI (txt i).length))) A n) := by
  have h := c_J0_length_8abf5T (G := G) (l := l) (n := n) (A := A) hst (i := i) (by omega)
  rw [show th i = 41 + i from if_pos hi] at h
  exact h
theorem c_J0_charAt_5068e (hst : l.stackTraces = false) {i : Nat} (hi : i < 59) {q : Nat} {x : Int32} (hx : x = nI q) (hq : q < (txt i).length) : xx_C G l yJ0_charAt_5068e mJ0_charAt_5068e 3 70 0 0 [.ref (41 + i), .int x] A n (xx_ro (some (.int ((txt i).getD q 0))) A n) := by
  have h := c_J0_charAt_5068eT (G := G) (l := l) (n := n) (A := A) hst (i := i) (by omega) hx hq
  rw [show th i = 41 + i from if_pos hi] at h
  exact h
theorem so_tx' {i : Nat} (hi : i < 59) : (41 + i, "java/lang/String") ∈ xx_so := by
  have h := so_tx (i := i) (by omega)
  rw [show th i = 41 + i from if_pos hi] at h
  exact h
end XTX
