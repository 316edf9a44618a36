/-! The law's small methods -/
section XLM
variable {G : xx_G} {l : Launch} {A A' : xx_H} {n : Nat} {k j i q s e t d : Nat}
theorem nI_ediv {a b : Nat} (ha : a < 2 ^ 31) (hb : b < 2 ^ 31) : nI a / nI b = nI (a / b) := by
  have hab : a / b ≤ a := Nat.div_le_self a b
  apply Int32.toInt_inj.mp
  rw [Int32.toInt_div, i_n ha, i_n hb, i_n (by omega), ← Int.ofNat_tdiv]
  generalize a / b = c at hab ⊢
  exact Int.bmod_eq_of_le (by omega) (by omega)
theorem nI_mul (a b : Nat) : nI a * nI b = nI (a * b) := by
  induction b with
  | zero => show nI a * 0 = nI 0; rw [Int32.mul_zero]; rfl
  | succ b ih => rw [nI_succ, Int32.mul_add, ih, Int32.mul_one, nI_add]; rfl
theorem nI_emod {a b : Nat} (ha : a < 2 ^ 31) (hb : b < 2 ^ 31) : nI a - nI a / nI b * nI b = nI (a % b) := by
  have h1 := Nat.div_add_mod a b
  have h2 := Nat.mul_comm b (a / b)
  rw [nI_ediv ha hb, nI_mul, pk_sub (by omega)]
  exact congrArg nI (by omega)
theorem msk (v : Int32) : v &&& 2147483647 = nI (v.toUInt32.toNat % 2 ^ 31) := by
  have h : (Int32.toUInt32 2147483647).toNat = 2 ^ 31 - 1 := by decide
  have hlt : v.toUInt32.toNat % 2 ^ 31 < 2 ^ 31 := Nat.mod_lt _ (by decide)
  have h2 : (v &&& 2147483647).toUInt32 = (nI (v.toUInt32.toNat % 2 ^ 31)).toUInt32 := by
    apply UInt32.toNat_inj.mp
    rw [Int32.toUInt32_and, UInt32.toNat_and, h, Nat.and_two_pow_sub_one_eq_mod]
    show _ = (v.toUInt32.toNat % 2 ^ 31) % 2 ^ 32
    exact (Nat.mod_eq_of_lt (by omega)).symm
  have h3 : ∀ x y : Int32, x.toUInt32 = y.toUInt32 → x = y := fun x y e => by cases x; cases y; exact congrArg Int32.ofUInt32 e
  exact h3 _ _ h2
/-- below(v, m) -/
def blw (v : Int32) (m : Nat) : Nat := v.toUInt32.toNat % 2 ^ 31 % m
theorem blw_lt {v : Int32} {m : Nat} (h : 0 < m) : blw v m < m := Nat.mod_lt _ h
theorem c_L_below (hst : l.stackTraces = false) (v : Int32) {m : Nat} (h0 : 0 < m) (hm : m < 2 ^ 31) : xx_C G l yL_below mL_below 0 0 0 0 [.int v, .int (nI m)] A n (xx_ro (some (.int (nI (blw v m)))) A n) := by
  refine J_C hst (by decide +kernel) rfl rfl rfl (Nat.le_of_ble_eq_true rfl) ?_
  show xx_J _ _ _ _ _ _ _ _ 0 [(0, _), (1, _)] [] _ _ _ _
  refine J_iload_n dL_below_0 rfl rfl ?_
  refine J_ldci dL_below_1 kc_L_7 ?_
  refine J_iand dL_below_3 ?_
  refine J_iload_n dL_below_4 rfl rfl ?_
  refine J_irem dL_below_5 (nI_ne0 h0 hm) ?_
  refine J_ireturn dL_below_6 rfl rfl (by decide) (by decide) ?_
  exact ⟨by rw [show (v &&& 2147483647) - (v &&& 2147483647) / nI m * nI m = nI (blw v m) from by rw [msk, nI_emod (Nat.mod_lt _ (by decide)) hm]; rfl], rfl, rfl⟩
/-- cell(script, k) -/
def clv (G : xx_G) (k : Nat) : Int32 := if k < G.2.2.2 400 then xx_scr G k else 790386105 * (nI k + 3)
theorem c_L_cell (hst : l.stackTraces = false) (hL : G.2.2.2 400 ≤ 3072) (hk : k < 100) : xx_C G l yL_cell mL_cell 0 0 0 0 [.ref 160, .int (nI k)] A n (xx_ro (some (.int (clv G k))) A n) := by
  have ek : (nI k).toInt = k := i_n (by omega)
  have eL : (nI (G.2.2.2 400)).toInt = G.2.2.2 400 := i_n (by omega)
  refine J_C hst (by decide +kernel) rfl rfl rfl (Nat.le_of_ble_eq_true rfl) ?_
  show xx_J _ _ _ _ _ _ _ _ 0 [(0, _), (1, _)] [] _ _ _ _
  refine J_iload_n dL_cell_0 rfl rfl ?_
  refine J_aload_n dL_cell_1 rfl rfl ?_
  refine J_scl dL_cell_2 ?_
  refine J_icmp_ge (tgt := 12) dL_cell_3 rfl (fun h3 => ?_) (fun h3 => ?_)
  · have hk3 : ¬ k < G.2.2.2 400 := by simp only [i_lt, i_le, ek, eL] at h3; omega
    refine J_ldci dL_cell_12 kc_L_8 ?_
    refine J_iload_n dL_cell_14 rfl rfl ?_
    refine J_iconst (v := 3) dL_cell_15 (by decide) ?_
    refine J_iadd dL_cell_16 ?_
    refine J_imul dL_cell_17 ?_
    refine J_ireturn dL_cell_18 rfl rfl (by decide) (by decide) ?_
    exact ⟨by unfold clv; first | (rw [if_pos hk3]; done) | (rw [if_neg hk3]; done), rfl, rfl⟩
  · have hk3 : k < G.2.2.2 400 := by simp only [i_lt, i_le, ek, eL] at h3; omega
    refine J_aload_n dL_cell_6 rfl rfl ?_
    refine J_iload_n dL_cell_7 rfl rfl ?_
    refine J_scr (q := k) dL_cell_8 rfl hk3 (by omega) ?_
    refine J_goto (tgt := 18) dL_cell_9 rfl ?_
    refine J_ireturn dL_cell_18 rfl rfl (by decide) (by decide) ?_
    exact ⟨by unfold clv; first | (rw [if_pos hk3]; done) | (rw [if_neg hk3]; done), rfl, rfl⟩
theorem c_X8_init (hst : l.stackTraces = false) {h : Nat} : xx_D G l yX8_init mX8_init 1 20 0 0 [.ref h] A n (fun r A' n' => r = .inl none ∧ n' = n ∧ A' = A) := by
  refine J_D hst (by decide +kernel) rfl rfl rfl (Nat.le_of_ble_eq_true rfl) (fun _ _ _ h => nomatch h.1) ?_
  show xx_J _ _ _ _ _ _ _ _ 0 [(0, _)] [] _ _ _ _
  refine J_aload_n dX8_init_0 rfl rfl ?_
  refine J_objInit dX8_init_1 ml_X8_1 im_objectInit co_objectInit ⟨by decide, by decide⟩ ?_
  refine J_return dX8_init_4 rfl (by decide) (by decide) ?_
  exact ⟨rfl, rfl, rfl⟩
/-- a new Sim at h -/
def sm0 (h : Nat) : sS := (fun _ => 0, fun q => if q = 2 then upd (upd (upd (fun _ => 0) 0 2) 1 1) 2 2 else fun _ => 0, fun q => if q = 0 then h + 6 else if q = 2 then h + 7 else if q = 4 then h + 3 else if q = 5 then h + 4 else 0)
theorem c_X7_init (hst : l.stackTraces = false) {h : Nat} (hN : A h = some (.inr (6, [.int 0, .null, .null, .null, .null, .int 0, .null, .null, .null]))) : xx_D G l yX7_init mX7_init 1 20 7 27 [.ref h] A (h + 1) (fun r A' n' => r = .inl none ∧ n' = h + 8 ∧ simW h (sm0 h) A' ∧ (∃ f, A' (h + 3) = some (.inl (0, 0, .inl f))) ∧ (∃ f, A' (h + 4) = some (.inl (5, 0, .inr (.inr (.inr (.inr f)))))) ∧ ∀ z, z < h → A' z = A z) := by
  refine J_D hst (by decide +kernel) rfl rfl rfl (Nat.le_of_ble_eq_true rfl) (fun _ _ _ h => nomatch h.1) ?_
  show xx_J _ _ _ _ _ _ _ _ 0 [(0, _)] [] _ _ _ _
  refine J_aload_n dX7_init_0 rfl rfl ?_
  refine J_objInit dX7_init_1 ml_X7_1 im_objectInit co_objectInit ⟨by decide, by decide⟩ ?_
  refine J_aload_n dX7_init_4 rfl rfl ?_
  refine J_bipush (v := 12) dX7_init_5 (by decide) ?_
  refine J_newi (N := 12) dX7_init_7 ac_int (by decide) (by decide) (by decide) (by decide) (by decide) ?_
  refine J_up (fun A1 g1 o1 => ?_)
  refine J_putF dX7_init_9 rfl ff_X7_7 (fun _ => ⟨rfl, rfl⟩) ((o1 (h) (by omega)).trans hN) (Nat.le_of_ble_eq_true rfl) ?_
  refine J_up (fun A2 g2 o2 => ?_)
  refine J_aload_n dX7_init_12 rfl rfl ?_
  refine J_iconst (v := 3) dX7_init_13 (by decide) ?_
  refine J_newi (N := 3) dX7_init_14 ac_int (by decide) (by decide) (by decide) (by decide) (by decide) ?_
  refine J_up (fun A3 g3 o3 => ?_)
  refine J_dup dX7_init_16 rfl ?_
  refine J_iconst (v := 0) dX7_init_17 (by decide) ?_
  refine J_iconst (v := 2) dX7_init_18 (by decide) ?_
  refine J_iastQ 0 dX7_init_19 g3 rfl (by decide) (by decide) (fun A4 g4 o4 => ?_)
  refine J_dup dX7_init_20 rfl ?_
  refine J_iconst (v := 1) dX7_init_21 (by decide) ?_
  refine J_iconst (v := 1) dX7_init_22 (by decide) ?_
  refine J_iastQ 1 dX7_init_23 g4 rfl (by decide) (by decide) (fun A5 g5 o5 => ?_)
  refine J_dup dX7_init_24 rfl ?_
  refine J_iconst (v := 2) dX7_init_25 (by decide) ?_
  refine J_iconst (v := 2) dX7_init_26 (by decide) ?_
  refine J_iastQ 2 dX7_init_27 g5 rfl (by decide) (by decide) (fun A6 g6 o6 => ?_)
  refine J_putF dX7_init_28 rfl ff_X7_13 (fun _ => ⟨rfl, rfl⟩) ((o6 (h) (by omega)).trans ((o5 (h) (by omega)).trans ((o4 (h) (by omega)).trans ((o3 (h) (by omega)).trans g2)))) (Nat.le_of_ble_eq_true rfl) ?_
  refine J_up (fun A7 g7 o7 => ?_)
  refine J_aload_n dX7_init_31 rfl rfl ?_
  refine J_iconst (v := 0) dX7_init_32 (by decide) ?_
  refine J_newi (N := 0) dX7_init_33 ac_int (by decide) (by decide) (by decide) (by decide) (by decide) ?_
  refine J_up (fun A8 g8 o8 => ?_)
  refine J_putf dX7_init_35 fp_X7_16 (fun _ => ⟨rfl, rfl⟩) ((o8 (h) (by omega)).trans g7) (Nat.le_of_ble_eq_true rfl) ?_
  refine J_up (fun A9 g9 o9 => ?_)
  refine J_aload_n dX7_init_38 rfl rfl ?_
  refine J_iconst (v := 0) dX7_init_39 (by decide) ?_
  refine J_newT (N := 0) dX7_init_40 cl_X7_19 (by decide) (by decide) (by decide) (by decide) (by decide) ?_
  refine J_up (fun A10 g10 o10 => ?_)
  refine J_putf dX7_init_43 fp_X7_21 (fun _ => ⟨rfl, rfl⟩) ((o10 (h) (by omega)).trans g9) (Nat.le_of_ble_eq_true rfl) ?_
  refine J_up (fun A11 g11 o11 => ?_)
  refine J_aload_n dX7_init_46 rfl rfl ?_
  refine J_bipush (v := 12) dX7_init_47 (by decide) ?_
  refine J_newz (N := 12) dX7_init_49 ac_boolean (by decide) (by decide) (by decide) (by decide) (by decide) ?_
  refine J_up (fun A12 g12 o12 => ?_)
  refine J_putF dX7_init_51 rfl ff_X7_25 (fun _ => ⟨rfl, rfl⟩) ((o12 (h) (by omega)).trans g11) (Nat.le_of_ble_eq_true rfl) ?_
  refine J_up (fun A13 g13 o13 => ?_)
  refine J_aload_n dX7_init_54 rfl rfl ?_
  refine J_iconst (v := 0) dX7_init_55 (by decide) ?_
  refine J_newA (N := 0) dX7_init_56 cl_X7_29 (by decide) (by decide) (by decide) (by decide) (by decide) ?_
  refine J_up (fun A14 g14 o14 => ?_)
  refine J_putf dX7_init_59 fp_X7_30 (fun _ => ⟨rfl, rfl⟩) ((o14 (h) (by omega)).trans g13) (Nat.le_of_ble_eq_true rfl) ?_
  refine J_up (fun A15 g15 o15 => ?_)
  refine J_aload_n dX7_init_62 rfl rfl ?_
  refine J_iconst (v := 0) dX7_init_63 (by decide) ?_
  refine J_newi (N := 0) dX7_init_64 ac_int (by decide) (by decide) (by decide) (by decide) (by decide) ?_
  refine J_up (fun A16 g16 o16 => ?_)
  refine J_putf dX7_init_66 fp_X7_34 (fun _ => ⟨rfl, rfl⟩) ((o16 (h) (by omega)).trans g15) (Nat.le_of_ble_eq_true rfl) ?_
  refine J_up (fun A17 g17 o17 => ?_)
  refine J_return dX7_init_69 rfl (by decide) (by decide) ?_
  exact ⟨rfl, rfl, ⟨g17, ((o17 (h + 1) (by omega)).trans ((o16 (h + 1) (by omega)).trans ((o15 (h + 1) (by omega)).trans ((o14 (h + 1) (by omega)).trans ((o13 (h + 1) (by omega)).trans ((o12 (h + 1) (by omega)).trans ((o11 (h + 1) (by omega)).trans ((o10 (h + 1) (by omega)).trans ((o9 (h + 1) (by omega)).trans ((o8 (h + 1) (by omega)).trans ((o7 (h + 1) (by omega)).trans ((o6 (h + 1) (by omega)).trans ((o5 (h + 1) (by omega)).trans ((o4 (h + 1) (by omega)).trans ((o3 (h + 1) (by omega)).trans ((o2 (h + 1) (by omega)).trans g1)))))))))))))))), ((o17 (h + 2) (by omega)).trans ((o16 (h + 2) (by omega)).trans ((o15 (h + 2) (by omega)).trans ((o14 (h + 2) (by omega)).trans ((o13 (h + 2) (by omega)).trans ((o12 (h + 2) (by omega)).trans ((o11 (h + 2) (by omega)).trans ((o10 (h + 2) (by omega)).trans ((o9 (h + 2) (by omega)).trans ((o8 (h + 2) (by omega)).trans ((o7 (h + 2) (by omega)).trans g6))))))))))), ((o17 (h + 5) (by omega)).trans ((o16 (h + 5) (by omega)).trans ((o15 (h + 5) (by omega)).trans ((o14 (h + 5) (by omega)).trans ((o13 (h + 5) (by omega)).trans g12))))), ⟨_, ((o17 (h + 6) (by omega)).trans ((o16 (h + 6) (by omega)).trans ((o15 (h + 6) (by omega)).trans g14))), (fun i hi => absurd hi (Nat.not_lt_zero i))⟩, (fun i hi => absurd hi (Nat.not_lt_zero i)), ((o17 (h + 7) (by omega)).trans g16)⟩, ⟨_, ((o17 (h + 3) (by omega)).trans ((o16 (h + 3) (by omega)).trans ((o15 (h + 3) (by omega)).trans ((o14 (h + 3) (by omega)).trans ((o13 (h + 3) (by omega)).trans ((o12 (h + 3) (by omega)).trans ((o11 (h + 3) (by omega)).trans ((o10 (h + 3) (by omega)).trans ((o9 (h + 3) (by omega)).trans g8)))))))))⟩, ⟨_, ((o17 (h + 4) (by omega)).trans ((o16 (h + 4) (by omega)).trans ((o15 (h + 4) (by omega)).trans ((o14 (h + 4) (by omega)).trans ((o13 (h + 4) (by omega)).trans ((o12 (h + 4) (by omega)).trans ((o11 (h + 4) (by omega)).trans g10)))))))⟩, fun z hz => ((o17 (z) (by omega)).trans ((o16 (z) (by omega)).trans ((o15 (z) (by omega)).trans ((o14 (z) (by omega)).trans ((o13 (z) (by omega)).trans ((o12 (z) (by omega)).trans ((o11 (z) (by omega)).trans ((o10 (z) (by omega)).trans ((o9 (z) (by omega)).trans ((o8 (z) (by omega)).trans ((o7 (z) (by omega)).trans ((o6 (z) (by omega)).trans ((o5 (z) (by omega)).trans ((o4 (z) (by omega)).trans ((o3 (z) (by omega)).trans ((o2 (z) (by omega)).trans ((o1 (z) (by omega)).trans rfl)))))))))))))))))⟩
end XLM
