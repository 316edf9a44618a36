section XBC
variable {G : xx_G} {l : Launch} {A : xx_H} {n : Nat}
def bc1 (x : Int32) : Int32 := x - (ush x 1 &&& 1431655765)
def bc2 (x : Int32) : Int32 := (x &&& 858993459) + (ush x 2 &&& 858993459)
def bc3 (x : Int32) : Int32 := (x + ush x 4) &&& 252645135
def bc4 (x : Int32) : Int32 := x + ush x 8
def bc5 (x : Int32) : Int32 := x + ush x 16
set_option maxRecDepth 100000 in
theorem bc_eq : ∀ s, s < 4096 → (bc5 (bc4 (bc3 (bc2 (bc1 (nI s)))))) &&& 63 = nI (pcn s 12) := by decide +kernel
theorem c_J6_bitCount_0f7a4 (hst : l.stackTraces = false) {s : Nat} {y : Int32} (hy : y = nI s) (hs : s < 4096) : xx_C G l yJ6_bitCount_0f7a4 mJ6_bitCount_0f7a4 0 0 0 0 [.int y] A n (xx_ro (some (.int (nI (pcn s 12)))) A n) := by
  subst hy
  refine J_C hst (by decide +kernel) rfl rfl rfl (Nat.le_of_ble_eq_true rfl) ?_
  show xx_J _ _ _ _ _ _ _ _ 0 [(0, _)] [] _ _ _ _
  refine J_iload_n dJ6_bitCount_0f7a4_0 rfl rfl ?_
  refine J_iload_n dJ6_bitCount_0f7a4_1 rfl rfl ?_
  refine J_iconst (v := 1) dJ6_bitCount_0f7a4_2 (by decide) ?_
  refine J_iushr dJ6_bitCount_0f7a4_3 rfl ?_
  refine J_ldcw dJ6_bitCount_0f7a4_4 kc_J6_265 ?_
  refine J_iand dJ6_bitCount_0f7a4_7 ?_
  refine J_isub dJ6_bitCount_0f7a4_8 ?_
  refine J_istore_n (L' := [(0, _)]) dJ6_bitCount_0f7a4_9 rfl (by decide) rfl ?_
  refine J_iload_n dJ6_bitCount_0f7a4_10 rfl rfl ?_
  refine J_ldcw dJ6_bitCount_0f7a4_11 kc_J6_266 ?_
  refine J_iand dJ6_bitCount_0f7a4_14 ?_
  refine J_iload_n dJ6_bitCount_0f7a4_15 rfl rfl ?_
  refine J_iconst (v := 2) dJ6_bitCount_0f7a4_16 (by decide) ?_
  refine J_iushr dJ6_bitCount_0f7a4_17 rfl ?_
  refine J_ldcw dJ6_bitCount_0f7a4_18 kc_J6_266 ?_
  refine J_iand dJ6_bitCount_0f7a4_21 ?_
  refine J_iadd dJ6_bitCount_0f7a4_22 ?_
  refine J_istore_n (L' := [(0, _)]) dJ6_bitCount_0f7a4_23 rfl (by decide) rfl ?_
  refine J_iload_n dJ6_bitCount_0f7a4_24 rfl rfl ?_
  refine J_iload_n dJ6_bitCount_0f7a4_25 rfl rfl ?_
  refine J_iconst (v := 4) dJ6_bitCount_0f7a4_26 (by decide) ?_
  refine J_iushr dJ6_bitCount_0f7a4_27 rfl ?_
  refine J_iadd dJ6_bitCount_0f7a4_28 ?_
  refine J_ldcw dJ6_bitCount_0f7a4_29 kc_J6_267 ?_
  refine J_iand dJ6_bitCount_0f7a4_32 ?_
  refine J_istore_n (L' := [(0, _)]) dJ6_bitCount_0f7a4_33 rfl (by decide) rfl ?_
  refine J_iload_n dJ6_bitCount_0f7a4_34 rfl rfl ?_
  refine J_iload_n dJ6_bitCount_0f7a4_35 rfl rfl ?_
  refine J_bipush (v := 8) dJ6_bitCount_0f7a4_36 (by decide) ?_
  refine J_iushr dJ6_bitCount_0f7a4_38 rfl ?_
  refine J_iadd dJ6_bitCount_0f7a4_39 ?_
  refine J_istore_n (L' := [(0, _)]) dJ6_bitCount_0f7a4_40 rfl (by decide) rfl ?_
  refine J_iload_n dJ6_bitCount_0f7a4_41 rfl rfl ?_
  refine J_iload_n dJ6_bitCount_0f7a4_42 rfl rfl ?_
  refine J_bipush (v := 16) dJ6_bitCount_0f7a4_43 (by decide) ?_
  refine J_iushr dJ6_bitCount_0f7a4_45 rfl ?_
  refine J_iadd dJ6_bitCount_0f7a4_46 ?_
  refine J_istore_n (L' := [(0, _)]) dJ6_bitCount_0f7a4_47 rfl (by decide) rfl ?_
  refine J_iload_n dJ6_bitCount_0f7a4_48 rfl rfl ?_
  refine J_bipush (v := 63) dJ6_bitCount_0f7a4_49 (by decide) ?_
  refine J_iand dJ6_bitCount_0f7a4_51 ?_
  refine J_ireturn dJ6_bitCount_0f7a4_52 rfl rfl (by decide) (by decide) ?_
  exact ⟨by rw [← bc_eq s hs]; rfl, rfl, rfl⟩
end XBC
