/-! PAIRING, its methods -/
section XPB
variable {G : xx_G} {l : Launch} {b n : Nat} {A : xx_H} {F : xS} {bp : Nat} {PS : xS}
theorem hasb {s b : Nat} : s.testBit b = false ↔ ¬ s.testBit b = true := by simp
theorem c_X1_has (hst : l.stackTraces = false) {s b : Nat} {x y : Int32} (hx : x = nI s) (hs : s < 2 ^ 31) (hy : y = nI b) (hb : b < 31) : xx_C G l yX1_has mX1_has 0 0 0 0 [.int x, .int y] A n (xx_ro (some (.int (xx_b (s.testBit b = true)))) A n) := by
  subst hx hy
  refine J_C hst (by decide +kernel) rfl rfl rfl (Nat.le_of_ble_eq_true rfl) ?_
  show xx_J _ _ _ _ _ _ _ _ 0 [(0, _), (1, _)] [] _ _ _ _
  refine J_iload_n dX1_has_0 rfl rfl ?_
  refine J_iload_n dX1_has_1 rfl rfl ?_
  refine J_ishr dX1_has_2 ?_
  refine J_iconst (v := 1) dX1_has_3 (by decide) ?_
  refine J_iand dX1_has_4 ?_
  refine J_if_eq (tgt := 12) dX1_has_5 rfl (fun h5 => ?_) (fun h5 => ?_)
  · refine J_iconst (v := 0) dX1_has_12 (by decide) ?_
    refine J_ireturn dX1_has_13 rfl rfl (by decide) (by decide) ?_
    refine ⟨?_, rfl, rfl⟩
    have hh := is_has hs hb
    unfold xx_b
    first | (rw [if_neg (hasb.mp (hh.mp h5))]) | (rw [if_pos (by have z := (not_congr (hh.trans hasb)).mp h5; exact Decidable.not_not.mp z)])
  · refine J_iconst (v := 1) dX1_has_8 (by decide) ?_
    refine J_goto (tgt := 13) dX1_has_9 rfl ?_
    refine J_ireturn dX1_has_13 rfl rfl (by decide) (by decide) ?_
    refine ⟨?_, rfl, rfl⟩
    have hh := is_has hs hb
    unfold xx_b
    first | (rw [if_neg (hasb.mp (hh.mp h5))]) | (rw [if_pos (by have z := (not_congr (hh.trans hasb)).mp h5; exact Decidable.not_not.mp z)])
theorem c_J6_numberOfTrailingZeros_0f7a4 (hst : l.stackTraces = false) {s : Nat} {x : Int32} (hx : x = nI s) (hs : s < 4096) (h0 : s ≠ 0) : xx_C G l yJ6_numberOfTrailingZeros_0f7a4 mJ6_numberOfTrailingZeros_0f7a4 0 0 0 0 [.int x] A n (xx_ro (some (.int (nI (low s)))) A n) := by
  subst hx
  refine J_C hst (by decide +kernel) rfl rfl rfl (Nat.le_of_ble_eq_true rfl) ?_
  show xx_J _ _ _ _ _ _ _ _ 0 [(0, _)] [] _ _ _ _
  refine J_iload_n dJ6_numberOfTrailingZeros_0f7a4_0 rfl rfl ?_
  refine J_iconst (v := -1) dJ6_numberOfTrailingZeros_0f7a4_1 (by decide) ?_
  refine J_ixor dJ6_numberOfTrailingZeros_0f7a4_2 ?_
  refine J_iload_n dJ6_numberOfTrailingZeros_0f7a4_3 rfl rfl ?_
  refine J_iconst (v := 1) dJ6_numberOfTrailingZeros_0f7a4_4 (by decide) ?_
  refine J_isub dJ6_numberOfTrailingZeros_0f7a4_5 ?_
  refine J_iand dJ6_numberOfTrailingZeros_0f7a4_6 ?_
  refine J_istore_n (L' := [(0, _)]) dJ6_numberOfTrailingZeros_0f7a4_7 rfl (by decide) rfl ?_
  refine J_iload_n dJ6_numberOfTrailingZeros_0f7a4_8 rfl rfl ?_
  refine J_if_gt (tgt := 17) dJ6_numberOfTrailingZeros_0f7a4_9 rfl (fun h9 => ?_) (fun h9 => ?_)
  · refine J_iconst (v := 1) dJ6_numberOfTrailingZeros_0f7a4_17 (by decide) ?_
    refine J_istore_n (L' := [(1, _), (0, _)]) dJ6_numberOfTrailingZeros_0f7a4_18 rfl (by decide) rfl ?_
    refine J_iload_n dJ6_numberOfTrailingZeros_0f7a4_19 rfl rfl ?_
    refine J_ldcw dJ6_numberOfTrailingZeros_0f7a4_20 kc_J6_264 ?_
    refine J_icmp_le (tgt := 34) dJ6_numberOfTrailingZeros_0f7a4_23 rfl (fun h23 => ?_) (fun h23 => ?_)
    · refine J_iload_n dJ6_numberOfTrailingZeros_0f7a4_34 rfl rfl ?_
      refine J_sipush (v := 256) dJ6_numberOfTrailingZeros_0f7a4_35 (by decide) ?_
      refine J_icmp_le (tgt := 49) dJ6_numberOfTrailingZeros_0f7a4_38 rfl (fun h38 => ?_) (fun h38 => ?_)
      · refine J_iload_n dJ6_numberOfTrailingZeros_0f7a4_49 rfl rfl ?_
        refine J_bipush (v := 16) dJ6_numberOfTrailingZeros_0f7a4_50 (by decide) ?_
        refine J_icmp_le (tgt := 62) dJ6_numberOfTrailingZeros_0f7a4_52 rfl (fun h52 => ?_) (fun h52 => ?_)
        · refine J_iload_n dJ6_numberOfTrailingZeros_0f7a4_62 rfl rfl ?_
          refine J_iconst (v := 4) dJ6_numberOfTrailingZeros_0f7a4_63 (by decide) ?_
          refine J_icmp_le (tgt := 74) dJ6_numberOfTrailingZeros_0f7a4_64 rfl (fun h64 => ?_) (fun h64 => ?_)
          · refine J_iload_n dJ6_numberOfTrailingZeros_0f7a4_74 rfl rfl ?_
            refine J_iload_n dJ6_numberOfTrailingZeros_0f7a4_75 rfl rfl ?_
            refine J_iconst (v := 1) dJ6_numberOfTrailingZeros_0f7a4_76 (by decide) ?_
            refine J_iushr dJ6_numberOfTrailingZeros_0f7a4_77 rfl ?_
            refine J_iadd dJ6_numberOfTrailingZeros_0f7a4_78 ?_
            refine J_ireturn dJ6_numberOfTrailingZeros_0f7a4_79 rfl rfl (by decide) (by decide) ?_
            exact ⟨by rw [← ntz_low s hs h0]; simp only [ntz, ntz0, ntz1, ntz2, ntz3, ntz4, ush, h9, h23, h38, h52, h64, if_true, if_false, ↓reduceIte], rfl, rfl⟩
          · refine J_iinc (v := _ + 2) (L' := [(1, _), (0, _)]) dJ6_numberOfTrailingZeros_0f7a4_67 rfl rfl (by decide) rfl ?_
            refine J_iload_n dJ6_numberOfTrailingZeros_0f7a4_70 rfl rfl ?_
            refine J_iconst (v := 2) dJ6_numberOfTrailingZeros_0f7a4_71 (by decide) ?_
            refine J_iushr dJ6_numberOfTrailingZeros_0f7a4_72 rfl ?_
            refine J_istore_n (L' := [(0, _), (1, _)]) dJ6_numberOfTrailingZeros_0f7a4_73 rfl (by decide) rfl ?_
            refine J_iload_n dJ6_numberOfTrailingZeros_0f7a4_74 rfl rfl ?_
            refine J_iload_n dJ6_numberOfTrailingZeros_0f7a4_75 rfl rfl ?_
            refine J_iconst (v := 1) dJ6_numberOfTrailingZeros_0f7a4_76 (by decide) ?_
            refine J_iushr dJ6_numberOfTrailingZeros_0f7a4_77 rfl ?_
            refine J_iadd dJ6_numberOfTrailingZeros_0f7a4_78 ?_
            refine J_ireturn dJ6_numberOfTrailingZeros_0f7a4_79 rfl rfl (by decide) (by decide) ?_
            exact ⟨by rw [← ntz_low s hs h0]; simp only [ntz, ntz0, ntz1, ntz2, ntz3, ntz4, ush, h9, h23, h38, h52, h64, if_true, if_false, ↓reduceIte], rfl, rfl⟩
        · refine J_iinc (v := _ + 4) (L' := [(1, _), (0, _)]) dJ6_numberOfTrailingZeros_0f7a4_55 rfl rfl (by decide) rfl ?_
          refine J_iload_n dJ6_numberOfTrailingZeros_0f7a4_58 rfl rfl ?_
          refine J_iconst (v := 4) dJ6_numberOfTrailingZeros_0f7a4_59 (by decide) ?_
          refine J_iushr dJ6_numberOfTrailingZeros_0f7a4_60 rfl ?_
          refine J_istore_n (L' := [(0, _), (1, _)]) dJ6_numberOfTrailingZeros_0f7a4_61 rfl (by decide) rfl ?_
          refine J_iload_n dJ6_numberOfTrailingZeros_0f7a4_62 rfl rfl ?_
          refine J_iconst (v := 4) dJ6_numberOfTrailingZeros_0f7a4_63 (by decide) ?_
          refine J_icmp_le (tgt := 74) dJ6_numberOfTrailingZeros_0f7a4_64 rfl (fun h64 => ?_) (fun h64 => ?_)
          · refine J_iload_n dJ6_numberOfTrailingZeros_0f7a4_74 rfl rfl ?_
            refine J_iload_n dJ6_numberOfTrailingZeros_0f7a4_75 rfl rfl ?_
            refine J_iconst (v := 1) dJ6_numberOfTrailingZeros_0f7a4_76 (by decide) ?_
            refine J_iushr dJ6_numberOfTrailingZeros_0f7a4_77 rfl ?_
            refine J_iadd dJ6_numberOfTrailingZeros_0f7a4_78 ?_
            refine J_ireturn dJ6_numberOfTrailingZeros_0f7a4_79 rfl rfl (by decide) (by decide) ?_
            exact ⟨by rw [← ntz_low s hs h0]; simp only [ntz, ntz0, ntz1, ntz2, ntz3, ntz4, ush, h9, h23, h38, h52, h64, if_true, if_false, ↓reduceIte], rfl, rfl⟩
          · refine J_iinc (v := _ + 2) (L' := [(1, _), (0, _)]) dJ6_numberOfTrailingZeros_0f7a4_67 rfl rfl (by decide) rfl ?_
            refine J_iload_n dJ6_numberOfTrailingZeros_0f7a4_70 rfl rfl ?_
            refine J_iconst (v := 2) dJ6_numberOfTrailingZeros_0f7a4_71 (by decide) ?_
            refine J_iushr dJ6_numberOfTrailingZeros_0f7a4_72 rfl ?_
            refine J_istore_n (L' := [(0, _), (1, _)]) dJ6_numberOfTrailingZeros_0f7a4_73 rfl (by decide) rfl ?_
            refine J_iload_n dJ6_numberOfTrailingZeros_0f7a4_74 rfl rfl ?_
            refine J_iload_n dJ6_numberOfTrailingZeros_0f7a4_75 rfl rfl ?_
            refine J_iconst (v := 1) dJ6_numberOfTrailingZeros_0f7a4_76 (by decide) ?_
            refine J_iushr dJ6_numberOfTrailingZeros_0f7a4_77 rfl ?_
            refine J_iadd dJ6_numberOfTrailingZeros_0f7a4_78 ?_
            refine J_ireturn dJ6_numberOfTrailingZeros_0f7a4_79 rfl rfl (by decide) (by decide) ?_
            exact ⟨by rw [← ntz_low s hs h0]; simp only [ntz, ntz0, ntz1, ntz2, ntz3, ntz4, ush, h9, h23, h38, h52, h64, if_true, if_false, ↓reduceIte], rfl, rfl⟩
      · refine J_iinc (v := _ + 8) (L' := [(1, _), (0, _)]) dJ6_numberOfTrailingZeros_0f7a4_41 rfl rfl (by decide) rfl ?_
        refine J_iload_n dJ6_numberOfTrailingZeros_0f7a4_44 rfl rfl ?_
        refine J_bipush (v := 8) dJ6_numberOfTrailingZeros_0f7a4_45 (by decide) ?_
        refine J_iushr dJ6_numberOfTrailingZeros_0f7a4_47 rfl ?_
        refine J_istore_n (L' := [(0, _), (1, _)]) dJ6_numberOfTrailingZeros_0f7a4_48 rfl (by decide) rfl ?_
        refine J_iload_n dJ6_numberOfTrailingZeros_0f7a4_49 rfl rfl ?_
        refine J_bipush (v := 16) dJ6_numberOfTrailingZeros_0f7a4_50 (by decide) ?_
        refine J_icmp_le (tgt := 62) dJ6_numberOfTrailingZeros_0f7a4_52 rfl (fun h52 => ?_) (fun h52 => ?_)
        · refine J_iload_n dJ6_numberOfTrailingZeros_0f7a4_62 rfl rfl ?_
          refine J_iconst (v := 4) dJ6_numberOfTrailingZeros_0f7a4_63 (by decide) ?_
          refine J_icmp_le (tgt := 74) dJ6_numberOfTrailingZeros_0f7a4_64 rfl (fun h64 => ?_) (fun h64 => ?_)
          · refine J_iload_n dJ6_numberOfTrailingZeros_0f7a4_74 rfl rfl ?_
            refine J_iload_n dJ6_numberOfTrailingZeros_0f7a4_75 rfl rfl ?_
            refine J_iconst (v := 1) dJ6_numberOfTrailingZeros_0f7a4_76 (by decide) ?_
            refine J_iushr dJ6_numberOfTrailingZeros_0f7a4_77 rfl ?_
            refine J_iadd dJ6_numberOfTrailingZeros_0f7a4_78 ?_
            refine J_ireturn dJ6_numberOfTrailingZeros_0f7a4_79 rfl rfl (by decide) (by decide) ?_
            exact ⟨by rw [← ntz_low s hs h0]; simp only [ntz, ntz0, ntz1, ntz2, ntz3, ntz4, ush, h9, h23, h38, h52, h64, if_true, if_false, ↓reduceIte], rfl, rfl⟩
          · refine J_iinc (v := _ + 2) (L' := [(1, _), (0, _)]) dJ6_numberOfTrailingZeros_0f7a4_67 rfl rfl (by decide) rfl ?_
            refine J_iload_n dJ6_numberOfTrailingZeros_0f7a4_70 rfl rfl ?_
            refine J_iconst (v := 2) dJ6_numberOfTrailingZeros_0f7a4_71 (by decide) ?_
            refine J_iushr dJ6_numberOfTrailingZeros_0f7a4_72 rfl ?_
            refine J_istore_n (L' := [(0, _), (1, _)]) dJ6_numberOfTrailingZeros_0f7a4_73 rfl (by decide) rfl ?_
            refine J_iload_n dJ6_numberOfTrailingZeros_0f7a4_74 rfl rfl ?_
            refine J_iload_n dJ6_numberOfTrailingZeros_0f7a4_75 rfl rfl ?_
            refine J_iconst (v := 1) dJ6_numberOfTrailingZeros_0f7a4_76 (by decide) ?_
            refine J_iushr dJ6_numberOfTrailingZeros_0f7a4_77 rfl ?_
            refine J_iadd dJ6_numberOfTrailingZeros_0f7a4_78 ?_
            refine J_ireturn dJ6_numberOfTrailingZeros_0f7a4_79 rfl rfl (by decide) (by decide) ?_
            exact ⟨by rw [← ntz_low s hs h0]; simp only [ntz, ntz0, ntz1, ntz2, ntz3, ntz4, ush, h9, h23, h38, h52, h64, if_true, if_false, ↓reduceIte], rfl, rfl⟩
        · refine J_iinc (v := _ + 4) (L' := [(1, _), (0, _)]) dJ6_numberOfTrailingZeros_0f7a4_55 rfl rfl (by decide) rfl ?_
          refine J_iload_n dJ6_numberOfTrailingZeros_0f7a4_58 rfl rfl ?_
          refine J_iconst (v := 4) dJ6_numberOfTrailingZeros_0f7a4_59 (by decide) ?_
          refine J_iushr dJ6_numberOfTrailingZeros_0f7a4_60 rfl ?_
          refine J_istore_n (L' := [(0, _), (1, _)]) dJ6_numberOfTrailingZeros_0f7a4_61 rfl (by decide) rfl ?_
          refine J_iload_n dJ6_numberOfTrailingZeros_0f7a4_62 rfl rfl ?_
          refine J_iconst (v := 4) dJ6_numberOfTrailingZeros_0f7a4_63 (by decide) ?_
          refine J_icmp_le (tgt := 74) dJ6_numberOfTrailingZeros_0f7a4_64 rfl (fun h64 => ?_) (fun h64 => ?_)
          · refine J_iload_n dJ6_numberOfTrailingZeros_0f7a4_74 rfl rfl ?_
            refine J_iload_n dJ6_numberOfTrailingZeros_0f7a4_75 rfl rfl ?_
            refine J_iconst (v := 1) dJ6_numberOfTrailingZeros_0f7a4_76 (by decide) ?_
            refine J_iushr dJ6_numberOfTrailingZeros_0f7a4_77 rfl ?_
            refine J_iadd dJ6_numberOfTrailingZeros_0f7a4_78 ?_
            refine J_ireturn dJ6_numberOfTrailingZeros_0f7a4_79 rfl rfl (by decide) (by decide) ?_
            exact ⟨by rw [← ntz_low s hs h0]; simp only [ntz, ntz0, ntz1, ntz2, ntz3, ntz4, ush, h9, h23, h38, h52, h64, if_true, if_false, ↓reduceIte], rfl, rfl⟩
          · refine J_iinc (v := _ + 2) (L' := [(1, _), (0, _)]) dJ6_numberOfTrailingZeros_0f7a4_67 rfl rfl (by decide) rfl ?_
            refine J_iload_n dJ6_numberOfTrailingZeros_0f7a4_70 rfl rfl ?_
            refine J_iconst (v := 2) dJ6_numberOfTrailingZeros_0f7a4_71 (by decide) ?_
            refine J_iushr dJ6_numberOfTrailingZeros_0f7a4_72 rfl ?_
            refine J_istore_n (L' := [(0, _), (1, _)]) dJ6_numberOfTrailingZeros_0f7a4_73 rfl (by decide) rfl ?_
            refine J_iload_n dJ6_numberOfTrailingZeros_0f7a4_74 rfl rfl ?_
            refine J_iload_n dJ6_numberOfTrailingZeros_0f7a4_75 rfl rfl ?_
            refine J_iconst (v := 1) dJ6_numberOfTrailingZeros_0f7a4_76 (by decide) ?_
            refine J_iushr dJ6_numberOfTrailingZeros_0f7a4_77 rfl ?_
            refine J_iadd dJ6_numberOfTrailingZeros_0f7a4_78 ?_
            refine J_ireturn dJ6_numberOfTrailingZeros_0f7a4_79 rfl rfl (by decide) (by decide) ?_
            exact ⟨by rw [← ntz_low s hs h0]; simp only [ntz, ntz0, ntz1, ntz2, ntz3, ntz4, ush, h9, h23, h38, h52, h64, if_true, if_false, ↓reduceIte], rfl, rfl⟩
    · refine J_iinc (v := _ + 16) (L' := [(1, _), (0, _)]) dJ6_numberOfTrailingZeros_0f7a4_26 rfl rfl (by decide) rfl ?_
      refine J_iload_n dJ6_numberOfTrailingZeros_0f7a4_29 rfl rfl ?_
      refine J_bipush (v := 16) dJ6_numberOfTrailingZeros_0f7a4_30 (by decide) ?_
      refine J_iushr dJ6_numberOfTrailingZeros_0f7a4_32 rfl ?_
      refine J_istore_n (L' := [(0, _), (1, _)]) dJ6_numberOfTrailingZeros_0f7a4_33 rfl (by decide) rfl ?_
      refine J_iload_n dJ6_numberOfTrailingZeros_0f7a4_34 rfl rfl ?_
      refine J_sipush (v := 256) dJ6_numberOfTrailingZeros_0f7a4_35 (by decide) ?_
      refine J_icmp_le (tgt := 49) dJ6_numberOfTrailingZeros_0f7a4_38 rfl (fun h38 => ?_) (fun h38 => ?_)
      · refine J_iload_n dJ6_numberOfTrailingZeros_0f7a4_49 rfl rfl ?_
        refine J_bipush (v := 16) dJ6_numberOfTrailingZeros_0f7a4_50 (by decide) ?_
        refine J_icmp_le (tgt := 62) dJ6_numberOfTrailingZeros_0f7a4_52 rfl (fun h52 => ?_) (fun h52 => ?_)
        · refine J_iload_n dJ6_numberOfTrailingZeros_0f7a4_62 rfl rfl ?_
          refine J_iconst (v := 4) dJ6_numberOfTrailingZeros_0f7a4_63 (by decide) ?_
          refine J_icmp_le (tgt := 74) dJ6_numberOfTrailingZeros_0f7a4_64 rfl (fun h64 => ?_) (fun h64 => ?_)
          · refine J_iload_n dJ6_numberOfTrailingZeros_0f7a4_74 rfl rfl ?_
            refine J_iload_n dJ6_numberOfTrailingZeros_0f7a4_75 rfl rfl ?_
            refine J_iconst (v := 1) dJ6_numberOfTrailingZeros_0f7a4_76 (by decide) ?_
            refine J_iushr dJ6_numberOfTrailingZeros_0f7a4_77 rfl ?_
            refine J_iadd dJ6_numberOfTrailingZeros_0f7a4_78 ?_
            refine J_ireturn dJ6_numberOfTrailingZeros_0f7a4_79 rfl rfl (by decide) (by decide) ?_
            exact ⟨by rw [← ntz_low s hs h0]; simp only [ntz, ntz0, ntz1, ntz2, ntz3, ntz4, ush, h9, h23, h38, h52, h64, if_true, if_false, ↓reduceIte], rfl, rfl⟩
          · refine J_iinc (v := _ + 2) (L' := [(1, _), (0, _)]) dJ6_numberOfTrailingZeros_0f7a4_67 rfl rfl (by decide) rfl ?_
            refine J_iload_n dJ6_numberOfTrailingZeros_0f7a4_70 rfl rfl ?_
            refine J_iconst (v := 2) dJ6_numberOfTrailingZeros_0f7a4_71 (by decide) ?_
            refine J_iushr dJ6_numberOfTrailingZeros_0f7a4_72 rfl ?_
            refine J_istore_n (L' := [(0, _), (1, _)]) dJ6_numberOfTrailingZeros_0f7a4_73 rfl (by decide) rfl ?_
            refine J_iload_n dJ6_numberOfTrailingZeros_0f7a4_74 rfl rfl ?_
            refine J_iload_n dJ6_numberOfTrailingZeros_0f7a4_75 rfl rfl ?_
            refine J_iconst (v := 1) dJ6_numberOfTrailingZeros_0f7a4_76 (by decide) ?_
            refine J_iushr dJ6_numberOfTrailingZeros_0f7a4_77 rfl ?_
            refine J_iadd dJ6_numberOfTrailingZeros_0f7a4_78 ?_
            refine J_ireturn dJ6_numberOfTrailingZeros_0f7a4_79 rfl rfl (by decide) (by decide) ?_
            exact ⟨by rw [← ntz_low s hs h0]; simp only [ntz, ntz0, ntz1, ntz2, ntz3, ntz4, ush, h9, h23, h38, h52, h64, if_true, if_false, ↓reduceIte], rfl, rfl⟩
        · refine J_iinc (v := _ + 4) (L' := [(1, _), (0, _)]) dJ6_numberOfTrailingZeros_0f7a4_55 rfl rfl (by decide) rfl ?_
          refine J_iload_n dJ6_numberOfTrailingZeros_0f7a4_58 rfl rfl ?_
          refine J_iconst (v := 4) dJ6_numberOfTrailingZeros_0f7a4_59 (by decide) ?_
          refine J_iushr dJ6_numberOfTrailingZeros_0f7a4_60 rfl ?_
          refine J_istore_n (L' := [(0, _), (1, _)]) dJ6_numberOfTrailingZeros_0f7a4_61 rfl (by decide) rfl ?_
          refine J_iload_n dJ6_numberOfTrailingZeros_0f7a4_62 rfl rfl ?_
          refine J_iconst (v := 4) dJ6_numberOfTrailingZeros_0f7a4_63 (by decide) ?_
          refine J_icmp_le (tgt := 74) dJ6_numberOfTrailingZeros_0f7a4_64 rfl (fun h64 => ?_) (fun h64 => ?_)
          · refine J_iload_n dJ6_numberOfTrailingZeros_0f7a4_74 rfl rfl ?_
            refine J_iload_n dJ6_numberOfTrailingZeros_0f7a4_75 rfl rfl ?_
            refine J_iconst (v := 1) dJ6_numberOfTrailingZeros_0f7a4_76 (by decide) ?_
            refine J_iushr dJ6_numberOfTrailingZeros_0f7a4_77 rfl ?_
            refine J_iadd dJ6_numberOfTrailingZeros_0f7a4_78 ?_
            refine J_ireturn dJ6_numberOfTrailingZeros_0f7a4_79 rfl rfl (by decide) (by decide) ?_
            exact ⟨by rw [← ntz_low s hs h0]; simp only [ntz, ntz0, ntz1, ntz2, ntz3, ntz4, ush, h9, h23, h38, h52, h64, if_true, if_false, ↓reduceIte], rfl, rfl⟩
          · refine J_iinc (v := _ + 2) (L' := [(1, _), (0, _)]) dJ6_numberOfTrailingZeros_0f7a4_67 rfl rfl (by decide) rfl ?_
            refine J_iload_n dJ6_numberOfTrailingZeros_0f7a4_70 rfl rfl ?_
            refine J_iconst (v := 2) dJ6_numberOfTrailingZeros_0f7a4_71 (by decide) ?_
            refine J_iushr dJ6_numberOfTrailingZeros_0f7a4_72 rfl ?_
            refine J_istore_n (L' := [(0, _), (1, _)]) dJ6_numberOfTrailingZeros_0f7a4_73 rfl (by decide) rfl ?_
            refine J_iload_n dJ6_numberOfTrailingZeros_0f7a4_74 rfl rfl ?_
            refine J_iload_n dJ6_numberOfTrailingZeros_0f7a4_75 rfl rfl ?_
            refine J_iconst (v := 1) dJ6_numberOfTrailingZeros_0f7a4_76 (by decide) ?_
            refine J_iushr dJ6_numberOfTrailingZeros_0f7a4_77 rfl ?_
            refine J_iadd dJ6_numberOfTrailingZeros_0f7a4_78 ?_
            refine J_ireturn dJ6_numberOfTrailingZeros_0f7a4_79 rfl rfl (by decide) (by decide) ?_
            exact ⟨by rw [← ntz_low s hs h0]; simp only [ntz, ntz0, ntz1, ntz2, ntz3, ntz4, ush, h9, h23, h38, h52, h64, if_true, if_false, ↓reduceIte], rfl, rfl⟩
      · refine J_iinc (v := _ + 8) (L' := [(1, _), (0, _)]) dJ6_numberOfTrailingZeros_0f7a4_41 rfl rfl (by decide) rfl ?_
        refine J_iload_n dJ6_numberOfTrailingZeros_0f7a4_44 rfl rfl ?_
        refine J_bipush (v := 8) dJ6_numberOfTrailingZeros_0f7a4_45 (by decide) ?_
        refine J_iushr dJ6_numberOfTrailingZeros_0f7a4_47 rfl ?_
        refine J_istore_n (L' := [(0, _), (1, _)]) dJ6_numberOfTrailingZeros_0f7a4_48 rfl (by decide) rfl ?_
        refine J_iload_n dJ6_numberOfTrailingZeros_0f7a4_49 rfl rfl ?_
        refine J_bipush (v := 16) dJ6_numberOfTrailingZeros_0f7a4_50 (by decide) ?_
        refine J_icmp_le (tgt := 62) dJ6_numberOfTrailingZeros_0f7a4_52 rfl (fun h52 => ?_) (fun h52 => ?_)
        · refine J_iload_n dJ6_numberOfTrailingZeros_0f7a4_62 rfl rfl ?_
          refine J_iconst (v := 4) dJ6_numberOfTrailingZeros_0f7a4_63 (by decide) ?_
          refine J_icmp_le (tgt := 74) dJ6_numberOfTrailingZeros_0f7a4_64 rfl (fun h64 => ?_) (fun h64 => ?_)
          · refine J_iload_n dJ6_numberOfTrailingZeros_0f7a4_74 rfl rfl ?_
            refine J_iload_n dJ6_numberOfTrailingZeros_0f7a4_75 rfl rfl ?_
            refine J_iconst (v := 1) dJ6_numberOfTrailingZeros_0f7a4_76 (by decide) ?_
            refine J_iushr dJ6_numberOfTrailingZeros_0f7a4_77 rfl ?_
            refine J_iadd dJ6_numberOfTrailingZeros_0f7a4_78 ?_
            refine J_ireturn dJ6_numberOfTrailingZeros_0f7a4_79 rfl rfl (by decide) (by decide) ?_
            exact ⟨by rw [← ntz_low s hs h0]; simp only [ntz, ntz0, ntz1, ntz2, ntz3, ntz4, ush, h9, h23, h38, h52, h64, if_true, if_false, ↓reduceIte], rfl, rfl⟩
          · refine J_iinc (v := _ + 2) (L' := [(1, _), (0, _)]) dJ6_numberOfTrailingZeros_0f7a4_67 rfl rfl (by decide) rfl ?_
            refine J_iload_n dJ6_numberOfTrailingZeros_0f7a4_70 rfl rfl ?_
            refine J_iconst (v := 2) dJ6_numberOfTrailingZeros_0f7a4_71 (by decide) ?_
            refine J_iushr dJ6_numberOfTrailingZeros_0f7a4_72 rfl ?_
            refine J_istore_n (L' := [(0, _), (1, _)]) dJ6_numberOfTrailingZeros_0f7a4_73 rfl (by decide) rfl ?_
            refine J_iload_n dJ6_numberOfTrailingZeros_0f7a4_74 rfl rfl ?_
            refine J_iload_n dJ6_numberOfTrailingZeros_0f7a4_75 rfl rfl ?_
            refine J_iconst (v := 1) dJ6_numberOfTrailingZeros_0f7a4_76 (by decide) ?_
            refine J_iushr dJ6_numberOfTrailingZeros_0f7a4_77 rfl ?_
            refine J_iadd dJ6_numberOfTrailingZeros_0f7a4_78 ?_
            refine J_ireturn dJ6_numberOfTrailingZeros_0f7a4_79 rfl rfl (by decide) (by decide) ?_
            exact ⟨by rw [← ntz_low s hs h0]; simp only [ntz, ntz0, ntz1, ntz2, ntz3, ntz4, ush, h9, h23, h38, h52, h64, if_true, if_false, ↓reduceIte], rfl, rfl⟩
        · refine J_iinc (v := _ + 4) (L' := [(1, _), (0, _)]) dJ6_numberOfTrailingZeros_0f7a4_55 rfl rfl (by decide) rfl ?_
          refine J_iload_n dJ6_numberOfTrailingZeros_0f7a4_58 rfl rfl ?_
          refine J_iconst (v := 4) dJ6_numberOfTrailingZeros_0f7a4_59 (by decide) ?_
          refine J_iushr dJ6_numberOfTrailingZeros_0f7a4_60 rfl ?_
          refine J_istore_n (L' := [(0, _), (1, _)]) dJ6_numberOfTrailingZeros_0f7a4_61 rfl (by decide) rfl ?_
          refine J_iload_n dJ6_numberOfTrailingZeros_0f7a4_62 rfl rfl ?_
          refine J_iconst (v := 4) dJ6_numberOfTrailingZeros_0f7a4_63 (by decide) ?_
          refine J_icmp_le (tgt := 74) dJ6_numberOfTrailingZeros_0f7a4_64 rfl (fun h64 => ?_) (fun h64 => ?_)
          · refine J_iload_n dJ6_numberOfTrailingZeros_0f7a4_74 rfl rfl ?_
            refine J_iload_n dJ6_numberOfTrailingZeros_0f7a4_75 rfl rfl ?_
            refine J_iconst (v := 1) dJ6_numberOfTrailingZeros_0f7a4_76 (by decide) ?_
            refine J_iushr dJ6_numberOfTrailingZeros_0f7a4_77 rfl ?_
            refine J_iadd dJ6_numberOfTrailingZeros_0f7a4_78 ?_
            refine J_ireturn dJ6_numberOfTrailingZeros_0f7a4_79 rfl rfl (by decide) (by decide) ?_
            exact ⟨by rw [← ntz_low s hs h0]; simp only [ntz, ntz0, ntz1, ntz2, ntz3, ntz4, ush, h9, h23, h38, h52, h64, if_true, if_false, ↓reduceIte], rfl, rfl⟩
          · refine J_iinc (v := _ + 2) (L' := [(1, _), (0, _)]) dJ6_numberOfTrailingZeros_0f7a4_67 rfl rfl (by decide) rfl ?_
            refine J_iload_n dJ6_numberOfTrailingZeros_0f7a4_70 rfl rfl ?_
            refine J_iconst (v := 2) dJ6_numberOfTrailingZeros_0f7a4_71 (by decide) ?_
            refine J_iushr dJ6_numberOfTrailingZeros_0f7a4_72 rfl ?_
            refine J_istore_n (L' := [(0, _), (1, _)]) dJ6_numberOfTrailingZeros_0f7a4_73 rfl (by decide) rfl ?_
            refine J_iload_n dJ6_numberOfTrailingZeros_0f7a4_74 rfl rfl ?_
            refine J_iload_n dJ6_numberOfTrailingZeros_0f7a4_75 rfl rfl ?_
            refine J_iconst (v := 1) dJ6_numberOfTrailingZeros_0f7a4_76 (by decide) ?_
            refine J_iushr dJ6_numberOfTrailingZeros_0f7a4_77 rfl ?_
            refine J_iadd dJ6_numberOfTrailingZeros_0f7a4_78 ?_
            refine J_ireturn dJ6_numberOfTrailingZeros_0f7a4_79 rfl rfl (by decide) (by decide) ?_
            exact ⟨by rw [← ntz_low s hs h0]; simp only [ntz, ntz0, ntz1, ntz2, ntz3, ntz4, ush, h9, h23, h38, h52, h64, if_true, if_false, ↓reduceIte], rfl, rfl⟩
  · refine J_iload_n dJ6_numberOfTrailingZeros_0f7a4_12 rfl rfl ?_
    refine J_bipush (v := 32) dJ6_numberOfTrailingZeros_0f7a4_13 (by decide) ?_
    refine J_iand dJ6_numberOfTrailingZeros_0f7a4_15 ?_
    refine J_ireturn dJ6_numberOfTrailingZeros_0f7a4_16 rfl rfl (by decide) (by decide) ?_
    exact ⟨by rw [← ntz_low s hs h0]; simp only [ntz, if_neg h9], rfl, rfl⟩
theorem c_X1_firstOf (hst : l.stackTraces = false) {s : Nat} {x : Int32} (hx : x = nI s) (hs : s < 4096) (h0 : s ≠ 0) : xx_C G l yX1_firstOf mX1_firstOf 1 21 0 0 [.int x] A n (xx_ro (some (.int (nI (low s)))) A n) := by
  refine J_C hst (by decide +kernel) rfl rfl rfl (Nat.le_of_ble_eq_true rfl) ?_
  show xx_J _ _ _ _ _ _ _ _ 0 [(0, _)] [] _ _ _ _
  refine J_iload_n dX1_firstOf_0 rfl rfl ?_
  refine J_callSr (As := [_]) dX1_firstOf_1 ml_X1_101 cal_J6_numberOfTrailingZeros_0f7a4 sm_J6_numberOfTrailingZeros_0f7a4 rfl rfl (Nat.le_of_ble_eq_true rfl) ⟨by decide, by decide⟩ ⟨by decide, by decide⟩ (c_J6_numberOfTrailingZeros_0f7a4 hst hx hs h0) ?_
  refine J_bipush (v := 11) dX1_firstOf_4 (by decide) ?_
  refine J_min dX1_firstOf_6 ml_X1_96 ⟨by decide, Nat.le_of_ble_eq_true rfl⟩ ⟨by decide, by decide⟩ ?_
  refine J_ireturn dX1_firstOf_9 rfl rfl (by decide) (by decide) ?_
  have h12 := (low_spec (k := 12) hs (by omega) h0).2.1
  exact ⟨by rw [if_neg (by rw [i_lt, i_n (by omega), show (11 : Int32).toInt = 11 from rfl]; omega)], rfl, rfl⟩
theorem wP_uu {b i : Nat} {F : xS} {f g : Nat → Int32} {A : xx_H} (h : xx_w b (layP b (a_up (a_up F i f) i g)) A) : xx_w b (layP b (a_up F i g)) A := by
  rw [a_up_u] at h
  exact h
/-- what is known of the memo -/
def mok (met : Nat → Nat → Bool) (k : Nat) (fw : Nat → Int32) : Prop := ∀ s, s < 2 ^ k → fw s = -1 ∨ fw s = nI (mr met k (pcn s 12 / 2) s)
/-- who of the line have met, as bits -/
def mbt (met : Nat → Nat → Bool) (k : Nat) (f : Nat → Int32) : Prop := ∀ a, a < k → ∃ m, f a = nI m ∧ m < 2 ^ 31 ∧ ∀ b, b < k → m.testBit b = met a b
def pQ (bp n : Nat) (PS : xS) (met : Nat → Nat → Bool) (k : Nat) (A : xx_H) (v : Nat) : xx_Q := xx_wr (some (.int (nI v))) n (fun A' => ∃ fw', mok met k fw' ∧ xx_w bp (layP bp (a_up PS 5 fw')) A' ∧ xx_same bp (bp + 6) A A')
def Few (G : xx_G) (l : Launch) (bp : Nat) (PS : xS) (met : Nat → Nat → Bool) (k p : Nat) : Prop := ∀ (A : xx_H) (n : Nat) (fw : Nat → Int32) (s : Nat) (x y : Int32), x = nI s → y = nI p → s < 2 ^ k → pcn s 12 = 2 * p → mok met k fw → xx_w bp (layP bp (a_up PS 5 fw)) A → xx_C G l yX1_fewestRematches mX1_fewestRematches (3 * p + 4) (73 * p + 70) 0 0 [.ref bp, .int x, .int y] A n (pQ bp n PS met k A (mr met k p s))
def Rem (G : xx_G) (l : Launch) (bp : Nat) (PS : xS) (met : Nat → Nat → Bool) (k p : Nat) : Prop := ∀ (A : xx_H) (n : Nat) (fw : Nat → Int32) (a b s : Nat) (x y z u : Int32), x = nI a → y = nI b → z = nI s → u = nI p → a < k → b < k → clr s b < 2 ^ k → pcn (clr s b) 12 = 2 * p → mok met k fw → xx_w bp (layP bp (a_up PS 5 fw)) A → xx_C G l yX1_rematchesWith mX1_rematchesWith (3 * p + 5) (73 * p + 92) 0 0 [.ref bp, .int x, .int y, .int z, .int u] A n (pQ bp n PS met k A (mr met k p (clr s b) + (if met a b = true then 1 else 0)))
def Rck (G : xx_G) (l : Launch) (bp : Nat) (PS : xS) (met : Nat → Nat → Bool) (k p : Nat) : Prop := ∀ (A : xx_H) (n : Nat) (fw : Nat → Int32) (s : Nat) (x y : Int32), x = nI s → y = nI (p + 1) → s < 2 ^ k → pcn s 12 = 2 * (p + 1) → mok met k fw → xx_w bp (layP bp (a_up PS 5 fw)) A → xx_C G l yX1_reckonFewest mX1_reckonFewest (3 * p + 6) (73 * p + 117) 0 0 [.ref bp, .int x, .int y] A n (pQ bp n PS met k A (mr met k (p + 1) s))
variable {met : Nat → Nat → Bool} {k p : Nat}
set_option maxHeartbeats 4000000 in
theorem c_rem (hst : l.stackTraces = false) (hk : PS.1 5 = nI k) (h12 : k ≤ 12) (hmb : mbt met k (PS.2 4)) (hF : Few G l bp PS met k p) : Rem G l bp PS met k p := by
  intro A n fw a b s x y z u hx hy hz hu ha hb hcl hpc hm hP
  subst hx hy hz hu
  obtain ⟨m, em, hm31, hmt⟩ := hmb a ha
  refine J_C hst (by decide +kernel) rfl rfl rfl (Nat.le_of_ble_eq_true rfl) ?_
  show xx_J _ _ _ _ _ _ _ _ 0 [(0, _), (1, _), (2, _), (3, _), (4, _)] [] _ _ _ _
  refine J_aload_n dX1_rematchesWith_0 rfl rfl ?_
  refine J_iload_n dX1_rematchesWith_1 rfl rfl ?_
  refine J_iconst (v := 1) dX1_rematchesWith_2 (by decide) ?_
  refine J_iload_n dX1_rematchesWith_3 rfl rfl ?_
  refine J_ishl dX1_rematchesWith_4 ?_
  refine J_iconst (v := -1) dX1_rematchesWith_5 (by decide) ?_
  refine J_ixor dX1_rematchesWith_6 ?_
  refine J_iand dX1_rematchesWith_7 ?_
  rw [is_clr (by omega)]
  refine J_iload dX1_rematchesWith_8 rfl ?_
  refine J_callVw (As := [_, _]) dX1_rematchesWith_10 ml_X1_56 cal_X1_fewestRematches im_X1_fewestRematches se_X1_fewestRematches (hP.at 0 rfl) rfl rfl rfl (Nat.le_of_ble_eq_true rfl) ⟨by omega, by show 8 + (3 + 11) + _ ≤ _; omega⟩ ⟨by decide, by decide⟩ (hF _ _ _ _ _ _ rfl rfl hcl hpc hm hP) (fun A1 hQ1 => ?_)
  obtain ⟨fw1, hm1, hP1, hS1⟩ := hQ1
  refine J_istore (L' := [(5, _), (0, _), (1, _), (2, _), (3, _), (4, _)]) dX1_rematchesWith_13 (by decide) rfl ?_
  refine J_aload_n dX1_rematchesWith_15 rfl rfl ?_
  refine J_getf dX1_rematchesWith_16 fl_X1_34 (hP1.at 0 rfl) rfl ?_
  refine J_iload_n dX1_rematchesWith_19 rfl rfl ?_
  refine J_ialdN _ dX1_rematchesWith_20 (hP1.at 4 rfl) rfl (by omega) (by decide) ?_
  refine J_iload_n dX1_rematchesWith_21 rfl rfl ?_
  refine J_callSr (As := [_, _]) dX1_rematchesWith_22 ml_X1_85 cal_X1_has sm_X1_has rfl rfl (Nat.le_of_ble_eq_true rfl) ⟨by omega, by show 8 + (2 + 11) + _ ≤ _; omega⟩ ⟨by decide, by decide⟩ (c_X1_has hst em hm31 rfl (by omega)) ?_
  refine J_ifb_eq (tgt := 35) dX1_rematchesWith_25 rfl (fun h25 => ?_) (fun h25 => ?_)
  · have hv : ¬ met a b = true := by rw [← hmt b hb]; exact h25
    refine J_iload dX1_rematchesWith_35 rfl ?_
    refine J_ireturn dX1_rematchesWith_37 rfl rfl (by decide) (by decide) ?_
    refine ⟨?_, rfl, _, hm1, hP1, ((xx_same.rf (b := bp) (e := bp + 6)).trans hS1)⟩
    first | rw [if_pos hv, nI_1] | rw [if_neg hv, Nat.add_zero]
  · have hv : met a b = true := by rw [← hmt b hb]; exact h25
    refine J_iload dX1_rematchesWith_28 rfl ?_
    refine J_iconst (v := 1) dX1_rematchesWith_30 (by decide) ?_
    refine J_iadd dX1_rematchesWith_31 ?_
    refine J_goto (tgt := 37) dX1_rematchesWith_32 rfl ?_
    refine J_ireturn dX1_rematchesWith_37 rfl rfl (by decide) (by decide) ?_
    refine ⟨?_, rfl, _, hm1, hP1, ((xx_same.rf (b := bp) (e := bp + 6)).trans hS1)⟩
    first | rw [if_pos hv, nI_1] | rw [if_neg hv, Nat.add_zero]
theorem mok_upd {fw : Nat → Int32} (h : mok met k fw) {s p : Nat} (hp : pcn s 12 = 2 * p) : mok met k (upd fw s (nI (mr met k p s))) := by
  intro q hq
  simp only [upd]
  by_cases hs : q = s
  · subst hs
    rw [if_pos rfl, hp, show 2 * p / 2 = p by omega]
    exact Or.inr rfl
  · rw [if_neg hs]
    exact h q hq
theorem sub1 (p : Nat) : nI (p + 1) - 1 = nI p := by rw [show (1 : Int32) = nI 1 from rfl, pk_sub (by omega)]; rfl
theorem mnv_s {t : Nat → Bool} {g : Nat → Nat} {k i acc : Nat} (h : i < k) : mnv t g (k - i) i acc = mnv t g (k - (i + 1)) (i + 1) (if t i = true then (if g i < acc then g i else acc) else acc) := by
  rw [show k - i = (k - (i + 1)) + 1 by omega]
  rfl
theorem pw12 {k : Nat} (h : k ≤ 12) : 2 ^ k ≤ 4096 := Nat.pow_le_pow_right (n := 2) (by omega) h
set_option maxHeartbeats 4000000 in
theorem c_rck (hst : l.stackTraces = false) (hk : PS.1 5 = nI k) (h12 : k ≤ 12) (hmb : mbt met k (PS.2 4)) (hp6 : p + 1 ≤ 6) (hF : Rem G l bp PS met k p) : Rck G l bp PS met k p := by
  intro A n fw s x y hx hy hs hpc hm hP
  subst hx hy
  obtain ⟨h0, h1, h2, h3, hev⟩ := ev_step h12 hs hpc
  have h4 := pw12 h12
  have hcl := clr_le s (low s)
  refine J_C hst (by decide +kernel) rfl rfl rfl (Nat.le_of_ble_eq_true rfl) ?_
  show xx_J _ _ _ _ _ _ _ _ 0 [(0, _), (1, _), (2, _)] [] _ _ _ _
  refine J_iload_n dX1_reckonFewest_0 rfl rfl ?_
  refine J_callSr (As := [_]) dX1_reckonFewest_1 ml_X1_60 cal_X1_firstOf sm_X1_firstOf rfl rfl (Nat.le_of_ble_eq_true rfl) ⟨by omega, by show 8 + (1 + 11) + _ ≤ _; omega⟩ ⟨by decide, by decide⟩ (c_X1_firstOf hst rfl (by omega) h0) ?_
  refine J_istore_n (L' := [(3, _), (0, _), (1, _), (2, _)]) dX1_reckonFewest_4 rfl (by decide) rfl ?_
  refine J_iload_n dX1_reckonFewest_5 rfl rfl ?_
  refine J_iconst (v := 1) dX1_reckonFewest_6 (by decide) ?_
  refine J_iload_n dX1_reckonFewest_7 rfl rfl ?_
  refine J_ishl dX1_reckonFewest_8 ?_
  refine J_iconst (v := -1) dX1_reckonFewest_9 (by decide) ?_
  refine J_ixor dX1_reckonFewest_10 ?_
  refine J_iand dX1_reckonFewest_11 ?_
  rw [is_clr (by omega)]
  refine J_istore (L' := [(4, _), (3, _), (0, _), (1, _), (2, _)]) dX1_reckonFewest_12 (by decide) rfl ?_
  refine J_iload_n dX1_reckonFewest_14 rfl rfl ?_
  refine J_istore (L' := [(5, _), (4, _), (3, _), (0, _), (1, _), (2, _)]) dX1_reckonFewest_15 (by decide) rfl ?_
  refine J_iload_n dX1_reckonFewest_17 rfl rfl ?_
  refine J_iconst (v := 1) dX1_reckonFewest_18 (by decide) ?_
  refine J_iadd dX1_reckonFewest_19 ?_
  refine J_istore (L' := [(6, _), (5, _), (4, _), (3, _), (0, _), (1, _), (2, _)]) dX1_reckonFewest_20 (by decide) rfl ?_
  have loop : ∀ i, i ≤ k → ∀ (A1 : xx_H) (fw1 : Nat → Int32) (acc : Nat) (x y : Int32), x = nI i → y = nI acc → acc ≤ p + 1 → low s < i → mok met k fw1 → xx_w bp (layP bp (a_up PS 5 fw1)) A1 → xx_same bp (bp + 6) A A1 → mnv (fun b => (clr s (low s)).testBit b) (fun b => mr met k p (clr (clr s (low s)) b) + (if met (low s) b = true then 1 else 0)) (k - i) i acc = mr met k (p + 1) s → xx_J G l mX1_reckonFewest (3 * p + 6) (73 * p + 117) 0 0 (pQ bp n PS met k A (mr met k (p + 1) s)) 22 [(6, .int x), (5, .int y), (4, .int (nI (clr s (low s)))), (3, .int (nI (low s))), (2, .int (nI (p + 1))), (1, .int (nI s)), (0, .ref bp)] [] A1 n 0 0 := by
    refine xx_dn ?_ ?_
    · intro A1 fw1 acc x y hx hy hacc hlt hm1 hP1 hs1 hv
      have ek : (PS.1 5).toInt = k := by rw [hk]; exact i_n (by omega)
      have exx : x.toInt = k := by rw [hx]; exact i_n (by omega)
      have hv : acc = mr met k (p + 1) s := by rw [← hv, Nat.sub_self]; rfl
      refine J_iload dX1_reckonFewest_22 rfl ?_
      refine J_aload_n dX1_reckonFewest_24 rfl rfl ?_
      refine J_getf dX1_reckonFewest_25 fl_X1_28 (hP1.at 0 rfl) rfl ?_
      refine J_icmp_ge (tgt := 71) dX1_reckonFewest_28 rfl (fun h28 => ?_) (fun h28 => ?_)
      · refine J_iload dX1_reckonFewest_71 rfl ?_
        refine J_ireturn dX1_reckonFewest_73 rfl rfl (by decide) (by decide) ?_
        exact ⟨by rw [hy, hv], rfl, _, hm1, hP1, hs1⟩
      · first | (exfalso; simp only [i_lt, i_le, i_eq, i_0, i_1, i_2, i_3, i_4, i_5, i_6, i_8, i_9, i_10, i_12, i_16, i_20, i_m1] at h28; omega) | (exfalso; simp only [s_up, a_up, va_up, i_lt, i_le, i_eq, i_0, i_1, i_2, i_3, i_4, i_5, i_6, i_8, i_9, i_10, i_12, i_16, i_20, i_m1, ↓reduceIte, Nat.reduceEqDiff] at h28; omega)
    · intro i hii ih A1 fw1 acc x y hx hy hacc hlt hm1 hP1 hs1 hv
      have ek : (PS.1 5).toInt = k := by rw [hk]; exact i_n (by omega)
      have exx : x.toInt = i := by rw [hx]; exact i_n (by omega)
      refine J_iload dX1_reckonFewest_22 rfl ?_
      refine J_aload_n dX1_reckonFewest_24 rfl rfl ?_
      refine J_getf dX1_reckonFewest_25 fl_X1_28 (hP1.at 0 rfl) rfl ?_
      refine J_icmp_ge (tgt := 71) dX1_reckonFewest_28 rfl (fun h28 => ?_) (fun h28 => ?_)
      · first | (exfalso; simp only [i_lt, i_le, i_eq, i_0, i_1, i_2, i_3, i_4, i_5, i_6, i_8, i_9, i_10, i_12, i_16, i_20, i_m1] at h28; omega) | (exfalso; simp only [s_up, a_up, va_up, i_lt, i_le, i_eq, i_0, i_1, i_2, i_3, i_4, i_5, i_6, i_8, i_9, i_10, i_12, i_16, i_20, i_m1, ↓reduceIte, Nat.reduceEqDiff] at h28; omega)
      · refine J_iload dX1_reckonFewest_31 rfl ?_
        refine J_if_le (tgt := 71) dX1_reckonFewest_33 rfl (fun h33 => ?_) (fun h33 => ?_)
        · have ha0 : acc = 0 := by rw [hy, i_le, i_n (by omega), i_0] at h33; omega
          have hv : acc = mr met k (p + 1) s := by rw [← hv]; have := @mnv_le (fun b => (clr s (low s)).testBit b) (fun b => mr met k p (clr (clr s (low s)) b) + (if met (low s) b = true then 1 else 0)) (k - i) i acc; omega
          refine J_iload dX1_reckonFewest_71 rfl ?_
          refine J_ireturn dX1_reckonFewest_73 rfl rfl (by decide) (by decide) ?_
          exact ⟨by rw [hy, hv], rfl, _, hm1, hP1, hs1⟩
        · refine J_iload dX1_reckonFewest_36 rfl ?_
          refine J_iload dX1_reckonFewest_38 rfl ?_
          refine J_callSr (As := [_, _]) dX1_reckonFewest_40 ml_X1_85 cal_X1_has sm_X1_has rfl rfl (Nat.le_of_ble_eq_true rfl) ⟨by omega, by show 8 + (2 + 11) + _ ≤ _; omega⟩ ⟨by decide, by decide⟩ (c_X1_has (s := clr s (low s)) (b := i) hst rfl (by omega) hx (by omega)) ?_
          refine J_ifb_eq (tgt := 65) dX1_reckonFewest_43 rfl (fun h43 => ?_) (fun h43 => ?_)
          · refine J_iinc (v := _ + 1) (L' := [(6, _), (5, _), (4, _), (3, _), (2, _), (1, _), (0, _)]) dX1_reckonFewest_65 rfl rfl (by decide) rfl ?_
            refine J_goto (tgt := 22) dX1_reckonFewest_68 rfl ?_
            refine xx_J.pick [0, 1, 2, 3, 4, 5, 6] rfl ?_
            exact ih _ fw1 acc _ _ (by rw [hx]; exact nI_1 i) hy hacc (by omega) hm1 hP1 hs1 (by rw [← hv, mnv_s hii, if_neg h43])
          · obtain ⟨q1, q2, q3, q4, q5⟩ := hev i h43
            have hle := mr_le (met := met) h12 p _ q3 q5
            obtain ⟨gi, egi⟩ : ∃ gi, gi = mr met k p (clr (clr s (low s)) i) + (if met (low s) i = true then 1 else 0) := ⟨_, rfl⟩
            have hgi : gi ≤ p + 1 := by rw [egi]; split <;> omega
            refine J_iload dX1_reckonFewest_46 rfl ?_
            refine J_aload_n dX1_reckonFewest_48 rfl rfl ?_
            refine J_iload_n dX1_reckonFewest_49 rfl rfl ?_
            refine J_iload dX1_reckonFewest_50 rfl ?_
            refine J_iload dX1_reckonFewest_52 rfl ?_
            refine J_iload_n dX1_reckonFewest_54 rfl rfl ?_
            refine J_iconst (v := 1) dX1_reckonFewest_55 (by decide) ?_
            refine J_isub dX1_reckonFewest_56 ?_
            refine J_callVw (As := [_, _, _, _]) dX1_reckonFewest_57 ml_X1_89 cal_X1_rematchesWith im_X1_rematchesWith se_X1_rematchesWith (hP1.at 0 rfl) rfl rfl rfl (Nat.le_of_ble_eq_true rfl) ⟨by omega, by show 8 + (6 + 11) + _ ≤ _; omega⟩ ⟨by decide, by decide⟩ (hF _ _ _ _ _ _ _ _ _ _ rfl hx rfl (sub1 p) h2 hii q3 q5 hm1 hP1) (fun A111 hQ111 => ?_)
            obtain ⟨fw111, hm111, hP111, hS111⟩ := hQ111
            rw [hy, ← egi]
            refine J_min dX1_reckonFewest_60 ml_X1_96 ⟨by omega, by show 0 + 13 ≤ _; omega⟩ ⟨by decide, by decide⟩ ?_
            rw [show (if nI gi < nI acc then nI gi else nI acc) = nI (if gi < acc then gi else acc) from by (repeat' split) <;> first | rfl | (exfalso; rename_i z1 z2; rw [i_lt, i_n (by omega), i_n (by omega)] at z1; omega)]
            refine J_istore (L' := [(5, _), (6, _), (4, _), (3, _), (2, _), (1, _), (0, _)]) dX1_reckonFewest_63 (by decide) rfl ?_
            refine J_iinc (v := _ + 1) (L' := [(6, _), (5, _), (4, _), (3, _), (2, _), (1, _), (0, _)]) dX1_reckonFewest_65 rfl rfl (by decide) rfl ?_
            refine J_goto (tgt := 22) dX1_reckonFewest_68 rfl ?_
            refine xx_J.pick [0, 1, 2, 3, 4, 5, 6] rfl ?_
            exact ih _ _ (if gi < acc then gi else acc) _ _ (by rw [hx]; exact nI_1 i) rfl (by split <;> omega) (by omega) hm111 hP111 (hs1.trans hS111) (by rw [← hv, mnv_s hii, if_pos h43, egi])
  
  refine xx_J.pick [0, 1, 2, 3, 6, 5, 4] rfl ?_
  exact loop (low s + 1) (by omega) _ fw (p + 1) _ _ (nI_1 _) rfl (Nat.le_refl _) (by omega) hm hP (xx_same.rf (b := bp) (e := bp + 6)) (mr_acc h12 hs hpc (by omega))
set_option maxHeartbeats 4000000 in
theorem c_few0 (hst : l.stackTraces = false) : Few G l bp PS met k 0 := by
  intro A n fw s x y hx hy hs hpc hm hP
  subst hx
  have ey : y.toInt = 0 := by rw [hy]; rfl
  refine J_C hst (by decide +kernel) rfl rfl rfl (Nat.le_of_ble_eq_true rfl) ?_
  show xx_J _ _ _ _ _ _ _ _ 0 [(0, _), (1, _), (2, _)] [] _ _ _ _
  refine J_iload_n dX1_fewestRematches_0 rfl rfl ?_
  refine J_if_le (tgt := 17) dX1_fewestRematches_1 rfl (fun h1 => ?_) (fun h1 => ?_)
  · refine J_iconst (v := 0) dX1_fewestRematches_17 (by decide) ?_
    refine J_ireturn dX1_fewestRematches_18 rfl rfl (by decide) (by decide) ?_
    exact ⟨rfl, rfl, _, hm, hP, (xx_same.rf (b := bp) (e := bp + 6))⟩
  · first | (exfalso; simp only [i_lt, i_le, i_eq, i_0, i_1, i_2, i_3, i_4, i_5, i_6, i_8, i_9, i_10, i_12, i_16, i_20, i_m1] at h1; omega) | (exfalso; simp only [s_up, a_up, va_up, i_lt, i_le, i_eq, i_0, i_1, i_2, i_3, i_4, i_5, i_6, i_8, i_9, i_10, i_12, i_16, i_20, i_m1, ↓reduceIte, Nat.reduceEqDiff] at h1; omega)
set_option maxHeartbeats 4000000 in
theorem c_fewS (hst : l.stackTraces = false) (h12 : k ≤ 12) (hp6 : p + 1 ≤ 6) (hF : Rck G l bp PS met k p) : Few G l bp PS met k (p + 1) := by
  intro A n fw s x y hx hy hs hpc hm hP
  subst hx hy
  have h4 := pw12 h12
  have h40 : (Int32.ofNat 4096).toInt = 4096 := rfl
  have h0 : s ≠ 0 := fun z => by rw [z, pcn_z] at hpc; omega
  have ey : (nI (p + 1)).toInt = ((p + 1 : Nat) : Int) := i_n (by omega)
  have ex : (nI s).toInt = s := i_n (by omega)
  refine J_C hst (by decide +kernel) rfl rfl rfl (Nat.le_of_ble_eq_true rfl) ?_
  show xx_J _ _ _ _ _ _ _ _ 0 [(0, _), (1, _), (2, _)] [] _ _ _ _
  refine J_iload_n dX1_fewestRematches_0 rfl rfl ?_
  refine J_if_le (tgt := 17) dX1_fewestRematches_1 rfl (fun h1 => ?_) (fun h1 => ?_)
  · first | (exfalso; simp only [i_lt, i_le, i_eq, i_0, i_1, i_2, i_3, i_4, i_5, i_6, i_8, i_9, i_10, i_12, i_16, i_20, i_m1] at h1; omega) | (exfalso; simp only [s_up, a_up, va_up, i_lt, i_le, i_eq, i_0, i_1, i_2, i_3, i_4, i_5, i_6, i_8, i_9, i_10, i_12, i_16, i_20, i_m1, ↓reduceIte, Nat.reduceEqDiff] at h1; omega)
  · refine J_iload_n dX1_fewestRematches_4 rfl rfl ?_
    refine J_if_le (tgt := 17) dX1_fewestRematches_5 rfl (fun h5 => ?_) (fun h5 => ?_)
    · first | (exfalso; simp only [i_lt, i_le, i_eq, i_0, i_1, i_2, i_3, i_4, i_5, i_6, i_8, i_9, i_10, i_12, i_16, i_20, i_m1] at h5; omega) | (exfalso; simp only [s_up, a_up, va_up, i_lt, i_le, i_eq, i_0, i_1, i_2, i_3, i_4, i_5, i_6, i_8, i_9, i_10, i_12, i_16, i_20, i_m1, ↓reduceIte, Nat.reduceEqDiff] at h5; omega)
    · refine J_iload_n dX1_fewestRematches_8 rfl rfl ?_
      refine J_aload_n dX1_fewestRematches_9 rfl rfl ?_
      refine J_getf dX1_fewestRematches_10 fl_X1_37 (hP.at 0 rfl) rfl ?_
      refine J_alen dX1_fewestRematches_13 (hP.at 5 rfl) (by decide) rfl ?_
      refine J_icmp_lt (tgt := 19) dX1_fewestRematches_14 rfl (fun h14 => ?_) (fun h14 => ?_)
      · refine J_aload_n dX1_fewestRematches_19 rfl rfl ?_
        refine J_getf dX1_fewestRematches_20 fl_X1_37 (hP.at 0 rfl) rfl ?_
        refine J_iload_n dX1_fewestRematches_23 rfl rfl ?_
        refine J_ialdN s dX1_fewestRematches_24 (hP.at 5 rfl) rfl (by omega) (by decide) ?_
        refine J_iconst (v := -1) dX1_fewestRematches_25 (by decide) ?_
        refine J_icmp_ne (tgt := 41) dX1_fewestRematches_26 rfl (fun h26 => ?_) (fun h26 => ?_)
        · refine J_aload_n dX1_fewestRematches_41 rfl rfl ?_
          refine J_getf dX1_fewestRematches_42 fl_X1_37 (hP.at 0 rfl) rfl ?_
          refine J_iload_n dX1_fewestRematches_45 rfl rfl ?_
          refine J_ialdN s dX1_fewestRematches_46 (hP.at 5 rfl) rfl (by omega) (by decide) ?_
          refine J_ireturn dX1_fewestRematches_47 rfl rfl (by decide) (by decide) ?_
          refine ⟨?_, rfl, _, hm, hP, (xx_same.rf (b := bp) (e := bp + 6))⟩
          have z := (hm s hs).resolve_left h26
          rw [hpc, show 2 * (p + 1) / 2 = p + 1 by omega] at z
          exact congrArg (fun v => Sum.inl (some (Value.int v))) z
        · refine J_aload_n dX1_fewestRematches_29 rfl rfl ?_
          refine J_getf dX1_fewestRematches_30 fl_X1_37 (hP.at 0 rfl) rfl ?_
          refine J_iload_n dX1_fewestRematches_33 rfl rfl ?_
          refine J_aload_n dX1_fewestRematches_34 rfl rfl ?_
          refine J_iload_n dX1_fewestRematches_35 rfl rfl ?_
          refine J_iload_n dX1_fewestRematches_36 rfl rfl ?_
          refine J_callVw (As := [_, _]) dX1_fewestRematches_37 ml_X1_93 cal_X1_reckonFewest im_X1_reckonFewest se_X1_reckonFewest (hP.at 0 rfl) rfl rfl rfl (Nat.le_of_ble_eq_true rfl) ⟨by omega, by show 8 + (7 + 11) + _ ≤ _; omega⟩ ⟨by decide, by decide⟩ (hF _ _ _ _ _ _ rfl rfl hs hpc hm hP) (fun A1 hQ1 => ?_)
          obtain ⟨fw1, hm1, hP1, hS1⟩ := hQ1
          refine J_iastN s dX1_fewestRematches_40 (hP1.at 5 rfl) rfl (by omega) (by decide) ?_
          refine J_gen (wP_a5 hP1 _) (((xx_same.rf (b := bp) (e := bp + 6)).trans hS1).put (by omega) (by omega) _) (fun A2 w2 s2 o2 => ?_)
          refine J_aload_n dX1_fewestRematches_41 rfl rfl ?_
          refine J_getf dX1_fewestRematches_42 fl_X1_37 (w2.at 0 rfl) rfl ?_
          refine J_iload_n dX1_fewestRematches_45 rfl rfl ?_
          refine J_ialdN s dX1_fewestRematches_46 (w2.at 5 rfl) rfl (by omega) (by decide) ?_
          refine J_ireturn dX1_fewestRematches_47 rfl rfl (by decide) (by decide) ?_
          refine ⟨?_, rfl, _, mok_upd hm1 hpc, wP_uu w2, s2⟩
          show Sum.inl (some (Value.int (upd fw1 s _ s))) = _
          rw [show upd fw1 s (nI (mr met k (p + 1) s)) s = nI (mr met k (p + 1) s) from by simp [upd]]
      · first | (exfalso; simp only [i_lt, i_le, i_eq, i_0, i_1, i_2, i_3, i_4, i_5, i_6, i_8, i_9, i_10, i_12, i_16, i_20, i_m1] at h14; omega) | (exfalso; simp only [s_up, a_up, va_up, i_lt, i_le, i_eq, i_0, i_1, i_2, i_3, i_4, i_5, i_6, i_8, i_9, i_10, i_12, i_16, i_20, i_m1, ↓reduceIte, Nat.reduceEqDiff] at h14; omega)
theorem c_few (hst : l.stackTraces = false) (hk : PS.1 5 = nI k) (h12 : k ≤ 12) (hmb : mbt met k (PS.2 4)) : ∀ p, p ≤ 6 → Few G l bp PS met k p := by
  intro p
  induction p with
  | zero => intro _; exact c_few0 hst
  | succ p ih => intro hp; exact c_fewS hst h12 hp (c_rck hst hk h12 hmb hp (c_rem hst hk h12 hmb (ih (by omega))))
theorem or_clr {s a : Nat} (h : s.testBit a = true) : clr s a ||| 2 ^ a = s := by
  apply Nat.eq_of_testBit_eq
  intro i
  rw [Nat.testBit_or, clr_t, Nat.testBit_two_pow]
  by_cases hi : i = a
  · subst hi; simp [h]
  · have h2 : ¬ a = i := fun z => hi z.symm
    simp [hi, h2]
/-- the first b from b on of which t holds and whose g is w; a if there is none -/
def secG (t : Nat → Bool) (g : Nat → Nat) (w a : Nat) : Nat → Nat → Nat
  | 0, _ => a
  | d + 1, b => if t b = true ∧ g b = w then b else secG t g w a d (b + 1)
theorem secG_s {t : Nat → Bool} {g : Nat → Nat} {w a k i : Nat} (h : i < k) : secG t g w a (k - i) i = if t i = true ∧ g i = w then i else secG t g w a (k - (i + 1)) (i + 1) := by
  rw [show k - i = (k - (i + 1)) + 1 by omega]
  rfl
theorem secG_in {t : Nat → Bool} {g : Nat → Nat} {w a : Nat} : ∀ d b, (∃ j, b ≤ j ∧ j < b + d ∧ t j = true ∧ g j = w) → t (secG t g w a d b) = true ∧ g (secG t g w a d b) = w ∧ b ≤ secG t g w a d b ∧ secG t g w a d b < b + d ∧ ∀ q, b ≤ q → q < secG t g w a d b → ¬ (t q = true ∧ g q = w) := by
  intro d
  induction d with
  | zero => intro b ⟨j, h1, h2, _⟩; omega
  | succ d ih =>
    intro b ⟨j, h1, h2, h3, h4⟩
    simp only [secG]
    by_cases hb : t b = true ∧ g b = w
    · rw [if_pos hb]
      exact ⟨hb.1, hb.2, Nat.le_refl _, by omega, fun q q1 q2 => by omega⟩
    · rw [if_neg hb]
      have hne : j ≠ b := fun z => hb (z ▸ ⟨h3, h4⟩)
      obtain ⟨g1, g2, g3, g4, g5⟩ := ih (b + 1) ⟨j, by omega, by omega, h3, h4⟩
      refine ⟨g1, g2, by omega, by omega, fun q q1 q2 => ?_⟩
      by_cases hq : q = b
      · subst hq; exact hb
      · exact g5 q (by omega) q2
theorem mnv_at {t : Nat → Bool} {g : Nat → Nat} : ∀ d b acc, mnv t g d b acc = acc ∨ ∃ j, b ≤ j ∧ j < b + d ∧ t j = true ∧ g j = mnv t g d b acc := by
  intro d
  induction d with
  | zero => intro b acc; exact Or.inl rfl
  | succ d ih =>
    intro b acc
    simp only [mnv]
    by_cases ht : t b = true
    · rw [if_pos ht]
      by_cases hg : g b < acc
      · rw [if_pos hg]
        rcases ih (b + 1) (g b) with h | ⟨j, h1, h2, h3, h4⟩
        · exact Or.inr ⟨b, Nat.le_refl _, by omega, ht, h.symm⟩
        · exact Or.inr ⟨j, by omega, by omega, h3, h4⟩
      · rw [if_neg hg]
        rcases ih (b + 1) acc with h | ⟨j, h1, h2, h3, h4⟩
        · exact Or.inl h
        · exact Or.inr ⟨j, by omega, by omega, h3, h4⟩
    · rw [if_neg ht]
      rcases ih (b + 1) acc with h | ⟨j, h1, h2, h3, h4⟩
      · exact Or.inl h
      · exact Or.inr ⟨j, by omega, by omega, h3, h4⟩
abbrev mr_t (s : Nat) : Nat → Bool := fun b => (clr s (low s)).testBit b
abbrev mr_g (met : Nat → Nat → Bool) (k p s : Nat) : Nat → Nat := fun b => mr met k p (clr (clr s (low s)) b) + (if met (low s) b = true then 1 else 0)
/-- with whom the lowest of the set s is paired, p pairs behind it -/
def prt (met : Nat → Nat → Bool) (k p s : Nat) : Nat := secG (mr_t s) (mr_g met k p s) (mr met k (p + 1) s) (low s) (k - (low s + 1)) (low s + 1)
theorem prt_spec (h12 : k ≤ 12) {s : Nat} (hs : s < 2 ^ k) (hp : pcn s 12 = 2 * (p + 1)) (hp6 : p + 1 ≤ 6) : mr_t s (prt met k p s) = true ∧ mr_g met k p s (prt met k p s) = mr met k (p + 1) s ∧ low s < prt met k p s ∧ prt met k p s < k ∧ ∀ q, low s < q → q < prt met k p s → ¬ (mr_t s q = true ∧ mr_g met k p s q = mr met k (p + 1) s) := by
  have hle := mr_le (met := met) h12 (p + 1) s hs hp
  obtain ⟨h0, h1, h2, h3, h4⟩ := ev_step h12 hs hp
  have hex : ∃ j, low s + 1 ≤ j ∧ j < low s + 1 + (k - (low s + 1)) ∧ mr_t s j = true ∧ mr_g met k p s j = mr met k (p + 1) s := by
    rcases mnv_at (t := mr_t s) (g := mr_g met k p s) (k - (low s + 1)) (low s + 1) 99 with h | h
    · have e : mr met k (p + 1) s = 99 := h
      omega
    · exact h
  obtain ⟨g1, g2, g3, g4, g5⟩ := secG_in (a := low s) _ _ hex
  exact ⟨g1, g2, g3, by unfold prt; omega, fun q q1 q2 => g5 q (by omega) q2⟩
set_option maxHeartbeats 4000000 in
theorem c_X1_secondFor (hst : l.stackTraces = false) (hk : PS.1 5 = nI k) (h12 : k ≤ 12) (hmb : mbt met k (PS.2 4)) (hp6 : p + 1 ≤ 6) {fw : Nat → Int32} {s : Nat} {x y z : Int32} (hx : x = nI (low s)) (hy : y = nI (clr s (low s))) (hz : z = nI p) (hs : s < 2 ^ k) (hpc : pcn s 12 = 2 * (p + 1)) (hm : mok met k fw) (hP : xx_w bp (layP bp (a_up PS 5 fw)) A) : xx_C G l yX1_secondFor mX1_secondFor (3 * p + 9) (73 * p + 169) 0 0 [.ref bp, .int x, .int y, .int z] A n (pQ bp n PS met k A (prt met k p s)) := by
  subst hx hy hz
  obtain ⟨h0, h1, h2, h3, hev⟩ := ev_step h12 hs hpc
  have h4 := pw12 h12
  have hcl := clr_le s (low s)
  have hR := c_rem (met := met) hst hk h12 hmb (c_few hst hk h12 hmb p (by omega) : Few G l bp PS met k p)
  refine J_C hst (by decide +kernel) rfl rfl rfl (Nat.le_of_ble_eq_true rfl) ?_
  show xx_J _ _ _ _ _ _ _ _ 0 [(0, _), (1, _), (2, _), (3, _)] [] _ _ _ _
  refine J_aload_n dX1_secondFor_0 rfl rfl ?_
  refine J_iload_n dX1_secondFor_1 rfl rfl ?_
  refine J_iconst (v := 1) dX1_secondFor_2 (by decide) ?_
  refine J_iload_n dX1_secondFor_3 rfl rfl ?_
  refine J_ishl dX1_secondFor_4 ?_
  refine J_ior dX1_secondFor_5 ?_
  rw [is_or (by omega), or_clr h1]
  refine J_iload_n dX1_secondFor_6 rfl rfl ?_
  refine J_iconst (v := 1) dX1_secondFor_7 (by decide) ?_
  refine J_iadd dX1_secondFor_8 ?_
  refine J_callVw (As := [_, _]) dX1_secondFor_9 ml_X1_56 cal_X1_fewestRematches im_X1_fewestRematches se_X1_fewestRematches (hP.at 0 rfl) rfl rfl rfl (Nat.le_of_ble_eq_true rfl) ⟨by omega, by show 8 + (3 + 11) + _ ≤ _; omega⟩ ⟨by decide, by decide⟩ (c_few hst hk h12 hmb (p + 1) hp6 _ _ _ _ _ _ rfl (nI_1 p) hs hpc hm hP) (fun A1 hQ1 => ?_)
  obtain ⟨fw1, hm1, hP1, hS1⟩ := hQ1
  refine J_istore (L' := [(4, _), (0, _), (1, _), (2, _), (3, _)]) dX1_secondFor_12 (by decide) rfl ?_
  refine J_iload_n dX1_secondFor_14 rfl rfl ?_
  refine J_iconst (v := 1) dX1_secondFor_15 (by decide) ?_
  refine J_iadd dX1_secondFor_16 ?_
  refine J_istore (L' := [(5, _), (4, _), (0, _), (1, _), (2, _), (3, _)]) dX1_secondFor_17 (by decide) rfl ?_
  have loop : ∀ i, i ≤ k → ∀ (A1 : xx_H) (fw1 : Nat → Int32) (x : Int32), x = nI i → low s < i → mok met k fw1 → xx_w bp (layP bp (a_up PS 5 fw1)) A1 → xx_same bp (bp + 6) A A1 → secG (mr_t s) (mr_g met k p s) (mr met k (p + 1) s) (low s) (k - i) i = prt met k p s → xx_J G l mX1_secondFor (3 * p + 9) (73 * p + 169) 0 0 (pQ bp n PS met k A (prt met k p s)) 19 [(5, .int x), (4, .int (nI (mr met k (p + 1) s))), (3, .int (nI p)), (2, .int (nI (clr s (low s)))), (1, .int (nI (low s))), (0, .ref bp)] [] A1 n 0 0 := by
    refine xx_dn ?_ ?_
    · intro A1 fw1 x hx hlt hm1 hP1 hs1 hv
      have ek : (PS.1 5).toInt = k := by rw [hk]; exact i_n (by omega)
      have exx : x.toInt = k := by rw [hx]; exact i_n (by omega)
      have hv : low s = prt met k p s := by rw [← hv, Nat.sub_self]; rfl
      refine J_iload dX1_secondFor_19 rfl ?_
      refine J_aload_n dX1_secondFor_21 rfl rfl ?_
      refine J_getf dX1_secondFor_22 fl_X1_28 (hP1.at 0 rfl) rfl ?_
      refine J_icmp_ge (tgt := 60) dX1_secondFor_25 rfl (fun h25 => ?_) (fun h25 => ?_)
      · refine J_iload_n dX1_secondFor_60 rfl rfl ?_
        refine J_ireturn dX1_secondFor_61 rfl rfl (by decide) (by decide) ?_
        exact ⟨by rw [hv], rfl, _, hm1, hP1, hs1⟩
      · first | (exfalso; simp only [i_lt, i_le, i_eq, i_0, i_1, i_2, i_3, i_4, i_5, i_6, i_8, i_9, i_10, i_12, i_16, i_20, i_m1] at h25; omega) | (exfalso; simp only [s_up, a_up, va_up, i_lt, i_le, i_eq, i_0, i_1, i_2, i_3, i_4, i_5, i_6, i_8, i_9, i_10, i_12, i_16, i_20, i_m1, ↓reduceIte, Nat.reduceEqDiff] at h25; omega)
    · intro i hii ih A1 fw1 x hx hlt hm1 hP1 hs1 hv
      have ek : (PS.1 5).toInt = k := by rw [hk]; exact i_n (by omega)
      have exx : x.toInt = i := by rw [hx]; exact i_n (by omega)
      refine J_iload dX1_secondFor_19 rfl ?_
      refine J_aload_n dX1_secondFor_21 rfl rfl ?_
      refine J_getf dX1_secondFor_22 fl_X1_28 (hP1.at 0 rfl) rfl ?_
      refine J_icmp_ge (tgt := 60) dX1_secondFor_25 rfl (fun h25 => ?_) (fun h25 => ?_)
      · first | (exfalso; simp only [i_lt, i_le, i_eq, i_0, i_1, i_2, i_3, i_4, i_5, i_6, i_8, i_9, i_10, i_12, i_16, i_20, i_m1] at h25; omega) | (exfalso; simp only [s_up, a_up, va_up, i_lt, i_le, i_eq, i_0, i_1, i_2, i_3, i_4, i_5, i_6, i_8, i_9, i_10, i_12, i_16, i_20, i_m1, ↓reduceIte, Nat.reduceEqDiff] at h25; omega)
      · refine J_iload_n dX1_secondFor_28 rfl rfl ?_
        refine J_iload dX1_secondFor_29 rfl ?_
        refine J_callSr (As := [_, _]) dX1_secondFor_31 ml_X1_85 cal_X1_has sm_X1_has rfl rfl (Nat.le_of_ble_eq_true rfl) ⟨by omega, by show 8 + (2 + 11) + _ ≤ _; omega⟩ ⟨by decide, by decide⟩ (c_X1_has (s := clr s (low s)) (b := i) hst rfl (by omega) hx (by omega)) ?_
        refine J_ifb_eq (tgt := 54) dX1_secondFor_34 rfl (fun h34 => ?_) (fun h34 => ?_)
        · refine J_iinc (v := _ + 1) (L' := [(5, _), (4, _), (3, _), (2, _), (1, _), (0, _)]) dX1_secondFor_54 rfl rfl (by decide) rfl ?_
          refine J_goto (tgt := 19) dX1_secondFor_57 rfl ?_
          refine xx_J.pick [0, 1, 2, 3, 4, 5] rfl ?_
          exact ih _ fw1 _ (by rw [hx]; exact nI_1 i) (by omega) hm1 hP1 hs1 (by rw [← hv, secG_s hii, if_neg (fun z => h34 z.1)])
        · obtain ⟨q1, q2, q3, q4, q5⟩ := hev i h34
          have hle := mr_le (met := met) h12 p _ q3 q5
          have hle2 := mr_le (met := met) h12 (p + 1) s hs hpc
          obtain ⟨gi, egi⟩ : ∃ gi, gi = mr_g met k p s i := ⟨_, rfl⟩
          have hgi : gi ≤ p + 1 := by rw [egi]; show mr met k p _ + _ ≤ _; split <;> omega
          refine J_aload_n dX1_secondFor_37 rfl rfl ?_
          refine J_iload_n dX1_secondFor_38 rfl rfl ?_
          refine J_iload dX1_secondFor_39 rfl ?_
          refine J_iload_n dX1_secondFor_41 rfl rfl ?_
          refine J_iload_n dX1_secondFor_42 rfl rfl ?_
          refine J_callVw (As := [_, _, _, _]) dX1_secondFor_43 ml_X1_89 cal_X1_rematchesWith im_X1_rematchesWith se_X1_rematchesWith (hP1.at 0 rfl) rfl rfl rfl (Nat.le_of_ble_eq_true rfl) ⟨by omega, by show 8 + (6 + 11) + _ ≤ _; omega⟩ ⟨by decide, by decide⟩ (hR _ _ _ _ _ _ _ _ _ _ rfl hx rfl rfl h2 hii q3 q5 hm1 hP1) (fun A111 hQ111 => ?_)
          obtain ⟨fw111, hm111, hP111, hS111⟩ := hQ111
          change xx_J _ _ _ _ _ _ _ _ _ _ [.int (nI (mr_g met k p s i))] _ _ _ _
          rw [← egi]
          refine J_iload dX1_secondFor_46 rfl ?_
          refine J_icmp_ne (tgt := 54) dX1_secondFor_48 rfl (fun h48 => ?_) (fun h48 => ?_)
          · have hg48 : ¬ mr_g met k p s i = mr met k (p + 1) s := by
              rw [← egi]
              intro z
              rw [z] at h48
              exact h48 rfl
            refine J_iinc (v := _ + 1) (L' := [(5, _), (4, _), (3, _), (2, _), (1, _), (0, _)]) dX1_secondFor_54 rfl rfl (by decide) rfl ?_
            refine J_goto (tgt := 19) dX1_secondFor_57 rfl ?_
            refine xx_J.pick [0, 1, 2, 3, 4, 5] rfl ?_
            exact ih _ _ _ (by rw [hx]; exact nI_1 i) (by omega) hm111 hP111 (hs1.trans hS111) (by rw [← hv, secG_s hii, if_neg (fun z => hg48 z.2)])
          · have hg48 : mr_g met k p s i = mr met k (p + 1) s := by
              rw [← egi]
              have z := h48
              rw [i_eq, i_n (by omega), i_n (by omega)] at z
              omega
            have hv : i = prt met k p s := by rw [← hv, secG_s hii, if_pos ⟨h34, hg48⟩]
            refine J_iload dX1_secondFor_51 rfl ?_
            refine J_ireturn dX1_secondFor_53 rfl rfl (by decide) (by decide) ?_
            exact ⟨by rw [hx, hv], rfl, _, hm111, hP111, (hs1.trans hS111)⟩
  
  refine xx_J.pick [0, 1, 5, 4, 3, 2] rfl ?_
  exact loop (low s + 1) (by omega) _ _ _ (nI_1 _) (by omega) hm1 hP1 ((xx_same.rf (b := bp) (e := bp + 6)).trans hS1) rfl
theorem a_up_id {X : xS} {i : Nat} : a_up X i (X.2 i) = X := by
  unfold a_up
  refine Prod.ext rfl ?_
  funext q
  simp only [va_up]
  split
  · rename_i hq; subst hq; rfl
  · rfl
/-- whom w meets of the pairs, from i on -/
def rivP (ah be : Nat → Int32) (w : Int32) : Nat → Nat → Int32
  | 0, _ => -1
  | d + 1, i => if ah i = w then be i else if be i = w then ah i else rivP ah be w d (i + 1)
theorem rivP_s {ah be : Nat → Int32} {w : Int32} {e i : Nat} (h : i < e) : rivP ah be w (e - i) i = if ah i = w then be i else if be i = w then ah i else rivP ah be w (e - (i + 1)) (i + 1) := by
  rw [show e - i = (e - (i + 1)) + 1 by omega]
  rfl
theorem c_X1_rivalOf (hst : l.stackTraces = false) (hP : xx_w bp (layP bp PS) A) {np : Nat} (hp : PS.1 0 = nI np) (hp6 : np ≤ 6) (w : Int32) : xx_C G l yX1_rivalOf mX1_rivalOf 0 0 0 0 [.ref bp, .int w] A n (xx_ro (some (.int (rivP (PS.2 1) (PS.2 2) w np 0))) A n) := by
  refine J_C hst (by decide +kernel) rfl rfl rfl (Nat.le_of_ble_eq_true rfl) ?_
  show xx_J _ _ _ _ _ _ _ _ 0 [(0, _), (1, _)] [] _ _ _ _
  refine J_iconst (v := 0) dX1_rivalOf_0 (by decide) ?_
  refine J_istore_n (L' := [(2, _), (0, _), (1, _)]) dX1_rivalOf_1 rfl (by decide) rfl ?_
  have loop : ∀ i, i ≤ np → ∀ (x : Int32) , (x = nI i) → (rivP (PS.2 1) (PS.2 2) w (np - i) i = rivP (PS.2 1) (PS.2 2) w np 0) → xx_J G l mX1_rivalOf 0 0 0 0 (xx_ro (some (.int (rivP (PS.2 1) (PS.2 2) w np 0))) A n) 2 [(2, .int x), (0, .ref bp), (1, .int w)] [] A n 0 0 := by
    refine xx_dn ?_ ?_
    · intro x   hx hr
      have ep : (PS.1 0).toInt = np := by rw [hp]; exact i_n (by omega)
      have ex : x.toInt = np := by rw [hx]; exact i_n (by omega)
      refine J_iload_n dX1_rivalOf_2 rfl rfl ?_
      refine J_aload_n dX1_rivalOf_3 rfl rfl ?_
      refine J_getf dX1_rivalOf_4 fl_X1_9 (hP.at 0 rfl) rfl ?_
      refine J_icmp_ge (tgt := 50) dX1_rivalOf_7 rfl (fun h7 => ?_) (fun h7 => ?_)
      · refine J_iconst (v := -1) dX1_rivalOf_50 (by decide) ?_
        refine J_ireturn dX1_rivalOf_51 rfl rfl (by decide) (by decide) ?_
        exact ⟨by rw [← hr, Nat.sub_self]; rfl, rfl, rfl⟩
      · first | (exfalso; simp only [i_lt, i_le, i_eq, i_0, i_1, i_2, i_3, i_4, i_5, i_6, i_8, i_9, i_10, i_12, i_16, i_20, i_m1] at h7; omega) | (exfalso; simp only [s_up, a_up, va_up, i_lt, i_le, i_eq, i_0, i_1, i_2, i_3, i_4, i_5, i_6, i_8, i_9, i_10, i_12, i_16, i_20, i_m1, ↓reduceIte, Nat.reduceEqDiff] at h7; omega)
    · intro i hii ih x   hx hr
      have ep : (PS.1 0).toInt = np := by rw [hp]; exact i_n (by omega)
      have ex : x.toInt = i := by rw [hx]; exact i_n (by omega)
      refine J_iload_n dX1_rivalOf_2 rfl rfl ?_
      refine J_aload_n dX1_rivalOf_3 rfl rfl ?_
      refine J_getf dX1_rivalOf_4 fl_X1_9 (hP.at 0 rfl) rfl ?_
      refine J_icmp_ge (tgt := 50) dX1_rivalOf_7 rfl (fun h7 => ?_) (fun h7 => ?_)
      · first | (exfalso; simp only [i_lt, i_le, i_eq, i_0, i_1, i_2, i_3, i_4, i_5, i_6, i_8, i_9, i_10, i_12, i_16, i_20, i_m1] at h7; omega) | (exfalso; simp only [s_up, a_up, va_up, i_lt, i_le, i_eq, i_0, i_1, i_2, i_3, i_4, i_5, i_6, i_8, i_9, i_10, i_12, i_16, i_20, i_m1, ↓reduceIte, Nat.reduceEqDiff] at h7; omega)
      · refine J_aload_n dX1_rivalOf_10 rfl rfl ?_
        refine J_getf dX1_rivalOf_11 fl_X1_21 (hP.at 0 rfl) rfl ?_
        refine J_iload_n dX1_rivalOf_14 rfl rfl ?_
        refine J_ialdN i dX1_rivalOf_15 (hP.at 1 rfl) hx (by omega) (by decide) ?_
        refine J_iload_n dX1_rivalOf_16 rfl rfl ?_
        refine J_icmp_ne (tgt := 27) dX1_rivalOf_17 rfl (fun h17 => ?_) (fun h17 => ?_)
        · refine J_aload_n dX1_rivalOf_27 rfl rfl ?_
          refine J_getf dX1_rivalOf_28 fl_X1_25 (hP.at 0 rfl) rfl ?_
          refine J_iload_n dX1_rivalOf_31 rfl rfl ?_
          refine J_ialdN i dX1_rivalOf_32 (hP.at 2 rfl) hx (by omega) (by decide) ?_
          refine J_iload_n dX1_rivalOf_33 rfl rfl ?_
          refine J_icmp_ne (tgt := 44) dX1_rivalOf_34 rfl (fun h34 => ?_) (fun h34 => ?_)
          · refine J_iinc (v := _ + 1) (L' := [(2, _), (0, _), (1, _)]) dX1_rivalOf_44 rfl rfl (by decide) rfl ?_
            refine J_goto (tgt := 2) dX1_rivalOf_47 rfl ?_
            refine xx_J.pick [0, 1, 2] rfl ?_
            exact ih _  (by rw [hx]; exact nI_1 i) (by rw [← hr, rivP_s hii, if_neg h17, if_neg h34])
          · refine J_aload_n dX1_rivalOf_37 rfl rfl ?_
            refine J_getf dX1_rivalOf_38 fl_X1_21 (hP.at 0 rfl) rfl ?_
            refine J_iload_n dX1_rivalOf_41 rfl rfl ?_
            refine J_ialdN i dX1_rivalOf_42 (hP.at 1 rfl) hx (by omega) (by decide) ?_
            refine J_ireturn dX1_rivalOf_43 rfl rfl (by decide) (by decide) ?_
            exact ⟨by rw [← hr, rivP_s hii, if_neg h17, if_pos h34], rfl, rfl⟩
        · refine J_aload_n dX1_rivalOf_20 rfl rfl ?_
          refine J_getf dX1_rivalOf_21 fl_X1_25 (hP.at 0 rfl) rfl ?_
          refine J_iload_n dX1_rivalOf_24 rfl rfl ?_
          refine J_ialdN i dX1_rivalOf_25 (hP.at 2 rfl) hx (by omega) (by decide) ?_
          refine J_ireturn dX1_rivalOf_26 rfl rfl (by decide) (by decide) ?_
          exact ⟨by rw [← hr, rivP_s hii, if_pos h17], rfl, rfl⟩
  refine xx_J.pick [0, 1, 2] rfl ?_
  exact loop 0 (by omega) _  rfl rfl
/-- a line of wrestlers -/
def lnk (ln : Nat → Int32) (la : Nat → Nat) (k nw : Nat) : Prop := ∀ q, q < k → ln q = nI (la q) ∧ la q < nw
def metL (F : xS) (la : Nat → Nat) (a c : Nat) : Bool := decide (0 < F.2 3 (la a * 12 + la c))
def mst (met : Nat → Nat → Bool) (a : Nat) : Nat → Nat
  | 0 => 0
  | j + 1 => if met a j = true then mst met a j ||| 2 ^ j else mst met a j
theorem mst_lt (met : Nat → Nat → Bool) (a : Nat) : ∀ j, mst met a j < 2 ^ j := by
  intro j
  induction j with
  | zero => exact Nat.one_pos
  | succ j ih =>
    simp only [mst]
    have h2 : 2 ^ (j + 1) = 2 * 2 ^ j := by rw [Nat.pow_succ]; omega
    split
    · exact Nat.or_lt_two_pow (by omega) (by omega)
    · omega
theorem mst_t (met : Nat → Nat → Bool) (a : Nat) : ∀ j b, b < j → (mst met a j).testBit b = met a b := by
  intro j
  induction j with
  | zero => intro b h; omega
  | succ j ih =>
    intro b h
    simp only [mst]
    by_cases hm : met a j = true
    · rw [if_pos hm, Nat.testBit_or, Nat.testBit_two_pow]
      by_cases hb : b = j
      · subst hb; simp [hm]
      · rw [ih b (by omega)]
        have h2 : ¬ j = b := fun z => hb z.symm
        simp [h2]
    · rw [if_neg hm]
      by_cases hb : b = j
      · subst hb
        rw [Nat.testBit_lt_two_pow (mst_lt met a b)]
        simpa using hm
      · exact ih b (by omega)
set_option maxHeartbeats 4000000 in
theorem c_X1_noteMeetings (hst : l.stackTraces = false) (hP : xx_w bp (layP bp PS) A) (hF : xx_w b (layF b F) A) (hd : bp + 6 ≤ b ∨ b + 9 ≤ bp) {nw : Nat} (hn : F.1 0 = nI nw) (h12w : nw ≤ 12) {la : Nat → Nat} (hk : PS.1 5 = nI k) (h12 : k ≤ 12) (hln : lnk (PS.2 3) la k nw) : xx_C G l yX1_noteMeetings mX1_noteMeetings 2 43 0 0 [.ref bp, .ref b] A n (xx_wr none n (fun A' => ∃ mb, mbt (metL F la) k mb ∧ xx_w bp (layP bp (a_up PS 4 mb)) A' ∧ xx_same bp (bp + 6) A A')) := by
  have hP9 : xx_w bp (layP bp (a_up PS 4 (PS.2 4))) A := by rw [a_up_id]; exact hP
  refine J_C hst (by decide +kernel) rfl rfl rfl (Nat.le_of_ble_eq_true rfl) ?_
  show xx_J _ _ _ _ _ _ _ _ 0 [(0, _), (1, _)] [] _ _ _ _
  refine J_iconst (v := 0) dX1_noteMeetings_0 (by decide) ?_
  refine J_istore_n (L' := [(2, _), (0, _), (1, _)]) dX1_noteMeetings_1 rfl (by decide) rfl ?_
  have loop : ∀ i, i ≤ k → ∀ (x : Int32) (A1 : xx_H) (mb1 : Nat → Int32), (x = nI i) → (xx_w bp (layP bp (a_up PS 4 mb1)) A1) → (xx_w b (layF b F) A1) → (xx_same bp (bp + 6) A A1) → (∀ a, a < i → mb1 a = nI (mst (metL F la) a k)) → xx_J G l mX1_noteMeetings 2 43 0 0 (xx_wr none n (fun A' => ∃ mb, mbt (metL F la) k mb ∧ xx_w bp (layP bp (a_up PS 4 mb)) A' ∧ xx_same bp (bp + 6) A A')) 2 [(2, .int x), (0, .ref bp), (1, .ref b)] [] A1 n 0 0 := by
    refine xx_dn ?_ ?_
    · intro x  A1  mb1  hx hP1 hF1 hs1 hm1
      have ek : (PS.1 5).toInt = k := by rw [hk]; exact i_n (by omega)
      have ex : x.toInt = k := by rw [hx]; exact i_n (by omega)
      refine J_iload_n dX1_noteMeetings_2 rfl rfl ?_
      refine J_aload_n dX1_noteMeetings_3 rfl rfl ?_
      refine J_getf dX1_noteMeetings_4 fl_X1_28 (hP1.at 0 rfl) rfl ?_
      refine J_icmp_ge (tgt := 70) dX1_noteMeetings_7 rfl (fun h7 => ?_) (fun h7 => ?_)
      · refine J_return dX1_noteMeetings_70 rfl (by decide) (by decide) ?_
        exact ⟨rfl, rfl, mb1, fun a ha => ⟨_, hm1 a ha, Nat.lt_of_lt_of_le (mst_lt _ _ _) (Nat.le_trans (pw12 h12) (by omega)), fun c hc => mst_t _ _ _ _ hc⟩, hP1, hs1⟩
      · first | (exfalso; simp only [i_lt, i_le, i_eq, i_0, i_1, i_2, i_3, i_4, i_5, i_6, i_8, i_9, i_10, i_12, i_16, i_20, i_m1] at h7; omega) | (exfalso; simp only [s_up, a_up, va_up, i_lt, i_le, i_eq, i_0, i_1, i_2, i_3, i_4, i_5, i_6, i_8, i_9, i_10, i_12, i_16, i_20, i_m1, ↓reduceIte, Nat.reduceEqDiff] at h7; omega)
    · intro i hii ih x  A1  mb1  hx hP1 hF1 hs1 hm1
      have ek : (PS.1 5).toInt = k := by rw [hk]; exact i_n (by omega)
      have ex : x.toInt = i := by rw [hx]; exact i_n (by omega)
      refine J_iload_n dX1_noteMeetings_2 rfl rfl ?_
      refine J_aload_n dX1_noteMeetings_3 rfl rfl ?_
      refine J_getf dX1_noteMeetings_4 fl_X1_28 (hP1.at 0 rfl) rfl ?_
      refine J_icmp_ge (tgt := 70) dX1_noteMeetings_7 rfl (fun h7 => ?_) (fun h7 => ?_)
      · first | (exfalso; simp only [i_lt, i_le, i_eq, i_0, i_1, i_2, i_3, i_4, i_5, i_6, i_8, i_9, i_10, i_12, i_16, i_20, i_m1] at h7; omega) | (exfalso; simp only [s_up, a_up, va_up, i_lt, i_le, i_eq, i_0, i_1, i_2, i_3, i_4, i_5, i_6, i_8, i_9, i_10, i_12, i_16, i_20, i_m1, ↓reduceIte, Nat.reduceEqDiff] at h7; omega)
      · refine J_aload_n dX1_noteMeetings_10 rfl rfl ?_
        refine J_getf dX1_noteMeetings_11 fl_X1_34 (hP1.at 0 rfl) rfl ?_
        refine J_iload_n dX1_noteMeetings_14 rfl rfl ?_
        refine J_iconst (v := 0) dX1_noteMeetings_15 (by decide) ?_
        refine J_iastN i dX1_noteMeetings_16 (hP1.at 4 rfl) hx (by omega) (by decide) ?_
        refine J_gen (wP_a4 hP1 _) (hs1.put (by omega) (by omega) _) (fun A51 w51 s51 o51 => ?_)
        have w51F := hF1.o2 o51 (m := 9) rfl (by omega)
        refine J_iconst (v := 0) dX1_noteMeetings_17 (by decide) ?_
        refine J_istore_n (L' := [(3, _), (2, _), (0, _), (1, _)]) dX1_noteMeetings_18 rfl (by decide) rfl ?_
        have loop2 : ∀ j, j ≤ k → ∀ (y : Int32) (A2 : xx_H) (mb2 : Nat → Int32), (y = nI j) → (xx_w bp (layP bp (a_up PS 4 mb2)) A2) → (xx_w b (layF b F) A2) → (xx_same bp (bp + 6) A A2) → (mb2 i = nI (mst (metL F la) i j)) → (∀ a, a < i → mb2 a = nI (mst (metL F la) a k)) → xx_J G l mX1_noteMeetings 2 43 0 0 (xx_wr none n (fun A' => ∃ mb, mbt (metL F la) k mb ∧ xx_w bp (layP bp (a_up PS 4 mb)) A' ∧ xx_same bp (bp + 6) A A')) 19 [(3, .int y), (2, .int x), (0, .ref bp), (1, .ref b)] [] A2 n 0 0 := by
          refine xx_dn ?_ ?_
          · intro y  A2  mb2  hy hP2 hF2 hs2 hv hm2
            have ek : (PS.1 5).toInt = k := by rw [hk]; exact i_n (by omega)
            have ey : y.toInt = k := by rw [hy]; exact i_n (by omega)
            refine J_iload_n dX1_noteMeetings_19 rfl rfl ?_
            refine J_aload_n dX1_noteMeetings_20 rfl rfl ?_
            refine J_getf dX1_noteMeetings_21 fl_X1_28 (hP2.at 0 rfl) rfl ?_
            refine J_icmp_ge (tgt := 64) dX1_noteMeetings_24 rfl (fun h24 => ?_) (fun h24 => ?_)
            · refine J_iinc (v := _ + 1) (L' := [(2, _), (3, _), (0, _), (1, _)]) dX1_noteMeetings_64 rfl rfl (by decide) rfl ?_
              refine J_goto (tgt := 2) dX1_noteMeetings_67 rfl ?_
              refine xx_J.pick [0, 2, 3] rfl ?_
              exact ih _ _ _ (by rw [hx]; exact nI_1 i) hP2 hF2 hs2 (fun a ha => by
                by_cases hai : a = i
                · subst hai; exact hv
                · exact hm2 a (by omega))
            · first | (exfalso; simp only [i_lt, i_le, i_eq, i_0, i_1, i_2, i_3, i_4, i_5, i_6, i_8, i_9, i_10, i_12, i_16, i_20, i_m1] at h24; omega) | (exfalso; simp only [s_up, a_up, va_up, i_lt, i_le, i_eq, i_0, i_1, i_2, i_3, i_4, i_5, i_6, i_8, i_9, i_10, i_12, i_16, i_20, i_m1, ↓reduceIte, Nat.reduceEqDiff] at h24; omega)
          · intro j hij ih y  A2  mb2  hy hP2 hF2 hs2 hv hm2
            have ek : (PS.1 5).toInt = k := by rw [hk]; exact i_n (by omega)
            have ey : y.toInt = j := by rw [hy]; exact i_n (by omega)
            refine J_iload_n dX1_noteMeetings_19 rfl rfl ?_
            refine J_aload_n dX1_noteMeetings_20 rfl rfl ?_
            refine J_getf dX1_noteMeetings_21 fl_X1_28 (hP2.at 0 rfl) rfl ?_
            refine J_icmp_ge (tgt := 64) dX1_noteMeetings_24 rfl (fun h24 => ?_) (fun h24 => ?_)
            · first | (exfalso; simp only [i_lt, i_le, i_eq, i_0, i_1, i_2, i_3, i_4, i_5, i_6, i_8, i_9, i_10, i_12, i_16, i_20, i_m1] at h24; omega) | (exfalso; simp only [s_up, a_up, va_up, i_lt, i_le, i_eq, i_0, i_1, i_2, i_3, i_4, i_5, i_6, i_8, i_9, i_10, i_12, i_16, i_20, i_m1, ↓reduceIte, Nat.reduceEqDiff] at h24; omega)
            · refine J_aload_n dX1_noteMeetings_27 rfl rfl ?_
              refine J_aload_n dX1_noteMeetings_28 rfl rfl ?_
              refine J_getf dX1_noteMeetings_29 fl_X1_31 (hP2.at 0 rfl) rfl ?_
              refine J_iload_n dX1_noteMeetings_32 rfl rfl ?_
              refine J_ialdN i dX1_noteMeetings_33 (hP2.at 3 rfl) hx (by omega) (by decide) ?_
              refine J_aload_n dX1_noteMeetings_34 rfl rfl ?_
              refine J_getf dX1_noteMeetings_35 fl_X1_31 (hP2.at 0 rfl) rfl ?_
              refine J_iload_n dX1_noteMeetings_38 rfl rfl ?_
              refine J_ialdN j dX1_noteMeetings_39 (hP2.at 3 rfl) hy (by omega) (by decide) ?_
              refine J_callVr (As := [_, _]) dX1_noteMeetings_40 ml_X1_82 cal_X0_meetings im_X0_meetings se_X0_meetings (hF2.at 0 rfl) rfl rfl rfl (Nat.le_of_ble_eq_true rfl) ⟨by decide, by decide⟩ ⟨by decide, by decide⟩ (c_X0_meetings hst hF2 hn h12w (hln i hii).1 (hln i hii).2 (hln j hij).1 (hln j hij).2) ?_
              refine J_if_le (tgt := 58) dX1_noteMeetings_43 rfl (fun h43 => ?_) (fun h43 => ?_)
              · have hmv : ¬ metL F la i j = true := by unfold metL; rw [decide_eq_true_eq, Int32.not_lt]; exact h43
                refine J_iinc (v := _ + 1) (L' := [(3, _), (2, _), (0, _), (1, _)]) dX1_noteMeetings_58 rfl rfl (by decide) rfl ?_
                refine J_goto (tgt := 19) dX1_noteMeetings_61 rfl ?_
                refine xx_J.pick [0, 1, 2, 3] rfl ?_
                exact ih _ _ _ (by rw [hy]; exact nI_1 j) hP2 hF2 hs2 (by simp only [mst]; rw [if_neg hmv]; exact hv) hm2
              · have hmv : metL F la i j = true := by unfold metL; rw [decide_eq_true_eq]; exact Int32.not_le.mp h43
                refine J_aload_n dX1_noteMeetings_46 rfl rfl ?_
                refine J_getf dX1_noteMeetings_47 fl_X1_34 (hP2.at 0 rfl) rfl ?_
                refine J_iload_n dX1_noteMeetings_50 rfl rfl ?_
                refine J_dup2 dX1_noteMeetings_51 rfl rfl ?_
                refine J_ialdN i dX1_noteMeetings_52 (hP2.at 4 rfl) hx (by omega) (by decide) ?_
                refine J_iconst (v := 1) dX1_noteMeetings_53 (by decide) ?_
                refine J_iload_n dX1_noteMeetings_54 rfl rfl ?_
                refine J_ishl dX1_noteMeetings_55 ?_
                refine J_ior dX1_noteMeetings_56 ?_
                refine J_iastN i dX1_noteMeetings_57 (hP2.at 4 rfl) hx (by omega) (by decide) ?_
                refine J_gen (wP_a4 hP2 _) (hs2.put (by omega) (by omega) _) (fun A102 w102 s102 o102 => ?_)
                have w102F := hF2.o2 o102 (m := 9) rfl (by omega)
                refine J_iinc (v := _ + 1) (L' := [(3, _), (2, _), (0, _), (1, _)]) dX1_noteMeetings_58 rfl rfl (by decide) rfl ?_
                refine J_goto (tgt := 19) dX1_noteMeetings_61 rfl ?_
                refine xx_J.pick [0, 1, 2, 3] rfl ?_
                exact ih _ _ _ (by rw [hy]; exact nI_1 j) (wP_uu w102) w102F s102 (by simp only [mst]; rw [if_pos hmv]; simp only [upd, if_true]; show mb2 i ||| (1 : Int32) <<< (y &&& 31) = _; rw [hv, hy]; exact is_or (by omega)) (fun a ha => by simp only [upd]; rw [if_neg (by omega)]; exact hm2 a ha)
        refine xx_J.pick [0, 1, 2, 3] rfl ?_
        exact loop2 0 (by omega) _ _ _ rfl (wP_uu w51) w51F s51 (by simp [upd]; rfl) (fun a ha => by simp only [upd]; rw [if_neg (by omega)]; exact hm1 a ha)
  refine xx_J.pick [0, 1, 2] rfl ?_
  exact loop 0 (by omega) _ _ (PS.2 4) rfl hP9 hF (xx_same.rf (b := bp) (e := bp + 6)) (fun a ha => by omega)
theorem rem2 : ∀ k, k ≤ 12 → nI k - nI k / 2 * 2 = nI (k % 2) := by decide +kernel
/-- the last of those who rested least -/
def chs (r : Nat → Int32) : Nat → Nat
  | 0 => 0
  | i + 1 => if i = 0 then 0 else if r i ≤ r (chs r i) then i else chs r i
theorem chs_lt {r : Nat → Int32} : ∀ i, 0 < i → chs r i < i := by
  intro i
  induction i with
  | zero => intro h; omega
  | succ i ih =>
    intro _
    simp only [chs]
    split
    · omega
    · split
      · omega
      · have := ih (by omega); omega
abbrev rst_r (F : xS) (la : Nat → Nat) : Nat → Int32 := fun i => f_at F 5 (la i)
/-- without the one who rests -/
def rs_k (k : Nat) : Nat := if k % 2 = 0 then k else k - 1
def rs_l (F : xS) (la : Nat → Nat) (k : Nat) : Nat → Nat := if k % 2 = 0 then la else fun q => if q < chs (rst_r F la) k then la q else la (q + 1)
def rs_r (F : xS) (la : Nat → Nat) (k : Nat) : Int32 := if k % 2 = 0 then -1 else nI (la (chs (rst_r F la) k))
abbrev rs_X (PS : xS) (c : Nat) : xS := s_up (s_up (s_up PS 2 (-1)) 2 (PS.2 3 c)) 5 (PS.1 5 - 1)
set_option maxHeartbeats 4000000 in
theorem c_X1_takeOutResting (hst : l.stackTraces = false) (hP : xx_w bp (layP bp PS) A) (hF : xx_w b (layF b F) A) (hd : bp + 6 ≤ b ∨ b + 9 ≤ bp) {nw : Nat} (hn : F.1 0 = nI nw) (h12w : nw ≤ 12) {la : Nat → Nat} (hk : PS.1 5 = nI k) (h12 : k ≤ 12) (hln : lnk (PS.2 3) la k nw) : xx_C G l yX1_takeOutResting mX1_takeOutResting 2 44 0 0 [.ref bp, .ref b] A n (xx_wr none n (fun A' => ∃ PS', (PS'.1 5 = nI (rs_k k) ∧ PS'.1 2 = rs_r F la k ∧ lnk (PS'.2 3) (rs_l F la k) (rs_k k) nw) ∧ xx_w bp (layP bp PS') A' ∧ xx_same bp (bp + 6) A A')) := by
  refine J_C hst (by decide +kernel) rfl rfl rfl (Nat.le_of_ble_eq_true rfl) ?_
  show xx_J _ _ _ _ _ _ _ _ 0 [(0, _), (1, _)] [] _ _ _ _
  refine J_aload_n dX1_takeOutResting_0 rfl rfl ?_
  refine J_iconst (v := -1) dX1_takeOutResting_1 (by decide) ?_
  refine J_putf dX1_takeOutResting_2 fp_X1_18 (fun _ => ⟨rfl, rfl⟩) (hP.at 0 rfl) (Nat.le_of_ble_eq_true rfl) ?_
  refine J_gen (wP_s0_2 hP _) ((xx_same.rf (b := bp) (e := bp + 6)).put (by omega) (by omega) _) (fun A1 w1 s1 o1 => ?_)
  have w1F := hF.o2 o1 (m := 9) rfl (by omega)
  refine J_aload_n dX1_takeOutResting_5 rfl rfl ?_
  refine J_getf dX1_takeOutResting_6 fl_X1_28 (w1.at 0 rfl) rfl ?_
  refine J_iconst (v := 2) dX1_takeOutResting_9 (by decide) ?_
  refine J_irem dX1_takeOutResting_10 (by decide) ?_
  change xx_J _ _ _ _ _ _ _ _ _ _ [.int (PS.1 5 - PS.1 5 / 2 * 2)] _ _ _ _
  rw [hk, rem2 k h12]
  refine J_if_ne (tgt := 15) dX1_takeOutResting_11 rfl (fun h11 => ?_) (fun h11 => ?_)
  · have hodd : ¬ k % 2 = 0 := fun z => h11 (by rw [z]; rfl)
    have h1k : nI k - 1 = nI (k - 1) := by
      conv => lhs; rw [show k = (k - 1) + 1 by omega]
      exact sub1 _
    refine J_iconst (v := 0) dX1_takeOutResting_15 (by decide) ?_
    refine J_istore_n (L' := [(2, _), (0, _), (1, _)]) dX1_takeOutResting_16 rfl (by decide) rfl ?_
    refine J_iconst (v := 1) dX1_takeOutResting_17 (by decide) ?_
    refine J_istore_n (L' := [(3, _), (2, _), (0, _), (1, _)]) dX1_takeOutResting_18 rfl (by decide) rfl ?_
    have loop : ∀ i, i ≤ k → ∀ (x : Int32) , (x = nI i) → (1 ≤ i) → xx_J G l mX1_takeOutResting 2 44 0 0 (xx_wr none n (fun A' => ∃ PS', (PS'.1 5 = nI (rs_k k) ∧ PS'.1 2 = rs_r F la k ∧ lnk (PS'.2 3) (rs_l F la k) (rs_k k) nw) ∧ xx_w bp (layP bp PS') A' ∧ xx_same bp (bp + 6) A A')) 19 [(3, .int x), (2, .int (nI (chs (rst_r F la) i))), (0, .ref bp), (1, .ref b)] [] A1 n 0 0 := by
      refine xx_dn ?_ ?_
      · intro x   hx h1
        have ek : (PS.1 5).toInt = k := by rw [hk]; exact i_n (by omega)
        have ex : x.toInt = k := by rw [hx]; exact i_n (by omega)
        refine J_iload_n dX1_takeOutResting_19 rfl rfl ?_
        refine J_aload_n dX1_takeOutResting_20 rfl rfl ?_
        refine J_getf dX1_takeOutResting_21 fl_X1_28 (w1.at 0 rfl) rfl ?_
        refine J_icmp_ge (tgt := 60) dX1_takeOutResting_24 rfl (fun h24 => ?_) (fun h24 => ?_)
        · have hck := chs_lt (r := rst_r F la) k (by omega)
          refine J_aload_n dX1_takeOutResting_60 rfl rfl ?_
          refine J_aload_n dX1_takeOutResting_61 rfl rfl ?_
          refine J_getf dX1_takeOutResting_62 fl_X1_31 (w1.at 0 rfl) rfl ?_
          refine J_iload_n dX1_takeOutResting_65 rfl rfl ?_
          refine J_ialdN (chs (rst_r F la) k) dX1_takeOutResting_66 (w1.at 3 rfl) rfl (by omega) (by decide) ?_
          refine J_putf dX1_takeOutResting_67 fp_X1_18 (fun _ => ⟨rfl, rfl⟩) (w1.at 0 rfl) (Nat.le_of_ble_eq_true rfl) ?_
          refine J_gen (wP_s0_2 w1 _) (s1.put (by omega) (by omega) _) (fun A22 w22 s22 o22 => ?_)
          have w22F := w1F.o2 o22 (m := 9) rfl (by omega)
          refine J_aload_n dX1_takeOutResting_70 rfl rfl ?_
          refine J_dup dX1_takeOutResting_71 rfl ?_
          refine J_getf dX1_takeOutResting_72 fl_X1_28 (w22.at 0 rfl) rfl ?_
          refine J_iconst (v := 1) dX1_takeOutResting_75 (by decide) ?_
          refine J_isub dX1_takeOutResting_76 ?_
          refine J_putf dX1_takeOutResting_77 fp_X1_28 (fun _ => ⟨rfl, rfl⟩) (w22.at 0 rfl) (Nat.le_of_ble_eq_true rfl) ?_
          refine J_gen (wP_s0_5 w22 _) (s22.put (by omega) (by omega) _) (fun A23 w23 s23 o23 => ?_)
          have w23F := w22F.o2 o23 (m := 9) rfl (by omega)
          refine J_iload_n dX1_takeOutResting_80 rfl rfl ?_
          refine J_istore_n (L' := [(3, _), (2, _), (0, _), (1, _)]) dX1_takeOutResting_81 rfl (by decide) rfl ?_
          have loop2 : ∀ j, j ≤ (k - 1) → ∀ (y : Int32) (A2 : xx_H) (hh : Nat → Int32), (y = nI j) → (xx_w bp (layP bp (a_up (rs_X PS (chs (rst_r F la) k)) 3 hh)) A2) → (xx_same bp (bp + 6) A A2) → ((chs (rst_r F la) k) ≤ j) → (∀ q, q < k → hh q = if (chs (rst_r F la) k) ≤ q ∧ q < j then PS.2 3 (q + 1) else PS.2 3 q) → xx_J G l mX1_takeOutResting 2 44 0 0 (xx_wr none n (fun A' => ∃ PS', (PS'.1 5 = nI (rs_k k) ∧ PS'.1 2 = rs_r F la k ∧ lnk (PS'.2 3) (rs_l F la k) (rs_k k) nw) ∧ xx_w bp (layP bp PS') A' ∧ xx_same bp (bp + 6) A A')) 82 [(3, .int y), (2, .int (nI (chs (rst_r F la) k))), (0, .ref bp), (1, .ref b)] [] A2 n 0 0 := by
            refine xx_dn ?_ ?_
            · intro y  A2  hh  hy hP2 hs2 hcj hv
              have e51 : (PS.1 5 - 1).toInt = ((k - 1 : Nat) : Int) := by rw [hk, h1k]; exact i_n (by omega)
              have ey : y.toInt = ((k - 1 : Nat) : Int) := by rw [hy]; exact i_n (by omega)
              refine J_iload_n dX1_takeOutResting_82 rfl rfl ?_
              refine J_aload_n dX1_takeOutResting_83 rfl rfl ?_
              refine J_getf dX1_takeOutResting_84 fl_X1_28 (hP2.at 0 rfl) rfl ?_
              refine J_icmp_ge (tgt := 110) dX1_takeOutResting_87 rfl (fun h87 => ?_) (fun h87 => ?_)
              · refine J_return dX1_takeOutResting_110 rfl (by decide) (by decide) ?_
                refine ⟨rfl, rfl, _, ⟨?_, ?_, ?_⟩, hP2, hs2⟩
                · show PS.1 5 - 1 = nI (rs_k k)
                  unfold rs_k
                  rw [if_neg hodd, hk, show k = (k - 1) + 1 by omega, sub1, Nat.add_sub_cancel]
                · show PS.2 3 (chs (rst_r F la) k) = _
                  unfold rs_r
                  rw [if_neg hodd]
                  exact (hln _ hck).1
                · unfold rs_l rs_k
                  rw [if_neg hodd, if_neg hodd]
                  intro q hq
                  show hh q = _ ∧ _
                  rw [hv q (by omega)]
                  by_cases hc : (chs (rst_r F la) k) ≤ q
                  · rw [if_pos ⟨hc, hq⟩]
                    simp only [if_neg (show ¬ q < (chs (rst_r F la) k) by omega)]
                    exact hln (q + 1) (by omega)
                  · rw [if_neg (by omega)]
                    simp only [if_pos (show q < (chs (rst_r F la) k) by omega)]
                    exact hln q (by omega)
              · first | (exfalso; simp only [i_lt, i_le, i_eq, i_0, i_1, i_2, i_3, i_4, i_5, i_6, i_8, i_9, i_10, i_12, i_16, i_20, i_m1] at h87; omega) | (exfalso; simp only [s_up, a_up, va_up, i_lt, i_le, i_eq, i_0, i_1, i_2, i_3, i_4, i_5, i_6, i_8, i_9, i_10, i_12, i_16, i_20, i_m1, ↓reduceIte, Nat.reduceEqDiff] at h87; omega)
            · intro j hij ih y  A2  hh  hy hP2 hs2 hcj hv
              have e51 : (PS.1 5 - 1).toInt = ((k - 1 : Nat) : Int) := by rw [hk, h1k]; exact i_n (by omega)
              have ey : y.toInt = j := by rw [hy]; exact i_n (by omega)
              refine J_iload_n dX1_takeOutResting_82 rfl rfl ?_
              refine J_aload_n dX1_takeOutResting_83 rfl rfl ?_
              refine J_getf dX1_takeOutResting_84 fl_X1_28 (hP2.at 0 rfl) rfl ?_
              refine J_icmp_ge (tgt := 110) dX1_takeOutResting_87 rfl (fun h87 => ?_) (fun h87 => ?_)
              · first | (exfalso; simp only [i_lt, i_le, i_eq, i_0, i_1, i_2, i_3, i_4, i_5, i_6, i_8, i_9, i_10, i_12, i_16, i_20, i_m1] at h87; omega) | (exfalso; simp only [s_up, a_up, va_up, i_lt, i_le, i_eq, i_0, i_1, i_2, i_3, i_4, i_5, i_6, i_8, i_9, i_10, i_12, i_16, i_20, i_m1, ↓reduceIte, Nat.reduceEqDiff] at h87; omega)
              · refine J_aload_n dX1_takeOutResting_90 rfl rfl ?_
                refine J_getf dX1_takeOutResting_91 fl_X1_31 (hP2.at 0 rfl) rfl ?_
                refine J_iload_n dX1_takeOutResting_94 rfl rfl ?_
                refine J_aload_n dX1_takeOutResting_95 rfl rfl ?_
                refine J_getf dX1_takeOutResting_96 fl_X1_31 (hP2.at 0 rfl) rfl ?_
                refine J_iload_n dX1_takeOutResting_99 rfl rfl ?_
                refine J_iconst (v := 1) dX1_takeOutResting_100 (by decide) ?_
                refine J_iadd dX1_takeOutResting_101 ?_
                refine J_ialdN (j + 1) dX1_takeOutResting_102 (hP2.at 3 rfl) (by rw [hy]; exact nI_1 j) (by omega) (by decide) ?_
                refine J_iastN j dX1_takeOutResting_103 (hP2.at 3 rfl) hy (by omega) (by decide) ?_
                refine J_gen (wP_a3 hP2 _) (hs2.put (by omega) (by omega) _) (fun A74 w74 s74 o74 => ?_)
                refine J_iinc (v := _ + 1) (L' := [(3, _), (2, _), (0, _), (1, _)]) dX1_takeOutResting_104 rfl rfl (by decide) rfl ?_
                refine J_goto (tgt := 82) dX1_takeOutResting_107 rfl ?_
                refine xx_J.pick [0, 1, 2, 3] rfl ?_
                exact ih _ _ _ (by rw [hy]; exact nI_1 j) (wP_uu w74) s74 (by omega) (fun q hq => by
                  have e1 : upd ((a_up (rs_X PS (chs (rst_r F la) k)) 3 hh).2 3) j ((a_up (rs_X PS (chs (rst_r F la) k)) 3 hh).2 3 (j + 1)) q = if q = j then hh (j + 1) else hh q := rfl
                  refine e1.trans ?_
                  by_cases hqj : q = j
                  · subst hqj
                    rw [if_pos rfl]
                    by_cases hc : (chs (rst_r F la) k) ≤ q
                    · rw [if_pos ⟨hc, by omega⟩]
                      exact (hv (q + 1) (by omega)).trans (if_neg (by omega))
                    · exact absurd hcj hc
                  · rw [if_neg hqj, hv q hq]
                    by_cases hc : (chs (rst_r F la) k) ≤ q ∧ q < j
                    · rw [if_pos hc, if_pos ⟨hc.1, by omega⟩]
                    · rw [if_neg hc, if_neg (by omega)])
          refine xx_J.pick [0, 1, 2, 3] rfl ?_
          exact loop2 (chs (rst_r F la) k) (by omega) _ _ (PS.2 3) rfl (by rw [show a_up (rs_X PS (chs (rst_r F la) k)) 3 (PS.2 3) = rs_X PS (chs (rst_r F la) k) from a_up_id]; exact w23) s23 (Nat.le_refl _) (fun q hq => by rw [if_neg (by omega)])
        · first | (exfalso; simp only [i_lt, i_le, i_eq, i_0, i_1, i_2, i_3, i_4, i_5, i_6, i_8, i_9, i_10, i_12, i_16, i_20, i_m1] at h24; omega) | (exfalso; simp only [s_up, a_up, va_up, i_lt, i_le, i_eq, i_0, i_1, i_2, i_3, i_4, i_5, i_6, i_8, i_9, i_10, i_12, i_16, i_20, i_m1, ↓reduceIte, Nat.reduceEqDiff] at h24; omega)
      · intro i hii ih x   hx h1
        have ek : (PS.1 5).toInt = k := by rw [hk]; exact i_n (by omega)
        have ex : x.toInt = i := by rw [hx]; exact i_n (by omega)
        have hci := chs_lt (r := rst_r F la) i (by omega)
        refine J_iload_n dX1_takeOutResting_19 rfl rfl ?_
        refine J_aload_n dX1_takeOutResting_20 rfl rfl ?_
        refine J_getf dX1_takeOutResting_21 fl_X1_28 (w1.at 0 rfl) rfl ?_
        refine J_icmp_ge (tgt := 60) dX1_takeOutResting_24 rfl (fun h24 => ?_) (fun h24 => ?_)
        · first | (exfalso; simp only [i_lt, i_le, i_eq, i_0, i_1, i_2, i_3, i_4, i_5, i_6, i_8, i_9, i_10, i_12, i_16, i_20, i_m1] at h24; omega) | (exfalso; simp only [s_up, a_up, va_up, i_lt, i_le, i_eq, i_0, i_1, i_2, i_3, i_4, i_5, i_6, i_8, i_9, i_10, i_12, i_16, i_20, i_m1, ↓reduceIte, Nat.reduceEqDiff] at h24; omega)
        · refine J_aload_n dX1_takeOutResting_27 rfl rfl ?_
          refine J_iconst (v := 5) dX1_takeOutResting_28 (by decide) ?_
          refine J_aload_n dX1_takeOutResting_29 rfl rfl ?_
          refine J_getf dX1_takeOutResting_30 fl_X1_31 (w1.at 0 rfl) rfl ?_
          refine J_iload_n dX1_takeOutResting_33 rfl rfl ?_
          refine J_ialdN i dX1_takeOutResting_34 (w1.at 3 rfl) hx (by omega) (by decide) ?_
          refine J_callVr (As := [_, _]) dX1_takeOutResting_35 ml_X1_79 cal_X0_of im_X0_of se_X0_of (w1F.at 0 rfl) rfl rfl rfl (Nat.le_of_ble_eq_true rfl) ⟨by decide, by decide⟩ ⟨by decide, by decide⟩ (c_X0_of (q := 5) hst w1F hn h12w rfl (by decide) (hln i hii).1 (hln i hii).2) ?_
          refine J_aload_n dX1_takeOutResting_38 rfl rfl ?_
          refine J_iconst (v := 5) dX1_takeOutResting_39 (by decide) ?_
          refine J_aload_n dX1_takeOutResting_40 rfl rfl ?_
          refine J_getf dX1_takeOutResting_41 fl_X1_31 (w1.at 0 rfl) rfl ?_
          refine J_iload_n dX1_takeOutResting_44 rfl rfl ?_
          refine J_ialdN (chs (rst_r F la) i) dX1_takeOutResting_45 (w1.at 3 rfl) rfl (by omega) (by decide) ?_
          refine J_callVr (As := [_, _]) dX1_takeOutResting_46 ml_X1_79 cal_X0_of im_X0_of se_X0_of (w1F.at 0 rfl) rfl rfl rfl (Nat.le_of_ble_eq_true rfl) ⟨by decide, by decide⟩ ⟨by decide, by decide⟩ (c_X0_of (q := 5) hst w1F hn h12w rfl (by decide) (hln _ (by omega)).1 (hln _ (by omega)).2) ?_
          refine J_icmp_gt (tgt := 54) dX1_takeOutResting_49 rfl (fun h49 => ?_) (fun h49 => ?_)
          · have hcs : ¬ rst_r F la i ≤ rst_r F la (chs (rst_r F la) i) := Int32.not_le.mpr h49
            refine J_iinc (v := _ + 1) (L' := [(3, _), (2, _), (0, _), (1, _)]) dX1_takeOutResting_54 rfl rfl (by decide) rfl ?_
            refine J_goto (tgt := 19) dX1_takeOutResting_57 rfl ?_
            refine xx_J.pick [0, 1, 2, 3] rfl ?_
            have ec : chs (rst_r F la) (i + 1) = chs (rst_r F la) i := by simp only [chs]; rw [if_neg (by omega), if_neg hcs]
            have ih2 := ih (x + 1) (by rw [hx]; exact nI_1 i) (by omega)
            rw [ec] at ih2
            exact ih2
          · have hcs : rst_r F la i ≤ rst_r F la (chs (rst_r F la) i) := Int32.not_lt.mp h49
            refine J_iload_n dX1_takeOutResting_52 rfl rfl ?_
            refine J_istore_n (L' := [(2, _), (3, _), (0, _), (1, _)]) dX1_takeOutResting_53 rfl (by decide) rfl ?_
            refine J_iinc (v := _ + 1) (L' := [(3, _), (2, _), (0, _), (1, _)]) dX1_takeOutResting_54 rfl rfl (by decide) rfl ?_
            refine J_goto (tgt := 19) dX1_takeOutResting_57 rfl ?_
            refine xx_J.pick [0, 1, 2, 3] rfl ?_
            have ec : chs (rst_r F la) (i + 1) = i := by simp only [chs]; rw [if_neg (by omega), if_pos hcs]
            have ih2 := ih (x + 1) (by rw [hx]; exact nI_1 i) (by omega)
            rw [ec, ← hx] at ih2
            exact ih2
    refine xx_J.pick [0, 1, 2, 3] rfl ?_
    exact loop 1 (by omega) _  rfl (by omega)
  · have hev : k % 2 = 0 := by
      have z := h11
      rw [i_eq, i_n (by omega), i_0] at z
      omega
    refine J_return dX1_takeOutResting_14 rfl (by decide) (by decide) ?_
    refine ⟨rfl, rfl, _, ⟨?_, ?_, ?_⟩, w1, s1⟩
    · show PS.1 5 = _
      unfold rs_k
      rw [if_pos hev]; exact hk
    · show (-1 : Int32) = _
      unfold rs_r
      rw [if_pos hev]
    · unfold rs_l rs_k
      rw [if_pos hev, if_pos hev]
      exact hln
end XPB
