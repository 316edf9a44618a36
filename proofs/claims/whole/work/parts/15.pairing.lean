/-! PAIRING, its methods -/
section XPB
variable {G : xx_G} {l : Launch} {b n : Nat} {A : xx_H} {F : xS} {bp : Nat} {PS : xS}
theorem hasb {s b : Nat} : s.testBit b = false ↔ ¬ s.testBit b = true := by simp
theorem c_X1_has (hst : l.stackTraces = false) {s b : Nat} {x y : Int32} (hx : x = nI s) (hs : s < 2 ^ 31) (hy : y = nI b) (hb : b < 31) : xx_C G l yX1_has mX1_has 0 0 0 0 [.int x, .int y] A n (xx_ro (some (.int (xx_b (s.testBit b = true)))) A n) := by
  subst hx hy
  refine J_C hst (by decide +kernel) rfl rfl rfl (Nat.le_of_ble_eq_true rfl) ?_
  show xx_J _ _ _ _ _ _ _ _ 0 [(0, _), (1, _)] [] _ _ _ _
  refine J_iload_n dX1_has_0 rfl rfl ?_
  refine J_iload_n dX1_has_1 rfl rfl ?_
  refine J_ishr dX1_has_2 ?_
  refine J_iconst (v := 1) dX1_has_3 (by decide) ?_
  refine J_iand dX1_has_4 ?_
  refine J_if_eq (tgt := 12) dX1_has_5 rfl (fun h5 => ?_) (fun h5 => ?_)
  · refine J_iconst (v := 0) dX1_has_12 (by decide) ?_
    refine J_ireturn dX1_has_13 rfl rfl (by decide) (by decide) ?_
    refine ⟨?_, rfl, rfl⟩
    have hh := is_has hs hb
    unfold xx_b
    first | (rw [if_neg (hasb.mp (hh.mp h5))]) | (rw [if_pos (by have z := (not_congr (hh.trans hasb)).mp h5; exact Decidable.not_not.mp z)])
  · refine J_iconst (v := 1) dX1_has_8 (by decide) ?_
    refine J_goto (tgt := 13) dX1_has_9 rfl ?_
    refine J_ireturn dX1_has_13 rfl rfl (by decide) (by decide) ?_
    refine ⟨?_, rfl, rfl⟩
    have hh := is_has hs hb
    unfold xx_b
    first | (rw [if_neg (hasb.mp (hh.mp h5))]) | (rw [if_pos (by have z := (not_congr (hh.trans hasb)).mp h5; exact Decidable.not_not.mp z)])
theorem c_J6_numberOfTrailingZeros_0f7a4 (hst : l.stackTraces = false) {s : Nat} {x : Int32} (hx : x = nI s) (hs : s < 4096) (h0 : s ≠ 0) : xx_C G l yJ6_numberOfTrailingZeros_0f7a4 mJ6_numberOfTrailingZeros_0f7a4 0 0 0 0 [.int x] A n (xx_ro (some (.int (nI (low s)))) A n) := by
  subst hx
  refine J_C hst (by decide +kernel) rfl rfl rfl (Nat.le_of_ble_eq_true rfl) ?_
  show xx_J _ _ _ _ _ _ _ _ 0 [(0, _)] [] _ _ _ _
  refine J_iload_n dJ6_numberOfTrailingZeros_0f7a4_0 rfl rfl ?_
  refine J_iconst (v := -1) dJ6_numberOfTrailingZeros_0f7a4_1 (by decide) ?_
  refine J_ixor dJ6_numberOfTrailingZeros_0f7a4_2 ?_
  refine J_iload_n dJ6_numberOfTrailingZeros_0f7a4_3 rfl rfl ?_
  refine J_iconst (v := 1) dJ6_numberOfTrailingZeros_0f7a4_4 (by decide) ?_
  refine J_isub dJ6_numberOfTrailingZeros_0f7a4_5 ?_
  refine J_iand dJ6_numberOfTrailingZeros_0f7a4_6 ?_
  refine J_istore_n (L' := [(0, _)]) dJ6_numberOfTrailingZeros_0f7a4_7 rfl (by decide) rfl ?_
  refine J_iload_n dJ6_numberOfTrailingZeros_0f7a4_8 rfl rfl ?_
  refine J_if_gt (tgt := 17) dJ6_numberOfTrailingZeros_0f7a4_9 rfl (fun h9 => ?_) (fun h9 => ?_)
  · refine J_iconst (v := 1) dJ6_numberOfTrailingZeros_0f7a4_17 (by decide) ?_
    refine J_istore_n (L' := [(1, _), (0, _)]) dJ6_numberOfTrailingZeros_0f7a4_18 rfl (by decide) rfl ?_
    refine J_iload_n dJ6_numberOfTrailingZeros_0f7a4_19 rfl rfl ?_
    refine J_ldcw dJ6_numberOfTrailingZeros_0f7a4_20 kc_J6_264 ?_
    refine J_icmp_le (tgt := 34) dJ6_numberOfTrailingZeros_0f7a4_23 rfl (fun h23 => ?_) (fun h23 => ?_)
    · refine J_iload_n dJ6_numberOfTrailingZeros_0f7a4_34 rfl rfl ?_
      refine J_sipush (v := 256) dJ6_numberOfTrailingZeros_0f7a4_35 (by decide) ?_
      refine J_icmp_le (tgt := 49) dJ6_numberOfTrailingZeros_0f7a4_38 rfl (fun h38 => ?_) (fun h38 => ?_)
      · refine J_iload_n dJ6_numberOfTrailingZeros_0f7a4_49 rfl rfl ?_
        refine J_bipush (v := 16) dJ6_numberOfTrailingZeros_0f7a4_50 (by decide) ?_
        refine J_icmp_le (tgt := 62) dJ6_numberOfTrailingZeros_0f7a4_52 rfl (fun h52 => ?_) (fun h52 => ?_)
        · refine J_iload_n dJ6_numberOfTrailingZeros_0f7a4_62 rfl rfl ?_
          refine J_iconst (v := 4) dJ6_numberOfTrailingZeros_0f7a4_63 (by decide) ?_
          refine J_icmp_le (tgt := 74) dJ6_numberOfTrailingZeros_0f7a4_64 rfl (fun h64 => ?_) (fun h64 => ?_)
          · refine J_iload_n dJ6_numberOfTrailingZeros_0f7a4_74 rfl rfl ?_
            refine J_iload_n dJ6_numberOfTrailingZeros_0f7a4_75 rfl rfl ?_
            refine J_iconst (v := 1) dJ6_numberOfTrailingZeros_0f7a4_76 (by decide) ?_
            refine J_iushr dJ6_numberOfTrailingZeros_0f7a4_77 rfl ?_
            refine J_iadd dJ6_numberOfTrailingZeros_0f7a4_78 ?_
            refine J_ireturn dJ6_numberOfTrailingZeros_0f7a4_79 rfl rfl (by decide) (by decide) ?_
            exact ⟨by rw [← ntz_low s hs h0]; simp only [ntz, ntz0, ntz1, ntz2, ntz3, ntz4, ush, h9, h23, h38, h52, h64, if_true, if_false, ↓reduceIte], rfl, rfl⟩
          · refine J_iinc (v := _ + 2) (L' := [(1, _), (0, _)]) dJ6_numberOfTrailingZeros_0f7a4_67 rfl rfl (by decide) rfl ?_
            refine J_iload_n dJ6_numberOfTrailingZeros_0f7a4_70 rfl rfl ?_
            refine J_iconst (v := 2) dJ6_numberOfTrailingZeros_0f7a4_71 (by decide) ?_
            refine J_iushr dJ6_numberOfTrailingZeros_0f7a4_72 rfl ?_
            refine J_istore_n (L' := [(0, _), (1, _)]) dJ6_numberOfTrailingZeros_0f7a4_73 rfl (by decide) rfl ?_
            refine J_iload_n dJ6_numberOfTrailingZeros_0f7a4_74 rfl rfl ?_
            refine J_iload_n dJ6_numberOfTrailingZeros_0f7a4_75 rfl rfl ?_
            refine J_iconst (v := 1) dJ6_numberOfTrailingZeros_0f7a4_76 (by decide) ?_
            refine J_iushr dJ6_numberOfTrailingZeros_0f7a4_77 rfl ?_
            refine J_iadd dJ6_numberOfTrailingZeros_0f7a4_78 ?_
            refine J_ireturn dJ6_numberOfTrailingZeros_0f7a4_79 rfl rfl (by decide) (by decide) ?_
            exact ⟨by rw [← ntz_low s hs h0]; simp only [ntz, ntz0, ntz1, ntz2, ntz3, ntz4, ush, h9, h23, h38, h52, h64, if_true, if_false, ↓reduceIte], rfl, rfl⟩
        · refine J_iinc (v := _ + 4) (L' := [(1, _), (0, _)]) dJ6_numberOfTrailingZeros_0f7a4_55 rfl rfl (by decide) rfl ?_
          refine J_iload_n dJ6_numberOfTrailingZeros_0f7a4_58 rfl rfl ?_
          refine J_iconst (v := 4) dJ6_numberOfTrailingZeros_0f7a4_59 (by decide) ?_
          refine J_iushr dJ6_numberOfTrailingZeros_0f7a4_60 rfl ?_
          refine J_istore_n (L' := [(0, _), (1, _)]) dJ6_numberOfTrailingZeros_0f7a4_61 rfl (by decide) rfl ?_
          refine J_iload_n dJ6_numberOfTrailingZeros_0f7a4_62 rfl rfl ?_
          refine J_iconst (v := 4) dJ6_numberOfTrailingZeros_0f7a4_63 (by decide) ?_
          refine J_icmp_le (tgt := 74) dJ6_numberOfTrailingZeros_0f7a4_64 rfl (fun h64 => ?_) (fun h64 => ?_)
          · refine J_iload_n dJ6_numberOfTrailingZeros_0f7a4_74 rfl rfl ?_
            refine J_iload_n dJ6_numberOfTrailingZeros_0f7a4_75 rfl rfl ?_
            refine J_iconst (v := 1) dJ6_numberOfTrailingZeros_0f7a4_76 (by decide) ?_
            refine J_iushr dJ6_numberOfTrailingZeros_0f7a4_77 rfl ?_
            refine J_iadd dJ6_numberOfTrailingZeros_0f7a4_78 ?_
            refine J_ireturn dJ6_numberOfTrailingZeros_0f7a4_79 rfl rfl (by decide) (by decide) ?_
            exact ⟨by rw [← ntz_low s hs h0]; simp only [ntz, ntz0, ntz1, ntz2, ntz3, ntz4, ush, h9, h23, h38, h52, h64, if_true, if_false, ↓reduceIte], rfl, rfl⟩
          · refine J_iinc (v := _ + 2) (L' := [(1, _), (0, _)]) dJ6_numberOfTrailingZeros_0f7a4_67 rfl rfl (by decide) rfl ?_
            refine J_iload_n dJ6_numberOfTrailingZeros_0f7a4_70 rfl rfl ?_
            refine J_iconst (v := 2) dJ6_numberOfTrailingZeros_0f7a4_71 (by decide) ?_
            refine J_iushr dJ6_numberOfTrailingZeros_0f7a4_72 rfl ?_
            refine J_istore_n (L' := [(0, _), (1, _)]) dJ6_numberOfTrailingZeros_0f7a4_73 rfl (by decide) rfl ?_
            refine J_iload_n dJ6_numberOfTrailingZeros_0f7a4_74 rfl rfl ?_
            refine J_iload_n dJ6_numberOfTrailingZeros_0f7a4_75 rfl rfl ?_
            refine J_iconst (v := 1) dJ6_numberOfTrailingZeros_0f7a4_76 (by decide) ?_
            refine J_iushr dJ6_numberOfTrailingZeros_0f7a4_77 rfl ?_
            refine J_iadd dJ6_numberOfTrailingZeros_0f7a4_78 ?_
            refine J_ireturn dJ6_numberOfTrailingZeros_0f7a4_79 rfl rfl (by decide) (by decide) ?_
            exact ⟨by rw [← ntz_low s hs h0]; simp only [ntz, ntz0, ntz1, ntz2, ntz3, ntz4, ush, h9, h23, h38, h52, h64, if_true, if_false, ↓reduceIte], rfl, rfl⟩
      · refine J_iinc (v := _ + 8) (L' := [(1, _), (0, _)]) dJ6_numberOfTrailingZeros_0f7a4_41 rfl rfl (by decide) rfl ?_
        refine J_iload_n dJ6_numberOfTrailingZeros_0f7a4_44 rfl rfl ?_
        refine J_bipush (v := 8) dJ6_numberOfTrailingZeros_0f7a4_45 (by decide) ?_
        refine J_iushr dJ6_numberOfTrailingZeros_0f7a4_47 rfl ?_
        refine J_istore_n (L' := [(0, _), (1, _)]) dJ6_numberOfTrailingZeros_0f7a4_48 rfl (by decide) rfl ?_
        refine J_iload_n dJ6_numberOfTrailingZeros_0f7a4_49 rfl rfl ?_
        refine J_bipush (v := 16) dJ6_numberOfTrailingZeros_0f7a4_50 (by decide) ?_
        refine J_icmp_le (tgt := 62) dJ6_numberOfTrailingZeros_0f7a4_52 rfl (fun h52 => ?_) (fun h52 => ?_)
        · refine J_iload_n dJ6_numberOfTrailingZeros_0f7a4_62 rfl rfl ?_
          refine J_iconst (v := 4) dJ6_numberOfTrailingZeros_0f7a4_63 (by decide) ?_
          refine J_icmp_le (tgt := 74) dJ6_numberOfTrailingZeros_0f7a4_64 rfl (fun h64 => ?_) (fun h64 => ?_)
          · refine J_iload_n dJ6_numberOfTrailingZeros_0f7a4_74 rfl rfl ?_
            refine J_iload_n dJ6_numberOfTrailingZeros_0f7a4_75 rfl rfl ?_
            refine J_iconst (v := 1) dJ6_numberOfTrailingZeros_0f7a4_76 (by decide) ?_
            refine J_iushr dJ6_numberOfTrailingZeros_0f7a4_77 rfl ?_
            refine J_iadd dJ6_numberOfTrailingZeros_0f7a4_78 ?_
            refine J_ireturn dJ6_numberOfTrailingZeros_0f7a4_79 rfl rfl (by decide) (by decide) ?_
            exact ⟨by rw [← ntz_low s hs h0]; simp only [ntz, ntz0, ntz1, ntz2, ntz3, ntz4, ush, h9, h23, h38, h52, h64, if_true, if_false, ↓reduceIte], rfl, rfl⟩
          · refine J_iinc (v := _ + 2) (L' := [(1, _), (0, _)]) dJ6_numberOfTrailingZeros_0f7a4_67 rfl rfl (by decide) rfl ?_
            refine J_iload_n dJ6_numberOfTrailingZeros_0f7a4_70 rfl rfl ?_
            refine J_iconst (v := 2) dJ6_numberOfTrailingZeros_0f7a4_71 (by decide) ?_
            refine J_iushr dJ6_numberOfTrailingZeros_0f7a4_72 rfl ?_
            refine J_istore_n (L' := [(0, _), (1, _)]) dJ6_numberOfTrailingZeros_0f7a4_73 rfl (by decide) rfl ?_
            refine J_iload_n dJ6_numberOfTrailingZeros_0f7a4_74 rfl rfl ?_
            refine J_iload_n dJ6_numberOfTrailingZeros_0f7a4_75 rfl rfl ?_
            refine J_iconst (v := 1) dJ6_numberOfTrailingZeros_0f7a4_76 (by decide) ?_
            refine J_iushr dJ6_numberOfTrailingZeros_0f7a4_77 rfl ?_
            refine J_iadd dJ6_numberOfTrailingZeros_0f7a4_78 ?_
            refine J_ireturn dJ6_numberOfTrailingZeros_0f7a4_79 rfl rfl (by decide) (by decide) ?_
            exact ⟨by rw [← ntz_low s hs h0]; simp only [ntz, ntz0, ntz1, ntz2, ntz3, ntz4, ush, h9, h23, h38, h52, h64, if_true, if_false, ↓reduceIte], rfl, rfl⟩
        · refine J_iinc (v := _ + 4) (L' := [(1, _), (0, _)]) dJ6_numberOfTrailingZeros_0f7a4_55 rfl rfl (by decide) rfl ?_
          refine J_iload_n dJ6_numberOfTrailingZeros_0f7a4_58 rfl rfl ?_
          refine J_iconst (v := 4) dJ6_numberOfTrailingZeros_0f7a4_59 (by decide) ?_
          refine J_iushr dJ6_numberOfTrailingZeros_0f7a4_60 rfl ?_
          refine J_istore_n (L' := [(0, _), (1, _)]) dJ6_numberOfTrailingZeros_0f7a4_61 rfl (by decide) rfl ?_
          refine J_iload_n dJ6_numberOfTrailingZeros_0f7a4_62 rfl rfl ?_
          refine J_iconst (v := 4) dJ6_numberOfTrailingZeros_0f7a4_63 (by decide) ?_
          refine J_icmp_le (tgt := 74) dJ6_numberOfTrailingZeros_0f7a4_64 rfl (fun h64 => ?_) (fun h64 => ?_)
          · refine J_iload_n dJ6_numberOfTrailingZeros_0f7a4_74 rfl rfl ?_
            refine J_iload_n dJ6_numberOfTrailingZeros_0f7a4_75 rfl rfl ?_
            refine J_iconst (v := 1) dJ6_numberOfTrailingZeros_0f7a4_76 (by decide) ?_
            refine J_iushr dJ6_numberOfTrailingZeros_0f7a4_77 rfl ?_
            refine J_iadd dJ6_numberOfTrailingZeros_0f7a4_78 ?_
            refine J_ireturn dJ6_numberOfTrailingZeros_0f7a4_79 rfl rfl (by decide) (by decide) ?_
            exact ⟨by rw [← ntz_low s hs h0]; simp only [ntz, ntz0, ntz1, ntz2, ntz3, ntz4, ush, h9, h23, h38, h52, h64, if_true, if_false, ↓reduceIte], rfl, rfl⟩
          · refine J_iinc (v := _ + 2) (L' := [(1, _), (0, _)]) dJ6_numberOfTrailingZeros_0f7a4_67 rfl rfl (by decide) rfl ?_
            refine J_iload_n dJ6_numberOfTrailingZeros_0f7a4_70 rfl rfl ?_
            refine J_iconst (v := 2) dJ6_numberOfTrailingZeros_0f7a4_71 (by decide) ?_
            refine J_iushr dJ6_numberOfTrailingZeros_0f7a4_72 rfl ?_
            refine J_istore_n (L' := [(0, _), (1, _)]) dJ6_numberOfTrailingZeros_0f7a4_73 rfl (by decide) rfl ?_
            refine J_iload_n dJ6_numberOfTrailingZeros_0f7a4_74 rfl rfl ?_
            refine J_iload_n dJ6_numberOfTrailingZeros_0f7a4_75 rfl rfl ?_
            refine J_iconst (v := 1) dJ6_numberOfTrailingZeros_0f7a4_76 (by decide) ?_
            refine J_iushr dJ6_numberOfTrailingZeros_0f7a4_77 rfl ?_
            refine J_iadd dJ6_numberOfTrailingZeros_0f7a4_78 ?_
            refine J_ireturn dJ6_numberOfTrailingZeros_0f7a4_79 rfl rfl (by decide) (by decide) ?_
            exact ⟨by rw [← ntz_low s hs h0]; simp only [ntz, ntz0, ntz1, ntz2, ntz3, ntz4, ush, h9, h23, h38, h52, h64, if_true, if_false, ↓reduceIte], rfl, rfl⟩
    · refine J_iinc (v := _ + 16) (L' := [(1, _), (0, _)]) dJ6_numberOfTrailingZeros_0f7a4_26 rfl rfl (by decide) rfl ?_
      refine J_iload_n dJ6_numberOfTrailingZeros_0f7a4_29 rfl rfl ?_
      refine J_bipush (v := 16) dJ6_numberOfTrailingZeros_0f7a4_30 (by decide) ?_
      refine J_iushr dJ6_numberOfTrailingZeros_0f7a4_32 rfl ?_
      refine J_istore_n (L' := [(0, _), (1, _)]) dJ6_numberOfTrailingZeros_0f7a4_33 rfl (by decide) rfl ?_
      refine J_iload_n dJ6_numberOfTrailingZeros_0f7a4_34 rfl rfl ?_
      refine J_sipush (v := 256) dJ6_numberOfTrailingZeros_0f7a4_35 (by decide) ?_
      refine J_icmp_le (tgt := 49) dJ6_numberOfTrailingZeros_0f7a4_38 rfl (fun h38 => ?_) (fun h38 => ?_)
      · refine J_iload_n dJ6_numberOfTrailingZeros_0f7a4_49 rfl rfl ?_
        refine J_bipush (v := 16) dJ6_numberOfTrailingZeros_0f7a4_50 (by decide) ?_
        refine J_icmp_le (tgt := 62) dJ6_numberOfTrailingZeros_0f7a4_52 rfl (fun h52 => ?_) (fun h52 => ?_)
        · refine J_iload_n dJ6_numberOfTrailingZeros_0f7a4_62 rfl rfl ?_
          refine J_iconst (v := 4) dJ6_numberOfTrailingZeros_0f7a4_63 (by decide) ?_
          refine J_icmp_le (tgt := 74) dJ6_numberOfTrailingZeros_0f7a4_64 rfl (fun h64 => ?_) (fun h64 => ?_)
          · refine J_iload_n dJ6_numberOfTrailingZeros_0f7a4_74 rfl rfl ?_
            refine J_iload_n dJ6_numberOfTrailingZeros_0f7a4_75 rfl rfl ?_
            refine J_iconst (v := 1) dJ6_numberOfTrailingZeros_0f7a4_76 (by decide) ?_
            refine J_iushr dJ6_numberOfTrailingZeros_0f7a4_77 rfl ?_
            refine J_iadd dJ6_numberOfTrailingZeros_0f7a4_78 ?_
            refine J_ireturn dJ6_numberOfTrailingZeros_0f7a4_79 rfl rfl (by decide) (by decide) ?_
            exact ⟨by rw [← ntz_low s hs h0]; simp only [ntz, ntz0, ntz1, ntz2, ntz3, ntz4, ush, h9, h23, h38, h52, h64, if_true, if_false, ↓reduceIte], rfl, rfl⟩
          · refine J_iinc (v := _ + 2) (L' := [(1, _), (0, _)]) dJ6_numberOfTrailingZeros_0f7a4_67 rfl rfl (by decide) rfl ?_
            refine J_iload_n dJ6_numberOfTrailingZeros_0f7a4_70 rfl rfl ?_
            refine J_iconst (v := 2) dJ6_numberOfTrailingZeros_0f7a4_71 (by decide) ?_
            refine J_iushr dJ6_numberOfTrailingZeros_0f7a4_72 rfl ?_
            refine J_istore_n (L' := [(0, _), (1, _)]) dJ6_numberOfTrailingZeros_0f7a4_73 rfl (by decide) rfl ?_
            refine J_iload_n dJ6_numberOfTrailingZeros_0f7a4_74 rfl rfl ?_
            refine J_iload_n dJ6_numberOfTrailingZeros_0f7a4_75 rfl rfl ?_
            refine J_iconst (v := 1) dJ6_numberOfTrailingZeros_0f7a4_76 (by decide) ?_
            refine J_iushr dJ6_numberOfTrailingZeros_0f7a4_77 rfl ?_
            refine J_iadd dJ6_numberOfTrailingZeros_0f7a4_78 ?_
            refine J_ireturn dJ6_numberOfTrailingZeros_0f7a4_79 rfl rfl (by decide) (by decide) ?_
            exact ⟨by rw [← ntz_low s hs h0]; simp only [ntz, ntz0, ntz1, ntz2, ntz3, ntz4, ush, h9, h23, h38, h52, h64, if_true, if_false, ↓reduceIte], rfl, rfl⟩
        · refine J_iinc (v := _ + 4) (L' := [(1, _), (0, _)]) dJ6_numberOfTrailingZeros_0f7a4_55 rfl rfl (by decide) rfl ?_
          refine J_iload_n dJ6_numberOfTrailingZeros_0f7a4_58 rfl rfl ?_
          refine J_iconst (v := 4) dJ6_numberOfTrailingZeros_0f7a4_59 (by decide) ?_
          refine J_iushr dJ6_numberOfTrailingZeros_0f7a4_60 rfl ?_
          refine J_istore_n (L' := [(0, _), (1, _)]) dJ6_numberOfTrailingZeros_0f7a4_61 rfl (by decide) rfl ?_
          refine J_iload_n dJ6_numberOfTrailingZeros_0f7a4_62 rfl rfl ?_
          refine J_iconst (v := 4) dJ6_numberOfTrailingZeros_0f7a4_63 (by decide) ?_
          refine J_icmp_le (tgt := 74) dJ6_numberOfTrailingZeros_0f7a4_64 rfl (fun h64 => ?_) (fun h64 => ?_)
          · refine J_iload_n dJ6_numberOfTrailingZeros_0f7a4_74 rfl rfl ?_
            refine J_iload_n dJ6_numberOfTrailingZeros_0f7a4_75 rfl rfl ?_
            refine J_iconst (v := 1) dJ6_numberOfTrailingZeros_0f7a4_76 (by decide) ?_
            refine J_iushr dJ6_numberOfTrailingZeros_0f7a4_77 rfl ?_
            refine J_iadd dJ6_numberOfTrailingZeros_0f7a4_78 ?_
            refine J_ireturn dJ6_numberOfTrailingZeros_0f7a4_79 rfl rfl (by decide) (by decide) ?_
            exact ⟨by rw [← ntz_low s hs h0]; simp only [ntz, ntz0, ntz1, ntz2, ntz3, ntz4, ush, h9, h23, h38, h52, h64, if_true, if_false, ↓reduceIte], rfl, rfl⟩
          · refine J_iinc (v := _ + 2) (L' := [(1, _), (0, _)]) dJ6_numberOfTrailingZeros_0f7a4_67 rfl rfl (by decide) rfl ?_
            refine J_iload_n dJ6_numberOfTrailingZeros_0f7a4_70 rfl rfl ?_
            refine J_iconst (v := 2) dJ6_numberOfTrailingZeros_0f7a4_71 (by decide) ?_
            refine J_iushr dJ6_numberOfTrailingZeros_0f7a4_72 rfl ?_
            refine J_istore_n (L' := [(0, _), (1, _)]) dJ6_numberOfTrailingZeros_0f7a4_73 rfl (by decide) rfl ?_
            refine J_iload_n dJ6_numberOfTrailingZeros_0f7a4_74 rfl rfl ?_
            refine J_iload_n dJ6_numberOfTrailingZeros_0f7a4_75 rfl rfl ?_
            refine J_iconst (v := 1) dJ6_numberOfTrailingZeros_0f7a4_76 (by decide) ?_
            refine J_iushr dJ6_numberOfTrailingZeros_0f7a4_77 rfl ?_
            refine J_iadd dJ6_numberOfTrailingZeros_0f7a4_78 ?_
            refine J_ireturn dJ6_numberOfTrailingZeros_0f7a4_79 rfl rfl (by decide) (by decide) ?_
            exact ⟨by rw [← ntz_low s hs h0]; simp only [ntz, ntz0, ntz1, ntz2, ntz3, ntz4, ush, h9, h23, h38, h52, h64, if_true, if_false, ↓reduceIte], rfl, rfl⟩
      · refine J_iinc (v := _ + 8) (L' := [(1, _), (0, _)]) dJ6_numberOfTrailingZeros_0f7a4_41 rfl rfl (by decide) rfl ?_
        refine J_iload_n dJ6_numberOfTrailingZeros_0f7a4_44 rfl rfl ?_
        refine J_bipush (v := 8) dJ6_numberOfTrailingZeros_0f7a4_45 (by decide) ?_
        refine J_iushr dJ6_numberOfTrailingZeros_0f7a4_47 rfl ?_
        refine J_istore_n (L' := [(0, _), (1, _)]) dJ6_numberOfTrailingZeros_0f7a4_48 rfl (by decide) rfl ?_
        refine J_iload_n dJ6_numberOfTrailingZeros_0f7a4_49 rfl rfl ?_
        refine J_bipush (v := 16) dJ6_numberOfTrailingZeros_0f7a4_50 (by decide) ?_
        refine J_icmp_le (tgt := 62) dJ6_numberOfTrailingZeros_0f7a4_52 rfl (fun h52 => ?_) (fun h52 => ?_)
        · refine J_iload_n dJ6_numberOfTrailingZeros_0f7a4_62 rfl rfl ?_
          refine J_iconst (v := 4) dJ6_numberOfTrailingZeros_0f7a4_63 (by decide) ?_
          refine J_icmp_le (tgt := 74) dJ6_numberOfTrailingZeros_0f7a4_64 rfl (fun h64 => ?_) (fun h64 => ?_)
          · refine J_iload_n dJ6_numberOfTrailingZeros_0f7a4_74 rfl rfl ?_
            refine J_iload_n dJ6_numberOfTrailingZeros_0f7a4_75 rfl rfl ?_
            refine J_iconst (v := 1) dJ6_numberOfTrailingZeros_0f7a4_76 (by decide) ?_
            refine J_iushr dJ6_numberOfTrailingZeros_0f7a4_77 rfl ?_
            refine J_iadd dJ6_numberOfTrailingZeros_0f7a4_78 ?_
            refine J_ireturn dJ6_numberOfTrailingZeros_0f7a4_79 rfl rfl (by decide) (by decide) ?_
            exact ⟨by rw [← ntz_low s hs h0]; simp only [ntz, ntz0, ntz1, ntz2, ntz3, ntz4, ush, h9, h23, h38, h52, h64, if_true, if_false, ↓reduceIte], rfl, rfl⟩
          · refine J_iinc (v := _ + 2) (L' := [(1, _), (0, _)]) dJ6_numberOfTrailingZeros_0f7a4_67 rfl rfl (by decide) rfl ?_
            refine J_iload_n dJ6_numberOfTrailingZeros_0f7a4_70 rfl rfl ?_
            refine J_iconst (v := 2) dJ6_numberOfTrailingZeros_0f7a4_71 (by decide) ?_
            refine J_iushr dJ6_numberOfTrailingZeros_0f7a4_72 rfl ?_
            refine J_istore_n (L' := [(0, _), (1, _)]) dJ6_numberOfTrailingZeros_0f7a4_73 rfl (by decide) rfl ?_
            refine J_iload_n dJ6_numberOfTrailingZeros_0f7a4_74 rfl rfl ?_
            refine J_iload_n dJ6_numberOfTrailingZeros_0f7a4_75 rfl rfl ?_
            refine J_iconst (v := 1) dJ6_numberOfTrailingZeros_0f7a4_76 (by decide) ?_
            refine J_iushr dJ6_numberOfTrailingZeros_0f7a4_77 rfl ?_
            refine J_iadd dJ6_numberOfTrailingZeros_0f7a4_78 ?_
            refine J_ireturn dJ6_numberOfTrailingZeros_0f7a4_79 rfl rfl (by decide) (by decide) ?_
            exact ⟨by rw [← ntz_low s hs h0]; simp only [ntz, ntz0, ntz1, ntz2, ntz3, ntz4, ush, h9, h23, h38, h52, h64, if_true, if_false, ↓reduceIte], rfl, rfl⟩
        · refine J_iinc (v := _ + 4) (L' := [(1, _), (0, _)]) dJ6_numberOfTrailingZeros_0f7a4_55 rfl rfl (by decide) rfl ?_
          refine J_iload_n dJ6_numberOfTrailingZeros_0f7a4_58 rfl rfl ?_
          refine J_iconst (v := 4) dJ6_numberOfTrailingZeros_0f7a4_59 (by decide) ?_
          refine J_iushr dJ6_numberOfTrailingZeros_0f7a4_60 rfl ?_
          refine J_istore_n (L' := [(0, _), (1, _)]) dJ6_numberOfTrailingZeros_0f7a4_61 rfl (by decide) rfl ?_
          refine J_iload_n dJ6_numberOfTrailingZeros_0f7a4_62 rfl rfl ?_
          refine J_iconst (v := 4) dJ6_numberOfTrailingZeros_0f7a4_63 (by decide) ?_
          refine J_icmp_le (tgt := 74) dJ6_numberOfTrailingZeros_0f7a4_64 rfl (fun h64 => ?_) (fun h64 => ?_)
          · refine J_iload_n dJ6_numberOfTrailingZeros_0f7a4_74 rfl rfl ?_
            refine J_iload_n dJ6_numberOfTrailingZeros_0f7a4_75 rfl rfl ?_
            refine J_iconst (v := 1) dJ6_numberOfTrailingZeros_0f7a4_76 (by decide) ?_
            refine J_iushr dJ6_numberOfTrailingZeros_0f7a4_77 rfl ?_
            refine J_iadd dJ6_numberOfTrailingZeros_0f7a4_78 ?_
            refine J_ireturn dJ6_numberOfTrailingZeros_0f7a4_79 rfl rfl (by decide) (by decide) ?_
            exact ⟨by rw [← ntz_low s hs h0]; simp only [ntz, ntz0, ntz1, ntz2, ntz3, ntz4, ush, h9, h23, h38, h52, h64, if_true, if_false, ↓reduceIte], rfl, rfl⟩
          · refine J_iinc (v := _ + 2) (L' := [(1, _), (0, _)]) dJ6_numberOfTrailingZeros_0f7a4_67 rfl rfl (by decide) rfl ?_
            refine J_iload_n dJ6_numberOfTrailingZeros_0f7a4_70 rfl rfl ?_
            refine J_iconst (v := 2) dJ6_numberOfTrailingZeros_0f7a4_71 (by decide) ?_
            refine J_iushr dJ6_numberOfTrailingZeros_0f7a4_72 rfl ?_
            refine J_istore_n (L' := [(0, _), (1, _)]) dJ6_numberOfTrailingZeros_0f7a4_73 rfl (by decide) rfl ?_
            refine J_iload_n dJ6_numberOfTrailingZeros_0f7a4_74 rfl rfl ?_
            refine J_iload_n dJ6_numberOfTrailingZeros_0f7a4_75 rfl rfl ?_
            refine J_iconst (v := 1) dJ6_numberOfTrailingZeros_0f7a4_76 (by decide) ?_
            refine J_iushr dJ6_numberOfTrailingZeros_0f7a4_77 rfl ?_
            refine J_iadd dJ6_numberOfTrailingZeros_0f7a4_78 ?_
            refine J_ireturn dJ6_numberOfTrailingZeros_0f7a4_79 rfl rfl (by decide) (by decide) ?_
            exact ⟨by rw [← ntz_low s hs h0]; simp only [ntz, ntz0, ntz1, ntz2, ntz3, ntz4, ush, h9, h23, h38, h52, h64, if_true, if_false, ↓reduceIte], rfl, rfl⟩
  · refine J_iload_n dJ6_numberOfTrailingZeros_0f7a4_12 rfl rfl ?_
    refine J_bipush (v := 32) dJ6_numberOfTrailingZeros_0f7a4_13 (by decide) ?_
    refine J_iand dJ6_numberOfTrailingZeros_0f7a4_15 ?_
    refine J_ireturn dJ6_numberOfTrailingZeros_0f7a4_16 rfl rfl (by decide) (by decide) ?_
    exact ⟨by rw [← ntz_low s hs h0]; simp only [ntz, if_neg h9], rfl, rfl⟩
theorem c_X1_firstOf (hst : l.stackTraces = false) {s : Nat} {x : Int32} (hx : x = nI s) (hs : s < 4096) (h0 : s ≠ 0) : xx_C G l yX1_firstOf mX1_firstOf 1 21 0 0 [.int x] A n (xx_ro (some (.int (nI (low s)))) A n) := by
  refine J_C hst (by decide +kernel) rfl rfl rfl (Nat.le_of_ble_eq_true rfl) ?_
  show xx_J _ _ _ _ _ _ _ _ 0 [(0, _)] [] _ _ _ _
  refine J_iload_n dX1_firstOf_0 rfl rfl ?_
  refine J_callSr (As := [_]) dX1_firstOf_1 ml_X1_101 cal_J6_numberOfTrailingZeros_0f7a4 sm_J6_numberOfTrailingZeros_0f7a4 rfl rfl (Nat.le_of_ble_eq_true rfl) ⟨by decide, by decide⟩ ⟨by decide, by decide⟩ (c_J6_numberOfTrailingZeros_0f7a4 hst hx hs h0) ?_
  refine J_bipush (v := 11) dX1_firstOf_4 (by decide) ?_
  refine J_min dX1_firstOf_6 ml_X1_96 ⟨by decide, Nat.le_of_ble_eq_true rfl⟩ ⟨by decide, by decide⟩ ?_
  refine J_ireturn dX1_firstOf_9 rfl rfl (by decide) (by decide) ?_
  have h12 := (low_spec (k := 12) hs (by omega) h0).2.1
  exact ⟨by rw [if_neg (by rw [i_lt, i_n (by omega), show (11 : Int32).toInt = 11 from rfl]; omega)], rfl, rfl⟩
theorem wP_uu {b i : Nat} {F : xS} {f g : Nat → Int32} {A : xx_H} (h : xx_w b (layP b (a_up (a_up F i f) i g)) A) : xx_w b (layP b (a_up F i g)) A := by
  rw [a_up_u] at h
  exact h
/-- what is known of the memo -/
def mok (met : Nat → Nat → Bool) (k : Nat) (fw : Nat → Int32) : Prop := ∀ s, s < 2 ^ k → fw s = -1 ∨ fw s = nI (mr met k (pcn s 12 / 2) s)
/-- who of the line have met, as bits -/
def mbt (met : Nat → Nat → Bool) (k : Nat) (f : Nat → Int32) : Prop := ∀ a, a < k → ∃ m, f a = nI m ∧ m < 2 ^ 31 ∧ ∀ b, b < k → m.testBit b = met a b
def pQ (bp n : Nat) (PS : xS) (met : Nat → Nat → Bool) (k : Nat) (A : xx_H) (v : Nat) : xx_Q := xx_wr (some (.int (nI v))) n (fun A' => ∃ fw', mok met k fw' ∧ xx_w bp (layP bp (a_up PS 5 fw')) A' ∧ xx_same bp (bp + 6) A A')
def Few (G : xx_G) (l : Launch) (bp : Nat) (PS : xS) (met : Nat → Nat → Bool) (k p : Nat) : Prop := ∀ (A : xx_H) (n : Nat) (fw : Nat → Int32) (s : Nat) (x y : Int32), x = nI s → y = nI p → s < 2 ^ k → pcn s 12 = 2 * p → mok met k fw → xx_w bp (layP bp (a_up PS 5 fw)) A → xx_C G l yX1_fewestRematches mX1_fewestRematches (3 * p + 4) (73 * p + 70) 0 0 [.ref bp, .int x, .int y] A n (pQ bp n PS met k A (mr met k p s))
def Rem (G : xx_G) (l : Launch) (bp : Nat) (PS : xS) (met : Nat → Nat → Bool) (k p : Nat) : Prop := ∀ (A : xx_H) (n : Nat) (fw : Nat → Int32) (a b s : Nat) (x y z u : Int32), x = nI a → y = nI b → z = nI s → u = nI p → a < k → b < k → clr s b < 2 ^ k → pcn (clr s b) 12 = 2 * p → mok met k fw → xx_w bp (layP bp (a_up PS 5 fw)) A → xx_C G l yX1_rematchesWith mX1_rematchesWith (3 * p + 5) (73 * p + 92) 0 0 [.ref bp, .int x, .int y, .int z, .int u] A n (pQ bp n PS met k A (mr met k p (clr s b) + (if met a b = true then 1 else 0)))
def Rck (G : xx_G) (l : Launch) (bp : Nat) (PS : xS) (met : Nat → Nat → Bool) (k p : Nat) : Prop := ∀ (A : xx_H) (n : Nat) (fw : Nat → Int32) (s : Nat) (x y : Int32), x = nI s → y = nI (p + 1) → s < 2 ^ k → pcn s 12 = 2 * (p + 1) → mok met k fw → xx_w bp (layP bp (a_up PS 5 fw)) A → xx_C G l yX1_reckonFewest mX1_reckonFewest (3 * p + 6) (73 * p + 117) 0 0 [.ref bp, .int x, .int y] A n (pQ bp n PS met k A (mr met k (p + 1) s))
variable {met : Nat → Nat → Bool} {k p : Nat}
set_option maxHeartbeats 4000000 in
theorem c_rem (hst : l.stackTraces = false) (hk : PS.1 5 = nI k) (h12 : k ≤ 12) (hmb : mbt met k (PS.2 4)) (hF : Few G l bp PS met k p) : Rem G l bp PS met k p := by
  intro A n fw a b s x y z u hx hy hz hu ha hb hcl hpc hm hP
  subst hx hy hz hu
  obtain ⟨m, em, hm31, hmt⟩ := hmb a ha
  refine J_C hst (by decide +kernel) rfl rfl rfl (Nat.le_of_ble_eq_true rfl) ?_
  show xx_J _ _ _ _ _ _ _ _ 0 [(0, _), (1, _), (2, _), (3, _), (4, _)] [] _ _ _ _
  refine J_aload_n dX1_rematchesWith_0 rfl rfl ?_
  refine J_iload_n dX1_rematchesWith_1 rfl rfl ?_
  refine J_iconst (v := 1) dX1_rematchesWith_2 (by decide) ?_
  refine J_iload_n dX1_rematchesWith_3 rfl rfl ?_
  refine J_ishl dX1_rematchesWith_4 ?_
  refine J_iconst (v := -1) dX1_rematchesWith_5 (by decide) ?_
  refine J_ixor dX1_rematchesWith_6 ?_
  refine J_iand dX1_rematchesWith_7 ?_
  rw [is_clr (by omega)]
  refine J_iload dX1_rematchesWith_8 rfl ?_
  refine J_callVw (As := [_, _]) dX1_rematchesWith_10 ml_X1_56 cal_X1_fewestRematches im_X1_fewestRematches se_X1_fewestRematches (hP.at 0 rfl) rfl rfl rfl (Nat.le_of_ble_eq_true rfl) ⟨by omega, by show 8 + (3 + 11) + _ ≤ _; omega⟩ ⟨by decide, by decide⟩ (hF _ _ _ _ _ _ rfl rfl hcl hpc hm hP) (fun A1 hQ1 => ?_)
  obtain ⟨fw1, hm1, hP1, hS1⟩ := hQ1
  refine J_istore (L' := [(5, _), (0, _), (1, _), (2, _), (3, _), (4, _)]) dX1_rematchesWith_13 (by decide) rfl ?_
  refine J_aload_n dX1_rematchesWith_15 rfl rfl ?_
  refine J_getf dX1_rematchesWith_16 fl_X1_34 (hP1.at 0 rfl) rfl ?_
  refine J_iload_n dX1_rematchesWith_19 rfl rfl ?_
  refine J_ialdN _ dX1_rematchesWith_20 (hP1.at 4 rfl) rfl (by omega) (by decide) ?_
  refine J_iload_n dX1_rematchesWith_21 rfl rfl ?_
  refine J_callSr (As := [_, _]) dX1_rematchesWith_22 ml_X1_85 cal_X1_has sm_X1_has rfl rfl (Nat.le_of_ble_eq_true rfl) ⟨by omega, by show 8 + (2 + 11) + _ ≤ _; omega⟩ ⟨by decide, by decide⟩ (c_X1_has hst em hm31 rfl (by omega)) ?_
  refine J_ifb_eq (tgt := 35) dX1_rematchesWith_25 rfl (fun h25 => ?_) (fun h25 => ?_)
  · have hv : ¬ met a b = true := by rw [← hmt b hb]; exact h25
    refine J_iload dX1_rematchesWith_35 rfl ?_
    refine J_ireturn dX1_rematchesWith_37 rfl rfl (by decide) (by decide) ?_
    refine ⟨?_, rfl, _, hm1, hP1, ((xx_same.rf (b := bp) (e := bp + 6)).trans hS1)⟩
    first | rw [if_pos hv, nI_1] | rw [if_neg hv, Nat.add_zero]
  · have hv : met a b = true := by rw [← hmt b hb]; exact h25
    refine J_iload dX1_rematchesWith_28 rfl ?_
    refine J_iconst (v := 1) dX1_rematchesWith_30 (by decide) ?_
    refine J_iadd dX1_rematchesWith_31 ?_
    refine J_goto (tgt := 37) dX1_rematchesWith_32 rfl ?_
    refine J_ireturn dX1_rematchesWith_37 rfl rfl (by decide) (by decide) ?_
    refine ⟨?_, rfl, _, hm1, hP1, ((xx_same.rf (b := bp) (e := bp + 6)).trans hS1)⟩
    first | rw [if_pos hv, nI_1] | rw [if_neg hv, Nat.add_zero]
theorem mok_upd {fw : Nat → Int32} (h : mok met k fw) {s p : Nat} (hp : pcn s 12 = 2 * p) : mok met k (upd fw s (nI (mr met k p s))) := by
  intro q hq
  simp only [upd]
  by_cases hs : q = s
  · subst hs
    rw [if_pos rfl, hp, show 2 * p / 2 = p by omega]
    exact Or.inr rfl
  · rw [if_neg hs]
    exact h q hq
theorem sub1 (p : Nat) : nI (p + 1) - 1 = nI p := by rw [show (1 : Int32) = nI 1 from rfl, pk_sub (by omega)]; rfl
theorem mnv_s {t : Nat → Bool} {g : Nat → Nat} {k i acc : Nat} (h : i < k) : mnv t g (k - i) i acc = mnv t g (k - (i + 1)) (i + 1) (if t i = true then (if g i < acc then g i else acc) else acc) := by
  rw [show k - i = (k - (i + 1)) + 1 by omega]
  rfl
theorem pw12 {k : Nat} (h : k ≤ 12) : 2 ^ k ≤ 4096 := Nat.pow_le_pow_right (n := 2) (by omega) h
set_option maxHeartbeats 4000000 in
theorem c_rck (hst : l.stackTraces = false) (hk : PS.1 5 = nI k) (h12 : k ≤ 12) (hmb : mbt met k (PS.2 4)) (hp6 : p + 1 ≤ 6) (hF : Rem G l bp PS met k p) : Rck G l bp PS met k p := by
  intro A n fw s x y hx hy hs hpc hm hP
  subst hx hy
  obtain ⟨h0, h1, h2, h3, hev⟩ := ev_step h12 hs hpc
  have h4 := pw12 h12
  have hcl := clr_le s (low s)
  refine J_C hst (by decide +kernel) rfl rfl rfl (Nat.le_of_ble_eq_true rfl) ?_
  show xx_J _ _ _ _ _ _ _ _ 0 [(0, _), (1, _), (2, _)] [] _ _ _ _
  refine J_iload_n dX1_reckonFewest_0 rfl rfl ?_
  refine J_callSr (As := [_]) dX1_reckonFewest_1 ml_X1_60 cal_X1_firstOf sm_X1_firstOf rfl rfl (Nat.le_of_ble_eq_true rfl) ⟨by omega, by show 8 + (1 + 11) + _ ≤ _; omega⟩ ⟨by decide, by decide⟩ (c_X1_firstOf hst rfl (by omega) h0) ?_
  refine J_istore_n (L' := [(3, _), (0, _), (1, _), (2, _)]) dX1_reckonFewest_4 rfl (by decide) rfl ?_
  refine J_iload_n dX1_reckonFewest_5 rfl rfl ?_
  refine J_iconst (v := 1) dX1_reckonFewest_6 (by decide) ?_
  refine J_iload_n dX1_reckonFewest_7 rfl rfl ?_
  refine J_ishl dX1_reckonFewest_8 ?_
  refine J_iconst (v := -1) dX1_reckonFewest_9 (by decide) ?_
  refine J_ixor dX1_reckonFewest_10 ?_
  refine J_iand dX1_reckonFewest_11 ?_
  rw [is_clr (by omega)]
  refine J_istore (L' := [(4, _), (3, _), (0, _), (1, _), (2, _)]) dX1_reckonFewest_12 (by decide) rfl ?_
  refine J_iload_n dX1_reckonFewest_14 rfl rfl ?_
  refine J_istore (L' := [(5, _), (4, _), (3, _), (0, _), (1, _), (2, _)]) dX1_reckonFewest_15 (by decide) rfl ?_
  refine J_iload_n dX1_reckonFewest_17 rfl rfl ?_
  refine J_iconst (v := 1) dX1_reckonFewest_18 (by decide) ?_
  refine J_iadd dX1_reckonFewest_19 ?_
  refine J_istore (L' := [(6, _), (5, _), (4, _), (3, _), (0, _), (1, _), (2, _)]) dX1_reckonFewest_20 (by decide) rfl ?_
  have loop : ∀ i, i ≤ k → ∀ (A1 : xx_H) (fw1 : Nat → Int32) (acc : Nat) (x y : Int32), x = nI i → y = nI acc → acc ≤ p + 1 → low s < i → mok met k fw1 → xx_w bp (layP bp (a_up PS 5 fw1)) A1 → xx_same bp (bp + 6) A A1 → mnv (fun b => (clr s (low s)).testBit b) (fun b => mr met k p (clr (clr s (low s)) b) + (if met (low s) b = true then 1 else 0)) (k - i) i acc = mr met k (p + 1) s → xx_J G l mX1_reckonFewest (3 * p + 6) (73 * p + 117) 0 0 (pQ bp n PS met k A (mr met k (p + 1) s)) 22 [(6, .int x), (5, .int y), (4, .int (nI (clr s (low s)))), (3, .int (nI (low s))), (2, .int (nI (p + 1))), (1, .int (nI s)), (0, .ref bp)] [] A1 n 0 0 := by
    refine xx_dn ?_ ?_
    · intro A1 fw1 acc x y hx hy hacc hlt hm1 hP1 hs1 hv
      have ek : (PS.1 5).toInt = k := by rw [hk]; exact i_n (by omega)
      have exx : x.toInt = k := by rw [hx]; exact i_n (by omega)
      have hv : acc = mr met k (p + 1) s := by rw [← hv, Nat.sub_self]; rfl
      refine J_iload dX1_reckonFewest_22 rfl ?_
      refine J_aload_n dX1_reckonFewest_24 rfl rfl ?_
      refine J_getf dX1_reckonFewest_25 fl_X1_28 (hP1.at 0 rfl) rfl ?_
      refine J_icmp_ge (tgt := 71) dX1_reckonFewest_28 rfl (fun h28 => ?_) (fun h28 => ?_)
      · refine J_iload dX1_reckonFewest_71 rfl ?_
        refine J_ireturn dX1_reckonFewest_73 rfl rfl (by decide) (by decide) ?_
        exact ⟨by rw [hy, hv], rfl, _, hm1, hP1, hs1⟩
      · exfalso; simp only [i_lt, i_le, i_eq, i_0, i_1, i_2, i_3, i_4, i_5, i_6, i_8, i_9, i_10, i_12, i_16, i_20, i_m1] at h28; omega
    · intro i hii ih A1 fw1 acc x y hx hy hacc hlt hm1 hP1 hs1 hv
      have ek : (PS.1 5).toInt = k := by rw [hk]; exact i_n (by omega)
      have exx : x.toInt = i := by rw [hx]; exact i_n (by omega)
      refine J_iload dX1_reckonFewest_22 rfl ?_
      refine J_aload_n dX1_reckonFewest_24 rfl rfl ?_
      refine J_getf dX1_reckonFewest_25 fl_X1_28 (hP1.at 0 rfl) rfl ?_
      refine J_icmp_ge (tgt := 71) dX1_reckonFewest_28 rfl (fun h28 => ?_) (fun h28 => ?_)
      · exfalso; simp only [i_lt, i_le, i_eq, i_0, i_1, i_2, i_3, i_4, i_5, i_6, i_8, i_9, i_10, i_12, i_16, i_20, i_m1] at h28; omega
      · refine J_iload dX1_reckonFewest_31 rfl ?_
        refine J_if_le (tgt := 71) dX1_reckonFewest_33 rfl (fun h33 => ?_) (fun h33 => ?_)
        · have ha0 : acc = 0 := by rw [hy, i_le, i_n (by omega), i_0] at h33; omega
          have hv : acc = mr met k (p + 1) s := by rw [← hv]; have := @mnv_le (fun b => (clr s (low s)).testBit b) (fun b => mr met k p (clr (clr s (low s)) b) + (if met (low s) b = true then 1 else 0)) (k - i) i acc; omega
          refine J_iload dX1_reckonFewest_71 rfl ?_
          refine J_ireturn dX1_reckonFewest_73 rfl rfl (by decide) (by decide) ?_
          exact ⟨by rw [hy, hv], rfl, _, hm1, hP1, hs1⟩
        · refine J_iload dX1_reckonFewest_36 rfl ?_
          refine J_iload dX1_reckonFewest_38 rfl ?_
          refine J_callSr (As := [_, _]) dX1_reckonFewest_40 ml_X1_85 cal_X1_has sm_X1_has rfl rfl (Nat.le_of_ble_eq_true rfl) ⟨by omega, by show 8 + (2 + 11) + _ ≤ _; omega⟩ ⟨by decide, by decide⟩ (c_X1_has (s := clr s (low s)) (b := i) hst rfl (by omega) hx (by omega)) ?_
          refine J_ifb_eq (tgt := 65) dX1_reckonFewest_43 rfl (fun h43 => ?_) (fun h43 => ?_)
          · refine J_iinc (v := _ + 1) (L' := [(6, _), (5, _), (4, _), (3, _), (2, _), (1, _), (0, _)]) dX1_reckonFewest_65 rfl rfl (by decide) rfl ?_
            refine J_goto (tgt := 22) dX1_reckonFewest_68 rfl ?_
            refine xx_J.pick [0, 1, 2, 3, 4, 5, 6] rfl ?_
            exact ih _ fw1 acc _ _ (by rw [hx]; exact nI_1 i) hy hacc (by omega) hm1 hP1 hs1 (by rw [← hv, mnv_s hii, if_neg h43])
          · obtain ⟨q1, q2, q3, q4, q5⟩ := hev i h43
            have hle := mr_le (met := met) h12 p _ q3 q5
            obtain ⟨gi, egi⟩ : ∃ gi, gi = mr met k p (clr (clr s (low s)) i) + (if met (low s) i = true then 1 else 0) := ⟨_, rfl⟩
            have hgi : gi ≤ p + 1 := by rw [egi]; split <;> omega
            refine J_iload dX1_reckonFewest_46 rfl ?_
            refine J_aload_n dX1_reckonFewest_48 rfl rfl ?_
            refine J_iload_n dX1_reckonFewest_49 rfl rfl ?_
            refine J_iload dX1_reckonFewest_50 rfl ?_
            refine J_iload dX1_reckonFewest_52 rfl ?_
            refine J_iload_n dX1_reckonFewest_54 rfl rfl ?_
            refine J_iconst (v := 1) dX1_reckonFewest_55 (by decide) ?_
            refine J_isub dX1_reckonFewest_56 ?_
            refine J_callVw (As := [_, _, _, _]) dX1_reckonFewest_57 ml_X1_89 cal_X1_rematchesWith im_X1_rematchesWith se_X1_rematchesWith (hP1.at 0 rfl) rfl rfl rfl (Nat.le_of_ble_eq_true rfl) ⟨by omega, by show 8 + (6 + 11) + _ ≤ _; omega⟩ ⟨by decide, by decide⟩ (hF _ _ _ _ _ _ _ _ _ _ rfl hx rfl (sub1 p) h2 hii q3 q5 hm1 hP1) (fun A111 hQ111 => ?_)
            obtain ⟨fw111, hm111, hP111, hS111⟩ := hQ111
            rw [hy, ← egi]
            refine J_min dX1_reckonFewest_60 ml_X1_96 ⟨by omega, by show 0 + 13 ≤ _; omega⟩ ⟨by decide, by decide⟩ ?_
            rw [show (if nI gi < nI acc then nI gi else nI acc) = nI (if gi < acc then gi else acc) from by (repeat' split) <;> first | rfl | (exfalso; rename_i z1 z2; rw [i_lt, i_n (by omega), i_n (by omega)] at z1; omega)]
            refine J_istore (L' := [(5, _), (6, _), (4, _), (3, _), (2, _), (1, _), (0, _)]) dX1_reckonFewest_63 (by decide) rfl ?_
            refine J_iinc (v := _ + 1) (L' := [(6, _), (5, _), (4, _), (3, _), (2, _), (1, _), (0, _)]) dX1_reckonFewest_65 rfl rfl (by decide) rfl ?_
            refine J_goto (tgt := 22) dX1_reckonFewest_68 rfl ?_
            refine xx_J.pick [0, 1, 2, 3, 4, 5, 6] rfl ?_
            exact ih _ _ (if gi < acc then gi else acc) _ _ (by rw [hx]; exact nI_1 i) rfl (by split <;> omega) (by omega) hm111 hP111 (hs1.trans hS111) (by rw [← hv, mnv_s hii, if_pos h43, egi])
  
  refine xx_J.pick [0, 1, 2, 3, 6, 5, 4] rfl ?_
  exact loop (low s + 1) (by omega) _ fw (p + 1) _ _ (nI_1 _) rfl (Nat.le_refl _) (by omega) hm hP (xx_same.rf (b := bp) (e := bp + 6)) (mr_acc h12 hs hpc (by omega))
set_option maxHeartbeats 4000000 in
theorem c_few0 (hst : l.stackTraces = false) : Few G l bp PS met k 0 := by
  intro A n fw s x y hx hy hs hpc hm hP
  subst hx
  have ey : y.toInt = 0 := by rw [hy]; rfl
  refine J_C hst (by decide +kernel) rfl rfl rfl (Nat.le_of_ble_eq_true rfl) ?_
  show xx_J _ _ _ _ _ _ _ _ 0 [(0, _), (1, _), (2, _)] [] _ _ _ _
  refine J_iload_n dX1_fewestRematches_0 rfl rfl ?_
  refine J_if_le (tgt := 17) dX1_fewestRematches_1 rfl (fun h1 => ?_) (fun h1 => ?_)
  · refine J_iconst (v := 0) dX1_fewestRematches_17 (by decide) ?_
    refine J_ireturn dX1_fewestRematches_18 rfl rfl (by decide) (by decide) ?_
    exact ⟨rfl, rfl, _, hm, hP, (xx_same.rf (b := bp) (e := bp + 6))⟩
  · exfalso; simp only [i_lt, i_le, i_eq, i_0, i_1, i_2, i_3, i_4, i_5, i_6, i_8, i_9, i_10, i_12, i_16, i_20, i_m1] at h1; omega
set_option maxHeartbeats 4000000 in
theorem c_fewS (hst : l.stackTraces = false) (h12 : k ≤ 12) (hp6 : p + 1 ≤ 6) (hF : Rck G l bp PS met k p) : Few G l bp PS met k (p + 1) := by
  intro A n fw s x y hx hy hs hpc hm hP
  subst hx hy
  have h4 := pw12 h12
  have h40 : (Int32.ofNat 4096).toInt = 4096 := rfl
  have h0 : s ≠ 0 := fun z => by rw [z, pcn_z] at hpc; omega
  have ey : (nI (p + 1)).toInt = ((p + 1 : Nat) : Int) := i_n (by omega)
  have ex : (nI s).toInt = s := i_n (by omega)
  refine J_C hst (by decide +kernel) rfl rfl rfl (Nat.le_of_ble_eq_true rfl) ?_
  show xx_J _ _ _ _ _ _ _ _ 0 [(0, _), (1, _), (2, _)] [] _ _ _ _
  refine J_iload_n dX1_fewestRematches_0 rfl rfl ?_
  refine J_if_le (tgt := 17) dX1_fewestRematches_1 rfl (fun h1 => ?_) (fun h1 => ?_)
  · exfalso; simp only [i_lt, i_le, i_eq, i_0, i_1, i_2, i_3, i_4, i_5, i_6, i_8, i_9, i_10, i_12, i_16, i_20, i_m1] at h1; omega
  · refine J_iload_n dX1_fewestRematches_4 rfl rfl ?_
    refine J_if_le (tgt := 17) dX1_fewestRematches_5 rfl (fun h5 => ?_) (fun h5 => ?_)
    · exfalso; simp only [i_lt, i_le, i_eq, i_0, i_1, i_2, i_3, i_4, i_5, i_6, i_8, i_9, i_10, i_12, i_16, i_20, i_m1] at h5; omega
    · refine J_iload_n dX1_fewestRematches_8 rfl rfl ?_
      refine J_aload_n dX1_fewestRematches_9 rfl rfl ?_
      refine J_getf dX1_fewestRematches_10 fl_X1_37 (hP.at 0 rfl) rfl ?_
      refine J_alen dX1_fewestRematches_13 (hP.at 5 rfl) (by decide) rfl ?_
      refine J_icmp_lt (tgt := 19) dX1_fewestRematches_14 rfl (fun h14 => ?_) (fun h14 => ?_)
      · refine J_aload_n dX1_fewestRematches_19 rfl rfl ?_
        refine J_getf dX1_fewestRematches_20 fl_X1_37 (hP.at 0 rfl) rfl ?_
        refine J_iload_n dX1_fewestRematches_23 rfl rfl ?_
        refine J_ialdN s dX1_fewestRematches_24 (hP.at 5 rfl) rfl (by omega) (by decide) ?_
        refine J_iconst (v := -1) dX1_fewestRematches_25 (by decide) ?_
        refine J_icmp_ne (tgt := 41) dX1_fewestRematches_26 rfl (fun h26 => ?_) (fun h26 => ?_)
        · refine J_aload_n dX1_fewestRematches_41 rfl rfl ?_
          refine J_getf dX1_fewestRematches_42 fl_X1_37 (hP.at 0 rfl) rfl ?_
          refine J_iload_n dX1_fewestRematches_45 rfl rfl ?_
          refine J_ialdN s dX1_fewestRematches_46 (hP.at 5 rfl) rfl (by omega) (by decide) ?_
          refine J_ireturn dX1_fewestRematches_47 rfl rfl (by decide) (by decide) ?_
          refine ⟨?_, rfl, _, hm, hP, (xx_same.rf (b := bp) (e := bp + 6))⟩
          have z := (hm s hs).resolve_left h26
          rw [hpc, show 2 * (p + 1) / 2 = p + 1 by omega] at z
          exact congrArg (fun v => Sum.inl (some (Value.int v))) z
        · refine J_aload_n dX1_fewestRematches_29 rfl rfl ?_
          refine J_getf dX1_fewestRematches_30 fl_X1_37 (hP.at 0 rfl) rfl ?_
          refine J_iload_n dX1_fewestRematches_33 rfl rfl ?_
          refine J_aload_n dX1_fewestRematches_34 rfl rfl ?_
          refine J_iload_n dX1_fewestRematches_35 rfl rfl ?_
          refine J_iload_n dX1_fewestRematches_36 rfl rfl ?_
          refine J_callVw (As := [_, _]) dX1_fewestRematches_37 ml_X1_93 cal_X1_reckonFewest im_X1_reckonFewest se_X1_reckonFewest (hP.at 0 rfl) rfl rfl rfl (Nat.le_of_ble_eq_true rfl) ⟨by omega, by show 8 + (7 + 11) + _ ≤ _; omega⟩ ⟨by decide, by decide⟩ (hF _ _ _ _ _ _ rfl rfl hs hpc hm hP) (fun A1 hQ1 => ?_)
          obtain ⟨fw1, hm1, hP1, hS1⟩ := hQ1
          refine J_iastN s dX1_fewestRematches_40 (hP1.at 5 rfl) rfl (by omega) (by decide) ?_
          refine J_gen (wP_a5 hP1 _) (((xx_same.rf (b := bp) (e := bp + 6)).trans hS1).put (by omega) (by omega) _) (fun A2 w2 s2 o2 => ?_)
          refine J_aload_n dX1_fewestRematches_41 rfl rfl ?_
          refine J_getf dX1_fewestRematches_42 fl_X1_37 (w2.at 0 rfl) rfl ?_
          refine J_iload_n dX1_fewestRematches_45 rfl rfl ?_
          refine J_ialdN s dX1_fewestRematches_46 (w2.at 5 rfl) rfl (by omega) (by decide) ?_
          refine J_ireturn dX1_fewestRematches_47 rfl rfl (by decide) (by decide) ?_
          refine ⟨?_, rfl, _, mok_upd hm1 hpc, wP_uu w2, s2⟩
          show Sum.inl (some (Value.int (upd fw1 s _ s))) = _
          rw [show upd fw1 s (nI (mr met k (p + 1) s)) s = nI (mr met k (p + 1) s) from by simp [upd]]
      · exfalso; simp only [i_lt, i_le, i_eq, i_0, i_1, i_2, i_3, i_4, i_5, i_6, i_8, i_9, i_10, i_12, i_16, i_20, i_m1] at h14; omega
theorem c_few (hst : l.stackTraces = false) (hk : PS.1 5 = nI k) (h12 : k ≤ 12) (hmb : mbt met k (PS.2 4)) : ∀ p, p ≤ 6 → Few G l bp PS met k p := by
  intro p
  induction p with
  | zero => intro _; exact c_few0 hst
  | succ p ih => intro hp; exact c_fewS hst h12 hp (c_rck hst hk h12 hmb hp (c_rem hst hk h12 hmb (ih (by omega))))
end XPB
