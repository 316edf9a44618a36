/-! StringBuilder -/
section XSC
variable {G : xx_G} {l : Launch} {A A' : xx_H} {n : Nat} {k j i q s e t d : Nat}
theorem cl_same : Cond.sameMethod "[B" "java/lang/Object" "clone" "()Ljava/lang/Object;" ∈ xx_T := xx_good6 (i := 35) (by decide +kernel) (by decide +kernel)
theorem cl_nat : Cond.native ⟨"java/lang/Object", "clone", "()Ljava/lang/Object;"⟩ ∈ xx_T := xx_good6 (i := 36) (by decide +kernel) (by decide +kernel)
theorem cl_inst : Cond.instanceMethod ⟨"java/lang/Object", "clone", "()Ljava/lang/Object;"⟩ ∈ xx_T := xx_good6 (i := 37) (by decide +kernel) (by decide +kernel)
theorem cl_sel : Cond.selects "[B" ⟨"[B", "clone", "()Ljava/lang/Object;"⟩ ⟨"java/lang/Object", "clone", "()Ljava/lang/Object;"⟩ ∈ xx_T := xx_good6 (i := 38) (by decide +kernel) (by decide +kernel)
theorem cl_cast : Cond.castable "[B" "java/lang/Cloneable" ∈ xx_N := List.mem_filter.mpr ⟨xx_sub6 _ (List.mem_of_getElem? (i := 39) (by decide +kernel)), by decide +kernel⟩
theorem J_ltA {M : xx_M} {fr lo mc ms : Nat} {Post : xx_Q} {pc : Nat} {L : List (Nat × Value)} {S : List Value} {k j : Nat} (kk : (∀ (h : Nat) (c : va_E), A h = some c → h < n) → xx_J G l M fr lo mc ms Post pc L S A n k j) : xx_J G l M fr lo mc ms Post pc L S A n k j := by
  intro p e s m args below meth cd ad0 n0 F ad H locs ls a
  exact kk (fun h c hA => (a.2.2.1.2.2.1 _ _ hA).2.1) p e s m args below meth cd ad0 n0 F ad H locs ls a
/-- a StringBuilder at h, its bytes at v (room for m), that holds tx -/
def sbW (A : xx_H) (h v m : Nat) (tx : List Int32) : Prop := A h = some (oB v (nI tx.length)) ∧ ∃ f, A v = some (rB m f) ∧ hol f 0 tx ∧ bfit f ∧ tx.length ≤ m ∧ m ≤ 1802
theorem sbW.ne {h v m : Nat} {tx : List Int32} (w : sbW A h v m tx) : v ≠ h := by
  obtain ⟨h1, f, h2, -⟩ := w
  intro e
  subst e
  rw [h1] at h2
  cases h2
theorem sbW.up {h v m : Nat} {tx : List Int32} (w : sbW A h v m tx) (h1 : A' h = A h) (h2 : A' v = A v) : sbW A' h v m tx := by
  obtain ⟨g1, f, g2, g3⟩ := w
  exact ⟨h1.trans g1, f, h2.trans g2, g3⟩
theorem strV.up {h : Nat} {tx : List Int32} (w : strV A h tx) (o : ∀ c, ∀ z, A z = some c → (∃ v, c = oT v) ∨ (∃ m f, c = rB m f) → A' z = A z) : strV A' h tx := by
  rcases w with w | ⟨v, f, h1, h2, h3, h4⟩
  · exact Or.inl w
  · exact Or.inr ⟨v, f, (o _ _ h1 (Or.inl ⟨v, rfl⟩)).trans h1, (o _ _ h2 (Or.inr ⟨_, f, rfl⟩)).trans h2, h3, h4⟩
/-- behind an append -/
def apQ (A : xx_H) (h v n : Nat) (tx : List Int32) : xx_Q := fun r A' n' => r = .inl (some (.ref h)) ∧ n ≤ n' ∧ n' ≤ n + 1 ∧ ∃ v' m', sbW A' h v' m' tx ∧ (v' = v ∨ (n ≤ v' ∧ v' < n')) ∧ ∀ z, z < n → z ≠ h → z ≠ v → A' z = A z
theorem c_J5_isLatin1_aae02 (hst : l.stackTraces = false) {h v : Nat} {c : Int32} (hA : A h = some (oB v c)) : xx_C G l yJ5_isLatin1_aae02 mJ5_isLatin1_aae02 0 0 0 0 [.ref h] A n (xx_ro (some (.int 1)) A n) := by
  refine J_C hst (by decide +kernel) rfl rfl rfl (Nat.le_of_ble_eq_true rfl) ?_
  show xx_J _ _ _ _ _ _ _ _ 0 [(0, _)] [] _ _ _ _
  refine J_gets (v := .int 1) dJ5_isLatin1_aae02_0 st_cs trivial sl_J5_18 ?_
  refine J_if_eq (tgt := 17) dJ5_isLatin1_aae02_3 rfl (fun h3 => ?_) (fun h3 => ?_)
  · exact absurd h3 (by decide)
  · refine J_aload_n dJ5_isLatin1_aae02_6 rfl rfl ?_
    refine J_getf dJ5_isLatin1_aae02_7 fl_J5_22 (hA) rfl ?_
    refine J_if_ne (tgt := 17) dJ5_isLatin1_aae02_10 rfl (fun h10 => ?_) (fun h10 => ?_)
    · exact absurd rfl h10
    · refine J_iconst (v := 1) dJ5_isLatin1_aae02_13 (by decide) ?_
      refine J_goto (tgt := 18) dJ5_isLatin1_aae02_14 rfl ?_
      refine J_ireturn dJ5_isLatin1_aae02_18 rfl rfl (by decide) (by decide) ?_
      exact ⟨rfl, rfl, rfl⟩
theorem c_J5_length_8abf5 (hst : l.stackTraces = false) {h v : Nat} {c : Int32} (hA : A h = some (oB v c)) : xx_C G l yJ5_length_8abf5 mJ5_length_8abf5 0 0 0 0 [.ref h] A n (xx_ro (some (.int c)) A n) := by
  refine J_C hst (by decide +kernel) rfl rfl rfl (Nat.le_of_ble_eq_true rfl) ?_
  show xx_J _ _ _ _ _ _ _ _ 0 [(0, _)] [] _ _ _ _
  refine J_aload_n dJ5_length_8abf5_0 rfl rfl ?_
  refine J_getf dJ5_length_8abf5_1 fl_J5_79 (hA) rfl ?_
  refine J_ireturn dJ5_length_8abf5_4 rfl rfl (by decide) (by decide) ?_
  exact ⟨rfl, rfl, rfl⟩
theorem c_J4_length_8abf5 (hst : l.stackTraces = false) {h v : Nat} {c : Int32} (hA : A h = some (oB v c)) : xx_C G l yJ4_length_8abf5 mJ4_length_8abf5 1 20 0 0 [.ref h] A n (xx_ro (some (.int c)) A n) := by
  refine J_C hst (by decide +kernel) rfl rfl rfl (Nat.le_of_ble_eq_true rfl) ?_
  show xx_J _ _ _ _ _ _ _ _ 0 [(0, _)] [] _ _ _ _
  refine J_aload_n dJ4_length_8abf5_0 rfl rfl ?_
  refine J_callSU (As := []) rfl dJ4_length_8abf5_1 ml_J4_343 sa_J5_length_8abf5 su_J4 cal_J5_length_8abf5 (by decide) im_J5_length_8abf5 hA rfl rfl (Nat.le_of_ble_eq_true rfl) ⟨by decide, by decide⟩ ⟨by decide, by decide⟩ (c_J5_length_8abf5 hst hA) (fun _ _ _ _ hE => absurd hE.1 (fun z => nomatch z)) (fun v9 A9 n9 _ hQ => ?_)
  obtain ⟨e9, hA9, hn9⟩ := hQ
  subst A9
  subst n9
  cases e9
  refine J_ireturn dJ4_length_8abf5_4 rfl rfl (by decide) (by decide) ?_
  exact ⟨rfl, rfl, rfl⟩
theorem c_J5_getValue_6d5f1 (hst : l.stackTraces = false) {h v : Nat} {c : Int32} (hA : A h = some (oB v c)) : xx_C G l yJ5_getValue_6d5f1 mJ5_getValue_6d5f1 0 0 0 0 [.ref h] A n (xx_ro (some (.ref v)) A n) := by
  refine J_C hst (by decide +kernel) rfl rfl rfl (Nat.le_of_ble_eq_true rfl) ?_
  show xx_J _ _ _ _ _ _ _ _ 0 [(0, _)] [] _ _ _ _
  refine J_aload_n dJ5_getValue_6d5f1_0 rfl rfl ?_
  refine J_getf dJ5_getValue_6d5f1_1 fl_J5_15 (hA) rfl ?_
  refine J_areturnA dJ5_getValue_6d5f1_4 rfl (by decide) (by decide) ?_
  exact ⟨rfl, rfl, rfl⟩
theorem c_J8_newLength_cabcc (hst : l.stackTraces = false) {x y z : Nat} (hx : x < 65536) (hy : y < 65536) (hz : z < 65536) (hp : 0 < x + max y z) : xx_C G l yJ8_newLength_cabcc mJ8_newLength_cabcc 1 21 0 0 [.int (nI x), .int (nI y), .int (nI z)] A n (xx_ro (some (.int (nI (x + max y z)))) A n) := by
  have hmx : (if nI y < nI z then nI z else nI y) = nI (max y z) := by
    by_cases h : y < z
    · rw [if_pos (nI_lt h (by omega)), Nat.max_eq_right (by omega)]
    · rw [if_neg (nI_nlt (by omega) (by omega)), Nat.max_eq_left (by omega)]
  refine J_C hst (by decide +kernel) rfl rfl rfl (Nat.le_of_ble_eq_true rfl) ?_
  show xx_J _ _ _ _ _ _ _ _ 0 [(0, _), (1, _), (2, _)] [] _ _ _ _
  refine J_iload_n dJ8_newLength_cabcc_0 rfl rfl ?_
  refine J_iload_n dJ8_newLength_cabcc_1 rfl rfl ?_
  refine J_iload_n dJ8_newLength_cabcc_2 rfl rfl ?_
  refine J_max dJ8_newLength_cabcc_3 ml_J8_194 ⟨by decide, Nat.le_of_ble_eq_true rfl⟩ ⟨by decide, by decide⟩ ?_
  rw [hmx]
  refine J_iadd dJ8_newLength_cabcc_6 ?_
  rw [nI_add]
  refine J_istore_n (L' := [(3, _), (0, _), (1, _), (2, _)]) dJ8_newLength_cabcc_7 rfl (by decide) rfl ?_
  refine J_iconst (v := 0) dJ8_newLength_cabcc_8 (by decide) ?_
  refine J_iload_n dJ8_newLength_cabcc_9 rfl rfl ?_
  refine J_icmp_ge (tgt := 21) dJ8_newLength_cabcc_10 rfl (fun h => absurd h (by rw [i_le]; rw [i_n (by omega), i_0]; omega)) (fun _ => ?_)
  refine J_iload_n dJ8_newLength_cabcc_13 rfl rfl ?_
  refine J_ldci dJ8_newLength_cabcc_14 kc_J8_200 ?_
  refine J_icmp_gt (tgt := 21) dJ8_newLength_cabcc_16 rfl (fun h => absurd h (show ¬ nI 2147483639 < nI _ from nI_nlt (by omega) (by decide))) (fun _ => ?_)
  refine J_iload_n dJ8_newLength_cabcc_19 rfl rfl ?_
  refine J_ireturn dJ8_newLength_cabcc_20 rfl rfl (by decide) (by decide) ?_
  exact ⟨rfl, rfl, rfl⟩
theorem c_J5_newCapacity_0f7a4 (hst : l.stackTraces = false) {h v m q : Nat} {c : Int32} {f : Nat → Int32} (hA : A h = some (oB v c)) (hB : A v = some (rB m f)) (hm : m < q) (hq : q ≤ 900) : xx_C G l yJ5_newCapacity_0f7a4 mJ5_newCapacity_0f7a4 2 44 0 0 [.ref h, .int (nI q)] A n (xx_ro (some (.int (nI (sb_cap q m)))) A n) := by
  have hcap : m + max (q - m) (m + 2) = sb_cap q m := by unfold sb_cap; rw [if_neg (by omega)]; split <;> omega
  have hg := sb_cap_ge q m
  refine J_C hst (by decide +kernel) rfl rfl rfl (Nat.le_of_ble_eq_true rfl) ?_
  show xx_J _ _ _ _ _ _ _ _ 0 [(0, _), (1, _)] [] _ _ _ _
  refine J_aload_n dJ5_newCapacity_0f7a4_0 rfl rfl ?_
  refine J_getf dJ5_newCapacity_0f7a4_1 fl_J5_15 (hA) rfl ?_
  refine J_alen (v := nI m) dJ5_newCapacity_0f7a4_4 hB (by decide) rfl ?_
  refine J_istore_n (L' := [(2, _), (0, _), (1, _)]) dJ5_newCapacity_0f7a4_5 rfl (by decide) rfl ?_
  refine J_iload_n dJ5_newCapacity_0f7a4_6 rfl rfl ?_
  refine J_aload_n dJ5_newCapacity_0f7a4_7 rfl rfl ?_
  refine J_getf dJ5_newCapacity_0f7a4_8 fl_J5_22 (hA) rfl ?_
  refine J_ishl dJ5_newCapacity_0f7a4_11 ?_
  rw [sb_shl0]
  refine J_istore_n (L' := [(3, _), (2, _), (0, _), (1, _)]) dJ5_newCapacity_0f7a4_12 rfl (by decide) rfl ?_
  refine J_iload_n dJ5_newCapacity_0f7a4_13 rfl rfl ?_
  refine J_iload_n dJ5_newCapacity_0f7a4_14 rfl rfl ?_
  refine J_isub dJ5_newCapacity_0f7a4_15 ?_
  rw [show nI q - nI m = nI (q - m) from pk_sub (by omega)]
  refine J_istore (L' := [(4, _), (3, _), (2, _), (0, _), (1, _)]) dJ5_newCapacity_0f7a4_16 (by decide) rfl ?_
  refine J_iload_n dJ5_newCapacity_0f7a4_18 rfl rfl ?_
  refine J_iload dJ5_newCapacity_0f7a4_19 rfl ?_
  refine J_iload_n dJ5_newCapacity_0f7a4_21 rfl rfl ?_
  refine J_iconst (v := 2) dJ5_newCapacity_0f7a4_22 (by decide) ?_
  refine J_aload_n dJ5_newCapacity_0f7a4_23 rfl rfl ?_
  refine J_getf dJ5_newCapacity_0f7a4_24 fl_J5_22 (hA) rfl ?_
  refine J_ishl dJ5_newCapacity_0f7a4_27 ?_
  rw [sb_shl0]
  refine J_iadd dJ5_newCapacity_0f7a4_28 ?_
  rw [show nI m + 2 = nI (m + 2) from nI_add m 2]
  refine J_callSr (As := [.int (nI m), .int (nI (q - m)), .int (nI (m + 2))]) dJ5_newCapacity_0f7a4_29 ml_J5_114 cal_J8_newLength_cabcc sm_J8_newLength_cabcc rfl rfl (Nat.le_of_ble_eq_true rfl) ⟨by decide, by decide⟩ ⟨by decide, by decide⟩ (c_J8_newLength_cabcc hst (by omega) (by omega) (by omega) (by omega)) ?_
  rw [hcap]
  refine J_istore (L' := [(5, _), (4, _), (3, _), (2, _), (0, _), (1, _)]) dJ5_newCapacity_0f7a4_32 (by decide) rfl ?_
  refine J_iload dJ5_newCapacity_0f7a4_34 rfl ?_
  refine J_ldci dJ5_newCapacity_0f7a4_36 kc_J5_39 ?_
  refine J_icmp_ne (tgt := 51) dJ5_newCapacity_0f7a4_38 rfl (fun _ => ?_) (fun h => absurd h (fun z => by have := (nI_eq (by omega) (by decide)).mp (show nI (sb_cap q m) = nI 2147483647 from z); omega))
  refine J_iload dJ5_newCapacity_0f7a4_51 rfl ?_
  refine J_aload_n dJ5_newCapacity_0f7a4_53 rfl rfl ?_
  refine J_getf dJ5_newCapacity_0f7a4_54 fl_J5_22 (hA) rfl ?_
  refine J_ishr dJ5_newCapacity_0f7a4_57 ?_
  rw [sb_shr0]
  refine J_ireturn dJ5_newCapacity_0f7a4_58 rfl rfl (by decide) (by decide) ?_
  exact ⟨rfl, rfl, rfl⟩
theorem cap_le {q m : Nat} (hm : m < q) (hq : q ≤ 900) : sb_cap q m ≤ 1802 ∧ q ≤ sb_cap q m := by
  refine ⟨?_, sb_cap_ge q m⟩
  unfold sb_cap
  rw [if_neg (by omega)]
  split <;> omega
theorem c_J7_copyOf_9075b (hst : l.stackTraces = false) {v m q : Nat} {f : Nat → Int32} (hB : A v = some (rB m f)) (hf : bfit f) (hm : m < q) (hq : q ≤ 1802) : xx_C G l yJ7_copyOf_9075b mJ7_copyOf_9075b 1 60 1 1802 [.ref v, .int (nI q)] A n (fun r A' n' => r = .inl (some (.ref n)) ∧ n' = n + 1 ∧ ∃ g, A' n = some (rB q g) ∧ (∀ z, z < n → A' z = A z) ∧ (∀ i, i < m → g i = f i) ∧ bfit g) := by
  refine J_C hst (by decide +kernel) rfl rfl rfl (Nat.le_of_ble_eq_true rfl) ?_
  show xx_J _ _ _ _ _ _ _ _ 0 [(0, _), (1, _)] [] _ _ _ _
  refine J_lt hB (fun hvn => ?_)
  refine J_iload_n dJ7_copyOf_9075b_0 rfl rfl ?_
  refine J_aload_n dJ7_copyOf_9075b_1 rfl rfl ?_
  refine J_alen (v := nI m) dJ7_copyOf_9075b_2 hB (by decide) rfl ?_
  refine J_icmp_ne (tgt := 14) dJ7_copyOf_9075b_3 rfl (fun _ => ?_) (fun h => absurd h (fun z => by have := (nI_eq (by omega) (by omega)).mp (show nI q = nI m from z); omega))
  refine J_iload_n dJ7_copyOf_9075b_14 rfl rfl ?_
  refine J_newb (N := q) dJ7_copyOf_9075b_15 ac_byte (nI_pos (by omega)) (nI_clamp (by omega)) (by omega) (by decide) (by omega) ?_
  refine J_up (fun A1 g1 o1 => ?_)
  have hB1 : A1 v = some (rB m f) := (o1 v (by omega)).trans hB
  refine J_astore_n (L' := [(2, _), (0, _), (1, _)]) dJ7_copyOf_9075b_17 rfl (by decide) rfl ?_
  refine J_aload_n dJ7_copyOf_9075b_18 rfl rfl ?_
  refine J_iconst (v := 0) dJ7_copyOf_9075b_19 (by decide) ?_
  refine J_aload_n dJ7_copyOf_9075b_20 rfl rfl ?_
  refine J_iconst (v := 0) dJ7_copyOf_9075b_21 (by decide) ?_
  refine J_aload_n dJ7_copyOf_9075b_22 rfl rfl ?_
  refine J_alen (v := nI m) dJ7_copyOf_9075b_23 hB1 (by decide) rfl ?_
  refine J_iload_n dJ7_copyOf_9075b_24 rfl rfl ?_
  refine J_min dJ7_copyOf_9075b_25 ml_J7_304 ⟨by decide, Nat.le_of_ble_eq_true rfl⟩ ⟨by decide, by omega⟩ ?_
  rw [show (if nI q < nI m then nI q else nI m) = nI m from if_neg (nI_nlt (by omega) (by omega))]
  refine J_copyB rfl dJ7_copyOf_9075b_28 ml_J7_150 na_copy sm_copy in_java_lang_System hB1 g1 (nI_pos (n := 0) (by decide)) (nI_pos (n := 0) (by decide)) (nI_pos (by omega)) (by rw [sb_cl0, nI_clamp (by omega)]; omega) (by rw [sb_cl0, nI_clamp (by omega)]; omega) hf ⟨by decide, by decide⟩ ?_
  rw [sb_cl0, nI_clamp (by omega)]
  refine J_up (fun A2 g2 o2 => ?_)
  refine J_aload_n dJ7_copyOf_9075b_31 rfl rfl ?_
  refine J_areturnA dJ7_copyOf_9075b_32 rfl (by decide) (by omega) ?_
  exact ⟨rfl, rfl, _, g2, fun z hz => (o2 z (by omega)).trans (o1 z (by omega)), fun i hi => sb_cpy0 hi, sb_fitC hf sb_fit0⟩
theorem c1_ensure (hst : l.stackTraces = false) {h v m q : Nat} {c : Int32} {f : Nat → Int32} (hA : A h = some (oB v c)) (hB : A v = some (rB m f)) (hf : bfit f) (hq : q ≤ 900) (hm : m ≤ 1802) (hqm : q ≤ m) : xx_C G l yJ5_ensureCapacityInternal_d00df mJ5_ensureCapacityInternal_d00df 3 82 1 1802 [.ref h, .int (nI q)] A n (fun r A' n' => r = .inl none ∧ n ≤ n' ∧ n' ≤ n + 1 ∧ ∃ v' m' f', A' h = some (oB v' c) ∧ A' v' = some (rB m' f') ∧ q ≤ m' ∧ m ≤ m' ∧ m' ≤ 1802 ∧ (∀ i, i < m → f' i = f i) ∧ bfit f' ∧ (v' = v ∨ (n ≤ v' ∧ v' < n')) ∧ ∀ z, z < n → z ≠ h → A' z = A z) := by
  refine J_C hst (by decide +kernel) rfl rfl rfl (Nat.le_of_ble_eq_true rfl) ?_
  show xx_J _ _ _ _ _ _ _ _ 0 [(0, _), (1, _)] [] _ _ _ _
  refine J_aload_n dJ5_ensureCapacityInternal_d00df_0 rfl rfl ?_
  refine J_getf dJ5_ensureCapacityInternal_d00df_1 fl_J5_15 (hA) rfl ?_
  refine J_alen (v := nI m) dJ5_ensureCapacityInternal_d00df_4 hB (by decide) rfl ?_
  refine J_aload_n dJ5_ensureCapacityInternal_d00df_5 rfl rfl ?_
  refine J_getf dJ5_ensureCapacityInternal_d00df_6 fl_J5_22 (hA) rfl ?_
  refine J_ishr dJ5_ensureCapacityInternal_d00df_9 ?_
  rw [sb_shr0]
  refine J_istore_n (L' := [(2, _), (0, _), (1, _)]) dJ5_ensureCapacityInternal_d00df_10 rfl (by decide) rfl ?_
  refine J_iload_n dJ5_ensureCapacityInternal_d00df_11 rfl rfl ?_
  refine J_iload_n dJ5_ensureCapacityInternal_d00df_12 rfl rfl ?_
  refine J_isub dJ5_ensureCapacityInternal_d00df_13 ?_
  refine J_if_le (tgt := 38) dJ5_ensureCapacityInternal_d00df_14 rfl (fun _ => ?_) (fun h => absurd (by rw [Int32.le_iff_toInt_le, pk_sub_toInt (by omega) (by omega), Int32.toInt_zero]; omega) h)
  refine J_return dJ5_ensureCapacityInternal_d00df_38 rfl (by decide) (by decide) ?_
  exact ⟨rfl, Nat.le_refl _, Nat.le_succ _, v, m, f, hA, hB, hqm, Nat.le_refl _, hm, fun _ _ => rfl, hf, Or.inl rfl, fun _ _ _ => rfl⟩
theorem c2_ensure (hst : l.stackTraces = false) {h v m q : Nat} {c : Int32} {f : Nat → Int32} (hA : A h = some (oB v c)) (hB : A v = some (rB m f)) (hf : bfit f) (hq : q ≤ 900) (hm : m ≤ 1802) (hqm : m < q) : xx_C G l yJ5_ensureCapacityInternal_d00df mJ5_ensureCapacityInternal_d00df 3 82 1 1802 [.ref h, .int (nI q)] A n (fun r A' n' => r = .inl none ∧ n ≤ n' ∧ n' ≤ n + 1 ∧ ∃ v' m' f', A' h = some (oB v' c) ∧ A' v' = some (rB m' f') ∧ q ≤ m' ∧ m ≤ m' ∧ m' ≤ 1802 ∧ (∀ i, i < m → f' i = f i) ∧ bfit f' ∧ (v' = v ∨ (n ≤ v' ∧ v' < n')) ∧ ∀ z, z < n → z ≠ h → A' z = A z) := by
  have hcl := cap_le hqm hq
  refine J_C hst (by decide +kernel) rfl rfl rfl (Nat.le_of_ble_eq_true rfl) ?_
  show xx_J _ _ _ _ _ _ _ _ 0 [(0, _), (1, _)] [] _ _ _ _
  refine J_lt hA (fun hhn => ?_)
  refine J_lt hB (fun hvn => ?_)
  refine J_aload_n dJ5_ensureCapacityInternal_d00df_0 rfl rfl ?_
  refine J_getf dJ5_ensureCapacityInternal_d00df_1 fl_J5_15 (hA) rfl ?_
  refine J_alen (v := nI m) dJ5_ensureCapacityInternal_d00df_4 hB (by decide) rfl ?_
  refine J_aload_n dJ5_ensureCapacityInternal_d00df_5 rfl rfl ?_
  refine J_getf dJ5_ensureCapacityInternal_d00df_6 fl_J5_22 (hA) rfl ?_
  refine J_ishr dJ5_ensureCapacityInternal_d00df_9 ?_
  rw [sb_shr0]
  refine J_istore_n (L' := [(2, _), (0, _), (1, _)]) dJ5_ensureCapacityInternal_d00df_10 rfl (by decide) rfl ?_
  refine J_iload_n dJ5_ensureCapacityInternal_d00df_11 rfl rfl ?_
  refine J_iload_n dJ5_ensureCapacityInternal_d00df_12 rfl rfl ?_
  refine J_isub dJ5_ensureCapacityInternal_d00df_13 ?_
  refine J_if_le (tgt := 38) dJ5_ensureCapacityInternal_d00df_14 rfl (fun h => absurd h (by rw [Int32.le_iff_toInt_le, pk_sub_toInt (by omega) (by omega), Int32.toInt_zero]; omega)) (fun _ => ?_)
  refine J_aload_n dJ5_ensureCapacityInternal_d00df_17 rfl rfl ?_
  refine J_aload_n dJ5_ensureCapacityInternal_d00df_18 rfl rfl ?_
  refine J_getf dJ5_ensureCapacityInternal_d00df_19 fl_J5_15 (hA) rfl ?_
  refine J_aload_n dJ5_ensureCapacityInternal_d00df_22 rfl rfl ?_
  refine J_iload_n dJ5_ensureCapacityInternal_d00df_23 rfl rfl ?_
  refine J_callVU (y := yJ5_newCapacity_0f7a4) (As := [.int (nI q)]) dJ5_ensureCapacityInternal_d00df_24 ml_J5_104 sa_J5_newCapacity_0f7a4 cal_J5_newCapacity_0f7a4 rfl im_J5_newCapacity_0f7a4 rfl cal_J5_newCapacity_0f7a4 im_J5_newCapacity_0f7a4 sv_J5_newCapacity_0f7a4 hA rfl rfl (Nat.le_of_ble_eq_true rfl) ⟨by decide, by decide⟩ ⟨by decide, by decide⟩ (c_J5_newCapacity_0f7a4 hst hA hB hqm hq) (fun _ _ _ _ hE => absurd hE.1 (fun z => nomatch z)) (fun v9 A9 n9 _ hQ => ?_)
  obtain ⟨e9, hA9, hn9⟩ := hQ
  subst A9
  subst n9
  cases e9
  refine J_aload_n dJ5_ensureCapacityInternal_d00df_27 rfl rfl ?_
  refine J_getf dJ5_ensureCapacityInternal_d00df_28 fl_J5_22 (hA) rfl ?_
  refine J_ishl dJ5_ensureCapacityInternal_d00df_31 ?_
  rw [sb_shl0]
  refine J_callSg (As := [.ref v, .int (nI (sb_cap q m))]) dJ5_ensureCapacityInternal_d00df_32 ml_J5_108 cal_J7_copyOf_9075b rfl sm_J7_copyOf_9075b rfl (Nat.le_of_ble_eq_true rfl) ⟨by decide, by decide⟩ ⟨by decide, by decide⟩ (c_J7_copyOf_9075b hst hB hf (by omega) hcl.1) (fun v9 A9 n9 _ hQ => ?_) (fun _ _ _ _ hE => absurd hE.1 (fun z => nomatch z))
  obtain ⟨e9, rfl, g, g1, o1, g3, g4⟩ := hQ
  cases e9
  refine J_putf dJ5_ensureCapacityInternal_d00df_35 fp_J5_15 (fun _ => ⟨rfl, rfl⟩) ((o1 h hhn).trans hA) (Nat.le_of_ble_eq_true rfl) ?_
  refine J_up (fun A1 g5 o5 => ?_)
  refine J_return dJ5_ensureCapacityInternal_d00df_38 rfl (by decide) (by decide) ?_
  exact ⟨rfl, Nat.le_succ _, Nat.le_refl _, _, sb_cap q m, g, g5, (o5 _ (by omega)).trans g1, hcl.2, by omega, hcl.1, g3, g4, Or.inr ⟨Nat.le_refl _, Nat.lt_succ_self _⟩, fun z hz hzh => (o5 z hzh).trans (o1 z hz)⟩
theorem c_ensure (hst : l.stackTraces = false) {h v m q : Nat} {c : Int32} {f : Nat → Int32} (hA : A h = some (oB v c)) (hB : A v = some (rB m f)) (hf : bfit f) (hq : q ≤ 900) (hm : m ≤ 1802) : xx_C G l yJ5_ensureCapacityInternal_d00df mJ5_ensureCapacityInternal_d00df 3 82 1 1802 [.ref h, .int (nI q)] A n (fun r A' n' => r = .inl none ∧ n ≤ n' ∧ n' ≤ n + 1 ∧ ∃ v' m' f', A' h = some (oB v' c) ∧ A' v' = some (rB m' f') ∧ q ≤ m' ∧ m ≤ m' ∧ m' ≤ 1802 ∧ (∀ i, i < m → f' i = f i) ∧ bfit f' ∧ (v' = v ∨ (n ≤ v' ∧ v' < n')) ∧ ∀ z, z < n → z ≠ h → A' z = A z) := by
  by_cases h9 : q ≤ m
  · exact c1_ensure hst hA hB hf hq hm h9
  · exact c2_ensure hst hA hB hf hq hm (by omega)
theorem c_J5_inflateIfNeededFor_a7421 (hst : l.stackTraces = false) {h v u : Nat} {c : Int32} {tx : List Int32} (hA : A h = some (oB v c)) (hV : strV A u tx) : xx_C G l yJ5_inflateIfNeededFor_a7421 mJ5_inflateIfNeededFor_a7421 1 20 0 0 [.ref h, .ref u] A n (xx_wr none n (fun A' => A' = A)) := by
  refine J_C hst (by decide +kernel) rfl rfl rfl (Nat.le_of_ble_eq_true rfl) ?_
  show xx_J _ _ _ _ _ _ _ _ 0 [(0, _), (1, _)] [] _ _ _ _
  refine J_gets (v := .int 1) dJ5_inflateIfNeededFor_a7421_0 st_cs trivial sl_J5_18 ?_
  refine J_if_eq (tgt := 21) dJ5_inflateIfNeededFor_a7421_3 rfl (fun h3 => ?_) (fun h3 => ?_)
  · exact absurd h3 (by decide)
  · refine J_aload_n dJ5_inflateIfNeededFor_a7421_6 rfl rfl ?_
    refine J_getf dJ5_inflateIfNeededFor_a7421_7 fl_J5_22 (hA) rfl ?_
    refine J_aload_n dJ5_inflateIfNeededFor_a7421_10 rfl rfl ?_
    refine J_callT (As := []) dJ5_inflateIfNeededFor_a7421_11 ml_J5_40 cal_J0_coder_7d493 im_J0_coder_7d493 se_J0_coder_7d493 rfl (hV) rfl rfl (Nat.le_of_ble_eq_true rfl) ⟨by decide, by decide⟩ ⟨by decide, by decide⟩ (c_str_coder hst hV) ?_
    refine J_icmp_eq (tgt := 21) dJ5_inflateIfNeededFor_a7421_14 rfl (fun h14 => ?_) (fun h14 => ?_)
    · refine J_return dJ5_inflateIfNeededFor_a7421_21 rfl (by decide) (by decide) ?_
      exact ⟨rfl, rfl, rfl⟩
    · exact absurd rfl h14
theorem c_J5_putStringAt_47b60 (hst : l.stackTraces = false) {h v u m p : Nat} {c : Int32} {tx : List Int32} {f : Nat → Int32} (hA : A h = some (oB v c)) (hB : A v = some (rB m f)) (hf : bfit f) (hp : p + tx.length ≤ m) (hm : m < 65536) (hV : strV A u tx) : xx_C G l yJ5_putStringAt_47b60 mJ5_putStringAt_47b60 2 83 0 0 [.ref h, .int (nI p), .ref u] A n (xx_wr none n (fun A' => ∃ g', A' = xx_up A v (rB m g') ∧ (∀ i, i < p → g' i = f i) ∧ hol g' p tx ∧ bfit g')) := by
  refine J_C hst (by decide +kernel) rfl rfl rfl (Nat.le_of_ble_eq_true rfl) ?_
  show xx_J _ _ _ _ _ _ _ _ 0 [(0, _), (1, _), (2, _)] [] _ _ _ _
  refine J_aload_n dJ5_putStringAt_47b60_0 rfl rfl ?_
  refine J_aload_n dJ5_putStringAt_47b60_1 rfl rfl ?_
  refine J_callVU (y := yJ5_inflateIfNeededFor_a7421) (As := [.ref u]) dJ5_putStringAt_47b60_2 ml_J5_397 sa_J5_inflateIfNeededFor_a7421 cal_J5_inflateIfNeededFor_a7421 rfl im_J5_inflateIfNeededFor_a7421 rfl cal_J5_inflateIfNeededFor_a7421 im_J5_inflateIfNeededFor_a7421 sv_J5_inflateIfNeededFor_a7421 hA rfl rfl (Nat.le_of_ble_eq_true rfl) ⟨by decide, by decide⟩ ⟨by decide, by decide⟩ (c_J5_inflateIfNeededFor_a7421 hst hA hV) (fun _ _ _ _ hE => absurd hE.1 (fun z => nomatch z)) (fun v9 A9 n9 _ hQ => ?_)
  obtain ⟨e9, hA9, hn9⟩ := hQ
  subst A9
  subst n9
  cases e9
  refine J_aload_n dJ5_putStringAt_47b60_5 rfl rfl ?_
  refine J_aload_n dJ5_putStringAt_47b60_6 rfl rfl ?_
  refine J_getf dJ5_putStringAt_47b60_7 fl_J5_15 (hA) rfl ?_
  refine J_iload_n dJ5_putStringAt_47b60_10 rfl rfl ?_
  refine J_aload_n dJ5_putStringAt_47b60_11 rfl rfl ?_
  refine J_getf dJ5_putStringAt_47b60_12 fl_J5_22 (hA) rfl ?_
  refine J_callVg (As := [.ref v, .int (nI p), .int 0]) dJ5_putStringAt_47b60_15 ml_J5_399 cal_J0_getBytes_840e7 rfl im_J0_getBytes_840e7 se_J0_getBytes_840e7 hV.recv rfl (Nat.le_of_ble_eq_true rfl) ⟨by decide, by decide⟩ ⟨by decide, by decide⟩ (c_str_getBytes hst hB hf hp hm rfl hV) (fun v9 A9 n9 _ hQ => ?_) (fun _ _ _ _ hE => absurd hE.1 (fun z => nomatch z))
  obtain ⟨e9, hn9, g9, hA9, q1, q2, q3⟩ := hQ
  subst A9
  subst n9
  cases e9
  refine J_return dJ5_putStringAt_47b60_18 rfl (by decide) (by decide) ?_
  exact ⟨rfl, rfl, g9, rfl, q1, q2, q3⟩
theorem hol_app {f : Nat → Int32} {tx sx : List Int32} (h1 : hol f 0 tx) (h2 : hol f tx.length sx) : hol f 0 (tx ++ sx) := fun i hi => by
  rw [List.length_append] at hi
  rw [List.getD_eq_getElem?_getD]
  by_cases h : i < tx.length
  · rw [List.getElem?_append_left h, ← List.getD_eq_getElem?_getD]; exact h1 i h
  · rw [List.getElem?_append_right (by omega), ← List.getD_eq_getElem?_getD, ← h2 (i - tx.length) (by omega)]
    congr 1
    omega
theorem hol_keep {f g : Nat → Int32} {tx : List Int32} (h : hol f 0 tx) (hg : ∀ i, i < tx.length → g i = f i) : hol g 0 tx := fun i hi => by
  rw [Nat.zero_add, hg i hi, ← Nat.zero_add i]; exact (h i hi).trans (by rw [Nat.zero_add])
theorem c_J5_append_cf1ce (hst : l.stackTraces = false) {h v m u : Nat} {tx sx : List Int32} (hW : sbW A h v m tx) (hV : strV A u sx) (hl : tx.length + sx.length ≤ 900) : xx_C G l yJ5_append_cf1ce mJ5_append_cf1ce 4 105 1 1802 [.ref h, .ref u] A n (apQ A h v n (tx ++ sx)) := by
  have hne := hW.ne
  obtain ⟨hA, f, hB, hol0, hf, htm, hm⟩ := hW
  refine J_C hst (by decide +kernel) rfl rfl rfl (Nat.le_of_ble_eq_true rfl) ?_
  show xx_J _ _ _ _ _ _ _ _ 0 [(0, _), (1, _)] [] _ _ _ _
  refine J_lt hA (fun hhn => ?_)
  refine J_lt hB (fun hvn => ?_)
  refine J_ltA (fun ltP => ?_)
  refine J_aload_n dJ5_append_cf1ce_0 rfl rfl ?_
  refine J_ifnonnull (tgt := 9) dJ5_append_cf1ce_1 rfl ?_
  refine J_aload_n dJ5_append_cf1ce_9 rfl rfl ?_
  refine J_callT (As := []) dJ5_append_cf1ce_10 ml_J5_32 cal_J0_length_8abf5 im_J0_length_8abf5 se_J0_length_8abf5 rfl (hV) rfl rfl (Nat.le_of_ble_eq_true rfl) ⟨by decide, by decide⟩ ⟨by decide, by decide⟩ (c_str_length hst hV (by omega)) ?_
  refine J_istore_n (L' := [(2, _), (0, _), (1, _)]) dJ5_append_cf1ce_13 rfl (by decide) rfl ?_
  refine J_aload_n dJ5_append_cf1ce_14 rfl rfl ?_
  refine J_aload_n dJ5_append_cf1ce_15 rfl rfl ?_
  refine J_getf dJ5_append_cf1ce_16 fl_J5_79 (hA) rfl ?_
  refine J_iload_n dJ5_append_cf1ce_19 rfl rfl ?_
  refine J_iadd dJ5_append_cf1ce_20 ?_
  rw [nI_add]
  refine J_callVU (y := yJ5_ensureCapacityInternal_d00df) (As := [.int (nI (tx.length + sx.length))]) dJ5_append_cf1ce_21 ml_J5_100 sa_J5_ensureCapacityInternal_d00df cal_J5_ensureCapacityInternal_d00df rfl im_J5_ensureCapacityInternal_d00df rfl cal_J5_ensureCapacityInternal_d00df im_J5_ensureCapacityInternal_d00df sv_J5_ensureCapacityInternal_d00df hA rfl rfl (Nat.le_of_ble_eq_true rfl) ⟨by decide, by decide⟩ ⟨by decide, by decide⟩ (c_ensure hst hA hB hf (by omega) hm) (fun _ _ _ _ hE => absurd hE.1 (fun z => nomatch z)) (fun v9 A9 n9 _ hQ => ?_)
  obtain ⟨e9, k1, k2, v1, m1, f1, g1, g2, g3, g4, g5, g6, g7, g8, g9⟩ := hQ
  cases e9
  have hne1 : v1 ≠ h := by rintro rfl; rw [g1] at g2; cases g2
  have hV1 : strV A9 u sx := by
    rcases hV with z | ⟨v2, f2, y1, y2, y3, y4⟩
    · exact Or.inl z
    · refine Or.inr ⟨v2, f2, ?_, ?_, y3, y4⟩
      · by_cases e1 : u = h
        · subst e1; rw [hA] at y1; cases y1
        · exact (g9 u (ltP u _ y1) e1).trans y1
      · by_cases e1 : v2 = h
        · subst e1; rw [hA] at y2; cases y2
        · exact (g9 v2 (ltP v2 _ y2) e1).trans y2
  refine J_aload_n dJ5_append_cf1ce_24 rfl rfl ?_
  refine J_aload_n dJ5_append_cf1ce_25 rfl rfl ?_
  refine J_getf dJ5_append_cf1ce_26 fl_J5_79 (g1) rfl ?_
  refine J_aload_n dJ5_append_cf1ce_29 rfl rfl ?_
  refine J_callVU (y := yJ5_putStringAt_47b60) (As := [.int (nI tx.length), .ref u]) dJ5_append_cf1ce_30 ml_J5_208 sa_J5_putStringAt_47b60 cal_J5_putStringAt_47b60 rfl im_J5_putStringAt_47b60 rfl cal_J5_putStringAt_47b60 im_J5_putStringAt_47b60 sv_J5_putStringAt_47b60 g1 rfl rfl (Nat.le_of_ble_eq_true rfl) ⟨by decide, by decide⟩ ⟨by decide, by decide⟩ (c_J5_putStringAt_47b60 hst g1 g2 g7 (by omega) (by omega) hV1) (fun _ _ _ _ hE => absurd hE.1 (fun z => nomatch z)) (fun v8 A8 n8 _ hQ => ?_)
  obtain ⟨e8, hn8, f3, hA8, q1, q2, q3⟩ := hQ
  subst A8
  subst n8
  cases e8
  refine J_up (fun A1 u1 o1 => ?_)
  have hA1 := (o1 h (Ne.symm hne1)).trans g1
  refine J_aload_n dJ5_append_cf1ce_33 rfl rfl ?_
  refine J_dup dJ5_append_cf1ce_34 rfl ?_
  refine J_getf dJ5_append_cf1ce_35 fl_J5_79 (hA1) rfl ?_
  refine J_iload_n dJ5_append_cf1ce_38 rfl rfl ?_
  refine J_iadd dJ5_append_cf1ce_39 ?_
  rw [nI_add]
  refine J_putf dJ5_append_cf1ce_40 fp_J5_79 (fun _ => ⟨rfl, rfl⟩) hA1 (Nat.le_of_ble_eq_true rfl) ?_
  refine J_up (fun A2 u2 o2 => ?_)
  refine J_aload_n dJ5_append_cf1ce_43 rfl rfl ?_
  refine J_areturn dJ5_append_cf1ce_44 rfl (by decide) (by decide) ?_
  refine ⟨rfl, k1, k2, v1, m1, ⟨by rw [List.length_append]; exact u2, f3, (o2 v1 hne1).trans u1, hol_app (hol_keep hol0 (fun i hi => (q1 i hi).trans (g6 i (by omega)))) q2, q3, by rw [List.length_append]; omega, g5⟩, g8, fun z hz h1 h2 => ?_⟩
  rw [o2 z h1, o1 z (by rcases g8 with e | e <;> omega)]
  exact g9 z hz h1
theorem c_J4_append_15ec4 (hst : l.stackTraces = false) {h v m u : Nat} {tx sx : List Int32} (hW : sbW A h v m tx) (hV : strV A u sx) (hl : tx.length + sx.length ≤ 900) : xx_C G l yJ4_append_15ec4 mJ4_append_15ec4 5 127 1 1802 [.ref h, .ref u] A n (apQ A h v n (tx ++ sx)) := by
  have hA := hW.1
  refine J_C hst (by decide +kernel) rfl rfl rfl (Nat.le_of_ble_eq_true rfl) ?_
  show xx_J _ _ _ _ _ _ _ _ 0 [(0, _), (1, _)] [] _ _ _ _
  refine J_aload_n dJ4_append_15ec4_0 rfl rfl ?_
  refine J_aload_n dJ4_append_15ec4_1 rfl rfl ?_
  refine J_callSU (As := [.ref u]) rfl dJ4_append_15ec4_2 ml_J4_29 sa_J5_append_cf1ce su_J4 cal_J5_append_cf1ce (by decide) im_J5_append_cf1ce hA rfl rfl (Nat.le_of_ble_eq_true rfl) ⟨by decide, by decide⟩ ⟨by decide, by decide⟩ (c_J5_append_cf1ce hst hW hV hl) (fun _ _ _ _ hE => absurd hE.1 (fun z => nomatch z)) (fun v9 A9 n9 _ hQ => ?_)
  have hQ1 := hQ.1
  cases hQ1
  refine J_pop dJ4_append_15ec4_5 rfl ?_
  refine J_aload_n dJ4_append_15ec4_6 rfl rfl ?_
  refine J_areturn dJ4_append_15ec4_7 rfl (by decide) (by decide) ?_
  exact hQ
theorem c_J5_append_c97b9 (hst : l.stackTraces = false) {h v m w : Nat} {tx : List Int32} (hW : sbW A h v m tx) (hw : w < 1000000) (hl : tx.length + (decB w).length ≤ 900) : xx_C G l yJ5_append_c97b9 mJ5_append_c97b9 4 104 1 1802 [.ref h, .int (nI w)] A n (apQ A h v n (tx ++ decB w)) := by
  have hne := hW.ne
  obtain ⟨hA, f, hB, hol0, hf, htm, hm⟩ := hW
  refine J_C hst (by decide +kernel) rfl rfl rfl (Nat.le_of_ble_eq_true rfl) ?_
  show xx_J _ _ _ _ _ _ _ _ 0 [(0, _), (1, _)] [] _ _ _ _
  refine J_lt hA (fun hhn => ?_)
  refine J_lt hB (fun hvn => ?_)
  refine J_aload_n dJ5_append_c97b9_0 rfl rfl ?_
  refine J_getf dJ5_append_c97b9_1 fl_J5_79 (hA) rfl ?_
  refine J_istore_n (L' := [(2, _), (0, _), (1, _)]) dJ5_append_c97b9_4 rfl (by decide) rfl ?_
  refine J_iload_n dJ5_append_c97b9_5 rfl rfl ?_
  refine J_iload_n dJ5_append_c97b9_6 rfl rfl ?_
  refine J_callSr (As := [.int (nI w)]) dJ5_append_c97b9_7 ml_J5_245 cal_J6_stringSize_0f7a4 sm_J6_stringSize_0f7a4 rfl rfl (Nat.le_of_ble_eq_true rfl) ⟨by decide, by decide⟩ ⟨by decide, by decide⟩ (c_J6_stringSize_0f7a4 hst hw) ?_
  refine J_iadd dJ5_append_c97b9_10 ?_
  rw [nI_add]
  refine J_istore_n (L' := [(3, _), (2, _), (0, _), (1, _)]) dJ5_append_c97b9_11 rfl (by decide) rfl ?_
  refine J_aload_n dJ5_append_c97b9_12 rfl rfl ?_
  refine J_iload_n dJ5_append_c97b9_13 rfl rfl ?_
  refine J_callVU (y := yJ5_ensureCapacityInternal_d00df) (As := [.int (nI (tx.length + (decB w).length))]) dJ5_append_c97b9_14 ml_J5_100 sa_J5_ensureCapacityInternal_d00df cal_J5_ensureCapacityInternal_d00df rfl im_J5_ensureCapacityInternal_d00df rfl cal_J5_ensureCapacityInternal_d00df im_J5_ensureCapacityInternal_d00df sv_J5_ensureCapacityInternal_d00df hA rfl rfl (Nat.le_of_ble_eq_true rfl) ⟨by decide, by decide⟩ ⟨by decide, by decide⟩ (c_ensure hst hA hB hf (by omega) hm) (fun _ _ _ _ hE => absurd hE.1 (fun z => nomatch z)) (fun v9 A9 n9 _ hQ => ?_)
  obtain ⟨e9, k1, k2, v1, m1, f1, g1, g2, g3, g4, g5, g6, g7, g8, g9⟩ := hQ
  cases e9
  have hne1 : v1 ≠ h := by rintro rfl; rw [g1] at g2; cases g2
  refine J_aload_n dJ5_append_c97b9_17 rfl rfl ?_
  refine J_callVU (y := yJ5_isLatin1_aae02) (As := []) dJ5_append_c97b9_18 ml_J5_83 sa_J5_isLatin1_aae02 cal_J5_isLatin1_aae02 rfl im_J5_isLatin1_aae02 rfl cal_J5_isLatin1_aae02 im_J5_isLatin1_aae02 sv_J5_isLatin1_aae02 g1 rfl rfl (Nat.le_of_ble_eq_true rfl) ⟨by decide, by decide⟩ ⟨by decide, by decide⟩ (c_J5_isLatin1_aae02 hst g1) (fun _ _ _ _ hE => absurd hE.1 (fun z => nomatch z)) (fun v8 A8 n8 _ hQ => ?_)
  obtain ⟨e8, hA8, hn8⟩ := hQ
  subst A8
  subst n8
  cases e8
  refine J_if_eq (tgt := 37) dJ5_append_c97b9_21 rfl (fun h21 => ?_) (fun h21 => ?_)
  · exact absurd h21 (by decide)
  · refine J_iload_n dJ5_append_c97b9_24 rfl rfl ?_
    refine J_iload_n dJ5_append_c97b9_25 rfl rfl ?_
    refine J_aload_n dJ5_append_c97b9_26 rfl rfl ?_
    refine J_getf dJ5_append_c97b9_27 fl_J5_15 (g1) rfl ?_
    refine J_callSw (As := [.int (nI w), .int (nI (tx.length + (decB w).length)), .ref v1]) dJ5_append_c97b9_30 ml_J5_248 cal_J6_getChars_ba4f3 sm_J6_getChars_ba4f3 rfl rfl (Nat.le_of_ble_eq_true rfl) ⟨by decide, by decide⟩ ⟨by decide, by decide⟩ (c_J6_getChars_ba4f3 hst hw g2 g7 (by omega) rfl g3) (fun A1 hQ1 => ?_)
    obtain ⟨f3, u1, o1, q1, q2, q3⟩ := hQ1
    have hA1 := (o1 h (Ne.symm hne1)).trans g1
    refine J_pop dJ5_append_c97b9_33 rfl ?_
    refine J_goto (tgt := 48) dJ5_append_c97b9_34 rfl ?_
    refine J_aload_n dJ5_append_c97b9_48 rfl rfl ?_
    refine J_iload_n dJ5_append_c97b9_49 rfl rfl ?_
    refine J_putf dJ5_append_c97b9_50 fp_J5_79 (fun _ => ⟨rfl, rfl⟩) hA1 (Nat.le_of_ble_eq_true rfl) ?_
    refine J_up (fun A2 u2 o2 => ?_)
    refine J_aload_n dJ5_append_c97b9_53 rfl rfl ?_
    refine J_areturn dJ5_append_c97b9_54 rfl (by decide) (by decide) ?_
    refine ⟨rfl, k1, k2, v1, m1, ⟨by rw [List.length_append]; exact u2, f3, (o2 v1 hne1).trans u1, hol_app (hol_keep hol0 (fun i hi => (q1 i (Or.inl hi)).trans (g6 i (by omega)))) q2, q3, by rw [List.length_append]; omega, g5⟩, g8, fun z hz h1 h2 => ?_⟩
    rw [o2 z h1, o1 z (by rcases g8 with e | e <;> omega)]
    exact g9 z hz h1
theorem c_J4_append_bf812 (hst : l.stackTraces = false) {h v m w : Nat} {tx : List Int32} (hW : sbW A h v m tx) (hw : w < 1000000) (hl : tx.length + (decB w).length ≤ 900) : xx_C G l yJ4_append_bf812 mJ4_append_bf812 5 127 1 1802 [.ref h, .int (nI w)] A n (apQ A h v n (tx ++ decB w)) := by
  have hA := hW.1
  refine J_C hst (by decide +kernel) rfl rfl rfl (Nat.le_of_ble_eq_true rfl) ?_
  show xx_J _ _ _ _ _ _ _ _ 0 [(0, _), (1, _)] [] _ _ _ _
  refine J_aload_n dJ4_append_bf812_0 rfl rfl ?_
  refine J_iload_n dJ4_append_bf812_1 rfl rfl ?_
  refine J_callSU (As := [.int (nI w)]) rfl dJ4_append_bf812_2 ml_J4_53 sa_J5_append_c97b9 su_J4 cal_J5_append_c97b9 (by decide) im_J5_append_c97b9 hA rfl rfl (Nat.le_of_ble_eq_true rfl) ⟨by decide, by decide⟩ ⟨by decide, by decide⟩ (c_J5_append_c97b9 hst hW hw hl) (fun _ _ _ _ hE => absurd hE.1 (fun z => nomatch z)) (fun v9 A9 n9 _ hQ => ?_)
  have hQ1 := hQ.1
  cases hQ1
  refine J_pop dJ4_append_bf812_5 rfl ?_
  refine J_aload_n dJ4_append_bf812_6 rfl rfl ?_
  refine J_areturn dJ4_append_bf812_7 rfl (by decide) (by decide) ?_
  exact hQ
theorem c_J7_checkLength_df160 (hst : l.stackTraces = false) {x y : Nat} (hx : x ≤ y) (hy : y < 65536) : xx_C G l yJ7_checkLength_df160 mJ7_checkLength_df160 0 0 0 0 [.int (nI x), .int (nI y)] A n (xx_wr none n (fun A' => A' = A)) := by
  refine J_C hst (by decide +kernel) rfl rfl rfl (Nat.le_of_ble_eq_true rfl) ?_
  show xx_J _ _ _ _ _ _ _ _ 0 [(0, _), (1, _)] [] _ _ _ _
  refine J_iload_n dJ7_checkLength_df160_0 rfl rfl ?_
  refine J_iload_n dJ7_checkLength_df160_1 rfl rfl ?_
  refine J_icmp_ge (tgt := 37) dJ7_checkLength_df160_2 rfl (fun _ => ?_) (fun h => absurd (nI_le hx (by omega)) h)
  refine J_return dJ7_checkLength_df160_37 rfl (by decide) (by decide) ?_
  exact ⟨rfl, rfl, rfl⟩
theorem c_J7_copyOfRangeByte_39247 (hst : l.stackTraces = false) {v m q : Nat} {f : Nat → Int32} (hB : A v = some (rB m f)) (hf : bfit f) (hm : q ≤ m) (hq : m ≤ 1802) : xx_C G l yJ7_copyOfRangeByte_39247 mJ7_copyOfRangeByte_39247 1 60 1 1802 [.ref v, .int (nI 0), .int (nI q)] A n (fun r A' n' => r = .inl (some (.ref n)) ∧ n' = n + 1 ∧ ∃ g, A' n = some (rB q g) ∧ (∀ z, z < n → A' z = A z) ∧ (∀ i, i < q → g i = f i) ∧ bfit g) := by
  refine J_C hst (by decide +kernel) rfl rfl rfl (Nat.le_of_ble_eq_true rfl) ?_
  show xx_J _ _ _ _ _ _ _ _ 0 [(0, _), (1, _), (2, _)] [] _ _ _ _
  refine J_lt hB (fun hvn => ?_)
  refine J_iload_n dJ7_copyOfRangeByte_39247_0 rfl rfl ?_
  refine J_iload_n dJ7_copyOfRangeByte_39247_1 rfl rfl ?_
  refine J_callSw (As := [.int (nI 0), .int (nI q)]) dJ7_copyOfRangeByte_39247_2 ml_J7_343 cal_J7_checkLength_df160 sm_J7_checkLength_df160 rfl rfl (Nat.le_of_ble_eq_true rfl) ⟨by decide, by decide⟩ ⟨by decide, by decide⟩ (c_J7_checkLength_df160 hst (Nat.zero_le _) (by omega)) (fun A' hA' => ?_)
  subst hA'
  refine J_iload_n dJ7_copyOfRangeByte_39247_5 rfl rfl ?_
  refine J_iload_n dJ7_copyOfRangeByte_39247_6 rfl rfl ?_
  refine J_isub dJ7_copyOfRangeByte_39247_7 ?_
  rw [show nI q - nI 0 = nI q from pk_sub (by omega)]
  refine J_istore_n (L' := [(3, _), (0, _), (1, _), (2, _)]) dJ7_copyOfRangeByte_39247_8 rfl (by decide) rfl ?_
  refine J_iload_n dJ7_copyOfRangeByte_39247_9 rfl rfl ?_
  refine J_newb (N := q) dJ7_copyOfRangeByte_39247_10 ac_byte (nI_pos (by omega)) (nI_clamp (by omega)) (by omega) (by decide) (by omega) ?_
  refine J_up (fun A1 g1 o1 => ?_)
  have hB1 : A1 v = some (rB m f) := (o1 v (by omega)).trans hB
  refine J_astore (L' := [(4, _), (3, _), (0, _), (1, _), (2, _)]) dJ7_copyOfRangeByte_39247_12 (by decide) rfl ?_
  refine J_aload_n dJ7_copyOfRangeByte_39247_14 rfl rfl ?_
  refine J_iload_n dJ7_copyOfRangeByte_39247_15 rfl rfl ?_
  refine J_aload dJ7_copyOfRangeByte_39247_16 rfl ?_
  refine J_iconst (v := 0) dJ7_copyOfRangeByte_39247_18 (by decide) ?_
  refine J_aload_n dJ7_copyOfRangeByte_39247_19 rfl rfl ?_
  refine J_alen (v := nI m) dJ7_copyOfRangeByte_39247_20 hB1 (by decide) rfl ?_
  refine J_iload_n dJ7_copyOfRangeByte_39247_21 rfl rfl ?_
  refine J_isub dJ7_copyOfRangeByte_39247_22 ?_
  rw [show nI m - nI 0 = nI m from pk_sub (by omega)]
  refine J_iload_n dJ7_copyOfRangeByte_39247_23 rfl rfl ?_
  refine J_min dJ7_copyOfRangeByte_39247_24 ml_J7_304 ⟨by decide, Nat.le_of_ble_eq_true rfl⟩ ⟨by decide, by omega⟩ ?_
  rw [show (if nI q < nI m then nI q else nI m) = nI q by
    by_cases h : q < m
    · rw [if_pos (nI_lt h (by omega))]
    · rw [if_neg (nI_nlt (by omega) (by omega))]; exact congrArg nI (by omega)]
  refine J_copyB rfl dJ7_copyOfRangeByte_39247_27 ml_J7_150 na_copy sm_copy in_java_lang_System hB1 g1 (nI_pos (n := 0) (by decide)) (nI_pos (n := 0) (by decide)) (nI_pos (by omega)) (by rw [show (nI 0).toNatClampNeg = 0 from rfl, nI_clamp (by omega)]; omega) (by rw [sb_cl0, nI_clamp (by omega)]; omega) hf ⟨by decide, by decide⟩ ?_
  rw [show (nI 0).toNatClampNeg = 0 from rfl, sb_cl0, nI_clamp (by omega)]
  refine J_up (fun A2 g2 o2 => ?_)
  refine J_aload dJ7_copyOfRangeByte_39247_30 rfl ?_
  refine J_areturnA dJ7_copyOfRangeByte_39247_32 rfl (by decide) (by omega) ?_
  exact ⟨rfl, rfl, _, g2, fun z hz => (o2 z (by omega)).trans (o1 z (by omega)), fun i hi => sb_cpy0 hi, sb_fitC hf sb_fit0⟩
theorem c1_copyOfRange (hst : l.stackTraces = false) {v m q : Nat} {f : Nat → Int32} (hB : A v = some (rB m f)) (hf : bfit f) (hm : q < m) (hq : m ≤ 1802) : xx_C G l yJ7_copyOfRange_39247 mJ7_copyOfRange_39247 2 84 1 1802 [.ref v, .int (nI 0), .int (nI q)] A n (fun r A' n' => r = .inl (some (.ref n)) ∧ n' = n + 1 ∧ ∃ g, A' n = some (rB q g) ∧ (∀ z, z < n → A' z = A z) ∧ (∀ i, i < q → g i = f i) ∧ bfit g) := by
  refine J_C hst (by decide +kernel) rfl rfl rfl (Nat.le_of_ble_eq_true rfl) ?_
  show xx_J _ _ _ _ _ _ _ _ 0 [(0, _), (1, _), (2, _)] [] _ _ _ _
  refine J_iload_n dJ7_copyOfRange_39247_0 rfl rfl ?_
  refine J_if_ne (tgt := 10) dJ7_copyOfRange_39247_1 rfl (fun h => absurd rfl h) (fun _ => ?_)
  refine J_iload_n dJ7_copyOfRange_39247_4 rfl rfl ?_
  refine J_aload_n dJ7_copyOfRange_39247_5 rfl rfl ?_
  refine J_alen (v := nI m) dJ7_copyOfRange_39247_6 hB (by decide) rfl ?_
  refine J_icmp_eq (tgt := 17) dJ7_copyOfRange_39247_7 rfl (fun h => absurd ((nI_eq (by omega) (by omega)).mp h) (by omega)) (fun _ => ?_)
  refine J_aload_n dJ7_copyOfRange_39247_10 rfl rfl ?_
  refine J_iload_n dJ7_copyOfRange_39247_11 rfl rfl ?_
  refine J_iload_n dJ7_copyOfRange_39247_12 rfl rfl ?_
  refine J_callSg (As := [.ref v, .int (nI 0), .int (nI q)]) dJ7_copyOfRange_39247_13 ml_J7_339 cal_J7_copyOfRangeByte_39247 rfl sm_J7_copyOfRangeByte_39247 rfl (Nat.le_of_ble_eq_true rfl) ⟨by decide, by decide⟩ ⟨by decide, by decide⟩ (c_J7_copyOfRangeByte_39247 hst hB hf (by omega) hq) (fun v9 A9 n9 _ hQ => ?_) (fun _ _ _ _ hE => absurd hE.1 (fun z => nomatch z))
  have hQ1 := hQ.1
  cases hQ1
  refine J_areturnA dJ7_copyOfRange_39247_16 rfl (by decide) (by decide) ?_
  exact hQ
theorem c2_copyOfRange (hst : l.stackTraces = false) {v m q : Nat} {f : Nat → Int32} (hB : A v = some (rB m f)) (hf : bfit f) (hm : q = m) (hq : m ≤ 1802) : xx_C G l yJ7_copyOfRange_39247 mJ7_copyOfRange_39247 2 84 1 1802 [.ref v, .int (nI 0), .int (nI q)] A n (fun r A' n' => r = .inl (some (.ref n)) ∧ n' = n + 1 ∧ ∃ g, A' n = some (rB q g) ∧ (∀ z, z < n → A' z = A z) ∧ (∀ i, i < q → g i = f i) ∧ bfit g) := by
  subst hm
  refine J_C hst (by decide +kernel) rfl rfl rfl (Nat.le_of_ble_eq_true rfl) ?_
  show xx_J _ _ _ _ _ _ _ _ 0 [(0, _), (1, _), (2, _)] [] _ _ _ _
  refine J_iload_n dJ7_copyOfRange_39247_0 rfl rfl ?_
  refine J_if_ne (tgt := 10) dJ7_copyOfRange_39247_1 rfl (fun h => absurd rfl h) (fun _ => ?_)
  refine J_iload_n dJ7_copyOfRange_39247_4 rfl rfl ?_
  refine J_aload_n dJ7_copyOfRange_39247_5 rfl rfl ?_
  refine J_alen (v := nI q) dJ7_copyOfRange_39247_6 hB (by decide) rfl ?_
  refine J_icmp_eq (tgt := 17) dJ7_copyOfRange_39247_7 rfl (fun _ => ?_) (fun h => absurd rfl h)
  refine J_aload_n dJ7_copyOfRange_39247_17 rfl rfl ?_
  refine J_cloneB dJ7_copyOfRange_39247_18 ml_J7_310 cl_same cl_nat cl_inst cl_sel cl_cast hB hf ⟨by decide, by decide⟩ (by decide) (by omega) ?_
  refine J_up (fun A1 g1 o1 => ?_)
  refine J_castB dJ7_copyOfRange_39247_21 cl_J7_311 g1 ?_
  refine J_areturnA dJ7_copyOfRange_39247_24 rfl (by decide) (by omega) ?_
  exact ⟨rfl, rfl, f, g1, fun z hz => o1 z (by omega), fun _ _ => rfl, hf⟩
theorem c_copyOfRange (hst : l.stackTraces = false) {v m q : Nat} {f : Nat → Int32} (hB : A v = some (rB m f)) (hf : bfit f) (hm : q ≤ m) (hq : m ≤ 1802) : xx_C G l yJ7_copyOfRange_39247 mJ7_copyOfRange_39247 2 84 1 1802 [.ref v, .int (nI 0), .int (nI q)] A n (fun r A' n' => r = .inl (some (.ref n)) ∧ n' = n + 1 ∧ ∃ g, A' n = some (rB q g) ∧ (∀ z, z < n → A' z = A z) ∧ (∀ i, i < q → g i = f i) ∧ bfit g) := by
  by_cases h9 : q = m
  · exact c2_copyOfRange hst hB hf h9 hq
  · exact c1_copyOfRange hst hB hf (by omega) hq
theorem c_J0_init_db425 (hst : l.stackTraces = false) {h v m w : Nat} {tx : List Int32} (hW : sbW A h v m tx) (hN : A w = some (.inr (8, [.null, .int 0, .int 0, .int 0]))) (hl : tx.length ≤ 900) : xx_D G l yJ0_init_db425 mJ0_init_db425 3 106 1 1802 [.ref w, .ref h, .null] A n (fun r A' n' => r = .inl none ∧ n' = n + 1 ∧ A' w = some (oT n) ∧ (∃ g, A' n = some (rB tx.length g) ∧ hol g 0 tx ∧ bfit g) ∧ ∀ z, z < n → z ≠ w → A' z = A z) := by
  obtain ⟨hA, f, hB, hol0, hf, htm, hm⟩ := hW
  have hwv : w ≠ v := by rintro rfl; rw [hN] at hB; cases hB
  have hwh : w ≠ h := by rintro rfl; rw [hN] at hA; cases hA
  refine J_D hst (by decide +kernel) rfl rfl rfl (Nat.le_of_ble_eq_true rfl) (fun _ _ _ h => nomatch h.1) ?_
  show xx_J _ _ _ _ _ _ _ _ 0 [(0, _), (1, _), (2, _)] [] _ _ _ _
  refine J_lt hN (fun hwn => ?_)
  refine J_lt hA (fun hhn => ?_)
  refine J_lt hB (fun hvn => ?_)
  refine J_aload_n dJ0_init_db425_0 rfl rfl ?_
  refine J_objInit dJ0_init_db425_1 ml_J0_1 im_objectInit co_objectInit ⟨by decide, by decide⟩ ?_
  refine J_aload_n dJ0_init_db425_4 rfl rfl ?_
  refine J_callVU (y := yJ5_getValue_6d5f1) (As := []) dJ0_init_db425_5 ml_J0_552 sa_J5_getValue_6d5f1 cal_J5_getValue_6d5f1 rfl im_J5_getValue_6d5f1 rfl cal_J5_getValue_6d5f1 im_J5_getValue_6d5f1 sv_J5_getValue_6d5f1 hA rfl rfl (Nat.le_of_ble_eq_true rfl) ⟨by decide, by decide⟩ ⟨by decide, by decide⟩ (c_J5_getValue_6d5f1 hst hA) (fun _ _ _ _ hE => absurd hE.1 (fun z => nomatch z)) (fun v9 A9 n9 _ hQ => ?_)
  obtain ⟨e9, hA9, hn9⟩ := hQ
  subst A9
  subst n9
  cases e9
  refine J_astore_n (L' := [(3, _), (0, _), (1, _), (2, _)]) dJ0_init_db425_8 rfl (by decide) rfl ?_
  refine J_aload_n dJ0_init_db425_9 rfl rfl ?_
  refine J_callVU (y := yJ4_length_8abf5) (As := []) dJ0_init_db425_10 ml_J0_549 sa_J5_length_8abf5 cal_J5_length_8abf5 rfl im_J5_length_8abf5 rfl cal_J4_length_8abf5 im_J4_length_8abf5 sv_J5_length_8abf5 hA rfl rfl (Nat.le_of_ble_eq_true rfl) ⟨by decide, by decide⟩ ⟨by decide, by decide⟩ (c_J4_length_8abf5 hst hA) (fun _ _ _ _ hE => absurd hE.1 (fun z => nomatch z)) (fun v9 A9 n9 _ hQ => ?_)
  obtain ⟨e9, hA9, hn9⟩ := hQ
  subst A9
  subst n9
  cases e9
  refine J_istore (L' := [(4, _), (3, _), (0, _), (1, _), (2, _)]) dJ0_init_db425_13 (by decide) rfl ?_
  refine J_aload_n dJ0_init_db425_15 rfl rfl ?_
  refine J_callVU (y := yJ5_isLatin1_aae02) (As := []) dJ0_init_db425_16 ml_J0_1047 sa_J5_isLatin1_aae02 cal_J5_isLatin1_aae02 rfl im_J5_isLatin1_aae02 rfl cal_J5_isLatin1_aae02 im_J5_isLatin1_aae02 sv_J5_isLatin1_aae02 hA rfl rfl (Nat.le_of_ble_eq_true rfl) ⟨by decide, by decide⟩ ⟨by decide, by decide⟩ (c_J5_isLatin1_aae02 hst hA) (fun _ _ _ _ hE => absurd hE.1 (fun z => nomatch z)) (fun v9 A9 n9 _ hQ => ?_)
  obtain ⟨e9, hA9, hn9⟩ := hQ
  subst A9
  subst n9
  cases e9
  refine J_if_eq (tgt := 41) dJ0_init_db425_19 rfl (fun h19 => ?_) (fun h19 => ?_)
  · exact absurd h19 (by decide)
  · refine J_aload_n dJ0_init_db425_22 rfl rfl ?_
    refine J_iconst (v := 0) dJ0_init_db425_23 (by decide) ?_
    refine J_putF dJ0_init_db425_24 rfl ff_J0_15 (fun _ => ⟨rfl, rfl⟩) hN (Nat.le_of_ble_eq_true rfl) ?_
    refine J_up (fun A1 g1 o1 => ?_)
    have hB1 := (o1 v (Ne.symm hwv)).trans hB
    refine J_aload_n dJ0_init_db425_27 rfl rfl ?_
    refine J_aload_n dJ0_init_db425_28 rfl rfl ?_
    refine J_iconst (v := 0) dJ0_init_db425_29 (by decide) ?_
    refine J_iload dJ0_init_db425_30 rfl ?_
    refine J_callSg (As := [.ref v, .int (nI 0), .int (nI tx.length)]) dJ0_init_db425_32 ml_J0_54 cal_J7_copyOfRange_39247 rfl sm_J7_copyOfRange_39247 rfl (Nat.le_of_ble_eq_true rfl) ⟨by decide, by decide⟩ ⟨by decide, by decide⟩ (c_copyOfRange hst hB1 hf htm hm) (fun v9 A9 n9 _ hQ => ?_) (fun _ _ _ _ hE => absurd hE.1 (fun z => nomatch z))
    obtain ⟨e9, rfl, g, g2, o2, g4, g5⟩ := hQ
    cases e9
    refine J_putF dJ0_init_db425_35 rfl ff_J0_9 (fun _ => ⟨rfl, rfl⟩) ((o2 w hwn).trans g1) (Nat.le_of_ble_eq_true rfl) ?_
    refine J_up (fun A2 g6 o6 => ?_)
    refine J_goto (tgt := 97) dJ0_init_db425_38 rfl ?_
    refine J_return dJ0_init_db425_97 rfl (by decide) (by decide) ?_
    exact ⟨rfl, rfl, g6, ⟨g, (o6 n (by omega)).trans g2, hol_keep hol0 g4, g5⟩, fun z hz hzw => ((o6 z hzw).trans (o2 z hz)).trans (o1 z hzw)⟩
theorem c_J0_init_81219 (hst : l.stackTraces = false) {h v m w : Nat} {tx : List Int32} (hW : sbW A h v m tx) (hN : A w = some (.inr (8, [.null, .int 0, .int 0, .int 0]))) (hl : tx.length ≤ 900) : xx_D G l yJ0_init_81219 mJ0_init_81219 4 130 1 1802 [.ref w, .ref h] A n (fun r A' n' => r = .inl none ∧ n' = n + 1 ∧ A' w = some (oT n) ∧ (∃ g, A' n = some (rB tx.length g) ∧ hol g 0 tx ∧ bfit g) ∧ ∀ z, z < n → z ≠ w → A' z = A z) := by
  refine J_D hst (by decide +kernel) rfl rfl rfl (Nat.le_of_ble_eq_true rfl) (fun _ _ _ h => nomatch h.1) ?_
  show xx_J _ _ _ _ _ _ _ _ 0 [(0, _), (1, _)] [] _ _ _ _
  refine J_aload_n dJ0_init_81219_0 rfl rfl ?_
  refine J_aload_n dJ0_init_81219_1 rfl rfl ?_
  refine J_null dJ0_init_81219_2 ?_
  refine J_callI (As := [.ref h, .null]) dJ0_init_81219_3 (Or.inl ml_J0_489) cal_J0_init_db425 rfl rfl rfl im_J0_init_db425 rfl (Nat.le_of_ble_eq_true rfl) ⟨by decide, by decide⟩ ⟨by decide, by decide⟩ (c_J0_init_db425 hst hW hN hl) (fun v9 A9 n9 _ hQ => ?_)
  have hQ1 := hQ.1
  cases hQ1
  refine J_return dJ0_init_81219_6 rfl (by decide) (by decide) ?_
  exact hQ
theorem c_J4_toString_0e30d (hst : l.stackTraces = false) {h v m : Nat} {tx : List Int32} (hW : sbW A h v m tx) (hl : tx.length ≤ 900) : xx_C G l yJ4_toString_0e30d mJ4_toString_0e30d 5 151 2 1806 [.ref h] A n (fun r A' n' => r = .inl (some (.ref n)) ∧ n' = n + 2 ∧ A' n = some (oT (n + 1)) ∧ (∃ g, A' (n + 1) = some (rB tx.length g) ∧ hol g 0 tx ∧ bfit g) ∧ ∀ z, z < n → A' z = A z) := by
  refine J_C hst (by decide +kernel) rfl rfl rfl (Nat.le_of_ble_eq_true rfl) ?_
  show xx_J _ _ _ _ _ _ _ _ 0 [(0, _)] [] _ _ _ _
  have hA := hW.1
  obtain ⟨f, hB, hr⟩ := hW.2
  refine J_lt hA (fun hhn => ?_)
  refine J_lt hB (fun hvn => ?_)
  refine J_new (fs := [.null, .int 0, .int 0, .int 0]) dJ4_toString_0e30d_0 k_8 cl_J4_18 ins_java_lang_String in_java_lang_String (fun q hq => by rcases (show q = 0 ∨ q = 1 ∨ q = 2 ∨ q = 3 by omega) with rfl | rfl | rfl | rfl <;> rfl) (fun v hv q h => by subst h; simp at hv) (by decide) (by decide) ?_
  refine J_up (fun A1 g1 o1 => ?_)
  have hW1 : sbW A1 h v m tx := hW.up (o1 h (by omega)) (o1 v (by omega))
  refine J_dup dJ4_toString_0e30d_3 rfl ?_
  refine J_aload_n dJ4_toString_0e30d_4 rfl rfl ?_
  refine J_callI (As := [.ref h]) dJ4_toString_0e30d_5 (Or.inl ml_J4_137) cal_J0_init_81219 rfl rfl rfl im_J0_init_81219 rfl (Nat.le_of_ble_eq_true rfl) ⟨by decide, by decide⟩ ⟨by decide, by decide⟩ (c_J0_init_81219 hst hW1 g1 hl) (fun v9 A9 n9 _ hQ => ?_)
  obtain ⟨e9, rfl, k1, k2, k3⟩ := hQ
  cases e9
  refine J_areturn dJ4_toString_0e30d_8 rfl (by decide) (by decide) ?_
  exact ⟨rfl, rfl, k1, k2, fun z hz => (k3 z (by omega) (by omega)).trans (o1 z (by omega))⟩
theorem c_J5_init_d00df (hst : l.stackTraces = false) {h : Nat} (hN : A h = some (.inr (9, [.null, .int 0, .int 0, .int 0]))) : xx_D G l yJ5_init_d00df mJ5_init_d00df 1 20 1 16 [.ref h, .int (nI 16)] A n (fun r A' n' => r = .inl none ∧ n' = n + 1 ∧ sbW A' h n 16 [] ∧ ∀ z, z < n → z ≠ h → A' z = A z) := by
  refine J_D hst (by decide +kernel) rfl rfl rfl (Nat.le_of_ble_eq_true rfl) (fun _ _ _ h => nomatch h.1) ?_
  show xx_J _ _ _ _ _ _ _ _ 0 [(0, _), (1, _)] [] _ _ _ _
  refine J_lt hN (fun hhn => ?_)
  refine J_aload_n dJ5_init_d00df_0 rfl rfl ?_
  refine J_objInit dJ5_init_d00df_1 ml_J5_3 im_objectInit co_objectInit ⟨by decide, by decide⟩ ?_
  refine J_gets (v := .int 1) dJ5_init_d00df_4 st_cs trivial sl_J5_18 ?_
  refine J_if_eq (tgt := 25) dJ5_init_d00df_7 rfl (fun h7 => ?_) (fun h7 => ?_)
  · exact absurd h7 (by decide)
  · refine J_aload_n dJ5_init_d00df_10 rfl rfl ?_
    refine J_iload_n dJ5_init_d00df_11 rfl rfl ?_
    refine J_newb (N := 16) dJ5_init_d00df_12 ac_byte (nI_pos (by omega)) (nI_clamp (by omega)) (by omega) (by decide) (by decide) ?_
    refine J_up (fun A1 g1 o1 => ?_)
    refine J_putf dJ5_init_d00df_14 fp_J5_15 (fun _ => ⟨rfl, rfl⟩) ((o1 h (by omega)).trans hN) (Nat.le_of_ble_eq_true rfl) ?_
    refine J_up (fun A2 g2 o2 => ?_)
    refine J_aload_n dJ5_init_d00df_17 rfl rfl ?_
    refine J_iconst (v := 0) dJ5_init_d00df_18 (by decide) ?_
    refine J_putf dJ5_init_d00df_19 fp_J5_22 (fun _ => ⟨rfl, rfl⟩) g2 (Nat.le_of_ble_eq_true rfl) ?_
    refine J_up (fun A3 g3 o3 => ?_)
    refine J_goto (tgt := 38) dJ5_init_d00df_22 rfl ?_
    refine J_return dJ5_init_d00df_38 rfl (by decide) (by decide) ?_
    exact ⟨rfl, rfl, ⟨g3, _, ((o3 n (by omega)).trans (o2 n (by omega))).trans g1, fun i hi => absurd hi (Nat.not_lt_zero i), sb_fit0, Nat.zero_le _, by decide⟩, fun z hz hzh => ((o3 z hzh).trans (o2 z hzh)).trans (o1 z (by omega))⟩
theorem c_J4_init_da8c8 (hst : l.stackTraces = false) {h : Nat} (hN : A h = some (.inr (9, [.null, .int 0, .int 0, .int 0]))) : xx_D G l yJ4_init_da8c8 mJ4_init_da8c8 2 41 1 16 [.ref h] A n (fun r A' n' => r = .inl none ∧ n' = n + 1 ∧ sbW A' h n 16 [] ∧ ∀ z, z < n → z ≠ h → A' z = A z) := by
  refine J_D hst (by decide +kernel) rfl rfl rfl (Nat.le_of_ble_eq_true rfl) (fun _ _ _ h => nomatch h.1) ?_
  show xx_J _ _ _ _ _ _ _ _ 0 [(0, _)] [] _ _ _ _
  refine J_aload_n dJ4_init_da8c8_0 rfl rfl ?_
  refine J_bipush (v := 16) dJ4_init_da8c8_1 (by decide) ?_
  refine J_callI (As := [.int (nI 16)]) dJ4_init_da8c8_3 (Or.inl ml_J4_1) cal_J5_init_d00df rfl rfl rfl im_J5_init_d00df rfl (Nat.le_of_ble_eq_true rfl) ⟨by decide, by decide⟩ ⟨by decide, by decide⟩ (c_J5_init_d00df hst hN) (fun v9 A9 n9 _ hQ => ?_)
  have hQ1 := hQ.1
  cases hQ1
  refine J_return dJ4_init_da8c8_6 rfl (by decide) (by decide) ?_
  exact hQ
end XSC
