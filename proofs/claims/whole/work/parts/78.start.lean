/-! THE START: what is held of it -/
section XSU
variable {s : State} {b L : Nat} {xs : Nat → Int32} {i j k q e t d n h : Nat} {D : va_G} {dA : Nat → ClassId}
def adr (s : State) (b : Nat) (t : Term) : Nat := match t.eval #[Value.ref b] s none [] s with
  | some (.ref a) => a
  | _ => 0
theorem adr_of {t : Term} {a : Nat} (h : t.eval #[Value.ref b] s none [] s = some (.ref a)) : adr s b t = a := by unfold adr; rw [h]
def adG (s : State) (b L : Nat) (xs : Nat → Int32) : Nat → Nat := fun h => if h < 160 then adr s b (tmT h) else if h = 160 then b else if h = 200 then L else (xs (h - 201)).toBitVec.toNat
abbrev gG (D : va_G) (dA : Nat → ClassId) (s : State) (b L : Nat) (xs : Nat → Int32) : xx_G := (D, dA, s.heap.size, adG s b L xs)
def narH (s : State) (b : Nat) : Prop := ∀ w ∈ narL, w.before #[Value.ref b] s = true
def tblH (s : State) (b : Nat) : Prop := ∀ w ∈ lw_tbl, w.before #[Value.ref b] s = true
theorem ex_ev {t : Term} {C : String} (h : (Cond.exactly t C).before #[Value.ref b] s = true) : t.eval #[Value.ref b] s none [] s = some (.ref (adr s b t)) := by
  obtain ⟨a, c, cA, kA, q1, -⟩ := Cond.exactly_spec (args := #[Value.ref b]) (first := s) (o := none) (s := s) (idx := []) h
  rw [adr_of q1]; exact q1
theorem sg_ex (hs : narH s b) (hi : i < 39) : (Cond.exactly (sgT i) "BeltRounds$Sign").before #[Value.ref b] s = true := hs _ (at_m na_1 hi)
theorem tx_ex (hs : narH s b) (hi : i < 59) : (Cond.exactly (stT i) "java/lang/String").before #[Value.ref b] s = true := hs _ (at_m na_7 hi)
theorem sg_ev (hs : narH s b) (hi : i < 39) : (sgT i).eval #[Value.ref b] s none [] s = some (.ref (adr s b (sgT i))) := ex_ev (sg_ex hs hi)
theorem tx_ev (hs : narH s b) (hi : i < 59) : (stT i).eval #[Value.ref b] s none [] s = some (.ref (adr s b (stT i))) := ex_ev (tx_ex hs hi)
theorem ad_sg (hi : i < 39) : adG s b L xs i = adr s b (sgT i) := by
  unfold adG tmT
  rw [if_pos (by omega), if_pos hi]
theorem ad_al : adG s b L xs 39 = adr s b alT := rfl
theorem ad_wo : adG s b L xs 40 = adr s b woT := rfl
theorem ad_tx (hi : i < 59) : adG s b L xs (41 + i) = adr s b (stT i) := by
  unfold adG tmT
  rw [if_pos (by omega), if_neg (by omega), if_neg (by omega), if_neg (by omega), if_pos (by omega), Nat.add_sub_cancel_left]
theorem ad_va (hi : i < 59) : adG s b L xs (100 + i) = adr s b (vaT i) := by
  unfold adG tmT
  rw [if_pos (by omega), if_neg (by omega), if_neg (by omega), if_neg (by omega), if_neg (by omega), if_pos (by omega), Nat.add_sub_cancel_left]
theorem ad_fm : adG s b L xs 159 = adr s b fmT := rfl
theorem tx_n : (List.range 59).all (fun i => decide ((xx_tx.getD i []).length < 100)) = true := by decide +kernel
theorem hA9 : ∀ a : Nat, a < s.heap.size → ¬ xx_A (gG D dA s b L xs) a := fun a h => Nat.not_le.mpr h
theorem va_ev (hs : narH s b) (hi : i < 59) : (vaT i).eval #[Value.ref b] s none [] s = some (.ref (adr s b (vaT i))) ∧ va_T .byte (adr s b (vaT i)) (xx_tx.getD i []).length (fun j => .int ((xx_tx.getD i []).getD j 0)) (xx_A (gG D dA s b L xs)) s s.heap := by
  have hN := of_decide_eq_true (List.all_eq_true.mp tx_n i (List.mem_range.mpr hi))
  obtain ⟨t, h1, h2⟩ := va_Tof (args := #[Value.ref b]) (s := s) (tm := vaT i) (ty := .byte) (N := (xx_tx.getD i []).length) (f := fun j => .int ((xx_tx.getD i []).getD j 0)) (A := xx_A (gG D dA s b L xs)) (by omega) (hs _ (at_m na_9 hi)) (Cond.eq_int (hs _ (at_m na_10 hi)) rfl) (fun j hj => Cond.eq_int (hs _ (List.mem_of_getElem? (of_decide_eq_true (List.all_eq_true.mp (List.all_eq_true.mp na_11 i (List.mem_range.mpr hi)) j (List.mem_range.mpr hj))))) rfl) hA9
  rw [adr_of h1]
  exact ⟨h1, h2⟩
theorem al_T (hs : narH s b) : alT.eval #[Value.ref b] s none [] s = some (.ref (adr s b alT)) ∧ va_T (.object "BeltRounds$Sign") (adr s b alT) 39 (fun j => .ref (adG s b L xs j)) (xx_A (gG D dA s b L xs)) s s.heap := by
  obtain ⟨t, h1, h2⟩ := va_Tof (args := #[Value.ref b]) (s := s) (tm := alT) (ty := .object "BeltRounds$Sign") (N := 39) (f := fun j => .ref (adG s b L xs j)) (A := xx_A (gG D dA s b L xs)) (by omega) (hs _ na_a) (Cond.eq_int (hs _ na_b) rfl) (fun j hj => Cond.eq_refs (hs _ (at_m na_5 hj)) (by rw [ad_sg hj]; exact sg_ev hs hj) rfl) hA9
  rw [adr_of h1]
  exact ⟨h1, h2⟩
theorem wo_T (hs : narH s b) : woT.eval #[Value.ref b] s none [] s = some (.ref (adr s b woT)) ∧ va_T (.object "java/lang/String") (adr s b woT) 20 (fun j => .ref (adG s b L xs (41 + j))) (xx_A (gG D dA s b L xs)) s s.heap := by
  obtain ⟨t, h1, h2⟩ := va_Tof (args := #[Value.ref b]) (s := s) (tm := woT) (ty := .object "java/lang/String") (N := 20) (f := fun j => .ref (adG s b L xs (41 + j))) (A := xx_A (gG D dA s b L xs)) (by omega) (hs _ na_c) (Cond.eq_int (hs _ na_d) rfl) (fun j hj => Cond.eq_refs (hs _ (at_m na_6 hj)) (by rw [ad_tx (i := j) (by omega)]; exact tx_ev hs (by omega)) rfl) hA9
  rw [adr_of h1]
  exact ⟨h1, h2⟩
theorem tb_st : xx_st.all (fun q => decide (Cond.laysStatic q.1 q.2.1 q.2.2.1 ∈ lw_tbl) && decide (Cond.initialized q.1 ∈ lw_tbl)) = true := by decide +kernel
theorem tb_sx : xx_sx.all (fun q => decide (Cond.stringRef q.1 q.2.1 q.2.2 ∈ lw_tbl)) = true := by decide +kernel
theorem tb_fm : Cond.laysStatic "jdk/internal/util/Preconditions" "SIOOBE_FORMATTER" "Ljava/util/function/BiFunction;" ∈ lw_tbl ∧ Cond.initialized "jdk/internal/util/Preconditions" ∈ lw_tbl ∧ Cond.laysStatic Bundle.tN "UNASSIGNED_STACK" Bundle.steD ∈ lw_tbl ∧ Cond.laysStatic Bundle.tN "SUPPRESSED_SENTINEL" Bundle.listD ∈ lw_tbl ∧ Cond.initialized Bundle.tN ∈ lw_tbl := ⟨by decide +kernel, by decide +kernel, by decide +kernel, by decide +kernel, by decide +kernel⟩
/-- a static field -/
theorem st_1 (hs : narH s b) (hts : tblH s b) : ∀ q ∈ xx_st, va_Z q.1 q.2.1 q.2.2.1 (xx_v (adG s b L xs) q.2.2.2) (xx_A (gG D dA s b L xs)) s s.heap := by
  intro q hq
  have hw := List.all_eq_true.mp tb_st q hq
  rw [Bool.and_eq_true] at hw
  have w1 := hts _ (of_decide_eq_true hw.1)
  have w2 := hts _ (of_decide_eq_true hw.2)
  refine va_Zof w1 w2 ?_ hA9
  rcases List.mem_append.mp hq with hq | hq
  · obtain ⟨i, hi, rfl⟩ := List.mem_map.mp hq
    have hi := List.mem_range.mp hi
    show (sgT i).eval _ s none [] s = some (.ref (adG s b L xs i))
    rw [ad_sg hi]
    exact sg_ev hs hi
  · simp only [List.mem_cons, List.not_mem_nil, or_false] at hq
    rcases hq with rfl | rfl | rfl
    · exact (al_T (L := L) (xs := xs) (D := D) (dA := dA) hs).1
    · exact (wo_T (L := L) (xs := xs) (D := D) (dA := dA) hs).1
    · exact Cond.eq_int (hs _ na_e) rfl
theorem st_2 (hs : narH s b) : ∀ q ∈ xx_sf, va_OF q.2.1 q.2.2.1 q.2.2.2.1 (xx_v (adG s b L xs) q.2.2.2.2) (adG s b L xs q.1) (xx_A (gG D dA s b L xs)) s s.heap := by
  intro q hq
  rcases List.mem_append.mp hq with hq | hq
  · obtain ⟨i, hi, rfl⟩ := List.mem_map.mp hq
    have hi := List.mem_range.mp hi
    show va_OF _ _ _ (.ref (adG s b L xs (61 + i))) (adG s b L xs i) _ s s.heap
    have e61 : (61 : Nat) + i = 41 + (20 + i) := by rw [← Nat.add_assoc]
    have h59 : 20 + i < 59 := Nat.add_lt_add_left hi 20
    rw [ad_sg hi, e61, ad_tx h59]
    exact vk_OFof (sg_ev hs hi) (Cond.eq_refs (hs _ (at_m na_3 hi)) (tx_ev hs h59) rfl) hA9
  · rcases List.mem_append.mp hq with hq | hq
    · obtain ⟨i, hi, rfl⟩ := List.mem_map.mp hq
      have hi := List.mem_range.mp hi
      show va_OF _ _ _ (.ref (adG s b L xs (100 + i))) (adG s b L xs (41 + i)) _ s s.heap
      rw [ad_tx hi, ad_va hi]
      exact vk_OFof (tx_ev hs hi) (va_ev (L := L) (xs := xs) (D := D) (dA := dA) hs hi).1 hA9
    · obtain ⟨i, hi, rfl⟩ := List.mem_map.mp hq
      have hi := List.mem_range.mp hi
      show va_OF _ _ _ (.int 0) (adG s b L xs (41 + i)) _ s s.heap
      rw [ad_tx hi]
      exact vk_OFof (tx_ev hs hi) (Cond.eq_int (hs _ (at_m na_8 hi)) rfl) hA9
theorem st_3 (hs : narH s b) : ∀ q ∈ xx_so, va_O q.2 (adG s b L xs q.1) (xx_A (gG D dA s b L xs)) s s.heap := by
  intro q hq
  rcases List.mem_append.mp hq with hq | hq
  · obtain ⟨i, hi, rfl⟩ := List.mem_map.mp hq
    have hi := List.mem_range.mp hi
    show va_O _ (adG s b L xs i) _ s s.heap
    rw [ad_sg hi]
    exact va_Oof (sg_ex hs hi) (sg_ev hs hi) hA9
  · obtain ⟨i, hi, rfl⟩ := List.mem_map.mp hq
    have hi := List.mem_range.mp hi
    show va_O _ (adG s b L xs (41 + i)) _ s s.heap
    rw [ad_tx hi]
    exact va_Oof (tx_ex hs hi) (tx_ev hs hi) hA9
theorem st_4 (hs : narH s b) : ∀ q ∈ xx_sa, va_T q.2.1 (adG s b L xs q.1) q.2.2.1 (fun j => xx_v (adG s b L xs) (q.2.2.2 j)) (xx_A (gG D dA s b L xs)) s s.heap := by
  intro q hq
  rcases List.mem_cons.mp hq with rfl | hq
  · exact (al_T (L := L) (xs := xs) (D := D) (dA := dA) hs).2
  rcases List.mem_cons.mp hq with rfl | hq
  · exact (wo_T (L := L) (xs := xs) (D := D) (dA := dA) hs).2
  · obtain ⟨i, hi, rfl⟩ := List.mem_map.mp hq
    have hi := List.mem_range.mp hi
    show va_T .byte (adG s b L xs (100 + i)) _ _ _ s s.heap
    rw [ad_va hi]
    exact (va_ev (L := L) (xs := xs) (D := D) (dA := dA) hs hi).2
theorem st_5 (hs : narH s b) : ∀ i j, i < 39 → j < 39 → adG s b L xs i = adG s b L xs j → i = j := by
  intro i j hi hj h
  rw [ad_sg hi, ad_sg hj] at h
  have e1 := va_fe (c := "java/lang/Enum") (n := "ordinal") (d := "I") (sg_ev hs hi)
  have e2 := va_fe (c := "java/lang/Enum") (n := "ordinal") (d := "I") (sg_ev hs hj)
  have f1 : (Term.field (sgT i) "java/lang/Enum" "ordinal" "I").eval #[Value.ref b] s none [] s = some (.int (Int32.ofNat i)) := Cond.eq_int (hs _ (at_m na_2 hi)) rfl
  have f2 : (Term.field (sgT j) "java/lang/Enum" "ordinal" "I").eval #[Value.ref b] s none [] s = some (.int (Int32.ofNat j)) := Cond.eq_int (hs _ (at_m na_2 hj)) rfl
  rw [e1, h] at f1
  rw [e2] at f2
  have := f1.symm.trans f2
  exact nI_ij9 (by omega) (by omega) (Value.int.inj (Option.some.inj this))
theorem st_S (hs : narH s b) (hts : tblH s b) : xx_S (gG D dA s b L xs) s s.heap := by
  refine ⟨st_1 hs hts, st_2 hs, st_3 hs, st_4 hs, st_5 hs, ?_, ?_, ?_, fun q hq => ?_⟩
  · obtain ⟨v, h1, h2⟩ := Cond.isRef_spec (hs _ na_f)
    have z := fun (v : Value) (hv : fmT.eval #[Value.ref b] s none [] s = some v) => va_Zof (A := xx_A (gG D dA s b L xs)) (hts _ tb_fm.1) (hts _ tb_fm.2.1) hv hA9
    cases v with
    | null => exact Or.inl (z _ h1)
    | ref a =>
      refine Or.inr ?_
      show va_Z _ _ _ (.ref (adG s b L xs 159)) _ s s.heap
      rw [ad_fm, adr_of h1]
      exact z _ h1
    | _ => exact absurd h2 (by simp [Value.isRef])
  · exact vx_Zqof (hts _ tb_fm.2.2.1) (hts _ tb_fm.2.2.2.2) (hs _ na_g) hA9
  · exact vx_Zqof (hts _ tb_fm.2.2.2.1) (hts _ tb_fm.2.2.2.2) (hs _ na_h) hA9
  · have w1 := hts _ (of_decide_eq_true (List.all_eq_true.mp tb_sx q hq))
    obtain ⟨i, hi, e⟩ := List.getElem_of_mem hq
    have hi15 : i < 15 := hi
    have w2 := hs _ (at_m na_x hi15)
    have eq9 : xx_sx.getD i ("", 0, "") = q := by rw [List.getD_eq_getElem?_getD, List.getElem?_eq_getElem hi, e]; rfl
    rw [eq9] at w2
    exact ⟨_, vk_R.of w1 (ex_ev w2)⟩
end XSU
