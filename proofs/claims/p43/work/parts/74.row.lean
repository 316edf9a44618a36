/-! Sim.row -/
section XSR
variable {G : xx_G} {l : Launch} {A A' : xx_H} {n : Nat} {k j i q s e t d : Nat}
/-- those of ls who are in -/
abbrev inS (S : sS) (ls : List Nat) : List Nat := ls.filter (fun w => decide (S.2.1 6 w = 0))
/-- going down from d: where the least stands, the last one of them -/
def cdn (r : Nat → Int32) : Nat → Nat → Nat
  | p, 0 => p
  | p, d + 1 => cdn r (if r d < r p then d else p) d
theorem cdn_s {r : Nat → Int32} {p d : Nat} : cdn r p (d + 1) = cdn r (if r d < r p then d else p) d := rfl
theorem s11 (x : Int32) : x - 2 = x - 1 - 1 := by
  simp only [Int32.sub_eq_add_neg, Int32.add_assoc]
  rfl
theorem cdn_le {r : Nat → Int32} : ∀ d p m, d ≤ m → p < m → cdn r p d < m := by
  intro d
  induction d with
  | zero => intro p m _ h; exact h
  | succ d ih => intro p m h1 h2; unfold cdn; exact ih _ m (by omega) (by split <;> omega)
abbrev rsL (S : sS) (li : List Nat) : Nat → Int32 := fun i => rsS S (nI (li.getD i 0))
/-- a row: who is paired, at the end who rests -/
def rwL (S : sS) (li : List Nat) (p : Nat) : Nat := if li.length % 2 = 0 then li.getD p 0 else if p + 1 = li.length then li.getD (cdn (rsL S li) (li.length - 1) (li.length - 1)) 0 else if p < cdn (rsL S li) (li.length - 1) (li.length - 1) then li.getD p 0 else li.getD (p + 1) 0
def rowQ (S : sS) (nw n : Nat) (A : xx_H) : xx_Q := fun r A' n' => ∃ u ls f, r = .inl (some (.ref u)) ∧ n ≤ u ∧ u < n' ∧ srt (sR S) nw ls ∧ A' u = some (.inl (0, (inS S ls).length, .inl f)) ∧ (∀ p, p < (inS S ls).length → f p = nI (rwL S (inS S ls) p)) ∧ ∀ z, z < n → A' z = A z
theorem inS_take {S : sS} {ls : List Nat} {i : Nat} (h : i < ls.length) : inS S (ls.take (i + 1)) = if S.2.1 6 (ls.getD i 0) = 0 then inS S (ls.take i) ++ [ls.getD i 0] else inS S (ls.take i) := by
  unfold inS
  rw [List.take_succ, List.getElem?_eq_getElem h, List.filter_append, getD_at h]
  simp only [Option.toList]
  by_cases hi : S.2.1 6 ls[i] = 0
  · rw [if_pos hi, List.filter_cons_of_pos (by simpa using hi), List.filter_nil]
  · rw [if_neg hi, List.filter_cons_of_neg (by simpa using hi), List.filter_nil, List.append_nil]
theorem inS_len {S : sS} {ls : List Nat} : (inS S ls).length ≤ ls.length := List.length_filter_le _ _
theorem inS_in {S : sS} {ls : List Nat} {p : Nat} (h : p < (inS S ls).length) : (inS S ls).getD p 0 ∈ ls := by
  rw [getD_at h]
  exact (List.mem_filter.mp (List.getElem_mem h)).1
theorem getD_snoc {t : List Nat} {w i : Nat} : (t ++ [w]).getD i 0 = if i < t.length then t.getD i 0 else if i = t.length then w else 0 := by
  simp only [List.getD_eq_getElem?_getD]
  by_cases h : i < t.length
  · rw [if_pos h, List.getElem?_append_left h]
  · rw [if_neg h, List.getElem?_append_right (by omega)]
    by_cases h1 : i = t.length
    · subst h1; simp
    · rw [if_neg h1, List.getElem?_eq_none (by simp; omega)]; rfl
theorem snoc_st {t : List Nat} {w : Nat} {f g : Nat → Int32} {y : Int32} (h : ∀ p, p < t.length → f p = nI (t.getD p 0)) (q2 : ∀ i, i < t.length → g i = f i) (q3 : g t.length = y) (hy : y = nI w) : ∀ p, p < (t ++ [w]).length → g p = nI ((t ++ [w]).getD p 0) := fun p hp => by
  rw [List.length_append] at hp
  have hp2 : p < t.length + 1 := hp
  rw [getD_snoc]
  by_cases e : p < t.length
  · rw [if_pos e, q2 p e]; exact h p e
  · have e2 : p = t.length := by omega
    rw [if_neg e, if_pos e2, e2, q3]; exact hy
theorem sh_0 {f : Nat → Int32} {m pl : Nat} : ∀ p, p < m → f p = if p < pl then f p else if p < pl then f (p + 1) else f p := fun p _ => by
  by_cases e : p < pl
  · rw [if_pos e]
  · rw [if_neg e, if_neg e]
theorem rem2s : ∀ m, m < 100 → nI m - nI m / 2 * 2 = nI (m % 2) := by decide +kernel
theorem sh_st {f g : Nat → Int32} {m i pl : Nat} (hi : i + 1 < m) (hp : pl ≤ i) (h : ∀ p, p < m → g p = if p < pl then f p else if p < i then f (p + 1) else f p) : ∀ p, p < m → upd g i (g (i + 1)) p = if p < pl then f p else if p < i + 1 then f (p + 1) else f p := fun p hpm => by
  by_cases e : p = i
  · subst e
    rw [pk_us, h (p + 1) hi, if_neg (by omega), if_neg (by omega), if_neg (by omega), if_pos (by omega)]
  · rw [pk_un e, h p hpm]
    split
    · rfl
    · by_cases h1 : p < i
      · rw [if_pos h1, if_pos (by omega)]
      · rw [if_neg h1, if_neg (by omega)]
theorem rw_fin {S : sS} {li : List Nat} {m pl : Nat} {f g : Nat → Int32} (hm0 : 0 < m) (hm : li.length = m) (hev : ¬ m % 2 = 0) (hcd : pl = cdn (rsL S li) (m - 1) (m - 1)) (hpl : pl < m) (h4 : ∀ p, p < m → f p = nI (li.getD p 0)) (g3 : ∀ p, p < m → g p = if p < pl then f p else if p < m - 1 then f (p + 1) else f p) {p : Nat} (hp : p < m) : upd g (m - 1) (f pl) p = nI (rwL S li p) := by
  unfold rwL
  rw [hm, if_neg hev, ← hcd]
  by_cases e : p = m - 1
  · subst e
    rw [pk_us, if_pos (by omega)]
    exact h4 pl hpl
  · rw [pk_un e, if_neg (by omega), g3 p hp]
    by_cases h1 : p < pl
    · rw [if_pos h1, if_pos h1]; exact h4 p hp
    · rw [if_neg h1, if_neg h1, if_pos (by omega)]; exact h4 (p + 1) (by omega)
set_option maxRecDepth 100000 in
set_option maxHeartbeats 4000000 in
theorem c_X7_row (hst : l.stackTraces = false) {h : Nat} {S : sS} (hS : simW h S A) (hnb : S.2.2 1 < 1000) (hnr : S.2.2 3 < 1000) {nw : Nat} (hw : S.1 0 = nI nw) (h12 : nw ≤ 12) : xx_C G l yX7_row mX7_row 4 100 16 1300 [.ref h] A n (rowQ S nw n A) := by
  have hS0 := hS
  obtain ⟨ho, p1, p2, p6, ⟨fa, pa, pf⟩, pb, pr⟩ := hS
  refine J_C hst (by decide +kernel) rfl rfl rfl (Nat.le_of_ble_eq_true rfl) ?_
  show xx_J _ _ _ _ _ _ _ _ 0 [(0, _)] [] _ _ _ _
  refine J_ltA (fun ltP => ?_)
  refine J_iconst (v := 0) dX7_row_0 (by decide) ?_
  refine J_newi (N := 0) dX7_row_1 ac_int (by decide) (by decide) (by decide) (by decide) (by decide) ?_
  refine J_up (fun A0 g0 o0 => ?_)
  have hS9 := hS0.up (n := n) ltP (A' := A0) (fun z hz => o0 z (by omega))
  have ho := hS9.1
  refine J_astore_n (L' := [(1, _), (0, _)]) dX7_row_3 rfl (by decide) rfl ?_
  refine J_aload_n dX7_row_4 rfl rfl ?_
  refine J_callV (As := []) dX7_row_5 ml_X7_76 cal_X7_order im_X7_order se_X7_order ho rfl rfl rfl (Nat.le_of_ble_eq_true rfl) ⟨by decide, by decide⟩ ⟨by decide, by decide⟩ (c_X7_order hst hS9 hnb hnr hw h12) (fun _ _ _ _ hE => absurd hE.1 (fun z => nomatch z)) (fun v2 A2 n2 _ hQ => ?_)
  obtain ⟨e2, hn2, ⟨om, ls, hom, hord⟩, k3⟩ := hQ
  subst n2
  cases e2
  have hsrt : srt (sR S) nw ls := ⟨hord.1, hord.2.1⟩
  refine J_astore_n (L' := [(2, _), (1, _), (0, _)]) dX7_row_8 rfl (by decide) rfl ?_
  refine J_aload_n dX7_row_9 rfl rfl ?_
  refine J_alen (v := nI nw) dX7_row_10 hom (by decide) rfl ?_
  refine J_istore_n (L' := [(3, _), (2, _), (1, _), (0, _)]) dX7_row_11 rfl (by decide) rfl ?_
  refine J_iconst (v := 0) dX7_row_12 (by decide) ?_
  refine J_istore (L' := [(4, _), (3, _), (2, _), (1, _), (0, _)]) dX7_row_13 (by decide) rfl ?_
  have loop : ∀ i, i ≤ nw → ∀ (x : Int32) (A1 : xx_H) (n1 k1 j1 u : Nat) (f : Nat → Int32) , (x = nI i) → (n + 4 ≤ n1 ∧ n1 ≤ n + 4 + i) → (k1 ≤ 4 + i ∧ j1 ≤ 36 + 100 * i) → (n ≤ u ∧ u < n1) → (A1 u = some (.inl (0, (inS S (ls.take i)).length, .inl f))) → (A1 (n + 1 + 2) = some (.inl (0, nw, .inl om))) → (∀ z, z < n → A1 z = A z) → (∀ p, p < (inS S (ls.take i)).length → f p = nI ((inS S (ls.take i)).getD p 0)) → xx_J G l mX7_row 4 100 16 1300 (rowQ S nw n A) 15 [(4, .int x), (3, .int (nI nw)), (2, .ref (n + 1 + 2)), (1, .ref u), (0, .ref h)] [] A1 n1 k1 j1 := by
    refine xx_dn ?_ ?_
    · intro x  A1  n1 k1 j1 u  f   hx hn hk hu h1 h2 h3 h4
      have ex : x.toInt = nw := by rw [hx]; exact i_n (by omega)
      have en : (nI nw).toInt = nw := i_n (by omega)
      rw [List.take_of_length_le (by rw [hsrt.len]; exact Nat.le_refl _)] at h1 h4
      have hml : (inS S ls).length ≤ 12 := Nat.le_trans inS_len (by rw [hsrt.len]; exact h12)
      have hS1 := hS0.up (n := n) ltP h3
      have ho := hS1.1
      generalize hm : (inS S ls).length = m at h1 h4 hml
      refine J_iload dX7_row_15 rfl ?_
      refine J_iload_n dX7_row_17 rfl rfl ?_
      refine J_icmp_ge (tgt := 50) dX7_row_18 rfl (fun h18 => ?_) (fun h18 => ?_)
      · refine J_aload_n dX7_row_50 rfl rfl ?_
        refine J_alen (v := nI m) dX7_row_51 h1 (by decide) rfl ?_
        refine J_iconst (v := 2) dX7_row_52 (by decide) ?_
        refine J_irem dX7_row_53 (by decide) ?_
        rw [rem2s m (by omega)]
        refine xx_J.pick [3, 4] rfl ?_
        by_cases hev : m % 2 = 0
        · refine J_if_ne (tgt := 59) dX7_row_54 rfl (fun z => absurd (by rw [hev]; rfl) z) (fun _ => ?_)
          refine J_aload_n dX7_row_57 rfl rfl ?_
          refine J_areturnA dX7_row_58 rfl (by omega) (by omega) ?_
          exact ⟨u, ls, f, rfl, hu.1, hu.2, hsrt, by rw [hm]; exact h1, fun p hp => by rw [hm] at hp; rw [h4 p hp]; unfold rwL; rw [if_pos (by rw [hm]; exact hev)], h3⟩
        · refine J_if_ne (tgt := 59) dX7_row_54 rfl (fun _ => ?_) (fun z => absurd z (fun z => by have := (nI_eq (by omega) (by decide)).mp (show nI (m % 2) = nI 0 from z); omega))
          have hm1 : nI m - 1 = nI (m - 1) := by rw [show (1 : Int32) = nI 1 from rfl, pk_sub (by omega)]
          refine J_aload_n dX7_row_59 rfl rfl ?_
          refine J_alen (v := nI m) dX7_row_60 h1 (by decide) rfl ?_
          refine J_iconst (v := 1) dX7_row_61 (by decide) ?_
          refine J_isub dX7_row_62 ?_
          rw [hm1]
          refine J_istore_n (L' := [(2, _), (1, _), (0, _)]) dX7_row_63 rfl (by decide) rfl ?_
          refine J_aload_n dX7_row_64 rfl rfl ?_
          refine J_alen (v := nI m) dX7_row_65 h1 (by decide) rfl ?_
          refine J_iconst (v := 2) dX7_row_66 (by decide) ?_
          refine J_isub dX7_row_67 ?_
          refine J_istore_n (L' := [(3, _), (2, _), (1, _), (0, _)]) dX7_row_68 rfl (by decide) rfl ?_
          have hrs : ∀ p, p < m → rsS S (f p) = rsL S (inS S ls) p := fun p hp => by rw [h4 p hp]
          have tail : ∀ pl, pl < m → pl = cdn (rsL S (inS S ls)) (m - 1) (m - 1) → ∀ v3, xx_J G l mX7_row 4 100 16 1300 (rowQ S nw n A) 98 [(3, v3), (2, .int (nI pl)), (0, .ref h), (1, .ref u)] [] A1 n1 k1 j1 := by
            intro pl hpl hcd v3
            refine J_aload_n dX7_row_98 rfl rfl ?_
            refine J_iload_n dX7_row_99 rfl rfl ?_
            refine J_ialdN pl dX7_row_100 h1 rfl hpl (by omega) ?_
            refine J_istore_n (L' := [(3, _), (2, _), (0, _), (1, _)]) dX7_row_101 rfl (by decide) rfl ?_
            refine J_iload_n dX7_row_102 rfl rfl ?_
            refine J_istore (L' := [(4, _), (3, _), (2, _), (0, _), (1, _)]) dX7_row_103 (by decide) rfl ?_
            have loop : ∀ i, i ≤ (m - 1) → ∀ (x : Int32) (A2 : xx_H) (g : Nat → Int32) , (x = nI i) → (pl ≤ i) → (A2 u = some (.inl (0, m, .inl g))) → (∀ z, z ≠ u → A2 z = A1 z) → (∀ p, p < m → g p = if p < pl then f p else if p < i then f (p + 1) else f p) → xx_J G l mX7_row 4 100 16 1300 (rowQ S nw n A) 105 [(4, .int x), (3, .int (f pl)), (2, .int (nI pl)), (0, .ref h), (1, .ref u)] [] A2 n1 k1 j1 := by
              refine xx_dn ?_ ?_
              · intro x  A2  g   hx hi9 g1 g2 g3
                have ex : (x + 1).toInt = m := by rw [hx, nI_1]; rw [i_n (by omega)]; omega
                have en : (nI m).toInt = m := i_n (by omega)
                refine J_iload dX7_row_105 rfl ?_
                refine J_iconst (v := 1) dX7_row_107 (by decide) ?_
                refine J_iadd dX7_row_108 ?_
                refine J_aload_n dX7_row_109 rfl rfl ?_
                refine J_alen (v := nI m) dX7_row_110 g1 (by decide) rfl ?_
                refine J_icmp_ge (tgt := 130) dX7_row_111 rfl (fun h111 => ?_) (fun h111 => ?_)
                · refine J_aload_n dX7_row_130 rfl rfl ?_
                  refine J_aload_n dX7_row_131 rfl rfl ?_
                  refine J_alen (v := nI m) dX7_row_132 g1 (by decide) rfl ?_
                  refine J_iconst (v := 1) dX7_row_133 (by decide) ?_
                  refine J_isub dX7_row_134 ?_
                  refine J_iload_n dX7_row_135 rfl rfl ?_
                  refine J_iastQ (m - 1) dX7_row_136 g1 hm1 (by omega) (by omega) (fun A4 g4 o4 => ?_)
                  refine J_aload_n dX7_row_137 rfl rfl ?_
                  refine J_areturnA dX7_row_138 rfl (by omega) (by omega) ?_
                  exact ⟨u, ls, _, rfl, hu.1, hu.2, hsrt, by rw [hm]; exact g4, fun p hp => by
                    rw [hm] at hp
                    exact rw_fin (by omega) hm hev hcd hpl h4 g3 hp, fun z hz => (o4 z (by omega)).trans ((g2 z (by omega)).trans (h3 z hz))⟩
                · first | (exfalso; simp only [i_lt, i_le, i_eq, i_0, i_1, i_2, i_3, i_4, i_5, i_6, i_8, i_9, i_10, i_12, i_16, i_20, i_m1] at h111; omega) | (exfalso; simp only [s_up, a_up, va_up, i_lt, i_le, i_eq, i_0, i_1, i_2, i_3, i_4, i_5, i_6, i_8, i_9, i_10, i_12, i_16, i_20, i_m1, ↓reduceIte, Nat.reduceEqDiff] at h111; omega)
              · intro i hii ih x  A2  g   hx hi9 g1 g2 g3
                have ex : (x + 1).toInt = i + 1 := by rw [hx, nI_1]; exact i_n (by omega)
                have en : (nI m).toInt = m := i_n (by omega)
                refine J_iload dX7_row_105 rfl ?_
                refine J_iconst (v := 1) dX7_row_107 (by decide) ?_
                refine J_iadd dX7_row_108 ?_
                refine J_aload_n dX7_row_109 rfl rfl ?_
                refine J_alen (v := nI m) dX7_row_110 g1 (by decide) rfl ?_
                refine J_icmp_ge (tgt := 130) dX7_row_111 rfl (fun h111 => ?_) (fun h111 => ?_)
                · first | (exfalso; simp only [i_lt, i_le, i_eq, i_0, i_1, i_2, i_3, i_4, i_5, i_6, i_8, i_9, i_10, i_12, i_16, i_20, i_m1] at h111; omega) | (exfalso; simp only [s_up, a_up, va_up, i_lt, i_le, i_eq, i_0, i_1, i_2, i_3, i_4, i_5, i_6, i_8, i_9, i_10, i_12, i_16, i_20, i_m1, ↓reduceIte, Nat.reduceEqDiff] at h111; omega)
                · refine J_aload_n dX7_row_114 rfl rfl ?_
                  refine J_iload dX7_row_115 rfl ?_
                  refine J_aload_n dX7_row_117 rfl rfl ?_
                  refine J_iload dX7_row_118 rfl ?_
                  refine J_iconst (v := 1) dX7_row_120 (by decide) ?_
                  refine J_iadd dX7_row_121 ?_
                  refine J_ialdN (i + 1) dX7_row_122 g1 (by rw [hx]; exact nI_1 i) (by omega) (by omega) ?_
                  refine J_iastQ i dX7_row_123 g1 hx (by omega) (by omega) (fun A4 g4 o4 => ?_)
                  refine J_iinc (v := _ + 1) (L' := [(4, _), (3, _), (2, _), (0, _), (1, _)]) dX7_row_124 rfl rfl (by decide) rfl ?_
                  refine J_goto (tgt := 105) dX7_row_127 rfl ?_
                  refine xx_J.pick [0, 1, 2, 3, 4] rfl ?_
                  exact ih _ _ _  (by rw [hx]; exact nI_1 i) (by omega) g4 (fun z hz => (o4 z hz).trans (g2 z hz)) (sh_st (by omega) hi9 g3)
            refine xx_J.pick [0, 1, 2, 3, 4] rfl ?_
            exact loop pl (by omega) _ _ _  rfl (Nat.le_refl _) h1 (fun _ _ => rfl) sh_0
          have scan : ∀ d pl, d ≤ m → pl < m → cdn (rsL S (inS S ls)) pl d = cdn (rsL S (inS S ls)) (m - 1) (m - 1) → xx_J G l mX7_row 4 100 16 1300 (rowQ S nw n A) 69 [(3, .int (nI d - 1)), (2, .int (nI pl)), (0, .ref h), (1, .ref u)] [] A1 n1 k1 j1 := by
            intro d
            induction d with
            | zero =>
              intro pl _ hpl hcd
              refine J_iload_n dX7_row_69 rfl rfl ?_
              refine J_if_lt (tgt := 98) dX7_row_70 rfl (fun _ => ?_) (fun z => absurd (by decide) z)
              · exact tail pl hpl hcd _
            | succ d ihd =>
              intro pl hd hpl hcd
              have hd1 : nI (d + 1) - 1 = nI d := by rw [show (1 : Int32) = nI 1 from rfl, pk_sub (by omega)]; rfl
              rw [hd1]
              refine J_iload_n dX7_row_69 rfl rfl ?_
              refine J_if_lt (tgt := 98) dX7_row_70 rfl (fun z => absurd z (nI_pos (by omega))) (fun _ => ?_)
              refine J_aload_n dX7_row_73 rfl rfl ?_
              refine J_aload_n dX7_row_74 rfl rfl ?_
              refine J_iload_n dX7_row_75 rfl rfl ?_
              refine J_ialdN d dX7_row_76 h1 rfl (by omega) (by omega) ?_
              refine J_callVr (As := [_]) dX7_row_77 ml_X7_53 cal_X7_rested im_X7_rested se_X7_rested ho rfl rfl rfl (Nat.le_of_ble_eq_true rfl) ⟨by decide, by decide⟩ ⟨by omega, by omega⟩ (c_X7_rested hst hS1 hnb hnr _) ?_
              refine J_aload_n dX7_row_80 rfl rfl ?_
              refine J_aload_n dX7_row_81 rfl rfl ?_
              refine J_iload_n dX7_row_82 rfl rfl ?_
              refine J_ialdN pl dX7_row_83 h1 rfl hpl (by omega) ?_
              refine J_callVr (As := [_]) dX7_row_84 ml_X7_53 cal_X7_rested im_X7_rested se_X7_rested ho rfl rfl rfl (Nat.le_of_ble_eq_true rfl) ⟨by decide, by decide⟩ ⟨by omega, by omega⟩ (c_X7_rested hst hS1 hnb hnr _) ?_
              refine J_icmp_ge (tgt := 92) dX7_row_87 rfl (fun h87 => ?_) (fun h87 => ?_)
              · refine J_iinc (v := _ + (-1)) (L' := [(3, _), (2, _), (0, _), (1, _)]) dX7_row_92 rfl rfl (by decide) rfl ?_
                refine J_goto (tgt := 69) dX7_row_95 rfl ?_
                refine xx_J.pick [0, 1, 2, 3] rfl ?_
                rw [show nI d + (-1) = nI d - 1 from by rw [Int32.sub_eq_add_neg]]
                exact ihd pl (by omega) hpl (by rw [← hcd, cdn_s, if_neg (by rw [← hrs d (by omega), ← hrs pl hpl]; exact Int32.not_lt.mpr h87)])
              · refine J_iload_n dX7_row_90 rfl rfl ?_
                refine J_istore_n (L' := [(2, _), (3, _), (0, _), (1, _)]) dX7_row_91 rfl (by decide) rfl ?_
                refine J_iinc (v := _ + (-1)) (L' := [(3, _), (2, _), (0, _), (1, _)]) dX7_row_92 rfl rfl (by decide) rfl ?_
                refine J_goto (tgt := 69) dX7_row_95 rfl ?_
                refine xx_J.pick [0, 1, 2, 3] rfl ?_
                rw [show nI d + (-1) = nI d - 1 from by rw [Int32.sub_eq_add_neg]]
                exact ihd d (by omega) (by omega) (by rw [← hcd, cdn_s, if_pos (by rw [← hrs d (by omega), ← hrs pl hpl]; exact Int32.not_le.mp h87)])
          refine xx_J.pick [0, 1, 3, 2] rfl ?_
          rw [s11, hm1]
          exact scan (m - 1) (m - 1) (by omega) (by omega) rfl
      · first | (exfalso; simp only [i_lt, i_le, i_eq, i_0, i_1, i_2, i_3, i_4, i_5, i_6, i_8, i_9, i_10, i_12, i_16, i_20, i_m1] at h18; omega) | (exfalso; simp only [s_up, a_up, va_up, i_lt, i_le, i_eq, i_0, i_1, i_2, i_3, i_4, i_5, i_6, i_8, i_9, i_10, i_12, i_16, i_20, i_m1, ↓reduceIte, Nat.reduceEqDiff] at h18; omega)
    · intro i hii ih x  A1  n1 k1 j1 u  f   hx hn hk hu h1 h2 h3 h4
      have ex : x.toInt = i := by rw [hx]; exact i_n (by omega)
      have en : (nI nw).toInt = nw := i_n (by omega)
      have hli : i < ls.length := by rw [hsrt.len]; exact hii
      have hoi : om i = nI (ls.getD i 0) := hord.2.2 i hii
      have hlt : ls.getD i 0 < nw := hord.lt hii
      have hS1 := hS0.up (n := n) ltP h3
      have ho := hS1.1
      have q6 := hS1.2.2.2.1
      have hmi : (inS S (ls.take i)).length ≤ 12 := Nat.le_trans inS_len (Nat.le_trans (List.length_take_le _ _) (by omega))
      refine J_iload dX7_row_15 rfl ?_
      refine J_iload_n dX7_row_17 rfl rfl ?_
      refine J_icmp_ge (tgt := 50) dX7_row_18 rfl (fun h18 => ?_) (fun h18 => ?_)
      · first | (exfalso; simp only [i_lt, i_le, i_eq, i_0, i_1, i_2, i_3, i_4, i_5, i_6, i_8, i_9, i_10, i_12, i_16, i_20, i_m1] at h18; omega) | (exfalso; simp only [s_up, a_up, va_up, i_lt, i_le, i_eq, i_0, i_1, i_2, i_3, i_4, i_5, i_6, i_8, i_9, i_10, i_12, i_16, i_20, i_m1, ↓reduceIte, Nat.reduceEqDiff] at h18; omega)
      · refine J_aload_n dX7_row_21 rfl rfl ?_
        refine J_iload dX7_row_22 rfl ?_
        refine J_ialdN i dX7_row_24 h2 hx hii (by omega) ?_
        refine J_istore (L' := [(5, _), (4, _), (3, _), (2, _), (1, _), (0, _)]) dX7_row_25 (by decide) rfl ?_
        refine J_aload_n dX7_row_27 rfl rfl ?_
        refine J_getf dX7_row_28 fl_X7_25 (ho) rfl ?_
        refine J_iload dX7_row_31 rfl ?_
        refine J_zald (v := S.2.1 6 (ls.getD i 0)) dX7_row_33 q6 (by rw [hoi]; exact vp_in_nI (by omega) (by decide)) (by rw [hoi, nI_clamp (by omega)]) ?_
        refine J_if_ne (tgt := 44) dX7_row_34 rfl (fun hin0 => ?_) (fun hin0 => ?_)
        · refine J_iinc (v := _ + 1) (L' := [(4, _), (5, _), (3, _), (2, _), (1, _), (0, _)]) dX7_row_44 rfl rfl (by decide) rfl ?_
          refine J_goto (tgt := 15) dX7_row_47 rfl ?_
          refine xx_J.pick [0, 2, 3, 4, 5] rfl ?_
          exact ih _ _ _ _ _ _ _  (by rw [hx]; exact nI_1 i) (by omega) (by omega) hu (by rw [inS_take hli, if_neg hin0]; exact h1) h2 h3 (by rw [inS_take hli, if_neg hin0]; exact h4)
        · refine J_aload_n dX7_row_37 rfl rfl ?_
          refine J_iload dX7_row_38 rfl ?_
          refine J_callSg (As := [_, _]) dX7_row_40 ml_X7_80 cal_X7_with_ rfl sm_X7_with_ rfl (Nat.le_of_ble_eq_true rfl) ⟨by decide, by decide⟩ ⟨by omega, by omega⟩ (c_X7_with_ hst h1 (by omega)) (fun v8 A8 n8 _ hQ => ?_) (fun _ _ _ _ hE => absurd hE.1 (fun z => nomatch z))
          obtain ⟨e8, hn8, ⟨g, q1, q2, q3⟩, q4⟩ := hQ
          subst n8
          cases e8
          refine J_astore_n (L' := [(1, _), (5, _), (4, _), (3, _), (2, _), (0, _)]) dX7_row_43 rfl (by decide) rfl ?_
          refine J_iinc (v := _ + 1) (L' := [(4, _), (1, _), (5, _), (3, _), (2, _), (0, _)]) dX7_row_44 rfl rfl (by decide) rfl ?_
          refine J_goto (tgt := 15) dX7_row_47 rfl ?_
          refine xx_J.pick [0, 3, 4, 1, 5] rfl ?_
          exact ih _ _ _ _ _ _ _  (by rw [hx]; exact nI_1 i) (by omega) (by omega) ⟨by omega, Nat.lt_succ_self _⟩ (by rw [inS_take hli, if_pos hin0, List.length_append]; exact q1) ((q4 (n + 1 + 2) (by omega)).trans h2) (fun z hz => (q4 z (by omega)).trans (h3 z hz)) (by rw [inS_take hli, if_pos hin0]; exact snoc_st h4 q2 q3 hoi)
  refine xx_J.pick [0, 1, 2, 3, 4] rfl ?_
  exact loop 0 (by omega) _ _ _ _ _ _ _  rfl ⟨Nat.le_refl _, Nat.le_refl _⟩ (by omega) ⟨Nat.le_refl _, by omega⟩ ((k3 n (by omega)).trans g0) hom (fun z hz => (k3 z (by omega)).trans (o0 z (by omega))) (fun p hp => absurd hp (Nat.not_lt_zero p))
end XSR
