/-! BEHIND taught: the tape, the rules and the field are those that were told -/
section XTO
variable {n : Nat} {k i j q s e t d p : Nat} {T R R1 D1 F F' FF : xS} {len : Nat} {G : xx_G} {A A' : xx_H} {b nw nb : Nat}
theorem shl8 (m : Nat) : nI m <<< ((8 : Int32) &&& 31) = nI (m * 256) := by
  apply Int32.toBitVec_inj.mp
  rw [Int32.toBitVec_shiftLeft, i_toBV, i_toBV]
  have e : ((8 &&& 31 : Int32).toBitVec.smod 32) = 8#32 := by decide
  rw [e]
  apply BitVec.eq_of_toNat_eq
  simp [BitVec.toNat_shiftLeft, Nat.shiftLeft_eq]
theorem or8 {a c : Nat} (hc : c < 256) : nI (a * 256) ||| nI c = nI (a * 256 + c) := by
  have h := Nat.shiftLeft_add_eq_or_of_lt (i := 8) (b := c) (by omega) a
  rw [Nat.shiftLeft_eq] at h
  have h : a * 256 + c = a * 256 ||| c := h
  rw [h]
  apply Int32.toBitVec_inj.mp
  rw [Int32.toBitVec_or, i_toBV, i_toBV, i_toBV, BitVec.ofNat_or]
theorem b8 {k : Nat} (hk : k < 2 ^ 31) (h : k % 256 < 128) : (nI k).toInt8.toInt32 = nI (k % 256) := by
  apply Int32.toInt_inj.mp
  rw [Int8.toInt_toInt32, Int32.toInt_toInt8, i_n hk, i_n (by omega)]
  show (k : Int).bmod 256 = ((k % 256 : Nat) : Int)
  rw [Int.bmod_def]
  omega
/-- the chars are below 128 -/
abbrev chL (f : Nat → Int32) (L : Nat) : Prop := ∀ p, p < L → ∃ c, f p = nI c ∧ c < 128
theorem cT_lt {f : Nat → Int32} {L : Nat} (h : chL f L) (p : Nat) : ∃ c, cT f L p = nI c ∧ c < 128 := by
  unfold cT
  by_cases z : p < L
  · rw [if_pos z]; exact h p z
  · rw [if_neg z]; exact ⟨32, rfl, by omega⟩
/-- a byte of four chars -/
theorem w4_b {f : Nat → Int32} {L : Nat} (h : chL f L) (p : Nat) {t : Nat} (ht : t < 4) : (w4 f L p >>> ((24 - 8 * nI t) &&& 31)).toInt8.toInt32 = cT f L (p + t) := by
  obtain ⟨c0, e0, h0⟩ := cT_lt h (p + 0)
  obtain ⟨c1, e1, h1⟩ := cT_lt h (p + 1)
  obtain ⟨c2, e2, h2⟩ := cT_lt h (p + 2)
  obtain ⟨c3, e3, h3⟩ := cT_lt h (p + 3)
  have ew : w4 f L p = nI (((c0 * 256 + c1) * 256 + c2) * 256 + c3) := by
    show (((((0 <<< ((8 : Int32) &&& 31)) ||| cT f L (p + 0)) <<< ((8 : Int32) &&& 31) ||| cT f L (p + 1)) <<< ((8 : Int32) &&& 31) ||| cT f L (p + 2)) <<< ((8 : Int32) &&& 31) ||| cT f L (p + 3)) = _
    rw [e0, e1, e2, e3, show (0 : Int32) = nI 0 from rfl, shl8, or8 (by omega), show 0 * 256 + c0 = c0 by omega, shl8, or8 (by omega), shl8, or8 (by omega), shl8, or8 (by omega)]
  have hw : ((c0 * 256 + c1) * 256 + c2) * 256 + c3 < 2 ^ 31 := by omega
  rw [ew]
  rcases (show t = 0 ∨ t = 1 ∨ t = 2 ∨ t = 3 by omega) with rfl | rfl | rfl | rfl
  · rw [pk_shrN hw _ 24 (by decide), e0, b8 (by omega) (by omega)]
    exact congrArg nI (by omega)
  · rw [pk_shrN hw _ 16 (by decide), e1, b8 (by omega) (by omega)]
    exact congrArg nI (by omega)
  · rw [pk_shrN hw _ 8 (by decide), e2, b8 (by omega) (by omega)]
    exact congrArg nI (by omega)
  · rw [pk_shrN hw _ 0 (by decide), e3, b8 (by omega) (by omega)]
    exact congrArg nI (by omega)
theorem apN_w {f : Nat → Int32} {L : Nat} (h : chL f L) (hT : T.1 1 = nI len) (hl : len < 4000) {p : Nat} : (apN T len (w4 f L p) 4).2 1 q = if len ≤ q ∧ q < len + 4 then cT f L (p + (q - len)) else T.2 1 q := by
  rw [apN_b 4 hT (by omega)]
  by_cases c : len ≤ q ∧ q < len + 4
  · rw [if_pos c, if_pos c]; exact w4_b h p (by omega)
  · rw [if_neg c, if_neg c]
theorem tpF_b {f : Nat → Int32} {L : Nat} (h : chL f L) (h0 : T.1 1 = 0) : ∀ i, 20 * i ≤ 2000 → ∀ q, q < 20 * i → (tpF f L T i).2 1 q = cT f L q := by
  intro i
  induction i with
  | zero => intro _ q hq; omega
  | succ i ih =>
    intro h9 q hq
    have z := tpF_1 (f := f) (L := L) h0 i (by omega)
    have l1 := apN_l (v := w4 f L (20 * i)) z 4
    have l2 := apN_l (v := w4 f L (20 * i + 4)) l1 4
    have l3 := apN_l (v := w4 f L (20 * i + 8)) l2 4
    have l4 := apN_l (v := w4 f L (20 * i + 12)) l3 4
    show (tFeed (tpF f L T i) (20 * i) _ _ _ _ _).2 1 q = _
    unfold tFeed
    rw [if_pos (by omega)]
    rw [apN_w h l4 (by omega), apN_w h l3 (by omega), apN_w h l2 (by omega), apN_w h l1 (by omega), apN_w h z (by omega)]
    (repeat' split) <;> first | (exact congrArg (cT f L) (by omega)) | (exact ih (by omega) q (by omega)) | (exfalso; omega)
theorem tp_H {f : Nat → Int32} {L : Nat} (h : chL f L) (h0 : T.1 1 = 0) (hL : L ≤ 900) (e1 : L = (rlX G (nrV G)).length) (e2 : ∀ p, p < L → f p = (rlX G (nrV G)).getD p 0) : tpH G (tTrim (tpF f L T ((L + 19) / 20)) (20 * ((L + 19) / 20)) (nI L)) L := by
  refine ⟨e1, fun q hq => ?_⟩
  have z := tpF_b h h0 ((L + 19) / 20) (by omega) q (by omega)
  have e : (tTrim (tpF f L T ((L + 19) / 20)) (20 * ((L + 19) / 20)) (nI L)).2 1 q = (tpF f L T ((L + 19) / 20)).2 1 q := by
    unfold tTrim
    split <;> rfl
  rw [e, z, ← e2 q hq]
  unfold cT
  rw [if_pos hq]
/-! the rules -/
/-- what the told rules say over a Field -/
def rlF (G : xx_G) (F : xS) (i j : Nat) : Nat → Nat → Int32
  | 0, _ => 1
  | d + 1, r => if (∀ t, tsV G r = some t → ¬ trF F i j 4 t = 0) then nI (outV G r) else rlF G F i j d (r + 1)
def ruG (G : xx_G) (F : xS) (i j : Nat) : Int32 := rlF G F i j (nrV G) 0
theorem ruG_v (F : xS) (i j : Nat) : ruG G F i j = 0 ∨ ruG G F i j = 1 ∨ ruG G F i j = 2 := by
  have h : ∀ d r, rlF G F i j d r = 0 ∨ rlF G F i j d r = 1 ∨ rlF G F i j d r = 2 := by
    intro d
    induction d with
    | zero => intro r; exact Or.inr (Or.inl rfl)
    | succ d ih =>
      intro r
      show (if (∀ t, tsV G r = some t → ¬ trF F i j 4 t = 0) then nI (outV G r) else rlF G F i j d (r + 1)) = 0 ∨ (if (∀ t, tsV G r = some t → ¬ trF F i j 4 t = 0) then nI (outV G r) else rlF G F i j d (r + 1)) = 1 ∨ (if (∀ t, tsV G r = some t → ¬ trF F i j 4 t = 0) then nI (outV G r) else rlF G F i j d (r + 1)) = 2
      split
      · have := outV_lt (G := G) (i := r)
        rcases (show outV G r = 0 ∨ outV G r = 1 ∨ outV G r = 2 by omega) with z | z | z <;> rw [z]
        · exact Or.inl rfl
        · exact Or.inr (Or.inl rfl)
        · exact Or.inr (Or.inr rfl)
      · exact ih (r + 1)
  exact h _ _
/-- all that a rule sees of a bout -/
def agT (F F' : xS) (i j : Nat) : Prop := F.1 1 = F'.1 1 ∧ (∀ c, c < 10 → F.2 2 (c * 12 + i) = F'.2 2 (c * 12 + i) ∧ F.2 2 (c * 12 + j) = F'.2 2 (c * 12 + j)) ∧ F.2 3 (i * 12 + j) = F'.2 3 (i * 12 + j)
theorem trF_c (h : agT F F' i j) : ∀ (f : Nat) (tr : Tr f), trF F i j f tr = trF F' i j f tr := by
  intro f
  induction f with
  | zero => intro tr; rfl
  | succ f ih =>
    intro tr
    obtain ⟨h1, h2, h3⟩ := h
    show (if tr.1.1 = 0 then nI tr.1.2 else if tr.1.1 = 1 then F.1 1 - 1 else if tr.1.1 < 8 then F.2 2 (qK tr.1.1 * 12 + (if tr.1.2 = 0 then i else j)) else if tr.1.1 = 25 then (if 1 < F.2 3 (i * 12 + j) then 1 else 0) else if tr.1.1 = 8 then -(trF F i j f tr.2.1) else if tr.1.1 = 26 then 1 - trF F i j f tr.2.1 else opJ (nI (opK tr.1.1)) (trF F i j f tr.2.1) (trF F i j f tr.2.2)) = (if tr.1.1 = 0 then nI tr.1.2 else if tr.1.1 = 1 then F'.1 1 - 1 else if tr.1.1 < 8 then F'.2 2 (qK tr.1.1 * 12 + (if tr.1.2 = 0 then i else j)) else if tr.1.1 = 25 then (if 1 < F'.2 3 (i * 12 + j) then 1 else 0) else if tr.1.1 = 8 then -(trF F' i j f tr.2.1) else if tr.1.1 = 26 then 1 - trF F' i j f tr.2.1 else opJ (nI (opK tr.1.1)) (trF F' i j f tr.2.1) (trF F' i j f tr.2.2))
    have e : F.2 2 (qK tr.1.1 * 12 + (if tr.1.2 = 0 then i else j)) = F'.2 2 (qK tr.1.1 * 12 + (if tr.1.2 = 0 then i else j)) := by
      have := h2 (qK tr.1.1) qK_lt
      split
      · exact this.1
      · exact this.2
    rw [ih, ih, h1, h3, e]
theorem ruG_a (h : agT F F' i j) : ruG G F i j = ruG G F' i j := by
  have z : ∀ d r, rlF G F i j d r = rlF G F' i j d r := by
    intro d
    induction d with
    | zero => intro r; rfl
    | succ d ih =>
      intro r
      show (if (∀ t, tsV G r = some t → ¬ trF F i j 4 t = 0) then nI (outV G r) else rlF G F i j d (r + 1)) = if (∀ t, tsV G r = some t → ¬ trF F' i j 4 t = 0) then nI (outV G r) else rlF G F' i j d (r + 1)
      have e : (∀ t, tsV G r = some t → ¬ trF F i j 4 t = 0) ↔ (∀ t, tsV G r = some t → ¬ trF F' i j 4 t = 0) := ⟨fun y t ht => by rw [← trF_c h 4 t]; exact y t ht, fun y t ht => by rw [trF_c h 4 t]; exact y t ht⟩
      by_cases c : (∀ t, tsV G r = some t → ¬ trF F i j 4 t = 0)
      · rw [if_pos c, if_pos (e.mp c)]
      · rw [if_neg c, if_neg (fun y => c (e.mpr y)), ih]
  exact z _ _
theorem eqF.agT (h : eqF nw nb F F') (hi : i < nw) (hj : j < nw) : agT F F' i j := ⟨h.1.2.1, fun c hc => ⟨h.2.2.1 c i hc hi, h.2.2.1 c j hc hj⟩, h.2.2.2.1 i j hi hj⟩
theorem ruG_c : ∀ nb F F' i j, eqF nw nb F F' → i < nw → j < nw → ruG G F i j = ruG G F' i j := fun nb F F' i j h hi hj => ruG_a (h.agT hi hj)
theorem trC_ok : ∀ (f : Nat) (tr : Tr f) (x : Int32 × Int32), x ∈ trC f tr → stOK x.1 x.2 := by
  intro f
  induction f with
  | zero => intro tr x hx; exact absurd hx List.not_mem_nil
  | succ f ih =>
    intro tr x hx
    have hn : ∀ a c : Int32, ¬ (a = 3 ∨ a = 4) → stOK a c := fun a c h z => absurd z h
    have hx : x ∈ (if tr.1.1 = 0 then [(1, nI tr.1.2)] else if tr.1.1 = 1 then [(2, 0)] else if tr.1.1 < 8 then [(if tr.1.2 = 0 then 3 else 4, nI (qK tr.1.1))] else if tr.1.1 = 25 then [(5, 0)] else if tr.1.1 = 8 then trC f tr.2.1 ++ [(6, 0)] else if tr.1.1 = 26 then trC f tr.2.1 ++ [(7, 0)] else trC f tr.2.1 ++ trC f tr.2.2 ++ [(nI (opK tr.1.1), 0)]) := hx
    by_cases c0 : tr.1.1 = 0
    · rw [if_pos c0, List.mem_singleton] at hx; rw [hx]; exact hn 1 _ (by decide)
    rw [if_neg c0] at hx
    by_cases c1 : tr.1.1 = 1
    · rw [if_pos c1, List.mem_singleton] at hx; rw [hx]; exact hn _ _ (by decide)
    rw [if_neg c1] at hx
    by_cases c2 : tr.1.1 < 8
    · rw [if_pos c2, List.mem_singleton] at hx; rw [hx]; exact fun _ => ⟨_, qK_lt, rfl⟩
    rw [if_neg c2] at hx
    by_cases c3 : tr.1.1 = 25
    · rw [if_pos c3, List.mem_singleton] at hx; rw [hx]; exact hn _ _ (by decide)
    rw [if_neg c3] at hx
    by_cases c4 : tr.1.1 = 8
    · rw [if_pos c4, List.mem_append, List.mem_singleton] at hx
      rcases hx with hx | hx
      · exact ih _ x hx
      · rw [hx]; exact hn _ _ (by decide)
    rw [if_neg c4] at hx
    by_cases c5 : tr.1.1 = 26
    · rw [if_pos c5, List.mem_append, List.mem_singleton] at hx
      rcases hx with hx | hx
      · exact ih _ x hx
      · rw [hx]; exact hn _ _ (by decide)
    rw [if_neg c5, List.mem_append, List.mem_append, List.mem_singleton] at hx
    rcases hx with (hx | hx) | hx
    · exact ih _ x hx
    · exact ih _ x hx
    · rw [hx]
      exact fun _ => ⟨0, by omega, rfl⟩
/-- the steps of the first rules -/
abbrev pfR (G : xx_G) (r : Nat) : List (Int32 × Int32) := flatR ((List.range r).map (fun r => (nI (outV G r), stpO (tsV G r))))
theorem pfR_s {r : Nat} : pfR G (r + 1) = pfR G r ++ stpO (tsV G r) := by
  show flatR ((List.range (r + 1)).map _) = _
  rw [List.range_succ, List.map_append, flatR_app]
  exact congrArg (pfR G r ++ ·) (List.append_nil _)
theorem stpO_len {o : Option (Tr 4)} : (stpO o).length ≤ 15 := by
  cases o with
  | none => exact Nat.zero_le _
  | some t => have := trC_len 4 t; show (trC 4 t).length ≤ 15; omega
theorem pfR_len : ∀ r, (pfR G r).length ≤ 15 * r := by
  intro r
  induction r with
  | zero => exact Nat.le_refl _
  | succ r ih => rw [pfR_s, List.length_append]; have := stpO_len (o := tsV G r); omega
theorem pfR_at {r : Nat} (hq : q < (pfR G r).length) : ∀ m, r ≤ m → q < (pfR G m).length ∧ (pfR G m).getD q (0, 0) = (pfR G r).getD q (0, 0) := by
  intro m
  induction m with
  | zero => intro h; have e : r = 0 := by omega
            subst e; exact ⟨hq, rfl⟩
  | succ m ih =>
    intro h
    by_cases c : r = m + 1
    · subst c; exact ⟨hq, rfl⟩
    · obtain ⟨g1, g2⟩ := ih (by omega)
      rw [pfR_s, List.length_append, getD_app1 g1]
      exact ⟨by omega, g2⟩
theorem pfR_n {r : Nat} (hq : q < (stpO (tsV G r)).length) (m : Nat) (h : r < m) : (pfR G r).length + q < (pfR G m).length ∧ (pfR G m).getD ((pfR G r).length + q) (0, 0) = (stpO (tsV G r)).getD q (0, 0) := by
  have e : (pfR G r).length + q < (pfR G (r + 1)).length := by rw [pfR_s, List.length_append]; omega
  obtain ⟨g1, g2⟩ := pfR_at e m h
  refine ⟨g1, g2.trans ?_⟩
  rw [pfR_s, getD_app2]
theorem pfR_m {x : Int32 × Int32} : ∀ m, x ∈ pfR G m → stOK x.1 x.2 := by
  intro m
  induction m with
  | zero => intro h; exact absurd h List.not_mem_nil
  | succ m ih =>
    intro h
    rw [pfR_s, List.mem_append] at h
    rcases h with h | h
    · exact ih h
    · cases hw : tsV G m with
      | none => rw [hw] at h; exact absurd h List.not_mem_nil
      | some t => rw [hw] at h; exact trC_ok 4 t x h
theorem rsG_t {r : Nat} (h : r ≤ nrV G) : flatR ((rsG G).take r) = pfR G r := by
  show flatR (List.take r (List.map _ (List.range (nrV G)))) = _
  rw [← List.map_take, List.take_range, show min r (nrV G) = r by omega]
theorem rsG_g {r : Nat} (h : r < nrV G) : (rsG G).getD r (0, []) = (nI (outV G r), stpO (tsV G r)) := by
  rw [List.getD_eq_getElem?_getD, List.getElem?_map, List.getElem?_range h]; rfl
/-- the told rules are the class's -/
theorem ruX_told {mt : Nat} (h6 : R.1 6 = nI mt) (hr : rlI (rsG G) R1) : ruX (cpyR R R1) (ruG G) (nrV G) := by
  obtain ⟨a1, a2, a3, a4⟩ := hr
  have h4 := nrV_lt (G := G)
  have hl : (rsG G).length = nrV G := by rw [List.length_map, List.length_range]
  have hfl : flatR (rsG G) = pfR G (nrV G) := rfl
  rw [hl] at a1 a4
  rw [hfl] at a2 a3
  have hp := pfR_len (G := G) (nrV G)
  have c3 : ∀ p, p < 400 → (cpyR R R1).2 3 p = R1.2 3 p := fun p h => cpa_lt (z := 400) rfl h
  have c4 : ∀ p, p < 400 → (cpyR R R1).2 4 p = R1.2 4 p := fun p h => cpa_lt (z := 400) rfl h
  have c1 : ∀ p, p < 16 → (cpyR R R1).2 1 p = R1.2 1 p := fun p h => cpa_lt (z := 16) rfl h
  have c2 : ∀ p, p < 16 → (cpyR R R1).2 2 p = R1.2 2 p := fun p h => cpa_lt (z := 16) rfl h
  have hb : ∀ r, bgn (fun r => (pfR G (r + 1)).length) r = (pfR G r).length := fun r => by
    unfold bgn
    by_cases c : r = 0
    · rw [if_pos c, c]; rfl
    · rw [if_neg c]
      show (pfR G (r - 1 + 1)).length = _
      rw [show r - 1 + 1 = r by omega]
  refine ⟨fun r => (pfR G (r + 1)).length, mt, h6, ⟨?_, by omega, fun r hr => ⟨?_, ?_, ?_, fun p hp2 => ?_⟩⟩, fun F i j => ?_⟩
  · show R1.1 0 = _
    rw [a1, show min (nrV G) 16 = nrV G by omega]
  · rw [c2 r (by omega), (a4 r hr (by omega)).2, rsG_t hr]
  · have := pfR_len (G := G) (r + 1)
    show (pfR G (r + 1)).length ≤ 400
    omega
  · rw [hb]
    show (pfR G r).length ≤ (pfR G (r + 1)).length
    rw [pfR_s, List.length_append]; omega
  · have hp3 : p < (pfR G (r + 1)).length := hp2
    obtain ⟨g1, g2⟩ := pfR_at hp3 (nrV G) hr
    rw [c3 p (by omega), c4 p (by omega), (a3 p g1).1, (a3 p g1).2]
    refine pfR_m (G := G) (nrV G) ?_
    rw [List.getD_eq_getElem?_getD, List.getElem?_eq_getElem g1]
    exact List.getElem_mem g1
  · have key : ∀ d r, d + r = nrV G → outL F i j (cpyR R R1) (fun r => (pfR G (r + 1)).length) d r (pfR G r).length = rlF G F i j d r := by
      intro d
      induction d with
      | zero => intro r _; rfl
      | succ d ih =>
        intro r hr
        have hr2 : r < nrV G := by omega
        have e1 : outL F i j (cpyR R R1) (fun r => (pfR G (r + 1)).length) (d + 1) r (pfR G r).length = if hldB F i j (cpyR R R1) (pfR G r).length (pfR G (r + 1)).length = true then (cpyR R R1).2 1 r else outL F i j (cpyR R R1) (fun r => (pfR G (r + 1)).length) d (r + 1) (pfR G (r + 1)).length := rfl
        have e2 : rlF G F i j (d + 1) r = if (∀ t, tsV G r = some t → ¬ trF F i j 4 t = 0) then nI (outV G r) else rlF G F i j d (r + 1) := rfl
        have e3 : (cpyR R R1).2 1 r = nI (outV G r) := by rw [c1 r (by omega), (a4 r hr2 (by omega)).1, rsG_g hr2]
        have hld : hldB F i j (cpyR R R1) (pfR G r).length (pfR G (r + 1)).length = true ↔ (∀ t, tsV G r = some t → ¬ trF F i j 4 t = 0) := by
          cases hw : tsV G r with
          | none =>
            have e4 : pfR G (r + 1) = pfR G r := by rw [pfR_s, hw]; exact List.append_nil _
            rw [e4]
            refine ⟨fun _ t ht => (nomatch ht), fun _ => ?_⟩
            unfold hldB
            rw [decide_eq_true rfl]; rfl
          | some t =>
            have e4 : (pfR G (r + 1)).length = (pfR G r).length + (trC 4 t).length := by rw [pfR_s, hw, List.length_append]; rfl
            rw [e4]
            have hR : ∀ q, q < (trC 4 t).length → (cpyR R R1).2 3 ((pfR G r).length + q) = ((trC 4 t).getD q (0, 0)).1 ∧ (cpyR R R1).2 4 ((pfR G r).length + q) = ((trC 4 t).getD q (0, 0)).2 := fun q hq => by
              have hq2 : q < (stpO (tsV G r)).length := by rw [hw]; exact hq
              obtain ⟨g1, g2⟩ := pfR_n hq2 (nrV G) hr2
              rw [c3 _ (by omega), c4 _ (by omega), (a3 _ g1).1, (a3 _ g1).2, g2, hw]
              exact ⟨rfl, rfl⟩
            have ht := tsV_k hw
            have z := hld_tr (F := F) (R := cpyR R R1) (i := i) (j := j) (f := (pfR G r).length) (g := 3) (tr := t) (by rw [ht]; exact tsT_K 4 _ 0) (by rw [ht]; exact tsT_W 3 _ 0 (by omega) (by omega)) (by omega) hR
            exact ⟨fun y t2 ht2 => by cases ht2; exact z.mp y, fun y => z.mpr (y t rfl)⟩
        rw [e1, e2]
        by_cases c : (∀ t, tsV G r = some t → ¬ trF F i j 4 t = 0)
        · rw [if_pos (hld.mpr c), if_pos c]; exact e3
        · rw [if_neg (fun y => c (hld.mp y)), if_neg c]; exact ih (r + 1) (by omega)
    exact key (nrV G) 0 (by omega)
/-! the field -/
/-- a new tournament, as told -/
def fldI (G : xx_G) (F : xS) : Prop := (F.1 0 = nI (nwV G) ∧ F.1 1 = 0 ∧ F.1 5 = 0 ∧ F.1 9 = -1) ∧ (∀ i, i < 3 → F.2 1 i = nI (woV G i)) ∧ (∀ c w, c < 10 → w < nwV G → F.2 2 (c * 12 + w) = if c = 0 then nI (stV G w) else if c = 8 then 1 else 0) ∧ ∀ i j, i < nwV G → j < nwV G → F.2 3 (i * 12 + j) = 0
theorem woV_lt : woV G i < 10 := by
  unfold woV
  split
  · exact ptV_lt
  · split <;> omega
theorem fldI.ok (h : fldI G F) : okF F (nwV G) 0 0 := by
  obtain ⟨⟨h0, h1, h5, h9⟩, hw, hc, hm⟩ := h
  have h6 := nwV_lt (G := G)
  refine ⟨⟨h0, by omega⟩, ⟨h5, by omega⟩, ⟨h1, by omega⟩, fun w hw2 => ?_, fun i j hi hj => ?_, fun i hi => ?_, fun q hq => absurd hq (Nat.not_lt_zero q), fun w hw2 => Or.inr (hc 8 w (by omega) hw2), fun q hq => absurd hq (Nat.not_lt_zero q)⟩
  · rw [hc 1 w (by omega) hw2]
    show 0 ≤ (0 : Int32).toInt ∧ (0 : Int32).toInt + 9 * ((0 : Nat) : Int) ≤ 63 * ((0 : Nat) : Int)
    decide
  · rw [hm i j hi hj]; exact ⟨by decide, by decide⟩
  · have := woV_lt (G := G) (i := i)
    rw [hw i hi, i_n (by omega)]; omega
theorem fld_told {wl : List (Nat × Int32)} {nm tok : Nat} {wo : Nat → Int32} {its : List (Nat × Nat)} (hc : clI T len tok its (rsG G) D1 R1) (h3 : chkT T len its = (wl, nm, wo, nrV G, (0, -1))) (h5 : wl.length = nwV G) (h6 : ∀ q, q < nwV G → (wl.getD q (0, 0)).2 = nI (stV G q)) (h7 : ∀ q, q < 3 → wo q = nI (woV G q)) {m : Nat} (hm : D1.1 5 = nI m) (hm2 : m ≤ 12) : m = nwV G ∧ fldI G (beginF F m (D1.2 12) (D1.2 14)) := by
  obtain ⟨a1, a2, a3, a4, a5, a6, a7⟩ := hc
  rw [h3] at a1 a2 a4
  have a1 : D1.1 5 = nI (min wl.length 12) := a1
  have a2 : ∀ i, i < wl.length → i < 12 → _ ∧ D1.2 12 i = (wl.getD i (0, 0)).2 := a2
  have a4 : ∀ i, i < 3 → D1.2 14 i = wo i := a4
  have h6b := nwV_lt (G := G)
  have em : m = nwV G := by
    rw [h5, show min (nwV G) 12 = nwV G by omega, hm] at a1
    have := congrArg Int32.toInt a1
    rw [i_n (by omega), i_n (by omega)] at this
    omega
  refine ⟨em, ?_⟩
  subst em
  refine ⟨⟨rfl, rfl, rfl, rfl⟩, fun i hi => ?_, fun c w hc hw => ?_, fun i j hi hj => ?_⟩
  · show begW 3 (D1.2 14) (F.2 1) i = _
    unfold begW
    rw [if_pos hi, a4 i hi, h7 i hi]
  · show begC (nwV G) (nwV G) (D1.2 12) (F.2 2) (c * 12 + w) = _
    unfold begC
    by_cases c0 : c = 0
    · subst c0
      rw [if_pos (by omega), if_pos rfl, show 0 * 12 + w = w by omega, (a2 w (by omega) (by omega)).2, h6 w hw]
    · rw [if_neg (by omega), if_neg c0]
      by_cases c8 : c = 8
      · rw [if_pos (by omega), if_pos c8]
      · rw [if_neg (by omega), if_neg c8, if_pos (by omega)]
  · show fil 0 144 (F.2 3) (i * 12 + j) = 0
    unfold fil
    rw [if_pos (by omega)]
/-- behind a teach over a tape that holds the told text -/
theorem tc_told {n' mt : Nat} {r : xx_R} {F2 PS : xS} (hX : tcX T len b n R F A r A' n') (hT : tpH G T len) (h6 : R.1 6 = nI mt) (hF2 : xx_w (b + 31) (layF (b + 31) F2) A) (hP : xx_w (b + 40) (layP (b + 40) PS) A) : r = .inl (some (.int 0)) ∧ n' = n ∧ (∃ FF, gI b (ruG G) (nrV G) (nwV G) 0 0 FF A' ∧ fldI G FF) ∧ (∃ D' X' R0' sg', rdW (b + 1) D' X' R0' sg' A' ∧ X'.1 1 = 0) ∧ xx_same (b + 1) (b + 31) A A' := by
  obtain ⟨its, wl, nm, wo, h1, h2, h3, h4, h5⟩ := told_rd hT
  have hv : rdV T len = (0, -1) := by
    unfold rdV
    rw [h1, if_pos rfl]
    show (chkT T len its).2.2.2.2 = _
    rw [h2]
  obtain ⟨e1, e2, D', X', R0', sg', R', F', g1, g2, g3, g4, g5, g6, g7, g8⟩ := hX
  rw [hv] at e1 g8
  obtain ⟨D1, R1, tok, m, k1, k2, k3, k4, k5, k6⟩ := g8 rfl
  rw [h1] at k1
  obtain ⟨em, hf⟩ := fld_told (F := F) k1 h2 h3 h4 h5 k4 k5
  subst em
  refine ⟨e1, e2, ⟨F', ⟨R', F', F2, PS, g4, g5, hF2.s2 g6 (m := 9) rfl (by omega), hP.s2 g6 (m := 6) rfl (by omega), ?_, eqF.rf, ?_⟩, ?_⟩, ⟨D', X', R0', sg', g1, g2⟩, g6⟩
  · rw [k3]; exact ruX_told h6 k1.2.2.2.2.2.2
  · rw [k6]; exact hf.ok
  · rw [k6]; exact hf
end XTO
