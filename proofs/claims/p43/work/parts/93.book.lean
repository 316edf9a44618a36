/-! THE TEXT OF told, READ: its lines, the book -/
section XBO
variable {n : Nat} {k i q s e t d p : Nat} {T : xS} {len : Nat} {Y Z : List Int32} {G : xx_G}
def ptT (G : xx_G) : List (Nat × Nat) := if ptB G then [(2, 0), (36, ptV G 0), (36, ptV G 1), (36, ptV G 2), (24, 0)] else []
def wrT (G : xx_G) : Nat → List (Nat × Nat)
  | 0 => ptT G
  | i + 1 => wrT G i ++ [(0, 0), (35, i), (1, 0), (36, stV G i), (24, 0)]
def ouT (o : Nat) : List (Nat × Nat) := if o = 0 then [(6, 0), (8, 0)] else if o = 1 then [(3, 0)] else [(7, 0), (8, 0)]
def whT : Option (Tr 4) → List (Nat × Nat)
  | none => []
  | some t => (9, 0) :: tkL 4 t
def rlT (G : xx_G) : Nat → List (Nat × Nat)
  | 0 => wrT G (nwV G)
  | i + 1 => rlT G i ++ ((5, 0) :: (ouT (outV G i) ++ (whT (tsV G i) ++ [(24, 0)])))
theorem lx_pt : LXs nxA (tx1 G) (ptT G) := by
  unfold tx1 ptT
  by_cases c : ptB G
  · rw [if_pos c, if_pos c]
    have h0 : LXs nxW (ptX G 0) [(2, 0)] := LXs.wdB (Y := [] ++ tl 0) (by decide +kernel)
    have st : ∀ i L, LXs nxW (ptX G i) L → LXs nxW (ptX G (i + 1)) (L ++ [(36, ptV G i)]) := fun i L h => ((h.app pc_b (Nat.zero_lt_one) (by decide)).app (LXs.num (w := ptV G i) (Nat.lt_trans ptV_lt (by decide))) (decB_pos _) trivial).to (by show _ = ptX G i ++ tl 1 ++ decB (ptV G i); rw [show tl 1 = [32] by decide +kernel]) (by rw [List.append_nil])
    exact ((st 2 _ (st 1 _ (st 0 _ h0))).app pc_se (by decide +kernel) (by decide +kernel)).to rfl rfl
  · rw [if_neg c, if_neg c]; exact LXs.nil
theorem lx_wr : ∀ i, i ≤ 6 → LXs nxA (wrX G i) (wrT G i) := by
  intro i
  induction i with
  | zero => intro _; exact lx_pt
  | succ i ih =>
    intro hi
    have h := ih (by omega)
    have w1 : LXs nxA (sW "wrestler" ++ [32]) [(0, 0)] := pc_wb (by decide +kernel)
    have w2 : LXs nxA ([32] ++ (sW "strength" ++ [32])) [(1, 0)] := pc_bwb (by decide +kernel) (by decide +kernel)
    have hs : stV G i < 1000000 := Nat.lt_trans stV_lt (by decide)
    refine (((((h.app w1 (by decide +kernel) trivial).app (LXs.nm (m := i) (by omega)) (Nat.succ_pos _) trivial).app w2 (by decide +kernel) (by decide +kernel)).app (LXs.num hs) (decB_pos _) trivial).app pc_se (by decide +kernel) (by decide +kernel)).to ?_ ?_
    · show _ = wrX G i ++ tl 3 ++ decB i ++ tl 4 ++ decB (stV G i) ++ tl 2
      rw [decB_lo (show i < 10 by omega), show tl 3 = (sW "wrestler" ++ [32]) ++ [119] by decide +kernel, show tl 4 = [32] ++ (sW "strength" ++ [32]) by decide +kernel]
      simp only [List.append_assoc, List.cons_append, List.nil_append]
    · show _ = wrT G i ++ _
      simp only [List.append_assoc, List.cons_append, List.nil_append]
theorem lx_ou (o : Nat) : LXs nxW (ouX o) (ouT o) ∧ 0 < (ouX o).length := by
  unfold ouX ouT
  by_cases c0 : o = 0
  · rw [if_pos c0, if_pos c0]
    exact ⟨((pc_wb (Y := sW "red") (v := 6) (by decide +kernel)).app (LXs.wdB (Y := sW "wins") (v := 8) (by decide +kernel)) (by decide +kernel) trivial).to (by decide +kernel) rfl, by decide +kernel⟩
  rw [if_neg c0, if_neg c0]
  by_cases c1 : o = 1
  · rw [if_pos c1, if_pos c1]
    exact ⟨LXs.wdB (by decide +kernel), by decide +kernel⟩
  rw [if_neg c1, if_neg c1]
  exact ⟨((pc_wb (Y := sW "blue") (v := 7) (by decide +kernel)).app (LXs.wdB (Y := sW "wins") (v := 8) (by decide +kernel)) (by decide +kernel) trivial).to (by decide +kernel) rfl, by decide +kernel⟩
theorem tsV_k {i : Nat} {t : Tr 4} (h : tsV G i = some t) : t = tsT 4 (shr (rxV G i) 3) 0 := by
  unfold tsV at h
  split at h
  · cases h
  · cases h; rfl
theorem lx_rl : ∀ i, LXs nxA (rlX G i) (rlT G i) := by
  intro i
  induction i with
  | zero => exact lx_wr _ nwV_lt.2
  | succ i ih =>
    have w1 : LXs nxA ([10] ++ (sW "rule" ++ [32])) [(5, 0)] := pc_n.app (pc_wb (by decide +kernel)) (by decide +kernel) trivial
    have h1 := (ih.app w1 (by decide +kernel) trivial).app (lx_ou (outV G i)).1 (lx_ou _).2 trivial
    have t5 : tl 5 = [10] ++ (sW "rule" ++ [32]) := by decide +kernel
    cases hw : tsV G i with
    | none =>
      refine (h1.app pc_se (by decide +kernel) (by decide +kernel)).to ?_ ?_
      · show _ = rlX G i ++ tl 5 ++ ouX (outV G i) ++ whX (tsV G i) ++ tl 2
        rw [hw, t5]
        show _ = rlX G i ++ ([10] ++ (sW "rule" ++ [32])) ++ ouX (outV G i) ++ tl 9 ++ tl 2
        rw [show tl 9 = [] by decide +kernel, List.append_nil]
      · show _ = rlT G i ++ ((5, 0) :: (ouT (outV G i) ++ (whT (tsV G i) ++ [(24, 0)])))
        rw [hw]
        show _ = rlT G i ++ ((5, 0) :: (ouT (outV G i) ++ ([] ++ [(24, 0)])))
        simp only [List.append_assoc, List.cons_append, List.nil_append]
    | some t =>
      obtain ⟨xt, yt⟩ := lx_tree 4 t (by rw [tsV_k hw]; exact tsT_K 4 _ 0) (by rw [tsV_k hw]; exact tsT_W 3 _ 0 (by omega) (by omega))
      have w2 : LXs nxA ([32] ++ (sW "when" ++ [32])) [(9, 0)] := pc_bwb (by decide +kernel) (by decide +kernel)
      refine (((h1.app w2 (by decide +kernel) (by decide +kernel)).app xt yt.1 trivial).app pc_se (by decide +kernel) (by decide +kernel)).to ?_ ?_
      · show _ = rlX G i ++ tl 5 ++ ouX (outV G i) ++ whX (tsV G i) ++ tl 2
        rw [hw, t5]
        show _ = rlX G i ++ ([10] ++ (sW "rule" ++ [32])) ++ ouX (outV G i) ++ ([] ++ tl 10 ++ txL 4 t) ++ tl 2
        rw [show tl 10 = [32] ++ (sW "when" ++ [32]) by decide +kernel]
        simp only [List.append_assoc, List.cons_append, List.nil_append]
      · show _ = rlT G i ++ ((5, 0) :: (ouT (outV G i) ++ (whT (tsV G i) ++ [(24, 0)])))
        rw [hw]
        show _ = rlT G i ++ ((5, 0) :: (ouT (outV G i) ++ ((9, 0) :: tkL 4 t ++ [(24, 0)])))
        simp only [List.append_assoc, List.cons_append, List.nil_append]
/-! how many tokens -/
theorem tkN_s {f kd nu : Nat} {ta tb : Tr f} {m : Nat} (hk : kd < 29) (h6 : ¬ (14 < kd ∧ kd < 20)) (ha : hasA kd → (tkL f ta).length ≤ m) (hb : hasB kd → (tkL f tb).length ≤ m) : (tkL (f + 1) ((kd, nu), (ta, tb))).length ≤ 2 * m + 5 ∧ (kd < 8 → (tkL (f + 1) ((kd, nu), (ta, tb))).length ≤ 2) ∧ (20 ≤ kd → kd < 25 → (tkL (f + 1) ((kd, nu), (ta, tb))).length ≤ 2 * m + 1) := by
  have eT : tkL (f + 1) ((kd, nu), (ta, tb)) = if kd = 0 then [(36, nu)] else if kd = 1 then [(10, 0)] else if kd < 8 then [(wK kd, 0), (if nu = 0 then 6 else 7, 0)] else if kd = 8 then (27, 0) :: (20, 0) :: (tkL f ta ++ [(21, 0)]) else if kd < 13 then (20, 0) :: (tkL f ta ++ (21, 0) :: (17 + kd, 0) :: (20, 0) :: (tkL f tb ++ [(21, 0)])) else if kd < 15 then (5 + kd, 0) :: (20, 0) :: (tkL f ta ++ (25, 0) :: (tkL f tb ++ [(21, 0)])) else if kd < 25 then tkL f ta ++ (10 + kd, 0) :: tkL f tb else if kd = 25 then [(12, 0)] else if kd = 26 then (15, 0) :: (22, 0) :: (tkL f ta ++ [(23, 0)]) else (22, 0) :: (tkL f ta ++ (23, 0) :: (kd - 11, 0) :: (22, 0) :: (tkL f tb ++ [(23, 0)])) := rfl
  rw [eT]
  by_cases c0 : kd = 0
  · rw [if_pos c0]; exact ⟨by simp only [List.length_cons, List.length_nil]; omega, fun _ => by simp only [List.length_cons, List.length_nil]; omega, fun _ => by omega⟩
  rw [if_neg c0]
  by_cases c1 : kd = 1
  · rw [if_pos c1]; exact ⟨by simp only [List.length_cons, List.length_nil]; omega, fun _ => by simp only [List.length_cons, List.length_nil]; omega, fun _ => by omega⟩
  rw [if_neg c1]
  by_cases c2 : kd < 8
  · rw [if_pos c2]; exact ⟨by simp only [List.length_cons, List.length_nil]; omega, fun _ => by simp only [List.length_cons, List.length_nil]; omega, fun _ => by omega⟩
  rw [if_neg c2]
  by_cases c25 : kd = 25
  · subst c25
    rw [if_neg (by omega), if_neg (by omega), if_neg (by omega), if_neg (by omega), if_pos rfl]
    exact ⟨by simp only [List.length_cons, List.length_nil]; omega, fun _ => by omega, fun _ _ => by omega⟩
  have ga := ha ⟨by omega, c25⟩
  by_cases c8 : kd = 8
  · rw [if_pos c8]; exact ⟨by simp only [List.length_cons, List.length_append, List.length_nil]; omega, fun _ => by omega, fun _ => by omega⟩
  rw [if_neg c8]
  by_cases c26 : kd = 26
  · subst c26
    rw [if_neg (by omega), if_neg (by omega), if_neg (by omega), if_neg (by omega), if_pos rfl]
    exact ⟨by simp only [List.length_cons, List.length_append, List.length_nil]; omega, fun _ => by omega, fun _ => by omega⟩
  have gb := hb ⟨by omega, c25, c26⟩
  by_cases c13 : kd < 13
  · rw [if_pos c13]; exact ⟨by simp only [List.length_cons, List.length_append, List.length_nil]; omega, fun _ => by omega, fun _ => by omega⟩
  rw [if_neg c13]
  by_cases c15 : kd < 15
  · rw [if_pos c15]; exact ⟨by simp only [List.length_cons, List.length_append, List.length_nil]; omega, fun _ => by omega, fun _ => by omega⟩
  rw [if_neg c15]
  by_cases c24 : kd < 25
  · rw [if_pos c24]; exact ⟨by simp only [List.length_cons, List.length_append]; omega, fun _ => by omega, fun _ _ => by simp only [List.length_cons, List.length_append]; omega⟩
  rw [if_neg c24, if_neg c25, if_neg c26]
  exact ⟨by simp only [List.length_cons, List.length_append, List.length_nil]; omega, fun _ => by omega, fun _ => by omega⟩
theorem tkn_sm2 {f : Nat} {x : Int32} {d : Nat} (h1 : 1 < d) : (tkL (f + 1) (smT (f + 1) x d)).length ≤ 2 := by
  have h := smK_d (x := x) h1
  have eS : smT (f + 1) x d = ((smK x d, smN x (smK x d)), (smT f (x * 3 + 1) (d + 1), smT f (x * 5 + 2) (d + 1))) := rfl
  rw [eS]
  exact (tkN_s (m := (tkL f (smT f (x * 3 + 1) (d + 1))).length + (tkL f (smT f (x * 5 + 2) (d + 1))).length) (by omega) (by omega) (fun _ => by omega) (fun _ => by omega)).2.1 h
theorem tkn_sm1 {f : Nat} {x : Int32} : (tkL (f + 2) (smT (f + 2) x 1)).length ≤ 9 := by
  have h := smK_lt (x := x) (d := 1)
  have eS : smT (f + 2) x 1 = ((smK x 1, smN x (smK x 1)), (smT (f + 1) (x * 3 + 1) 2, smT (f + 1) (x * 5 + 2) 2)) := rfl
  rw [eS]
  exact (tkN_s (m := 2) (by omega) (by omega) (fun _ => tkn_sm2 (by omega)) (fun _ => tkn_sm2 (by omega))).1
theorem tkn_ts {f m : Nat} {x : Int32} {d : Nat} (hs : ∀ y, (tkL f (smT f y (d + 1))).length ≤ m) (ht : 26 ≤ tsK x d → ∀ y, (tkL f (tsT f y (d + 1))).length ≤ m) : (tkL (f + 1) (tsT (f + 1) x d)).length ≤ 2 * m + 5 ∧ (tsK x d < 25 → (tkL (f + 1) (tsT (f + 1) x d)).length ≤ 2 * m + 1) := by
  have h := tsK_lt (x := x) (d := d)
  have eS : tsT (f + 1) x d = ((tsK x d, 0), if tsK x d < 25 then (smT f (x * 3 + 7) (d + 1), smT f (x * 5 + 1) (d + 1)) else (tsT f (x * 3 + 5) (d + 1), tsT f (x * 7 + 3) (d + 1))) := rfl
  rw [eS]
  by_cases c : tsK x d < 25
  · rw [if_pos c]
    have z := tkN_s (f := f) (kd := tsK x d) (nu := 0) (ta := smT f (x * 3 + 7) (d + 1)) (tb := smT f (x * 5 + 1) (d + 1)) (m := m) h.2 (by omega) (fun _ => hs _) (fun _ => hs _)
    exact ⟨z.1, fun _ => z.2.2 h.1 c⟩
  · rw [if_neg c]
    have z := tkN_s (f := f) (kd := tsK x d) (nu := 0) (ta := tsT f (x * 3 + 5) (d + 1)) (tb := tsT f (x * 7 + 3) (d + 1)) (m := m) h.2 (by omega) (fun y => ht (by have := y.2; omega) _) (fun y => ht (by have := y.2.1; omega) _)
    exact ⟨z.1, fun y => absurd y c⟩
theorem tkn_t2 {x : Int32} : (tkL 2 (tsT 2 x 2)).length ≤ 5 := by
  have h := tsK_d (x := x) (d := 2) (by omega)
  have h2 := tsK_lt (x := x) (d := 2)
  by_cases c : tsK x 2 < 25
  · exact (tkn_ts (m := 2) (fun y => tkn_sm2 (by omega)) (fun z => by omega)).2 c
  · have c5 : tsK x 2 = 25 := by omega
    have eS : tsT 2 x 2 = ((tsK x 2, 0), if tsK x 2 < 25 then (smT 1 (x * 3 + 7) 3, smT 1 (x * 5 + 1) 3) else (tsT 1 (x * 3 + 5) 3, tsT 1 (x * 7 + 3) 3)) := rfl
    rw [eS, c5]
    show 1 ≤ 5
    omega
theorem tkn_t1 {x : Int32} : (tkL 3 (tsT 3 x 1)).length ≤ 15 := (tkn_ts (m := 5) (fun y => Nat.le_trans (tkn_sm2 (by omega)) (by omega)) (fun _ y => tkn_t2)).1
theorem tkn_t0 {x : Int32} : (tkL 4 (tsT 4 x 0)).length ≤ 35 := (tkn_ts (m := 15) (fun y => Nat.le_trans tkn_sm1 (by omega)) (fun _ y => tkn_t1)).1
theorem wrT_len : ∀ i, (wrT G i).length ≤ 5 + 5 * i := by
  intro i
  induction i with
  | zero => show (ptT G).length ≤ 5; unfold ptT; split <;> simp
  | succ i ih => show (wrT G i ++ _).length ≤ _; rw [List.length_append]; simp only [List.length_cons, List.length_nil]; omega
theorem whT_len {i : Nat} : (whT (tsV G i)).length ≤ 36 := by
  cases h : tsV G i with
  | none => exact Nat.zero_le _
  | some t => show (tkL 4 t).length + 1 ≤ 36; rw [tsV_k h]; have := tkn_t0 (x := shr (rxV G i) 3); omega
theorem ouT_len {o : Nat} : (ouT o).length ≤ 2 := by
  unfold ouT
  by_cases c0 : o = 0
  · rw [if_pos c0]; exact Nat.le_refl _
  rw [if_neg c0]
  by_cases c1 : o = 1
  · rw [if_pos c1]; exact Nat.le_succ _
  · rw [if_neg c1]; exact Nat.le_refl _
theorem rlT_len : ∀ i, (rlT G i).length ≤ 35 + 40 * i := by
  intro i
  induction i with
  | zero => show (wrT G (nwV G)).length ≤ _; have := wrT_len (G := G) (nwV G); have := nwV_lt (G := G); omega
  | succ i ih =>
    show (rlT G i ++ _).length ≤ _
    have h1 := whT_len (G := G) (i := i)
    have h2 := ouT_len (o := outV G i)
    rw [List.length_append]; simp only [List.length_cons, List.length_append, List.length_nil]; omega
end XBO
