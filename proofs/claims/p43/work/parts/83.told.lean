/-! told: a tournament that cells choose, and its text -/
section XTD
variable {G : xx_G} {l : Launch} {A A' : xx_H} {n : Nat} {k j i q s e t d : Nat}
theorem tl_len : ∀ k, k < 43 → (tl k).length ≤ 10 := by decide +kernel
theorem tl_w : ∀ k, k < 8 → (tl (11 + k)).length ≤ 8 := by decide +kernel
theorem tl_s : ∀ k, k < 6 → (tl (19 + k)).length ≤ 4 := by decide +kernel
theorem tl_s1 : ∀ k, k < 4 → (tl (19 + k)).length ≤ 1 := by decide +kernel
theorem tl_cm : ∀ k, k < 5 → (tl (25 + k)).length ≤ 2 := by decide +kernel
theorem tl_x : (tl 0).length = 6 ∧ (tl 1).length = 1 ∧ (tl 2).length = 1 ∧ (tl 3).length = 10 ∧ (tl 4).length = 10 ∧ (tl 5).length = 6 ∧ (tl 6).length = 8 ∧ (tl 7).length = 4 ∧ (tl 8).length = 9 ∧ (tl 9).length = 0 ∧ (tl 10).length = 6 := by decide +kernel
theorem tl_y : (tl 11).length = 0 ∧ (tl 30).length = 6 ∧ (tl 31).length = 5 ∧ (tl 32).length = 6 ∧ (tl 33).length = 3 ∧ (tl 34).length = 1 ∧ (tl 35).length = 1 ∧ (tl 36).length = 1 ∧ (tl 37).length = 4 ∧ (tl 38).length = 4 ∧ (tl 39).length = 1 ∧ (tl 40).length = 1 ∧ (tl 41).length = 3 ∧ (tl 42).length = 2 := by decide +kernel
theorem decB_1 {w : Nat} (h : w < 10) : (decB w).length = 1 := decB_len 1 (Nat.le_refl _) (Or.inl rfl) (by omega)
theorem decB_3 {w : Nat} (h : w < 1000) : (decB w).length ≤ 3 := by
  by_cases h1 : w < 10
  · rw [decB_1 h1]; decide
  · by_cases h2 : w < 100
    · rw [decB_len 2 (by decide) (Or.inr (by omega)) (by omega)]; decide
    · rw [decB_len 3 (by decide) (Or.inr (by omega)) (by omega)]; decide
theorem smL2 {f : Nat} {x : Int32} {d : Nat} (h1 : 1 < d) : (txL (f + 1) (smT (f + 1) x d)).length ≤ 14 := by
  show (txL (f + 1) ((smK x d, smN x (smK x d)), (smT f (x * 3 + 1) (d + 1), smT f (x * 5 + 2) (d + 1)))).length ≤ 14
  have h8 := smK_d (x := x) h1
  have hn := (smN_lt (x := x) (kd := smK x d)).1
  rw [txL_s]
  generalize smN x (smK x d) = nu at hn
  generalize smK x d = kd at h8
  obtain ⟨y1, y2, y3, y4, -⟩ := tl_y
  by_cases c0 : kd = 0
  · rw [if_pos c0]; simp only [List.length_append, List.length_nil]; have := decB_le hn; omega
  · rw [if_neg c0]
    by_cases c1 : kd = 1
    · rw [if_pos c1]; omega
    · rw [if_neg c1, if_pos h8]
      have := tl_w kd h8
      simp only [List.length_append, List.length_nil]
      split <;> omega
theorem smL1 {f : Nat} {x : Int32} : (txL (f + 2) (smT (f + 2) x 1)).length ≤ 34 := by
  show (txL (f + 2) ((smK x 1, smN x (smK x 1)), (smT (f + 1) (x * 3 + 1) 2, smT (f + 1) (x * 5 + 2) 2))).length ≤ 34
  have h8 := smK_lt (x := x) (d := 1)
  have hn := (smN_lt (x := x) (kd := smK x 1)).1
  have ha := smL2 (f := f) (x := x * 3 + 1) (d := 2) (by decide)
  have hb := smL2 (f := f) (x := x * 5 + 2) (d := 2) (by decide)
  rw [txL_s]
  generalize smN x (smK x 1) = nu at hn
  generalize smK x 1 = kd at h8
  obtain ⟨y1, y2, y3, y4, y5, y6, y7, y8, -⟩ := tl_y
  by_cases c0 : kd = 0
  · rw [if_pos c0]; simp only [List.length_append, List.length_nil]; have := decB_le hn; omega
  rw [if_neg c0]
  by_cases c1 : kd = 1
  · rw [if_pos c1]; omega
  rw [if_neg c1]
  by_cases c2 : kd < 8
  · rw [if_pos c2]
    have := tl_w kd c2
    simp only [List.length_append, List.length_nil]
    split <;> omega
  rw [if_neg c2]
  by_cases c3 : kd = 8
  · rw [if_pos c3]; simp only [List.length_append, List.length_nil]; omega
  rw [if_neg c3]
  by_cases c4 : kd < 13
  · rw [if_pos c4]
    have := tl_s1 (kd - 9) (by omega)
    simp only [List.length_append, List.length_nil]; omega
  · rw [if_neg c4, if_pos h8]
    have := tl_s (kd - 9) (by omega)
    simp only [List.length_append, List.length_nil]; omega
theorem tsT_u {f kd : Nat} {ta tb tc td : Tr f} : (txL (f + 1) ((kd, 0), if kd < 25 then (ta, tb) else (tc, td))) = if kd < 25 then txL (f + 1) ((kd, 0), (ta, tb)) else txL (f + 1) ((kd, 0), (tc, td)) := by split <;> rfl
theorem tsL_c {f kd : Nat} {ta tb : Tr f} {m : Nat} (h1 : 20 ≤ kd) (h2 : kd < 25) (ha : (txL f ta).length ≤ m) (hb : (txL f tb).length ≤ m) : (txL (f + 1) ((kd, 0), (ta, tb))).length ≤ 2 * m + 2 := by
  rw [txL_s, if_neg (by omega), if_neg (by omega), if_neg (by omega), if_neg (by omega), if_neg (by omega), if_neg (by omega), if_pos h2]
  have := tl_cm (kd - 20) (by omega)
  simp only [List.length_append, List.length_nil]; omega
theorem tsL_d {f kd : Nat} {ta tb : Tr f} {m : Nat} (h1 : 26 ≤ kd) (ha : (txL f ta).length ≤ m) (hb : (txL f tb).length ≤ m) : (txL (f + 1) ((kd, 0), (ta, tb))).length ≤ 2 * m + 7 := by
  obtain ⟨y1, y2, y3, y4, y5, y6, y7, y8, y9, y10, y11, y12, y13, y14⟩ := tl_y
  rw [txL_s, if_neg (by omega), if_neg (by omega), if_neg (by omega), if_neg (by omega), if_neg (by omega), if_neg (by omega), if_neg (by omega), if_neg (by omega)]
  by_cases c : kd = 26
  · rw [if_pos c]; simp only [List.length_append, List.length_nil]; omega
  · rw [if_neg c]; simp only [List.length_append, List.length_nil]; split <;> omega
theorem tsL_m {f : Nat} {ta tb : Tr f} : (txL (f + 1) ((25, 0), (ta, tb))).length = 4 := by
  obtain ⟨y1, y2, y3, y4, y5, y6, y7, y8, y9, -⟩ := tl_y
  rw [txL_s]; exact y9
theorem tsL2 {f : Nat} {x : Int32} : (txL (f + 2) (tsT (f + 2) x 2)).length ≤ 30 := by
  show (txL (f + 1 + 1) ((tsK x 2, 0), if tsK x 2 < 25 then (smT (f + 1) (x * 3 + 7) 3, smT (f + 1) (x * 5 + 1) 3) else (tsT (f + 1) (x * 3 + 5) 3, tsT (f + 1) (x * 7 + 3) 3))).length ≤ 30
  have h1 := (tsK_lt (x := x) (d := 2)).1
  have h2 := tsK_d (x := x) (d := 2) (by decide)
  rw [tsT_u]
  by_cases c : tsK x 2 < 25
  · rw [if_pos c]; exact tsL_c h1 c (smL2 (by decide)) (smL2 (by decide))
  · rw [if_neg c, show tsK x 2 = 25 from by omega, tsL_m]; decide
theorem tsL1 {f : Nat} {x : Int32} : (txL (f + 3) (tsT (f + 3) x 1)).length ≤ 67 := by
  show (txL (f + 2 + 1) ((tsK x 1, 0), if tsK x 1 < 25 then (smT (f + 2) (x * 3 + 7) 2, smT (f + 2) (x * 5 + 1) 2) else (tsT (f + 2) (x * 3 + 5) 2, tsT (f + 2) (x * 7 + 3) 2))).length ≤ 67
  obtain ⟨h1, h2⟩ := tsK_lt (x := x) (d := 1)
  rw [tsT_u]
  by_cases c : tsK x 1 < 25
  · rw [if_pos c]; exact Nat.le_trans (tsL_c (m := 14) h1 c (smL2 (by decide)) (smL2 (by decide))) (by decide)
  · rw [if_neg c]
    by_cases c2 : tsK x 1 = 25
    · rw [c2, tsL_m]; decide
    · exact tsL_d (m := 30) (by omega) tsL2 tsL2
theorem tsL0 {f : Nat} {x : Int32} : (txL (f + 4) (tsT (f + 4) x 0)).length ≤ 141 := by
  show (txL (f + 3 + 1) ((tsK x 0, 0), if tsK x 0 < 25 then (smT (f + 3) (x * 3 + 7) 1, smT (f + 3) (x * 5 + 1) 1) else (tsT (f + 3) (x * 3 + 5) 1, tsT (f + 3) (x * 7 + 3) 1))).length ≤ 141
  obtain ⟨h1, h2⟩ := tsK_lt (x := x) (d := 0)
  rw [tsT_u]
  by_cases c : tsK x 0 < 25
  · rw [if_pos c]; exact Nat.le_trans (tsL_c (m := 34) h1 c smL1 smL1) (by decide)
  · rw [if_neg c]
    by_cases c2 : tsK x 0 = 25
    · rw [c2, tsL_m]; decide
    · exact tsL_d (m := 67) (by omega) tsL1 tsL1
/-- what the cells choose -/
def ptV (G : xx_G) (i : Nat) : Nat := blw (shr (clv G 2) (3 * nI i)) 10
def ptX (G : xx_G) : Nat → List Int32
  | 0 => [] ++ tl 0
  | i + 1 => ptX G i ++ tl 1 ++ decB (ptV G i)
abbrev ptB (G : xx_G) : Prop := blw (clv G 1) 3 = 0
def tx1 (G : xx_G) : List Int32 := if ptB G then ptX G 3 ++ tl 2 else []
def woV (G : xx_G) (i : Nat) : Nat := if ptB G then ptV G i else if i = 1 then 1 else 2
def stV (G : xx_G) (w : Nat) : Nat := 1 + blw (shr (clv G (3 + w)) 2) (if blw (clv G 1) 2 = 0 then 999 else 4)
def wrX (G : xx_G) : Nat → List Int32
  | 0 => tx1 G
  | i + 1 => wrX G i ++ tl 3 ++ decB i ++ tl 4 ++ decB (stV G i) ++ tl 2
def nwV (G : xx_G) : Nat := 2 + blw (clv G 0) 5
def nrV (G : xx_G) : Nat := blw (clv G 15) 5
def rxV (G : xx_G) (k : Nat) : Int32 := shr (clv G (4 + k)) 3 + 17 * nI k
def outV (G : xx_G) (k : Nat) : Nat := blw (rxV G k) 3
def tsV (G : xx_G) (k : Nat) : Option (Tr 4) := if k + 1 = nrV G ∧ blw (shr (rxV G k) 2) 3 = 0 then none else some (tsT 4 (shr (rxV G k) 3) 0)
def whX : Option (Tr 4) → List Int32
  | none => tl 9
  | some t => [] ++ tl 10 ++ txL 4 t
def ouX (o : Nat) : List Int32 := if o = 0 then tl 6 else if o = 1 then tl 7 else tl 8
def rlX (G : xx_G) : Nat → List Int32
  | 0 => wrX G (nwV G)
  | i + 1 => rlX G i ++ tl 5 ++ ouX (outV G i) ++ whX (tsV G i) ++ tl 2
theorem ptV_lt {i : Nat} : ptV G i < 10 := blw_lt (by decide)
theorem stV_lt {i : Nat} : stV G i < 1000 := by
  have h : blw (shr (clv G (3 + i)) 2) (if blw (clv G 1) 2 = 0 then 999 else 4) < (if blw (clv G 1) 2 = 0 then 999 else 4) := blw_lt (by split <;> decide)
  unfold stV
  generalize blw (shr (clv G (3 + i)) 2) (if blw (clv G 1) 2 = 0 then 999 else 4) = z at h ⊢
  split at h <;> omega
theorem nwV_lt : 2 ≤ nwV G ∧ nwV G ≤ 6 := by
  have h := blw_lt (v := clv G 0) (m := 5) (by decide)
  unfold nwV; omega
theorem nrV_lt : nrV G ≤ 4 := by
  have h := blw_lt (v := clv G 15) (m := 5) (by decide)
  unfold nrV; omega
theorem ptX_len : ∀ i, (ptX G i).length = 6 + 2 * i := by
  obtain ⟨y0, y1, -⟩ := tl_x
  intro i
  induction i with
  | zero => exact y0
  | succ i ih =>
    show (ptX G i ++ tl 1 ++ decB (ptV G i)).length = _
    have := decB_1 (ptV_lt (G := G) (i := i))
    simp only [List.length_append]; omega
theorem tx1_len : (tx1 G).length ≤ 13 := by
  obtain ⟨y0, y1, y2, -⟩ := tl_x
  unfold tx1
  split
  · rw [List.length_append, ptX_len, y2]; decide
  · decide
theorem wrX_len : ∀ i, i ≤ 6 → (wrX G i).length ≤ 13 + 25 * i := by
  obtain ⟨y0, y1, y2, y3, y4, -⟩ := tl_x
  intro i
  induction i with
  | zero => intro _; exact tx1_len
  | succ i ih =>
    intro h
    have := ih (by omega)
    show (wrX G i ++ tl 3 ++ decB i ++ tl 4 ++ decB (stV G i) ++ tl 2).length ≤ _
    have h1 := decB_1 (w := i) (by omega)
    have h2 := decB_3 (stV_lt (G := G) (i := i))
    simp only [List.length_append]; omega
theorem whX_len {i : Nat} : (whX (tsV G i)).length ≤ 147 := by
  obtain ⟨y0, y1, y2, y3, y4, y5, y6, y7, y8, y9, y10⟩ := tl_x
  unfold tsV
  split
  · show (tl 9).length ≤ 147; omega
  · show ([] ++ tl 10 ++ txL 4 (tsT 4 (shr (rxV G i) 3) 0)).length ≤ 147
    have : (txL 4 (tsT 4 (shr (rxV G i) 3) 0)).length ≤ 141 := tsL0 (f := 0) (x := shr (rxV G i) 3)
    simp only [List.length_append, List.length_nil]; omega
theorem ouX_len {i : Nat} : (ouX i).length ≤ 9 := by
  obtain ⟨y0, y1, y2, y3, y4, y5, y6, y7, y8, y9, y10⟩ := tl_x
  unfold ouX
  split
  · omega
  · split <;> omega
theorem rlX_len : ∀ i, i ≤ 4 → (rlX G i).length ≤ 163 + 163 * i := by
  obtain ⟨y0, y1, y2, y3, y4, y5, -⟩ := tl_x
  intro i
  induction i with
  | zero => intro _; exact Nat.le_trans (wrX_len _ nwV_lt.2) (by have := (nwV_lt (G := G)).2; omega)
  | succ i ih =>
    intro h
    have := ih (by omega)
    show (rlX G i ++ tl 5 ++ ouX (outV G i) ++ whX (tsV G i) ++ tl 2).length ≤ _
    have h1 := whX_len (G := G) (i := i)
    have h2 := ouX_len (i := outV G i)
    simp only [List.length_append]; omega
/-- a Sim in the making at n -/
def tdW (n : Nat) (w : Int32) (st wo : Nat → Int32) (a c : Nat) (A : xx_H) : Prop := A n = some (.inr (6, [.int w, .ref (n + 1), .ref (n + 2), .ref a, .ref c, .int 0, .ref (n + 5), .ref (n + 6), .ref (n + 7)])) ∧ A (n + 1) = some (.inl (0, 12, .inl st)) ∧ A (n + 2) = some (.inl (0, 3, .inl wo)) ∧ A (n + 5) = some (.inl (2, 12, .inl (fun _ => 0))) ∧ (∃ f, A (n + 6) = some (.inl (3, 0, .inr (.inr (.inr (.inr f)))))) ∧ A (n + 7) = some (.inl (0, 0, .inl (fun _ => 0)))
def kpF (A A' : xx_H) : Prop := ∀ z c, A z = some c → (∀ q, ¬ c = .inr (9, q)) → (∀ m f, ¬ c = .inl (1, m, .inl f)) → A' z = A z
theorem tdW.keep {w : Int32} {st wo : Nat → Int32} {a c : Nat} (h : tdW n w st wo a c A) (k : kpF A A') : tdW n w st wo a c A' := by
  obtain ⟨h1, h2, h3, h4, ⟨f, h5⟩, h6⟩ := h
  exact ⟨(k _ _ h1 (fun q z => nomatch z) (fun m f z => nomatch z)).trans h1, (k _ _ h2 (fun q z => nomatch z) (fun m f z => nomatch z)).trans h2, (k _ _ h3 (fun q z => nomatch z) (fun m f z => nomatch z)).trans h3, (k _ _ h4 (fun q z => nomatch z) (fun m f z => nomatch z)).trans h4, ⟨f, (k _ _ h5 (fun q z => nomatch z) (fun m f z => nomatch z)).trans h5⟩, (k _ _ h6 (fun q z => nomatch z) (fun m f z => nomatch z)).trans h6⟩
theorem trA.keep {f v : Nat} {tr : Tr f} (h : trA A f v tr) (k : kpF A A') : trA A' f v tr := h.up _ _ _ (fun z c hz => k z _ hz (fun q z => nomatch z) (fun m f z => nomatch z))
theorem rulH.keep {S : sS} {tt : Nat → Option (Tr 4)} (h : rulH S tt A) (k : kpF A A') : rulH S tt A' := by
  obtain ⟨h1, f, h2, h3⟩ := h
  refine ⟨(k _ _ h1 (fun q z => nomatch z) (fun m f z => nomatch z)).trans h1, f, (k _ _ h2 (fun q z => nomatch z) (fun m f z => nomatch z)).trans h2, fun i hi => ?_⟩
  rcases h3 i hi with z | ⟨t, v, t1, t2, t3, t4⟩
  · exact Or.inl z
  · exact Or.inr ⟨t, v, t1, t2, t3.keep k, t4⟩
theorem kpF.up {n1 : Nat} (lt : ∀ z c, A z = some c → z < n1) (u : ∀ z, z < n1 → A' z = A z) : kpF A A' := fun z c hz _ _ => u z (lt z c hz)
/-- the text's place -/
def plV (v0 n v n1 : Nat) : Prop := v = v0 ∨ (n + 8 ≤ v ∧ v < n1)
def frF (A0 A : xx_H) (n h v0 : Nat) : Prop := ∀ z, z < n → ¬ z = h → ¬ z = v0 → A z = A0 z
theorem td_ap {A0 : xx_H} {h v0 v m n1 n' : Nat} {tx tx' : List Int32} {r : xx_R} (hW : sbW A h v m tx) (hv : plV v0 n v n1) (hn : n + 8 ≤ n1) (hF : frF A0 A n h v0) (hQ : apQ A h v n1 tx' r A' n') (lt : ∀ z c, A z = some c → z < n1) : (n1 ≤ n' ∧ n' ≤ n1 + 1) ∧ (∃ v' m', sbW A' h v' m' tx' ∧ plV v0 n v' n') ∧ n + 8 ≤ n' ∧ frF A0 A' n h v0 ∧ kpF A A' := by
  obtain ⟨-, h1, h2, v', m', h3, h4, h5⟩ := hQ
  refine ⟨⟨h1, h2⟩, ⟨v', m', h3, ?_⟩, by omega, fun z a b c => (h5 z (by omega) b (by unfold plV at hv; omega)).trans (hF z a b c), fun z c hz k1 k2 => h5 z (lt z c hz) (fun e => ?_) (fun e => ?_)⟩
  · unfold plV at hv ⊢; omega
  · subst e; rw [hW.1] at hz; exact k1 _ (Option.some.inj hz).symm
  · subst e
    obtain ⟨g, hg, -⟩ := hW.2
    rw [hg] at hz; exact k2 _ _ (Option.some.inj hz).symm
theorem td_up {A0 : xx_H} {h v0 v m n1 n' : Nat} {tx : List Int32} (hW : sbW A h v m tx) (hv : plV v0 n v n1) (hn : n + 8 ≤ n1) (hF : frF A0 A n h v0) (lt : ∀ z c, A z = some c → z < n1) (h1 : n1 ≤ n') (u : ∀ z, z < n1 → A' z = A z) : sbW A' h v m tx ∧ plV v0 n v n' ∧ n + 8 ≤ n' ∧ frF A0 A' n h v0 ∧ kpF A A' := by
  obtain ⟨g, hg, -⟩ := hW.2
  exact ⟨hW.up (u _ (lt _ _ hW.1)) (u _ (lt _ _ hg)), by unfold plV at hv ⊢; omega, by omega, fun z a b c => (u z (by omega)).trans (hF z a b c), kpF.up lt u⟩
theorem td_wr {A0 : xx_H} {h v0 v m n1 y : Nat} {tx : List Int32} (hW : sbW A h v m tx) (hv : plV v0 n v n1) (hF : frF A0 A n h v0) (hh : h < n) (hv0 : v0 < n) (h1 : n ≤ y) (h2 : y < n + 8) (u : ∀ z, ¬ z = y → A' z = A z) : sbW A' h v m tx ∧ frF A0 A' n h v0 :=
  ⟨hW.up (u _ (by omega)) (u _ (by unfold plV at hv; omega)), fun z a b c => (u z (by omega)).trans (hF z a b c)⟩
end XTD
