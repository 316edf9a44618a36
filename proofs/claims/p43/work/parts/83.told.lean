/-! told: a tournament that cells choose, and its text -/
section XTD
variable {G : xx_G} {l : Launch} {A A' : xx_H} {n : Nat} {k j i q s e t d : Nat}
theorem tl_len : ∀ k, k < 43 → (tl k).length ≤ 10 := by decide +kernel
theorem tl_w : ∀ k, k < 8 → (tl (11 + k)).length ≤ 8 := by decide +kernel
theorem tl_s : ∀ k, k < 6 → (tl (19 + k)).length ≤ 4 := by decide +kernel
theorem tl_s1 : ∀ k, k < 4 → (tl (19 + k)).length ≤ 1 := by decide +kernel
theorem tl_cm : ∀ k, k < 5 → (tl (25 + k)).length ≤ 2 := by decide +kernel
theorem tl_x : (tl 0).length = 6 ∧ (tl 1).length = 1 ∧ (tl 2).length = 1 ∧ (tl 3).length = 10 ∧ (tl 4).length = 10 ∧ (tl 5).length = 6 ∧ (tl 6).length = 8 ∧ (tl 7).length = 4 ∧ (tl 8).length = 9 ∧ (tl 9).length = 0 ∧ (tl 10).length = 6 := by decide +kernel
theorem tl_y : (tl 11).length = 0 ∧ (tl 30).length = 6 ∧ (tl 31).length = 5 ∧ (tl 32).length = 6 ∧ (tl 33).length = 3 ∧ (tl 34).length = 1 ∧ (tl 35).length = 1 ∧ (tl 36).length = 1 ∧ (tl 37).length = 4 ∧ (tl 38).length = 4 ∧ (tl 39).length = 1 ∧ (tl 40).length = 1 ∧ (tl 41).length = 3 ∧ (tl 42).length = 2 := by decide +kernel
theorem decB_1 {w : Nat} (h : w < 10) : (decB w).length = 1 := decB_len 1 (Nat.le_refl _) (Or.inl rfl) (by omega)
theorem decB_3 {w : Nat} (h : w < 1000) : (decB w).length ≤ 3 := by
  by_cases h1 : w < 10
  · rw [decB_1 h1]; decide
  · by_cases h2 : w < 100
    · rw [decB_len 2 (by decide) (Or.inr (by omega)) (by omega)]; decide
    · rw [decB_len 3 (by decide) (Or.inr (by omega)) (by omega)]; decide
theorem smL2 {f : Nat} {x : Int32} {d : Nat} (h1 : 1 < d) : (txL (f + 1) (smT (f + 1) x d)).length ≤ 14 := by
  show (txL (f + 1) ((smK x d, smN x (smK x d)), (smT f (x * 3 + 1) (d + 1), smT f (x * 5 + 2) (d + 1)))).length ≤ 14
  have h8 := smK_d (x := x) h1
  have hn := (smN_lt (x := x) (kd := smK x d)).1
  rw [txL_s]
  generalize smN x (smK x d) = nu at hn
  generalize smK x d = kd at h8
  obtain ⟨y1, y2, y3, y4, -⟩ := tl_y
  by_cases c0 : kd = 0
  · rw [if_pos c0]; simp only [List.length_append, List.length_nil]; have := decB_le hn; omega
  · rw [if_neg c0]
    by_cases c1 : kd = 1
    · rw [if_pos c1]; omega
    · rw [if_neg c1, if_pos h8]
      have := tl_w kd h8
      simp only [List.length_append, List.length_nil]
      split <;> omega
theorem smL1 {f : Nat} {x : Int32} : (txL (f + 2) (smT (f + 2) x 1)).length ≤ 34 := by
  show (txL (f + 2) ((smK x 1, smN x (smK x 1)), (smT (f + 1) (x * 3 + 1) 2, smT (f + 1) (x * 5 + 2) 2))).length ≤ 34
  have h8 := smK_lt (x := x) (d := 1)
  have hn := (smN_lt (x := x) (kd := smK x 1)).1
  have ha := smL2 (f := f) (x := x * 3 + 1) (d := 2) (by decide)
  have hb := smL2 (f := f) (x := x * 5 + 2) (d := 2) (by decide)
  rw [txL_s]
  generalize smN x (smK x 1) = nu at hn
  generalize smK x 1 = kd at h8
  obtain ⟨y1, y2, y3, y4, y5, y6, y7, y8, -⟩ := tl_y
  by_cases c0 : kd = 0
  · rw [if_pos c0]; simp only [List.length_append, List.length_nil]; have := decB_le hn; omega
  rw [if_neg c0]
  by_cases c1 : kd = 1
  · rw [if_pos c1]; omega
  rw [if_neg c1]
  by_cases c2 : kd < 8
  · rw [if_pos c2]
    have := tl_w kd c2
    simp only [List.length_append, List.length_nil]
    split <;> omega
  rw [if_neg c2]
  by_cases c3 : kd = 8
  · rw [if_pos c3]; simp only [List.length_append, List.length_nil]; omega
  rw [if_neg c3]
  by_cases c4 : kd < 13
  · rw [if_pos c4]
    have := tl_s1 (kd - 9) (by omega)
    simp only [List.length_append, List.length_nil]; omega
  · rw [if_neg c4, if_pos h8]
    have := tl_s (kd - 9) (by omega)
    simp only [List.length_append, List.length_nil]; omega
theorem tsT_u {f kd : Nat} {ta tb tc td : Tr f} : (txL (f + 1) ((kd, 0), if kd < 25 then (ta, tb) else (tc, td))) = if kd < 25 then txL (f + 1) ((kd, 0), (ta, tb)) else txL (f + 1) ((kd, 0), (tc, td)) := by split <;> rfl
theorem tsL_c {f kd : Nat} {ta tb : Tr f} {m : Nat} (h1 : 20 ≤ kd) (h2 : kd < 25) (ha : (txL f ta).length ≤ m) (hb : (txL f tb).length ≤ m) : (txL (f + 1) ((kd, 0), (ta, tb))).length ≤ 2 * m + 2 := by
  rw [txL_s, if_neg (by omega), if_neg (by omega), if_neg (by omega), if_neg (by omega), if_neg (by omega), if_neg (by omega), if_pos h2]
  have := tl_cm (kd - 20) (by omega)
  simp only [List.length_append, List.length_nil]; omega
theorem tsL_d {f kd : Nat} {ta tb : Tr f} {m : Nat} (h1 : 26 ≤ kd) (ha : (txL f ta).length ≤ m) (hb : (txL f tb).length ≤ m) : (txL (f + 1) ((kd, 0), (ta, tb))).length ≤ 2 * m + 7 := by
  obtain ⟨y1, y2, y3, y4, y5, y6, y7, y8, y9, y10, y11, y12, y13, y14⟩ := tl_y
  rw [txL_s, if_neg (by omega), if_neg (by omega), if_neg (by omega), if_neg (by omega), if_neg (by omega), if_neg (by omega), if_neg (by omega), if_neg (by omega)]
  by_cases c : kd = 26
  · rw [if_pos c]; simp only [List.length_append, List.length_nil]; omega
  · rw [if_neg c]; simp only [List.length_append, List.length_nil]; split <;> omega
theorem tsL_m {f : Nat} {ta tb : Tr f} : (txL (f + 1) ((25, 0), (ta, tb))).length = 4 := by
  obtain ⟨y1, y2, y3, y4, y5, y6, y7, y8, y9, -⟩ := tl_y
  rw [txL_s]; exact y9
theorem tsL2 {f : Nat} {x : Int32} : (txL (f + 2) (tsT (f + 2) x 2)).length ≤ 30 := by
  show (txL (f + 1 + 1) ((tsK x 2, 0), if tsK x 2 < 25 then (smT (f + 1) (x * 3 + 7) 3, smT (f + 1) (x * 5 + 1) 3) else (tsT (f + 1) (x * 3 + 5) 3, tsT (f + 1) (x * 7 + 3) 3))).length ≤ 30
  have h1 := (tsK_lt (x := x) (d := 2)).1
  have h2 := tsK_d (x := x) (d := 2) (by decide)
  rw [tsT_u]
  by_cases c : tsK x 2 < 25
  · rw [if_pos c]; exact tsL_c h1 c (smL2 (by decide)) (smL2 (by decide))
  · rw [if_neg c, show tsK x 2 = 25 from by omega, tsL_m]; decide
theorem tsL1 {f : Nat} {x : Int32} : (txL (f + 3) (tsT (f + 3) x 1)).length ≤ 67 := by
  show (txL (f + 2 + 1) ((tsK x 1, 0), if tsK x 1 < 25 then (smT (f + 2) (x * 3 + 7) 2, smT (f + 2) (x * 5 + 1) 2) else (tsT (f + 2) (x * 3 + 5) 2, tsT (f + 2) (x * 7 + 3) 2))).length ≤ 67
  obtain ⟨h1, h2⟩ := tsK_lt (x := x) (d := 1)
  rw [tsT_u]
  by_cases c : tsK x 1 < 25
  · rw [if_pos c]; exact Nat.le_trans (tsL_c (m := 14) h1 c (smL2 (by decide)) (smL2 (by decide))) (by decide)
  · rw [if_neg c]
    by_cases c2 : tsK x 1 = 25
    · rw [c2, tsL_m]; decide
    · exact tsL_d (m := 30) (by omega) tsL2 tsL2
theorem tsL0 {f : Nat} {x : Int32} : (txL (f + 4) (tsT (f + 4) x 0)).length ≤ 141 := by
  show (txL (f + 3 + 1) ((tsK x 0, 0), if tsK x 0 < 25 then (smT (f + 3) (x * 3 + 7) 1, smT (f + 3) (x * 5 + 1) 1) else (tsT (f + 3) (x * 3 + 5) 1, tsT (f + 3) (x * 7 + 3) 1))).length ≤ 141
  obtain ⟨h1, h2⟩ := tsK_lt (x := x) (d := 0)
  rw [tsT_u]
  by_cases c : tsK x 0 < 25
  · rw [if_pos c]; exact Nat.le_trans (tsL_c (m := 34) h1 c smL1 smL1) (by decide)
  · rw [if_neg c]
    by_cases c2 : tsK x 0 = 25
    · rw [c2, tsL_m]; decide
    · exact tsL_d (m := 67) (by omega) tsL1 tsL1
/-- what the cells choose -/
def ptV (G : xx_G) (i : Nat) : Nat := blw (shr (clv G 2) (3 * nI i)) 10
def ptX (G : xx_G) : Nat → List Int32
  | 0 => [] ++ tl 0
  | i + 1 => ptX G i ++ tl 1 ++ decB (ptV G i)
abbrev ptB (G : xx_G) : Prop := blw (clv G 1) 3 = 0
def tx1 (G : xx_G) : List Int32 := if ptB G then ptX G 3 ++ tl 2 else []
def woV (G : xx_G) (i : Nat) : Nat := if ptB G then ptV G i else if i = 1 then 1 else 2
def stV (G : xx_G) (w : Nat) : Nat := 1 + blw (shr (clv G (3 + w)) 2) (if blw (clv G 1) 2 = 0 then 999 else 4)
def wrX (G : xx_G) : Nat → List Int32
  | 0 => tx1 G
  | i + 1 => wrX G i ++ tl 3 ++ decB i ++ tl 4 ++ decB (stV G i) ++ tl 2
def nwV (G : xx_G) : Nat := 2 + blw (clv G 0) 5
def nrV (G : xx_G) : Nat := blw (clv G 15) 5
def rxV (G : xx_G) (k : Nat) : Int32 := shr (clv G (4 + k)) 3 + 17 * nI k
def outV (G : xx_G) (k : Nat) : Nat := blw (rxV G k) 3
def tsV (G : xx_G) (k : Nat) : Option (Tr 4) := if k + 1 = nrV G ∧ blw (shr (rxV G k) 2) 3 = 0 then none else some (tsT 4 (shr (rxV G k) 3) 0)
def whX : Option (Tr 4) → List Int32
  | none => tl 9
  | some t => [] ++ tl 10 ++ txL 4 t
def ouX (o : Nat) : List Int32 := if o = 0 then tl 6 else if o = 1 then tl 7 else tl 8
def rlX (G : xx_G) : Nat → List Int32
  | 0 => wrX G (nwV G)
  | i + 1 => rlX G i ++ tl 5 ++ ouX (outV G i) ++ whX (tsV G i) ++ tl 2
theorem ptV_lt {i : Nat} : ptV G i < 10 := blw_lt (by decide)
theorem stV_lt {i : Nat} : stV G i < 1000 := by
  have h : blw (shr (clv G (3 + i)) 2) (if blw (clv G 1) 2 = 0 then 999 else 4) < (if blw (clv G 1) 2 = 0 then 999 else 4) := blw_lt (by split <;> decide)
  unfold stV
  generalize blw (shr (clv G (3 + i)) 2) (if blw (clv G 1) 2 = 0 then 999 else 4) = z at h ⊢
  split at h <;> omega
theorem nwV_lt : 2 ≤ nwV G ∧ nwV G ≤ 6 := by
  have h := blw_lt (v := clv G 0) (m := 5) (by decide)
  unfold nwV; omega
theorem nrV_lt : nrV G ≤ 4 := by
  have h := blw_lt (v := clv G 15) (m := 5) (by decide)
  unfold nrV; omega
theorem ptX_len : ∀ i, (ptX G i).length = 6 + 2 * i := by
  obtain ⟨y0, y1, -⟩ := tl_x
  intro i
  induction i with
  | zero => exact y0
  | succ i ih =>
    show (ptX G i ++ tl 1 ++ decB (ptV G i)).length = _
    have := decB_1 (ptV_lt (G := G) (i := i))
    simp only [List.length_append]; omega
theorem tx1_len : (tx1 G).length ≤ 13 := by
  obtain ⟨y0, y1, y2, -⟩ := tl_x
  unfold tx1
  split
  · rw [List.length_append, ptX_len, y2]; decide
  · decide
theorem wrX_len : ∀ i, i ≤ 6 → (wrX G i).length ≤ 13 + 25 * i := by
  obtain ⟨y0, y1, y2, y3, y4, -⟩ := tl_x
  intro i
  induction i with
  | zero => intro _; exact tx1_len
  | succ i ih =>
    intro h
    have := ih (by omega)
    show (wrX G i ++ tl 3 ++ decB i ++ tl 4 ++ decB (stV G i) ++ tl 2).length ≤ _
    have h1 := decB_1 (w := i) (by omega)
    have h2 := decB_3 (stV_lt (G := G) (i := i))
    simp only [List.length_append]; omega
theorem whX_len {i : Nat} : (whX (tsV G i)).length ≤ 147 := by
  obtain ⟨y0, y1, y2, y3, y4, y5, y6, y7, y8, y9, y10⟩ := tl_x
  unfold tsV
  split
  · show (tl 9).length ≤ 147; omega
  · show ([] ++ tl 10 ++ txL 4 (tsT 4 (shr (rxV G i) 3) 0)).length ≤ 147
    have : (txL 4 (tsT 4 (shr (rxV G i) 3) 0)).length ≤ 141 := tsL0 (f := 0) (x := shr (rxV G i) 3)
    simp only [List.length_append, List.length_nil]; omega
theorem ouX_len {i : Nat} : (ouX i).length ≤ 9 := by
  obtain ⟨y0, y1, y2, y3, y4, y5, y6, y7, y8, y9, y10⟩ := tl_x
  unfold ouX
  split
  · omega
  · split <;> omega
theorem rlX_len : ∀ i, i ≤ 4 → (rlX G i).length ≤ 163 + 163 * i := by
  obtain ⟨y0, y1, y2, y3, y4, y5, -⟩ := tl_x
  intro i
  induction i with
  | zero => intro _; exact Nat.le_trans (wrX_len _ nwV_lt.2) (by have := (nwV_lt (G := G)).2; omega)
  | succ i ih =>
    intro h
    have := ih (by omega)
    show (rlX G i ++ tl 5 ++ ouX (outV G i) ++ whX (tsV G i) ++ tl 2).length ≤ _
    have h1 := whX_len (G := G) (i := i)
    have h2 := ouX_len (i := outV G i)
    simp only [List.length_append]; omega
/-- a Sim in the making at n -/
def tdW (n : Nat) (w : Int32) (st wo : Nat → Int32) (a c : Nat) (A : xx_H) : Prop := A n = some (.inr (6, [.int w, .ref (n + 1), .ref (n + 2), .ref a, .ref c, .int 0, .ref (n + 5), .ref (n + 6), .ref (n + 7)])) ∧ A (n + 1) = some (.inl (0, 12, .inl st)) ∧ A (n + 2) = some (.inl (0, 3, .inl wo)) ∧ A (n + 5) = some (.inl (2, 12, .inl (fun _ => 0))) ∧ (∃ f, A (n + 6) = some (.inl (3, 0, .inr (.inr (.inr (.inr f)))))) ∧ A (n + 7) = some (.inl (0, 0, .inl (fun _ => 0)))
def kpF (A A' : xx_H) : Prop := ∀ z c, A z = some c → (∀ q, ¬ c = .inr (9, q)) → (∀ m f, ¬ c = .inl (1, m, .inl f)) → A' z = A z
theorem tdW.keep {w : Int32} {st wo : Nat → Int32} {a c : Nat} (h : tdW n w st wo a c A) (k : kpF A A') : tdW n w st wo a c A' := by
  obtain ⟨h1, h2, h3, h4, ⟨f, h5⟩, h6⟩ := h
  exact ⟨(k _ _ h1 (fun q z => nomatch z) (fun m f z => nomatch z)).trans h1, (k _ _ h2 (fun q z => nomatch z) (fun m f z => nomatch z)).trans h2, (k _ _ h3 (fun q z => nomatch z) (fun m f z => nomatch z)).trans h3, (k _ _ h4 (fun q z => nomatch z) (fun m f z => nomatch z)).trans h4, ⟨f, (k _ _ h5 (fun q z => nomatch z) (fun m f z => nomatch z)).trans h5⟩, (k _ _ h6 (fun q z => nomatch z) (fun m f z => nomatch z)).trans h6⟩
theorem trA.keep {f v : Nat} {tr : Tr f} (h : trA A f v tr) (k : kpF A A') : trA A' f v tr := h.up _ _ _ (fun z c hz => k z _ hz (fun q z => nomatch z) (fun m f z => nomatch z))
theorem rulH.keep {S : sS} {tt : Nat → Option (Tr 4)} (h : rulH S tt A) (k : kpF A A') : rulH S tt A' := by
  obtain ⟨h1, f, h2, h3⟩ := h
  refine ⟨(k _ _ h1 (fun q z => nomatch z) (fun m f z => nomatch z)).trans h1, f, (k _ _ h2 (fun q z => nomatch z) (fun m f z => nomatch z)).trans h2, fun i hi => ?_⟩
  rcases h3 i hi with z | ⟨t, v, t1, t2, t3, t4⟩
  · exact Or.inl z
  · exact Or.inr ⟨t, v, t1, t2, t3.keep k, t4⟩
theorem kpF.up {n1 : Nat} (lt : ∀ z c, A z = some c → z < n1) (u : ∀ z, z < n1 → A' z = A z) : kpF A A' := fun z c hz _ _ => u z (lt z c hz)
/-- the text's place -/
def plV (v0 n v n1 : Nat) : Prop := v = v0 ∨ (n + 8 ≤ v ∧ v < n1)
def frF (A0 A : xx_H) (n h v0 : Nat) : Prop := ∀ z, z < n → ¬ z = h → ¬ z = v0 → A z = A0 z
theorem td_ap {A0 : xx_H} {h v0 v m n1 n' : Nat} {tx tx' : List Int32} {r : xx_R} (hW : sbW A h v m tx) (hv : plV v0 n v n1) (hn : n + 8 ≤ n1) (hF : frF A0 A n h v0) (hQ : apQ A h v n1 tx' r A' n') (lt : ∀ z c, A z = some c → z < n1) : (n1 ≤ n' ∧ n' ≤ n1 + 1) ∧ (∃ v' m', sbW A' h v' m' tx' ∧ plV v0 n v' n') ∧ n + 8 ≤ n' ∧ frF A0 A' n h v0 ∧ kpF A A' := by
  obtain ⟨-, h1, h2, v', m', h3, h4, h5⟩ := hQ
  refine ⟨⟨h1, h2⟩, ⟨v', m', h3, ?_⟩, by omega, fun z a b c => (h5 z (by omega) b (by unfold plV at hv; omega)).trans (hF z a b c), fun z c hz k1 k2 => h5 z (lt z c hz) (fun e => ?_) (fun e => ?_)⟩
  · unfold plV at hv ⊢; omega
  · subst e; rw [hW.1] at hz; exact k1 _ (Option.some.inj hz).symm
  · subst e
    obtain ⟨g, hg, -⟩ := hW.2
    rw [hg] at hz; exact k2 _ _ (Option.some.inj hz).symm
theorem td_up {A0 : xx_H} {h v0 v m n1 n' : Nat} {tx : List Int32} (hW : sbW A h v m tx) (hv : plV v0 n v n1) (hn : n + 8 ≤ n1) (hF : frF A0 A n h v0) (lt : ∀ z c, A z = some c → z < n1) (h1 : n1 ≤ n') (u : ∀ z, z < n1 → A' z = A z) : sbW A' h v m tx ∧ plV v0 n v n' ∧ n + 8 ≤ n' ∧ frF A0 A' n h v0 ∧ kpF A A' := by
  obtain ⟨g, hg, -⟩ := hW.2
  exact ⟨hW.up (u _ (lt _ _ hW.1)) (u _ (lt _ _ hg)), by unfold plV at hv ⊢; omega, by omega, fun z a b c => (u z (by omega)).trans (hF z a b c), kpF.up lt u⟩
theorem td_wr {A0 : xx_H} {h v0 v m n1 y : Nat} {tx : List Int32} (hW : sbW A h v m tx) (hv : plV v0 n v n1) (hF : frF A0 A n h v0) (hh : h < n) (hv0 : v0 < n) (h1 : n ≤ y) (h2 : y < n + 8) (u : ∀ z, ¬ z = y → A' z = A z) : sbW A' h v m tx ∧ frF A0 A' n h v0 :=
  ⟨hW.up (u _ (by omega)) (u _ (by unfold plV at hv; omega)), fun z a b c => (u z (by omega)).trans (hF z a b c)⟩
section
variable {M : xx_M} {fr lo mc ms : Nat} {Post : xx_Q} {pc : Nat} {L : List (Nat × Value)} {S : List Value}
theorem J_aloadN {i : Nat} (hd : decode M.2.2.1 pc = .ok (.aload i, 2)) (hl : L.find? (fun q => q.1 == i) = some (i, .null)) (kk : xx_J G l M fr lo mc ms Post (pc + 2) L (.null :: S) A n k j) : xx_J G l M fr lo mc ms Post pc L S A n k j := by
  intro p e s m args below meth c ad0 n0 F ad H locs ls ⟨a1, a2, a3, a4, a5, a6, a7⟩
  exact lv_aloadN F.1 F.2.1 hd (xx_ld a5 hl) (kk p e s m args below meth c ad0 n0 F ad H locs ls ⟨a1, a2, a3, a4, a5, xx_c (xx_ldw a7 hl) a6, a7⟩)
theorem J_astoreN {i : Nat} {L' : List (Nat × Value)} (hd : decode M.2.2.1 pc = .ok (.astore i, 2)) (hn : i < M.2.2.2.1) (hl : (i, .null) :: xx_f1 i L = L') (kk : xx_J G l M fr lo mc ms Post (pc + 2) L' S A n k j) : xx_J G l M fr lo mc ms Post pc L (.null :: S) A n k j := by
  intro p e s m args below meth c ad0 n0 F ad H locs ls ⟨a1, a2, a3, a4, a5, a6, a7⟩
  exact lv_astoreN F.1 F.2.1 hd a5 hn (xx_stl hl) (fun ls' h9 => kk p e s m args below meth c ad0 n0 F ad H locs ls' ⟨a1, a2, a3, a4, h9, xx_t a6, xx_stw hl (a6 _ List.mem_cons_self) a7⟩)
theorem J_aastTQ {h len v : Nat} {f : Nat → Option Nat} {fs : List Value} {i : Int32} (p : Nat) (hd : decode M.2.2.1 pc = .ok (.aastore, 1)) (hA : A h = some (.inl (5, len, .inr (.inr (.inr (.inr f)))))) (hi : i = nI p) (hp : p < len) (hl : len < 2 ^ 31) (hv : A v = some (.inr (7, fs))) (kk : ∀ A1 : xx_H, A1 h = some (.inl (5, len, .inr (.inr (.inr (.inr (va_up f p (some v))))))) → (∀ z, z ≠ h → A1 z = A z) → xx_J G l M fr lo mc ms Post (pc + 1) L S A1 n k j) : xx_J G l M fr lo mc ms Post pc L (.ref v :: .int i :: .ref h :: S) A n k j := by
  subst hi
  refine J_aastT hd hA (vp_in_nI hp hl) hv ?_
  rw [nI_clamp (by omega)]
  exact J_up kk
theorem J_aastNQ {h len : Nat} {f : Nat → Option Nat} {i : Int32} (p : Nat) (hd : decode M.2.2.1 pc = .ok (.aastore, 1)) (hA : A h = some (.inl (5, len, .inr (.inr (.inr (.inr f)))))) (hi : i = nI p) (hp : p < len) (hl : len < 2 ^ 31) (kk : ∀ A1 : xx_H, A1 h = some (.inl (5, len, .inr (.inr (.inr (.inr (va_up f p none)))))) → (∀ z, z ≠ h → A1 z = A z) → xx_J G l M fr lo mc ms Post (pc + 1) L S A1 n k j) : xx_J G l M fr lo mc ms Post pc L (.null :: .int i :: .ref h :: S) A n k j := by
  subst hi
  refine J_aastN0 hd hA (vp_in_nI hp hl) ?_
  rw [nI_clamp (by omega)]
  exact J_up kk
end
def tdS (n nw nr a c : Nat) (st wo tls : Nat → Int32) : sS := (fun q => if q = 0 then nI nw else 0, fun q => if q = 1 then st else if q = 2 then wo else if q = 3 then tls else fun _ => 0, fun q => if q = 0 then n + 6 else if q = 2 then n + 7 else if q = 4 then a else if q = 5 then c else if q = 6 then nr else 0)
/-- the rules so far -/
def tdR (nr a c : Nat) (tls : Nat → Int32) (tt : Nat → Option (Tr 4)) (A : xx_H) : Prop := A a = some (.inl (0, nr, .inl tls)) ∧ ∃ f, A c = some (.inl (5, nr, .inr (.inr (.inr (.inr f))))) ∧ ∀ i, i < nr → (tt i = none ∧ f i = none) ∨ ∃ t v, tt i = some t ∧ f i = some v ∧ trA A 4 v t ∧ trK 4 t
theorem tdR.keep {nr a c : Nat} {tls : Nat → Int32} {tt : Nat → Option (Tr 4)} (h : tdR nr a c tls tt A) (k : kpF A A') : tdR nr a c tls tt A' := by
  obtain ⟨h1, f, h2, h3⟩ := h
  refine ⟨(k _ _ h1 (fun q z => nomatch z) (fun m f z => nomatch z)).trans h1, f, (k _ _ h2 (fun q z => nomatch z) (fun m f z => nomatch z)).trans h2, fun i hi => ?_⟩
  rcases h3 i hi with z | ⟨t, v, t1, t2, t3, t4⟩
  · exact Or.inl z
  · exact Or.inr ⟨t, v, t1, t2, t3.keep k, t4⟩
theorem tdW.sim {nw nr a c : Nat} {st wo tls : Nat → Int32} (h : tdW n (nI nw) st wo a c A) : simW n (tdS n nw nr a c st wo tls) A := by
  obtain ⟨h1, h2, h3, h4, ⟨f, h5⟩, h6⟩ := h
  exact ⟨h1, h2, h3, h4, ⟨f, h5, fun i hi => absurd hi (Nat.not_lt_zero i)⟩, fun i hi => absurd hi (Nat.not_lt_zero i), h6⟩
/-- what stands between the rules: so many of them, the text so far -/
def tdJ (G : xx_G) (n h v0 : Nat) (A0 : xx_H) (m : Nat) (tx : List Int32) (n1 : Nat) (A : xx_H) : Prop := ∃ (st wo tls : Nat → Int32) (a c v mm : Nat), tdW n (nI (nwV G)) st wo a c A ∧ (∀ p, p < nwV G → st p = nI (stV G p)) ∧ (∀ p, p < 3 → wo p = nI (woV G p)) ∧ tdR m a c tls (tsV G) A ∧ (∀ p, p < m → tls p = nI (outV G p)) ∧ sbW A h v mm tx ∧ plV v0 n v n1 ∧ n + 8 ≤ n1 ∧ frF A0 A n h v0
theorem tdJ.up {h v0 m n1 n' : Nat} {A0 : xx_H} {tx : List Int32} (H : tdJ G n h v0 A0 m tx n1 A) (lt : ∀ z c, A z = some c → z < n1) (h1 : n1 ≤ n') (u : ∀ z, z < n1 → A' z = A z) : tdJ G n h v0 A0 m tx n' A' := by
  obtain ⟨st, wo, tls, a, c, v, mm, d1, d2, d3, d4, d5, d6, d7, d8, d9⟩ := H
  obtain ⟨e1, e2, e3, e4, e5⟩ := td_up d6 d7 d8 d9 lt h1 u
  exact ⟨st, wo, tls, a, c, v, mm, d1.keep e5, d2, d3, d4.keep e5, d5, e1, e2, e3, e4⟩
theorem tdJ.ap {h v0 m n1 n' : Nat} {A0 : xx_H} {tx sx : List Int32} {Q : Prop} (H : tdJ G n h v0 A0 m tx n1 A) (lt : ∀ z c, A z = some c → z < n1) (kk : ∀ v mm, sbW A h v mm tx → (∀ r A' n', apQ A h v n1 (tx ++ sx) r A' n' → n1 ≤ n' ∧ tdJ G n h v0 A0 m (tx ++ sx) n' A' ∧ kpF A A') → Q) : Q := by
  obtain ⟨st, wo, tls, a, c, v, mm, d1, d2, d3, d4, d5, d6, d7, d8, d9⟩ := H
  refine kk v mm d6 (fun r A' n' hQ => ?_)
  obtain ⟨f1, ⟨v', m', f2, f3⟩, f4, f5, f6⟩ := td_ap d6 d7 d8 d9 hQ lt
  exact ⟨f1.1, ⟨st, wo, tls, a, c, v', m', d1.keep f6, d2, d3, d4.keep f6, d5, f2, f3, f4, f5⟩, f6⟩
/-- the Sim's own cell is written: the rules -/
theorem tdJ.rul {h v0 m n1 a c2 : Nat} {A0 : xx_H} {tx : List Int32} {st wo tls tls2 : Nat → Int32} {c v mm : Nat} (hh : h < n) (hv0 : v0 < n) (d1 : tdW n (nI (nwV G)) st wo a c A) (d2 : ∀ p, p < nwV G → st p = nI (stV G p)) (d3 : ∀ p, p < 3 → wo p = nI (woV G p)) (d4 : tdR m a c2 tls2 (tsV G) A) (d5 : ∀ p, p < m → tls2 p = nI (outV G p)) (d6 : sbW A h v mm tx) (d7 : plV v0 n v n1) (d8 : n + 8 ≤ n1) (d9 : frF A0 A n h v0) (g : A' n = some (.inr (6, [.int (nI (nwV G)), .ref (n + 1), .ref (n + 2), .ref a, .ref c2, .int 0, .ref (n + 5), .ref (n + 6), .ref (n + 7)]))) (u : ∀ z, ¬ z = n → A' z = A z) : tdJ G n h v0 A0 m tx n1 A' := by
  obtain ⟨w1, w2, w3, w4, ⟨fw, w5⟩, w6⟩ := d1
  obtain ⟨e1, e2⟩ := td_wr (y := n) d6 d7 d9 hh hv0 (Nat.le_refl _) (by omega) u
  have kp : ∀ z c, A z = some c → (∀ q, ¬ c = .inr (6, q)) → A' z = A z := fun z c hz k1 => u z (fun e => by subst e; rw [w1] at hz; exact k1 _ (Option.some.inj hz).symm)
  refine ⟨st, wo, tls2, a, c2, v, mm, ⟨g, (u _ (by omega)).trans w2, (u _ (by omega)).trans w3, (u _ (by omega)).trans w4, ⟨fw, (u _ (by omega)).trans w5⟩, (u _ (by omega)).trans w6⟩, d2, d3, ?_, d5, e1, d7, d8, e2⟩
  obtain ⟨h1, f, h2, h3⟩ := d4
  refine ⟨(kp _ _ h1 (fun q z => nomatch z)).trans h1, f, (kp _ _ h2 (fun q z => nomatch z)).trans h2, fun i hi => ?_⟩
  rcases h3 i hi with z | ⟨t, v, t1, t2, t3, t4⟩
  · exact Or.inl z
  · exact Or.inr ⟨t, v, t1, t2, t3.up _ _ _ (fun z c hz => kp z _ hz (fun q z => nomatch z)), t4⟩
/-- what stands before the rules -/
def tdB (G : xx_G) (n h v0 : Nat) (A0 : xx_H) (w : Int32) (st wo : Nat → Int32) (tx : List Int32) (n1 : Nat) (A : xx_H) : Prop := ∃ (tls : Nat → Int32) (v mm : Nat), tdW n w st wo (n + 3) (n + 4) A ∧ tdR 0 (n + 3) (n + 4) tls (tsV G) A ∧ sbW A h v mm tx ∧ plV v0 n v n1 ∧ n + 8 ≤ n1 ∧ frF A0 A n h v0
theorem tdB.w {h v0 n1 : Nat} {A0 : xx_H} {w : Int32} {st wo : Nat → Int32} {tx : List Int32} (H : tdB G n h v0 A0 w st wo tx n1 A) : tdW n w st wo (n + 3) (n + 4) A := by
  obtain ⟨tls, v, mm, d1, -⟩ := H; exact d1
theorem tdB.n8 {h v0 n1 : Nat} {A0 : xx_H} {w : Int32} {st wo : Nat → Int32} {tx : List Int32} (H : tdB G n h v0 A0 w st wo tx n1 A) : n + 8 ≤ n1 := by
  obtain ⟨tls, v, mm, d1, d2, d3, d4, d5, d6⟩ := H; exact d5
theorem tdB.ap {h v0 n1 : Nat} {A0 : xx_H} {w : Int32} {st wo : Nat → Int32} {tx sx : List Int32} {Q : Prop} (H : tdB G n h v0 A0 w st wo tx n1 A) (lt : ∀ z c, A z = some c → z < n1) (kk : ∀ v mm, sbW A h v mm tx → (∀ r A' n', apQ A h v n1 (tx ++ sx) r A' n' → n1 ≤ n' ∧ tdB G n h v0 A0 w st wo (tx ++ sx) n' A') → Q) : Q := by
  obtain ⟨tls, v, mm, d1, d4, d6, d7, d8, d9⟩ := H
  refine kk v mm d6 (fun r A' n' hQ => ?_)
  obtain ⟨f1, ⟨v', m', f2, f3⟩, f4, f5, f6⟩ := td_ap d6 d7 d8 d9 hQ lt
  exact ⟨f1.1, tls, v', m', d1.keep f6, d4.keep f6, f2, f3, f4, f5⟩
theorem tdB.rl {tls : Nat → Int32} {y : Nat} (d4 : tdR 0 (n + 3) (n + 4) tls (tsV G) A) (h3 : ¬ y = n + 3) (h4 : ¬ y = n + 4) (u : ∀ z, ¬ z = y → A' z = A z) : tdR 0 (n + 3) (n + 4) tls (tsV G) A' := by
  obtain ⟨h1, f, h2, -⟩ := d4
  exact ⟨(u _ (Ne.symm h3)).trans h1, f, (u _ (Ne.symm h4)).trans h2, fun i hi => absurd hi (Nat.not_lt_zero i)⟩
theorem tdB.st {h v0 n1 : Nat} {A0 : xx_H} {w : Int32} {st st' wo : Nat → Int32} {tx : List Int32} (H : tdB G n h v0 A0 w st wo tx n1 A) (hh : h < n) (hv0 : v0 < n) (g : A' (n + 1) = some (.inl (0, 12, .inl st'))) (u : ∀ z, ¬ z = n + 1 → A' z = A z) : tdB G n h v0 A0 w st' wo tx n1 A' := by
  obtain ⟨tls, v, mm, ⟨w1, w2, w3, w4, ⟨fw, w5⟩, w6⟩, d4, d6, d7, d8, d9⟩ := H
  obtain ⟨e1, e2⟩ := td_wr (y := n + 1) d6 d7 d9 hh hv0 (by omega) (by omega) u
  exact ⟨tls, v, mm, ⟨(u _ (by omega)).trans w1, g, (u _ (by omega)).trans w3, (u _ (by omega)).trans w4, ⟨fw, (u _ (by omega)).trans w5⟩, (u _ (by omega)).trans w6⟩, tdB.rl d4 (by omega) (by omega) u, e1, d7, d8, e2⟩
theorem tdB.wo {h v0 n1 : Nat} {A0 : xx_H} {w : Int32} {st wo wo' : Nat → Int32} {tx : List Int32} (H : tdB G n h v0 A0 w st wo tx n1 A) (hh : h < n) (hv0 : v0 < n) (g : A' (n + 2) = some (.inl (0, 3, .inl wo'))) (u : ∀ z, ¬ z = n + 2 → A' z = A z) : tdB G n h v0 A0 w st wo' tx n1 A' := by
  obtain ⟨tls, v, mm, ⟨w1, w2, w3, w4, ⟨fw, w5⟩, w6⟩, d4, d6, d7, d8, d9⟩ := H
  obtain ⟨e1, e2⟩ := td_wr (y := n + 2) d6 d7 d9 hh hv0 (by omega) (by omega) u
  exact ⟨tls, v, mm, ⟨(u _ (by omega)).trans w1, (u _ (by omega)).trans w2, g, (u _ (by omega)).trans w4, ⟨fw, (u _ (by omega)).trans w5⟩, (u _ (by omega)).trans w6⟩, tdB.rl d4 (by omega) (by omega) u, e1, d7, d8, e2⟩
/-- what told makes of n, and its text -/
def toldQ (G : xx_G) (h v0 n : Nat) (A : xx_H) : xx_Q := fun r A' n' => r = .inl (some (.ref n)) ∧ tdJ G n h v0 A (nrV G) (rlX G (nrV G)) n' A'
theorem upd_nx {f : Nat → Int32} {v : Nat → Nat} {i : Nat} (h : ∀ p, p < i → f p = nI (v p)) : ∀ p, p < i + 1 → upd f i (nI (v i)) p = nI (v p) := fun p hp => by
  by_cases e : p = i
  · subst e; exact pk_us
  · rw [pk_un e]; exact h p (by omega)
set_option maxRecDepth 100000 in
set_option maxHeartbeats 8000000 in
theorem told_1 (hst : l.stackTraces = false) (hL : G.2.2.2 400 ≤ 3072) {h v0 : Nat} (hhn : h < n) (hv0n : v0 < n)
    (tailD : ∀ (A1 : xx_H) (n1 k1 j1 : Nat) (st wo : Nat → Int32), (k1 ≤ 46 ∧ j1 ≤ 70000) → tdB G n h v0 A (nI (nwV G)) st wo (wrX G (nwV G)) n1 A1 → (∀ p, p < nwV G → st p = nI (stV G p)) → (∀ p, p < 3 → wo p = nI (woV G p)) → xx_J G l mL_told 11 400 1000 1000000 (toldQ G h v0 n A) 196 [(3, .ref n), (0, .ref 160), (1, .int 6), (2, .ref h)] [] A1 n1 k1 j1) : True := by
  have hnw := nwV_lt (G := G)
  have loopC : ∀ i, i ≤ nwV G → ∀ (x : Int32) (A1 : xx_H) (n1 k1 j1 : Nat) (st wo : Nat → Int32), x = nI i → (k1 ≤ 16 + 5 * i ∧ j1 ≤ 14452 + 9010 * i) → tdB G n h v0 A (nI (nwV G)) st wo (wrX G i) n1 A1 → (∀ p, p < i → st p = nI (stV G p)) → (∀ p, p < 3 → wo p = nI (woV G p)) → xx_J G l mL_told 11 400 1000 1000000 (toldQ G h v0 n A) 108 [(4, .int x), (3, .ref n), (0, .ref 160), (1, .int 6), (2, .ref h)] [] A1 n1 k1 j1 := by
    refine xx_dn ?_ ?_
    · intro x A1 n1 k1 j1 st wo hx hk hB20 hst2 hwo
      have ex : x.toInt = nwV G := by rw [hx]; exact i_n (by omega)
      have en : (nI (nwV G)).toInt = nwV G := i_n (by omega)
      refine J_iload dL_told_108 rfl ?_
      refine J_aload_n dL_told_110 rfl rfl ?_
      refine J_getf dL_told_111 fl_L_70 hB20.w.1 rfl ?_
      refine J_icmp_ge (tgt := 196) dL_told_114 rfl (fun h114 => ?_) (fun h114 => ?_)
      · refine xx_J.pick [1, 2, 3, 4] rfl ?_
        exact tailD A1 n1 k1 j1 st wo (by omega) hB20 hst2 hwo
      · first | (exfalso; simp only [i_lt, i_le, i_eq, i_0, i_1, i_2, i_3, i_4, i_5, i_6, i_8, i_9, i_10, i_12, i_16, i_20, i_m1] at h114; omega) | (exfalso; simp only [s_up, a_up, va_up, i_lt, i_le, i_eq, i_0, i_1, i_2, i_3, i_4, i_5, i_6, i_8, i_9, i_10, i_12, i_16, i_20, i_m1, ↓reduceIte, Nat.reduceEqDiff] at h114; omega)
    · intro i hii ih x A1 n1 k1 j1 st wo hx hk hB20 hst2 hwo
      subst hx
      have ex : (nI i).toInt = i := i_n (by omega)
      have en : (nI (nwV G)).toInt = nwV G := i_n (by omega)
      have hlx := wrX_len (G := G) (i + 1) (by omega)
      have hs1 := stV_lt (G := G) (i := i)
      refine J_iload dL_told_108 rfl ?_
      refine J_aload_n dL_told_110 rfl rfl ?_
      refine J_getf dL_told_111 fl_L_70 hB20.w.1 rfl ?_
      refine J_icmp_ge (tgt := 196) dL_told_114 rfl (fun h114 => ?_) (fun h114 => ?_)
      · first | (exfalso; simp only [i_lt, i_le, i_eq, i_0, i_1, i_2, i_3, i_4, i_5, i_6, i_8, i_9, i_10, i_12, i_16, i_20, i_m1] at h114; omega) | (exfalso; simp only [s_up, a_up, va_up, i_lt, i_le, i_eq, i_0, i_1, i_2, i_3, i_4, i_5, i_6, i_8, i_9, i_10, i_12, i_16, i_20, i_m1, ↓reduceIte, Nat.reduceEqDiff] at h114; omega)
      · refine J_aload_n dL_told_117 rfl rfl ?_
        refine J_getf dL_told_118 fl_L_92 hB20.w.1 rfl ?_
        refine J_iload dL_told_121 rfl ?_
        refine J_iconst (v := 1) dL_told_123 (by decide) ?_
        refine J_aload_n dL_told_124 rfl rfl ?_
        refine J_iconst (v := 3) dL_told_125 (by decide) ?_
        refine J_iload dL_told_126 rfl ?_
        refine J_iadd dL_told_128 ?_
        rw [show (3 : Int32) + nI i = nI (3 + i) from nI_add 3 i]
        refine J_callSr (As := [_, _]) dL_told_129 ml_L_66 cal_L_cell sm_L_cell rfl rfl (Nat.le_of_ble_eq_true rfl) ⟨by decide, by decide⟩ ⟨by omega, by omega⟩ (c_L_cell hst (k := 3 + i) hL (by omega)) ?_
        refine J_iconst (v := 2) dL_told_132 (by decide) ?_
        refine J_ishr dL_told_133 ?_
        refine J_aload_n dL_told_134 rfl rfl ?_
        refine J_iconst (v := 1) dL_told_135 (by decide) ?_
        refine J_callSr (As := [_, _]) dL_told_136 ml_L_66 cal_L_cell sm_L_cell rfl rfl (Nat.le_of_ble_eq_true rfl) ⟨by decide, by decide⟩ ⟨by omega, by omega⟩ (c_L_cell hst (k := 1) hL (by decide)) ?_
        refine J_iconst (v := 2) dL_told_139 (by decide) ?_
        refine J_callSr (As := [_, _]) dL_told_140 ml_L_35 cal_L_below sm_L_below rfl rfl (Nat.le_of_ble_eq_true rfl) ⟨by decide, by decide⟩ ⟨by omega, by omega⟩ (c_L_below hst (clv G 1) (m := 2) (by decide) (by decide)) ?_
        refine J_if_ne (tgt := 152) dL_told_143 rfl (fun h143 => ?_) (fun h143 => ?_)
        · have k143 : ¬ blw (clv G 1) 2 = 0 := fun z => h143 (by rw [z]; rfl)
          refine J_iconst (v := 4) dL_told_152 (by decide) ?_
          refine J_callSr (As := [_, _]) dL_told_153 ml_L_35 cal_L_below sm_L_below rfl rfl (Nat.le_of_ble_eq_true rfl) ⟨by decide, by decide⟩ ⟨by omega, by omega⟩ (c_L_below hst (shr (clv G (3 + i)) 2) (m := 4) (by decide) (by decide)) ?_
          refine J_iadd dL_told_156 ?_
          have hsv : (1 : Int32) + nI (blw (shr (clv G (3 + i)) 2) 4) = nI (stV G i) := by unfold stV; rw [if_neg k143]; exact nI_add 1 _
          rw [hsv]
          refine J_iastQ i dL_told_157 hB20.w.2.1 rfl (by omega) (by decide) (fun A21 g21 o21 => ?_)
          have hn21 : n1 ≤ n1 := Nat.le_refl _
          have hB21 := hB20.st hhn hv0n g21 o21
          refine J_aload_n dL_told_158 rfl rfl ?_
          refine J_ldcS 3 dL_told_159 rfl ?_
          refine J_ltA (fun lt21 => ?_)
          refine hB21.ap (sx := tl 3) lt21 (fun v21 m21 hW21 hap21 => ?_)
          refine J_callV (As := [_]) dL_told_161 ml_L_75 cal_J4_append_15ec4 im_J4_append_15ec4 se_J4_append_15ec4 hW21.1 rfl rfl rfl (Nat.le_of_ble_eq_true rfl) ⟨by decide, by decide⟩ ⟨by omega, by omega⟩ (c_J4_append_15ec4 hst hW21 (strT (k := 3) (by decide)) (by have h9 : (wrX G i ++ tl 3 ++ decB i ++ tl 4 ++ decB (stV G i) ++ tl 2).length ≤ 13 + 25 * (i + 1) := hlx; simp only [List.length_append] at h9 ⊢; omega)) (fun _ _ _ _ hE => absurd hE.1 (fun z => nomatch z)) (fun v9 A22 n22 _ hQ => ?_)
          obtain ⟨hn22, hB22⟩ := hap21 _ _ _ hQ
          have e9 := hQ.1
          cases e9
          refine J_iload dL_told_164 rfl ?_
          refine J_ltA (fun lt22 => ?_)
          refine hB22.ap (sx := decB i) lt22 (fun v22 m22 hW22 hap22 => ?_)
          refine J_callV (As := [_]) dL_told_166 ml_L_87 cal_J4_append_bf812 im_J4_append_bf812 se_J4_append_bf812 hW22.1 rfl rfl rfl (Nat.le_of_ble_eq_true rfl) ⟨by decide, by decide⟩ ⟨by omega, by omega⟩ (c_J4_append_bf812 hst hW22 (show i < 1000000 by omega) (by have h9 : (wrX G i ++ tl 3 ++ decB i ++ tl 4 ++ decB (stV G i) ++ tl 2).length ≤ 13 + 25 * (i + 1) := hlx; simp only [List.length_append] at h9 ⊢; omega)) (fun _ _ _ _ hE => absurd hE.1 (fun z => nomatch z)) (fun v9 A23 n23 _ hQ => ?_)
          obtain ⟨hn23, hB23⟩ := hap22 _ _ _ hQ
          have e9 := hQ.1
          cases e9
          refine J_ldcS 4 dL_told_169 rfl ?_
          refine J_ltA (fun lt23 => ?_)
          refine hB23.ap (sx := tl 4) lt23 (fun v23 m23 hW23 hap23 => ?_)
          refine J_callV (As := [_]) dL_told_171 ml_L_75 cal_J4_append_15ec4 im_J4_append_15ec4 se_J4_append_15ec4 hW23.1 rfl rfl rfl (Nat.le_of_ble_eq_true rfl) ⟨by decide, by decide⟩ ⟨by omega, by omega⟩ (c_J4_append_15ec4 hst hW23 (strT (k := 4) (by decide)) (by have h9 : (wrX G i ++ tl 3 ++ decB i ++ tl 4 ++ decB (stV G i) ++ tl 2).length ≤ 13 + 25 * (i + 1) := hlx; simp only [List.length_append] at h9 ⊢; omega)) (fun _ _ _ _ hE => absurd hE.1 (fun z => nomatch z)) (fun v9 A24 n24 _ hQ => ?_)
          obtain ⟨hn24, hB24⟩ := hap23 _ _ _ hQ
          have e9 := hQ.1
          cases e9
          refine J_aload_n dL_told_174 rfl rfl ?_
          refine J_getf dL_told_175 fl_L_92 hB24.w.1 rfl ?_
          refine J_iload dL_told_178 rfl ?_
          refine J_ialdN i dL_told_180 hB24.w.2.1 rfl (by omega) (by decide) ?_
          rw [pk_us]
          refine J_ltA (fun lt24 => ?_)
          refine hB24.ap (sx := decB (stV G i)) lt24 (fun v24 m24 hW24 hap24 => ?_)
          refine J_callV (As := [_]) dL_told_181 ml_L_87 cal_J4_append_bf812 im_J4_append_bf812 se_J4_append_bf812 hW24.1 rfl rfl rfl (Nat.le_of_ble_eq_true rfl) ⟨by decide, by decide⟩ ⟨by omega, by omega⟩ (c_J4_append_bf812 hst hW24 (show stV G i < 1000000 by omega) (by have h9 : (wrX G i ++ tl 3 ++ decB i ++ tl 4 ++ decB (stV G i) ++ tl 2).length ≤ 13 + 25 * (i + 1) := hlx; simp only [List.length_append] at h9 ⊢; omega)) (fun _ _ _ _ hE => absurd hE.1 (fun z => nomatch z)) (fun v9 A25 n25 _ hQ => ?_)
          obtain ⟨hn25, hB25⟩ := hap24 _ _ _ hQ
          have e9 := hQ.1
          cases e9
          refine J_ldcS 2 dL_told_184 rfl ?_
          refine J_ltA (fun lt25 => ?_)
          refine hB25.ap (sx := tl 2) lt25 (fun v25 m25 hW25 hap25 => ?_)
          refine J_callV (As := [_]) dL_told_186 ml_L_75 cal_J4_append_15ec4 im_J4_append_15ec4 se_J4_append_15ec4 hW25.1 rfl rfl rfl (Nat.le_of_ble_eq_true rfl) ⟨by decide, by decide⟩ ⟨by omega, by omega⟩ (c_J4_append_15ec4 hst hW25 (strT (k := 2) (by decide)) (by have h9 : (wrX G i ++ tl 3 ++ decB i ++ tl 4 ++ decB (stV G i) ++ tl 2).length ≤ 13 + 25 * (i + 1) := hlx; simp only [List.length_append] at h9 ⊢; omega)) (fun _ _ _ _ hE => absurd hE.1 (fun z => nomatch z)) (fun v9 A26 n26 _ hQ => ?_)
          obtain ⟨hn26, hB26⟩ := hap25 _ _ _ hQ
          have e9 := hQ.1
          cases e9
          refine J_pop dL_told_189 rfl ?_
          refine J_iinc (v := _ + 1) (L' := [(4, _), (3, _), (0, _), (1, _), (2, _)]) dL_told_190 rfl rfl (by decide) rfl ?_
          refine J_goto (tgt := 108) dL_told_193 rfl ?_
          refine xx_J.pick [0, 1, 2, 3, 4] rfl ?_
          exact ih _ _ _ _ _ _ wo (nI_1 i) (by omega) hB26 (upd_nx hst2) hwo
        · have k143 : blw (clv G 1) 2 = 0 := (nI_eq (Nat.lt_trans (blw_lt (by decide)) (by decide)) (by decide)).mp (show nI (blw (clv G 1) 2) = nI 0 from h143)
          refine J_sipush (v := 999) dL_told_146 (by decide) ?_
          refine J_goto (tgt := 153) dL_told_149 rfl ?_
          refine J_callSr (As := [_, _]) dL_told_153 ml_L_35 cal_L_below sm_L_below rfl rfl (Nat.le_of_ble_eq_true rfl) ⟨by decide, by decide⟩ ⟨by omega, by omega⟩ (c_L_below hst (shr (clv G (3 + i)) 2) (m := 999) (by decide) (by decide)) ?_
          refine J_iadd dL_told_156 ?_
          have hsv : (1 : Int32) + nI (blw (shr (clv G (3 + i)) 2) 999) = nI (stV G i) := by unfold stV; rw [if_pos k143]; exact nI_add 1 _
          rw [hsv]
          refine J_iastQ i dL_told_157 hB20.w.2.1 rfl (by omega) (by decide) (fun A21 g21 o21 => ?_)
          have hn21 : n1 ≤ n1 := Nat.le_refl _
          have hB21 := hB20.st hhn hv0n g21 o21
          refine J_aload_n dL_told_158 rfl rfl ?_
          refine J_ldcS 3 dL_told_159 rfl ?_
          refine J_ltA (fun lt21 => ?_)
          refine hB21.ap (sx := tl 3) lt21 (fun v21 m21 hW21 hap21 => ?_)
          refine J_callV (As := [_]) dL_told_161 ml_L_75 cal_J4_append_15ec4 im_J4_append_15ec4 se_J4_append_15ec4 hW21.1 rfl rfl rfl (Nat.le_of_ble_eq_true rfl) ⟨by decide, by decide⟩ ⟨by omega, by omega⟩ (c_J4_append_15ec4 hst hW21 (strT (k := 3) (by decide)) (by have h9 : (wrX G i ++ tl 3 ++ decB i ++ tl 4 ++ decB (stV G i) ++ tl 2).length ≤ 13 + 25 * (i + 1) := hlx; simp only [List.length_append] at h9 ⊢; omega)) (fun _ _ _ _ hE => absurd hE.1 (fun z => nomatch z)) (fun v9 A22 n22 _ hQ => ?_)
          obtain ⟨hn22, hB22⟩ := hap21 _ _ _ hQ
          have e9 := hQ.1
          cases e9
          refine J_iload dL_told_164 rfl ?_
          refine J_ltA (fun lt22 => ?_)
          refine hB22.ap (sx := decB i) lt22 (fun v22 m22 hW22 hap22 => ?_)
          refine J_callV (As := [_]) dL_told_166 ml_L_87 cal_J4_append_bf812 im_J4_append_bf812 se_J4_append_bf812 hW22.1 rfl rfl rfl (Nat.le_of_ble_eq_true rfl) ⟨by decide, by decide⟩ ⟨by omega, by omega⟩ (c_J4_append_bf812 hst hW22 (show i < 1000000 by omega) (by have h9 : (wrX G i ++ tl 3 ++ decB i ++ tl 4 ++ decB (stV G i) ++ tl 2).length ≤ 13 + 25 * (i + 1) := hlx; simp only [List.length_append] at h9 ⊢; omega)) (fun _ _ _ _ hE => absurd hE.1 (fun z => nomatch z)) (fun v9 A23 n23 _ hQ => ?_)
          obtain ⟨hn23, hB23⟩ := hap22 _ _ _ hQ
          have e9 := hQ.1
          cases e9
          refine J_ldcS 4 dL_told_169 rfl ?_
          refine J_ltA (fun lt23 => ?_)
          refine hB23.ap (sx := tl 4) lt23 (fun v23 m23 hW23 hap23 => ?_)
          refine J_callV (As := [_]) dL_told_171 ml_L_75 cal_J4_append_15ec4 im_J4_append_15ec4 se_J4_append_15ec4 hW23.1 rfl rfl rfl (Nat.le_of_ble_eq_true rfl) ⟨by decide, by decide⟩ ⟨by omega, by omega⟩ (c_J4_append_15ec4 hst hW23 (strT (k := 4) (by decide)) (by have h9 : (wrX G i ++ tl 3 ++ decB i ++ tl 4 ++ decB (stV G i) ++ tl 2).length ≤ 13 + 25 * (i + 1) := hlx; simp only [List.length_append] at h9 ⊢; omega)) (fun _ _ _ _ hE => absurd hE.1 (fun z => nomatch z)) (fun v9 A24 n24 _ hQ => ?_)
          obtain ⟨hn24, hB24⟩ := hap23 _ _ _ hQ
          have e9 := hQ.1
          cases e9
          refine J_aload_n dL_told_174 rfl rfl ?_
          refine J_getf dL_told_175 fl_L_92 hB24.w.1 rfl ?_
          refine J_iload dL_told_178 rfl ?_
          refine J_ialdN i dL_told_180 hB24.w.2.1 rfl (by omega) (by decide) ?_
          rw [pk_us]
          refine J_ltA (fun lt24 => ?_)
          refine hB24.ap (sx := decB (stV G i)) lt24 (fun v24 m24 hW24 hap24 => ?_)
          refine J_callV (As := [_]) dL_told_181 ml_L_87 cal_J4_append_bf812 im_J4_append_bf812 se_J4_append_bf812 hW24.1 rfl rfl rfl (Nat.le_of_ble_eq_true rfl) ⟨by decide, by decide⟩ ⟨by omega, by omega⟩ (c_J4_append_bf812 hst hW24 (show stV G i < 1000000 by omega) (by have h9 : (wrX G i ++ tl 3 ++ decB i ++ tl 4 ++ decB (stV G i) ++ tl 2).length ≤ 13 + 25 * (i + 1) := hlx; simp only [List.length_append] at h9 ⊢; omega)) (fun _ _ _ _ hE => absurd hE.1 (fun z => nomatch z)) (fun v9 A25 n25 _ hQ => ?_)
          obtain ⟨hn25, hB25⟩ := hap24 _ _ _ hQ
          have e9 := hQ.1
          cases e9
          refine J_ldcS 2 dL_told_184 rfl ?_
          refine J_ltA (fun lt25 => ?_)
          refine hB25.ap (sx := tl 2) lt25 (fun v25 m25 hW25 hap25 => ?_)
          refine J_callV (As := [_]) dL_told_186 ml_L_75 cal_J4_append_15ec4 im_J4_append_15ec4 se_J4_append_15ec4 hW25.1 rfl rfl rfl (Nat.le_of_ble_eq_true rfl) ⟨by decide, by decide⟩ ⟨by omega, by omega⟩ (c_J4_append_15ec4 hst hW25 (strT (k := 2) (by decide)) (by have h9 : (wrX G i ++ tl 3 ++ decB i ++ tl 4 ++ decB (stV G i) ++ tl 2).length ≤ 13 + 25 * (i + 1) := hlx; simp only [List.length_append] at h9 ⊢; omega)) (fun _ _ _ _ hE => absurd hE.1 (fun z => nomatch z)) (fun v9 A26 n26 _ hQ => ?_)
          obtain ⟨hn26, hB26⟩ := hap25 _ _ _ hQ
          have e9 := hQ.1
          cases e9
          refine J_pop dL_told_189 rfl ?_
          refine J_iinc (v := _ + 1) (L' := [(4, _), (3, _), (0, _), (1, _), (2, _)]) dL_told_190 rfl rfl (by decide) rfl ?_
          refine J_goto (tgt := 108) dL_told_193 rfl ?_
          refine xx_J.pick [0, 1, 2, 3, 4] rfl ?_
          exact ih _ _ _ _ _ _ wo (nI_1 i) (by omega) hB26 (upd_nx hst2) hwo
  have loopB : ptB G → ∀ i, i ≤ 3 → ∀ (x : Int32) (A1 : xx_H) (n1 k1 j1 : Nat) (wo : Nat → Int32), x = nI i → (k1 ≤ 9 + 2 * i ∧ j1 ≤ 1838 + 3604 * i) → tdB G n h v0 A (nI (nwV G)) (fun _ => 0) wo (ptX G i) n1 A1 → (∀ p, p < i → wo p = nI (ptV G p)) → xx_J G l mL_told 11 400 1000 1000000 (toldQ G h v0 n A) 47 [(4, .int x), (3, .ref n), (0, .ref 160), (1, .int 6), (2, .ref h)] [] A1 n1 k1 j1 := by
    intro hpt
    refine xx_dn ?_ ?_
    · intro x A1 n1 k1 j1 wo hx hk hB20 hwo
      have ex : x.toInt = 3 := by rw [hx]; exact i_n (by omega)
      refine J_iload dL_told_47 rfl ?_
      refine J_iconst (v := 3) dL_told_49 (by decide) ?_
      refine J_icmp_ge (tgt := 98) dL_told_50 rfl (fun h50 => ?_) (fun h50 => ?_)
      · refine J_aload_n dL_told_98 rfl rfl ?_
        refine J_ldcS 2 dL_told_99 rfl ?_
        refine J_ltA (fun lt20 => ?_)
        refine hB20.ap (sx := tl 2) lt20 (fun v20 m20 hW20 hap20 => ?_)
        refine J_callV (As := [_]) dL_told_101 ml_L_75 cal_J4_append_15ec4 im_J4_append_15ec4 se_J4_append_15ec4 hW20.1 rfl rfl rfl (Nat.le_of_ble_eq_true rfl) ⟨by decide, by decide⟩ ⟨by omega, by omega⟩ (c_J4_append_15ec4 hst hW20 (strT (k := 2) (by decide)) (by have h9 := ptX_len (G := G) 3; have h8 := tl_x.2.2.1; omega)) (fun _ _ _ _ hE => absurd hE.1 (fun z => nomatch z)) (fun v9 A21 n21 _ hQ => ?_)
        obtain ⟨hn21, hB21⟩ := hap20 _ _ _ hQ
        have e9 := hQ.1
        cases e9
        refine J_pop dL_told_104 rfl ?_
        refine J_iconst (v := 0) dL_told_105 (by decide) ?_
        refine J_istore (L' := [(4, _), (3, _), (0, _), (1, _), (2, _)]) dL_told_106 (by decide) rfl ?_
        refine xx_J.pick [0, 1, 2, 3, 4] rfl ?_
        exact loopC 0 (Nat.zero_le _) _ _ _ _ _ _ _ rfl (by omega) (show tdB G n h v0 A (nI (nwV G)) (fun _ => 0) _ (wrX G 0) _ _ from by show tdB G n h v0 A (nI (nwV G)) (fun _ => 0) _ (tx1 G) _ _; unfold tx1; rw [if_pos hpt]; exact hB21) (fun p hp => absurd hp (Nat.not_lt_zero p)) (fun p hp => (hwo p hp).trans (by unfold woV; rw [if_pos hpt]))
      · first | (exfalso; simp only [i_lt, i_le, i_eq, i_0, i_1, i_2, i_3, i_4, i_5, i_6, i_8, i_9, i_10, i_12, i_16, i_20, i_m1] at h50; omega) | (exfalso; simp only [s_up, a_up, va_up, i_lt, i_le, i_eq, i_0, i_1, i_2, i_3, i_4, i_5, i_6, i_8, i_9, i_10, i_12, i_16, i_20, i_m1, ↓reduceIte, Nat.reduceEqDiff] at h50; omega)
    · intro i hii ih x A1 n1 k1 j1 wo hx hk hB20 hwo
      subst hx
      have ex : (nI i).toInt = i := i_n (by omega)
      have hpv := ptV_lt (G := G) (i := i)
      have hlx := ptX_len (G := G) (i + 1)
      refine J_iload dL_told_47 rfl ?_
      refine J_iconst (v := 3) dL_told_49 (by decide) ?_
      refine J_icmp_ge (tgt := 98) dL_told_50 rfl (fun h50 => ?_) (fun h50 => ?_)
      · first | (exfalso; simp only [i_lt, i_le, i_eq, i_0, i_1, i_2, i_3, i_4, i_5, i_6, i_8, i_9, i_10, i_12, i_16, i_20, i_m1] at h50; omega) | (exfalso; simp only [s_up, a_up, va_up, i_lt, i_le, i_eq, i_0, i_1, i_2, i_3, i_4, i_5, i_6, i_8, i_9, i_10, i_12, i_16, i_20, i_m1, ↓reduceIte, Nat.reduceEqDiff] at h50; omega)
      · refine J_aload_n dL_told_53 rfl rfl ?_
        refine J_getf dL_told_54 fl_L_81 hB20.w.1 rfl ?_
        refine J_iload dL_told_57 rfl ?_
        refine J_aload_n dL_told_59 rfl rfl ?_
        refine J_iconst (v := 2) dL_told_60 (by decide) ?_
        refine J_callSr (As := [_, _]) dL_told_61 ml_L_66 cal_L_cell sm_L_cell rfl rfl (Nat.le_of_ble_eq_true rfl) ⟨by decide, by decide⟩ ⟨by omega, by omega⟩ (c_L_cell hst (k := 2) hL (by decide)) ?_
        refine J_iconst (v := 3) dL_told_64 (by decide) ?_
        refine J_iload dL_told_65 rfl ?_
        refine J_imul dL_told_67 ?_
        refine J_ishr dL_told_68 ?_
        refine J_bipush (v := 10) dL_told_69 (by decide) ?_
        refine J_callSr (As := [_, _]) dL_told_71 ml_L_35 cal_L_below sm_L_below rfl rfl (Nat.le_of_ble_eq_true rfl) ⟨by decide, by decide⟩ ⟨by omega, by omega⟩ (c_L_below hst (shr (clv G 2) (3 * nI i)) (m := 10) (by decide) (by decide)) ?_
        refine J_iastQ i dL_told_74 hB20.w.2.2.1 rfl (by omega) (by decide) (fun A21 g21 o21 => ?_)
        have hn21 : n1 ≤ n1 := Nat.le_refl _
        have hB21 := hB20.wo hhn hv0n g21 o21
        refine J_aload_n dL_told_75 rfl rfl ?_
        refine J_ldcS 1 dL_told_76 rfl ?_
        refine J_ltA (fun lt21 => ?_)
        refine hB21.ap (sx := tl 1) lt21 (fun v21 m21 hW21 hap21 => ?_)
        refine J_callV (As := [_]) dL_told_78 ml_L_75 cal_J4_append_15ec4 im_J4_append_15ec4 se_J4_append_15ec4 hW21.1 rfl rfl rfl (Nat.le_of_ble_eq_true rfl) ⟨by decide, by decide⟩ ⟨by omega, by omega⟩ (c_J4_append_15ec4 hst hW21 (strT (k := 1) (by decide)) (by have h9 : (ptX G i ++ tl 1 ++ decB (ptV G i)).length = 6 + 2 * (i + 1) := hlx; simp only [List.length_append] at h9 ⊢; omega)) (fun _ _ _ _ hE => absurd hE.1 (fun z => nomatch z)) (fun v9 A22 n22 _ hQ => ?_)
        obtain ⟨hn22, hB22⟩ := hap21 _ _ _ hQ
        have e9 := hQ.1
        cases e9
        refine J_aload_n dL_told_81 rfl rfl ?_
        refine J_getf dL_told_82 fl_L_81 hB22.w.1 rfl ?_
        refine J_iload dL_told_85 rfl ?_
        refine J_ialdN i dL_told_87 hB22.w.2.2.1 rfl (by omega) (by decide) ?_
        rw [pk_us, show nI (blw (shr (clv G 2) (3 * nI i)) 10) = nI (ptV G i) from rfl]
        refine J_ltA (fun lt22 => ?_)
        refine hB22.ap (sx := decB (ptV G i)) lt22 (fun v22 m22 hW22 hap22 => ?_)
        refine J_callV (As := [_]) dL_told_88 ml_L_87 cal_J4_append_bf812 im_J4_append_bf812 se_J4_append_bf812 hW22.1 rfl rfl rfl (Nat.le_of_ble_eq_true rfl) ⟨by decide, by decide⟩ ⟨by omega, by omega⟩ (c_J4_append_bf812 hst hW22 (show ptV G i < 1000000 by omega) (by have h9 : (ptX G i ++ tl 1 ++ decB (ptV G i)).length = 6 + 2 * (i + 1) := hlx; simp only [List.length_append] at h9 ⊢; omega)) (fun _ _ _ _ hE => absurd hE.1 (fun z => nomatch z)) (fun v9 A23 n23 _ hQ => ?_)
        obtain ⟨hn23, hB23⟩ := hap22 _ _ _ hQ
        have e9 := hQ.1
        cases e9
        refine J_pop dL_told_91 rfl ?_
        refine J_iinc (v := _ + 1) (L' := [(4, _), (3, _), (0, _), (1, _), (2, _)]) dL_told_92 rfl rfl (by decide) rfl ?_
        refine J_goto (tgt := 47) dL_told_95 rfl ?_
        refine xx_J.pick [0, 1, 2, 3, 4] rfl ?_
        exact ih _ _ _ _ _ _ (nI_1 i) (by omega) hB23 (upd_nx hwo)
  trivial
end XTD
