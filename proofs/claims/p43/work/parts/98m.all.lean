/-! THE LAW: its beginning -/
section XLZ
variable {G : xx_G} {l : Launch} {A A1 : xx_H} {n : Nat} {k j i q s e t d b h : Nat}
/-- chars of one byte -/
def c7 (t : List Int32) : Prop := ∀ x ∈ t, 0 ≤ x.toInt ∧ x.toInt < 128
theorem c7.ap {s t : List Int32} (h1 : c7 s) (h2 : c7 t) : c7 (s ++ t) := fun x hx => (List.mem_append.mp hx).elim (h1 x) (h2 x)
theorem c7_n : c7 [] := fun x hx => nomatch hx
theorem c7_1 {v : Nat} (h : v < 128) : c7 [nI v] := fun x hx => by
  rw [List.mem_singleton.mp hx, i_n (by omega)]; omega
theorem c7_all : xx_tx.all (fun t => t.all (fun x => decide (0 ≤ x.toInt) && decide (x.toInt < 128))) = true := by decide +kernel
theorem c7_tl (k : Nat) : c7 (tl k) := by
  unfold tl txt
  rw [List.getD_eq_getElem?_getD]
  cases h : xx_tx[xx_ln k]? with
  | none => exact c7_n
  | some t =>
    have z := List.all_eq_true.mp (List.all_eq_true.mp c7_all t (List.mem_of_getElem? h))
    intro x hx
    have z2 := z x hx
    simp only [Bool.and_eq_true, decide_eq_true_eq] at z2
    exact z2
theorem c7_d : ∀ m w, w < m → c7 (decB w) := by
  intro m
  induction m with
  | zero => intro w hw; omega
  | succ m ih =>
    intro w hw
    by_cases c : w < 10
    · rw [decB_lo c]; exact c7_1 (by omega)
    · rw [decB_hi c]; exact (ih _ (by omega)).ap (c7_1 (by omega))
theorem c7_b (w : Nat) : c7 (decB w) := c7_d (w + 1) w (by omega)
theorem c7_t : ∀ f (tr : Tr f), c7 (txL f tr) := by
  intro f
  induction f with
  | zero => intro tr; exact c7_n
  | succ f ih =>
    intro tr
    obtain ⟨⟨kd, nu⟩, ta, tb⟩ := tr
    rw [txL_s]
    repeat' first | exact c7_n | exact c7_tl _ | exact c7_b _ | exact ih _ | apply c7.ap | split
theorem c7_pt : ∀ i, c7 (ptX G i) := by
  intro i
  induction i with
  | zero => exact c7_n.ap (c7_tl _)
  | succ i ih => exact (ih.ap (c7_tl _)).ap (c7_b _)
theorem c7_wr : ∀ i, c7 (wrX G i) := by
  intro i
  induction i with
  | zero =>
    show c7 (tx1 G)
    unfold tx1
    split
    · exact (c7_pt _).ap (c7_tl _)
    · exact c7_n
  | succ i ih => exact ((((ih.ap (c7_tl _)).ap (c7_b _)).ap (c7_tl _)).ap (c7_b _)).ap (c7_tl _)
theorem c7_rl : ∀ i, c7 (rlX G i) := by
  intro i
  induction i with
  | zero => exact c7_wr _
  | succ i ih =>
    refine (((ih.ap (c7_tl _)).ap ?_).ap ?_).ap (c7_tl _)
    · unfold ouX; repeat' first | exact c7_tl _ | split
    · cases tsV G i with
      | none => exact c7_tl _
      | some t => exact (c7_n.ap (c7_tl _)).ap (c7_t _ _)
theorem c7.ch {tx : List Int32} {f : Nat → Int32} (h : c7 tx) (hf : ∀ p, p < tx.length → f p = tx.getD p 0) : chL f tx.length := fun p hp => by
  have e : tx.getD p 0 = tx[p] := by simp [List.getD_eq_getElem?_getD, hp]
  obtain ⟨z1, z2⟩ := h tx[p] (List.getElem_mem hp)
  refine ⟨tx[p].toInt.toNat, ?_, by omega⟩
  rw [hf p hp, e]
  apply Int32.toInt_inj.mp
  rw [i_n (by omega)]; omega
/-- neither a tree nor trees -/
def kd7 : va_E → Nat
  | .inl (k, _) => if k = 5 then 1 else 0
  | .inr (c, _) => if c = 7 then 1 else 0
theorem k7 {z : Nat} {e : va_E} (h : A z = some e) (he : kd7 e = 0) : ∀ c, A z = some c → kd7 c = 0 := fun c hc => by
  rw [h] at hc
  rw [← Option.some.inj hc]; exact he
theorem cls7 {D T R R2 F F2 PS : xS} {sg : Nat → Option Nat} (o : ∀ z, z < b → A z = none) (hX : xx_w b (layX b) A) (hD : rdW (b + 1) D T R sg A) (hR : xx_w (b + 16) (layR (b + 16) R2) A) (hF : xx_w (b + 22) (layF (b + 22) F) A) (hF2 : xx_w (b + 31) (layF (b + 31) F2) A) (hP : xx_w (b + 40) (layP (b + 40) PS) A) : ∀ z, z < b + 46 → ∀ c, A z = some c → kd7 c = 0 := by
  intro z hz
  by_cases c : z < b
  · intro c hc; rw [o z (by omega)] at hc; cases hc
  · obtain ⟨o, rfl⟩ : ∃ o, z = b + o := ⟨z - b, by omega⟩
    obtain ⟨hD1, hD2, hD3⟩ := hD
    by_cases c1 : o < 16
    · rcases (show o = 0 ∨ o = 1 ∨ o = 2 ∨ o = 3 ∨ o = 4 ∨ o = 5 ∨ o = 6 ∨ o = 7 ∨ o = 8 ∨ o = 9 ∨ o = 10 ∨ o = 11 ∨ o = 12 ∨ o = 13 ∨ o = 14 ∨ o = 15 by omega) with rfl | rfl | rfl | rfl | rfl | rfl | rfl | rfl | rfl | rfl | rfl | rfl | rfl | rfl | rfl | rfl
      · exact k7 (hX.at 0 rfl) rfl
      · exact k7 (hD1.at 0 rfl) rfl
      · exact k7 (hD2.at 0 rfl) rfl
      · exact k7 (hD2.at 1 rfl) rfl
      · exact k7 (hD2.at 2 rfl) rfl
      · exact k7 (hD2.at 3 rfl) rfl
      · exact k7 (hD2.at 4 rfl) rfl
      · exact k7 (hD3.at 0 rfl) rfl
      · exact k7 (hD3.at 1 rfl) rfl
      · exact k7 (hD3.at 2 rfl) rfl
      · exact k7 (hD3.at 3 rfl) rfl
      · exact k7 (hD3.at 4 rfl) rfl
      · exact k7 (hD3.at 5 rfl) rfl
      · exact k7 (hD1.at 1 rfl) rfl
      · exact k7 (hD1.at 2 rfl) rfl
      · exact k7 (hD1.at 3 rfl) rfl
    · by_cases c2 : o < 31
      · rcases (show o = 16 ∨ o = 17 ∨ o = 18 ∨ o = 19 ∨ o = 20 ∨ o = 21 ∨ o = 22 ∨ o = 23 ∨ o = 24 ∨ o = 25 ∨ o = 26 ∨ o = 27 ∨ o = 28 ∨ o = 29 ∨ o = 30 by omega) with rfl | rfl | rfl | rfl | rfl | rfl | rfl | rfl | rfl | rfl | rfl | rfl | rfl | rfl | rfl
        · exact k7 (hR.at 0 rfl) rfl
        · exact k7 (hR.at 1 rfl) rfl
        · exact k7 (hR.at 2 rfl) rfl
        · exact k7 (hR.at 3 rfl) rfl
        · exact k7 (hR.at 4 rfl) rfl
        · exact k7 (hR.at 5 rfl) rfl
        · exact k7 (hF.at 0 rfl) rfl
        · exact k7 (hF.at 1 rfl) rfl
        · exact k7 (hF.at 2 rfl) rfl
        · exact k7 (hF.at 3 rfl) rfl
        · exact k7 (hF.at 4 rfl) rfl
        · exact k7 (hF.at 5 rfl) rfl
        · exact k7 (hF.at 6 rfl) rfl
        · exact k7 (hF.at 7 rfl) rfl
        · exact k7 (hF.at 8 rfl) rfl
      · rcases (show o = 31 ∨ o = 32 ∨ o = 33 ∨ o = 34 ∨ o = 35 ∨ o = 36 ∨ o = 37 ∨ o = 38 ∨ o = 39 ∨ o = 40 ∨ o = 41 ∨ o = 42 ∨ o = 43 ∨ o = 44 ∨ o = 45 by omega) with rfl | rfl | rfl | rfl | rfl | rfl | rfl | rfl | rfl | rfl | rfl | rfl | rfl | rfl | rfl
        · exact k7 (hF2.at 0 rfl) rfl
        · exact k7 (hF2.at 1 rfl) rfl
        · exact k7 (hF2.at 2 rfl) rfl
        · exact k7 (hF2.at 3 rfl) rfl
        · exact k7 (hF2.at 4 rfl) rfl
        · exact k7 (hF2.at 5 rfl) rfl
        · exact k7 (hF2.at 6 rfl) rfl
        · exact k7 (hF2.at 7 rfl) rfl
        · exact k7 (hF2.at 8 rfl) rfl
        · exact k7 (hP.at 0 rfl) rfl
        · exact k7 (hP.at 1 rfl) rfl
        · exact k7 (hP.at 2 rfl) rfl
        · exact k7 (hP.at 3 rfl) rfl
        · exact k7 (hP.at 4 rfl) rfl
        · exact k7 (hP.at 5 rfl) rfl
theorem xx_w.onP {cs : List (Nat × va_E)} {p : Nat → Bool} (hw : xx_w b cs A) (o : ∀ z, p z = true → A1 (b + z) = A (b + z)) (hb : (cs.map Prod.fst).all p = true) : xx_w b cs A1 := fun i z e he => by
  have hz := List.all_eq_true.mp hb z (List.mem_map.mpr ⟨_, List.mem_of_getElem? he, rfl⟩)
  exact (o z hz).trans (hw i z e he)
theorem sI.mo2 {S : sS} (hS : sI G b h S A) (o : ∀ z c, b + 46 ≤ z → A z = some c → A1 z = some c) : sI G b h S A1 := by
  have o2 : ∀ z c, rsH (b + 46) A z = some c → rsH (b + 46) A1 z = some c := fun z c hz => by
    obtain ⟨h1, h2⟩ := rsH_s hz
    rw [rsH_y h1]; exact o z c h1 h2
  exact ⟨hS.1.mo o2, hS.2.1.mo o2, hS.2.2⟩
/-- the tournament by hand at the start -/
theorem sI_0 {st wo tls : Nat → Int32} {a c : Nat} (d1 : tdW h (nI (nwV G)) st wo a c A) (d4 : tdR (nrV G) a c tls (tsV G) A) (d5 : ∀ p, p < nrV G → tls p = nI (outV G p)) (hh : b + 46 ≤ h) (ha : b + 46 ≤ a) (h7 : ∀ z, z < b + 46 → ∀ c, A z = some c → kd7 c = 0) : sI G b h (tdS h (nwV G) (nrV G) a c st wo tls) A := by
  have hnr := nrV_lt (G := G)
  refine ⟨(d1.sim (nr := nrV G) (tls := tls)).rs ⟨hh, by show b + 46 ≤ h + 6; omega, by show b + 46 ≤ h + 7; omega, fun i hi => absurd hi (Nat.not_lt_zero i)⟩, ?_, ⟨by show nrV G < 5; omega, fun i hi => absurd hi (Nat.not_lt_zero i), fun i _ hi => absurd hi (Nat.not_lt_zero i)⟩, rfl, d5⟩
  obtain ⟨r1, f, r2, r3⟩ := d4
  have hc : b + 46 ≤ c := Nat.le_of_not_lt fun z => absurd (show (1 : Nat) = 0 from h7 c z _ r2) (by decide)
  refine ⟨(rsH_y ha).trans r1, f, (rsH_y hc).trans r2, fun i hi => ?_⟩
  rcases r3 i hi with z | ⟨t, v, t1, t2, t3, t4⟩
  · exact Or.inl z
  · exact Or.inr ⟨t, v, t1, t2, t3.up 4 v t (fun z c9 hz => rsH_y (Nat.le_of_not_lt fun y => absurd (show (1 : Nat) = 0 from h7 z y _ hz) (by decide))), t4⟩
theorem tiS_0 {FF : xS} {st wo tls : Nat → Int32} {a c : Nat} (hF : fldI G FF) (hO : okF FF (nwV G) 0 0) (d2 : ∀ p, p < nwV G → st p = nI (stV G p)) (d3 : ∀ p, p < 3 → wo p = nI (woV G p)) : tiS (tdS h (nwV G) (nrV G) a c st wo tls) FF (nwV G) 0 0 := by
  have hnw := nwV_lt (G := G)
  obtain ⟨⟨-, -, -, f9⟩, g1, g2, g3⟩ := hF
  refine ⟨⟨rfl, rfl, rfl, hnw.1, hnw.2⟩, hO, ⟨fun w hw => ⟨?_, ?_, ?_, ?_, ?_, ?_, ?_, ?_, ?_⟩, fun w hw => Or.inl ⟨rfl, (g2 8 w (by omega) hw).trans rfl⟩, fun i hi => (g1 i hi).trans (d3 i hi).symm, fun x y hx hy => (g3 x y hx hy).trans rfl⟩, ⟨Nat.le_refl _, Nat.le_refl _, fun i hi => absurd hi (Nat.not_lt_zero i), fun q hq => absurd hq (Nat.not_lt_zero q)⟩, fun w hw => Nat.le_refl 0, ⟨fun q _ hq => absurd hq (Nat.not_lt_zero q), Or.inl ⟨rfl, f9⟩, fun i hi => absurd hi (Nat.not_lt_zero i)⟩⟩
  · exact ((g2 0 w (by omega) hw).trans (if_pos rfl)).trans (d2 w hw).symm
  · refine ((g2 1 w (by omega) hw).trans rfl).trans ?_
    show (0 : Int32) = 0 * wo 0 + 0 * wo 1 + 0 * wo 2
    simp
  · exact (g2 2 w (by omega) hw).trans rfl
  · exact (g2 3 w (by omega) hw).trans rfl
  · exact (g2 4 w (by omega) hw).trans rfl
  · exact (g2 5 w (by omega) hw).trans rfl
  · exact (g2 6 w (by omega) hw).trans rfl
  · exact (g2 7 w (by omega) hw).trans rfl
  · exact (g2 9 w (by omega) hw).trans rfl
set_option maxRecDepth 100000 in
set_option maxHeartbeats 8000000 in
theorem law_all (hst : l.stackTraces = false) (hL : G.2.2.2 400 ≤ 3072) : xx_J G l mL_law 2048 84000 600086 7301442 lawP 0 [(0, .ref 160)] [] (fun _ => none) b 0 0 := by
  have hnr := nrV_lt (G := G)
  have hlx := rlX_len (G := G) (nrV G) hnr
  refine J_new (fs := [.null, .null, .null, .null, .null, .null]) dL_law_0 k_5 cl_L_20 ins_BeltRounds in_BeltRounds (fun q hq => by rcases (show q = 0 ∨ q = 1 ∨ q = 2 ∨ q = 3 ∨ q = 4 ∨ q = 5 by omega) with rfl | rfl | rfl | rfl | rfl | rfl <;> rfl) (fun v hv q h => by subst h; simp at hv) (Nat.le_of_ble_eq_true rfl) (Nat.le_of_ble_eq_true rfl) ?_
  refine J_dup dL_law_3 rfl ?_
  refine J_callI (As := []) dL_law_4 (Or.inl ml_L_166) cal_X6_init rfl rfl rfl im_X6_init rfl (Nat.le_of_ble_eq_true rfl) ⟨by decide, by decide⟩ ⟨Nat.le_of_ble_eq_true rfl, Nat.le_of_ble_eq_true rfl⟩ (c_X6_init (b := b) hst (xx_up_s _ _ _)) (fun v1 A1 n1 _ hQ1 => ?_)
  obtain ⟨e1, en1, old1, hX1, hD1, hR1, hF1, hG1, hP1⟩ := hQ1
  cases e1
  subst en1
  have h7 := cls7 (fun z hz => (old1 z hz).trans (xx_up_n _ _ (by omega))) hX1 hD1 hR1 hF1 hG1 hP1
  refine J_astore_n dL_law_7 rfl (Nat.le_of_ble_eq_true rfl) rfl ?_
  refine J_new (fs := [.null, .int 0, .int 0, .int 0]) dL_law_8 k_9 cl_L_76 ins_java_lang_StringBuilder in_java_lang_StringBuilder (fun q hq => by rcases (show q = 0 ∨ q = 1 ∨ q = 2 ∨ q = 3 by omega) with rfl | rfl | rfl | rfl <;> rfl) (fun v hv q h => by subst h; simp at hv) (Nat.le_of_ble_eq_true rfl) (Nat.le_of_ble_eq_true rfl) ?_
  refine J_dup dL_law_11 rfl ?_
  refine J_callI (As := []) dL_law_12 (Or.inl ml_L_120) cal_J4_init_da8c8 rfl rfl rfl im_J4_init_da8c8 rfl (Nat.le_of_ble_eq_true rfl) ⟨by decide, by decide⟩ ⟨Nat.le_of_ble_eq_true rfl, Nat.le_of_ble_eq_true rfl⟩ (c_J4_init_da8c8 hst (xx_up_s _ _ _)) (fun v2 A2 n2 _ hQ2 => ?_)
  obtain ⟨e2, en2, hW2, old2⟩ := hQ2
  cases e2
  subst en2
  have o2 : ∀ z, z < b + 46 → A2 z = A1 z := fun z hz => (old2 z (by omega) (by omega)).trans (xx_up_n _ _ (by omega))
  refine J_astore_n dL_law_15 rfl (Nat.le_of_ble_eq_true rfl) rfl ?_
  refine J_aload_n dL_law_16 rfl rfl ?_
  refine J_bipush (v := 6) dL_law_17 (by decide) ?_
  refine J_aload_n dL_law_19 rfl rfl ?_
  refine J_callSg (As := [_, _, _]) dL_law_20 ml_L_167 cal_L_told rfl sm_L_told rfl (Nat.le_of_ble_eq_true rfl) ⟨by decide, by decide⟩ ⟨Nat.le_of_ble_eq_true rfl, Nat.le_of_ble_eq_true rfl⟩ (c_L_told hst hL hW2) (fun v3 A3 n3 _ hQ3 => ?_) (fun _ _ _ _ hE => absurd hE.1 (fun z => nomatch z))
  obtain ⟨e3, st, wo, tls, a, c, v, mm, d1, d2, d3, d4, d5, d6, d7, ⟨d8, d8a⟩, d9⟩ := hQ3
  cases e3
  have o3 : ∀ z, z < b + 46 → A3 z = A1 z := fun z hz => (d9 z (by omega) (by omega) (by omega)).trans (o2 z hz)
  have hS3 := sI_0 (b := b) d1 d4 d5 (by omega) (by omega) (fun z hz c9 h9 => h7 z hz c9 (by rw [← o3 z hz]; exact h9))
  refine J_astore_n dL_law_23 rfl (Nat.le_of_ble_eq_true rfl) rfl ?_
  refine J_aload_n dL_law_24 rfl rfl ?_
  refine J_aload_n dL_law_25 rfl rfl ?_
  refine J_ltA (fun lt3 => ?_)
  refine J_callV (As := []) dL_law_26 ml_L_127 cal_J4_toString_0e30d im_J4_toString_0e30d se_J4_toString_0e30d d6.1 rfl rfl rfl (Nat.le_of_ble_eq_true rfl) ⟨by decide, by decide⟩ ⟨Nat.le_of_ble_eq_true rfl, Nat.le_of_ble_eq_true rfl⟩ (c_J4_toString_0e30d hst d6 (by omega)) (fun _ _ _ _ hE => absurd hE.1 (fun z => nomatch z)) (fun v4 A4 n4 _ hQ4 => ?_)
  obtain ⟨e4, en4, t4, ⟨g, tg, hg, hb⟩, o4⟩ := hQ4
  cases e4
  subst en4
  have u4 : ∀ z c9, A3 z = some c9 → A4 z = some c9 := fun z c9 hz => (o4 z (lt3 z c9 hz)).trans hz
  have hS4 := hS3.mo2 (fun z c9 _ hz => u4 z c9 hz)
  have o4b : ∀ z, z < b + 46 → A4 z = A1 z := fun z hz => (o4 z (by omega)).trans (o3 z hz)
  have hX4 := hX1.un o4b (m := 1) rfl (by omega)
  have hD4 := hD1.un o4b (by omega)
  have hR4 := hR1.un o4b (m := 6) rfl (by omega)
  have hF4 := hF1.un o4b (m := 9) rfl (by omega)
  have hG4 := hG1.un o4b (m := 9) rfl (by omega)
  have hP4 := hP1.un o4b (m := 6) rfl (by omega)
  refine J_ltA (fun lt4 => ?_)
  have hgd : ∀ p, p < (rlX G (nrV G)).length → g p = (rlX G (nrV G)).getD p 0 := fun p hp => by
    have z := hg p hp
    rw [Nat.zero_add] at z; exact z
  have hch := (c7_rl (G := G) (nrV G)).ch hgd
  refine J_callSg (As := [_, _]) dL_law_29 ml_L_171 cal_L_taught rfl sm_L_taught rfl (Nat.le_of_ble_eq_true rfl) ⟨by decide, by decide⟩ ⟨Nat.le_of_ble_eq_true rfl, Nat.le_of_ble_eq_true rfl⟩ (c_L_taught hst (by omega) hX4 hD4.2.1 rfl hR4 hF4 (fun A2 u T2 hT2 => ⟨_, _, hD4.1.onP (p := fun z => decide (z = 0 ∨ 12 ≤ z ∧ z < 15)) (fun z hz => by
    have hz := of_decide_eq_true hz
    exact u _ (by omega) (by omega)) rfl, hT2, hD4.2.2.onP (p := fun z => decide (z < 6)) (fun z hz => by
    have hz := of_decide_eq_true hz
    exact u _ (by omega) (by omega)) rfl⟩) t4 tg hch (by omega) (by omega) (by omega)) (fun v5 A5 n5 _ hQ5 => ?_) (fun _ _ _ _ hE => ?_)
  · obtain ⟨A6, R6, F6, w1, w2, en5, u6, hX6⟩ := hQ5
    subst en5
    have o6 : ∀ z, z < b + 2 ∨ (b + 7 ≤ z ∧ z < b + 46) → A6 z = A4 z := fun z hz => u6 z (by omega) (by omega)
    have hG6 : xx_w (b + 31) (layF (b + 31) (s_up x0 9 (-1))) A6 := hG4.onP (p := fun z => decide (z < 9)) (fun z hz => by
      have hz := of_decide_eq_true hz
      exact o6 _ (by omega)) rfl
    have hP6 : xx_w (b + 40) (layP (b + 40) (s_up x0 2 (-1))) A6 := hP4.onP (p := fun z => decide (z < 6)) (fun z hz => by
      have hz := of_decide_eq_true hz
      exact o6 _ (by omega)) rfl
    have h6 : R6.1 6 = nI 0 := by
      have z : A6 (b + 16) = some (.inr (3, [.int (x0.1 0), .ref (b + 16 + 1), .ref (b + 16 + 2), .int (x0.1 3), .ref (b + 16 + 3), .ref (b + 16 + 4), .int (x0.1 6), .ref (b + 16 + 5)])) := (o6 _ (by omega)).trans (hR4.at 0 rfl)
      have z2 := (w1.at 0 rfl).symm.trans z
      exact congrArg (fun e : Option va_E => match e with | some (.inr (_, [_, _, _, _, _, _, .int x, _])) => x | _ => 0) z2
    obtain ⟨er, -, ⟨FF, hgI, hfl⟩, ⟨D', X', R0', sg', hrd, hX0⟩, hsm⟩ := tc_told hX6 (tp_H hch rfl (by omega) rfl hgd) h6 hG6 hP6
    cases er
    have hO : okF FF (nwV G) 0 0 := by
      obtain ⟨_, _, _, _, _, _, _, _, _, k1, k2⟩ := hgI
      exact k1.ok k2
    have hC5 : cI G b FF 0 0 A5 := ⟨hX4.onP (p := fun z => decide (z < 1)) (fun z hz => by
      have hz := of_decide_eq_true hz
      exact (hsm _ (by omega)).trans (o6 _ (by omega))) rfl, hgI, D', X', R0', sg', hrd, hX0⟩
    have hS5 := hS4.mo2 (A1 := A5) (fun z c9 hz1 hz2 => ((hsm z (by omega)).trans (u6 z (lt4 z c9 hz2) (by omega))).trans hz2)
    refine J_if_eq (tgt := 37) dL_law_32 rfl (fun _ => ?_) (fun z => absurd rfl z)
    refine J_iconst (v := 0) dL_law_37 (by decide) ?_
    refine J_istore (L' := [(4, _), (3, _), (2, _), (1, _), (0, _)]) dL_law_38 (by decide) rfl ?_
    exact law_loop hst hL 0 (by omega) _ FF 0 0 A5 _ _ _ hC5 hS5 (tiS_0 hfl hO d2 d3) (Nat.le_of_ble_eq_true rfl) (Nat.le_of_ble_eq_true rfl)
  · obtain ⟨A6, R6, F6, w1, w2, en5, u6, hX6⟩ := hE
    exact absurd hX6.1 (fun z => nomatch z)
end XLZ
