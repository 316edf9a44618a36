/-! THE LAW: what holds of the class, what of the tournament by hand; answers -/
section XLI
variable {G : xx_G} {l : Launch} {A A1 : xx_H} {n : Nat} {k j i q s e t d b h : Nat} {S S' : sS} {F F' : xS} {nb r : Nat}
/-- the class -/
def cI (G : xx_G) (b : Nat) (F : xS) (nb r : Nat) (A : xx_H) : Prop := xx_w b (layX b) A ∧ gI b (ruG G) (nrV G) (nwV G) nb r F A ∧ ∃ D T R0 sg, rdW (b + 1) D T R0 sg A ∧ T.1 1 = 0
/-- the tournament by hand -/
def sI (G : xx_G) (b h : Nat) (S : sS) (A : xx_H) : Prop := simW h S (rsH (b + 46) A) ∧ rulH S (tsV G) (rsH (b + 46) A) ∧ simX S ∧ rlS G S
theorem xx_w.un {b1 m : Nat} {cs : List (Nat × va_E)} (hw : xx_w b cs A) (o : ∀ z, z < b1 → A1 z = A z) (hb : (cs.map Prod.fst).all (fun z => decide (z < m)) = true) (hd : b + m ≤ b1) : xx_w b cs A1 := hw.below o hw hb hd
theorem rdW.un {b1 : Nat} {D T R0 : xS} {sg : Nat → Option Nat} (hw : rdW b D T R0 sg A) (o : ∀ z, z < b1 → A1 z = A z) (hd : b + 15 ≤ b1) : rdW b D T R0 sg A1 := ⟨hw.1.un o (m := 15) rfl (by omega), hw.2.1.un o (m := 5) rfl (by omega), hw.2.2.un o (m := 6) rfl (by omega)⟩
theorem cI.up (hC : cI G b F nb r A) (o : ∀ z, z < b + 46 → A1 z = A z) : cI G b F nb r A1 := by
  obtain ⟨hX, ⟨R, F0, F2, PS, g1, g2, g3, g4, g5, g6, g7⟩, D, T, R0, sg, hR, hT⟩ := hC
  exact ⟨hX.un o (m := 1) rfl (by omega), ⟨R, F0, F2, PS, g1.un o (m := 6) rfl (by omega), g2.un o (m := 9) rfl (by omega), g3.un o (m := 9) rfl (by omega), g4.un o (m := 6) rfl (by omega), g5, g6, g7⟩, D, T, R0, sg, hR.un o (by omega), hT⟩
theorem cI.cl {nb' r' : Nat} (hC : cI G b F nb r A) (hG : gI b (ruG G) (nrV G) (nwV G) nb' r' F' A1) (hs : xx_same (b + 16) (b + 46) A A1) : cI G b F' nb' r' A1 := by
  obtain ⟨hX, -, D, T, R0, sg, hR, hT⟩ := hC
  have o : ∀ z, z < b + 16 → A1 z = A z := fun z hz => hs z (Or.inl hz)
  exact ⟨hX.un o (m := 1) rfl (by omega), hG, D, T, R0, sg, hR.un o (by omega), hT⟩
theorem rsH_same (hs : ∀ z, b + 46 ≤ z → A1 z = A z) : rsH (b + 46) A1 = rsH (b + 46) A := by
  funext z
  unfold rsH
  split
  · rename_i c; exact hs z c
  · rfl
theorem sI.cl (hS : sI G b h S A) (hs : xx_same (b + 16) (b + 46) A A1) : sI G b h S A1 := by
  unfold sI
  rw [rsH_same (fun z hz => hs z (Or.inr hz))]; exact hS
theorem rulH.mo {tt : Nat → Option (Tr 4)} (hR : rulH S tt A) (u : ∀ z c, A z = some c → A1 z = some c) : rulH S tt A1 := by
  obtain ⟨h1, f, h2, h3⟩ := hR
  refine ⟨u _ _ h1, f, u _ _ h2, fun i hi => ?_⟩
  rcases h3 i hi with ⟨g1, g2⟩ | ⟨t, v, g1, g2, g3, g4⟩
  · exact Or.inl ⟨g1, g2⟩
  · exact Or.inr ⟨t, v, g1, g2, g3.up 4 v t (fun z c hz => (u z _ hz).trans hz.symm), g4⟩
theorem simW.mo (hS : simW h S A) (u : ∀ z c, A z = some c → A1 z = some c) : simW h S A1 := by
  obtain ⟨h1, h2, h3, h4, ⟨f, h5, h6⟩, h7, h8⟩ := hS
  exact ⟨u _ _ h1, u _ _ h2, u _ _ h3, u _ _ h4, ⟨f, u _ _ h5, h6⟩, fun i hi => u _ _ (h7 i hi), u _ _ h8⟩
theorem rsH_u {lo : Nat} : ∀ z c, rsH lo A z = some c → A z = some c := fun z c hz => (rsH_s hz).2
theorem sI.W (hS : sI G b h S A) : simW h S A := hS.1.mo rsH_u
theorem sI.R (hS : sI G b h S A) : rulH S (tsV G) A := hS.2.1.mo rsH_u
/-- handles of the tournament by hand -/
def hdL (lo h : Nat) (S : sS) : Prop := lo ≤ h ∧ lo ≤ S.2.2 0 ∧ lo ≤ S.2.2 2 ∧ ∀ i, i < S.2.2 1 → lo ≤ S.2.2 (10 + i)
theorem simW.hd {lo : Nat} (hS : simW h S (rsH lo A)) : hdL lo h S := by
  obtain ⟨h1, h2, h3, h4, ⟨f, h5, h6⟩, h7, h8⟩ := hS
  exact ⟨(rsH_s h1).1, (rsH_s h5).1, (rsH_s h8).1, fun i hi => (rsH_s (h7 i hi)).1⟩
theorem simW.rs {lo : Nat} (hS : simW h S A) (hl : hdL lo h S) : simW h S (rsH lo A) := by
  obtain ⟨h1, h2, h3, h4, ⟨f, h5, h6⟩, h7, h8⟩ := hS
  obtain ⟨l1, l2, l3, l4⟩ := hl
  exact ⟨(rsH_y l1).trans h1, (rsH_y (by omega)).trans h2, (rsH_y (by omega)).trans h3, (rsH_y (by omega)).trans h4, ⟨f, (rsH_y l2).trans h5, h6⟩, fun i hi => (rsH_y (l4 i hi)).trans (h7 i hi), (rsH_y l3).trans h8⟩
theorem sI.hd (hS : sI G b h S A) : hdL (b + 46) h S := hS.1.hd
/-- new things change nothing -/
theorem sI.up (hS : sI G b h S A) (lt : ∀ z c, A z = some c → z < n) (u : ∀ z, z < n → A1 z = A z) : sI G b h S A1 := by
  have o : ∀ z c, rsH (b + 46) A z = some c → rsH (b + 46) A1 z = some c := fun z c hz => by
    obtain ⟨h1, h2⟩ := rsH_s hz
    rw [rsH_y h1, u z (lt z c h2)]; exact h2
  exact ⟨hS.1.mo o, hS.2.1.mo o, hS.2.2⟩
theorem cI.lt (hC : cI G b F nb r A) (lt : ∀ z c, A z = some c → z < n) : b < n := lt _ _ (hC.1.at 0 rfl)
/-- a row of Sim's is written -/
theorem sI.row (hS : sI G b h S A) {i : Nat} (hi : i < S.2.2 1) {g : Nat → Int32} (h1 : A1 (S.2.2 (10 + i)) = some (.inl (0, 5, .inl g))) (h2 : ∀ z, ¬ z = S.2.2 (10 + i) → A1 z = A z) : sI G b h (btU S i g) A1 := by
  obtain ⟨w, rl, x, rs⟩ := hS
  have hl := w.hd
  have hb := hl.2.2.2 i hi
  have e : ∀ z, ¬ z = S.2.2 (10 + i) → rsH (b + 46) A1 z = rsH (b + 46) A z := fun z hz => by
    unfold rsH
    split
    · exact h2 z hz
    · rfl
  refine ⟨w.btU x hi ((rsH_y hb).trans h1) e, ?_, x, rs.1, fun r hr => ?_⟩
  · exact rulH_c (S := S) (T := btU S i g) rfl (btU_n (by omega)) (rl.up w x.1 (fun z hz => e z (hz i hi)))
  · rw [btU_n (by omega)]; exact rs.2 r hr
/-- who is out is written -/
theorem sI.out (hS : sI G b h S A) {g : Nat → Int32} (h1 : A1 (h + 5) = some (.inl (2, 12, .inl g))) (h2 : ∀ z, ¬ z = h + 5 → A1 z = A z) : sI G b h (S.1, va_up S.2.1 6 g, S.2.2) A1 := by
  obtain ⟨w, rl, x, rs⟩ := hS
  have hl := w.hd
  have e : ∀ z, ¬ z = h + 5 → rsH (b + 46) A1 z = rsH (b + 46) A z := fun z hz => by
    unfold rsH
    split
    · exact h2 z hz
    · rfl
  have hq : ∀ q, ¬ q = 6 → (va_up S.2.1 6 g) q = S.2.1 q := fun q hn => by simp [va_up, hn]
  have hk : ∀ z c, rsH (b + 46) A z = some c → (∀ f, ¬ c = .inl (2, 12, .inl f)) → rsH (b + 46) A1 z = some c := fun z c hz hc => by
    have : ¬ z = h + 5 := fun y => by
      have z2 := w.2.2.2.1
      rw [y] at hz
      rw [hz] at z2
      exact hc _ (Option.some.inj z2)
    rw [e z this]; exact hz
  obtain ⟨h1', h2', h3', h4', ⟨f, h5', h6'⟩, h7', h8'⟩ := w
  refine ⟨⟨hk _ _ h1' (fun f z => nomatch z), ?_, ?_, ?_, ⟨f, hk _ _ h5' (fun f z => nomatch z), h6'⟩, fun i hi => ?_, ?_⟩, ?_, ⟨x.1, x.2.1, x.2.2⟩, rs.1, fun r hr => ?_⟩
  · show rsH (b + 46) A1 (h + 1) = some (.inl (0, 12, .inl (va_up S.2.1 6 g 1)))
    rw [hq 1 (by omega)]; exact hk _ _ h2' (fun f z => by have z2 := congrArg (fun e : va_E => match e with | .inl q => q.1 | _ => 0) z; exact absurd z2 (by decide : ¬ (0 : Nat) = 2))
  · show rsH (b + 46) A1 (h + 2) = some (.inl (0, 3, .inl (va_up S.2.1 6 g 2)))
    rw [hq 2 (by omega)]; exact hk _ _ h3' (fun f z => nomatch z)
  · have eg : va_up S.2.1 6 g 6 = g := by simp [va_up]
    show rsH (b + 46) A1 (h + 5) = some (.inl (2, 12, .inl (va_up S.2.1 6 g 6)))
    rw [eg]; exact (rsH_y (by have := hl.1; omega)).trans h1
  · show rsH (b + 46) A1 (S.2.2 (10 + i)) = some (.inl (0, 5, .inl (va_up S.2.1 6 g (10 + i))))
    rw [hq (10 + i) (by omega)]; exact hk _ _ (h7' i hi) (fun f z => nomatch z)
  · show rsH (b + 46) A1 (S.2.2 2) = some (.inl (0, S.2.2 3, .inl (va_up S.2.1 6 g 8)))
    rw [hq 8 (by omega)]; exact hk _ _ h8' (fun f z => by have z2 := congrArg (fun e : va_E => match e with | .inl q => q.1 | _ => 0) z; exact absurd z2 (by decide : ¬ (0 : Nat) = 2))
  · obtain ⟨g1, f, g2, g3⟩ := rl
    refine ⟨?_, f, hk _ _ g2 (fun f z => nomatch z), fun i hi => ?_⟩
    · show rsH (b + 46) A1 (S.2.2 4) = some (.inl (0, S.2.2 6, .inl (va_up S.2.1 6 g 3)))
      rw [hq 3 (by omega)]; exact hk _ _ g1 (fun f z => by have z2 := congrArg (fun e : va_E => match e with | .inl q => q.1 | _ => 0) z; exact absurd z2 (by decide : ¬ (0 : Nat) = 2))
    · rcases g3 i hi with z | ⟨t, v, a1, a2, a3, a4⟩
      · exact Or.inl z
      · exact Or.inr ⟨t, v, a1, a2, a3.up 4 v t (fun z c hz => (hk z _ hz (fun f y => nomatch y)).trans hz.symm), a4⟩
  · show va_up S.2.1 6 g 3 r = _
    rw [hq 3 (by omega)]; exact rs.2 r hr
/-- behind tellAll -/
theorem sI.tl (hS : sI G b h S A) (hw : simW h (tlS S (tsV G) (S.2.2 1)) A1) (u : ∀ z, (∀ i, i < S.2.2 1 → ¬ z = S.2.2 (10 + i)) → A1 z = A z) : sI G b h (tlS S (tsV G) (S.2.2 1)) A1 ∧ ∀ z, z < b + 46 → A1 z = A z := by
  obtain ⟨w, rl, x, rs⟩ := hS
  obtain ⟨t1, t2, t3, t4⟩ := tlS_1 (S := S) (tt := tsV G) (S.2.2 1)
  have hl := w.hd
  have e : ∀ z, (∀ i, i < S.2.2 1 → ¬ z = S.2.2 (10 + i)) → rsH (b + 46) A1 z = rsH (b + 46) A z := fun z hz => by
    unfold rsH
    split
    · exact u z hz
    · rfl
  refine ⟨⟨hw.rs ?_, rulH_c t2 (t3 3 (by omega)) (rl.up w x.1 e), ?_, ?_, fun r hr => ?_⟩, fun z hz => u z (fun i hi y => ?_)⟩
  · unfold hdL; rw [t2]; exact hl
  · unfold simX; rw [t2]; exact x
  · rw [t2]; exact rs.1
  · rw [t3 3 (by omega)]; exact rs.2 r hr
  · have := hl.2.2.2 i hi; omega
/-- behind pair -/
theorem sI.pr (hS : sI G b h S A) {m k : Nat} {f : Nat → Int32} (lt : ∀ z c, A z = some c → z < n) (hw : simW h S' A1) (hx : simX S') (h0 : S'.2.2 0 = S.2.2 0 ∨ n ≤ S'.2.2 0) (h2 : n ≤ S'.2.2 2) (hn : ∀ i, S.2.2 1 ≤ i → i < S'.2.2 1 → n ≤ S'.2.2 (10 + i)) (hp : prS S S' f m k) (u : ∀ z, z < n → ¬ z = h → A1 z = A z) : sI G b h S' A1 ∧ ∀ z, z < b + 46 → A1 z = A z := by
  have hlt := lt _ _ hS.W.1
  obtain ⟨w, rl, x, rs⟩ := hS
  have hl := w.hd
  obtain ⟨q0, q5, q8, q4, q44, q6, q1, qo, qn, q3, qr, ql⟩ := hp
  have e : ∀ z c, rsH (b + 46) A z = some c → (∀ f, ¬ c = .inr (6, f)) → rsH (b + 46) A1 z = some c := fun z c hz hc => by
    obtain ⟨a1, a2⟩ := rsH_s hz
    have : ¬ z = h := fun y => by
      have z2 := w.1
      rw [y] at hz
      rw [hz] at z2
      exact hc _ (Option.some.inj z2)
    rw [rsH_y a1, u z (lt z c a2) this]; exact a2
  refine ⟨⟨hw.rs ⟨hl.1, ?_, by have := hl.1; omega, fun i hi => ?_⟩, ?_, hx, by rw [q6]; exact rs.1, fun r hr => by rw [q8 3 (by omega)]; exact rs.2 r hr⟩, fun z hz => u z (by have := hl.1; omega) (by have := hl.1; omega)⟩
  · rcases h0 with y | y
    · rw [y]; exact hl.2.1
    · have := hl.1; omega
  · by_cases c : i < S.2.2 1
    · rw [(qo i c).2]; exact hl.2.2.2 i c
    · have := hn i (by omega) hi
      have := hl.1; omega
  · obtain ⟨g1, f, g2, g3⟩ := rl
    unfold rulH
    rw [q4, q44, q6, q8 3 (by omega)]
    refine ⟨e _ _ g1 (fun f z => nomatch z), f, e _ _ g2 (fun f z => nomatch z), fun i hi => ?_⟩
    rcases g3 i hi with z | ⟨t, v, a1, a2, a3, a4⟩
    · exact Or.inl z
    · exact Or.inr ⟨t, v, a1, a2, a3.up 4 v t (fun z c hz => (e z _ hz (fun f y => by simp at y)).trans hz.symm), a4⟩
/-! bounds -/
theorem tiS.bd (hT : tiS S F (nwV G) nb r) : S.2.2 1 ≤ 60 ∧ S.2.2 3 ≤ 20 ∧ r ≤ 20 ∧ nb ≤ 6 := by
  obtain ⟨⟨-, -, s3, -, -⟩, hok, -, ⟨-, b2, -, -⟩, -⟩ := hT
  have h1 := hok.2.2.1.2
  have h2 := hok.2.1.2
  omega
theorem tiS.n1 (hT : tiS S F (nwV G) nb r) : S.2.2 1 < 1000 := by have := hT.bd; omega
theorem tiS.n3 (hT : tiS S F (nwV G) nb r) : S.2.2 3 < 1000 := by have := hT.bd; omega
/-! answers -/
theorem okW_n (hT : tiS S F (nwV G) nb r) {w : Nat} (hw : w < nwV G) : okW F (nI w) ∧ wi (nI w) = w := by
  have h6 := nwV_lt (G := G)
  obtain ⟨-, hok, -⟩ := hT
  refine ⟨⟨?_, ?_⟩, wi_nI (by omega)⟩
  · rw [i_lt, i_n (by omega), i_0]; omega
  · rw [hok.1.1, i_lt, i_n (by omega), i_n (by omega)]; omega
theorem okB_n (hT : tiS S F (nwV G) nb r) {q : Nat} (hq : q < nb) : okB F (nI q) ∧ wi (nI q) = q := by
  have h6 := hT.bd
  obtain ⟨-, hok, -⟩ := hT
  refine ⟨⟨?_, ?_⟩, wi_nI (by omega)⟩
  · rw [i_lt, i_n (by omega), i_0]; omega
  · rw [hok.2.1.1, i_lt, i_n (by omega), i_n (by omega)]; omega
theorem an_of (hT : tiS S F (nwV G) nb r) {c w : Nat} (hw : w < nwV G) : aOf c F (nI w) = (0, F.2 2 (c * 12 + w)) := by
  obtain ⟨h1, h2⟩ := okW_n hT hw
  unfold aOf; rw [if_pos h1, h2]
theorem an_rpt (hT : tiS S F (nwV G) nb r) {w : Nat} (hw : w < nwV G) : aRpt (nwV G) F (nI w) = (0, rpts F (nwV G) w) := by
  obtain ⟨h1, h2⟩ := okW_n hT hw
  unfold aRpt; rw [if_pos h1, h2]
theorem an_rnk (hT : tiS S F (nwV G) nb r) {w : Nat} (hw : w < nwV G) : aRnk (nwV G) F (nI w) = (0, nI (rkN (f_R F (nwV G)) (nwV G) w)) := by
  obtain ⟨h1, h2⟩ := okW_n hT hw
  unfold aRnk; rw [if_pos h1, h2]
theorem an_in (hT : tiS S F (nwV G) nb r) {w : Nat} (hw : w < nwV G) : aIn F (nI w) = (0, xx_b (¬ F.2 2 (8 * 12 + w) = 0)) := by
  obtain ⟨h1, h2⟩ := okW_n hT hw
  unfold aIn; rw [if_pos h1, h2]
theorem an_at (hT : tiS S F (nwV G) nb r) {w : Nat} (hw : w < nwV G) : aAt (nwV G) F (nI w) = (0, nI ((lsF F (nwV G)).getD w 0)) := by
  obtain ⟨h1, h2⟩ := okW_n hT hw
  unfold aAt; rw [if_pos h1, h2]
theorem an_met (hT : tiS S F (nwV G) nb r) {w v : Nat} (hw : w < nwV G) (hv : v < nwV G) : aMet F (nI w) (nI v) = (0, F.2 3 (w * 12 + v)) := by
  obtain ⟨h1, h2⟩ := okW_n hT hw
  obtain ⟨g1, g2⟩ := okW_n hT hv
  unfold aMet; rw [if_pos h1, if_pos g1, h2, g2]
theorem an_red (hT : tiS S F (nwV G) nb r) {q : Nat} (hq : q < nb) : aRed F (nI q) = (0, F.2 4 q) := by
  obtain ⟨h1, h2⟩ := okB_n hT hq
  unfold aRed; rw [if_pos h1, h2]
theorem an_blu (hT : tiS S F (nwV G) nb r) {q : Nat} (hq : q < nb) : aBlu F (nI q) = (0, F.2 5 q) := by
  obtain ⟨h1, h2⟩ := okB_n hT hq
  unfold aBlu; rw [if_pos h1, h2]
theorem an_out (hT : tiS S F (nwV G) nb r) {q : Nat} (hq : q < nb) (ho : ¬ F.2 6 q = -1) : aOut F (nI q) = (0, F.2 6 q) := by
  obtain ⟨h1, h2⟩ := okB_n hT hq
  unfold aOut; rw [if_pos h1, h2, if_neg ho]
theorem an_rul (hT : tiS S F (nwV G) nb r) {q a c : Nat} (hq : q < nb) (h4 : F.2 4 q = nI a) (h5 : F.2 5 q = nI c) (ha : a < nwV G) (hc : c < nwV G) : aRul (ruG G) F (nI q) = (0, ruG G F a c) := by
  obtain ⟨h1, h2⟩ := okB_n hT hq
  have h6 := nwV_lt (G := G)
  unfold aRul; rw [if_pos h1, h2, h4, h5, wi_nI (show a < 1000 by omega), wi_nI (show c < 1000 by omega)]
theorem tiS.bt2 (hT : tiS S F (nwV G) nb r) {q : Nat} (hq : q < nb) : ∃ a c, F.2 4 q = nI a ∧ a < nwV G ∧ F.2 5 q = nI c ∧ c < nwV G ∧ ¬ a = c := hT.2.1.2.2.2.2.2.2.1 q hq
/-- a row of bouts: whom each one meets -/
theorem riv_at {f g : Nat → Int32} {w : Int32} {x : Nat} : ∀ d y, y ≤ x → x < y + d → (∀ z, y ≤ z → z < x → ¬ f z = w ∧ ¬ g z = w) → (f x = w ∨ (¬ f x = w ∧ g x = w)) → rivAt f g w d y = if f x = w then g x else f x := by
  intro d
  induction d with
  | zero => intro y h1 h2; omega
  | succ d ih =>
    intro y h1 h2 h3 h4
    show (if f y = w then g y else if g y = w then f y else rivAt f g w d (y + 1)) = _
    by_cases c : y = x
    · subst c
      rcases h4 with z | ⟨z1, z2⟩
      · rw [if_pos z, if_pos z]
      · rw [if_neg z1, if_pos z2, if_neg z1]
    · obtain ⟨z1, z2⟩ := h3 y (Nat.le_refl _) (by omega)
      rw [if_neg z1, if_neg z2]
      exact ih (y + 1) (by omega) (by omega) (fun z a1 a2 => h3 z (by omega) a2) h4
theorem nI_m1 {a : Nat} (ha : a < 2 ^ 31) : ¬ nI a = -1 := fun z => by
  have := congrArg Int32.toInt z
  rw [i_n ha, show (-1 : Int32).toInt = -1 from rfl] at this
  omega
theorem an_opp (hT : tiS S F (nwV G) nb r) {q : Nat} (hq : q < nb) : aOpp nb F (F.2 4 q) = (0, F.2 5 q) ∧ aOpp nb F (F.2 5 q) = (0, F.2 4 q) := by
  obtain ⟨a, c, h4, ha, h5, hc, hac⟩ := hT.bt2 hq
  have h6 := nwV_lt (G := G)
  obtain ⟨o1, -⟩ := okW_n hT ha
  obtain ⟨o2, -⟩ := okW_n hT hc
  have hl := hT.2.2.2.2.2.1
  have n1 : ∀ z, 0 ≤ z → z < q → ¬ F.2 4 z = F.2 4 q ∧ ¬ F.2 5 z = F.2 4 q := fun z _ hz => by
    have z1 := hl z q (by omega) hq (by omega)
    have z2 := hl q z hq (by omega) (by omega)
    exact ⟨z1.1, fun y => z2.2.1 y.symm⟩
  have n2 : ∀ z, 0 ≤ z → z < q → ¬ F.2 4 z = F.2 5 q ∧ ¬ F.2 5 z = F.2 5 q := fun z _ hz => by
    have z1 := hl z q (by omega) hq (by omega)
    exact ⟨z1.2.1, z1.2.2⟩
  have hne : ¬ F.2 4 q = F.2 5 q := by rw [h4, h5, nI_ij (by omega) (by omega)]; exact hac
  have r1 := riv_at (f := F.2 4) (g := F.2 5) (w := F.2 4 q) (x := q) nb 0 (Nat.zero_le _) (by omega) n1 (Or.inl rfl)
  have r2 := riv_at (f := F.2 4) (g := F.2 5) (w := F.2 5 q) (x := q) nb 0 (Nat.zero_le _) (by omega) n2 (Or.inr ⟨hne, rfl⟩)
  rw [if_pos rfl] at r1
  rw [if_neg hne] at r2
  unfold aOpp
  rw [r1, r2]
  refine ⟨?_, ?_⟩
  · rw [h4, if_pos o1, h5, if_neg (nI_m1 (by omega))]
  · rw [h5, if_pos o2, h4, if_neg (nI_m1 (by omega))]
/-! calls that don't throw -/
theorem lw_q {ex : Int32 → String} {a : Ans} {v : Int32} (hC : cI G b F nb r A) (ha : a = (0, v)) : ∀ r' A1 n1, xQ ex a n (fun A' => gI b (ruG G) (nrV G) (nwV G) nb r F A' ∧ xx_same (b + 16) (b + 46) A A') r' A1 n1 → r' = .inl (some (.int v)) ∧ n1 = n ∧ (cI G b F nb r A1 ∧ xx_same (b + 16) (b + 46) A A1) := fun r' A1 n1 hq => by
  obtain ⟨h1, h2, h3, h4⟩ := hq
  rw [ha, ansR_0] at h2
  exact ⟨h2, h1, hC.cl h3 h4, h4⟩
section
variable {M : xx_M} {fr lo mc ms : Nat} {Post : xx_Q} {pc : Nat} {L : List (Nat × Value)} {SS : List Value}
/-- a call that may write, and may make things only if it throws, which it doesn't -/
theorem J_callVz {y : MethodName} {M' : xx_M} {na idx fr' lo' mc' ms' h ci : Nat} {fs : List Value} {T : u_T} {N : Nat} {As : List Value} {Post' : xx_Q} {v : Option Value} {Q : xx_H → Prop} (hd : decode M.2.2.1 pc = .ok (.invokevirtual idx, 3)) (hl : Cond.methodLink M.1 idx y ∈ xx_T) (hc : xx_Cal y M' na) (hi : Cond.instanceMethod y ∈ xx_T) (hs : Cond.selects y.cls y y ∈ xx_T) (hA : A h = some (.inr (ci, fs))) (hcl : vwCl[ci]? = some (y.cls, T, N)) (hh : M'.2.2.2.2.2 = [])
    (hn : As.length = na) (hS : (SS.map fun v => v.category).sum ≤ 8) (hR : fr' + 1 ≤ fr ∧ 8 + (M'.2.2.2.1 + 11) + lo' ≤ lo) (hf : k + mc' ≤ mc ∧ j + ms' ≤ ms) (hC : xx_C G l y M' fr' lo' mc' ms' (.ref h :: As) A n Post') (hP : ∀ r' A1 n1, Post' r' A1 n1 → r' = .inl v ∧ n1 = n ∧ Q A1)
    (kk : ∀ A1, Q A1 → xx_J G l M fr lo mc ms Post (pc + 3) L (v.toList ++ SS) A1 n (k + mc') (j + ms')) : xx_J G l M fr lo mc ms Post pc L (As.reverse ++ .ref h :: SS) A n k j := by
  refine J_callV hd hl hc hi hs hA hcl hh hn hS hR hf hC (fun E A' n' _ hq => ?_) (fun v' A' n' _ hq => ?_)
  · obtain ⟨z, -⟩ := hP _ _ _ hq
    cases z
  · obtain ⟨z, z2, hq2⟩ := hP _ _ _ hq
    subst z2
    cases z
    exact kk A' hq2
end
/-! what is read of the whole -/
theorem cI.fld (hC : cI G b F nb r A) : ∃ R F0, xx_w (b + 16) (layR (b + 16) R) A ∧ xx_w (b + 22) (layF (b + 22) F0) A ∧ eqF (nwV G) nb F0 F ∧ okF F0 (nwV G) nb r ∧ R.1 0 = nI (nrV G) := by
  obtain ⟨hX, ⟨R, F0, F2, PS, g1, g2, g3, g4, ⟨en, mt, g5, g5b, g5c⟩, g6, g7⟩, -⟩ := hC
  exact ⟨R, F0, g1, g2, g6, g7, g5b.1⟩
theorem k_wrs (hst : l.stackTraces = false) (hC : cI G b F nb r A) : xx_C G l yX6_wrestlers mX6_wrestlers 0 0 0 0 [.ref b] A n (xx_ro (some (.int (nI (nwV G)))) A n) := by
  obtain ⟨R, F0, h1, h2, h3, h4, h5⟩ := hC.fld
  rw [← h4.1.1]
  exact c_X6_wrestlers hst hC.1 h2 h1 h4.1.1 h4.1.2 h4.2.1.1 h4.2.1.2
theorem k_rules (hst : l.stackTraces = false) (hC : cI G b F nb r A) : xx_C G l yX6_rules mX6_rules 0 0 0 0 [.ref b] A n (xx_ro (some (.int (nI (nrV G)))) A n) := by
  obtain ⟨R, F0, h1, h2, h3, h4, h5⟩ := hC.fld
  rw [← h5]
  exact c_X6_rules hst hC.1 h2 h1 h4.1.1 h4.1.2 h4.2.1.1 h4.2.1.2
theorem k_rounds (hst : l.stackTraces = false) (hC : cI G b F nb r A) : xx_C G l yX6_rounds mX6_rounds 0 0 0 0 [.ref b] A n (xx_ro (some (.int (nI r))) A n) := by
  obtain ⟨R, F0, h1, h2, h3, h4, h5⟩ := hC.fld
  rw [← h4.2.2.1.1]
  exact c_X6_rounds hst hC.1 h2 h1 h4.1.1 h4.1.2 h4.2.1.1 h4.2.1.2
theorem k_bouts (hst : l.stackTraces = false) (hC : cI G b F nb r A) : xx_C G l yX6_bouts mX6_bouts 0 0 0 0 [.ref b] A n (xx_ro (some (.int (nI nb))) A n) := by
  obtain ⟨R, F0, h1, h2, h3, h4, h5⟩ := hC.fld
  rw [← h4.2.1.1]
  exact c_X6_bouts hst hC.1 h2 h1 h4.1.1 h4.1.2 h4.2.1.1 h4.2.1.2
theorem k_in (hst : l.stackTraces = false) (hC : cI G b F nb r A) : xx_C G l yX6_wrestlersIn mX6_wrestlersIn 3 66 0 0 [.ref b] A n (xx_ro (some (.int (bx_sum (fun w => F.2 2 (8 * 12 + w)) (nwV G)))) A n) := by
  obtain ⟨R, F0, h1, h2, h3, h4, h5⟩ := hC.fld
  rw [← h3.sum (c := 8) (by omega)]
  exact c_X6_wrestlersIn hst hC.1 h2 h1 h4.1.1 h4.1.2 h4.2.1.1 h4.2.1.2
theorem k_open (hst : l.stackTraces = false) (hC : cI G b F nb r A) : xx_C G l yX6_openBouts mX6_openBouts 3 64 0 0 [.ref b] A n (xx_ro (some (.int (bx_sum (opn (F.2 6)) nb))) A n) := by
  obtain ⟨R, F0, h1, h2, h3, h4, h5⟩ := hC.fld
  rw [← op_c h3]
  exact c_X6_openBouts hst hC.1 h2 h1 h4.1.1 h4.1.2 h4.2.1.1 h4.2.1.2
theorem k_mean (hst : l.stackTraces = false) (hC : cI G b F nb r A) : xx_C G l yX6_meanPoints mX6_meanPoints 2 44 0 0 [.ref b] A n (xx_ro (some (.double (mnD F (nwV G)))) A n) := by
  obtain ⟨R, F0, h1, h2, h3, h4, h5⟩ := hC.fld
  rw [← mnD_c h3]
  exact c_X6_meanPoints hst hC.1 h2 h4.1.1 h4.1.2
theorem k_digest (hst : l.stackTraces = false) (hC : cI G b F nb r A) : xx_C G l yX6_digest mX6_digest 4 93 0 0 [.ref b] A n (dgX b n (ruG G) (nrV G) (nwV G) nb r 0 F A) := by
  obtain ⟨D, T, R0, sg, hR, hT⟩ := hC.2.2
  exact c_X6_digest hst hC.1 hC.2.1 hR.2.1 hT
theorem lw_d (hC : cI G b F nb r A) : ∀ r' A1 n1, dgX b n (ruG G) (nrV G) (nwV G) nb r 0 F A r' A1 n1 → r' = .inl (some (.long (dgA F (nwV G) nb (nrV G) 0))) ∧ n1 = n ∧ (cI G b F nb r A1 ∧ xx_same (b + 16) (b + 46) A A1) := fun r' A1 n1 hq => by
  obtain ⟨h1, h2, h3, h4⟩ := hq
  exact ⟨h2, h1, hC.cl h3 h4, h4⟩
end XLI
