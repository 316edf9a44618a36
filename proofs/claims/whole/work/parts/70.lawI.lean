/-! THE LAW: what holds between its calls -/
section XLI
variable {G : xx_G} {l : Launch} {A A' A1 : xx_H} {n b bm bp bn ba ho : Nat} {F FF R PS T D R0 M M' P S S1 : xS} {nw nb r cr len : Nat} {ru : xS → Nat → Nat → Int32} {sg : Nat → Option Nat} {vL nl : Nat → Int64} {eA w v : Int32}
theorem xx_w.f9 {c m : Nat} {cs : List (Nat × va_E)} (h : xx_w c cs A) (o : ∀ z, c ≤ z → z < c + m → A' z = A z) (hb : (cs.map Prod.fst).all (fun z => decide (z < m)) = true) : xx_w c cs A' := fun i z e he => by
  have hz := of_decide_eq_true (List.all_eq_true.mp hb z (List.mem_map.mpr ⟨_, List.mem_of_getElem? he, rfl⟩))
  rw [o _ (by omega) (by omega)]
  exact h i z e he
theorem gI.fr (h : gI b ru cr nw nb r FF A) (o : ∀ z, b + 16 ≤ z → z < b + 46 → A' z = A z) : gI b ru cr nw nb r FF A' := by
  obtain ⟨R, F, F2, PS, h1, h2, h3, h4, h5⟩ := h
  exact ⟨R, F, F2, PS, h1.f9 (m := 6) (fun z a c => o z (by omega) (by omega)) rfl, h2.f9 (m := 9) (fun z a c => o z (by omega) (by omega)) rfl, h3.f9 (m := 9) (fun z a c => o z (by omega) (by omega)) rfl, h4.f9 (m := 6) (fun z a c => o z (by omega) (by omega)) rfl, h5⟩
theorem gI.ok (h : gI b ru cr nw nb r FF A) : okF FF nw nb r := by
  obtain ⟨R, F, F2, PS, h1, h2, h3, h4, h5, h6, h7⟩ := h
  exact h6.ok h7
theorem rdW.fr (h : rdW (b + 1) D T R0 sg A) (o : ∀ z, b + 1 ≤ z → z < b + 16 → A' z = A z) : rdW (b + 1) D T R0 sg A' :=
  ⟨h.1.f9 (m := 15) (fun z a c => o z (by omega) (by omega)) rfl, h.2.1.f9 (m := 5) (fun z a c => o z (by omega) (by omega)) rfl, h.2.2.f9 (m := 6) (fun z a c => o z (by omega) (by omega)) rfl⟩
/-- the class's side -/
def cI (b : Nat) (T : xS) (eA : Int32) (ru : xS → Nat → Nat → Int32) (cr nw nb r : Nat) (FF : xS) (A : xx_H) : Prop := ∃ D R0 sg, xx_w b (layX b) A ∧ rdW (b + 1) D T R0 sg A ∧ D.1 8 = eA ∧ gI b ru cr nw nb r FF A
/-- the reference's side -/
def rI (bm bp bn : Nat) (T : xS) (len : Nat) (eA : Int32) (S P : xS) (A : xx_H) : Prop := ∃ M vL nl S1, xx_w bm (layM bp vL bn (bm + 29) bm M) A ∧ xx_w bp (layN nl bp P) A ∧ xx_w bn (layS bn S) A ∧ xx_w (bm + 29) (layS (bm + 29) S1) A ∧ tpR M T len ∧ T.1 1 = nI len ∧ M.1 3 = eA
/-- what holds of the two, heap or no heap -/
def sI (ru : xS → Nat → Nat → Int32) (cr nw nb r : Nat) (S P : xS) : Prop := okF (fS S P) nw nb r ∧ plV P cr ∧ (∀ S i j, i < nw → j < nw → outR S P i j cr 0 = ru (fS S P) i j) ∧ (∀ F i j, ru F i j = 0 ∨ ru F i j = 1 ∨ ru F i j = 2) ∧ (∀ nb F F' i j, eqF nw nb F F' → i < nw → j < nw → ru F i j = ru F' i j) ∧ ∀ i, i < 12 → S.2 9 i = 0 ∨ S.2 9 i = 1
/-- where things lie -/
def pI (bm bp bn n : Nat) : Prop := apR bm bp bn ∧ apR bm bp (bm + 29) ∧ (bn + 14 ≤ bm + 29 ∨ bm + 29 + 14 ≤ bn) ∧ (bp = bm + 2 ∨ bm + 49 ≤ bp) ∧ (bn = bm + 15 ∨ bm + 49 ≤ bn) ∧ bp + 9 ≤ n ∧ bn + 14 ≤ n ∧ bm + 49 ≤ n
def lwI (b bm ho n : Nat) (A : xx_H) : Prop := ∃ T len eA ru cr nw nb r S P bp bn f, cI b T eA ru cr nw nb r (fS S P) A ∧ rI bm bp bn T len eA S P A ∧ xx_w ho [(0, .inl (3, 1, .inr (.inl f)))] A ∧ sI ru cr nw nb r S P ∧ pI bm bp bn n
theorem pI.up {n' : Nat} (h : pI bm bp bn n) (hn : n ≤ n') : pI bm bp bn n' := by
  obtain ⟨h1, h2, h3, h4, h5, h6, h7, h8⟩ := h
  exact ⟨h1, h2, h3, h4, h5, by omega, by omega, by omega⟩
/-- the kinds of throws -/
theorem k_Of {c : Nat} : (aOf c F w).1 = 0 ∨ (aOf c F w).1 = 1 := by unfold aOf; split <;> simp
theorem k_Rpt : (aRpt nw F w).1 = 0 ∨ (aRpt nw F w).1 = 1 := by unfold aRpt; split <;> simp
theorem k_Rnk : (aRnk nw F w).1 = 0 ∨ (aRnk nw F w).1 = 1 := by unfold aRnk; split <;> simp
theorem k_In : (aIn F w).1 = 0 ∨ (aIn F w).1 = 1 := by unfold aIn; split <;> simp
theorem z_In (_ : (aIn F w).1 = 0) : (aIn F w).2 = 0 ∨ (aIn F w).2 = 1 := by
  unfold aIn
  split
  · show xx_b _ = 0 ∨ xx_b _ = 1
    unfold xx_b
    split <;> simp
  · simp
theorem k_At : (aAt nw F w).1 = 0 ∨ (aAt nw F w).1 = 1 := by unfold aAt; split <;> simp
theorem k_Met : (aMet F w v).1 = 0 ∨ (aMet F w v).1 = 1 := by unfold aMet; split <;> (try split) <;> simp
theorem k_Red : (aRed F w).1 = 0 ∨ (aRed F w).1 = 1 := by unfold aRed; split <;> simp
theorem k_Blu : (aBlu F w).1 = 0 ∨ (aBlu F w).1 = 1 := by unfold aBlu; split <;> simp
theorem k_Out : (aOut F w).1 = 0 ∨ (aOut F w).1 = 1 ∨ (aOut F w).1 = 2 := by unfold aOut; split <;> (try split) <;> simp
theorem k_Rul : (aRul ru F w).1 = 0 ∨ (aRul ru F w).1 = 1 := by unfold aRul; split <;> simp
theorem k_Opp : (aOpp nb F w).1 = 0 ∨ (aOpp nb F w).1 = 1 ∨ (aOpp nb F w).1 = 2 := by unfold aOpp; split <;> (try split) <;> simp
theorem k_Rst : (aRst F).1 = 0 ∨ (aRst F).1 = 1 := by unfold aRst; split <;> simp
theorem k_Pair : (aPair nw nb F).1 = 0 ∨ (aPair nw nb F).1 = 1 := by unfold aPair; split <;> simp
theorem k_Tell : (aTell nb F w v).1 = 0 ∨ (aTell nb F w v).1 = 1 ∨ (aTell nb F w v).1 = 2 ∨ (aTell nb F w v).1 = 3 := by unfold aTell; split <;> (try split) <;> (try split) <;> simp
theorem k_TBR : (aTBR ru nb F).1 = 0 ∨ (aTBR ru nb F).1 = 1 := by unfold aTBR; split <;> simp
theorem k_Turn : (aTurn F w).1 = 0 ∨ (aTurn F w).1 = 1 := by unfold aTurn; split <;> simp
theorem z_Turn (_ : (aTurn F w).1 = 0) : (aTurn F w).2 = 0 ∨ (aTurn F w).2 = 1 := by
  unfold aTurn
  split
  · show xx_b _ = 0 ∨ xx_b _ = 1
    unfold xx_b
    split <;> simp
  · simp
theorem k_Nxt : (aNxt nw nb F w).1 = 0 ∨ (aNxt nw nb F w).1 = 1 ∨ (aNxt nw nb F w).1 = 2 := by unfold aNxt; split <;> (try split) <;> (try split) <;> simp
theorem k_Rem : (aRem nw nb F).1 = 0 ∨ (aRem nw nb F).1 = 1 := by unfold aRem; split <;> simp
theorem k_Lead : (aLead ru nw nb F w).1 = 0 ∨ (aLead ru nw nb F w).1 = 1 ∨ (aLead ru nw nb F w).1 = 2 := by unfold aLead; split <;> (try split) <;> simp
theorem k_PtA : (aPtA ru nw nb F w v).1 = 0 ∨ (aPtA ru nw nb F w v).1 = 1 ∨ (aPtA ru nw nb F w v).1 = 2 := by unfold aPtA; split <;> (try split) <;> simp
theorem k_Feed : (aFeed len).1 = 0 ∨ (aFeed len).1 = 1 := by unfold aFeed; split <;> simp
theorem k_Trim : (aTrim len w).1 = 0 ∨ (aTrim len w).1 = 1 := by unfold aTrim; split <;> simp
/-- the law's own data -/
abbrev mL_law : xx_M := (RL, "law", cL_law, 9, some .boolean, [])
end XLI
