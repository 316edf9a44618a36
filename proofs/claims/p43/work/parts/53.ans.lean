/-! WHAT THE CALLS ANSWER: (kind of throw, value), over a Field -/
section XAN
variable {F F' : xS} {nw nb r : Nat} {w : Int32}
abbrev okW (F : xS) (w : Int32) : Prop := ¬ w < 0 ∧ w < F.1 0
abbrev okB (F : xS) (w : Int32) : Prop := ¬ w < 0 ∧ w < F.1 5
abbrev Ans : Type := Int32 × Int32
abbrev wi (w : Int32) : Nat := w.toNatClampNeg
theorem wi_of {x : Int32} {m : Nat} (hx : x = nI m) (hm : m < 2147483648) (h0 : ¬ w < 0) (h1 : w < x) : w = nI (wi w) ∧ wi w < m := by
  have e0 : (0 : Int32).toInt = 0 := rfl
  have ex : x.toInt = m := by rw [hx]; exact i_n hm
  rw [Int32.lt_iff_toInt_lt] at h0 h1
  have hw : (wi w : Int) = w.toInt := by
    show ((w.toInt.toNat : Nat) : Int) = _
    omega
  refine ⟨?_, by omega⟩
  apply Int32.toInt_inj.mp
  rw [i_n (by omega)]
  exact hw.symm
theorem okW.i (h : okW F w) (hn : F.1 0 = nI nw) (h12 : nw ≤ 12) : w = nI (wi w) ∧ wi w < nw := wi_of hn (by omega) h.1 h.2
theorem okB.i (h : okB F w) (hn : F.1 5 = nI nb) (h6 : nb ≤ 6) : w = nI (wi w) ∧ wi w < nb := wi_of hn (by omega) h.1 h.2
theorem eqF.oW (h : eqF nw nb F F') : okW F w ↔ okW F' w := by unfold okW; rw [h.1.1]
theorem eqF.oB (h : eqF nw nb F F') : okB F w ↔ okB F' w := by unfold okB; rw [h.1.2.2.1]
def aOf (c : Nat) (F : xS) (w : Int32) : Ans := if okW F w then (0, F.2 2 (c * 12 + wi w)) else (1, 0)
def aRpt (nw : Nat) (F : xS) (w : Int32) : Ans := if okW F w then (0, rpts F nw (wi w)) else (1, 0)
def aRnk (nw : Nat) (F : xS) (w : Int32) : Ans := if okW F w then (0, nI (rkN (f_R F nw) nw (wi w))) else (1, 0)
def aIn (F : xS) (w : Int32) : Ans := if okW F w then (0, xx_b (¬ F.2 2 (8 * 12 + wi w) = 0)) else (1, 0)
noncomputable def aAt (nw : Nat) (F : xS) (w : Int32) : Ans := if okW F w then (0, nI ((lsF F nw).getD (wi w) 0)) else (1, 0)
def aMet (F : xS) (a b : Int32) : Ans := if okW F a then (if okW F b then (0, F.2 3 (wi a * 12 + wi b)) else (1, 0)) else (1, 0)
def aRed (F : xS) (b : Int32) : Ans := if okB F b then (0, F.2 4 (wi b)) else (1, 0)
def aBlu (F : xS) (b : Int32) : Ans := if okB F b then (0, F.2 5 (wi b)) else (1, 0)
def aOut (F : xS) (b : Int32) : Ans := if okB F b then (if F.2 6 (wi b) = -1 then (2, 0) else (0, F.2 6 (wi b))) else (1, 0)
def aRul (ru : xS → Nat → Nat → Int32) (F : xS) (b : Int32) : Ans := if okB F b then (0, ru F (wi (F.2 4 (wi b))) (wi (F.2 5 (wi b)))) else (1, 0)
def aOpp (nb : Nat) (F : xS) (w : Int32) : Ans := if okW F w then (if rivAt (F.2 4) (F.2 5) w nb 0 = -1 then (2, 0) else (0, rivAt (F.2 4) (F.2 5) w nb 0)) else (1, 0)
def aRst (F : xS) : Ans := if F.1 9 = -1 then (1, 0) else (0, F.1 9)
noncomputable def aPair (nw nb : Nat) (F : xS) : Ans := if canB F nw nb = true then (0, nI (npF F nw)) else (1, 0)
noncomputable def sPair (nw nb : Nat) (F : xS) : xS := if canB F nw nb = true then roundF F nw else F
noncomputable def nPair (nw nb : Nat) (F : xS) : Nat := if canB F nw nb = true then npF F nw else nb
abbrev tlB (F : xS) (b v : Int32) : xS := tellF F (wi b) (wi (F.2 4 (wi b))) (wi (F.2 5 (wi b))) v
def aTell (nb : Nat) (F : xS) (b v : Int32) : Ans := if okB F b then (if 0 ≤ v ∧ v ≤ 2 then (if F.2 6 (wi b) = -1 then (0, bx_sum (opn ((tlB F b v).2 6)) nb) else (3, 0)) else (2, 0)) else (1, 0)
def sTell (F : xS) (b v : Int32) : xS := if okB F b then (if 0 ≤ v ∧ v ≤ 2 then (if F.2 6 (wi b) = -1 then tlB F b v else F) else F) else F
def aTBR (ru : xS → Nat → Nat → Int32) (nb : Nat) (F : xS) : Ans := if bx_sum (opn (F.2 6)) nb = 0 then (1, 0) else (0, (tlP ru nb 0 F 0).2)
def sTBR (ru : xS → Nat → Nat → Int32) (nb : Nat) (F : xS) : xS := if bx_sum (opn (F.2 6)) nb = 0 then F else (tlP ru nb 0 F 0).1
abbrev tuF (F : xS) (w : Int32) : xS := a_up F 2 (upd (F.2 2) (8 * 12 + wi w) (1 - F.2 2 (8 * 12 + wi w)))
def aTurn (F : xS) (w : Int32) : Ans := if okW F w then (0, xx_b (¬ 1 - F.2 2 (8 * 12 + wi w) = 0)) else (1, 0)
def sTurn (F : xS) (w : Int32) : xS := if okW F w then tuF F w else F
noncomputable def rivN (F : xS) (nw : Nat) (w : Int32) : Int32 := rivP (fun q => nI (p1F F nw q)) (fun q => nI (p2F F nw q)) w (npF F nw) 0
noncomputable def aNxt (nw nb : Nat) (F : xS) (w : Int32) : Ans := if okW F w then (if canB F nw nb = true then (if rivN F nw w = -1 then (2, 0) else (0, rivN F nw w)) else (2, 0)) else (1, 0)
/-- how many of the pairs below d have met -/
def rmN (F : xS) (f g : Nat → Nat) : Nat → Int32
  | 0 => 0
  | d + 1 => rmN F f g d + (if F.2 3 (f d * 12 + g d) > 0 then 1 else 0)
noncomputable def aRem (nw nb : Nat) (F : xS) : Ans := if canB F nw nb = true then (0, rmN F (p1F F nw) (p2F F nw) (npF F nw)) else (1, 0)
noncomputable abbrev gaF (ru : xS → Nat → Nat → Int32) (nw nb m : Nat) (F : xS) : xS := (gaP ru nw m (tlP ru nb 0 F 0).1 nb).1
noncomputable def aLead (ru : xS → Nat → Nat → Int32) (nw nb : Nat) (F : xS) (m : Int32) : Ans := if 1 ≤ m ∧ m ≤ 10 then (if F.1 0 = 0 then (2, 0) else (0, nI ((lsF (gaF ru nw nb (wi m) F) nw).getD 0 0))) else (1, 0)
noncomputable def aPtA (ru : xS → Nat → Nat → Int32) (nw nb : Nat) (F : xS) (w m : Int32) : Ans := if okW F w then (if 1 ≤ m ∧ m ≤ 10 then (0, (gaF ru nw nb (wi m) F).2 2 (1 * 12 + wi w)) else (2, 0)) else (1, 0)
end XAN
