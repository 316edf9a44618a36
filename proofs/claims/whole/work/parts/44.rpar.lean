/-! THE REFERENCE: what a parser leaves behind -/
section XSE
variable {G : xx_G} {l : Launch} {A A' : xx_H} {n : Nat} {bm bp bs bn ba : Nat} {vL nl : Nat → Int64} {M M' M1 P S : xS} {T : xS} {len i j k q s e t d nt tok v : Nat} {tk : Nat → Nat}
/-- the Model at token k and depth d -/
def paM (M : xS) (k d : Nat) : xS := s_up (s_up M 9 (nI k)) 10 (nI d)
theorem pa_up {k2 : Nat} {x : Int32} (hx : x = nI k2) : s_up (paM M k d) 9 x = paM M k2 d := by
  rw [hx]
  refine Prod.ext (funext fun q => ?_) rfl
  show va_up (va_up (va_up M.1 9 (nI k)) 10 (nI d)) 9 (nI k2) q = va_up (va_up M.1 9 (nI k2)) 10 (nI d) q
  simp only [va_up]
  by_cases h9 : q = 9
  · subst h9; simp
  · simp [h9]
theorem pd_up {d2 : Nat} {x : Int32} (hx : x = nI d2) : s_up (paM M k d) 10 x = paM M k d2 := by
  rw [hx]
  refine Prod.ext (funext fun q => ?_) rfl
  show va_up (va_up (va_up M.1 9 (nI k)) 10 (nI d)) 10 (nI d2) q = va_up (va_up M.1 9 (nI k)) 10 (nI d2) q
  simp only [va_up]
  by_cases h9 : q = 10
  · subst h9; simp
  · simp [h9]
theorem pa_9 : (paM M k d).1 9 = nI k := rfl
theorem pa_10 : (paM M k d).1 10 = nI d := rfl
theorem eaM_pt {c : Prop} [Decidable c] (h : c) : eaM (paM M k d) c = paM M (k + 1) d := (eaM_t h).trans (pa_up (nI_1 k))
theorem dpM_pt {c : Prop} [Decidable c] (h : c) : dpM (paM M k d) c = paM M (k + 1) (d + 1) := by
  unfold dpM
  rw [if_pos h]
  show s_up (s_up (paM M k d) 9 (nI k + 1)) 10 (nI d + 1) = _
  rw [pa_up (k2 := k + 1) (nI_1 k)]
  exact pd_up (nI_1 d)
theorem clM_pt {c : Prop} [Decidable c] (h : c) : clM (paM M k (d + 1)) c = paM M (k + 1) d := by
  unfold clM
  rw [if_pos h]
  show s_up (s_up (paM M k (d + 1)) 9 (nI k + 1)) 10 (nI (d + 1) - 1) = _
  rw [pa_up (k2 := k + 1) (nI_1 k)]
  exact pd_up (by rw [show (1 : Int32) = nI 1 from rfl, pk_sub (by omega), Nat.add_sub_cancel])
theorem pa_dn : s_up (paM M k (d + 1)) 10 ((paM M k (d + 1)).1 10 - 1) = paM M k d := pd_up (by show nI (d + 1) - 1 = nI d; rw [show (1 : Int32) = nI 1 from rfl, pk_sub (by omega), Nat.add_sub_cancel])
theorem pa_pa {k2 d2 : Nat} : paM (paM M k d) k2 d2 = paM M k2 d2 := by
  refine Prod.ext (funext fun q => ?_) rfl
  show va_up (va_up (va_up (va_up M.1 9 (nI k)) 10 (nI d)) 9 (nI k2)) 10 (nI d2) q = va_up (va_up M.1 9 (nI k2)) 10 (nI d2) q
  simp only [va_up]
  by_cases h9 : q = 9
  · subst h9; simp
  · by_cases h10 : q = 10
    · subst h10; simp
    · simp [h9, h10]
theorem tkV.pa (h : tkV tk tok M) : tkV tk tok (paM M k d) := h
/-- a step of a rule, as the Plan keeps it -/
def trC (x : Int32) : Int32 := if x = 0 then 1 else if x = 1 then 2 else if x = 2 then 11 else if x = 5 then 4 else if x = 6 then 13 else 14
def trO (op x : Int32) : Int32 := if op = 1 then 100 else if op = 2 then 10 else if op = 3 then trC x else if op = 4 then trC x else if op = 5 then 12 else if op = 6 then 105 else if op = 7 then 15 else if op = 8 then 101 else if op = 9 then 102 else if op = 10 then 103 else if op = 11 then 104 else if op = 12 then 18 else if op = 13 then 19 else if op = 14 then 106 else if op = 15 then 107 else if op = 16 then 108 else if op = 17 then 109 else if op = 18 then 110 else if op = 19 then 16 else 17
def trW (op x : Int32) : Int32 := if op = 1 then x else if op = 3 then 6 else if op = 4 then 7 else 0
def putE (P : xS) (s : Int32 × Int32) : xS := putP P (P.1 10).toNatClampNeg (trO s.1 s.2) (trW s.1 s.2)
def emP (P : xS) (em : List (Int32 × Int32)) : xS := em.foldl putE P
theorem emP_app {a b : List (Int32 × Int32)} : emP P (a ++ b) = emP (emP P a) b := List.foldl_append
theorem emP_10 : ∀ em (P : xS) {m : Nat}, P.1 10 = nI m → (emP P em).1 10 = nI (m + em.length) := by
  intro em
  induction em with
  | nil => intro P m h; exact h
  | cons a em ih =>
    intro P m h
    show (emP (putE P a) em).1 10 = _
    rw [ih (putE P a) (m := m + 1) (by show P.1 10 + 1 = _; rw [h]; exact nI_1 m), List.length_cons]
    congr 1
    omega
theorem put_em {m : Nat} {op x y z : Int32} (h : P.1 10 = nI m) (hm : m < 2 ^ 31) (hy : trO op x = y) (hz : trW op x = z) : putP P m y z = emP P [(op, x)] := by
  show _ = putP P (P.1 10).toNatClampNeg (trO op x) (trW op x)
  rw [h, nI_clamp hm, hy, hz]
/-- what a parser has done: fits, the token; if it fits, the steps, and the depth stands again (if not, orders may have been put ahead of what failed) -/
def prQ (bm bp b0 bn ba n : Nat) (vL nl : Nat → Int64) (M P : xS) (d : Nat) (r : Res) (A : xx_H) : xx_Q := xx_wr (some (.int (if r.1 = true then 1 else 0))) n (fun A' => ∃ d' P', (r.1 = true → d' = d ∧ P' = emP P r.2.2) ∧ xx_w bm (layM b0 vL bn ba bm (paM M r.2.1 d')) A' ∧ xx_w bp (layN nl bp P') A' ∧ (∀ h, ¬ isM bm h → (h < bp ∨ bp + 9 ≤ h) → A' h = A h))
/-- method y at depth d reads as p says -/
def prP (G : xx_G) (l : Launch) (bm bp b0 bn ba : Nat) (vL nl : Nat → Int64) (tk : Nat → Nat) (tok : Nat) (y : MethodName) (MM : xx_M) (fr lo d : Nat) (p : Nat → Res) : Prop :=
  ∀ (A : xx_H) (n : Nat) (M P : xS) (k m : Nat), tkV tk tok M → xx_w bm (layM b0 vL bn ba bm (paM M k d)) A → xx_w bp (layN nl bp P) A → P.1 10 = nI m → m ≤ k → k < tok → xx_C G l y MM fr lo 0 0 [.ref bm, .ref bp] A n (prQ bm bp b0 bn ba n vL nl M P d (p k) A)
end XSE
