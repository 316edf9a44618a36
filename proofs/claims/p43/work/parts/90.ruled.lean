/-! A rule's steps hold when its test is 1 -/
section XRU
variable {n : Nat} {k i j q s e t d : Nat}
theorem trC_len : ∀ (f : Nat) (tr : Tr f), (trC f tr).length + 1 ≤ 2 ^ f := by
  intro f
  induction f with
  | zero => intro tr; exact Nat.le_refl _
  | succ f ih =>
    intro tr
    obtain ⟨⟨kd, nu⟩, ta, tb⟩ := tr
    have ha := ih ta
    have hb := ih tb
    have hp : 2 ^ (f + 1) = 2 ^ f + 2 ^ f := by rw [Nat.pow_succ]; omega
    show (if kd = 0 then [(1, nI nu)] else if kd = 1 then [(2, 0)] else if kd < 8 then [(if nu = 0 then 3 else 4, nI (qK kd))] else if kd = 25 then [(5, 0)] else if kd = 8 then trC f ta ++ [(6, 0)] else if kd = 26 then trC f ta ++ [(7, 0)] else trC f ta ++ trC f tb ++ [(nI (opK kd), 0)]).length + 1 ≤ 2 ^ (f + 1)
    rw [hp]
    split
    · show 1 + 1 ≤ _; omega
    split
    · show 1 + 1 ≤ _; omega
    split
    · show 1 + 1 ≤ _; omega
    split
    · show 1 + 1 ≤ _; omega
    split
    · rw [List.length_append]; show _ + 1 + 1 ≤ _; omega
    split
    · rw [List.length_append]; show _ + 1 + 1 ≤ _; omega
    · rw [List.length_append, List.length_append]; show _ + 1 + 1 ≤ _; omega
/-- the steps of a tree hold when it is not 0 -/
theorem hld_tr {F R : xS} {i j f g : Nat} {tr : Tr (g + 1)} (hK : trK (g + 1) tr) (hW : trW (g + 1) tr) (hg : g + 1 ≤ 8) (hR : ∀ q, q < (trC (g + 1) tr).length → R.2 3 (f + q) = ((trC (g + 1) tr).getD q (0, 0)).1 ∧ R.2 4 (f + q) = ((trC (g + 1) tr).getD q (0, 0)).2) : hldB F i j R f (f + (trC (g + 1) tr).length) = true ↔ ¬ trF F i j (g + 1) tr = 0 := by
  have hl := trC_len (g + 1) tr
  have h8 : 2 ^ (g + 1) ≤ 2 ^ 8 := Nat.pow_le_pow_right (by decide) hg
  have hp := trC_pos g tr
  have z := runL_l (F := F) (i := i) (j := j) (ops := R.2 3) (xs := R.2 4) (trC (g + 1) tr) f [] hR
  rw [stp_tr (g + 1) tr [] hK hW (by show 0 + _ ≤ 400; omega)] at z
  rw [hldB_i, Nat.add_sub_cancel_left, z]
  exact ⟨fun h => h.elim (fun h => absurd h (by omega)) id, Or.inr⟩
/-- what the rules say by hand is what they say over the Field -/
theorem ru_tie {S : sS} {tt : Nat → Option (Tr 4)} {b : Nat → Int32} {F R : xS} {i j nr : Nat} {en : Nat → Nat} (h1 : ∀ r, r < nr → S.2.1 3 r = R.2 1 r) (h2 : ∀ r, r < nr → ((∀ t, tt r = some t → trV S b 4 t = 1) ↔ hldB F i j R (bgn en r) (en r) = true)) : ∀ d r, d + r = nr → ruF S tt b d r = outL F i j R en d r (bgn en r) := by
  intro d
  induction d with
  | zero => intro r _; rfl
  | succ d ih =>
    intro r hr
    have z := h2 r (by omega)
    have e1 : ruF S tt b (d + 1) r = if (∀ t, tt r = some t → trV S b 4 t = 1) then S.2.1 3 r else ruF S tt b d (r + 1) := rfl
    have e2 : outL F i j R en (d + 1) r (bgn en r) = if hldB F i j R (bgn en r) (en r) = true then R.2 1 r else outL F i j R en d (r + 1) (en r) := rfl
    rw [e1, e2]
    by_cases c : hldB F i j R (bgn en r) (en r) = true
    · rw [if_pos c, if_pos (z.mpr c)]; exact h1 r (by omega)
    · rw [if_neg c, if_neg (fun y => c (z.mp y))]
      have e3 : bgn en (r + 1) = en r := by unfold bgn; rw [if_neg (Nat.succ_ne_zero r)]; rfl
      rw [ih (r + 1) (by omega), e3]
end XRU
