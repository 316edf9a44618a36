/-! WORLDS of handles: cells at offsets from a base; what stays -/
section XXH
/-- at base b the heap holds the cells cs (offset, cell) -/
def xx_w (b : Nat) (cs : List (Nat × va_E)) (A : xx_H) : Prop := ∀ (i o : Nat) (e : va_E), cs[i]? = some (o, e) → A (b + o) = some e
theorem xx_w.at {b : Nat} {cs : List (Nat × va_E)} {A : xx_H} (h : xx_w b cs A) (i : Nat) {o : Nat} {e : va_E} (he : cs[i]? = some (o, e)) : A (b + o) = some e := h i o e he
/-- nothing outside b .. e - 1 has changed -/
def xx_same (b e : Nat) (A A' : xx_H) : Prop := ∀ h, (h < b ∨ e ≤ h) → A' h = A h
theorem xx_same.rf {b e : Nat} {A : xx_H} : xx_same b e A A := fun _ _ => rfl
theorem xx_same.put {b e : Nat} {A0 A : xx_H} (h : xx_same b e A0 A) {q : Nat} (h1 : b ≤ q) (h2 : q < e) (c : va_E) : xx_same b e A0 (xx_up A q c) := fun z hz => by rw [xx_up_n _ _ (by omega)]; exact h z hz
theorem xx_same.trans {b e : Nat} {A0 A A1 : xx_H} (h : xx_same b e A0 A) (h' : xx_same b e A A1) : xx_same b e A0 A1 := fun z hz => (h' z hz).trans (h z hz)
theorem xx_same.wide {b e b' e' : Nat} {A A1 : xx_H} (h : xx_same b e A A1) (h1 : b' ≤ b) (h2 : e ≤ e') : xx_same b' e' A A1 := fun z hz => h z (by omega)
/-- a world that the change didn't touch -/
theorem xx_w.same {b b0 e0 : Nat} {cs : List (Nat × va_E)} {A A' : xx_H} (h : xx_w b cs A) (hs : xx_same b0 e0 A A') (hd : ∀ q ∈ cs.map Prod.fst, b + q < b0 ∨ e0 ≤ b + q) : xx_w b cs A' := fun i o e he => (hs _ (hd o (List.mem_map.mpr ⟨_, List.mem_of_getElem? he, rfl⟩))).trans (h i o e he)
theorem xx_w.other {b q : Nat} {cs : List (Nat × va_E)} {A : xx_H} (h : xx_w b cs A) (c : va_E) (hd : ∀ z ∈ cs.map Prod.fst, b + z ≠ q) : xx_w b cs (xx_up A q c) := fun i o e he => by
  rw [xx_up_n _ _ (hd o (List.mem_map.mpr ⟨_, List.mem_of_getElem? he, rfl⟩))]
  exact h i o e he
/-- one of its cells is written -/
theorem xx_w.put {b : Nat} {cs : List (Nat × va_E)} {A : xx_H} (h : xx_w b cs A) (i : Nat) {o : Nat} {c : va_E} (c' : va_E) (hi : cs[i]? = some (o, c)) (hn : va_nd (cs.map Prod.fst) = true) : xx_w b (cs.set i (o, c')) (xx_up A (b + o) c') := by
  have hl := (List.getElem?_eq_some_iff.mp hi).1
  intro j o2 e he
  by_cases hj : j = i
  · subst hj
    rw [List.getElem?_set_self hl] at he
    cases he
    exact xx_up_s _ _ _
  · rw [List.getElem?_set_ne (Ne.symm hj)] at he
    have hne : o2 ≠ o := by
      intro hoo
      subst hoo
      exact hj (va_nd_inj _ hn j i o2 (by rw [List.getElem?_map, he]; rfl) (by rw [List.getElem?_map, hi]; rfl))
    rw [xx_up_n _ _ (by omega)]
    exact h j o2 e he
variable {G : xx_G} {l : Launch} {M : xx_M} {fr lo mc ms : Nat} {Post : xx_Q} {pc : Nat} {L : List (Nat × Value)} {S : List Value} {A : xx_H} {n k j : Nat}
theorem J_ialdN {h len : Nat} {f : Nat → Int32} {i : Int32} (q : Nat) (hd : decode M.2.2.1 pc = .ok (.iaload, 1)) (hA : A h = some (.inl (0, len, .inl f))) (hi : i = nI q) (hq : q < len) (hl : len < 2 ^ 31) (kk : xx_J G l M fr lo mc ms Post (pc + 1) L (.int (f q) :: S) A n k j) : xx_J G l M fr lo mc ms Post pc L (.int i :: .ref h :: S) A n k j := by
  subst hi
  exact J_iald hd hA (vp_in_nI hq hl) (by rw [nI_clamp (by omega)]) kk
theorem J_iastN {h len : Nat} {f : Nat → Int32} {i x : Int32} (q : Nat) (hd : decode M.2.2.1 pc = .ok (.iastore, 1)) (hA : A h = some (.inl (0, len, .inl f))) (hi : i = nI q) (hq : q < len) (hl : len < 2 ^ 31) (kk : xx_J G l M fr lo mc ms Post (pc + 1) L S (xx_up A h (.inl (0, len, .inl (upd f q x)))) n k j) : xx_J G l M fr lo mc ms Post pc L (.int x :: .int i :: .ref h :: S) A n k j := by
  subst hi
  refine J_iast hd hA (vp_in_nI hq hl) ?_
  rw [nI_clamp (by omega)]
  exact kk
/-- a write into a world: the heap behind it is any that holds the new world, and the rest as it was -/
theorem J_gen {b b0 e0 : Nat} {cs : List (Nat × va_E)} {A0 : xx_H} {q : Nat} {c : va_E} (hw : xx_w b cs (xx_up A q c)) (hs : xx_same b0 e0 A0 (xx_up A q c)) (kk : ∀ A', xx_w b cs A' → xx_same b0 e0 A0 A' → (∀ z, z ≠ q → A' z = A z) → xx_J G l M fr lo mc ms Post pc L S A' n k j) : xx_J G l M fr lo mc ms Post pc L S (xx_up A q c) n k j :=
  kk _ hw hs (fun _ hz => xx_up_n _ _ hz)
end XXH
