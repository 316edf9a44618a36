/-! JDK's own methods: Math.min, Math.max, Arrays.fill -/
section XXJ
variable {G : xx_G} {l : Launch} {n : Nat} {A : xx_H}
variable {M : xx_M} {fr lo mc ms : Nat} {Post : xx_Q} {pc : Nat} {L : List (Nat × Value)} {S : List Value} {k j : Nat}
theorem J_min {idx : Nat} {x y : Int32} (hd : decode M.2.2.1 pc = .ok (.invokestatic idx, 3)) (hl : Cond.methodLink M.1 idx yJ9_min_7cf53 ∈ xx_T) (hR : 1 ≤ fr ∧ (S.map fun v => v.category).sum + 13 ≤ lo) (hf : k ≤ mc ∧ j ≤ ms) (kk : xx_J G l M fr lo mc ms Post (pc + 3) L (.int (if y < x then y else x) :: S) A n k j) : xx_J G l M fr lo mc ms Post pc L (.int y :: .int x :: S) A n k j := by
  intro p e s m args below meth c ad0 n0 F ad H locs ls ⟨a1, a2, a3, a4, a5, a6, a7⟩
  have h9 : ((S.map (xx_v ad)).map fun v => v.category) = S.map fun v => v.category := by
    rw [List.map_map]
    exact List.map_congr_left fun v _ => xx_cat ad v
  exact va_mmin F.1 F.2.1 (F.2.2.1.trans a5.1.symm) F.2.2.2.2.2.2.1 (F.2.2.2.2.2.2.2.1 _ hl) (F.2.2.2.2.2.2.2.1 _ sm_J9_min_7cf53) (F.2.2.2.2.2.2.2.1 _ cal_J9_min_7cf53.2.1) (F.2.2.2.2.2.2.2.1 _ cal_J9_min_7cf53.1) hR.1 (by rw [h9]; exact hR.2) hf.1 hf.2 hd (kk p e s m args below meth c ad0 n0 F ad H locs ls ⟨a1, a2, a3, a4, a5, xx_c trivial (xx_t (xx_t a6)), a7⟩)
theorem J_max {idx : Nat} {x y : Int32} (hd : decode M.2.2.1 pc = .ok (.invokestatic idx, 3)) (hl : Cond.methodLink M.1 idx yJ9_max_7cf53 ∈ xx_T) (hR : 1 ≤ fr ∧ (S.map fun v => v.category).sum + 13 ≤ lo) (hf : k ≤ mc ∧ j ≤ ms) (kk : xx_J G l M fr lo mc ms Post (pc + 3) L (.int (if x < y then y else x) :: S) A n k j) : xx_J G l M fr lo mc ms Post pc L (.int y :: .int x :: S) A n k j := by
  intro p e s m args below meth c ad0 n0 F ad H locs ls ⟨a1, a2, a3, a4, a5, a6, a7⟩
  have h9 : ((S.map (xx_v ad)).map fun v => v.category) = S.map fun v => v.category := by
    rw [List.map_map]
    exact List.map_congr_left fun v _ => xx_cat ad v
  exact va_mmax F.1 F.2.1 (F.2.2.1.trans a5.1.symm) F.2.2.2.2.2.2.1 (F.2.2.2.2.2.2.2.1 _ hl) (F.2.2.2.2.2.2.2.1 _ sm_J9_max_7cf53) (F.2.2.2.2.2.2.2.1 _ cal_J9_max_7cf53.2.1) (F.2.2.2.2.2.2.2.1 _ cal_J9_max_7cf53.1) hR.1 (by rw [h9]; exact hR.2) hf.1 hf.2 hd (kk p e s m args below meth c ad0 n0 F ad H locs ls ⟨a1, a2, a3, a4, a5, xx_c trivial (xx_t (xx_t a6)), a7⟩)
theorem na_copy : Cond.native arraycopyName ∈ xx_T := xx_good3 (i := 88) (by decide +kernel) (by decide +kernel)
theorem sm_copy : Cond.static arraycopyName ∈ xx_T := xx_good3 (i := 87) (by decide +kernel) (by decide +kernel)
theorem xx_up_up (A : xx_H) (h : Nat) (c d : va_E) : xx_up (xx_up A h c) h d = xx_up A h d := by
  funext q
  by_cases hq : q = h <;> simp [xx_up, hq]
theorem xx_up_id {A : xx_H} {h : Nat} {c : va_E} (hA : A h = some c) : A = xx_up A h c := by
  funext q
  by_cases hq : q = h
  · subst hq; rw [hA, xx_up_s]
  · rw [xx_up_n _ _ hq]
def fil (v : Int32) (i : Nat) (f : Nat → Int32) : Nat → Int32 := fun p => if p < i then v else f p
theorem c_J7_fill_53178 (hst : l.stackTraces = false) {h len : Nat} {f : Nat → Int32} (hA : A h = some (.inl (0, len, .inl f))) (hl : len < 2 ^ 31) (v : Int32) : xx_C G l yJ7_fill_53178 mJ7_fill_53178 0 0 0 0 [.ref h, .int v] A n (xx_wr none n (fun A' => A' = xx_up A h (.inl (0, len, .inl (fil v len f))))) := by
  refine J_C hst (by decide +kernel) rfl rfl rfl (Nat.le_of_ble_eq_true rfl) ?_
  show xx_J _ _ _ _ _ _ _ _ 0 [(0, _), (1, _)] [] _ _ _ _
  refine J_iconst (v := 0) dJ7_fill_53178_0 (by decide) ?_
  refine J_istore_n (L' := [(2, _), (0, _), (1, _)]) dJ7_fill_53178_1 rfl (by decide) rfl ?_
  refine J_aload_n dJ7_fill_53178_2 rfl rfl ?_
  refine J_alen dJ7_fill_53178_3 hA (by decide) rfl ?_
  refine J_istore_n (L' := [(3, _), (2, _), (0, _), (1, _)]) dJ7_fill_53178_4 rfl (by decide) rfl ?_
  have loop : ∀ i, i ≤ len → ∀ (x : Int32), x = nI i → xx_J G l mJ7_fill_53178 0 0 0 0 (xx_wr none n (fun A' => A' = xx_up A h (.inl (0, len, .inl (fil v len f))))) 5 [(3, .int (nI len)), (2, .int x), (0, .ref h), (1, .int v)] [] (xx_up A h (.inl (0, len, .inl (fil v i f)))) n 0 0 := by
    refine xx_dn ?_ ?_
    · intro x hx
      refine J_iload_n dJ7_fill_53178_5 rfl rfl ?_
      refine J_iload_n dJ7_fill_53178_6 rfl rfl ?_
      refine J_icmp_ge (tgt := 20) dJ7_fill_53178_7 rfl (fun h7 => ?_) (fun h7 => ?_)
      · refine J_return dJ7_fill_53178_20 rfl (by decide) (by decide) ?_
        exact ⟨rfl, rfl, rfl⟩
      · rw [hx] at h7
        exact absurd (nI_le (Nat.le_refl _) hl) h7
    · intro i hi ih x hx
      refine J_iload_n dJ7_fill_53178_5 rfl rfl ?_
      refine J_iload_n dJ7_fill_53178_6 rfl rfl ?_
      refine J_icmp_ge (tgt := 20) dJ7_fill_53178_7 rfl (fun h7 => ?_) (fun h7 => ?_)
      · rw [hx] at h7
        exact absurd h7 (nI_ge hi hl)
      · refine J_aload_n dJ7_fill_53178_10 rfl rfl ?_
        refine J_iload_n dJ7_fill_53178_11 rfl rfl ?_
        refine J_iload_n dJ7_fill_53178_12 rfl rfl ?_
        refine J_iastN i dJ7_fill_53178_13 (xx_up_s _ _ _) hx hi hl ?_
        refine J_iinc (v := _ + 1) (L' := [(2, _), (3, _), (0, _), (1, _)]) dJ7_fill_53178_14 rfl rfl (by decide) rfl ?_
        refine J_goto (tgt := 5) dJ7_fill_53178_17 rfl ?_
        rw [xx_up_up]
        have e : upd (fil v i f) i v = fil v (i + 1) f := by
          funext p
          simp only [upd, fil]
          by_cases hp : p = i
          · rw [if_pos hp, if_pos (by omega)]
          · rw [if_neg hp]
            by_cases hpi : p < i
            · rw [if_pos hpi, if_pos (by omega)]
            · rw [if_neg hpi, if_neg (by omega)]
        rw [e]
        refine xx_J.pick [1, 0, 2, 3] rfl ?_
        exact ih _ (by rw [hx]; exact nI_1 i)
  have e0 : fil v 0 f = f := by funext p; simp [fil]
  have h0 := loop 0 (by omega) 0 rfl
  rw [e0, ← xx_up_id hA] at h0
  exact h0
end XXJ
