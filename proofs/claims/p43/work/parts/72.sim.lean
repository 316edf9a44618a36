/-! THE TOURNAMENT BY HAND: what is read -/
section XSM
variable {G : xx_G} {l : Launch} {A A' : xx_H} {n : Nat} {k j i q s e t d : Nat}
theorem J_aaldR {M : xx_M} {fr lo mc ms : Nat} {Post : xx_Q} {pc : Nat} {L : List (Nat × Value)} {S : List Value} {k j kd h len v : Nat} {f : Nat → Option Nat} {x : Int32} (p : Nat) (hd : decode M.2.2.1 pc = .ok (.aaload, 1)) (hkd : kd = 3 ∨ kd = 4 ∨ kd = 5 ∨ kd = 6) (hA : A h = some (.inl (kd, len, .inr (.inr (.inr (.inr f)))))) (hx : x = nI p) (hp : p < len) (hl : len < 2 ^ 31) (hv : f p = some v) (kk : xx_J G l M fr lo mc ms Post (pc + 1) L (.ref v :: S) A n k j) : xx_J G l M fr lo mc ms Post pc L (.int x :: .ref h :: S) A n k j := by
  subst hx
  exact J_aaldK (v := some v) hkd hd hA (vp_in_nI hp hl) (by rw [nI_clamp (by omega)]; exact hv) kk
/-- ints 0 wrestlers, 5 rounds; rows 1 strength, 2 worth, 6 who is out, 8 who rested, 10 + i the bout i; numbers 0 the handle of all, 1 how many bouts, 2 the handle of rests, 3 how many of these, 4 and 5 the handles of tells and tests, 6 how many rules, 10 + i the handle of the bout i -/
abbrev sS : Type := (Nat → Int32) × (Nat → Nat → Int32) × (Nat → Nat)
abbrev bt (S : sS) (i q : Nat) : Int32 := S.2.1 (10 + i) q
def simO (h : Nat) (S : sS) : va_E := .inr (6, [.int (S.1 0), .ref (h + 1), .ref (h + 2), .ref (S.2.2 4), .ref (S.2.2 5), .int (S.1 5), .ref (h + 5), .ref (S.2.2 0), .ref (S.2.2 2)])
/-- a Sim at h -/
def simW (h : Nat) (S : sS) (A : xx_H) : Prop := A h = some (.inr (6, [.int (S.1 0), .ref (h + 1), .ref (h + 2), .ref (S.2.2 4), .ref (S.2.2 5), .int (S.1 5), .ref (h + 5), .ref (S.2.2 0), .ref (S.2.2 2)])) ∧
  A (h + 1) = some (.inl (0, 12, .inl (S.2.1 1))) ∧ A (h + 2) = some (.inl (0, 3, .inl (S.2.1 2))) ∧ A (h + 5) = some (.inl (2, 12, .inl (S.2.1 6))) ∧
  (∃ f, A (S.2.2 0) = some (.inl (3, S.2.2 1, .inr (.inr (.inr (.inr f))))) ∧ ∀ i, i < S.2.2 1 → f i = some (S.2.2 (10 + i))) ∧
  (∀ i, i < S.2.2 1 → A (S.2.2 (10 + i)) = some (.inl (0, 5, .inl (S.2.1 (10 + i))))) ∧ A (S.2.2 2) = some (.inl (0, S.2.2 3, .inl (S.2.1 8)))
theorem bx_1 {f : Nat → Int32} {i : Nat} (h : f i = 1) : bx_sum f i + 1 = bx_sum f (i + 1) := by show _ = bx_sum f i + f i; rw [h]
theorem bx_0 {f : Nat → Int32} {i : Nat} (h : f i = 0) : bx_sum f i = bx_sum f (i + 1) := by show _ = bx_sum f i + f i; rw [h, Int32.add_zero]
theorem bx_v {f : Nat → Int32} {i : Nat} {v : Int32} (h : f i = v) : bx_sum f i + v = bx_sum f (i + 1) := by show _ = bx_sum f i + f i; rw [h]
/-- outcomes of w that are what (0 a win, 1 a draw, 2 a loss) -/
def mnF (S : sS) (w c : Int32) (i : Nat) : Int32 := if 0 ≤ bt S i 3 ∧ ((bt S i 1 = w ∧ bt S i 3 = c) ∨ (bt S i 2 = w ∧ bt S i 3 = 2 - c)) then 1 else 0
def mnS (S : sS) (w c : Int32) : Int32 := bx_sum (mnF S w c) (S.2.2 1)
def rsF2 (S : sS) (w : Int32) (i : Nat) : Int32 := if S.2.1 8 i = w then 1 else 0
def rsS (S : sS) (w : Int32) : Int32 := bx_sum (rsF2 S w) (S.2.2 3)
def ptS (S : sS) (w : Int32) : Int32 := mnS S w 0 * S.2.1 2 0 + mnS S w 1 * S.2.1 2 1 + rsS S w * S.2.1 2 2
def mtF (S : sS) (a b r : Int32) (i : Nat) : Int32 := if ¬ r ≤ bt S i 0 ∧ ((bt S i 1 = a ∧ bt S i 2 = b) ∨ (bt S i 1 = b ∧ bt S i 2 = a)) then 1 else 0
def mtS (S : sS) (a b r : Int32) : Int32 := bx_sum (mtF S a b r) (S.2.2 1)
def omF (S : sS) (w : Int32) (i : Nat) : Int32 := if bt S i 1 = w then ptS S (bt S i 2) else if bt S i 2 = w then ptS S (bt S i 1) else 0
def omS (S : sS) (w : Int32) : Int32 := bx_sum (omF S w) (S.2.2 1)
def blF (S : sS) (w : Int32) (i : Nat) : Int32 := if bt S i 1 = w then 1 else if bt S i 2 = w then -1 else 0
def blS (S : sS) (w : Int32) : Int32 := bx_sum (blF S w) (S.2.2 1)
def wbS (S : sS) (w : Int32) : Nat → Int32
  | 0 => 0
  | i + 1 => if bt S i 1 = w ∨ bt S i 2 = w then (if bt S i 2 = w then 1 else 0) else wbS S w i
def flF (S : sS) (w : Int32) (i : Nat) : Int32 := if bt S i 4 = w then 1 else 0
def flS (S : sS) (w : Int32) : Int32 := bx_sum (flF S w) (S.2.2 1)
def inF (S : sS) (i : Nat) : Int32 := if S.2.1 6 i = 0 then 1 else 0
def opF2 (S : sS) (i : Nat) : Int32 := if 0 ≤ bt S i 3 then 0 else 1
theorem c_X7_many (hst : l.stackTraces = false) {h : Nat} {S : sS} (hS : simW h S A) (hnb : S.2.2 1 < 1000) (hnr : S.2.2 3 < 1000) (w c : Int32) : xx_C G l yX7_many mX7_many 0 0 0 0 [.ref h, .int w, .int c] A n (xx_ro (some (.int (mnS S w c))) A n) := by
  obtain ⟨ho, p1, p2, p6, ⟨fa, pa, pf⟩, pb, pr⟩ := hS
  refine J_C hst (by decide +kernel) rfl rfl rfl (Nat.le_of_ble_eq_true rfl) ?_
  show xx_J _ _ _ _ _ _ _ _ 0 [(0, _), (1, _), (2, _)] [] _ _ _ _
  refine J_iconst (v := 0) dX7_many_0 (by decide) ?_
  refine J_istore_n (L' := [(3, _), (0, _), (1, _), (2, _)]) dX7_many_1 rfl (by decide) rfl ?_
  refine J_aload_n dX7_many_2 rfl rfl ?_
  refine J_getf dX7_many_3 fl_X7_30 (ho) rfl ?_
  refine J_astore (L' := [(4, _), (3, _), (0, _), (1, _), (2, _)]) dX7_many_6 (by decide) rfl ?_
  refine J_aload dX7_many_8 rfl ?_
  refine J_alen (v := nI (S.2.2 1)) dX7_many_10 pa (by decide) rfl ?_
  refine J_istore (L' := [(5, _), (4, _), (3, _), (0, _), (1, _), (2, _)]) dX7_many_11 (by decide) rfl ?_
  refine J_iconst (v := 0) dX7_many_13 (by decide) ?_
  refine J_istore (L' := [(6, _), (5, _), (4, _), (3, _), (0, _), (1, _), (2, _)]) dX7_many_14 (by decide) rfl ?_
  have loop : ∀ i, i ≤ (S.2.2 1) → ∀ (x acc : Int32) , (x = nI i) → (acc = bx_sum (mnF S w c) i) → xx_J G l mX7_many 0 0 0 0 (xx_ro (some (.int (mnS S w c))) A n) 16 [(6, .int x), (5, .int (nI (S.2.2 1))), (4, .ref (S.2.2 0)), (3, .int acc), (0, .ref h), (1, .int w), (2, .int c)] [] A n 0 0 := by
    refine xx_dn ?_ ?_
    · intro x acc   hx hacc
      have en : (nI (S.2.2 1)).toInt = S.2.2 1 := i_n (by omega)
      have ex : x.toInt = (S.2.2 1) := by rw [hx]; exact i_n (by omega)
      refine J_iload dX7_many_16 rfl ?_
      refine J_iload dX7_many_18 rfl ?_
      refine J_icmp_ge (tgt := 83) dX7_many_20 rfl (fun h20 => ?_) (fun h20 => ?_)
      · refine J_iload_n dX7_many_83 rfl rfl ?_
        refine J_ireturn dX7_many_84 rfl rfl (by decide) (by decide) ?_
        exact ⟨by rw [hacc]; rfl, rfl, rfl⟩
      · first | (exfalso; simp only [i_lt, i_le, i_eq, i_0, i_1, i_2, i_3, i_4, i_5, i_6, i_8, i_9, i_10, i_12, i_16, i_20, i_m1] at h20; omega) | (exfalso; simp only [s_up, a_up, va_up, i_lt, i_le, i_eq, i_0, i_1, i_2, i_3, i_4, i_5, i_6, i_8, i_9, i_10, i_12, i_16, i_20, i_m1, ↓reduceIte, Nat.reduceEqDiff] at h20; omega)
    · intro i hii ih x acc   hx hacc
      have en : (nI (S.2.2 1)).toInt = S.2.2 1 := i_n (by omega)
      have ex : x.toInt = i := by rw [hx]; exact i_n (by omega)
      refine J_iload dX7_many_16 rfl ?_
      refine J_iload dX7_many_18 rfl ?_
      refine J_icmp_ge (tgt := 83) dX7_many_20 rfl (fun h20 => ?_) (fun h20 => ?_)
      · first | (exfalso; simp only [i_lt, i_le, i_eq, i_0, i_1, i_2, i_3, i_4, i_5, i_6, i_8, i_9, i_10, i_12, i_16, i_20, i_m1] at h20; omega) | (exfalso; simp only [s_up, a_up, va_up, i_lt, i_le, i_eq, i_0, i_1, i_2, i_3, i_4, i_5, i_6, i_8, i_9, i_10, i_12, i_16, i_20, i_m1, ↓reduceIte, Nat.reduceEqDiff] at h20; omega)
      · refine J_aload dX7_many_23 rfl ?_
        refine J_iload dX7_many_25 rfl ?_
        refine J_aaldR i dX7_many_27 (Or.inl rfl) pa hx hii (by omega) (pf i hii) ?_
        refine J_astore (L' := [(7, _), (6, _), (5, _), (4, _), (3, _), (0, _), (1, _), (2, _)]) dX7_many_28 (by decide) rfl ?_
        refine J_aload dX7_many_30 rfl ?_
        refine J_iconst (v := 3) dX7_many_32 (by decide) ?_
        refine J_ialdN 3 dX7_many_33 (pb i hii) rfl (by decide) (by decide) ?_
        refine J_if_ge (tgt := 40) dX7_many_34 rfl (fun h34 => ?_) (fun h34 => ?_)
        · refine J_aload dX7_many_40 rfl ?_
          refine J_iconst (v := 1) dX7_many_42 (by decide) ?_
          refine J_ialdN 1 dX7_many_43 (pb i hii) rfl (by decide) (by decide) ?_
          refine J_iload_n dX7_many_44 rfl rfl ?_
          refine J_icmp_ne (tgt := 56) dX7_many_45 rfl (fun h45 => ?_) (fun h45 => ?_)
          · refine J_aload dX7_many_56 rfl ?_
            refine J_iconst (v := 2) dX7_many_58 (by decide) ?_
            refine J_ialdN 2 dX7_many_59 (pb i hii) rfl (by decide) (by decide) ?_
            refine J_iload_n dX7_many_60 rfl rfl ?_
            refine J_icmp_ne (tgt := 77) dX7_many_61 rfl (fun h61 => ?_) (fun h61 => ?_)
            · refine J_iinc (v := _ + 1) (L' := [(6, _), (7, _), (5, _), (4, _), (3, _), (0, _), (1, _), (2, _)]) dX7_many_77 rfl rfl (by decide) rfl ?_
              refine J_goto (tgt := 16) dX7_many_80 rfl ?_
              refine xx_J.pick [0, 2, 3, 4, 5, 6, 7] rfl ?_
              exact ih _ _  (by rw [hx]; exact nI_1 i) (by rw [hacc]; first | exact bx_1 (by unfold mnF; first | exact if_pos (by first | (refine ⟨by assumption, ?_⟩; first | exact Or.inl ⟨by assumption, by assumption⟩ | exact Or.inr ⟨by assumption, by assumption⟩) | assumption)) | exact bx_0 (by unfold mnF; exact if_neg (fun z => by first | contradiction | exact absurd z.1 (by assumption) | exact z.1 (by assumption) | (obtain ⟨z1, ⟨z2, z3⟩ | ⟨z2, z3⟩⟩ := z <;> contradiction))))
            · refine J_aload dX7_many_64 rfl ?_
              refine J_iconst (v := 3) dX7_many_66 (by decide) ?_
              refine J_ialdN 3 dX7_many_67 (pb i hii) rfl (by decide) (by decide) ?_
              refine J_iconst (v := 2) dX7_many_68 (by decide) ?_
              refine J_iload_n dX7_many_69 rfl rfl ?_
              refine J_isub dX7_many_70 ?_
              refine J_icmp_ne (tgt := 77) dX7_many_71 rfl (fun h71 => ?_) (fun h71 => ?_)
              · refine J_iinc (v := _ + 1) (L' := [(6, _), (7, _), (5, _), (4, _), (3, _), (0, _), (1, _), (2, _)]) dX7_many_77 rfl rfl (by decide) rfl ?_
                refine J_goto (tgt := 16) dX7_many_80 rfl ?_
                refine xx_J.pick [0, 2, 3, 4, 5, 6, 7] rfl ?_
                exact ih _ _  (by rw [hx]; exact nI_1 i) (by rw [hacc]; first | exact bx_1 (by unfold mnF; first | exact if_pos (by first | (refine ⟨by assumption, ?_⟩; first | exact Or.inl ⟨by assumption, by assumption⟩ | exact Or.inr ⟨by assumption, by assumption⟩) | assumption)) | exact bx_0 (by unfold mnF; exact if_neg (fun z => by first | contradiction | exact absurd z.1 (by assumption) | exact z.1 (by assumption) | (obtain ⟨z1, ⟨z2, z3⟩ | ⟨z2, z3⟩⟩ := z <;> contradiction))))
              · refine J_iinc (v := _ + 1) (L' := [(3, _), (7, _), (6, _), (5, _), (4, _), (0, _), (1, _), (2, _)]) dX7_many_74 rfl rfl (by decide) rfl ?_
                refine J_iinc (v := _ + 1) (L' := [(6, _), (3, _), (7, _), (5, _), (4, _), (0, _), (1, _), (2, _)]) dX7_many_77 rfl rfl (by decide) rfl ?_
                refine J_goto (tgt := 16) dX7_many_80 rfl ?_
                refine xx_J.pick [0, 3, 4, 1, 5, 6, 7] rfl ?_
                exact ih _ _  (by rw [hx]; exact nI_1 i) (by rw [hacc]; first | exact bx_1 (by unfold mnF; first | exact if_pos (by first | (refine ⟨by assumption, ?_⟩; first | exact Or.inl ⟨by assumption, by assumption⟩ | exact Or.inr ⟨by assumption, by assumption⟩) | assumption)) | exact bx_0 (by unfold mnF; exact if_neg (fun z => by first | contradiction | exact absurd z.1 (by assumption) | exact z.1 (by assumption) | (obtain ⟨z1, ⟨z2, z3⟩ | ⟨z2, z3⟩⟩ := z <;> contradiction))))
          · refine J_aload dX7_many_48 rfl ?_
            refine J_iconst (v := 3) dX7_many_50 (by decide) ?_
            refine J_ialdN 3 dX7_many_51 (pb i hii) rfl (by decide) (by decide) ?_
            refine J_iload_n dX7_many_52 rfl rfl ?_
            refine J_icmp_eq (tgt := 74) dX7_many_53 rfl (fun h53 => ?_) (fun h53 => ?_)
            · refine J_iinc (v := _ + 1) (L' := [(3, _), (7, _), (6, _), (5, _), (4, _), (0, _), (1, _), (2, _)]) dX7_many_74 rfl rfl (by decide) rfl ?_
              refine J_iinc (v := _ + 1) (L' := [(6, _), (3, _), (7, _), (5, _), (4, _), (0, _), (1, _), (2, _)]) dX7_many_77 rfl rfl (by decide) rfl ?_
              refine J_goto (tgt := 16) dX7_many_80 rfl ?_
              refine xx_J.pick [0, 3, 4, 1, 5, 6, 7] rfl ?_
              exact ih _ _  (by rw [hx]; exact nI_1 i) (by rw [hacc]; first | exact bx_1 (by unfold mnF; first | exact if_pos (by first | (refine ⟨by assumption, ?_⟩; first | exact Or.inl ⟨by assumption, by assumption⟩ | exact Or.inr ⟨by assumption, by assumption⟩) | assumption)) | exact bx_0 (by unfold mnF; exact if_neg (fun z => by first | contradiction | exact absurd z.1 (by assumption) | exact z.1 (by assumption) | (obtain ⟨z1, ⟨z2, z3⟩ | ⟨z2, z3⟩⟩ := z <;> contradiction))))
            · refine J_aload dX7_many_56 rfl ?_
              refine J_iconst (v := 2) dX7_many_58 (by decide) ?_
              refine J_ialdN 2 dX7_many_59 (pb i hii) rfl (by decide) (by decide) ?_
              refine J_iload_n dX7_many_60 rfl rfl ?_
              refine J_icmp_ne (tgt := 77) dX7_many_61 rfl (fun h61 => ?_) (fun h61 => ?_)
              · refine J_iinc (v := _ + 1) (L' := [(6, _), (7, _), (5, _), (4, _), (3, _), (0, _), (1, _), (2, _)]) dX7_many_77 rfl rfl (by decide) rfl ?_
                refine J_goto (tgt := 16) dX7_many_80 rfl ?_
                refine xx_J.pick [0, 2, 3, 4, 5, 6, 7] rfl ?_
                exact ih _ _  (by rw [hx]; exact nI_1 i) (by rw [hacc]; first | exact bx_1 (by unfold mnF; first | exact if_pos (by first | (refine ⟨by assumption, ?_⟩; first | exact Or.inl ⟨by assumption, by assumption⟩ | exact Or.inr ⟨by assumption, by assumption⟩) | assumption)) | exact bx_0 (by unfold mnF; exact if_neg (fun z => by first | contradiction | exact absurd z.1 (by assumption) | exact z.1 (by assumption) | (obtain ⟨z1, ⟨z2, z3⟩ | ⟨z2, z3⟩⟩ := z <;> contradiction))))
              · refine J_aload dX7_many_64 rfl ?_
                refine J_iconst (v := 3) dX7_many_66 (by decide) ?_
                refine J_ialdN 3 dX7_many_67 (pb i hii) rfl (by decide) (by decide) ?_
                refine J_iconst (v := 2) dX7_many_68 (by decide) ?_
                refine J_iload_n dX7_many_69 rfl rfl ?_
                refine J_isub dX7_many_70 ?_
                refine J_icmp_ne (tgt := 77) dX7_many_71 rfl (fun h71 => ?_) (fun h71 => ?_)
                · refine J_iinc (v := _ + 1) (L' := [(6, _), (7, _), (5, _), (4, _), (3, _), (0, _), (1, _), (2, _)]) dX7_many_77 rfl rfl (by decide) rfl ?_
                  refine J_goto (tgt := 16) dX7_many_80 rfl ?_
                  refine xx_J.pick [0, 2, 3, 4, 5, 6, 7] rfl ?_
                  exact ih _ _  (by rw [hx]; exact nI_1 i) (by rw [hacc]; first | exact bx_1 (by unfold mnF; first | exact if_pos (by first | (refine ⟨by assumption, ?_⟩; first | exact Or.inl ⟨by assumption, by assumption⟩ | exact Or.inr ⟨by assumption, by assumption⟩) | assumption)) | exact bx_0 (by unfold mnF; exact if_neg (fun z => by first | contradiction | exact absurd z.1 (by assumption) | exact z.1 (by assumption) | (obtain ⟨z1, ⟨z2, z3⟩ | ⟨z2, z3⟩⟩ := z <;> contradiction))))
                · refine J_iinc (v := _ + 1) (L' := [(3, _), (7, _), (6, _), (5, _), (4, _), (0, _), (1, _), (2, _)]) dX7_many_74 rfl rfl (by decide) rfl ?_
                  refine J_iinc (v := _ + 1) (L' := [(6, _), (3, _), (7, _), (5, _), (4, _), (0, _), (1, _), (2, _)]) dX7_many_77 rfl rfl (by decide) rfl ?_
                  refine J_goto (tgt := 16) dX7_many_80 rfl ?_
                  refine xx_J.pick [0, 3, 4, 1, 5, 6, 7] rfl ?_
                  exact ih _ _  (by rw [hx]; exact nI_1 i) (by rw [hacc]; first | exact bx_1 (by unfold mnF; first | exact if_pos (by first | (refine ⟨by assumption, ?_⟩; first | exact Or.inl ⟨by assumption, by assumption⟩ | exact Or.inr ⟨by assumption, by assumption⟩) | assumption)) | exact bx_0 (by unfold mnF; exact if_neg (fun z => by first | contradiction | exact absurd z.1 (by assumption) | exact z.1 (by assumption) | (obtain ⟨z1, ⟨z2, z3⟩ | ⟨z2, z3⟩⟩ := z <;> contradiction))))
        · refine J_goto (tgt := 77) dX7_many_37 rfl ?_
          refine J_iinc (v := _ + 1) (L' := [(6, _), (7, _), (5, _), (4, _), (3, _), (0, _), (1, _), (2, _)]) dX7_many_77 rfl rfl (by decide) rfl ?_
          refine J_goto (tgt := 16) dX7_many_80 rfl ?_
          refine xx_J.pick [0, 2, 3, 4, 5, 6, 7] rfl ?_
          exact ih _ _  (by rw [hx]; exact nI_1 i) (by rw [hacc]; first | exact bx_1 (by unfold mnF; first | exact if_pos (by first | (refine ⟨by assumption, ?_⟩; first | exact Or.inl ⟨by assumption, by assumption⟩ | exact Or.inr ⟨by assumption, by assumption⟩) | assumption)) | exact bx_0 (by unfold mnF; exact if_neg (fun z => by first | contradiction | exact absurd z.1 (by assumption) | exact z.1 (by assumption) | (obtain ⟨z1, ⟨z2, z3⟩ | ⟨z2, z3⟩⟩ := z <;> contradiction))))
  refine xx_J.pick [0, 1, 2, 3, 4, 5, 6] rfl ?_
  exact loop 0 (by omega) _ _  rfl rfl
theorem c_X7_rested (hst : l.stackTraces = false) {h : Nat} {S : sS} (hS : simW h S A) (hnb : S.2.2 1 < 1000) (hnr : S.2.2 3 < 1000) (w : Int32) : xx_C G l yX7_rested mX7_rested 0 0 0 0 [.ref h, .int w] A n (xx_ro (some (.int (rsS S w))) A n) := by
  obtain ⟨ho, p1, p2, p6, ⟨fa, pa, pf⟩, pb, pr⟩ := hS
  refine J_C hst (by decide +kernel) rfl rfl rfl (Nat.le_of_ble_eq_true rfl) ?_
  show xx_J _ _ _ _ _ _ _ _ 0 [(0, _), (1, _)] [] _ _ _ _
  refine J_iconst (v := 0) dX7_rested_0 (by decide) ?_
  refine J_istore_n (L' := [(2, _), (0, _), (1, _)]) dX7_rested_1 rfl (by decide) rfl ?_
  refine J_aload_n dX7_rested_2 rfl rfl ?_
  refine J_getf dX7_rested_3 fl_X7_34 (ho) rfl ?_
  refine J_astore_n (L' := [(3, _), (2, _), (0, _), (1, _)]) dX7_rested_6 rfl (by decide) rfl ?_
  refine J_aload_n dX7_rested_7 rfl rfl ?_
  refine J_alen (v := nI (S.2.2 3)) dX7_rested_8 pr (by decide) rfl ?_
  refine J_istore (L' := [(4, _), (3, _), (2, _), (0, _), (1, _)]) dX7_rested_9 (by decide) rfl ?_
  refine J_iconst (v := 0) dX7_rested_11 (by decide) ?_
  refine J_istore (L' := [(5, _), (4, _), (3, _), (2, _), (0, _), (1, _)]) dX7_rested_12 (by decide) rfl ?_
  have loop : ∀ i, i ≤ (S.2.2 3) → ∀ (x acc : Int32) , (x = nI i) → (acc = bx_sum (rsF2 S w) i) → xx_J G l mX7_rested 0 0 0 0 (xx_ro (some (.int (rsS S w))) A n) 14 [(5, .int x), (4, .int (nI (S.2.2 3))), (3, .ref (S.2.2 2)), (2, .int acc), (0, .ref h), (1, .int w)] [] A n 0 0 := by
    refine xx_dn ?_ ?_
    · intro x acc   hx hacc
      have en : (nI (S.2.2 3)).toInt = S.2.2 3 := i_n (by omega)
      have ex : x.toInt = (S.2.2 3) := by rw [hx]; exact i_n (by omega)
      refine J_iload dX7_rested_14 rfl ?_
      refine J_iload dX7_rested_16 rfl ?_
      refine J_icmp_ge (tgt := 47) dX7_rested_18 rfl (fun h18 => ?_) (fun h18 => ?_)
      · refine J_iload_n dX7_rested_47 rfl rfl ?_
        refine J_ireturn dX7_rested_48 rfl rfl (by decide) (by decide) ?_
        exact ⟨by rw [hacc]; rfl, rfl, rfl⟩
      · first | (exfalso; simp only [i_lt, i_le, i_eq, i_0, i_1, i_2, i_3, i_4, i_5, i_6, i_8, i_9, i_10, i_12, i_16, i_20, i_m1] at h18; omega) | (exfalso; simp only [s_up, a_up, va_up, i_lt, i_le, i_eq, i_0, i_1, i_2, i_3, i_4, i_5, i_6, i_8, i_9, i_10, i_12, i_16, i_20, i_m1, ↓reduceIte, Nat.reduceEqDiff] at h18; omega)
    · intro i hii ih x acc   hx hacc
      have en : (nI (S.2.2 3)).toInt = S.2.2 3 := i_n (by omega)
      have ex : x.toInt = i := by rw [hx]; exact i_n (by omega)
      refine J_iload dX7_rested_14 rfl ?_
      refine J_iload dX7_rested_16 rfl ?_
      refine J_icmp_ge (tgt := 47) dX7_rested_18 rfl (fun h18 => ?_) (fun h18 => ?_)
      · first | (exfalso; simp only [i_lt, i_le, i_eq, i_0, i_1, i_2, i_3, i_4, i_5, i_6, i_8, i_9, i_10, i_12, i_16, i_20, i_m1] at h18; omega) | (exfalso; simp only [s_up, a_up, va_up, i_lt, i_le, i_eq, i_0, i_1, i_2, i_3, i_4, i_5, i_6, i_8, i_9, i_10, i_12, i_16, i_20, i_m1, ↓reduceIte, Nat.reduceEqDiff] at h18; omega)
      · refine J_aload_n dX7_rested_21 rfl rfl ?_
        refine J_iload dX7_rested_22 rfl ?_
        refine J_ialdN i dX7_rested_24 pr hx hii (by first | decide | omega) ?_
        refine J_istore (L' := [(6, _), (5, _), (4, _), (3, _), (2, _), (0, _), (1, _)]) dX7_rested_25 (by decide) rfl ?_
        refine J_iload_n dX7_rested_27 rfl rfl ?_
        refine J_iload dX7_rested_28 rfl ?_
        refine J_iload_n dX7_rested_30 rfl rfl ?_
        refine J_icmp_ne (tgt := 38) dX7_rested_31 rfl (fun h31 => ?_) (fun h31 => ?_)
        · refine J_iconst (v := 0) dX7_rested_38 (by decide) ?_
          refine J_iadd dX7_rested_39 ?_
          refine J_istore_n (L' := [(2, _), (6, _), (5, _), (4, _), (3, _), (0, _), (1, _)]) dX7_rested_40 rfl (by decide) rfl ?_
          refine J_iinc (v := _ + 1) (L' := [(5, _), (2, _), (6, _), (4, _), (3, _), (0, _), (1, _)]) dX7_rested_41 rfl rfl (by decide) rfl ?_
          refine J_goto (tgt := 14) dX7_rested_44 rfl ?_
          refine xx_J.pick [0, 3, 4, 1, 5, 6] rfl ?_
          exact ih _ _  (by rw [hx]; exact nI_1 i) (by rw [hacc]; first | exact bx_v (by unfold rsF2; exact if_pos (by assumption)) | exact bx_v (by unfold rsF2; exact if_neg (by assumption)))
        · refine J_iconst (v := 1) dX7_rested_34 (by decide) ?_
          refine J_goto (tgt := 39) dX7_rested_35 rfl ?_
          refine J_iadd dX7_rested_39 ?_
          refine J_istore_n (L' := [(2, _), (6, _), (5, _), (4, _), (3, _), (0, _), (1, _)]) dX7_rested_40 rfl (by decide) rfl ?_
          refine J_iinc (v := _ + 1) (L' := [(5, _), (2, _), (6, _), (4, _), (3, _), (0, _), (1, _)]) dX7_rested_41 rfl rfl (by decide) rfl ?_
          refine J_goto (tgt := 14) dX7_rested_44 rfl ?_
          refine xx_J.pick [0, 3, 4, 1, 5, 6] rfl ?_
          exact ih _ _  (by rw [hx]; exact nI_1 i) (by rw [hacc]; first | exact bx_v (by unfold rsF2; exact if_pos (by assumption)) | exact bx_v (by unfold rsF2; exact if_neg (by assumption)))
  refine xx_J.pick [0, 1, 2, 3, 4, 5] rfl ?_
  exact loop 0 (by omega) _ _  rfl rfl
theorem c_X7_points (hst : l.stackTraces = false) {h : Nat} {S : sS} (hS : simW h S A) (hnb : S.2.2 1 < 1000) (hnr : S.2.2 3 < 1000) (w : Int32) : xx_C G l yX7_points mX7_points 1 27 0 0 [.ref h, .int w] A n (xx_ro (some (.int (ptS S w))) A n) := by
  have hS0 := hS
  obtain ⟨ho, p1, p2, p6, ⟨fa, pa, pf⟩, pb, pr⟩ := hS
  refine J_C hst (by decide +kernel) rfl rfl rfl (Nat.le_of_ble_eq_true rfl) ?_
  show xx_J _ _ _ _ _ _ _ _ 0 [(0, _), (1, _)] [] _ _ _ _
  refine J_aload_n dX7_points_0 rfl rfl ?_
  refine J_iload_n dX7_points_1 rfl rfl ?_
  refine J_iconst (v := 0) dX7_points_2 (by decide) ?_
  refine J_callVr (As := [_, _]) dX7_points_3 ml_X7_49 cal_X7_many im_X7_many se_X7_many (ho) rfl rfl rfl (Nat.le_of_ble_eq_true rfl) ⟨by decide, by decide⟩ ⟨by decide, by decide⟩ (c_X7_many hst hS0 hnb hnr w 0) ?_
  refine J_aload_n dX7_points_6 rfl rfl ?_
  refine J_getf dX7_points_7 fl_X7_13 (ho) rfl ?_
  refine J_iconst (v := 0) dX7_points_10 (by decide) ?_
  refine J_ialdN 0 dX7_points_11 p2 rfl (by decide) (by first | decide | omega) ?_
  refine J_imul dX7_points_12 ?_
  refine J_aload_n dX7_points_13 rfl rfl ?_
  refine J_iload_n dX7_points_14 rfl rfl ?_
  refine J_iconst (v := 1) dX7_points_15 (by decide) ?_
  refine J_callVr (As := [_, _]) dX7_points_16 ml_X7_49 cal_X7_many im_X7_many se_X7_many (ho) rfl rfl rfl (Nat.le_of_ble_eq_true rfl) ⟨by decide, by decide⟩ ⟨by decide, by decide⟩ (c_X7_many hst hS0 hnb hnr w 1) ?_
  refine J_aload_n dX7_points_19 rfl rfl ?_
  refine J_getf dX7_points_20 fl_X7_13 (ho) rfl ?_
  refine J_iconst (v := 1) dX7_points_23 (by decide) ?_
  refine J_ialdN 1 dX7_points_24 p2 rfl (by decide) (by first | decide | omega) ?_
  refine J_imul dX7_points_25 ?_
  refine J_iadd dX7_points_26 ?_
  refine J_aload_n dX7_points_27 rfl rfl ?_
  refine J_iload_n dX7_points_28 rfl rfl ?_
  refine J_callVr (As := [_]) dX7_points_29 ml_X7_53 cal_X7_rested im_X7_rested se_X7_rested (ho) rfl rfl rfl (Nat.le_of_ble_eq_true rfl) ⟨by decide, by decide⟩ ⟨by decide, by decide⟩ (c_X7_rested hst hS0 hnb hnr w) ?_
  refine J_aload_n dX7_points_32 rfl rfl ?_
  refine J_getf dX7_points_33 fl_X7_13 (ho) rfl ?_
  refine J_iconst (v := 2) dX7_points_36 (by decide) ?_
  refine J_ialdN 2 dX7_points_37 p2 rfl (by decide) (by first | decide | omega) ?_
  refine J_imul dX7_points_38 ?_
  refine J_iadd dX7_points_39 ?_
  refine J_ireturn dX7_points_40 rfl rfl (by decide) (by decide) ?_
  exact ⟨rfl, rfl, rfl⟩
theorem c_X7_met (hst : l.stackTraces = false) {h : Nat} {S : sS} (hS : simW h S A) (hnb : S.2.2 1 < 1000) (hnr : S.2.2 3 < 1000) (a b r : Int32) : xx_C G l yX7_met mX7_met 0 0 0 0 [.ref h, .int a, .int b, .int r] A n (xx_ro (some (.int (mtS S a b r))) A n) := by
  obtain ⟨ho, p1, p2, p6, ⟨fa, pa, pf⟩, pb, pr⟩ := hS
  refine J_C hst (by decide +kernel) rfl rfl rfl (Nat.le_of_ble_eq_true rfl) ?_
  show xx_J _ _ _ _ _ _ _ _ 0 [(0, _), (1, _), (2, _), (3, _)] [] _ _ _ _
  refine J_iconst (v := 0) dX7_met_0 (by decide) ?_
  refine J_istore (L' := [(4, _), (0, _), (1, _), (2, _), (3, _)]) dX7_met_1 (by decide) rfl ?_
  refine J_aload_n dX7_met_3 rfl rfl ?_
  refine J_getf dX7_met_4 fl_X7_30 (ho) rfl ?_
  refine J_astore (L' := [(5, _), (4, _), (0, _), (1, _), (2, _), (3, _)]) dX7_met_7 (by decide) rfl ?_
  refine J_aload dX7_met_9 rfl ?_
  refine J_alen (v := nI (S.2.2 1)) dX7_met_11 pa (by decide) rfl ?_
  refine J_istore (L' := [(6, _), (5, _), (4, _), (0, _), (1, _), (2, _), (3, _)]) dX7_met_12 (by decide) rfl ?_
  refine J_iconst (v := 0) dX7_met_14 (by decide) ?_
  refine J_istore (L' := [(7, _), (6, _), (5, _), (4, _), (0, _), (1, _), (2, _), (3, _)]) dX7_met_15 (by decide) rfl ?_
  have loop : ∀ i, i ≤ (S.2.2 1) → ∀ (x acc : Int32) , (x = nI i) → (acc = bx_sum (mtF S a b r) i) → xx_J G l mX7_met 0 0 0 0 (xx_ro (some (.int (mtS S a b r))) A n) 17 [(7, .int x), (6, .int (nI (S.2.2 1))), (5, .ref (S.2.2 0)), (4, .int acc), (0, .ref h), (1, .int a), (2, .int b), (3, .int r)] [] A n 0 0 := by
    refine xx_dn ?_ ?_
    · intro x acc   hx hacc
      have en : (nI (S.2.2 1)).toInt = S.2.2 1 := i_n (by omega)
      have ex : x.toInt = (S.2.2 1) := by rw [hx]; exact i_n (by omega)
      refine J_iload dX7_met_17 rfl ?_
      refine J_iload dX7_met_19 rfl ?_
      refine J_icmp_ge (tgt := 80) dX7_met_21 rfl (fun h21 => ?_) (fun h21 => ?_)
      · refine J_iload dX7_met_80 rfl ?_
        refine J_ireturn dX7_met_82 rfl rfl (by decide) (by decide) ?_
        exact ⟨by rw [hacc]; rfl, rfl, rfl⟩
      · first | (exfalso; simp only [i_lt, i_le, i_eq, i_0, i_1, i_2, i_3, i_4, i_5, i_6, i_8, i_9, i_10, i_12, i_16, i_20, i_m1] at h21; omega) | (exfalso; simp only [s_up, a_up, va_up, i_lt, i_le, i_eq, i_0, i_1, i_2, i_3, i_4, i_5, i_6, i_8, i_9, i_10, i_12, i_16, i_20, i_m1, ↓reduceIte, Nat.reduceEqDiff] at h21; omega)
    · intro i hii ih x acc   hx hacc
      have en : (nI (S.2.2 1)).toInt = S.2.2 1 := i_n (by omega)
      have ex : x.toInt = i := by rw [hx]; exact i_n (by omega)
      refine J_iload dX7_met_17 rfl ?_
      refine J_iload dX7_met_19 rfl ?_
      refine J_icmp_ge (tgt := 80) dX7_met_21 rfl (fun h21 => ?_) (fun h21 => ?_)
      · first | (exfalso; simp only [i_lt, i_le, i_eq, i_0, i_1, i_2, i_3, i_4, i_5, i_6, i_8, i_9, i_10, i_12, i_16, i_20, i_m1] at h21; omega) | (exfalso; simp only [s_up, a_up, va_up, i_lt, i_le, i_eq, i_0, i_1, i_2, i_3, i_4, i_5, i_6, i_8, i_9, i_10, i_12, i_16, i_20, i_m1, ↓reduceIte, Nat.reduceEqDiff] at h21; omega)
      · refine J_aload dX7_met_24 rfl ?_
        refine J_iload dX7_met_26 rfl ?_
        refine J_aaldR i dX7_met_28 (Or.inl rfl) pa hx hii (by omega) (pf i hii) ?_
        refine J_astore (L' := [(8, _), (7, _), (6, _), (5, _), (4, _), (0, _), (1, _), (2, _), (3, _)]) dX7_met_29 (by decide) rfl ?_
        refine J_aload dX7_met_31 rfl ?_
        refine J_iconst (v := 0) dX7_met_33 (by decide) ?_
        refine J_ialdN 0 dX7_met_34 (pb i hii) rfl (by decide) (by decide) ?_
        refine J_iload_n dX7_met_35 rfl rfl ?_
        refine J_icmp_ge (tgt := 74) dX7_met_36 rfl (fun h36 => ?_) (fun h36 => ?_)
        · refine J_iinc (v := _ + 1) (L' := [(7, _), (8, _), (6, _), (5, _), (4, _), (0, _), (1, _), (2, _), (3, _)]) dX7_met_74 rfl rfl (by decide) rfl ?_
          refine J_goto (tgt := 17) dX7_met_77 rfl ?_
          refine xx_J.pick [0, 2, 3, 4, 5, 6, 7, 8] rfl ?_
          exact ih _ _  (by rw [hx]; exact nI_1 i) (by rw [hacc]; first | exact bx_1 (by unfold mtF; first | exact if_pos (by first | (refine ⟨by assumption, ?_⟩; first | exact Or.inl ⟨by assumption, by assumption⟩ | exact Or.inr ⟨by assumption, by assumption⟩) | assumption)) | exact bx_0 (by unfold mtF; exact if_neg (fun z => by first | contradiction | exact absurd z.1 (by assumption) | exact z.1 (by assumption) | (obtain ⟨z1, ⟨z2, z3⟩ | ⟨z2, z3⟩⟩ := z <;> contradiction))))
        · refine J_aload dX7_met_39 rfl ?_
          refine J_iconst (v := 1) dX7_met_41 (by decide) ?_
          refine J_ialdN 1 dX7_met_42 (pb i hii) rfl (by decide) (by decide) ?_
          refine J_iload_n dX7_met_43 rfl rfl ?_
          refine J_icmp_ne (tgt := 55) dX7_met_44 rfl (fun h44 => ?_) (fun h44 => ?_)
          · refine J_aload dX7_met_55 rfl ?_
            refine J_iconst (v := 1) dX7_met_57 (by decide) ?_
            refine J_ialdN 1 dX7_met_58 (pb i hii) rfl (by decide) (by decide) ?_
            refine J_iload_n dX7_met_59 rfl rfl ?_
            refine J_icmp_ne (tgt := 74) dX7_met_60 rfl (fun h60 => ?_) (fun h60 => ?_)
            · refine J_iinc (v := _ + 1) (L' := [(7, _), (8, _), (6, _), (5, _), (4, _), (0, _), (1, _), (2, _), (3, _)]) dX7_met_74 rfl rfl (by decide) rfl ?_
              refine J_goto (tgt := 17) dX7_met_77 rfl ?_
              refine xx_J.pick [0, 2, 3, 4, 5, 6, 7, 8] rfl ?_
              exact ih _ _  (by rw [hx]; exact nI_1 i) (by rw [hacc]; first | exact bx_1 (by unfold mtF; first | exact if_pos (by first | (refine ⟨by assumption, ?_⟩; first | exact Or.inl ⟨by assumption, by assumption⟩ | exact Or.inr ⟨by assumption, by assumption⟩) | assumption)) | exact bx_0 (by unfold mtF; exact if_neg (fun z => by first | contradiction | exact absurd z.1 (by assumption) | exact z.1 (by assumption) | (obtain ⟨z1, ⟨z2, z3⟩ | ⟨z2, z3⟩⟩ := z <;> contradiction))))
            · refine J_aload dX7_met_63 rfl ?_
              refine J_iconst (v := 2) dX7_met_65 (by decide) ?_
              refine J_ialdN 2 dX7_met_66 (pb i hii) rfl (by decide) (by decide) ?_
              refine J_iload_n dX7_met_67 rfl rfl ?_
              refine J_icmp_ne (tgt := 74) dX7_met_68 rfl (fun h68 => ?_) (fun h68 => ?_)
              · refine J_iinc (v := _ + 1) (L' := [(7, _), (8, _), (6, _), (5, _), (4, _), (0, _), (1, _), (2, _), (3, _)]) dX7_met_74 rfl rfl (by decide) rfl ?_
                refine J_goto (tgt := 17) dX7_met_77 rfl ?_
                refine xx_J.pick [0, 2, 3, 4, 5, 6, 7, 8] rfl ?_
                exact ih _ _  (by rw [hx]; exact nI_1 i) (by rw [hacc]; first | exact bx_1 (by unfold mtF; first | exact if_pos (by first | (refine ⟨by assumption, ?_⟩; first | exact Or.inl ⟨by assumption, by assumption⟩ | exact Or.inr ⟨by assumption, by assumption⟩) | assumption)) | exact bx_0 (by unfold mtF; exact if_neg (fun z => by first | contradiction | exact absurd z.1 (by assumption) | exact z.1 (by assumption) | (obtain ⟨z1, ⟨z2, z3⟩ | ⟨z2, z3⟩⟩ := z <;> contradiction))))
              · refine J_iinc (v := _ + 1) (L' := [(4, _), (8, _), (7, _), (6, _), (5, _), (0, _), (1, _), (2, _), (3, _)]) dX7_met_71 rfl rfl (by decide) rfl ?_
                refine J_iinc (v := _ + 1) (L' := [(7, _), (4, _), (8, _), (6, _), (5, _), (0, _), (1, _), (2, _), (3, _)]) dX7_met_74 rfl rfl (by decide) rfl ?_
                refine J_goto (tgt := 17) dX7_met_77 rfl ?_
                refine xx_J.pick [0, 3, 4, 1, 5, 6, 7, 8] rfl ?_
                exact ih _ _  (by rw [hx]; exact nI_1 i) (by rw [hacc]; first | exact bx_1 (by unfold mtF; first | exact if_pos (by first | (refine ⟨by assumption, ?_⟩; first | exact Or.inl ⟨by assumption, by assumption⟩ | exact Or.inr ⟨by assumption, by assumption⟩) | assumption)) | exact bx_0 (by unfold mtF; exact if_neg (fun z => by first | contradiction | exact absurd z.1 (by assumption) | exact z.1 (by assumption) | (obtain ⟨z1, ⟨z2, z3⟩ | ⟨z2, z3⟩⟩ := z <;> contradiction))))
          · refine J_aload dX7_met_47 rfl ?_
            refine J_iconst (v := 2) dX7_met_49 (by decide) ?_
            refine J_ialdN 2 dX7_met_50 (pb i hii) rfl (by decide) (by decide) ?_
            refine J_iload_n dX7_met_51 rfl rfl ?_
            refine J_icmp_eq (tgt := 71) dX7_met_52 rfl (fun h52 => ?_) (fun h52 => ?_)
            · refine J_iinc (v := _ + 1) (L' := [(4, _), (8, _), (7, _), (6, _), (5, _), (0, _), (1, _), (2, _), (3, _)]) dX7_met_71 rfl rfl (by decide) rfl ?_
              refine J_iinc (v := _ + 1) (L' := [(7, _), (4, _), (8, _), (6, _), (5, _), (0, _), (1, _), (2, _), (3, _)]) dX7_met_74 rfl rfl (by decide) rfl ?_
              refine J_goto (tgt := 17) dX7_met_77 rfl ?_
              refine xx_J.pick [0, 3, 4, 1, 5, 6, 7, 8] rfl ?_
              exact ih _ _  (by rw [hx]; exact nI_1 i) (by rw [hacc]; first | exact bx_1 (by unfold mtF; first | exact if_pos (by first | (refine ⟨by assumption, ?_⟩; first | exact Or.inl ⟨by assumption, by assumption⟩ | exact Or.inr ⟨by assumption, by assumption⟩) | assumption)) | exact bx_0 (by unfold mtF; exact if_neg (fun z => by first | contradiction | exact absurd z.1 (by assumption) | exact z.1 (by assumption) | (obtain ⟨z1, ⟨z2, z3⟩ | ⟨z2, z3⟩⟩ := z <;> contradiction))))
            · refine J_aload dX7_met_55 rfl ?_
              refine J_iconst (v := 1) dX7_met_57 (by decide) ?_
              refine J_ialdN 1 dX7_met_58 (pb i hii) rfl (by decide) (by decide) ?_
              refine J_iload_n dX7_met_59 rfl rfl ?_
              refine J_icmp_ne (tgt := 74) dX7_met_60 rfl (fun h60 => ?_) (fun h60 => ?_)
              · refine J_iinc (v := _ + 1) (L' := [(7, _), (8, _), (6, _), (5, _), (4, _), (0, _), (1, _), (2, _), (3, _)]) dX7_met_74 rfl rfl (by decide) rfl ?_
                refine J_goto (tgt := 17) dX7_met_77 rfl ?_
                refine xx_J.pick [0, 2, 3, 4, 5, 6, 7, 8] rfl ?_
                exact ih _ _  (by rw [hx]; exact nI_1 i) (by rw [hacc]; first | exact bx_1 (by unfold mtF; first | exact if_pos (by first | (refine ⟨by assumption, ?_⟩; first | exact Or.inl ⟨by assumption, by assumption⟩ | exact Or.inr ⟨by assumption, by assumption⟩) | assumption)) | exact bx_0 (by unfold mtF; exact if_neg (fun z => by first | contradiction | exact absurd z.1 (by assumption) | exact z.1 (by assumption) | (obtain ⟨z1, ⟨z2, z3⟩ | ⟨z2, z3⟩⟩ := z <;> contradiction))))
              · refine J_aload dX7_met_63 rfl ?_
                refine J_iconst (v := 2) dX7_met_65 (by decide) ?_
                refine J_ialdN 2 dX7_met_66 (pb i hii) rfl (by decide) (by decide) ?_
                refine J_iload_n dX7_met_67 rfl rfl ?_
                refine J_icmp_ne (tgt := 74) dX7_met_68 rfl (fun h68 => ?_) (fun h68 => ?_)
                · refine J_iinc (v := _ + 1) (L' := [(7, _), (8, _), (6, _), (5, _), (4, _), (0, _), (1, _), (2, _), (3, _)]) dX7_met_74 rfl rfl (by decide) rfl ?_
                  refine J_goto (tgt := 17) dX7_met_77 rfl ?_
                  refine xx_J.pick [0, 2, 3, 4, 5, 6, 7, 8] rfl ?_
                  exact ih _ _  (by rw [hx]; exact nI_1 i) (by rw [hacc]; first | exact bx_1 (by unfold mtF; first | exact if_pos (by first | (refine ⟨by assumption, ?_⟩; first | exact Or.inl ⟨by assumption, by assumption⟩ | exact Or.inr ⟨by assumption, by assumption⟩) | assumption)) | exact bx_0 (by unfold mtF; exact if_neg (fun z => by first | contradiction | exact absurd z.1 (by assumption) | exact z.1 (by assumption) | (obtain ⟨z1, ⟨z2, z3⟩ | ⟨z2, z3⟩⟩ := z <;> contradiction))))
                · refine J_iinc (v := _ + 1) (L' := [(4, _), (8, _), (7, _), (6, _), (5, _), (0, _), (1, _), (2, _), (3, _)]) dX7_met_71 rfl rfl (by decide) rfl ?_
                  refine J_iinc (v := _ + 1) (L' := [(7, _), (4, _), (8, _), (6, _), (5, _), (0, _), (1, _), (2, _), (3, _)]) dX7_met_74 rfl rfl (by decide) rfl ?_
                  refine J_goto (tgt := 17) dX7_met_77 rfl ?_
                  refine xx_J.pick [0, 3, 4, 1, 5, 6, 7, 8] rfl ?_
                  exact ih _ _  (by rw [hx]; exact nI_1 i) (by rw [hacc]; first | exact bx_1 (by unfold mtF; first | exact if_pos (by first | (refine ⟨by assumption, ?_⟩; first | exact Or.inl ⟨by assumption, by assumption⟩ | exact Or.inr ⟨by assumption, by assumption⟩) | assumption)) | exact bx_0 (by unfold mtF; exact if_neg (fun z => by first | contradiction | exact absurd z.1 (by assumption) | exact z.1 (by assumption) | (obtain ⟨z1, ⟨z2, z3⟩ | ⟨z2, z3⟩⟩ := z <;> contradiction))))
  refine xx_J.pick [0, 1, 2, 3, 4, 5, 6, 7] rfl ?_
  exact loop 0 (by omega) _ _  rfl rfl
theorem c_X7_ofMet (hst : l.stackTraces = false) {h : Nat} {S : sS} (hS : simW h S A) (hnb : S.2.2 1 < 1000) (hnr : S.2.2 3 < 1000) (w : Int32) : xx_C G l yX7_ofMet mX7_ofMet 2 48 0 0 [.ref h, .int w] A n (xx_ro (some (.int (omS S w))) A n) := by
  have hS0 := hS
  obtain ⟨ho, p1, p2, p6, ⟨fa, pa, pf⟩, pb, pr⟩ := hS
  refine J_C hst (by decide +kernel) rfl rfl rfl (Nat.le_of_ble_eq_true rfl) ?_
  show xx_J _ _ _ _ _ _ _ _ 0 [(0, _), (1, _)] [] _ _ _ _
  refine J_iconst (v := 0) dX7_ofMet_0 (by decide) ?_
  refine J_istore_n (L' := [(2, _), (0, _), (1, _)]) dX7_ofMet_1 rfl (by decide) rfl ?_
  refine J_aload_n dX7_ofMet_2 rfl rfl ?_
  refine J_getf dX7_ofMet_3 fl_X7_30 (ho) rfl ?_
  refine J_astore_n (L' := [(3, _), (2, _), (0, _), (1, _)]) dX7_ofMet_6 rfl (by decide) rfl ?_
  refine J_aload_n dX7_ofMet_7 rfl rfl ?_
  refine J_alen (v := nI (S.2.2 1)) dX7_ofMet_8 pa (by decide) rfl ?_
  refine J_istore (L' := [(4, _), (3, _), (2, _), (0, _), (1, _)]) dX7_ofMet_9 (by decide) rfl ?_
  refine J_iconst (v := 0) dX7_ofMet_11 (by decide) ?_
  refine J_istore (L' := [(5, _), (4, _), (3, _), (2, _), (0, _), (1, _)]) dX7_ofMet_12 (by decide) rfl ?_
  have loop : ∀ i, i ≤ (S.2.2 1) → ∀ (x acc : Int32) , (x = nI i) → (acc = bx_sum (omF S w) i) → xx_J G l mX7_ofMet 2 48 0 0 (xx_ro (some (.int (omS S w))) A n) 14 [(5, .int x), (4, .int (nI (S.2.2 1))), (3, .ref (S.2.2 0)), (2, .int acc), (0, .ref h), (1, .int w)] [] A n 0 0 := by
    refine xx_dn ?_ ?_
    · intro x acc   hx hacc
      have en : (nI (S.2.2 1)).toInt = S.2.2 1 := i_n (by omega)
      have ex : x.toInt = (S.2.2 1) := by rw [hx]; exact i_n (by omega)
      refine J_iload dX7_ofMet_14 rfl ?_
      refine J_iload dX7_ofMet_16 rfl ?_
      refine J_icmp_ge (tgt := 75) dX7_ofMet_18 rfl (fun h18 => ?_) (fun h18 => ?_)
      · refine J_iload_n dX7_ofMet_75 rfl rfl ?_
        refine J_ireturn dX7_ofMet_76 rfl rfl (by decide) (by decide) ?_
        exact ⟨by rw [hacc]; rfl, rfl, rfl⟩
      · first | (exfalso; simp only [i_lt, i_le, i_eq, i_0, i_1, i_2, i_3, i_4, i_5, i_6, i_8, i_9, i_10, i_12, i_16, i_20, i_m1] at h18; omega) | (exfalso; simp only [s_up, a_up, va_up, i_lt, i_le, i_eq, i_0, i_1, i_2, i_3, i_4, i_5, i_6, i_8, i_9, i_10, i_12, i_16, i_20, i_m1, ↓reduceIte, Nat.reduceEqDiff] at h18; omega)
    · intro i hii ih x acc   hx hacc
      have en : (nI (S.2.2 1)).toInt = S.2.2 1 := i_n (by omega)
      have ex : x.toInt = i := by rw [hx]; exact i_n (by omega)
      refine J_iload dX7_ofMet_14 rfl ?_
      refine J_iload dX7_ofMet_16 rfl ?_
      refine J_icmp_ge (tgt := 75) dX7_ofMet_18 rfl (fun h18 => ?_) (fun h18 => ?_)
      · first | (exfalso; simp only [i_lt, i_le, i_eq, i_0, i_1, i_2, i_3, i_4, i_5, i_6, i_8, i_9, i_10, i_12, i_16, i_20, i_m1] at h18; omega) | (exfalso; simp only [s_up, a_up, va_up, i_lt, i_le, i_eq, i_0, i_1, i_2, i_3, i_4, i_5, i_6, i_8, i_9, i_10, i_12, i_16, i_20, i_m1, ↓reduceIte, Nat.reduceEqDiff] at h18; omega)
      · refine J_aload_n dX7_ofMet_21 rfl rfl ?_
        refine J_iload dX7_ofMet_22 rfl ?_
        refine J_aaldR i dX7_ofMet_24 (Or.inl rfl) pa hx hii (by omega) (pf i hii) ?_
        refine J_astore (L' := [(6, _), (5, _), (4, _), (3, _), (2, _), (0, _), (1, _)]) dX7_ofMet_25 (by decide) rfl ?_
        refine J_iload_n dX7_ofMet_27 rfl rfl ?_
        refine J_aload dX7_ofMet_28 rfl ?_
        refine J_iconst (v := 1) dX7_ofMet_30 (by decide) ?_
        refine J_ialdN 1 dX7_ofMet_31 (pb i hii) rfl (by decide) (by decide) ?_
        refine J_iload_n dX7_ofMet_32 rfl rfl ?_
        refine J_icmp_ne (tgt := 47) dX7_ofMet_33 rfl (fun h33 => ?_) (fun h33 => ?_)
        · refine J_aload dX7_ofMet_47 rfl ?_
          refine J_iconst (v := 2) dX7_ofMet_49 (by decide) ?_
          refine J_ialdN 2 dX7_ofMet_50 (pb i hii) rfl (by decide) (by decide) ?_
          refine J_iload_n dX7_ofMet_51 rfl rfl ?_
          refine J_icmp_ne (tgt := 66) dX7_ofMet_52 rfl (fun h52 => ?_) (fun h52 => ?_)
          · refine J_iconst (v := 0) dX7_ofMet_66 (by decide) ?_
            refine J_iadd dX7_ofMet_67 ?_
            refine J_istore_n (L' := [(2, _), (6, _), (5, _), (4, _), (3, _), (0, _), (1, _)]) dX7_ofMet_68 rfl (by decide) rfl ?_
            refine J_iinc (v := _ + 1) (L' := [(5, _), (2, _), (6, _), (4, _), (3, _), (0, _), (1, _)]) dX7_ofMet_69 rfl rfl (by decide) rfl ?_
            refine J_goto (tgt := 14) dX7_ofMet_72 rfl ?_
            refine xx_J.pick [0, 3, 4, 1, 5, 6] rfl ?_
            exact ih _ _  (by rw [hx]; exact nI_1 i) (by rw [hacc]; first | exact bx_v (by unfold omF; exact if_pos (by assumption)) | exact bx_v (by unfold omF; rw [if_neg (by assumption)]; exact if_pos (by assumption)) | exact bx_v (by unfold omF; rw [if_neg (by assumption)]; exact if_neg (by assumption)))
          · refine J_aload_n dX7_ofMet_55 rfl rfl ?_
            refine J_aload dX7_ofMet_56 rfl ?_
            refine J_iconst (v := 1) dX7_ofMet_58 (by decide) ?_
            refine J_ialdN 1 dX7_ofMet_59 (pb i hii) rfl (by decide) (by decide) ?_
            refine J_callVr (As := [_]) dX7_ofMet_60 ml_X7_57 cal_X7_points im_X7_points se_X7_points (ho) rfl rfl rfl (Nat.le_of_ble_eq_true rfl) ⟨by decide, by decide⟩ ⟨by decide, by decide⟩ (c_X7_points hst hS0 hnb hnr _) ?_
            refine J_goto (tgt := 67) dX7_ofMet_63 rfl ?_
            refine J_iadd dX7_ofMet_67 ?_
            refine J_istore_n (L' := [(2, _), (6, _), (5, _), (4, _), (3, _), (0, _), (1, _)]) dX7_ofMet_68 rfl (by decide) rfl ?_
            refine J_iinc (v := _ + 1) (L' := [(5, _), (2, _), (6, _), (4, _), (3, _), (0, _), (1, _)]) dX7_ofMet_69 rfl rfl (by decide) rfl ?_
            refine J_goto (tgt := 14) dX7_ofMet_72 rfl ?_
            refine xx_J.pick [0, 3, 4, 1, 5, 6] rfl ?_
            exact ih _ _  (by rw [hx]; exact nI_1 i) (by rw [hacc]; first | exact bx_v (by unfold omF; exact if_pos (by assumption)) | exact bx_v (by unfold omF; rw [if_neg (by assumption)]; exact if_pos (by assumption)) | exact bx_v (by unfold omF; rw [if_neg (by assumption)]; exact if_neg (by assumption)))
        · refine J_aload_n dX7_ofMet_36 rfl rfl ?_
          refine J_aload dX7_ofMet_37 rfl ?_
          refine J_iconst (v := 2) dX7_ofMet_39 (by decide) ?_
          refine J_ialdN 2 dX7_ofMet_40 (pb i hii) rfl (by decide) (by decide) ?_
          refine J_callVr (As := [_]) dX7_ofMet_41 ml_X7_57 cal_X7_points im_X7_points se_X7_points (ho) rfl rfl rfl (Nat.le_of_ble_eq_true rfl) ⟨by decide, by decide⟩ ⟨by decide, by decide⟩ (c_X7_points hst hS0 hnb hnr _) ?_
          refine J_goto (tgt := 67) dX7_ofMet_44 rfl ?_
          refine J_iadd dX7_ofMet_67 ?_
          refine J_istore_n (L' := [(2, _), (6, _), (5, _), (4, _), (3, _), (0, _), (1, _)]) dX7_ofMet_68 rfl (by decide) rfl ?_
          refine J_iinc (v := _ + 1) (L' := [(5, _), (2, _), (6, _), (4, _), (3, _), (0, _), (1, _)]) dX7_ofMet_69 rfl rfl (by decide) rfl ?_
          refine J_goto (tgt := 14) dX7_ofMet_72 rfl ?_
          refine xx_J.pick [0, 3, 4, 1, 5, 6] rfl ?_
          exact ih _ _  (by rw [hx]; exact nI_1 i) (by rw [hacc]; first | exact bx_v (by unfold omF; exact if_pos (by assumption)) | exact bx_v (by unfold omF; rw [if_neg (by assumption)]; exact if_pos (by assumption)) | exact bx_v (by unfold omF; rw [if_neg (by assumption)]; exact if_neg (by assumption)))
  refine xx_J.pick [0, 1, 2, 3, 4, 5] rfl ?_
  exact loop 0 (by omega) _ _  rfl rfl
theorem c_X7_belts (hst : l.stackTraces = false) {h : Nat} {S : sS} (hS : simW h S A) (hnb : S.2.2 1 < 1000) (hnr : S.2.2 3 < 1000) (w : Int32) : xx_C G l yX7_belts mX7_belts 0 0 0 0 [.ref h, .int w] A n (xx_ro (some (.int (blS S w))) A n) := by
  have hS0 := hS
  obtain ⟨ho, p1, p2, p6, ⟨fa, pa, pf⟩, pb, pr⟩ := hS
  refine J_C hst (by decide +kernel) rfl rfl rfl (Nat.le_of_ble_eq_true rfl) ?_
  show xx_J _ _ _ _ _ _ _ _ 0 [(0, _), (1, _)] [] _ _ _ _
  refine J_iconst (v := 0) dX7_belts_0 (by decide) ?_
  refine J_istore_n (L' := [(2, _), (0, _), (1, _)]) dX7_belts_1 rfl (by decide) rfl ?_
  refine J_aload_n dX7_belts_2 rfl rfl ?_
  refine J_getf dX7_belts_3 fl_X7_30 (ho) rfl ?_
  refine J_astore_n (L' := [(3, _), (2, _), (0, _), (1, _)]) dX7_belts_6 rfl (by decide) rfl ?_
  refine J_aload_n dX7_belts_7 rfl rfl ?_
  refine J_alen (v := nI (S.2.2 1)) dX7_belts_8 pa (by decide) rfl ?_
  refine J_istore (L' := [(4, _), (3, _), (2, _), (0, _), (1, _)]) dX7_belts_9 (by decide) rfl ?_
  refine J_iconst (v := 0) dX7_belts_11 (by decide) ?_
  refine J_istore (L' := [(5, _), (4, _), (3, _), (2, _), (0, _), (1, _)]) dX7_belts_12 (by decide) rfl ?_
  have loop : ∀ i, i ≤ (S.2.2 1) → ∀ (x acc : Int32) , (x = nI i) → (acc = bx_sum (blF S w) i) → xx_J G l mX7_belts 0 0 0 0 (xx_ro (some (.int (blS S w))) A n) 14 [(5, .int x), (4, .int (nI (S.2.2 1))), (3, .ref (S.2.2 0)), (2, .int acc), (0, .ref h), (1, .int w)] [] A n 0 0 := by
    refine xx_dn ?_ ?_
    · intro x acc   hx hacc
      have en : (nI (S.2.2 1)).toInt = S.2.2 1 := i_n (by omega)
      have ex : x.toInt = (S.2.2 1) := by rw [hx]; exact i_n (by omega)
      refine J_iload dX7_belts_14 rfl ?_
      refine J_iload dX7_belts_16 rfl ?_
      refine J_icmp_ge (tgt := 61) dX7_belts_18 rfl (fun h18 => ?_) (fun h18 => ?_)
      · refine J_iload_n dX7_belts_61 rfl rfl ?_
        refine J_ireturn dX7_belts_62 rfl rfl (by decide) (by decide) ?_
        exact ⟨by rw [hacc]; rfl, rfl, rfl⟩
      · first | (exfalso; simp only [i_lt, i_le, i_eq, i_0, i_1, i_2, i_3, i_4, i_5, i_6, i_8, i_9, i_10, i_12, i_16, i_20, i_m1] at h18; omega) | (exfalso; simp only [s_up, a_up, va_up, i_lt, i_le, i_eq, i_0, i_1, i_2, i_3, i_4, i_5, i_6, i_8, i_9, i_10, i_12, i_16, i_20, i_m1, ↓reduceIte, Nat.reduceEqDiff] at h18; omega)
    · intro i hii ih x acc   hx hacc
      have en : (nI (S.2.2 1)).toInt = S.2.2 1 := i_n (by omega)
      have ex : x.toInt = i := by rw [hx]; exact i_n (by omega)
      refine J_iload dX7_belts_14 rfl ?_
      refine J_iload dX7_belts_16 rfl ?_
      refine J_icmp_ge (tgt := 61) dX7_belts_18 rfl (fun h18 => ?_) (fun h18 => ?_)
      · first | (exfalso; simp only [i_lt, i_le, i_eq, i_0, i_1, i_2, i_3, i_4, i_5, i_6, i_8, i_9, i_10, i_12, i_16, i_20, i_m1] at h18; omega) | (exfalso; simp only [s_up, a_up, va_up, i_lt, i_le, i_eq, i_0, i_1, i_2, i_3, i_4, i_5, i_6, i_8, i_9, i_10, i_12, i_16, i_20, i_m1, ↓reduceIte, Nat.reduceEqDiff] at h18; omega)
      · refine J_aload_n dX7_belts_21 rfl rfl ?_
        refine J_iload dX7_belts_22 rfl ?_
        refine J_aaldR i dX7_belts_24 (Or.inl rfl) pa hx hii (by omega) (pf i hii) ?_
        refine J_astore (L' := [(6, _), (5, _), (4, _), (3, _), (2, _), (0, _), (1, _)]) dX7_belts_25 (by decide) rfl ?_
        refine J_iload_n dX7_belts_27 rfl rfl ?_
        refine J_aload dX7_belts_28 rfl ?_
        refine J_iconst (v := 1) dX7_belts_30 (by decide) ?_
        refine J_ialdN 1 dX7_belts_31 (pb i hii) rfl (by decide) (by decide) ?_
        refine J_iload_n dX7_belts_32 rfl rfl ?_
        refine J_icmp_ne (tgt := 40) dX7_belts_33 rfl (fun h33 => ?_) (fun h33 => ?_)
        · refine J_aload dX7_belts_40 rfl ?_
          refine J_iconst (v := 2) dX7_belts_42 (by decide) ?_
          refine J_ialdN 2 dX7_belts_43 (pb i hii) rfl (by decide) (by decide) ?_
          refine J_iload_n dX7_belts_44 rfl rfl ?_
          refine J_icmp_ne (tgt := 52) dX7_belts_45 rfl (fun h45 => ?_) (fun h45 => ?_)
          · refine J_iconst (v := 0) dX7_belts_52 (by decide) ?_
            refine J_iadd dX7_belts_53 ?_
            refine J_istore_n (L' := [(2, _), (6, _), (5, _), (4, _), (3, _), (0, _), (1, _)]) dX7_belts_54 rfl (by decide) rfl ?_
            refine J_iinc (v := _ + 1) (L' := [(5, _), (2, _), (6, _), (4, _), (3, _), (0, _), (1, _)]) dX7_belts_55 rfl rfl (by decide) rfl ?_
            refine J_goto (tgt := 14) dX7_belts_58 rfl ?_
            refine xx_J.pick [0, 3, 4, 1, 5, 6] rfl ?_
            exact ih _ _  (by rw [hx]; exact nI_1 i) (by rw [hacc]; first | exact bx_v (by unfold blF; exact if_pos (by assumption)) | exact bx_v (by unfold blF; rw [if_neg (by assumption)]; exact if_pos (by assumption)) | exact bx_v (by unfold blF; rw [if_neg (by assumption)]; exact if_neg (by assumption)))
          · refine J_iconst (v := -1) dX7_belts_48 (by decide) ?_
            refine J_goto (tgt := 53) dX7_belts_49 rfl ?_
            refine J_iadd dX7_belts_53 ?_
            refine J_istore_n (L' := [(2, _), (6, _), (5, _), (4, _), (3, _), (0, _), (1, _)]) dX7_belts_54 rfl (by decide) rfl ?_
            refine J_iinc (v := _ + 1) (L' := [(5, _), (2, _), (6, _), (4, _), (3, _), (0, _), (1, _)]) dX7_belts_55 rfl rfl (by decide) rfl ?_
            refine J_goto (tgt := 14) dX7_belts_58 rfl ?_
            refine xx_J.pick [0, 3, 4, 1, 5, 6] rfl ?_
            exact ih _ _  (by rw [hx]; exact nI_1 i) (by rw [hacc]; first | exact bx_v (by unfold blF; exact if_pos (by assumption)) | exact bx_v (by unfold blF; rw [if_neg (by assumption)]; exact if_pos (by assumption)) | exact bx_v (by unfold blF; rw [if_neg (by assumption)]; exact if_neg (by assumption)))
        · refine J_iconst (v := 1) dX7_belts_36 (by decide) ?_
          refine J_goto (tgt := 53) dX7_belts_37 rfl ?_
          refine J_iadd dX7_belts_53 ?_
          refine J_istore_n (L' := [(2, _), (6, _), (5, _), (4, _), (3, _), (0, _), (1, _)]) dX7_belts_54 rfl (by decide) rfl ?_
          refine J_iinc (v := _ + 1) (L' := [(5, _), (2, _), (6, _), (4, _), (3, _), (0, _), (1, _)]) dX7_belts_55 rfl rfl (by decide) rfl ?_
          refine J_goto (tgt := 14) dX7_belts_58 rfl ?_
          refine xx_J.pick [0, 3, 4, 1, 5, 6] rfl ?_
          exact ih _ _  (by rw [hx]; exact nI_1 i) (by rw [hacc]; first | exact bx_v (by unfold blF; exact if_pos (by assumption)) | exact bx_v (by unfold blF; rw [if_neg (by assumption)]; exact if_pos (by assumption)) | exact bx_v (by unfold blF; rw [if_neg (by assumption)]; exact if_neg (by assumption)))
  refine xx_J.pick [0, 1, 2, 3, 4, 5] rfl ?_
  exact loop 0 (by omega) _ _  rfl rfl
theorem c_X7_floats (hst : l.stackTraces = false) {h : Nat} {S : sS} (hS : simW h S A) (hnb : S.2.2 1 < 1000) (hnr : S.2.2 3 < 1000) (w : Int32) : xx_C G l yX7_floats mX7_floats 0 0 0 0 [.ref h, .int w] A n (xx_ro (some (.int (flS S w))) A n) := by
  have hS0 := hS
  obtain ⟨ho, p1, p2, p6, ⟨fa, pa, pf⟩, pb, pr⟩ := hS
  refine J_C hst (by decide +kernel) rfl rfl rfl (Nat.le_of_ble_eq_true rfl) ?_
  show xx_J _ _ _ _ _ _ _ _ 0 [(0, _), (1, _)] [] _ _ _ _
  refine J_iconst (v := 0) dX7_floats_0 (by decide) ?_
  refine J_istore_n (L' := [(2, _), (0, _), (1, _)]) dX7_floats_1 rfl (by decide) rfl ?_
  refine J_aload_n dX7_floats_2 rfl rfl ?_
  refine J_getf dX7_floats_3 fl_X7_30 (ho) rfl ?_
  refine J_astore_n (L' := [(3, _), (2, _), (0, _), (1, _)]) dX7_floats_6 rfl (by decide) rfl ?_
  refine J_aload_n dX7_floats_7 rfl rfl ?_
  refine J_alen (v := nI (S.2.2 1)) dX7_floats_8 pa (by decide) rfl ?_
  refine J_istore (L' := [(4, _), (3, _), (2, _), (0, _), (1, _)]) dX7_floats_9 (by decide) rfl ?_
  refine J_iconst (v := 0) dX7_floats_11 (by decide) ?_
  refine J_istore (L' := [(5, _), (4, _), (3, _), (2, _), (0, _), (1, _)]) dX7_floats_12 (by decide) rfl ?_
  have loop : ∀ i, i ≤ (S.2.2 1) → ∀ (x acc : Int32) , (x = nI i) → (acc = bx_sum (flF S w) i) → xx_J G l mX7_floats 0 0 0 0 (xx_ro (some (.int (flS S w))) A n) 14 [(5, .int x), (4, .int (nI (S.2.2 1))), (3, .ref (S.2.2 0)), (2, .int acc), (0, .ref h), (1, .int w)] [] A n 0 0 := by
    refine xx_dn ?_ ?_
    · intro x acc   hx hacc
      have en : (nI (S.2.2 1)).toInt = S.2.2 1 := i_n (by omega)
      have ex : x.toInt = (S.2.2 1) := by rw [hx]; exact i_n (by omega)
      refine J_iload dX7_floats_14 rfl ?_
      refine J_iload dX7_floats_16 rfl ?_
      refine J_icmp_ge (tgt := 49) dX7_floats_18 rfl (fun h18 => ?_) (fun h18 => ?_)
      · refine J_iload_n dX7_floats_49 rfl rfl ?_
        refine J_ireturn dX7_floats_50 rfl rfl (by decide) (by decide) ?_
        exact ⟨by rw [hacc]; rfl, rfl, rfl⟩
      · first | (exfalso; simp only [i_lt, i_le, i_eq, i_0, i_1, i_2, i_3, i_4, i_5, i_6, i_8, i_9, i_10, i_12, i_16, i_20, i_m1] at h18; omega) | (exfalso; simp only [s_up, a_up, va_up, i_lt, i_le, i_eq, i_0, i_1, i_2, i_3, i_4, i_5, i_6, i_8, i_9, i_10, i_12, i_16, i_20, i_m1, ↓reduceIte, Nat.reduceEqDiff] at h18; omega)
    · intro i hii ih x acc   hx hacc
      have en : (nI (S.2.2 1)).toInt = S.2.2 1 := i_n (by omega)
      have ex : x.toInt = i := by rw [hx]; exact i_n (by omega)
      refine J_iload dX7_floats_14 rfl ?_
      refine J_iload dX7_floats_16 rfl ?_
      refine J_icmp_ge (tgt := 49) dX7_floats_18 rfl (fun h18 => ?_) (fun h18 => ?_)
      · first | (exfalso; simp only [i_lt, i_le, i_eq, i_0, i_1, i_2, i_3, i_4, i_5, i_6, i_8, i_9, i_10, i_12, i_16, i_20, i_m1] at h18; omega) | (exfalso; simp only [s_up, a_up, va_up, i_lt, i_le, i_eq, i_0, i_1, i_2, i_3, i_4, i_5, i_6, i_8, i_9, i_10, i_12, i_16, i_20, i_m1, ↓reduceIte, Nat.reduceEqDiff] at h18; omega)
      · refine J_aload_n dX7_floats_21 rfl rfl ?_
        refine J_iload dX7_floats_22 rfl ?_
        refine J_aaldR i dX7_floats_24 (Or.inl rfl) pa hx hii (by omega) (pf i hii) ?_
        refine J_astore (L' := [(6, _), (5, _), (4, _), (3, _), (2, _), (0, _), (1, _)]) dX7_floats_25 (by decide) rfl ?_
        refine J_iload_n dX7_floats_27 rfl rfl ?_
        refine J_aload dX7_floats_28 rfl ?_
        refine J_iconst (v := 4) dX7_floats_30 (by decide) ?_
        refine J_ialdN 4 dX7_floats_31 (pb i hii) rfl (by decide) (by decide) ?_
        refine J_iload_n dX7_floats_32 rfl rfl ?_
        refine J_icmp_ne (tgt := 40) dX7_floats_33 rfl (fun h33 => ?_) (fun h33 => ?_)
        · refine J_iconst (v := 0) dX7_floats_40 (by decide) ?_
          refine J_iadd dX7_floats_41 ?_
          refine J_istore_n (L' := [(2, _), (6, _), (5, _), (4, _), (3, _), (0, _), (1, _)]) dX7_floats_42 rfl (by decide) rfl ?_
          refine J_iinc (v := _ + 1) (L' := [(5, _), (2, _), (6, _), (4, _), (3, _), (0, _), (1, _)]) dX7_floats_43 rfl rfl (by decide) rfl ?_
          refine J_goto (tgt := 14) dX7_floats_46 rfl ?_
          refine xx_J.pick [0, 3, 4, 1, 5, 6] rfl ?_
          exact ih _ _  (by rw [hx]; exact nI_1 i) (by rw [hacc]; first | exact bx_v (by unfold flF; exact if_pos (by assumption)) | exact bx_v (by unfold flF; exact if_neg (by assumption)))
        · refine J_iconst (v := 1) dX7_floats_36 (by decide) ?_
          refine J_goto (tgt := 41) dX7_floats_37 rfl ?_
          refine J_iadd dX7_floats_41 ?_
          refine J_istore_n (L' := [(2, _), (6, _), (5, _), (4, _), (3, _), (0, _), (1, _)]) dX7_floats_42 rfl (by decide) rfl ?_
          refine J_iinc (v := _ + 1) (L' := [(5, _), (2, _), (6, _), (4, _), (3, _), (0, _), (1, _)]) dX7_floats_43 rfl rfl (by decide) rfl ?_
          refine J_goto (tgt := 14) dX7_floats_46 rfl ?_
          refine xx_J.pick [0, 3, 4, 1, 5, 6] rfl ?_
          exact ih _ _  (by rw [hx]; exact nI_1 i) (by rw [hacc]; first | exact bx_v (by unfold flF; exact if_pos (by assumption)) | exact bx_v (by unfold flF; exact if_neg (by assumption)))
  refine xx_J.pick [0, 1, 2, 3, 4, 5] rfl ?_
  exact loop 0 (by omega) _ _  rfl rfl
theorem wb_01 {S : sS} {w : Int32} : ∀ i, wbS S w i = 0 ∨ wbS S w i = 1 := by
  intro i
  induction i with
  | zero => exact Or.inl rfl
  | succ i ih =>
    unfold wbS
    split
    · split
      · exact Or.inr rfl
      · exact Or.inl rfl
    · exact ih
theorem wb_nar {S : sS} {w acc : Int32} {i : Nat} (h : acc = wbS S w i) : narrow .boolean (.int acc) = .int acc := by
  rcases wb_01 (S := S) (w := w) i with e | e <;> rw [h, e] <;> rfl
theorem c_X7_wasBlue (hst : l.stackTraces = false) {h : Nat} {S : sS} (hS : simW h S A) (hnb : S.2.2 1 < 1000) (hnr : S.2.2 3 < 1000) (w : Int32) : xx_C G l yX7_wasBlue mX7_wasBlue 0 0 0 0 [.ref h, .int w] A n (xx_ro (some (.int (wbS S w (S.2.2 1)))) A n) := by
  have hS0 := hS
  obtain ⟨ho, p1, p2, p6, ⟨fa, pa, pf⟩, pb, pr⟩ := hS
  refine J_C hst (by decide +kernel) rfl rfl rfl (Nat.le_of_ble_eq_true rfl) ?_
  show xx_J _ _ _ _ _ _ _ _ 0 [(0, _), (1, _)] [] _ _ _ _
  refine J_iconst (v := 0) dX7_wasBlue_0 (by decide) ?_
  refine J_istore_n (L' := [(2, _), (0, _), (1, _)]) dX7_wasBlue_1 rfl (by decide) rfl ?_
  refine J_aload_n dX7_wasBlue_2 rfl rfl ?_
  refine J_getf dX7_wasBlue_3 fl_X7_30 (ho) rfl ?_
  refine J_astore_n (L' := [(3, _), (2, _), (0, _), (1, _)]) dX7_wasBlue_6 rfl (by decide) rfl ?_
  refine J_aload_n dX7_wasBlue_7 rfl rfl ?_
  refine J_alen (v := nI (S.2.2 1)) dX7_wasBlue_8 pa (by decide) rfl ?_
  refine J_istore (L' := [(4, _), (3, _), (2, _), (0, _), (1, _)]) dX7_wasBlue_9 (by decide) rfl ?_
  refine J_iconst (v := 0) dX7_wasBlue_11 (by decide) ?_
  refine J_istore (L' := [(5, _), (4, _), (3, _), (2, _), (0, _), (1, _)]) dX7_wasBlue_12 (by decide) rfl ?_
  have loop : ∀ i, i ≤ (S.2.2 1) → ∀ (x acc : Int32) , (x = nI i) → (acc = wbS S w i) → xx_J G l mX7_wasBlue 0 0 0 0 (xx_ro (some (.int (wbS S w (S.2.2 1)))) A n) 14 [(5, .int x), (4, .int (nI (S.2.2 1))), (3, .ref (S.2.2 0)), (2, .int acc), (0, .ref h), (1, .int w)] [] A n 0 0 := by
    refine xx_dn ?_ ?_
    · intro x acc   hx hacc
      have en : (nI (S.2.2 1)).toInt = S.2.2 1 := i_n (by omega)
      have ex : x.toInt = (S.2.2 1) := by rw [hx]; exact i_n (by omega)
      refine J_iload dX7_wasBlue_14 rfl ?_
      refine J_iload dX7_wasBlue_16 rfl ?_
      refine J_icmp_ge (tgt := 63) dX7_wasBlue_18 rfl (fun h18 => ?_) (fun h18 => ?_)
      · refine J_iload_n dX7_wasBlue_63 rfl rfl ?_
        refine J_ireturn dX7_wasBlue_64 rfl (wb_nar hacc) (by decide) (by decide) ?_
        exact ⟨by rw [hacc], rfl, rfl⟩
      · first | (exfalso; simp only [i_lt, i_le, i_eq, i_0, i_1, i_2, i_3, i_4, i_5, i_6, i_8, i_9, i_10, i_12, i_16, i_20, i_m1] at h18; omega) | (exfalso; simp only [s_up, a_up, va_up, i_lt, i_le, i_eq, i_0, i_1, i_2, i_3, i_4, i_5, i_6, i_8, i_9, i_10, i_12, i_16, i_20, i_m1, ↓reduceIte, Nat.reduceEqDiff] at h18; omega)
    · intro i hii ih x acc   hx hacc
      have en : (nI (S.2.2 1)).toInt = S.2.2 1 := i_n (by omega)
      have ex : x.toInt = i := by rw [hx]; exact i_n (by omega)
      refine J_iload dX7_wasBlue_14 rfl ?_
      refine J_iload dX7_wasBlue_16 rfl ?_
      refine J_icmp_ge (tgt := 63) dX7_wasBlue_18 rfl (fun h18 => ?_) (fun h18 => ?_)
      · first | (exfalso; simp only [i_lt, i_le, i_eq, i_0, i_1, i_2, i_3, i_4, i_5, i_6, i_8, i_9, i_10, i_12, i_16, i_20, i_m1] at h18; omega) | (exfalso; simp only [s_up, a_up, va_up, i_lt, i_le, i_eq, i_0, i_1, i_2, i_3, i_4, i_5, i_6, i_8, i_9, i_10, i_12, i_16, i_20, i_m1, ↓reduceIte, Nat.reduceEqDiff] at h18; omega)
      · refine J_aload_n dX7_wasBlue_21 rfl rfl ?_
        refine J_iload dX7_wasBlue_22 rfl ?_
        refine J_aaldR i dX7_wasBlue_24 (Or.inl rfl) pa hx hii (by omega) (pf i hii) ?_
        refine J_astore (L' := [(6, _), (5, _), (4, _), (3, _), (2, _), (0, _), (1, _)]) dX7_wasBlue_25 (by decide) rfl ?_
        refine J_aload dX7_wasBlue_27 rfl ?_
        refine J_iconst (v := 1) dX7_wasBlue_29 (by decide) ?_
        refine J_ialdN 1 dX7_wasBlue_30 (pb i hii) rfl (by decide) (by decide) ?_
        refine J_iload_n dX7_wasBlue_31 rfl rfl ?_
        refine J_icmp_eq (tgt := 43) dX7_wasBlue_32 rfl (fun h32 => ?_) (fun h32 => ?_)
        · refine J_aload dX7_wasBlue_43 rfl ?_
          refine J_iconst (v := 2) dX7_wasBlue_45 (by decide) ?_
          refine J_ialdN 2 dX7_wasBlue_46 (pb i hii) rfl (by decide) (by decide) ?_
          refine J_iload_n dX7_wasBlue_47 rfl rfl ?_
          refine J_icmp_ne (tgt := 55) dX7_wasBlue_48 rfl (fun h48 => ?_) (fun h48 => ?_)
          · refine J_iconst (v := 0) dX7_wasBlue_55 (by decide) ?_
            refine J_istore_n (L' := [(2, _), (6, _), (5, _), (4, _), (3, _), (0, _), (1, _)]) dX7_wasBlue_56 rfl (by decide) rfl ?_
            refine J_iinc (v := _ + 1) (L' := [(5, _), (2, _), (6, _), (4, _), (3, _), (0, _), (1, _)]) dX7_wasBlue_57 rfl rfl (by decide) rfl ?_
            refine J_goto (tgt := 14) dX7_wasBlue_60 rfl ?_
            refine xx_J.pick [0, 3, 4, 1, 5, 6] rfl ?_
            exact ih _ _  (by rw [hx]; exact nI_1 i) (by unfold wbS; first | exact hacc | (rw [hacc]; exact (if_neg (fun z => by rcases z with z | z <;> contradiction)).symm) | (rw [if_pos (by first | exact Or.inl (by assumption) | exact Or.inr (by assumption))]; first | exact (if_pos (by assumption)).symm | exact (if_neg (by assumption)).symm))
          · refine J_iconst (v := 1) dX7_wasBlue_51 (by decide) ?_
            refine J_goto (tgt := 56) dX7_wasBlue_52 rfl ?_
            refine J_istore_n (L' := [(2, _), (6, _), (5, _), (4, _), (3, _), (0, _), (1, _)]) dX7_wasBlue_56 rfl (by decide) rfl ?_
            refine J_iinc (v := _ + 1) (L' := [(5, _), (2, _), (6, _), (4, _), (3, _), (0, _), (1, _)]) dX7_wasBlue_57 rfl rfl (by decide) rfl ?_
            refine J_goto (tgt := 14) dX7_wasBlue_60 rfl ?_
            refine xx_J.pick [0, 3, 4, 1, 5, 6] rfl ?_
            exact ih _ _  (by rw [hx]; exact nI_1 i) (by unfold wbS; first | exact hacc | (rw [hacc]; exact (if_neg (fun z => by rcases z with z | z <;> contradiction)).symm) | (rw [if_pos (by first | exact Or.inl (by assumption) | exact Or.inr (by assumption))]; first | exact (if_pos (by assumption)).symm | exact (if_neg (by assumption)).symm))
        · refine J_aload dX7_wasBlue_35 rfl ?_
          refine J_iconst (v := 2) dX7_wasBlue_37 (by decide) ?_
          refine J_ialdN 2 dX7_wasBlue_38 (pb i hii) rfl (by decide) (by decide) ?_
          refine J_iload_n dX7_wasBlue_39 rfl rfl ?_
          refine J_icmp_ne (tgt := 57) dX7_wasBlue_40 rfl (fun h40 => ?_) (fun h40 => ?_)
          · refine J_iinc (v := _ + 1) (L' := [(5, _), (6, _), (4, _), (3, _), (2, _), (0, _), (1, _)]) dX7_wasBlue_57 rfl rfl (by decide) rfl ?_
            refine J_goto (tgt := 14) dX7_wasBlue_60 rfl ?_
            refine xx_J.pick [0, 2, 3, 4, 5, 6] rfl ?_
            exact ih _ _  (by rw [hx]; exact nI_1 i) (by unfold wbS; first | exact hacc | (rw [hacc]; exact (if_neg (fun z => by rcases z with z | z <;> contradiction)).symm) | (rw [if_pos (by first | exact Or.inl (by assumption) | exact Or.inr (by assumption))]; first | exact (if_pos (by assumption)).symm | exact (if_neg (by assumption)).symm))
          · refine J_aload dX7_wasBlue_43 rfl ?_
            refine J_iconst (v := 2) dX7_wasBlue_45 (by decide) ?_
            refine J_ialdN 2 dX7_wasBlue_46 (pb i hii) rfl (by decide) (by decide) ?_
            refine J_iload_n dX7_wasBlue_47 rfl rfl ?_
            refine J_icmp_ne (tgt := 55) dX7_wasBlue_48 rfl (fun h48 => ?_) (fun h48 => ?_)
            · refine J_iconst (v := 0) dX7_wasBlue_55 (by decide) ?_
              refine J_istore_n (L' := [(2, _), (6, _), (5, _), (4, _), (3, _), (0, _), (1, _)]) dX7_wasBlue_56 rfl (by decide) rfl ?_
              refine J_iinc (v := _ + 1) (L' := [(5, _), (2, _), (6, _), (4, _), (3, _), (0, _), (1, _)]) dX7_wasBlue_57 rfl rfl (by decide) rfl ?_
              refine J_goto (tgt := 14) dX7_wasBlue_60 rfl ?_
              refine xx_J.pick [0, 3, 4, 1, 5, 6] rfl ?_
              exact ih _ _  (by rw [hx]; exact nI_1 i) (by unfold wbS; first | exact hacc | (rw [hacc]; exact (if_neg (fun z => by rcases z with z | z <;> contradiction)).symm) | (rw [if_pos (by first | exact Or.inl (by assumption) | exact Or.inr (by assumption))]; first | exact (if_pos (by assumption)).symm | exact (if_neg (by assumption)).symm))
            · refine J_iconst (v := 1) dX7_wasBlue_51 (by decide) ?_
              refine J_goto (tgt := 56) dX7_wasBlue_52 rfl ?_
              refine J_istore_n (L' := [(2, _), (6, _), (5, _), (4, _), (3, _), (0, _), (1, _)]) dX7_wasBlue_56 rfl (by decide) rfl ?_
              refine J_iinc (v := _ + 1) (L' := [(5, _), (2, _), (6, _), (4, _), (3, _), (0, _), (1, _)]) dX7_wasBlue_57 rfl rfl (by decide) rfl ?_
              refine J_goto (tgt := 14) dX7_wasBlue_60 rfl ?_
              refine xx_J.pick [0, 3, 4, 1, 5, 6] rfl ?_
              exact ih _ _  (by rw [hx]; exact nI_1 i) (by unfold wbS; first | exact hacc | (rw [hacc]; exact (if_neg (fun z => by rcases z with z | z <;> contradiction)).symm) | (rw [if_pos (by first | exact Or.inl (by assumption) | exact Or.inr (by assumption))]; first | exact (if_pos (by assumption)).symm | exact (if_neg (by assumption)).symm))
  refine xx_J.pick [0, 1, 2, 3, 4, 5] rfl ?_
  exact loop 0 (by omega) _ _  rfl rfl
theorem c_X7_open (hst : l.stackTraces = false) {h : Nat} {S : sS} (hS : simW h S A) (hnb : S.2.2 1 < 1000) (hnr : S.2.2 3 < 1000)  : xx_C G l yX7_open mX7_open 0 0 0 0 [.ref h] A n (xx_ro (some (.int (bx_sum (opF2 S) (S.2.2 1)))) A n) := by
  have hS0 := hS
  obtain ⟨ho, p1, p2, p6, ⟨fa, pa, pf⟩, pb, pr⟩ := hS
  refine J_C hst (by decide +kernel) rfl rfl rfl (Nat.le_of_ble_eq_true rfl) ?_
  show xx_J _ _ _ _ _ _ _ _ 0 [(0, _)] [] _ _ _ _
  refine J_iconst (v := 0) dX7_open_0 (by decide) ?_
  refine J_istore_n (L' := [(1, _), (0, _)]) dX7_open_1 rfl (by decide) rfl ?_
  refine J_aload_n dX7_open_2 rfl rfl ?_
  refine J_getf dX7_open_3 fl_X7_30 (ho) rfl ?_
  refine J_astore_n (L' := [(2, _), (1, _), (0, _)]) dX7_open_6 rfl (by decide) rfl ?_
  refine J_aload_n dX7_open_7 rfl rfl ?_
  refine J_alen (v := nI (S.2.2 1)) dX7_open_8 pa (by decide) rfl ?_
  refine J_istore_n (L' := [(3, _), (2, _), (1, _), (0, _)]) dX7_open_9 rfl (by decide) rfl ?_
  refine J_iconst (v := 0) dX7_open_10 (by decide) ?_
  refine J_istore (L' := [(4, _), (3, _), (2, _), (1, _), (0, _)]) dX7_open_11 (by decide) rfl ?_
  have loop : ∀ i, i ≤ (S.2.2 1) → ∀ (x acc : Int32) , (x = nI i) → (acc = bx_sum (opF2 S) i) → xx_J G l mX7_open 0 0 0 0 (xx_ro (some (.int (bx_sum (opF2 S) (S.2.2 1)))) A n) 13 [(4, .int x), (3, .int (nI (S.2.2 1))), (2, .ref (S.2.2 0)), (1, .int acc), (0, .ref h)] [] A n 0 0 := by
    refine xx_dn ?_ ?_
    · intro x acc   hx hacc
      have en : (nI (S.2.2 1)).toInt = S.2.2 1 := i_n (by omega)
      have ex : x.toInt = (S.2.2 1) := by rw [hx]; exact i_n (by omega)
      refine J_iload dX7_open_13 rfl ?_
      refine J_iload_n dX7_open_15 rfl rfl ?_
      refine J_icmp_ge (tgt := 46) dX7_open_16 rfl (fun h16 => ?_) (fun h16 => ?_)
      · refine J_iload_n dX7_open_46 rfl rfl ?_
        refine J_ireturn dX7_open_47 rfl rfl (by decide) (by decide) ?_
        exact ⟨by rw [hacc], rfl, rfl⟩
      · first | (exfalso; simp only [i_lt, i_le, i_eq, i_0, i_1, i_2, i_3, i_4, i_5, i_6, i_8, i_9, i_10, i_12, i_16, i_20, i_m1] at h16; omega) | (exfalso; simp only [s_up, a_up, va_up, i_lt, i_le, i_eq, i_0, i_1, i_2, i_3, i_4, i_5, i_6, i_8, i_9, i_10, i_12, i_16, i_20, i_m1, ↓reduceIte, Nat.reduceEqDiff] at h16; omega)
    · intro i hii ih x acc   hx hacc
      have en : (nI (S.2.2 1)).toInt = S.2.2 1 := i_n (by omega)
      have ex : x.toInt = i := by rw [hx]; exact i_n (by omega)
      refine J_iload dX7_open_13 rfl ?_
      refine J_iload_n dX7_open_15 rfl rfl ?_
      refine J_icmp_ge (tgt := 46) dX7_open_16 rfl (fun h16 => ?_) (fun h16 => ?_)
      · first | (exfalso; simp only [i_lt, i_le, i_eq, i_0, i_1, i_2, i_3, i_4, i_5, i_6, i_8, i_9, i_10, i_12, i_16, i_20, i_m1] at h16; omega) | (exfalso; simp only [s_up, a_up, va_up, i_lt, i_le, i_eq, i_0, i_1, i_2, i_3, i_4, i_5, i_6, i_8, i_9, i_10, i_12, i_16, i_20, i_m1, ↓reduceIte, Nat.reduceEqDiff] at h16; omega)
      · refine J_aload_n dX7_open_19 rfl rfl ?_
        refine J_iload dX7_open_20 rfl ?_
        refine J_aaldR i dX7_open_22 (Or.inl rfl) pa hx hii (by omega) (pf i hii) ?_
        refine J_astore (L' := [(5, _), (4, _), (3, _), (2, _), (1, _), (0, _)]) dX7_open_23 (by decide) rfl ?_
        refine J_iload_n dX7_open_25 rfl rfl ?_
        refine J_aload dX7_open_26 rfl ?_
        refine J_iconst (v := 3) dX7_open_28 (by decide) ?_
        refine J_ialdN 3 dX7_open_29 (pb i hii) rfl (by decide) (by decide) ?_
        refine J_if_ge (tgt := 37) dX7_open_30 rfl (fun h30 => ?_) (fun h30 => ?_)
        · refine J_iconst (v := 0) dX7_open_37 (by decide) ?_
          refine J_iadd dX7_open_38 ?_
          refine J_istore_n (L' := [(1, _), (5, _), (4, _), (3, _), (2, _), (0, _)]) dX7_open_39 rfl (by decide) rfl ?_
          refine J_iinc (v := _ + 1) (L' := [(4, _), (1, _), (5, _), (3, _), (2, _), (0, _)]) dX7_open_40 rfl rfl (by decide) rfl ?_
          refine J_goto (tgt := 13) dX7_open_43 rfl ?_
          refine xx_J.pick [0, 3, 4, 1, 5] rfl ?_
          exact ih _ _  (by rw [hx]; exact nI_1 i) (by rw [hacc]; first | exact bx_v (by unfold opF2; exact if_pos (by assumption)) | exact bx_v (by unfold opF2; exact if_neg (by assumption)))
        · refine J_iconst (v := 1) dX7_open_33 (by decide) ?_
          refine J_goto (tgt := 38) dX7_open_34 rfl ?_
          refine J_iadd dX7_open_38 ?_
          refine J_istore_n (L' := [(1, _), (5, _), (4, _), (3, _), (2, _), (0, _)]) dX7_open_39 rfl (by decide) rfl ?_
          refine J_iinc (v := _ + 1) (L' := [(4, _), (1, _), (5, _), (3, _), (2, _), (0, _)]) dX7_open_40 rfl rfl (by decide) rfl ?_
          refine J_goto (tgt := 13) dX7_open_43 rfl ?_
          refine xx_J.pick [0, 3, 4, 1, 5] rfl ?_
          exact ih _ _  (by rw [hx]; exact nI_1 i) (by rw [hacc]; first | exact bx_v (by unfold opF2; exact if_pos (by assumption)) | exact bx_v (by unfold opF2; exact if_neg (by assumption)))
  refine xx_J.pick [0, 1, 2, 3, 4] rfl ?_
  exact loop 0 (by omega) _ _  rfl rfl
def ofS (S : sS) (c w : Int32) : Int32 := if c = 2 then ptS S w else if c = 3 then S.2.1 1 w.toNatClampNeg else if c = 4 then mnS S w 0 else if c = 5 then blS S w else if c = 6 then flS S w else rsS S w
theorem c_X7_of (hst : l.stackTraces = false) {h : Nat} {S : sS} (hS : simW h S A) (hnb : S.2.2 1 < 1000) (hnr : S.2.2 3 < 1000) (c : Int32) {u : Nat} {w : Int32} (hw : w = nI u) (hu : u < 12) (hc : 2 ≤ c.toInt ∧ c.toInt ≤ 7) : xx_C G l yX7_of mX7_of 2 48 0 0 [.ref h, .int c, .int w] A n (xx_ro (some (.int (ofS S c w))) A n) := by
  have hS0 := hS
  obtain ⟨ho, p1, p2, p6, ⟨fa, pa, pf⟩, pb, pr⟩ := hS
  refine J_C hst (by decide +kernel) rfl rfl rfl (Nat.le_of_ble_eq_true rfl) ?_
  show xx_J _ _ _ _ _ _ _ _ 0 [(0, _), (1, _), (2, _)] [] _ _ _ _
  refine J_iload_n dX7_of_0 rfl rfl ?_
  have hsw1 : (c).toInt = 2 ∨ (c).toInt = 3 ∨ (c).toInt = 4 ∨ (c).toInt = 5 ∨ (c).toInt = 6 ∨ ((c).toInt < 2 ∨ 6 < (c).toInt) := by omega
  rcases hsw1 with hs1 | hs1 | hs1 | hs1 | hs1 | hs1
  · refine J_tableIn (tgt := 36) dX7_of_1 (by omega) (by omega) (by rw [hs1]; rfl) rfl ?_
    have ec : c = 2 := by rw [i_eq, hs1]; rfl
    refine J_aload_n dX7_of_36 rfl rfl ?_
    refine J_iload_n dX7_of_37 rfl rfl ?_
    refine J_callVr (As := [_]) dX7_of_38 ml_X7_57 cal_X7_points im_X7_points se_X7_points (ho) rfl rfl rfl (Nat.le_of_ble_eq_true rfl) ⟨by decide, by decide⟩ ⟨by decide, by decide⟩ (c_X7_points hst hS0 hnb hnr w) ?_
    refine J_ireturn dX7_of_41 rfl rfl (by decide) (by decide) ?_
    exact ⟨by subst ec; unfold ofS; first | rfl | (rw [hw, nI_clamp (by omega)]; rfl), rfl, rfl⟩
  · refine J_tableIn (tgt := 42) dX7_of_1 (by omega) (by omega) (by rw [hs1]; rfl) rfl ?_
    have ec : c = 3 := by rw [i_eq, hs1]; rfl
    refine J_aload_n dX7_of_42 rfl rfl ?_
    refine J_getf dX7_of_43 fl_X7_7 (ho) rfl ?_
    refine J_iload_n dX7_of_46 rfl rfl ?_
    refine J_ialdN u dX7_of_47 p1 hw hu (by first | decide | omega) ?_
    refine J_ireturn dX7_of_48 rfl rfl (by decide) (by decide) ?_
    exact ⟨by subst ec; unfold ofS; first | rfl | (rw [hw, nI_clamp (by omega)]; rfl), rfl, rfl⟩
  · refine J_tableIn (tgt := 49) dX7_of_1 (by omega) (by omega) (by rw [hs1]; rfl) rfl ?_
    have ec : c = 4 := by rw [i_eq, hs1]; rfl
    refine J_aload_n dX7_of_49 rfl rfl ?_
    refine J_iload_n dX7_of_50 rfl rfl ?_
    refine J_iconst (v := 0) dX7_of_51 (by decide) ?_
    refine J_callVr (As := [_, _]) dX7_of_52 ml_X7_49 cal_X7_many im_X7_many se_X7_many (ho) rfl rfl rfl (Nat.le_of_ble_eq_true rfl) ⟨by decide, by decide⟩ ⟨by decide, by decide⟩ (c_X7_many hst hS0 hnb hnr w 0) ?_
    refine J_ireturn dX7_of_55 rfl rfl (by decide) (by decide) ?_
    exact ⟨by subst ec; unfold ofS; first | rfl | (rw [hw, nI_clamp (by omega)]; rfl), rfl, rfl⟩
  · refine J_tableIn (tgt := 56) dX7_of_1 (by omega) (by omega) (by rw [hs1]; rfl) rfl ?_
    have ec : c = 5 := by rw [i_eq, hs1]; rfl
    refine J_aload_n dX7_of_56 rfl rfl ?_
    refine J_iload_n dX7_of_57 rfl rfl ?_
    refine J_callVr (As := [_]) dX7_of_58 ml_X7_60 cal_X7_belts im_X7_belts se_X7_belts (ho) rfl rfl rfl (Nat.le_of_ble_eq_true rfl) ⟨by decide, by decide⟩ ⟨by decide, by decide⟩ (c_X7_belts hst hS0 hnb hnr w) ?_
    refine J_ireturn dX7_of_61 rfl rfl (by decide) (by decide) ?_
    exact ⟨by subst ec; unfold ofS; first | rfl | (rw [hw, nI_clamp (by omega)]; rfl), rfl, rfl⟩
  · refine J_tableIn (tgt := 62) dX7_of_1 (by omega) (by omega) (by rw [hs1]; rfl) rfl ?_
    have ec : c = 6 := by rw [i_eq, hs1]; rfl
    refine J_aload_n dX7_of_62 rfl rfl ?_
    refine J_iload_n dX7_of_63 rfl rfl ?_
    refine J_callVr (As := [_]) dX7_of_64 ml_X7_63 cal_X7_floats im_X7_floats se_X7_floats (ho) rfl rfl rfl (Nat.le_of_ble_eq_true rfl) ⟨by decide, by decide⟩ ⟨by decide, by decide⟩ (c_X7_floats hst hS0 hnb hnr w) ?_
    refine J_ireturn dX7_of_67 rfl rfl (by decide) (by decide) ?_
    exact ⟨by subst ec; unfold ofS; first | rfl | (rw [hw, nI_clamp (by omega)]; rfl), rfl, rfl⟩
  · refine J_tableOut (tgt := 68) dX7_of_1 hs1 rfl ?_
    have ec : c = 7 := by rw [i_eq]; show c.toInt = 7; omega
    refine J_aload_n dX7_of_68 rfl rfl ?_
    refine J_iload_n dX7_of_69 rfl rfl ?_
    refine J_callVr (As := [_]) dX7_of_70 ml_X7_53 cal_X7_rested im_X7_rested se_X7_rested (ho) rfl rfl rfl (Nat.le_of_ble_eq_true rfl) ⟨by decide, by decide⟩ ⟨by decide, by decide⟩ (c_X7_rested hst hS0 hnb hnr w) ?_
    refine J_ireturn dX7_of_73 rfl rfl (by decide) (by decide) ?_
    exact ⟨by subst ec; unfold ofS; first | rfl | (rw [hw, nI_clamp (by omega)]; rfl), rfl, rfl⟩
theorem c_X7_in (hst : l.stackTraces = false) {h : Nat} {S : sS} (hS : simW h S A) (hnb : S.2.2 1 < 1000) (hnr : S.2.2 3 < 1000) {nw : Nat} (hw : S.1 0 = nI nw) (h12 : nw ≤ 12) : xx_C G l yX7_in mX7_in 0 0 0 0 [.ref h] A n (xx_ro (some (.int (bx_sum (inF S) nw))) A n) := by
  have hS0 := hS
  obtain ⟨ho, p1, p2, p6, ⟨fa, pa, pf⟩, pb, pr⟩ := hS
  refine J_C hst (by decide +kernel) rfl rfl rfl (Nat.le_of_ble_eq_true rfl) ?_
  show xx_J _ _ _ _ _ _ _ _ 0 [(0, _)] [] _ _ _ _
  refine J_iconst (v := 0) dX7_in_0 (by decide) ?_
  refine J_istore_n (L' := [(1, _), (0, _)]) dX7_in_1 rfl (by decide) rfl ?_
  refine J_iconst (v := 0) dX7_in_2 (by decide) ?_
  refine J_istore_n (L' := [(2, _), (1, _), (0, _)]) dX7_in_3 rfl (by decide) rfl ?_
  have loop : ∀ i, i ≤ nw → ∀ (x acc : Int32) , (x = nI i) → (acc = bx_sum (inF S) i) → xx_J G l mX7_in 0 0 0 0 (xx_ro (some (.int (bx_sum (inF S) nw))) A n) 4 [(2, .int x), (1, .int acc), (0, .ref h)] [] A n 0 0 := by
    refine xx_dn ?_ ?_
    · intro x acc   hx hacc
      have en : (S.1 0).toInt = nw := by rw [hw]; exact i_n (by omega)
      have ex : x.toInt = nw := by rw [hx]; exact i_n (by omega)
      refine J_iload_n dX7_in_4 rfl rfl ?_
      refine J_aload_n dX7_in_5 rfl rfl ?_
      refine J_getf dX7_in_6 fl_X7_38 (ho) rfl ?_
      refine J_icmp_ge (tgt := 35) dX7_in_9 rfl (fun h9 => ?_) (fun h9 => ?_)
      · refine J_iload_n dX7_in_35 rfl rfl ?_
        refine J_ireturn dX7_in_36 rfl rfl (by decide) (by decide) ?_
        exact ⟨by rw [hacc], rfl, rfl⟩
      · first | (exfalso; simp only [i_lt, i_le, i_eq, i_0, i_1, i_2, i_3, i_4, i_5, i_6, i_8, i_9, i_10, i_12, i_16, i_20, i_m1] at h9; omega) | (exfalso; simp only [s_up, a_up, va_up, i_lt, i_le, i_eq, i_0, i_1, i_2, i_3, i_4, i_5, i_6, i_8, i_9, i_10, i_12, i_16, i_20, i_m1, ↓reduceIte, Nat.reduceEqDiff] at h9; omega)
    · intro i hii ih x acc   hx hacc
      have en : (S.1 0).toInt = nw := by rw [hw]; exact i_n (by omega)
      have ex : x.toInt = i := by rw [hx]; exact i_n (by omega)
      refine J_iload_n dX7_in_4 rfl rfl ?_
      refine J_aload_n dX7_in_5 rfl rfl ?_
      refine J_getf dX7_in_6 fl_X7_38 (ho) rfl ?_
      refine J_icmp_ge (tgt := 35) dX7_in_9 rfl (fun h9 => ?_) (fun h9 => ?_)
      · first | (exfalso; simp only [i_lt, i_le, i_eq, i_0, i_1, i_2, i_3, i_4, i_5, i_6, i_8, i_9, i_10, i_12, i_16, i_20, i_m1] at h9; omega) | (exfalso; simp only [s_up, a_up, va_up, i_lt, i_le, i_eq, i_0, i_1, i_2, i_3, i_4, i_5, i_6, i_8, i_9, i_10, i_12, i_16, i_20, i_m1, ↓reduceIte, Nat.reduceEqDiff] at h9; omega)
      · refine J_iload_n dX7_in_12 rfl rfl ?_
        refine J_aload_n dX7_in_13 rfl rfl ?_
        refine J_getf dX7_in_14 fl_X7_25 (ho) rfl ?_
        refine J_iload_n dX7_in_17 rfl rfl ?_
        refine J_zald (v := S.2.1 6 i) dX7_in_18 p6 (by rw [hx]; exact vp_in_nI (by omega) (by decide)) (by rw [hx, nI_clamp (by omega)]) ?_
        refine J_if_eq (tgt := 26) dX7_in_19 rfl (fun h19 => ?_) (fun h19 => ?_)
        · refine J_iconst (v := 1) dX7_in_26 (by decide) ?_
          refine J_iadd dX7_in_27 ?_
          refine J_istore_n (L' := [(1, _), (2, _), (0, _)]) dX7_in_28 rfl (by decide) rfl ?_
          refine J_iinc (v := _ + 1) (L' := [(2, _), (1, _), (0, _)]) dX7_in_29 rfl rfl (by decide) rfl ?_
          refine J_goto (tgt := 4) dX7_in_32 rfl ?_
          refine xx_J.pick [0, 1, 2] rfl ?_
          exact ih _ _  (by rw [hx]; exact nI_1 i) (by rw [hacc]; first | exact bx_v (by unfold inF; exact if_pos (by assumption)) | exact bx_v (by unfold inF; exact if_neg (by assumption)))
        · refine J_iconst (v := 0) dX7_in_22 (by decide) ?_
          refine J_goto (tgt := 27) dX7_in_23 rfl ?_
          refine J_iadd dX7_in_27 ?_
          refine J_istore_n (L' := [(1, _), (2, _), (0, _)]) dX7_in_28 rfl (by decide) rfl ?_
          refine J_iinc (v := _ + 1) (L' := [(2, _), (1, _), (0, _)]) dX7_in_29 rfl rfl (by decide) rfl ?_
          refine J_goto (tgt := 4) dX7_in_32 rfl ?_
          refine xx_J.pick [0, 1, 2] rfl ?_
          exact ih _ _  (by rw [hx]; exact nI_1 i) (by rw [hacc]; first | exact bx_v (by unfold inF; exact if_pos (by assumption)) | exact bx_v (by unfold inF; exact if_neg (by assumption)))
  refine xx_J.pick [0, 1, 2] rfl ?_
  exact loop 0 (by omega) _ _  rfl rfl
theorem c_X7_canPair (hst : l.stackTraces = false) {h : Nat} {S : sS} (hS : simW h S A) (hnb : S.2.2 1 < 1000) (hnr : S.2.2 3 < 1000) {nw : Nat} (hw : S.1 0 = nI nw) (h12 : nw ≤ 12) : xx_C G l yX7_canPair mX7_canPair 1 25 0 0 [.ref h] A n (xx_ro (some (.int (xx_b (bx_sum (opF2 S) (S.2.2 1) = 0 ∧ ¬ 20 ≤ S.1 5 ∧ ¬ bx_sum (inF S) nw ≤ 1)))) A n) := by
  have hS0 := hS
  obtain ⟨ho, p1, p2, p6, ⟨fa, pa, pf⟩, pb, pr⟩ := hS
  refine J_C hst (by decide +kernel) rfl rfl rfl (Nat.le_of_ble_eq_true rfl) ?_
  show xx_J _ _ _ _ _ _ _ _ 0 [(0, _)] [] _ _ _ _
  refine J_aload_n dX7_canPair_0 rfl rfl ?_
  refine J_callVr (As := []) dX7_canPair_1 ml_X7_69 cal_X7_open im_X7_open se_X7_open (ho) rfl rfl rfl (Nat.le_of_ble_eq_true rfl) ⟨by decide, by decide⟩ ⟨by decide, by decide⟩ (c_X7_open hst hS0 hnb hnr) ?_
  refine J_if_ne (tgt := 28) dX7_canPair_4 rfl (fun h4 => ?_) (fun h4 => ?_)
  · refine J_iconst (v := 0) dX7_canPair_28 (by decide) ?_
    refine J_ireturn dX7_canPair_29 rfl rfl (by decide) (by decide) ?_
    exact ⟨by unfold xx_b; split <;> first | rfl | (exfalso; simp_all), rfl, rfl⟩
  · refine J_aload_n dX7_canPair_7 rfl rfl ?_
    refine J_getf dX7_canPair_8 fl_X7_42 (ho) rfl ?_
    refine J_bipush (v := 20) dX7_canPair_11 (by decide) ?_
    refine J_icmp_ge (tgt := 28) dX7_canPair_13 rfl (fun h13 => ?_) (fun h13 => ?_)
    · refine J_iconst (v := 0) dX7_canPair_28 (by decide) ?_
      refine J_ireturn dX7_canPair_29 rfl rfl (by decide) (by decide) ?_
      exact ⟨by unfold xx_b; split <;> first | rfl | (exfalso; simp_all), rfl, rfl⟩
    · refine J_aload_n dX7_canPair_16 rfl rfl ?_
      refine J_callVr (As := []) dX7_canPair_17 ml_X7_73 cal_X7_in im_X7_in se_X7_in (ho) rfl rfl rfl (Nat.le_of_ble_eq_true rfl) ⟨by decide, by decide⟩ ⟨by decide, by decide⟩ (c_X7_in hst hS0 hnb hnr hw h12) ?_
      refine J_iconst (v := 1) dX7_canPair_20 (by decide) ?_
      refine J_icmp_le (tgt := 28) dX7_canPair_21 rfl (fun h21 => ?_) (fun h21 => ?_)
      · refine J_iconst (v := 0) dX7_canPair_28 (by decide) ?_
        refine J_ireturn dX7_canPair_29 rfl rfl (by decide) (by decide) ?_
        exact ⟨by unfold xx_b; split <;> first | rfl | (exfalso; simp_all), rfl, rfl⟩
      · refine J_iconst (v := 1) dX7_canPair_24 (by decide) ?_
        refine J_goto (tgt := 29) dX7_canPair_25 rfl ?_
        refine J_ireturn dX7_canPair_29 rfl rfl (by decide) (by decide) ?_
        exact ⟨by unfold xx_b; split <;> first | rfl | (exfalso; simp_all), rfl, rfl⟩
theorem J_iastQ {M : xx_M} {fr lo mc ms : Nat} {Post : xx_Q} {pc : Nat} {L : List (Nat × Value)} {S : List Value} {k j h len : Nat} {f : Nat → Int32} {i x : Int32} (p : Nat) (hd : decode M.2.2.1 pc = .ok (.iastore, 1)) (hA : A h = some (.inl (0, len, .inl f))) (hi : i = nI p) (hp : p < len) (hl : len < 2 ^ 31) (kk : ∀ A1 : xx_H, A1 h = some (.inl (0, len, .inl (upd f p x))) → (∀ z, z ≠ h → A1 z = A z) → xx_J G l M fr lo mc ms Post (pc + 1) L S A1 n k j) : xx_J G l M fr lo mc ms Post pc L (.int x :: .int i :: .ref h :: S) A n k j :=
  J_iastN p hd hA hi hp hl (J_up kk)
theorem upd_pre {f g : Nat → Int32} {i : Nat} (h : ∀ p, p < i → g p = f p) : ∀ p, p < i + 1 → upd g i (f i) p = f p := fun p hp => by
  by_cases e : p = i
  · subst e; exact pk_us
  · rw [pk_un e]; exact h p (by omega)
theorem vup_pre {f g : Nat → Option Nat} {i v : Nat} (h : ∀ p, p < i → g p = f p) (hv : f i = some v) : ∀ p, p < i + 1 → va_up g i (some v) p = f p := fun p hp => by
  by_cases e : p = i
  · subst e; rw [hv]; exact va_up_self _ _ _
  · rw [va_up_ne _ _ e]; exact h p (by omega)
theorem c_X7_with_ (hst : l.stackTraces = false) {u m : Nat} {f : Nat → Int32} {y : Int32} (hr : A u = some (.inl (0, m, .inl f))) (hm : m < 100) : xx_C G l yX7_with_ mX7_with_ 0 0 1 100 [.ref u, .int y] A n (fun r A' n' => r = .inl (some (.ref n)) ∧ n' = n + 1 ∧ (∃ g, A' n = some (.inl (0, m + 1, .inl g)) ∧ (∀ i, i < m → g i = f i) ∧ g m = y) ∧ ∀ z, z < n → A' z = A z) := by
  refine J_C hst (by decide +kernel) rfl rfl rfl (Nat.le_of_ble_eq_true rfl) ?_
  show xx_J _ _ _ _ _ _ _ _ 0 [(0, _), (1, _)] [] _ _ _ _
  refine J_lt hr (fun hun => ?_)
  refine J_aload_n dX7_with__0 rfl rfl ?_
  refine J_alen (v := nI m) dX7_with__1 hr (by decide) rfl ?_
  refine J_iconst (v := 1) dX7_with__2 (by decide) ?_
  refine J_iadd dX7_with__3 ?_
  rw [nI_1]
  refine J_newi (N := m + 1) dX7_with__4 ac_int (nI_pos (by omega)) (nI_clamp (by omega)) (by omega) (by decide) (by omega) ?_
  refine J_up (fun A0 g0 o0 => ?_)
  refine J_astore_n (L' := [(2, _), (0, _), (1, _)]) dX7_with__6 rfl (by decide) rfl ?_
  refine J_iconst (v := 0) dX7_with__7 (by decide) ?_
  refine J_istore_n (L' := [(3, _), (2, _), (0, _), (1, _)]) dX7_with__8 rfl (by decide) rfl ?_
  have loop : ∀ i, i ≤ m → ∀ (x : Int32) (A1 : xx_H) (g : Nat → Int32) , (x = nI i) → (A1 n = some (.inl (0, m + 1, .inl g))) → (∀ z, z ≠ n → A1 z = A z) → (∀ p, p < i → g p = f p) → xx_J G l mX7_with_ 0 0 1 100 (fun r A' n' => r = .inl (some (.ref n)) ∧ n' = n + 1 ∧ (∃ g, A' n = some (.inl (0, m + 1, .inl g)) ∧ (∀ i, i < m → g i = f i) ∧ g m = y) ∧ ∀ z, z < n → A' z = A z) 9 [(3, .int x), (2, .ref n), (0, .ref u), (1, .int y)] [] A1 (n + 1) (0 + 1) (0 + (m + 1)) := by
    refine xx_dn ?_ ?_
    · intro x  A1  g   hx h1 h2 h3
      have en : (nI m).toInt = m := i_n (by omega)
      have ex : x.toInt = m := by rw [hx]; exact i_n (by omega)
      have hr1 := (h2 u (by omega)).trans hr
      refine J_iload_n dX7_with__9 rfl rfl ?_
      refine J_aload_n dX7_with__10 rfl rfl ?_
      refine J_alen (v := nI m) dX7_with__11 hr1 (by decide) rfl ?_
      refine J_icmp_ge (tgt := 27) dX7_with__12 rfl (fun h12 => ?_) (fun h12 => ?_)
      · refine J_aload_n dX7_with__27 rfl rfl ?_
        refine J_aload_n dX7_with__28 rfl rfl ?_
        refine J_alen (v := nI m) dX7_with__29 hr1 (by decide) rfl ?_
        refine J_iload_n dX7_with__30 rfl rfl ?_
        refine J_iastQ m dX7_with__31 h1 rfl (by omega) (by omega) (fun A2 g2 o2 => ?_)
        refine J_aload_n dX7_with__32 rfl rfl ?_
        refine J_areturnA dX7_with__33 rfl (by decide) (by omega) ?_
        exact ⟨rfl, rfl, ⟨_, g2, fun p hp => (pk_un (by omega)).trans (h3 p hp), pk_us⟩, fun z hz => (o2 z (by omega)).trans (h2 z (by omega))⟩
      · first | (exfalso; simp only [i_lt, i_le, i_eq, i_0, i_1, i_2, i_3, i_4, i_5, i_6, i_8, i_9, i_10, i_12, i_16, i_20, i_m1] at h12; omega) | (exfalso; simp only [s_up, a_up, va_up, i_lt, i_le, i_eq, i_0, i_1, i_2, i_3, i_4, i_5, i_6, i_8, i_9, i_10, i_12, i_16, i_20, i_m1, ↓reduceIte, Nat.reduceEqDiff] at h12; omega)
    · intro i hii ih x  A1  g   hx h1 h2 h3
      have en : (nI m).toInt = m := i_n (by omega)
      have ex : x.toInt = i := by rw [hx]; exact i_n (by omega)
      have hr1 := (h2 u (by omega)).trans hr
      refine J_iload_n dX7_with__9 rfl rfl ?_
      refine J_aload_n dX7_with__10 rfl rfl ?_
      refine J_alen (v := nI m) dX7_with__11 hr1 (by decide) rfl ?_
      refine J_icmp_ge (tgt := 27) dX7_with__12 rfl (fun h12 => ?_) (fun h12 => ?_)
      · first | (exfalso; simp only [i_lt, i_le, i_eq, i_0, i_1, i_2, i_3, i_4, i_5, i_6, i_8, i_9, i_10, i_12, i_16, i_20, i_m1] at h12; omega) | (exfalso; simp only [s_up, a_up, va_up, i_lt, i_le, i_eq, i_0, i_1, i_2, i_3, i_4, i_5, i_6, i_8, i_9, i_10, i_12, i_16, i_20, i_m1, ↓reduceIte, Nat.reduceEqDiff] at h12; omega)
      · refine J_aload_n dX7_with__15 rfl rfl ?_
        refine J_iload_n dX7_with__16 rfl rfl ?_
        refine J_aload_n dX7_with__17 rfl rfl ?_
        refine J_iload_n dX7_with__18 rfl rfl ?_
        refine J_ialdN i dX7_with__19 hr1 hx hii (by omega) ?_
        refine J_iastQ i dX7_with__20 h1 hx (by omega) (by omega) (fun A2 g2 o2 => ?_)
        refine J_iinc (v := _ + 1) (L' := [(3, _), (2, _), (0, _), (1, _)]) dX7_with__21 rfl rfl (by decide) rfl ?_
        refine J_goto (tgt := 9) dX7_with__24 rfl ?_
        refine xx_J.pick [0, 1, 2, 3] rfl ?_
        exact ih _ _ _  (by rw [hx]; exact nI_1 i) g2 (fun z hz => (o2 z hz).trans (h2 z hz)) (upd_pre h3)
  refine xx_J.pick [0, 1, 2, 3] rfl ?_
  exact loop 0 (by omega) _ _ _  rfl g0 o0 (fun p hp => absurd hp (Nat.not_lt_zero p))
theorem J_aastQ {M : xx_M} {fr lo mc ms : Nat} {Post : xx_Q} {pc : Nat} {L : List (Nat × Value)} {S : List Value} {k j h len v lv : Nat} {f : Nat → Option Nat} {g : Nat → Int32} {i : Int32} (p : Nat) (hd : decode M.2.2.1 pc = .ok (.aastore, 1)) (hA : A h = some (.inl (3, len, .inr (.inr (.inr (.inr f)))))) (hi : i = nI p) (hp : p < len) (hl : len < 2 ^ 31) (hv : A v = some (.inl (0, lv, .inl g))) (kk : ∀ A1 : xx_H, A1 h = some (.inl (3, len, .inr (.inr (.inr (.inr (va_up f p (some v))))))) → (∀ z, z ≠ h → A1 z = A z) → xx_J G l M fr lo mc ms Post (pc + 1) L S A1 n k j) : xx_J G l M fr lo mc ms Post pc L (.ref v :: .int i :: .ref h :: S) A n k j := by
  subst hi
  refine J_aastA hd hA (vp_in_nI hp hl) hv ?_
  rw [nI_clamp (by omega)]
  exact J_up kk
theorem c_X7_with (hst : l.stackTraces = false) {u w m : Nat} {f : Nat → Option Nat} {y : Nat → Int32} (hr : A u = some (.inl (3, m, .inr (.inr (.inr (.inr f)))))) (hw : A w = some (.inl (0, 5, .inl y))) (hm : m < 100) (hf : ∀ i, i < m → ∃ q g, f i = some q ∧ A q = some (.inl (0, 5, .inl g))) : xx_C G l yX7_with mX7_with 0 0 1 100 [.ref u, .ref w] A n (fun r A' n' => r = .inl (some (.ref n)) ∧ n' = n + 1 ∧ (∃ g, A' n = some (.inl (3, m + 1, .inr (.inr (.inr (.inr g))))) ∧ (∀ i, i < m → g i = f i) ∧ g m = some w) ∧ ∀ z, z < n → A' z = A z) := by
  refine J_C hst (by decide +kernel) rfl rfl rfl (Nat.le_of_ble_eq_true rfl) ?_
  show xx_J _ _ _ _ _ _ _ _ 0 [(0, _), (1, _)] [] _ _ _ _
  refine J_lt hr (fun hun => ?_)
  refine J_lt hw (fun hwn => ?_)
  refine J_ltA (fun ltP => ?_)
  refine J_aload_n dX7_with_0 rfl rfl ?_
  refine J_alen (v := nI m) dX7_with_1 hr (by decide) rfl ?_
  refine J_iconst (v := 1) dX7_with_2 (by decide) ?_
  refine J_iadd dX7_with_3 ?_
  rw [nI_1]
  refine J_newA (N := m + 1) dX7_with_4 cl_X7_29 (nI_pos (by omega)) (nI_clamp (by omega)) (by omega) (by decide) (by omega) ?_
  refine J_up (fun A0 g0 o0 => ?_)
  refine J_astore_n (L' := [(2, _), (0, _), (1, _)]) dX7_with_7 rfl (by decide) rfl ?_
  refine J_iconst (v := 0) dX7_with_8 (by decide) ?_
  refine J_istore_n (L' := [(3, _), (2, _), (0, _), (1, _)]) dX7_with_9 rfl (by decide) rfl ?_
  have loop : ∀ i, i ≤ m → ∀ (x : Int32) (A1 : xx_H) (g : Nat → Option Nat) , (x = nI i) → (A1 n = some (.inl (3, m + 1, .inr (.inr (.inr (.inr g)))))) → (∀ z, z ≠ n → A1 z = A z) → (∀ p, p < i → g p = f p) → xx_J G l mX7_with 0 0 1 100 (fun r A' n' => r = .inl (some (.ref n)) ∧ n' = n + 1 ∧ (∃ g, A' n = some (.inl (3, m + 1, .inr (.inr (.inr (.inr g))))) ∧ (∀ i, i < m → g i = f i) ∧ g m = some w) ∧ ∀ z, z < n → A' z = A z) 10 [(3, .int x), (2, .ref n), (0, .ref u), (1, .ref w)] [] A1 (n + 1) (0 + 1) (0 + (m + 1)) := by
    refine xx_dn ?_ ?_
    · intro x  A1  g   hx h1 h2 h3
      have en : (nI m).toInt = m := i_n (by omega)
      have ex : x.toInt = m := by rw [hx]; exact i_n (by omega)
      have hr1 := (h2 u (by omega)).trans hr
      refine J_iload_n dX7_with_10 rfl rfl ?_
      refine J_aload_n dX7_with_11 rfl rfl ?_
      refine J_alen (v := nI m) dX7_with_12 hr1 (by decide) rfl ?_
      refine J_icmp_ge (tgt := 28) dX7_with_13 rfl (fun h13 => ?_) (fun h13 => ?_)
      · refine J_aload_n dX7_with_28 rfl rfl ?_
        refine J_aload_n dX7_with_29 rfl rfl ?_
        refine J_alen (v := nI m) dX7_with_30 hr1 (by decide) rfl ?_
        refine J_aload_n dX7_with_31 rfl rfl ?_
        refine J_aastQ m dX7_with_32 h1 rfl (by omega) (by omega) ((h2 w (by omega)).trans hw) (fun A2 g2 o2 => ?_)
        refine J_aload_n dX7_with_33 rfl rfl ?_
        refine J_areturnA dX7_with_34 rfl (by decide) (by omega) ?_
        exact ⟨rfl, rfl, ⟨_, g2, fun p hp => (va_up_ne _ _ (by omega)).trans (h3 p hp), va_up_self _ _ _⟩, fun z hz => (o2 z (by omega)).trans (h2 z (by omega))⟩
      · first | (exfalso; simp only [i_lt, i_le, i_eq, i_0, i_1, i_2, i_3, i_4, i_5, i_6, i_8, i_9, i_10, i_12, i_16, i_20, i_m1] at h13; omega) | (exfalso; simp only [s_up, a_up, va_up, i_lt, i_le, i_eq, i_0, i_1, i_2, i_3, i_4, i_5, i_6, i_8, i_9, i_10, i_12, i_16, i_20, i_m1, ↓reduceIte, Nat.reduceEqDiff] at h13; omega)
    · intro i hii ih x  A1  g   hx h1 h2 h3
      have en : (nI m).toInt = m := i_n (by omega)
      have ex : x.toInt = i := by rw [hx]; exact i_n (by omega)
      have hr1 := (h2 u (by omega)).trans hr
      refine J_iload_n dX7_with_10 rfl rfl ?_
      refine J_aload_n dX7_with_11 rfl rfl ?_
      refine J_alen (v := nI m) dX7_with_12 hr1 (by decide) rfl ?_
      refine J_icmp_ge (tgt := 28) dX7_with_13 rfl (fun h13 => ?_) (fun h13 => ?_)
      · first | (exfalso; simp only [i_lt, i_le, i_eq, i_0, i_1, i_2, i_3, i_4, i_5, i_6, i_8, i_9, i_10, i_12, i_16, i_20, i_m1] at h13; omega) | (exfalso; simp only [s_up, a_up, va_up, i_lt, i_le, i_eq, i_0, i_1, i_2, i_3, i_4, i_5, i_6, i_8, i_9, i_10, i_12, i_16, i_20, i_m1, ↓reduceIte, Nat.reduceEqDiff] at h13; omega)
      · refine J_aload_n dX7_with_16 rfl rfl ?_
        refine J_iload_n dX7_with_17 rfl rfl ?_
        refine J_aload_n dX7_with_18 rfl rfl ?_
        refine J_iload_n dX7_with_19 rfl rfl ?_
        obtain ⟨q1, y1, hq1, hq2⟩ := hf i hii
        refine J_aaldR i dX7_with_20 (Or.inl rfl) hr1 hx hii (by omega) hq1 ?_
        refine J_aastQ i dX7_with_21 h1 hx (by omega) (by omega) ((h2 q1 (Nat.ne_of_lt (ltP _ _ hq2))).trans hq2) (fun A2 g2 o2 => ?_)
        refine J_iinc (v := _ + 1) (L' := [(3, _), (2, _), (0, _), (1, _)]) dX7_with_22 rfl rfl (by decide) rfl ?_
        refine J_goto (tgt := 10) dX7_with_25 rfl ?_
        refine xx_J.pick [0, 1, 2, 3] rfl ?_
        exact ih _ _ _  (by rw [hx]; exact nI_1 i) g2 (fun z hz => (o2 z hz).trans (h2 z hz)) (vup_pre h3 hq1)
  refine xx_J.pick [0, 1, 2, 3] rfl ?_
  exact loop 0 (by omega) _ _ _  rfl g0 o0 (fun p hp => absurd hp (Nat.not_lt_zero p))
end XSM
