/-! TEXTS, AND StringBuilder, AS THE JDK'S CODE -/
section XSB
variable {G : xx_G} {l : Launch} {A A' : xx_H} {n : Nat} {k j i q s e t d : Nat}
theorem J_lt {M : xx_M} {fr lo mc ms : Nat} {Post : xx_Q} {pc : Nat} {L : List (Nat × Value)} {S : List Value} {k j h : Nat} {c : va_E} (hA : A h = some c) (kk : h < n → xx_J G l M fr lo mc ms Post pc L S A n k j) : xx_J G l M fr lo mc ms Post pc L S A n k j := by
  intro p e s m args below meth cd ad0 n0 F ad H locs ls a
  exact kk (a.2.2.1.2.2.1 _ _ hA).2.1 p e s m args below meth cd ad0 n0 F ad H locs ls a
theorem J_up {M : xx_M} {fr lo mc ms : Nat} {Post : xx_Q} {pc : Nat} {L : List (Nat × Value)} {S : List Value} {k j h : Nat} {c : va_E} (kk : ∀ A1 : xx_H, A1 h = some c → (∀ z, z ≠ h → A1 z = A z) → xx_J G l M fr lo mc ms Post pc L S A1 n k j) : xx_J G l M fr lo mc ms Post pc L S (xx_up A h c) n k j :=
  kk _ (xx_up_s _ _ _) (fun _ hz => xx_up_n _ _ hz)
abbrev oB (v : Nat) (c : Int32) : va_E := .inr (9, [.ref v, .int 0, .int 0, .int c])
abbrev rB (m : Nat) (f : Nat → Int32) : va_E := .inl (1, m, .inl f)
abbrev oT (v : Nat) : va_E := .inr (8, [.ref v, .int 0, .int 0, .int 0])
abbrev bfit (f : Nat → Int32) : Prop := sb_Fit f
/-- f holds t from p on -/
def hol (f : Nat → Int32) (p : Nat) (t : List Int32) : Prop := ∀ i, i < t.length → f (p + i) = t.getD i 0
theorem tx_fit : ∀ i, i < 82 → ∀ j, j < 11 → fits .byte (.int ((txt i).getD j 0)) = true := by decide +kernel
theorem tx_bfit {i : Nat} (hi : i < 82) : bfit (fun j => (txt i).getD j 0) := fun j => by
  by_cases hj : j < 11
  · exact tx_fit i hi j hj
  · have := tx_len i hi
    show fits .byte (.int ((txt i).getD j 0)) = true
    rw [List.getD_eq_getElem?_getD, List.getElem?_eq_none (by omega)]
    decide
/-- a text: a literal, or made by the run -/
def strV (A : xx_H) (h : Nat) (t : List Int32) : Prop := (∃ i, i < 82 ∧ h = th i ∧ t = txt i) ∨ ∃ v f, A h = some (oT v) ∧ A v = some (rB t.length f) ∧ hol f 0 t ∧ bfit f
theorem strV.lit {k : Nat} (hk : k < 43) : strV A (th (xx_ln k)) (txt (xx_ln k)) := Or.inl ⟨xx_ln k, by unfold xx_ln; split <;> omega, rfl, rfl⟩
theorem strV.recv {h : Nat} {t : List Int32} (hs : strV A h t) : ∀ (s : State) (H : Heap) (ad : Nat → Nat) (locs : List Loc), xx_P G ad n A H → xx_K G s s.heap → va_S (xx_A G) s.heap H locs → ∃ cellB : Cell, H[ad h]? = some cellB ∧ cellB.vm.isStatics = false ∧ s.vm.findClass "java/lang/String" = some cellB.cls := by
  rcases hs with ⟨i, hi, rfl, rfl⟩ | ⟨v, f, h1, h2, h3, h4⟩
  · exact xx_recvS (y := ⟨"java/lang/String", "", ""⟩) (th_lt hi) (so_tx hi)
  · exact xx_recv (y := ⟨"java/lang/String", "", ""⟩) h1 (T := TJ0) (N := 4) rfl
/-- a text's method that only reads -/
theorem J_callT {M : xx_M} {fr lo mc ms : Nat} {Post : xx_Q} {pc : Nat} {L : List (Nat × Value)} {S : List Value} {k j : Nat} {y : MethodName} {M' : xx_M} {na idx fr' lo' h : Nat} {As : List Value} {v : Value} {t : List Int32} (hd : decode M.2.2.1 pc = .ok (.invokevirtual idx, 3)) (hl : Cond.methodLink M.1 idx y ∈ xx_T) (hc : xx_Cal y M' na) (hi : Cond.instanceMethod y ∈ xx_T) (hs : Cond.selects y.cls y y ∈ xx_T) (hy : y.cls = "java/lang/String") (hV : strV A h t) (hh : M'.2.2.2.2.2 = [])
    (hn : As.length = na) (hS : (S.map fun v => v.category).sum ≤ 8) (hR : fr' + 1 ≤ fr ∧ 8 + (M'.2.2.2.1 + 11) + lo' ≤ lo) (hf : k ≤ mc ∧ j ≤ ms) (hC : xx_C G l y M' fr' lo' 0 0 (.ref h :: As) A n (xx_ro (some v) A n))
    (kk : xx_J G l M fr lo mc ms Post (pc + 3) L (v :: S) A n k j) : xx_J G l M fr lo mc ms Post pc L (As.reverse ++ .ref h :: S) A n k j := by
  refine J_callVg hd hl hc hh hi hs (by rw [hy]; exact hV.recv) hn hS hR ⟨hf.1, hf.2⟩ hC (fun v' A' n' _ hp => ?_) (fun E A' n' _ hp => by cases hp.1)
  obtain ⟨h1, rfl, rfl⟩ := hp
  cases h1
  exact kk
theorem J_copyB {M : xx_M} {fr lo mc ms : Nat} {Post : xx_Q} {pc : Nat} {L : List (Nat × Value)} {S : List Value} {k j : Nat} {idx h0 h1 kd : Nat} {l0 l1 : Nat} {f g : Nat → Int32} {sp dp z : Int32} (hkd : kd = 1) (hd : decode M.2.2.1 pc = .ok (.invokestatic idx, 3)) (hl : Cond.methodLink M.1 idx arraycopyName ∈ xx_T) (hnat : Cond.native arraycopyName ∈ xx_T) (hst : Cond.static arraycopyName ∈ xx_T) (hini : Cond.initialized "java/lang/System" ∈ xx_T)
    (hA0 : A h0 = some (.inl (kd, l0, .inl f))) (hA1 : A h1 = some (.inl (kd, l1, .inl g))) (g1 : ¬ sp < 0) (g2 : ¬ dp < 0) (g3 : ¬ z < 0) (g4 : sp.toNatClampNeg + z.toNatClampNeg ≤ l0) (g5 : dp.toNatClampNeg + z.toNatClampNeg ≤ l1) (hfit : bfit f)
    (hR : 1 ≤ fr ∧ (S.map fun v => v.category).sum + (nativeFrameWords "java/lang/System" "arraycopy" 5 + 11) ≤ lo)
    (kk : xx_J G l M fr lo mc ms Post (pc + 3) L S (xx_up A h1 (.inl (kd, l1, .inl (va_cpy f g sp.toNatClampNeg dp.toNatClampNeg z.toNatClampNeg)))) n k j) : xx_J G l M fr lo mc ms Post pc L (.int z :: .int dp :: .ref h1 :: .int sp :: .ref h0 :: S) A n k j := by
  intro p e s m args below meth c ad0 n0 F ad H locs ls ⟨a1, a2, a3, a4, a5, a6, a7⟩
  obtain ⟨b1, b2, b3, b4, b5⟩ := a3.2.2.1 _ _ hA1
  obtain ⟨d1, d2, d3, d4, d5⟩ := a3.2.2.1 _ _ hA0
  have hK := F.2.2.2.2.2.2.2.2.2.2.1.1
  have nn : ∀ z : Int32, ¬ z < 0 → z.toInt = (z.toNatClampNeg : Int) := by
    intro z hz
    have hz0 : (0 : Int) ≤ z.toInt := by
      have := Int32.not_lt.mp hz
      simpa using Int32.le_iff_toInt_le.mp this
    show z.toInt = ((z.toInt.toNat : Nat) : Int)
    omega
  obtain ⟨ty, hty, hprim, hfit2⟩ : ∃ ty : FieldType, (xx_tys G.2.1)[kd]? = some (G.2.1 kd, ty) ∧ refKind ty = false ∧ ∀ i, i < z.toNatClampNeg → fits ty (.int (f (sp.toNatClampNeg + i))) = true := by
    subst hkd
    exact ⟨.byte, rfl, rfl, fun _ _ => hfit _⟩
  have hc0 : H[ad h0]? = some (vp_cell (G.2.1 kd) (l0, .inl f)) := d5
  have hc1 : H[ad h1]? = some (vp_cell (G.2.1 kd) (l1, .inl g)) := b5
  obtain ⟨-, k0, hk0, cm0, hkk0⟩ := (hK.2 kd _ hty).1 l0 (fun j => .int (f j))
  have h9 : ((S.map (xx_v ad)).map fun v => v.category) = S.map fun v => v.category := by
    rw [List.map_map]
    exact List.map_congr_left fun v _ => xx_cat ad v
  intro T hT X
  obtain ⟨vm', X', step⟩ := X.arraycopy F.1 F.2.2.2.2.2.2.1 (F.2.2.2.2.2.2.2.1 _ hl) (F.2.2.2.2.2.2.2.1 _ hnat) (F.2.2.2.2.2.2.2.1 _ hst) (F.2.2.2.2.2.2.2.1 _ hini) (src := ad h0) (dst := ad h1) (cs := vp_cell (G.2.1 kd) (l0, .inl f)) (cd := vp_cell (G.2.1 kd) (l1, .inl g)) (srcPos := sp) (destPos := dp) (n := z) (by rw [hT]; exact hc0) (by rw [hT]; exact hc1)
    (fun _ h => by cases h) (fun _ h => by cases h) (fun h => by cases h) (fun h => by cases h) hk0 hk0 hkk0 hkk0 (by simp [hprim]) g1 g2 g3
    (by rw [nn sp g1, nn z g3]; show ¬ _ > ((arrV _ l0 (fun j => .int (f j))).slots.size : Int); rw [arrV_size]; omega)
    (by rw [nn dp g2, nn z g3]; show ¬ _ > ((arrV _ l1 (fun j => .int (g j))).slots.size : Int); rw [arrV_size]; omega)
    (fun vm₁ _ i hi => by
      have e : (vp_cell (G.2.1 kd) (l0, .inl f)).slots.getD (sp.toNatClampNeg + i) .null = .int (f (sp.toNatClampNeg + i)) := by
        show (arrV _ l0 (fun j => .int (f j))).slots.getD _ _ = _
        rw [Array.getD_eq_getD_getElem?, arrV_read _ _ (by omega)]
        rfl
      refine ⟨?_, ?_⟩
      · rw [e]
        exact hfit2 i hi
      · rw [e]
        exact trivial)
    (g := F0 m pc ls (.int z :: .int dp :: .ref (ad h1) :: .int sp :: .ref (ad h0) :: S.map (xx_v ad))) rfl (a5.1.trans F.2.2.1.symm) (rest := S.map (xx_v ad)) rfl (by rw [F.2.1]; exact hd) hR.1 (by rw [h9]; show 2 * 0 + _ + _ ≤ lo; have := hR.2; omega)
  have e1 : copied (vp_cell (G.2.1 kd) (l0, .inl f)) (vp_cell (G.2.1 kd) (l1, .inl g)) sp dp z = vp_cell (G.2.1 kd) (l1, .inl (va_cpy f g sp.toNatClampNeg dp.toNatClampNeg z.toNatClampNeg)) := va_copied (fun z => .int z) _ _ f g g4
  rw [e1] at X' step
  have hlt : ad h1 < H.size := (Array.getElem?_eq_some_iff.mp hc1).1
  generalize hnew : vp_cell (G.2.1 kd) (l1, .inl (va_cpy f g sp.toNatClampNeg dp.toNatClampNeg z.toNatClampNeg)) = nc at X' step
  have hheap : ((T.setVm vm').setCell (ad h1) nc).heap = H.setIfInBounds (ad h1) nc := by rw [← hT]; rfl
  have oq : ∀ q : Nat, q ≠ ad h1 → (H.setIfInBounds (ad h1) nc)[q]? = H[q]? := fun q hq => by simp [Array.getElem?_setIfInBounds, Ne.symm hq]
  have hs : (H.setIfInBounds (ad h1) nc)[ad h1]? = some nc := by simp [Array.getElem?_setIfInBounds, hlt]
  obtain ⟨t, c1, c2⟩ := kk p e s m args below meth c ad0 n0 F ad (H.setIfInBounds (ad h1) nc) _ ls ⟨a1, a2, a3.put hA1 trivial (by
      show (H.setIfInBounds (ad h1) nc)[ad h1]? = some (vp_cell (G.2.1 kd) (l1, .inl (va_cpy f g sp.toNatClampNeg dp.toNatClampNeg z.toNatClampNeg)))
      rw [hnew]; exact hs) oq, ⟨by simp; exact a4.1, fun q q1 q2 => by
      rw [oq q (fun e => q2 (by rw [e]; exact b3))]
      exact a4.2.1 q q1 q2, fun q hq => by
      rcases List.mem_append.mp hq with h | h
      · exact a4.2.2 q h
      · obtain ⟨y, -, hy⟩ := List.mem_map.mp h
        rw [← hy]
        exact b3⟩, a5, xx_t (xx_t (xx_t (xx_t (xx_t a6)))), a7⟩ _ hheap X'
  exact ⟨t, step t c1, c2⟩
theorem J_copyBS {M : xx_M} {fr lo mc ms : Nat} {Post : xx_Q} {pc : Nat} {L : List (Nat × Value)} {S : List Value} {k j : Nat} {idx h0 h1 : Nat} {l0 l1 : Nat} {f g : Nat → Int32} {sp dp z : Int32} (hd : decode M.2.2.1 pc = .ok (.invokestatic idx, 3)) (hl : Cond.methodLink M.1 idx arraycopyName ∈ xx_T) (hnat : Cond.native arraycopyName ∈ xx_T) (hst : Cond.static arraycopyName ∈ xx_T) (hini : Cond.initialized "java/lang/System" ∈ xx_T)
    (hq : (h0, FieldType.byte, l0, fun j => Value.int (f j)) ∈ xx_sa) (hh : h0 < 400) (hA1 : A h1 = some (.inl (1, l1, .inl g))) (g1 : ¬ sp < 0) (g2 : ¬ dp < 0) (g3 : ¬ z < 0) (g4 : sp.toNatClampNeg + z.toNatClampNeg ≤ l0) (g5 : dp.toNatClampNeg + z.toNatClampNeg ≤ l1) (hfit : bfit f)
    (hR : 1 ≤ fr ∧ (S.map fun v => v.category).sum + (nativeFrameWords "java/lang/System" "arraycopy" 5 + 11) ≤ lo)
    (kk : xx_J G l M fr lo mc ms Post (pc + 3) L S (xx_up A h1 (.inl (1, l1, .inl (va_cpy f g sp.toNatClampNeg dp.toNatClampNeg z.toNatClampNeg)))) n k j) : xx_J G l M fr lo mc ms Post pc L (.int z :: .int dp :: .ref h1 :: .int sp :: .ref h0 :: S) A n k j := by
  intro p e s m args below meth c ad0 n0 F ad H locs ls ⟨a1, a2, a3, a4, a5, a6, a7⟩
  obtain ⟨b1, b2, b3, b4, b5⟩ := a3.2.2.1 _ _ hA1
  have hK := F.2.2.2.2.2.2.2.2.2.2.1.1
  have nn : ∀ z : Int32, ¬ z < 0 → z.toInt = (z.toNatClampNeg : Int) := by
    intro z hz
    have hz0 : (0 : Int) ≤ z.toInt := by
      have := Int32.not_lt.mp hz
      simpa using Int32.le_iff_toInt_le.mp this
    show z.toInt = ((z.toInt.toNat : Nat) : Int)
    omega
  obtain ⟨ty, hty, hprim, hfit2⟩ : ∃ ty : FieldType, (xx_tys G.2.1)[1]? = some (G.2.1 1, ty) ∧ refKind ty = false ∧ ∀ i, i < z.toNatClampNeg → fits ty (.int (f (sp.toNatClampNeg + i))) = true := by
    exact ⟨.byte, rfl, rfl, fun _ _ => hfit _⟩
  have hZ : va_T .byte (G.2.2.2 h0) l0 (fun j => xx_v G.2.2.2 (.int (f j))) (xx_A G) s s.heap := F.2.2.2.2.2.2.2.2.2.2.1.2.2.2.2.2.2.1 _ hq
  rw [← a3.2.1 h0 hh] at hZ
  obtain ⟨cs, hc0, ⟨hcs1, ks, hks, cms, hkks⟩, hcs3, hcs4, hcs5, hcs6, hcs7⟩ := hZ.kept (H1 := H) a4.2.1
  have hc1 : H[ad h1]? = some (vp_cell (G.2.1 1) (l1, .inl g)) := b5
  obtain ⟨-, k0, hk0, cm0, hkk0⟩ := (hK.2 1 _ hty).1 l0 (fun j => .int (f j))
  have h9 : ((S.map (xx_v ad)).map fun v => v.category) = S.map fun v => v.category := by
    rw [List.map_map]
    exact List.map_congr_left fun v _ => xx_cat ad v
  intro T hT X
  obtain ⟨vm', X', step⟩ := X.arraycopy F.1 F.2.2.2.2.2.2.1 (F.2.2.2.2.2.2.2.1 _ hl) (F.2.2.2.2.2.2.2.1 _ hnat) (F.2.2.2.2.2.2.2.1 _ hst) (F.2.2.2.2.2.2.2.1 _ hini) (src := ad h0) (dst := ad h1) (cs := cs) (cd := vp_cell (G.2.1 1) (l1, .inl g)) (srcPos := sp) (destPos := dp) (n := z) (by rw [hT]; exact hc0) (by rw [hT]; exact hc1)
    hcs1 (fun _ h => by cases h) hcs3 (fun h => by cases h) hks hk0 hkks hkk0 (by cases hty; rfl) g1 g2 g3
    (by rw [nn sp g1, nn z g3]; omega)
    (by rw [nn dp g2, nn z g3]; show ¬ _ > ((arrV _ l1 (fun j => .int (g j))).slots.size : Int); rw [arrV_size]; omega)
    (fun vm₁ _ i hi => by
      have e : cs.slots.getD (sp.toNatClampNeg + i) .null = .int (f (sp.toNatClampNeg + i)) := by
        rw [Array.getD_eq_getD_getElem?, hcs6 _ (by omega)]
        rfl
      refine ⟨?_, ?_⟩
      · rw [e]
        exact hfit2 i hi
      · rw [e]
        exact trivial)
    (g := F0 m pc ls (.int z :: .int dp :: .ref (ad h1) :: .int sp :: .ref (ad h0) :: S.map (xx_v ad))) rfl (a5.1.trans F.2.2.1.symm) (rest := S.map (xx_v ad)) rfl (by rw [F.2.1]; exact hd) hR.1 (by rw [h9]; show 2 * 0 + _ + _ ≤ lo; have := hR.2; omega)
  have e1 : copied cs (vp_cell (G.2.1 1) (l1, .inl g)) sp dp z = vp_cell (G.2.1 1) (l1, .inl (va_cpy f g sp.toNatClampNeg dp.toNatClampNeg z.toNatClampNeg)) := va_copiedX (fun z => .int z) cs _ f g hcs6 g4
  rw [e1] at X' step
  have hlt : ad h1 < H.size := (Array.getElem?_eq_some_iff.mp hc1).1
  generalize hnew : vp_cell (G.2.1 1) (l1, .inl (va_cpy f g sp.toNatClampNeg dp.toNatClampNeg z.toNatClampNeg)) = nc at X' step
  have hheap : ((T.setVm vm').setCell (ad h1) nc).heap = H.setIfInBounds (ad h1) nc := by rw [← hT]; rfl
  have oq : ∀ q : Nat, q ≠ ad h1 → (H.setIfInBounds (ad h1) nc)[q]? = H[q]? := fun q hq => by simp [Array.getElem?_setIfInBounds, Ne.symm hq]
  have hs : (H.setIfInBounds (ad h1) nc)[ad h1]? = some nc := by simp [Array.getElem?_setIfInBounds, hlt]
  obtain ⟨t, c1, c2⟩ := kk p e s m args below meth c ad0 n0 F ad (H.setIfInBounds (ad h1) nc) _ ls ⟨a1, a2, a3.put hA1 trivial (by
      show (H.setIfInBounds (ad h1) nc)[ad h1]? = some (vp_cell (G.2.1 1) (l1, .inl (va_cpy f g sp.toNatClampNeg dp.toNatClampNeg z.toNatClampNeg)))
      rw [hnew]; exact hs) oq, ⟨by simp; exact a4.1, fun q q1 q2 => by
      rw [oq q (fun e => q2 (by rw [e]; exact b3))]
      exact a4.2.1 q q1 q2, fun q hq => by
      rcases List.mem_append.mp hq with h | h
      · exact a4.2.2 q h
      · obtain ⟨y, -, hy⟩ := List.mem_map.mp h
        rw [← hy]
        exact b3⟩, a5, xx_t (xx_t (xx_t (xx_t (xx_t a6)))), a7⟩ _ hheap X'
  exact ⟨t, step t c1, c2⟩
theorem sa_txF {i : Nat} (hi : i < 82) : (bh i, FieldType.byte, (txt i).length, fun j => Value.int ((txt i).getD j 0)) ∈ xx_sa := sa_tx hi
theorem cH_J0_coder (hst : l.stackTraces = false) {h v : Nat} (hA : A h = some (oT v)) : xx_C G l yJ0_coder_7d493 mJ0_coder_7d493 0 0 0 0 [.ref h] A n (xx_ro (some (.int 0)) A n) := by
  refine J_C hst (by decide +kernel) rfl rfl rfl (Nat.le_of_ble_eq_true rfl) ?_
  show xx_J _ _ _ _ _ _ _ _ 0 [(0, _)] [] _ _ _ _
  refine J_gets (v := .int 1) dJ0_coder_7d493_0 st_cs trivial sl_J0_38 ?_
  refine J_if_eq (tgt := 13) dJ0_coder_7d493_3 rfl (fun h3 => ?_) (fun h3 => ?_)
  · exact absurd h3 (by decide)
  · refine J_aload_n dJ0_coder_7d493_6 rfl rfl ?_
    refine J_getf dJ0_coder_7d493_7 fl_J0_15 (hA) rfl ?_
    refine J_goto (tgt := 14) dJ0_coder_7d493_10 rfl ?_
    refine J_ireturn dJ0_coder_7d493_14 rfl rfl (by decide) (by decide) ?_
    exact ⟨rfl, rfl, rfl⟩
theorem cH_J0_isLatin1 (hst : l.stackTraces = false) {h v : Nat} (hA : A h = some (oT v)) : xx_C G l yJ0_isLatin1_aae02 mJ0_isLatin1_aae02 0 0 0 0 [.ref h] A n (xx_ro (some (.int 1)) A n) := by
  refine J_C hst (by decide +kernel) rfl rfl rfl (Nat.le_of_ble_eq_true rfl) ?_
  show xx_J _ _ _ _ _ _ _ _ 0 [(0, _)] [] _ _ _ _
  refine J_gets (v := .int 1) dJ0_isLatin1_aae02_0 st_cs trivial sl_J0_38 ?_
  refine J_if_eq (tgt := 17) dJ0_isLatin1_aae02_3 rfl (fun h3 => ?_) (fun h3 => ?_)
  · exact absurd h3 (by decide)
  · refine J_aload_n dJ0_isLatin1_aae02_6 rfl rfl ?_
    refine J_getf dJ0_isLatin1_aae02_7 fl_J0_15 (hA) rfl ?_
    refine J_if_ne (tgt := 17) dJ0_isLatin1_aae02_10 rfl (fun h10 => ?_) (fun h10 => ?_)
    · exact absurd rfl h10
    · refine J_iconst (v := 1) dJ0_isLatin1_aae02_13 (by decide) ?_
      refine J_goto (tgt := 18) dJ0_isLatin1_aae02_14 rfl ?_
      refine J_ireturn dJ0_isLatin1_aae02_18 rfl rfl (by decide) (by decide) ?_
      exact ⟨rfl, rfl, rfl⟩
theorem c_str_coder (hst : l.stackTraces = false) {h : Nat} {t : List Int32} (hV : strV A h t) : xx_C G l yJ0_coder_7d493 mJ0_coder_7d493 0 0 0 0 [.ref h] A n (xx_ro (some (.int 0)) A n) := by
  rcases hV with ⟨i, hi, rfl, rfl⟩ | ⟨v, f, h1, h2, h3, h4⟩
  · exact c_J0_coder_7d493T hst hi
  · exact cH_J0_coder hst h1
theorem shr0 {m : Nat} (hm : m < 2 ^ 31) : (nI m) >>> ((0 : Int32) &&& 31) = nI m := by
  exact sb_shr0 _
theorem cH_J0_length (hst : l.stackTraces = false) {h v m : Nat} {f : Nat → Int32} (hA : A h = some (oT v)) (hB : A v = some (rB m f)) (hm : m < 2 ^ 31) : xx_C G l yJ0_length_8abf5 mJ0_length_8abf5 1 20 0 0 [.ref h] A n (xx_ro (some (.int (nI m))) A n) := by
  have hV : ∀ t : List Int32, t.length = m → hol f 0 t → bfit f → strV A h t := fun t h1 h2 h3 => Or.inr ⟨v, f, hA, by rw [h1]; exact hB, h2, h3⟩
  refine J_C hst (by decide +kernel) rfl rfl rfl (Nat.le_of_ble_eq_true rfl) ?_
  show xx_J _ _ _ _ _ _ _ _ 0 [(0, _)] [] _ _ _ _
  refine J_aload_n dJ0_length_8abf5_0 rfl rfl ?_
  refine J_getf dJ0_length_8abf5_1 fl_J0_9 (hA) rfl ?_
  refine J_alen (v := nI m) dJ0_length_8abf5_4 hB (by decide) rfl ?_
  refine J_aload_n dJ0_length_8abf5_5 rfl rfl ?_
  refine J_callVr (As := []) dJ0_length_8abf5_6 ml_J0_335 cal_J0_coder_7d493 im_J0_coder_7d493 se_J0_coder_7d493 hA rfl rfl rfl (Nat.le_of_ble_eq_true rfl) ⟨by decide, by decide⟩ ⟨by decide, by decide⟩ (cH_J0_coder hst hA) ?_
  refine J_ishr dJ0_length_8abf5_9 ?_
  refine J_ireturn dJ0_length_8abf5_10 rfl rfl (by decide) (by decide) ?_
  exact ⟨by rw [shr0 hm], rfl, rfl⟩
theorem c_str_length (hst : l.stackTraces = false) {h : Nat} {t : List Int32} (hV : strV A h t) (ht : t.length < 2 ^ 31) : xx_C G l yJ0_length_8abf5 mJ0_length_8abf5 1 20 0 0 [.ref h] A n (xx_ro (some (.int (nI t.length))) A n) := by
  rcases hV with ⟨i, hi, rfl, rfl⟩ | ⟨v, f, h1, h2, h3, h4⟩
  · exact c_J0_length_8abf5T hst hi
  · exact cH_J0_length hst h1 h2 ht
theorem asc_pos {m : Nat} (hm : m < 128) : ((nI m &&& 255).toUInt32 % 65536).toInt32 = nI m := by
  have h : ∀ m, m < 128 → ((nI m &&& 255).toUInt32 % 65536).toInt32 = nI m := by decide +kernel
  exact h m hm
theorem asc_nar {m : Nat} (hm : m < 128) : narrow .char (.int (nI m)) = .int (nI m) := by
  have h : ∀ m, m < 128 → ((nI m).toUInt32 % 65536).toInt32 = nI m := by decide +kernel
  exact congrArg Value.int (h m hm)
theorem cH_J1_charAt (hst : l.stackTraces = false) {v m p c : Nat} {f : Nat → Int32} (hB : A v = some (rB m f)) (hm : m < 2 ^ 31) {x : Int32} (hx : x = nI p) (hp : p < m) (hc : f p = nI c) (hc2 : c < 128) : xx_C G l yJ1_charAt_3b067 mJ1_charAt_3b067 2 45 0 0 [.ref v, .int x] A n (xx_ro (some (.int (nI c))) A n) := by
  subst hx
  refine J_C hst (by decide +kernel) rfl rfl rfl (Nat.le_of_ble_eq_true rfl) ?_
  show xx_J _ _ _ _ _ _ _ _ 0 [(0, _), (1, _)] [] _ _ _ _
  refine J_iload_n dJ1_charAt_3b067_0 rfl rfl ?_
  refine J_aload_n dJ1_charAt_3b067_1 rfl rfl ?_
  refine J_alen (v := nI m) dJ1_charAt_3b067_2 hB (by decide) rfl ?_
  refine J_callSw (As := [_, _]) dJ1_charAt_3b067_3 ml_J1_9 cal_J0_checkIndex_df160 sm_J0_checkIndex_df160 rfl rfl (Nat.le_of_ble_eq_true rfl) ⟨by decide, by decide⟩ ⟨by decide, by decide⟩ (c_J0_checkIndex_df160 hst rfl rfl hp hm) (fun A' hA => ?_)
  subst hA
  refine J_aload_n dJ1_charAt_3b067_6 rfl rfl ?_
  refine J_iload_n dJ1_charAt_3b067_7 rfl rfl ?_
  refine J_bald (v := nI c) dJ1_charAt_3b067_8 hB (vp_in_nI hp hm) (by rw [nI_clamp (by omega)]; exact hc) ?_
  refine J_sipush (v := 255) dJ1_charAt_3b067_9 (by decide) ?_
  refine J_iand dJ1_charAt_3b067_12 ?_
  refine J_i2c dJ1_charAt_3b067_13 (asc_pos hc2) ?_
  refine J_ireturn dJ1_charAt_3b067_14 rfl (asc_nar hc2) (by decide) (by decide) ?_
  exact ⟨rfl, rfl, rfl⟩
theorem cH_J0_charAt (hst : l.stackTraces = false) {h v m p c : Nat} {f : Nat → Int32} (hA : A h = some (oT v)) (hB : A v = some (rB m f)) (hm : m < 2 ^ 31) {x : Int32} (hx : x = nI p) (hp : p < m) (hc : f p = nI c) (hc2 : c < 128) : xx_C G l yJ0_charAt_5068e mJ0_charAt_5068e 3 70 0 0 [.ref h, .int x] A n (xx_ro (some (.int (nI c))) A n) := by
  refine J_C hst (by decide +kernel) rfl rfl rfl (Nat.le_of_ble_eq_true rfl) ?_
  show xx_J _ _ _ _ _ _ _ _ 0 [(0, _), (1, _)] [] _ _ _ _
  refine J_aload_n dJ0_charAt_5068e_0 rfl rfl ?_
  refine J_callVr (As := []) dJ0_charAt_5068e_1 ml_J0_492 cal_J0_isLatin1_aae02 im_J0_isLatin1_aae02 se_J0_isLatin1_aae02 hA rfl rfl rfl (Nat.le_of_ble_eq_true rfl) ⟨by decide, by decide⟩ ⟨by decide, by decide⟩ (cH_J0_isLatin1 hst hA) ?_
  refine J_if_eq (tgt := 16) dJ0_charAt_5068e_4 rfl (fun h4 => ?_) (fun h4 => ?_)
  · exact absurd h4 (by decide)
  · refine J_aload_n dJ0_charAt_5068e_7 rfl rfl ?_
    refine J_getf dJ0_charAt_5068e_8 fl_J0_9 (hA) rfl ?_
    refine J_iload_n dJ0_charAt_5068e_11 rfl rfl ?_
    refine J_callSr (As := [_, _]) dJ0_charAt_5068e_12 ml_J0_495 cal_J1_charAt_3b067 sm_J1_charAt_3b067 rfl rfl (Nat.le_of_ble_eq_true rfl) ⟨by decide, by decide⟩ ⟨by decide, by decide⟩ (cH_J1_charAt hst hB hm hx hp hc hc2) ?_
    refine J_ireturn dJ0_charAt_5068e_15 rfl (asc_nar hc2) (by decide) (by decide) ?_
    exact ⟨rfl, rfl, rfl⟩
theorem cpy_hol {f g : Nat → Int32} {p : Nat} {t : List Int32} (hf : hol f 0 t) (hg : bfit g) (hff : bfit f) : (∀ i, i < p → va_cpy f g 0 p t.length i = g i) ∧ hol (va_cpy f g 0 p t.length) p t ∧ bfit (va_cpy f g 0 p t.length) := by
  refine ⟨fun i hi => ?_, fun i hi => ?_, fun i => ?_⟩
  · unfold va_cpy; rw [if_neg (by omega)]
  · unfold va_cpy; rw [if_pos (by omega), show 0 + (p + i - p) = 0 + i by omega]; exact hf i hi
  · unfold va_cpy; split
    · exact hff _
    · exact hg _
theorem shl0 (x : Int32) : x <<< ((0 : Int32) &&& 31) = x := by
  exact sb_shl0 x
theorem cH_J0_getBytes (hst : l.stackTraces = false) {h w m p : Nat} {g : Nat → Int32} {t : List Int32} (hw : A w = some (rB m g)) (hg : bfit g) (hp : p + t.length ≤ m) (hm : m < 65536) {x : Int32} (hx : x = nI p) {v : Nat} {f : Nat → Int32} (hA : A h = some (oT v)) (hB : A v = some (rB t.length f)) (hf : hol f 0 t) (hff : bfit f) : xx_C G l yJ0_getBytes_840e7 mJ0_getBytes_840e7 1 60 0 0 [.ref h, .ref w, .int x, .int 0] A n (xx_wr none n (fun A' => ∃ g', A' = xx_up A w (rB m g') ∧ (∀ i, i < p → g' i = g i) ∧ hol g' p t ∧ bfit g')) := by
  subst hx
  refine J_C hst (by decide +kernel) rfl rfl rfl (Nat.le_of_ble_eq_true rfl) ?_
  show xx_J _ _ _ _ _ _ _ _ 0 [(0, _), (1, _), (2, _), (3, _)] [] _ _ _ _
  refine J_aload_n dJ0_getBytes_840e7_0 rfl rfl ?_
  refine J_callVr (As := []) dJ0_getBytes_840e7_1 ml_J0_335 cal_J0_coder_7d493 im_J0_coder_7d493 se_J0_coder_7d493 hA rfl rfl rfl (Nat.le_of_ble_eq_true rfl) ⟨by decide, by decide⟩ ⟨by decide, by decide⟩ (cH_J0_coder hst hA) ?_
  refine J_iload_n dJ0_getBytes_840e7_4 rfl rfl ?_
  refine J_icmp_ne (tgt := 28) dJ0_getBytes_840e7_5 rfl (fun h5 => ?_) (fun h5 => ?_)
  · exact absurd rfl h5
  · refine J_aload_n dJ0_getBytes_840e7_8 rfl rfl ?_
    refine J_getf dJ0_getBytes_840e7_9 fl_J0_9 (hA) rfl ?_
    refine J_iconst (v := 0) dJ0_getBytes_840e7_12 (by decide) ?_
    refine J_aload_n dJ0_getBytes_840e7_13 rfl rfl ?_
    refine J_iload_n dJ0_getBytes_840e7_14 rfl rfl ?_
    refine J_iload_n dJ0_getBytes_840e7_15 rfl rfl ?_
    refine J_ishl dJ0_getBytes_840e7_16 ?_
    refine J_aload_n dJ0_getBytes_840e7_17 rfl rfl ?_
    refine J_getf dJ0_getBytes_840e7_18 fl_J0_9 (hA) rfl ?_
    refine J_alen (v := nI t.length) dJ0_getBytes_840e7_21 hB (by decide) rfl ?_
    refine J_copyB rfl dJ0_getBytes_840e7_22 ml_J0_212 na_copy sm_copy in_java_lang_System hB hw (nI_pos (n := 0) (by decide)) (by rw [shl0]; exact nI_pos (by omega)) (nI_pos (by omega)) (by rw [show (0 : Int32).toNatClampNeg = 0 from rfl, nI_clamp (by omega)]; omega) (by rw [shl0, nI_clamp (by omega), nI_clamp (by omega)]; exact hp) hff ⟨by decide, by decide⟩ ?_
    refine J_goto (tgt := 43) dJ0_getBytes_840e7_25 rfl ?_
    refine J_return dJ0_getBytes_840e7_43 rfl (by decide) (by decide) ?_
    rw [shl0, nI_clamp (by omega), nI_clamp (by omega)]
    exact ⟨rfl, rfl, _, rfl, cpy_hol hf hg hff⟩
theorem cS_J0_getBytes (hst : l.stackTraces = false) {h w m p : Nat} {g : Nat → Int32} {t : List Int32} (hw : A w = some (rB m g)) (hg : bfit g) (hp : p + t.length ≤ m) (hm : m < 65536) {x : Int32} (hx : x = nI p) {i : Nat} (hi : i < 82) (hh : h = th i) (ht : t = txt i) : xx_C G l yJ0_getBytes_840e7 mJ0_getBytes_840e7 1 60 0 0 [.ref h, .ref w, .int x, .int 0] A n (xx_wr none n (fun A' => ∃ g', A' = xx_up A w (rB m g') ∧ (∀ i, i < p → g' i = g i) ∧ hol g' p t ∧ bfit g')) := by
  subst hx hh ht
  have hf : hol (fun j => (txt i).getD j 0) 0 (txt i) := fun j _ => by rw [Nat.zero_add]
  have hff := tx_bfit hi
  refine J_C hst (by decide +kernel) rfl rfl rfl (Nat.le_of_ble_eq_true rfl) ?_
  show xx_J _ _ _ _ _ _ _ _ 0 [(0, _), (1, _), (2, _), (3, _)] [] _ _ _ _
  refine J_aload_n dJ0_getBytes_840e7_0 rfl rfl ?_
  refine J_callVrS (As := []) dJ0_getBytes_840e7_1 ml_J0_335 cal_J0_coder_7d493 im_J0_coder_7d493 se_J0_coder_7d493 (th_lt hi) (so_tx hi) rfl rfl (Nat.le_of_ble_eq_true rfl) ⟨by decide, by decide⟩ ⟨by decide, by decide⟩ (c_J0_coder_7d493T hst hi) ?_
  refine J_iload_n dJ0_getBytes_840e7_4 rfl rfl ?_
  refine J_icmp_ne (tgt := 28) dJ0_getBytes_840e7_5 rfl (fun h5 => ?_) (fun h5 => ?_)
  · exact absurd rfl h5
  · refine J_aload_n dJ0_getBytes_840e7_8 rfl rfl ?_
    refine J_getS dJ0_getBytes_840e7_9 (sf_val hi) (th_lt hi) (bh_lt hi) (Or.inl sl_J0_9) ?_
    refine J_iconst (v := 0) dJ0_getBytes_840e7_12 (by decide) ?_
    refine J_aload_n dJ0_getBytes_840e7_13 rfl rfl ?_
    refine J_iload_n dJ0_getBytes_840e7_14 rfl rfl ?_
    refine J_iload_n dJ0_getBytes_840e7_15 rfl rfl ?_
    refine J_ishl dJ0_getBytes_840e7_16 ?_
    refine J_aload_n dJ0_getBytes_840e7_17 rfl rfl ?_
    refine J_getS dJ0_getBytes_840e7_18 (sf_val hi) (th_lt hi) (bh_lt hi) (Or.inl sl_J0_9) ?_
    refine J_alenS (v := nI (txt i).length) dJ0_getBytes_840e7_21 (sa_tx hi) (bh_lt hi) rfl ?_
    refine J_copyBS dJ0_getBytes_840e7_22 ml_J0_212 na_copy sm_copy in_java_lang_System (sa_tx hi) (bh_lt hi) hw (nI_pos (n := 0) (by decide)) (by rw [shl0]; exact nI_pos (by omega)) (nI_pos (by omega)) (by rw [show (0 : Int32).toNatClampNeg = 0 from rfl, nI_clamp (by omega)]; omega) (by rw [shl0, nI_clamp (by omega), nI_clamp (by omega)]; exact hp) (tx_bfit hi) ⟨by decide, by decide⟩ ?_
    refine J_goto (tgt := 43) dJ0_getBytes_840e7_25 rfl ?_
    refine J_return dJ0_getBytes_840e7_43 rfl (by decide) (by decide) ?_
    rw [shl0, nI_clamp (by omega), nI_clamp (by omega)]
    exact ⟨rfl, rfl, _, rfl, cpy_hol hf hg hff⟩
theorem c_str_getBytes (hst : l.stackTraces = false) {h w m p : Nat} {g : Nat → Int32} {t : List Int32} (hw : A w = some (rB m g)) (hg : bfit g) (hp : p + t.length ≤ m) (hm : m < 65536) {x : Int32} (hx : x = nI p) (hV : strV A h t) : xx_C G l yJ0_getBytes_840e7 mJ0_getBytes_840e7 1 60 0 0 [.ref h, .ref w, .int x, .int 0] A n (xx_wr none n (fun A' => ∃ g', A' = xx_up A w (rB m g') ∧ (∀ i, i < p → g' i = g i) ∧ hol g' p t ∧ bfit g')) := by
  rcases hV with ⟨i, hi, hh, ht⟩ | ⟨v, f, h1, h2, h3, h4⟩
  · exact cS_J0_getBytes hst hw hg hp hm hx hi hh ht
  · exact cH_J0_getBytes hst hw hg hp hm hx h1 h2 h3 h4
end XSB
