/-! MORE ROWS: calls by what the callee says, copies, throws, handlers -/
section XXG
variable {G : xx_G} {l : Launch} {M : xx_M} {fr lo mc ms : Nat} {Post : xx_Q} {pc : Nat} {L : List (Nat × Value)} {S : List Value} {A : xx_H} {n k j : Nat}
/-- it returns v and changes nothing -/
def xx_ro (v : Option Value) (A : xx_H) (n : Nat) : xx_Q := fun r A' n' => r = .inl v ∧ A' = A ∧ n' = n
/-- it returns v, makes nothing, and Q holds of the heap -/
def xx_wr (v : Option Value) (n : Nat) (Q : xx_H → Prop) : xx_Q := fun r A' n' => r = .inl v ∧ n' = n ∧ Q A'
/-- the receiver is a made object -/
theorem xx_recv {y : MethodName} {h ci : Nat} {fs : List Value} {T : u_T} {N : Nat} (hA : A h = some (.inr (ci, fs))) (hcl : vwCl[ci]? = some (y.cls, T, N)) : ∀ (s : State) (H : Heap) (ad : Nat → Nat) (locs : List Loc), xx_P G ad n A H → xx_K G s s.heap → va_S (xx_A G) s.heap H locs → ∃ cellB : Cell, H[ad h]? = some cellB ∧ cellB.vm.isStatics = false ∧ s.vm.findClass y.cls = some cellB.cls := by
  intro s H ad locs hP hK _
  exact va_recv hK.1 (hP.at hA) hcl (q0 := 0) rfl
/-- .. stands at the start -/
theorem xx_recvS {y : MethodName} {h : Nat} (hh : h < 400) (hq : (h, y.cls) ∈ xx_so) : ∀ (s : State) (H : Heap) (ad : Nat → Nat) (locs : List Loc), xx_P G ad n A H → xx_K G s s.heap → va_S (xx_A G) s.heap H locs → ∃ cellB : Cell, H[ad h]? = some cellB ∧ cellB.vm.isStatics = false ∧ s.vm.findClass y.cls = some cellB.cls := by
  intro s H ad locs hP hK hS
  have hO : va_O y.cls (G.2.2.2 h) (xx_A G) s s.heap := hK.2.2.2.2.2.1 _ hq
  rw [← hP.2.1 h hh] at hO
  obtain ⟨cellV, g1, g2, g3, -⟩ := hO.kept (H1 := H) hS.2.1
  exact ⟨cellV, g1, g2, g3⟩
theorem J_callV {y : MethodName} {M' : xx_M} {na idx fr' lo' mc' ms' h ci : Nat} {fs : List Value} {T : u_T} {N : Nat} {As : List Value} {Post' : xx_Q} (hd : decode M.2.2.1 pc = .ok (.invokevirtual idx, 3)) (hl : Cond.methodLink M.1 idx y ∈ xx_T) (hc : xx_Cal y M' na) (hi : Cond.instanceMethod y ∈ xx_T) (hs : Cond.selects y.cls y y ∈ xx_T) (hA : A h = some (.inr (ci, fs))) (hcl : vwCl[ci]? = some (y.cls, T, N)) (hh : M'.2.2.2.2.2 = [])
    (hn : As.length = na) (hS : (S.map fun v => v.category).sum ≤ 8) (hR : fr' + 1 ≤ fr ∧ 8 + (M'.2.2.2.1 + 11) + lo' ≤ lo) (hf : k + mc' ≤ mc ∧ j + ms' ≤ ms) (hC : xx_C G l y M' fr' lo' mc' ms' (.ref h :: As) A n Post')
    (kx : ∀ E A' n', n ≤ n' → Post' (.inr E) A' n' → xx_JX G l M fr lo mc ms Post pc L E A' n' (k + mc') (j + ms'))
    (kk : ∀ v A' n', n ≤ n' → Post' (.inl v) A' n' → xx_J G l M fr lo mc ms Post (pc + 3) L (v.toList ++ S) A' n' (k + mc') (j + ms')) : xx_J G l M fr lo mc ms Post pc L (As.reverse ++ .ref h :: S) A n k j :=
  J_callVg hd hl hc hh hi hs (xx_recv hA hcl) hn hS hR hf hC kk kx
/-- a call that only reads, with an answer -/
theorem J_callVr {y : MethodName} {M' : xx_M} {na idx fr' lo' h ci : Nat} {fs : List Value} {T : u_T} {N : Nat} {As : List Value} {v : Value} (hd : decode M.2.2.1 pc = .ok (.invokevirtual idx, 3)) (hl : Cond.methodLink M.1 idx y ∈ xx_T) (hc : xx_Cal y M' na) (hi : Cond.instanceMethod y ∈ xx_T) (hs : Cond.selects y.cls y y ∈ xx_T) (hA : A h = some (.inr (ci, fs))) (hcl : vwCl[ci]? = some (y.cls, T, N)) (hh : M'.2.2.2.2.2 = [])
    (hn : As.length = na) (hS : (S.map fun v => v.category).sum ≤ 8) (hR : fr' + 1 ≤ fr ∧ 8 + (M'.2.2.2.1 + 11) + lo' ≤ lo) (hf : k ≤ mc ∧ j ≤ ms) (hC : xx_C G l y M' fr' lo' 0 0 (.ref h :: As) A n (xx_ro (some v) A n))
    (kk : xx_J G l M fr lo mc ms Post (pc + 3) L (v :: S) A n k j) : xx_J G l M fr lo mc ms Post pc L (As.reverse ++ .ref h :: S) A n k j := by
  refine J_callVg hd hl hc hh hi hs (xx_recv hA hcl) hn hS hR ⟨hf.1, hf.2⟩ hC (fun v' A' n' _ hp => ?_) (fun E A' n' _ hp => by cases hp.1)
  obtain ⟨h1, rfl, rfl⟩ := hp
  cases h1
  exact kk
/-- a call that may write, makes nothing; its answer is v -/
theorem J_callVw {y : MethodName} {M' : xx_M} {na idx fr' lo' h ci : Nat} {fs : List Value} {T : u_T} {N : Nat} {As : List Value} {v : Option Value} {Q : xx_H → Prop} (hd : decode M.2.2.1 pc = .ok (.invokevirtual idx, 3)) (hl : Cond.methodLink M.1 idx y ∈ xx_T) (hc : xx_Cal y M' na) (hi : Cond.instanceMethod y ∈ xx_T) (hs : Cond.selects y.cls y y ∈ xx_T) (hA : A h = some (.inr (ci, fs))) (hcl : vwCl[ci]? = some (y.cls, T, N)) (hh : M'.2.2.2.2.2 = [])
    (hn : As.length = na) (hS : (S.map fun v => v.category).sum ≤ 8) (hR : fr' + 1 ≤ fr ∧ 8 + (M'.2.2.2.1 + 11) + lo' ≤ lo) (hf : k ≤ mc ∧ j ≤ ms) (hC : xx_C G l y M' fr' lo' 0 0 (.ref h :: As) A n (xx_wr v n Q))
    (kk : ∀ A', Q A' → xx_J G l M fr lo mc ms Post (pc + 3) L (v.toList ++ S) A' n k j) : xx_J G l M fr lo mc ms Post pc L (As.reverse ++ .ref h :: S) A n k j := by
  refine J_callVg hd hl hc hh hi hs (xx_recv hA hcl) hn hS hR ⟨hf.1, hf.2⟩ hC (fun v' A' n' _ hp => ?_) (fun E A' n' _ hp => by cases hp.1)
  obtain ⟨h1, rfl, hq⟩ := hp
  cases h1
  exact kk A' hq
/-- the same, static -/
theorem J_callSr {y : MethodName} {M' : xx_M} {na idx fr' lo' : Nat} {As : List Value} {v : Value} (hd : decode M.2.2.1 pc = .ok (.invokestatic idx, 3)) (hl : Cond.methodLink M.1 idx y ∈ xx_T) (hc : xx_Cal y M' na) (hi : Cond.static y ∈ xx_T) (hh : M'.2.2.2.2.2 = [])
    (hn : As.length = na) (hS : (S.map fun v => v.category).sum ≤ 8) (hR : fr' + 1 ≤ fr ∧ 8 + (M'.2.2.2.1 + 11) + lo' ≤ lo) (hf : k ≤ mc ∧ j ≤ ms) (hC : xx_C G l y M' fr' lo' 0 0 As A n (xx_ro (some v) A n))
    (kk : xx_J G l M fr lo mc ms Post (pc + 3) L (v :: S) A n k j) : xx_J G l M fr lo mc ms Post pc L (As.reverse ++ S) A n k j := by
  refine J_callSg hd hl hc hh hi hn hS hR ⟨hf.1, hf.2⟩ hC (fun v' A' n' _ hp => ?_) (fun E A' n' _ hp => by cases hp.1)
  obtain ⟨h1, rfl, rfl⟩ := hp
  cases h1
  exact kk
theorem J_callSw {y : MethodName} {M' : xx_M} {na idx fr' lo' : Nat} {As : List Value} {v : Option Value} {Q : xx_H → Prop} (hd : decode M.2.2.1 pc = .ok (.invokestatic idx, 3)) (hl : Cond.methodLink M.1 idx y ∈ xx_T) (hc : xx_Cal y M' na) (hi : Cond.static y ∈ xx_T) (hh : M'.2.2.2.2.2 = [])
    (hn : As.length = na) (hS : (S.map fun v => v.category).sum ≤ 8) (hR : fr' + 1 ≤ fr ∧ 8 + (M'.2.2.2.1 + 11) + lo' ≤ lo) (hf : k ≤ mc ∧ j ≤ ms) (hC : xx_C G l y M' fr' lo' 0 0 As A n (xx_wr v n Q))
    (kk : ∀ A', Q A' → xx_J G l M fr lo mc ms Post (pc + 3) L (v.toList ++ S) A' n k j) : xx_J G l M fr lo mc ms Post pc L (As.reverse ++ S) A n k j := by
  refine J_callSg hd hl hc hh hi hn hS hR ⟨hf.1, hf.2⟩ hC (fun v' A' n' _ hp => ?_) (fun E A' n' _ hp => by cases hp.1)
  obtain ⟨h1, rfl, hq⟩ := hp
  cases h1
  exact kk A' hq
/-- a text's method, that only reads -/
theorem J_callVrS {y : MethodName} {M' : xx_M} {na idx fr' lo' h : Nat} {As : List Value} {v : Value} (hd : decode M.2.2.1 pc = .ok (.invokevirtual idx, 3)) (hl : Cond.methodLink M.1 idx y ∈ xx_T) (hc : xx_Cal y M' na) (hi : Cond.instanceMethod y ∈ xx_T) (hs : Cond.selects y.cls y y ∈ xx_T) (h2 : h < 400) (hq : (h, y.cls) ∈ xx_so) (hh : M'.2.2.2.2.2 = [])
    (hn : As.length = na) (hS : (S.map fun v => v.category).sum ≤ 8) (hR : fr' + 1 ≤ fr ∧ 8 + (M'.2.2.2.1 + 11) + lo' ≤ lo) (hf : k ≤ mc ∧ j ≤ ms) (hC : xx_C G l y M' fr' lo' 0 0 (.ref h :: As) A n (xx_ro (some v) A n))
    (kk : xx_J G l M fr lo mc ms Post (pc + 3) L (v :: S) A n k j) : xx_J G l M fr lo mc ms Post pc L (As.reverse ++ .ref h :: S) A n k j := by
  refine J_callVg hd hl hc hh hi hs (xx_recvS h2 hq) hn hS hR ⟨hf.1, hf.2⟩ hC (fun v' A' n' _ hp => ?_) (fun E A' n' _ hp => by cases hp.1)
  obtain ⟨h1, rfl, rfl⟩ := hp
  cases h1
  exact kk
/-- a truth as a number -/
def xx_b (P : Prop) [Decidable P] : Int32 := if P then 1 else 0
theorem xx_b0 {P : Prop} [Decidable P] : xx_b P = 0 ↔ ¬ P := by unfold xx_b; split <;> simp_all
theorem xx_bt {P : Prop} [Decidable P] (h : P) : xx_b P = 1 := if_pos h
theorem xx_bf {P : Prop} [Decidable P] (h : ¬ P) : xx_b P = 0 := if_neg h
theorem J_ifb_eq {P : Prop} [Decidable P] {off : Int} {tgt : Nat} (hd : decode M.2.2.1 pc = .ok (.ifCond .eq off, 3)) (ht : (pc : Int) + off = (tgt : Int)) (kt : ¬ P → xx_J G l M fr lo mc ms Post tgt L S A n k j) (kf : P → xx_J G l M fr lo mc ms Post (pc + 3) L S A n k j) : xx_J G l M fr lo mc ms Post pc L (.int (xx_b P) :: S) A n k j :=
  J_if_eq hd ht (fun h => kt (xx_b0.mp h)) (fun h => kf (Decidable.not_not.mp fun z => h (xx_b0.mpr z)))
theorem J_ifb_ne {P : Prop} [Decidable P] {off : Int} {tgt : Nat} (hd : decode M.2.2.1 pc = .ok (.ifCond .ne off, 3)) (ht : (pc : Int) + off = (tgt : Int)) (kt : P → xx_J G l M fr lo mc ms Post tgt L S A n k j) (kf : ¬ P → xx_J G l M fr lo mc ms Post (pc + 3) L S A n k j) : xx_J G l M fr lo mc ms Post pc L (.int (xx_b P) :: S) A n k j :=
  J_if_ne hd ht (fun h => kt (Decidable.not_not.mp fun z => h (xx_b0.mpr z))) (fun h => kf (xx_b0.mp h))
/-- System.arraycopy, ints or booleans -/
theorem J_copy {idx h0 h1 kd : Nat} {l0 l1 : Nat} {f g : Nat → Int32} {sp dp z : Int32} (hkd : kd = 0 ∨ kd = 2) (hd : decode M.2.2.1 pc = .ok (.invokestatic idx, 3)) (hl : Cond.methodLink M.1 idx arraycopyName ∈ xx_T) (hnat : Cond.native arraycopyName ∈ xx_T) (hst : Cond.static arraycopyName ∈ xx_T) (hini : Cond.initialized "java/lang/System" ∈ xx_T)
    (hA0 : A h0 = some (.inl (kd, l0, .inl f))) (hA1 : A h1 = some (.inl (kd, l1, .inl g))) (g1 : ¬ sp < 0) (g2 : ¬ dp < 0) (g3 : ¬ z < 0) (g4 : sp.toNatClampNeg + z.toNatClampNeg ≤ l0) (g5 : dp.toNatClampNeg + z.toNatClampNeg ≤ l1) (hfit : kd = 2 → ∀ i, i < z.toNatClampNeg → fits .boolean (.int (f (sp.toNatClampNeg + i))) = true)
    (hR : 1 ≤ fr ∧ (S.map fun v => v.category).sum + (nativeFrameWords "java/lang/System" "arraycopy" 5 + 11) ≤ lo)
    (kk : xx_J G l M fr lo mc ms Post (pc + 3) L S (xx_up A h1 (.inl (kd, l1, .inl (va_cpy f g sp.toNatClampNeg dp.toNatClampNeg z.toNatClampNeg)))) n k j) : xx_J G l M fr lo mc ms Post pc L (.int z :: .int dp :: .ref h1 :: .int sp :: .ref h0 :: S) A n k j := by
  intro p e s m args below meth c ad0 n0 F ad H locs ls ⟨a1, a2, a3, a4, a5, a6, a7⟩
  obtain ⟨b1, b2, b3, b4, b5⟩ := a3.2.2.1 _ _ hA1
  obtain ⟨d1, d2, d3, d4, d5⟩ := a3.2.2.1 _ _ hA0
  have hK := F.2.2.2.2.2.2.2.2.2.2.1.1
  have nn : ∀ z : Int32, ¬ z < 0 → z.toInt = (z.toNatClampNeg : Int) := by
    intro z hz
    have hz0 : (0 : Int) ≤ z.toInt := by
      have := Int32.not_lt.mp hz
      simpa using Int32.le_iff_toInt_le.mp this
    show z.toInt = ((z.toInt.toNat : Nat) : Int)
    omega
  obtain ⟨ty, hty, hprim, hfit2⟩ : ∃ ty : FieldType, (xx_tys G.2.1)[kd]? = some (G.2.1 kd, ty) ∧ refKind ty = false ∧ ∀ i, i < z.toNatClampNeg → fits ty (.int (f (sp.toNatClampNeg + i))) = true := by
    rcases hkd with rfl | rfl
    · exact ⟨.int, rfl, rfl, fun _ _ => rfl⟩
    · exact ⟨.boolean, rfl, rfl, hfit rfl⟩
  have hc0 : H[ad h0]? = some (vp_cell (G.2.1 kd) (l0, .inl f)) := d5
  have hc1 : H[ad h1]? = some (vp_cell (G.2.1 kd) (l1, .inl g)) := b5
  obtain ⟨-, k0, hk0, cm0, hkk0⟩ := (hK.2 kd _ hty).1 l0 (fun j => .int (f j))
  have h9 : ((S.map (xx_v ad)).map fun v => v.category) = S.map fun v => v.category := by
    rw [List.map_map]
    exact List.map_congr_left fun v _ => xx_cat ad v
  intro T hT X
  obtain ⟨vm', X', step⟩ := X.arraycopy F.1 F.2.2.2.2.2.2.1 (F.2.2.2.2.2.2.2.1 _ hl) (F.2.2.2.2.2.2.2.1 _ hnat) (F.2.2.2.2.2.2.2.1 _ hst) (F.2.2.2.2.2.2.2.1 _ hini) (src := ad h0) (dst := ad h1) (cs := vp_cell (G.2.1 kd) (l0, .inl f)) (cd := vp_cell (G.2.1 kd) (l1, .inl g)) (srcPos := sp) (destPos := dp) (n := z) (by rw [hT]; exact hc0) (by rw [hT]; exact hc1)
    (fun _ h => by cases h) (fun _ h => by cases h) (fun h => by cases h) (fun h => by cases h) hk0 hk0 hkk0 hkk0 (by simp [hprim]) g1 g2 g3
    (by rw [nn sp g1, nn z g3]; show ¬ _ > ((arrV _ l0 (fun j => .int (f j))).slots.size : Int); rw [arrV_size]; omega)
    (by rw [nn dp g2, nn z g3]; show ¬ _ > ((arrV _ l1 (fun j => .int (g j))).slots.size : Int); rw [arrV_size]; omega)
    (fun vm₁ _ i hi => by
      have e : (vp_cell (G.2.1 kd) (l0, .inl f)).slots.getD (sp.toNatClampNeg + i) .null = .int (f (sp.toNatClampNeg + i)) := by
        show (arrV _ l0 (fun j => .int (f j))).slots.getD _ _ = _
        rw [Array.getD_eq_getD_getElem?, arrV_read _ _ (by omega)]
        rfl
      refine ⟨?_, ?_⟩
      · rw [e]
        exact hfit2 i hi
      · rw [e]
        exact trivial)
    (g := F0 m pc ls (.int z :: .int dp :: .ref (ad h1) :: .int sp :: .ref (ad h0) :: S.map (xx_v ad))) rfl (a5.1.trans F.2.2.1.symm) (rest := S.map (xx_v ad)) rfl (by rw [F.2.1]; exact hd) hR.1 (by rw [h9]; show 2 * 0 + _ + _ ≤ lo; have := hR.2; omega)
  have e1 : copied (vp_cell (G.2.1 kd) (l0, .inl f)) (vp_cell (G.2.1 kd) (l1, .inl g)) sp dp z = vp_cell (G.2.1 kd) (l1, .inl (va_cpy f g sp.toNatClampNeg dp.toNatClampNeg z.toNatClampNeg)) := va_copied (fun z => .int z) _ _ f g g4
  rw [e1] at X' step
  have hlt : ad h1 < H.size := (Array.getElem?_eq_some_iff.mp hc1).1
  generalize hnew : vp_cell (G.2.1 kd) (l1, .inl (va_cpy f g sp.toNatClampNeg dp.toNatClampNeg z.toNatClampNeg)) = nc at X' step
  have hheap : ((T.setVm vm').setCell (ad h1) nc).heap = H.setIfInBounds (ad h1) nc := by rw [← hT]; rfl
  have oq : ∀ q : Nat, q ≠ ad h1 → (H.setIfInBounds (ad h1) nc)[q]? = H[q]? := fun q hq => by simp [Array.getElem?_setIfInBounds, Ne.symm hq]
  have hs : (H.setIfInBounds (ad h1) nc)[ad h1]? = some nc := by simp [Array.getElem?_setIfInBounds, hlt]
  obtain ⟨t, c1, c2⟩ := kk p e s m args below meth c ad0 n0 F ad (H.setIfInBounds (ad h1) nc) _ ls ⟨a1, a2, a3.put hA1 trivial (by
      show (H.setIfInBounds (ad h1) nc)[ad h1]? = some (vp_cell (G.2.1 kd) (l1, .inl (va_cpy f g sp.toNatClampNeg dp.toNatClampNeg z.toNatClampNeg)))
      rw [hnew]; exact hs) oq, ⟨by simp; exact a4.1, fun q q1 q2 => by
      rw [oq q (fun e => q2 (by rw [e]; exact b3))]
      exact a4.2.1 q q1 q2, fun q hq => by
      rcases List.mem_append.mp hq with h | h
      · exact a4.2.2 q h
      · obtain ⟨y, -, hy⟩ := List.mem_map.mp h
        rw [← hy]
        exact b3⟩, a5, xx_t (xx_t (xx_t (xx_t (xx_t a6)))), a7⟩ _ hheap X'
  exact ⟨t, step t c1, c2⟩
/-- 'throw new E("text")' that leaves the method -/
theorem J_throw {cls text : String} {ik is ic : Nat} (hst : l.stackTraces = false) (d0 : decode M.2.2.1 pc = .ok (.new ik, 3)) (d3 : decode M.2.2.1 (pc + 3) = .ok (.dup, 1)) (d4 : decode M.2.2.1 (pc + 4) = .ok (.ldc is, 2)) (d6 : decode M.2.2.1 (pc + 6) = .ok (.invokespecial ic, 3)) (d9 : decode M.2.2.1 (pc + 9) = .ok (.athrow, 1))
    (hcls : Bundle.fit cls = true) (w1 : Cond.classLink M.1 ik cls ∈ xx_T) (w2 : Cond.initialized cls ∈ xx_T) (w3 : ∀ w ∈ vx_atS M.1 ic cls ["java/lang/RuntimeException", "java/lang/Exception"], w ∈ xx_T ∨ w ∈ xx_N) (w4 : ∀ w ∈ Cond.classLink M.1 ik cls :: Cond.initialized cls :: vx_atS M.1 ic cls ["java/lang/RuntimeException", "java/lang/Exception"], vx_ot w = true) (hx : (M.1, is, text) ∈ xx_sx)
    (hh : M.2.2.2.2.2 = []) (hR : 6 ≤ fr ∧ (S.map fun v => v.category).sum + 82 ≤ lo) (hk : k + 1 ≤ mc) (hj : j + 6 ≤ ms) (hP : Post (.inr cls) A n) : xx_J G l M fr lo mc ms Post pc L S A n k j := by
  intro p e s m args below meth c ad0 n0 F ad H locs ls ⟨a1, a2, a3, a4, a5, a6, a7⟩
  have hK := F.2.2.2.2.2.2.2.2.2.2.1
  have htab : c.exceptionTable.toList = [] := by rw [F.2.2.2.2.2.2.2.2.1, hh]; rfl
  obtain ⟨sa, hsa⟩ := hK.2.2.2.2.2.2.2.2.2.2.2.1 _ hx
  have h9 : ((S.map (xx_v ad)).map fun v => v.category) = S.map fun v => v.category := by
    rw [List.map_map]
    exact List.map_congr_left fun v _ => xx_cat ad v
  refine vx_throwS (names := ["java/lang/RuntimeException", "java/lang/Exception"]) (A := xx_A G) F.1 F.2.1 hst F.2.2.2.2.2.2.1 hcls (by decide +kernel) (F.2.2.2.2.2.2.2.1 _ w1) (F.2.2.2.2.2.2.2.1 _ w2) hsa (fun w hw => ?_) w4 hK.2.2.2.2.2.2.2.2.2.1 hK.2.2.2.2.2.2.2.2.2.2.1 a4 (a5.1.trans F.2.2.1.symm) d0 d3 d4 d6 d9 (fun x hx => by rw [htab] at hx; cases hx) (by show 2 + 3 < fr; have := hR.1; omega) (by rw [h9]; show _ + (13 * (2 + 1) + 43) ≤ lo; have := hR.2; omega) hk hj F.2.2.2.2.1 (fun t hvm hz hq => ⟨ad, n, A, a1, a2, hP, ?_, Nat.le_trans a4.1 hz, fun q h1 h2 => (hq q (Nat.lt_of_lt_of_le h1 a4.1)).trans (a4.2.1 q h1 h2)⟩) a4.2.2 hk hj
  · rcases w3 w hw with h | h
    · exact F.2.2.2.2.2.2.2.1 _ h
    · have hodd := (List.mem_filter.mp h).2
      have hz := hK.2.1 w h
      cases w <;> first | (simp [xx_odd] at hodd; done) | exact va_Nw.use rfl hz
  · obtain ⟨p1, p2, p3, p4⟩ := a3
    exact ⟨p1, p2, fun h e he => by
      obtain ⟨b1, b2, b3, b4, b5⟩ := p3 h e he
      exact ⟨b1, b2, b3, b4, b5.kept (hq _ b5.lt)⟩, p4⟩
end XXG
