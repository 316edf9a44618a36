/-! ROWS MORE: nulls, literals, rows of rows, rows of objects, bytes copied, methods of a class above -/
section XRC
variable {G : xx_G} {l : Launch} {M : xx_M} {fr lo mc ms : Nat} {Post : xx_Q} {pc : Nat} {L : List (Nat × Value)} {S : List Value} {A A' : xx_H} {n k j i q s e t d : Nat}
theorem J_null (hd : decode M.2.2.1 pc = .ok (.aconst_null, 1)) (kk : xx_J G l M fr lo mc ms Post (pc + 1) L (.null :: S) A n k j) : xx_J G l M fr lo mc ms Post pc L S A n k j := by
  intro p e s m args below meth c ad0 n0 F ad H locs ls ⟨a1, a2, a3, a4, a5, a6, a7⟩
  exact lv_null F.1 F.2.1 hd (kk p e s m args below meth c ad0 n0 F ad H locs ls ⟨a1, a2, a3, a4, a5, xx_c trivial a6, a7⟩)
theorem J_ifnonnull {x : Nat} {off : Int} {tgt : Nat} (hd : decode M.2.2.1 pc = .ok (.ifnonnull off, 3)) (ht : (pc : Int) + off = (tgt : Int)) (kk : xx_J G l M fr lo mc ms Post tgt L S A n k j) : xx_J G l M fr lo mc ms Post pc L (.ref x :: S) A n k j := by
  intro p e s m args below meth c ad0 n0 F ad H locs ls ⟨a1, a2, a3, a4, a5, a6, a7⟩
  exact lv_ifnonnull F.1 F.2.1 hd ht (kk p e s m args below meth c ad0 n0 F ad H locs ls ⟨a1, a2, a3, a4, a5, xx_t a6, a7⟩)
theorem J_ifnonnullN {off : Int} (hd : decode M.2.2.1 pc = .ok (.ifnonnull off, 3)) (kk : xx_J G l M fr lo mc ms Post (pc + 3) L S A n k j) : xx_J G l M fr lo mc ms Post pc L (.null :: S) A n k j := by
  intro p e s m args below meth c ad0 n0 F ad H locs ls ⟨a1, a2, a3, a4, a5, a6, a7⟩
  exact lv_ifnonnullN F.1 F.2.1 hd (kk p e s m args below meth c ad0 n0 F ad H locs ls ⟨a1, a2, a3, a4, a5, xx_t a6, a7⟩)
theorem J_ifnull {x : Nat} {off : Int} (hd : decode M.2.2.1 pc = .ok (.ifnull off, 3)) (kk : xx_J G l M fr lo mc ms Post (pc + 3) L S A n k j) : xx_J G l M fr lo mc ms Post pc L (.ref x :: S) A n k j := by
  intro p e s m args below meth c ad0 n0 F ad H locs ls ⟨a1, a2, a3, a4, a5, a6, a7⟩
  exact lv_ifnull F.1 F.2.1 hd (kk p e s m args below meth c ad0 n0 F ad H locs ls ⟨a1, a2, a3, a4, a5, xx_t a6, a7⟩)
theorem J_ifnullN {off : Int} {tgt : Nat} (hd : decode M.2.2.1 pc = .ok (.ifnull off, 3)) (ht : (pc : Int) + off = (tgt : Int)) (kk : xx_J G l M fr lo mc ms Post tgt L S A n k j) : xx_J G l M fr lo mc ms Post pc L (.null :: S) A n k j := by
  intro p e s m args below meth c ad0 n0 F ad H locs ls ⟨a1, a2, a3, a4, a5, a6, a7⟩
  exact lv_ifnullN F.1 F.2.1 hd ht (kk p e s m args below meth c ad0 n0 F ad H locs ls ⟨a1, a2, a3, a4, a5, xx_t a6, a7⟩)
theorem J_ldci {index : Nat} {v : Int32} (hd : decode M.2.2.1 pc = .ok (.ldc index, 2)) (hw : Jvm.Cond.constant M.1 index v ∈ xx_T) (kk : xx_J G l M fr lo mc ms Post (pc + 2) L (.int v :: S) A n k j) : xx_J G l M fr lo mc ms Post pc L S A n k j := by
  intro p e s m args below meth c ad0 n0 F ad H locs ls ⟨a1, a2, a3, a4, a5, a6, a7⟩
  exact lv_ldc F.1 F.2.1 F.2.2.2.2.2.2.1 (F.2.2.2.2.2.2.2.1 _ hw) hd (kk p e s m args below meth c ad0 n0 F ad H locs ls ⟨a1, a2, a3, a4, a5, xx_c trivial a6, a7⟩)
theorem thn_lt : ∀ q, q < 43 → th (xx_ln q) < 400 := by decide
theorem lits_lt {x : String × Nat × String} (h : xx_lits[q]? = some x) : q < 43 := by
  have := (List.getElem?_eq_some_iff.mp h).1
  exact this
/-- a literal of the law -/
theorem J_ldcS (q : Nat) {idx : Nat} {tx : String} (hd : decode M.2.2.1 pc = .ok (.ldc idx, 2)) (hq : xx_lits[q]? = some (M.1, idx, tx)) (kk : xx_J G l M fr lo mc ms Post (pc + 2) L (.ref (th (xx_ln q)) :: S) A n k j) : xx_J G l M fr lo mc ms Post pc L S A n k j := by
  intro p e s m args below meth c ad0 n0 F ad H locs ls ⟨a1, a2, a3, a4, a5, a6, a7⟩
  have hK := F.2.2.2.2.2.2.2.2.2.2.1
  have hlt : th (xx_ln q) < 400 := thn_lt q (lits_lt hq)
  have hz : vk_R M.1 idx tx (G.2.2.2 (th (xx_ln q))) s := hK.2.2.2.2.2.2.2.2.2.2.2.2 q _ hq
  rw [← a3.2.1 _ hlt] at hz
  exact va_ldcS F.1 F.2.1 F.2.2.2.2.2.2.1 hz hd (kk p e s m args below meth c ad0 n0 F ad H locs ls ⟨a1, a2, a3, a4, a5, xx_c (show th (xx_ln q) < n from Nat.lt_of_lt_of_le hlt a3.1) a6, a7⟩)
/-- a place of a row of references -/
theorem J_aaldK {kd h len : Nat} {f : Nat → Option Nat} {i : Int32} {v : Option Nat} (hkd : kd = 3 ∨ kd = 4 ∨ kd = 5 ∨ kd = 6) (hd : decode M.2.2.1 pc = .ok (.aaload, 1)) (hA : A h = some (.inl (kd, len, .inr (.inr (.inr (.inr f)))))) (hin : vp_in i len) (hv : f i.toNatClampNeg = v) (kk : xx_J G l M fr lo mc ms Post (pc + 1) L (va_rf v :: S) A n k j) : xx_J G l M fr lo mc ms Post pc L (.int i :: .ref h :: S) A n k j := by
  intro p e s m args below meth c ad0 n0 F ad H locs ls ⟨a1, a2, a3, a4, a5, a6, a7⟩
  subst hv
  have hw : xx_vw n (va_rf (f i.toNatClampNeg)) := by
    have h9 := (a3.2.2.1 _ _ hA).2.2.2.1 i.toNatClampNeg
    cases hf : f i.toNatClampNeg with
    | none => trivial
    | some q => exact h9 q hf
  have hr : ∀ r : Option Nat, xx_v ad (va_rf r) = va_rf (r.map ad) := fun r => by cases r <;> rfl
  have K := kk p e s m args below meth c ad0 n0 F ad H locs ls ⟨a1, a2, a3, a4, a5, xx_c hw (xx_t (xx_t a6)), a7⟩
  rw [List.map_cons, hr] at K
  have hlt : i.toNatClampNeg < len := Nat.not_le.mp fun q => hin (Or.inr q)
  have hK := F.2.2.2.2.2.2.2.2.2.2.1.1
  rcases hkd with rfl | rfl | rfl | rfl
  · exact W.aald (v := va_rf ((f i.toNatClampNeg).map ad)) (ty := .array .int) F.1 F.2.1 ((a3.at hA) 0 _ rfl) ((hK.2 3 _ rfl).1 len (fun j => va_rf ((f j).map ad))) rfl (fun q => by cases q) (by show ¬ (i < 0 ∨ (arrV _ _ _).slots.size ≤ _); rw [arrV_size]; exact hin) (by show (arrV (G.2.1 3) len (fun j => va_rf ((f j).map ad))).slots[_]? = _; rw [arrV_read _ _ hlt]) rfl rfl hd K
  · exact va_aldq F.1 F.2.1 hK (a3.at hA) 0 4 rfl rfl hin hd K
  · exact va_aldq F.1 F.2.1 hK (a3.at hA) 0 5 rfl rfl hin hd K
  · exact va_aldq F.1 F.2.1 hK (a3.at hA) 0 6 rfl rfl hin hd K
theorem xx_Waast2 {p : Program} {l : Launch} {e : Env} {R : Room} {s : State} {m : MethodId} {args : Array Value} {below : List Frame} {meth : Method} {c : Code} {H : Heap} {locs : List Loc} {cells slots : Nat} {Q : State → Prop} {cc : ByteArray} {pc : Nat} {ls : Array Slot} {rest : List Value}
    (hexec : p.tables.exec = Jvm.exec) (hb : c.code = cc) {a b : Nat} {cA comp : ClassId} {kA kE : Class} {ty : FieldType} (href : ty.isReference = true) {len : Nat} {f : Nat → Option Nat} {i : Int32} {cellV : Cell} (hcell : H[a]? = some (vp_cell cA (len, .inr (.inr (.inr (.inr f)))))) (k1 : s.vm.classes[cA]? = some kA) (k2 : kA.kind = .array comp ty) (hkE : s.vm.classes[comp]? = some kE) (hin : vp_in i len) (g1 : H[b]? = some cellV) (g2 : cellV.vm.isStatics = false) (g3 : cellV.cls = comp) (hdg : decode cc pc = .ok (.aastore, 1))
    (kk : ∀ H1 : Heap, H1[a]? = some (vp_cell cA (len, .inr (.inr (.inr (.inr (va_up f i.toNatClampNeg (some b))))))) → H1.size = H.size → (∀ q : Nat, q ≠ a → H1[q]? = H[q]?) → W p l e R s m args below meth c H1 (locs ++ [⟨a, i.toNatClampNeg⟩]) cells slots Q (F0 m (pc + 1) ls rest)) : W p l e R s m args below meth c H locs cells slots Q (F0 m pc ls (.ref b :: .int i :: .ref a :: rest)) := by
  have hlt : i.toNatClampNeg < len := Nat.not_le.mp fun q => hin (Or.inr q)
  have h0 : ¬ i < 0 := fun q => hin (Or.inl q)
  refine W.aast hexec hb hcell (fun q h => by cases h) (fun h => by cases h) k1 k2 href hkE ⟨h0, by show _ < (arrV _ _ _).slots.size; rw [arrV_size]; exact hlt⟩ g1 (fun q h => by rw [h] at g2; cases g2) (by rw [g3]; exact hkE) (by rw [g3]; exact xx_asg _ _) rfl rfl hdg fun H1 e z oq => kk H1 ?_ z oq
  rw [e]
  rw [vp_cell_q, vp_cell_q, arrV_store]
  congr 2
  funext q
  by_cases hq : q = i.toNatClampNeg
  · subst hq
    simp [updV, va_up, va_rf]
  · simp [updV, va_up, hq]
theorem xx_upw {kd h len v : Nat} {f : Nat → Option Nat} {ix : Nat} (b4 : xx_ew n (.inl (kd, len, .inr (.inr (.inr (.inr f)))))) (hv : v < n) : xx_ew n (.inl (kd, len, .inr (.inr (.inr (.inr (va_up f ix (some v))))))) := by
  intro q x hx
  by_cases hq : q = ix
  · simp only [va_up, hq, if_true] at hx
    cases hx
    exact hv
  · simp only [va_up, hq, if_false] at hx
    exact b4 q x hx
theorem xx_Kaa {s : State} (hK : xx_K G s s.heap) : ∃ kA kE, s.vm.classes[G.2.1 3]? = some kA ∧ kA.kind = .array (G.2.1 0) (.array .int) ∧ s.vm.classes[G.2.1 0]? = some kE := by
  obtain ⟨comp, c, kk, h1, h2, h3, h4, h5⟩ := arrayOverA_spec hK.2.2.1.2.1.2.2
  have e0 : s.vm.findClass ("[" ++ FieldType.int.toString) = some (G.2.1 0) := (hK.1.2 0 _ rfl).2
  have e3 : s.vm.findClass ("[" ++ (FieldType.array .int).toString) = some (G.2.1 3) := (hK.1.2 3 _ rfl).2
  have hcomp : comp = G.2.1 0 := Option.some.inj (h1.symm.trans e0)
  have hc : c = G.2.1 3 := Option.some.inj (h5.symm.trans e3)
  subst hcomp hc
  obtain ⟨kE, hkE, -⟩ := Vm.findClass_spec e0
  exact ⟨kk, kE, h3, h4, hkE⟩
/-- a row of ints goes into a row of rows -/
theorem J_aastA {h len v lv : Nat} {f : Nat → Option Nat} {g : Nat → Int32} {i : Int32} (hd : decode M.2.2.1 pc = .ok (.aastore, 1)) (hA : A h = some (.inl (3, len, .inr (.inr (.inr (.inr f)))))) (hin : vp_in i len) (hv : A v = some (.inl (0, lv, .inl g))) (kk : xx_J G l M fr lo mc ms Post (pc + 1) L S (xx_up A h (.inl (3, len, .inr (.inr (.inr (.inr (va_up f i.toNatClampNeg (some v)))))))) n k j) : xx_J G l M fr lo mc ms Post pc L (.ref v :: .int i :: .ref h :: S) A n k j := by
  intro p e s m args below meth c ad0 n0 F ad H locs ls ⟨a1, a2, a3, a4, a5, a6, a7⟩
  obtain ⟨b1, b2, b3, b4, b5⟩ := a3.2.2.1 _ _ hA
  obtain ⟨d1, d2, d3, d4, d5⟩ := a3.2.2.1 _ _ hv
  have hK := F.2.2.2.2.2.2.2.2.2.2.1
  obtain ⟨kA, kE, k1, k2, hkE⟩ := xx_Kaa hK
  refine xx_Waast2 (ty := .array .int) (comp := G.2.1 0) F.1 F.2.1 rfl b5 k1 k2 hkE hin (cellV := vp_cell (G.2.1 0) (lv, .inl g)) d5 rfl rfl hd fun H1 e9 z oq => ?_
  have hat : va_at G.1 vwCl (ad h, xx_e G.2.1 ad (.inl (3, len, .inr (.inr (.inr (.inr (va_up f i.toNatClampNeg (some v)))))))) H1 := by
    show H1[ad h]? = some (vp_cell (G.2.1 3) (len, .inr (.inr (.inr (.inr (fun j => (va_up f i.toNatClampNeg (some v) j).map ad))))))
    rw [xx_mapup]
    exact e9
  exact kk p e s m args below meth c ad0 n0 F ad H1 _ ls ⟨a1, a2, a3.put hA (xx_upw (h := h) b4 d2) hat oq, a4.put z oq b3, a5, xx_t (xx_t (xx_t a6)), a7⟩
/-- a tree goes into a row of trees -/
theorem J_aastT {h len v : Nat} {f : Nat → Option Nat} {fs : List Value} {i : Int32} (hd : decode M.2.2.1 pc = .ok (.aastore, 1)) (hA : A h = some (.inl (5, len, .inr (.inr (.inr (.inr f)))))) (hin : vp_in i len) (hv : A v = some (.inr (7, fs))) (kk : xx_J G l M fr lo mc ms Post (pc + 1) L S (xx_up A h (.inl (5, len, .inr (.inr (.inr (.inr (va_up f i.toNatClampNeg (some v)))))))) n k j) : xx_J G l M fr lo mc ms Post pc L (.ref v :: .int i :: .ref h :: S) A n k j := by
  intro p e s m args below meth c ad0 n0 F ad H locs ls ⟨a1, a2, a3, a4, a5, a6, a7⟩
  obtain ⟨b1, b2, b3, b4, b5⟩ := a3.2.2.1 _ _ hA
  obtain ⟨d1, d2, d3, d4, d5⟩ := a3.2.2.1 _ _ hv
  have hK := F.2.2.2.2.2.2.2.2.2.2.1
  obtain ⟨kA, comp, k1, k2, k3, -⟩ := (hK.1.2 5 _ rfl).2
  obtain ⟨kE, hkE, -⟩ := Vm.findClass_spec k3
  obtain ⟨cellV, g1, g2, g3⟩ := xx_recv (G := G) (n := n) (y := ⟨"BeltRoundsLaw$Tree", "", ""⟩) hv (T := TX8) (N := 4) rfl s H ad locs a3 hK a4
  have hcc : cellV.cls = comp := (Option.some.inj (k3.symm.trans g3)).symm
  refine xx_Waast2 (ty := .object "BeltRoundsLaw$Tree") F.1 F.2.1 rfl b5 k1 k2 hkE hin g1 g2 hcc hd fun H1 e9 z oq => ?_
  have hat : va_at G.1 vwCl (ad h, xx_e G.2.1 ad (.inl (5, len, .inr (.inr (.inr (.inr (va_up f i.toNatClampNeg (some v)))))))) H1 := by
    show H1[ad h]? = some (vp_cell (G.2.1 5) (len, .inr (.inr (.inr (.inr (fun j => (va_up f i.toNatClampNeg (some v) j).map ad))))))
    rw [xx_mapup]
    exact e9
  exact kk p e s m args below meth c ad0 n0 F ad H1 _ ls ⟨a1, a2, a3.put hA (xx_upw (h := h) b4 d2) hat oq, a4.put z oq b3, a5, xx_t (xx_t (xx_t a6)), a7⟩
theorem xx_mapupN (ad : Nat → Nat) (f : Nat → Option Nat) (x : Nat) : (fun j => (va_up f x none j).map ad) = va_up (fun j => (f j).map ad) x none := by
  funext q
  by_cases hq : q = x
  · simp [va_up, hq]
  · simp [va_up, hq]
/-- null goes into a row of trees -/
theorem J_aastN0 {h len : Nat} {f : Nat → Option Nat} {i : Int32} (hd : decode M.2.2.1 pc = .ok (.aastore, 1)) (hA : A h = some (.inl (5, len, .inr (.inr (.inr (.inr f)))))) (hin : vp_in i len) (kk : xx_J G l M fr lo mc ms Post (pc + 1) L S (xx_up A h (.inl (5, len, .inr (.inr (.inr (.inr (va_up f i.toNatClampNeg none))))))) n k j) : xx_J G l M fr lo mc ms Post pc L (.null :: .int i :: .ref h :: S) A n k j := by
  intro p e s m args below meth c ad0 n0 F ad H locs ls ⟨a1, a2, a3, a4, a5, a6, a7⟩
  obtain ⟨b1, b2, b3, b4, b5⟩ := a3.2.2.1 _ _ hA
  have hK := F.2.2.2.2.2.2.2.2.2.2.1
  refine va_WaastN (C := "BeltRoundsLaw$Tree") F.1 F.2.1 b5 ((hK.1.2 5 _ rfl).1 len (fun j => va_rf ((f j).map ad))) (fun h => by cases h) (by show ¬ (i < 0 ∨ (arrV _ _ _).slots.size ≤ _); rw [arrV_size]; exact hin) rfl rfl hd fun H1 e9 z oq => ?_
  have hw : xx_ew n (.inl (5, len, .inr (.inr (.inr (.inr (va_up f i.toNatClampNeg none)))))) := by
    intro q x hx
    by_cases hq : q = i.toNatClampNeg
    · simp only [va_up, hq, if_true] at hx
      cases hx
    · simp only [va_up, hq, if_false] at hx
      exact b4 q x hx
  have hat : va_at G.1 vwCl (ad h, xx_e G.2.1 ad (.inl (5, len, .inr (.inr (.inr (.inr (va_up f i.toNatClampNeg none))))))) H1 := by
    show H1[ad h]? = some (vp_cell (G.2.1 5) (len, .inr (.inr (.inr (.inr (fun j => (va_up f i.toNatClampNeg none j).map ad))))))
    rw [xx_mapupN, e9]
    show some (Cell.setSlot (vp_cell (G.2.1 5) (len, .inr (.inr (.inr (.inr (fun j => (f j).map ad)))))) _ _) = _
    rw [vp_cell_q, vp_cell_q, arrV_store]
    congr 2
    funext q
    by_cases hq : q = i.toNatClampNeg
    · subst hq
      simp [updV, va_up, va_rf]
    · simp [updV, va_up, hq]
  exact kk p e s m args below meth c ad0 n0 F ad H1 _ ls ⟨a1, a2, a3.put hA hw hat oq, a4.put z oq b3, a5, xx_t (xx_t (xx_t a6)), a7⟩
theorem soT {i : Nat} (hi : i < 82) : (th i, "java/lang/String") ∈ xx_so := List.mem_append_right _ (List.mem_map.mpr ⟨i, List.mem_range.mpr hi, rfl⟩)
theorem thlt {i : Nat} (hi : i < 82) : th i < 400 := by unfold th; split <;> omega
/-- a literal goes into a row of texts -/
theorem J_aastS {h len v : Nat} {f : Nat → Option Nat} {i : Int32} (hd : decode M.2.2.1 pc = .ok (.aastore, 1)) (hA : A h = some (.inl (6, len, .inr (.inr (.inr (.inr f)))))) (hin : vp_in i len) (hv : v < 82) (kk : xx_J G l M fr lo mc ms Post (pc + 1) L S (xx_up A h (.inl (6, len, .inr (.inr (.inr (.inr (va_up f i.toNatClampNeg (some (th v))))))))) n k j) : xx_J G l M fr lo mc ms Post pc L (.ref (th v) :: .int i :: .ref h :: S) A n k j := by
  intro p e s m args below meth c ad0 n0 F ad H locs ls ⟨a1, a2, a3, a4, a5, a6, a7⟩
  obtain ⟨b1, b2, b3, b4, b5⟩ := a3.2.2.1 _ _ hA
  have hK := F.2.2.2.2.2.2.2.2.2.2.1
  obtain ⟨kA, comp, k1, k2, k3, -⟩ := (hK.1.2 6 _ rfl).2
  obtain ⟨kE, hkE, -⟩ := Vm.findClass_spec k3
  obtain ⟨cellV, g1, g2, g3⟩ := xx_recvS (G := G) (n := n) (A := A) (y := ⟨"java/lang/String", "", ""⟩) (thlt hv) (soT hv) s H ad locs a3 hK a4
  have hcc : cellV.cls = comp := (Option.some.inj (k3.symm.trans g3)).symm
  refine xx_Waast2 (ty := .object "java/lang/String") F.1 F.2.1 rfl b5 k1 k2 hkE hin g1 g2 hcc hd fun H1 e9 z oq => ?_
  have hat : va_at G.1 vwCl (ad h, xx_e G.2.1 ad (.inl (6, len, .inr (.inr (.inr (.inr (va_up f i.toNatClampNeg (some (th v))))))))) H1 := by
    show H1[ad h]? = some (vp_cell (G.2.1 6) (len, .inr (.inr (.inr (.inr (fun j => (va_up f i.toNatClampNeg (some (th v)) j).map ad))))))
    rw [xx_mapup]
    exact e9
  exact kk p e s m args below meth c ad0 n0 F ad H1 _ ls ⟨a1, a2, a3.put hA (xx_upw (h := h) b4 (Nat.lt_of_lt_of_le (thlt hv) a3.1)) hat oq, a4.put z oq b3, a5, xx_t (xx_t (xx_t a6)), a7⟩
/-- a new row of references -/
theorem xx_newq {p : Program} {e : Env} {s : State} {m : MethodId} {args : Array Value} {below : List Frame} {meth : Method} {c : Code} {ad0 : Nat → Nat} {n0 kd N w : Nat} {ad : Nat → Nat} {H : Heap} {locs : List Loc} {ls : Array Slot} {cA : ClassId} {z : Int32} (hkd : kd = 3 ∨ kd = 4 ∨ kd = 5 ∨ kd = 6) (F : xx_F G l M p s m args meth c) (a : xx_at G ad0 n0 M s L (.int z :: S) A n ad H locs ls) (hcA : cA = G.2.1 kd)
    (kk : xx_J G l M fr lo mc ms Post (pc + w) L (.ref n :: S) (xx_up A n (.inl (kd, N, .inr (.inr (.inr (.inr (fun _ => none))))))) (n + 1) (k + 1) (j + N)) : W p l e { frames := fr, cells := mc, slots := ms, locals := lo } s m args below meth c (H.push { cls := cA, slots := Array.replicate N .null, vm := .none }) locs (k + 1) (j + N) (vx_MQ below (xx_Qc G ad0 n0 Post) (xx_Qx G ad0 n0 Post) args s mc ms (xx_A G)) (F0 m (pc + w) ls (.ref H.size :: S.map (xx_v ad))) := by
  obtain ⟨a1, a2, a3, a4, a5, a6, a7⟩ := a
  have f12 := F.2.2.2.2.2.2.2.2.2.2.2
  subst hcA
  generalize hH1 : H.push ({ cls := G.2.1 kd, slots := Array.replicate N .null, vm := .none } : Cell) = H1
  have z1 : H1.size = H.size + 1 := by rw [← hH1, Array.size_push]
  have e1 : H1[H.size]? = some (arrV (G.2.1 kd) N (fun _ => .null)) := by rw [← hH1, Array.getElem?_push_size, ← arrV_new]
  have o1 : ∀ q : Nat, q < H.size → H1[q]? = H[q]? := fun q hq => by rw [← hH1, Array.getElem?_push, if_neg (Nat.ne_of_lt hq)]
  have ext : ∀ q, q < n → va_up ad n H.size q = ad q := fun q hq => by simp [va_up, Nat.ne_of_lt hq]
  have hsz : G.2.2.1 ≤ H.size := Nat.le_trans f12 a4.1
  have K := kk p e s m args below meth c ad0 n0 F (va_up ad n H.size) H1 locs ls ⟨by omega, fun q hq => by rw [ext q (by omega)]; exact a2 q hq, a3.push (a3.none (Nat.le_refl _)) hsz (Nat.le_refl _) (fun _ _ h => nomatch h) e1 o1, ⟨Nat.le_trans a4.1 (by omega), fun x h1 h2 => (o1 x (Nat.lt_of_lt_of_le h1 a4.1)).trans (a4.2.1 x h1 h2), a4.2.2⟩, ?_, xx_c (Nat.lt_succ_self n) (fun v hv => xx_vw_le (Nat.le_succ n) (xx_t a6 v hv)), fun q hq => xx_vw_le (Nat.le_succ n) (a7 q hq)⟩
  · rw [List.map_cons, xx_map_ext ext (xx_t a6)] at K
    simp only [xx_v, va_up, if_true] at K
    exact K
  · have : L.map (fun q => (q.1, xx_v (va_up ad n H.size) q.2)) = L.map (fun q => (q.1, xx_v ad q.2)) := List.map_congr_left fun q hq => by rw [xx_v_ext ext (a7 q hq)]
    rw [this]
    exact a5
theorem J_newA {z : Int32} {N idx : Nat} (hd : decode M.2.2.1 pc = .ok (.anewarray idx, 3)) (w1 : Cond.classLink M.1 idx "[I" ∈ xx_T) (hn : ¬ z < 0) (hN : z.toNatClampNeg = N) (hb : N * 4 ≤ 536870912) (hk : k + 1 ≤ mc) (hj : j + N ≤ ms)
    (kk : xx_J G l M fr lo mc ms Post (pc + 3) L (.ref n :: S) (xx_up A n (.inl (3, N, .inr (.inr (.inr (.inr (fun _ => none))))))) (n + 1) (k + 1) (j + N)) : xx_J G l M fr lo mc ms Post pc L (.int z :: S) A n k j := by
  intro p e s m args below meth c ad0 n0 F ad H locs ls a
  subst hN
  have hK := F.2.2.2.2.2.2.2.2.2.2.1
  refine W.anewA (t := .int) F.1 F.2.1 F.2.2.2.2.2.2.1 (F.2.2.2.2.2.2.2.1 _ w1) hK.2.2.1.2.1.2.2 rfl hd rfl hn hb hk hj fun cA kA comp g1 g2 g3 g4 => ?_
  have e3 : s.vm.findClass ("[" ++ (FieldType.array .int).toString) = some (G.2.1 3) := (hK.1.2 3 _ rfl).2
  exact xx_newq (Or.inl rfl) F a (Option.some.inj (g1.symm.trans e3)) kk
theorem J_newT {z : Int32} {N idx : Nat} (hd : decode M.2.2.1 pc = .ok (.anewarray idx, 3)) (w1 : Cond.classLink M.1 idx "BeltRoundsLaw$Tree" ∈ xx_T) (hn : ¬ z < 0) (hN : z.toNatClampNeg = N) (hb : N * 4 ≤ 536870912) (hk : k + 1 ≤ mc) (hj : j + N ≤ ms)
    (kk : xx_J G l M fr lo mc ms Post (pc + 3) L (.ref n :: S) (xx_up A n (.inl (5, N, .inr (.inr (.inr (.inr (fun _ => none))))))) (n + 1) (k + 1) (j + N)) : xx_J G l M fr lo mc ms Post pc L (.int z :: S) A n k j := by
  intro p e s m args below meth c ad0 n0 F ad H locs ls a
  subst hN
  have hK := F.2.2.2.2.2.2.2.2.2.2.1
  refine W.anew F.1 F.2.1 F.2.2.2.2.2.2.1 (F.2.2.2.2.2.2.2.1 _ w1) (va_AO.use hK.2.2.1.2.1.1) rfl hd rfl hn hb hk hj fun cA kA comp g1 g2 g3 g4 => ?_
  obtain ⟨kA', comp', h1', h2', h3', h4'⟩ := (hK.1.2 5 _ rfl).2
  exact xx_newq (Or.inr (Or.inr (Or.inl rfl))) F a (Option.some.inj (g1.symm.trans h4')) kk
theorem J_newS {z : Int32} {N idx : Nat} (hd : decode M.2.2.1 pc = .ok (.anewarray idx, 3)) (w1 : Cond.classLink M.1 idx "java/lang/String" ∈ xx_T) (hn : ¬ z < 0) (hN : z.toNatClampNeg = N) (hb : N * 4 ≤ 536870912) (hk : k + 1 ≤ mc) (hj : j + N ≤ ms)
    (kk : xx_J G l M fr lo mc ms Post (pc + 3) L (.ref n :: S) (xx_up A n (.inl (6, N, .inr (.inr (.inr (.inr (fun _ => none))))))) (n + 1) (k + 1) (j + N)) : xx_J G l M fr lo mc ms Post pc L (.int z :: S) A n k j := by
  intro p e s m args below meth c ad0 n0 F ad H locs ls a
  subst hN
  have hK := F.2.2.2.2.2.2.2.2.2.2.1
  refine W.anew F.1 F.2.1 F.2.2.2.2.2.2.1 (F.2.2.2.2.2.2.2.1 _ w1) (va_AO.use hK.2.2.1.2.1.2.1) rfl hd rfl hn hb hk hj fun cA kA comp g1 g2 g3 g4 => ?_
  obtain ⟨kA', comp', h1', h2', h3', h4'⟩ := (hK.1.2 6 _ rfl).2
  exact xx_newq (Or.inr (Or.inr (Or.inr rfl))) F a (Option.some.inj (g1.symm.trans h4')) kk
theorem J_areturnA {x : Nat} {t : FieldType} (hd : decode M.2.2.1 pc = .ok (.areturn, 1)) (hr : M.2.2.2.2.1 = some (.array t)) (hk : k ≤ mc) (hj : j ≤ ms) (hP : Post (.inl (some (.ref x))) A n) : xx_J G l M fr lo mc ms Post pc L [.ref x] A n k j := by
  intro p e s m args below meth c ad0 n0 F ad H locs ls ⟨a1, a2, a3, a4, a5, a6, a7⟩
  refine W.widen hk hj (vx_ret ?_)
  exact W.aret (rt := .array t) F.1 F.2.1 (F.2.2.2.1.trans hr) (Or.inr ⟨t, rfl⟩) (Or.inr ⟨ad x, rfl⟩) (fun t ht _ => ⟨some (.ref x), ad, n, A, rfl, a1, a2, hP, by rw [ht]; exact a3, fun y hy => by cases hy; exact a6 _ List.mem_cons_self, a4.F ht⟩) a4.2.2 hd F.2.2.2.2.1
end XRC
