/-! ONE ROW AN INSTRUCTION: the heap -/
section XXD
/-- a class of the worlds -/
def xx_Cl (ci : Nat) (C : String) (T : u_T) (N : Nat) (ty : Nat → FieldType) : Prop := vwCl[ci]? = some (C, T, N) ∧ (∀ w ∈ u_ws C T N, w ∈ xx_T) ∧ (∀ k, k < N → parseFieldDescriptor (T k).2.2.1 = some (ty k)) ∧ (∀ a, a < N → ∀ b, b < N → a ≠ b → (T a).2.1 ≠ (T b).2.1)
/-- the entry idx of class own is the field fi of the class number ci -/
def xx_Fl (own : String) (idx ci fi : Nat) : Prop := ∃ (C : String) (T : u_T) (N : Nat) (ty : Nat → FieldType), xx_Cl ci C T N ty ∧ fi < N ∧ ((Cond.fieldLink own idx (T fi).1 (T fi).2.1 (T fi).2.2.1 ∈ xx_T) ∨ ∃ host, Cond.fieldLinkNest own idx (T fi).1 (T fi).2.1 (T fi).2.2.1 host ∈ xx_N)
/-- .. that is not final, of type t -/
def xx_Fp (own : String) (idx ci fi : Nat) (t : FieldType) : Prop := ∃ (C : String) (T : u_T) (N : Nat) (ty : Nat → FieldType), xx_Cl ci C T N ty ∧ fi < N ∧ (T fi).2.2.2 = false ∧ parseFieldDescriptor (T fi).2.2.1 = some t ∧ ((Cond.fieldLink own idx (T fi).1 (T fi).2.1 (T fi).2.2.1 ∈ xx_T) ∨ ∃ host, Cond.fieldLinkNest own idx (T fi).1 (T fi).2.1 (T fi).2.2.1 host ∈ xx_N)
/-- .. that is final, of the class own -/
def xx_Ff (own : String) (idx ci fi : Nat) (t : FieldType) : Prop := ∃ (C : String) (T : u_T) (N : Nat) (ty : Nat → FieldType), xx_Cl ci C T N ty ∧ fi < N ∧ (T fi).2.2.2 = true ∧ (T fi).1 = own ∧ parseFieldDescriptor (T fi).2.2.1 = some t ∧ (Cond.fieldLink own idx (T fi).1 (T fi).2.1 (T fi).2.2.1 ∈ xx_T)
def xx_fit (t : FieldType) (v : Value) : Prop := ∀ ad : Nat → Nat, narrow t (xx_v ad v) = xx_v ad v ∧ fits t (xx_v ad v) = true
variable {G : xx_G} {l : Launch} {M : xx_M} {fr lo mc ms : Nat} {Post : xx_Q} {pc : Nat} {L : List (Nat × Value)} {S : List Value} {A : xx_H} {n k j : Nat}
theorem xx_sgl {cl : List vw_C} {D : va_G} {q : Nat × va_E} {H : Heap} (h : va_at D cl q H) : va_P D cl [q] H := by
  intro k z hk
  cases k with
  | zero => cases hk; exact h
  | succ k => cases hk
theorem J_getf {h ci fi idx : Nat} {fs : List Value} {v : Value} (hd : decode M.2.2.1 pc = .ok (.getfield idx, 3)) (fl : xx_Fl M.1 idx ci fi) (hA : A h = some (.inr (ci, fs))) (hv : fs[fi]? = some v) (kk : xx_J G l M fr lo mc ms Post (pc + 3) L (v :: S) A n k j) : xx_J G l M fr lo mc ms Post pc L (.ref h :: S) A n k j := by
  intro p e s m args below meth c ad0 n0 F ad H locs ls ⟨a1, a2, a3, a4, a5, a6, a7⟩
  obtain ⟨f1, f2, f3, f4, f5, f6, f7, f8, f9, f10, f11, f12⟩ := F
  have F : xx_F G l M p s m args meth c := ⟨f1, f2, f3, f4, f5, f6, f7, f8, f9, f10, f11, f12⟩
  obtain ⟨C, T, N, ty, ⟨c1, c2, c3, c4⟩, hlt, hlk⟩ := fl
  have hv' : (fs.map (xx_v ad))[fi]? = some (xx_v ad v) := by rw [List.getElem?_map, hv]; rfl
  have hw : xx_vw n v := (a3.2.2.1 _ _ hA).2.2.2.1 v (List.mem_of_getElem? hv)
  have K := kk p e s m args below meth c ad0 n0 F ad H locs ls ⟨a1, a2, a3, a4, a5, xx_c hw (xx_t a6), a7⟩
  rcases hlk with hl | ⟨host, hl⟩
  · exact va_get f1 f2 f8 c2 f7 f11.1 (a3.at hA) 0 rfl c1 fi hlt (f8 _ hl) (fun _ h => h) hv' hd K
  · exact va_getN f1 f2 f8 c2 f7 f11.1 (a3.at hA) 0 rfl c1 fi hlt (va_Nw.use rfl (f11.2.1 _ hl)) (fun _ h => h) hv' hd K
theorem J_putf {h ci fi idx : Nat} {fs : List Value} {v : Value} {t : FieldType} (hd : decode M.2.2.1 pc = .ok (.putfield idx, 3)) (fl : xx_Fp M.1 idx ci fi t) (hft : xx_fit t v) (hA : A h = some (.inr (ci, fs))) (hv : fi < fs.length) (kk : xx_J G l M fr lo mc ms Post (pc + 3) L S (xx_up A h (.inr (ci, fs.set fi v))) n k j) : xx_J G l M fr lo mc ms Post pc L (v :: .ref h :: S) A n k j := by
  intro p e s m args below meth c ad0 n0 F ad H locs ls ⟨a1, a2, a3, a4, a5, a6, a7⟩
  obtain ⟨f1, f2, f3, f4, f5, f6, f7, f8, f9, f10, f11, f12⟩ := F
  have F : xx_F G l M p s m args meth c := ⟨f1, f2, f3, f4, f5, f6, f7, f8, f9, f10, f11, f12⟩
  obtain ⟨C, T, N, ty, ⟨c1, c2, c3, c4⟩, hlt, hfin, hd2, hlk⟩ := fl
  obtain ⟨hn, hfit⟩ := hft ad
  obtain ⟨b1, b2, b3, b4, b5⟩ := a3.2.2.1 _ _ hA
  have hap := va_apart (own := M.1) f8 c2 ty c3 c4 f11.1 c1
  obtain ⟨r, h1, cell, q1, q2, q3, q4⟩ := b5
  have hr : r = (C, T, N) := Option.some.inj (h1.symm.trans c1)
  subst hr
  obtain ⟨hS, hfc, kC, hkC, hkind⟩ := f11.1.1 ci _ c1
  obtain ⟨cf, kf, fi2, f, hi, hsl⟩ := hS fi hlt
  have hlay := f8 _ (c2 _ (u_in_lay hlt))
  unfold u_lay at hlay
  rw [if_neg (by rw [hfin]; decide)] at hlay
  have hst := (u_facts hfc hkC (u_lays f8 c2 hlt) hi).1
  have h6 := u_store hfc hkC hkind hlay hi hd2 hn hfit
  have hvw : xx_vw n v := a6 v List.mem_cons_self
  have go : ∀ H' : Heap, H'[ad h]? = some (cell.setSlot f.slot (xx_v ad v)) → H'.size = H.size → (∀ q, q ≠ ad h → H'[q]? = H[q]?) → W p l e { frames := fr, cells := mc, slots := ms, locals := lo } s m args below meth c H' (locs ++ [⟨ad h, f.slot⟩]) k j (vx_MQ below (xx_Qc G ad0 n0 Post) (xx_Qx G ad0 n0 Post) args s mc ms (xx_A G)) (F0 m (pc + 3) ls (S.map (xx_v ad))) := by
    intro H' e1 e2 e3
    rw [hsl] at e1
    refine kk p e s m args below meth c ad0 n0 F ad H' _ ls ⟨a1, a2, a3.put hA ?_ ?_ e3, a4.put e2 e3 b3, a5, xx_t (xx_t a6), a7⟩
    · intro u hu
      rcases List.mem_or_eq_of_mem_set hu with hu | hu
      · exact b4 u hu
      · rw [hu]; exact hvw
    · show va_at G.1 vwCl (ad h, .inr (ci, (fs.set fi v).map (xx_v ad))) H'
      rw [List.map_set]
      exact ⟨_, c1, t_OB.to (V := updV (vp_V (fs.map (xx_v ad))) fi (xx_v ad v)) ⟨_, e1, q2, q3, t_set q4 hap hlt (xx_v ad v)⟩ (fun z _ => vp_updV_set (by rw [List.length_map]; exact hv) (xx_v ad v) z)⟩
  rcases hlk with hl | ⟨host, hl⟩
  · exact W.putK f1 f2 (f := f) ⟨f7, f8 _ hl, ⟨_, _, _, hi⟩, hst⟩ (by rw [q2]; exact h6) q1 q3 (by rw [hsl]; exact k2_hasslot (q4 fi hlt)) rfl rfl hd go
  · exact va_WputK f1 f2 (f := f) f7 (va_Nw.use rfl (f11.2.1 _ hl)) hi hst (by rw [q2]; exact h6) q1 q3 (by rw [hsl]; exact k2_hasslot (q4 fi hlt)) rfl rfl hd go
/-- a final field, in the constructor of its class -/
theorem J_putF {h ci fi idx : Nat} {fs : List Value} {v : Value} {t : FieldType} (hd : decode M.2.2.1 pc = .ok (.putfield idx, 3)) (hM : M.2.1 = "<init>") (fl : xx_Ff M.1 idx ci fi t) (hft : xx_fit t v) (hA : A h = some (.inr (ci, fs))) (hv : fi < fs.length) (kk : xx_J G l M fr lo mc ms Post (pc + 3) L S (xx_up A h (.inr (ci, fs.set fi v))) n k j) : xx_J G l M fr lo mc ms Post pc L (v :: .ref h :: S) A n k j := by
  intro p e s m args below meth c ad0 n0 F ad H locs ls ⟨a1, a2, a3, a4, a5, a6, a7⟩
  obtain ⟨f1, f2, f3, f4, f5, f6, f7, f8, f9, f10, f11, f12⟩ := F
  have F : xx_F G l M p s m args meth c := ⟨f1, f2, f3, f4, f5, f6, f7, f8, f9, f10, f11, f12⟩
  obtain ⟨C, T, N, ty, ⟨c1, c2, c3, c4⟩, hlt, hfin, hdecl, hd2, hl⟩ := fl
  obtain ⟨hn, hfit⟩ := hft ad
  obtain ⟨b1, b2, b3, b4, b5⟩ := a3.2.2.1 _ _ hA
  have hap := va_apart (own := M.1) f8 c2 ty c3 c4 f11.1 c1
  obtain ⟨r, h1, cell, q1, q2, q3, q4⟩ := b5
  have hr : r = (C, T, N) := Option.some.inj (h1.symm.trans c1)
  subst hr
  obtain ⟨hS, hfc, kC, hkC, hkind⟩ := f11.1.1 ci _ c1
  obtain ⟨cf, kf, fi2, f, hi, hsl⟩ := hS fi hlt
  have hlay := f8 _ (c2 _ (u_in_lay hlt))
  unfold u_lay at hlay
  rw [if_pos hfin] at hlay
  have hst := (u_facts hfc hkC (u_lays f8 c2 hlt) hi).1
  have hcf : m.cls = cf := by
    obtain ⟨_, _, c', _, _, _, -, -, hf', -, -, -, hown2, -⟩ := Cond.laysFinal_spec hlay
    have e1 : c' = cf := by have := hi.symm.trans hf'; simp at this; exact this.1.symm
    rw [hdecl] at hown2
    rw [← e1]; exact Option.some.inj (f7.symm.trans hown2)
  have h6 := u_fits hfc hkC hkind (Or.inr hlay) hi hd2 hn hfit
  have hvw : xx_vw n v := a6 v List.mem_cons_self
  refine W.putFinK f1 f2 f7 (f8 _ hl) hi hst hcf (f6.trans hM) (by rw [q2]; exact h6) q1 q3 (by rw [hsl]; exact k2_hasslot (q4 fi hlt)) rfl rfl hd fun H' e1 e2 e3 => ?_
  rw [hsl] at e1
  refine kk p e s m args below meth c ad0 n0 F ad H' _ ls ⟨a1, a2, a3.put hA ?_ ?_ e3, a4.put e2 e3 b3, a5, xx_t (xx_t a6), a7⟩
  · intro u hu
    rcases List.mem_or_eq_of_mem_set hu with hu | hu
    · exact b4 u hu
    · rw [hu]; exact hvw
  · show va_at G.1 vwCl (ad h, .inr (ci, (fs.set fi v).map (xx_v ad))) H'
    rw [List.map_set]
    exact ⟨_, c1, t_OB.to (V := updV (vp_V (fs.map (xx_v ad))) fi (xx_v ad v)) ⟨_, e1, q2, q3, t_set q4 hap hlt (xx_v ad v)⟩ (fun z _ => vp_updV_set (by rw [List.length_map]; exact hv) (xx_v ad v) z)⟩
theorem J_iald {h len : Nat} {f : Nat → Int32} {i : Int32} {v : Int32} (hd : decode M.2.2.1 pc = .ok (.iaload, 1)) (hA : A h = some (.inl (0, len, .inl f))) (hin : vp_in i len) (hv : f i.toNatClampNeg = v) (kk : xx_J G l M fr lo mc ms Post (pc + 1) L (.int v :: S) A n k j) : xx_J G l M fr lo mc ms Post pc L (.int i :: .ref h :: S) A n k j := by
  intro p e s m args below meth c ad0 n0 F ad H locs ls ⟨a1, a2, a3, a4, a5, a6, a7⟩
  subst hv
  exact va_iald F.1 F.2.1 F.2.2.2.2.2.2.2.2.2.2.1.1 (a3.at hA) 0 0 rfl rfl hin hd (kk p e s m args below meth c ad0 n0 F ad H locs ls ⟨a1, a2, a3, a4, a5, xx_c trivial (xx_t (xx_t a6)), a7⟩)
theorem J_bald {h len : Nat} {f : Nat → Int32} {i : Int32} {v : Int32} (hd : decode M.2.2.1 pc = .ok (.baload, 1)) (hA : A h = some (.inl (1, len, .inl f))) (hin : vp_in i len) (hv : f i.toNatClampNeg = v) (kk : xx_J G l M fr lo mc ms Post (pc + 1) L (.int v :: S) A n k j) : xx_J G l M fr lo mc ms Post pc L (.int i :: .ref h :: S) A n k j := by
  intro p e s m args below meth c ad0 n0 F ad H locs ls ⟨a1, a2, a3, a4, a5, a6, a7⟩
  subst hv
  exact va_bald F.1 F.2.1 F.2.2.2.2.2.2.2.2.2.2.1.1 (a3.at hA) 0 1 rfl rfl hin hd (kk p e s m args below meth c ad0 n0 F ad H locs ls ⟨a1, a2, a3, a4, a5, xx_c trivial (xx_t (xx_t a6)), a7⟩)
theorem J_zald {h len : Nat} {f : Nat → Int32} {i : Int32} {v : Int32} (hd : decode M.2.2.1 pc = .ok (.baload, 1)) (hA : A h = some (.inl (2, len, .inl f))) (hin : vp_in i len) (hv : f i.toNatClampNeg = v) (kk : xx_J G l M fr lo mc ms Post (pc + 1) L (.int v :: S) A n k j) : xx_J G l M fr lo mc ms Post pc L (.int i :: .ref h :: S) A n k j := by
  intro p e s m args below meth c ad0 n0 F ad H locs ls ⟨a1, a2, a3, a4, a5, a6, a7⟩
  subst hv
  exact va_zald F.1 F.2.1 F.2.2.2.2.2.2.2.2.2.2.1.1 (a3.at hA) 0 2 rfl rfl hin hd (kk p e s m args below meth c ad0 n0 F ad H locs ls ⟨a1, a2, a3, a4, a5, xx_c trivial (xx_t (xx_t a6)), a7⟩)
theorem J_aald {h len : Nat} {f : Nat → Option Nat} {i : Int32} {v : Option Nat} (hd : decode M.2.2.1 pc = .ok (.aaload, 1)) (hA : A h = some (.inl (4, len, .inr (.inr (.inr (.inr f)))))) (hin : vp_in i len) (hv : f i.toNatClampNeg = v) (kk : xx_J G l M fr lo mc ms Post (pc + 1) L (va_rf v :: S) A n k j) : xx_J G l M fr lo mc ms Post pc L (.int i :: .ref h :: S) A n k j := by
  intro p e s m args below meth c ad0 n0 F ad H locs ls ⟨a1, a2, a3, a4, a5, a6, a7⟩
  subst hv
  have hw : xx_vw n (va_rf (f i.toNatClampNeg)) := by
    have h9 := (a3.2.2.1 _ _ hA).2.2.2.1 i.toNatClampNeg
    cases hf : f i.toNatClampNeg with
    | none => trivial
    | some q => exact h9 q hf
  have hr : ∀ r : Option Nat, xx_v ad (va_rf r) = va_rf (r.map ad) := fun r => by cases r <;> rfl
  have K := kk p e s m args below meth c ad0 n0 F ad H locs ls ⟨a1, a2, a3, a4, a5, xx_c hw (xx_t (xx_t a6)), a7⟩
  rw [List.map_cons, hr] at K
  exact va_aldq F.1 F.2.1 F.2.2.2.2.2.2.2.2.2.2.1.1 (a3.at hA) 0 4 rfl rfl hin hd K
theorem J_iast {h len : Nat} {f : Nat → Int32} {i : Int32} {x : Int32} (hd : decode M.2.2.1 pc = .ok (.iastore, 1)) (hA : A h = some (.inl (0, len, .inl f))) (hin : vp_in i len) (kk : xx_J G l M fr lo mc ms Post (pc + 1) L S (xx_up A h (.inl (0, len, .inl (upd f i.toNatClampNeg x)))) n k j) : xx_J G l M fr lo mc ms Post pc L (.int x :: .int i :: .ref h :: S) A n k j := by
  intro p e s m args below meth c ad0 n0 F ad H locs ls ⟨a1, a2, a3, a4, a5, a6, a7⟩
  obtain ⟨b1, b2, b3, b4, b5⟩ := a3.2.2.1 _ _ hA
  have hK := F.2.2.2.2.2.2.2.2.2.2.1.1
  refine W.iast F.1 F.2.1 b5 ((hK.2 0 _ rfl).1 len (fun j => .int (f j))) (fun q => by cases q) (by show ¬ (i < 0 ∨ (arrV _ _ _).slots.size ≤ _); rw [arrV_size]; exact hin) rfl rfl hd fun H1 e9 z oq => ?_
  refine kk p e s m args below meth c ad0 n0 F ad H1 _ ls ⟨a1, a2, a3.put hA trivial ?_ oq, a4.put z oq b3, a5, xx_t (xx_t (xx_t a6)), a7⟩
  show H1[ad h]? = some (vp_cell _ _)
  rw [e9]
  show some (Cell.setSlot (vp_cell _ _) _ _) = some (vp_cell _ _)
  simp only [xx_a]
  rw [vp_cell_i, vp_cell_i, arrV_store]
  congr 2
  funext q
  by_cases hq : q = i.toNatClampNeg
  · subst hq
    simp [updV, upd]
    try rfl
  · simp [updV, upd, hq]
theorem J_bast {h len : Nat} {f : Nat → Int32} {i : Int32} {x : Int32} (hd : decode M.2.2.1 pc = .ok (.bastore, 1)) (hA : A h = some (.inl (1, len, .inl f))) (hin : vp_in i len) (kk : xx_J G l M fr lo mc ms Post (pc + 1) L S (xx_up A h (.inl (1, len, .inl (upd f i.toNatClampNeg (vp_nar .byte x))))) n k j) : xx_J G l M fr lo mc ms Post pc L (.int x :: .int i :: .ref h :: S) A n k j := by
  intro p e s m args below meth c ad0 n0 F ad H locs ls ⟨a1, a2, a3, a4, a5, a6, a7⟩
  obtain ⟨b1, b2, b3, b4, b5⟩ := a3.2.2.1 _ _ hA
  have hK := F.2.2.2.2.2.2.2.2.2.2.1.1
  refine W.bast F.1 F.2.1 b5 ((hK.2 1 _ rfl).1 len (fun j => .int (f j))) (fun q => by cases q) (by show ¬ (i < 0 ∨ (arrV _ _ _).slots.size ≤ _); rw [arrV_size]; exact hin) rfl rfl hd fun H1 e9 z oq => ?_
  refine kk p e s m args below meth c ad0 n0 F ad H1 _ ls ⟨a1, a2, a3.put hA trivial ?_ oq, a4.put z oq b3, a5, xx_t (xx_t (xx_t a6)), a7⟩
  show H1[ad h]? = some (vp_cell _ _)
  rw [e9]
  show some (Cell.setSlot (vp_cell _ _) _ _) = some (vp_cell _ _)
  simp only [xx_a]
  rw [vp_cell_i, vp_cell_i, arrV_store]
  congr 2
  funext q
  by_cases hq : q = i.toNatClampNeg
  · subst hq
    simp [updV, upd, vp_nar]
    try rfl
  · simp [updV, upd, hq]
theorem J_zast {h len : Nat} {f : Nat → Int32} {i : Int32} {x : Int32} (hd : decode M.2.2.1 pc = .ok (.bastore, 1)) (hA : A h = some (.inl (2, len, .inl f))) (hin : vp_in i len) (kk : xx_J G l M fr lo mc ms Post (pc + 1) L S (xx_up A h (.inl (2, len, .inl (upd f i.toNatClampNeg (vp_nar .boolean x))))) n k j) : xx_J G l M fr lo mc ms Post pc L (.int x :: .int i :: .ref h :: S) A n k j := by
  intro p e s m args below meth c ad0 n0 F ad H locs ls ⟨a1, a2, a3, a4, a5, a6, a7⟩
  obtain ⟨b1, b2, b3, b4, b5⟩ := a3.2.2.1 _ _ hA
  have hK := F.2.2.2.2.2.2.2.2.2.2.1.1
  refine W.zast F.1 F.2.1 b5 ((hK.2 2 _ rfl).1 len (fun j => .int (f j))) (fun q => by cases q) (by show ¬ (i < 0 ∨ (arrV _ _ _).slots.size ≤ _); rw [arrV_size]; exact hin) rfl rfl hd fun H1 e9 z oq => ?_
  refine kk p e s m args below meth c ad0 n0 F ad H1 _ ls ⟨a1, a2, a3.put hA trivial ?_ oq, a4.put z oq b3, a5, xx_t (xx_t (xx_t a6)), a7⟩
  show H1[ad h]? = some (vp_cell _ _)
  rw [e9]
  show some (Cell.setSlot (vp_cell _ _) _ _) = some (vp_cell _ _)
  simp only [xx_a]
  rw [vp_cell_i, vp_cell_i, arrV_store]
  congr 2
  funext q
  by_cases hq : q = i.toNatClampNeg
  · subst hq
    simp [updV, upd, vp_nar]
    try rfl
  · simp [updV, upd, hq]
theorem xx_soin {v : Nat} (hv : v < 39) : (v, "BeltRounds$Sign") ∈ xx_so := by
  have h1 : (v, "BeltRounds$Sign") ∈ (List.range 39).map (fun i => (i, "BeltRounds$Sign")) := List.mem_map.mpr ⟨v, List.mem_range.mpr hv, rfl⟩
  unfold xx_so
  exact List.mem_append.mpr (Or.inl h1)
theorem J_alen {h kd : Nat} {x : vp_A} {v : Int32} (hd : decode M.2.2.1 pc = .ok (.arraylength, 1)) (hA : A h = some (.inl (kd, x))) (hk : kd < 7) (hv : Int32.ofNat x.1 = v) (kk : xx_J G l M fr lo mc ms Post (pc + 1) L (.int v :: S) A n k j) : xx_J G l M fr lo mc ms Post pc L (.ref h :: S) A n k j := by
  intro p e s m args below meth c ad0 n0 F ad H locs ls ⟨a1, a2, a3, a4, a5, a6, a7⟩
  have K := kk p e s m args below meth c ad0 n0 F ad H locs ls ⟨a1, a2, a3, a4, a5, xx_c trivial (xx_t a6), a7⟩
  have hK := F.2.2.2.2.2.2.2.2.2.2.1.1
  rcases (show kd = 0 ∨ kd = 1 ∨ kd = 2 ∨ kd = 3 ∨ kd = 4 ∨ kd = 5 ∨ kd = 6 by omega) with rfl | rfl | rfl | rfl | rfl | rfl | rfl
  · exact va_alen F.1 F.2.1 hK (a3.at hA) 0 0 rfl rfl (by exact hv) hd K
  · exact va_alen F.1 F.2.1 hK (a3.at hA) 0 1 rfl rfl (by exact hv) hd K
  · exact va_alen F.1 F.2.1 hK (a3.at hA) 0 2 rfl rfl (by exact hv) hd K
  · exact va_alen F.1 F.2.1 hK (a3.at hA) 0 3 rfl rfl (by exact hv) hd K
  · exact va_alen F.1 F.2.1 hK (a3.at hA) 0 4 rfl rfl (by exact hv) hd K
  · exact va_alen F.1 F.2.1 hK (a3.at hA) 0 5 rfl rfl (by exact hv) hd K
  · exact va_alen F.1 F.2.1 hK (a3.at hA) 0 6 rfl rfl (by exact hv) hd K
theorem J_new {ci idx N : Nat} {C : String} {T : u_T} {ty : Nat → FieldType} {fs : List Value} (hd : decode M.2.2.1 pc = .ok (.new idx, 3)) (hC : xx_Cl ci C T N ty) (w1 : Cond.classLink M.1 idx C ∈ xx_T) (w2 : Cond.instantiable C N ∈ xx_T) (w3 : Cond.initialized C ∈ xx_T) (hfs : ∀ q, q < N → defaultValue (ty q) = vp_V fs q) (hfl : ∀ v ∈ fs, ∀ q, v ≠ .ref q) (hk : k + 1 ≤ mc) (hj : j + N ≤ ms)
    (kk : xx_J G l M fr lo mc ms Post (pc + 3) L (.ref n :: S) (xx_up A n (.inr (ci, fs))) (n + 1) (k + 1) (j + N)) : xx_J G l M fr lo mc ms Post pc L S A n k j := by
  intro p e s m args below meth c ad0 n0 F ad H locs ls ⟨a1, a2, a3, a4, a5, a6, a7⟩
  obtain ⟨f1, f2, f3, f4, f5, f6, f7, f8, f9, f10, f11, f12⟩ := F
  have F : xx_F G l M p s m args meth c := ⟨f1, f2, f3, f4, f5, f6, f7, f8, f9, f10, f11, f12⟩
  obtain ⟨c1, c2, c3, c4⟩ := hC
  have hKn := f11.1.1 ci _ c1
  refine W.newcK f1 f2 f7 (f8 _ w1) (f8 _ w2) (f8 _ w3) rfl hd hk hj hKn.2.1 rfl fun H1 kC hkC e1 z1 o1 => ?_
  have ext : ∀ q, q < n → va_up ad n H.size q = ad q := fun q hq => by simp [va_up, Nat.ne_of_lt hq]
  have hsz : G.2.2.1 ≤ H.size := Nat.le_trans f12 a4.1
  have hwe : xx_ew (n + 1) (.inr (ci, fs)) := fun v hv => by
    cases v <;> first | trivial | exact absurd rfl (hfl _ hv _)
  have hmap : fs.map (xx_v (va_up ad n H.size)) = fs := by
    have : ∀ v ∈ fs, xx_v (va_up ad n H.size) v = v := fun v hv => by cases v <;> first | rfl | exact absurd rfl (hfl _ hv _)
    rw [List.map_congr_left this, List.map_id']
  have K := kk p e s m args below meth c ad0 n0 F (va_up ad n H.size) H1 locs ls ⟨by omega, fun q hq => by rw [ext q (by omega)]; exact a2 q hq, a3.push (a3.none (Nat.le_refl _)) hsz (Nat.le_refl _) hwe (by
      show va_at G.1 vwCl (H.size, .inr (ci, fs.map _)) H1
      rw [hmap]
      exact ⟨_, c1, (u_born ty f8 c2 hKn hkC e1 c3).to hfs⟩) o1, ⟨Nat.le_trans a4.1 (by omega), fun x h1 h2 => (o1 x (Nat.lt_of_lt_of_le h1 a4.1)).trans (a4.2.1 x h1 h2), a4.2.2⟩, ?_, xx_c (Nat.lt_succ_self n) (fun v hv => xx_vw_le (Nat.le_succ n) (a6 v hv)), fun q hq => xx_vw_le (Nat.le_succ n) (a7 q hq)⟩
  · rw [List.map_cons, xx_map_ext ext a6] at K
    simp only [xx_v, va_up, if_true] at K
    exact K
  · have : L.map (fun q => (q.1, xx_v (va_up ad n H.size) q.2)) = L.map (fun q => (q.1, xx_v ad q.2)) := List.map_congr_left fun q hq => by rw [xx_v_ext ext (a7 q hq)]
    rw [this]
    exact a5
theorem J_newi {z : Int32} {N : Nat} (hd : decode M.2.2.1 pc = .ok (.newarray .int, 2)) (w1 : Cond.arrayClass (newarray.typeOf .int) ∈ xx_T) (hn : ¬ z < 0) (hN : z.toNatClampNeg = N) (hb : N * 4 ≤ 536870912) (hk : k + 1 ≤ mc) (hj : j + N ≤ ms)
    (kk : xx_J G l M fr lo mc ms Post (pc + 2) L (.ref n :: S) (xx_up A n (.inl (0, N, .inl (fun _ => 0)))) (n + 1) (k + 1) (j + N)) : xx_J G l M fr lo mc ms Post pc L (.int z :: S) A n k j := by
  intro p e s m args below meth c ad0 n0 F ad H locs ls ⟨a1, a2, a3, a4, a5, a6, a7⟩
  obtain ⟨f1, f2, f3, f4, f5, f6, f7, f8, f9, f10, f11, f12⟩ := F
  have F : xx_F G l M p s m args meth c := ⟨f1, f2, f3, f4, f5, f6, f7, f8, f9, f10, f11, f12⟩
  refine va_newaK f1 f2 (f8 _ w1) rfl hd rfl hn hN hb hk hj rfl fun H1 cA e1 z1 o1 hAr hNm => ?_
  have hcA : cA = G.2.1 0 := Option.some.inj (hNm.symm.trans (f11.1.2 0 _ rfl).2)
  subst hcA
  have ext : ∀ q, q < n → va_up ad n H.size q = ad q := fun q hq => by simp [va_up, Nat.ne_of_lt hq]
  have hsz : G.2.2.1 ≤ H.size := Nat.le_trans f12 a4.1
  have K := kk p e s m args below meth c ad0 n0 F (va_up ad n H.size) H1 locs ls ⟨by omega, fun q hq => by rw [ext q (by omega)]; exact a2 q hq, a3.push (a3.none (Nat.le_refl _)) hsz (Nat.le_refl _) trivial e1 o1, ⟨Nat.le_trans a4.1 (by omega), fun x h1 h2 => (o1 x (Nat.lt_of_lt_of_le h1 a4.1)).trans (a4.2.1 x h1 h2), a4.2.2⟩, ?_, xx_c (Nat.lt_succ_self n) (fun v hv => xx_vw_le (Nat.le_succ n) (xx_t a6 v hv)), fun q hq => xx_vw_le (Nat.le_succ n) (a7 q hq)⟩
  · rw [List.map_cons, xx_map_ext ext (xx_t a6)] at K
    simp only [xx_v, va_up, if_true] at K
    exact K
  · have : L.map (fun q => (q.1, xx_v (va_up ad n H.size) q.2)) = L.map (fun q => (q.1, xx_v ad q.2)) := List.map_congr_left fun q hq => by rw [xx_v_ext ext (a7 q hq)]
    rw [this]
    exact a5
theorem J_newb {z : Int32} {N : Nat} (hd : decode M.2.2.1 pc = .ok (.newarray .byte, 2)) (w1 : Cond.arrayClass (newarray.typeOf .byte) ∈ xx_T) (hn : ¬ z < 0) (hN : z.toNatClampNeg = N) (hb : N * 1 ≤ 536870912) (hk : k + 1 ≤ mc) (hj : j + N ≤ ms)
    (kk : xx_J G l M fr lo mc ms Post (pc + 2) L (.ref n :: S) (xx_up A n (.inl (1, N, .inl (fun _ => 0)))) (n + 1) (k + 1) (j + N)) : xx_J G l M fr lo mc ms Post pc L (.int z :: S) A n k j := by
  intro p e s m args below meth c ad0 n0 F ad H locs ls ⟨a1, a2, a3, a4, a5, a6, a7⟩
  obtain ⟨f1, f2, f3, f4, f5, f6, f7, f8, f9, f10, f11, f12⟩ := F
  have F : xx_F G l M p s m args meth c := ⟨f1, f2, f3, f4, f5, f6, f7, f8, f9, f10, f11, f12⟩
  refine va_newaK f1 f2 (f8 _ w1) rfl hd rfl hn hN hb hk hj rfl fun H1 cA e1 z1 o1 hAr hNm => ?_
  have hcA : cA = G.2.1 1 := Option.some.inj (hNm.symm.trans (f11.1.2 1 _ rfl).2)
  subst hcA
  have ext : ∀ q, q < n → va_up ad n H.size q = ad q := fun q hq => by simp [va_up, Nat.ne_of_lt hq]
  have hsz : G.2.2.1 ≤ H.size := Nat.le_trans f12 a4.1
  have K := kk p e s m args below meth c ad0 n0 F (va_up ad n H.size) H1 locs ls ⟨by omega, fun q hq => by rw [ext q (by omega)]; exact a2 q hq, a3.push (a3.none (Nat.le_refl _)) hsz (Nat.le_refl _) trivial e1 o1, ⟨Nat.le_trans a4.1 (by omega), fun x h1 h2 => (o1 x (Nat.lt_of_lt_of_le h1 a4.1)).trans (a4.2.1 x h1 h2), a4.2.2⟩, ?_, xx_c (Nat.lt_succ_self n) (fun v hv => xx_vw_le (Nat.le_succ n) (xx_t a6 v hv)), fun q hq => xx_vw_le (Nat.le_succ n) (a7 q hq)⟩
  · rw [List.map_cons, xx_map_ext ext (xx_t a6)] at K
    simp only [xx_v, va_up, if_true] at K
    exact K
  · have : L.map (fun q => (q.1, xx_v (va_up ad n H.size) q.2)) = L.map (fun q => (q.1, xx_v ad q.2)) := List.map_congr_left fun q hq => by rw [xx_v_ext ext (a7 q hq)]
    rw [this]
    exact a5
theorem J_newz {z : Int32} {N : Nat} (hd : decode M.2.2.1 pc = .ok (.newarray .boolean, 2)) (w1 : Cond.arrayClass (newarray.typeOf .boolean) ∈ xx_T) (hn : ¬ z < 0) (hN : z.toNatClampNeg = N) (hb : N * 1 ≤ 536870912) (hk : k + 1 ≤ mc) (hj : j + N ≤ ms)
    (kk : xx_J G l M fr lo mc ms Post (pc + 2) L (.ref n :: S) (xx_up A n (.inl (2, N, .inl (fun _ => 0)))) (n + 1) (k + 1) (j + N)) : xx_J G l M fr lo mc ms Post pc L (.int z :: S) A n k j := by
  intro p e s m args below meth c ad0 n0 F ad H locs ls ⟨a1, a2, a3, a4, a5, a6, a7⟩
  obtain ⟨f1, f2, f3, f4, f5, f6, f7, f8, f9, f10, f11, f12⟩ := F
  have F : xx_F G l M p s m args meth c := ⟨f1, f2, f3, f4, f5, f6, f7, f8, f9, f10, f11, f12⟩
  refine va_newaK f1 f2 (f8 _ w1) rfl hd rfl hn hN hb hk hj rfl fun H1 cA e1 z1 o1 hAr hNm => ?_
  have hcA : cA = G.2.1 2 := Option.some.inj (hNm.symm.trans (f11.1.2 2 _ rfl).2)
  subst hcA
  have ext : ∀ q, q < n → va_up ad n H.size q = ad q := fun q hq => by simp [va_up, Nat.ne_of_lt hq]
  have hsz : G.2.2.1 ≤ H.size := Nat.le_trans f12 a4.1
  have K := kk p e s m args below meth c ad0 n0 F (va_up ad n H.size) H1 locs ls ⟨by omega, fun q hq => by rw [ext q (by omega)]; exact a2 q hq, a3.push (a3.none (Nat.le_refl _)) hsz (Nat.le_refl _) trivial e1 o1, ⟨Nat.le_trans a4.1 (by omega), fun x h1 h2 => (o1 x (Nat.lt_of_lt_of_le h1 a4.1)).trans (a4.2.1 x h1 h2), a4.2.2⟩, ?_, xx_c (Nat.lt_succ_self n) (fun v hv => xx_vw_le (Nat.le_succ n) (xx_t a6 v hv)), fun q hq => xx_vw_le (Nat.le_succ n) (a7 q hq)⟩
  · rw [List.map_cons, xx_map_ext ext (xx_t a6)] at K
    simp only [xx_v, va_up, if_true] at K
    exact K
  · have : L.map (fun q => (q.1, xx_v (va_up ad n H.size) q.2)) = L.map (fun q => (q.1, xx_v ad q.2)) := List.map_congr_left fun q hq => by rw [xx_v_ext ext (a7 q hq)]
    rw [this]
    exact a5
theorem J_newq {z : Int32} {N idx : Nat} (hd : decode M.2.2.1 pc = .ok (.anewarray idx, 3)) (w1 : Cond.classLink M.1 idx "BeltRounds$Sign" ∈ xx_T) (hn : ¬ z < 0) (hN : z.toNatClampNeg = N) (hb : N * 4 ≤ 536870912) (hk : k + 1 ≤ mc) (hj : j + N ≤ ms)
    (kk : xx_J G l M fr lo mc ms Post (pc + 3) L (.ref n :: S) (xx_up A n (.inl (4, N, .inr (.inr (.inr (.inr (fun _ => none))))))) (n + 1) (k + 1) (j + N)) : xx_J G l M fr lo mc ms Post pc L (.int z :: S) A n k j := by
  intro p e s m args below meth c ad0 n0 F ad H locs ls ⟨a1, a2, a3, a4, a5, a6, a7⟩
  obtain ⟨f1, f2, f3, f4, f5, f6, f7, f8, f9, f10, f11, f12⟩ := F
  have F : xx_F G l M p s m args meth c := ⟨f1, f2, f3, f4, f5, f6, f7, f8, f9, f10, f11, f12⟩
  subst hN
  refine W.anew f1 f2 f7 (f8 _ w1) (va_AO.use f11.2.2.1.1) rfl hd rfl hn hb hk hj fun cA kA comp g1 g2 g3 g4 => ?_
  obtain ⟨kA', comp', h1', h2', h3', h4'⟩ := (f11.1.2 4 _ rfl).2
  have hcA : cA = G.2.1 4 := Option.some.inj (g1.symm.trans h4')
  subst hcA
  generalize hH1 : H.push ({ cls := G.2.1 4, slots := Array.replicate z.toNatClampNeg .null, vm := .none } : Cell) = H1
  have z1 : H1.size = H.size + 1 := by rw [← hH1, Array.size_push]
  have e1 : H1[H.size]? = some (arrV (G.2.1 4) z.toNatClampNeg (fun _ => .null)) := by rw [← hH1, Array.getElem?_push_size, ← arrV_new]
  have o1 : ∀ q : Nat, q < H.size → H1[q]? = H[q]? := fun q hq => by rw [← hH1, Array.getElem?_push, if_neg (Nat.ne_of_lt hq)]
  have ext : ∀ q, q < n → va_up ad n H.size q = ad q := fun q hq => by simp [va_up, Nat.ne_of_lt hq]
  have hsz : G.2.2.1 ≤ H.size := Nat.le_trans f12 a4.1
  have K := kk p e s m args below meth c ad0 n0 F (va_up ad n H.size) H1 locs ls ⟨by omega, fun q hq => by rw [ext q (by omega)]; exact a2 q hq, a3.push (a3.none (Nat.le_refl _)) hsz (Nat.le_refl _) (fun _ _ h => nomatch h) e1 o1, ⟨Nat.le_trans a4.1 (by omega), fun x h1 h2 => (o1 x (Nat.lt_of_lt_of_le h1 a4.1)).trans (a4.2.1 x h1 h2), a4.2.2⟩, ?_, xx_c (Nat.lt_succ_self n) (fun v hv => xx_vw_le (Nat.le_succ n) (xx_t a6 v hv)), fun q hq => xx_vw_le (Nat.le_succ n) (a7 q hq)⟩
  · rw [List.map_cons, xx_map_ext ext (xx_t a6)] at K
    simp only [xx_v, va_up, if_true] at K
    exact K
  · have : L.map (fun q => (q.1, xx_v (va_up ad n H.size) q.2)) = L.map (fun q => (q.1, xx_v ad q.2)) := List.map_congr_left fun q hq => by rw [xx_v_ext ext (a7 q hq)]
    rw [this]
    exact a5
theorem J_gets {idx : Nat} {C nm ds : String} {v : Value} (hd : decode M.2.2.1 pc = .ok (.getstatic idx, 3)) (hq : (C, nm, ds, v) ∈ xx_st) (hvv : xx_vw 400 v) (hl : Cond.fieldLink M.1 idx C nm ds ∈ xx_T) (kk : xx_J G l M fr lo mc ms Post (pc + 3) L (v :: S) A n k j) : xx_J G l M fr lo mc ms Post pc L S A n k j := by
  intro p e s m args below meth c ad0 n0 F ad H locs ls ⟨a1, a2, a3, a4, a5, a6, a7⟩
  have hK := F.2.2.2.2.2.2.2.2.2.2.1
  have hZ : va_Z C nm ds (xx_v G.2.2.2 v) (xx_A G) s s.heap := hK.2.2.2.1 _ hq
  have e9 : xx_v G.2.2.2 v = xx_v ad v := xx_v_ext (n := 400) (fun q h => (a3.2.1 q h).symm) hvv
  rw [e9] at hZ
  exact va_gets F.1 F.2.1 hZ a4 F.2.2.2.2.2.2.1 (F.2.2.2.2.2.2.2.1 _ hl) (fun _ h => h) hd (kk p e s m args below meth c ad0 n0 F ad H locs ls ⟨a1, a2, a3, a4, a5, xx_c (xx_vw_le a3.1 hvv) a6, a7⟩)
/-- a field of a thing that stands at the start -/
theorem J_getS {h idx : Nat} {C nm ds : String} {v : Value} (hd : decode M.2.2.1 pc = .ok (.getfield idx, 3)) (hq : (h, C, nm, ds, v) ∈ xx_sf) (hh : h < 400) (hvv : xx_vw 400 v) (hl : (Cond.fieldLink M.1 idx C nm ds ∈ xx_T) ∨ ∃ host, Cond.fieldLinkNest M.1 idx C nm ds host ∈ xx_N) (kk : xx_J G l M fr lo mc ms Post (pc + 3) L (v :: S) A n k j) : xx_J G l M fr lo mc ms Post pc L (.ref h :: S) A n k j := by
  intro p e s m args below meth c ad0 n0 F ad H locs ls ⟨a1, a2, a3, a4, a5, a6, a7⟩
  have hK := F.2.2.2.2.2.2.2.2.2.2.1
  have hZ : va_OF C nm ds (xx_v G.2.2.2 v) (G.2.2.2 h) (xx_A G) s s.heap := hK.2.2.2.2.1 _ hq
  have e9 : xx_v G.2.2.2 v = xx_v ad v := xx_v_ext (n := 400) (fun q h => (a3.2.1 q h).symm) hvv
  rw [e9, ← a3.2.1 h hh] at hZ
  obtain ⟨cf, kf, i, f, cell, g1, g2, g3, g4, g5, g6⟩ := hZ.kept (H1 := H) a4.2.1
  have K := kk p e s m args below meth c ad0 n0 F ad H locs ls ⟨a1, a2, a3, a4, a5, xx_c (xx_vw_le a3.1 hvv) (xx_t a6), a7⟩
  rcases hl with hl | ⟨host, hl⟩
  · exact W.getf F.1 F.2.1 F.2.2.2.2.2.2.1 (F.2.2.2.2.2.2.2.1 _ hl) g1 g2 g3 g4 g5 rfl rfl hd K
  · exact va_Wgetf F.1 F.2.1 F.2.2.2.2.2.2.1 (va_Nw.use rfl (hK.2.1 _ hl)) g1 g2 g3 g4 g5 rfl rfl hd K
/-- a place of a row of references that stands at the start -/
theorem J_aldS {h N : Nat} {C : String} {f : Nat → Value} {i : Int32} {v : Value} (hd : decode M.2.2.1 pc = .ok (.aaload, 1)) (hq : (h, FieldType.object C, N, f) ∈ xx_sa) (hh : h < 400) (hin : vp_in i N) (hv : f i.toNatClampNeg = v) (hvv : xx_vw 400 v) (kk : xx_J G l M fr lo mc ms Post (pc + 1) L (v :: S) A n k j) : xx_J G l M fr lo mc ms Post pc L (.int i :: .ref h :: S) A n k j := by
  intro p e s m args below meth c ad0 n0 F ad H locs ls ⟨a1, a2, a3, a4, a5, a6, a7⟩
  have hK := F.2.2.2.2.2.2.2.2.2.2.1
  have hZ : va_T (.object C) (G.2.2.2 h) N (fun j => xx_v G.2.2.2 (f j)) (xx_A G) s s.heap := hK.2.2.2.2.2.2.1 _ hq
  rw [← a3.2.1 h hh] at hZ
  obtain ⟨cell, g1, g2, g3, g4, g5, g6, g7⟩ := hZ.kept (H1 := H) a4.2.1
  have hlt : i.toNatClampNeg < N := Nat.not_le.mp fun q => hin (Or.inr q)
  have hvl := g6 _ hlt
  dsimp only at hvl
  have e9 : xx_v G.2.2.2 v = xx_v ad v := xx_v_ext (n := 400) (fun q h => (a3.2.1 q h).symm) hvv
  rw [hv, e9] at hvl
  exact W.aald (v := xx_v ad v) (ty := .object C) F.1 F.2.1 g1 g2 rfl g3 (fun h => hin (h.elim Or.inl (fun h => Or.inr (Nat.le_trans g4 h)))) hvl rfl rfl hd (kk p e s m args below meth c ad0 n0 F ad H locs ls ⟨a1, a2, a3, a4, a5, xx_c (xx_vw_le a3.1 hvv) (xx_t (xx_t a6)), a7⟩)
/-- .. of a row of bytes -/
theorem J_baldS {h N : Nat} {f : Nat → Value} {i v : Int32} (hd : decode M.2.2.1 pc = .ok (.baload, 1)) (hq : (h, FieldType.byte, N, f) ∈ xx_sa) (hh : h < 400) (hin : vp_in i N) (hv : f i.toNatClampNeg = .int v) (kk : xx_J G l M fr lo mc ms Post (pc + 1) L (.int v :: S) A n k j) : xx_J G l M fr lo mc ms Post pc L (.int i :: .ref h :: S) A n k j := by
  intro p e s m args below meth c ad0 n0 F ad H locs ls ⟨a1, a2, a3, a4, a5, a6, a7⟩
  have hK := F.2.2.2.2.2.2.2.2.2.2.1
  have hZ : va_T .byte (G.2.2.2 h) N (fun j => xx_v G.2.2.2 (f j)) (xx_A G) s s.heap := hK.2.2.2.2.2.2.1 _ hq
  rw [← a3.2.1 h hh] at hZ
  obtain ⟨cell, g1, g2, g3, g4, g5, g6, g7⟩ := hZ.kept (H1 := H) a4.2.1
  have hlt : i.toNatClampNeg < N := Nat.not_le.mp fun q => hin (Or.inr q)
  have hvl := g6 _ hlt
  dsimp only at hvl
  rw [hv] at hvl
  exact W.bald (v := .int v) F.1 F.2.1 g1 g2 g3 (fun h => hin (h.elim Or.inl (fun h => Or.inr (Nat.le_trans g4 h)))) hvl rfl rfl hd (kk p e s m args below meth c ad0 n0 F ad H locs ls ⟨a1, a2, a3, a4, a5, xx_c trivial (xx_t (xx_t a6)), a7⟩)
theorem J_alenS {h N : Nat} {ty : FieldType} {f : Nat → Value} {v : Int32} (hd : decode M.2.2.1 pc = .ok (.arraylength, 1)) (hq : (h, ty, N, f) ∈ xx_sa) (hh : h < 400) (hv : Int32.ofNat N = v) (kk : xx_J G l M fr lo mc ms Post (pc + 1) L (.int v :: S) A n k j) : xx_J G l M fr lo mc ms Post pc L (.ref h :: S) A n k j := by
  intro p e s m args below meth c ad0 n0 F ad H locs ls ⟨a1, a2, a3, a4, a5, a6, a7⟩
  have hK := F.2.2.2.2.2.2.2.2.2.2.1
  have hZ : va_T ty (G.2.2.2 h) N (fun j => xx_v G.2.2.2 (f j)) (xx_A G) s s.heap := hK.2.2.2.2.2.2.1 _ hq
  rw [← a3.2.1 h hh] at hZ
  obtain ⟨cell, g1, g2, g3, g4, g5, g6, g7⟩ := hZ.kept (H1 := H) a4.2.1
  exact W.alen (n := v) F.1 F.2.1 g1 g2 (g5.trans hv) rfl rfl hd (kk p e s m args below meth c ad0 n0 F ad H locs ls ⟨a1, a2, a3, a4, a5, xx_c trivial (xx_t a6), a7⟩)
/-- a static of which it is only known that it is a reference or null -/
theorem J_getsq {idx : Nat} (hd : decode M.2.2.1 pc = .ok (.getstatic idx, 3)) (hl : Cond.fieldLink M.1 idx "jdk/internal/util/Preconditions" "SIOOBE_FORMATTER" "Ljava/util/function/BiFunction;" ∈ xx_T) (kk : ∀ v, v = Value.null ∨ v = .ref 159 → xx_J G l M fr lo mc ms Post (pc + 3) L (v :: S) A n k j) : xx_J G l M fr lo mc ms Post pc L S A n k j := by
  intro p e s m args below meth c ad0 n0 F ad H locs ls ⟨a1, a2, a3, a4, a5, a6, a7⟩
  have hK := F.2.2.2.2.2.2.2.2.2.2.1
  rcases hK.2.2.2.2.2.2.2.2.1 with hZ | hZ
  · exact va_gets F.1 F.2.1 hZ a4 F.2.2.2.2.2.2.1 (F.2.2.2.2.2.2.2.1 _ hl) (fun _ h => h) hd (kk _ (Or.inl rfl) p e s m args below meth c ad0 n0 F ad H locs ls ⟨a1, a2, a3, a4, a5, xx_c trivial a6, a7⟩)
  · rw [← a3.2.1 159 (by omega)] at hZ
    exact va_gets F.1 F.2.1 hZ a4 F.2.2.2.2.2.2.1 (F.2.2.2.2.2.2.2.1 _ hl) (fun _ h => h) hd (kk _ (Or.inr rfl) p e s m args below meth c ad0 n0 F ad H locs ls ⟨a1, a2, a3, a4, a5, xx_c (by show 159 < n; have := a3.1; omega) a6, a7⟩)
/-- == of two references, each a constant of Sign or null -/
theorem J_acmp_eq {rx ry : Option Nat} {off : Int} {tgt : Nat} (hd : decode M.2.2.1 pc = .ok (.if_acmp .eq off, 3)) (ht : (pc : Int) + off = (tgt : Int)) (hx : ∀ q, rx = some q → q < 39) (hy : ∀ q, ry = some q → q < 39) (kt : rx = ry → xx_J G l M fr lo mc ms Post tgt L S A n k j) (kf : ¬ rx = ry → xx_J G l M fr lo mc ms Post (pc + 3) L S A n k j) : xx_J G l M fr lo mc ms Post pc L (va_rf ry :: va_rf rx :: S) A n k j := by
  intro p e s m args below meth c ad0 n0 F ad H locs ls ⟨a1, a2, a3, a4, a5, a6, a7⟩
  have hK := F.2.2.2.2.2.2.2.2.2.2.1
  have hr : ∀ r : Option Nat, xx_v ad (va_rf r) = va_rf (r.map ad) := fun r => by cases r <;> rfl
  have hinj : rx.map ad = ry.map ad → rx = ry := by
    intro h
    cases hrx : rx with
    | none => cases hry : ry with
      | none => rfl
      | some y => rw [hrx, hry] at h; cases h
    | some x => cases hry : ry with
      | none => rw [hrx, hry] at h; cases h
      | some y =>
        rw [hrx, hry] at h
        have h1 := hx x hrx
        have h2 := hy y hry
        have h3 : ad x = ad y := Option.some.inj h
        rw [a3.2.1 x (by omega), a3.2.1 y (by omega)] at h3
        rw [hK.2.2.2.2.2.2.2.1 x y h1 h2 h3]
  rw [List.map_cons, List.map_cons, hr, hr]
  exact lv_acmp_eq F.1 F.2.1 hd ht (fun h => kt (hinj h) p e s m args below meth c ad0 n0 F ad H locs ls ⟨a1, a2, a3, a4, a5, xx_t (xx_t a6), a7⟩) (fun h => kf (fun z => h (by rw [z])) p e s m args below meth c ad0 n0 F ad H locs ls ⟨a1, a2, a3, a4, a5, xx_t (xx_t a6), a7⟩)
theorem J_acmp_ne {rx ry : Option Nat} {off : Int} {tgt : Nat} (hd : decode M.2.2.1 pc = .ok (.if_acmp .ne off, 3)) (ht : (pc : Int) + off = (tgt : Int)) (hx : ∀ q, rx = some q → q < 39) (hy : ∀ q, ry = some q → q < 39) (kt : ¬ rx = ry → xx_J G l M fr lo mc ms Post tgt L S A n k j) (kf : rx = ry → xx_J G l M fr lo mc ms Post (pc + 3) L S A n k j) : xx_J G l M fr lo mc ms Post pc L (va_rf ry :: va_rf rx :: S) A n k j := by
  intro p e s m args below meth c ad0 n0 F ad H locs ls ⟨a1, a2, a3, a4, a5, a6, a7⟩
  have hK := F.2.2.2.2.2.2.2.2.2.2.1
  have hr : ∀ r : Option Nat, xx_v ad (va_rf r) = va_rf (r.map ad) := fun r => by cases r <;> rfl
  have hinj : rx.map ad = ry.map ad → rx = ry := by
    intro h
    cases hrx : rx with
    | none => cases hry : ry with
      | none => rfl
      | some y => rw [hrx, hry] at h; cases h
    | some x => cases hry : ry with
      | none => rw [hrx, hry] at h; cases h
      | some y =>
        rw [hrx, hry] at h
        have h1 := hx x hrx
        have h2 := hy y hry
        have h3 : ad x = ad y := Option.some.inj h
        rw [a3.2.1 x (by omega), a3.2.1 y (by omega)] at h3
        rw [hK.2.2.2.2.2.2.2.1 x y h1 h2 h3]
  rw [List.map_cons, List.map_cons, hr, hr]
  exact lv_acmp_ne F.1 F.2.1 hd ht (fun h => kt (fun z => h (by rw [z])) p e s m args below meth c ad0 n0 F ad H locs ls ⟨a1, a2, a3, a4, a5, xx_t (xx_t a6), a7⟩) (fun h => kf (hinj h) p e s m args below meth c ad0 n0 F ad H locs ls ⟨a1, a2, a3, a4, a5, xx_t (xx_t a6), a7⟩)
end XXD
