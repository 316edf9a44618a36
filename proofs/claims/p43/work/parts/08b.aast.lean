section XXE
variable {G : xx_G} {l : Launch} {M : xx_M} {fr lo mc ms : Nat} {Post : xx_Q} {pc : Nat} {L : List (Nat × Value)} {S : List Value} {A : xx_H} {n k j : Nat}
theorem xx_asg (vm : Vm) (c : ClassId) : vm.assignable c c = true := by
  show Vm.assignableAux vm (255 + 1) c c = true
  rw [Vm.assignableAux]
  simp
theorem xx_Waast {p : Program} {l : Launch} {e : Env} {R : Room} {s : State} {m : MethodId} {args : Array Value} {below : List Frame} {meth : Method} {c : Code} {H : Heap} {locs : List Loc} {cells slots : Nat} {Q : State → Prop} {cc : ByteArray} {pc : Nat} {ls : Array Slot} {rest : List Value}
    (hexec : p.tables.exec = Jvm.exec) (hb : c.code = cc) {a b : Nat} {cA comp : ClassId} {kA kE : Class} {C : String} {len : Nat} {f : Nat → Option Nat} {i : Int32} {cellV : Cell} (hcell : H[a]? = some (vp_cell cA (len, .inr (.inr (.inr (.inr f)))))) (k1 : s.vm.classes[cA]? = some kA) (k2 : kA.kind = .array comp (.object C)) (hkE : s.vm.classes[comp]? = some kE) (hin : vp_in i len) (g1 : H[b]? = some cellV) (g2 : cellV.vm.isStatics = false) (g3 : cellV.cls = comp) (hdg : decode cc pc = .ok (.aastore, 1))
    (kk : ∀ H1 : Heap, H1[a]? = some (vp_cell cA (len, .inr (.inr (.inr (.inr (va_up f i.toNatClampNeg (some b))))))) → H1.size = H.size → (∀ q : Nat, q ≠ a → H1[q]? = H[q]?) → W p l e R s m args below meth c H1 (locs ++ [⟨a, i.toNatClampNeg⟩]) cells slots Q (F0 m (pc + 1) ls rest)) : W p l e R s m args below meth c H locs cells slots Q (F0 m pc ls (.ref b :: .int i :: .ref a :: rest)) := by
  have hlt : i.toNatClampNeg < len := Nat.not_le.mp fun q => hin (Or.inr q)
  have h0 : ¬ i < 0 := fun q => hin (Or.inl q)
  refine W.aast hexec hb hcell (fun q h => by cases h) (fun h => by cases h) k1 k2 rfl hkE ⟨h0, by show _ < (arrV _ _ _).slots.size; rw [arrV_size]; exact hlt⟩ g1 (fun q h => by rw [h] at g2; cases g2) (by rw [g3]; exact hkE) (by rw [g3]; exact xx_asg _ _) rfl rfl hdg fun H1 e z oq => kk H1 ?_ z oq
  rw [e]
  rw [vp_cell_q, vp_cell_q, arrV_store]
  congr 2
  funext q
  by_cases hq : q = i.toNatClampNeg
  · subst hq
    simp [updV, va_up, va_rf]
  · simp [updV, va_up, hq]
theorem xx_mapup (ad : Nat → Nat) (f : Nat → Option Nat) (x v : Nat) : (fun j => (va_up f x (some v) j).map ad) = va_up (fun j => (f j).map ad) x (some (ad v)) := by
  funext q
  by_cases hq : q = x
  · simp [va_up, hq]
  · simp [va_up, hq]
theorem J_aast {h len v : Nat} {f : Nat → Option Nat} {i : Int32} (hd : decode M.2.2.1 pc = .ok (.aastore, 1)) (hA : A h = some (.inl (4, len, .inr (.inr (.inr (.inr f)))))) (hin : vp_in i len) (hv : v < 39) (kk : xx_J G l M fr lo mc ms Post (pc + 1) L S (xx_up A h (.inl (4, len, .inr (.inr (.inr (.inr (va_up f i.toNatClampNeg (some v)))))))) n k j) : xx_J G l M fr lo mc ms Post pc L (.ref v :: .int i :: .ref h :: S) A n k j := by
  intro p e s m args below meth c ad0 n0 F ad H locs ls ⟨a1, a2, a3, a4, a5, a6, a7⟩
  obtain ⟨b1, b2, b3, b4, b5⟩ := a3.2.2.1 _ _ hA
  have hK := F.2.2.2.2.2.2.2.2.2.2.1
  have hO : va_O "BeltRounds$Sign" (G.2.2.2 v) (xx_A G) s s.heap := hK.2.2.2.2.2.1 _ (xx_soin hv)
  obtain ⟨cellV, g1, g2, g3, g4⟩ := hO.kept (H1 := H) a4.2.1
  obtain ⟨kA, comp, k1, k2, k3, -⟩ := (hK.1.2 4 _ rfl).2
  have hcc : cellV.cls = comp := (Option.some.inj (k3.symm.trans g3)).symm
  obtain ⟨kE, hkE, -⟩ := Vm.findClass_spec k3
  have hadv : ad v = G.2.2.2 v := a3.2.1 v (by omega)
  rw [← hadv] at g1
  refine xx_Waast (C := "BeltRounds$Sign") F.1 F.2.1 b5 k1 k2 hkE hin g1 g2 hcc hd fun H1 e9 z oq => ?_
  have hwe : xx_ew n (.inl (4, len, .inr (.inr (.inr (.inr (va_up f i.toNatClampNeg (some v))))))) := by
    intro q x hx
    have h200 := a3.1
    by_cases hq : q = i.toNatClampNeg
    · simp only [va_up, hq, if_true] at hx
      cases hx
      omega
    · simp only [va_up, hq, if_false] at hx
      exact b4 q x hx
  have hat : va_at G.1 vwCl (ad h, xx_e G.2.1 ad (.inl (4, len, .inr (.inr (.inr (.inr (va_up f i.toNatClampNeg (some v)))))))) H1 := by
    show H1[ad h]? = some (vp_cell (G.2.1 4) (len, .inr (.inr (.inr (.inr (fun j => (va_up f i.toNatClampNeg (some v) j).map ad))))))
    rw [xx_mapup]
    exact e9
  exact kk p e s m args below meth c ad0 n0 F ad H1 _ ls ⟨a1, a2, a3.put hA hwe hat oq, a4.put z oq b3, a5, xx_t (xx_t (xx_t a6)), a7⟩
end XXE
