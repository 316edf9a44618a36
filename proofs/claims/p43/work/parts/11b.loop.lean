/-! LOOPS, and numbers -/
section XXI
variable {G : xx_G} {l : Launch} {M : xx_M} {fr lo mc ms : Nat} {Post : xx_Q} {pc : Nat} {L : List (Nat × Value)} {S : List Value} {A : xx_H} {n k j : Nat}
/-- fewer locals, in another order -/
theorem xx_J.pick {L' : List (Nat × Value)} (ks : List Nat) (h : ks.filterMap (fun q => L[q]?) = L') (J : xx_J G l M fr lo mc ms Post pc L' S A n k j) : xx_J G l M fr lo mc ms Post pc L S A n k j := by
  intro p e s m args below meth c ad0 n0 F ad H locs ls ⟨a1, a2, a3, a4, a5, a6, a7⟩
  have hin : ∀ q ∈ L', q ∈ L := by
    intro q hq
    rw [← h] at hq
    obtain ⟨i, -, hi⟩ := List.mem_filterMap.mp hq
    exact List.mem_of_getElem? hi
  exact J p e s m args below meth c ad0 n0 F ad H locs ls ⟨a1, a2, a3, a4, ⟨a5.1, a5.2.1, fun q hq => by
    obtain ⟨z, hz, rfl⟩ := List.mem_map.mp hq
    exact a5.2.2 _ (List.mem_map.mpr ⟨z, hin z hz, rfl⟩)⟩, a6, fun q hq => a7 q (hin q hq)⟩
/-- from the end back to i -/
theorem xx_dn {P : Nat → Prop} {e : Nat} (h0 : P e) (hs : ∀ i, i < e → P (i + 1) → P i) : ∀ i, i ≤ e → P i := by
  have key : ∀ d i, i + d = e → P i := by
    intro d
    induction d with
    | zero => intro i h; have : i = e := by omega
              rw [this]; exact h0
    | succ d ih => intro i h; exact hs i (by omega) (ih (i + 1) (by omega))
  intro i h
  exact key (e - i) i (by omega)
theorem i_lt {a b : Int32} : a < b ↔ a.toInt < b.toInt := Int32.lt_iff_toInt_lt
theorem i_le {a b : Int32} : a ≤ b ↔ a.toInt ≤ b.toInt := Int32.le_iff_toInt_le
theorem i_eq {a b : Int32} : a = b ↔ a.toInt = b.toInt := Int32.toInt_inj.symm
theorem i_0 : (0 : Int32).toInt = 0 := rfl
theorem i_1 : (1 : Int32).toInt = 1 := rfl
theorem i_2 : (2 : Int32).toInt = 2 := rfl
theorem i_3 : (3 : Int32).toInt = 3 := rfl
theorem i_4 : (4 : Int32).toInt = 4 := rfl
theorem i_5 : (5 : Int32).toInt = 5 := rfl
theorem i_6 : (6 : Int32).toInt = 6 := rfl
theorem i_8 : (8 : Int32).toInt = 8 := rfl
theorem i_9 : (9 : Int32).toInt = 9 := rfl
theorem i_10 : (10 : Int32).toInt = 10 := rfl
theorem i_12 : (12 : Int32).toInt = 12 := rfl
theorem i_16 : (16 : Int32).toInt = 16 := rfl
theorem i_20 : (20 : Int32).toInt = 20 := rfl
theorem i_400 : (400 : Int32).toInt = 400 := rfl
theorem i_401 : (401 : Int32).toInt = 401 := rfl
theorem i_999 : (999 : Int32).toInt = 999 := rfl
theorem i_1980 : (1980 : Int32).toInt = 1980 := rfl
theorem i_2000 : (2000 : Int32).toInt = 2000 := rfl
theorem i_m1 : (-1 : Int32).toInt = -1 := rfl
theorem i_n {n : Nat} (h : n < 2 ^ 31) : (nI n).toInt = n := nI_toInt h
theorem nI_of_toInt {x : Int32} (h : 0 ≤ x.toInt) : ∃ q : Nat, q < 2 ^ 31 ∧ x = nI q := nI_of (fun z => by rw [i_lt, i_0] at z; omega)
/-- an index of a row of rows -/
theorem ix12 (q i : Nat) : nI q * 12 + nI i = nI (q * 12 + i) := by rw [show (12 : Int32) = nI 12 from rfl, pk_mul, nI_add]
end XXI
