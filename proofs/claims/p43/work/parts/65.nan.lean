/-! DOUBLES: an int by an int that isn't 0 is no NaN; the mean -/
section XNA
theorem fc_p : FP.Core.b64.p = 53 := by decide
theorem fc_t : FP.Core.b64.tails = 4503599627370496 := by decide
theorem fc_e : FP.Core.b64.exps = 2048 := by decide
theorem fc_m : FP.Core.b64.qmin = -1074 := by decide
theorem fc_x : FP.Core.b64.qmax = 971 := by decide
/-- bits that are no NaN's -/
def nn (E : Nat) : Prop := E % 9223372036854775808 ≤ 9218868437227405312
theorem asm_nn (s : Bool) {e m : Nat} (h : (e ≤ 2046 ∧ m < 4503599627370496) ∨ (e = 2047 ∧ m = 0)) : nn (FP.Core.assemble FP.Core.b64 s e m) := by
  unfold nn FP.Core.assemble
  rw [fc_e, fc_t]
  cases s
  · show ((0 * 2048 + e) * 4503599627370496 + m) % 9223372036854775808 ≤ _
    omega
  · show ((1 * 2048 + e) * 4503599627370496 + m) % 9223372036854775808 ≤ _
    omega
theorem inf_nn (s : Bool) : nn (FP.Core.encode FP.Core.b64 (FP.Core.Datum.inf s)) := by
  unfold FP.Core.encode
  exact asm_nn s (Or.inr ⟨by rw [fc_e], rfl⟩)
theorem bnd_nn (s : Bool) {c : Nat} {k : Int} (hc : c < 9007199254740992) : nn (FP.Core.encode FP.Core.b64 (FP.Core.bound FP.Core.b64 s c k)) := by
  unfold FP.Core.bound
  split
  · rename_i hk
    rw [fc_x] at hk
    unfold FP.Core.encode
    show nn (if c < FP.Core.b64.tails then _ else _)
    split
    · rename_i h
      rw [fc_t] at h
      exact asm_nn s (Or.inl ⟨by omega, h⟩)
    · rename_i h
      rw [fc_t] at h
      exact asm_nn s (Or.inl ⟨by rw [fc_m]; omega, by rw [fc_t]; omega⟩)
  · exact inf_nn s
theorem set_nn (s : Bool) (c : Nat) (k : Int) : nn (FP.Core.encode FP.Core.b64 (FP.Core.settle FP.Core.b64 s c k)) := by
  unfold FP.Core.settle
  split
  · rename_i h
    rw [fc_p] at h
    exact bnd_nn s (Nat.lt_of_lt_of_le h (by decide))
  · exact bnd_nn s (by rw [fc_t]; decide)
theorem rr_nn (s : Bool) (c d : Nat) (q : Int) : nn (FP.Core.encode FP.Core.b64 (FP.Core.roundRatio FP.Core.b64 s c d q)) := by
  unfold FP.Core.roundRatio
  split
  · unfold FP.Core.encode
    show nn (if 0 < FP.Core.b64.tails then _ else _)
    rw [if_pos (by rw [fc_t]; decide)]
    exact asm_nn s (Or.inl ⟨by omega, by decide⟩)
  · unfold FP.Core.roundAt
    exact set_nn s _ _
theorem i2d_nn (x : Int32) : nn (FP.i2d x).toNat := by
  have h : nn (FP.Core.fromInt FP.Core.b64 x.toInt) := by
    unfold FP.Core.fromInt FP.Core.round FP.Core.ofInt
    exact rr_nn _ _ _ _
  have e : (FP.i2d x).toNat = FP.Core.fromInt FP.Core.b64 x.toInt % 18446744073709551616 := by
    unfold FP.i2d FP.Core.i2d
    exact UInt64.toNat_ofNat'
  unfold nn at h ⊢
  rw [e]
  omega
theorem dec_nn {x : Nat} (h : nn x) : FP.Core.decode FP.Core.b64 x ≠ FP.Core.Datum.nan := by
  unfold nn at h
  unfold FP.Core.decode FP.Core.fieldE FP.Core.fieldT
  rw [fc_e, fc_t]
  split
  · rename_i h1
    split
    · exact fun z => nomatch z
    · rename_i h2
      exfalso
      omega
  · split
    · exact fun z => nomatch z
    · exact fun z => nomatch z
theorem dec_y9 : ∀ b, b < 13 → 0 < b → ¬ (FP.i2d (nI b)).toNat / 4503599627370496 % 2048 = 2047 ∧ ¬ (FP.i2d (nI b)).toNat / 4503599627370496 % 2048 = 0 := by decide +kernel
theorem dec_y {m : Nat} (h0 : 0 < m) (hm : m ≤ 12) : ∃ t d r, FP.Core.decode FP.Core.b64 (FP.i2d (nI m)).toNat = FP.Core.Datum.fin t d r ∧ ¬ d = 0 := by
  obtain ⟨h1, h2⟩ := dec_y9 m (by omega) h0
  unfold FP.Core.decode FP.Core.fieldE
  rw [fc_e, fc_t, if_neg h1, if_neg h2]
  exact ⟨_, _, _, rfl, by omega⟩
theorem ddiv_nn (x : Int32) {m : Nat} (h0 : 0 < m) (hm : m ≤ 12) : vf_n64 (FP.ddiv (FP.i2d x) (FP.i2d (nI m))) := by
  have key : nn (FP.Core.div FP.Core.b64 (FP.i2d x).toNat (FP.i2d (nI m)).toNat) := by
    obtain ⟨t, d, r, e, hd⟩ := dec_y h0 hm
    have hx := dec_nn (i2d_nn x)
    unfold FP.Core.div FP.Core.quotient
    rw [e]
    cases hc : FP.Core.decode FP.Core.b64 (FP.i2d x).toNat with
    | nan => exact absurd hc hx
    | inf s => exact inf_nn _
    | fin s c q =>
      show nn (FP.Core.encode FP.Core.b64 (if d = 0 then _ else _))
      rw [if_neg hd]
      exact rr_nn _ _ _ _
  have e : (FP.ddiv (FP.i2d x) (FP.i2d (nI m))).toNat = FP.Core.div FP.Core.b64 (FP.i2d x).toNat (FP.i2d (nI m)).toNat % 18446744073709551616 := by
    unfold FP.ddiv FP.Core.ddiv
    exact UInt64.toNat_ofNat'
  unfold vf_n64
  rw [UInt64.le_iff_toNat_le, UInt64.toNat_and, e]
  unfold nn at key
  have e2 : (9223372036854775807 : UInt64).toNat = 2 ^ 63 - 1 := rfl
  rw [e2, Nat.and_two_pow_sub_one_eq_mod]
  show _ ≤ 9218868437227405312
  omega
noncomputable def mnD (F : xS) (nw : Nat) : UInt64 := if nw = 0 then FP.dconst0 else FP.ddiv (FP.i2d (bx_sum (fun w => F.2 2 (1 * 12 + w)) nw)) (FP.i2d (nI nw))
theorem mnD_c {F F' : xS} {nw nb : Nat} (he : eqF nw nb F F') : mnD F nw = mnD F' nw := by
  unfold mnD
  rw [he.sum (c := 1) (by decide)]
end XNA
