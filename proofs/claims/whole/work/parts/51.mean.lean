/-! ===== mean is a number ===== -/
def gd32 (d : FP.Core.Datum) : Prop := match d with
  | .nan => False
  | .inf _ => True
  | .fin _ c q => c < 16777216 ∧ -149 ≤ q ∧ q ≤ 104
def gd64 (d : FP.Core.Datum) : Prop := match d with
  | .nan => False
  | .inf _ => True
  | .fin _ c q => c < 9007199254740992 ∧ -1074 ≤ q ∧ q ≤ 971
theorem t32 : FP.Core.b32.tails = 8388608 ∧ FP.Core.b32.exps = 256 ∧ FP.Core.b32.qmin = -149 ∧ FP.Core.b32.qmax = 104 ∧ 2 ^ FP.Core.b32.p = 16777216 := by decide +kernel
theorem t64 : FP.Core.b64.tails = 4503599627370496 ∧ FP.Core.b64.exps = 2048 ∧ FP.Core.b64.qmin = -1074 ∧ FP.Core.b64.qmax = 971 ∧ 2 ^ FP.Core.b64.p = 9007199254740992 := by decide +kernel
theorem enc32 {d : FP.Core.Datum} (h : gd32 d) : FP.Core.encode FP.Core.b32 d < 4294967296 ∧ FP.Core.encode FP.Core.b32 d % 2147483648 ≤ 2139095040 := by
  obtain ⟨h1, h2, h3, -, -⟩ := t32
  cases d with
  | nan => exact absurd h id
  | inf s =>
    unfold FP.Core.encode FP.Core.assemble
    rw [h1, h2]
    cases s <;> decide
  | fin s c q =>
    obtain ⟨g1, g2, g3⟩ := h
    unfold FP.Core.encode FP.Core.assemble
    simp only [h1, h2, h3]
    split <;> cases s <;> simp only [Bool.toNat, cond_true, cond_false] <;> omega
theorem enc64 {d : FP.Core.Datum} (h : gd64 d) : FP.Core.encode FP.Core.b64 d < 18446744073709551616 ∧ FP.Core.encode FP.Core.b64 d % 9223372036854775808 ≤ 9218868437227405312 := by
  obtain ⟨h1, h2, h3, -, -⟩ := t64
  cases d with
  | nan => exact absurd h id
  | inf s =>
    unfold FP.Core.encode FP.Core.assemble
    rw [h1, h2]
    cases s <;> decide
  | fin s c q =>
    obtain ⟨g1, g2, g3⟩ := h
    unfold FP.Core.encode FP.Core.assemble
    simp only [h1, h2, h3]
    split <;> cases s <;> simp only [Bool.toNat, cond_true, cond_false] <;> omega
theorem rr32 (s : Bool) (num den : Nat) (e : Int) : gd32 (FP.Core.roundRatio FP.Core.b32 s num den e) := by
  obtain ⟨h1, -, h3, h4, h5⟩ := t32
  unfold FP.Core.roundRatio
  split
  · show 0 < 16777216 ∧ -149 ≤ FP.Core.b32.qmin ∧ FP.Core.b32.qmin ≤ 104
    rw [h3]
    decide
  · have hq : FP.Core.b32.qmin ≤ FP.Core.quantum FP.Core.b32 num den e := Int.le_max_left _ _
    unfold FP.Core.roundAt FP.Core.settle FP.Core.bound
    rw [h3] at hq
    rw [h1, h4, h5]
    split
    · next hc =>
      split
      · next hb => exact ⟨hc, hq, hb⟩
      · exact trivial
    · split
      · next hb => exact ⟨by decide, by omega, hb⟩
      · exact trivial
theorem rr64 (s : Bool) (num den : Nat) (e : Int) : gd64 (FP.Core.roundRatio FP.Core.b64 s num den e) := by
  obtain ⟨h1, -, h3, h4, h5⟩ := t64
  unfold FP.Core.roundRatio
  split
  · show 0 < 9007199254740992 ∧ -1074 ≤ FP.Core.b64.qmin ∧ FP.Core.b64.qmin ≤ 971
    rw [h3]
    decide
  · have hq : FP.Core.b64.qmin ≤ FP.Core.quantum FP.Core.b64 num den e := Int.le_max_left _ _
    unfold FP.Core.roundAt FP.Core.settle FP.Core.bound
    rw [h3] at hq
    rw [h1, h4, h5]
    split
    · next hc =>
      split
      · next hb => exact ⟨hc, hq, hb⟩
      · exact trivial
    · split
      · next hb => exact ⟨by decide, by omega, hb⟩
      · exact trivial
theorem dec32 {n : Nat} (hn : n % 2147483648 ≤ 2139095040) : FP.Core.decode FP.Core.b32 n ≠ .nan := by
  obtain ⟨h1, h2, -, -, -⟩ := t32
  unfold FP.Core.decode FP.Core.fieldE FP.Core.fieldT
  rw [h1, h2]
  split
  · split
    · exact fun h => by cases h
    · omega
  · split <;> exact fun h => by cases h
theorem dec64 {n : Nat} (hn : n % 9223372036854775808 ≤ 9218868437227405312) : FP.Core.decode FP.Core.b64 n ≠ .nan := by
  obtain ⟨h1, h2, -, -, -⟩ := t64
  unfold FP.Core.decode FP.Core.fieldE FP.Core.fieldT
  rw [h1, h2]
  split
  · split
    · exact fun h => by cases h
    · omega
  · split <;> exact fun h => by cases h
theorem i2f_num (x : Int32) : FP.Core.decode FP.Core.b32 (FP.i2f x).toNat ≠ .nan := by
  have h := enc32 (d := FP.Core.round FP.Core.b32 (FP.Core.ofInt x.toInt)) (rr32 _ _ _ _)
  have e : (FP.i2f x).toNat = FP.Core.encode FP.Core.b32 (FP.Core.round FP.Core.b32 (FP.Core.ofInt x.toInt)) := by
    show (UInt32.ofNat _).toNat = _
    rw [UInt32.toNat_ofNat']
    exact Nat.mod_eq_of_lt h.1
  rw [e]
  exact dec32 h.2
theorem i2f_n {n : Nat} (h1 : 1 ≤ n) (h2 : n ≤ 10) : ∃ t d r, FP.Core.decode FP.Core.b32 (FP.i2f (nI n)).toNat = .fin t d r ∧ d ≠ 0 := by
  rcases (show n = 1 ∨ n = 2 ∨ n = 3 ∨ n = 4 ∨ n = 5 ∨ n = 6 ∨ n = 7 ∨ n = 8 ∨ n = 9 ∨ n = 10 by omega) with rfl | rfl | rfl | rfl | rfl | rfl | rfl | rfl | rfl | rfl
  · exact ⟨false, 8388608, -23, by decide +kernel, by decide⟩
  · exact ⟨false, 8388608, -22, by decide +kernel, by decide⟩
  · exact ⟨false, 12582912, -22, by decide +kernel, by decide⟩
  · exact ⟨false, 8388608, -21, by decide +kernel, by decide⟩
  · exact ⟨false, 10485760, -21, by decide +kernel, by decide⟩
  · exact ⟨false, 12582912, -21, by decide +kernel, by decide⟩
  · exact ⟨false, 14680064, -21, by decide +kernel, by decide⟩
  · exact ⟨false, 8388608, -20, by decide +kernel, by decide⟩
  · exact ⟨false, 9437184, -20, by decide +kernel, by decide⟩
  · exact ⟨false, 10485760, -20, by decide +kernel, by decide⟩
theorem quo32 {x y : FP.Core.Datum} (hx : x ≠ .nan) (hy : ∃ t d r, y = .fin t d r ∧ d ≠ 0) : gd32 (FP.Core.quotient FP.Core.b32 x y) := by
  obtain ⟨t, d, r, rfl, hd⟩ := hy
  cases x with
  | nan => exact absurd rfl hx
  | inf s => exact trivial
  | fin s c q =>
    show gd32 (if d = 0 then _ else _)
    rw [if_neg hd]
    exact rr32 _ _ _ _
theorem fdiv_num (x : Int32) {n : Nat} (h1 : 1 ≤ n) (h2 : n ≤ 10) : (FP.fdiv (FP.i2f x) (FP.i2f (nI n))).toNat % 2147483648 ≤ 2139095040 := by
  have h := enc32 (quo32 (i2f_num x) (i2f_n h1 h2))
  have e : (FP.fdiv (FP.i2f x) (FP.i2f (nI n))).toNat = FP.Core.encode FP.Core.b32 (FP.Core.quotient FP.Core.b32 (FP.Core.decode FP.Core.b32 (FP.i2f x).toNat) (FP.Core.decode FP.Core.b32 (FP.i2f (nI n)).toNat)) := by
    show (UInt32.ofNat _).toNat = _
    rw [UInt32.toNat_ofNat']
    exact Nat.mod_eq_of_lt h.1
  rw [e]
  exact h.2
theorem vfn32 {r : UInt32} (h : r.toNat % 2147483648 ≤ 2139095040) : vf_n32 r := by
  unfold vf_n32
  rw [UInt32.le_iff_toNat_le, UInt32.toNat_and]
  have e : (0x7fffffff : UInt32).toNat = 2 ^ 31 - 1 := by decide
  rw [e, Nat.and_two_pow_sub_one_eq_mod]
  exact h
theorem vfn64 {r : UInt64} (h : r.toNat % 9223372036854775808 ≤ 9218868437227405312) : vf_n64 r := by
  unfold vf_n64
  rw [UInt64.le_iff_toNat_le, UInt64.toNat_and]
  have e : (0x7fffffffffffffff : UInt64).toNat = 2 ^ 63 - 1 := by decide
  rw [e, Nat.and_two_pow_sub_one_eq_mod]
  exact h
theorem f2d_num {r : UInt32} (h : r.toNat % 2147483648 ≤ 2139095040) : (FP.f2d r).toNat % 9223372036854775808 ≤ 9218868437227405312 := by
  have hd := dec32 h
  have hg : gd64 (FP.Core.round FP.Core.b64 (FP.Core.decode FP.Core.b32 r.toNat)) := by
    cases hc : FP.Core.decode FP.Core.b32 r.toNat with
    | nan => exact absurd hc hd
    | inf s => exact trivial
    | fin s c q => exact rr64 _ _ _ _
  have h2 := enc64 hg
  have e : (FP.f2d r).toNat = FP.Core.encode FP.Core.b64 (FP.Core.round FP.Core.b64 (FP.Core.decode FP.Core.b32 r.toNat)) := by
    unfold FP.f2d
    have hn : FP.Core.fIsNaN r = false := decide_eq_false hd
    rw [hn]
    show (UInt64.ofNat _).toNat = _
    rw [UInt64.toNat_ofNat']
    exact Nat.mod_eq_of_lt h2.1
  rw [e]
  exact h2.2
theorem cmpI (z : Int) : compare z z = .eq := by simp [compare, compareOfLessAndEq]
theorem dcmp_eq {r : UInt64} (h : r.toNat % 9223372036854775808 ≤ 9218868437227405312) : FP.dcmp r r = some .eq := by
  have hd := dec64 h
  show FP.Core.order (FP.Core.decode FP.Core.b64 r.toNat) (FP.Core.decode FP.Core.b64 r.toNat) = _
  cases hc : FP.Core.decode FP.Core.b64 r.toNat with
  | nan => exact absurd hc hd
  | inf s => exact congrArg some (cmpI _)
  | fin s c q => exact congrArg some (cmpI _)
theorem mean_num {N : Mem} {R : OV} (h : RI N R) : (fMean N).toNat % 2147483648 ≤ 2139095040 := by
  have hz : ok10 (N.1 1 0) := h.1.2.1 0 (by decide)
  have h1 : 1 ≤ szN (N.1 1 0) := h.2.1.1.1.2.1
  unfold fMean
  rw [hz.1]
  exact fdiv_num _ h1 hz.2
