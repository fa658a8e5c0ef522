/-! A SHARE IS A NUMBER: a quotient of ints, the second not 0, is no NaN -/
abbrev nF64 : FP.Core.Fmt := FP.Core.b64
theorem nk_p : 2 ^ nF64.p = 9007199254740992 := by decide
theorem nk_t : nF64.tails = 4503599627370496 := by decide
theorem nk_e : nF64.exps = 2048 := by decide
theorem nk_m : nF64.qmax = 971 := by decide
theorem nk_n : nF64.qmin = -1074 := by decide
theorem nn_settle (s : Bool) (c : Nat) (q : Int) : FP.Core.settle nF64 s c q = .inf s ∨ ∃ c' q', FP.Core.settle nF64 s c q = .fin s c' q' ∧ c' < 9007199254740992 ∧ q' ≤ 971 := by
  unfold FP.Core.settle FP.Core.bound
  rw [nk_p, nk_m, nk_t]
  split
  · next h =>
    split
    · next h2 => exact Or.inr ⟨_, _, rfl, h, h2⟩
    · exact Or.inl rfl
  · split
    · next h2 => exact Or.inr ⟨_, _, rfl, by decide, h2⟩
    · exact Or.inl rfl
theorem nn_ratio (s : Bool) (A B : Nat) (e : Int) : FP.Core.roundRatio nF64 s A B e = .inf s ∨ ∃ c' q', FP.Core.roundRatio nF64 s A B e = .fin s c' q' ∧ c' < 9007199254740992 ∧ q' ≤ 971 := by
  unfold FP.Core.roundRatio
  split
  · exact Or.inr ⟨0, _, rfl, by decide, by rw [nk_n]; decide⟩
  · exact nn_settle _ _ _
theorem nn_enc {D : FP.Core.Datum} {s : Bool} (h : D = .inf s ∨ ∃ c q, D = .fin s c q ∧ c < 9007199254740992 ∧ q ≤ 971) : FP.Core.encode nF64 D % 9223372036854775808 ≤ 9218868437227405312 ∧ FP.Core.encode nF64 D < 18446744073709551616 := by
  have hs : s.toNat ≤ 1 := by cases s <;> decide
  rcases h with rfl | ⟨c, q, rfl, hc, hq⟩
  · unfold FP.Core.encode FP.Core.assemble
    dsimp only
    rw [nk_t, nk_e]
    omega
  · unfold FP.Core.encode FP.Core.assemble
    dsimp only
    rw [nk_t, nk_e, nk_n]
    split <;> omega
theorem nn_bits {N : Nat} (h : N % 9223372036854775808 ≤ 9218868437227405312 ∧ N < 18446744073709551616) : vf_n64 (UInt64.ofNat N) := by
  unfold vf_n64
  rw [UInt64.le_iff_toNat_le, UInt64.toNat_and]
  have e : (0x7fffffffffffffff : UInt64).toNat = 2 ^ 63 - 1 := by decide
  have e2 : (0x7ff0000000000000 : UInt64).toNat = 9218868437227405312 := by decide
  have e3 : (UInt64.ofNat N).toNat = N := UInt64.toNat_ofNat_of_lt' (by simpa using h.2)
  rw [e, e2, e3, Nat.and_two_pow_sub_one_eq_mod]
  exact h.1
/-- the bits of an int as a number -/
theorem nn_dec (s : Bool) {E T : Nat} (hE0 : 0 < E) (hE : E < 2047) (hT : T < 4503599627370496) : ∃ q, FP.Core.decode nF64 ((s.toNat * 2048 + E) * 4503599627370496 + T) = .fin s (4503599627370496 + T) q := by
  have hs : s.toNat ≤ 1 := by cases s <;> decide
  have f1 : FP.Core.fieldE nF64 ((s.toNat * 2048 + E) * 4503599627370496 + T) = E := by
    unfold FP.Core.fieldE
    rw [nk_t, nk_e]
    omega
  have f2 : FP.Core.fieldT nF64 ((s.toNat * 2048 + E) * 4503599627370496 + T) = T := by
    unfold FP.Core.fieldT
    rw [nk_t]
    omega
  have f3 : FP.Core.fieldS nF64 ((s.toNat * 2048 + E) * 4503599627370496 + T) = s := by
    unfold FP.Core.fieldS
    rw [nk_t, nk_e]
    have : ((s.toNat * 2048 + E) * 4503599627370496 + T) / 4503599627370496 / 2048 % 2 = s.toNat := by omega
    rw [this]
    cases s <;> rfl
  unfold FP.Core.decode
  rw [f1, f2, f3, nk_e, nk_t, if_neg (by omega), if_neg (by omega)]
  exact ⟨_, rfl⟩
theorem nn_int {n : Nat} (h0 : 0 < n) (hn : n < 4294967296) (s : Bool) : ∃ c q, FP.Core.roundRatio nF64 s n 1 0 = .fin s c q ∧ 4503599627370496 ≤ c ∧ c < 9007199254740992 ∧ -52 ≤ q ∧ q ≤ 0 := by
  have h1 : 2 ^ n.log2 ≤ n := Nat.log2_self_le (by omega)
  have h2 : n < 2 ^ (n.log2 + 1) := Nat.lt_log2_self
  have hk : n.log2 ≤ 31 := by
    have : n.log2 < 32 := (Nat.log2_lt (by omega)).mpr hn
    omega
  obtain ⟨k, hke⟩ : ∃ k, k = n.log2 := ⟨_, rfl⟩
  rw [← hke] at h1 h2 hk
  have hl : FP.Core.leading n 1 = (k : Int) := by
    unfold FP.Core.leading
    rw [← hke]
    have e0 : Nat.log2 1 = 0 := by decide
    rw [e0]
    have e1 : ((k : Int) - ((0 : Nat) : Int)).toNat = k := by omega
    have e2 : (-((k : Int) - ((0 : Nat) : Int))).toNat = 0 := by omega
    dsimp only
    rw [e1, e2, Nat.one_mul, Nat.pow_zero, Nat.mul_one, if_pos h1]
    omega
  have hq : FP.Core.quantum nF64 n 1 0 = (k : Int) - 52 := by
    unfold FP.Core.quantum
    rw [hl, nk_n]
    have : ((nF64.p : Int) - 1) = 52 := by decide
    rw [this]
    omega
  unfold FP.Core.roundRatio FP.Core.roundAt
  rw [if_neg (by omega), hq]
  have u1 : FP.Core.unitsNum n 0 ((k : Int) - 52) = n * 2 ^ (52 - k) := by
    unfold FP.Core.unitsNum
    congr 2
    omega
  have u2 : FP.Core.unitsDen 1 0 ((k : Int) - 52) = 1 := by
    unfold FP.Core.unitsDen
    have : ((k : Int) - 52 - 0).toNat = 0 := by omega
    rw [this]
  have u3 : FP.Core.nearest (n * 2 ^ (52 - k)) 1 = n * 2 ^ (52 - k) := by
    unfold FP.Core.nearest
    rw [Nat.mod_one, if_pos (by decide), Nat.div_one]
  rw [u1, u2, u3]
  have hlo : 4503599627370496 ≤ n * 2 ^ (52 - k) := by
    have : 2 ^ k * 2 ^ (52 - k) = 4503599627370496 := by rw [← Nat.pow_add, show k + (52 - k) = 52 by omega]
    rw [← this]
    exact Nat.mul_le_mul_right _ h1
  have hhi : n * 2 ^ (52 - k) < 9007199254740992 := by
    have : 2 ^ (k + 1) * 2 ^ (52 - k) = 9007199254740992 := by rw [← Nat.pow_add, show k + 1 + (52 - k) = 53 by omega]
    rw [← this]
    exact Nat.mul_lt_mul_of_pos_right h2 (Nat.two_pow_pos _)
  unfold FP.Core.settle FP.Core.bound
  rw [nk_p, if_pos hhi, nk_m, if_pos (by omega)]
  exact ⟨_, _, rfl, hlo, hhi, by omega, by omega⟩
theorem nn_i2d (a : Int32) : ∃ s c q, FP.Core.decode nF64 (FP.i2d a).toNat = .fin s c q ∧ (a ≠ 0 → c ≠ 0) := by
  by_cases h : a = 0
  · subst h
    exact ⟨false, 0, nF64.qmin, by decide +kernel, fun h => absurd rfl h⟩
  · have hr := a.toInt_lt
    have hr2 := a.le_toInt
    have hne : a.toInt ≠ 0 := fun e => h (Int32.toInt_inj.mp (e.trans (by decide)))
    obtain ⟨c, q, e, h1, h2, h3, h4⟩ := nn_int (n := a.toInt.natAbs) (by omega) (by omega) (decide (a.toInt < 0))
    have e2 : FP.i2d a = UInt64.ofNat (FP.Core.encode nF64 (FP.Core.roundRatio nF64 (decide (a.toInt < 0)) a.toInt.natAbs 1 0)) := rfl
    rw [e2, e]
    unfold FP.Core.encode FP.Core.assemble
    dsimp only
    rw [nk_t, if_neg (by omega), nk_e, nk_n]
    have hs : (decide (a.toInt < 0)).toNat ≤ 1 := by cases decide (a.toInt < 0) <;> decide
    rw [UInt64.toNat_ofNat_of_lt' (by simp only [UInt64.size]; omega)]
    obtain ⟨q', e3⟩ := nn_dec (decide (a.toInt < 0)) (E := (q - -1074).toNat + 1) (T := c - 4503599627370496) (by omega) (by omega) (by omega)
    exact ⟨_, _, q', e3, fun _ => by omega⟩
theorem nn_div (a b : Int32) (h : ¬ b = 0) : vf_n64 (FP.ddiv (FP.i2d a) (FP.i2d b)) := by
  obtain ⟨s, c, q, e1, -⟩ := nn_i2d a
  obtain ⟨t, d, r, e2, hd⟩ := nn_i2d b
  show vf_n64 (UInt64.ofNat (FP.Core.encode nF64 (FP.Core.quotient nF64 (FP.Core.decode nF64 (FP.i2d a).toNat) (FP.Core.decode nF64 (FP.i2d b).toNat))))
  rw [e1, e2]
  unfold FP.Core.quotient
  dsimp only
  rw [if_neg (hd h)]
  exact nn_bits (nn_enc (nn_ratio _ _ _ _))
