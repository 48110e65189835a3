/-! ===== bits ===== -/
theorem oi_nI {x : Int} (h : 0 ≤ x) : Int32.ofInt x = nI x.toNat := by
  show Int32.ofInt x = Int32.ofNat x.toNat
  rw [← Int32.ofInt_eq_ofNat, oi_nat h]
theorem toInt_nat {z : Int32} {n : Nat} (h : z.toBitVec.toNat = n) (hn : n < 2147483648) : z.toInt = n := by
  show z.toBitVec.toInt = n
  rw [BitVec.toInt_eq_toNat_of_lt (by omega), h]
theorem cast_lt31 {n : Nat} (h : n < 2147483648) : (n : Int) < 2147483648 := by omega
theorem bAnd_nat {x y : Int} (hx : 0 ≤ x) (hx2 : x < 2147483648) (hy : 0 ≤ y) (hy2 : y < 2147483648) : bAnd x y = ((x.toNat &&& y.toNat : Nat) : Int) := by
  unfold bAnd
  rw [oi_nI hx, oi_nI hy]
  have hle : x.toNat &&& y.toNat ≤ x.toNat := Nat.and_le_left
  refine toInt_nat ?_ (by omega)
  rw [Int32.toBitVec_and, BitVec.toNat_and, pk_tn (by omega), pk_tn (by omega)]
theorem or_lt31 {a b : Nat} (ha : a < 2147483648) (hb : b < 2147483648) : a ||| b < 2147483648 := Nat.or_lt_two_pow (n := 31) ha hb
theorem bOr_nat {x y : Int} (hx : 0 ≤ x) (hx2 : x < 2147483648) (hy : 0 ≤ y) (hy2 : y < 2147483648) : bOr x y = ((x.toNat ||| y.toNat : Nat) : Int) := by
  unfold bOr
  rw [oi_nI hx, oi_nI hy]
  refine toInt_nat ?_ (or_lt31 (by omega) (by omega))
  rw [Int32.toBitVec_or, BitVec.toNat_or, pk_tn (by omega), pk_tn (by omega)]
theorem bShl_key : ∀ n : Nat, n < 31 → bShl 1 (n : Int) = ((2 ^ n : Nat) : Int) := by decide +kernel
theorem bShl_nat {k : Int} (h0 : 0 ≤ k) (h1 : k < 31) : bShl 1 k = ((2 ^ k.toNat : Nat) : Int) := by
  have := bShl_key k.toNat (by omega)
  rw [oi_nat h0] at this
  exact this
theorem bShr_key : ∀ n : Nat, n < 31 → ((Int32.ofInt (n : Int) &&& 31).toBitVec.smod 32).toNat = n := by decide +kernel
theorem bShr_nat {x k : Int} (hx : 0 ≤ x) (hx2 : x < 2147483648) (h0 : 0 ≤ k) (h1 : k < 31) : bShr x k = ((x.toNat / 2 ^ k.toNat : Nat) : Int) := by
  unfold bShr
  have hk := bShr_key k.toNat (by omega)
  rw [oi_nat h0] at hk
  rw [oi_nI hx, pk_shrN (by omega) _ k.toNat hk]
  have hle : x.toNat / 2 ^ k.toNat ≤ x.toNat := Nat.div_le_self _ _
  exact nI_toInt (by omega)
theorem pow_lt31 {k : Int} (h0 : 0 ≤ k) (h1 : k < 31) : 2 ^ k.toNat < 2147483648 := by
  have : 2 ^ k.toNat < 2 ^ 31 := Nat.pow_lt_pow_right (by decide) (by omega)
  exact this
/-- a bit of a number -/
def bit (x k : Int) : Bool := x.toNat.testBit k.toNat
theorem and_bit {x k : Int} (hx : 0 ≤ x) (hx2 : x < 2147483648) (h0 : 0 ≤ k) (h1 : k < 31) : bAnd x (bShl 1 k) = 0 ↔ bit x k = false := by
  have hp := pow_lt31 h0 h1
  rw [bShl_nat h0 h1, bAnd_nat hx hx2 (Int.natCast_nonneg _) (cast_lt31 hp)]
  unfold bit
  rw [Int.toNat_natCast]
  constructor
  · intro h
    have h' : x.toNat &&& 2 ^ k.toNat = 0 := by exact_mod_cast h
    have := Nat.testBit_and x.toNat (2 ^ k.toNat) k.toNat
    rw [h', Nat.testBit_two_pow_self, Nat.zero_testBit, Bool.and_true] at this
    exact this.symm
  · intro h
    have : x.toNat &&& 2 ^ k.toNat = 0 := by
      apply Nat.eq_of_testBit_eq
      intro i
      rw [Nat.testBit_and, Nat.testBit_two_pow, Nat.zero_testBit]
      by_cases e : k.toNat = i
      · rw [← e, h, Bool.false_and]
      · simp [e]
    rw [this]
    rfl
theorem bit_or {x k a : Int} (hx : 0 ≤ x) (hx2 : x < 2147483648) (h0 : 0 ≤ a) (h1 : a < 31) (hk : 0 ≤ k) : bit (bOr x (bShl 1 a)) k = (bit x k || decide (k = a)) := by
  have hp := pow_lt31 h0 h1
  rw [bShl_nat h0 h1, bOr_nat hx hx2 (Int.natCast_nonneg _) (cast_lt31 hp)]
  unfold bit
  rw [Int.toNat_natCast, Int.toNat_natCast, Nat.testBit_or, Nat.testBit_two_pow]
  congr 1
  by_cases e : k = a
  · subst e
    simp
  · have : ¬ a.toNat = k.toNat := by omega
    simp [e, this]
theorem bOr_rng {x y : Int} (hx : 0 ≤ x) (hx2 : x < 2147483648) (hy : 0 ≤ y) (hy2 : y < 2147483648) : 0 ≤ bOr x y ∧ bOr x y < 2147483648 := by
  rw [bOr_nat hx hx2 hy hy2]
  have := or_lt31 (a := x.toNat) (b := y.toNat) (by omega) (by omega)
  omega
theorem bShl_rng {k : Int} (h0 : 0 ≤ k) (h1 : k < 31) : 0 < bShl 1 k ∧ bShl 1 k < 2147483648 := by
  have hp := pow_lt31 h0 h1
  have hpos : 0 < 2 ^ k.toNat := Nat.two_pow_pos _
  rw [bShl_nat h0 h1]
  omega
theorem shr_bit {x k : Int} (hx : 0 ≤ x) (hx2 : x < 2147483648) (h0 : 0 ≤ k) (h1 : k < 31) : bAnd (bShr x k) 1 = if bit x k then 1 else 0 := by
  have hle : x.toNat / 2 ^ k.toNat ≤ x.toNat := Nat.div_le_self _ _
  rw [bShr_nat hx hx2 h0 h1, bAnd_nat (Int.natCast_nonneg _) (cast_lt31 (by omega)) (by decide) (by decide)]
  unfold bit
  rw [Int.toNat_natCast]
  show ((x.toNat / 2 ^ k.toNat &&& 1 : Nat) : Int) = _
  rw [Nat.and_one_is_mod, Nat.testBit_eq_decide_div_mod_eq]
  have : x.toNat / 2 ^ k.toNat % 2 = 0 ∨ x.toNat / 2 ^ k.toNat % 2 = 1 := by omega
  rcases this with h | h <;> simp [h]
theorem bit_0 (k : Int) : bit 0 k = false := by simp [bit]
