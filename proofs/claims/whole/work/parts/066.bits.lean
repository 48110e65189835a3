/-! ===== bits ===== -/
theorem oi_nI {x : Int} (h : 0 ≤ x) : Int32.ofInt x = nI x.toNat := by
  show Int32.ofInt x = Int32.ofNat x.toNat
  rw [← Int32.ofInt_eq_ofNat, oi_nat h]
theorem toInt_nat {z : Int32} {n : Nat} (h : z.toBitVec.toNat = n) (hn : n < 2147483648) : z.toInt = n := by
  show z.toBitVec.toInt = n
  rw [BitVec.toInt_eq_toNat_of_lt (by omega), h]
theorem cast_lt31 {n : Nat} (h : n < 2147483648) : (n : Int) < 2147483648 := by omega
theorem bAnd_nat {x y : Int} (hx : 0 ≤ x) (hx2 : x < 2147483648) (hy : 0 ≤ y) (hy2 : y < 2147483648) : bAnd x y = ((x.toNat &&& y.toNat : Nat) : Int) := by
  unfold bAnd
  rw [oi_nI hx, oi_nI hy]
  have hle : x.toNat &&& y.toNat ≤ x.toNat := Nat.and_le_left
  refine toInt_nat ?_ (by omega)
  rw [Int32.toBitVec_and, BitVec.toNat_and, pk_tn (by omega), pk_tn (by omega)]
theorem or_lt31 {a b : Nat} (ha : a < 2147483648) (hb : b < 2147483648) : a ||| b < 2147483648 := Nat.or_lt_two_pow (n := 31) ha hb
theorem bOr_nat {x y : Int} (hx : 0 ≤ x) (hx2 : x < 2147483648) (hy : 0 ≤ y) (hy2 : y < 2147483648) : bOr x y = ((x.toNat ||| y.toNat : Nat) : Int) := by
  unfold bOr
  rw [oi_nI hx, oi_nI hy]
  refine toInt_nat ?_ (or_lt31 (by omega) (by omega))
  rw [Int32.toBitVec_or, BitVec.toNat_or, pk_tn (by omega), pk_tn (by omega)]
theorem bShl_key : ∀ n : Nat, n < 31 → bShl 1 (n : Int) = ((2 ^ n : Nat) : Int) := by decide +kernel
theorem bShl_nat {k : Int} (h0 : 0 ≤ k) (h1 : k < 31) : bShl 1 k = ((2 ^ k.toNat : Nat) : Int) := by
  have := bShl_key k.toNat (by omega)
  rw [oi_nat h0] at this
  exact this
theorem bShr_key : ∀ n : Nat, n < 31 → ((Int32.ofInt (n : Int) &&& 31).toBitVec.smod 32).toNat = n := by decide +kernel
theorem bShr_nat {x k : Int} (hx : 0 ≤ x) (hx2 : x < 2147483648) (h0 : 0 ≤ k) (h1 : k < 31) : bShr x k = ((x.toNat / 2 ^ k.toNat : Nat) : Int) := by
  unfold bShr
  have hk := bShr_key k.toNat (by omega)
  rw [oi_nat h0] at hk
  rw [oi_nI hx, pk_shrN (by omega) _ k.toNat hk]
  have hle : x.toNat / 2 ^ k.toNat ≤ x.toNat := Nat.div_le_self _ _
  exact nI_toInt (by omega)
theorem pow_lt31 {k : Int} (h0 : 0 ≤ k) (h1 : k < 31) : 2 ^ k.toNat < 2147483648 := by
  have : 2 ^ k.toNat < 2 ^ 31 := Nat.pow_lt_pow_right (by decide) (by omega)
  exact this
/-- a bit of a number -/
def bit (x k : Int) : Bool := x.toNat.testBit k.toNat
theorem and_bit {x k : Int} (hx : 0 ≤ x) (hx2 : x < 2147483648) (h0 : 0 ≤ k) (h1 : k < 31) : bAnd x (bShl 1 k) = 0 ↔ bit x k = false := by
  have hp := pow_lt31 h0 h1
  rw [bShl_nat h0 h1, bAnd_nat hx hx2 (Int.natCast_nonneg _) (cast_lt31 hp)]
  unfold bit
  rw [Int.toNat_natCast]
  constructor
  · intro h
    have h' : x.toNat &&& 2 ^ k.toNat = 0 := by exact_mod_cast h
    have := Nat.testBit_and x.toNat (2 ^ k.toNat) k.toNat
    rw [h', Nat.testBit_two_pow_self, Nat.zero_testBit, Bool.and_true] at this
    exact this.symm
  · intro h
    have : x.toNat &&& 2 ^ k.toNat = 0 := by
      apply Nat.eq_of_testBit_eq
      intro i
      rw [Nat.testBit_and, Nat.testBit_two_pow, Nat.zero_testBit]
      by_cases e : k.toNat = i
      · rw [← e, h, Bool.false_and]
      · simp [e]
    rw [this]
    rfl
theorem bit_or {x k a : Int} (hx : 0 ≤ x) (hx2 : x < 2147483648) (h0 : 0 ≤ a) (h1 : a < 31) (hk : 0 ≤ k) : bit (bOr x (bShl 1 a)) k = (bit x k || decide (k = a)) := by
  have hp := pow_lt31 h0 h1
  rw [bShl_nat h0 h1, bOr_nat hx hx2 (Int.natCast_nonneg _) (cast_lt31 hp)]
  unfold bit
  rw [Int.toNat_natCast, Int.toNat_natCast, Nat.testBit_or, Nat.testBit_two_pow]
  congr 1
  by_cases e : k = a
  · subst e
    simp
  · have : ¬ a.toNat = k.toNat := by omega
    simp [e, this]
theorem bOr_rng {x y : Int} (hx : 0 ≤ x) (hx2 : x < 2147483648) (hy : 0 ≤ y) (hy2 : y < 2147483648) : 0 ≤ bOr x y ∧ bOr x y < 2147483648 := by
  rw [bOr_nat hx hx2 hy hy2]
  have := or_lt31 (a := x.toNat) (b := y.toNat) (by omega) (by omega)
  omega
theorem bShl_rng {k : Int} (h0 : 0 ≤ k) (h1 : k < 31) : 0 < bShl 1 k ∧ bShl 1 k < 2147483648 := by
  have hp := pow_lt31 h0 h1
  have hpos : 0 < 2 ^ k.toNat := Nat.two_pow_pos _
  rw [bShl_nat h0 h1]
  omega
theorem shr_bit {x k : Int} (hx : 0 ≤ x) (hx2 : x < 2147483648) (h0 : 0 ≤ k) (h1 : k < 31) : bAnd (bShr x k) 1 = if bit x k then 1 else 0 := by
  have hle : x.toNat / 2 ^ k.toNat ≤ x.toNat := Nat.div_le_self _ _
  rw [bShr_nat hx hx2 h0 h1, bAnd_nat (Int.natCast_nonneg _) (cast_lt31 (by omega)) (by decide) (by decide)]
  unfold bit
  rw [Int.toNat_natCast]
  show ((x.toNat / 2 ^ k.toNat &&& 1 : Nat) : Int) = _
  rw [Nat.and_one_is_mod, Nat.testBit_eq_decide_div_mod_eq]
  have : x.toNat / 2 ^ k.toNat % 2 = 0 ∨ x.toNat / 2 ^ k.toNat % 2 = 1 := by omega
  rcases this with h | h <;> simp [h]
theorem bit_0 (k : Int) : bit 0 k = false := by simp [bit]
def bUshr (x y : Int) : Int := ((Int32.ofInt x).toUInt32 >>> ((Int32.ofInt y).toUInt32 &&& Int32.toUInt32 31)).toInt32.toInt
theorem v_iushr {κ : Kx} {own : String} {cc : ByteArray} {nL : Nat} {ret : Option FieldType} {rm : Room} {dom : Nat → Bool} {M : Mem} {pc : Nat} {lv : List (Option PV)} {st : List PV} {K : Kont} (C : Cx κ own cc nL ret rm dom) {x y : Int} (hd : decode cc pc = .ok (.iushr, 1)) (k : V κ nL M (pc + 1) lv (.inl (bUshr x y) :: st) K) : V κ nL M pc lv (.inl y :: .inl x :: st) K := by
  refine ⟨?_, trivial⟩
  intro oM oL oS H locs ls hH hS hl
  have h := k.1 oM oL ⟨toInt_inR _, oS.2.2⟩ H locs ls hH hS hl
  refine lv_iushr C.1 C.2.1 hd (v := Int32.ofInt (bUshr x y)) ?_ h
  unfold bUshr
  rw [Int32.ofInt_toInt]
theorem v_ldcw {κ : Kx} {own : String} {cc : ByteArray} {nL : Nat} {ret : Option FieldType} {rm : Room} {dom : Nat → Bool} {M : Mem} {pc : Nat} {lv : List (Option PV)} {st : List PV} {K : Kont} (C : Cx κ own cc nL ret rm dom) {idx : Nat} {n : Int} (hd : decode cc pc = .ok (.ldc_w idx, 3)) (hc : Cond.constant own idx (Int32.ofInt n) ∈ tb) (ho : inR n) (k : V κ nL M (pc + 3) lv (.inl n :: st) K) : V κ nL M pc lv st K := by
  refine ⟨?_, trivial⟩
  intro oM oL oS H locs ls hH hS hl
  exact lv_ldcw C.1 C.2.1 C.2.2.2.1 (C.2.2.2.2.1 _ hc) hd (k.1 oM oL ⟨ho, oS⟩ H locs ls hH hS hl)
/-! ===== java/lang/Integer.bitCount ===== -/
abbrev rmJ6_bitCount_0f7a4 : Room := { frames := 0, cells := 0, slots := 0, locals := 0 }
abbrev argJ6_bitCount_0f7a4 (a : Int) : List PV := [.inl a]
abbrev CtJ6_bitCount_0f7a4 (sp : Int → Mem → Kont → Prop) : Prop := Ct yJ6_bitCount_0f7a4 cJ6_bitCount_0f7a4 1 (some .int) rmJ6_bitCount_0f7a4 domC argJ6_bitCount_0f7a4 (fun a => sp a)
theorem dJ6_bitCount_0f7a4_0 : decode cJ6_bitCount_0f7a4 0 = .ok (.iload_n 0, 1) := by decide +kernel
theorem dJ6_bitCount_0f7a4_1 : decode cJ6_bitCount_0f7a4 1 = .ok (.iload_n 0, 1) := by decide +kernel
theorem dJ6_bitCount_0f7a4_2 : decode cJ6_bitCount_0f7a4 2 = .ok (.iconst 1, 1) := by decide +kernel
theorem dJ6_bitCount_0f7a4_3 : decode cJ6_bitCount_0f7a4 3 = .ok (.iushr, 1) := by decide +kernel
theorem dJ6_bitCount_0f7a4_4 : decode cJ6_bitCount_0f7a4 4 = .ok (.ldc_w 265, 3) := by decide +kernel
theorem dJ6_bitCount_0f7a4_7 : decode cJ6_bitCount_0f7a4 7 = .ok (.iand, 1) := by decide +kernel
theorem dJ6_bitCount_0f7a4_8 : decode cJ6_bitCount_0f7a4 8 = .ok (.isub, 1) := by decide +kernel
theorem dJ6_bitCount_0f7a4_9 : decode cJ6_bitCount_0f7a4 9 = .ok (.istore_n 0, 1) := by decide +kernel
theorem dJ6_bitCount_0f7a4_10 : decode cJ6_bitCount_0f7a4 10 = .ok (.iload_n 0, 1) := by decide +kernel
theorem dJ6_bitCount_0f7a4_11 : decode cJ6_bitCount_0f7a4 11 = .ok (.ldc_w 266, 3) := by decide +kernel
theorem dJ6_bitCount_0f7a4_14 : decode cJ6_bitCount_0f7a4 14 = .ok (.iand, 1) := by decide +kernel
theorem dJ6_bitCount_0f7a4_15 : decode cJ6_bitCount_0f7a4 15 = .ok (.iload_n 0, 1) := by decide +kernel
theorem dJ6_bitCount_0f7a4_16 : decode cJ6_bitCount_0f7a4 16 = .ok (.iconst 2, 1) := by decide +kernel
theorem dJ6_bitCount_0f7a4_17 : decode cJ6_bitCount_0f7a4 17 = .ok (.iushr, 1) := by decide +kernel
theorem dJ6_bitCount_0f7a4_18 : decode cJ6_bitCount_0f7a4 18 = .ok (.ldc_w 266, 3) := by decide +kernel
theorem dJ6_bitCount_0f7a4_21 : decode cJ6_bitCount_0f7a4 21 = .ok (.iand, 1) := by decide +kernel
theorem dJ6_bitCount_0f7a4_22 : decode cJ6_bitCount_0f7a4 22 = .ok (.iadd, 1) := by decide +kernel
theorem dJ6_bitCount_0f7a4_23 : decode cJ6_bitCount_0f7a4 23 = .ok (.istore_n 0, 1) := by decide +kernel
theorem dJ6_bitCount_0f7a4_24 : decode cJ6_bitCount_0f7a4 24 = .ok (.iload_n 0, 1) := by decide +kernel
theorem dJ6_bitCount_0f7a4_25 : decode cJ6_bitCount_0f7a4 25 = .ok (.iload_n 0, 1) := by decide +kernel
theorem dJ6_bitCount_0f7a4_26 : decode cJ6_bitCount_0f7a4 26 = .ok (.iconst 4, 1) := by decide +kernel
theorem dJ6_bitCount_0f7a4_27 : decode cJ6_bitCount_0f7a4 27 = .ok (.iushr, 1) := by decide +kernel
theorem dJ6_bitCount_0f7a4_28 : decode cJ6_bitCount_0f7a4 28 = .ok (.iadd, 1) := by decide +kernel
theorem dJ6_bitCount_0f7a4_29 : decode cJ6_bitCount_0f7a4 29 = .ok (.ldc_w 267, 3) := by decide +kernel
theorem dJ6_bitCount_0f7a4_32 : decode cJ6_bitCount_0f7a4 32 = .ok (.iand, 1) := by decide +kernel
theorem dJ6_bitCount_0f7a4_33 : decode cJ6_bitCount_0f7a4 33 = .ok (.istore_n 0, 1) := by decide +kernel
theorem dJ6_bitCount_0f7a4_34 : decode cJ6_bitCount_0f7a4 34 = .ok (.iload_n 0, 1) := by decide +kernel
theorem dJ6_bitCount_0f7a4_35 : decode cJ6_bitCount_0f7a4 35 = .ok (.iload_n 0, 1) := by decide +kernel
theorem dJ6_bitCount_0f7a4_36 : decode cJ6_bitCount_0f7a4 36 = .ok (.bipush 8, 2) := by decide +kernel
theorem dJ6_bitCount_0f7a4_38 : decode cJ6_bitCount_0f7a4 38 = .ok (.iushr, 1) := by decide +kernel
theorem dJ6_bitCount_0f7a4_39 : decode cJ6_bitCount_0f7a4 39 = .ok (.iadd, 1) := by decide +kernel
theorem dJ6_bitCount_0f7a4_40 : decode cJ6_bitCount_0f7a4 40 = .ok (.istore_n 0, 1) := by decide +kernel
theorem dJ6_bitCount_0f7a4_41 : decode cJ6_bitCount_0f7a4 41 = .ok (.iload_n 0, 1) := by decide +kernel
theorem dJ6_bitCount_0f7a4_42 : decode cJ6_bitCount_0f7a4 42 = .ok (.iload_n 0, 1) := by decide +kernel
theorem dJ6_bitCount_0f7a4_43 : decode cJ6_bitCount_0f7a4 43 = .ok (.bipush 16, 2) := by decide +kernel
theorem dJ6_bitCount_0f7a4_45 : decode cJ6_bitCount_0f7a4 45 = .ok (.iushr, 1) := by decide +kernel
theorem dJ6_bitCount_0f7a4_46 : decode cJ6_bitCount_0f7a4 46 = .ok (.iadd, 1) := by decide +kernel
theorem dJ6_bitCount_0f7a4_47 : decode cJ6_bitCount_0f7a4 47 = .ok (.istore_n 0, 1) := by decide +kernel
theorem dJ6_bitCount_0f7a4_48 : decode cJ6_bitCount_0f7a4 48 = .ok (.iload_n 0, 1) := by decide +kernel
theorem dJ6_bitCount_0f7a4_49 : decode cJ6_bitCount_0f7a4 49 = .ok (.bipush 63, 2) := by decide +kernel
theorem dJ6_bitCount_0f7a4_51 : decode cJ6_bitCount_0f7a4 51 = .ok (.iand, 1) := by decide +kernel
theorem dJ6_bitCount_0f7a4_52 : decode cJ6_bitCount_0f7a4 52 = .ok (.ireturn, 1) := by decide +kernel
theorem csJ6_265 : Cond.constant RJ6 265 (Int32.ofInt (1431655765)) ∈ tb := (tb_mem (t_in3 (List.mem_of_getElem? (i := 198) (by decide +kernel))) (by decide +kernel))
theorem csJ6_266 : Cond.constant RJ6 266 (Int32.ofInt (858993459)) ∈ tb := (tb_mem (t_in3 (List.mem_of_getElem? (i := 199) (by decide +kernel))) (by decide +kernel))
theorem csJ6_267 : Cond.constant RJ6 267 (Int32.ofInt (252645135)) ∈ tb := (tb_mem (t_in3 (List.mem_of_getElem? (i := 200) (by decide +kernel))) (by decide +kernel))
set_option maxHeartbeats 4000000 in
set_option maxRecDepth 20000 in
theorem sgJ6_bitCount_0f7a4_0 {κ : Kx} {K : Kont} {M : Mem} (C : Cx κ RJ6 cJ6_bitCount_0f7a4 1 (some .int) rmJ6_bitCount_0f7a4 domC) (x0 : Int)
    (h :
    inR (x0 - (bAnd (bUshr x0 1) 1431655765)) ∧
    ∀ y0_9 : Int, y0_9 = x0 - (bAnd (bUshr x0 1) 1431655765) →
    inR ((bAnd y0_9 858993459) + (bAnd (bUshr y0_9 2) 858993459)) ∧
    ∀ y0_23 : Int, y0_23 = (bAnd y0_9 858993459) + (bAnd (bUshr y0_9 2) 858993459) →
    inR (y0_23 + (bUshr y0_23 4)) ∧
    ∀ y0_33 : Int, y0_33 = bAnd (y0_23 + (bUshr y0_23 4)) 252645135 →
    inR (y0_33 + (bUshr y0_33 8)) ∧
    ∀ y0_40 : Int, y0_40 = y0_33 + (bUshr y0_33 8) →
    inR (y0_40 + (bUshr y0_40 16)) ∧
    ∀ y0_47 : Int, y0_47 = y0_40 + (bUshr y0_40 16) →
    K (some (bAnd y0_47 63)) M) : V κ 1 M 0 [some (.inl x0)] [] K := by
  refine v_iload_n C dJ6_bitCount_0f7a4_0 rfl ?_
  refine v_iload_n C dJ6_bitCount_0f7a4_1 rfl ?_
  refine v_iconst C dJ6_bitCount_0f7a4_2 (by decide) ?_
  refine v_iushr C dJ6_bitCount_0f7a4_3 ?_
  refine v_ldcw C dJ6_bitCount_0f7a4_4 csJ6_265 (by decide) ?_
  refine v_iand C dJ6_bitCount_0f7a4_7 ?_
  refine v_isub C dJ6_bitCount_0f7a4_8 h.1 ?_
  replace h := h.2
  refine v_nm (fun y0_9 ey0_9 => ?_)
  replace h := h y0_9 ey0_9
  refine v_istore_n C dJ6_bitCount_0f7a4_9 (by decide) (Nat.le_of_ble_eq_true rfl) (lv' := [some (.inl y0_9)]) rfl ?_
  refine v_iload_n C dJ6_bitCount_0f7a4_10 rfl ?_
  refine v_ldcw C dJ6_bitCount_0f7a4_11 csJ6_266 (by decide) ?_
  refine v_iand C dJ6_bitCount_0f7a4_14 ?_
  refine v_iload_n C dJ6_bitCount_0f7a4_15 rfl ?_
  refine v_iconst C dJ6_bitCount_0f7a4_16 (by decide) ?_
  refine v_iushr C dJ6_bitCount_0f7a4_17 ?_
  refine v_ldcw C dJ6_bitCount_0f7a4_18 csJ6_266 (by decide) ?_
  refine v_iand C dJ6_bitCount_0f7a4_21 ?_
  refine v_iadd C dJ6_bitCount_0f7a4_22 h.1 ?_
  replace h := h.2
  refine v_nm (fun y0_23 ey0_23 => ?_)
  replace h := h y0_23 ey0_23
  refine v_istore_n C dJ6_bitCount_0f7a4_23 (by decide) (Nat.le_of_ble_eq_true rfl) (lv' := [some (.inl y0_23)]) rfl ?_
  refine v_iload_n C dJ6_bitCount_0f7a4_24 rfl ?_
  refine v_iload_n C dJ6_bitCount_0f7a4_25 rfl ?_
  refine v_iconst C dJ6_bitCount_0f7a4_26 (by decide) ?_
  refine v_iushr C dJ6_bitCount_0f7a4_27 ?_
  refine v_iadd C dJ6_bitCount_0f7a4_28 h.1 ?_
  replace h := h.2
  refine v_ldcw C dJ6_bitCount_0f7a4_29 csJ6_267 (by decide) ?_
  refine v_iand C dJ6_bitCount_0f7a4_32 ?_
  refine v_nm (fun y0_33 ey0_33 => ?_)
  replace h := h y0_33 ey0_33
  refine v_istore_n C dJ6_bitCount_0f7a4_33 (by decide) (Nat.le_of_ble_eq_true rfl) (lv' := [some (.inl y0_33)]) rfl ?_
  refine v_iload_n C dJ6_bitCount_0f7a4_34 rfl ?_
  refine v_iload_n C dJ6_bitCount_0f7a4_35 rfl ?_
  refine v_bipush C dJ6_bitCount_0f7a4_36 (by decide) (by decide) ?_
  refine v_iushr C dJ6_bitCount_0f7a4_38 ?_
  refine v_iadd C dJ6_bitCount_0f7a4_39 h.1 ?_
  replace h := h.2
  refine v_nm (fun y0_40 ey0_40 => ?_)
  replace h := h y0_40 ey0_40
  refine v_istore_n C dJ6_bitCount_0f7a4_40 (by decide) (Nat.le_of_ble_eq_true rfl) (lv' := [some (.inl y0_40)]) rfl ?_
  refine v_iload_n C dJ6_bitCount_0f7a4_41 rfl ?_
  refine v_iload_n C dJ6_bitCount_0f7a4_42 rfl ?_
  refine v_bipush C dJ6_bitCount_0f7a4_43 (by decide) (by decide) ?_
  refine v_iushr C dJ6_bitCount_0f7a4_45 ?_
  refine v_iadd C dJ6_bitCount_0f7a4_46 h.1 ?_
  replace h := h.2
  refine v_nm (fun y0_47 ey0_47 => ?_)
  replace h := h y0_47 ey0_47
  refine v_istore_n C dJ6_bitCount_0f7a4_47 (by decide) (Nat.le_of_ble_eq_true rfl) (lv' := [some (.inl y0_47)]) rfl ?_
  refine v_iload_n C dJ6_bitCount_0f7a4_48 rfl ?_
  refine v_bipush C dJ6_bitCount_0f7a4_49 (by decide) (by decide) ?_
  refine v_iand C dJ6_bitCount_0f7a4_51 ?_
  exact v_iret C dJ6_bitCount_0f7a4_52 h
/-- how many of the seven lowest bits -/
def popN (n : Nat) : Nat := (List.range 7).foldl (fun a k => a + (n.testBit k).toNat) 0
abbrev spJ6_bitCount_0f7a4 (x : Int) (M : Mem) (K : Kont) : Prop := (0 ≤ x ∧ x < 128) ∧ K (some (popN x.toNat : Int)) M
def bcA (x : Int) : Int := x - (bAnd (bUshr x 1) 1431655765)
def bcB (a : Int) : Int := (bAnd a 858993459) + (bAnd (bUshr a 2) 858993459)
def bcC (b : Int) : Int := b + (bUshr b 4)
def bcD (c : Int) : Int := (bAnd c 252645135) + (bUshr (bAnd c 252645135) 8)
def bcE (d : Int) : Int := d + (bUshr d 16)
theorem bc_key : ∀ n : Nat, n < 128 → inR (bcA n) ∧ inR (bcB (bcA n)) ∧ inR (bcC (bcB (bcA n))) ∧ inR (bcD (bcC (bcB (bcA n)))) ∧ inR (bcE (bcD (bcC (bcB (bcA n))))) ∧ bAnd (bcE (bcD (bcC (bcB (bcA n))))) 63 = (popN n : Int) := by decide +kernel
theorem ctJ6_bitCount_0f7a4 : CtJ6_bitCount_0f7a4 spJ6_bitCount_0f7a4 := by
  refine ct_of (by decide) dmC (fun _ => Nat.le_of_ble_eq_true rfl) ?_
  intro κ x M K C oM h
  dsimp only [spJ6_bitCount_0f7a4] at h
  obtain ⟨hx, hk⟩ := h
  have key := bc_key x.toNat (by omega)
  rw [oi_nat hx.1] at key
  refine sgJ6_bitCount_0f7a4_0 C x ⟨key.1, fun a ea => ?_⟩
  have ea' : a = bcA x := ea
  rw [← ea'] at key
  refine ⟨key.2.1, fun b eb => ?_⟩
  have eb' : b = bcB a := eb
  rw [← eb'] at key
  refine ⟨key.2.2.1, fun c ec => ?_⟩
  have ec' : c = bAnd (bcC b) 252645135 := ec
  subst ec'
  refine ⟨key.2.2.2.1, fun d ed => ?_⟩
  have ed' : d = bcD (bcC b) := ed
  rw [← ed'] at key
  refine ⟨key.2.2.2.2.1, fun e ee => ?_⟩
  have ee' : e = bcE d := ee
  rw [← ee'] at key
  rw [key.2.2.2.2.2]
  exact hk
/-! ===== the parts of a set, one behind the other ===== -/
def nxP (rest s : Nat) : Nat := ((s + (4294967296 - rest)) % 4294967296) &&& rest
def ltP (rest : Nat) : Nat → Nat → List Nat
  | 0, _ => []
  | n + 1, s => s :: ltP rest n (nxP rest s)
def sqP (rest : Nat) : Nat → Nat
  | 0 => 0
  | n + 1 => nxP rest (sqP rest n)
theorem parts_key : (List.range 128).all (fun rest => (List.range 128).all (fun s => (s &&& rest != s) || (ltP rest (2 ^ popN rest) 0).contains s)) = true := by decide +kernel
theorem ltP_mem (rest : Nat) : ∀ (n m s : Nat), s ∈ ltP rest n (sqP rest m) → ∃ k, m ≤ k ∧ k < m + n ∧ sqP rest k = s := by
  intro n
  induction n with
  | zero => intro m s h; simp [ltP] at h
  | succ n ih =>
    intro m s h
    rcases List.mem_cons.mp h with e | h'
    · exact ⟨m, Nat.le_refl _, by omega, e.symm⟩
    · obtain ⟨k, a, b, c⟩ := ih (m + 1) s h'
      exact ⟨k, by omega, by omega, c⟩
theorem parts_all {rest s : Nat} (hr : rest < 128) (hs : s &&& rest = s) : ∃ k, k < 2 ^ popN rest ∧ sqP rest k = s := by
  have hs2 : s < 128 := by
    have : s &&& rest ≤ rest := Nat.and_le_right
    omega
  have h1 := List.all_eq_true.mp parts_key rest (List.mem_range.mpr hr)
  have h2 := List.all_eq_true.mp h1 s (List.mem_range.mpr hs2)
  simp only [Bool.or_eq_true, bne_iff_ne, ne_eq, hs, not_true_eq_false, false_or] at h2
  have h3 : s ∈ ltP rest (2 ^ popN rest) 0 := by simpa using h2
  obtain ⟨k, a, b, c⟩ := ltP_mem rest (2 ^ popN rest) 0 s h3
  exact ⟨k, by omega, c⟩
theorem sqP_sub (rest : Nat) : ∀ k, sqP rest k &&& rest = sqP rest k := by
  intro k
  cases k with
  | zero => simp [sqP]
  | succ n =>
    show nxP rest (sqP rest n) &&& rest = nxP rest (sqP rest n)
    unfold nxP
    rw [Nat.and_assoc, Nat.and_self]
theorem bAnd_sub {a r : Nat} (ha : a ≤ 128) (hr : r < 128) : bAnd ((a : Int) - r) r = (nxP r a : Int) := by
  unfold bAnd
  have e : (Int32.ofInt ((a : Int) - r)).toBitVec.toNat = (a + (4294967296 - r)) % 4294967296 := by
    show (BitVec.ofInt 32 ((a : Int) - r)).toNat = _
    rw [BitVec.toNat_ofInt]
    omega
  have hle : nxP r a ≤ r := by unfold nxP; exact Nat.and_le_right
  refine toInt_nat ?_ (by omega)
  rw [Int32.toBitVec_and, BitVec.toNat_and, e]
  have e2 : (Int32.ofInt (r : Int)).toBitVec.toNat = r := by
    rw [oi_nI (Int.natCast_nonneg _), Int.toNat_natCast]
    exact pk_tn (by omega)
  rw [e2]
  rfl
theorem pop_le : ∀ n : Nat, n < 128 → popN n ≤ 7 := by decide +kernel
theorem bit_and {x y k : Int} (hx : 0 ≤ x) (hx2 : x < 2147483648) (hy : 0 ≤ y) (hy2 : y < 2147483648) : bit (bAnd x y) k = (bit x k && bit y k) := by
  rw [bAnd_nat hx hx2 hy hy2]
  unfold bit
  rw [Int.toNat_natCast, Nat.testBit_and]
theorem bAnd_le {x y : Int} (hx : 0 ≤ x) (hx2 : x < 2147483648) (hy : 0 ≤ y) (hy2 : y < 2147483648) : 0 ≤ bAnd x y ∧ bAnd x y ≤ y := by
  rw [bAnd_nat hx hx2 hy hy2]
  have : x.toNat &&& y.toNat ≤ y.toNat := Nat.and_le_right
  omega
theorem not_key : (List.range 128).all (fun a => (List.range 128).all (fun x => decide (bAnd (a : Int) (bXor (x : Int) (-1)) = ((a ^^^ (a &&& x) : Nat) : Int)))) = true := by decide +kernel
theorem and_not {a x : Int} (ha : 0 ≤ a) (ha2 : a < 128) (hx : 0 ≤ x) (hx2 : x < 128) : bAnd a (bXor x (-1)) = ((a.toNat ^^^ (a.toNat &&& x.toNat) : Nat) : Int) := by
  have h1 := List.all_eq_true.mp not_key a.toNat (List.mem_range.mpr (by omega))
  have h2 := List.all_eq_true.mp h1 x.toNat (List.mem_range.mpr (by omega))
  have h3 := of_decide_eq_true h2
  rw [oi_nat ha, oi_nat hx] at h3
  exact h3
theorem bit_not {a x k : Int} (ha : 0 ≤ a) (ha2 : a < 128) (hx : 0 ≤ x) (hx2 : x < 128) : bit (bAnd a (bXor x (-1))) k = (bit a k && !bit x k) := by
  rw [and_not ha ha2 hx hx2]
  unfold bit
  rw [Int.toNat_natCast, Nat.testBit_xor, Nat.testBit_and]
  cases a.toNat.testBit k.toNat <;> cases x.toNat.testBit k.toNat <;> rfl
theorem not_rng {a x : Int} (ha : 0 ≤ a) (ha2 : a < 128) (hx : 0 ≤ x) (hx2 : x < 128) : 0 ≤ bAnd a (bXor x (-1)) ∧ bAnd a (bXor x (-1)) < 128 := by
  rw [and_not ha ha2 hx hx2]
  have h1 : a.toNat &&& x.toNat < 2 ^ 7 := Nat.lt_of_le_of_lt Nat.and_le_left (by omega)
  have h2 := Nat.xor_lt_two_pow (x := a.toNat) (y := a.toNat &&& x.toNat) (n := 7) (by omega) h1
  omega
theorem bit_shl {a k : Int} (h0 : 0 ≤ a) (h1 : a < 31) (hk : 0 ≤ k) : bit (bShl 1 a) k = decide (k = a) := by
  rw [bShl_nat h0 h1]
  unfold bit
  rw [Int.toNat_natCast, Nat.testBit_two_pow]
  by_cases e : k = a
  · subst e; simp
  · have : ¬ a.toNat = k.toNat := by omega
    simp [e, this]
theorem bit_ext {x y : Int} (hx : 0 ≤ x) (hx2 : x < 128) (hy : 0 ≤ y) (hy2 : y < 128) (h : ∀ k, 0 ≤ k → k < 7 → bit x k = bit y k) : x = y := by
  have : x.toNat = y.toNat := by
    apply Nat.eq_of_testBit_eq
    intro i
    by_cases hi : i < 7
    · have := h i (by omega) (by omega)
      unfold bit at this
      rw [Int.toNat_natCast] at this
      exact this
    · rw [Nat.testBit_lt_two_pow (Nat.lt_of_lt_of_le (show x.toNat < 2 ^ 7 by omega) (Nat.pow_le_pow_right (by decide) (by omega))), Nat.testBit_lt_two_pow (Nat.lt_of_lt_of_le (show y.toNat < 2 ^ 7 by omega) (Nat.pow_le_pow_right (by decide) (by omega)))]
  omega
theorem add_key : (List.range 128).all (fun s => (List.range 7).all (fun q => (s.testBit q) || decide (s + 2 ^ q = s ||| 2 ^ q))) = true := by decide +kernel
theorem add_bit {s q : Int} (hs : 0 ≤ s) (hs2 : s < 128) (hq : 0 ≤ q) (hq2 : q < 7) (hb : bit s q = false) : s + bShl 1 q = bOr s (bShl 1 q) := by
  have h1 := List.all_eq_true.mp add_key s.toNat (List.mem_range.mpr (by omega))
  have h2 := List.all_eq_true.mp h1 q.toNat (List.mem_range.mpr (by omega))
  unfold bit at hb
  rw [hb, Bool.false_or] at h2
  have h3 := of_decide_eq_true h2
  have hp := pow_lt31 hq (show q < 31 by omega)
  rw [bShl_nat hq (by omega), bOr_nat hs (by omega) (Int.natCast_nonneg _) (cast_lt31 hp), Int.toNat_natCast, ← h3]
  rw [Int.natCast_add, oi_nat hs]
theorem shl_le7 {k : Int} (h0 : 0 ≤ k) (h1 : k ≤ 7) : 1 ≤ bShl 1 k ∧ bShl 1 k ≤ 128 := by
  have key : ∀ n : Nat, n < 8 → 1 ≤ bShl 1 (n : Int) ∧ bShl 1 (n : Int) ≤ 128 := by decide +kernel
  have := key k.toNat (by omega)
  rw [oi_nat h0] at this
  exact this
theorem shl_lt {k n : Int} (h0 : 0 ≤ k) (h1 : k < n) (h2 : n ≤ 7) : 2 * bShl 1 k ≤ bShl 1 n := by
  have key : ∀ m : Nat, m < 8 → ∀ j : Nat, j < m → 2 * bShl 1 (j : Int) ≤ bShl 1 (m : Int) := by decide +kernel
  have := key n.toNat (by omega) k.toNat (by omega)
  rw [oi_nat h0, oi_nat (by omega)] at this
  exact this
/-- below 2^n there are only bits below n -/
theorem bit_lt {x n k : Int} (hx : 0 ≤ x) (hn : 0 ≤ n) (hn2 : n ≤ 7) (hxn : x < bShl 1 n) (hk : n ≤ k) : bit x k = false := by
  unfold bit
  apply Nat.testBit_lt_two_pow
  have e : bShl 1 n = ((2 ^ n.toNat : Nat) : Int) := bShl_nat hn (by omega)
  have h1 : x.toNat < 2 ^ n.toNat := by
    have h2 : (x.toNat : Int) < ((2 ^ n.toNat : Nat) : Int) := by rw [← e, oi_nat hx]; exact hxn
    exact Int.ofNat_lt.mp h2
  exact Nat.lt_of_lt_of_le h1 (Nat.pow_le_pow_right (by decide) (by omega))
theorem lt_bit {x n : Int} (hx : 0 ≤ x) (hx2 : x < 128) (hn : 0 ≤ n) (hn2 : n ≤ 7) (h : ∀ k, n ≤ k → k < 7 → bit x k = false) : x < bShl 1 n := by
  rw [bShl_nat hn (by omega)]
  have : x.toNat < 2 ^ n.toNat := by
    apply Nat.lt_pow_two_of_testBit
    intro i hi
    by_cases h7 : i < 7
    · have := h i (by omega) (by omega)
      unfold bit at this
      rw [Int.toNat_natCast] at this
      exact this
    · exact Nat.testBit_lt_two_pow (Nat.lt_of_lt_of_le (show x.toNat < 2 ^ 7 by omega) (Nat.pow_le_pow_right (by decide) (by omega)))
  omega
