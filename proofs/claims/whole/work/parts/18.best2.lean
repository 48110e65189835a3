/-! ===== BestFinder: tryPicture, solve ===== -/
/-- sets behind which a picture can be told, as far as sets go -/
def tcond (F : Film) (A p told : Int) : Prop := (0 ≤ told ∧ told < bShl 1 (F 3 0 0)) ∧ (∀ k, 0 ≤ k → k < 7 → bit told k = true → bit A k = true) ∧ bit told p = false ∧ (F 12 p 0 = -4 ∨ bit told (F 12 p 0) = true)
def rstS (F : Film) (A p : Int) : Int := bAnd A (bXor (bOr (bShl 1 p) (ndS F p)) (-1))
theorem nd_bit {F : Film} (hf : WFf F) {p : Int} (hp : 0 ≤ p) (hp2 : p < F 3 0 0) {k : Int} (hk : 0 ≤ k) : bit (ndS F p) k = decide (F 12 p 0 ≠ -4 ∧ k = F 12 p 0) := by
  have w := wf_p hf hp hp2
  unfold ndS
  split
  · rename_i h
    rw [bit_0]
    simp [h]
  · rename_i h
    rw [bit_shl (by omega) (by omega) hk]
    simp [h]
theorem or_rng7 {x y : Int} (hx : 0 ≤ x) (hx2 : x < 128) (hy : 0 ≤ y) (hy2 : y < 128) : 0 ≤ bOr x y ∧ bOr x y < 128 := by
  rw [bOr_nat hx (by omega) hy (by omega)]
  have := Nat.or_lt_two_pow (x := x.toNat) (y := y.toNat) (n := 7) (by omega) (by omega)
  omega
theorem bit_or2 {x y k : Int} (hx : 0 ≤ x) (hx2 : x < 128) (hy : 0 ≤ y) (hy2 : y < 128) : bit (bOr x y) k = (bit x k || bit y k) := by
  rw [bOr_nat hx (by omega) hy (by omega)]
  unfold bit
  rw [Int.toNat_natCast, Nat.testBit_or]
theorem shl_lt128 {p : Int} (hp : 0 ≤ p) (hp2 : p < 7) : 1 ≤ bShl 1 p ∧ bShl 1 p < 128 := by
  have h1 := shl_le7 (k := p) hp (by omega)
  have h2 := shl_lt (k := p) (n := 7) hp hp2 (by omega)
  have h3 := shl_le7 (k := 7) (by omega) (by omega)
  omega
theorem rst_bit {F : Film} (hf : WFf F) {A p : Int} (hA : 0 ≤ A) (hA2 : A < 128) (hp : 0 ≤ p) (hp2 : p < F 3 0 0) {k : Int} (hk : 0 ≤ k) : bit (rstS F A p) k = (bit A k && !(decide (k = p) || decide (F 12 p 0 ≠ -4 ∧ k = F 12 p 0))) := by
  have w := wf_p hf hp hp2
  have h1 := shl_lt128 hp w.2.1
  have h2 := ndS_rng hf hp hp2
  have h3 := or_rng7 (x := bShl 1 p) (y := ndS F p) (by omega) (by omega) (by omega) (by omega)
  unfold rstS
  rw [bit_not hA hA2 h3.1 h3.2, bit_or2 (by omega) (by omega) (by omega) (by omega), bit_shl hp (by omega) hk, nd_bit hf hp hp2 hk]
theorem rst_rng {F : Film} (hf : WFf F) {A p : Int} (hA : 0 ≤ A) (hA2 : A < 128) (hp : 0 ≤ p) (hp2 : p < F 3 0 0) : 0 ≤ rstS F A p ∧ rstS F A p < 128 := by
  have w := wf_p hf hp hp2
  have h1 := shl_lt128 hp w.2.1
  have h2 := ndS_rng hf hp hp2
  have h3 := or_rng7 (x := bShl 1 p) (y := ndS F p) (by omega) (by omega) (by omega) (by omega)
  exact not_rng hA hA2 h3.1 h3.2
theorem sub_bit {s : Nat} {r : Int} (h : s &&& r.toNat = s) {k : Int} (hb : bit (s : Int) k = true) : bit r k = true := by
  unfold bit at hb ⊢
  rw [Int.toNat_natCast] at hb
  rw [← h, Nat.testBit_and, Bool.and_eq_true] at hb
  exact hb.2
theorem bit_sub {s : Nat} {r : Int} (hr : 0 ≤ r) (hr2 : r < 128) (hs : s < 128) (h : ∀ k, 0 ≤ k → k < 7 → bit (s : Int) k = true → bit r k = true) : s &&& r.toNat = s := by
  apply Nat.eq_of_testBit_eq
  intro i
  rw [Nat.testBit_and]
  by_cases hi : i < 7
  · have := h i (by omega) (by omega)
    unfold bit at this
    rw [Int.toNat_natCast, Int.toNat_natCast] at this
    cases hsi : s.testBit i
    · rfl
    · rw [this hsi]
      rfl
  · rw [Nat.testBit_lt_two_pow (Nat.lt_of_lt_of_le (show s < 2 ^ 7 by omega) (Nat.pow_le_pow_right (by decide) (by omega)))]
    rfl
/-- the sum of what is needed and a part of the rest, as a set -/
theorem nd_add {F : Film} (hf : WFf F) {A p : Int} (hA : 0 ≤ A) (hA2 : A < bShl 1 (F 3 0 0)) (hp : 0 ≤ p) (hp2 : p < F 3 0 0) {s : Nat} (hs : s &&& (rstS F A p).toNat = s) :
    (0 ≤ ndS F p + s ∧ ndS F p + s < 128) ∧ ∀ k, 0 ≤ k → k < 7 → bit (ndS F p + s) k = (bit (s : Int) k || decide (F 12 p 0 ≠ -4 ∧ k = F 12 p 0)) := by
  have w := wf_p hf hp hp2
  have hn3 := hf.2.2.2.1
  have hw := shl_le7 (k := F 3 0 0) (by omega) (by omega)
  have hr := rst_rng hf hA (by omega) hp hp2
  have hle := sub_le hs
  by_cases e : F 12 p 0 = -4
  · have : ndS F p = 0 := by unfold ndS; rw [if_pos e]
    rw [this, Int.zero_add]
    refine ⟨by omega, fun k k0 k1 => ?_⟩
    simp [e]
  · have hnd : ndS F p = bShl 1 (F 12 p 0) := by unfold ndS; rw [if_neg e]
    have hq : bit (s : Int) (F 12 p 0) = false := by
      cases hb : bit (s : Int) (F 12 p 0)
      · rfl
      · have := sub_bit hs hb
        rw [rst_bit hf hA (by omega) hp hp2 (by omega)] at this
        simp [e] at this
    have h1 := shl_lt128 (p := F 12 p 0) (by omega) (by omega)
    have ha := add_bit (s := s) (q := F 12 p 0) (by omega) (by omega) (by omega) (by omega) hq
    have hc : ndS F p + (s : Int) = bOr s (bShl 1 (F 12 p 0)) := by rw [hnd, Int.add_comm, ha]
    rw [hc]
    refine ⟨or_rng7 (by omega) (by omega) (by omega) h1.2, fun k k0 k1 => ?_⟩
    rw [bit_or2 (by omega) (by omega) (by omega) h1.2, bit_shl (by omega) (by omega) k0]
    simp [e]
theorem tcond_of {F : Film} (hf : WFf F) {A p : Int} (hA : 0 ≤ A) (hA2 : A < bShl 1 (F 3 0 0)) (hp : 0 ≤ p) (hp2 : p < F 3 0 0) (hn : F 12 p 0 = -4 ∨ bit A (F 12 p 0) = true) {s : Nat} (hs : s &&& (rstS F A p).toNat = s) : tcond F A p (ndS F p + s) := by
  have w := wf_p hf hp hp2
  have hn3 := hf.2.2.2.1
  have hw := shl_le7 (k := F 3 0 0) (by omega) (by omega)
  obtain ⟨h1, h2⟩ := nd_add hf hA hA2 hp hp2 hs
  have hsA : ∀ k, 0 ≤ k → k < 7 → bit (s : Int) k = true → bit A k = true ∧ k ≠ p := by
    intro k k0 k1 hb
    have := sub_bit hs hb
    rw [rst_bit hf hA (by omega) hp hp2 k0] at this
    simp at this
    exact ⟨this.1, this.2.1⟩
  have hall : ∀ k, 0 ≤ k → k < 7 → bit (ndS F p + s) k = true → bit A k = true := by
    intro k k0 k1 hb
    rw [h2 k k0 k1, Bool.or_eq_true, decide_eq_true_eq] at hb
    rcases hb with hb | hb
    · exact (hsA k k0 k1 hb).1
    · rcases hn with z | z
      · exact absurd z hb.1
      · rw [hb.2]; exact z
  refine ⟨⟨h1.1, lt_bit h1.1 h1.2 (by omega) (by omega) (fun k k0 k1 => ?_)⟩, hall, ?_, ?_⟩
  · cases hb : bit (ndS F p + s) k
    · rfl
    · have := hall k (by omega) k1 hb
      rw [bit_lt hA (by omega) (by omega) hA2 k0] at this
      cases this
  · cases hb : bit (ndS F p + s) p
    · rfl
    · rw [h2 p hp (by omega), Bool.or_eq_true, decide_eq_true_eq] at hb
      rcases hb with hb | hb
      · exact absurd rfl (hsA p hp (by omega) hb).2
      · omega
  · by_cases e : F 12 p 0 = -4
    · exact Or.inl e
    · right
      rw [h2 _ (by omega) (by omega), Bool.or_eq_true, decide_eq_true_eq]
      exact Or.inr ⟨e, rfl⟩
theorem tcond_s {F : Film} (hf : WFf F) {A p told : Int} (hA : 0 ≤ A) (hA2 : A < bShl 1 (F 3 0 0)) (hp : 0 ≤ p) (hp2 : p < F 3 0 0) (h : tcond F A p told) : ∃ s : Nat, s &&& (rstS F A p).toNat = s ∧ told = ndS F p + s := by
  have w := wf_p hf hp hp2
  have hn3 := hf.2.2.2.1
  have hw := shl_le7 (k := F 3 0 0) (by omega) (by omega)
  obtain ⟨h1, h2, h3, h4⟩ := h
  have hr := rst_rng hf hA (by omega) hp hp2
  by_cases e : F 12 p 0 = -4
  · have hnd : ndS F p = 0 := by unfold ndS; rw [if_pos e]
    refine ⟨told.toNat, bit_sub hr.1 hr.2 (by omega) (fun k k0 k1 hb => ?_), by omega⟩
    rw [oi_nat h1.1] at hb
    rw [rst_bit hf hA (by omega) hp hp2 k0, h2 k k0 k1 hb]
    have : k ≠ p := fun z => by rw [z, h3] at hb; cases hb
    simp [this, e]
  · have hnd : ndS F p = bShl 1 (F 12 p 0) := by unfold ndS; rw [if_neg e]
    have hb4 : bit told (F 12 p 0) = true := by rcases h4 with z | z; exact absurd z e; exact z
    have h5 := shl_lt128 (p := F 12 p 0) (by omega) (by omega)
    -- told without what is needed
    have hx := not_rng (a := told) (x := bShl 1 (F 12 p 0)) h1.1 (by omega) (by omega) h5.2
    have hxb : ∀ k, 0 ≤ k → bit (bAnd told (bXor (bShl 1 (F 12 p 0)) (-1))) k = (bit told k && !decide (k = F 12 p 0)) := fun k k0 => by
      rw [bit_not h1.1 (by omega) (by omega) h5.2, bit_shl (by omega) (by omega) k0]
    generalize bAnd told (bXor (bShl 1 (F 12 p 0)) (-1)) = x at hx hxb
    have hxq : bit x (F 12 p 0) = false := by rw [hxb _ (by omega)]; simp
    have ha := add_bit (s := x) (q := F 12 p 0) hx.1 hx.2 (by omega) (by omega) hxq
    refine ⟨x.toNat, bit_sub hr.1 hr.2 (by omega) (fun k k0 k1 hb => ?_), ?_⟩
    · rw [oi_nat hx.1, hxb k k0, Bool.and_eq_true] at hb
      rw [rst_bit hf hA (by omega) hp hp2 k0, h2 k k0 k1 hb.1]
      have hkp : k ≠ p := fun z => by rw [z, h3] at hb; cases hb.1
      have hkq : k ≠ F 12 p 0 := by
        have := hb.2
        simpa using this
      simp [hkp, hkq]
    · rw [oi_nat hx.1, hnd, Int.add_comm, ha]
      refine bit_ext h1.1 (by omega) (or_rng7 hx.1 hx.2 (by omega) h5.2).1 (or_rng7 hx.1 hx.2 (by omega) h5.2).2 (fun k k0 k1 => ?_)
      rw [bit_or2 hx.1 hx.2 (by omega) h5.2, bit_shl (by omega) (by omega) k0, hxb k k0]
      by_cases z : k = F 12 p 0
      · rw [z, hb4]; simp
      · simp [z]
def tpF (M : Mem) (F : Film) (S Q : Int → Int) (b w p t told : Int) : Nat → Int → Int
  | 0, x => x
  | k + 1, x => if ownW F S p k t = 0 then max (tpF M F S Q b w p t told k x) (gainW F Q p k t + M 22 0 (min (t + F 13 p k + b) (F 0 0 0) * w + told + bShl 1 p)) else tpF M F S Q b w p t told k x
/-! ===== GapTellings$BestFinder.tryPicture ===== -/
abbrev rmX0_tryPicture : Room := { frames := 2, cells := 0, slots := 0, locals := 54 }
abbrev argX0_tryPicture (a : Int × Int × Int × Int × Int) : List PV := [.inr (21, 0), .inr (14, a.1), .inl a.2.1, .inl a.2.2.1, .inl a.2.2.2.1, .inl a.2.2.2.2]
abbrev CtX0_tryPicture (sp : Int → Int → Int → Int → Int → Mem → Kont → Prop) : Prop := Ct yX0_tryPicture cX0_tryPicture 8 none rmX0_tryPicture domC argX0_tryPicture (fun a => sp a.1 a.2.1 a.2.2.1 a.2.2.2.1 a.2.2.2.2)
theorem dX0_tryPicture_0 : decode cX0_tryPicture 0 = .ok (.iload 5, 2) := by decide +kernel
theorem dX0_tryPicture_2 : decode cX0_tryPicture 2 = .ok (.iconst 1, 1) := by decide +kernel
theorem dX0_tryPicture_3 : decode cX0_tryPicture 3 = .ok (.iload_n 3, 1) := by decide +kernel
theorem dX0_tryPicture_4 : decode cX0_tryPicture 4 = .ok (.ishl, 1) := by decide +kernel
theorem dX0_tryPicture_5 : decode cX0_tryPicture 5 = .ok (.aload_n 0, 1) := by decide +kernel
theorem dX0_tryPicture_6 : decode cX0_tryPicture 6 = .ok (.iload_n 3, 1) := by decide +kernel
theorem dX0_tryPicture_7 : decode cX0_tryPicture 7 = .ok (.invokevirtual 48, 3) := by decide +kernel
theorem dX0_tryPicture_10 : decode cX0_tryPicture 10 = .ok (.ior, 1) := by decide +kernel
theorem dX0_tryPicture_11 : decode cX0_tryPicture 11 = .ok (.iconst (-1), 1) := by decide +kernel
theorem dX0_tryPicture_12 : decode cX0_tryPicture 12 = .ok (.ixor, 1) := by decide +kernel
theorem dX0_tryPicture_13 : decode cX0_tryPicture 13 = .ok (.iand, 1) := by decide +kernel
theorem dX0_tryPicture_14 : decode cX0_tryPicture 14 = .ok (.istore 6, 2) := by decide +kernel
theorem dX0_tryPicture_16 : decode cX0_tryPicture 16 = .ok (.iconst 0, 1) := by decide +kernel
theorem dX0_tryPicture_17 : decode cX0_tryPicture 17 = .ok (.istore 7, 2) := by decide +kernel
theorem dX0_tryPicture_19 : decode cX0_tryPicture 19 = .ok (.iload 7, 2) := by decide +kernel
theorem dX0_tryPicture_21 : decode cX0_tryPicture 21 = .ok (.aload_n 0, 1) := by decide +kernel
theorem dX0_tryPicture_22 : decode cX0_tryPicture 22 = .ok (.getfield 15, 3) := by decide +kernel
theorem dX0_tryPicture_25 : decode cX0_tryPicture 25 = .ok (.getfield 38, 3) := by decide +kernel
theorem dX0_tryPicture_28 : decode cX0_tryPicture 28 = .ok (.iload_n 3, 1) := by decide +kernel
theorem dX0_tryPicture_29 : decode cX0_tryPicture 29 = .ok (.aaload, 1) := by decide +kernel
theorem dX0_tryPicture_30 : decode cX0_tryPicture 30 = .ok (.getfield 62, 3) := by decide +kernel
theorem dX0_tryPicture_33 : decode cX0_tryPicture 33 = .ok (.if_icmp .ge 49, 3) := by decide +kernel
theorem dX0_tryPicture_36 : decode cX0_tryPicture 36 = .ok (.aload_n 1, 1) := by decide +kernel
theorem dX0_tryPicture_37 : decode cX0_tryPicture 37 = .ok (.iload_n 3, 1) := by decide +kernel
theorem dX0_tryPicture_38 : decode cX0_tryPicture 38 = .ok (.iload 7, 2) := by decide +kernel
theorem dX0_tryPicture_40 : decode cX0_tryPicture 40 = .ok (.iload 4, 2) := by decide +kernel
theorem dX0_tryPicture_42 : decode cX0_tryPicture 42 = .ok (.invokevirtual 65, 3) := by decide +kernel
theorem dX0_tryPicture_45 : decode cX0_tryPicture 45 = .ok (.ifCond .ne 31, 3) := by decide +kernel
theorem dX0_tryPicture_48 : decode cX0_tryPicture 48 = .ok (.aload_n 0, 1) := by decide +kernel
theorem dX0_tryPicture_49 : decode cX0_tryPicture 49 = .ok (.iload_n 3, 1) := by decide +kernel
theorem dX0_tryPicture_50 : decode cX0_tryPicture 50 = .ok (.iload 4, 2) := by decide +kernel
theorem dX0_tryPicture_52 : decode cX0_tryPicture 52 = .ok (.aload_n 0, 1) := by decide +kernel
theorem dX0_tryPicture_53 : decode cX0_tryPicture 53 = .ok (.iload_n 3, 1) := by decide +kernel
theorem dX0_tryPicture_54 : decode cX0_tryPicture 54 = .ok (.iload 7, 2) := by decide +kernel
theorem dX0_tryPicture_56 : decode cX0_tryPicture 56 = .ok (.iload 4, 2) := by decide +kernel
theorem dX0_tryPicture_58 : decode cX0_tryPicture 58 = .ok (.iload_n 2, 1) := by decide +kernel
theorem dX0_tryPicture_59 : decode cX0_tryPicture 59 = .ok (.invokevirtual 71, 3) := by decide +kernel
theorem dX0_tryPicture_62 : decode cX0_tryPicture 62 = .ok (.aload_n 1, 1) := by decide +kernel
theorem dX0_tryPicture_63 : decode cX0_tryPicture 63 = .ok (.iload_n 3, 1) := by decide +kernel
theorem dX0_tryPicture_64 : decode cX0_tryPicture 64 = .ok (.iload 7, 2) := by decide +kernel
theorem dX0_tryPicture_66 : decode cX0_tryPicture 66 = .ok (.iload 4, 2) := by decide +kernel
theorem dX0_tryPicture_68 : decode cX0_tryPicture 68 = .ok (.invokevirtual 75, 3) := by decide +kernel
theorem dX0_tryPicture_71 : decode cX0_tryPicture 71 = .ok (.iload 6, 2) := by decide +kernel
theorem dX0_tryPicture_73 : decode cX0_tryPicture 73 = .ok (.invokevirtual 78, 3) := by decide +kernel
theorem dX0_tryPicture_76 : decode cX0_tryPicture 76 = .ok (.iinc 7 1, 3) := by decide +kernel
theorem dX0_tryPicture_79 : decode cX0_tryPicture 79 = .ok (.goto (-60), 3) := by decide +kernel
theorem dX0_tryPicture_82 : decode cX0_tryPicture 82 = .ok (.return_, 1) := by decide +kernel
theorem flX0_62 : FL RX0 62 3 4 := ⟨_, _, _, rfl, by decide, uwX3, Or.inr ⟨"GapTellings", (nw_mem (t_in1 (List.mem_of_getElem? (i := 79) (by decide +kernel))) (by decide +kernel))⟩⟩
theorem ivX0_65 : IV RX0 65 yX6_ownWhyNot cX6_ownWhyNot 6 (some .int) 3 := ⟨(tb_mem (t_in3 (List.mem_of_getElem? (i := 184) (by decide +kernel))) (by decide +kernel)), (tb_mem (t_in3 (List.mem_of_getElem? (i := 62) (by decide +kernel))) (by decide +kernel)), (tb_mem (t_in3 (List.mem_of_getElem? (i := 63) (by decide +kernel))) (by decide +kernel)), (tb_mem (t_in1 (List.mem_of_getElem? (i := 5) (by decide +kernel))) (by decide +kernel)), (tb_mem (t_in3 (List.mem_of_getElem? (i := 64) (by decide +kernel))) (by decide +kernel)), ⟨by decide +kernel, by decide +kernel, by decide +kernel⟩⟩
theorem ivX0_71 : IV RX0 71 yX0_nextFree cX0_nextFree 5 (some .int) 4 := ⟨(tb_mem (t_in3 (List.mem_of_getElem? (i := 185) (by decide +kernel))) (by decide +kernel)), (tb_mem (t_in3 (List.mem_of_getElem? (i := 186) (by decide +kernel))) (by decide +kernel)), (tb_mem (t_in3 (List.mem_of_getElem? (i := 187) (by decide +kernel))) (by decide +kernel)), (tb_mem (t_in1 (List.mem_of_getElem? (i := 8) (by decide +kernel))) (by decide +kernel)), (tb_mem (t_in3 (List.mem_of_getElem? (i := 188) (by decide +kernel))) (by decide +kernel)), ⟨by decide +kernel, by decide +kernel, by decide +kernel⟩⟩
theorem ivX0_75 : IV RX0 75 yX6_gainOf cX6_gainOf 8 (some .int) 3 := ⟨(tb_mem (t_in3 (List.mem_of_getElem? (i := 190) (by decide +kernel))) (by decide +kernel)), (tb_mem (t_in3 (List.mem_of_getElem? (i := 120) (by decide +kernel))) (by decide +kernel)), (tb_mem (t_in3 (List.mem_of_getElem? (i := 121) (by decide +kernel))) (by decide +kernel)), (tb_mem (t_in1 (List.mem_of_getElem? (i := 5) (by decide +kernel))) (by decide +kernel)), (tb_mem (t_in3 (List.mem_of_getElem? (i := 122) (by decide +kernel))) (by decide +kernel)), ⟨by decide +kernel, by decide +kernel, by decide +kernel⟩⟩
theorem ivX0_78 : IV RX0 78 yX0_raiseRow cX0_raiseRow 13 none 5 := ⟨(tb_mem (t_in3 (List.mem_of_getElem? (i := 191) (by decide +kernel))) (by decide +kernel)), (tb_mem (t_in3 (List.mem_of_getElem? (i := 192) (by decide +kernel))) (by decide +kernel)), (tb_mem (t_in3 (List.mem_of_getElem? (i := 193) (by decide +kernel))) (by decide +kernel)), (tb_mem (t_in1 (List.mem_of_getElem? (i := 8) (by decide +kernel))) (by decide +kernel)), (tb_mem (t_in3 (List.mem_of_getElem? (i := 194) (by decide +kernel))) (by decide +kernel)), ⟨by decide +kernel, by decide +kernel, by decide +kernel⟩⟩
set_option maxHeartbeats 4000000 in
set_option maxRecDepth 20000 in
theorem sgX0_tryPicture_0 {κ : Kx} {K : Kont} {M : Mem} (C : Cx κ RX0 cX0_tryPicture 8 none rmX0_tryPicture domC) (i1 : Int) (x2 : Int) (x3 : Int) (x4 : Int) (x5 : Int)
    (h :
    spX0_neededSet x3 M (rI (fun r7 M7 =>
    ∀ y6_14 : Int, y6_14 = bAnd x5 (bXor (bOr (bShl 1 x3) r7) (-1)) →
    V κ 8 M7 19 [some (.inr (21, 0)), some (.inr (14, i1)), some (.inl x2), some (.inl x3), some (.inl x4), none, some (.inl y6_14), some (.inl 0)] [] K))) : V κ 8 M 0 [some (.inr (21, 0)), some (.inr (14, i1)), some (.inl x2), some (.inl x3), some (.inl x4), some (.inl x5), none, none] [] K := by
  refine v_iload C dX0_tryPicture_0 rfl ?_
  refine v_iconst C dX0_tryPicture_2 (by decide) ?_
  refine v_iload_n C dX0_tryPicture_3 rfl ?_
  refine v_ishl C dX0_tryPicture_4 ?_
  refine v_aload_n C dX0_tryPicture_5 rfl ?_
  refine v_iload_n C dX0_tryPicture_6 rfl ?_
  refine v_invV C ctX0_neededSet dX0_tryPicture_7 ivX0_48 ⟨by decide, by decide, rfl, rfl⟩ (x3 : Int) (As := [.inl x3]) rfl rfl rfl (by decide) rfl (st := [.inl (bShl 1 x3), .inl x5]) rfl (Nat.le_of_ble_eq_true rfl) h (fun o M7 oM7 io7 h => ?_)
  obtain ⟨r7, rfl, h⟩ := rI_out h
  refine v_push ?_
  refine v_ior C dX0_tryPicture_10 ?_
  refine v_iconst C dX0_tryPicture_11 (by decide) ?_
  refine v_ixor C dX0_tryPicture_12 ?_
  refine v_iand C dX0_tryPicture_13 ?_
  refine v_nm (fun y6_14 ey6_14 => ?_)
  replace h := h y6_14 ey6_14
  refine v_istore C dX0_tryPicture_14 (by decide) (Nat.le_of_ble_eq_true rfl) (lv' := [some (.inr (21, 0)), some (.inr (14, i1)), some (.inl x2), some (.inl x3), some (.inl x4), some (.inl x5), some (.inl y6_14), none]) rfl ?_
  refine v_iconst C dX0_tryPicture_16 (by decide) ?_
  refine v_istore C dX0_tryPicture_17 (by decide) (Nat.le_of_ble_eq_true rfl) (lv' := [some (.inr (21, 0)), some (.inr (14, i1)), some (.inl x2), some (.inl x3), some (.inl x4), some (.inl x5), some (.inl y6_14), some (.inl 0)]) rfl ?_
  refine v_weak [some (.inr (21, 0)), some (.inr (14, i1)), some (.inl x2), some (.inl x3), some (.inl x4), none, some (.inl y6_14), some (.inl 0)] ⟨rfl, rfl, rfl, rfl, rfl, rfl, rfl, trivial⟩ ?_
  exact h
set_option maxHeartbeats 4000000 in
set_option maxRecDepth 20000 in
theorem sgX0_tryPicture_19 {κ : Kx} {K : Kont} {M : Mem} (C : Cx κ RX0 cX0_tryPicture 8 none rmX0_tryPicture domC) (i1 : Int) (x2 : Int) (x3 : Int) (x4 : Int) (x6 : Int) (x7 : Int)
    (h :
    (0 ≤ x3 ∧ x3 < 7) ∧
    (((M 11 (7 * 1 + x3) 4) ≤ x7 →
      K none M) ∧
     (¬ ((M 11 (7 * 1 + x3) 4) ≤ x7) →
      spX6_ownWhyNot i1 x3 x7 x4 M (rI (fun r42 M42 =>
      ((r42 ≠ 0 →
        inR (x7 + 1) ∧
        V κ 8 M42 19 [some (.inr (21, 0)), some (.inr (14, i1)), some (.inl x2), some (.inl x3), some (.inl x4), none, some (.inl x6), some (.inl (x7 + 1))] [] K) ∧
       (¬ (r42 ≠ 0) →
        spX0_nextFree x3 x7 x4 x2 M42 (rI (fun r59 M59 =>
        spX6_gainOf i1 x3 x7 x4 M59 (rI (fun r68 M68 =>
        spX0_raiseRow x3 x4 r59 r68 x6 M68 (rV (fun M73 =>
        inR (x7 + 1) ∧
        V κ 8 M73 19 [some (.inr (21, 0)), some (.inr (14, i1)), some (.inl x2), some (.inl x3), some (.inl x4), none, some (.inl x6), some (.inl (x7 + 1))] [] K))))))))))))) : V κ 8 M 19 [some (.inr (21, 0)), some (.inr (14, i1)), some (.inl x2), some (.inl x3), some (.inl x4), none, some (.inl x6), some (.inl x7)] [] K := by
  refine v_iload C dX0_tryPicture_19 rfl ?_
  refine v_aload_n C dX0_tryPicture_21 rfl ?_
  refine v_get C dX0_tryPicture_22 flX0_15 rfl (by decide) (by decide) (w := .inr (5, 1)) rfl ?_
  refine v_get C dX0_tryPicture_25 flX0_38 rfl (by decide) (by decide) (w := .inr (10, 1)) rfl ?_
  refine v_iload_n C dX0_tryPicture_28 rfl ?_
  refine v_aald C dX0_tryPicture_29 h.1.1 h.1.2 ?_
  replace h := h.2
  refine v_get C dX0_tryPicture_30 flX0_62 rfl (by decide) (by decide) (w := .inl (M 11 (7 * 1 + x3) 4)) rfl ?_
  refine v_icmp C dX0_tryPicture_33 (tgt := 82) (by decide) (P := (M 11 (7 * 1 + x3) 4) ≤ x7) rfl (fun c33 => ?_) (fun c33 => ?_)
  · replace h := h.1 c33
    exact v_vret C dX0_tryPicture_82 h
  · replace h := h.2 c33
    refine v_aload_n C dX0_tryPicture_36 rfl ?_
    refine v_iload_n C dX0_tryPicture_37 rfl ?_
    refine v_iload C dX0_tryPicture_38 rfl ?_
    refine v_iload C dX0_tryPicture_40 rfl ?_
    refine v_invV C ctX6_ownWhyNot dX0_tryPicture_42 ivX0_65 ⟨by decide, by decide, rfl, rfl⟩ ((i1, x3, x7, x4) : Int × Int × Int × Int) (As := [.inl x3, .inl x7, .inl x4]) rfl rfl rfl (by decide) rfl (st := []) rfl (Nat.le_of_ble_eq_true rfl) h (fun o M42 oM42 io42 h => ?_)
    obtain ⟨r42, rfl, h⟩ := rI_out h
    refine v_push ?_
    refine v_if C dX0_tryPicture_45 (tgt := 76) (by decide) (P := r42 ≠ 0) rfl (fun c45 => ?_) (fun c45 => ?_)
    · replace h := h.1 c45
      refine v_iinc C dX0_tryPicture_76 (by decide) rfl h.1 (lv' := [some (.inr (21, 0)), some (.inr (14, i1)), some (.inl x2), some (.inl x3), some (.inl x4), none, some (.inl x6), some (.inl (x7 + 1))]) rfl ?_
      replace h := h.2
      refine v_goto C dX0_tryPicture_79 (tgt := 19) (by decide) ?_
      refine v_weak [some (.inr (21, 0)), some (.inr (14, i1)), some (.inl x2), some (.inl x3), some (.inl x4), none, some (.inl x6), some (.inl (x7 + 1))] ⟨rfl, rfl, rfl, rfl, rfl, rfl, rfl, trivial⟩ ?_
      exact h
    · replace h := h.2 c45
      refine v_aload_n C dX0_tryPicture_48 rfl ?_
      refine v_iload_n C dX0_tryPicture_49 rfl ?_
      refine v_iload C dX0_tryPicture_50 rfl ?_
      refine v_aload_n C dX0_tryPicture_52 rfl ?_
      refine v_iload_n C dX0_tryPicture_53 rfl ?_
      refine v_iload C dX0_tryPicture_54 rfl ?_
      refine v_iload C dX0_tryPicture_56 rfl ?_
      refine v_iload_n C dX0_tryPicture_58 rfl ?_
      refine v_invV C ctX0_nextFree dX0_tryPicture_59 ivX0_71 ⟨by decide, by decide, rfl, rfl⟩ ((x3, x7, x4, x2) : Int × Int × Int × Int) (As := [.inl x3, .inl x7, .inl x4, .inl x2]) rfl rfl rfl (by decide) rfl (st := [.inl x4, .inl x3, .inr (21, 0)]) rfl (Nat.le_of_ble_eq_true rfl) h (fun o M59 oM59 io59 h => ?_)
      obtain ⟨r59, rfl, h⟩ := rI_out h
      refine v_push ?_
      refine v_aload_n C dX0_tryPicture_62 rfl ?_
      refine v_iload_n C dX0_tryPicture_63 rfl ?_
      refine v_iload C dX0_tryPicture_64 rfl ?_
      refine v_iload C dX0_tryPicture_66 rfl ?_
      refine v_invV C ctX6_gainOf dX0_tryPicture_68 ivX0_75 ⟨by decide, by decide, rfl, rfl⟩ ((i1, x3, x7, x4) : Int × Int × Int × Int) (As := [.inl x3, .inl x7, .inl x4]) rfl rfl rfl (by decide) rfl (st := [.inl r59, .inl x4, .inl x3, .inr (21, 0)]) rfl (Nat.le_of_ble_eq_true rfl) h (fun o M68 oM68 io68 h => ?_)
      obtain ⟨r68, rfl, h⟩ := rI_out h
      refine v_push ?_
      refine v_iload C dX0_tryPicture_71 rfl ?_
      refine v_invV C ctX0_raiseRow dX0_tryPicture_73 ivX0_78 ⟨by decide, by decide, rfl, rfl⟩ ((x3, x4, r59, r68, x6) : Int × Int × Int × Int × Int) (As := [.inl x3, .inl x4, .inl r59, .inl r68, .inl x6]) rfl rfl rfl (by decide) rfl (st := []) rfl (Nat.le_of_ble_eq_true rfl) h (fun o M73 oM73 io73 h => ?_)
      obtain ⟨rfl, h⟩ := rV_out h
      refine v_push0 ?_
      refine v_iinc C dX0_tryPicture_76 (by decide) rfl h.1 (lv' := [some (.inr (21, 0)), some (.inr (14, i1)), some (.inl x2), some (.inl x3), some (.inl x4), none, some (.inl x6), some (.inl (x7 + 1))]) rfl ?_
      replace h := h.2
      refine v_goto C dX0_tryPicture_79 (tgt := 19) (by decide) ?_
      refine v_weak [some (.inr (21, 0)), some (.inr (14, i1)), some (.inl x2), some (.inl x3), some (.inl x4), none, some (.inl x6), some (.inl (x7 + 1))] ⟨rfl, rfl, rfl, rfl, rfl, rfl, rfl, trivial⟩ ?_
      exact h
abbrev spX0_tryPicture (tr b p t A : Int) (M : Mem) (K : Kont) : Prop := (WFf (cFilm M 1) ∧ TrB M tr ∧ (0 ≤ p ∧ p < M 5 1 7) ∧ (0 ≤ t ∧ t < M 5 1 0) ∧ (0 ≤ b ∧ b ≤ 9) ∧ (0 ≤ A ∧ A < bShl 1 (M 5 1 7)) ∧ (cFilm M 1 12 p 0 = -4 ∨ bit A (cFilm M 1 12 p 0) = true) ∧
    (∀ u s : Int, t < u → u ≤ M 5 1 0 → 0 ≤ s → s < bShl 1 (M 5 1 7) → 0 ≤ M 22 0 (u * bShl 1 (M 5 1 7) + s) ∧ M 22 0 (u * bShl 1 (M 5 1 7) + s) ≤ 200000)) ∧
  ∀ M', AgB M M' → (∀ told, tcond (cFilm M 1) A p told → M' 22 0 (t * bShl 1 (M 5 1 7) + told) = tpF M (cFilm M 1) (M 16 tr) (M 17 tr) b (bShl 1 (M 5 1 7)) p t told (M 11 (7 * 1 + p) 4).toNat (M 22 0 (t * bShl 1 (M 5 1 7) + told))) →
    (∀ j, (∀ told, tcond (cFilm M 1) A p told → j ≠ t * bShl 1 (M 5 1 7) + told) → M' 22 0 j = M 22 0 j) → K none M'
theorem ctX0_tryPicture : CtX0_tryPicture spX0_tryPicture := by
  refine ct_of (by decide) dmC (fun _ => Nat.le_of_ble_eq_true rfl) ?_
  intro κ a M K C oM h
  obtain ⟨tr, b, p, t, A⟩ := a
  dsimp only [spX0_tryPicture] at h
  obtain ⟨⟨hf, hb, hp, ht, hbr, hA, hn, htb⟩, hk⟩ := h
  have hT := hf.1
  have hnP := hf.2.2.2.1
  have hwp := wf_p hf hp.1 hp.2
  have hnd := ndS_rng hf hp.1 hp.2
  simp only [cFilm] at hT hnP
  have hw := shl_le7 (k := M 5 1 7) (by omega) (by omega)
  have h11 : cFilm M 1 11 p 0 = M 11 (7 * 1 + p) 4 := rfl
  have h00 : cFilm M 1 0 0 0 = M 5 1 0 := rfl
  have hA' : A < bShl 1 (cFilm M 1 3 0 0) := hA.2
  have hr := rst_rng hf hA.1 (by omega) hp.1 hp.2
  have hown := shl_lt128 (p := p) hp.1 (by omega)
  -- all that can be told behind, and the picture itself, is a set of the film's pictures
  have hsum : ndS (cFilm M 1) p + bShl 1 p + rstS (cFilm M 1) A p < bShl 1 (M 5 1 7) := by
    have hs : (rstS (cFilm M 1) A p).toNat &&& (rstS (cFilm M 1) A p).toNat = (rstS (cFilm M 1) A p).toNat := Nat.and_self _
    have tc := tcond_of hf hA.1 hA' hp.1 hp.2 hn hs
    rw [oi_nat hr.1] at tc
    obtain ⟨t1, t2, t3, t4⟩ := tc
    have t1' : ndS (cFilm M 1) p + rstS (cFilm M 1) A p < bShl 1 (M 5 1 7) := t1.2
    have ha := add_bit (s := ndS (cFilm M 1) p + rstS (cFilm M 1) A p) (q := p) t1.1 (by omega) hp.1 (by omega) t3
    have h5 := or_rng7 (x := ndS (cFilm M 1) p + rstS (cFilm M 1) A p) (y := bShl 1 p) t1.1 (by omega) (by omega) hown.2
    have h6 : bOr (ndS (cFilm M 1) p + rstS (cFilm M 1) A p) (bShl 1 p) < bShl 1 (M 5 1 7) := by
      refine lt_bit h5.1 h5.2 (by omega) (by omega) (fun k k0 k1 => ?_)
      rw [bit_or2 t1.1 (by omega) (by omega) hown.2, bit_shl hp.1 (by omega) (by omega), bit_lt t1.1 (by omega) (by omega) t1' k0]
      have : ¬ k = p := by omega
      simp [this]
    omega
  generalize hW : bShl 1 (M 5 1 7) = w at *
  have m1 := mul_rng (a := t) (b := w) (A := 100) (B := 128) ht.1 (by omega) (by omega) hw.2
  have mono : ∀ u, t < u → u ≤ M 5 1 0 → t * w + w ≤ u * w ∧ u * w + w ≤ 12928 := by
    intro u a b
    have q1 : (t + 1) * w ≤ u * w := Int.mul_le_mul_of_nonneg_right (by omega) (by omega)
    have q2 : (u + 1) * w ≤ 101 * 128 := Int.mul_le_mul (by omega) hw.2 (by omega) (by omega)
    rw [Int.add_mul, Int.one_mul] at q1 q2
    omega
  have loop : ∀ (n : Nat) (v : Int) (N : Mem), 0 ≤ v → v + n = M 11 (7 * 1 + p) 4 → AgB M N → (∀ told, tcond (cFilm M 1) A p told → N 22 0 (t * w + told) = tpF M (cFilm M 1) (M 16 tr) (M 17 tr) b w p t told v.toNat (M 22 0 (t * w + told))) →
      (∀ j, (∀ told, tcond (cFilm M 1) A p told → j ≠ t * w + told) → N 22 0 j = M 22 0 j) →
      V κ 8 N 19 [some (.inr (21, 0)), some (.inr (14, tr)), some (.inl b), some (.inl p), some (.inl t), none, some (.inl (rstS (cFilm M 1) A p)), some (.inl v)] [] K := by
    intro n
    induction n with
    | zero =>
      intro v N h0 hn2 hAg h1 h2
      have e11 : N 11 = M 11 := hAg 11 (by decide)
      refine sgX0_tryPicture_19 C tr b p t _ v ⟨by omega, fun c => ?_, fun c => absurd (by rw [e11]; omega) c⟩
      have ev : v = M 11 (7 * 1 + p) 4 := by omega
      rw [ev] at h1
      exact hk N hAg h1 h2
    | succ n ih =>
      intro v N h0 hn2 hAg h1 h2
      have e11 : N 11 = M 11 := hAg 11 (by decide)
      have e5 : N 5 = M 5 := hAg 5 (by decide)
      have e16 : N 16 = M 16 := hAg 16 (by decide)
      have e17 : N 17 = M 17 := hAg 17 (by decide)
      have eF := hAg.film 1
      have hwv := wf_pv hf hp.1 hp.2 h0 (show v < M 11 (7 * 1 + p) 4 by omega)
      have hg := gain_rng hf hb hp.1 hp.2 h0 (show v < M 11 (7 * 1 + p) 4 by omega) ht.1 ht.2
      have vs : ∀ told x, tpF M (cFilm M 1) (M 16 tr) (M 17 tr) b w p t told (v + 1).toNat x = if ownW (cFilm M 1) (M 16 tr) p v t = 0 then max (tpF M (cFilm M 1) (M 16 tr) (M 17 tr) b w p t told v.toNat x) (gainW (cFilm M 1) (M 17 tr) p v t + M 22 0 (min (t + cFilm M 1 13 p v + b) (cFilm M 1 0 0 0) * w + told + bShl 1 p)) else tpF M (cFilm M 1) (M 16 tr) (M 17 tr) b w p t told v.toNat x := by
        intro told x
        rw [toNat_s h0]
        show (if ownW _ _ p (v.toNat : Int) t = 0 then max _ (gainW _ _ p (v.toNat : Int) t + M 22 0 (min (t + cFilm M 1 13 p (v.toNat : Int) + b) _ * w + told + bShl 1 p)) else _) = _
        rw [oi_nat h0]
      refine sgX0_tryPicture_19 C tr b p t _ v ⟨by omega, fun c => absurd c (by rw [e11]; omega), fun c => ⟨⟨by rw [eF]; exact hf, by rw [e5]; exact hp, by rw [e11]; omega, by rw [e5]; exact ht⟩, ?_, ?_⟩⟩
      · intro c2
        rw [eF, e16] at c2
        refine ⟨by omega, ih (v + 1) N (by omega) (by omega) hAg (fun told tc => ?_) h2⟩
        rw [vs, if_neg c2]
        exact h1 told tc
      · intro c2
        rw [eF, e16] at c2
        have c3 : ownW (cFilm M 1) (M 16 tr) p v t = 0 := by omega
        refine ⟨⟨by rw [eF]; exact hf, by rw [e5]; exact hp, by rw [e11]; omega, by rw [e5]; exact ht, hbr⟩, ⟨by rw [eF]; exact hf, fun u a b => by rw [e16, e17]; exact hb u a b, by rw [e5]; exact hp, by rw [e11]; omega, by rw [e5]; exact ht⟩, ?_⟩
        rw [eF, e17]
        generalize hnx : min (t + cFilm M 1 13 p v + b) (cFilm M 1 0 0 0) = nx at *
        have hnx2 : t < nx ∧ nx ≤ M 5 1 0 := by omega
        have mo := mono nx hnx2.1 hnx2.2
        have hun : ∀ s, 0 ≤ s → s < w → N 22 0 (nx * w + s) = M 22 0 (nx * w + s) := by
          intro s s0 s1
          refine h2 _ (fun told tc z => ?_)
          have q1 := tc.1
          have q2 : told < bShl 1 (M 5 1 7) := q1.2
          rw [hW] at q2
          omega
        have e57 : bShl 1 (N 5 1 7) = w := by rw [e5]; exact hW
        refine ⟨⟨by rw [eF]; exact hf, by rw [e5]; exact hp, by rw [e5]; omega, hg, ⟨hr.1, hr.2, by rw [eF, e57]; exact hsum⟩, fun s s0 s1 => ?_⟩, ?_⟩
        · rw [e57] at s1 ⊢
          rw [hun s s0 s1]
          exact htb nx s hnx2.1 hnx2.2 s0 s1
        · intro N2 hA2 g1 g2
          rw [eF, e57] at g1 g2
          refine ⟨by omega, ih (v + 1) N2 (by omega) (by omega) (hAg.tr hA2) (fun told tc => ?_) (fun j hj => ?_)⟩
          · obtain ⟨s, hs, es⟩ := tcond_s hf hA.1 hA' hp.1 hp.2 tc
            have := g1 s hs
            have a1 : t * w + ndS (cFilm M 1) p + (s : Int) = t * w + told := by omega
            have a2 : nx * w + ndS (cFilm M 1) p + bShl 1 p + (s : Int) = nx * w + (told + bShl 1 p) := by omega
            have hle := sub_le hs
            rw [a1, a2, hun _ (by omega) (by omega), h1 told tc] at this
            rw [this, vs, if_pos c3]
            have a3 : nx * w + told + bShl 1 p = nx * w + (told + bShl 1 p) := by omega
            rw [a3]
          · rw [g2 j (fun s hs z => ?_)]
            · exact h2 j hj
            · refine hj _ (tcond_of hf hA.1 hA' hp.1 hp.2 hn hs) ?_
              omega
  refine sgX0_tryPicture_0 C tr b p t A ⟨by omega, fun y ey => ?_⟩
  have ey' : y = rstS (cFilm M 1) A p := ey
  rw [ey']
  exact loop (M 11 (7 * 1 + p) 4).toNat 0 M (by omega) (by omega) AgB.rf (fun told tc => rfl) (fun j hj => rfl)
