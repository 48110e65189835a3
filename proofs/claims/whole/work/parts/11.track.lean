/-! ===== Track ===== -/
/-! ===== GapTellings$Track.ticksOpen ===== -/
abbrev rmX6_ticksOpen : Room := { frames := 2, cells := 0, slots := 0, locals := 46 }
abbrev argX6_ticksOpen (a : Int × Int × Int) : List PV := [.inr (14, a.1), .inl a.2.1, .inl a.2.2]
abbrev CtX6_ticksOpen (sp : Int → Int → Int → Mem → Kont → Prop) : Prop := Ct yX6_ticksOpen cX6_ticksOpen 5 (some .int) rmX6_ticksOpen domC argX6_ticksOpen (fun a => sp a.1 a.2.1 a.2.2)
theorem dX6_ticksOpen_0 : decode cX6_ticksOpen 0 = .ok (.iconst 0, 1) := by decide +kernel
theorem dX6_ticksOpen_1 : decode cX6_ticksOpen 1 = .ok (.istore_n 3, 1) := by decide +kernel
theorem dX6_ticksOpen_2 : decode cX6_ticksOpen 2 = .ok (.iconst 0, 1) := by decide +kernel
theorem dX6_ticksOpen_3 : decode cX6_ticksOpen 3 = .ok (.istore 4, 2) := by decide +kernel
theorem dX6_ticksOpen_5 : decode cX6_ticksOpen 5 = .ok (.iload 4, 2) := by decide +kernel
theorem dX6_ticksOpen_7 : decode cX6_ticksOpen 7 = .ok (.aload_n 0, 1) := by decide +kernel
theorem dX6_ticksOpen_8 : decode cX6_ticksOpen 8 = .ok (.getfield 21, 3) := by decide +kernel
theorem dX6_ticksOpen_11 : decode cX6_ticksOpen 11 = .ok (.getfield 46, 3) := by decide +kernel
theorem dX6_ticksOpen_14 : decode cX6_ticksOpen 14 = .ok (.if_icmp .ge 23, 3) := by decide +kernel
theorem dX6_ticksOpen_17 : decode cX6_ticksOpen 17 = .ok (.aload_n 0, 1) := by decide +kernel
theorem dX6_ticksOpen_18 : decode cX6_ticksOpen 18 = .ok (.iload_n 1, 1) := by decide +kernel
theorem dX6_ticksOpen_19 : decode cX6_ticksOpen 19 = .ok (.iload_n 2, 1) := by decide +kernel
theorem dX6_ticksOpen_20 : decode cX6_ticksOpen 20 = .ok (.iload 4, 2) := by decide +kernel
theorem dX6_ticksOpen_22 : decode cX6_ticksOpen 22 = .ok (.invokevirtual 84, 3) := by decide +kernel
theorem dX6_ticksOpen_25 : decode cX6_ticksOpen 25 = .ok (.ifCond .ne 6, 3) := by decide +kernel
theorem dX6_ticksOpen_28 : decode cX6_ticksOpen 28 = .ok (.iinc 3 1, 3) := by decide +kernel
theorem dX6_ticksOpen_31 : decode cX6_ticksOpen 31 = .ok (.iinc 4 1, 3) := by decide +kernel
theorem dX6_ticksOpen_34 : decode cX6_ticksOpen 34 = .ok (.goto (-29), 3) := by decide +kernel
theorem dX6_ticksOpen_37 : decode cX6_ticksOpen 37 = .ok (.iload_n 3, 1) := by decide +kernel
theorem dX6_ticksOpen_38 : decode cX6_ticksOpen 38 = .ok (.ireturn, 1) := by decide +kernel
theorem ivX6_84 : IV RX6 84 yX6_ownWhyNot cX6_ownWhyNot 6 (some .int) 3 := ⟨(tb_mem (t_in3 (List.mem_of_getElem? (i := 236) (by decide +kernel))) (by decide +kernel)), (tb_mem (t_in3 (List.mem_of_getElem? (i := 62) (by decide +kernel))) (by decide +kernel)), (tb_mem (t_in3 (List.mem_of_getElem? (i := 63) (by decide +kernel))) (by decide +kernel)), (tb_mem (t_in1 (List.mem_of_getElem? (i := 5) (by decide +kernel))) (by decide +kernel)), (tb_mem (t_in3 (List.mem_of_getElem? (i := 64) (by decide +kernel))) (by decide +kernel)), ⟨by decide +kernel, by decide +kernel, by decide +kernel⟩⟩
set_option maxHeartbeats 4000000 in
set_option maxRecDepth 20000 in
theorem sgX6_ticksOpen_0 {κ : Kx} {K : Kont} {M : Mem} (C : Cx κ RX6 cX6_ticksOpen 5 (some .int) rmX6_ticksOpen domC) (i0 : Int) (x1 : Int) (x2 : Int)
    (h :
    V κ 5 M 5 [some (.inr (14, i0)), some (.inl x1), some (.inl x2), some (.inl 0), some (.inl 0)] [] K) : V κ 5 M 0 [some (.inr (14, i0)), some (.inl x1), some (.inl x2), none, none] [] K := by
  refine v_iconst C dX6_ticksOpen_0 (by decide) ?_
  refine v_istore_n C dX6_ticksOpen_1 (by decide) (Nat.le_of_ble_eq_true rfl) (lv' := [some (.inr (14, i0)), some (.inl x1), some (.inl x2), some (.inl 0), none]) rfl ?_
  refine v_iconst C dX6_ticksOpen_2 (by decide) ?_
  refine v_istore C dX6_ticksOpen_3 (by decide) (Nat.le_of_ble_eq_true rfl) (lv' := [some (.inr (14, i0)), some (.inl x1), some (.inl x2), some (.inl 0), some (.inl 0)]) rfl ?_
  refine v_weak [some (.inr (14, i0)), some (.inl x1), some (.inl x2), some (.inl 0), some (.inl 0)] ⟨rfl, rfl, rfl, rfl, rfl, trivial⟩ ?_
  exact h
set_option maxHeartbeats 4000000 in
set_option maxRecDepth 20000 in
theorem sgX6_ticksOpen_5 {κ : Kx} {K : Kont} {M : Mem} (C : Cx κ RX6 cX6_ticksOpen 5 (some .int) rmX6_ticksOpen domC) (i0 : Int) (x1 : Int) (x2 : Int) (x3 : Int) (x4 : Int)
    (h :
    (((M 5 1 0) ≤ x4 →
      K (some x3) M) ∧
     (¬ ((M 5 1 0) ≤ x4) →
      spX6_ownWhyNot i0 x1 x2 x4 M (rI (fun r22 M22 =>
      ((r22 ≠ 0 →
        inR (x4 + 1) ∧
        V κ 5 M22 5 [some (.inr (14, i0)), some (.inl x1), some (.inl x2), some (.inl x3), some (.inl (x4 + 1))] [] K) ∧
       (¬ (r22 ≠ 0) →
        inR (x3 + 1) ∧
        inR (x4 + 1) ∧
        V κ 5 M22 5 [some (.inr (14, i0)), some (.inl x1), some (.inl x2), some (.inl (x3 + 1)), some (.inl (x4 + 1))] [] K))))))) : V κ 5 M 5 [some (.inr (14, i0)), some (.inl x1), some (.inl x2), some (.inl x3), some (.inl x4)] [] K := by
  refine v_iload C dX6_ticksOpen_5 rfl ?_
  refine v_aload_n C dX6_ticksOpen_7 rfl ?_
  refine v_get C dX6_ticksOpen_8 flX6_21 rfl (by decide) (by decide) (w := .inr (5, 1)) rfl ?_
  refine v_get C dX6_ticksOpen_11 flX6_46 rfl (by decide) (by decide) (w := .inl (M 5 1 0)) rfl ?_
  refine v_icmp C dX6_ticksOpen_14 (tgt := 37) (by decide) (P := (M 5 1 0) ≤ x4) rfl (fun c14 => ?_) (fun c14 => ?_)
  · replace h := h.1 c14
    refine v_iload_n C dX6_ticksOpen_37 rfl ?_
    exact v_iret C dX6_ticksOpen_38 h
  · replace h := h.2 c14
    refine v_aload_n C dX6_ticksOpen_17 rfl ?_
    refine v_iload_n C dX6_ticksOpen_18 rfl ?_
    refine v_iload_n C dX6_ticksOpen_19 rfl ?_
    refine v_iload C dX6_ticksOpen_20 rfl ?_
    refine v_invV C ctX6_ownWhyNot dX6_ticksOpen_22 ivX6_84 ⟨by decide, by decide, rfl, rfl⟩ ((i0, x1, x2, x4) : Int × Int × Int × Int) (As := [.inl x1, .inl x2, .inl x4]) rfl rfl rfl (by decide) rfl (st := []) rfl (Nat.le_of_ble_eq_true rfl) h (fun o M22 oM22 io22 h => ?_)
    obtain ⟨r22, rfl, h⟩ := rI_out h
    refine v_push ?_
    refine v_if C dX6_ticksOpen_25 (tgt := 31) (by decide) (P := r22 ≠ 0) rfl (fun c25 => ?_) (fun c25 => ?_)
    · replace h := h.1 c25
      refine v_iinc C dX6_ticksOpen_31 (by decide) rfl h.1 (lv' := [some (.inr (14, i0)), some (.inl x1), some (.inl x2), some (.inl x3), some (.inl (x4 + 1))]) rfl ?_
      replace h := h.2
      refine v_goto C dX6_ticksOpen_34 (tgt := 5) (by decide) ?_
      refine v_weak [some (.inr (14, i0)), some (.inl x1), some (.inl x2), some (.inl x3), some (.inl (x4 + 1))] ⟨rfl, rfl, rfl, rfl, rfl, trivial⟩ ?_
      exact h
    · replace h := h.2 c25
      refine v_iinc C dX6_ticksOpen_28 (by decide) rfl h.1 (lv' := [some (.inr (14, i0)), some (.inl x1), some (.inl x2), some (.inl (x3 + 1)), some (.inl x4)]) rfl ?_
      replace h := h.2
      refine v_iinc C dX6_ticksOpen_31 (by decide) rfl h.1 (lv' := [some (.inr (14, i0)), some (.inl x1), some (.inl x2), some (.inl (x3 + 1)), some (.inl (x4 + 1))]) rfl ?_
      replace h := h.2
      refine v_goto C dX6_ticksOpen_34 (tgt := 5) (by decide) ?_
      refine v_weak [some (.inr (14, i0)), some (.inl x1), some (.inl x2), some (.inl (x3 + 1)), some (.inl (x4 + 1))] ⟨rfl, rfl, rfl, rfl, rfl, trivial⟩ ?_
      exact h
def opN (F : Film) (S : Int → Int) (p v : Int) : Nat → Int := sumN (fun t => if ownW F S p v t = 0 then 1 else 0)
abbrev spX6_ticksOpen (tr p v : Int) (M : Mem) (K : Kont) : Prop := (WFf (cFilm M 1) ∧ (0 ≤ p ∧ p < M 5 1 7) ∧ (0 ≤ v ∧ v < M 11 (7 * 1 + p) 4)) ∧
  K (some (opN (cFilm M 1) (M 16 tr) p v (M 5 1 0).toNat)) M
theorem opN_rng (F : Film) (S : Int → Int) (p v : Int) (n : Nat) : 0 ≤ opN F S p v n ∧ opN F S p v n ≤ n := by
  have := sum_rng (f := fun t => if ownW F S p v t = 0 then 1 else 0) (B := 1) (fun t => by split <;> omega) n
  unfold opN
  omega
theorem ctX6_ticksOpen : CtX6_ticksOpen spX6_ticksOpen := by
  refine ct_of (by decide) dmC (fun _ => Nat.le_of_ble_eq_true rfl) ?_
  intro κ a M K C oM h
  obtain ⟨tr, p, v⟩ := a
  refine sgX6_ticksOpen_0 C tr p v ?_
  dsimp only [spX6_ticksOpen] at h
  obtain ⟨⟨hf, hp, hv⟩, hk⟩ := h
  have hT := hf.1
  simp only [cFilm] at hT
  have loop : ∀ (n : Nat) (t o : Int), 0 ≤ t → t + n = M 5 1 0 → o = opN (cFilm M 1) (M 16 tr) p v t.toNat →
      V κ 5 M 5 [some (.inr (14, tr)), some (.inl p), some (.inl v), some (.inl o), some (.inl t)] [] K := by
    intro n
    induction n with
    | zero =>
      intro t o h0 hn ho
      refine sgX6_ticksOpen_5 C tr p v o t ⟨fun c => ?_, fun c => absurd (by omega) c⟩
      have e : t = M 5 1 0 := by omega
      rw [ho, e]
      exact hk
    | succ n ih =>
      intro t o h0 hn ho
      have hr := opN_rng (cFilm M 1) (M 16 tr) p v t.toNat
      refine sgX6_ticksOpen_5 C tr p v o t ⟨fun c => absurd c (by omega), fun c => ⟨⟨hf, hp, hv, h0, by omega⟩, fun c2 => ⟨by omega, ?_⟩, fun c2 => ⟨by omega, by omega, ?_⟩⟩⟩
      · refine ih (t + 1) o (by omega) (by omega) ?_
        rw [ho, toNat_s h0]
        show _ = opN _ _ _ _ t.toNat + (if ownW _ _ _ _ (t.toNat : Int) = 0 then 1 else 0)
        rw [oi_nat h0, if_neg c2]
        omega
      · refine ih (t + 1) (o + 1) (by omega) (by omega) ?_
        rw [ho, toNat_s h0]
        show _ = opN _ _ _ _ t.toNat + (if ownW _ _ _ _ (t.toNat : Int) = 0 then 1 else 0)
        rw [oi_nat h0, if_pos (by omega)]
  exact loop (M 5 1 0).toNat 0 0 (by omega) (by omega) rfl
/-! ===== GapTellings$Track.greatestGain ===== -/
abbrev rmX6_greatestGain : Room := { frames := 2, cells := 0, slots := 0, locals := 48 }
abbrev argX6_greatestGain (a : Int × Int × Int) : List PV := [.inr (14, a.1), .inl a.2.1, .inl a.2.2]
abbrev CtX6_greatestGain (sp : Int → Int → Int → Mem → Kont → Prop) : Prop := Ct yX6_greatestGain cX6_greatestGain 5 (some .int) rmX6_greatestGain domC argX6_greatestGain (fun a => sp a.1 a.2.1 a.2.2)
theorem dX6_greatestGain_0 : decode cX6_greatestGain 0 = .ok (.bipush (-4), 2) := by decide +kernel
theorem dX6_greatestGain_2 : decode cX6_greatestGain 2 = .ok (.istore_n 3, 1) := by decide +kernel
theorem dX6_greatestGain_3 : decode cX6_greatestGain 3 = .ok (.iconst 0, 1) := by decide +kernel
theorem dX6_greatestGain_4 : decode cX6_greatestGain 4 = .ok (.istore 4, 2) := by decide +kernel
theorem dX6_greatestGain_6 : decode cX6_greatestGain 6 = .ok (.iload 4, 2) := by decide +kernel
theorem dX6_greatestGain_8 : decode cX6_greatestGain 8 = .ok (.aload_n 0, 1) := by decide +kernel
theorem dX6_greatestGain_9 : decode cX6_greatestGain 9 = .ok (.getfield 21, 3) := by decide +kernel
theorem dX6_greatestGain_12 : decode cX6_greatestGain 12 = .ok (.getfield 46, 3) := by decide +kernel
theorem dX6_greatestGain_15 : decode cX6_greatestGain 15 = .ok (.if_icmp .ge 36, 3) := by decide +kernel
theorem dX6_greatestGain_18 : decode cX6_greatestGain 18 = .ok (.aload_n 0, 1) := by decide +kernel
theorem dX6_greatestGain_19 : decode cX6_greatestGain 19 = .ok (.iload_n 1, 1) := by decide +kernel
theorem dX6_greatestGain_20 : decode cX6_greatestGain 20 = .ok (.iload_n 2, 1) := by decide +kernel
theorem dX6_greatestGain_21 : decode cX6_greatestGain 21 = .ok (.iload 4, 2) := by decide +kernel
theorem dX6_greatestGain_23 : decode cX6_greatestGain 23 = .ok (.invokevirtual 84, 3) := by decide +kernel
theorem dX6_greatestGain_26 : decode cX6_greatestGain 26 = .ok (.ifCond .ne 19, 3) := by decide +kernel
theorem dX6_greatestGain_29 : decode cX6_greatestGain 29 = .ok (.iload_n 3, 1) := by decide +kernel
theorem dX6_greatestGain_30 : decode cX6_greatestGain 30 = .ok (.aload_n 0, 1) := by decide +kernel
theorem dX6_greatestGain_31 : decode cX6_greatestGain 31 = .ok (.iload_n 1, 1) := by decide +kernel
theorem dX6_greatestGain_32 : decode cX6_greatestGain 32 = .ok (.iload_n 2, 1) := by decide +kernel
theorem dX6_greatestGain_33 : decode cX6_greatestGain 33 = .ok (.iload 4, 2) := by decide +kernel
theorem dX6_greatestGain_35 : decode cX6_greatestGain 35 = .ok (.invokevirtual 88, 3) := by decide +kernel
theorem dX6_greatestGain_38 : decode cX6_greatestGain 38 = .ok (.ldc 91, 2) := by decide +kernel
theorem dX6_greatestGain_40 : decode cX6_greatestGain 40 = .ok (.iadd, 1) := by decide +kernel
theorem dX6_greatestGain_41 : decode cX6_greatestGain 41 = .ok (.invokestatic 92, 3) := by decide +kernel
theorem dX6_greatestGain_44 : decode cX6_greatestGain 44 = .ok (.istore_n 3, 1) := by decide +kernel
theorem dX6_greatestGain_45 : decode cX6_greatestGain 45 = .ok (.iinc 4 1, 3) := by decide +kernel
theorem dX6_greatestGain_48 : decode cX6_greatestGain 48 = .ok (.goto (-42), 3) := by decide +kernel
theorem dX6_greatestGain_51 : decode cX6_greatestGain 51 = .ok (.iload_n 3, 1) := by decide +kernel
theorem dX6_greatestGain_52 : decode cX6_greatestGain 52 = .ok (.ireturn, 1) := by decide +kernel
theorem ivX6_88 : IV RX6 88 yX6_gainOf cX6_gainOf 8 (some .int) 3 := ⟨(tb_mem (t_in4 (List.mem_of_getElem? (i := 1) (by decide +kernel))) (by decide +kernel)), (tb_mem (t_in3 (List.mem_of_getElem? (i := 120) (by decide +kernel))) (by decide +kernel)), (tb_mem (t_in3 (List.mem_of_getElem? (i := 121) (by decide +kernel))) (by decide +kernel)), (tb_mem (t_in1 (List.mem_of_getElem? (i := 5) (by decide +kernel))) (by decide +kernel)), (tb_mem (t_in3 (List.mem_of_getElem? (i := 122) (by decide +kernel))) (by decide +kernel)), ⟨by decide +kernel, by decide +kernel, by decide +kernel⟩⟩
theorem csX6_91 : Cond.constant RX6 91 (Int32.ofInt (100000)) ∈ tb := (tb_mem (t_in4 (List.mem_of_getElem? (i := 2) (by decide +kernel))) (by decide +kernel))
theorem ivX6_92 : IMax RX6 92 := ⟨(tb_mem (t_in4 (List.mem_of_getElem? (i := 3) (by decide +kernel))) (by decide +kernel)), (tb_mem (t_in2 (List.mem_of_getElem? (i := 117) (by decide +kernel))) (by decide +kernel)), (tb_mem (t_in1 (List.mem_of_getElem? (i := 11) (by decide +kernel))) (by decide +kernel)), (tb_mem (t_in2 (List.mem_of_getElem? (i := 118) (by decide +kernel))) (by decide +kernel))⟩
set_option maxHeartbeats 4000000 in
set_option maxRecDepth 20000 in
theorem sgX6_greatestGain_0 {κ : Kx} {K : Kont} {M : Mem} (C : Cx κ RX6 cX6_greatestGain 5 (some .int) rmX6_greatestGain domC) (i0 : Int) (x1 : Int) (x2 : Int)
    (h :
    V κ 5 M 6 [some (.inr (14, i0)), some (.inl x1), some (.inl x2), some (.inl (-4)), some (.inl 0)] [] K) : V κ 5 M 0 [some (.inr (14, i0)), some (.inl x1), some (.inl x2), none, none] [] K := by
  refine v_bipush C dX6_greatestGain_0 (by decide) (by decide) ?_
  refine v_istore_n C dX6_greatestGain_2 (by decide) (Nat.le_of_ble_eq_true rfl) (lv' := [some (.inr (14, i0)), some (.inl x1), some (.inl x2), some (.inl (-4)), none]) rfl ?_
  refine v_iconst C dX6_greatestGain_3 (by decide) ?_
  refine v_istore C dX6_greatestGain_4 (by decide) (Nat.le_of_ble_eq_true rfl) (lv' := [some (.inr (14, i0)), some (.inl x1), some (.inl x2), some (.inl (-4)), some (.inl 0)]) rfl ?_
  refine v_weak [some (.inr (14, i0)), some (.inl x1), some (.inl x2), some (.inl (-4)), some (.inl 0)] ⟨rfl, rfl, rfl, rfl, rfl, trivial⟩ ?_
  exact h
set_option maxHeartbeats 4000000 in
set_option maxRecDepth 20000 in
theorem sgX6_greatestGain_6 {κ : Kx} {K : Kont} {M : Mem} (C : Cx κ RX6 cX6_greatestGain 5 (some .int) rmX6_greatestGain domC) (i0 : Int) (x1 : Int) (x2 : Int) (x3 : Int) (x4 : Int)
    (h :
    (((M 5 1 0) ≤ x4 →
      K (some x3) M) ∧
     (¬ ((M 5 1 0) ≤ x4) →
      spX6_ownWhyNot i0 x1 x2 x4 M (rI (fun r23 M23 =>
      ((r23 ≠ 0 →
        inR (x4 + 1) ∧
        V κ 5 M23 6 [some (.inr (14, i0)), some (.inl x1), some (.inl x2), some (.inl x3), some (.inl (x4 + 1))] [] K) ∧
       (¬ (r23 ≠ 0) →
        spX6_gainOf i0 x1 x2 x4 M23 (rI (fun r35 M35 =>
        inR (r35 + 100000) ∧
        ∀ y3_44 : Int, y3_44 = max x3 (r35 + 100000) →
        inR (x4 + 1) ∧
        V κ 5 M35 6 [some (.inr (14, i0)), some (.inl x1), some (.inl x2), some (.inl y3_44), some (.inl (x4 + 1))] [] K))))))))) : V κ 5 M 6 [some (.inr (14, i0)), some (.inl x1), some (.inl x2), some (.inl x3), some (.inl x4)] [] K := by
  refine v_iload C dX6_greatestGain_6 rfl ?_
  refine v_aload_n C dX6_greatestGain_8 rfl ?_
  refine v_get C dX6_greatestGain_9 flX6_21 rfl (by decide) (by decide) (w := .inr (5, 1)) rfl ?_
  refine v_get C dX6_greatestGain_12 flX6_46 rfl (by decide) (by decide) (w := .inl (M 5 1 0)) rfl ?_
  refine v_icmp C dX6_greatestGain_15 (tgt := 51) (by decide) (P := (M 5 1 0) ≤ x4) rfl (fun c15 => ?_) (fun c15 => ?_)
  · replace h := h.1 c15
    refine v_iload_n C dX6_greatestGain_51 rfl ?_
    exact v_iret C dX6_greatestGain_52 h
  · replace h := h.2 c15
    refine v_aload_n C dX6_greatestGain_18 rfl ?_
    refine v_iload_n C dX6_greatestGain_19 rfl ?_
    refine v_iload_n C dX6_greatestGain_20 rfl ?_
    refine v_iload C dX6_greatestGain_21 rfl ?_
    refine v_invV C ctX6_ownWhyNot dX6_greatestGain_23 ivX6_84 ⟨by decide, by decide, rfl, rfl⟩ ((i0, x1, x2, x4) : Int × Int × Int × Int) (As := [.inl x1, .inl x2, .inl x4]) rfl rfl rfl (by decide) rfl (st := []) rfl (Nat.le_of_ble_eq_true rfl) h (fun o M23 oM23 io23 h => ?_)
    obtain ⟨r23, rfl, h⟩ := rI_out h
    refine v_push ?_
    refine v_if C dX6_greatestGain_26 (tgt := 45) (by decide) (P := r23 ≠ 0) rfl (fun c26 => ?_) (fun c26 => ?_)
    · replace h := h.1 c26
      refine v_iinc C dX6_greatestGain_45 (by decide) rfl h.1 (lv' := [some (.inr (14, i0)), some (.inl x1), some (.inl x2), some (.inl x3), some (.inl (x4 + 1))]) rfl ?_
      replace h := h.2
      refine v_goto C dX6_greatestGain_48 (tgt := 6) (by decide) ?_
      refine v_weak [some (.inr (14, i0)), some (.inl x1), some (.inl x2), some (.inl x3), some (.inl (x4 + 1))] ⟨rfl, rfl, rfl, rfl, rfl, trivial⟩ ?_
      exact h
    · replace h := h.2 c26
      refine v_iload_n C dX6_greatestGain_29 rfl ?_
      refine v_aload_n C dX6_greatestGain_30 rfl ?_
      refine v_iload_n C dX6_greatestGain_31 rfl ?_
      refine v_iload_n C dX6_greatestGain_32 rfl ?_
      refine v_iload C dX6_greatestGain_33 rfl ?_
      refine v_invV C ctX6_gainOf dX6_greatestGain_35 ivX6_88 ⟨by decide, by decide, rfl, rfl⟩ ((i0, x1, x2, x4) : Int × Int × Int × Int) (As := [.inl x1, .inl x2, .inl x4]) rfl rfl rfl (by decide) rfl (st := [.inl x3]) rfl (Nat.le_of_ble_eq_true rfl) h (fun o M35 oM35 io35 h => ?_)
      obtain ⟨r35, rfl, h⟩ := rI_out h
      refine v_push ?_
      refine v_ldc C dX6_greatestGain_38 csX6_91 (by decide) ?_
      refine v_iadd C dX6_greatestGain_40 h.1 ?_
      replace h := h.2
      refine v_max C dX6_greatestGain_41 ivX6_92 (Nat.le_of_ble_eq_true rfl) ⟨by decide, by decide⟩ ?_
      refine v_nm (fun y3_44 ey3_44 => ?_)
      replace h := h y3_44 ey3_44
      refine v_istore_n C dX6_greatestGain_44 (by decide) (Nat.le_of_ble_eq_true rfl) (lv' := [some (.inr (14, i0)), some (.inl x1), some (.inl x2), some (.inl y3_44), some (.inl x4)]) rfl ?_
      refine v_iinc C dX6_greatestGain_45 (by decide) rfl h.1 (lv' := [some (.inr (14, i0)), some (.inl x1), some (.inl x2), some (.inl y3_44), some (.inl (x4 + 1))]) rfl ?_
      replace h := h.2
      refine v_goto C dX6_greatestGain_48 (tgt := 6) (by decide) ?_
      refine v_weak [some (.inr (14, i0)), some (.inl x1), some (.inl x2), some (.inl y3_44), some (.inl (x4 + 1))] ⟨rfl, rfl, rfl, rfl, rfl, trivial⟩ ?_
      exact h
def ggN (F : Film) (S Q : Int → Int) (p v : Int) : Nat → Int
  | 0 => -4
  | n + 1 => if ownW F S p v n = 0 then max (ggN F S Q p v n) (gainW F Q p v n + 100000) else ggN F S Q p v n
theorem gain_rng {M : Mem} {tr : Int} (hf : WFf (cFilm M 1)) (hb : TrB M tr) {p v t : Int} (hp : 0 ≤ p) (hp2 : p < M 5 1 7) (hv : 0 ≤ v) (hv2 : v < M 11 (7 * 1 + p) 4) (ht : 0 ≤ t) (ht2 : t < M 5 1 0) :
    -2000 ≤ gainW (cFilm M 1) (M 17 tr) p v t ∧ gainW (cFilm M 1) (M 17 tr) p v t ≤ 2000 := by
  have hw := wf_pv hf hp hp2 hv hv2
  have hs := shift_rng hf hp hp2 ht ht2
  unfold gainW
  have hw2 := hw
  simp only [cFilm] at hw2
  have hb1 := hb t (by omega) (by omega)
  have hb2 := hb (min (t + cFilm M 1 13 p v) (cFilm M 1 0 0 0)) (by omega) (by omega)
  omega
abbrev spX6_greatestGain (tr p v : Int) (M : Mem) (K : Kont) : Prop := (WFf (cFilm M 1) ∧ TrB M tr ∧ (0 ≤ p ∧ p < M 5 1 7) ∧ (0 ≤ v ∧ v < M 11 (7 * 1 + p) 4)) ∧
  K (some (ggN (cFilm M 1) (M 16 tr) (M 17 tr) p v (M 5 1 0).toNat)) M
theorem ctX6_greatestGain : CtX6_greatestGain spX6_greatestGain := by
  refine ct_of (by decide) dmC (fun _ => Nat.le_of_ble_eq_true rfl) ?_
  intro κ a M K C oM h
  obtain ⟨tr, p, v⟩ := a
  refine sgX6_greatestGain_0 C tr p v ?_
  dsimp only [spX6_greatestGain] at h
  obtain ⟨⟨hf, hb, hp, hv⟩, hk⟩ := h
  have hT := hf.1
  simp only [cFilm] at hT
  have loop : ∀ (n : Nat) (t o : Int), 0 ≤ t → t + n = M 5 1 0 → o = ggN (cFilm M 1) (M 16 tr) (M 17 tr) p v t.toNat →
      V κ 5 M 6 [some (.inr (14, tr)), some (.inl p), some (.inl v), some (.inl o), some (.inl t)] [] K := by
    intro n
    induction n with
    | zero =>
      intro t o h0 hn ho
      refine sgX6_greatestGain_6 C tr p v o t ⟨fun c => ?_, fun c => absurd (by omega) c⟩
      have e : t = M 5 1 0 := by omega
      rw [ho, e]
      exact hk
    | succ n ih =>
      intro t o h0 hn ho
      have hg := gain_rng hf hb hp.1 hp.2 hv.1 hv.2 h0 (by omega)
      refine sgX6_greatestGain_6 C tr p v o t ⟨fun c => absurd c (by omega), fun c => ⟨⟨hf, hp, hv, h0, by omega⟩, fun c2 => ⟨by omega, ?_⟩, fun c2 => ⟨⟨hf, hb, hp, hv, h0, by omega⟩, by omega, fun y ey => ⟨by omega, ?_⟩⟩⟩⟩
      · refine ih (t + 1) o (by omega) (by omega) ?_
        rw [ho, toNat_s h0]
        show _ = if ownW _ _ _ _ (t.toNat : Int) = 0 then _ else _
        rw [oi_nat h0, if_neg c2]
      · refine ih (t + 1) y (by omega) (by omega) ?_
        rw [ey, ho, toNat_s h0]
        show _ = if ownW _ _ _ _ (t.toNat : Int) = 0 then _ else _
        rw [oi_nat h0, if_pos (by omega)]
  exact loop (M 5 1 0).toNat 0 (-4) (by omega) (by omega) rfl
/-! ===== GapTellings$Track.silenceBeginsAt ===== -/
abbrev rmX6_silenceBeginsAt : Room := { frames := 1, cells := 0, slots := 0, locals := 21 }
abbrev argX6_silenceBeginsAt (a : Int × Int) : List PV := [.inr (14, a.1), .inl a.2]
abbrev CtX6_silenceBeginsAt (sp : Int → Int → Mem → Kont → Prop) : Prop := Ct yX6_silenceBeginsAt cX6_silenceBeginsAt 2 (some .boolean) rmX6_silenceBeginsAt domC argX6_silenceBeginsAt (fun a => sp a.1 a.2)
theorem dX6_silenceBeginsAt_0 : decode cX6_silenceBeginsAt 0 = .ok (.aload_n 0, 1) := by decide +kernel
theorem dX6_silenceBeginsAt_1 : decode cX6_silenceBeginsAt 1 = .ok (.iload_n 1, 1) := by decide +kernel
theorem dX6_silenceBeginsAt_2 : decode cX6_silenceBeginsAt 2 = .ok (.invokevirtual 49, 3) := by decide +kernel
theorem dX6_silenceBeginsAt_5 : decode cX6_silenceBeginsAt 5 = .ok (.ifCond .ne 21, 3) := by decide +kernel
theorem dX6_silenceBeginsAt_8 : decode cX6_silenceBeginsAt 8 = .ok (.iload_n 1, 1) := by decide +kernel
theorem dX6_silenceBeginsAt_9 : decode cX6_silenceBeginsAt 9 = .ok (.ifCond .eq 13, 3) := by decide +kernel
theorem dX6_silenceBeginsAt_12 : decode cX6_silenceBeginsAt 12 = .ok (.aload_n 0, 1) := by decide +kernel
theorem dX6_silenceBeginsAt_13 : decode cX6_silenceBeginsAt 13 = .ok (.iload_n 1, 1) := by decide +kernel
theorem dX6_silenceBeginsAt_14 : decode cX6_silenceBeginsAt 14 = .ok (.iconst 1, 1) := by decide +kernel
theorem dX6_silenceBeginsAt_15 : decode cX6_silenceBeginsAt 15 = .ok (.isub, 1) := by decide +kernel
theorem dX6_silenceBeginsAt_16 : decode cX6_silenceBeginsAt 16 = .ok (.invokevirtual 49, 3) := by decide +kernel
theorem dX6_silenceBeginsAt_19 : decode cX6_silenceBeginsAt 19 = .ok (.ifCond .eq 7, 3) := by decide +kernel
theorem dX6_silenceBeginsAt_22 : decode cX6_silenceBeginsAt 22 = .ok (.iconst 1, 1) := by decide +kernel
theorem dX6_silenceBeginsAt_23 : decode cX6_silenceBeginsAt 23 = .ok (.goto 4, 3) := by decide +kernel
theorem dX6_silenceBeginsAt_26 : decode cX6_silenceBeginsAt 26 = .ok (.iconst 0, 1) := by decide +kernel
theorem dX6_silenceBeginsAt_27 : decode cX6_silenceBeginsAt 27 = .ok (.ireturn, 1) := by decide +kernel
theorem ivX6_49 : IV RX6 49 yX6_hasSpeech cX6_hasSpeech 2 (some .boolean) 1 := ⟨(tb_mem (t_in2 (List.mem_of_getElem? (i := 207) (by decide +kernel))) (by decide +kernel)), (tb_mem (t_in2 (List.mem_of_getElem? (i := 208) (by decide +kernel))) (by decide +kernel)), (tb_mem (t_in2 (List.mem_of_getElem? (i := 209) (by decide +kernel))) (by decide +kernel)), (tb_mem (t_in1 (List.mem_of_getElem? (i := 5) (by decide +kernel))) (by decide +kernel)), (tb_mem (t_in2 (List.mem_of_getElem? (i := 210) (by decide +kernel))) (by decide +kernel)), ⟨by decide +kernel, by decide +kernel, by decide +kernel⟩⟩
set_option maxHeartbeats 4000000 in
set_option maxRecDepth 20000 in
theorem sgX6_silenceBeginsAt_0 {κ : Kx} {K : Kont} {M : Mem} (C : Cx κ RX6 cX6_silenceBeginsAt 2 (some .boolean) rmX6_silenceBeginsAt domC) (i0 : Int) (x1 : Int)
    (h :
    spX6_hasSpeech i0 x1 M (rI (fun r2 M2 =>
    ((r2 ≠ 0 →
      K (some 0) M2) ∧
     (¬ (r2 ≠ 0) →
      ((x1 = 0 →
        K (some 1) M2) ∧
       (¬ (x1 = 0) →
        inR (x1 - 1) ∧
        spX6_hasSpeech i0 (x1 - 1) M2 (rI (fun r16 M16 =>
        ((r16 = 0 →
          K (some 0) M16) ∧
         (¬ (r16 = 0) →
          K (some 1) M16))))))))))) : V κ 2 M 0 [some (.inr (14, i0)), some (.inl x1)] [] K := by
  refine v_aload_n C dX6_silenceBeginsAt_0 rfl ?_
  refine v_iload_n C dX6_silenceBeginsAt_1 rfl ?_
  refine v_invV C ctX6_hasSpeech dX6_silenceBeginsAt_2 ivX6_49 ⟨by decide, by decide, rfl, rfl⟩ ((i0, x1) : Int × Int) (As := [.inl x1]) rfl rfl rfl (by decide) rfl (st := []) rfl (Nat.le_of_ble_eq_true rfl) h (fun o M2 oM2 io2 h => ?_)
  obtain ⟨r2, rfl, h⟩ := rI_out h
  refine v_push ?_
  refine v_if C dX6_silenceBeginsAt_5 (tgt := 26) (by decide) (P := r2 ≠ 0) rfl (fun c5 => ?_) (fun c5 => ?_)
  · replace h := h.1 c5
    refine v_iconst C dX6_silenceBeginsAt_26 (by decide) ?_
    exact v_zret C dX6_silenceBeginsAt_27 (by decide) h
  · replace h := h.2 c5
    refine v_iload_n C dX6_silenceBeginsAt_8 rfl ?_
    refine v_if C dX6_silenceBeginsAt_9 (tgt := 22) (by decide) (P := x1 = 0) rfl (fun c9 => ?_) (fun c9 => ?_)
    · replace h := h.1 c9
      refine v_iconst C dX6_silenceBeginsAt_22 (by decide) ?_
      refine v_goto C dX6_silenceBeginsAt_23 (tgt := 27) (by decide) ?_
      exact v_zret C dX6_silenceBeginsAt_27 (by decide) h
    · replace h := h.2 c9
      refine v_aload_n C dX6_silenceBeginsAt_12 rfl ?_
      refine v_iload_n C dX6_silenceBeginsAt_13 rfl ?_
      refine v_iconst C dX6_silenceBeginsAt_14 (by decide) ?_
      refine v_isub C dX6_silenceBeginsAt_15 h.1 ?_
      replace h := h.2
      refine v_invV C ctX6_hasSpeech dX6_silenceBeginsAt_16 ivX6_49 ⟨by decide, by decide, rfl, rfl⟩ ((i0, x1 - 1) : Int × Int) (As := [.inl (x1 - 1)]) rfl rfl rfl (by decide) rfl (st := []) rfl (Nat.le_of_ble_eq_true rfl) h (fun o M16 oM16 io16 h => ?_)
      obtain ⟨r16, rfl, h⟩ := rI_out h
      refine v_push ?_
      refine v_if C dX6_silenceBeginsAt_19 (tgt := 26) (by decide) (P := r16 = 0) rfl (fun c19 => ?_) (fun c19 => ?_)
      · replace h := h.1 c19
        refine v_iconst C dX6_silenceBeginsAt_26 (by decide) ?_
        exact v_zret C dX6_silenceBeginsAt_27 (by decide) h
      · replace h := h.2 c19
        refine v_iconst C dX6_silenceBeginsAt_22 (by decide) ?_
        refine v_goto C dX6_silenceBeginsAt_23 (tgt := 27) (by decide) ?_
        exact v_zret C dX6_silenceBeginsAt_27 (by decide) h
def silB (X : Int → Int) (t : Int) : Int := if bAnd (X t) 1 = 0 ∧ (t = 0 ∨ bAnd (X (t - 1)) 1 ≠ 0) then 1 else 0
abbrev spX6_silenceBeginsAt (tr t : Int) (M : Mem) (K : Kont) : Prop := (0 ≤ t ∧ t < 100) ∧ K (some (silB (M 15 tr) t)) M
theorem ctX6_silenceBeginsAt : CtX6_silenceBeginsAt spX6_silenceBeginsAt := by
  refine ct_of (by decide) dmC (fun _ => Nat.le_of_ble_eq_true rfl) ?_
  intro κ a M K C oM h
  obtain ⟨tr, t⟩ := a
  refine sgX6_silenceBeginsAt_0 C tr t ?_
  clear C
  dsimp only [spX6_silenceBeginsAt] at h
  unfold silB at h
  obtain ⟨ht, hk⟩ := h
  clear oM κ
  grind (splits := 20) [rI]
/-! ===== GapTellings$Track.silenceCount ===== -/
abbrev rmX6_silenceCount : Room := { frames := 2, cells := 0, slots := 0, locals := 42 }
abbrev argX6_silenceCount (a : Int) : List PV := [.inr (14, a)]
abbrev CtX6_silenceCount (sp : Int → Mem → Kont → Prop) : Prop := Ct yX6_silenceCount cX6_silenceCount 3 (some .int) rmX6_silenceCount domC argX6_silenceCount (fun a => sp a)
theorem dX6_silenceCount_0 : decode cX6_silenceCount 0 = .ok (.iconst 0, 1) := by decide +kernel
theorem dX6_silenceCount_1 : decode cX6_silenceCount 1 = .ok (.istore_n 1, 1) := by decide +kernel
theorem dX6_silenceCount_2 : decode cX6_silenceCount 2 = .ok (.iconst 0, 1) := by decide +kernel
theorem dX6_silenceCount_3 : decode cX6_silenceCount 3 = .ok (.istore_n 2, 1) := by decide +kernel
theorem dX6_silenceCount_4 : decode cX6_silenceCount 4 = .ok (.iload_n 2, 1) := by decide +kernel
theorem dX6_silenceCount_5 : decode cX6_silenceCount 5 = .ok (.aload_n 0, 1) := by decide +kernel
theorem dX6_silenceCount_6 : decode cX6_silenceCount 6 = .ok (.getfield 21, 3) := by decide +kernel
theorem dX6_silenceCount_9 : decode cX6_silenceCount 9 = .ok (.getfield 46, 3) := by decide +kernel
theorem dX6_silenceCount_12 : decode cX6_silenceCount 12 = .ok (.if_icmp .ge 20, 3) := by decide +kernel
theorem dX6_silenceCount_15 : decode cX6_silenceCount 15 = .ok (.aload_n 0, 1) := by decide +kernel
theorem dX6_silenceCount_16 : decode cX6_silenceCount 16 = .ok (.iload_n 2, 1) := by decide +kernel
theorem dX6_silenceCount_17 : decode cX6_silenceCount 17 = .ok (.invokevirtual 95, 3) := by decide +kernel
theorem dX6_silenceCount_20 : decode cX6_silenceCount 20 = .ok (.ifCond .eq 6, 3) := by decide +kernel
theorem dX6_silenceCount_23 : decode cX6_silenceCount 23 = .ok (.iinc 1 1, 3) := by decide +kernel
theorem dX6_silenceCount_26 : decode cX6_silenceCount 26 = .ok (.iinc 2 1, 3) := by decide +kernel
theorem dX6_silenceCount_29 : decode cX6_silenceCount 29 = .ok (.goto (-25), 3) := by decide +kernel
theorem dX6_silenceCount_32 : decode cX6_silenceCount 32 = .ok (.iload_n 1, 1) := by decide +kernel
theorem dX6_silenceCount_33 : decode cX6_silenceCount 33 = .ok (.ireturn, 1) := by decide +kernel
theorem ivX6_95 : IV RX6 95 yX6_silenceBeginsAt cX6_silenceBeginsAt 2 (some .boolean) 1 := ⟨(tb_mem (t_in4 (List.mem_of_getElem? (i := 26) (by decide +kernel))) (by decide +kernel)), (tb_mem (t_in4 (List.mem_of_getElem? (i := 27) (by decide +kernel))) (by decide +kernel)), (tb_mem (t_in4 (List.mem_of_getElem? (i := 28) (by decide +kernel))) (by decide +kernel)), (tb_mem (t_in1 (List.mem_of_getElem? (i := 5) (by decide +kernel))) (by decide +kernel)), (tb_mem (t_in4 (List.mem_of_getElem? (i := 29) (by decide +kernel))) (by decide +kernel)), ⟨by decide +kernel, by decide +kernel, by decide +kernel⟩⟩
set_option maxHeartbeats 4000000 in
set_option maxRecDepth 20000 in
theorem sgX6_silenceCount_0 {κ : Kx} {K : Kont} {M : Mem} (C : Cx κ RX6 cX6_silenceCount 3 (some .int) rmX6_silenceCount domC) (i0 : Int)
    (h :
    V κ 3 M 4 [some (.inr (14, i0)), some (.inl 0), some (.inl 0)] [] K) : V κ 3 M 0 [some (.inr (14, i0)), none, none] [] K := by
  refine v_iconst C dX6_silenceCount_0 (by decide) ?_
  refine v_istore_n C dX6_silenceCount_1 (by decide) (Nat.le_of_ble_eq_true rfl) (lv' := [some (.inr (14, i0)), some (.inl 0), none]) rfl ?_
  refine v_iconst C dX6_silenceCount_2 (by decide) ?_
  refine v_istore_n C dX6_silenceCount_3 (by decide) (Nat.le_of_ble_eq_true rfl) (lv' := [some (.inr (14, i0)), some (.inl 0), some (.inl 0)]) rfl ?_
  refine v_weak [some (.inr (14, i0)), some (.inl 0), some (.inl 0)] ⟨rfl, rfl, rfl, trivial⟩ ?_
  exact h
set_option maxHeartbeats 4000000 in
set_option maxRecDepth 20000 in
theorem sgX6_silenceCount_4 {κ : Kx} {K : Kont} {M : Mem} (C : Cx κ RX6 cX6_silenceCount 3 (some .int) rmX6_silenceCount domC) (i0 : Int) (x1 : Int) (x2 : Int)
    (h :
    (((M 5 1 0) ≤ x2 →
      K (some x1) M) ∧
     (¬ ((M 5 1 0) ≤ x2) →
      spX6_silenceBeginsAt i0 x2 M (rI (fun r17 M17 =>
      ((r17 = 0 →
        inR (x2 + 1) ∧
        V κ 3 M17 4 [some (.inr (14, i0)), some (.inl x1), some (.inl (x2 + 1))] [] K) ∧
       (¬ (r17 = 0) →
        inR (x1 + 1) ∧
        inR (x2 + 1) ∧
        V κ 3 M17 4 [some (.inr (14, i0)), some (.inl (x1 + 1)), some (.inl (x2 + 1))] [] K))))))) : V κ 3 M 4 [some (.inr (14, i0)), some (.inl x1), some (.inl x2)] [] K := by
  refine v_iload_n C dX6_silenceCount_4 rfl ?_
  refine v_aload_n C dX6_silenceCount_5 rfl ?_
  refine v_get C dX6_silenceCount_6 flX6_21 rfl (by decide) (by decide) (w := .inr (5, 1)) rfl ?_
  refine v_get C dX6_silenceCount_9 flX6_46 rfl (by decide) (by decide) (w := .inl (M 5 1 0)) rfl ?_
  refine v_icmp C dX6_silenceCount_12 (tgt := 32) (by decide) (P := (M 5 1 0) ≤ x2) rfl (fun c12 => ?_) (fun c12 => ?_)
  · replace h := h.1 c12
    refine v_iload_n C dX6_silenceCount_32 rfl ?_
    exact v_iret C dX6_silenceCount_33 h
  · replace h := h.2 c12
    refine v_aload_n C dX6_silenceCount_15 rfl ?_
    refine v_iload_n C dX6_silenceCount_16 rfl ?_
    refine v_invV C ctX6_silenceBeginsAt dX6_silenceCount_17 ivX6_95 ⟨by decide, by decide, rfl, rfl⟩ ((i0, x2) : Int × Int) (As := [.inl x2]) rfl rfl rfl (by decide) rfl (st := []) rfl (Nat.le_of_ble_eq_true rfl) h (fun o M17 oM17 io17 h => ?_)
    obtain ⟨r17, rfl, h⟩ := rI_out h
    refine v_push ?_
    refine v_if C dX6_silenceCount_20 (tgt := 26) (by decide) (P := r17 = 0) rfl (fun c20 => ?_) (fun c20 => ?_)
    · replace h := h.1 c20
      refine v_iinc C dX6_silenceCount_26 (by decide) rfl h.1 (lv' := [some (.inr (14, i0)), some (.inl x1), some (.inl (x2 + 1))]) rfl ?_
      replace h := h.2
      refine v_goto C dX6_silenceCount_29 (tgt := 4) (by decide) ?_
      refine v_weak [some (.inr (14, i0)), some (.inl x1), some (.inl (x2 + 1))] ⟨rfl, rfl, rfl, trivial⟩ ?_
      exact h
    · replace h := h.2 c20
      refine v_iinc C dX6_silenceCount_23 (by decide) rfl h.1 (lv' := [some (.inr (14, i0)), some (.inl (x1 + 1)), some (.inl x2)]) rfl ?_
      replace h := h.2
      refine v_iinc C dX6_silenceCount_26 (by decide) rfl h.1 (lv' := [some (.inr (14, i0)), some (.inl (x1 + 1)), some (.inl (x2 + 1))]) rfl ?_
      replace h := h.2
      refine v_goto C dX6_silenceCount_29 (tgt := 4) (by decide) ?_
      refine v_weak [some (.inr (14, i0)), some (.inl (x1 + 1)), some (.inl (x2 + 1))] ⟨rfl, rfl, rfl, trivial⟩ ?_
      exact h
def silN (X : Int → Int) : Nat → Int := sumN (silB X)
theorem silB_rng (X : Int → Int) (t : Int) : 0 ≤ silB X t ∧ silB X t ≤ 1 := by
  unfold silB
  split <;> omega
theorem silN_rng (X : Int → Int) (n : Nat) : 0 ≤ silN X n ∧ silN X n ≤ n := by
  have := sum_rng (silB_rng X) n
  unfold silN
  omega
abbrev spX6_silenceCount (tr : Int) (M : Mem) (K : Kont) : Prop := (0 ≤ M 5 1 0 ∧ M 5 1 0 ≤ 100) ∧ K (some (silN (M 15 tr) (M 5 1 0).toNat)) M
theorem ctX6_silenceCount : CtX6_silenceCount spX6_silenceCount := by
  refine ct_of (by decide) dmC (fun _ => Nat.le_of_ble_eq_true rfl) ?_
  intro κ tr M K C oM h
  refine sgX6_silenceCount_0 C tr ?_
  dsimp only [spX6_silenceCount] at h
  obtain ⟨hT, hk⟩ := h
  have loop : ∀ (n : Nat) (t o : Int), 0 ≤ t → t + n = M 5 1 0 → o = silN (M 15 tr) t.toNat →
      V κ 3 M 4 [some (.inr (14, tr)), some (.inl o), some (.inl t)] [] K := by
    intro n
    induction n with
    | zero =>
      intro t o h0 hn ho
      refine sgX6_silenceCount_4 C tr o t ⟨fun c => ?_, fun c => absurd (by omega) c⟩
      have e : t = M 5 1 0 := by omega
      rw [ho, e]
      exact hk
    | succ n ih =>
      intro t o h0 hn ho
      have hr := silN_rng (M 15 tr) t.toNat
      have hq := silB_rng (M 15 tr) t
      have hs : silN (M 15 tr) (t + 1).toNat = silN (M 15 tr) t.toNat + silB (M 15 tr) t := by
        rw [toNat_s h0]
        show _ + silB _ (t.toNat : Int) = _
        rw [oi_nat h0]
        rfl
      refine sgX6_silenceCount_4 C tr o t ⟨fun c => absurd c (by omega), fun c => ⟨⟨h0, by omega⟩, fun c2 => ⟨by omega, ?_⟩, fun c2 => ⟨by omega, by omega, ?_⟩⟩⟩
      · exact ih (t + 1) o (by omega) (by omega) (by omega)
      · exact ih (t + 1) (o + 1) (by omega) (by omega) (by omega)
  exact loop (M 5 1 0).toNat 0 0 (by omega) (by omega) rfl
/-! ===== GapTellings$Track.silenceBegin ===== -/
abbrev rmX6_silenceBegin : Room := { frames := 2, cells := 0, slots := 0, locals := 42 }
abbrev argX6_silenceBegin (a : Int × Int) : List PV := [.inr (14, a.1), .inl a.2]
abbrev CtX6_silenceBegin (sp : Int → Int → Mem → Kont → Prop) : Prop := Ct yX6_silenceBegin cX6_silenceBegin 4 (some .int) rmX6_silenceBegin domC argX6_silenceBegin (fun a => sp a.1 a.2)
theorem dX6_silenceBegin_0 : decode cX6_silenceBegin 0 = .ok (.iconst 0, 1) := by decide +kernel
theorem dX6_silenceBegin_1 : decode cX6_silenceBegin 1 = .ok (.istore_n 2, 1) := by decide +kernel
theorem dX6_silenceBegin_2 : decode cX6_silenceBegin 2 = .ok (.iconst 0, 1) := by decide +kernel
theorem dX6_silenceBegin_3 : decode cX6_silenceBegin 3 = .ok (.istore_n 3, 1) := by decide +kernel
theorem dX6_silenceBegin_4 : decode cX6_silenceBegin 4 = .ok (.iload_n 3, 1) := by decide +kernel
theorem dX6_silenceBegin_5 : decode cX6_silenceBegin 5 = .ok (.aload_n 0, 1) := by decide +kernel
theorem dX6_silenceBegin_6 : decode cX6_silenceBegin 6 = .ok (.getfield 21, 3) := by decide +kernel
theorem dX6_silenceBegin_9 : decode cX6_silenceBegin 9 = .ok (.getfield 46, 3) := by decide +kernel
theorem dX6_silenceBegin_12 : decode cX6_silenceBegin 12 = .ok (.if_icmp .ge 27, 3) := by decide +kernel
theorem dX6_silenceBegin_15 : decode cX6_silenceBegin 15 = .ok (.aload_n 0, 1) := by decide +kernel
theorem dX6_silenceBegin_16 : decode cX6_silenceBegin 16 = .ok (.iload_n 3, 1) := by decide +kernel
theorem dX6_silenceBegin_17 : decode cX6_silenceBegin 17 = .ok (.invokevirtual 95, 3) := by decide +kernel
theorem dX6_silenceBegin_20 : decode cX6_silenceBegin 20 = .ok (.ifCond .eq 13, 3) := by decide +kernel
theorem dX6_silenceBegin_23 : decode cX6_silenceBegin 23 = .ok (.iload_n 2, 1) := by decide +kernel
theorem dX6_silenceBegin_24 : decode cX6_silenceBegin 24 = .ok (.iload_n 1, 1) := by decide +kernel
theorem dX6_silenceBegin_25 : decode cX6_silenceBegin 25 = .ok (.if_icmp .ne 5, 3) := by decide +kernel
theorem dX6_silenceBegin_28 : decode cX6_silenceBegin 28 = .ok (.iload_n 3, 1) := by decide +kernel
theorem dX6_silenceBegin_29 : decode cX6_silenceBegin 29 = .ok (.ireturn, 1) := by decide +kernel
theorem dX6_silenceBegin_30 : decode cX6_silenceBegin 30 = .ok (.iinc 2 1, 3) := by decide +kernel
theorem dX6_silenceBegin_33 : decode cX6_silenceBegin 33 = .ok (.iinc 3 1, 3) := by decide +kernel
theorem dX6_silenceBegin_36 : decode cX6_silenceBegin 36 = .ok (.goto (-32), 3) := by decide +kernel
theorem dX6_silenceBegin_39 : decode cX6_silenceBegin 39 = .ok (.bipush (-4), 2) := by decide +kernel
theorem dX6_silenceBegin_41 : decode cX6_silenceBegin 41 = .ok (.ireturn, 1) := by decide +kernel
set_option maxHeartbeats 4000000 in
set_option maxRecDepth 20000 in
theorem sgX6_silenceBegin_0 {κ : Kx} {K : Kont} {M : Mem} (C : Cx κ RX6 cX6_silenceBegin 4 (some .int) rmX6_silenceBegin domC) (i0 : Int) (x1 : Int)
    (h :
    V κ 4 M 4 [some (.inr (14, i0)), some (.inl x1), some (.inl 0), some (.inl 0)] [] K) : V κ 4 M 0 [some (.inr (14, i0)), some (.inl x1), none, none] [] K := by
  refine v_iconst C dX6_silenceBegin_0 (by decide) ?_
  refine v_istore_n C dX6_silenceBegin_1 (by decide) (Nat.le_of_ble_eq_true rfl) (lv' := [some (.inr (14, i0)), some (.inl x1), some (.inl 0), none]) rfl ?_
  refine v_iconst C dX6_silenceBegin_2 (by decide) ?_
  refine v_istore_n C dX6_silenceBegin_3 (by decide) (Nat.le_of_ble_eq_true rfl) (lv' := [some (.inr (14, i0)), some (.inl x1), some (.inl 0), some (.inl 0)]) rfl ?_
  refine v_weak [some (.inr (14, i0)), some (.inl x1), some (.inl 0), some (.inl 0)] ⟨rfl, rfl, rfl, rfl, trivial⟩ ?_
  exact h
set_option maxHeartbeats 4000000 in
set_option maxRecDepth 20000 in
theorem sgX6_silenceBegin_4 {κ : Kx} {K : Kont} {M : Mem} (C : Cx κ RX6 cX6_silenceBegin 4 (some .int) rmX6_silenceBegin domC) (i0 : Int) (x1 : Int) (x2 : Int) (x3 : Int)
    (h :
    (((M 5 1 0) ≤ x3 →
      K (some (-4)) M) ∧
     (¬ ((M 5 1 0) ≤ x3) →
      spX6_silenceBeginsAt i0 x3 M (rI (fun r17 M17 =>
      ((r17 = 0 →
        inR (x3 + 1) ∧
        V κ 4 M17 4 [some (.inr (14, i0)), some (.inl x1), some (.inl x2), some (.inl (x3 + 1))] [] K) ∧
       (¬ (r17 = 0) →
        ((x2 ≠ x1 →
          inR (x2 + 1) ∧
          inR (x3 + 1) ∧
          V κ 4 M17 4 [some (.inr (14, i0)), some (.inl x1), some (.inl (x2 + 1)), some (.inl (x3 + 1))] [] K) ∧
         (¬ (x2 ≠ x1) →
          K (some x3) M17))))))))) : V κ 4 M 4 [some (.inr (14, i0)), some (.inl x1), some (.inl x2), some (.inl x3)] [] K := by
  refine v_iload_n C dX6_silenceBegin_4 rfl ?_
  refine v_aload_n C dX6_silenceBegin_5 rfl ?_
  refine v_get C dX6_silenceBegin_6 flX6_21 rfl (by decide) (by decide) (w := .inr (5, 1)) rfl ?_
  refine v_get C dX6_silenceBegin_9 flX6_46 rfl (by decide) (by decide) (w := .inl (M 5 1 0)) rfl ?_
  refine v_icmp C dX6_silenceBegin_12 (tgt := 39) (by decide) (P := (M 5 1 0) ≤ x3) rfl (fun c12 => ?_) (fun c12 => ?_)
  · replace h := h.1 c12
    refine v_bipush C dX6_silenceBegin_39 (by decide) (by decide) ?_
    exact v_iret C dX6_silenceBegin_41 h
  · replace h := h.2 c12
    refine v_aload_n C dX6_silenceBegin_15 rfl ?_
    refine v_iload_n C dX6_silenceBegin_16 rfl ?_
    refine v_invV C ctX6_silenceBeginsAt dX6_silenceBegin_17 ivX6_95 ⟨by decide, by decide, rfl, rfl⟩ ((i0, x3) : Int × Int) (As := [.inl x3]) rfl rfl rfl (by decide) rfl (st := []) rfl (Nat.le_of_ble_eq_true rfl) h (fun o M17 oM17 io17 h => ?_)
    obtain ⟨r17, rfl, h⟩ := rI_out h
    refine v_push ?_
    refine v_if C dX6_silenceBegin_20 (tgt := 33) (by decide) (P := r17 = 0) rfl (fun c20 => ?_) (fun c20 => ?_)
    · replace h := h.1 c20
      refine v_iinc C dX6_silenceBegin_33 (by decide) rfl h.1 (lv' := [some (.inr (14, i0)), some (.inl x1), some (.inl x2), some (.inl (x3 + 1))]) rfl ?_
      replace h := h.2
      refine v_goto C dX6_silenceBegin_36 (tgt := 4) (by decide) ?_
      refine v_weak [some (.inr (14, i0)), some (.inl x1), some (.inl x2), some (.inl (x3 + 1))] ⟨rfl, rfl, rfl, rfl, trivial⟩ ?_
      exact h
    · replace h := h.2 c20
      refine v_iload_n C dX6_silenceBegin_23 rfl ?_
      refine v_iload_n C dX6_silenceBegin_24 rfl ?_
      refine v_icmp C dX6_silenceBegin_25 (tgt := 30) (by decide) (P := x2 ≠ x1) rfl (fun c25 => ?_) (fun c25 => ?_)
      · replace h := h.1 c25
        refine v_iinc C dX6_silenceBegin_30 (by decide) rfl h.1 (lv' := [some (.inr (14, i0)), some (.inl x1), some (.inl (x2 + 1)), some (.inl x3)]) rfl ?_
        replace h := h.2
        refine v_iinc C dX6_silenceBegin_33 (by decide) rfl h.1 (lv' := [some (.inr (14, i0)), some (.inl x1), some (.inl (x2 + 1)), some (.inl (x3 + 1))]) rfl ?_
        replace h := h.2
        refine v_goto C dX6_silenceBegin_36 (tgt := 4) (by decide) ?_
        refine v_weak [some (.inr (14, i0)), some (.inl x1), some (.inl (x2 + 1)), some (.inl (x3 + 1))] ⟨rfl, rfl, rfl, rfl, trivial⟩ ?_
        exact h
      · replace h := h.2 c25
        refine v_iload_n C dX6_silenceBegin_28 rfl ?_
        exact v_iret C dX6_silenceBegin_29 h
/-- the first tick of the i-th silence from t on, if so many began ahead; -4: there is none -/
def silF (X : Int → Int) (i : Int) : Nat → Int → Int → Int
  | 0, _, _ => -4
  | n + 1, t, o => if silB X t = 0 then silF X i n (t + 1) o else if o = i then t else silF X i n (t + 1) (o + 1)
abbrev spX6_silenceBegin (tr i : Int) (M : Mem) (K : Kont) : Prop := (0 ≤ M 5 1 0 ∧ M 5 1 0 ≤ 100) ∧ K (some (silF (M 15 tr) i (M 5 1 0).toNat 0 0)) M
theorem ctX6_silenceBegin : CtX6_silenceBegin spX6_silenceBegin := by
  refine ct_of (by decide) dmC (fun _ => Nat.le_of_ble_eq_true rfl) ?_
  intro κ a M K C oM h
  obtain ⟨tr, i⟩ := a
  refine sgX6_silenceBegin_0 C tr i ?_
  dsimp only [spX6_silenceBegin] at h
  obtain ⟨hT, hk⟩ := h
  have loop : ∀ (n : Nat) (t o : Int), 0 ≤ t → t + n = M 5 1 0 → 0 ≤ o → o ≤ t → K (some (silF (M 15 tr) i n t o)) M →
      V κ 4 M 4 [some (.inr (14, tr)), some (.inl i), some (.inl o), some (.inl t)] [] K := by
    intro n
    induction n with
    | zero =>
      intro t o h0 hn _ _ hk
      exact sgX6_silenceBegin_4 C tr i o t ⟨fun c => hk, fun c => absurd (by omega) c⟩
    | succ n ih =>
      intro t o h0 hn ho ho2 hk
      simp only [silF] at hk
      refine sgX6_silenceBegin_4 C tr i o t ⟨fun c => absurd c (by omega), fun c => ⟨⟨h0, by omega⟩, fun c2 => ⟨by omega, ?_⟩, fun c2 => ⟨fun c3 => ⟨by omega, by omega, ?_⟩, fun c3 => ?_⟩⟩⟩
      · rw [if_pos c2] at hk
        exact ih (t + 1) o (by omega) (by omega) ho (by omega) hk
      · rw [if_neg c2, if_neg c3] at hk
        exact ih (t + 1) (o + 1) (by omega) (by omega) (by omega) (by omega) hk
      · rw [if_neg c2, if_pos (by omega)] at hk
        exact hk
  exact loop (M 5 1 0).toNat 0 0 (by omega) (by omega) (by omega) (by omega) hk
/-! ===== GapTellings$Track.silenceEnd ===== -/
abbrev rmX6_silenceEnd : Room := { frames := 1, cells := 0, slots := 0, locals := 21 }
abbrev argX6_silenceEnd (a : Int × Int) : List PV := [.inr (14, a.1), .inl a.2]
abbrev CtX6_silenceEnd (sp : Int → Int → Mem → Kont → Prop) : Prop := Ct yX6_silenceEnd cX6_silenceEnd 3 (some .int) rmX6_silenceEnd domC argX6_silenceEnd (fun a => sp a.1 a.2)
theorem dX6_silenceEnd_0 : decode cX6_silenceEnd 0 = .ok (.iload_n 1, 1) := by decide +kernel
theorem dX6_silenceEnd_1 : decode cX6_silenceEnd 1 = .ok (.istore_n 2, 1) := by decide +kernel
theorem dX6_silenceEnd_2 : decode cX6_silenceEnd 2 = .ok (.iload_n 2, 1) := by decide +kernel
theorem dX6_silenceEnd_3 : decode cX6_silenceEnd 3 = .ok (.aload_n 0, 1) := by decide +kernel
theorem dX6_silenceEnd_4 : decode cX6_silenceEnd 4 = .ok (.getfield 21, 3) := by decide +kernel
theorem dX6_silenceEnd_7 : decode cX6_silenceEnd 7 = .ok (.getfield 46, 3) := by decide +kernel
theorem dX6_silenceEnd_10 : decode cX6_silenceEnd 10 = .ok (.if_icmp .ge 19, 3) := by decide +kernel
theorem dX6_silenceEnd_13 : decode cX6_silenceEnd 13 = .ok (.aload_n 0, 1) := by decide +kernel
theorem dX6_silenceEnd_14 : decode cX6_silenceEnd 14 = .ok (.iload_n 2, 1) := by decide +kernel
theorem dX6_silenceEnd_15 : decode cX6_silenceEnd 15 = .ok (.invokevirtual 49, 3) := by decide +kernel
theorem dX6_silenceEnd_18 : decode cX6_silenceEnd 18 = .ok (.ifCond .eq 5, 3) := by decide +kernel
theorem dX6_silenceEnd_21 : decode cX6_silenceEnd 21 = .ok (.iload_n 2, 1) := by decide +kernel
theorem dX6_silenceEnd_22 : decode cX6_silenceEnd 22 = .ok (.ireturn, 1) := by decide +kernel
theorem dX6_silenceEnd_23 : decode cX6_silenceEnd 23 = .ok (.iinc 2 1, 3) := by decide +kernel
theorem dX6_silenceEnd_26 : decode cX6_silenceEnd 26 = .ok (.goto (-24), 3) := by decide +kernel
theorem dX6_silenceEnd_29 : decode cX6_silenceEnd 29 = .ok (.aload_n 0, 1) := by decide +kernel
theorem dX6_silenceEnd_30 : decode cX6_silenceEnd 30 = .ok (.getfield 21, 3) := by decide +kernel
theorem dX6_silenceEnd_33 : decode cX6_silenceEnd 33 = .ok (.getfield 46, 3) := by decide +kernel
theorem dX6_silenceEnd_36 : decode cX6_silenceEnd 36 = .ok (.ireturn, 1) := by decide +kernel
set_option maxHeartbeats 4000000 in
set_option maxRecDepth 20000 in
theorem sgX6_silenceEnd_0 {κ : Kx} {K : Kont} {M : Mem} (C : Cx κ RX6 cX6_silenceEnd 3 (some .int) rmX6_silenceEnd domC) (i0 : Int) (x1 : Int)
    (h :
    V κ 3 M 2 [some (.inr (14, i0)), none, some (.inl x1)] [] K) : V κ 3 M 0 [some (.inr (14, i0)), some (.inl x1), none] [] K := by
  refine v_iload_n C dX6_silenceEnd_0 rfl ?_
  refine v_istore_n C dX6_silenceEnd_1 (by decide) (Nat.le_of_ble_eq_true rfl) (lv' := [some (.inr (14, i0)), some (.inl x1), some (.inl x1)]) rfl ?_
  refine v_weak [some (.inr (14, i0)), none, some (.inl x1)] ⟨rfl, rfl, trivial⟩ ?_
  exact h
set_option maxHeartbeats 4000000 in
set_option maxRecDepth 20000 in
theorem sgX6_silenceEnd_2 {κ : Kx} {K : Kont} {M : Mem} (C : Cx κ RX6 cX6_silenceEnd 3 (some .int) rmX6_silenceEnd domC) (i0 : Int) (x2 : Int)
    (h :
    (((M 5 1 0) ≤ x2 →
      K (some (M 5 1 0)) M) ∧
     (¬ ((M 5 1 0) ≤ x2) →
      spX6_hasSpeech i0 x2 M (rI (fun r15 M15 =>
      ((r15 = 0 →
        inR (x2 + 1) ∧
        V κ 3 M15 2 [some (.inr (14, i0)), none, some (.inl (x2 + 1))] [] K) ∧
       (¬ (r15 = 0) →
        K (some x2) M15))))))) : V κ 3 M 2 [some (.inr (14, i0)), none, some (.inl x2)] [] K := by
  refine v_iload_n C dX6_silenceEnd_2 rfl ?_
  refine v_aload_n C dX6_silenceEnd_3 rfl ?_
  refine v_get C dX6_silenceEnd_4 flX6_21 rfl (by decide) (by decide) (w := .inr (5, 1)) rfl ?_
  refine v_get C dX6_silenceEnd_7 flX6_46 rfl (by decide) (by decide) (w := .inl (M 5 1 0)) rfl ?_
  refine v_icmp C dX6_silenceEnd_10 (tgt := 29) (by decide) (P := (M 5 1 0) ≤ x2) rfl (fun c10 => ?_) (fun c10 => ?_)
  · replace h := h.1 c10
    refine v_aload_n C dX6_silenceEnd_29 rfl ?_
    refine v_get C dX6_silenceEnd_30 flX6_21 rfl (by decide) (by decide) (w := .inr (5, 1)) rfl ?_
    refine v_get C dX6_silenceEnd_33 flX6_46 rfl (by decide) (by decide) (w := .inl (M 5 1 0)) rfl ?_
    exact v_iret C dX6_silenceEnd_36 h
  · replace h := h.2 c10
    refine v_aload_n C dX6_silenceEnd_13 rfl ?_
    refine v_iload_n C dX6_silenceEnd_14 rfl ?_
    refine v_invV C ctX6_hasSpeech dX6_silenceEnd_15 ivX6_49 ⟨by decide, by decide, rfl, rfl⟩ ((i0, x2) : Int × Int) (As := [.inl x2]) rfl rfl rfl (by decide) rfl (st := []) rfl (Nat.le_of_ble_eq_true rfl) h (fun o M15 oM15 io15 h => ?_)
    obtain ⟨r15, rfl, h⟩ := rI_out h
    refine v_push ?_
    refine v_if C dX6_silenceEnd_18 (tgt := 23) (by decide) (P := r15 = 0) rfl (fun c18 => ?_) (fun c18 => ?_)
    · replace h := h.1 c18
      refine v_iinc C dX6_silenceEnd_23 (by decide) rfl h.1 (lv' := [some (.inr (14, i0)), none, some (.inl (x2 + 1))]) rfl ?_
      replace h := h.2
      refine v_goto C dX6_silenceEnd_26 (tgt := 2) (by decide) ?_
      refine v_weak [some (.inr (14, i0)), none, some (.inl (x2 + 1))] ⟨rfl, rfl, trivial⟩ ?_
      exact h
    · replace h := h.2 c18
      refine v_iload_n C dX6_silenceEnd_21 rfl ?_
      exact v_iret C dX6_silenceEnd_22 h
/-- the first tick from t on that has speech, or the end -/
def silE (X : Int → Int) : Nat → Int → Int
  | 0, t => t
  | n + 1, t => if bAnd (X t) 1 = 0 then silE X n (t + 1) else t
abbrev spX6_silenceEnd (tr i : Int) (M : Mem) (K : Kont) : Prop := (0 ≤ M 5 1 0 ∧ M 5 1 0 ≤ 100 ∧ 0 ≤ i ∧ i ≤ M 5 1 0) ∧ K (some (silE (M 15 tr) (M 5 1 0 - i).toNat i)) M
theorem ctX6_silenceEnd : CtX6_silenceEnd spX6_silenceEnd := by
  refine ct_of (by decide) dmC (fun _ => Nat.le_of_ble_eq_true rfl) ?_
  intro κ a M K C oM h
  obtain ⟨tr, i⟩ := a
  refine sgX6_silenceEnd_0 C tr i ?_
  dsimp only [spX6_silenceEnd] at h
  obtain ⟨hT, hk⟩ := h
  have loop : ∀ (n : Nat) (t : Int), 0 ≤ t → t + n = M 5 1 0 → K (some (silE (M 15 tr) n t)) M →
      V κ 3 M 2 [some (.inr (14, tr)), none, some (.inl t)] [] K := by
    intro n
    induction n with
    | zero =>
      intro t h0 hn hk
      refine sgX6_silenceEnd_2 C tr t ⟨fun c => ?_, fun c => absurd (by omega) c⟩
      have e : M 5 1 0 = t := by omega
      rw [e]
      exact hk
    | succ n ih =>
      intro t h0 hn hk
      simp only [silE] at hk
      refine sgX6_silenceEnd_2 C tr t ⟨fun c => absurd c (by omega), fun c => ⟨⟨h0, by omega⟩, ?_, ?_⟩⟩
      · intro c2
        have c3 : bAnd (M 15 tr t) 1 = 0 := by
          by_cases q : bAnd (M 15 tr t) 1 = 0
          · exact q
          · rw [if_neg q] at c2
            omega
        rw [if_pos c3] at hk
        exact ⟨by omega, ih (t + 1) (by omega) (by omega) hk⟩
      · intro c2
        have c3 : ¬ bAnd (M 15 tr t) 1 = 0 := by
          intro q
          rw [if_pos q] at c2
          omega
        rw [if_neg c3] at hk
        exact hk
  exact loop (M 5 1 0 - i).toNat i (by omega) (by omega) hk
