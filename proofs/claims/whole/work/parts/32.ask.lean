/-! ===== GapTellings: what is asked ===== -/
/-! ===== GapTellings.ticksOpenNow ===== -/
abbrev rmX7_ticksOpenNow : Room := { frames := 3, cells := 0, slots := 0, locals := 72 }
abbrev argX7_ticksOpenNow (a : Int × Int) : List PV := [.inr (0, 0), .inl a.1, .inl a.2]
abbrev CtX7_ticksOpenNow (sp : Int → Int → Mem → Kont → Prop) : Prop := Ct yX7_ticksOpenNow cX7_ticksOpenNow 5 (some .int) rmX7_ticksOpenNow domC argX7_ticksOpenNow (fun a => sp a.1 a.2)
theorem dX7_ticksOpenNow_0 : decode cX7_ticksOpenNow 0 = .ok (.iconst 0, 1) := by decide +kernel
theorem dX7_ticksOpenNow_1 : decode cX7_ticksOpenNow 1 = .ok (.istore_n 3, 1) := by decide +kernel
theorem dX7_ticksOpenNow_2 : decode cX7_ticksOpenNow 2 = .ok (.iconst 0, 1) := by decide +kernel
theorem dX7_ticksOpenNow_3 : decode cX7_ticksOpenNow 3 = .ok (.istore 4, 2) := by decide +kernel
theorem dX7_ticksOpenNow_5 : decode cX7_ticksOpenNow 5 = .ok (.iload 4, 2) := by decide +kernel
theorem dX7_ticksOpenNow_7 : decode cX7_ticksOpenNow 7 = .ok (.aload_n 0, 1) := by decide +kernel
theorem dX7_ticksOpenNow_8 : decode cX7_ticksOpenNow 8 = .ok (.getfield 27, 3) := by decide +kernel
theorem dX7_ticksOpenNow_11 : decode cX7_ticksOpenNow 11 = .ok (.getfield 113, 3) := by decide +kernel
theorem dX7_ticksOpenNow_14 : decode cX7_ticksOpenNow 14 = .ok (.if_icmp .ge 30, 3) := by decide +kernel
theorem dX7_ticksOpenNow_17 : decode cX7_ticksOpenNow 17 = .ok (.aload_n 0, 1) := by decide +kernel
theorem dX7_ticksOpenNow_18 : decode cX7_ticksOpenNow 18 = .ok (.getfield 45, 3) := by decide +kernel
theorem dX7_ticksOpenNow_21 : decode cX7_ticksOpenNow 21 = .ok (.aload_n 0, 1) := by decide +kernel
theorem dX7_ticksOpenNow_22 : decode cX7_ticksOpenNow 22 = .ok (.getfield 35, 3) := by decide +kernel
theorem dX7_ticksOpenNow_25 : decode cX7_ticksOpenNow 25 = .ok (.iload_n 1, 1) := by decide +kernel
theorem dX7_ticksOpenNow_26 : decode cX7_ticksOpenNow 26 = .ok (.iload_n 2, 1) := by decide +kernel
theorem dX7_ticksOpenNow_27 : decode cX7_ticksOpenNow 27 = .ok (.iload 4, 2) := by decide +kernel
theorem dX7_ticksOpenNow_29 : decode cX7_ticksOpenNow 29 = .ok (.invokevirtual 158, 3) := by decide +kernel
theorem dX7_ticksOpenNow_32 : decode cX7_ticksOpenNow 32 = .ok (.ifCond .ne 6, 3) := by decide +kernel
theorem dX7_ticksOpenNow_35 : decode cX7_ticksOpenNow 35 = .ok (.iinc 3 1, 3) := by decide +kernel
theorem dX7_ticksOpenNow_38 : decode cX7_ticksOpenNow 38 = .ok (.iinc 4 1, 3) := by decide +kernel
theorem dX7_ticksOpenNow_41 : decode cX7_ticksOpenNow 41 = .ok (.goto (-36), 3) := by decide +kernel
theorem dX7_ticksOpenNow_44 : decode cX7_ticksOpenNow 44 = .ok (.iload_n 3, 1) := by decide +kernel
theorem dX7_ticksOpenNow_45 : decode cX7_ticksOpenNow 45 = .ok (.ireturn, 1) := by decide +kernel
set_option maxHeartbeats 4000000 in
set_option maxRecDepth 20000 in
theorem sgX7_ticksOpenNow_0 {κ : Kx} {K : Kont} {M : Mem} (C : Cx κ RX7 cX7_ticksOpenNow 5 (some .int) rmX7_ticksOpenNow domC) (x1 : Int) (x2 : Int)
    (h :
    V κ 5 M 5 [some (.inr (0, 0)), some (.inl x1), some (.inl x2), some (.inl 0), some (.inl 0)] [] K) : V κ 5 M 0 [some (.inr (0, 0)), some (.inl x1), some (.inl x2), none, none] [] K := by
  refine v_iconst C dX7_ticksOpenNow_0 (by decide) ?_
  refine v_istore_n C dX7_ticksOpenNow_1 (by decide) (Nat.le_of_ble_eq_true rfl) (lv' := [some (.inr (0, 0)), some (.inl x1), some (.inl x2), some (.inl 0), none]) rfl ?_
  refine v_iconst C dX7_ticksOpenNow_2 (by decide) ?_
  refine v_istore C dX7_ticksOpenNow_3 (by decide) (Nat.le_of_ble_eq_true rfl) (lv' := [some (.inr (0, 0)), some (.inl x1), some (.inl x2), some (.inl 0), some (.inl 0)]) rfl ?_
  refine v_weak [some (.inr (0, 0)), some (.inl x1), some (.inl x2), some (.inl 0), some (.inl 0)] ⟨rfl, rfl, rfl, rfl, rfl, trivial⟩ ?_
  exact h
set_option maxHeartbeats 4000000 in
set_option maxRecDepth 20000 in
theorem sgX7_ticksOpenNow_5 {κ : Kx} {K : Kont} {M : Mem} (C : Cx κ RX7 cX7_ticksOpenNow 5 (some .int) rmX7_ticksOpenNow domC) (x1 : Int) (x2 : Int) (x3 : Int) (x4 : Int)
    (h :
    (((M 5 1 0) ≤ x4 →
      K (some x3) M) ∧
     (¬ ((M 5 1 0) ≤ x4) →
      spX4_whyNot 0 0 x1 x2 x4 M (rI (fun r29 M29 =>
      ((r29 ≠ 0 →
        inR (x4 + 1) ∧
        V κ 5 M29 5 [some (.inr (0, 0)), some (.inl x1), some (.inl x2), some (.inl x3), some (.inl (x4 + 1))] [] K) ∧
       (¬ (r29 ≠ 0) →
        inR (x3 + 1) ∧
        inR (x4 + 1) ∧
        V κ 5 M29 5 [some (.inr (0, 0)), some (.inl x1), some (.inl x2), some (.inl (x3 + 1)), some (.inl (x4 + 1))] [] K))))))) : V κ 5 M 5 [some (.inr (0, 0)), some (.inl x1), some (.inl x2), some (.inl x3), some (.inl x4)] [] K := by
  refine v_iload C dX7_ticksOpenNow_5 rfl ?_
  refine v_aload_n C dX7_ticksOpenNow_7 rfl ?_
  refine v_get C dX7_ticksOpenNow_8 flX7_27 rfl (by decide) (by decide) (w := .inr (5, 1)) rfl ?_
  refine v_get C dX7_ticksOpenNow_11 flX7_113 rfl (by decide) (by decide) (w := .inl (M 5 1 0)) rfl ?_
  refine v_icmp C dX7_ticksOpenNow_14 (tgt := 44) (by decide) (P := (M 5 1 0) ≤ x4) rfl (fun c14 => ?_) (fun c14 => ?_)
  · replace h := h.1 c14
    refine v_iload_n C dX7_ticksOpenNow_44 rfl ?_
    exact v_iret C dX7_ticksOpenNow_45 h
  · replace h := h.2 c14
    refine v_aload_n C dX7_ticksOpenNow_17 rfl ?_
    refine v_get C dX7_ticksOpenNow_18 flX7_45 rfl (by decide) (by decide) (w := .inr (18, 0)) rfl ?_
    refine v_aload_n C dX7_ticksOpenNow_21 rfl ?_
    refine v_get C dX7_ticksOpenNow_22 flX7_35 rfl (by decide) (by decide) (w := .inr (14, 0)) rfl ?_
    refine v_iload_n C dX7_ticksOpenNow_25 rfl ?_
    refine v_iload_n C dX7_ticksOpenNow_26 rfl ?_
    refine v_iload C dX7_ticksOpenNow_27 rfl ?_
    refine v_invV C ctX4_whyNot dX7_ticksOpenNow_29 ivX7_158 ⟨by decide, by decide, rfl, rfl⟩ ((0, 0, x1, x2, x4) : Int × Int × Int × Int × Int) (As := [.inr (14, 0), .inl x1, .inl x2, .inl x4]) rfl rfl rfl (by decide) rfl (st := []) rfl (Nat.le_of_ble_eq_true rfl) h (fun o M29 oM29 io29 g29 => ?_)
    replace h := rI_out g29
    clear g29
    obtain ⟨r29, rfl, h⟩ := h
    refine v_push ?_
    refine v_if C dX7_ticksOpenNow_32 (tgt := 38) (by decide) (P := r29 ≠ 0) rfl (fun c32 => ?_) (fun c32 => ?_)
    · replace h := h.1 c32
      refine v_iinc C dX7_ticksOpenNow_38 (by decide) rfl h.1 (lv' := [some (.inr (0, 0)), some (.inl x1), some (.inl x2), some (.inl x3), some (.inl (x4 + 1))]) rfl ?_
      replace h := h.2
      refine v_goto C dX7_ticksOpenNow_41 (tgt := 5) (by decide) ?_
      refine v_weak [some (.inr (0, 0)), some (.inl x1), some (.inl x2), some (.inl x3), some (.inl (x4 + 1))] ⟨rfl, rfl, rfl, rfl, rfl, trivial⟩ ?_
      exact h
    · replace h := h.2 c32
      refine v_iinc C dX7_ticksOpenNow_35 (by decide) rfl h.1 (lv' := [some (.inr (0, 0)), some (.inl x1), some (.inl x2), some (.inl (x3 + 1)), some (.inl x4)]) rfl ?_
      replace h := h.2
      refine v_iinc C dX7_ticksOpenNow_38 (by decide) rfl h.1 (lv' := [some (.inr (0, 0)), some (.inl x1), some (.inl x2), some (.inl (x3 + 1)), some (.inl (x4 + 1))]) rfl ?_
      replace h := h.2
      refine v_goto C dX7_ticksOpenNow_41 (tgt := 5) (by decide) ?_
      refine v_weak [some (.inr (0, 0)), some (.inl x1), some (.inl x2), some (.inl (x3 + 1)), some (.inl (x4 + 1))] ⟨rfl, rfl, rfl, rfl, rfl, trivial⟩ ?_
      exact h
noncomputable def onN (F : Film) (S ver sta : Int → Int) (p v : Int) : Nat → Int := sumN (fun t => if whyW F S ver sta p v t = 0 then 1 else 0)
theorem onN_rng (F : Film) (S ver sta : Int → Int) (p v : Int) (n : Nat) : 0 ≤ onN F S ver sta p v n ∧ onN F S ver sta p v n ≤ n := by
  have := sum_rng (f := fun t => if whyW F S ver sta p v t = 0 then 1 else 0) (B := 1) (fun t => by split <;> omega) n
  unfold onN
  omega
theorem onN_c {F G : Film} {S S' ver sta ver' sta' : Int → Int} (hf : WFf F) (hg : FEq F G) (hS : SEq (F 0 0 0) S S') (hP : PlK F ver sta) (he : PlEq ver sta ver' sta') {p v : Int} (hp : 0 ≤ p) (hp2 : p < F 3 0 0) (hv : 0 ≤ v) (hv2 : v < F 11 p 0) (n : Nat) : onN F S ver sta p v n = onN G S' ver' sta' p v n :=
  sumN_c n (fun t a _ => by rw [whyW_c hf hg hS hP he hp hp2 hv hv2 a])
abbrev spX7_ticksOpenNow (p v : Int) (M : Mem) (K : Kont) : Prop := (WFf (cFilm M 1) ∧ PlK (cFilm M 1) (M 19 0) (M 20 0) ∧ (0 ≤ p ∧ p < M 5 1 7) ∧ (0 ≤ v ∧ v < M 11 (7 * 1 + p) 4)) ∧ K (some (onN (cFilm M 1) (M 16 0) (M 19 0) (M 20 0) p v (M 5 1 0).toNat)) M
theorem ctX7_ticksOpenNow : CtX7_ticksOpenNow spX7_ticksOpenNow := by
  refine ct_of (by decide) dmC (fun _ => Nat.le_of_ble_eq_true rfl) ?_
  intro κ a M K C oM h
  obtain ⟨p, v⟩ := a
  dsimp only [spX7_ticksOpenNow] at h
  obtain ⟨⟨hf, hP, hp, hv⟩, hk⟩ := h
  have h0 := hf.1
  have e0 : cFilm M 1 0 0 0 = M 5 1 0 := rfl
  refine sgX7_ticksOpenNow_0 C p v ?_
  have loop : ∀ (n : Nat) (t o : Int), 0 ≤ t → t + n = M 5 1 0 → o = onN (cFilm M 1) (M 16 0) (M 19 0) (M 20 0) p v t.toNat →
      V κ 5 M 5 [some (.inr (0, 0)), some (.inl p), some (.inl v), some (.inl o), some (.inl t)] [] K := by
    intro n
    induction n with
    | zero =>
      intro t o t0 hn ho
      refine sgX7_ticksOpenNow_5 C p v o t ⟨fun c => ?_, fun c => absurd (by omega) c⟩
      have e : t = M 5 1 0 := by omega
      rw [ho, e]
      exact hk
    | succ n ih =>
      intro t o t0 hn ho
      have hr := onN_rng (cFilm M 1) (M 16 0) (M 19 0) (M 20 0) p v t.toNat
      have hs : onN (cFilm M 1) (M 16 0) (M 19 0) (M 20 0) p v (t + 1).toNat = onN (cFilm M 1) (M 16 0) (M 19 0) (M 20 0) p v t.toNat + (if whyW (cFilm M 1) (M 16 0) (M 19 0) (M 20 0) p v t = 0 then 1 else 0) := sumN_s _ t0
      refine sgX7_ticksOpenNow_5 C p v o t ⟨fun c => absurd c (by omega), fun c => ⟨⟨hf, hP, hp, hv, t0, by omega⟩, fun c2 => ⟨by omega, ?_⟩, fun c2 => ⟨by omega, by omega, ?_⟩⟩⟩
      · refine ih (t + 1) o (by omega) (by omega) ?_
        rw [hs, if_neg c2, ho]
        omega
      · refine ih (t + 1) (o + 1) (by omega) (by omega) ?_
        rw [hs, if_pos (Classical.byContradiction c2), ho]
  exact loop (M 5 1 0).toNat 0 0 (by omega) (by omega) rfl
/-! ===== GapTellings.told ===== -/
abbrev rmX7_told : Room := { frames := 4, cells := 0, slots := 0, locals := 96 }
abbrev argX7_told (a : Int × Int × Int) : List PV := [.inr (0, 0), .inl a.1, .inl a.2.1, .inl a.2.2]
abbrev CtX7_told (sp : Int → Int → Int → Mem → Kont → Prop) : Prop := Ct yX7_told cX7_told 4 (some .int) rmX7_told domC argX7_told (fun a => sp a.1 a.2.1 a.2.2)
theorem dX7_told_0 : decode cX7_told 0 = .ok (.aload_n 0, 1) := by decide +kernel
theorem dX7_told_1 : decode cX7_told 1 = .ok (.iload_n 1, 1) := by decide +kernel
theorem dX7_told_2 : decode cX7_told 2 = .ok (.iload_n 2, 1) := by decide +kernel
theorem dX7_told_3 : decode cX7_told 3 = .ok (.invokevirtual 151, 3) := by decide +kernel
theorem dX7_told_6 : decode cX7_told 6 = .ok (.ifCond .ne 5, 3) := by decide +kernel
theorem dX7_told_9 : decode cX7_told 9 = .ok (.iconst (-1), 1) := by decide +kernel
theorem dX7_told_10 : decode cX7_told 10 = .ok (.ireturn, 1) := by decide +kernel
theorem dX7_told_11 : decode cX7_told 11 = .ok (.iload_n 3, 1) := by decide +kernel
theorem dX7_told_12 : decode cX7_told 12 = .ok (.tableswitch 93 0 4 #[36, 51, 66, 73, 83], 36) := by decide +kernel
theorem dX7_told_48 : decode cX7_told 48 = .ok (.aload_n 0, 1) := by decide +kernel
theorem dX7_told_49 : decode cX7_told 49 = .ok (.getfield 27, 3) := by decide +kernel
theorem dX7_told_52 : decode cX7_told 52 = .ok (.getfield 138, 3) := by decide +kernel
theorem dX7_told_55 : decode cX7_told 55 = .ok (.iload_n 1, 1) := by decide +kernel
theorem dX7_told_56 : decode cX7_told 56 = .ok (.aaload, 1) := by decide +kernel
theorem dX7_told_57 : decode cX7_told 57 = .ok (.getfield 212, 3) := by decide +kernel
theorem dX7_told_60 : decode cX7_told 60 = .ok (.iload_n 2, 1) := by decide +kernel
theorem dX7_told_61 : decode cX7_told 61 = .ok (.iaload, 1) := by decide +kernel
theorem dX7_told_62 : decode cX7_told 62 = .ok (.ireturn, 1) := by decide +kernel
theorem dX7_told_63 : decode cX7_told 63 = .ok (.aload_n 0, 1) := by decide +kernel
theorem dX7_told_64 : decode cX7_told 64 = .ok (.getfield 27, 3) := by decide +kernel
theorem dX7_told_67 : decode cX7_told 67 = .ok (.getfield 138, 3) := by decide +kernel
theorem dX7_told_70 : decode cX7_told 70 = .ok (.iload_n 1, 1) := by decide +kernel
theorem dX7_told_71 : decode cX7_told 71 = .ok (.aaload, 1) := by decide +kernel
theorem dX7_told_72 : decode cX7_told 72 = .ok (.getfield 215, 3) := by decide +kernel
theorem dX7_told_75 : decode cX7_told 75 = .ok (.iload_n 2, 1) := by decide +kernel
theorem dX7_told_76 : decode cX7_told 76 = .ok (.iaload, 1) := by decide +kernel
theorem dX7_told_77 : decode cX7_told 77 = .ok (.ireturn, 1) := by decide +kernel
theorem dX7_told_78 : decode cX7_told 78 = .ok (.aload_n 0, 1) := by decide +kernel
theorem dX7_told_79 : decode cX7_told 79 = .ok (.iload_n 1, 1) := by decide +kernel
theorem dX7_told_80 : decode cX7_told 80 = .ok (.iload_n 2, 1) := by decide +kernel
theorem dX7_told_81 : decode cX7_told 81 = .ok (.invokevirtual 218, 3) := by decide +kernel
theorem dX7_told_84 : decode cX7_told 84 = .ok (.ireturn, 1) := by decide +kernel
theorem dX7_told_85 : decode cX7_told 85 = .ok (.aload_n 0, 1) := by decide +kernel
theorem dX7_told_86 : decode cX7_told 86 = .ok (.getfield 35, 3) := by decide +kernel
theorem dX7_told_89 : decode cX7_told 89 = .ok (.iload_n 1, 1) := by decide +kernel
theorem dX7_told_90 : decode cX7_told 90 = .ok (.iload_n 2, 1) := by decide +kernel
theorem dX7_told_91 : decode cX7_told 91 = .ok (.invokevirtual 221, 3) := by decide +kernel
theorem dX7_told_94 : decode cX7_told 94 = .ok (.ireturn, 1) := by decide +kernel
theorem dX7_told_95 : decode cX7_told 95 = .ok (.aload_n 0, 1) := by decide +kernel
theorem dX7_told_96 : decode cX7_told 96 = .ok (.getfield 35, 3) := by decide +kernel
theorem dX7_told_99 : decode cX7_told 99 = .ok (.iload_n 1, 1) := by decide +kernel
theorem dX7_told_100 : decode cX7_told 100 = .ok (.iload_n 2, 1) := by decide +kernel
theorem dX7_told_101 : decode cX7_told 101 = .ok (.invokevirtual 224, 3) := by decide +kernel
theorem dX7_told_104 : decode cX7_told 104 = .ok (.ireturn, 1) := by decide +kernel
theorem dX7_told_105 : decode cX7_told 105 = .ok (.iconst (-1), 1) := by decide +kernel
theorem dX7_told_106 : decode cX7_told 106 = .ok (.ireturn, 1) := by decide +kernel
theorem flX7_212 : FL RX7 212 3 5 := ⟨_, _, _, rfl, by decide, uwX3, Or.inr ⟨"GapTellings", (nw_mem (t_in1 (List.mem_of_getElem? (i := 86) (by decide +kernel))) (by decide +kernel))⟩⟩
theorem flX7_215 : FL RX7 215 3 6 := ⟨_, _, _, rfl, by decide, uwX3, Or.inr ⟨"GapTellings", (nw_mem (t_in1 (List.mem_of_getElem? (i := 90) (by decide +kernel))) (by decide +kernel))⟩⟩
theorem ivX7_218 : IV RX7 218 yX7_ticksOpenNow cX7_ticksOpenNow 5 (some .int) 2 := ⟨(tb_mem (t_in3 (List.mem_of_getElem? (i := 228) (by decide +kernel))) (by decide +kernel)), (tb_mem (t_in3 (List.mem_of_getElem? (i := 230) (by decide +kernel))) (by decide +kernel)), (tb_sel (q := (⟨"GapTellings", "ticksOpenNow", "(II)I"⟩, 13)) (List.mem_of_getElem? (i := 7) (by decide +kernel)) (by decide +kernel)), (tb_mem (t_in1 (List.mem_of_getElem? (i := 1) (by decide +kernel))) (by decide +kernel)), (tb_mem (t_in3 (List.mem_of_getElem? (i := 231) (by decide +kernel))) (by decide +kernel)), ⟨by decide +kernel, by decide +kernel, by decide +kernel⟩⟩
theorem ivX7_221 : IV RX7 221 yX6_ticksOpen cX6_ticksOpen 5 (some .int) 2 := ⟨(tb_mem (t_in3 (List.mem_of_getElem? (i := 232) (by decide +kernel))) (by decide +kernel)), (tb_mem (t_in3 (List.mem_of_getElem? (i := 233) (by decide +kernel))) (by decide +kernel)), (tb_mem (t_in3 (List.mem_of_getElem? (i := 234) (by decide +kernel))) (by decide +kernel)), (tb_mem (t_in1 (List.mem_of_getElem? (i := 5) (by decide +kernel))) (by decide +kernel)), (tb_mem (t_in3 (List.mem_of_getElem? (i := 235) (by decide +kernel))) (by decide +kernel)), ⟨by decide +kernel, by decide +kernel, by decide +kernel⟩⟩
theorem ivX7_224 : IV RX7 224 yX6_greatestGain cX6_greatestGain 5 (some .int) 2 := ⟨(tb_mem (t_in3 (List.mem_of_getElem? (i := 237) (by decide +kernel))) (by decide +kernel)), (tb_mem (t_in3 (List.mem_of_getElem? (i := 238) (by decide +kernel))) (by decide +kernel)), (tb_mem (t_in3 (List.mem_of_getElem? (i := 239) (by decide +kernel))) (by decide +kernel)), (tb_mem (t_in1 (List.mem_of_getElem? (i := 5) (by decide +kernel))) (by decide +kernel)), (tb_mem (t_in4 (List.mem_of_getElem? (i := 0) (by decide +kernel))) (by decide +kernel)), ⟨by decide +kernel, by decide +kernel, by decide +kernel⟩⟩
set_option maxHeartbeats 4000000 in
set_option maxRecDepth 20000 in
theorem sgX7_told_0 {κ : Kx} {K : Kont} {M : Mem} (C : Cx κ RX7 cX7_told 4 (some .int) rmX7_told domC) (x1 : Int) (x2 : Int) (x3 : Int)
    (h :
    spX7_hasVersion x1 x2 M (rI (fun r3 M3 =>
    ((r3 ≠ 0 →
      ((x3 = 0 →
        (0 ≤ x1 ∧ x1 < 7) ∧
        (0 ≤ x2 ∧ x2 < 3) ∧
        K (some (M3 12 (7 * 1 + x1) x2)) M3) ∧
       (x3 = 1 →
        (0 ≤ x1 ∧ x1 < 7) ∧
        (0 ≤ x2 ∧ x2 < 3) ∧
        K (some (M3 13 (7 * 1 + x1) x2)) M3) ∧
       (x3 = 2 →
        spX7_ticksOpenNow x1 x2 M3 (rI (fun r81 M81 =>
        K (some r81) M81))) ∧
       (x3 = 3 →
        spX6_ticksOpen 0 x1 x2 M3 (rI (fun r91 M91 =>
        K (some r91) M91))) ∧
       (x3 = 4 →
        spX6_greatestGain 0 x1 x2 M3 (rI (fun r101 M101 =>
        K (some r101) M101))) ∧
       (x3 < 0 ∨ 4 < x3 →
        K (some (-1)) M3))) ∧
     (¬ (r3 ≠ 0) →
      K (some (-1)) M3))))) : V κ 4 M 0 [some (.inr (0, 0)), some (.inl x1), some (.inl x2), some (.inl x3)] [] K := by
  refine v_aload_n C dX7_told_0 rfl ?_
  refine v_iload_n C dX7_told_1 rfl ?_
  refine v_iload_n C dX7_told_2 rfl ?_
  refine v_invV C ctX7_hasVersion dX7_told_3 ivX7_151 ⟨by decide, by decide, rfl, rfl⟩ ((x1, x2) : Int × Int) (As := [.inl x1, .inl x2]) rfl rfl rfl (by decide) rfl (st := []) rfl (Nat.le_of_ble_eq_true rfl) h (fun o M3 oM3 io3 g3 => ?_)
  replace h := rI_out g3
  clear g3
  obtain ⟨r3, rfl, h⟩ := h
  refine v_push ?_
  refine v_if C dX7_told_6 (tgt := 11) (by decide) (P := r3 ≠ 0) rfl (fun c6 => ?_) (fun c6 => ?_)
  · replace h := h.1 c6
    refine v_iload_n C dX7_told_11 rfl ?_
    refine v_tsw C dX7_told_12 (dt := 105) (by decide) (fun j hj hh => ?_) (fun ho => ?_)
    · have hjj : j = 0 ∨ j = 1 ∨ j = 2 ∨ j = 3 ∨ j = 4 := by omega
      rcases hjj with rfl | rfl | rfl | rfl | rfl
      · refine ⟨36, 48, rfl, by decide, ?_⟩
        replace h := h.1 (by omega)
        refine v_aload_n C dX7_told_48 rfl ?_
        refine v_get C dX7_told_49 flX7_27 rfl (by decide) (by decide) (w := .inr (5, 1)) rfl ?_
        refine v_get C dX7_told_52 flX7_138 rfl (by decide) (by decide) (w := .inr (10, 1)) rfl ?_
        refine v_iload_n C dX7_told_55 rfl ?_
        refine v_aald C dX7_told_56 h.1.1 h.1.2 ?_
        replace h := h.2
        refine v_get C dX7_told_57 flX7_212 rfl (by decide) (by decide) (w := .inr (12, 7 * 1 + x1)) rfl ?_
        refine v_iload_n C dX7_told_60 rfl ?_
        refine v_iald C dX7_told_61 rfl h.1.1 h.1.2 ?_
        replace h := h.2
        exact v_iret C dX7_told_62 h
      · refine ⟨51, 63, rfl, by decide, ?_⟩
        replace h := h.2.1 (by omega)
        refine v_aload_n C dX7_told_63 rfl ?_
        refine v_get C dX7_told_64 flX7_27 rfl (by decide) (by decide) (w := .inr (5, 1)) rfl ?_
        refine v_get C dX7_told_67 flX7_138 rfl (by decide) (by decide) (w := .inr (10, 1)) rfl ?_
        refine v_iload_n C dX7_told_70 rfl ?_
        refine v_aald C dX7_told_71 h.1.1 h.1.2 ?_
        replace h := h.2
        refine v_get C dX7_told_72 flX7_215 rfl (by decide) (by decide) (w := .inr (13, 7 * 1 + x1)) rfl ?_
        refine v_iload_n C dX7_told_75 rfl ?_
        refine v_iald C dX7_told_76 rfl h.1.1 h.1.2 ?_
        replace h := h.2
        exact v_iret C dX7_told_77 h
      · refine ⟨66, 78, rfl, by decide, ?_⟩
        replace h := h.2.2.1 (by omega)
        refine v_aload_n C dX7_told_78 rfl ?_
        refine v_iload_n C dX7_told_79 rfl ?_
        refine v_iload_n C dX7_told_80 rfl ?_
        refine v_invV C ctX7_ticksOpenNow dX7_told_81 ivX7_218 ⟨by decide, by decide, rfl, rfl⟩ ((x1, x2) : Int × Int) (As := [.inl x1, .inl x2]) rfl rfl rfl (by decide) rfl (st := []) rfl (Nat.le_of_ble_eq_true rfl) h (fun o M81 oM81 io81 g81 => ?_)
        replace h := rI_out g81
        clear g81
        obtain ⟨r81, rfl, h⟩ := h
        refine v_push ?_
        exact v_iret C dX7_told_84 h
      · refine ⟨73, 85, rfl, by decide, ?_⟩
        replace h := h.2.2.2.1 (by omega)
        refine v_aload_n C dX7_told_85 rfl ?_
        refine v_get C dX7_told_86 flX7_35 rfl (by decide) (by decide) (w := .inr (14, 0)) rfl ?_
        refine v_iload_n C dX7_told_89 rfl ?_
        refine v_iload_n C dX7_told_90 rfl ?_
        refine v_invV C ctX6_ticksOpen dX7_told_91 ivX7_221 ⟨by decide, by decide, rfl, rfl⟩ ((0, x1, x2) : Int × Int × Int) (As := [.inl x1, .inl x2]) rfl rfl rfl (by decide) rfl (st := []) rfl (Nat.le_of_ble_eq_true rfl) h (fun o M91 oM91 io91 g91 => ?_)
        replace h := rI_out g91
        clear g91
        obtain ⟨r91, rfl, h⟩ := h
        refine v_push ?_
        exact v_iret C dX7_told_94 h
      · refine ⟨83, 95, rfl, by decide, ?_⟩
        replace h := h.2.2.2.2.1 (by omega)
        refine v_aload_n C dX7_told_95 rfl ?_
        refine v_get C dX7_told_96 flX7_35 rfl (by decide) (by decide) (w := .inr (14, 0)) rfl ?_
        refine v_iload_n C dX7_told_99 rfl ?_
        refine v_iload_n C dX7_told_100 rfl ?_
        refine v_invV C ctX6_greatestGain dX7_told_101 ivX7_224 ⟨by decide, by decide, rfl, rfl⟩ ((0, x1, x2) : Int × Int × Int) (As := [.inl x1, .inl x2]) rfl rfl rfl (by decide) rfl (st := []) rfl (Nat.le_of_ble_eq_true rfl) h (fun o M101 oM101 io101 g101 => ?_)
        replace h := rI_out g101
        clear g101
        obtain ⟨r101, rfl, h⟩ := h
        refine v_push ?_
        exact v_iret C dX7_told_104 h
    · replace h := h.2.2.2.2.2 ho
      refine v_iconst C dX7_told_105 (by decide) ?_
      exact v_iret C dX7_told_106 h
  · replace h := h.2 c6
    refine v_iconst C dX7_told_9 (by decide) ?_
    exact v_iret C dX7_told_10 h
noncomputable def tldA (F : Film) (ver sta : Int → Int) (p v w : Int) : Int :=
  if ¬ hasV F p v then -1 else if w = 0 then F 13 p v else if w = 1 then F 14 p v else if w = 2 then onN F (spb F) ver sta p v (F 0 0 0).toNat else if w = 3 then opN F (spb F) p v (F 0 0 0).toNat else if w = 4 then ggN F (spb F) (csb F) p v (F 0 0 0).toNat else -1
abbrev spX7_told (p v w : Int) (M : Mem) (K : Kont) : Prop := InvC M ∧ K (some (tldA (cFilm M 1) (M 19 0) (M 20 0) p v w)) M
theorem ctX7_told : CtX7_told spX7_told := by
  refine ct_of (by decide) dmC (fun _ => Nat.le_of_ble_eq_true rfl) ?_
  intro κ a M K C oM h
  obtain ⟨p, v, w⟩ := a
  obtain ⟨hI, hk⟩ := h
  have hk : K (some (tldA (cFilm M 1) (M 19 0) (M 20 0) p v w)) M := hk
  have hf := hI.1.2.1
  have h0 := hf.1
  have n3 := hf.2.2.2.1
  have e3 : cFilm M 1 3 0 0 = M 5 1 7 := rfl
  unfold tldA at hk
  refine sgX7_told_0 C p v w ⟨by omega, fun c => ?_, fun c => ?_⟩
  · have c1 := if10 c
    have wv := wf_pv hf c1.1.1 c1.1.2 c1.2.1 c1.2.2
    rw [if_neg (fun z => z c1)] at hk
    refine ⟨fun z => ⟨by omega, by omega, ?_⟩, fun z => ⟨by omega, by omega, ?_⟩, fun z => ⟨⟨hf, hI.1.2.2.2.2.1, c1.1, c1.2⟩, ?_⟩, fun z => ⟨⟨hf, c1.1, c1.2⟩, ?_⟩, fun z => ⟨⟨hf, hI.1.2.2.1.1, c1.1, c1.2⟩, ?_⟩, fun z => ?_⟩
    · rw [if_pos z] at hk; exact hk
    · rw [if_neg (by omega), if_pos z] at hk; exact hk
    · rw [if_neg (by omega), if_neg (by omega), if_pos z, ← onN_c hf FEq.rf hI.S hI.1.2.2.2.2.1 PlEq.rfl' c1.1.1 c1.1.2 c1.2.1 c1.2.2] at hk; exact hk
    · rw [if_neg (by omega), if_neg (by omega), if_neg (by omega), if_pos z, ← opN_c hf FEq.rf hI.S c1.1.1 c1.1.2 c1.2.1 c1.2.2] at hk; exact hk
    · rw [if_neg (by omega), if_neg (by omega), if_neg (by omega), if_neg (by omega), if_pos z, ← ggN_c hf FEq.rf hI.S hI.Q c1.1.1 c1.1.2 c1.2.1 c1.2.2 _ (by omega)] at hk; exact hk
    · rw [if_neg (by omega), if_neg (by omega), if_neg (by omega), if_neg (by omega), if_neg (by omega)] at hk; exact hk
  · rw [if_pos (if10n (by omega))] at hk
    exact hk
/-! ===== GapTellings.tick ===== -/
abbrev rmX7_tick : Room := { frames := 3, cells := 0, slots := 0, locals := 66 }
abbrev argX7_tick (a : Int) : List PV := [.inr (0, 0), .inl a]
abbrev CtX7_tick (sp : Int → Mem → Kont → Prop) : Prop := Ct yX7_tick cX7_tick 2 (some .int) rmX7_tick domC argX7_tick (fun a => sp a)
theorem dX7_tick_0 : decode cX7_tick 0 = .ok (.aload_n 0, 1) := by decide +kernel
theorem dX7_tick_1 : decode cX7_tick 1 = .ok (.iload_n 1, 1) := by decide +kernel
theorem dX7_tick_2 : decode cX7_tick 2 = .ok (.invokevirtual 155, 3) := by decide +kernel
theorem dX7_tick_5 : decode cX7_tick 5 = .ok (.ifCond .ne 5, 3) := by decide +kernel
theorem dX7_tick_8 : decode cX7_tick 8 = .ok (.iconst (-1), 1) := by decide +kernel
theorem dX7_tick_9 : decode cX7_tick 9 = .ok (.ireturn, 1) := by decide +kernel
theorem dX7_tick_10 : decode cX7_tick 10 = .ok (.aload_n 0, 1) := by decide +kernel
theorem dX7_tick_11 : decode cX7_tick 11 = .ok (.getfield 35, 3) := by decide +kernel
theorem dX7_tick_14 : decode cX7_tick 14 = .ok (.getfield 227, 3) := by decide +kernel
theorem dX7_tick_17 : decode cX7_tick 17 = .ok (.iload_n 1, 1) := by decide +kernel
theorem dX7_tick_18 : decode cX7_tick 18 = .ok (.iaload, 1) := by decide +kernel
theorem dX7_tick_19 : decode cX7_tick 19 = .ok (.aload_n 0, 1) := by decide +kernel
theorem dX7_tick_20 : decode cX7_tick 20 = .ok (.getfield 45, 3) := by decide +kernel
theorem dX7_tick_23 : decode cX7_tick 23 = .ok (.iload_n 1, 1) := by decide +kernel
theorem dX7_tick_24 : decode cX7_tick 24 = .ok (.invokevirtual 230, 3) := by decide +kernel
theorem dX7_tick_27 : decode cX7_tick 27 = .ok (.ifCond .eq 8, 3) := by decide +kernel
theorem dX7_tick_30 : decode cX7_tick 30 = .ok (.bipush 8, 2) := by decide +kernel
theorem dX7_tick_32 : decode cX7_tick 32 = .ok (.goto 4, 3) := by decide +kernel
theorem dX7_tick_35 : decode cX7_tick 35 = .ok (.iconst 0, 1) := by decide +kernel
theorem dX7_tick_36 : decode cX7_tick 36 = .ok (.ior, 1) := by decide +kernel
theorem dX7_tick_37 : decode cX7_tick 37 = .ok (.ireturn, 1) := by decide +kernel
theorem flX7_227 : FL RX7 227 6 1 := ⟨_, _, _, rfl, by decide, uwX6, Or.inr ⟨"GapTellings", (nw_mem (t_in1 (List.mem_of_getElem? (i := 171) (by decide +kernel))) (by decide +kernel))⟩⟩
theorem ivX7_230 : IV RX7 230 yX4_tellsAt cX4_tellsAt 2 (some .boolean) 1 := ⟨(tb_mem (t_in4 (List.mem_of_getElem? (i := 8) (by decide +kernel))) (by decide +kernel)), (tb_mem (t_in4 (List.mem_of_getElem? (i := 9) (by decide +kernel))) (by decide +kernel)), (tb_mem (t_in4 (List.mem_of_getElem? (i := 10) (by decide +kernel))) (by decide +kernel)), (tb_mem (t_in1 (List.mem_of_getElem? (i := 6) (by decide +kernel))) (by decide +kernel)), (tb_mem (t_in4 (List.mem_of_getElem? (i := 11) (by decide +kernel))) (by decide +kernel)), ⟨by decide +kernel, by decide +kernel, by decide +kernel⟩⟩
set_option maxHeartbeats 4000000 in
set_option maxRecDepth 20000 in
theorem sgX7_tick_0 {κ : Kx} {K : Kont} {M : Mem} (C : Cx κ RX7 cX7_tick 2 (some .int) rmX7_tick domC) (x1 : Int)
    (h :
    spX7_hasTick x1 M (rI (fun r2 M2 =>
    ((r2 ≠ 0 →
      (0 ≤ x1 ∧ x1 < 100) ∧
      spX4_tellsAt 0 x1 M2 (rI (fun r24 M24 =>
      ((r24 = 0 →
        K (some (bOr (M2 15 0 x1) 0)) M24) ∧
       (¬ (r24 = 0) →
        K (some (bOr (M2 15 0 x1) 8)) M24))))) ∧
     (¬ (r2 ≠ 0) →
      K (some (-1)) M2))))) : V κ 2 M 0 [some (.inr (0, 0)), some (.inl x1)] [] K := by
  refine v_aload_n C dX7_tick_0 rfl ?_
  refine v_iload_n C dX7_tick_1 rfl ?_
  refine v_invV C ctX7_hasTick dX7_tick_2 ivX7_155 ⟨by decide, by decide, rfl, rfl⟩ (x1 : Int) (As := [.inl x1]) rfl rfl rfl (by decide) rfl (st := []) rfl (Nat.le_of_ble_eq_true rfl) h (fun o M2 oM2 io2 g2 => ?_)
  replace h := rI_out g2
  clear g2
  obtain ⟨r2, rfl, h⟩ := h
  refine v_push ?_
  refine v_if C dX7_tick_5 (tgt := 10) (by decide) (P := r2 ≠ 0) rfl (fun c5 => ?_) (fun c5 => ?_)
  · replace h := h.1 c5
    refine v_aload_n C dX7_tick_10 rfl ?_
    refine v_get C dX7_tick_11 flX7_35 rfl (by decide) (by decide) (w := .inr (14, 0)) rfl ?_
    refine v_get C dX7_tick_14 flX7_227 rfl (by decide) (by decide) (w := .inr (15, 0)) rfl ?_
    refine v_iload_n C dX7_tick_17 rfl ?_
    refine v_iald C dX7_tick_18 rfl h.1.1 h.1.2 ?_
    replace h := h.2
    refine v_aload_n C dX7_tick_19 rfl ?_
    refine v_get C dX7_tick_20 flX7_45 rfl (by decide) (by decide) (w := .inr (18, 0)) rfl ?_
    refine v_iload_n C dX7_tick_23 rfl ?_
    refine v_invV C ctX4_tellsAt dX7_tick_24 ivX7_230 ⟨by decide, by decide, rfl, rfl⟩ ((0, x1) : Int × Int) (As := [.inl x1]) rfl rfl rfl (by decide) rfl (st := [.inl (M2 15 0 x1)]) rfl (Nat.le_of_ble_eq_true rfl) h (fun o M24 oM24 io24 g24 => ?_)
    replace h := rI_out g24
    clear g24
    obtain ⟨r24, rfl, h⟩ := h
    refine v_push ?_
    refine v_if C dX7_tick_27 (tgt := 35) (by decide) (P := r24 = 0) rfl (fun c27 => ?_) (fun c27 => ?_)
    · replace h := h.1 c27
      refine v_iconst C dX7_tick_35 (by decide) ?_
      refine v_ior C dX7_tick_36 ?_
      exact v_iret C dX7_tick_37 h
    · replace h := h.2 c27
      refine v_bipush C dX7_tick_30 (by decide) (by decide) ?_
      refine v_goto C dX7_tick_32 (tgt := 36) (by decide) ?_
      refine v_ior C dX7_tick_36 ?_
      exact v_iret C dX7_tick_37 h
  · replace h := h.2 c5
    refine v_iconst C dX7_tick_8 (by decide) ?_
    exact v_iret C dX7_tick_9 h
def tckA (F : Film) (ver sta : Int → Int) (t : Int) : Int := if ¬ (0 ≤ t ∧ t < F 0 0 0) then -1 else bOr (mkF F t) (if tkN F ver sta t (t + 1) (F 3 0 0).toNat ≤ 0 then 0 else 8)
abbrev spX7_tick (t : Int) (M : Mem) (K : Kont) : Prop := InvC M ∧ K (some (tckA (cFilm M 1) (M 19 0) (M 20 0) t)) M
theorem ctX7_tick : CtX7_tick spX7_tick := by
  refine ct_of (by decide) dmC (fun _ => Nat.le_of_ble_eq_true rfl) ?_
  intro κ t M K C oM h
  obtain ⟨hI, hk⟩ := h
  have hk : K (some (tckA (cFilm M 1) (M 19 0) (M 20 0) t)) M := hk
  have hf := hI.1.2.1
  have h0 := hf.1
  have e0 : cFilm M 1 0 0 0 = M 5 1 0 := rfl
  unfold tckA at hk
  rw [show cFilm M 1 3 0 0 = M 5 1 7 from rfl] at hk
  refine sgX7_tick_0 C t ⟨fun c => ?_, fun c => ?_⟩
  · have c1 := if10 c
    rw [if_neg (fun z => z c1), ← hI.2.1.1 t c1.1 (by omega)] at hk
    refine ⟨by omega, ⟨hf, hI.1.2.2.2.2.1, by omega⟩, fun c2 => ?_, fun c2 => ?_⟩
    · rw [if_pos (if01 c2)] at hk; exact hk
    · rw [if_neg (if01n c2)] at hk; exact hk
  · rw [if_pos (if10n (by omega))] at hk
    exact hk
/-! ===== GapTellings.silence ===== -/
abbrev rmX7_silence : Room := { frames := 3, cells := 0, slots := 0, locals := 65 }
abbrev argX7_silence (a : Int × Int) : List PV := [.inr (0, 0), .inl a.1, .inl a.2]
abbrev CtX7_silence (sp : Int → Int → Mem → Kont → Prop) : Prop := Ct yX7_silence cX7_silence 5 (some .int) rmX7_silence domC argX7_silence (fun a => sp a.1 a.2)
theorem dX7_silence_0 : decode cX7_silence 0 = .ok (.iload_n 1, 1) := by decide +kernel
theorem dX7_silence_1 : decode cX7_silence 1 = .ok (.iconst (-1), 1) := by decide +kernel
theorem dX7_silence_2 : decode cX7_silence 2 = .ok (.if_icmp .lt 12, 3) := by decide +kernel
theorem dX7_silence_5 : decode cX7_silence 5 = .ok (.iload_n 2, 1) := by decide +kernel
theorem dX7_silence_6 : decode cX7_silence 6 = .ok (.ifCond .lt 8, 3) := by decide +kernel
theorem dX7_silence_9 : decode cX7_silence 9 = .ok (.iload_n 2, 1) := by decide +kernel
theorem dX7_silence_10 : decode cX7_silence 10 = .ok (.iconst 2, 1) := by decide +kernel
theorem dX7_silence_11 : decode cX7_silence 11 = .ok (.if_icmp .le 5, 3) := by decide +kernel
theorem dX7_silence_14 : decode cX7_silence 14 = .ok (.iconst (-1), 1) := by decide +kernel
theorem dX7_silence_15 : decode cX7_silence 15 = .ok (.ireturn, 1) := by decide +kernel
theorem dX7_silence_16 : decode cX7_silence 16 = .ok (.iload_n 1, 1) := by decide +kernel
theorem dX7_silence_17 : decode cX7_silence 17 = .ok (.iconst (-1), 1) := by decide +kernel
theorem dX7_silence_18 : decode cX7_silence 18 = .ok (.if_icmp .ne 11, 3) := by decide +kernel
theorem dX7_silence_21 : decode cX7_silence 21 = .ok (.aload_n 0, 1) := by decide +kernel
theorem dX7_silence_22 : decode cX7_silence 22 = .ok (.getfield 35, 3) := by decide +kernel
theorem dX7_silence_25 : decode cX7_silence 25 = .ok (.invokevirtual 233, 3) := by decide +kernel
theorem dX7_silence_28 : decode cX7_silence 28 = .ok (.ireturn, 1) := by decide +kernel
theorem dX7_silence_29 : decode cX7_silence 29 = .ok (.aload_n 0, 1) := by decide +kernel
theorem dX7_silence_30 : decode cX7_silence 30 = .ok (.getfield 35, 3) := by decide +kernel
theorem dX7_silence_33 : decode cX7_silence 33 = .ok (.iload_n 1, 1) := by decide +kernel
theorem dX7_silence_34 : decode cX7_silence 34 = .ok (.invokevirtual 236, 3) := by decide +kernel
theorem dX7_silence_37 : decode cX7_silence 37 = .ok (.istore_n 3, 1) := by decide +kernel
theorem dX7_silence_38 : decode cX7_silence 38 = .ok (.iload_n 3, 1) := by decide +kernel
theorem dX7_silence_39 : decode cX7_silence 39 = .ok (.bipush (-4), 2) := by decide +kernel
theorem dX7_silence_41 : decode cX7_silence 41 = .ok (.if_icmp .ne 6, 3) := by decide +kernel
theorem dX7_silence_44 : decode cX7_silence 44 = .ok (.bipush (-4), 2) := by decide +kernel
theorem dX7_silence_46 : decode cX7_silence 46 = .ok (.ireturn, 1) := by decide +kernel
theorem dX7_silence_47 : decode cX7_silence 47 = .ok (.aload_n 0, 1) := by decide +kernel
theorem dX7_silence_48 : decode cX7_silence 48 = .ok (.getfield 35, 3) := by decide +kernel
theorem dX7_silence_51 : decode cX7_silence 51 = .ok (.iload_n 3, 1) := by decide +kernel
theorem dX7_silence_52 : decode cX7_silence 52 = .ok (.invokevirtual 239, 3) := by decide +kernel
theorem dX7_silence_55 : decode cX7_silence 55 = .ok (.istore 4, 2) := by decide +kernel
theorem dX7_silence_57 : decode cX7_silence 57 = .ok (.iload_n 2, 1) := by decide +kernel
theorem dX7_silence_58 : decode cX7_silence 58 = .ok (.ifCond .ne 5, 3) := by decide +kernel
theorem dX7_silence_61 : decode cX7_silence 61 = .ok (.iload_n 3, 1) := by decide +kernel
theorem dX7_silence_62 : decode cX7_silence 62 = .ok (.ireturn, 1) := by decide +kernel
theorem dX7_silence_63 : decode cX7_silence 63 = .ok (.iload_n 2, 1) := by decide +kernel
theorem dX7_silence_64 : decode cX7_silence 64 = .ok (.iconst 1, 1) := by decide +kernel
theorem dX7_silence_65 : decode cX7_silence 65 = .ok (.if_icmp .ne 10, 3) := by decide +kernel
theorem dX7_silence_68 : decode cX7_silence 68 = .ok (.iload 4, 2) := by decide +kernel
theorem dX7_silence_70 : decode cX7_silence 70 = .ok (.iload_n 3, 1) := by decide +kernel
theorem dX7_silence_71 : decode cX7_silence 71 = .ok (.isub, 1) := by decide +kernel
theorem dX7_silence_72 : decode cX7_silence 72 = .ok (.goto 13, 3) := by decide +kernel
theorem dX7_silence_75 : decode cX7_silence 75 = .ok (.aload_n 0, 1) := by decide +kernel
theorem dX7_silence_76 : decode cX7_silence 76 = .ok (.getfield 45, 3) := by decide +kernel
theorem dX7_silence_79 : decode cX7_silence 79 = .ok (.iload_n 3, 1) := by decide +kernel
theorem dX7_silence_80 : decode cX7_silence 80 = .ok (.iload 4, 2) := by decide +kernel
theorem dX7_silence_82 : decode cX7_silence 82 = .ok (.invokevirtual 242, 3) := by decide +kernel
theorem dX7_silence_85 : decode cX7_silence 85 = .ok (.ireturn, 1) := by decide +kernel
theorem ivX7_236 : IV RX7 236 yX6_silenceBegin cX6_silenceBegin 4 (some .int) 1 := ⟨(tb_mem (t_in4 (List.mem_of_getElem? (i := 30) (by decide +kernel))) (by decide +kernel)), (tb_mem (t_in4 (List.mem_of_getElem? (i := 31) (by decide +kernel))) (by decide +kernel)), (tb_mem (t_in4 (List.mem_of_getElem? (i := 32) (by decide +kernel))) (by decide +kernel)), (tb_mem (t_in1 (List.mem_of_getElem? (i := 5) (by decide +kernel))) (by decide +kernel)), (tb_mem (t_in4 (List.mem_of_getElem? (i := 33) (by decide +kernel))) (by decide +kernel)), ⟨by decide +kernel, by decide +kernel, by decide +kernel⟩⟩
theorem ivX7_239 : IV RX7 239 yX6_silenceEnd cX6_silenceEnd 3 (some .int) 1 := ⟨(tb_mem (t_in4 (List.mem_of_getElem? (i := 34) (by decide +kernel))) (by decide +kernel)), (tb_mem (t_in4 (List.mem_of_getElem? (i := 35) (by decide +kernel))) (by decide +kernel)), (tb_mem (t_in4 (List.mem_of_getElem? (i := 36) (by decide +kernel))) (by decide +kernel)), (tb_mem (t_in1 (List.mem_of_getElem? (i := 5) (by decide +kernel))) (by decide +kernel)), (tb_mem (t_in4 (List.mem_of_getElem? (i := 37) (by decide +kernel))) (by decide +kernel)), ⟨by decide +kernel, by decide +kernel, by decide +kernel⟩⟩
theorem ivX7_242 : IV RX7 242 yX4_ticksTold cX4_ticksTold 5 (some .int) 2 := ⟨(tb_mem (t_in4 (List.mem_of_getElem? (i := 38) (by decide +kernel))) (by decide +kernel)), (tb_mem (t_in4 (List.mem_of_getElem? (i := 13) (by decide +kernel))) (by decide +kernel)), (tb_mem (t_in4 (List.mem_of_getElem? (i := 14) (by decide +kernel))) (by decide +kernel)), (tb_mem (t_in1 (List.mem_of_getElem? (i := 6) (by decide +kernel))) (by decide +kernel)), (tb_mem (t_in4 (List.mem_of_getElem? (i := 15) (by decide +kernel))) (by decide +kernel)), ⟨by decide +kernel, by decide +kernel, by decide +kernel⟩⟩
theorem ivX7_233 : IV RX7 233 yX6_silenceCount cX6_silenceCount 3 (some .int) 0 := ⟨(tb_mem (t_in4 (List.mem_of_getElem? (i := 22) (by decide +kernel))) (by decide +kernel)), (tb_mem (t_in4 (List.mem_of_getElem? (i := 23) (by decide +kernel))) (by decide +kernel)), (tb_mem (t_in4 (List.mem_of_getElem? (i := 24) (by decide +kernel))) (by decide +kernel)), (tb_mem (t_in1 (List.mem_of_getElem? (i := 5) (by decide +kernel))) (by decide +kernel)), (tb_mem (t_in4 (List.mem_of_getElem? (i := 25) (by decide +kernel))) (by decide +kernel)), ⟨by decide +kernel, by decide +kernel, by decide +kernel⟩⟩
set_option maxHeartbeats 4000000 in
set_option maxRecDepth 20000 in
theorem sgX7_silence_0 {κ : Kx} {K : Kont} {M : Mem} (C : Cx κ RX7 cX7_silence 5 (some .int) rmX7_silence domC) (x1 : Int) (x2 : Int)
    (h :
    ((x1 < (-1) →
      K (some (-1)) M) ∧
     (¬ (x1 < (-1)) →
      ((x2 < 0 →
        K (some (-1)) M) ∧
       (¬ (x2 < 0) →
        ((x2 ≤ 2 →
          ((x1 ≠ (-1) →
            spX6_silenceBegin 0 x1 M (rI (fun r34 M34 =>
            ((r34 ≠ (-4) →
              spX6_silenceEnd 0 r34 M34 (rI (fun r52 M52 =>
              ((x2 ≠ 0 →
                ((x2 ≠ 1 →
                  spX4_ticksTold 0 r34 r52 M52 (rI (fun r82 M82 =>
                  K (some r82) M82))) ∧
                 (¬ (x2 ≠ 1) →
                  inR (r52 - r34) ∧
                  K (some (r52 - r34)) M52))) ∧
               (¬ (x2 ≠ 0) →
                K (some r34) M52))))) ∧
             (¬ (r34 ≠ (-4)) →
              K (some (-4)) M34))))) ∧
           (¬ (x1 ≠ (-1)) →
            spX6_silenceCount 0 M (rI (fun r25 M25 =>
            K (some r25) M25))))) ∧
         (¬ (x2 ≤ 2) →
          K (some (-1)) M))))))) : V κ 5 M 0 [some (.inr (0, 0)), some (.inl x1), some (.inl x2), none, none] [] K := by
  refine v_iload_n C dX7_silence_0 rfl ?_
  refine v_iconst C dX7_silence_1 (by decide) ?_
  refine v_icmp C dX7_silence_2 (tgt := 14) (by decide) (P := x1 < (-1)) rfl (fun c2 => ?_) (fun c2 => ?_)
  · replace h := h.1 c2
    refine v_iconst C dX7_silence_14 (by decide) ?_
    exact v_iret C dX7_silence_15 h
  · replace h := h.2 c2
    refine v_iload_n C dX7_silence_5 rfl ?_
    refine v_if C dX7_silence_6 (tgt := 14) (by decide) (P := x2 < 0) rfl (fun c6 => ?_) (fun c6 => ?_)
    · replace h := h.1 c6
      refine v_iconst C dX7_silence_14 (by decide) ?_
      exact v_iret C dX7_silence_15 h
    · replace h := h.2 c6
      refine v_iload_n C dX7_silence_9 rfl ?_
      refine v_iconst C dX7_silence_10 (by decide) ?_
      refine v_icmp C dX7_silence_11 (tgt := 16) (by decide) (P := x2 ≤ 2) rfl (fun c11 => ?_) (fun c11 => ?_)
      · replace h := h.1 c11
        refine v_iload_n C dX7_silence_16 rfl ?_
        refine v_iconst C dX7_silence_17 (by decide) ?_
        refine v_icmp C dX7_silence_18 (tgt := 29) (by decide) (P := x1 ≠ (-1)) rfl (fun c18 => ?_) (fun c18 => ?_)
        · replace h := h.1 c18
          refine v_aload_n C dX7_silence_29 rfl ?_
          refine v_get C dX7_silence_30 flX7_35 rfl (by decide) (by decide) (w := .inr (14, 0)) rfl ?_
          refine v_iload_n C dX7_silence_33 rfl ?_
          refine v_invV C ctX6_silenceBegin dX7_silence_34 ivX7_236 ⟨by decide, by decide, rfl, rfl⟩ ((0, x1) : Int × Int) (As := [.inl x1]) rfl rfl rfl (by decide) rfl (st := []) rfl (Nat.le_of_ble_eq_true rfl) h (fun o M34 oM34 io34 g34 => ?_)
          replace h := rI_out g34
          clear g34
          obtain ⟨r34, rfl, h⟩ := h
          refine v_push ?_
          refine v_istore_n C dX7_silence_37 (by decide) (Nat.le_of_ble_eq_true rfl) (lv' := [some (.inr (0, 0)), some (.inl x1), some (.inl x2), some (.inl r34), none]) rfl ?_
          refine v_iload_n C dX7_silence_38 rfl ?_
          refine v_bipush C dX7_silence_39 (by decide) (by decide) ?_
          refine v_icmp C dX7_silence_41 (tgt := 47) (by decide) (P := r34 ≠ (-4)) rfl (fun c41 => ?_) (fun c41 => ?_)
          · replace h := h.1 c41
            refine v_aload_n C dX7_silence_47 rfl ?_
            refine v_get C dX7_silence_48 flX7_35 rfl (by decide) (by decide) (w := .inr (14, 0)) rfl ?_
            refine v_iload_n C dX7_silence_51 rfl ?_
            refine v_invV C ctX6_silenceEnd dX7_silence_52 ivX7_239 ⟨by decide, by decide, rfl, rfl⟩ ((0, r34) : Int × Int) (As := [.inl r34]) rfl rfl rfl (by decide) rfl (st := []) rfl (Nat.le_of_ble_eq_true rfl) h (fun o M52 oM52 io52 g52 => ?_)
            replace h := rI_out g52
            clear g52
            obtain ⟨r52, rfl, h⟩ := h
            refine v_push ?_
            refine v_istore C dX7_silence_55 (by decide) (Nat.le_of_ble_eq_true rfl) (lv' := [some (.inr (0, 0)), some (.inl x1), some (.inl x2), some (.inl r34), some (.inl r52)]) rfl ?_
            refine v_iload_n C dX7_silence_57 rfl ?_
            refine v_if C dX7_silence_58 (tgt := 63) (by decide) (P := x2 ≠ 0) rfl (fun c58 => ?_) (fun c58 => ?_)
            · replace h := h.1 c58
              refine v_iload_n C dX7_silence_63 rfl ?_
              refine v_iconst C dX7_silence_64 (by decide) ?_
              refine v_icmp C dX7_silence_65 (tgt := 75) (by decide) (P := x2 ≠ 1) rfl (fun c65 => ?_) (fun c65 => ?_)
              · replace h := h.1 c65
                refine v_aload_n C dX7_silence_75 rfl ?_
                refine v_get C dX7_silence_76 flX7_45 rfl (by decide) (by decide) (w := .inr (18, 0)) rfl ?_
                refine v_iload_n C dX7_silence_79 rfl ?_
                refine v_iload C dX7_silence_80 rfl ?_
                refine v_invV C ctX4_ticksTold dX7_silence_82 ivX7_242 ⟨by decide, by decide, rfl, rfl⟩ ((0, r34, r52) : Int × Int × Int) (As := [.inl r34, .inl r52]) rfl rfl rfl (by decide) rfl (st := []) rfl (Nat.le_of_ble_eq_true rfl) h (fun o M82 oM82 io82 g82 => ?_)
                replace h := rI_out g82
                clear g82
                obtain ⟨r82, rfl, h⟩ := h
                refine v_push ?_
                exact v_iret C dX7_silence_85 h
              · replace h := h.2 c65
                refine v_iload C dX7_silence_68 rfl ?_
                refine v_iload_n C dX7_silence_70 rfl ?_
                refine v_isub C dX7_silence_71 h.1 ?_
                replace h := h.2
                refine v_goto C dX7_silence_72 (tgt := 85) (by decide) ?_
                exact v_iret C dX7_silence_85 h
            · replace h := h.2 c58
              refine v_iload_n C dX7_silence_61 rfl ?_
              exact v_iret C dX7_silence_62 h
          · replace h := h.2 c41
            refine v_bipush C dX7_silence_44 (by decide) (by decide) ?_
            exact v_iret C dX7_silence_46 h
        · replace h := h.2 c18
          refine v_aload_n C dX7_silence_21 rfl ?_
          refine v_get C dX7_silence_22 flX7_35 rfl (by decide) (by decide) (w := .inr (14, 0)) rfl ?_
          refine v_invV C ctX6_silenceCount dX7_silence_25 ivX7_233 ⟨by decide, by decide, rfl, rfl⟩ (0 : Int) (As := []) rfl rfl rfl (by decide) rfl (st := []) rfl (Nat.le_of_ble_eq_true rfl) h (fun o M25 oM25 io25 g25 => ?_)
          replace h := rI_out g25
          clear g25
          obtain ⟨r25, rfl, h⟩ := h
          refine v_push ?_
          exact v_iret C dX7_silence_28 h
      · replace h := h.2 c11
        refine v_iconst C dX7_silence_14 (by decide) ?_
        exact v_iret C dX7_silence_15 h
theorem silB_c {X Y : Int → Int} (h : ∀ t, 0 ≤ t → t < 100 → X t = Y t) {t : Int} (h0 : 0 ≤ t) (h1 : t < 100) : silB X t = silB Y t := by
  unfold silB
  rw [h t h0 h1]
  by_cases e : t = 0
  · simp [e]
  · rw [h (t - 1) (by omega) (by omega)]
theorem silF_c {X Y : Int → Int} (h : ∀ t, 0 ≤ t → t < 100 → X t = Y t) (i : Int) : ∀ (n : Nat) (t o : Int), 0 ≤ t → t + n ≤ 100 → silF X i n t o = silF Y i n t o := by
  intro n
  induction n with
  | zero => intro t o _ _; rfl
  | succ n ih =>
    intro t o h0 h1
    unfold silF
    rw [silB_c h h0 (by omega), ih (t + 1) o (by omega) (by omega), ih (t + 1) (o + 1) (by omega) (by omega)]
theorem silE_c {X Y : Int → Int} (h : ∀ t, 0 ≤ t → t < 100 → X t = Y t) : ∀ (n : Nat) (t : Int), 0 ≤ t → t + n ≤ 100 → silE X n t = silE Y n t := by
  intro n
  induction n with
  | zero => intro t _ _; rfl
  | succ n ih =>
    intro t h0 h1
    unfold silE
    rw [h t h0 (by omega), ih (t + 1) (by omega) (by omega)]
theorem silF_spec (X : Int → Int) (i : Int) : ∀ (n : Nat) (t o : Int), 0 ≤ t → silF X i n t o = -4 ∨ (t ≤ silF X i n t o ∧ silF X i n t o < t + n) := by
  intro n
  induction n with
  | zero => intro t o _; exact Or.inl rfl
  | succ n ih =>
    intro t o h0
    have h1 := ih (t + 1) o (by omega)
    have h2 := ih (t + 1) (o + 1) (by omega)
    unfold silF
    split
    · omega
    · split <;> omega
theorem silE_spec (X : Int → Int) : ∀ (n : Nat) (t : Int), t ≤ silE X n t ∧ silE X n t ≤ t + n := by
  intro n
  induction n with
  | zero => intro t; unfold silE; omega
  | succ n ih =>
    intro t
    have := ih (t + 1)
    unfold silE
    split <;> omega
def silA (F : Film) (ver sta : Int → Int) (i w : Int) : Int :=
  if i < -1 ∨ w < 0 ∨ 2 < w then -1 else if i = -1 then silN (mkF F) (F 0 0 0).toNat else if silF (mkF F) i (F 0 0 0).toNat 0 0 = -4 then -4 else if w = 0 then silF (mkF F) i (F 0 0 0).toNat 0 0 else
  if w = 1 then silE (mkF F) (F 0 0 0 - silF (mkF F) i (F 0 0 0).toNat 0 0).toNat (silF (mkF F) i (F 0 0 0).toNat 0 0) - silF (mkF F) i (F 0 0 0).toNat 0 0 else
  tkN F ver sta (silF (mkF F) i (F 0 0 0).toNat 0 0) (silE (mkF F) (F 0 0 0 - silF (mkF F) i (F 0 0 0).toNat 0 0).toNat (silF (mkF F) i (F 0 0 0).toNat 0 0)) (F 3 0 0).toNat
abbrev spX7_silence (i w : Int) (M : Mem) (K : Kont) : Prop := InvC M ∧ K (some (silA (cFilm M 1) (M 19 0) (M 20 0) i w)) M
theorem ctX7_silence : CtX7_silence spX7_silence := by
  refine ct_of (by decide) dmC (fun _ => Nat.le_of_ble_eq_true rfl) ?_
  intro κ a M K C oM h
  obtain ⟨i, w⟩ := a
  obtain ⟨hI, hk⟩ := h
  have hk : K (some (silA (cFilm M 1) (M 19 0) (M 20 0) i w)) M := hk
  have hf := hI.1.2.1
  have h0 := hf.1
  have e0 : cFilm M 1 0 0 0 = M 5 1 0 := rfl
  have e3 : cFilm M 1 3 0 0 = M 5 1 7 := rfl
  have hX := hI.2.1.1
  unfold silA at hk
  rw [e0, e3] at hk
  rw [e0] at h0
  have bad : (i < -1 ∨ w < 0 ∨ 2 < w) → K (some (-1)) M := fun z => by rw [if_pos z] at hk; exact hk
  refine sgX7_silence_0 C i w ⟨fun c => bad (by omega), fun c => ⟨fun c2 => bad (by omega), fun c2 => ⟨fun c3 => ?_, fun c3 => bad (by omega)⟩⟩⟩
  rw [if_neg (by omega)] at hk
  refine ⟨fun c4 => ⟨h0, ?_⟩, fun c4 => ⟨h0, ?_⟩⟩
  · rw [if_neg c4] at hk
    show (_ → _) ∧ (_ → _)
    rw [silF_c hX i _ 0 0 (by omega) (by omega)]
    have sp := silF_spec (mkF (cFilm M 1)) i (M 5 1 0).toNat 0 0 (by omega)
    generalize silF (mkF (cFilm M 1)) i (M 5 1 0).toNat 0 0 = f at *
    refine ⟨fun c5 => ⟨by omega, ?_⟩, fun c5 => ?_⟩
    · rw [if_neg c5] at hk
      show (_ → _) ∧ (_ → _)
      rw [silE_c hX _ f (by omega) (by omega)]
      have se := silE_spec (mkF (cFilm M 1)) (M 5 1 0 - f).toNat f
      generalize silE (mkF (cFilm M 1)) (M 5 1 0 - f).toNat f = g at *
      refine ⟨fun c6 => ⟨fun c7 => ⟨⟨hf, hI.1.2.2.2.2.1, by omega⟩, ?_⟩, fun c7 => ⟨by omega, ?_⟩⟩, fun c6 => ?_⟩
      · rw [if_neg c6, if_neg c7] at hk; exact hk
      · rw [if_neg c6, if_pos (by omega)] at hk; exact hk
      · rw [if_pos (by omega)] at hk; exact hk
    · rw [if_pos (by omega)] at hk; exact hk
  · rw [if_pos (by omega)] at hk
    have e : silN (M 15 0) (M 5 1 0).toNat = silN (mkF (cFilm M 1)) (M 5 1 0).toNat := sumN_c _ (fun t a b => silB_c hX a (by omega))
    rw [← e] at hk
    exact hk
/-! ===== GapTellings.best ===== -/
abbrev rmX7_best : Room := { frames := 5, cells := 0, slots := 0, locals := 128 }
abbrev argX7_best (a : Unit) : List PV := [.inr (0, 0)]
abbrev CtX7_best (sp : Mem → Kont → Prop) : Prop := Ct yX7_best cX7_best 1 (some .int) rmX7_best domC argX7_best (fun _ => sp)
theorem dX7_best_0 : decode cX7_best 0 = .ok (.aload_n 0, 1) := by decide +kernel
theorem dX7_best_1 : decode cX7_best 1 = .ok (.invokevirtual 184, 3) := by decide +kernel
theorem dX7_best_4 : decode cX7_best 4 = .ok (.aload_n 0, 1) := by decide +kernel
theorem dX7_best_5 : decode cX7_best 5 = .ok (.getfield 245, 3) := by decide +kernel
theorem dX7_best_8 : decode cX7_best 8 = .ok (.ireturn, 1) := by decide +kernel
theorem flX7_245 : FL RX7 245 7 10 := ⟨_, _, _, rfl, by decide, uwX7, Or.inl (tb_mem (t_in2 (List.mem_of_getElem? (i := 225) (by decide +kernel))) (by decide +kernel))⟩
set_option maxHeartbeats 4000000 in
set_option maxRecDepth 20000 in
theorem sgX7_best_0 {κ : Kx} {K : Kont} {M : Mem} (C : Cx κ RX7 cX7_best 1 (some .int) rmX7_best domC) 
    (h :
    spX7_findBest M (rV (fun M1 =>
    K (some (M1 0 0 10)) M1))) : V κ 1 M 0 [some (.inr (0, 0))] [] K := by
  refine v_aload_n C dX7_best_0 rfl ?_
  refine v_invV C ctX7_findBest dX7_best_1 ivX7_184 ⟨by decide, by decide, rfl, rfl⟩ (() : Unit) (As := []) rfl rfl rfl (by decide) rfl (st := []) rfl (Nat.le_of_ble_eq_true rfl) h (fun o M1 oM1 io1 g1 => ?_)
  replace h := rV_out g1
  clear g1
  obtain ⟨rfl, h⟩ := h
  refine v_push0 ?_
  refine v_aload_n C dX7_best_4 rfl ?_
  refine v_get C dX7_best_5 flX7_245 rfl (by decide) (by decide) (w := .inl (M1 0 0 10)) rfl ?_
  exact v_iret C dX7_best_8 h
abbrev spX7_best (M : Mem) (K : Kont) : Prop := InvC M ∧ ∀ M', InvC M' → Ch M M' (cFilm M 1) (M 19 0) (M 20 0) → K (some (bV0 (cFilm M 1) (cFilm M 1 1 0 0) (allS (cFilm M 1)))) M'
theorem ctX7_best : CtX7_best spX7_best := by
  refine ct_of (by decide) dmC (fun _ => Nat.le_of_ble_eq_true rfl) ?_
  intro κ a M K C oM h
  obtain ⟨hI, hk⟩ := h
  refine sgX7_best_0 C ⟨hI, fun N hN hs v10 _ _ => ?_⟩
  show K (some (N 0 0 10)) N
  rw [v10]
  exact hk N hN hs.sim.ch
/-! ===== GapTellings.bestOf ===== -/
abbrev rmX7_bestOf : Room := { frames := 5, cells := 0, slots := 0, locals := 128 }
abbrev argX7_bestOf (a : Int × Int) : List PV := [.inr (0, 0), .inl a.1, .inl a.2]
abbrev CtX7_bestOf (sp : Int → Int → Mem → Kont → Prop) : Prop := Ct yX7_bestOf cX7_bestOf 3 (some .int) rmX7_bestOf domC argX7_bestOf (fun a => sp a.1 a.2)
theorem dX7_bestOf_0 : decode cX7_bestOf 0 = .ok (.aload_n 0, 1) := by decide +kernel
theorem dX7_bestOf_1 : decode cX7_bestOf 1 = .ok (.iload_n 1, 1) := by decide +kernel
theorem dX7_bestOf_2 : decode cX7_bestOf 2 = .ok (.invokevirtual 135, 3) := by decide +kernel
theorem dX7_bestOf_5 : decode cX7_bestOf 5 = .ok (.ifCond .eq 12, 3) := by decide +kernel
theorem dX7_bestOf_8 : decode cX7_bestOf 8 = .ok (.iload_n 2, 1) := by decide +kernel
theorem dX7_bestOf_9 : decode cX7_bestOf 9 = .ok (.ifCond .lt 8, 3) := by decide +kernel
theorem dX7_bestOf_12 : decode cX7_bestOf 12 = .ok (.iload_n 2, 1) := by decide +kernel
theorem dX7_bestOf_13 : decode cX7_bestOf 13 = .ok (.iconst 1, 1) := by decide +kernel
theorem dX7_bestOf_14 : decode cX7_bestOf 14 = .ok (.if_icmp .le 5, 3) := by decide +kernel
theorem dX7_bestOf_17 : decode cX7_bestOf 17 = .ok (.iconst (-1), 1) := by decide +kernel
theorem dX7_bestOf_18 : decode cX7_bestOf 18 = .ok (.ireturn, 1) := by decide +kernel
theorem dX7_bestOf_19 : decode cX7_bestOf 19 = .ok (.aload_n 0, 1) := by decide +kernel
theorem dX7_bestOf_20 : decode cX7_bestOf 20 = .ok (.invokevirtual 184, 3) := by decide +kernel
theorem dX7_bestOf_23 : decode cX7_bestOf 23 = .ok (.iload_n 2, 1) := by decide +kernel
theorem dX7_bestOf_24 : decode cX7_bestOf 24 = .ok (.ifCond .ne 15, 3) := by decide +kernel
theorem dX7_bestOf_27 : decode cX7_bestOf 27 = .ok (.aload_n 0, 1) := by decide +kernel
theorem dX7_bestOf_28 : decode cX7_bestOf 28 = .ok (.getfield 56, 3) := by decide +kernel
theorem dX7_bestOf_31 : decode cX7_bestOf 31 = .ok (.getfield 206, 3) := by decide +kernel
theorem dX7_bestOf_34 : decode cX7_bestOf 34 = .ok (.iload_n 1, 1) := by decide +kernel
theorem dX7_bestOf_35 : decode cX7_bestOf 35 = .ok (.iaload, 1) := by decide +kernel
theorem dX7_bestOf_36 : decode cX7_bestOf 36 = .ok (.goto 12, 3) := by decide +kernel
theorem dX7_bestOf_39 : decode cX7_bestOf 39 = .ok (.aload_n 0, 1) := by decide +kernel
theorem dX7_bestOf_40 : decode cX7_bestOf 40 = .ok (.getfield 56, 3) := by decide +kernel
theorem dX7_bestOf_43 : decode cX7_bestOf 43 = .ok (.getfield 209, 3) := by decide +kernel
theorem dX7_bestOf_46 : decode cX7_bestOf 46 = .ok (.iload_n 1, 1) := by decide +kernel
theorem dX7_bestOf_47 : decode cX7_bestOf 47 = .ok (.iaload, 1) := by decide +kernel
theorem dX7_bestOf_48 : decode cX7_bestOf 48 = .ok (.ireturn, 1) := by decide +kernel
set_option maxHeartbeats 4000000 in
set_option maxRecDepth 20000 in
theorem sgX7_bestOf_0 {κ : Kx} {K : Kont} {M : Mem} (C : Cx κ RX7 cX7_bestOf 3 (some .int) rmX7_bestOf domC) (x1 : Int) (x2 : Int)
    (h :
    spX7_hasPicture x1 M (rI (fun r2 M2 =>
    ((r2 = 0 →
      K (some (-1)) M2) ∧
     (¬ (r2 = 0) →
      ((x2 < 0 →
        K (some (-1)) M2) ∧
       (¬ (x2 < 0) →
        ((x2 ≤ 1 →
          spX7_findBest M2 (rV (fun M20 =>
          ((x2 ≠ 0 →
            (0 ≤ x1 ∧ x1 < 7) ∧
            K (some (M20 20 1 x1)) M20) ∧
           (¬ (x2 ≠ 0) →
            (0 ≤ x1 ∧ x1 < 7) ∧
            K (some (M20 19 1 x1)) M20))))) ∧
         (¬ (x2 ≤ 1) →
          K (some (-1)) M2))))))))) : V κ 3 M 0 [some (.inr (0, 0)), some (.inl x1), some (.inl x2)] [] K := by
  refine v_aload_n C dX7_bestOf_0 rfl ?_
  refine v_iload_n C dX7_bestOf_1 rfl ?_
  refine v_invV C ctX7_hasPicture dX7_bestOf_2 ivX7_135 ⟨by decide, by decide, rfl, rfl⟩ (x1 : Int) (As := [.inl x1]) rfl rfl rfl (by decide) rfl (st := []) rfl (Nat.le_of_ble_eq_true rfl) h (fun o M2 oM2 io2 g2 => ?_)
  replace h := rI_out g2
  clear g2
  obtain ⟨r2, rfl, h⟩ := h
  refine v_push ?_
  refine v_if C dX7_bestOf_5 (tgt := 17) (by decide) (P := r2 = 0) rfl (fun c5 => ?_) (fun c5 => ?_)
  · replace h := h.1 c5
    refine v_iconst C dX7_bestOf_17 (by decide) ?_
    exact v_iret C dX7_bestOf_18 h
  · replace h := h.2 c5
    refine v_iload_n C dX7_bestOf_8 rfl ?_
    refine v_if C dX7_bestOf_9 (tgt := 17) (by decide) (P := x2 < 0) rfl (fun c9 => ?_) (fun c9 => ?_)
    · replace h := h.1 c9
      refine v_iconst C dX7_bestOf_17 (by decide) ?_
      exact v_iret C dX7_bestOf_18 h
    · replace h := h.2 c9
      refine v_iload_n C dX7_bestOf_12 rfl ?_
      refine v_iconst C dX7_bestOf_13 (by decide) ?_
      refine v_icmp C dX7_bestOf_14 (tgt := 19) (by decide) (P := x2 ≤ 1) rfl (fun c14 => ?_) (fun c14 => ?_)
      · replace h := h.1 c14
        refine v_aload_n C dX7_bestOf_19 rfl ?_
        refine v_invV C ctX7_findBest dX7_bestOf_20 ivX7_184 ⟨by decide, by decide, rfl, rfl⟩ (() : Unit) (As := []) rfl rfl rfl (by decide) rfl (st := []) rfl (Nat.le_of_ble_eq_true rfl) h (fun o M20 oM20 io20 g20 => ?_)
        replace h := rV_out g20
        clear g20
        obtain ⟨rfl, h⟩ := h
        refine v_push0 ?_
        refine v_iload_n C dX7_bestOf_23 rfl ?_
        refine v_if C dX7_bestOf_24 (tgt := 39) (by decide) (P := x2 ≠ 0) rfl (fun c24 => ?_) (fun c24 => ?_)
        · replace h := h.1 c24
          refine v_aload_n C dX7_bestOf_39 rfl ?_
          refine v_get C dX7_bestOf_40 flX7_56 rfl (by decide) (by decide) (w := .inr (18, 1)) rfl ?_
          refine v_get C dX7_bestOf_43 flX7_209 rfl (by decide) (by decide) (w := .inr (20, 1)) rfl ?_
          refine v_iload_n C dX7_bestOf_46 rfl ?_
          refine v_iald C dX7_bestOf_47 rfl h.1.1 h.1.2 ?_
          replace h := h.2
          exact v_iret C dX7_bestOf_48 h
        · replace h := h.2 c24
          refine v_aload_n C dX7_bestOf_27 rfl ?_
          refine v_get C dX7_bestOf_28 flX7_56 rfl (by decide) (by decide) (w := .inr (18, 1)) rfl ?_
          refine v_get C dX7_bestOf_31 flX7_206 rfl (by decide) (by decide) (w := .inr (19, 1)) rfl ?_
          refine v_iload_n C dX7_bestOf_34 rfl ?_
          refine v_iald C dX7_bestOf_35 rfl h.1.1 h.1.2 ?_
          replace h := h.2
          refine v_goto C dX7_bestOf_36 (tgt := 48) (by decide) ?_
          exact v_iret C dX7_bestOf_48 h
      · replace h := h.2 c14
        refine v_iconst C dX7_bestOf_17 (by decide) ?_
        exact v_iret C dX7_bestOf_18 h
abbrev ofK (F : Film) (p w : Int) : Prop := (0 ≤ p ∧ p < F 3 0 0) ∧ 0 ≤ w ∧ w ≤ 1
abbrev spX7_bestOf (p w : Int) (M : Mem) (K : Kont) : Prop := InvC M ∧ (¬ ofK (cFilm M 1) p w → K (some (-1)) M) ∧ (ofK (cFilm M 1) p w → ∀ M', InvC M' → Ch M M' (cFilm M 1) (M 19 0) (M 20 0) → K (some (if w = 0 then (bP0 (cFilm M 1)).1 p else (bP0 (cFilm M 1)).2 p)) M')
theorem ctX7_bestOf : CtX7_bestOf spX7_bestOf := by
  refine ct_of (by decide) dmC (fun _ => Nat.le_of_ble_eq_true rfl) ?_
  intro κ a M K C oM h
  obtain ⟨p, w⟩ := a
  dsimp only [spX7_bestOf] at h
  obtain ⟨hI, k1, k2⟩ := h
  have n3 := hI.1.2.1.2.2.2.1
  have e3 : cFilm M 1 3 0 0 = M 5 1 7 := rfl
  refine sgX7_bestOf_0 C p w ⟨fun c => k1 (fun z => if10n c z.1), fun c => ?_⟩
  have c1 := if10 c
  refine ⟨fun c2 => k1 (by omega), fun c2 => ⟨fun c3 => ⟨hI, fun N hN hs _ _ hE => ?_⟩, fun c3 => k1 (by omega)⟩⟩
  have := k2 ⟨c1, by omega, c3⟩ N hN hs.sim.ch
  have e := hE p c1.1 (by omega)
  refine ⟨fun c4 => ⟨by omega, ?_⟩, fun c4 => ⟨by omega, ?_⟩⟩
  · rw [if_neg c4, ← e.2] at this; exact this
  · rw [if_pos (by omega), ← e.1] at this; exact this
/-! ===== GapTellings.bestBy ===== -/
abbrev rmX7_bestBy : Room := { frames := 4, cells := 0, slots := 0, locals := 108 }
abbrev argX7_bestBy (a : Int) : List PV := [.inr (0, 0), .inl a]
abbrev CtX7_bestBy (sp : Int → Mem → Kont → Prop) : Prop := Ct yX7_bestBy cX7_bestBy 2 (some .int) rmX7_bestBy domC argX7_bestBy (fun a => sp a)
theorem dX7_bestBy_0 : decode cX7_bestBy 0 = .ok (.iload_n 1, 1) := by decide +kernel
theorem dX7_bestBy_1 : decode cX7_bestBy 1 = .ok (.ifCond .lt 14, 3) := by decide +kernel
theorem dX7_bestBy_4 : decode cX7_bestBy 4 = .ok (.iload_n 1, 1) := by decide +kernel
theorem dX7_bestBy_5 : decode cX7_bestBy 5 = .ok (.aload_n 0, 1) := by decide +kernel
theorem dX7_bestBy_6 : decode cX7_bestBy 6 = .ok (.getfield 27, 3) := by decide +kernel
theorem dX7_bestBy_9 : decode cX7_bestBy 9 = .ok (.invokevirtual 248, 3) := by decide +kernel
theorem dX7_bestBy_12 : decode cX7_bestBy 12 = .ok (.if_icmp .le 5, 3) := by decide +kernel
theorem dX7_bestBy_15 : decode cX7_bestBy 15 = .ok (.iconst (-1), 1) := by decide +kernel
theorem dX7_bestBy_16 : decode cX7_bestBy 16 = .ok (.ireturn, 1) := by decide +kernel
theorem dX7_bestBy_17 : decode cX7_bestBy 17 = .ok (.aload_n 0, 1) := by decide +kernel
theorem dX7_bestBy_18 : decode cX7_bestBy 18 = .ok (.getfield 52, 3) := by decide +kernel
theorem dX7_bestBy_21 : decode cX7_bestBy 21 = .ok (.aload_n 0, 1) := by decide +kernel
theorem dX7_bestBy_22 : decode cX7_bestBy 22 = .ok (.getfield 35, 3) := by decide +kernel
theorem dX7_bestBy_25 : decode cX7_bestBy 25 = .ok (.aload_n 0, 1) := by decide +kernel
theorem dX7_bestBy_26 : decode cX7_bestBy 26 = .ok (.getfield 27, 3) := by decide +kernel
theorem dX7_bestBy_29 : decode cX7_bestBy 29 = .ok (.getfield 107, 3) := by decide +kernel
theorem dX7_bestBy_32 : decode cX7_bestBy 32 = .ok (.iload_n 1, 1) := by decide +kernel
theorem dX7_bestBy_33 : decode cX7_bestBy 33 = .ok (.invokevirtual 251, 3) := by decide +kernel
theorem dX7_bestBy_36 : decode cX7_bestBy 36 = .ok (.ireturn, 1) := by decide +kernel
set_option maxHeartbeats 4000000 in
set_option maxRecDepth 20000 in
theorem sgX7_bestBy_0 {κ : Kx} {K : Kont} {M : Mem} (C : Cx κ RX7 cX7_bestBy 2 (some .int) rmX7_bestBy domC) (x1 : Int)
    (h :
    ((x1 < 0 →
      K (some (-1)) M) ∧
     (¬ (x1 < 0) →
      spX1_allPictures 1 M (rI (fun r9 M9 =>
      ((x1 ≤ r9 →
        spX0_solve 0 (M9 5 1 1) x1 M9 (rI (fun r33 M33 =>
        K (some r33) M33))) ∧
       (¬ (x1 ≤ r9) →
        K (some (-1)) M9))))))) : V κ 2 M 0 [some (.inr (0, 0)), some (.inl x1)] [] K := by
  refine v_iload_n C dX7_bestBy_0 rfl ?_
  refine v_if C dX7_bestBy_1 (tgt := 15) (by decide) (P := x1 < 0) rfl (fun c1 => ?_) (fun c1 => ?_)
  · replace h := h.1 c1
    refine v_iconst C dX7_bestBy_15 (by decide) ?_
    exact v_iret C dX7_bestBy_16 h
  · replace h := h.2 c1
    refine v_iload_n C dX7_bestBy_4 rfl ?_
    refine v_aload_n C dX7_bestBy_5 rfl ?_
    refine v_get C dX7_bestBy_6 flX7_27 rfl (by decide) (by decide) (w := .inr (5, 1)) rfl ?_
    refine v_invV C ctX1_allPictures dX7_bestBy_9 ivX7_248 ⟨by decide, by decide, rfl, rfl⟩ (1 : Int) (As := []) rfl rfl rfl (by decide) rfl (st := [.inl x1]) rfl (Nat.le_of_ble_eq_true rfl) h (fun o M9 oM9 io9 g9 => ?_)
    replace h := rI_out g9
    clear g9
    obtain ⟨r9, rfl, h⟩ := h
    refine v_push ?_
    refine v_icmp C dX7_bestBy_12 (tgt := 17) (by decide) (P := x1 ≤ r9) rfl (fun c12 => ?_) (fun c12 => ?_)
    · replace h := h.1 c12
      refine v_aload_n C dX7_bestBy_17 rfl ?_
      refine v_get C dX7_bestBy_18 flX7_52 rfl (by decide) (by decide) (w := .inr (21, 0)) rfl ?_
      refine v_aload_n C dX7_bestBy_21 rfl ?_
      refine v_get C dX7_bestBy_22 flX7_35 rfl (by decide) (by decide) (w := .inr (14, 0)) rfl ?_
      refine v_aload_n C dX7_bestBy_25 rfl ?_
      refine v_get C dX7_bestBy_26 flX7_27 rfl (by decide) (by decide) (w := .inr (5, 1)) rfl ?_
      refine v_get C dX7_bestBy_29 flX7_107 rfl (by decide) (by decide) (w := .inl (M9 5 1 1)) rfl ?_
      refine v_iload_n C dX7_bestBy_32 rfl ?_
      refine v_invV C ctX0_solve dX7_bestBy_33 ivX7_251 ⟨by decide, by decide, rfl, rfl⟩ ((0, M9 5 1 1, x1) : Int × Int × Int) (As := [.inr (14, 0), .inl (M9 5 1 1), .inl x1]) rfl rfl rfl (by decide) rfl (st := []) rfl (Nat.le_of_ble_eq_true rfl) h (fun o M33 oM33 io33 g33 => ?_)
      replace h := rI_out g33
      clear g33
      obtain ⟨r33, rfl, h⟩ := h
      refine v_push ?_
      exact v_iret C dX7_bestBy_36 h
    · replace h := h.2 c12
      refine v_iconst C dX7_bestBy_15 (by decide) ?_
      exact v_iret C dX7_bestBy_16 h
abbrev spX7_bestBy (x : Int) (M : Mem) (K : Kont) : Prop := InvC M ∧ (¬ (0 ≤ x ∧ x ≤ allS (cFilm M 1)) → K (some (-1)) M) ∧ ((0 ≤ x ∧ x ≤ allS (cFilm M 1)) → ∀ M', InvC M' → Ch M M' (cFilm M 1) (M 19 0) (M 20 0) → K (some (bV0 (cFilm M 1) (cFilm M 1 1 0 0) x)) M')
theorem bV_S {M : Mem} (hI : InvC M) {b may : Int} (hb : 0 ≤ b) : tabR (cFilm M 1) (M 16 0) (M 17 0) b may (M 5 1 0).toNat 0 0 = bV0 (cFilm M 1) b may := by
  have h0 := hI.1.2.1.1
  have e0 : cFilm M 1 0 0 0 = M 5 1 0 := rfl
  exact tab_c hI.1.2.1 FEq.rf hI.S hI.Q hb (fun _ _ _ => rfl) _ 0 0 (by omega) (by omega) (by omega)
theorem ctX7_bestBy : CtX7_bestBy spX7_bestBy := by
  refine ct_of (by decide) dmC (fun _ => Nat.le_of_ble_eq_true rfl) ?_
  intro κ x M K C oM h
  dsimp only [spX7_bestBy] at h
  obtain ⟨hI, k1, k2⟩ := h
  have hf := hI.1.2.1
  have n3 := hf.2.2.2.1
  have e3 : cFilm M 1 3 0 0 = M 5 1 7 := rfl
  have eA : allS (cFilm M 1) = bShl 1 (M 5 1 7) - 1 := rfl
  have b9 := hf.2.1
  refine sgX7_bestBy_0 C x ⟨fun c => k1 (by omega), fun c => ⟨by omega, fun c2 => ⟨⟨hf, hI.1.2.2.1.1, b9, by omega, by omega⟩, fun N hA _ => ?_⟩, fun c2 => k1 (by omega)⟩⟩
  have := InvC_B hI hA
  rw [bV_S hI (show 0 ≤ M 5 1 1 from b9.1)]
  exact k2 (by omega) N this.1 this.2.sim.ch
/-! ===== GapTellings.bestBreath ===== -/
abbrev rmX7_bestBreath : Room := { frames := 4, cells := 0, slots := 0, locals := 108 }
abbrev argX7_bestBreath (a : Int) : List PV := [.inr (0, 0), .inl a]
abbrev CtX7_bestBreath (sp : Int → Mem → Kont → Prop) : Prop := Ct yX7_bestBreath cX7_bestBreath 2 (some .int) rmX7_bestBreath domC argX7_bestBreath (fun a => sp a)
theorem dX7_bestBreath_0 : decode cX7_bestBreath 0 = .ok (.iload_n 1, 1) := by decide +kernel
theorem dX7_bestBreath_1 : decode cX7_bestBreath 1 = .ok (.ifCond .lt 9, 3) := by decide +kernel
theorem dX7_bestBreath_4 : decode cX7_bestBreath 4 = .ok (.iload_n 1, 1) := by decide +kernel
theorem dX7_bestBreath_5 : decode cX7_bestBreath 5 = .ok (.bipush 9, 2) := by decide +kernel
theorem dX7_bestBreath_7 : decode cX7_bestBreath 7 = .ok (.if_icmp .le 5, 3) := by decide +kernel
theorem dX7_bestBreath_10 : decode cX7_bestBreath 10 = .ok (.iconst (-1), 1) := by decide +kernel
theorem dX7_bestBreath_11 : decode cX7_bestBreath 11 = .ok (.ireturn, 1) := by decide +kernel
theorem dX7_bestBreath_12 : decode cX7_bestBreath 12 = .ok (.aload_n 0, 1) := by decide +kernel
theorem dX7_bestBreath_13 : decode cX7_bestBreath 13 = .ok (.getfield 52, 3) := by decide +kernel
theorem dX7_bestBreath_16 : decode cX7_bestBreath 16 = .ok (.aload_n 0, 1) := by decide +kernel
theorem dX7_bestBreath_17 : decode cX7_bestBreath 17 = .ok (.getfield 35, 3) := by decide +kernel
theorem dX7_bestBreath_20 : decode cX7_bestBreath 20 = .ok (.iload_n 1, 1) := by decide +kernel
theorem dX7_bestBreath_21 : decode cX7_bestBreath 21 = .ok (.aload_n 0, 1) := by decide +kernel
theorem dX7_bestBreath_22 : decode cX7_bestBreath 22 = .ok (.getfield 27, 3) := by decide +kernel
theorem dX7_bestBreath_25 : decode cX7_bestBreath 25 = .ok (.invokevirtual 248, 3) := by decide +kernel
theorem dX7_bestBreath_28 : decode cX7_bestBreath 28 = .ok (.invokevirtual 251, 3) := by decide +kernel
theorem dX7_bestBreath_31 : decode cX7_bestBreath 31 = .ok (.ireturn, 1) := by decide +kernel
set_option maxHeartbeats 4000000 in
set_option maxRecDepth 20000 in
theorem sgX7_bestBreath_0 {κ : Kx} {K : Kont} {M : Mem} (C : Cx κ RX7 cX7_bestBreath 2 (some .int) rmX7_bestBreath domC) (x1 : Int)
    (h :
    ((x1 < 0 →
      K (some (-1)) M) ∧
     (¬ (x1 < 0) →
      ((x1 ≤ 9 →
        spX1_allPictures 1 M (rI (fun r25 M25 =>
        spX0_solve 0 x1 r25 M25 (rI (fun r28 M28 =>
        K (some r28) M28))))) ∧
       (¬ (x1 ≤ 9) →
        K (some (-1)) M))))) : V κ 2 M 0 [some (.inr (0, 0)), some (.inl x1)] [] K := by
  refine v_iload_n C dX7_bestBreath_0 rfl ?_
  refine v_if C dX7_bestBreath_1 (tgt := 10) (by decide) (P := x1 < 0) rfl (fun c1 => ?_) (fun c1 => ?_)
  · replace h := h.1 c1
    refine v_iconst C dX7_bestBreath_10 (by decide) ?_
    exact v_iret C dX7_bestBreath_11 h
  · replace h := h.2 c1
    refine v_iload_n C dX7_bestBreath_4 rfl ?_
    refine v_bipush C dX7_bestBreath_5 (by decide) (by decide) ?_
    refine v_icmp C dX7_bestBreath_7 (tgt := 12) (by decide) (P := x1 ≤ 9) rfl (fun c7 => ?_) (fun c7 => ?_)
    · replace h := h.1 c7
      refine v_aload_n C dX7_bestBreath_12 rfl ?_
      refine v_get C dX7_bestBreath_13 flX7_52 rfl (by decide) (by decide) (w := .inr (21, 0)) rfl ?_
      refine v_aload_n C dX7_bestBreath_16 rfl ?_
      refine v_get C dX7_bestBreath_17 flX7_35 rfl (by decide) (by decide) (w := .inr (14, 0)) rfl ?_
      refine v_iload_n C dX7_bestBreath_20 rfl ?_
      refine v_aload_n C dX7_bestBreath_21 rfl ?_
      refine v_get C dX7_bestBreath_22 flX7_27 rfl (by decide) (by decide) (w := .inr (5, 1)) rfl ?_
      refine v_invV C ctX1_allPictures dX7_bestBreath_25 ivX7_248 ⟨by decide, by decide, rfl, rfl⟩ (1 : Int) (As := []) rfl rfl rfl (by decide) rfl (st := [.inl x1, .inr (14, 0), .inr (21, 0)]) rfl (Nat.le_of_ble_eq_true rfl) h (fun o M25 oM25 io25 g25 => ?_)
      replace h := rI_out g25
      clear g25
      obtain ⟨r25, rfl, h⟩ := h
      refine v_push ?_
      refine v_invV C ctX0_solve dX7_bestBreath_28 ivX7_251 ⟨by decide, by decide, rfl, rfl⟩ ((0, x1, r25) : Int × Int × Int) (As := [.inr (14, 0), .inl x1, .inl r25]) rfl rfl rfl (by decide) rfl (st := []) rfl (Nat.le_of_ble_eq_true rfl) h (fun o M28 oM28 io28 g28 => ?_)
      replace h := rI_out g28
      clear g28
      obtain ⟨r28, rfl, h⟩ := h
      refine v_push ?_
      exact v_iret C dX7_bestBreath_31 h
    · replace h := h.2 c7
      refine v_iconst C dX7_bestBreath_10 (by decide) ?_
      exact v_iret C dX7_bestBreath_11 h
abbrev spX7_bestBreath (b : Int) (M : Mem) (K : Kont) : Prop := InvC M ∧ (¬ (0 ≤ b ∧ b ≤ 9) → K (some (-1)) M) ∧ ((0 ≤ b ∧ b ≤ 9) → ∀ M', InvC M' → Ch M M' (cFilm M 1) (M 19 0) (M 20 0) → K (some (bV0 (cFilm M 1) b (allS (cFilm M 1)))) M')
theorem ctX7_bestBreath : CtX7_bestBreath spX7_bestBreath := by
  refine ct_of (by decide) dmC (fun _ => Nat.le_of_ble_eq_true rfl) ?_
  intro κ b M K C oM h
  dsimp only [spX7_bestBreath] at h
  obtain ⟨hI, k1, k2⟩ := h
  have hf := hI.1.2.1
  have n3 := hf.2.2.2.1
  have e3 : cFilm M 1 3 0 0 = M 5 1 7 := rfl
  have hw := shl_le7 (k := M 5 1 7) (by omega) (by omega)
  refine sgX7_bestBreath_0 C b ⟨fun c => k1 (by omega), fun c => ⟨fun c2 => ⟨by omega, ⟨hf, hI.1.2.2.1.1, by omega, by omega, by omega⟩, fun N hA _ => ?_⟩, fun c2 => k1 (by omega)⟩⟩
  have := InvC_B hI hA
  rw [bV_S hI (by omega)]
  exact k2 (by omega) N this.1 this.2.sim.ch
/-! ===== GapTellings.bestIf ===== -/
abbrev rmX7_bestIf : Room := { frames := 4, cells := 0, slots := 0, locals := 108 }
abbrev argX7_bestIf (a : Int × Int) : List PV := [.inr (0, 0), .inl a.1, .inl a.2]
abbrev CtX7_bestIf (sp : Int → Int → Mem → Kont → Prop) : Prop := Ct yX7_bestIf cX7_bestIf 3 (some .int) rmX7_bestIf domC argX7_bestIf (fun a => sp a.1 a.2)
theorem dX7_bestIf_0 : decode cX7_bestIf 0 = .ok (.aload_n 0, 1) := by decide +kernel
theorem dX7_bestIf_1 : decode cX7_bestIf 1 = .ok (.iload_n 1, 1) := by decide +kernel
theorem dX7_bestIf_2 : decode cX7_bestIf 2 = .ok (.invokevirtual 127, 3) := by decide +kernel
theorem dX7_bestIf_5 : decode cX7_bestIf 5 = .ok (.ifCond .eq 30, 3) := by decide +kernel
theorem dX7_bestIf_8 : decode cX7_bestIf 8 = .ok (.iload_n 2, 1) := by decide +kernel
theorem dX7_bestIf_9 : decode cX7_bestIf 9 = .ok (.ifCond .lt 26, 3) := by decide +kernel
theorem dX7_bestIf_12 : decode cX7_bestIf 12 = .ok (.iload_n 2, 1) := by decide +kernel
theorem dX7_bestIf_13 : decode cX7_bestIf 13 = .ok (.aload_n 0, 1) := by decide +kernel
theorem dX7_bestIf_14 : decode cX7_bestIf 14 = .ok (.getfield 27, 3) := by decide +kernel
theorem dX7_bestIf_17 : decode cX7_bestIf 17 = .ok (.getfield 255, 3) := by decide +kernel
theorem dX7_bestIf_20 : decode cX7_bestIf 20 = .ok (.iload_n 1, 1) := by decide +kernel
theorem dX7_bestIf_21 : decode cX7_bestIf 21 = .ok (.iaload, 1) := by decide +kernel
theorem dX7_bestIf_22 : decode cX7_bestIf 22 = .ok (.aload_n 0, 1) := by decide +kernel
theorem dX7_bestIf_23 : decode cX7_bestIf 23 = .ok (.getfield 27, 3) := by decide +kernel
theorem dX7_bestIf_26 : decode cX7_bestIf 26 = .ok (.getfield 258, 3) := by decide +kernel
theorem dX7_bestIf_29 : decode cX7_bestIf 29 = .ok (.iload_n 1, 1) := by decide +kernel
theorem dX7_bestIf_30 : decode cX7_bestIf 30 = .ok (.iaload, 1) := by decide +kernel
theorem dX7_bestIf_31 : decode cX7_bestIf 31 = .ok (.isub, 1) := by decide +kernel
theorem dX7_bestIf_32 : decode cX7_bestIf 32 = .ok (.if_icmp .le 5, 3) := by decide +kernel
theorem dX7_bestIf_35 : decode cX7_bestIf 35 = .ok (.iconst (-1), 1) := by decide +kernel
theorem dX7_bestIf_36 : decode cX7_bestIf 36 = .ok (.ireturn, 1) := by decide +kernel
theorem dX7_bestIf_37 : decode cX7_bestIf 37 = .ok (.aload_n 0, 1) := by decide +kernel
theorem dX7_bestIf_38 : decode cX7_bestIf 38 = .ok (.getfield 39, 3) := by decide +kernel
theorem dX7_bestIf_41 : decode cX7_bestIf 41 = .ok (.iload_n 1, 1) := by decide +kernel
theorem dX7_bestIf_42 : decode cX7_bestIf 42 = .ok (.iload_n 2, 1) := by decide +kernel
theorem dX7_bestIf_43 : decode cX7_bestIf 43 = .ok (.invokevirtual 261, 3) := by decide +kernel
theorem dX7_bestIf_46 : decode cX7_bestIf 46 = .ok (.aload_n 0, 1) := by decide +kernel
theorem dX7_bestIf_47 : decode cX7_bestIf 47 = .ok (.getfield 52, 3) := by decide +kernel
theorem dX7_bestIf_50 : decode cX7_bestIf 50 = .ok (.aload_n 0, 1) := by decide +kernel
theorem dX7_bestIf_51 : decode cX7_bestIf 51 = .ok (.getfield 39, 3) := by decide +kernel
theorem dX7_bestIf_54 : decode cX7_bestIf 54 = .ok (.aload_n 0, 1) := by decide +kernel
theorem dX7_bestIf_55 : decode cX7_bestIf 55 = .ok (.getfield 27, 3) := by decide +kernel
theorem dX7_bestIf_58 : decode cX7_bestIf 58 = .ok (.getfield 107, 3) := by decide +kernel
theorem dX7_bestIf_61 : decode cX7_bestIf 61 = .ok (.aload_n 0, 1) := by decide +kernel
theorem dX7_bestIf_62 : decode cX7_bestIf 62 = .ok (.getfield 27, 3) := by decide +kernel
theorem dX7_bestIf_65 : decode cX7_bestIf 65 = .ok (.invokevirtual 248, 3) := by decide +kernel
theorem dX7_bestIf_68 : decode cX7_bestIf 68 = .ok (.invokevirtual 251, 3) := by decide +kernel
theorem dX7_bestIf_71 : decode cX7_bestIf 71 = .ok (.ireturn, 1) := by decide +kernel
theorem flX7_255 : FL RX7 255 1 6 := ⟨_, _, _, rfl, by decide, uwX1, Or.inr ⟨"GapTellings", (nw_mem (t_in1 (List.mem_of_getElem? (i := 130) (by decide +kernel))) (by decide +kernel))⟩⟩
theorem flX7_258 : FL RX7 258 1 5 := ⟨_, _, _, rfl, by decide, uwX1, Or.inr ⟨"GapTellings", (nw_mem (t_in1 (List.mem_of_getElem? (i := 127) (by decide +kernel))) (by decide +kernel))⟩⟩
theorem flX7_39 : FL RX7 39 7 6 := ⟨_, _, _, rfl, by decide, uwX7, Or.inl (tb_mem (t_in2 (List.mem_of_getElem? (i := 221) (by decide +kernel))) (by decide +kernel))⟩
set_option maxHeartbeats 4000000 in
set_option maxRecDepth 20000 in
theorem sgX7_bestIf_0 {κ : Kx} {K : Kont} {M : Mem} (C : Cx κ RX7 cX7_bestIf 3 (some .int) rmX7_bestIf domC) (x1 : Int) (x2 : Int)
    (h :
    spX7_hasSound x1 M (rI (fun r2 M2 =>
    ((r2 = 0 →
      K (some (-1)) M2) ∧
     (¬ (r2 = 0) →
      ((x2 < 0 →
        K (some (-1)) M2) ∧
       (¬ (x2 < 0) →
        (0 ≤ x1 ∧ x1 < 12) ∧
        (0 ≤ x1 ∧ x1 < 12) ∧
        inR ((M2 9 1 x1) - (M2 8 1 x1)) ∧
        ((x2 ≤ ((M2 9 1 x1) - (M2 8 1 x1)) →
          spX6_listen 1 x1 x2 M2 (rV (fun M43 =>
          spX1_allPictures 1 M43 (rI (fun r65 M65 =>
          spX0_solve 1 (M43 5 1 1) r65 M65 (rI (fun r68 M68 =>
          K (some r68) M68))))))) ∧
         (¬ (x2 ≤ ((M2 9 1 x1) - (M2 8 1 x1))) →
          K (some (-1)) M2))))))))) : V κ 3 M 0 [some (.inr (0, 0)), some (.inl x1), some (.inl x2)] [] K := by
  refine v_aload_n C dX7_bestIf_0 rfl ?_
  refine v_iload_n C dX7_bestIf_1 rfl ?_
  refine v_invV C ctX7_hasSound dX7_bestIf_2 ivX7_127 ⟨by decide, by decide, rfl, rfl⟩ (x1 : Int) (As := [.inl x1]) rfl rfl rfl (by decide) rfl (st := []) rfl (Nat.le_of_ble_eq_true rfl) h (fun o M2 oM2 io2 g2 => ?_)
  replace h := rI_out g2
  clear g2
  obtain ⟨r2, rfl, h⟩ := h
  refine v_push ?_
  refine v_if C dX7_bestIf_5 (tgt := 35) (by decide) (P := r2 = 0) rfl (fun c5 => ?_) (fun c5 => ?_)
  · replace h := h.1 c5
    refine v_iconst C dX7_bestIf_35 (by decide) ?_
    exact v_iret C dX7_bestIf_36 h
  · replace h := h.2 c5
    refine v_iload_n C dX7_bestIf_8 rfl ?_
    refine v_if C dX7_bestIf_9 (tgt := 35) (by decide) (P := x2 < 0) rfl (fun c9 => ?_) (fun c9 => ?_)
    · replace h := h.1 c9
      refine v_iconst C dX7_bestIf_35 (by decide) ?_
      exact v_iret C dX7_bestIf_36 h
    · replace h := h.2 c9
      refine v_iload_n C dX7_bestIf_12 rfl ?_
      refine v_aload_n C dX7_bestIf_13 rfl ?_
      refine v_get C dX7_bestIf_14 flX7_27 rfl (by decide) (by decide) (w := .inr (5, 1)) rfl ?_
      refine v_get C dX7_bestIf_17 flX7_255 rfl (by decide) (by decide) (w := .inr (9, 1)) rfl ?_
      refine v_iload_n C dX7_bestIf_20 rfl ?_
      refine v_iald C dX7_bestIf_21 rfl h.1.1 h.1.2 ?_
      replace h := h.2
      refine v_aload_n C dX7_bestIf_22 rfl ?_
      refine v_get C dX7_bestIf_23 flX7_27 rfl (by decide) (by decide) (w := .inr (5, 1)) rfl ?_
      refine v_get C dX7_bestIf_26 flX7_258 rfl (by decide) (by decide) (w := .inr (8, 1)) rfl ?_
      refine v_iload_n C dX7_bestIf_29 rfl ?_
      refine v_iald C dX7_bestIf_30 rfl h.1.1 h.1.2 ?_
      replace h := h.2
      refine v_isub C dX7_bestIf_31 h.1 ?_
      replace h := h.2
      refine v_icmp C dX7_bestIf_32 (tgt := 37) (by decide) (P := x2 ≤ ((M2 9 1 x1) - (M2 8 1 x1))) rfl (fun c32 => ?_) (fun c32 => ?_)
      · replace h := h.1 c32
        refine v_aload_n C dX7_bestIf_37 rfl ?_
        refine v_get C dX7_bestIf_38 flX7_39 rfl (by decide) (by decide) (w := .inr (14, 1)) rfl ?_
        refine v_iload_n C dX7_bestIf_41 rfl ?_
        refine v_iload_n C dX7_bestIf_42 rfl ?_
        refine v_invV C ctX6_listen dX7_bestIf_43 ivX7_261 ⟨by decide, by decide, rfl, rfl⟩ ((1, x1, x2) : Int × Int × Int) (As := [.inl x1, .inl x2]) rfl rfl rfl (by decide) rfl (st := []) rfl (Nat.le_of_ble_eq_true rfl) h (fun o M43 oM43 io43 g43 => ?_)
        replace h := rV_out g43
        clear g43
        obtain ⟨rfl, h⟩ := h
        refine v_push0 ?_
        refine v_aload_n C dX7_bestIf_46 rfl ?_
        refine v_get C dX7_bestIf_47 flX7_52 rfl (by decide) (by decide) (w := .inr (21, 0)) rfl ?_
        refine v_aload_n C dX7_bestIf_50 rfl ?_
        refine v_get C dX7_bestIf_51 flX7_39 rfl (by decide) (by decide) (w := .inr (14, 1)) rfl ?_
        refine v_aload_n C dX7_bestIf_54 rfl ?_
        refine v_get C dX7_bestIf_55 flX7_27 rfl (by decide) (by decide) (w := .inr (5, 1)) rfl ?_
        refine v_get C dX7_bestIf_58 flX7_107 rfl (by decide) (by decide) (w := .inl (M43 5 1 1)) rfl ?_
        refine v_aload_n C dX7_bestIf_61 rfl ?_
        refine v_get C dX7_bestIf_62 flX7_27 rfl (by decide) (by decide) (w := .inr (5, 1)) rfl ?_
        refine v_invV C ctX1_allPictures dX7_bestIf_65 ivX7_248 ⟨by decide, by decide, rfl, rfl⟩ (1 : Int) (As := []) rfl rfl rfl (by decide) rfl (st := [.inl (M43 5 1 1), .inr (14, 1), .inr (21, 0)]) rfl (Nat.le_of_ble_eq_true rfl) h (fun o M65 oM65 io65 g65 => ?_)
        replace h := rI_out g65
        clear g65
        obtain ⟨r65, rfl, h⟩ := h
        refine v_push ?_
        refine v_invV C ctX0_solve dX7_bestIf_68 ivX7_251 ⟨by decide, by decide, rfl, rfl⟩ ((1, M43 5 1 1, r65) : Int × Int × Int) (As := [.inr (14, 1), .inl (M43 5 1 1), .inl r65]) rfl rfl rfl (by decide) rfl (st := []) rfl (Nat.le_of_ble_eq_true rfl) h (fun o M68 oM68 io68 g68 => ?_)
        replace h := rI_out g68
        clear g68
        obtain ⟨r68, rfl, h⟩ := h
        refine v_push ?_
        exact v_iret C dX7_bestIf_71 h
      · replace h := h.2 c32
        refine v_iconst C dX7_bestIf_35 (by decide) ?_
        exact v_iret C dX7_bestIf_36 h
theorem bV_sh (F : Film) (S Q : Int → Int) (B : Int) (f : Int → Int → Int) (s n t set p : Int) : ∀ (k : Nat) (b : Int), bV (shF F s n) S Q B f t set p k b = bV F S Q B f t set p k b := by
  intro k
  induction k with
  | zero => intro b; rfl
  | succ k ih =>
    intro b
    unfold bV
    rw [ih]
    rfl
theorem bP_sh (F : Film) (S Q : Int → Int) (B : Int) (f : Int → Int → Int) (s n t set may : Int) : ∀ (k : Nat), bP (shF F s n) S Q B f t set may k = bP F S Q B f t set may k := by
  intro k
  induction k with
  | zero => rfl
  | succ k ih =>
    unfold bP
    rw [ih, bV_sh]
    rfl
theorem tab_sh (F : Film) (S Q : Int → Int) (B may s n : Int) : ∀ (k : Nat), tabR (shF F s n) S Q B may k = tabR F S Q B may k := by
  intro k
  induction k with
  | zero => rfl
  | succ k ih =>
    funext t set
    unfold tabR
    rw [ih, bP_sh]
    rfl
abbrev ifK (F : Film) (s n : Int) : Prop := (0 ≤ s ∧ s < F 2 0 0) ∧ 0 ≤ n ∧ n ≤ F 7 s 0 - F 6 s 0
abbrev spX7_bestIf (s n : Int) (M : Mem) (K : Kont) : Prop := InvC M ∧ (¬ ifK (cFilm M 1) s n → K (some (-1)) M) ∧ (ifK (cFilm M 1) s n → ∀ M', InvC M' → Ch M M' (cFilm M 1) (M 19 0) (M 20 0) → K (some (bV0 (shF (cFilm M 1) s n) (cFilm M 1 1 0 0) (allS (cFilm M 1)))) M')
theorem ctX7_bestIf : CtX7_bestIf spX7_bestIf := by
  refine ct_of (by decide) dmC (fun _ => Nat.le_of_ble_eq_true rfl) ?_
  intro κ a M K C oM h
  obtain ⟨s, n⟩ := a
  dsimp only [spX7_bestIf] at h
  obtain ⟨hI, k1, k2⟩ := h
  have hf := hI.1.2.1
  have n3 := hf.2.2.2.1
  have n2 := hf.2.2.1
  have b9 := hf.2.1
  have h0 := hf.1
  have e3 : cFilm M 1 3 0 0 = M 5 1 7 := rfl
  have e2 : cFilm M 1 2 0 0 = M 5 1 3 := rfl
  have e0 : cFilm M 1 0 0 0 = M 5 1 0 := rfl
  have e1 : cFilm M 1 1 0 0 = M 5 1 1 := rfl
  have e7 : cFilm M 1 7 s 0 = M 9 1 s := rfl
  have e6 : cFilm M 1 6 s 0 = M 8 1 s := rfl
  have hw := shl_le7 (k := M 5 1 7) (by omega) (by omega)
  refine sgX7_bestIf_0 C s n ⟨fun c => k1 (fun z => if10n c z.1), fun c => ?_⟩
  have c1 := if10 c
  have ws := hf.2.2.2.2.2.1 s c1.1 c1.2
  unfold WFs at ws
  refine ⟨fun c2 => k1 (by omega), fun c2 => ⟨by omega, by omega, by omega, fun c3 => ⟨⟨hf, hI.1.2.2.1.2, hI.1.2.2.2.1.2.2.1, hI.1.2.2.2.1.2.2.2, Or.inr ⟨c1.1, c1.2, by omega, c3⟩⟩, fun N hA hB hT => ?_⟩, fun c3 => k1 (by omega)⟩⟩
  have g : ∀ r i, ¬ ((r = 15 ∨ r = 16 ∨ r = 17) ∧ i = 1) → N r i = M r i := hA
  have hfN := hA.film 1
  have e5 : N 5 1 = M 5 1 := g 5 1 (by omega)
  have hs : WFf (shF (cFilm M 1) s n) := wf_shF hf (Or.inr ⟨c1.1, c1.2, by omega, c3⟩)
  have hI1 : InvC N := InvC_keep hI (fun j _ => by rw [g 0 0 (by omega)]) (g 1 0 (by omega)) hfN (g 15 0 (by omega)) (g 16 0 (by omega)) (g 17 0 (by omega)) hB ⟨(hT.2 0 (by omega) h0.1).1.trans (by rfl), (hT.2 0 (by omega) h0.1).2.trans (by rfl)⟩ (fun i _ _ => ⟨g 19 i (by omega), g 20 i (by omega)⟩) (by rw [g 23 0 (by omega)])
  have sc : SameC M N := ⟨by rw [g 0 0 (by omega)], g 1 0 (by omega), hfN, g 19 0 (by omega), g 20 0 (by omega), fun r a => by funext i; exact g r i (by omega)⟩
  refine ⟨by rw [e5]; omega, ⟨by rw [hfN]; exact hf, hB, by rw [e5]; omega, by rw [e5]; omega, by rw [e5]; omega⟩, fun N2 hA2 _ => ?_⟩
  have k2' := InvC_B hI1 hA2
  have val : tabR (cFilm N 1) (N 16 1) (N 17 1) (N 5 1 1) (bShl 1 (N 5 1 7) - 1) (N 5 1 0).toNat 0 0 = bV0 (shF (cFilm M 1) s n) (cFilm M 1 1 0 0) (allS (cFilm M 1)) := by
    rw [hfN, e5]
    unfold bV0
    rw [tab_sh]
    exact tab_c hf FEq.rf (fun t a b => (hT.2 t a b).1) (fun t a b => (hT.2 t a b).2) b9.1 (fun _ _ _ => rfl) _ 0 0 (by omega) (by omega) (by omega)
  rw [val]
  exact k2 ⟨c1, by omega, c3⟩ N2 k2'.1 (sc.tr k2'.2).sim.ch
/-! ===== GapTellings.greedy ===== -/
abbrev rmX7_greedy : Room := { frames := 6, cells := 0, slots := 0, locals := 142 }
abbrev argX7_greedy (a : Unit) : List PV := [.inr (0, 0)]
abbrev CtX7_greedy (sp : Mem → Kont → Prop) : Prop := Ct yX7_greedy cX7_greedy 1 (some .int) rmX7_greedy domC argX7_greedy (fun _ => sp)
theorem dX7_greedy_0 : decode cX7_greedy 0 = .ok (.aload_n 0, 1) := by decide +kernel
theorem dX7_greedy_1 : decode cX7_greedy 1 = .ok (.getfield 64, 3) := by decide +kernel
theorem dX7_greedy_4 : decode cX7_greedy 4 = .ok (.invokevirtual 264, 3) := by decide +kernel
theorem dX7_greedy_7 : decode cX7_greedy 7 = .ok (.aload_n 0, 1) := by decide +kernel
theorem dX7_greedy_8 : decode cX7_greedy 8 = .ok (.getfield 64, 3) := by decide +kernel
theorem dX7_greedy_11 : decode cX7_greedy 11 = .ok (.getfield 267, 3) := by decide +kernel
theorem dX7_greedy_14 : decode cX7_greedy 14 = .ok (.aload_n 0, 1) := by decide +kernel
theorem dX7_greedy_15 : decode cX7_greedy 15 = .ok (.getfield 35, 3) := by decide +kernel
theorem dX7_greedy_18 : decode cX7_greedy 18 = .ok (.invokevirtual 180, 3) := by decide +kernel
theorem dX7_greedy_21 : decode cX7_greedy 21 = .ok (.ldc 169, 2) := by decide +kernel
theorem dX7_greedy_23 : decode cX7_greedy 23 = .ok (.iadd, 1) := by decide +kernel
theorem dX7_greedy_24 : decode cX7_greedy 24 = .ok (.ireturn, 1) := by decide +kernel
theorem ivX7_264 : IV RX7 264 yX2_fillPlan cX2_fillPlan 2 none 0 := ⟨(tb_mem (t_in4 (List.mem_of_getElem? (i := 63) (by decide +kernel))) (by decide +kernel)), (tb_mem (t_in4 (List.mem_of_getElem? (i := 64) (by decide +kernel))) (by decide +kernel)), (tb_mem (t_in4 (List.mem_of_getElem? (i := 65) (by decide +kernel))) (by decide +kernel)), (tb_mem (t_in1 (List.mem_of_getElem? (i := 9) (by decide +kernel))) (by decide +kernel)), (tb_mem (t_in4 (List.mem_of_getElem? (i := 66) (by decide +kernel))) (by decide +kernel)), ⟨by decide +kernel, by decide +kernel, by decide +kernel⟩⟩
theorem flX7_267 : FL RX7 267 2 2 := ⟨_, _, _, rfl, by decide, uwX2, Or.inr ⟨"GapTellings", (nw_mem (t_in1 (List.mem_of_getElem? (i := 230) (by decide +kernel))) (by decide +kernel))⟩⟩
set_option maxHeartbeats 4000000 in
set_option maxRecDepth 20000 in
theorem sgX7_greedy_0 {κ : Kx} {K : Kont} {M : Mem} (C : Cx κ RX7 cX7_greedy 1 (some .int) rmX7_greedy domC) 
    (h :
    spX2_fillPlan M (rV (fun M4 =>
    spX4_valueOn 2 0 M4 (rI (fun r18 M18 =>
    inR (r18 + 100000) ∧
    K (some (r18 + 100000)) M18))))) : V κ 1 M 0 [some (.inr (0, 0))] [] K := by
  refine v_aload_n C dX7_greedy_0 rfl ?_
  refine v_get C dX7_greedy_1 flX7_64 rfl (by decide) (by decide) (w := .inr (23, 0)) rfl ?_
  refine v_invV C ctX2_fillPlan dX7_greedy_4 ivX7_264 ⟨by decide, by decide, rfl, rfl⟩ (() : Unit) (As := []) rfl rfl rfl (by decide) rfl (st := []) rfl (Nat.le_of_ble_eq_true rfl) h (fun o M4 oM4 io4 g4 => ?_)
  replace h := rV_out g4
  clear g4
  obtain ⟨rfl, h⟩ := h
  refine v_push0 ?_
  refine v_aload_n C dX7_greedy_7 rfl ?_
  refine v_get C dX7_greedy_8 flX7_64 rfl (by decide) (by decide) (w := .inr (23, 0)) rfl ?_
  refine v_get C dX7_greedy_11 flX7_267 rfl (by decide) (by decide) (w := .inr (18, 2)) rfl ?_
  refine v_aload_n C dX7_greedy_14 rfl ?_
  refine v_get C dX7_greedy_15 flX7_35 rfl (by decide) (by decide) (w := .inr (14, 0)) rfl ?_
  refine v_invV C ctX4_valueOn dX7_greedy_18 ivX7_180 ⟨by decide, by decide, rfl, rfl⟩ ((2, 0) : Int × Int) (As := [.inr (14, 0)]) rfl rfl rfl (by decide) rfl (st := []) rfl (Nat.le_of_ble_eq_true rfl) h (fun o M18 oM18 io18 g18 => ?_)
  replace h := rI_out g18
  clear g18
  obtain ⟨r18, rfl, h⟩ := h
  refine v_push ?_
  refine v_ldc C dX7_greedy_21 csX7_169 (by decide) ?_
  refine v_iadd C dX7_greedy_23 h.1 ?_
  replace h := h.2
  exact v_iret C dX7_greedy_24 h
theorem fill_ok {M : Mem} {K : Kont} (hI : InvC M) (hk : ∀ M', InvC M' → SameC M M' → PlK (cFilm M 1) (M' 19 2) (M' 20 2) → PlEq (M' 19 2) (M' 20 2) (gr0 (cFilm M 1)).1 (gr0 (cFilm M 1)).2 → K none M') : spX2_fillPlan M K := by
  have hf := hI.1.2.1
  refine ⟨⟨hf, hI.1.2.2.1.1⟩, fun c => hk M hI SameC.rf (hI.2.2.2 c).1 (hI.2.2.2 c).2, fun c N hA h3 hP hE => ?_⟩
  have o : ∀ r i, r ≠ 23 → ¬ ((r = 19 ∨ r = 20) ∧ i = 2) → N r i = M r i := fun r i a b => by funext j; exact hA r i j (by omega)
  have hfN := hA.film 1
  have hE2 : PlEq (N 19 2) (N 20 2) (gr0 (cFilm M 1)).1 (gr0 (cFilm M 1)).2 := hE.tr (gre_c hf FEq.rf hI.S hI.Q).1
  refine hk N ?_ ⟨by rw [o 0 0 (by omega) (by omega)], o 1 0 (by omega) (by omega), hfN, o 19 0 (by omega) (by omega), o 20 0 (by omega) (by omega), fun r a => by funext i; exact o r i (by omega) (by omega)⟩ hP hE2
  obtain ⟨⟨a1, a2, a3, a4, a5⟩, b1, b2, b3⟩ := hI
  refine ⟨⟨⟨by rw [o 0 0 (by omega) (by omega)]; exact a1.1, by rw [o 1 0 (by omega) (by omega)]; exact a1.2⟩, by rw [hfN]; exact a2, ⟨fun u x y => by rw [o 16 0 (by omega) (by omega), o 17 0 (by omega) (by omega)]; exact a3.1 u x y, fun u x y => by rw [o 16 1 (by omega) (by omega), o 17 1 (by omega) (by omega)]; exact a3.2 u x y⟩, ⟨by rw [o 16 0 (by omega) (by omega)]; exact a4.1, by rw [o 17 0 (by omega) (by omega)]; exact a4.2.1, by rw [o 16 1 (by omega) (by omega)]; exact a4.2.2.1, by rw [o 17 1 (by omega) (by omega)]; exact a4.2.2.2⟩, by rw [hfN, o 19 0 (by omega) (by omega), o 20 0 (by omega) (by omega)]; exact a5⟩, ?_, ?_, ?_⟩
  · rw [hfN]
    exact ⟨fun u x y => by rw [o 15 0 (by omega) (by omega)]; exact b1.1 u x y, fun u x y => by rw [o 16 0 (by omega) (by omega), o 17 0 (by omega) (by omega)]; exact b1.2 u x y⟩
  · rw [hfN, o 0 0 (by omega) (by omega), o 19 1 (by omega) (by omega), o 20 1 (by omega) (by omega)]
    exact b2
  · rw [hfN]
    intro _
    exact ⟨hP, hE2⟩
noncomputable def grdA (F : Film) : Int := vaN F (csb F) (gr0 F).1 (gr0 F).2 (F 3 0 0).toNat + 100000
abbrev spX7_greedy (M : Mem) (K : Kont) : Prop := InvC M ∧ ∀ M', InvC M' → Ch M M' (cFilm M 1) (M 19 0) (M 20 0) → K (some (grdA (cFilm M 1))) M'
theorem ctX7_greedy : CtX7_greedy spX7_greedy := by
  refine ct_of (by decide) dmC (fun _ => Nat.le_of_ble_eq_true rfl) ?_
  intro κ a M K C oM h
  obtain ⟨hI, hk⟩ := h
  refine sgX7_greedy_0 C (fill_ok hI (fun N hN hs hP hE => ?_))
  have hf := hN.1.2.1
  have hb := hN.1.2.2.1.1
  have n3 := hf.2.2.2.1
  have e3 : cFilm N 1 3 0 0 = N 5 1 7 := rfl
  rw [← hs.2.2.1] at hP
  have hv := vaN_rng hf hb hP (N 5 1 7).toNat (by omega)
  refine ⟨⟨hf, hb, hP⟩, by omega, ?_⟩
  have := hk N hN hs.sim.ch
  unfold grdA at this
  rw [← hs.2.2.1] at this hE
  rw [← vaN_c hf FEq.rf hN.Q hP hE _ (by omega)] at this
  exact this
/-! ===== GapTellings.greedyOf ===== -/
abbrev rmX7_greedyOf : Room := { frames := 6, cells := 0, slots := 0, locals := 142 }
abbrev argX7_greedyOf (a : Int × Int) : List PV := [.inr (0, 0), .inl a.1, .inl a.2]
abbrev CtX7_greedyOf (sp : Int → Int → Mem → Kont → Prop) : Prop := Ct yX7_greedyOf cX7_greedyOf 3 (some .int) rmX7_greedyOf domC argX7_greedyOf (fun a => sp a.1 a.2)
theorem dX7_greedyOf_0 : decode cX7_greedyOf 0 = .ok (.aload_n 0, 1) := by decide +kernel
theorem dX7_greedyOf_1 : decode cX7_greedyOf 1 = .ok (.iload_n 1, 1) := by decide +kernel
theorem dX7_greedyOf_2 : decode cX7_greedyOf 2 = .ok (.invokevirtual 135, 3) := by decide +kernel
theorem dX7_greedyOf_5 : decode cX7_greedyOf 5 = .ok (.ifCond .eq 12, 3) := by decide +kernel
theorem dX7_greedyOf_8 : decode cX7_greedyOf 8 = .ok (.iload_n 2, 1) := by decide +kernel
theorem dX7_greedyOf_9 : decode cX7_greedyOf 9 = .ok (.ifCond .lt 8, 3) := by decide +kernel
theorem dX7_greedyOf_12 : decode cX7_greedyOf 12 = .ok (.iload_n 2, 1) := by decide +kernel
theorem dX7_greedyOf_13 : decode cX7_greedyOf 13 = .ok (.iconst 1, 1) := by decide +kernel
theorem dX7_greedyOf_14 : decode cX7_greedyOf 14 = .ok (.if_icmp .le 5, 3) := by decide +kernel
theorem dX7_greedyOf_17 : decode cX7_greedyOf 17 = .ok (.iconst (-1), 1) := by decide +kernel
theorem dX7_greedyOf_18 : decode cX7_greedyOf 18 = .ok (.ireturn, 1) := by decide +kernel
theorem dX7_greedyOf_19 : decode cX7_greedyOf 19 = .ok (.aload_n 0, 1) := by decide +kernel
theorem dX7_greedyOf_20 : decode cX7_greedyOf 20 = .ok (.getfield 64, 3) := by decide +kernel
theorem dX7_greedyOf_23 : decode cX7_greedyOf 23 = .ok (.invokevirtual 264, 3) := by decide +kernel
theorem dX7_greedyOf_26 : decode cX7_greedyOf 26 = .ok (.iload_n 2, 1) := by decide +kernel
theorem dX7_greedyOf_27 : decode cX7_greedyOf 27 = .ok (.ifCond .ne 18, 3) := by decide +kernel
theorem dX7_greedyOf_30 : decode cX7_greedyOf 30 = .ok (.aload_n 0, 1) := by decide +kernel
theorem dX7_greedyOf_31 : decode cX7_greedyOf 31 = .ok (.getfield 64, 3) := by decide +kernel
theorem dX7_greedyOf_34 : decode cX7_greedyOf 34 = .ok (.getfield 267, 3) := by decide +kernel
theorem dX7_greedyOf_37 : decode cX7_greedyOf 37 = .ok (.getfield 206, 3) := by decide +kernel
theorem dX7_greedyOf_40 : decode cX7_greedyOf 40 = .ok (.iload_n 1, 1) := by decide +kernel
theorem dX7_greedyOf_41 : decode cX7_greedyOf 41 = .ok (.iaload, 1) := by decide +kernel
theorem dX7_greedyOf_42 : decode cX7_greedyOf 42 = .ok (.goto 15, 3) := by decide +kernel
theorem dX7_greedyOf_45 : decode cX7_greedyOf 45 = .ok (.aload_n 0, 1) := by decide +kernel
theorem dX7_greedyOf_46 : decode cX7_greedyOf 46 = .ok (.getfield 64, 3) := by decide +kernel
theorem dX7_greedyOf_49 : decode cX7_greedyOf 49 = .ok (.getfield 267, 3) := by decide +kernel
theorem dX7_greedyOf_52 : decode cX7_greedyOf 52 = .ok (.getfield 209, 3) := by decide +kernel
theorem dX7_greedyOf_55 : decode cX7_greedyOf 55 = .ok (.iload_n 1, 1) := by decide +kernel
theorem dX7_greedyOf_56 : decode cX7_greedyOf 56 = .ok (.iaload, 1) := by decide +kernel
theorem dX7_greedyOf_57 : decode cX7_greedyOf 57 = .ok (.ireturn, 1) := by decide +kernel
set_option maxHeartbeats 4000000 in
set_option maxRecDepth 20000 in
theorem sgX7_greedyOf_0 {κ : Kx} {K : Kont} {M : Mem} (C : Cx κ RX7 cX7_greedyOf 3 (some .int) rmX7_greedyOf domC) (x1 : Int) (x2 : Int)
    (h :
    spX7_hasPicture x1 M (rI (fun r2 M2 =>
    ((r2 = 0 →
      K (some (-1)) M2) ∧
     (¬ (r2 = 0) →
      ((x2 < 0 →
        K (some (-1)) M2) ∧
       (¬ (x2 < 0) →
        ((x2 ≤ 1 →
          spX2_fillPlan M2 (rV (fun M23 =>
          ((x2 ≠ 0 →
            (0 ≤ x1 ∧ x1 < 7) ∧
            K (some (M23 20 2 x1)) M23) ∧
           (¬ (x2 ≠ 0) →
            (0 ≤ x1 ∧ x1 < 7) ∧
            K (some (M23 19 2 x1)) M23))))) ∧
         (¬ (x2 ≤ 1) →
          K (some (-1)) M2))))))))) : V κ 3 M 0 [some (.inr (0, 0)), some (.inl x1), some (.inl x2)] [] K := by
  refine v_aload_n C dX7_greedyOf_0 rfl ?_
  refine v_iload_n C dX7_greedyOf_1 rfl ?_
  refine v_invV C ctX7_hasPicture dX7_greedyOf_2 ivX7_135 ⟨by decide, by decide, rfl, rfl⟩ (x1 : Int) (As := [.inl x1]) rfl rfl rfl (by decide) rfl (st := []) rfl (Nat.le_of_ble_eq_true rfl) h (fun o M2 oM2 io2 g2 => ?_)
  replace h := rI_out g2
  clear g2
  obtain ⟨r2, rfl, h⟩ := h
  refine v_push ?_
  refine v_if C dX7_greedyOf_5 (tgt := 17) (by decide) (P := r2 = 0) rfl (fun c5 => ?_) (fun c5 => ?_)
  · replace h := h.1 c5
    refine v_iconst C dX7_greedyOf_17 (by decide) ?_
    exact v_iret C dX7_greedyOf_18 h
  · replace h := h.2 c5
    refine v_iload_n C dX7_greedyOf_8 rfl ?_
    refine v_if C dX7_greedyOf_9 (tgt := 17) (by decide) (P := x2 < 0) rfl (fun c9 => ?_) (fun c9 => ?_)
    · replace h := h.1 c9
      refine v_iconst C dX7_greedyOf_17 (by decide) ?_
      exact v_iret C dX7_greedyOf_18 h
    · replace h := h.2 c9
      refine v_iload_n C dX7_greedyOf_12 rfl ?_
      refine v_iconst C dX7_greedyOf_13 (by decide) ?_
      refine v_icmp C dX7_greedyOf_14 (tgt := 19) (by decide) (P := x2 ≤ 1) rfl (fun c14 => ?_) (fun c14 => ?_)
      · replace h := h.1 c14
        refine v_aload_n C dX7_greedyOf_19 rfl ?_
        refine v_get C dX7_greedyOf_20 flX7_64 rfl (by decide) (by decide) (w := .inr (23, 0)) rfl ?_
        refine v_invV C ctX2_fillPlan dX7_greedyOf_23 ivX7_264 ⟨by decide, by decide, rfl, rfl⟩ (() : Unit) (As := []) rfl rfl rfl (by decide) rfl (st := []) rfl (Nat.le_of_ble_eq_true rfl) h (fun o M23 oM23 io23 g23 => ?_)
        replace h := rV_out g23
        clear g23
        obtain ⟨rfl, h⟩ := h
        refine v_push0 ?_
        refine v_iload_n C dX7_greedyOf_26 rfl ?_
        refine v_if C dX7_greedyOf_27 (tgt := 45) (by decide) (P := x2 ≠ 0) rfl (fun c27 => ?_) (fun c27 => ?_)
        · replace h := h.1 c27
          refine v_aload_n C dX7_greedyOf_45 rfl ?_
          refine v_get C dX7_greedyOf_46 flX7_64 rfl (by decide) (by decide) (w := .inr (23, 0)) rfl ?_
          refine v_get C dX7_greedyOf_49 flX7_267 rfl (by decide) (by decide) (w := .inr (18, 2)) rfl ?_
          refine v_get C dX7_greedyOf_52 flX7_209 rfl (by decide) (by decide) (w := .inr (20, 2)) rfl ?_
          refine v_iload_n C dX7_greedyOf_55 rfl ?_
          refine v_iald C dX7_greedyOf_56 rfl h.1.1 h.1.2 ?_
          replace h := h.2
          exact v_iret C dX7_greedyOf_57 h
        · replace h := h.2 c27
          refine v_aload_n C dX7_greedyOf_30 rfl ?_
          refine v_get C dX7_greedyOf_31 flX7_64 rfl (by decide) (by decide) (w := .inr (23, 0)) rfl ?_
          refine v_get C dX7_greedyOf_34 flX7_267 rfl (by decide) (by decide) (w := .inr (18, 2)) rfl ?_
          refine v_get C dX7_greedyOf_37 flX7_206 rfl (by decide) (by decide) (w := .inr (19, 2)) rfl ?_
          refine v_iload_n C dX7_greedyOf_40 rfl ?_
          refine v_iald C dX7_greedyOf_41 rfl h.1.1 h.1.2 ?_
          replace h := h.2
          refine v_goto C dX7_greedyOf_42 (tgt := 57) (by decide) ?_
          exact v_iret C dX7_greedyOf_57 h
      · replace h := h.2 c14
        refine v_iconst C dX7_greedyOf_17 (by decide) ?_
        exact v_iret C dX7_greedyOf_18 h
abbrev spX7_greedyOf (p w : Int) (M : Mem) (K : Kont) : Prop := InvC M ∧ (¬ ofK (cFilm M 1) p w → K (some (-1)) M) ∧ (ofK (cFilm M 1) p w → ∀ M', InvC M' → Ch M M' (cFilm M 1) (M 19 0) (M 20 0) → K (some (if w = 0 then (gr0 (cFilm M 1)).1 p else (gr0 (cFilm M 1)).2 p)) M')
theorem ctX7_greedyOf : CtX7_greedyOf spX7_greedyOf := by
  refine ct_of (by decide) dmC (fun _ => Nat.le_of_ble_eq_true rfl) ?_
  intro κ a M K C oM h
  obtain ⟨p, w⟩ := a
  dsimp only [spX7_greedyOf] at h
  obtain ⟨hI, k1, k2⟩ := h
  have n3 := hI.1.2.1.2.2.2.1
  have e3 : cFilm M 1 3 0 0 = M 5 1 7 := rfl
  refine sgX7_greedyOf_0 C p w ⟨fun c => k1 (fun z => if10n c z.1), fun c => ?_⟩
  have c1 := if10 c
  refine ⟨fun c2 => k1 (by omega), fun c2 => ⟨fun c3 => fill_ok hI (fun N hN hs _ hE => ?_), fun c3 => k1 (by omega)⟩⟩
  have := k2 ⟨c1, by omega, c3⟩ N hN hs.sim.ch
  have e := hE p c1.1 (by omega)
  refine ⟨fun c4 => ⟨by omega, ?_⟩, fun c4 => ⟨by omega, ?_⟩⟩
  · rw [if_neg c4, ← e.2] at this; exact this
  · rw [if_pos (by omega), ← e.1] at this; exact this
/-! ===== GapTellings.count ===== -/
abbrev rmX7_count : Room := { frames := 5, cells := 0, slots := 0, locals := 128 }
abbrev argX7_count (a : Int) : List PV := [.inr (0, 0), .inl a]
abbrev CtX7_count (sp : Int → Mem → Kont → Prop) : Prop := Ct yX7_count cX7_count 2 (some .int) rmX7_count domC argX7_count (fun a => sp a)
theorem dX7_count_0 : decode cX7_count 0 = .ok (.iload_n 1, 1) := by decide +kernel
theorem dX7_count_1 : decode cX7_count 1 = .ok (.tableswitch 196 0 12 #[67, 75, 83, 91, 99, 107, 112, 124, 140, 156, 166, 176, 186], 67) := by decide +kernel
theorem dX7_count_68 : decode cX7_count 68 = .ok (.aload_n 0, 1) := by decide +kernel
theorem dX7_count_69 : decode cX7_count 69 = .ok (.getfield 27, 3) := by decide +kernel
theorem dX7_count_72 : decode cX7_count 72 = .ok (.getfield 113, 3) := by decide +kernel
theorem dX7_count_75 : decode cX7_count 75 = .ok (.ireturn, 1) := by decide +kernel
theorem dX7_count_76 : decode cX7_count 76 = .ok (.aload_n 0, 1) := by decide +kernel
theorem dX7_count_77 : decode cX7_count 77 = .ok (.getfield 27, 3) := by decide +kernel
theorem dX7_count_80 : decode cX7_count 80 = .ok (.getfield 116, 3) := by decide +kernel
theorem dX7_count_83 : decode cX7_count 83 = .ok (.ireturn, 1) := by decide +kernel
theorem dX7_count_84 : decode cX7_count 84 = .ok (.aload_n 0, 1) := by decide +kernel
theorem dX7_count_85 : decode cX7_count 85 = .ok (.getfield 27, 3) := by decide +kernel
theorem dX7_count_88 : decode cX7_count 88 = .ok (.getfield 97, 3) := by decide +kernel
theorem dX7_count_91 : decode cX7_count 91 = .ok (.ireturn, 1) := by decide +kernel
theorem dX7_count_92 : decode cX7_count 92 = .ok (.aload_n 0, 1) := by decide +kernel
theorem dX7_count_93 : decode cX7_count 93 = .ok (.getfield 45, 3) := by decide +kernel
theorem dX7_count_96 : decode cX7_count 96 = .ok (.invokevirtual 191, 3) := by decide +kernel
theorem dX7_count_99 : decode cX7_count 99 = .ok (.ireturn, 1) := by decide +kernel
theorem dX7_count_100 : decode cX7_count 100 = .ok (.aload_n 0, 1) := by decide +kernel
theorem dX7_count_101 : decode cX7_count 101 = .ok (.getfield 27, 3) := by decide +kernel
theorem dX7_count_104 : decode cX7_count 104 = .ok (.getfield 107, 3) := by decide +kernel
theorem dX7_count_107 : decode cX7_count 107 = .ok (.ireturn, 1) := by decide +kernel
theorem dX7_count_108 : decode cX7_count 108 = .ok (.aload_n 0, 1) := by decide +kernel
theorem dX7_count_109 : decode cX7_count 109 = .ok (.getfield 86, 3) := by decide +kernel
theorem dX7_count_112 : decode cX7_count 112 = .ok (.ireturn, 1) := by decide +kernel
theorem dX7_count_113 : decode cX7_count 113 = .ok (.aload_n 0, 1) := by decide +kernel
theorem dX7_count_114 : decode cX7_count 114 = .ok (.invokevirtual 184, 3) := by decide +kernel
theorem dX7_count_117 : decode cX7_count 117 = .ok (.aload_n 0, 1) := by decide +kernel
theorem dX7_count_118 : decode cX7_count 118 = .ok (.getfield 56, 3) := by decide +kernel
theorem dX7_count_121 : decode cX7_count 121 = .ok (.invokevirtual 191, 3) := by decide +kernel
theorem dX7_count_124 : decode cX7_count 124 = .ok (.ireturn, 1) := by decide +kernel
theorem dX7_count_125 : decode cX7_count 125 = .ok (.aload_n 0, 1) := by decide +kernel
theorem dX7_count_126 : decode cX7_count 126 = .ok (.getfield 35, 3) := by decide +kernel
theorem dX7_count_129 : decode cX7_count 129 = .ok (.getfield 270, 3) := by decide +kernel
theorem dX7_count_132 : decode cX7_count 132 = .ok (.aload_n 0, 1) := by decide +kernel
theorem dX7_count_133 : decode cX7_count 133 = .ok (.getfield 27, 3) := by decide +kernel
theorem dX7_count_136 : decode cX7_count 136 = .ok (.getfield 113, 3) := by decide +kernel
theorem dX7_count_139 : decode cX7_count 139 = .ok (.iaload, 1) := by decide +kernel
theorem dX7_count_140 : decode cX7_count 140 = .ok (.ireturn, 1) := by decide +kernel
theorem dX7_count_141 : decode cX7_count 141 = .ok (.aload_n 0, 1) := by decide +kernel
theorem dX7_count_142 : decode cX7_count 142 = .ok (.getfield 45, 3) := by decide +kernel
theorem dX7_count_145 : decode cX7_count 145 = .ok (.iconst 0, 1) := by decide +kernel
theorem dX7_count_146 : decode cX7_count 146 = .ok (.aload_n 0, 1) := by decide +kernel
theorem dX7_count_147 : decode cX7_count 147 = .ok (.getfield 27, 3) := by decide +kernel
theorem dX7_count_150 : decode cX7_count 150 = .ok (.getfield 113, 3) := by decide +kernel
theorem dX7_count_153 : decode cX7_count 153 = .ok (.invokevirtual 242, 3) := by decide +kernel
theorem dX7_count_156 : decode cX7_count 156 = .ok (.ireturn, 1) := by decide +kernel
theorem dX7_count_157 : decode cX7_count 157 = .ok (.aload_n 0, 1) := by decide +kernel
theorem dX7_count_158 : decode cX7_count 158 = .ok (.getfield 27, 3) := by decide +kernel
theorem dX7_count_161 : decode cX7_count 161 = .ok (.getfield 100, 3) := by decide +kernel
theorem dX7_count_164 : decode cX7_count 164 = .ok (.iconst 0, 1) := by decide +kernel
theorem dX7_count_165 : decode cX7_count 165 = .ok (.iaload, 1) := by decide +kernel
theorem dX7_count_166 : decode cX7_count 166 = .ok (.ireturn, 1) := by decide +kernel
theorem dX7_count_167 : decode cX7_count 167 = .ok (.aload_n 0, 1) := by decide +kernel
theorem dX7_count_168 : decode cX7_count 168 = .ok (.getfield 27, 3) := by decide +kernel
theorem dX7_count_171 : decode cX7_count 171 = .ok (.getfield 100, 3) := by decide +kernel
theorem dX7_count_174 : decode cX7_count 174 = .ok (.iconst 1, 1) := by decide +kernel
theorem dX7_count_175 : decode cX7_count 175 = .ok (.iaload, 1) := by decide +kernel
theorem dX7_count_176 : decode cX7_count 176 = .ok (.ireturn, 1) := by decide +kernel
theorem dX7_count_177 : decode cX7_count 177 = .ok (.aload_n 0, 1) := by decide +kernel
theorem dX7_count_178 : decode cX7_count 178 = .ok (.getfield 27, 3) := by decide +kernel
theorem dX7_count_181 : decode cX7_count 181 = .ok (.getfield 100, 3) := by decide +kernel
theorem dX7_count_184 : decode cX7_count 184 = .ok (.iconst 2, 1) := by decide +kernel
theorem dX7_count_185 : decode cX7_count 185 = .ok (.iaload, 1) := by decide +kernel
theorem dX7_count_186 : decode cX7_count 186 = .ok (.ireturn, 1) := by decide +kernel
theorem dX7_count_187 : decode cX7_count 187 = .ok (.aload_n 0, 1) := by decide +kernel
theorem dX7_count_188 : decode cX7_count 188 = .ok (.getfield 27, 3) := by decide +kernel
theorem dX7_count_191 : decode cX7_count 191 = .ok (.getfield 100, 3) := by decide +kernel
theorem dX7_count_194 : decode cX7_count 194 = .ok (.iconst 3, 1) := by decide +kernel
theorem dX7_count_195 : decode cX7_count 195 = .ok (.iaload, 1) := by decide +kernel
theorem dX7_count_196 : decode cX7_count 196 = .ok (.ireturn, 1) := by decide +kernel
theorem dX7_count_197 : decode cX7_count 197 = .ok (.iconst (-1), 1) := by decide +kernel
theorem dX7_count_198 : decode cX7_count 198 = .ok (.ireturn, 1) := by decide +kernel
theorem flX7_270 : FL RX7 270 6 2 := ⟨_, _, _, rfl, by decide, uwX6, Or.inr ⟨"GapTellings", (nw_mem (t_in1 (List.mem_of_getElem? (i := 173) (by decide +kernel))) (by decide +kernel))⟩⟩
set_option maxHeartbeats 4000000 in
set_option maxRecDepth 20000 in
theorem sgX7_count_0 {κ : Kx} {K : Kont} {M : Mem} (C : Cx κ RX7 cX7_count 2 (some .int) rmX7_count domC) (x1 : Int)
    (h :
    ((x1 = 0 →
      K (some (M 5 1 0)) M) ∧
     (x1 = 1 →
      K (some (M 5 1 3)) M) ∧
     (x1 = 2 →
      K (some (M 5 1 7)) M) ∧
     (x1 = 3 →
      spX4_size 0 M (rI (fun r96 M96 =>
      K (some r96) M96))) ∧
     (x1 = 4 →
      K (some (M 5 1 1)) M) ∧
     (x1 = 5 →
      K (some (M 0 0 1)) M) ∧
     (x1 = 6 →
      spX7_findBest M (rV (fun M114 =>
      spX4_size 1 M114 (rI (fun r121 M121 =>
      K (some r121) M121))))) ∧
     (x1 = 7 →
      (0 ≤ (M 5 1 0) ∧ (M 5 1 0) < 101) ∧
      K (some (M 16 0 (M 5 1 0))) M) ∧
     (x1 = 8 →
      spX4_ticksTold 0 0 (M 5 1 0) M (rI (fun r153 M153 =>
      K (some r153) M153))) ∧
     (x1 = 9 →
      K (some (M 6 1 0)) M) ∧
     (x1 = 10 →
      K (some (M 6 1 1)) M) ∧
     (x1 = 11 →
      K (some (M 6 1 2)) M) ∧
     (x1 = 12 →
      K (some (M 6 1 3)) M) ∧
     (x1 < 0 ∨ 12 < x1 →
      K (some (-1)) M))) : V κ 2 M 0 [some (.inr (0, 0)), some (.inl x1)] [] K := by
  refine v_iload_n C dX7_count_0 rfl ?_
  refine v_tsw C dX7_count_1 (dt := 197) (by decide) (fun j hj hh => ?_) (fun ho => ?_)
  · have hjj : j = 0 ∨ j = 1 ∨ j = 2 ∨ j = 3 ∨ j = 4 ∨ j = 5 ∨ j = 6 ∨ j = 7 ∨ j = 8 ∨ j = 9 ∨ j = 10 ∨ j = 11 ∨ j = 12 := by omega
    rcases hjj with rfl | rfl | rfl | rfl | rfl | rfl | rfl | rfl | rfl | rfl | rfl | rfl | rfl
    · refine ⟨67, 68, rfl, by decide, ?_⟩
      replace h := h.1 (by omega)
      refine v_aload_n C dX7_count_68 rfl ?_
      refine v_get C dX7_count_69 flX7_27 rfl (by decide) (by decide) (w := .inr (5, 1)) rfl ?_
      refine v_get C dX7_count_72 flX7_113 rfl (by decide) (by decide) (w := .inl (M 5 1 0)) rfl ?_
      exact v_iret C dX7_count_75 h
    · refine ⟨75, 76, rfl, by decide, ?_⟩
      replace h := h.2.1 (by omega)
      refine v_aload_n C dX7_count_76 rfl ?_
      refine v_get C dX7_count_77 flX7_27 rfl (by decide) (by decide) (w := .inr (5, 1)) rfl ?_
      refine v_get C dX7_count_80 flX7_116 rfl (by decide) (by decide) (w := .inl (M 5 1 3)) rfl ?_
      exact v_iret C dX7_count_83 h
    · refine ⟨83, 84, rfl, by decide, ?_⟩
      replace h := h.2.2.1 (by omega)
      refine v_aload_n C dX7_count_84 rfl ?_
      refine v_get C dX7_count_85 flX7_27 rfl (by decide) (by decide) (w := .inr (5, 1)) rfl ?_
      refine v_get C dX7_count_88 flX7_97 rfl (by decide) (by decide) (w := .inl (M 5 1 7)) rfl ?_
      exact v_iret C dX7_count_91 h
    · refine ⟨91, 92, rfl, by decide, ?_⟩
      replace h := h.2.2.2.1 (by omega)
      refine v_aload_n C dX7_count_92 rfl ?_
      refine v_get C dX7_count_93 flX7_45 rfl (by decide) (by decide) (w := .inr (18, 0)) rfl ?_
      refine v_invV C ctX4_size dX7_count_96 ivX7_191 ⟨by decide, by decide, rfl, rfl⟩ (0 : Int) (As := []) rfl rfl rfl (by decide) rfl (st := []) rfl (Nat.le_of_ble_eq_true rfl) h (fun o M96 oM96 io96 g96 => ?_)
      replace h := rI_out g96
      clear g96
      obtain ⟨r96, rfl, h⟩ := h
      refine v_push ?_
      exact v_iret C dX7_count_99 h
    · refine ⟨99, 100, rfl, by decide, ?_⟩
      replace h := h.2.2.2.2.1 (by omega)
      refine v_aload_n C dX7_count_100 rfl ?_
      refine v_get C dX7_count_101 flX7_27 rfl (by decide) (by decide) (w := .inr (5, 1)) rfl ?_
      refine v_get C dX7_count_104 flX7_107 rfl (by decide) (by decide) (w := .inl (M 5 1 1)) rfl ?_
      exact v_iret C dX7_count_107 h
    · refine ⟨107, 108, rfl, by decide, ?_⟩
      replace h := h.2.2.2.2.2.1 (by omega)
      refine v_aload_n C dX7_count_108 rfl ?_
      refine v_get C dX7_count_109 flX7_86 rfl (by decide) (by decide) (w := .inl (M 0 0 1)) rfl ?_
      exact v_iret C dX7_count_112 h
    · refine ⟨112, 113, rfl, by decide, ?_⟩
      replace h := h.2.2.2.2.2.2.1 (by omega)
      refine v_aload_n C dX7_count_113 rfl ?_
      refine v_invV C ctX7_findBest dX7_count_114 ivX7_184 ⟨by decide, by decide, rfl, rfl⟩ (() : Unit) (As := []) rfl rfl rfl (by decide) rfl (st := []) rfl (Nat.le_of_ble_eq_true rfl) h (fun o M114 oM114 io114 g114 => ?_)
      replace h := rV_out g114
      clear g114
      obtain ⟨rfl, h⟩ := h
      refine v_push0 ?_
      refine v_aload_n C dX7_count_117 rfl ?_
      refine v_get C dX7_count_118 flX7_56 rfl (by decide) (by decide) (w := .inr (18, 1)) rfl ?_
      refine v_invV C ctX4_size dX7_count_121 ivX7_191 ⟨by decide, by decide, rfl, rfl⟩ (1 : Int) (As := []) rfl rfl rfl (by decide) rfl (st := []) rfl (Nat.le_of_ble_eq_true rfl) h (fun o M121 oM121 io121 g121 => ?_)
      replace h := rI_out g121
      clear g121
      obtain ⟨r121, rfl, h⟩ := h
      refine v_push ?_
      exact v_iret C dX7_count_124 h
    · refine ⟨124, 125, rfl, by decide, ?_⟩
      replace h := h.2.2.2.2.2.2.2.1 (by omega)
      refine v_aload_n C dX7_count_125 rfl ?_
      refine v_get C dX7_count_126 flX7_35 rfl (by decide) (by decide) (w := .inr (14, 0)) rfl ?_
      refine v_get C dX7_count_129 flX7_270 rfl (by decide) (by decide) (w := .inr (16, 0)) rfl ?_
      refine v_aload_n C dX7_count_132 rfl ?_
      refine v_get C dX7_count_133 flX7_27 rfl (by decide) (by decide) (w := .inr (5, 1)) rfl ?_
      refine v_get C dX7_count_136 flX7_113 rfl (by decide) (by decide) (w := .inl (M 5 1 0)) rfl ?_
      refine v_iald C dX7_count_139 rfl h.1.1 h.1.2 ?_
      replace h := h.2
      exact v_iret C dX7_count_140 h
    · refine ⟨140, 141, rfl, by decide, ?_⟩
      replace h := h.2.2.2.2.2.2.2.2.1 (by omega)
      refine v_aload_n C dX7_count_141 rfl ?_
      refine v_get C dX7_count_142 flX7_45 rfl (by decide) (by decide) (w := .inr (18, 0)) rfl ?_
      refine v_iconst C dX7_count_145 (by decide) ?_
      refine v_aload_n C dX7_count_146 rfl ?_
      refine v_get C dX7_count_147 flX7_27 rfl (by decide) (by decide) (w := .inr (5, 1)) rfl ?_
      refine v_get C dX7_count_150 flX7_113 rfl (by decide) (by decide) (w := .inl (M 5 1 0)) rfl ?_
      refine v_invV C ctX4_ticksTold dX7_count_153 ivX7_242 ⟨by decide, by decide, rfl, rfl⟩ ((0, 0, M 5 1 0) : Int × Int × Int) (As := [.inl 0, .inl (M 5 1 0)]) rfl rfl rfl (by decide) rfl (st := []) rfl (Nat.le_of_ble_eq_true rfl) h (fun o M153 oM153 io153 g153 => ?_)
      replace h := rI_out g153
      clear g153
      obtain ⟨r153, rfl, h⟩ := h
      refine v_push ?_
      exact v_iret C dX7_count_156 h
    · refine ⟨156, 157, rfl, by decide, ?_⟩
      replace h := h.2.2.2.2.2.2.2.2.2.1 (by omega)
      refine v_aload_n C dX7_count_157 rfl ?_
      refine v_get C dX7_count_158 flX7_27 rfl (by decide) (by decide) (w := .inr (5, 1)) rfl ?_
      refine v_get C dX7_count_161 flX7_100 rfl (by decide) (by decide) (w := .inr (6, 1)) rfl ?_
      refine v_iconst C dX7_count_164 (by decide) ?_
      refine v_iald C dX7_count_165 rfl (by decide) (by decide) ?_
      exact v_iret C dX7_count_166 h
    · refine ⟨166, 167, rfl, by decide, ?_⟩
      replace h := h.2.2.2.2.2.2.2.2.2.2.1 (by omega)
      refine v_aload_n C dX7_count_167 rfl ?_
      refine v_get C dX7_count_168 flX7_27 rfl (by decide) (by decide) (w := .inr (5, 1)) rfl ?_
      refine v_get C dX7_count_171 flX7_100 rfl (by decide) (by decide) (w := .inr (6, 1)) rfl ?_
      refine v_iconst C dX7_count_174 (by decide) ?_
      refine v_iald C dX7_count_175 rfl (by decide) (by decide) ?_
      exact v_iret C dX7_count_176 h
    · refine ⟨176, 177, rfl, by decide, ?_⟩
      replace h := h.2.2.2.2.2.2.2.2.2.2.2.1 (by omega)
      refine v_aload_n C dX7_count_177 rfl ?_
      refine v_get C dX7_count_178 flX7_27 rfl (by decide) (by decide) (w := .inr (5, 1)) rfl ?_
      refine v_get C dX7_count_181 flX7_100 rfl (by decide) (by decide) (w := .inr (6, 1)) rfl ?_
      refine v_iconst C dX7_count_184 (by decide) ?_
      refine v_iald C dX7_count_185 rfl (by decide) (by decide) ?_
      exact v_iret C dX7_count_186 h
    · refine ⟨186, 187, rfl, by decide, ?_⟩
      replace h := h.2.2.2.2.2.2.2.2.2.2.2.2.1 (by omega)
      refine v_aload_n C dX7_count_187 rfl ?_
      refine v_get C dX7_count_188 flX7_27 rfl (by decide) (by decide) (w := .inr (5, 1)) rfl ?_
      refine v_get C dX7_count_191 flX7_100 rfl (by decide) (by decide) (w := .inr (6, 1)) rfl ?_
      refine v_iconst C dX7_count_194 (by decide) ?_
      refine v_iald C dX7_count_195 rfl (by decide) (by decide) ?_
      exact v_iret C dX7_count_196 h
  · replace h := h.2.2.2.2.2.2.2.2.2.2.2.2.2 ho
    refine v_iconst C dX7_count_197 (by decide) ?_
    exact v_iret C dX7_count_198 h
def cntA (F : Film) (L : Int) (ver sta : Int → Int) (w : Int) : Int :=
  if w = 0 then F 0 0 0 else if w = 1 then F 2 0 0 else if w = 2 then F 3 0 0 else if w = 3 then szN ver (F 3 0 0).toNat else if w = 4 then F 1 0 0 else if w = 5 then L else if w = 6 then szN (bP0 F).1 (F 3 0 0).toNat else if w = 7 then spb F (F 0 0 0) else if w = 8 then tkN F ver sta 0 (F 0 0 0) (F 3 0 0).toNat else if 9 ≤ w ∧ w ≤ 12 then F 4 (w - 9) 0 else -1
abbrev spX7_count (w : Int) (M : Mem) (K : Kont) : Prop := InvC M ∧ ∀ M', InvC M' → Ch M M' (cFilm M 1) (M 19 0) (M 20 0) → K (some (cntA (cFilm M 1) (M 0 0 1) (M 19 0) (M 20 0) w)) M'
theorem ctX7_count : CtX7_count spX7_count := by
  refine ct_of (by decide) dmC (fun _ => Nat.le_of_ble_eq_true rfl) ?_
  intro κ w M K C oM h
  obtain ⟨hI, hk⟩ := h
  have hk : ∀ M', InvC M' → Ch M M' (cFilm M 1) (M 19 0) (M 20 0) → K (some (cntA (cFilm M 1) (M 0 0 1) (M 19 0) (M 20 0) w)) M' := hk
  have hf := hI.1.2.1
  have n3 := hf.2.2.2.1
  have h0 := hf.1
  have e3 : cFilm M 1 3 0 0 = M 5 1 7 := rfl
  have e0 : cFilm M 1 0 0 0 = M 5 1 0 := rfl
  have k0 := hk M hI SameC.rf.sim.ch
  unfold cntA at hk k0
  refine sgX7_count_0 C w ⟨fun z => ?_, fun z => ?_, fun z => ?_, fun z => ⟨by omega, ?_⟩, fun z => ?_, fun z => ?_, fun z => ⟨hI, fun N hN hs _ hP hE => ?_⟩, fun z => ⟨by omega, ?_⟩, fun z => ⟨⟨hf, hI.1.2.2.2.2.1, by omega⟩, ?_⟩, fun z => ?_, fun z => ?_, fun z => ?_, fun z => ?_, fun z => ?_⟩
  · rw [if_pos z] at k0; exact k0
  · rw [if_neg (by omega), if_pos z] at k0; exact k0
  · rw [if_neg (by omega), if_neg (by omega), if_pos z] at k0; exact k0
  · rw [if_neg (by omega), if_neg (by omega), if_neg (by omega), if_pos z] at k0; exact k0
  · rw [if_neg (by omega), if_neg (by omega), if_neg (by omega), if_neg (by omega), if_pos z] at k0; exact k0
  · rw [if_neg (by omega), if_neg (by omega), if_neg (by omega), if_neg (by omega), if_neg (by omega), if_pos z] at k0; exact k0
  · have e5 : N 5 1 7 = M 5 1 7 := by
      have : cFilm N 1 3 0 0 = cFilm M 1 3 0 0 := by rw [hs.2.2.1]
      exact this
    have k1 := hk N hN hs.sim.ch
    rw [if_neg (by omega), if_neg (by omega), if_neg (by omega), if_neg (by omega), if_neg (by omega), if_neg (by omega), if_pos z, ← szN_c hE _ (by omega)] at k1
    refine ⟨by omega, ?_⟩
    rw [e5]
    exact k1
  · rw [if_neg (by omega), if_neg (by omega), if_neg (by omega), if_neg (by omega), if_neg (by omega), if_neg (by omega), if_neg (by omega), if_pos z, ← hI.S _ h0.1 (by omega)] at k0; exact k0
  · rw [if_neg (by omega), if_neg (by omega), if_neg (by omega), if_neg (by omega), if_neg (by omega), if_neg (by omega), if_neg (by omega), if_neg (by omega), if_pos z] at k0; exact k0
  · rw [if_neg (by omega), if_neg (by omega), if_neg (by omega), if_neg (by omega), if_neg (by omega), if_neg (by omega), if_neg (by omega), if_neg (by omega), if_neg (by omega), if_pos (by omega), z] at k0; exact k0
  · rw [if_neg (by omega), if_neg (by omega), if_neg (by omega), if_neg (by omega), if_neg (by omega), if_neg (by omega), if_neg (by omega), if_neg (by omega), if_neg (by omega), if_pos (by omega), z] at k0; exact k0
  · rw [if_neg (by omega), if_neg (by omega), if_neg (by omega), if_neg (by omega), if_neg (by omega), if_neg (by omega), if_neg (by omega), if_neg (by omega), if_neg (by omega), if_pos (by omega), z] at k0; exact k0
  · rw [if_neg (by omega), if_neg (by omega), if_neg (by omega), if_neg (by omega), if_neg (by omega), if_neg (by omega), if_neg (by omega), if_neg (by omega), if_neg (by omega), if_pos (by omega), z] at k0; exact k0
  · rw [if_neg (by omega), if_neg (by omega), if_neg (by omega), if_neg (by omega), if_neg (by omega), if_neg (by omega), if_neg (by omega), if_neg (by omega), if_neg (by omega), if_neg (by omega)] at k0; exact k0
