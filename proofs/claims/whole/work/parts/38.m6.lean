/-! ===== the Model: told, tick, silence ===== -/
theorem bfl {b : Bool} (h : ¬ b = true) : b = false := by
  cases b
  · rfl
  · exact absurd rfl h
/-! ===== GapTellingsModel.told ===== -/
abbrev rmX8_told : Room := { frames := 3, cells := 0, slots := 0, locals := 74 }
abbrev argX8_told (a : Int × Int × Int) : List PV := [.inr (30, 0), .inl a.1, .inl a.2.1, .inl a.2.2]
abbrev CtX8_told (sp : Int → Int → Int → Mem → Kont → Prop) : Prop := Ct yX8_told cX8_told 9 (some .int) rmX8_told domM argX8_told (fun a => sp a.1 a.2.1 a.2.2)
theorem dX8_told_0 : decode cX8_told 0 = .ok (.aload_n 0, 1) := by decide +kernel
theorem dX8_told_1 : decode cX8_told 1 = .ok (.iload_n 1, 1) := by decide +kernel
theorem dX8_told_2 : decode cX8_told 2 = .ok (.iload_n 2, 1) := by decide +kernel
theorem dX8_told_3 : decode cX8_told 3 = .ok (.iconst 0, 1) := by decide +kernel
theorem dX8_told_4 : decode cX8_told 4 = .ok (.invokevirtual 157, 3) := by decide +kernel
theorem dX8_told_7 : decode cX8_told 7 = .ok (.ifCond .eq 12, 3) := by decide +kernel
theorem dX8_told_10 : decode cX8_told 10 = .ok (.iload_n 3, 1) := by decide +kernel
theorem dX8_told_11 : decode cX8_told 11 = .ok (.iconst 0, 1) := by decide +kernel
theorem dX8_told_12 : decode cX8_told 12 = .ok (.iconst 4, 1) := by decide +kernel
theorem dX8_told_13 : decode cX8_told 13 = .ok (.invokestatic 97, 3) := by decide +kernel
theorem dX8_told_16 : decode cX8_told 16 = .ok (.ifCond .ne 5, 3) := by decide +kernel
theorem dX8_told_19 : decode cX8_told 19 = .ok (.iconst (-1), 1) := by decide +kernel
theorem dX8_told_20 : decode cX8_told 20 = .ok (.ireturn, 1) := by decide +kernel
theorem dX8_told_21 : decode cX8_told 21 = .ok (.iload_n 3, 1) := by decide +kernel
theorem dX8_told_22 : decode cX8_told 22 = .ok (.iconst 2, 1) := by decide +kernel
theorem dX8_told_23 : decode cX8_told 23 = .ok (.if_icmp .ge 21, 3) := by decide +kernel
theorem dX8_told_26 : decode cX8_told 26 = .ok (.aload_n 0, 1) := by decide +kernel
theorem dX8_told_27 : decode cX8_told 27 = .ok (.getfield 16, 3) := by decide +kernel
theorem dX8_told_30 : decode cX8_told 30 = .ok (.bipush 11, 2) := by decide +kernel
theorem dX8_told_32 : decode cX8_told 32 = .ok (.iload_n 1, 1) := by decide +kernel
theorem dX8_told_33 : decode cX8_told 33 = .ok (.imul, 1) := by decide +kernel
theorem dX8_told_34 : decode cX8_told 34 = .ok (.iconst 5, 1) := by decide +kernel
theorem dX8_told_35 : decode cX8_told 35 = .ok (.iadd, 1) := by decide +kernel
theorem dX8_told_36 : decode cX8_told 36 = .ok (.iconst 2, 1) := by decide +kernel
theorem dX8_told_37 : decode cX8_told 37 = .ok (.iload_n 2, 1) := by decide +kernel
theorem dX8_told_38 : decode cX8_told 38 = .ok (.imul, 1) := by decide +kernel
theorem dX8_told_39 : decode cX8_told 39 = .ok (.iadd, 1) := by decide +kernel
theorem dX8_told_40 : decode cX8_told 40 = .ok (.iload_n 3, 1) := by decide +kernel
theorem dX8_told_41 : decode cX8_told 41 = .ok (.iadd, 1) := by decide +kernel
theorem dX8_told_42 : decode cX8_told 42 = .ok (.iaload, 1) := by decide +kernel
theorem dX8_told_43 : decode cX8_told 43 = .ok (.ireturn, 1) := by decide +kernel
theorem dX8_told_44 : decode cX8_told 44 = .ok (.aload_n 0, 1) := by decide +kernel
theorem dX8_told_45 : decode cX8_told 45 = .ok (.invokevirtual 137, 3) := by decide +kernel
theorem dX8_told_48 : decode cX8_told 48 = .ok (.iconst 0, 1) := by decide +kernel
theorem dX8_told_49 : decode cX8_told 49 = .ok (.istore 4, 2) := by decide +kernel
theorem dX8_told_51 : decode cX8_told 51 = .ok (.iconst 0, 1) := by decide +kernel
theorem dX8_told_52 : decode cX8_told 52 = .ok (.istore 5, 2) := by decide +kernel
theorem dX8_told_54 : decode cX8_told 54 = .ok (.bipush (-4), 2) := by decide +kernel
theorem dX8_told_56 : decode cX8_told 56 = .ok (.istore 6, 2) := by decide +kernel
theorem dX8_told_58 : decode cX8_told 58 = .ok (.iconst 0, 1) := by decide +kernel
theorem dX8_told_59 : decode cX8_told 59 = .ok (.istore 7, 2) := by decide +kernel
theorem dX8_told_61 : decode cX8_told 61 = .ok (.iload 7, 2) := by decide +kernel
theorem dX8_told_63 : decode cX8_told 63 = .ok (.aload_n 0, 1) := by decide +kernel
theorem dX8_told_64 : decode cX8_told 64 = .ok (.getfield 64, 3) := by decide +kernel
theorem dX8_told_67 : decode cX8_told 67 = .ok (.if_icmp .ge 73, 3) := by decide +kernel
theorem dX8_told_70 : decode cX8_told 70 = .ok (.iload 4, 2) := by decide +kernel
theorem dX8_told_72 : decode cX8_told 72 = .ok (.aload_n 0, 1) := by decide +kernel
theorem dX8_told_73 : decode cX8_told 73 = .ok (.iload_n 1, 1) := by decide +kernel
theorem dX8_told_74 : decode cX8_told 74 = .ok (.iload_n 2, 1) := by decide +kernel
theorem dX8_told_75 : decode cX8_told 75 = .ok (.iload 7, 2) := by decide +kernel
theorem dX8_told_77 : decode cX8_told 77 = .ok (.invokevirtual 140, 3) := by decide +kernel
theorem dX8_told_80 : decode cX8_told 80 = .ok (.ifCond .ne 7, 3) := by decide +kernel
theorem dX8_told_83 : decode cX8_told 83 = .ok (.iconst 1, 1) := by decide +kernel
theorem dX8_told_84 : decode cX8_told 84 = .ok (.goto 4, 3) := by decide +kernel
theorem dX8_told_87 : decode cX8_told 87 = .ok (.iconst 0, 1) := by decide +kernel
theorem dX8_told_88 : decode cX8_told 88 = .ok (.iadd, 1) := by decide +kernel
theorem dX8_told_89 : decode cX8_told 89 = .ok (.istore 4, 2) := by decide +kernel
theorem dX8_told_91 : decode cX8_told 91 = .ok (.aload_n 0, 1) := by decide +kernel
theorem dX8_told_92 : decode cX8_told 92 = .ok (.iload_n 1, 1) := by decide +kernel
theorem dX8_told_93 : decode cX8_told 93 = .ok (.iload_n 2, 1) := by decide +kernel
theorem dX8_told_94 : decode cX8_told 94 = .ok (.iload 7, 2) := by decide +kernel
theorem dX8_told_96 : decode cX8_told 96 = .ok (.invokevirtual 151, 3) := by decide +kernel
theorem dX8_told_99 : decode cX8_told 99 = .ok (.ifCond .ne 35, 3) := by decide +kernel
theorem dX8_told_102 : decode cX8_told 102 = .ok (.aload_n 0, 1) := by decide +kernel
theorem dX8_told_103 : decode cX8_told 103 = .ok (.iload_n 1, 1) := by decide +kernel
theorem dX8_told_104 : decode cX8_told 104 = .ok (.iload_n 2, 1) := by decide +kernel
theorem dX8_told_105 : decode cX8_told 105 = .ok (.iload 7, 2) := by decide +kernel
theorem dX8_told_107 : decode cX8_told 107 = .ok (.invokevirtual 160, 3) := by decide +kernel
theorem dX8_told_110 : decode cX8_told 110 = .ok (.ldc 163, 2) := by decide +kernel
theorem dX8_told_112 : decode cX8_told 112 = .ok (.iadd, 1) := by decide +kernel
theorem dX8_told_113 : decode cX8_told 113 = .ok (.istore 8, 2) := by decide +kernel
theorem dX8_told_115 : decode cX8_told 115 = .ok (.iinc 5 1, 3) := by decide +kernel
theorem dX8_told_118 : decode cX8_told 118 = .ok (.iload 8, 2) := by decide +kernel
theorem dX8_told_120 : decode cX8_told 120 = .ok (.iload 6, 2) := by decide +kernel
theorem dX8_told_122 : decode cX8_told 122 = .ok (.if_icmp .le 8, 3) := by decide +kernel
theorem dX8_told_125 : decode cX8_told 125 = .ok (.iload 8, 2) := by decide +kernel
theorem dX8_told_127 : decode cX8_told 127 = .ok (.goto 5, 3) := by decide +kernel
theorem dX8_told_130 : decode cX8_told 130 = .ok (.iload 6, 2) := by decide +kernel
theorem dX8_told_132 : decode cX8_told 132 = .ok (.istore 6, 2) := by decide +kernel
theorem dX8_told_134 : decode cX8_told 134 = .ok (.iinc 7 1, 3) := by decide +kernel
theorem dX8_told_137 : decode cX8_told 137 = .ok (.goto (-76), 3) := by decide +kernel
theorem dX8_told_140 : decode cX8_told 140 = .ok (.iload_n 3, 1) := by decide +kernel
theorem dX8_told_141 : decode cX8_told 141 = .ok (.iconst 2, 1) := by decide +kernel
theorem dX8_told_142 : decode cX8_told 142 = .ok (.if_icmp .ne 8, 3) := by decide +kernel
theorem dX8_told_145 : decode cX8_told 145 = .ok (.iload 4, 2) := by decide +kernel
theorem dX8_told_147 : decode cX8_told 147 = .ok (.goto 15, 3) := by decide +kernel
theorem dX8_told_150 : decode cX8_told 150 = .ok (.iload_n 3, 1) := by decide +kernel
theorem dX8_told_151 : decode cX8_told 151 = .ok (.iconst 3, 1) := by decide +kernel
theorem dX8_told_152 : decode cX8_told 152 = .ok (.if_icmp .ne 8, 3) := by decide +kernel
theorem dX8_told_155 : decode cX8_told 155 = .ok (.iload 5, 2) := by decide +kernel
theorem dX8_told_157 : decode cX8_told 157 = .ok (.goto 5, 3) := by decide +kernel
theorem dX8_told_160 : decode cX8_told 160 = .ok (.iload 6, 2) := by decide +kernel
theorem dX8_told_162 : decode cX8_told 162 = .ok (.ireturn, 1) := by decide +kernel
set_option maxHeartbeats 4000000 in
set_option maxRecDepth 20000 in
theorem sgX8_told_0 {κ : Kx} {K : Kont} {M : Mem} (C : Cx κ RX8 cX8_told 9 (some .int) rmX8_told domM) (x1 : Int) (x2 : Int) (x3 : Int)
    (h :
    spX8_isTelling x1 x2 0 M (rI (fun r4 M4 =>
    ((r4 = 0 →
      K (some (-1)) M4) ∧
     (¬ (r4 = 0) →
      spX8_isIn x3 0 4 M4 (rI (fun r13 M13 =>
      ((r13 ≠ 0 →
        ((2 ≤ x3 →
          spX8_hears M13 (rV (fun M45 =>
          V κ 9 M45 61 [some (.inr (30, 0)), some (.inl x1), some (.inl x2), some (.inl x3), some (.inl 0), some (.inl 0), some (.inl (-4)), some (.inl 0), none] [] K))) ∧
         (¬ (2 ≤ x3) →
          inR (11 * x1) ∧
          inR ((11 * x1) + 5) ∧
          inR (2 * x2) ∧
          inR (((11 * x1) + 5) + (2 * x2)) ∧
          inR ((((11 * x1) + 5) + (2 * x2)) + x3) ∧
          (0 ≤ ((((11 * x1) + 5) + (2 * x2)) + x3) ∧ ((((11 * x1) + 5) + (2 * x2)) + x3) < 77) ∧
          K (some (M13 37 0 ((((11 * x1) + 5) + (2 * x2)) + x3))) M13))) ∧
       (¬ (r13 ≠ 0) →
        K (some (-1)) M13))))))))) : V κ 9 M 0 [some (.inr (30, 0)), some (.inl x1), some (.inl x2), some (.inl x3), none, none, none, none, none] [] K := by
  refine v_aload_n C dX8_told_0 rfl ?_
  refine v_iload_n C dX8_told_1 rfl ?_
  refine v_iload_n C dX8_told_2 rfl ?_
  refine v_iconst C dX8_told_3 (by decide) ?_
  refine v_invV C ctX8_isTelling dX8_told_4 ivX8_157 ⟨by decide, by decide, rfl, rfl⟩ ((x1, x2, 0) : Int × Int × Int) (As := [.inl x1, .inl x2, .inl 0]) rfl rfl rfl (by decide) rfl (st := []) rfl (Nat.le_of_ble_eq_true rfl) h (fun o M4 oM4 io4 g4 => ?_)
  replace h := rI_out g4
  clear g4
  obtain ⟨r4, rfl, h⟩ := h
  refine v_push ?_
  refine v_if C dX8_told_7 (tgt := 19) (by decide) (P := r4 = 0) rfl (fun c7 => ?_) (fun c7 => ?_)
  · replace h := h.1 c7
    refine v_iconst C dX8_told_19 (by decide) ?_
    exact v_iret C dX8_told_20 h
  · replace h := h.2 c7
    refine v_iload_n C dX8_told_10 rfl ?_
    refine v_iconst C dX8_told_11 (by decide) ?_
    refine v_iconst C dX8_told_12 (by decide) ?_
    refine v_invS C ctX8_isIn dX8_told_13 ivX8_97 ⟨by decide, by decide, rfl, rfl⟩ ((x3, 0, 4) : Int × Int × Int) rfl (st := []) rfl (Nat.le_of_ble_eq_true rfl) h (fun o M13 oM13 io13 g13 => ?_)
    replace h := rI_out g13
    clear g13
    obtain ⟨r13, rfl, h⟩ := h
    refine v_push ?_
    refine v_if C dX8_told_16 (tgt := 21) (by decide) (P := r13 ≠ 0) rfl (fun c16 => ?_) (fun c16 => ?_)
    · replace h := h.1 c16
      refine v_iload_n C dX8_told_21 rfl ?_
      refine v_iconst C dX8_told_22 (by decide) ?_
      refine v_icmp C dX8_told_23 (tgt := 44) (by decide) (P := 2 ≤ x3) rfl (fun c23 => ?_) (fun c23 => ?_)
      · replace h := h.1 c23
        refine v_aload_n C dX8_told_44 rfl ?_
        refine v_invV C ctX8_hears dX8_told_45 ivX8_137 ⟨by decide, by decide, rfl, rfl⟩ (() : Unit) (As := []) rfl rfl rfl (by decide) rfl (st := []) rfl (Nat.le_of_ble_eq_true rfl) h (fun o M45 oM45 io45 g45 => ?_)
        replace h := rV_out g45
        clear g45
        obtain ⟨rfl, h⟩ := h
        refine v_push0 ?_
        refine v_iconst C dX8_told_48 (by decide) ?_
        refine v_istore C dX8_told_49 (by decide) (Nat.le_of_ble_eq_true rfl) (lv' := [some (.inr (30, 0)), some (.inl x1), some (.inl x2), some (.inl x3), some (.inl 0), none, none, none, none]) rfl ?_
        refine v_iconst C dX8_told_51 (by decide) ?_
        refine v_istore C dX8_told_52 (by decide) (Nat.le_of_ble_eq_true rfl) (lv' := [some (.inr (30, 0)), some (.inl x1), some (.inl x2), some (.inl x3), some (.inl 0), some (.inl 0), none, none, none]) rfl ?_
        refine v_bipush C dX8_told_54 (by decide) (by decide) ?_
        refine v_istore C dX8_told_56 (by decide) (Nat.le_of_ble_eq_true rfl) (lv' := [some (.inr (30, 0)), some (.inl x1), some (.inl x2), some (.inl x3), some (.inl 0), some (.inl 0), some (.inl (-4)), none, none]) rfl ?_
        refine v_iconst C dX8_told_58 (by decide) ?_
        refine v_istore C dX8_told_59 (by decide) (Nat.le_of_ble_eq_true rfl) (lv' := [some (.inr (30, 0)), some (.inl x1), some (.inl x2), some (.inl x3), some (.inl 0), some (.inl 0), some (.inl (-4)), some (.inl 0), none]) rfl ?_
        refine v_weak [some (.inr (30, 0)), some (.inl x1), some (.inl x2), some (.inl x3), some (.inl 0), some (.inl 0), some (.inl (-4)), some (.inl 0), none] ⟨rfl, rfl, rfl, rfl, rfl, rfl, rfl, rfl, trivial⟩ ?_
        exact h
      · replace h := h.2 c23
        refine v_aload_n C dX8_told_26 rfl ?_
        refine v_get C dX8_told_27 flX8_16 rfl (by decide) (by decide) (w := .inr (37, 0)) rfl ?_
        refine v_bipush C dX8_told_30 (by decide) (by decide) ?_
        refine v_iload_n C dX8_told_32 rfl ?_
        refine v_imul C dX8_told_33 h.1 ?_
        replace h := h.2
        refine v_iconst C dX8_told_34 (by decide) ?_
        refine v_iadd C dX8_told_35 h.1 ?_
        replace h := h.2
        refine v_iconst C dX8_told_36 (by decide) ?_
        refine v_iload_n C dX8_told_37 rfl ?_
        refine v_imul C dX8_told_38 h.1 ?_
        replace h := h.2
        refine v_iadd C dX8_told_39 h.1 ?_
        replace h := h.2
        refine v_iload_n C dX8_told_40 rfl ?_
        refine v_iadd C dX8_told_41 h.1 ?_
        replace h := h.2
        refine v_iald C dX8_told_42 rfl h.1.1 h.1.2 ?_
        replace h := h.2
        exact v_iret C dX8_told_43 h
    · replace h := h.2 c16
      refine v_iconst C dX8_told_19 (by decide) ?_
      exact v_iret C dX8_told_20 h
set_option maxHeartbeats 4000000 in
set_option maxRecDepth 20000 in
theorem sgX8_told_61 {κ : Kx} {K : Kont} {M : Mem} (C : Cx κ RX8 cX8_told 9 (some .int) rmX8_told domM) (x1 : Int) (x2 : Int) (x3 : Int) (x4 : Int) (x5 : Int) (x6 : Int) (x7 : Int)
    (h :
    (((M 30 0 2) ≤ x7 →
      ((x3 ≠ 2 →
        ((x3 ≠ 3 →
          K (some x6) M) ∧
         (¬ (x3 ≠ 3) →
          K (some x5) M))) ∧
       (¬ (x3 ≠ 2) →
        K (some x4) M))) ∧
     (¬ ((M 30 0 2) ≤ x7) →
      spX8_whyNot x1 x2 x7 M (rI (fun r77 M77 =>
      ((r77 ≠ 0 →
        inR (x4 + 0) ∧
        ∀ y4_89 : Int, y4_89 = x4 + 0 →
        spX8_whyByFilm x1 x2 x7 M77 (rI (fun r96 M96 =>
        ((r96 ≠ 0 →
          inR (x7 + 1) ∧
          V κ 9 M96 61 [some (.inr (30, 0)), some (.inl x1), some (.inl x2), some (.inl x3), some (.inl y4_89), some (.inl x5), some (.inl x6), some (.inl (x7 + 1)), none] [] K) ∧
         (¬ (r96 ≠ 0) →
          spX8_gainOf x1 x2 x7 M96 (rI (fun r107 M107 =>
          inR (r107 + 100000) ∧
          ∀ y8_113 : Int, y8_113 = r107 + 100000 →
          inR (x5 + 1) ∧
          ((y8_113 ≤ x6 →
            inR (x7 + 1) ∧
            V κ 9 M107 61 [some (.inr (30, 0)), some (.inl x1), some (.inl x2), some (.inl x3), some (.inl y4_89), some (.inl (x5 + 1)), some (.inl x6), some (.inl (x7 + 1)), none] [] K) ∧
           (¬ (y8_113 ≤ x6) →
            inR (x7 + 1) ∧
            V κ 9 M107 61 [some (.inr (30, 0)), some (.inl x1), some (.inl x2), some (.inl x3), some (.inl y4_89), some (.inl (x5 + 1)), some (.inl y8_113), some (.inl (x7 + 1)), none] [] K))))))))) ∧
       (¬ (r77 ≠ 0) →
        inR (x4 + 1) ∧
        ∀ y4_89 : Int, y4_89 = x4 + 1 →
        spX8_whyByFilm x1 x2 x7 M77 (rI (fun r96 M96 =>
        ((r96 ≠ 0 →
          inR (x7 + 1) ∧
          V κ 9 M96 61 [some (.inr (30, 0)), some (.inl x1), some (.inl x2), some (.inl x3), some (.inl y4_89), some (.inl x5), some (.inl x6), some (.inl (x7 + 1)), none] [] K) ∧
         (¬ (r96 ≠ 0) →
          spX8_gainOf x1 x2 x7 M96 (rI (fun r107 M107 =>
          inR (r107 + 100000) ∧
          ∀ y8_113 : Int, y8_113 = r107 + 100000 →
          inR (x5 + 1) ∧
          ((y8_113 ≤ x6 →
            inR (x7 + 1) ∧
            V κ 9 M107 61 [some (.inr (30, 0)), some (.inl x1), some (.inl x2), some (.inl x3), some (.inl y4_89), some (.inl (x5 + 1)), some (.inl x6), some (.inl (x7 + 1)), none] [] K) ∧
           (¬ (y8_113 ≤ x6) →
            inR (x7 + 1) ∧
            V κ 9 M107 61 [some (.inr (30, 0)), some (.inl x1), some (.inl x2), some (.inl x3), some (.inl y4_89), some (.inl (x5 + 1)), some (.inl y8_113), some (.inl (x7 + 1)), none] [] K))))))))))))))) : V κ 9 M 61 [some (.inr (30, 0)), some (.inl x1), some (.inl x2), some (.inl x3), some (.inl x4), some (.inl x5), some (.inl x6), some (.inl x7), none] [] K := by
  refine v_iload C dX8_told_61 rfl ?_
  refine v_aload_n C dX8_told_63 rfl ?_
  refine v_get C dX8_told_64 flX8_64 rfl (by decide) (by decide) (w := .inl (M 30 0 2)) rfl ?_
  refine v_icmp C dX8_told_67 (tgt := 140) (by decide) (P := (M 30 0 2) ≤ x7) rfl (fun c67 => ?_) (fun c67 => ?_)
  · replace h := h.1 c67
    refine v_iload_n C dX8_told_140 rfl ?_
    refine v_iconst C dX8_told_141 (by decide) ?_
    refine v_icmp C dX8_told_142 (tgt := 150) (by decide) (P := x3 ≠ 2) rfl (fun c142 => ?_) (fun c142 => ?_)
    · replace h := h.1 c142
      refine v_iload_n C dX8_told_150 rfl ?_
      refine v_iconst C dX8_told_151 (by decide) ?_
      refine v_icmp C dX8_told_152 (tgt := 160) (by decide) (P := x3 ≠ 3) rfl (fun c152 => ?_) (fun c152 => ?_)
      · replace h := h.1 c152
        refine v_iload C dX8_told_160 rfl ?_
        exact v_iret C dX8_told_162 h
      · replace h := h.2 c152
        refine v_iload C dX8_told_155 rfl ?_
        refine v_goto C dX8_told_157 (tgt := 162) (by decide) ?_
        exact v_iret C dX8_told_162 h
    · replace h := h.2 c142
      refine v_iload C dX8_told_145 rfl ?_
      refine v_goto C dX8_told_147 (tgt := 162) (by decide) ?_
      exact v_iret C dX8_told_162 h
  · replace h := h.2 c67
    refine v_iload C dX8_told_70 rfl ?_
    refine v_aload_n C dX8_told_72 rfl ?_
    refine v_iload_n C dX8_told_73 rfl ?_
    refine v_iload_n C dX8_told_74 rfl ?_
    refine v_iload C dX8_told_75 rfl ?_
    refine v_invV C ctX8_whyNot dX8_told_77 ivX8_140 ⟨by decide, by decide, rfl, rfl⟩ ((x1, x2, x7) : Int × Int × Int) (As := [.inl x1, .inl x2, .inl x7]) rfl rfl rfl (by decide) rfl (st := [.inl x4]) rfl (Nat.le_of_ble_eq_true rfl) h (fun o M77 oM77 io77 g77 => ?_)
    replace h := rI_out g77
    clear g77
    obtain ⟨r77, rfl, h⟩ := h
    refine v_push ?_
    refine v_if C dX8_told_80 (tgt := 87) (by decide) (P := r77 ≠ 0) rfl (fun c80 => ?_) (fun c80 => ?_)
    · replace h := h.1 c80
      refine v_iconst C dX8_told_87 (by decide) ?_
      refine v_iadd C dX8_told_88 h.1 ?_
      replace h := h.2
      refine v_nm (fun y4_89 ey4_89 => ?_)
      replace h := h y4_89 ey4_89
      refine v_istore C dX8_told_89 (by decide) (Nat.le_of_ble_eq_true rfl) (lv' := [some (.inr (30, 0)), some (.inl x1), some (.inl x2), some (.inl x3), some (.inl y4_89), some (.inl x5), some (.inl x6), some (.inl x7), none]) rfl ?_
      refine v_aload_n C dX8_told_91 rfl ?_
      refine v_iload_n C dX8_told_92 rfl ?_
      refine v_iload_n C dX8_told_93 rfl ?_
      refine v_iload C dX8_told_94 rfl ?_
      refine v_invV C ctX8_whyByFilm dX8_told_96 ivX8_151 ⟨by decide, by decide, rfl, rfl⟩ ((x1, x2, x7) : Int × Int × Int) (As := [.inl x1, .inl x2, .inl x7]) rfl rfl rfl (by decide) rfl (st := []) rfl (Nat.le_of_ble_eq_true rfl) h (fun o M96 oM96 io96 g96 => ?_)
      replace h := rI_out g96
      clear g96
      obtain ⟨r96, rfl, h⟩ := h
      refine v_push ?_
      refine v_if C dX8_told_99 (tgt := 134) (by decide) (P := r96 ≠ 0) rfl (fun c99 => ?_) (fun c99 => ?_)
      · replace h := h.1 c99
        refine v_iinc C dX8_told_134 (by decide) rfl h.1 (lv' := [some (.inr (30, 0)), some (.inl x1), some (.inl x2), some (.inl x3), some (.inl y4_89), some (.inl x5), some (.inl x6), some (.inl (x7 + 1)), none]) rfl ?_
        replace h := h.2
        refine v_goto C dX8_told_137 (tgt := 61) (by decide) ?_
        refine v_weak [some (.inr (30, 0)), some (.inl x1), some (.inl x2), some (.inl x3), some (.inl y4_89), some (.inl x5), some (.inl x6), some (.inl (x7 + 1)), none] ⟨rfl, rfl, rfl, rfl, rfl, rfl, rfl, rfl, trivial⟩ ?_
        exact h
      · replace h := h.2 c99
        refine v_aload_n C dX8_told_102 rfl ?_
        refine v_iload_n C dX8_told_103 rfl ?_
        refine v_iload_n C dX8_told_104 rfl ?_
        refine v_iload C dX8_told_105 rfl ?_
        refine v_invV C ctX8_gainOf dX8_told_107 ivX8_160 ⟨by decide, by decide, rfl, rfl⟩ ((x1, x2, x7) : Int × Int × Int) (As := [.inl x1, .inl x2, .inl x7]) rfl rfl rfl (by decide) rfl (st := []) rfl (Nat.le_of_ble_eq_true rfl) h (fun o M107 oM107 io107 g107 => ?_)
        replace h := rI_out g107
        clear g107
        obtain ⟨r107, rfl, h⟩ := h
        refine v_push ?_
        refine v_ldc C dX8_told_110 csX8_163 (by decide) ?_
        refine v_iadd C dX8_told_112 h.1 ?_
        replace h := h.2
        refine v_nm (fun y8_113 ey8_113 => ?_)
        replace h := h y8_113 ey8_113
        refine v_istore C dX8_told_113 (by decide) (Nat.le_of_ble_eq_true rfl) (lv' := [some (.inr (30, 0)), some (.inl x1), some (.inl x2), some (.inl x3), some (.inl y4_89), some (.inl x5), some (.inl x6), some (.inl x7), some (.inl y8_113)]) rfl ?_
        refine v_iinc C dX8_told_115 (by decide) rfl h.1 (lv' := [some (.inr (30, 0)), some (.inl x1), some (.inl x2), some (.inl x3), some (.inl y4_89), some (.inl (x5 + 1)), some (.inl x6), some (.inl x7), some (.inl y8_113)]) rfl ?_
        replace h := h.2
        refine v_iload C dX8_told_118 rfl ?_
        refine v_iload C dX8_told_120 rfl ?_
        refine v_icmp C dX8_told_122 (tgt := 130) (by decide) (P := y8_113 ≤ x6) rfl (fun c122 => ?_) (fun c122 => ?_)
        · replace h := h.1 c122
          refine v_iload C dX8_told_130 rfl ?_
          refine v_istore C dX8_told_132 (by decide) (Nat.le_of_ble_eq_true rfl) (lv' := [some (.inr (30, 0)), some (.inl x1), some (.inl x2), some (.inl x3), some (.inl y4_89), some (.inl (x5 + 1)), some (.inl x6), some (.inl x7), some (.inl y8_113)]) rfl ?_
          refine v_iinc C dX8_told_134 (by decide) rfl h.1 (lv' := [some (.inr (30, 0)), some (.inl x1), some (.inl x2), some (.inl x3), some (.inl y4_89), some (.inl (x5 + 1)), some (.inl x6), some (.inl (x7 + 1)), some (.inl y8_113)]) rfl ?_
          replace h := h.2
          refine v_goto C dX8_told_137 (tgt := 61) (by decide) ?_
          refine v_weak [some (.inr (30, 0)), some (.inl x1), some (.inl x2), some (.inl x3), some (.inl y4_89), some (.inl (x5 + 1)), some (.inl x6), some (.inl (x7 + 1)), none] ⟨rfl, rfl, rfl, rfl, rfl, rfl, rfl, rfl, trivial⟩ ?_
          exact h
        · replace h := h.2 c122
          refine v_iload C dX8_told_125 rfl ?_
          refine v_goto C dX8_told_127 (tgt := 132) (by decide) ?_
          refine v_istore C dX8_told_132 (by decide) (Nat.le_of_ble_eq_true rfl) (lv' := [some (.inr (30, 0)), some (.inl x1), some (.inl x2), some (.inl x3), some (.inl y4_89), some (.inl (x5 + 1)), some (.inl y8_113), some (.inl x7), some (.inl y8_113)]) rfl ?_
          refine v_iinc C dX8_told_134 (by decide) rfl h.1 (lv' := [some (.inr (30, 0)), some (.inl x1), some (.inl x2), some (.inl x3), some (.inl y4_89), some (.inl (x5 + 1)), some (.inl y8_113), some (.inl (x7 + 1)), some (.inl y8_113)]) rfl ?_
          replace h := h.2
          refine v_goto C dX8_told_137 (tgt := 61) (by decide) ?_
          refine v_weak [some (.inr (30, 0)), some (.inl x1), some (.inl x2), some (.inl x3), some (.inl y4_89), some (.inl (x5 + 1)), some (.inl y8_113), some (.inl (x7 + 1)), none] ⟨rfl, rfl, rfl, rfl, rfl, rfl, rfl, rfl, trivial⟩ ?_
          exact h
    · replace h := h.2 c80
      refine v_iconst C dX8_told_83 (by decide) ?_
      refine v_goto C dX8_told_84 (tgt := 88) (by decide) ?_
      refine v_iadd C dX8_told_88 h.1 ?_
      replace h := h.2
      refine v_nm (fun y4_89 ey4_89 => ?_)
      replace h := h y4_89 ey4_89
      refine v_istore C dX8_told_89 (by decide) (Nat.le_of_ble_eq_true rfl) (lv' := [some (.inr (30, 0)), some (.inl x1), some (.inl x2), some (.inl x3), some (.inl y4_89), some (.inl x5), some (.inl x6), some (.inl x7), none]) rfl ?_
      refine v_aload_n C dX8_told_91 rfl ?_
      refine v_iload_n C dX8_told_92 rfl ?_
      refine v_iload_n C dX8_told_93 rfl ?_
      refine v_iload C dX8_told_94 rfl ?_
      refine v_invV C ctX8_whyByFilm dX8_told_96 ivX8_151 ⟨by decide, by decide, rfl, rfl⟩ ((x1, x2, x7) : Int × Int × Int) (As := [.inl x1, .inl x2, .inl x7]) rfl rfl rfl (by decide) rfl (st := []) rfl (Nat.le_of_ble_eq_true rfl) h (fun o M96 oM96 io96 g96 => ?_)
      replace h := rI_out g96
      clear g96
      obtain ⟨r96, rfl, h⟩ := h
      refine v_push ?_
      refine v_if C dX8_told_99 (tgt := 134) (by decide) (P := r96 ≠ 0) rfl (fun c99 => ?_) (fun c99 => ?_)
      · replace h := h.1 c99
        refine v_iinc C dX8_told_134 (by decide) rfl h.1 (lv' := [some (.inr (30, 0)), some (.inl x1), some (.inl x2), some (.inl x3), some (.inl y4_89), some (.inl x5), some (.inl x6), some (.inl (x7 + 1)), none]) rfl ?_
        replace h := h.2
        refine v_goto C dX8_told_137 (tgt := 61) (by decide) ?_
        refine v_weak [some (.inr (30, 0)), some (.inl x1), some (.inl x2), some (.inl x3), some (.inl y4_89), some (.inl x5), some (.inl x6), some (.inl (x7 + 1)), none] ⟨rfl, rfl, rfl, rfl, rfl, rfl, rfl, rfl, trivial⟩ ?_
        exact h
      · replace h := h.2 c99
        refine v_aload_n C dX8_told_102 rfl ?_
        refine v_iload_n C dX8_told_103 rfl ?_
        refine v_iload_n C dX8_told_104 rfl ?_
        refine v_iload C dX8_told_105 rfl ?_
        refine v_invV C ctX8_gainOf dX8_told_107 ivX8_160 ⟨by decide, by decide, rfl, rfl⟩ ((x1, x2, x7) : Int × Int × Int) (As := [.inl x1, .inl x2, .inl x7]) rfl rfl rfl (by decide) rfl (st := []) rfl (Nat.le_of_ble_eq_true rfl) h (fun o M107 oM107 io107 g107 => ?_)
        replace h := rI_out g107
        clear g107
        obtain ⟨r107, rfl, h⟩ := h
        refine v_push ?_
        refine v_ldc C dX8_told_110 csX8_163 (by decide) ?_
        refine v_iadd C dX8_told_112 h.1 ?_
        replace h := h.2
        refine v_nm (fun y8_113 ey8_113 => ?_)
        replace h := h y8_113 ey8_113
        refine v_istore C dX8_told_113 (by decide) (Nat.le_of_ble_eq_true rfl) (lv' := [some (.inr (30, 0)), some (.inl x1), some (.inl x2), some (.inl x3), some (.inl y4_89), some (.inl x5), some (.inl x6), some (.inl x7), some (.inl y8_113)]) rfl ?_
        refine v_iinc C dX8_told_115 (by decide) rfl h.1 (lv' := [some (.inr (30, 0)), some (.inl x1), some (.inl x2), some (.inl x3), some (.inl y4_89), some (.inl (x5 + 1)), some (.inl x6), some (.inl x7), some (.inl y8_113)]) rfl ?_
        replace h := h.2
        refine v_iload C dX8_told_118 rfl ?_
        refine v_iload C dX8_told_120 rfl ?_
        refine v_icmp C dX8_told_122 (tgt := 130) (by decide) (P := y8_113 ≤ x6) rfl (fun c122 => ?_) (fun c122 => ?_)
        · replace h := h.1 c122
          refine v_iload C dX8_told_130 rfl ?_
          refine v_istore C dX8_told_132 (by decide) (Nat.le_of_ble_eq_true rfl) (lv' := [some (.inr (30, 0)), some (.inl x1), some (.inl x2), some (.inl x3), some (.inl y4_89), some (.inl (x5 + 1)), some (.inl x6), some (.inl x7), some (.inl y8_113)]) rfl ?_
          refine v_iinc C dX8_told_134 (by decide) rfl h.1 (lv' := [some (.inr (30, 0)), some (.inl x1), some (.inl x2), some (.inl x3), some (.inl y4_89), some (.inl (x5 + 1)), some (.inl x6), some (.inl (x7 + 1)), some (.inl y8_113)]) rfl ?_
          replace h := h.2
          refine v_goto C dX8_told_137 (tgt := 61) (by decide) ?_
          refine v_weak [some (.inr (30, 0)), some (.inl x1), some (.inl x2), some (.inl x3), some (.inl y4_89), some (.inl (x5 + 1)), some (.inl x6), some (.inl (x7 + 1)), none] ⟨rfl, rfl, rfl, rfl, rfl, rfl, rfl, rfl, trivial⟩ ?_
          exact h
        · replace h := h.2 c122
          refine v_iload C dX8_told_125 rfl ?_
          refine v_goto C dX8_told_127 (tgt := 132) (by decide) ?_
          refine v_istore C dX8_told_132 (by decide) (Nat.le_of_ble_eq_true rfl) (lv' := [some (.inr (30, 0)), some (.inl x1), some (.inl x2), some (.inl x3), some (.inl y4_89), some (.inl (x5 + 1)), some (.inl y8_113), some (.inl x7), some (.inl y8_113)]) rfl ?_
          refine v_iinc C dX8_told_134 (by decide) rfl h.1 (lv' := [some (.inr (30, 0)), some (.inl x1), some (.inl x2), some (.inl x3), some (.inl y4_89), some (.inl (x5 + 1)), some (.inl y8_113), some (.inl (x7 + 1)), some (.inl y8_113)]) rfl ?_
          replace h := h.2
          refine v_goto C dX8_told_137 (tgt := 61) (by decide) ?_
          refine v_weak [some (.inr (30, 0)), some (.inl x1), some (.inl x2), some (.inl x3), some (.inl y4_89), some (.inl (x5 + 1)), some (.inl y8_113), some (.inl (x7 + 1)), none] ⟨rfl, rfl, rfl, rfl, rfl, rfl, rfl, rfl, trivial⟩ ?_
          exact h
abbrev spX8_told (p v w : Int) (M : Mem) (K : Kont) : Prop := InvM M ∧ ∀ M', InvM M' → ChM M M' (mFilm M) (M 45 0) (M 46 0) → K (some (tldA (mFilm M) (M 45 0) (M 46 0) p v w)) M'
theorem ggC_rng {F : Film} (hf : WFf F) {p v : Int} (hv : hasV F p v) : ∀ n : Nat, (n : Int) ≤ F 0 0 0 → -4 ≤ ggN F (spb F) (csb F) p v n ∧ ggN F (spb F) (csb F) p v n ≤ 102000 := by
  intro n
  induction n with
  | zero => intro _; unfold ggN; omega
  | succ n ih =>
    intro hn
    have h1 := ih (by omega)
    unfold ggN
    split
    · have g := gainC_rng hf (p := p) (v := v) (t := n) ⟨hv, by omega, by omega⟩
      omega
    · exact h1
theorem ctX8_told : CtX8_told spX8_told := by
  refine ct_of (by decide) dmM (fun _ => Nat.le_of_ble_eq_true rfl) ?_
  intro κ a M K C oM h
  obtain ⟨p, v, w⟩ := a
  obtain ⟨hI, hk⟩ := h
  have hk : ∀ M', InvM M' → ChM M M' (mFilm M) (M 45 0) (M 46 0) → K (some (tldA (mFilm M) (M 45 0) (M 46 0) p v w)) M' := hk
  have hf0 := hI.2.1
  have h0 := hf0.1
  have e0 : mFilm M 0 0 0 = M 30 0 2 := rfl
  unfold tldA at hk
  have k0 := hk M hI AgS.rf.ch
  refine sgX8_told_0 C p v w ⟨hf0, fun c => ?_, fun c => ?_⟩
  · have c1 : ¬ tellK (mFilm M) p v 0 := if10n c
    rw [if_pos (fun z => c1 ⟨z, by omega, by have := wf_p hf0 z.1.1 z.1.2; omega⟩)] at k0
    exact k0
  · have c1 : tellK (mFilm M) p v 0 := if10 c
    have wv := wf_pv hf0 c1.1.1.1 c1.1.1.2 c1.1.2.1 c1.1.2.2
    refine ⟨fun c2 => ?_, fun c2 => ?_⟩
    · have c3 := if10 c2
      refine ⟨fun c4 => ⟨hf0, fun N hA hH => ?_⟩, fun c4 => ⟨by omega, by omega, by omega, by omega, by omega, by omega, ?_⟩⟩
      · have hf := hA.s.film
        have hI2 := hA.s.inv hI
        have r45 := hA.s.row 0 (r := 45) (by omega)
        have r46 := hA.s.row 0 (r := 46) (by omega)
        have k1 := hk N hI2 hA.s.ch
        rw [if_neg (fun z => z c1.1), if_neg (by omega), if_neg (by omega), ← hf, ← r45, ← r46] at k1
        have c1' : hasV (mFilm N) p v := by rw [hf]; exact c1.1
        have hH' : HrK N (mFilm N) := by rw [hf]; exact hH
        have hfN := hI2.2.1
        have hT : 0 ≤ mFilm N 0 0 0 ∧ mFilm N 0 0 0 ≤ 100 := hfN.1
        have eN : mFilm N 0 0 0 = N 30 0 2 := rfl
        have loop : ∀ (n : Nat) (t now could best : Int), 0 ≤ t → t + n = mFilm N 0 0 0 → now = onN (mFilm N) (spb (mFilm N)) (N 45 0) (N 46 0) p v t.toNat → could = opN (mFilm N) (spb (mFilm N)) p v t.toNat → best = ggN (mFilm N) (spb (mFilm N)) (csb (mFilm N)) p v t.toNat →
            V κ 9 N 61 [some (.inr (30, 0)), some (.inl p), some (.inl v), some (.inl w), some (.inl now), some (.inl could), some (.inl best), some (.inl t), none] [] K := by
          intro n
          induction n with
          | zero =>
            intro t now could best t0 hn e1 e2 e3
            have e : t = mFilm N 0 0 0 := by omega
            refine sgX8_told_61 C p v w now could best t ⟨fun _ => ⟨fun d => ⟨fun d2 => ?_, fun d2 => ?_⟩, fun d => ?_⟩, fun z => absurd (by omega) z⟩
            · rw [if_neg d, if_neg d2, if_pos (by omega), ← e, ← e3] at k1; exact k1
            · rw [if_neg d, if_pos (by omega), ← e, ← e2] at k1; exact k1
            · rw [if_pos (by omega), ← e, ← e1] at k1; exact k1
          | succ n ih =>
            intro t now could best t0 hn e1 e2 e3
            have tk : tellK (mFilm N) p v t := ⟨c1', t0, by omega⟩
            have r1 := onN_rng (mFilm N) (spb (mFilm N)) (N 45 0) (N 46 0) p v t.toNat
            have r2 := opN_rng (mFilm N) (spb (mFilm N)) p v t.toNat
            have r3 := ggC_rng hfN c1' t.toNat (by omega)
            have gr := gainC_rng hfN tk
            have s1 : onN (mFilm N) (spb (mFilm N)) (N 45 0) (N 46 0) p v (t + 1).toNat = onN (mFilm N) (spb (mFilm N)) (N 45 0) (N 46 0) p v t.toNat + (if whyW (mFilm N) (spb (mFilm N)) (N 45 0) (N 46 0) p v t = 0 then 1 else 0) := sumN_s _ t0
            have s2 : opN (mFilm N) (spb (mFilm N)) p v (t + 1).toNat = opN (mFilm N) (spb (mFilm N)) p v t.toNat + (if ownW (mFilm N) (spb (mFilm N)) p v t = 0 then 1 else 0) := sumN_s _ t0
            have s3 : ggN (mFilm N) (spb (mFilm N)) (csb (mFilm N)) p v (t + 1).toNat = if ownW (mFilm N) (spb (mFilm N)) p v t = 0 then max (ggN (mFilm N) (spb (mFilm N)) (csb (mFilm N)) p v t.toNat) (gainW (mFilm N) (csb (mFilm N)) p v t + 100000) else ggN (mFilm N) (spb (mFilm N)) (csb (mFilm N)) p v t.toNat := by
              rw [toNat_s t0]
              show (if ownW _ _ _ _ (t.toNat : Int) = 0 then _ else _) = _
              rw [oi_nat t0]
            -- what comes behind now
            have tail : ∀ y, y = onN (mFilm N) (spb (mFilm N)) (N 45 0) (N 46 0) p v (t + 1).toNat →
                spX8_whyByFilm p v t N (rI (fun r96 M96 => ((r96 ≠ 0 → inR (t + 1) ∧ V κ 9 M96 61 [some (.inr (30, 0)), some (.inl p), some (.inl v), some (.inl w), some (.inl y), some (.inl could), some (.inl best), some (.inl (t + 1)), none] [] K) ∧
                 (¬ (r96 ≠ 0) → spX8_gainOf p v t M96 (rI (fun r107 M107 => inR (r107 + 100000) ∧ ∀ y8 : Int, y8 = r107 + 100000 → inR (could + 1) ∧
                  ((y8 ≤ best → inR (t + 1) ∧ V κ 9 M107 61 [some (.inr (30, 0)), some (.inl p), some (.inl v), some (.inl w), some (.inl y), some (.inl (could + 1)), some (.inl best), some (.inl (t + 1)), none] [] K) ∧
                   (¬ (y8 ≤ best) → inR (t + 1) ∧ V κ 9 M107 61 [some (.inr (30, 0)), some (.inl p), some (.inl v), some (.inl w), some (.inl y), some (.inl (could + 1)), some (.inl y8), some (.inl (t + 1)), none] [] K))))))) ) := by
              intro y ey
              refine ⟨⟨hfN, hH', tk⟩, fun d => ⟨by omega, ih (t + 1) y could best (by omega) (by omega) ey ?_ ?_⟩, fun d => ?_⟩
              · rw [s2, if_neg d]; omega
              · rw [s3, if_neg d]; exact e3
              · have d' : ownW (mFilm N) (spb (mFilm N)) p v t = 0 := Classical.byContradiction d
                rw [if_pos d'] at s2 s3
                refine ⟨⟨hfN, hH', tk, (own_end d').1⟩, by omega, fun z ez => ⟨by omega, fun d2 => ⟨by omega, ih (t + 1) y (could + 1) best (by omega) (by omega) ey (by omega) (by omega)⟩, fun d2 => ⟨by omega, ih (t + 1) y (could + 1) z (by omega) (by omega) ey (by omega) (by omega)⟩⟩⟩
            refine sgX8_told_61 C p v w now could best t ⟨fun z => absurd z (by omega), fun _ => ⟨⟨hfN, hH', hI2.2.2, tk⟩, fun d => ⟨by omega, fun y ey => tail y ?_⟩, fun d => ⟨by omega, fun y ey => tail y ?_⟩⟩⟩
            · rw [s1, if_neg d]; omega
            · rw [s1, if_pos (Classical.byContradiction d)]; omega
        exact loop (mFilm N 0 0 0).toNat 0 0 0 (-4) (by omega) (by omega) rfl rfl rfl
      · rw [if_neg (fun z => z c1.1)] at k0
        have : w = 0 ∨ w = 1 := by omega
        rcases this with e | e <;> subst e
        · rw [if_pos rfl] at k0
          rw [show 11 * p + 5 + 2 * v + 0 = 11 * p + 5 + 2 * v by omega]
          exact k0
        · rw [if_neg (by decide), if_pos rfl] at k0
          rw [show 11 * p + 5 + 2 * v + 1 = 11 * p + 6 + 2 * v by omega]
          exact k0
    · have c3 := if10n (show (if 0 ≤ w ∧ w ≤ 4 then (1 : Int) else 0) = 0 by omega)
      rw [if_neg (fun z => z c1.1), if_neg (by omega), if_neg (by omega), if_neg (by omega), if_neg (by omega), if_neg (by omega)] at k0
      exact k0
/-! ===== GapTellingsModel.isTold ===== -/
abbrev rmX8_isTold : Room := { frames := 2, cells := 0, slots := 0, locals := 43 }
abbrev argX8_isTold (a : Int) : List PV := [.inr (30, 0), .inl a]
abbrev CtX8_isTold (sp : Int → Mem → Kont → Prop) : Prop := Ct yX8_isTold cX8_isTold 4 (some .boolean) rmX8_isTold domM argX8_isTold (fun a => sp a)
theorem dX8_isTold_0 : decode cX8_isTold 0 = .ok (.iconst 0, 1) := by decide +kernel
theorem dX8_isTold_1 : decode cX8_isTold 1 = .ok (.istore_n 2, 1) := by decide +kernel
theorem dX8_isTold_2 : decode cX8_isTold 2 = .ok (.iconst 0, 1) := by decide +kernel
theorem dX8_isTold_3 : decode cX8_isTold 3 = .ok (.istore_n 3, 1) := by decide +kernel
theorem dX8_isTold_4 : decode cX8_isTold 4 = .ok (.iload_n 3, 1) := by decide +kernel
theorem dX8_isTold_5 : decode cX8_isTold 5 = .ok (.aload_n 0, 1) := by decide +kernel
theorem dX8_isTold_6 : decode cX8_isTold 6 = .ok (.getfield 74, 3) := by decide +kernel
theorem dX8_isTold_9 : decode cX8_isTold 9 = .ok (.if_icmp .ge 47, 3) := by decide +kernel
theorem dX8_isTold_12 : decode cX8_isTold 12 = .ok (.iload_n 2, 1) := by decide +kernel
theorem dX8_isTold_13 : decode cX8_isTold 13 = .ok (.ifCond .ne 31, 3) := by decide +kernel
theorem dX8_isTold_16 : decode cX8_isTold 16 = .ok (.aload_n 0, 1) := by decide +kernel
theorem dX8_isTold_17 : decode cX8_isTold 17 = .ok (.getfield 31, 3) := by decide +kernel
theorem dX8_isTold_20 : decode cX8_isTold 20 = .ok (.iload_n 3, 1) := by decide +kernel
theorem dX8_isTold_21 : decode cX8_isTold 21 = .ok (.iaload, 1) := by decide +kernel
theorem dX8_isTold_22 : decode cX8_isTold 22 = .ok (.ifCond .lt 26, 3) := by decide +kernel
theorem dX8_isTold_25 : decode cX8_isTold 25 = .ok (.aload_n 0, 1) := by decide +kernel
theorem dX8_isTold_26 : decode cX8_isTold 26 = .ok (.getfield 31, 3) := by decide +kernel
theorem dX8_isTold_29 : decode cX8_isTold 29 = .ok (.iload_n 3, 1) := by decide +kernel
theorem dX8_isTold_30 : decode cX8_isTold 30 = .ok (.iaload, 1) := by decide +kernel
theorem dX8_isTold_31 : decode cX8_isTold 31 = .ok (.iload_n 1, 1) := by decide +kernel
theorem dX8_isTold_32 : decode cX8_isTold 32 = .ok (.if_icmp .gt 16, 3) := by decide +kernel
theorem dX8_isTold_35 : decode cX8_isTold 35 = .ok (.aload_n 0, 1) := by decide +kernel
theorem dX8_isTold_36 : decode cX8_isTold 36 = .ok (.iload_n 3, 1) := by decide +kernel
theorem dX8_isTold_37 : decode cX8_isTold 37 = .ok (.invokevirtual 154, 3) := by decide +kernel
theorem dX8_isTold_40 : decode cX8_isTold 40 = .ok (.iload_n 1, 1) := by decide +kernel
theorem dX8_isTold_41 : decode cX8_isTold 41 = .ok (.if_icmp .le 7, 3) := by decide +kernel
theorem dX8_isTold_44 : decode cX8_isTold 44 = .ok (.iconst 1, 1) := by decide +kernel
theorem dX8_isTold_45 : decode cX8_isTold 45 = .ok (.goto 4, 3) := by decide +kernel
theorem dX8_isTold_48 : decode cX8_isTold 48 = .ok (.iconst 0, 1) := by decide +kernel
theorem dX8_isTold_49 : decode cX8_isTold 49 = .ok (.istore_n 2, 1) := by decide +kernel
theorem dX8_isTold_50 : decode cX8_isTold 50 = .ok (.iinc 3 1, 3) := by decide +kernel
theorem dX8_isTold_53 : decode cX8_isTold 53 = .ok (.goto (-49), 3) := by decide +kernel
theorem dX8_isTold_56 : decode cX8_isTold 56 = .ok (.iload_n 2, 1) := by decide +kernel
theorem dX8_isTold_57 : decode cX8_isTold 57 = .ok (.ireturn, 1) := by decide +kernel
set_option maxHeartbeats 4000000 in
set_option maxRecDepth 20000 in
theorem sgX8_isTold_0 {κ : Kx} {K : Kont} {M : Mem} (C : Cx κ RX8 cX8_isTold 4 (some .boolean) rmX8_isTold domM) (x1 : Int)
    (h :
    V κ 4 M 4 [some (.inr (30, 0)), some (.inl x1), some (.inl 0), some (.inl 0)] [] K) : V κ 4 M 0 [some (.inr (30, 0)), some (.inl x1), none, none] [] K := by
  refine v_iconst C dX8_isTold_0 (by decide) ?_
  refine v_istore_n C dX8_isTold_1 (by decide) (Nat.le_of_ble_eq_true rfl) (lv' := [some (.inr (30, 0)), some (.inl x1), some (.inl 0), none]) rfl ?_
  refine v_iconst C dX8_isTold_2 (by decide) ?_
  refine v_istore_n C dX8_isTold_3 (by decide) (Nat.le_of_ble_eq_true rfl) (lv' := [some (.inr (30, 0)), some (.inl x1), some (.inl 0), some (.inl 0)]) rfl ?_
  refine v_weak [some (.inr (30, 0)), some (.inl x1), some (.inl 0), some (.inl 0)] ⟨rfl, rfl, rfl, rfl, trivial⟩ ?_
  exact h
set_option maxHeartbeats 4000000 in
set_option maxRecDepth 20000 in
theorem sgX8_isTold_4 {κ : Kx} {K : Kont} {M : Mem} (C : Cx κ RX8 cX8_isTold 4 (some .boolean) rmX8_isTold domM) (x1 : Int) (x2 : Int) (x3 : Int)
    (h :
    (((M 30 0 6) ≤ x3 →
      (x2 = 0 ∨ x2 = 1) ∧ K (some x2) M) ∧
     (¬ ((M 30 0 6) ≤ x3) →
      ((x2 ≠ 0 →
        inR (x3 + 1) ∧
        V κ 4 M 4 [some (.inr (30, 0)), some (.inl x1), some (.inl 1), some (.inl (x3 + 1))] [] K) ∧
       (¬ (x2 ≠ 0) →
        (0 ≤ x3 ∧ x3 < 7) ∧
        (((M 46 0 x3) < 0 →
          inR (x3 + 1) ∧
          V κ 4 M 4 [some (.inr (30, 0)), some (.inl x1), some (.inl 0), some (.inl (x3 + 1))] [] K) ∧
         (¬ ((M 46 0 x3) < 0) →
          (0 ≤ x3 ∧ x3 < 7) ∧
          ((x1 < (M 46 0 x3) →
            inR (x3 + 1) ∧
            V κ 4 M 4 [some (.inr (30, 0)), some (.inl x1), some (.inl 0), some (.inl (x3 + 1))] [] K) ∧
           (¬ (x1 < (M 46 0 x3)) →
            spX8_endOf x3 M (rI (fun r37 M37 =>
            ((r37 ≤ x1 →
              inR (x3 + 1) ∧
              V κ 4 M37 4 [some (.inr (30, 0)), some (.inl x1), some (.inl 0), some (.inl (x3 + 1))] [] K) ∧
             (¬ (r37 ≤ x1) →
              inR (x3 + 1) ∧
              V κ 4 M37 4 [some (.inr (30, 0)), some (.inl x1), some (.inl 1), some (.inl (x3 + 1))] [] K))))))))))))) : V κ 4 M 4 [some (.inr (30, 0)), some (.inl x1), some (.inl x2), some (.inl x3)] [] K := by
  refine v_iload_n C dX8_isTold_4 rfl ?_
  refine v_aload_n C dX8_isTold_5 rfl ?_
  refine v_get C dX8_isTold_6 flX8_74 rfl (by decide) (by decide) (w := .inl (M 30 0 6)) rfl ?_
  refine v_icmp C dX8_isTold_9 (tgt := 56) (by decide) (P := (M 30 0 6) ≤ x3) rfl (fun c9 => ?_) (fun c9 => ?_)
  · replace h := h.1 c9
    refine v_iload_n C dX8_isTold_56 rfl ?_
    exact v_zret C dX8_isTold_57 h.1 h.2
  · replace h := h.2 c9
    refine v_iload_n C dX8_isTold_12 rfl ?_
    refine v_if C dX8_isTold_13 (tgt := 44) (by decide) (P := x2 ≠ 0) rfl (fun c13 => ?_) (fun c13 => ?_)
    · replace h := h.1 c13
      refine v_iconst C dX8_isTold_44 (by decide) ?_
      refine v_goto C dX8_isTold_45 (tgt := 49) (by decide) ?_
      refine v_istore_n C dX8_isTold_49 (by decide) (Nat.le_of_ble_eq_true rfl) (lv' := [some (.inr (30, 0)), some (.inl x1), some (.inl 1), some (.inl x3)]) rfl ?_
      refine v_iinc C dX8_isTold_50 (by decide) rfl h.1 (lv' := [some (.inr (30, 0)), some (.inl x1), some (.inl 1), some (.inl (x3 + 1))]) rfl ?_
      replace h := h.2
      refine v_goto C dX8_isTold_53 (tgt := 4) (by decide) ?_
      refine v_weak [some (.inr (30, 0)), some (.inl x1), some (.inl 1), some (.inl (x3 + 1))] ⟨rfl, rfl, rfl, rfl, trivial⟩ ?_
      exact h
    · replace h := h.2 c13
      refine v_aload_n C dX8_isTold_16 rfl ?_
      refine v_get C dX8_isTold_17 flX8_31 rfl (by decide) (by decide) (w := .inr (46, 0)) rfl ?_
      refine v_iload_n C dX8_isTold_20 rfl ?_
      refine v_iald C dX8_isTold_21 rfl h.1.1 h.1.2 ?_
      replace h := h.2
      refine v_if C dX8_isTold_22 (tgt := 48) (by decide) (P := (M 46 0 x3) < 0) rfl (fun c22 => ?_) (fun c22 => ?_)
      · replace h := h.1 c22
        refine v_iconst C dX8_isTold_48 (by decide) ?_
        refine v_istore_n C dX8_isTold_49 (by decide) (Nat.le_of_ble_eq_true rfl) (lv' := [some (.inr (30, 0)), some (.inl x1), some (.inl 0), some (.inl x3)]) rfl ?_
        refine v_iinc C dX8_isTold_50 (by decide) rfl h.1 (lv' := [some (.inr (30, 0)), some (.inl x1), some (.inl 0), some (.inl (x3 + 1))]) rfl ?_
        replace h := h.2
        refine v_goto C dX8_isTold_53 (tgt := 4) (by decide) ?_
        refine v_weak [some (.inr (30, 0)), some (.inl x1), some (.inl 0), some (.inl (x3 + 1))] ⟨rfl, rfl, rfl, rfl, trivial⟩ ?_
        exact h
      · replace h := h.2 c22
        refine v_aload_n C dX8_isTold_25 rfl ?_
        refine v_get C dX8_isTold_26 flX8_31 rfl (by decide) (by decide) (w := .inr (46, 0)) rfl ?_
        refine v_iload_n C dX8_isTold_29 rfl ?_
        refine v_iald C dX8_isTold_30 rfl h.1.1 h.1.2 ?_
        replace h := h.2
        refine v_iload_n C dX8_isTold_31 rfl ?_
        refine v_icmp C dX8_isTold_32 (tgt := 48) (by decide) (P := x1 < (M 46 0 x3)) rfl (fun c32 => ?_) (fun c32 => ?_)
        · replace h := h.1 c32
          refine v_iconst C dX8_isTold_48 (by decide) ?_
          refine v_istore_n C dX8_isTold_49 (by decide) (Nat.le_of_ble_eq_true rfl) (lv' := [some (.inr (30, 0)), some (.inl x1), some (.inl 0), some (.inl x3)]) rfl ?_
          refine v_iinc C dX8_isTold_50 (by decide) rfl h.1 (lv' := [some (.inr (30, 0)), some (.inl x1), some (.inl 0), some (.inl (x3 + 1))]) rfl ?_
          replace h := h.2
          refine v_goto C dX8_isTold_53 (tgt := 4) (by decide) ?_
          refine v_weak [some (.inr (30, 0)), some (.inl x1), some (.inl 0), some (.inl (x3 + 1))] ⟨rfl, rfl, rfl, rfl, trivial⟩ ?_
          exact h
        · replace h := h.2 c32
          refine v_aload_n C dX8_isTold_35 rfl ?_
          refine v_iload_n C dX8_isTold_36 rfl ?_
          refine v_invV C ctX8_endOf dX8_isTold_37 ivX8_154 ⟨by decide, by decide, rfl, rfl⟩ (x3 : Int) (As := [.inl x3]) rfl rfl rfl (by decide) rfl (st := []) rfl (Nat.le_of_ble_eq_true rfl) h (fun o M37 oM37 io37 g37 => ?_)
          replace h := rI_out g37
          clear g37
          obtain ⟨r37, rfl, h⟩ := h
          refine v_push ?_
          refine v_iload_n C dX8_isTold_40 rfl ?_
          refine v_icmp C dX8_isTold_41 (tgt := 48) (by decide) (P := r37 ≤ x1) rfl (fun c41 => ?_) (fun c41 => ?_)
          · replace h := h.1 c41
            refine v_iconst C dX8_isTold_48 (by decide) ?_
            refine v_istore_n C dX8_isTold_49 (by decide) (Nat.le_of_ble_eq_true rfl) (lv' := [some (.inr (30, 0)), some (.inl x1), some (.inl 0), some (.inl x3)]) rfl ?_
            refine v_iinc C dX8_isTold_50 (by decide) rfl h.1 (lv' := [some (.inr (30, 0)), some (.inl x1), some (.inl 0), some (.inl (x3 + 1))]) rfl ?_
            replace h := h.2
            refine v_goto C dX8_isTold_53 (tgt := 4) (by decide) ?_
            refine v_weak [some (.inr (30, 0)), some (.inl x1), some (.inl 0), some (.inl (x3 + 1))] ⟨rfl, rfl, rfl, rfl, trivial⟩ ?_
            exact h
          · replace h := h.2 c41
            refine v_iconst C dX8_isTold_44 (by decide) ?_
            refine v_goto C dX8_isTold_45 (tgt := 49) (by decide) ?_
            refine v_istore_n C dX8_isTold_49 (by decide) (Nat.le_of_ble_eq_true rfl) (lv' := [some (.inr (30, 0)), some (.inl x1), some (.inl 1), some (.inl x3)]) rfl ?_
            refine v_iinc C dX8_isTold_50 (by decide) rfl h.1 (lv' := [some (.inr (30, 0)), some (.inl x1), some (.inl 1), some (.inl (x3 + 1))]) rfl ?_
            replace h := h.2
            refine v_goto C dX8_isTold_53 (tgt := 4) (by decide) ?_
            refine v_weak [some (.inr (30, 0)), some (.inl x1), some (.inl 1), some (.inl (x3 + 1))] ⟨rfl, rfl, rfl, rfl, trivial⟩ ?_
            exact h
def tlB (F : Film) (ver sta : Int → Int) (t : Int) : Nat → Bool
  | 0 => false
  | n + 1 => tlB F ver sta t n || decide (ver n ≠ -4 ∧ sta n ≤ t ∧ t < sta n + F 13 n (ver n))
abbrev spX8_isTold (t : Int) (M : Mem) (K : Kont) : Prop := (WFf (mFilm M) ∧ PlK (mFilm M) (M 45 0) (M 46 0)) ∧ K (some (if tlB (mFilm M) (M 45 0) (M 46 0) t (mFilm M 3 0 0).toNat then 1 else 0)) M
theorem tlB_s (F : Film) (ver sta : Int → Int) (t : Int) {p : Int} (h : 0 ≤ p) : tlB F ver sta t (p + 1).toNat = (tlB F ver sta t p.toNat || decide (ver p ≠ -4 ∧ sta p ≤ t ∧ t < sta p + F 13 p (ver p))) := by
  rw [toNat_s h]
  show (_ || decide (ver (p.toNat : Int) ≠ -4 ∧ _)) = _
  rw [oi_nat h]
theorem ctX8_isTold : CtX8_isTold spX8_isTold := by
  refine ct_of (by decide) dmM (fun _ => Nat.le_of_ble_eq_true rfl) ?_
  intro κ t M K C oM h
  obtain ⟨⟨hf, hP⟩, hk⟩ := h
  have hk : K (some (if tlB (mFilm M) (M 45 0) (M 46 0) t (mFilm M 3 0 0).toNat then 1 else 0)) M := hk
  have n3 := hf.2.2.2.1
  have e3 : mFilm M 3 0 0 = M 30 0 6 := rfl
  refine sgX8_isTold_0 C t ?_
  have loop : ∀ (n : Nat) (p is : Int), 0 ≤ p → p + n = M 30 0 6 → is = (if tlB (mFilm M) (M 45 0) (M 46 0) t p.toNat then 1 else 0) →
      V κ 4 M 4 [some (.inr (30, 0)), some (.inl t), some (.inl is), some (.inl p)] [] K := by
    intro n
    induction n with
    | zero =>
      intro p is p0 hn hi
      have e : p = mFilm M 3 0 0 := by omega
      refine sgX8_isTold_4 C t is p ⟨fun _ => ⟨?_, ?_⟩, fun z => absurd (by omega) z⟩
      · rw [hi]; split <;> omega
      · rw [hi, e]; exact hk
    | succ n ih =>
      intro p is p0 hn hi
      have st := hP.sta p0 (by omega)
      have ts := tlB_s (mFilm M) (M 45 0) (M 46 0) t p0
      refine sgX8_isTold_4 C t is p ⟨fun z => absurd z (by omega), fun _ => ⟨fun d => ⟨by omega, ih (p + 1) 1 (by omega) (by omega) ?_⟩, fun d => ⟨by omega, fun d2 => ⟨by omega, ih (p + 1) 0 (by omega) (by omega) ?_⟩, fun d2 => ⟨by omega, fun d3 => ⟨by omega, ih (p + 1) 0 (by omega) (by omega) ?_⟩, fun d3 => ?_⟩⟩⟩⟩
      · rw [hi] at d
        rw [ts, if10 d]
        rfl
      · have d' := if10n (show (if tlB (mFilm M) (M 45 0) (M 46 0) t p.toNat then (1 : Int) else 0) = 0 by omega)
        rw [ts, bfl d', if_neg (by simp; omega)]
      · have d' := if10n (show (if tlB (mFilm M) (M 45 0) (M 46 0) t p.toNat then (1 : Int) else 0) = 0 by omega)
        rw [ts, bfl d', if_neg (by simp; omega)]
      · have d' := if10n (show (if tlB (mFilm M) (M 45 0) (M 46 0) t p.toNat then (1 : Int) else 0) = 0 by omega)
        refine ⟨⟨hf, hP, by omega, by omega⟩, fun d4 => ⟨by omega, ih (p + 1) 0 (by omega) (by omega) ?_⟩, fun d4 => ⟨by omega, ih (p + 1) 1 (by omega) (by omega) ?_⟩⟩
        · rw [ts, bfl d', if_neg (by simp; omega)]
        · rw [ts, bfl d', if_pos (by simp; omega)]
  exact loop (M 30 0 6).toNat 0 0 (by omega) (by omega) rfl
/-! ===== GapTellingsModel.tick ===== -/
abbrev rmX8_tick : Room := { frames := 3, cells := 0, slots := 0, locals := 66 }
abbrev argX8_tick (a : Int) : List PV := [.inr (30, 0), .inl a]
abbrev CtX8_tick (sp : Int → Mem → Kont → Prop) : Prop := Ct yX8_tick cX8_tick 2 (some .int) rmX8_tick domM argX8_tick (fun a => sp a)
theorem dX8_tick_0 : decode cX8_tick 0 = .ok (.iload_n 1, 1) := by decide +kernel
theorem dX8_tick_1 : decode cX8_tick 1 = .ok (.iconst 0, 1) := by decide +kernel
theorem dX8_tick_2 : decode cX8_tick 2 = .ok (.aload_n 0, 1) := by decide +kernel
theorem dX8_tick_3 : decode cX8_tick 3 = .ok (.getfield 64, 3) := by decide +kernel
theorem dX8_tick_6 : decode cX8_tick 6 = .ok (.iconst 1, 1) := by decide +kernel
theorem dX8_tick_7 : decode cX8_tick 7 = .ok (.isub, 1) := by decide +kernel
theorem dX8_tick_8 : decode cX8_tick 8 = .ok (.invokestatic 97, 3) := by decide +kernel
theorem dX8_tick_11 : decode cX8_tick 11 = .ok (.ifCond .ne 5, 3) := by decide +kernel
theorem dX8_tick_14 : decode cX8_tick 14 = .ok (.iconst (-1), 1) := by decide +kernel
theorem dX8_tick_15 : decode cX8_tick 15 = .ok (.ireturn, 1) := by decide +kernel
theorem dX8_tick_16 : decode cX8_tick 16 = .ok (.aload_n 0, 1) := by decide +kernel
theorem dX8_tick_17 : decode cX8_tick 17 = .ok (.invokevirtual 137, 3) := by decide +kernel
theorem dX8_tick_20 : decode cX8_tick 20 = .ok (.aload_n 0, 1) := by decide +kernel
theorem dX8_tick_21 : decode cX8_tick 21 = .ok (.getfield 49, 3) := by decide +kernel
theorem dX8_tick_24 : decode cX8_tick 24 = .ok (.iload_n 1, 1) := by decide +kernel
theorem dX8_tick_25 : decode cX8_tick 25 = .ok (.iaload, 1) := by decide +kernel
theorem dX8_tick_26 : decode cX8_tick 26 = .ok (.aload_n 0, 1) := by decide +kernel
theorem dX8_tick_27 : decode cX8_tick 27 = .ok (.iload_n 1, 1) := by decide +kernel
theorem dX8_tick_28 : decode cX8_tick 28 = .ok (.invokevirtual 170, 3) := by decide +kernel
theorem dX8_tick_31 : decode cX8_tick 31 = .ok (.ifCond .eq 8, 3) := by decide +kernel
theorem dX8_tick_34 : decode cX8_tick 34 = .ok (.bipush 8, 2) := by decide +kernel
theorem dX8_tick_36 : decode cX8_tick 36 = .ok (.goto 4, 3) := by decide +kernel
theorem dX8_tick_39 : decode cX8_tick 39 = .ok (.iconst 0, 1) := by decide +kernel
theorem dX8_tick_40 : decode cX8_tick 40 = .ok (.iadd, 1) := by decide +kernel
theorem dX8_tick_41 : decode cX8_tick 41 = .ok (.ireturn, 1) := by decide +kernel
theorem ivX8_170 : IV RX8 170 yX8_isTold cX8_isTold 4 (some .boolean) 1 := ⟨(tb_mem (t_in5 (List.mem_of_getElem? (i := 121) (by decide +kernel))) (by decide +kernel)), (tb_mem (t_in5 (List.mem_of_getElem? (i := 123) (by decide +kernel))) (by decide +kernel)), (tb_sel (q := (⟨"GapTellingsModel", "isTold", "(I)Z"⟩, 29)) (List.mem_of_getElem? (i := 31) (by decide +kernel)) (by decide +kernel)), (tb_mem (t_in1 (List.mem_of_getElem? (i := 16) (by decide +kernel))) (by decide +kernel)), (tb_mem (t_in5 (List.mem_of_getElem? (i := 124) (by decide +kernel))) (by decide +kernel)), ⟨by decide +kernel, by decide +kernel, by decide +kernel⟩⟩
set_option maxHeartbeats 4000000 in
set_option maxRecDepth 20000 in
theorem sgX8_tick_0 {κ : Kx} {K : Kont} {M : Mem} (C : Cx κ RX8 cX8_tick 2 (some .int) rmX8_tick domM) (x1 : Int)
    (h :
    inR ((M 30 0 2) - 1) ∧
    spX8_isIn x1 0 ((M 30 0 2) - 1) M (rI (fun r8 M8 =>
    ((r8 ≠ 0 →
      spX8_hears M8 (rV (fun M17 =>
      (0 ≤ x1 ∧ x1 < 100) ∧
      spX8_isTold x1 M17 (rI (fun r28 M28 =>
      ((r28 = 0 →
        inR ((M17 52 0 x1) + 0) ∧
        K (some ((M17 52 0 x1) + 0)) M28) ∧
       (¬ (r28 = 0) →
        inR ((M17 52 0 x1) + 8) ∧
        K (some ((M17 52 0 x1) + 8)) M28))))))) ∧
     (¬ (r8 ≠ 0) →
      K (some (-1)) M8))))) : V κ 2 M 0 [some (.inr (30, 0)), some (.inl x1)] [] K := by
  refine v_iload_n C dX8_tick_0 rfl ?_
  refine v_iconst C dX8_tick_1 (by decide) ?_
  refine v_aload_n C dX8_tick_2 rfl ?_
  refine v_get C dX8_tick_3 flX8_64 rfl (by decide) (by decide) (w := .inl (M 30 0 2)) rfl ?_
  refine v_iconst C dX8_tick_6 (by decide) ?_
  refine v_isub C dX8_tick_7 h.1 ?_
  replace h := h.2
  refine v_invS C ctX8_isIn dX8_tick_8 ivX8_97 ⟨by decide, by decide, rfl, rfl⟩ ((x1, 0, (M 30 0 2) - 1) : Int × Int × Int) rfl (st := []) rfl (Nat.le_of_ble_eq_true rfl) h (fun o M8 oM8 io8 g8 => ?_)
  replace h := rI_out g8
  clear g8
  obtain ⟨r8, rfl, h⟩ := h
  refine v_push ?_
  refine v_if C dX8_tick_11 (tgt := 16) (by decide) (P := r8 ≠ 0) rfl (fun c11 => ?_) (fun c11 => ?_)
  · replace h := h.1 c11
    refine v_aload_n C dX8_tick_16 rfl ?_
    refine v_invV C ctX8_hears dX8_tick_17 ivX8_137 ⟨by decide, by decide, rfl, rfl⟩ (() : Unit) (As := []) rfl rfl rfl (by decide) rfl (st := []) rfl (Nat.le_of_ble_eq_true rfl) h (fun o M17 oM17 io17 g17 => ?_)
    replace h := rV_out g17
    clear g17
    obtain ⟨rfl, h⟩ := h
    refine v_push0 ?_
    refine v_aload_n C dX8_tick_20 rfl ?_
    refine v_get C dX8_tick_21 flX8_49 rfl (by decide) (by decide) (w := .inr (52, 0)) rfl ?_
    refine v_iload_n C dX8_tick_24 rfl ?_
    refine v_iald C dX8_tick_25 rfl h.1.1 h.1.2 ?_
    replace h := h.2
    refine v_aload_n C dX8_tick_26 rfl ?_
    refine v_iload_n C dX8_tick_27 rfl ?_
    refine v_invV C ctX8_isTold dX8_tick_28 ivX8_170 ⟨by decide, by decide, rfl, rfl⟩ (x1 : Int) (As := [.inl x1]) rfl rfl rfl (by decide) rfl (st := [.inl (M17 52 0 x1)]) rfl (Nat.le_of_ble_eq_true rfl) h (fun o M28 oM28 io28 g28 => ?_)
    replace h := rI_out g28
    clear g28
    obtain ⟨r28, rfl, h⟩ := h
    refine v_push ?_
    refine v_if C dX8_tick_31 (tgt := 39) (by decide) (P := r28 = 0) rfl (fun c31 => ?_) (fun c31 => ?_)
    · replace h := h.1 c31
      refine v_iconst C dX8_tick_39 (by decide) ?_
      refine v_iadd C dX8_tick_40 h.1 ?_
      replace h := h.2
      exact v_iret C dX8_tick_41 h
    · replace h := h.2 c31
      refine v_bipush C dX8_tick_34 (by decide) (by decide) ?_
      refine v_goto C dX8_tick_36 (tgt := 40) (by decide) ?_
      refine v_iadd C dX8_tick_40 h.1 ?_
      replace h := h.2
      exact v_iret C dX8_tick_41 h
  · replace h := h.2 c11
    refine v_iconst C dX8_tick_14 (by decide) ?_
    exact v_iret C dX8_tick_15 h
theorem tk_tl {F : Film} {ver sta : Int → Int} (t : Int) : ∀ n : Nat, 0 ≤ tkN F ver sta t (t + 1) n ∧ (tkN F ver sta t (t + 1) n ≤ 0 ↔ tlB F ver sta t n = false) := by
  intro n
  induction n with
  | zero => unfold tkN sumN tlB; simp
  | succ n ih =>
    have e : tkN F ver sta t (t + 1) (n + 1) = tkN F ver sta t (t + 1) n + (if ver n = -4 then 0 else max 0 (min (sta n + F 13 n (ver n)) (t + 1) - max (sta n) t)) := rfl
    have e2 : tlB F ver sta t (n + 1) = (tlB F ver sta t n || decide (ver n ≠ -4 ∧ sta n ≤ t ∧ t < sta n + F 13 n (ver n))) := rfl
    rw [e, e2]
    by_cases c : ver n = -4
    · rw [if_pos c]
      simp only [c, ne_eq, not_true, false_and, decide_false, Bool.or_false]
      rw [← ih.2]
      omega
    · rw [if_neg c]
      by_cases d : sta n ≤ t ∧ t < sta n + F 13 n (ver n)
      · simp only [c, d, ne_eq, not_false_iff, true_and, decide_true, Bool.or_true]
        refine ⟨by omega, fun z => by omega, fun z => by cases z⟩
      · have : ¬ (ver n ≠ -4 ∧ sta n ≤ t ∧ t < sta n + F 13 n (ver n)) := fun z => d z.2
        rw [decide_eq_false this, Bool.or_false, ← ih.2]
        omega
theorem or8 {x : Int} (h0 : 0 ≤ x) (h1 : x ≤ 7) : bOr x 0 = x ∧ bOr x 8 = x + 8 := by
  have key : ∀ a : Nat, a < 8 → bOr (a : Int) 0 = a ∧ bOr (a : Int) 8 = a + 8 := by decide +kernel
  have := key x.toNat (by omega)
  rw [oi_nat h0] at this
  exact this
abbrev spX8_tick (t : Int) (M : Mem) (K : Kont) : Prop := InvM M ∧ ∀ M', InvM M' → ChM M M' (mFilm M) (M 45 0) (M 46 0) → K (some (tckA (mFilm M) (M 45 0) (M 46 0) t)) M'
theorem ctX8_tick : CtX8_tick spX8_tick := by
  refine ct_of (by decide) dmM (fun _ => Nat.le_of_ble_eq_true rfl) ?_
  intro κ t M K C oM h
  obtain ⟨hI, hk⟩ := h
  have hk : ∀ M', InvM M' → ChM M M' (mFilm M) (M 45 0) (M 46 0) → K (some (tckA (mFilm M) (M 45 0) (M 46 0) t)) M' := hk
  have hf0 := hI.2.1
  have h0 := hf0.1
  have e0 : mFilm M 0 0 0 = M 30 0 2 := rfl
  unfold tckA at hk
  refine sgX8_tick_0 C t ⟨by omega, fun c => ?_, fun c => ?_⟩
  · have c1 : 0 ≤ t ∧ t ≤ M 30 0 2 - 1 := if10 c
    refine ⟨hf0, fun N hA hH => ?_⟩
    have hf := hA.s.film
    have hI2 := hA.s.inv hI
    have k1 := hk N hI2 hA.s.ch
    rw [if_neg (fun z => z (by omega)), ← hf, ← hA.s.row 0 (r := 45) (by omega), ← hA.s.row 0 (r := 46) (by omega)] at k1
    have mr := mkF_rng hI2.2.1 t
    have o8 := or8 mr.1 mr.2
    have tt := tk_tl (F := mFilm N) (ver := N 45 0) (sta := N 46 0) t (mFilm N 3 0 0).toNat
    have hm : N 52 0 t = mkF (mFilm N) t := by rw [hf]; exact hH t c1.1 (by omega)
    refine ⟨by omega, ⟨hI2.2.1, hI2.2.2⟩, fun d => ⟨by omega, ?_⟩, fun d => ⟨by omega, ?_⟩⟩
    · have d' := bfl (if10n d)
      rw [if_pos (tt.2.2 d'), o8.1] at k1
      rw [hm, show mkF (mFilm N) t + 0 = mkF (mFilm N) t by omega]
      exact k1
    · have d' : tlB (mFilm N) (N 45 0) (N 46 0) t (mFilm N 3 0 0).toNat = true := if10 d
      rw [if_neg (fun z => by rw [tt.2.1 z] at d'; exact absurd d' (by decide)), o8.2] at k1
      rw [hm]
      exact k1
  · have c1 : ¬ (0 ≤ t ∧ t ≤ M 30 0 2 - 1) := if10n (by omega)
    have k1 := hk M hI AgS.rf.ch
    rw [if_pos (by omega)] at k1
    exact k1
/-! ===== GapTellingsModel.silence ===== -/
abbrev rmX8_silence : Room := { frames := 3, cells := 0, slots := 0, locals := 66 }
abbrev argX8_silence (a : Int × Int) : List PV := [.inr (30, 0), .inl a.1, .inl a.2]
abbrev CtX8_silence (sp : Int → Int → Mem → Kont → Prop) : Prop := Ct yX8_silence cX8_silence 7 (some .int) rmX8_silence domM argX8_silence (fun a => sp a.1 a.2)
theorem dX8_silence_0 : decode cX8_silence 0 = .ok (.iload_n 1, 1) := by decide +kernel
theorem dX8_silence_1 : decode cX8_silence 1 = .ok (.iconst (-1), 1) := by decide +kernel
theorem dX8_silence_2 : decode cX8_silence 2 = .ok (.if_icmp .lt 12, 3) := by decide +kernel
theorem dX8_silence_5 : decode cX8_silence 5 = .ok (.iload_n 2, 1) := by decide +kernel
theorem dX8_silence_6 : decode cX8_silence 6 = .ok (.iconst 0, 1) := by decide +kernel
theorem dX8_silence_7 : decode cX8_silence 7 = .ok (.iconst 2, 1) := by decide +kernel
theorem dX8_silence_8 : decode cX8_silence 8 = .ok (.invokestatic 97, 3) := by decide +kernel
theorem dX8_silence_11 : decode cX8_silence 11 = .ok (.ifCond .ne 5, 3) := by decide +kernel
theorem dX8_silence_14 : decode cX8_silence 14 = .ok (.iconst (-1), 1) := by decide +kernel
theorem dX8_silence_15 : decode cX8_silence 15 = .ok (.ireturn, 1) := by decide +kernel
theorem dX8_silence_16 : decode cX8_silence 16 = .ok (.aload_n 0, 1) := by decide +kernel
theorem dX8_silence_17 : decode cX8_silence 17 = .ok (.invokevirtual 137, 3) := by decide +kernel
theorem dX8_silence_20 : decode cX8_silence 20 = .ok (.iconst 0, 1) := by decide +kernel
theorem dX8_silence_21 : decode cX8_silence 21 = .ok (.istore_n 3, 1) := by decide +kernel
theorem dX8_silence_22 : decode cX8_silence 22 = .ok (.iconst 0, 1) := by decide +kernel
theorem dX8_silence_23 : decode cX8_silence 23 = .ok (.istore 4, 2) := by decide +kernel
theorem dX8_silence_25 : decode cX8_silence 25 = .ok (.iload 4, 2) := by decide +kernel
theorem dX8_silence_27 : decode cX8_silence 27 = .ok (.aload_n 0, 1) := by decide +kernel
theorem dX8_silence_28 : decode cX8_silence 28 = .ok (.getfield 64, 3) := by decide +kernel
theorem dX8_silence_31 : decode cX8_silence 31 = .ok (.if_icmp .ge 125, 3) := by decide +kernel
theorem dX8_silence_34 : decode cX8_silence 34 = .ok (.iload 4, 2) := by decide +kernel
theorem dX8_silence_36 : decode cX8_silence 36 = .ok (.istore 5, 2) := by decide +kernel
theorem dX8_silence_38 : decode cX8_silence 38 = .ok (.iconst 0, 1) := by decide +kernel
theorem dX8_silence_39 : decode cX8_silence 39 = .ok (.istore 6, 2) := by decide +kernel
theorem dX8_silence_41 : decode cX8_silence 41 = .ok (.iload 4, 2) := by decide +kernel
theorem dX8_silence_43 : decode cX8_silence 43 = .ok (.aload_n 0, 1) := by decide +kernel
theorem dX8_silence_44 : decode cX8_silence 44 = .ok (.getfield 64, 3) := by decide +kernel
theorem dX8_silence_47 : decode cX8_silence 47 = .ok (.if_icmp .ge 40, 3) := by decide +kernel
theorem dX8_silence_50 : decode cX8_silence 50 = .ok (.aload_n 0, 1) := by decide +kernel
theorem dX8_silence_51 : decode cX8_silence 51 = .ok (.getfield 49, 3) := by decide +kernel
theorem dX8_silence_54 : decode cX8_silence 54 = .ok (.iload 4, 2) := by decide +kernel
theorem dX8_silence_56 : decode cX8_silence 56 = .ok (.iaload, 1) := by decide +kernel
theorem dX8_silence_57 : decode cX8_silence 57 = .ok (.iconst 1, 1) := by decide +kernel
theorem dX8_silence_58 : decode cX8_silence 58 = .ok (.iand, 1) := by decide +kernel
theorem dX8_silence_59 : decode cX8_silence 59 = .ok (.ifCond .ne 28, 3) := by decide +kernel
theorem dX8_silence_62 : decode cX8_silence 62 = .ok (.iload 6, 2) := by decide +kernel
theorem dX8_silence_64 : decode cX8_silence 64 = .ok (.aload_n 0, 1) := by decide +kernel
theorem dX8_silence_65 : decode cX8_silence 65 = .ok (.iload 4, 2) := by decide +kernel
theorem dX8_silence_67 : decode cX8_silence 67 = .ok (.invokevirtual 170, 3) := by decide +kernel
theorem dX8_silence_70 : decode cX8_silence 70 = .ok (.ifCond .eq 7, 3) := by decide +kernel
theorem dX8_silence_73 : decode cX8_silence 73 = .ok (.iconst 1, 1) := by decide +kernel
theorem dX8_silence_74 : decode cX8_silence 74 = .ok (.goto 4, 3) := by decide +kernel
theorem dX8_silence_77 : decode cX8_silence 77 = .ok (.iconst 0, 1) := by decide +kernel
theorem dX8_silence_78 : decode cX8_silence 78 = .ok (.iadd, 1) := by decide +kernel
theorem dX8_silence_79 : decode cX8_silence 79 = .ok (.istore 6, 2) := by decide +kernel
theorem dX8_silence_81 : decode cX8_silence 81 = .ok (.iinc 4 1, 3) := by decide +kernel
theorem dX8_silence_84 : decode cX8_silence 84 = .ok (.goto (-43), 3) := by decide +kernel
theorem dX8_silence_87 : decode cX8_silence 87 = .ok (.iload 4, 2) := by decide +kernel
theorem dX8_silence_89 : decode cX8_silence 89 = .ok (.iload 5, 2) := by decide +kernel
theorem dX8_silence_91 : decode cX8_silence 91 = .ok (.if_icmp .le 36, 3) := by decide +kernel
theorem dX8_silence_94 : decode cX8_silence 94 = .ok (.iload_n 3, 1) := by decide +kernel
theorem dX8_silence_95 : decode cX8_silence 95 = .ok (.iload_n 1, 1) := by decide +kernel
theorem dX8_silence_96 : decode cX8_silence 96 = .ok (.if_icmp .ne 28, 3) := by decide +kernel
theorem dX8_silence_99 : decode cX8_silence 99 = .ok (.iload_n 2, 1) := by decide +kernel
theorem dX8_silence_100 : decode cX8_silence 100 = .ok (.ifCond .ne 8, 3) := by decide +kernel
theorem dX8_silence_103 : decode cX8_silence 103 = .ok (.iload 5, 2) := by decide +kernel
theorem dX8_silence_105 : decode cX8_silence 105 = .ok (.goto 18, 3) := by decide +kernel
theorem dX8_silence_108 : decode cX8_silence 108 = .ok (.iload_n 2, 1) := by decide +kernel
theorem dX8_silence_109 : decode cX8_silence 109 = .ok (.iconst 1, 1) := by decide +kernel
theorem dX8_silence_110 : decode cX8_silence 110 = .ok (.if_icmp .ne 11, 3) := by decide +kernel
theorem dX8_silence_113 : decode cX8_silence 113 = .ok (.iload 4, 2) := by decide +kernel
theorem dX8_silence_115 : decode cX8_silence 115 = .ok (.iload 5, 2) := by decide +kernel
theorem dX8_silence_117 : decode cX8_silence 117 = .ok (.isub, 1) := by decide +kernel
theorem dX8_silence_118 : decode cX8_silence 118 = .ok (.goto 5, 3) := by decide +kernel
theorem dX8_silence_121 : decode cX8_silence 121 = .ok (.iload 6, 2) := by decide +kernel
theorem dX8_silence_123 : decode cX8_silence 123 = .ok (.ireturn, 1) := by decide +kernel
theorem dX8_silence_124 : decode cX8_silence 124 = .ok (.iinc 3 1, 3) := by decide +kernel
theorem dX8_silence_127 : decode cX8_silence 127 = .ok (.iload 4, 2) := by decide +kernel
theorem dX8_silence_129 : decode cX8_silence 129 = .ok (.iload 4, 2) := by decide +kernel
theorem dX8_silence_131 : decode cX8_silence 131 = .ok (.aload_n 0, 1) := by decide +kernel
theorem dX8_silence_132 : decode cX8_silence 132 = .ok (.getfield 64, 3) := by decide +kernel
theorem dX8_silence_135 : decode cX8_silence 135 = .ok (.if_icmp .ge 14, 3) := by decide +kernel
theorem dX8_silence_138 : decode cX8_silence 138 = .ok (.iload 4, 2) := by decide +kernel
theorem dX8_silence_140 : decode cX8_silence 140 = .ok (.iload 5, 2) := by decide +kernel
theorem dX8_silence_142 : decode cX8_silence 142 = .ok (.if_icmp .ne 7, 3) := by decide +kernel
theorem dX8_silence_145 : decode cX8_silence 145 = .ok (.iconst 1, 1) := by decide +kernel
theorem dX8_silence_146 : decode cX8_silence 146 = .ok (.goto 4, 3) := by decide +kernel
theorem dX8_silence_149 : decode cX8_silence 149 = .ok (.iconst 0, 1) := by decide +kernel
theorem dX8_silence_150 : decode cX8_silence 150 = .ok (.iadd, 1) := by decide +kernel
theorem dX8_silence_151 : decode cX8_silence 151 = .ok (.istore 4, 2) := by decide +kernel
theorem dX8_silence_153 : decode cX8_silence 153 = .ok (.goto (-128), 3) := by decide +kernel
theorem dX8_silence_156 : decode cX8_silence 156 = .ok (.iload_n 1, 1) := by decide +kernel
theorem dX8_silence_157 : decode cX8_silence 157 = .ok (.ifCond .ge 7, 3) := by decide +kernel
theorem dX8_silence_160 : decode cX8_silence 160 = .ok (.iload_n 3, 1) := by decide +kernel
theorem dX8_silence_161 : decode cX8_silence 161 = .ok (.goto 5, 3) := by decide +kernel
theorem dX8_silence_164 : decode cX8_silence 164 = .ok (.bipush (-4), 2) := by decide +kernel
theorem dX8_silence_166 : decode cX8_silence 166 = .ok (.ireturn, 1) := by decide +kernel
set_option maxHeartbeats 4000000 in
set_option maxRecDepth 20000 in
theorem sgX8_silence_0 {κ : Kx} {K : Kont} {M : Mem} (C : Cx κ RX8 cX8_silence 7 (some .int) rmX8_silence domM) (x1 : Int) (x2 : Int)
    (h :
    ((x1 < (-1) →
      K (some (-1)) M) ∧
     (¬ (x1 < (-1)) →
      spX8_isIn x2 0 2 M (rI (fun r8 M8 =>
      ((r8 ≠ 0 →
        spX8_hears M8 (rV (fun M17 =>
        V κ 7 M17 25 [some (.inr (30, 0)), some (.inl x1), some (.inl x2), some (.inl 0), some (.inl 0), none, none] [] K))) ∧
       (¬ (r8 ≠ 0) →
        K (some (-1)) M8))))))) : V κ 7 M 0 [some (.inr (30, 0)), some (.inl x1), some (.inl x2), none, none, none, none] [] K := by
  refine v_iload_n C dX8_silence_0 rfl ?_
  refine v_iconst C dX8_silence_1 (by decide) ?_
  refine v_icmp C dX8_silence_2 (tgt := 14) (by decide) (P := x1 < (-1)) rfl (fun c2 => ?_) (fun c2 => ?_)
  · replace h := h.1 c2
    refine v_iconst C dX8_silence_14 (by decide) ?_
    exact v_iret C dX8_silence_15 h
  · replace h := h.2 c2
    refine v_iload_n C dX8_silence_5 rfl ?_
    refine v_iconst C dX8_silence_6 (by decide) ?_
    refine v_iconst C dX8_silence_7 (by decide) ?_
    refine v_invS C ctX8_isIn dX8_silence_8 ivX8_97 ⟨by decide, by decide, rfl, rfl⟩ ((x2, 0, 2) : Int × Int × Int) rfl (st := []) rfl (Nat.le_of_ble_eq_true rfl) h (fun o M8 oM8 io8 g8 => ?_)
    replace h := rI_out g8
    clear g8
    obtain ⟨r8, rfl, h⟩ := h
    refine v_push ?_
    refine v_if C dX8_silence_11 (tgt := 16) (by decide) (P := r8 ≠ 0) rfl (fun c11 => ?_) (fun c11 => ?_)
    · replace h := h.1 c11
      refine v_aload_n C dX8_silence_16 rfl ?_
      refine v_invV C ctX8_hears dX8_silence_17 ivX8_137 ⟨by decide, by decide, rfl, rfl⟩ (() : Unit) (As := []) rfl rfl rfl (by decide) rfl (st := []) rfl (Nat.le_of_ble_eq_true rfl) h (fun o M17 oM17 io17 g17 => ?_)
      replace h := rV_out g17
      clear g17
      obtain ⟨rfl, h⟩ := h
      refine v_push0 ?_
      refine v_iconst C dX8_silence_20 (by decide) ?_
      refine v_istore_n C dX8_silence_21 (by decide) (Nat.le_of_ble_eq_true rfl) (lv' := [some (.inr (30, 0)), some (.inl x1), some (.inl x2), some (.inl 0), none, none, none]) rfl ?_
      refine v_iconst C dX8_silence_22 (by decide) ?_
      refine v_istore C dX8_silence_23 (by decide) (Nat.le_of_ble_eq_true rfl) (lv' := [some (.inr (30, 0)), some (.inl x1), some (.inl x2), some (.inl 0), some (.inl 0), none, none]) rfl ?_
      refine v_weak [some (.inr (30, 0)), some (.inl x1), some (.inl x2), some (.inl 0), some (.inl 0), none, none] ⟨rfl, rfl, rfl, rfl, rfl, trivial⟩ ?_
      exact h
    · replace h := h.2 c11
      refine v_iconst C dX8_silence_14 (by decide) ?_
      exact v_iret C dX8_silence_15 h
set_option maxHeartbeats 4000000 in
set_option maxRecDepth 20000 in
theorem sgX8_silence_25 {κ : Kx} {K : Kont} {M : Mem} (C : Cx κ RX8 cX8_silence 7 (some .int) rmX8_silence domM) (x1 : Int) (x2 : Int) (x3 : Int) (x4 : Int)
    (h :
    (((M 30 0 2) ≤ x4 →
      ((0 ≤ x1 →
        K (some (-4)) M) ∧
       (¬ (0 ≤ x1) →
        K (some x3) M))) ∧
     (¬ ((M 30 0 2) ≤ x4) →
      V κ 7 M 41 [some (.inr (30, 0)), some (.inl x1), some (.inl x2), some (.inl x3), some (.inl x4), some (.inl x4), some (.inl 0)] [] K))) : V κ 7 M 25 [some (.inr (30, 0)), some (.inl x1), some (.inl x2), some (.inl x3), some (.inl x4), none, none] [] K := by
  refine v_iload C dX8_silence_25 rfl ?_
  refine v_aload_n C dX8_silence_27 rfl ?_
  refine v_get C dX8_silence_28 flX8_64 rfl (by decide) (by decide) (w := .inl (M 30 0 2)) rfl ?_
  refine v_icmp C dX8_silence_31 (tgt := 156) (by decide) (P := (M 30 0 2) ≤ x4) rfl (fun c31 => ?_) (fun c31 => ?_)
  · replace h := h.1 c31
    refine v_iload_n C dX8_silence_156 rfl ?_
    refine v_if C dX8_silence_157 (tgt := 164) (by decide) (P := 0 ≤ x1) rfl (fun c157 => ?_) (fun c157 => ?_)
    · replace h := h.1 c157
      refine v_bipush C dX8_silence_164 (by decide) (by decide) ?_
      exact v_iret C dX8_silence_166 h
    · replace h := h.2 c157
      refine v_iload_n C dX8_silence_160 rfl ?_
      refine v_goto C dX8_silence_161 (tgt := 166) (by decide) ?_
      exact v_iret C dX8_silence_166 h
  · replace h := h.2 c31
    refine v_iload C dX8_silence_34 rfl ?_
    refine v_istore C dX8_silence_36 (by decide) (Nat.le_of_ble_eq_true rfl) (lv' := [some (.inr (30, 0)), some (.inl x1), some (.inl x2), some (.inl x3), some (.inl x4), some (.inl x4), none]) rfl ?_
    refine v_iconst C dX8_silence_38 (by decide) ?_
    refine v_istore C dX8_silence_39 (by decide) (Nat.le_of_ble_eq_true rfl) (lv' := [some (.inr (30, 0)), some (.inl x1), some (.inl x2), some (.inl x3), some (.inl x4), some (.inl x4), some (.inl 0)]) rfl ?_
    refine v_weak [some (.inr (30, 0)), some (.inl x1), some (.inl x2), some (.inl x3), some (.inl x4), some (.inl x4), some (.inl 0)] ⟨rfl, rfl, rfl, rfl, rfl, rfl, rfl, trivial⟩ ?_
    exact h
set_option maxHeartbeats 4000000 in
set_option maxRecDepth 20000 in
theorem sgX8_silence_41 {κ : Kx} {K : Kont} {M : Mem} (C : Cx κ RX8 cX8_silence 7 (some .int) rmX8_silence domM) (x1 : Int) (x2 : Int) (x3 : Int) (x4 : Int) (x5 : Int) (x6 : Int)
    (h :
    (((M 30 0 2) ≤ x4 →
      ((x4 ≤ x5 →
        (((M 30 0 2) ≤ x4 →
          inR (x4 + 0) ∧
          ∀ y4_151 : Int, y4_151 = x4 + 0 →
          V κ 7 M 25 [some (.inr (30, 0)), some (.inl x1), some (.inl x2), some (.inl x3), some (.inl y4_151), none, none] [] K) ∧
         (¬ ((M 30 0 2) ≤ x4) →
          ((x4 ≠ x5 →
            inR (x4 + 0) ∧
            ∀ y4_151 : Int, y4_151 = x4 + 0 →
            V κ 7 M 25 [some (.inr (30, 0)), some (.inl x1), some (.inl x2), some (.inl x3), some (.inl y4_151), none, none] [] K) ∧
           (¬ (x4 ≠ x5) →
            inR (x4 + 1) ∧
            ∀ y4_151 : Int, y4_151 = x4 + 1 →
            V κ 7 M 25 [some (.inr (30, 0)), some (.inl x1), some (.inl x2), some (.inl x3), some (.inl y4_151), none, none] [] K))))) ∧
       (¬ (x4 ≤ x5) →
        ((x3 ≠ x1 →
          inR (x3 + 1) ∧
          (((M 30 0 2) ≤ x4 →
            inR (x4 + 0) ∧
            ∀ y4_151 : Int, y4_151 = x4 + 0 →
            V κ 7 M 25 [some (.inr (30, 0)), some (.inl x1), some (.inl x2), some (.inl (x3 + 1)), some (.inl y4_151), none, none] [] K) ∧
           (¬ ((M 30 0 2) ≤ x4) →
            ((x4 ≠ x5 →
              inR (x4 + 0) ∧
              ∀ y4_151 : Int, y4_151 = x4 + 0 →
              V κ 7 M 25 [some (.inr (30, 0)), some (.inl x1), some (.inl x2), some (.inl (x3 + 1)), some (.inl y4_151), none, none] [] K) ∧
             (¬ (x4 ≠ x5) →
              inR (x4 + 1) ∧
              ∀ y4_151 : Int, y4_151 = x4 + 1 →
              V κ 7 M 25 [some (.inr (30, 0)), some (.inl x1), some (.inl x2), some (.inl (x3 + 1)), some (.inl y4_151), none, none] [] K))))) ∧
         (¬ (x3 ≠ x1) →
          ((x2 ≠ 0 →
            ((x2 ≠ 1 →
              K (some x6) M) ∧
             (¬ (x2 ≠ 1) →
              inR (x4 - x5) ∧
              K (some (x4 - x5)) M))) ∧
           (¬ (x2 ≠ 0) →
            K (some x5) M))))))) ∧
     (¬ ((M 30 0 2) ≤ x4) →
      (0 ≤ x4 ∧ x4 < 100) ∧
      (((bAnd (M 52 0 x4) 1) ≠ 0 →
        ((x4 ≤ x5 →
          (((M 30 0 2) ≤ x4 →
            inR (x4 + 0) ∧
            ∀ y4_151 : Int, y4_151 = x4 + 0 →
            V κ 7 M 25 [some (.inr (30, 0)), some (.inl x1), some (.inl x2), some (.inl x3), some (.inl y4_151), none, none] [] K) ∧
           (¬ ((M 30 0 2) ≤ x4) →
            ((x4 ≠ x5 →
              inR (x4 + 0) ∧
              ∀ y4_151 : Int, y4_151 = x4 + 0 →
              V κ 7 M 25 [some (.inr (30, 0)), some (.inl x1), some (.inl x2), some (.inl x3), some (.inl y4_151), none, none] [] K) ∧
             (¬ (x4 ≠ x5) →
              inR (x4 + 1) ∧
              ∀ y4_151 : Int, y4_151 = x4 + 1 →
              V κ 7 M 25 [some (.inr (30, 0)), some (.inl x1), some (.inl x2), some (.inl x3), some (.inl y4_151), none, none] [] K))))) ∧
         (¬ (x4 ≤ x5) →
          ((x3 ≠ x1 →
            inR (x3 + 1) ∧
            (((M 30 0 2) ≤ x4 →
              inR (x4 + 0) ∧
              ∀ y4_151 : Int, y4_151 = x4 + 0 →
              V κ 7 M 25 [some (.inr (30, 0)), some (.inl x1), some (.inl x2), some (.inl (x3 + 1)), some (.inl y4_151), none, none] [] K) ∧
             (¬ ((M 30 0 2) ≤ x4) →
              ((x4 ≠ x5 →
                inR (x4 + 0) ∧
                ∀ y4_151 : Int, y4_151 = x4 + 0 →
                V κ 7 M 25 [some (.inr (30, 0)), some (.inl x1), some (.inl x2), some (.inl (x3 + 1)), some (.inl y4_151), none, none] [] K) ∧
               (¬ (x4 ≠ x5) →
                inR (x4 + 1) ∧
                ∀ y4_151 : Int, y4_151 = x4 + 1 →
                V κ 7 M 25 [some (.inr (30, 0)), some (.inl x1), some (.inl x2), some (.inl (x3 + 1)), some (.inl y4_151), none, none] [] K))))) ∧
           (¬ (x3 ≠ x1) →
            ((x2 ≠ 0 →
              ((x2 ≠ 1 →
                K (some x6) M) ∧
               (¬ (x2 ≠ 1) →
                inR (x4 - x5) ∧
                K (some (x4 - x5)) M))) ∧
             (¬ (x2 ≠ 0) →
              K (some x5) M))))))) ∧
       (¬ ((bAnd (M 52 0 x4) 1) ≠ 0) →
        spX8_isTold x4 M (rI (fun r67 M67 =>
        ((r67 = 0 →
          inR (x6 + 0) ∧
          ∀ y6_79 : Int, y6_79 = x6 + 0 →
          inR (x4 + 1) ∧
          V κ 7 M67 41 [some (.inr (30, 0)), some (.inl x1), some (.inl x2), some (.inl x3), some (.inl (x4 + 1)), some (.inl x5), some (.inl y6_79)] [] K) ∧
         (¬ (r67 = 0) →
          inR (x6 + 1) ∧
          ∀ y6_79 : Int, y6_79 = x6 + 1 →
          inR (x4 + 1) ∧
          V κ 7 M67 41 [some (.inr (30, 0)), some (.inl x1), some (.inl x2), some (.inl x3), some (.inl (x4 + 1)), some (.inl x5), some (.inl y6_79)] [] K))))))))) : V κ 7 M 41 [some (.inr (30, 0)), some (.inl x1), some (.inl x2), some (.inl x3), some (.inl x4), some (.inl x5), some (.inl x6)] [] K := by
  refine v_iload C dX8_silence_41 rfl ?_
  refine v_aload_n C dX8_silence_43 rfl ?_
  refine v_get C dX8_silence_44 flX8_64 rfl (by decide) (by decide) (w := .inl (M 30 0 2)) rfl ?_
  refine v_icmp C dX8_silence_47 (tgt := 87) (by decide) (P := (M 30 0 2) ≤ x4) rfl (fun c47 => ?_) (fun c47 => ?_)
  · replace h := h.1 c47
    refine v_iload C dX8_silence_87 rfl ?_
    refine v_iload C dX8_silence_89 rfl ?_
    refine v_icmp C dX8_silence_91 (tgt := 127) (by decide) (P := x4 ≤ x5) rfl (fun c91 => ?_) (fun c91 => ?_)
    · replace h := h.1 c91
      refine v_iload C dX8_silence_127 rfl ?_
      refine v_iload C dX8_silence_129 rfl ?_
      refine v_aload_n C dX8_silence_131 rfl ?_
      refine v_get C dX8_silence_132 flX8_64 rfl (by decide) (by decide) (w := .inl (M 30 0 2)) rfl ?_
      refine v_icmp C dX8_silence_135 (tgt := 149) (by decide) (P := (M 30 0 2) ≤ x4) rfl (fun c135 => ?_) (fun c135 => ?_)
      · replace h := h.1 c135
        refine v_iconst C dX8_silence_149 (by decide) ?_
        refine v_iadd C dX8_silence_150 h.1 ?_
        replace h := h.2
        refine v_nm (fun y4_151 ey4_151 => ?_)
        replace h := h y4_151 ey4_151
        refine v_istore C dX8_silence_151 (by decide) (Nat.le_of_ble_eq_true rfl) (lv' := [some (.inr (30, 0)), some (.inl x1), some (.inl x2), some (.inl x3), some (.inl y4_151), some (.inl x5), some (.inl x6)]) rfl ?_
        refine v_goto C dX8_silence_153 (tgt := 25) (by decide) ?_
        refine v_weak [some (.inr (30, 0)), some (.inl x1), some (.inl x2), some (.inl x3), some (.inl y4_151), none, none] ⟨rfl, rfl, rfl, rfl, rfl, trivial⟩ ?_
        exact h
      · replace h := h.2 c135
        refine v_iload C dX8_silence_138 rfl ?_
        refine v_iload C dX8_silence_140 rfl ?_
        refine v_icmp C dX8_silence_142 (tgt := 149) (by decide) (P := x4 ≠ x5) rfl (fun c142 => ?_) (fun c142 => ?_)
        · replace h := h.1 c142
          refine v_iconst C dX8_silence_149 (by decide) ?_
          refine v_iadd C dX8_silence_150 h.1 ?_
          replace h := h.2
          refine v_nm (fun y4_151 ey4_151 => ?_)
          replace h := h y4_151 ey4_151
          refine v_istore C dX8_silence_151 (by decide) (Nat.le_of_ble_eq_true rfl) (lv' := [some (.inr (30, 0)), some (.inl x1), some (.inl x2), some (.inl x3), some (.inl y4_151), some (.inl x5), some (.inl x6)]) rfl ?_
          refine v_goto C dX8_silence_153 (tgt := 25) (by decide) ?_
          refine v_weak [some (.inr (30, 0)), some (.inl x1), some (.inl x2), some (.inl x3), some (.inl y4_151), none, none] ⟨rfl, rfl, rfl, rfl, rfl, trivial⟩ ?_
          exact h
        · replace h := h.2 c142
          refine v_iconst C dX8_silence_145 (by decide) ?_
          refine v_goto C dX8_silence_146 (tgt := 150) (by decide) ?_
          refine v_iadd C dX8_silence_150 h.1 ?_
          replace h := h.2
          refine v_nm (fun y4_151 ey4_151 => ?_)
          replace h := h y4_151 ey4_151
          refine v_istore C dX8_silence_151 (by decide) (Nat.le_of_ble_eq_true rfl) (lv' := [some (.inr (30, 0)), some (.inl x1), some (.inl x2), some (.inl x3), some (.inl y4_151), some (.inl x5), some (.inl x6)]) rfl ?_
          refine v_goto C dX8_silence_153 (tgt := 25) (by decide) ?_
          refine v_weak [some (.inr (30, 0)), some (.inl x1), some (.inl x2), some (.inl x3), some (.inl y4_151), none, none] ⟨rfl, rfl, rfl, rfl, rfl, trivial⟩ ?_
          exact h
    · replace h := h.2 c91
      refine v_iload_n C dX8_silence_94 rfl ?_
      refine v_iload_n C dX8_silence_95 rfl ?_
      refine v_icmp C dX8_silence_96 (tgt := 124) (by decide) (P := x3 ≠ x1) rfl (fun c96 => ?_) (fun c96 => ?_)
      · replace h := h.1 c96
        refine v_iinc C dX8_silence_124 (by decide) rfl h.1 (lv' := [some (.inr (30, 0)), some (.inl x1), some (.inl x2), some (.inl (x3 + 1)), some (.inl x4), some (.inl x5), some (.inl x6)]) rfl ?_
        replace h := h.2
        refine v_iload C dX8_silence_127 rfl ?_
        refine v_iload C dX8_silence_129 rfl ?_
        refine v_aload_n C dX8_silence_131 rfl ?_
        refine v_get C dX8_silence_132 flX8_64 rfl (by decide) (by decide) (w := .inl (M 30 0 2)) rfl ?_
        refine v_icmp C dX8_silence_135 (tgt := 149) (by decide) (P := (M 30 0 2) ≤ x4) rfl (fun c135 => ?_) (fun c135 => ?_)
        · replace h := h.1 c135
          refine v_iconst C dX8_silence_149 (by decide) ?_
          refine v_iadd C dX8_silence_150 h.1 ?_
          replace h := h.2
          refine v_nm (fun y4_151 ey4_151 => ?_)
          replace h := h y4_151 ey4_151
          refine v_istore C dX8_silence_151 (by decide) (Nat.le_of_ble_eq_true rfl) (lv' := [some (.inr (30, 0)), some (.inl x1), some (.inl x2), some (.inl (x3 + 1)), some (.inl y4_151), some (.inl x5), some (.inl x6)]) rfl ?_
          refine v_goto C dX8_silence_153 (tgt := 25) (by decide) ?_
          refine v_weak [some (.inr (30, 0)), some (.inl x1), some (.inl x2), some (.inl (x3 + 1)), some (.inl y4_151), none, none] ⟨rfl, rfl, rfl, rfl, rfl, trivial⟩ ?_
          exact h
        · replace h := h.2 c135
          refine v_iload C dX8_silence_138 rfl ?_
          refine v_iload C dX8_silence_140 rfl ?_
          refine v_icmp C dX8_silence_142 (tgt := 149) (by decide) (P := x4 ≠ x5) rfl (fun c142 => ?_) (fun c142 => ?_)
          · replace h := h.1 c142
            refine v_iconst C dX8_silence_149 (by decide) ?_
            refine v_iadd C dX8_silence_150 h.1 ?_
            replace h := h.2
            refine v_nm (fun y4_151 ey4_151 => ?_)
            replace h := h y4_151 ey4_151
            refine v_istore C dX8_silence_151 (by decide) (Nat.le_of_ble_eq_true rfl) (lv' := [some (.inr (30, 0)), some (.inl x1), some (.inl x2), some (.inl (x3 + 1)), some (.inl y4_151), some (.inl x5), some (.inl x6)]) rfl ?_
            refine v_goto C dX8_silence_153 (tgt := 25) (by decide) ?_
            refine v_weak [some (.inr (30, 0)), some (.inl x1), some (.inl x2), some (.inl (x3 + 1)), some (.inl y4_151), none, none] ⟨rfl, rfl, rfl, rfl, rfl, trivial⟩ ?_
            exact h
          · replace h := h.2 c142
            refine v_iconst C dX8_silence_145 (by decide) ?_
            refine v_goto C dX8_silence_146 (tgt := 150) (by decide) ?_
            refine v_iadd C dX8_silence_150 h.1 ?_
            replace h := h.2
            refine v_nm (fun y4_151 ey4_151 => ?_)
            replace h := h y4_151 ey4_151
            refine v_istore C dX8_silence_151 (by decide) (Nat.le_of_ble_eq_true rfl) (lv' := [some (.inr (30, 0)), some (.inl x1), some (.inl x2), some (.inl (x3 + 1)), some (.inl y4_151), some (.inl x5), some (.inl x6)]) rfl ?_
            refine v_goto C dX8_silence_153 (tgt := 25) (by decide) ?_
            refine v_weak [some (.inr (30, 0)), some (.inl x1), some (.inl x2), some (.inl (x3 + 1)), some (.inl y4_151), none, none] ⟨rfl, rfl, rfl, rfl, rfl, trivial⟩ ?_
            exact h
      · replace h := h.2 c96
        refine v_iload_n C dX8_silence_99 rfl ?_
        refine v_if C dX8_silence_100 (tgt := 108) (by decide) (P := x2 ≠ 0) rfl (fun c100 => ?_) (fun c100 => ?_)
        · replace h := h.1 c100
          refine v_iload_n C dX8_silence_108 rfl ?_
          refine v_iconst C dX8_silence_109 (by decide) ?_
          refine v_icmp C dX8_silence_110 (tgt := 121) (by decide) (P := x2 ≠ 1) rfl (fun c110 => ?_) (fun c110 => ?_)
          · replace h := h.1 c110
            refine v_iload C dX8_silence_121 rfl ?_
            exact v_iret C dX8_silence_123 h
          · replace h := h.2 c110
            refine v_iload C dX8_silence_113 rfl ?_
            refine v_iload C dX8_silence_115 rfl ?_
            refine v_isub C dX8_silence_117 h.1 ?_
            replace h := h.2
            refine v_goto C dX8_silence_118 (tgt := 123) (by decide) ?_
            exact v_iret C dX8_silence_123 h
        · replace h := h.2 c100
          refine v_iload C dX8_silence_103 rfl ?_
          refine v_goto C dX8_silence_105 (tgt := 123) (by decide) ?_
          exact v_iret C dX8_silence_123 h
  · replace h := h.2 c47
    refine v_aload_n C dX8_silence_50 rfl ?_
    refine v_get C dX8_silence_51 flX8_49 rfl (by decide) (by decide) (w := .inr (52, 0)) rfl ?_
    refine v_iload C dX8_silence_54 rfl ?_
    refine v_iald C dX8_silence_56 rfl h.1.1 h.1.2 ?_
    replace h := h.2
    refine v_iconst C dX8_silence_57 (by decide) ?_
    refine v_iand C dX8_silence_58 ?_
    refine v_if C dX8_silence_59 (tgt := 87) (by decide) (P := (bAnd (M 52 0 x4) 1) ≠ 0) rfl (fun c59 => ?_) (fun c59 => ?_)
    · replace h := h.1 c59
      refine v_iload C dX8_silence_87 rfl ?_
      refine v_iload C dX8_silence_89 rfl ?_
      refine v_icmp C dX8_silence_91 (tgt := 127) (by decide) (P := x4 ≤ x5) rfl (fun c91 => ?_) (fun c91 => ?_)
      · replace h := h.1 c91
        refine v_iload C dX8_silence_127 rfl ?_
        refine v_iload C dX8_silence_129 rfl ?_
        refine v_aload_n C dX8_silence_131 rfl ?_
        refine v_get C dX8_silence_132 flX8_64 rfl (by decide) (by decide) (w := .inl (M 30 0 2)) rfl ?_
        refine v_icmp C dX8_silence_135 (tgt := 149) (by decide) (P := (M 30 0 2) ≤ x4) rfl (fun c135 => ?_) (fun c135 => ?_)
        · replace h := h.1 c135
          refine v_iconst C dX8_silence_149 (by decide) ?_
          refine v_iadd C dX8_silence_150 h.1 ?_
          replace h := h.2
          refine v_nm (fun y4_151 ey4_151 => ?_)
          replace h := h y4_151 ey4_151
          refine v_istore C dX8_silence_151 (by decide) (Nat.le_of_ble_eq_true rfl) (lv' := [some (.inr (30, 0)), some (.inl x1), some (.inl x2), some (.inl x3), some (.inl y4_151), some (.inl x5), some (.inl x6)]) rfl ?_
          refine v_goto C dX8_silence_153 (tgt := 25) (by decide) ?_
          refine v_weak [some (.inr (30, 0)), some (.inl x1), some (.inl x2), some (.inl x3), some (.inl y4_151), none, none] ⟨rfl, rfl, rfl, rfl, rfl, trivial⟩ ?_
          exact h
        · replace h := h.2 c135
          refine v_iload C dX8_silence_138 rfl ?_
          refine v_iload C dX8_silence_140 rfl ?_
          refine v_icmp C dX8_silence_142 (tgt := 149) (by decide) (P := x4 ≠ x5) rfl (fun c142 => ?_) (fun c142 => ?_)
          · replace h := h.1 c142
            refine v_iconst C dX8_silence_149 (by decide) ?_
            refine v_iadd C dX8_silence_150 h.1 ?_
            replace h := h.2
            refine v_nm (fun y4_151 ey4_151 => ?_)
            replace h := h y4_151 ey4_151
            refine v_istore C dX8_silence_151 (by decide) (Nat.le_of_ble_eq_true rfl) (lv' := [some (.inr (30, 0)), some (.inl x1), some (.inl x2), some (.inl x3), some (.inl y4_151), some (.inl x5), some (.inl x6)]) rfl ?_
            refine v_goto C dX8_silence_153 (tgt := 25) (by decide) ?_
            refine v_weak [some (.inr (30, 0)), some (.inl x1), some (.inl x2), some (.inl x3), some (.inl y4_151), none, none] ⟨rfl, rfl, rfl, rfl, rfl, trivial⟩ ?_
            exact h
          · replace h := h.2 c142
            refine v_iconst C dX8_silence_145 (by decide) ?_
            refine v_goto C dX8_silence_146 (tgt := 150) (by decide) ?_
            refine v_iadd C dX8_silence_150 h.1 ?_
            replace h := h.2
            refine v_nm (fun y4_151 ey4_151 => ?_)
            replace h := h y4_151 ey4_151
            refine v_istore C dX8_silence_151 (by decide) (Nat.le_of_ble_eq_true rfl) (lv' := [some (.inr (30, 0)), some (.inl x1), some (.inl x2), some (.inl x3), some (.inl y4_151), some (.inl x5), some (.inl x6)]) rfl ?_
            refine v_goto C dX8_silence_153 (tgt := 25) (by decide) ?_
            refine v_weak [some (.inr (30, 0)), some (.inl x1), some (.inl x2), some (.inl x3), some (.inl y4_151), none, none] ⟨rfl, rfl, rfl, rfl, rfl, trivial⟩ ?_
            exact h
      · replace h := h.2 c91
        refine v_iload_n C dX8_silence_94 rfl ?_
        refine v_iload_n C dX8_silence_95 rfl ?_
        refine v_icmp C dX8_silence_96 (tgt := 124) (by decide) (P := x3 ≠ x1) rfl (fun c96 => ?_) (fun c96 => ?_)
        · replace h := h.1 c96
          refine v_iinc C dX8_silence_124 (by decide) rfl h.1 (lv' := [some (.inr (30, 0)), some (.inl x1), some (.inl x2), some (.inl (x3 + 1)), some (.inl x4), some (.inl x5), some (.inl x6)]) rfl ?_
          replace h := h.2
          refine v_iload C dX8_silence_127 rfl ?_
          refine v_iload C dX8_silence_129 rfl ?_
          refine v_aload_n C dX8_silence_131 rfl ?_
          refine v_get C dX8_silence_132 flX8_64 rfl (by decide) (by decide) (w := .inl (M 30 0 2)) rfl ?_
          refine v_icmp C dX8_silence_135 (tgt := 149) (by decide) (P := (M 30 0 2) ≤ x4) rfl (fun c135 => ?_) (fun c135 => ?_)
          · replace h := h.1 c135
            refine v_iconst C dX8_silence_149 (by decide) ?_
            refine v_iadd C dX8_silence_150 h.1 ?_
            replace h := h.2
            refine v_nm (fun y4_151 ey4_151 => ?_)
            replace h := h y4_151 ey4_151
            refine v_istore C dX8_silence_151 (by decide) (Nat.le_of_ble_eq_true rfl) (lv' := [some (.inr (30, 0)), some (.inl x1), some (.inl x2), some (.inl (x3 + 1)), some (.inl y4_151), some (.inl x5), some (.inl x6)]) rfl ?_
            refine v_goto C dX8_silence_153 (tgt := 25) (by decide) ?_
            refine v_weak [some (.inr (30, 0)), some (.inl x1), some (.inl x2), some (.inl (x3 + 1)), some (.inl y4_151), none, none] ⟨rfl, rfl, rfl, rfl, rfl, trivial⟩ ?_
            exact h
          · replace h := h.2 c135
            refine v_iload C dX8_silence_138 rfl ?_
            refine v_iload C dX8_silence_140 rfl ?_
            refine v_icmp C dX8_silence_142 (tgt := 149) (by decide) (P := x4 ≠ x5) rfl (fun c142 => ?_) (fun c142 => ?_)
            · replace h := h.1 c142
              refine v_iconst C dX8_silence_149 (by decide) ?_
              refine v_iadd C dX8_silence_150 h.1 ?_
              replace h := h.2
              refine v_nm (fun y4_151 ey4_151 => ?_)
              replace h := h y4_151 ey4_151
              refine v_istore C dX8_silence_151 (by decide) (Nat.le_of_ble_eq_true rfl) (lv' := [some (.inr (30, 0)), some (.inl x1), some (.inl x2), some (.inl (x3 + 1)), some (.inl y4_151), some (.inl x5), some (.inl x6)]) rfl ?_
              refine v_goto C dX8_silence_153 (tgt := 25) (by decide) ?_
              refine v_weak [some (.inr (30, 0)), some (.inl x1), some (.inl x2), some (.inl (x3 + 1)), some (.inl y4_151), none, none] ⟨rfl, rfl, rfl, rfl, rfl, trivial⟩ ?_
              exact h
            · replace h := h.2 c142
              refine v_iconst C dX8_silence_145 (by decide) ?_
              refine v_goto C dX8_silence_146 (tgt := 150) (by decide) ?_
              refine v_iadd C dX8_silence_150 h.1 ?_
              replace h := h.2
              refine v_nm (fun y4_151 ey4_151 => ?_)
              replace h := h y4_151 ey4_151
              refine v_istore C dX8_silence_151 (by decide) (Nat.le_of_ble_eq_true rfl) (lv' := [some (.inr (30, 0)), some (.inl x1), some (.inl x2), some (.inl (x3 + 1)), some (.inl y4_151), some (.inl x5), some (.inl x6)]) rfl ?_
              refine v_goto C dX8_silence_153 (tgt := 25) (by decide) ?_
              refine v_weak [some (.inr (30, 0)), some (.inl x1), some (.inl x2), some (.inl (x3 + 1)), some (.inl y4_151), none, none] ⟨rfl, rfl, rfl, rfl, rfl, trivial⟩ ?_
              exact h
        · replace h := h.2 c96
          refine v_iload_n C dX8_silence_99 rfl ?_
          refine v_if C dX8_silence_100 (tgt := 108) (by decide) (P := x2 ≠ 0) rfl (fun c100 => ?_) (fun c100 => ?_)
          · replace h := h.1 c100
            refine v_iload_n C dX8_silence_108 rfl ?_
            refine v_iconst C dX8_silence_109 (by decide) ?_
            refine v_icmp C dX8_silence_110 (tgt := 121) (by decide) (P := x2 ≠ 1) rfl (fun c110 => ?_) (fun c110 => ?_)
            · replace h := h.1 c110
              refine v_iload C dX8_silence_121 rfl ?_
              exact v_iret C dX8_silence_123 h
            · replace h := h.2 c110
              refine v_iload C dX8_silence_113 rfl ?_
              refine v_iload C dX8_silence_115 rfl ?_
              refine v_isub C dX8_silence_117 h.1 ?_
              replace h := h.2
              refine v_goto C dX8_silence_118 (tgt := 123) (by decide) ?_
              exact v_iret C dX8_silence_123 h
          · replace h := h.2 c100
            refine v_iload C dX8_silence_103 rfl ?_
            refine v_goto C dX8_silence_105 (tgt := 123) (by decide) ?_
            exact v_iret C dX8_silence_123 h
    · replace h := h.2 c59
      refine v_iload C dX8_silence_62 rfl ?_
      refine v_aload_n C dX8_silence_64 rfl ?_
      refine v_iload C dX8_silence_65 rfl ?_
      refine v_invV C ctX8_isTold dX8_silence_67 ivX8_170 ⟨by decide, by decide, rfl, rfl⟩ (x4 : Int) (As := [.inl x4]) rfl rfl rfl (by decide) rfl (st := [.inl x6]) rfl (Nat.le_of_ble_eq_true rfl) h (fun o M67 oM67 io67 g67 => ?_)
      replace h := rI_out g67
      clear g67
      obtain ⟨r67, rfl, h⟩ := h
      refine v_push ?_
      refine v_if C dX8_silence_70 (tgt := 77) (by decide) (P := r67 = 0) rfl (fun c70 => ?_) (fun c70 => ?_)
      · replace h := h.1 c70
        refine v_iconst C dX8_silence_77 (by decide) ?_
        refine v_iadd C dX8_silence_78 h.1 ?_
        replace h := h.2
        refine v_nm (fun y6_79 ey6_79 => ?_)
        replace h := h y6_79 ey6_79
        refine v_istore C dX8_silence_79 (by decide) (Nat.le_of_ble_eq_true rfl) (lv' := [some (.inr (30, 0)), some (.inl x1), some (.inl x2), some (.inl x3), some (.inl x4), some (.inl x5), some (.inl y6_79)]) rfl ?_
        refine v_iinc C dX8_silence_81 (by decide) rfl h.1 (lv' := [some (.inr (30, 0)), some (.inl x1), some (.inl x2), some (.inl x3), some (.inl (x4 + 1)), some (.inl x5), some (.inl y6_79)]) rfl ?_
        replace h := h.2
        refine v_goto C dX8_silence_84 (tgt := 41) (by decide) ?_
        refine v_weak [some (.inr (30, 0)), some (.inl x1), some (.inl x2), some (.inl x3), some (.inl (x4 + 1)), some (.inl x5), some (.inl y6_79)] ⟨rfl, rfl, rfl, rfl, rfl, rfl, rfl, trivial⟩ ?_
        exact h
      · replace h := h.2 c70
        refine v_iconst C dX8_silence_73 (by decide) ?_
        refine v_goto C dX8_silence_74 (tgt := 78) (by decide) ?_
        refine v_iadd C dX8_silence_78 h.1 ?_
        replace h := h.2
        refine v_nm (fun y6_79 ey6_79 => ?_)
        replace h := h y6_79 ey6_79
        refine v_istore C dX8_silence_79 (by decide) (Nat.le_of_ble_eq_true rfl) (lv' := [some (.inr (30, 0)), some (.inl x1), some (.inl x2), some (.inl x3), some (.inl x4), some (.inl x5), some (.inl y6_79)]) rfl ?_
        refine v_iinc C dX8_silence_81 (by decide) rfl h.1 (lv' := [some (.inr (30, 0)), some (.inl x1), some (.inl x2), some (.inl x3), some (.inl (x4 + 1)), some (.inl x5), some (.inl y6_79)]) rfl ?_
        replace h := h.2
        refine v_goto C dX8_silence_84 (tgt := 41) (by decide) ?_
        refine v_weak [some (.inr (30, 0)), some (.inl x1), some (.inl x2), some (.inl x3), some (.inl (x4 + 1)), some (.inl x5), some (.inl y6_79)] ⟨rfl, rfl, rfl, rfl, rfl, rfl, rfl, trivial⟩ ?_
        exact h
/-- a sum from a on -/
def sumI (f : Int → Int) (a : Int) : Nat → Int
  | 0 => 0
  | n + 1 => sumI f a n + f (a + n)
theorem sumI_add (f g : Int → Int) (a : Int) : ∀ n : Nat, sumI (fun t => f t + g t) a n = sumI f a n + sumI g a n := by
  intro n
  induction n with
  | zero => rfl
  | succ n ih =>
    show sumI _ a n + (f (a + n) + g (a + n)) = sumI f a n + f (a + n) + (sumI g a n + g (a + n))
    rw [ih]
    omega
theorem sumI_c {f g : Int → Int} {a : Int} : ∀ n : Nat, (∀ t, a ≤ t → t < a + n → f t = g t) → sumI f a n = sumI g a n := by
  intro n
  induction n with
  | zero => intro _; rfl
  | succ n ih =>
    intro h
    show sumI f a n + _ = sumI g a n + _
    rw [ih (fun t x y => h t x (by omega)), h (a + n) (by omega) (by omega)]
theorem sumI_0 (f : Int → Int) : ∀ n : Nat, sumI f 0 n = sumN f n := by
  intro n
  induction n with
  | zero => rfl
  | succ n ih =>
    show sumI f 0 n + f (0 + n) = sumN f n + f n
    rw [ih, Int.zero_add]
/-- how many of the ticks lie in a stretch -/
theorem sumI_in (x y a : Int) : ∀ n : Nat, sumI (fun t => if x ≤ t ∧ t < y then 1 else 0) a n = max 0 (min y (a + n) - max x a) := by
  intro n
  induction n with
  | zero => unfold sumI; omega
  | succ n ih =>
    show sumI _ a n + (if x ≤ a + (n : Int) ∧ a + (n : Int) < y then 1 else 0) = _
    rw [ih]
    split <;> omega
def tdI (F : Film) (ver sta : Int → Int) (a : Int) (n : Nat) : Int := sumI (fun t => if tlB F ver sta t (F 3 0 0).toNat then 1 else 0) a n
theorem tl_some {F : Film} {ver sta : Int → Int} {t : Int} : ∀ n : Nat, tlB F ver sta t n = true → ∃ q : Int, 0 ≤ q ∧ q < n ∧ ver q ≠ -4 ∧ sta q ≤ t ∧ t < sta q + F 13 q (ver q) := by
  intro n
  induction n with
  | zero => intro h; cases h
  | succ n ih =>
    intro h
    have e2 : tlB F ver sta t (n + 1) = (tlB F ver sta t n || decide (ver n ≠ -4 ∧ sta n ≤ t ∧ t < sta n + F 13 n (ver n))) := rfl
    rw [e2] at h
    cases hh : tlB F ver sta t n with
    | true =>
      obtain ⟨q, a, b, c⟩ := ih hh
      exact ⟨q, a, by omega, c⟩
    | false =>
      rw [hh] at h
      simp only [Bool.false_or, decide_eq_true_eq] at h
      exact ⟨n, by omega, by omega, h⟩
theorem told_sum {F : Film} {ver sta : Int → Int} (h : VP F ver sta) (a : Int) (n : Nat) : ∀ k : Nat, k ≤ 7 → sumI (fun t => if tlB F ver sta t k then 1 else 0) a n = tkN F ver sta a (a + n) k := by
  intro k
  induction k with
  | zero =>
    intro _
    show sumI _ a n = 0
    have : sumI (fun t => if tlB F ver sta t 0 then (1 : Int) else 0) a n = sumI (fun _ => 0) a n := rfl
    rw [this]
    clear this
    induction n with
    | zero => rfl
    | succ n ih => show sumI _ a n + 0 = 0; rw [ih]; rfl
  | succ k ih =>
    intro hk
    have e : tkN F ver sta a (a + n) (k + 1) = tkN F ver sta a (a + n) k + (if ver k = -4 then 0 else max 0 (min (sta k + F 13 k (ver k)) (a + n) - max (sta k) a)) := rfl
    rw [e, ← ih (by omega)]
    by_cases c : ver k = -4
    · rw [if_pos c, Int.add_zero]
      refine sumI_c n (fun t _ _ => ?_)
      have e2 : tlB F ver sta t (k + 1) = (tlB F ver sta t k || decide (ver k ≠ -4 ∧ sta k ≤ t ∧ t < sta k + F 13 k (ver k))) := rfl
      rw [e2]
      simp only [c, ne_eq, not_true, false_and, decide_false, Bool.or_false]
    · rw [if_neg c, ← sumI_in, ← sumI_add]
      refine sumI_c n (fun t _ _ => ?_)
      have e2 : tlB F ver sta t (k + 1) = (tlB F ver sta t k || decide (ver k ≠ -4 ∧ sta k ≤ t ∧ t < sta k + F 13 k (ver k))) := rfl
      rw [e2]
      by_cases d : sta k ≤ t ∧ t < sta k + F 13 k (ver k)
      · rw [if_pos d]
        have hno : tlB F ver sta t k = false := by
          refine bfl (fun z => ?_)
          obtain ⟨q, q0, q1, q2, q3⟩ := tl_some k z
          have := h.1 q k q0 (by omega) (by omega) (by omega) (by omega) q2 c
          omega
        rw [hno]
        simp [c, d]
      · rw [if_neg d]
        have : ¬ (ver k ≠ -4 ∧ sta k ≤ t ∧ t < sta k + F 13 k (ver k)) := fun z => d z.2
        rw [decide_eq_false this, Bool.or_false]
        omega
theorem told_tk {F : Film} {ver sta : Int → Int} (hf : WFf F) (h : VP F ver sta) (a b : Int) (hab : a ≤ b) : tdI F ver sta a (b - a).toNat = tkN F ver sta a b (F 3 0 0).toNat := by
  have n3 := hf.2.2.2.1
  have := told_sum h a (b - a).toNat (F 3 0 0).toNat (by omega)
  rw [show a + ((b - a).toNat : Int) = b by omega] at this
  exact this
theorem silF_skip {X : Int → Int} {i : Int} : ∀ (k n : Nat) (a o : Int), (∀ u, a ≤ u → u < a + k → silB X u = 0) → silF X i (k + n) a o = silF X i n (a + k) o := by
  intro k
  induction k with
  | zero => intro n a o _; simp
  | succ k ih =>
    intro n a o h
    rw [show k + 1 + n = (k + n) + 1 by omega]
    show (if silB X a = 0 then silF X i (k + n) (a + 1) o else _) = _
    rw [if_pos (h a (by omega) (by omega)), ih n (a + 1) o (fun u x y => h u (by omega) (by omega))]
    congr 1
    omega
theorem silE_at {X : Int → Int} : ∀ (k n : Nat) (a : Int), (∀ u, a ≤ u → u < a + k → bAnd (X u) 1 = 0) → (n = 0 ∨ bAnd (X (a + k)) 1 ≠ 0) → silE X (k + n) a = a + k := by
  intro k
  induction k with
  | zero =>
    intro n a _ h
    cases n with
    | zero => simp [silE]
    | succ n =>
      rcases h with h | h
      · omega
      · rw [show 0 + (n + 1) = n + 1 by omega]
        show (if bAnd (X a) 1 = 0 then _ else a) = _
        rw [show a + ((0 : Nat) : Int) = a by omega] at h
        rw [if_neg h]
        omega
  | succ k ih =>
    intro n a h h2
    rw [show k + 1 + n = (k + n) + 1 by omega]
    show (if bAnd (X a) 1 = 0 then silE X (k + n) (a + 1) else a) = _
    rw [if_pos (h a (by omega) (by omega)), ih n (a + 1) (fun u x y => h u (by omega) (by omega)) (by rw [show a + 1 + (k : Int) = a + ((k + 1 : Nat) : Int) by omega]; exact h2)]
    omega
theorem silN_s (X : Int → Int) {t : Int} (h : 0 ≤ t) : silN X (t + 1).toNat = silN X t.toNat + silB X t := sumN_s _ h
theorem silN_skip {X : Int → Int} : ∀ (k : Nat) (a : Int), 0 ≤ a → (∀ u, a ≤ u → u < a + k → silB X u = 0) → silN X (a + k).toNat = silN X a.toNat := by
  intro k
  induction k with
  | zero => intro a _ _; simp
  | succ k ih =>
    intro a h0 h
    rw [show a + ((k + 1 : Nat) : Int) = a + k + 1 by omega, silN_s X (by omega), ih a h0 (fun u x y => h u x (by omega)), h (a + k) (by omega) (by omega)]
    omega
theorem tdI_rng (F : Film) (ver sta : Int → Int) (a : Int) : ∀ n : Nat, 0 ≤ tdI F ver sta a n ∧ tdI F ver sta a n ≤ n := by
  intro n
  unfold tdI
  induction n with
  | zero => unfold sumI; omega
  | succ n ih =>
    show 0 ≤ sumI _ a n + _ ∧ sumI _ a n + _ ≤ _
    dsimp only
    split <;> omega
abbrev spX8_silence (i w : Int) (M : Mem) (K : Kont) : Prop := (InvM M ∧ VP (mFilm M) (M 45 0) (M 46 0)) ∧ ∀ M', InvM M' → ChM M M' (mFilm M) (M 45 0) (M 46 0) → K (some (silA (mFilm M) (M 45 0) (M 46 0) i w)) M'
theorem ctX8_silence : CtX8_silence spX8_silence := by
  refine ct_of (by decide) dmM (fun _ => Nat.le_of_ble_eq_true rfl) ?_
  intro κ a M K C oM h
  obtain ⟨i, w⟩ := a
  obtain ⟨⟨hI, hVP⟩, hk⟩ := h
  have hk : ∀ M', InvM M' → ChM M M' (mFilm M) (M 45 0) (M 46 0) → K (some (silA (mFilm M) (M 45 0) (M 46 0) i w)) M' := hk
  have hf0 := hI.2.1
  unfold silA at hk
  have bad : (i < -1 ∨ w < 0 ∨ 2 < w) → K (some (-1)) M := fun z => by
    have := hk M hI AgS.rf.ch
    rw [if_pos z] at this; exact this
  refine sgX8_silence_0 C i w ⟨fun c => bad (by omega), fun c => ⟨fun c2 => ?_, fun c2 => bad ?_⟩⟩
  · have c3 := if10 c2
    refine ⟨hf0, fun N hA hH => ?_⟩
    have hf := hA.s.film
    have hI2 := hA.s.inv hI
    have r45 := hA.s.row 0 (r := 45) (by omega)
    have r46 := hA.s.row 0 (r := 46) (by omega)
    have k1 := hk N hI2 hA.s.ch
    rw [if_neg (by omega), ← hf, ← r45, ← r46] at k1
    rw [← hf, ← r45, ← r46] at hVP
    rw [← hf] at hH
    have hfN := hI2.2.1
    have hP := hI2.2.2
    have hT : 0 ≤ mFilm N 0 0 0 ∧ mFilm N 0 0 0 ≤ 100 := hfN.1
    have eT : mFilm N 0 0 0 = N 30 0 2 := rfl
    clear hk bad
    generalize hXe : mkF (mFilm N) = X at k1
    have hX : ∀ t, 0 ≤ t → t < 100 → N 52 0 t = X t := fun t a b => by rw [← hXe]; exact hH t a b
    -- the head of the outer loop
    have head : ∀ (k : Nat) (many t : Int), 0 ≤ t → t ≤ mFilm N 0 0 0 → (mFilm N 0 0 0 - t).toNat ≤ k → many = silN X t.toNat → silF X i (mFilm N 0 0 0).toNat 0 0 = silF X i (mFilm N 0 0 0 - t).toNat t many → (t = mFilm N 0 0 0 ∨ (t = 0 ∨ bAnd (X (t - 1)) 1 ≠ 0) ∨ bAnd (X t) 1 ≠ 0) →
        V κ 7 N 25 [some (.inr (30, 0)), some (.inl i), some (.inl w), some (.inl many), some (.inl t), none, none] [] K := by
      intro k
      induction k with
      | zero =>
        intro many t t0 t1 hk' hm hs hb
        have e : t = mFilm N 0 0 0 := by omega
        refine sgX8_silence_25 C i w many t ⟨fun _ => ⟨fun d => ?_, fun d => ?_⟩, fun z => absurd (by omega) z⟩
        · rw [if_neg (by omega), if_pos (by rw [hs, e, show (mFilm N 0 0 0 - mFilm N 0 0 0).toNat = 0 by omega]; rfl)] at k1; exact k1
        · rw [if_pos (by omega), ← e, ← hm] at k1; exact k1
      | succ k ih =>
        intro many t t0 t1 hk' hm hs hb
        have mr := silN_rng X t.toNat
        refine sgX8_silence_25 C i w many t ⟨fun z => ⟨fun d => ?_, fun d => ?_⟩, fun z => ?_⟩
        · have e : t = mFilm N 0 0 0 := by omega
          rw [if_neg (by omega), if_pos (by rw [hs, e, show (mFilm N 0 0 0 - mFilm N 0 0 0).toNat = 0 by omega]; rfl)] at k1; exact k1
        · have e : t = mFilm N 0 0 0 := by omega
          rw [if_pos (by omega), ← e, ← hm] at k1; exact k1
        · have inner : ∀ (m : Nat) (u inn : Int), t ≤ u → u + m = mFilm N 0 0 0 → (∀ s, t ≤ s → s < u → bAnd (X s) 1 = 0) → inn = tdI (mFilm N) (N 45 0) (N 46 0) t (u - t).toNat →
              V κ 7 N 41 [some (.inr (30, 0)), some (.inl i), some (.inl w), some (.inl many), some (.inl u), some (.inl t), some (.inl inn)] [] K := by
            intro m
            -- the inner loop has ended at u
            have fin : ∀ (u inn : Int), t ≤ u → u ≤ mFilm N 0 0 0 → (∀ s, t ≤ s → s < u → bAnd (X s) 1 = 0) → inn = tdI (mFilm N) (N 45 0) (N 46 0) t (u - t).toNat → (u = mFilm N 0 0 0 ∨ bAnd (X u) 1 ≠ 0) →
                ((u ≤ t → ((N 30 0 2 ≤ u → inR (u + 0) ∧ ∀ y : Int, y = u + 0 → V κ 7 N 25 [some (.inr (30, 0)), some (.inl i), some (.inl w), some (.inl many), some (.inl y), none, none] [] K) ∧
                  (¬ (N 30 0 2 ≤ u) → ((u ≠ t → inR (u + 0) ∧ ∀ y : Int, y = u + 0 → V κ 7 N 25 [some (.inr (30, 0)), some (.inl i), some (.inl w), some (.inl many), some (.inl y), none, none] [] K) ∧
                    (¬ (u ≠ t) → inR (u + 1) ∧ ∀ y : Int, y = u + 1 → V κ 7 N 25 [some (.inr (30, 0)), some (.inl i), some (.inl w), some (.inl many), some (.inl y), none, none] [] K))))) ∧
                 (¬ (u ≤ t) → ((many ≠ i → inR (many + 1) ∧ ((N 30 0 2 ≤ u → inR (u + 0) ∧ ∀ y : Int, y = u + 0 → V κ 7 N 25 [some (.inr (30, 0)), some (.inl i), some (.inl w), some (.inl (many + 1)), some (.inl y), none, none] [] K) ∧
                  (¬ (N 30 0 2 ≤ u) → ((u ≠ t → inR (u + 0) ∧ ∀ y : Int, y = u + 0 → V κ 7 N 25 [some (.inr (30, 0)), some (.inl i), some (.inl w), some (.inl (many + 1)), some (.inl y), none, none] [] K) ∧
                    (¬ (u ≠ t) → inR (u + 1) ∧ ∀ y : Int, y = u + 1 → V κ 7 N 25 [some (.inr (30, 0)), some (.inl i), some (.inl w), some (.inl (many + 1)), some (.inl y), none, none] [] K))))) ∧
                  (¬ (many ≠ i) → ((w ≠ 0 → ((w ≠ 1 → K (some inn) N) ∧ (¬ (w ≠ 1) → inR (u - t) ∧ K (some (u - t)) N))) ∧ (¬ (w ≠ 0) → K (some t) N)))))) := by
              intro u inn u0 u1 hsil hin hend
              have tlt : t < mFilm N 0 0 0 := by omega
              refine ⟨fun d => ?_, fun d => ?_⟩
              · have eu : u = t := by omega
                have sp : bAnd (X t) 1 ≠ 0 := by
                  rcases hend with z' | z'
                  · omega
                  · rw [← eu]; exact z'
                have sb : silB X t = 0 := if_neg (fun q => sp q.1)
                refine ⟨fun d2 => absurd d2 (by omega), fun _ => ⟨fun d2 => absurd eu d2, fun _ => ⟨by omega, fun y ey => ?_⟩⟩⟩
                rw [ey, eu]
                refine ih many (t + 1) (by omega) (by omega) (by omega) ?_ ?_ (Or.inr (Or.inl (Or.inr (by rw [show t + 1 - 1 = t by omega]; exact sp))))
                · rw [silN_s X t0, sb]; omega
                · rw [hs]
                  have := silF_skip (X := X) (i := i) 1 (mFilm N 0 0 0 - (t + 1)).toNat t many (fun u a b => by rw [show u = t by omega]; exact sb)
                  rw [show 1 + (mFilm N 0 0 0 - (t + 1)).toNat = (mFilm N 0 0 0 - t).toNat by omega] at this
                  exact this
              · have s0 : bAnd (X t) 1 = 0 := hsil t (by omega) (by omega)
                have sb : silB X t = 1 := by
                  refine if_pos ⟨s0, ?_⟩
                  rcases hb with z' | z' | z'
                  · omega
                  · exact z'
                  · exact absurd s0 z'
                refine ⟨fun d2 => ?_, fun d2 => ?_⟩
                · -- one silence more
                  have go : V κ 7 N 25 [some (.inr (30, 0)), some (.inl i), some (.inl w), some (.inl (many + 1)), some (.inl u), none, none] [] K := by
                    have sz : ∀ s, t + 1 ≤ s → s < t + 1 + (u - (t + 1)).toNat → silB X s = 0 := by
                      intro s a b
                      refine if_neg (fun q => ?_)
                      rcases q.2 with z' | z'
                      · omega
                      · exact z' (hsil (s - 1) (by omega) (by omega))
                    refine ih (many + 1) u (by omega) u1 (by omega) ?_ ?_ ?_
                    · have := silN_skip (X := X) (u - (t + 1)).toNat (t + 1) (by omega) sz
                      rw [show t + 1 + ((u - (t + 1)).toNat : Int) = u by omega, silN_s X t0, sb] at this
                      omega
                    · rw [hs]
                      have := silF_skip (X := X) (i := i) (u - (t + 1)).toNat (mFilm N 0 0 0 - u).toNat (t + 1) (many + 1) sz
                      rw [show t + 1 + ((u - (t + 1)).toNat : Int) = u by omega] at this
                      rw [← this, show (mFilm N 0 0 0 - t).toNat = ((u - (t + 1)).toNat + (mFilm N 0 0 0 - u).toNat) + 1 by omega]
                      show (if silB X t = 0 then _ else if many = i then t else silF X i ((u - (t + 1)).toNat + (mFilm N 0 0 0 - u).toNat) (t + 1) (many + 1)) = _
                      rw [sb, if_neg (by decide), if_neg d2]
                    · rcases hend with z' | z'
                      · exact Or.inl z'
                      · exact Or.inr (Or.inr z')
                  refine ⟨by omega, fun _ => ⟨by omega, fun y ey => ?_⟩, fun _ => ⟨fun _ => ⟨by omega, fun y ey => ?_⟩, fun d3 => absurd (by omega) d3⟩⟩
                  · rw [ey, Int.add_zero]; exact go
                  · rw [ey, Int.add_zero]; exact go
                · -- this one is asked for
                  have ei : many = i := by omega
                  have fe : silF X i (mFilm N 0 0 0).toNat 0 0 = t := by
                    rw [hs, show (mFilm N 0 0 0 - t).toNat = (mFilm N 0 0 0 - t - 1).toNat + 1 by omega]
                    show (if silB X t = 0 then _ else if many = i then t else _) = t
                    rw [sb, if_neg (by decide), if_pos ei]
                  have ee : silE X (mFilm N 0 0 0 - t).toNat t = u := by
                    have := silE_at (X := X) (u - t).toNat (mFilm N 0 0 0 - u).toNat t (fun s a b => hsil s a (by omega)) (by
                      rcases hend with z' | z'
                      · exact Or.inl (by omega)
                      · right; rw [show t + ((u - t).toNat : Int) = u by omega]; exact z')
                    rw [show (u - t).toNat + (mFilm N 0 0 0 - u).toNat = (mFilm N 0 0 0 - t).toNat by omega, show t + ((u - t).toNat : Int) = u by omega] at this
                    exact this
                  rw [if_neg (by omega), fe, if_neg (by omega), ee] at k1
                  refine ⟨fun d3 => ⟨fun d4 => ?_, fun d4 => ⟨by omega, ?_⟩⟩, fun d3 => ?_⟩
                  · rw [if_neg d3, if_neg d4, ← told_tk hfN hVP t u u0, ← hin] at k1; exact k1
                  · rw [if_neg d3, if_pos (by omega)] at k1; exact k1
                  · rw [if_pos (by omega)] at k1; exact k1
            induction m with
            | zero =>
              intro u inn u0 hn hsil hin
              exact sgX8_silence_41 C i w many u t inn ⟨fun _ => fin u inn u0 (by omega) hsil hin (Or.inl (by omega)), fun d => absurd (by omega) d⟩
            | succ m ihm =>
              intro u inn u0 hn hsil hin
              have tr := tdI_rng (mFilm N) (N 45 0) (N 46 0) t (u - t).toNat
              have ts : tdI (mFilm N) (N 45 0) (N 46 0) t (u + 1 - t).toNat = tdI (mFilm N) (N 45 0) (N 46 0) t (u - t).toNat + (if tlB (mFilm N) (N 45 0) (N 46 0) u (mFilm N 3 0 0).toNat then 1 else 0) := by
                rw [show (u + 1 - t).toNat = (u - t).toNat + 1 by omega]
                show sumI _ t (u - t).toNat + (if tlB (mFilm N) (N 45 0) (N 46 0) (t + ((u - t).toNat : Int)) (mFilm N 3 0 0).toNat then 1 else 0) = _
                rw [show t + ((u - t).toNat : Int) = u by omega]
                rfl
              refine sgX8_silence_41 C i w many u t inn ⟨fun d => absurd d (by omega), fun _ => ⟨by omega, fun d => ?_, fun d => ⟨⟨hfN, hP⟩, fun d2 => ⟨by omega, fun y ey => ⟨by omega, ?_⟩⟩, fun d2 => ⟨by omega, fun y ey => ⟨by omega, ?_⟩⟩⟩⟩⟩
              · rw [hX u (by omega) (by omega)] at d
                exact fin u inn u0 (by omega) hsil hin (Or.inr d)
              · rw [hX u (by omega) (by omega)] at d
                refine ihm (u + 1) y (by omega) (by omega) (fun s a b => ?_) (by rw [ts, d2]; omega)
                by_cases e : s = u
                · rw [e]; exact Classical.byContradiction d
                · exact hsil s a (by omega)
              · rw [hX u (by omega) (by omega)] at d
                refine ihm (u + 1) y (by omega) (by omega) (fun s a b => ?_) (by rw [ts, if_pos (if10 d2)]; omega)
                by_cases e : s = u
                · rw [e]; exact Classical.byContradiction d
                · exact hsil s a (by omega)
          refine inner (mFilm N 0 0 0 - t).toNat t 0 (by omega) (by omega) (fun s a b => by omega) ?_
          rw [show (t - t).toNat = 0 by omega]
          rfl
    exact head (mFilm N 0 0 0).toNat 0 0 (by omega) (by omega) (by omega) rfl (by rw [Int.sub_zero]) (Or.inr (Or.inl (Or.inl rfl)))
  · have c3 := if10n (show (if 0 ≤ w ∧ w ≤ 2 then (1 : Int) else 0) = 0 by omega)
    omega
