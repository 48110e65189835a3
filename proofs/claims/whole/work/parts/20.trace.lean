/-! ===== BestFinder.putFirst, trace ===== -/
/-! ===== GapTellings$BestFinder.putFirst ===== -/
abbrev rmX0_putFirst : Room := { frames := 2, cells := 0, slots := 0, locals := 48 }
abbrev argX0_putFirst (a : Int × Int × Int × Int × Int) : List PV := [.inr (21, 0), .inr (14, a.1), .inl a.2.1, .inr (18, a.2.2.1), .inl a.2.2.2.1, .inl a.2.2.2.2]
abbrev CtX0_putFirst (sp : Int → Int → Int → Int → Int → Mem → Kont → Prop) : Prop := Ct yX0_putFirst cX0_putFirst 12 (some .int) rmX0_putFirst domC argX0_putFirst (fun a => sp a.1 a.2.1 a.2.2.1 a.2.2.2.1 a.2.2.2.2)
theorem dX0_putFirst_0 : decode cX0_putFirst 0 = .ok (.iconst 1, 1) := by decide +kernel
theorem dX0_putFirst_1 : decode cX0_putFirst 1 = .ok (.aload_n 0, 1) := by decide +kernel
theorem dX0_putFirst_2 : decode cX0_putFirst 2 = .ok (.getfield 15, 3) := by decide +kernel
theorem dX0_putFirst_5 : decode cX0_putFirst 5 = .ok (.getfield 19, 3) := by decide +kernel
theorem dX0_putFirst_8 : decode cX0_putFirst 8 = .ok (.ishl, 1) := by decide +kernel
theorem dX0_putFirst_9 : decode cX0_putFirst 9 = .ok (.istore 6, 2) := by decide +kernel
theorem dX0_putFirst_11 : decode cX0_putFirst 11 = .ok (.aload_n 0, 1) := by decide +kernel
theorem dX0_putFirst_12 : decode cX0_putFirst 12 = .ok (.getfield 9, 3) := by decide +kernel
theorem dX0_putFirst_15 : decode cX0_putFirst 15 = .ok (.iload 5, 2) := by decide +kernel
theorem dX0_putFirst_17 : decode cX0_putFirst 17 = .ok (.iload 6, 2) := by decide +kernel
theorem dX0_putFirst_19 : decode cX0_putFirst 19 = .ok (.imul, 1) := by decide +kernel
theorem dX0_putFirst_20 : decode cX0_putFirst 20 = .ok (.iload 4, 2) := by decide +kernel
theorem dX0_putFirst_22 : decode cX0_putFirst 22 = .ok (.iadd, 1) := by decide +kernel
theorem dX0_putFirst_23 : decode cX0_putFirst 23 = .ok (.iaload, 1) := by decide +kernel
theorem dX0_putFirst_24 : decode cX0_putFirst 24 = .ok (.istore 7, 2) := by decide +kernel
theorem dX0_putFirst_26 : decode cX0_putFirst 26 = .ok (.iconst 0, 1) := by decide +kernel
theorem dX0_putFirst_27 : decode cX0_putFirst 27 = .ok (.istore 8, 2) := by decide +kernel
theorem dX0_putFirst_29 : decode cX0_putFirst 29 = .ok (.iload 8, 2) := by decide +kernel
theorem dX0_putFirst_31 : decode cX0_putFirst 31 = .ok (.aload_n 0, 1) := by decide +kernel
theorem dX0_putFirst_32 : decode cX0_putFirst 32 = .ok (.getfield 15, 3) := by decide +kernel
theorem dX0_putFirst_35 : decode cX0_putFirst 35 = .ok (.getfield 19, 3) := by decide +kernel
theorem dX0_putFirst_38 : decode cX0_putFirst 38 = .ok (.if_icmp .ge 133, 3) := by decide +kernel
theorem dX0_putFirst_41 : decode cX0_putFirst 41 = .ok (.iconst 1, 1) := by decide +kernel
theorem dX0_putFirst_42 : decode cX0_putFirst 42 = .ok (.iload 8, 2) := by decide +kernel
theorem dX0_putFirst_44 : decode cX0_putFirst 44 = .ok (.ishl, 1) := by decide +kernel
theorem dX0_putFirst_45 : decode cX0_putFirst 45 = .ok (.istore 9, 2) := by decide +kernel
theorem dX0_putFirst_47 : decode cX0_putFirst 47 = .ok (.aload_n 0, 1) := by decide +kernel
theorem dX0_putFirst_48 : decode cX0_putFirst 48 = .ok (.iload 8, 2) := by decide +kernel
theorem dX0_putFirst_50 : decode cX0_putFirst 50 = .ok (.invokevirtual 48, 3) := by decide +kernel
theorem dX0_putFirst_53 : decode cX0_putFirst 53 = .ok (.istore 10, 2) := by decide +kernel
theorem dX0_putFirst_55 : decode cX0_putFirst 55 = .ok (.iload 4, 2) := by decide +kernel
theorem dX0_putFirst_57 : decode cX0_putFirst 57 = .ok (.iload 9, 2) := by decide +kernel
theorem dX0_putFirst_59 : decode cX0_putFirst 59 = .ok (.iload 10, 2) := by decide +kernel
theorem dX0_putFirst_61 : decode cX0_putFirst 61 = .ok (.ior, 1) := by decide +kernel
theorem dX0_putFirst_62 : decode cX0_putFirst 62 = .ok (.iand, 1) := by decide +kernel
theorem dX0_putFirst_63 : decode cX0_putFirst 63 = .ok (.iload 10, 2) := by decide +kernel
theorem dX0_putFirst_65 : decode cX0_putFirst 65 = .ok (.if_icmp .eq 6, 3) := by decide +kernel
theorem dX0_putFirst_68 : decode cX0_putFirst 68 = .ok (.goto 97, 3) := by decide +kernel
theorem dX0_putFirst_71 : decode cX0_putFirst 71 = .ok (.iconst 0, 1) := by decide +kernel
theorem dX0_putFirst_72 : decode cX0_putFirst 72 = .ok (.istore 11, 2) := by decide +kernel
theorem dX0_putFirst_74 : decode cX0_putFirst 74 = .ok (.iload 11, 2) := by decide +kernel
theorem dX0_putFirst_76 : decode cX0_putFirst 76 = .ok (.aload_n 0, 1) := by decide +kernel
theorem dX0_putFirst_77 : decode cX0_putFirst 77 = .ok (.getfield 15, 3) := by decide +kernel
theorem dX0_putFirst_80 : decode cX0_putFirst 80 = .ok (.getfield 38, 3) := by decide +kernel
theorem dX0_putFirst_83 : decode cX0_putFirst 83 = .ok (.iload 8, 2) := by decide +kernel
theorem dX0_putFirst_85 : decode cX0_putFirst 85 = .ok (.aaload, 1) := by decide +kernel
theorem dX0_putFirst_86 : decode cX0_putFirst 86 = .ok (.getfield 62, 3) := by decide +kernel
theorem dX0_putFirst_89 : decode cX0_putFirst 89 = .ok (.if_icmp .ge 76, 3) := by decide +kernel
theorem dX0_putFirst_92 : decode cX0_putFirst 92 = .ok (.aload_n 1, 1) := by decide +kernel
theorem dX0_putFirst_93 : decode cX0_putFirst 93 = .ok (.iload 8, 2) := by decide +kernel
theorem dX0_putFirst_95 : decode cX0_putFirst 95 = .ok (.iload 11, 2) := by decide +kernel
theorem dX0_putFirst_97 : decode cX0_putFirst 97 = .ok (.iload 5, 2) := by decide +kernel
theorem dX0_putFirst_99 : decode cX0_putFirst 99 = .ok (.invokevirtual 65, 3) := by decide +kernel
theorem dX0_putFirst_102 : decode cX0_putFirst 102 = .ok (.ifCond .ne 57, 3) := by decide +kernel
theorem dX0_putFirst_105 : decode cX0_putFirst 105 = .ok (.aload_n 1, 1) := by decide +kernel
theorem dX0_putFirst_106 : decode cX0_putFirst 106 = .ok (.iload 8, 2) := by decide +kernel
theorem dX0_putFirst_108 : decode cX0_putFirst 108 = .ok (.iload 11, 2) := by decide +kernel
theorem dX0_putFirst_110 : decode cX0_putFirst 110 = .ok (.iload 5, 2) := by decide +kernel
theorem dX0_putFirst_112 : decode cX0_putFirst 112 = .ok (.invokevirtual 75, 3) := by decide +kernel
theorem dX0_putFirst_115 : decode cX0_putFirst 115 = .ok (.aload_n 0, 1) := by decide +kernel
theorem dX0_putFirst_116 : decode cX0_putFirst 116 = .ok (.getfield 9, 3) := by decide +kernel
theorem dX0_putFirst_119 : decode cX0_putFirst 119 = .ok (.aload_n 0, 1) := by decide +kernel
theorem dX0_putFirst_120 : decode cX0_putFirst 120 = .ok (.iload 8, 2) := by decide +kernel
theorem dX0_putFirst_122 : decode cX0_putFirst 122 = .ok (.iload 11, 2) := by decide +kernel
theorem dX0_putFirst_124 : decode cX0_putFirst 124 = .ok (.iload 5, 2) := by decide +kernel
theorem dX0_putFirst_126 : decode cX0_putFirst 126 = .ok (.iload_n 2, 1) := by decide +kernel
theorem dX0_putFirst_127 : decode cX0_putFirst 127 = .ok (.invokevirtual 71, 3) := by decide +kernel
theorem dX0_putFirst_130 : decode cX0_putFirst 130 = .ok (.iload 6, 2) := by decide +kernel
theorem dX0_putFirst_132 : decode cX0_putFirst 132 = .ok (.imul, 1) := by decide +kernel
theorem dX0_putFirst_133 : decode cX0_putFirst 133 = .ok (.iload 4, 2) := by decide +kernel
theorem dX0_putFirst_135 : decode cX0_putFirst 135 = .ok (.iadd, 1) := by decide +kernel
theorem dX0_putFirst_136 : decode cX0_putFirst 136 = .ok (.iload 9, 2) := by decide +kernel
theorem dX0_putFirst_138 : decode cX0_putFirst 138 = .ok (.iadd, 1) := by decide +kernel
theorem dX0_putFirst_139 : decode cX0_putFirst 139 = .ok (.iaload, 1) := by decide +kernel
theorem dX0_putFirst_140 : decode cX0_putFirst 140 = .ok (.iadd, 1) := by decide +kernel
theorem dX0_putFirst_141 : decode cX0_putFirst 141 = .ok (.iload 7, 2) := by decide +kernel
theorem dX0_putFirst_143 : decode cX0_putFirst 143 = .ok (.if_icmp .ne 16, 3) := by decide +kernel
theorem dX0_putFirst_146 : decode cX0_putFirst 146 = .ok (.aload_n 3, 1) := by decide +kernel
theorem dX0_putFirst_147 : decode cX0_putFirst 147 = .ok (.iload 8, 2) := by decide +kernel
theorem dX0_putFirst_149 : decode cX0_putFirst 149 = .ok (.iload 11, 2) := by decide +kernel
theorem dX0_putFirst_151 : decode cX0_putFirst 151 = .ok (.iload 5, 2) := by decide +kernel
theorem dX0_putFirst_153 : decode cX0_putFirst 153 = .ok (.invokevirtual 110, 3) := by decide +kernel
theorem dX0_putFirst_156 : decode cX0_putFirst 156 = .ok (.iload 8, 2) := by decide +kernel
theorem dX0_putFirst_158 : decode cX0_putFirst 158 = .ok (.ireturn, 1) := by decide +kernel
theorem dX0_putFirst_159 : decode cX0_putFirst 159 = .ok (.iinc 11 1, 3) := by decide +kernel
theorem dX0_putFirst_162 : decode cX0_putFirst 162 = .ok (.goto (-88), 3) := by decide +kernel
theorem dX0_putFirst_165 : decode cX0_putFirst 165 = .ok (.iinc 8 1, 3) := by decide +kernel
theorem dX0_putFirst_168 : decode cX0_putFirst 168 = .ok (.goto (-139), 3) := by decide +kernel
theorem dX0_putFirst_171 : decode cX0_putFirst 171 = .ok (.bipush (-4), 2) := by decide +kernel
theorem dX0_putFirst_173 : decode cX0_putFirst 173 = .ok (.ireturn, 1) := by decide +kernel
theorem ivX0_110 : IV RX0 110 yX4_put cX4_put 4 none 3 := ⟨(tb_mem (t_in3 (List.mem_of_getElem? (i := 210) (by decide +kernel))) (by decide +kernel)), (tb_mem (t_in3 (List.mem_of_getElem? (i := 116) (by decide +kernel))) (by decide +kernel)), (tb_mem (t_in3 (List.mem_of_getElem? (i := 117) (by decide +kernel))) (by decide +kernel)), (tb_mem (t_in1 (List.mem_of_getElem? (i := 6) (by decide +kernel))) (by decide +kernel)), (tb_mem (t_in3 (List.mem_of_getElem? (i := 118) (by decide +kernel))) (by decide +kernel)), ⟨by decide +kernel, by decide +kernel, by decide +kernel⟩⟩
set_option maxHeartbeats 4000000 in
set_option maxRecDepth 20000 in
theorem sgX0_putFirst_0 {κ : Kx} {K : Kont} {M : Mem} (C : Cx κ RX0 cX0_putFirst 12 (some .int) rmX0_putFirst domC) (i1 : Int) (x2 : Int) (i3 : Int) (x4 : Int) (x5 : Int)
    (h :
    ∀ y6_9 : Int, y6_9 = bShl 1 (M 5 1 7) →
    inR (x5 * y6_9) ∧
    inR ((x5 * y6_9) + x4) ∧
    (0 ≤ ((x5 * y6_9) + x4) ∧ ((x5 * y6_9) + x4) < 12928) ∧
    ∀ y7_24 : Int, y7_24 = M 22 0 ((x5 * y6_9) + x4) →
    V κ 12 M 29 [some (.inr (21, 0)), some (.inr (14, i1)), some (.inl x2), some (.inr (18, i3)), some (.inl x4), some (.inl x5), some (.inl y6_9), some (.inl y7_24), some (.inl 0), none, none, none] [] K) : V κ 12 M 0 [some (.inr (21, 0)), some (.inr (14, i1)), some (.inl x2), some (.inr (18, i3)), some (.inl x4), some (.inl x5), none, none, none, none, none, none] [] K := by
  refine v_iconst C dX0_putFirst_0 (by decide) ?_
  refine v_aload_n C dX0_putFirst_1 rfl ?_
  refine v_get C dX0_putFirst_2 flX0_15 rfl (by decide) (by decide) (w := .inr (5, 1)) rfl ?_
  refine v_get C dX0_putFirst_5 flX0_19 rfl (by decide) (by decide) (w := .inl (M 5 1 7)) rfl ?_
  refine v_ishl C dX0_putFirst_8 ?_
  refine v_nm (fun y6_9 ey6_9 => ?_)
  replace h := h y6_9 ey6_9
  refine v_istore C dX0_putFirst_9 (by decide) (Nat.le_of_ble_eq_true rfl) (lv' := [some (.inr (21, 0)), some (.inr (14, i1)), some (.inl x2), some (.inr (18, i3)), some (.inl x4), some (.inl x5), some (.inl y6_9), none, none, none, none, none]) rfl ?_
  refine v_aload_n C dX0_putFirst_11 rfl ?_
  refine v_get C dX0_putFirst_12 flX0_9 rfl (by decide) (by decide) (w := .inr (22, 0)) rfl ?_
  refine v_iload C dX0_putFirst_15 rfl ?_
  refine v_iload C dX0_putFirst_17 rfl ?_
  refine v_imul C dX0_putFirst_19 h.1 ?_
  replace h := h.2
  refine v_iload C dX0_putFirst_20 rfl ?_
  refine v_iadd C dX0_putFirst_22 h.1 ?_
  replace h := h.2
  refine v_iald C dX0_putFirst_23 rfl h.1.1 h.1.2 ?_
  replace h := h.2
  refine v_nm (fun y7_24 ey7_24 => ?_)
  replace h := h y7_24 ey7_24
  refine v_istore C dX0_putFirst_24 (by decide) (Nat.le_of_ble_eq_true rfl) (lv' := [some (.inr (21, 0)), some (.inr (14, i1)), some (.inl x2), some (.inr (18, i3)), some (.inl x4), some (.inl x5), some (.inl y6_9), some (.inl y7_24), none, none, none, none]) rfl ?_
  refine v_iconst C dX0_putFirst_26 (by decide) ?_
  refine v_istore C dX0_putFirst_27 (by decide) (Nat.le_of_ble_eq_true rfl) (lv' := [some (.inr (21, 0)), some (.inr (14, i1)), some (.inl x2), some (.inr (18, i3)), some (.inl x4), some (.inl x5), some (.inl y6_9), some (.inl y7_24), some (.inl 0), none, none, none]) rfl ?_
  refine v_weak [some (.inr (21, 0)), some (.inr (14, i1)), some (.inl x2), some (.inr (18, i3)), some (.inl x4), some (.inl x5), some (.inl y6_9), some (.inl y7_24), some (.inl 0), none, none, none] ⟨rfl, rfl, rfl, rfl, rfl, rfl, rfl, rfl, rfl, trivial⟩ ?_
  exact h
set_option maxHeartbeats 4000000 in
set_option maxRecDepth 20000 in
theorem sgX0_putFirst_29 {κ : Kx} {K : Kont} {M : Mem} (C : Cx κ RX0 cX0_putFirst 12 (some .int) rmX0_putFirst domC) (i1 : Int) (x2 : Int) (i3 : Int) (x4 : Int) (x5 : Int) (x6 : Int) (x7 : Int) (x8 : Int)
    (h :
    (((M 5 1 7) ≤ x8 →
      K (some (-4)) M) ∧
     (¬ ((M 5 1 7) ≤ x8) →
      ∀ y9_45 : Int, y9_45 = bShl 1 x8 →
      spX0_neededSet x8 M (rI (fun r50 M50 =>
      (((bAnd x4 (bOr y9_45 r50)) = r50 →
        V κ 12 M50 74 [some (.inr (21, 0)), some (.inr (14, i1)), some (.inl x2), some (.inr (18, i3)), some (.inl x4), some (.inl x5), some (.inl x6), some (.inl x7), some (.inl x8), some (.inl y9_45), none, some (.inl 0)] [] K) ∧
       (¬ ((bAnd x4 (bOr y9_45 r50)) = r50) →
        inR (x8 + 1) ∧
        V κ 12 M50 29 [some (.inr (21, 0)), some (.inr (14, i1)), some (.inl x2), some (.inr (18, i3)), some (.inl x4), some (.inl x5), some (.inl x6), some (.inl x7), some (.inl (x8 + 1)), none, none, none] [] K))))))) : V κ 12 M 29 [some (.inr (21, 0)), some (.inr (14, i1)), some (.inl x2), some (.inr (18, i3)), some (.inl x4), some (.inl x5), some (.inl x6), some (.inl x7), some (.inl x8), none, none, none] [] K := by
  refine v_iload C dX0_putFirst_29 rfl ?_
  refine v_aload_n C dX0_putFirst_31 rfl ?_
  refine v_get C dX0_putFirst_32 flX0_15 rfl (by decide) (by decide) (w := .inr (5, 1)) rfl ?_
  refine v_get C dX0_putFirst_35 flX0_19 rfl (by decide) (by decide) (w := .inl (M 5 1 7)) rfl ?_
  refine v_icmp C dX0_putFirst_38 (tgt := 171) (by decide) (P := (M 5 1 7) ≤ x8) rfl (fun c38 => ?_) (fun c38 => ?_)
  · replace h := h.1 c38
    refine v_bipush C dX0_putFirst_171 (by decide) (by decide) ?_
    exact v_iret C dX0_putFirst_173 h
  · replace h := h.2 c38
    refine v_iconst C dX0_putFirst_41 (by decide) ?_
    refine v_iload C dX0_putFirst_42 rfl ?_
    refine v_ishl C dX0_putFirst_44 ?_
    refine v_nm (fun y9_45 ey9_45 => ?_)
    replace h := h y9_45 ey9_45
    refine v_istore C dX0_putFirst_45 (by decide) (Nat.le_of_ble_eq_true rfl) (lv' := [some (.inr (21, 0)), some (.inr (14, i1)), some (.inl x2), some (.inr (18, i3)), some (.inl x4), some (.inl x5), some (.inl x6), some (.inl x7), some (.inl x8), some (.inl y9_45), none, none]) rfl ?_
    refine v_aload_n C dX0_putFirst_47 rfl ?_
    refine v_iload C dX0_putFirst_48 rfl ?_
    refine v_invV C ctX0_neededSet dX0_putFirst_50 ivX0_48 ⟨by decide, by decide, rfl, rfl⟩ (x8 : Int) (As := [.inl x8]) rfl rfl rfl (by decide) rfl (st := []) rfl (Nat.le_of_ble_eq_true rfl) h (fun o M50 oM50 io50 h => ?_)
    obtain ⟨r50, rfl, h⟩ := rI_out h
    refine v_push ?_
    refine v_istore C dX0_putFirst_53 (by decide) (Nat.le_of_ble_eq_true rfl) (lv' := [some (.inr (21, 0)), some (.inr (14, i1)), some (.inl x2), some (.inr (18, i3)), some (.inl x4), some (.inl x5), some (.inl x6), some (.inl x7), some (.inl x8), some (.inl y9_45), some (.inl r50), none]) rfl ?_
    refine v_iload C dX0_putFirst_55 rfl ?_
    refine v_iload C dX0_putFirst_57 rfl ?_
    refine v_iload C dX0_putFirst_59 rfl ?_
    refine v_ior C dX0_putFirst_61 ?_
    refine v_iand C dX0_putFirst_62 ?_
    refine v_iload C dX0_putFirst_63 rfl ?_
    refine v_icmp C dX0_putFirst_65 (tgt := 71) (by decide) (P := (bAnd x4 (bOr y9_45 r50)) = r50) rfl (fun c65 => ?_) (fun c65 => ?_)
    · replace h := h.1 c65
      refine v_iconst C dX0_putFirst_71 (by decide) ?_
      refine v_istore C dX0_putFirst_72 (by decide) (Nat.le_of_ble_eq_true rfl) (lv' := [some (.inr (21, 0)), some (.inr (14, i1)), some (.inl x2), some (.inr (18, i3)), some (.inl x4), some (.inl x5), some (.inl x6), some (.inl x7), some (.inl x8), some (.inl y9_45), some (.inl r50), some (.inl 0)]) rfl ?_
      refine v_weak [some (.inr (21, 0)), some (.inr (14, i1)), some (.inl x2), some (.inr (18, i3)), some (.inl x4), some (.inl x5), some (.inl x6), some (.inl x7), some (.inl x8), some (.inl y9_45), none, some (.inl 0)] ⟨rfl, rfl, rfl, rfl, rfl, rfl, rfl, rfl, rfl, rfl, rfl, trivial⟩ ?_
      exact h
    · replace h := h.2 c65
      refine v_goto C dX0_putFirst_68 (tgt := 165) (by decide) ?_
      refine v_iinc C dX0_putFirst_165 (by decide) rfl h.1 (lv' := [some (.inr (21, 0)), some (.inr (14, i1)), some (.inl x2), some (.inr (18, i3)), some (.inl x4), some (.inl x5), some (.inl x6), some (.inl x7), some (.inl (x8 + 1)), some (.inl y9_45), some (.inl r50), none]) rfl ?_
      replace h := h.2
      refine v_goto C dX0_putFirst_168 (tgt := 29) (by decide) ?_
      refine v_weak [some (.inr (21, 0)), some (.inr (14, i1)), some (.inl x2), some (.inr (18, i3)), some (.inl x4), some (.inl x5), some (.inl x6), some (.inl x7), some (.inl (x8 + 1)), none, none, none] ⟨rfl, rfl, rfl, rfl, rfl, rfl, rfl, rfl, rfl, trivial⟩ ?_
      exact h
set_option maxHeartbeats 4000000 in
set_option maxRecDepth 20000 in
theorem sgX0_putFirst_74 {κ : Kx} {K : Kont} {M : Mem} (C : Cx κ RX0 cX0_putFirst 12 (some .int) rmX0_putFirst domC) (i1 : Int) (x2 : Int) (i3 : Int) (x4 : Int) (x5 : Int) (x6 : Int) (x7 : Int) (x8 : Int) (x9 : Int) (x11 : Int)
    (h :
    (0 ≤ x8 ∧ x8 < 7) ∧
    (((M 11 (7 * 1 + x8) 4) ≤ x11 →
      inR (x8 + 1) ∧
      V κ 12 M 29 [some (.inr (21, 0)), some (.inr (14, i1)), some (.inl x2), some (.inr (18, i3)), some (.inl x4), some (.inl x5), some (.inl x6), some (.inl x7), some (.inl (x8 + 1)), none, none, none] [] K) ∧
     (¬ ((M 11 (7 * 1 + x8) 4) ≤ x11) →
      spX6_ownWhyNot i1 x8 x11 x5 M (rI (fun r99 M99 =>
      ((r99 ≠ 0 →
        inR (x11 + 1) ∧
        V κ 12 M99 74 [some (.inr (21, 0)), some (.inr (14, i1)), some (.inl x2), some (.inr (18, i3)), some (.inl x4), some (.inl x5), some (.inl x6), some (.inl x7), some (.inl x8), some (.inl x9), none, some (.inl (x11 + 1))] [] K) ∧
       (¬ (r99 ≠ 0) →
        spX6_gainOf i1 x8 x11 x5 M99 (rI (fun r112 M112 =>
        spX0_nextFree x8 x11 x5 x2 M112 (rI (fun r127 M127 =>
        inR (r127 * x6) ∧
        inR ((r127 * x6) + x4) ∧
        inR (((r127 * x6) + x4) + x9) ∧
        (0 ≤ (((r127 * x6) + x4) + x9) ∧ (((r127 * x6) + x4) + x9) < 12928) ∧
        inR (r112 + (M127 22 0 (((r127 * x6) + x4) + x9))) ∧
        (((r112 + (M127 22 0 (((r127 * x6) + x4) + x9))) ≠ x7 →
          inR (x11 + 1) ∧
          V κ 12 M127 74 [some (.inr (21, 0)), some (.inr (14, i1)), some (.inl x2), some (.inr (18, i3)), some (.inl x4), some (.inl x5), some (.inl x6), some (.inl x7), some (.inl x8), some (.inl x9), none, some (.inl (x11 + 1))] [] K) ∧
         (¬ ((r112 + (M127 22 0 (((r127 * x6) + x4) + x9))) ≠ x7) →
          spX4_put i3 x8 x11 x5 M127 (rV (fun M153 =>
          K (some x8) M153))))))))))))))) : V κ 12 M 74 [some (.inr (21, 0)), some (.inr (14, i1)), some (.inl x2), some (.inr (18, i3)), some (.inl x4), some (.inl x5), some (.inl x6), some (.inl x7), some (.inl x8), some (.inl x9), none, some (.inl x11)] [] K := by
  refine v_iload C dX0_putFirst_74 rfl ?_
  refine v_aload_n C dX0_putFirst_76 rfl ?_
  refine v_get C dX0_putFirst_77 flX0_15 rfl (by decide) (by decide) (w := .inr (5, 1)) rfl ?_
  refine v_get C dX0_putFirst_80 flX0_38 rfl (by decide) (by decide) (w := .inr (10, 1)) rfl ?_
  refine v_iload C dX0_putFirst_83 rfl ?_
  refine v_aald C dX0_putFirst_85 h.1.1 h.1.2 ?_
  replace h := h.2
  refine v_get C dX0_putFirst_86 flX0_62 rfl (by decide) (by decide) (w := .inl (M 11 (7 * 1 + x8) 4)) rfl ?_
  refine v_icmp C dX0_putFirst_89 (tgt := 165) (by decide) (P := (M 11 (7 * 1 + x8) 4) ≤ x11) rfl (fun c89 => ?_) (fun c89 => ?_)
  · replace h := h.1 c89
    refine v_iinc C dX0_putFirst_165 (by decide) rfl h.1 (lv' := [some (.inr (21, 0)), some (.inr (14, i1)), some (.inl x2), some (.inr (18, i3)), some (.inl x4), some (.inl x5), some (.inl x6), some (.inl x7), some (.inl (x8 + 1)), some (.inl x9), none, some (.inl x11)]) rfl ?_
    replace h := h.2
    refine v_goto C dX0_putFirst_168 (tgt := 29) (by decide) ?_
    refine v_weak [some (.inr (21, 0)), some (.inr (14, i1)), some (.inl x2), some (.inr (18, i3)), some (.inl x4), some (.inl x5), some (.inl x6), some (.inl x7), some (.inl (x8 + 1)), none, none, none] ⟨rfl, rfl, rfl, rfl, rfl, rfl, rfl, rfl, rfl, trivial⟩ ?_
    exact h
  · replace h := h.2 c89
    refine v_aload_n C dX0_putFirst_92 rfl ?_
    refine v_iload C dX0_putFirst_93 rfl ?_
    refine v_iload C dX0_putFirst_95 rfl ?_
    refine v_iload C dX0_putFirst_97 rfl ?_
    refine v_invV C ctX6_ownWhyNot dX0_putFirst_99 ivX0_65 ⟨by decide, by decide, rfl, rfl⟩ ((i1, x8, x11, x5) : Int × Int × Int × Int) (As := [.inl x8, .inl x11, .inl x5]) rfl rfl rfl (by decide) rfl (st := []) rfl (Nat.le_of_ble_eq_true rfl) h (fun o M99 oM99 io99 h => ?_)
    obtain ⟨r99, rfl, h⟩ := rI_out h
    refine v_push ?_
    refine v_if C dX0_putFirst_102 (tgt := 159) (by decide) (P := r99 ≠ 0) rfl (fun c102 => ?_) (fun c102 => ?_)
    · replace h := h.1 c102
      refine v_iinc C dX0_putFirst_159 (by decide) rfl h.1 (lv' := [some (.inr (21, 0)), some (.inr (14, i1)), some (.inl x2), some (.inr (18, i3)), some (.inl x4), some (.inl x5), some (.inl x6), some (.inl x7), some (.inl x8), some (.inl x9), none, some (.inl (x11 + 1))]) rfl ?_
      replace h := h.2
      refine v_goto C dX0_putFirst_162 (tgt := 74) (by decide) ?_
      refine v_weak [some (.inr (21, 0)), some (.inr (14, i1)), some (.inl x2), some (.inr (18, i3)), some (.inl x4), some (.inl x5), some (.inl x6), some (.inl x7), some (.inl x8), some (.inl x9), none, some (.inl (x11 + 1))] ⟨rfl, rfl, rfl, rfl, rfl, rfl, rfl, rfl, rfl, rfl, rfl, trivial⟩ ?_
      exact h
    · replace h := h.2 c102
      refine v_aload_n C dX0_putFirst_105 rfl ?_
      refine v_iload C dX0_putFirst_106 rfl ?_
      refine v_iload C dX0_putFirst_108 rfl ?_
      refine v_iload C dX0_putFirst_110 rfl ?_
      refine v_invV C ctX6_gainOf dX0_putFirst_112 ivX0_75 ⟨by decide, by decide, rfl, rfl⟩ ((i1, x8, x11, x5) : Int × Int × Int × Int) (As := [.inl x8, .inl x11, .inl x5]) rfl rfl rfl (by decide) rfl (st := []) rfl (Nat.le_of_ble_eq_true rfl) h (fun o M112 oM112 io112 h => ?_)
      obtain ⟨r112, rfl, h⟩ := rI_out h
      refine v_push ?_
      refine v_aload_n C dX0_putFirst_115 rfl ?_
      refine v_get C dX0_putFirst_116 flX0_9 rfl (by decide) (by decide) (w := .inr (22, 0)) rfl ?_
      refine v_aload_n C dX0_putFirst_119 rfl ?_
      refine v_iload C dX0_putFirst_120 rfl ?_
      refine v_iload C dX0_putFirst_122 rfl ?_
      refine v_iload C dX0_putFirst_124 rfl ?_
      refine v_iload_n C dX0_putFirst_126 rfl ?_
      refine v_invV C ctX0_nextFree dX0_putFirst_127 ivX0_71 ⟨by decide, by decide, rfl, rfl⟩ ((x8, x11, x5, x2) : Int × Int × Int × Int) (As := [.inl x8, .inl x11, .inl x5, .inl x2]) rfl rfl rfl (by decide) rfl (st := [.inr (22, 0), .inl r112]) rfl (Nat.le_of_ble_eq_true rfl) h (fun o M127 oM127 io127 h => ?_)
      obtain ⟨r127, rfl, h⟩ := rI_out h
      refine v_push ?_
      refine v_iload C dX0_putFirst_130 rfl ?_
      refine v_imul C dX0_putFirst_132 h.1 ?_
      replace h := h.2
      refine v_iload C dX0_putFirst_133 rfl ?_
      refine v_iadd C dX0_putFirst_135 h.1 ?_
      replace h := h.2
      refine v_iload C dX0_putFirst_136 rfl ?_
      refine v_iadd C dX0_putFirst_138 h.1 ?_
      replace h := h.2
      refine v_iald C dX0_putFirst_139 rfl h.1.1 h.1.2 ?_
      replace h := h.2
      refine v_iadd C dX0_putFirst_140 h.1 ?_
      replace h := h.2
      refine v_iload C dX0_putFirst_141 rfl ?_
      refine v_icmp C dX0_putFirst_143 (tgt := 159) (by decide) (P := (r112 + (M127 22 0 (((r127 * x6) + x4) + x9))) ≠ x7) rfl (fun c143 => ?_) (fun c143 => ?_)
      · replace h := h.1 c143
        refine v_iinc C dX0_putFirst_159 (by decide) rfl h.1 (lv' := [some (.inr (21, 0)), some (.inr (14, i1)), some (.inl x2), some (.inr (18, i3)), some (.inl x4), some (.inl x5), some (.inl x6), some (.inl x7), some (.inl x8), some (.inl x9), none, some (.inl (x11 + 1))]) rfl ?_
        replace h := h.2
        refine v_goto C dX0_putFirst_162 (tgt := 74) (by decide) ?_
        refine v_weak [some (.inr (21, 0)), some (.inr (14, i1)), some (.inl x2), some (.inr (18, i3)), some (.inl x4), some (.inl x5), some (.inl x6), some (.inl x7), some (.inl x8), some (.inl x9), none, some (.inl (x11 + 1))] ⟨rfl, rfl, rfl, rfl, rfl, rfl, rfl, rfl, rfl, rfl, rfl, trivial⟩ ?_
        exact h
      · replace h := h.2 c143
        refine v_aload_n C dX0_putFirst_146 rfl ?_
        refine v_iload C dX0_putFirst_147 rfl ?_
        refine v_iload C dX0_putFirst_149 rfl ?_
        refine v_iload C dX0_putFirst_151 rfl ?_
        refine v_invV C ctX4_put dX0_putFirst_153 ivX0_110 ⟨by decide, by decide, rfl, rfl⟩ ((i3, x8, x11, x5) : Int × Int × Int × Int) (As := [.inl x8, .inl x11, .inl x5]) rfl rfl rfl (by decide) rfl (st := []) rfl (Nat.le_of_ble_eq_true rfl) h (fun o M153 oM153 io153 h => ?_)
        obtain ⟨rfl, h⟩ := rV_out h
        refine v_push0 ?_
        refine v_iload C dX0_putFirst_156 rfl ?_
        exact v_iret C dX0_putFirst_158 h
/-- the table stands from a tick on, for all pictures -/
def TabK (M : Mem) (F : Film) (S Q : Int → Int) (b : Int) : Prop := ∀ u told, 0 ≤ u → u ≤ F 0 0 0 → SubA F (bShl 1 (F 3 0 0) - 1) u told → M 22 0 (u * bShl 1 (F 3 0 0) + told) = tabR F S Q b (bShl 1 (F 3 0 0) - 1) (F 0 0 0).toNat u told
theorem all_bit {n k : Int} (hn : 0 ≤ n) (hn2 : n ≤ 7) (hk : 0 ≤ k) (hk2 : k < n) : bit (bShl 1 n - 1) k = true := by
  have key : ∀ m : Nat, m < 8 → ∀ j : Nat, j < m → bit (bShl 1 (m : Int) - 1) (j : Int) = true := by decide +kernel
  have := key n.toNat (by omega) k.toNat (by omega)
  rw [oi_nat hn, oi_nat hk] at this
  exact this
theorem own_bits {F : Film} (hf : WFf F) {told p : Int} (h0 : 0 ≤ told) (h1 : told < 128) (hp : 0 ≤ p) (hp2 : p < F 3 0 0) : bAnd told (bOr (bShl 1 p) (ndS F p)) = ndS F p ↔ (bit told p = false ∧ (F 12 p 0 = -4 ∨ bit told (F 12 p 0) = true)) := by
  have w := wf_p hf hp hp2
  have h2 := shl_lt128 (p := p) hp w.2.1
  have h3 := ndS_rng hf hp hp2
  have h4 := or_rng7 (x := bShl 1 p) (y := ndS F p) (by omega) (by omega) (by omega) (by omega)
  have bb : ∀ k, 0 ≤ k → bit (bAnd told (bOr (bShl 1 p) (ndS F p))) k = (bit told k && (decide (k = p) || decide (F 12 p 0 ≠ -4 ∧ k = F 12 p 0))) := by
    intro k k0
    rw [bit_and h0 (by omega) h4.1 (by omega), bit_or2 (by omega) (by omega) (by omega) (by omega), bit_shl hp (by omega) k0, nd_bit hf hp hp2 k0]
  constructor
  · intro h
    refine ⟨?_, ?_⟩
    · have := bb p hp
      rw [h, nd_bit hf hp hp2 hp] at this
      have e : ¬ (F 12 p 0 ≠ -4 ∧ p = F 12 p 0) := by omega
      simp [e] at this
      exact this
    · by_cases e : F 12 p 0 = -4
      · exact Or.inl e
      · right
        have := bb (F 12 p 0) (by omega)
        rw [h, nd_bit hf hp hp2 (by omega)] at this
        simp [e] at this
        exact this
  · rintro ⟨a, c⟩
    have h5 := bAnd_le (x := told) (y := bOr (bShl 1 p) (ndS F p)) h0 (by omega) h4.1 (by omega)
    refine bit_ext h5.1 (by omega) h3.1 (by omega) (fun k k0 k1 => ?_)
    rw [bb k k0, nd_bit hf hp hp2 k0]
    by_cases e : k = p
    · subst e
      have e2 : ¬ (F 12 k 0 ≠ -4 ∧ k = F 12 k 0) := by omega
      simp [a, e2]
    · by_cases e2 : F 12 p 0 ≠ -4 ∧ k = F 12 p 0
      · rcases c with c | c
        · exact absurd c e2.1
        · simp [e2, c]
      · simp [e, e2]
abbrev spX0_putFirst (tr b pl told t : Int) (M : Mem) (K : Kont) : Prop := (WFf (cFilm M 1) ∧ TrB M tr ∧ (0 ≤ b ∧ b ≤ 9) ∧ (0 ≤ t ∧ t < M 5 1 0) ∧ SubA (cFilm M 1) (bShl 1 (M 5 1 7) - 1) t told ∧ TabK M (cFilm M 1) (M 16 tr) (M 17 tr) b) ∧
  (fiP (cFilm M 1) (M 16 tr) (M 17 tr) b (tabR (cFilm M 1) (M 16 tr) (M 17 tr) b (bShl 1 (M 5 1 7) - 1) (M 5 1 0).toNat) t told (M 5 1 7).toNat 0 < 0 → K (some (-4)) M) ∧
  (∀ p v, 0 ≤ p → p < M 5 1 7 → 0 ≤ v → v < M 11 (7 * 1 + p) 4 → fiP (cFilm M 1) (M 16 tr) (M 17 tr) b (tabR (cFilm M 1) (M 16 tr) (M 17 tr) b (bShl 1 (M 5 1 7) - 1) (M 5 1 0).toNat) t told (M 5 1 7).toNat 0 = 3 * p + v → K (some p) (up3 (up3 M 19 pl p v) 20 pl p t))
set_option maxHeartbeats 1000000 in
theorem ctX0_putFirst : CtX0_putFirst spX0_putFirst := by
  refine ct_of (by decide) dmC (fun _ => Nat.le_of_ble_eq_true rfl) ?_
  intro κ a M K C oM h
  obtain ⟨tr, b, pl, told, t⟩ := a
  dsimp only [spX0_putFirst] at h
  obtain ⟨⟨hf, hb, hbr, ht, hs, hTab⟩, hk1, hk2⟩ := h
  have hT := hf.1
  have hnP := hf.2.2.2.1
  simp only [cFilm] at hT hnP
  have hw := shl_le7 (k := M 5 1 7) (by omega) (by omega)
  generalize hF : cFilm M 1 = F at *
  have f0 : F 0 0 0 = M 5 1 0 := by rw [← hF]; rfl
  have f3 : F 3 0 0 = M 5 1 7 := by rw [← hF]; rfl
  have f11 : ∀ p, F 11 p 0 = M 11 (7 * 1 + p) 4 := fun p => by rw [← hF]; rfl
  have hQB : QB (M 17 tr) := fun t a b => (hb t a b).2
  unfold TabK at hTab
  rw [f3, f0] at hTab
  generalize hf9 : tabR F (M 16 tr) (M 17 tr) b (bShl 1 (M 5 1 7) - 1) (M 5 1 0).toNat = f at *
  have frng : ∀ u s, 0 ≤ u → u ≤ M 5 1 0 → 0 ≤ f u s ∧ f u s ≤ 200000 := by
    intro u s a c
    have := tab_rng (S := M 16 tr) (may := bShl 1 (M 5 1 7) - 1) hf hQB hbr.1 (M 5 1 0).toNat u s (by omega) (by omega) (by omega)
    rw [hf9] at this
    omega
  have s1 := hs.1
  have s1' : told < bShl 1 (M 5 1 7) := by rw [← f3]; exact s1.2
  have hsor : ∀ p u, 0 ≤ p → p < M 5 1 7 → t < u → F 8 p 0 - F 9 p 0 ≤ t → SubA F (bShl 1 (M 5 1 7) - 1) u (bOr told (bShl 1 p)) := fun p u a c d e => sub_or hf hs d a (by omega) (all_bit (by omega) (by omega) a c) e
  generalize hW : bShl 1 (M 5 1 7) = w at *
  have hW3 : bShl 1 (F 3 0 0) = w := by rw [f3]; exact hW
  have mul : ∀ u, 0 ≤ u → u ≤ M 5 1 0 → 0 ≤ u * w ∧ u * w + w ≤ 12928 := by
    intro u a c
    have q1 := mul_rng (a := u) (b := w) (A := 100) (B := 128) a (by omega) (by omega) hw.2
    have q2 : (u + 1) * w ≤ 101 * 128 := Int.mul_le_mul (by omega) hw.2 (by omega) (by omega)
    rw [Int.add_mul, Int.one_mul] at q2
    omega
  have mt := mul t ht.1 (by omega)
  have due : M 22 0 (t * w + told) = f t told := hTab t told ht.1 (by omega) hs
  have outer : ∀ (n : Nat) (p : Int), 0 ≤ p → p + n = M 5 1 7 → (fiP F (M 16 tr) (M 17 tr) b f t told n p < 0 → K (some (-4)) M) →
      (∀ q v, 0 ≤ q → q < M 5 1 7 → 0 ≤ v → v < M 11 (7 * 1 + q) 4 → fiP F (M 16 tr) (M 17 tr) b f t told n p = 3 * q + v → K (some q) (up3 (up3 M 19 pl q v) 20 pl q t)) →
      V κ 12 M 29 [some (.inr (21, 0)), some (.inr (14, tr)), some (.inl b), some (.inr (18, pl)), some (.inl told), some (.inl t), some (.inl w), some (.inl (f t told)), some (.inl p), none, none, none] [] K := by
    intro n
    induction n with
    | zero =>
      intro p p0 pn k1 k2
      refine sgX0_putFirst_29 C tr b pl told t w _ p ⟨fun c => k1 (by show (-1 : Int) < 0; decide), fun c => absurd (by omega) c⟩
    | succ n ih =>
      intro p p0 pn k1 k2
      have wp := wf_p hf p0 (show p < F 3 0 0 by omega)
      have hown := shl_lt128 (p := p) p0 wp.2.1
      have ob := own_bits hf s1.1 (by omega) p0 (show p < F 3 0 0 by omega)
      have inner : ∀ (m : Nat) (v : Int), 0 ≤ v → v + m = M 11 (7 * 1 + p) 4 → (bit told p = false ∧ (F 12 p 0 = -4 ∨ bit told (F 12 p 0) = true)) → (fiV F (M 16 tr) (M 17 tr) b f t told p m v < 0 → V κ 12 M 29 [some (.inr (21, 0)), some (.inr (14, tr)), some (.inl b), some (.inr (18, pl)), some (.inl told), some (.inl t), some (.inl w), some (.inl (f t told)), some (.inl (p + 1)), none, none, none] [] K) →
          (∀ v', 0 ≤ v' → v' < M 11 (7 * 1 + p) 4 → fiV F (M 16 tr) (M 17 tr) b f t told p m v = 3 * p + v' → K (some p) (up3 (up3 M 19 pl p v') 20 pl p t)) →
          V κ 12 M 74 [some (.inr (21, 0)), some (.inr (14, tr)), some (.inl b), some (.inr (18, pl)), some (.inl told), some (.inl t), some (.inl w), some (.inl (f t told)), some (.inl p), some (.inl (bShl 1 p)), none, some (.inl v)] [] K := by
        intro m
        induction m with
        | zero =>
          intro v v0 vn hok k3 k4
          exact sgX0_putFirst_74 C tr b pl told t w _ p _ v ⟨by omega, fun c => ⟨by omega, k3 (by show (-1 : Int) < 0; decide)⟩, fun c => absurd (by omega) c⟩
        | succ m ih2 =>
          intro v v0 vn hok k3 k4
          have wv := wf_pv hf p0 (show p < F 3 0 0 by omega) v0 (by rw [f11]; omega)
          have hg := gainQ_rng hf hQB p0 (show p < F 3 0 0 by omega) v0 (by rw [f11]; omega) ht.1 (by omega)
          unfold fiV at k3 k4
          refine sgX0_putFirst_74 C tr b pl told t w _ p _ v ⟨by omega, fun c => absurd c (by omega), fun c => ⟨⟨by rw [hF]; exact hf, by omega, by omega, ht⟩, ?_, ?_⟩⟩
          · intro c2
            rw [hF] at c2
            rw [if_neg (fun z => c2 z.1.2.2)] at k3 k4
            exact ⟨by omega, ih2 (v + 1) (by omega) (by omega) hok k3 k4⟩
          · intro c2
            rw [hF] at c2
            have c3 : ownW F (M 16 tr) p v t = 0 := by omega
            have oe := own_end c3
            refine ⟨⟨by rw [hF]; exact hf, hb, by omega, by omega, ht⟩, ⟨by rw [hF]; exact hf, by omega, by omega, ht, hbr⟩, ?_⟩
            rw [hF]
            have hnx : t < min (t + F 13 p v + b) (F 0 0 0) ∧ min (t + F 13 p v + b) (F 0 0 0) ≤ M 5 1 0 := by omega
            have hsr := hsor p _ p0 (by omega) hnx.1 (by omega)
            have hbw : begW F (M 17 tr) b f p v t told = gainW F (M 17 tr) p v t + f (min (t + F 13 p v + b) (F 0 0 0)) (bOr told (bShl 1 p)) := rfl
            generalize min (t + F 13 p v + b) (F 0 0 0) = nx at *
            have mn := mul nx (by omega) hnx.2
            have had := add_bit (s := told) (q := p) s1.1 (by omega) p0 (by omega) hok.1
            have q1 := hsr.1
            rw [hW3] at q1
            have hval : M 22 0 (nx * w + told + bShl 1 p) = f nx (bOr told (bShl 1 p)) := by
              have e77 : nx * w + told + bShl 1 p = nx * w + bOr told (bShl 1 p) := by omega
              rw [e77]
              exact hTab nx _ (by omega) hnx.2 hsr
            have hfr := frng nx (bOr told (bShl 1 p)) (by omega) hnx.2
            refine ⟨by omega, by omega, by omega, by omega, by rw [hval]; omega, ?_, ?_⟩
            · intro c4
              rw [hval, ← hbw] at c4
              rw [if_neg (fun z => c4 z.2)] at k3 k4
              exact ⟨by omega, ih2 (v + 1) (by omega) (by omega) hok k3 k4⟩
            · intro c4
              rw [hval, ← hbw] at c4
              have c5 : begW F (M 17 tr) b f p v t told = f t told := by omega
              rw [if_pos ⟨⟨hok.1, hok.2, c3⟩, c5⟩] at k4
              exact ⟨by omega, k4 v v0 (by omega) rfl⟩
      unfold fiP at k1 k2
      refine sgX0_putFirst_29 C tr b pl told t w _ p ⟨fun c => absurd c (by omega), fun c y ey => ⟨⟨p0, by omega⟩, ?_, ?_⟩⟩
      · intro c2
        rw [hF, ey] at c2
        have hok := ob.mp c2
        rw [ey]
        refine inner (M 11 (7 * 1 + p) 4).toNat 0 (by omega) (by rw [← f11]; omega) hok ?_ ?_
        · intro c3
          rw [f11, if_pos c3] at k1 k2
          exact ih (p + 1) (by omega) (by omega) k1 k2
        · intro v' a d e
          rw [f11, if_neg (by omega)] at k2
          exact k2 p v' p0 (by omega) a d e
      · intro c2
        rw [hF, ey] at c2
        have hno : ∀ (m : Nat) (v : Int), fiV F (M 16 tr) (M 17 tr) b f t told p m v = -1 := by
          intro m
          induction m with
          | zero => intro v; rfl
          | succ m ih3 =>
            intro v
            unfold fiV
            rw [if_neg (fun z => c2 (ob.mpr ⟨z.1.1, z.1.2.1⟩))]
            exact ih3 (v + 1)
        rw [hno, if_pos (by decide)] at k1 k2
        exact ⟨by omega, ih (p + 1) (by omega) (by omega) k1 k2⟩
  refine sgX0_putFirst_0 C tr b pl told t (fun y6 ey6 => ?_)
  rw [hW] at ey6
  rw [ey6]
  refine ⟨by omega, by omega, by omega, fun y7 ey7 => ?_⟩
  rw [ey7, due]
  exact outer (M 5 1 7).toNat 0 (by omega) (by omega) hk1 hk2
/-! ===== GapTellings$BestFinder.trace ===== -/
abbrev rmX0_trace : Room := { frames := 3, cells := 0, slots := 0, locals := 79 }
abbrev argX0_trace (a : Int × Int × Int) : List PV := [.inr (21, 0), .inr (14, a.1), .inl a.2.1, .inr (18, a.2.2)]
abbrev CtX0_trace (sp : Int → Int → Int → Mem → Kont → Prop) : Prop := Ct yX0_trace cX0_trace 8 none rmX0_trace domC argX0_trace (fun a => sp a.1 a.2.1 a.2.2)
theorem dX0_trace_0 : decode cX0_trace 0 = .ok (.aload_n 3, 1) := by decide +kernel
theorem dX0_trace_1 : decode cX0_trace 1 = .ok (.invokevirtual 98, 3) := by decide +kernel
theorem dX0_trace_4 : decode cX0_trace 4 = .ok (.iconst 0, 1) := by decide +kernel
theorem dX0_trace_5 : decode cX0_trace 5 = .ok (.istore 4, 2) := by decide +kernel
theorem dX0_trace_7 : decode cX0_trace 7 = .ok (.iconst 0, 1) := by decide +kernel
theorem dX0_trace_8 : decode cX0_trace 8 = .ok (.istore 5, 2) := by decide +kernel
theorem dX0_trace_10 : decode cX0_trace 10 = .ok (.iconst 0, 1) := by decide +kernel
theorem dX0_trace_11 : decode cX0_trace 11 = .ok (.istore 6, 2) := by decide +kernel
theorem dX0_trace_13 : decode cX0_trace 13 = .ok (.iload 6, 2) := by decide +kernel
theorem dX0_trace_15 : decode cX0_trace 15 = .ok (.aload_n 0, 1) := by decide +kernel
theorem dX0_trace_16 : decode cX0_trace 16 = .ok (.getfield 15, 3) := by decide +kernel
theorem dX0_trace_19 : decode cX0_trace 19 = .ok (.getfield 25, 3) := by decide +kernel
theorem dX0_trace_22 : decode cX0_trace 22 = .ok (.if_icmp .ge 68, 3) := by decide +kernel
theorem dX0_trace_25 : decode cX0_trace 25 = .ok (.iload 6, 2) := by decide +kernel
theorem dX0_trace_27 : decode cX0_trace 27 = .ok (.iload 5, 2) := by decide +kernel
theorem dX0_trace_29 : decode cX0_trace 29 = .ok (.if_icmp .ge 8, 3) := by decide +kernel
theorem dX0_trace_32 : decode cX0_trace 32 = .ok (.bipush (-4), 2) := by decide +kernel
theorem dX0_trace_34 : decode cX0_trace 34 = .ok (.goto 14, 3) := by decide +kernel
theorem dX0_trace_37 : decode cX0_trace 37 = .ok (.aload_n 0, 1) := by decide +kernel
theorem dX0_trace_38 : decode cX0_trace 38 = .ok (.aload_n 1, 1) := by decide +kernel
theorem dX0_trace_39 : decode cX0_trace 39 = .ok (.iload_n 2, 1) := by decide +kernel
theorem dX0_trace_40 : decode cX0_trace 40 = .ok (.aload_n 3, 1) := by decide +kernel
theorem dX0_trace_41 : decode cX0_trace 41 = .ok (.iload 4, 2) := by decide +kernel
theorem dX0_trace_43 : decode cX0_trace 43 = .ok (.iload 6, 2) := by decide +kernel
theorem dX0_trace_45 : decode cX0_trace 45 = .ok (.invokevirtual 103, 3) := by decide +kernel
theorem dX0_trace_48 : decode cX0_trace 48 = .ok (.istore 7, 2) := by decide +kernel
theorem dX0_trace_50 : decode cX0_trace 50 = .ok (.iload 7, 2) := by decide +kernel
theorem dX0_trace_52 : decode cX0_trace 52 = .ok (.bipush (-4), 2) := by decide +kernel
theorem dX0_trace_54 : decode cX0_trace 54 = .ok (.if_icmp .eq 30, 3) := by decide +kernel
theorem dX0_trace_57 : decode cX0_trace 57 = .ok (.iload 4, 2) := by decide +kernel
theorem dX0_trace_59 : decode cX0_trace 59 = .ok (.iconst 1, 1) := by decide +kernel
theorem dX0_trace_60 : decode cX0_trace 60 = .ok (.iload 7, 2) := by decide +kernel
theorem dX0_trace_62 : decode cX0_trace 62 = .ok (.ishl, 1) := by decide +kernel
theorem dX0_trace_63 : decode cX0_trace 63 = .ok (.ior, 1) := by decide +kernel
theorem dX0_trace_64 : decode cX0_trace 64 = .ok (.istore 4, 2) := by decide +kernel
theorem dX0_trace_66 : decode cX0_trace 66 = .ok (.aload_n 0, 1) := by decide +kernel
theorem dX0_trace_67 : decode cX0_trace 67 = .ok (.iload 7, 2) := by decide +kernel
theorem dX0_trace_69 : decode cX0_trace 69 = .ok (.aload_n 3, 1) := by decide +kernel
theorem dX0_trace_70 : decode cX0_trace 70 = .ok (.getfield 107, 3) := by decide +kernel
theorem dX0_trace_73 : decode cX0_trace 73 = .ok (.iload 7, 2) := by decide +kernel
theorem dX0_trace_75 : decode cX0_trace 75 = .ok (.iaload, 1) := by decide +kernel
theorem dX0_trace_76 : decode cX0_trace 76 = .ok (.iload 6, 2) := by decide +kernel
theorem dX0_trace_78 : decode cX0_trace 78 = .ok (.iload_n 2, 1) := by decide +kernel
theorem dX0_trace_79 : decode cX0_trace 79 = .ok (.invokevirtual 71, 3) := by decide +kernel
theorem dX0_trace_82 : decode cX0_trace 82 = .ok (.istore 5, 2) := by decide +kernel
theorem dX0_trace_84 : decode cX0_trace 84 = .ok (.iinc 6 1, 3) := by decide +kernel
theorem dX0_trace_87 : decode cX0_trace 87 = .ok (.goto (-74), 3) := by decide +kernel
theorem dX0_trace_90 : decode cX0_trace 90 = .ok (.return_, 1) := by decide +kernel
theorem ivX0_98 : IV RX0 98 yX4_clear cX4_clear 1 none 0 := ⟨(tb_mem (t_in3 (List.mem_of_getElem? (i := 205) (by decide +kernel))) (by decide +kernel)), (tb_mem (t_in2 (List.mem_of_getElem? (i := 195) (by decide +kernel))) (by decide +kernel)), (tb_mem (t_in2 (List.mem_of_getElem? (i := 196) (by decide +kernel))) (by decide +kernel)), (tb_mem (t_in1 (List.mem_of_getElem? (i := 6) (by decide +kernel))) (by decide +kernel)), (tb_mem (t_in2 (List.mem_of_getElem? (i := 197) (by decide +kernel))) (by decide +kernel)), ⟨by decide +kernel, by decide +kernel, by decide +kernel⟩⟩
theorem ivX0_103 : IV RX0 103 yX0_putFirst cX0_putFirst 12 (some .int) 5 := ⟨(tb_mem (t_in3 (List.mem_of_getElem? (i := 206) (by decide +kernel))) (by decide +kernel)), (tb_mem (t_in3 (List.mem_of_getElem? (i := 207) (by decide +kernel))) (by decide +kernel)), (tb_mem (t_in3 (List.mem_of_getElem? (i := 208) (by decide +kernel))) (by decide +kernel)), (tb_mem (t_in1 (List.mem_of_getElem? (i := 8) (by decide +kernel))) (by decide +kernel)), (tb_mem (t_in3 (List.mem_of_getElem? (i := 209) (by decide +kernel))) (by decide +kernel)), ⟨by decide +kernel, by decide +kernel, by decide +kernel⟩⟩
theorem flX0_107 : FL RX0 107 4 1 := ⟨_, _, _, rfl, by decide, uwX4, Or.inr ⟨"GapTellings", (nw_mem (t_in1 (List.mem_of_getElem? (i := 195) (by decide +kernel))) (by decide +kernel))⟩⟩
set_option maxHeartbeats 4000000 in
set_option maxRecDepth 20000 in
theorem sgX0_trace_0 {κ : Kx} {K : Kont} {M : Mem} (C : Cx κ RX0 cX0_trace 8 none rmX0_trace domC) (i1 : Int) (x2 : Int) (i3 : Int)
    (h :
    spX4_clear i3 M (rV (fun M1 =>
    V κ 8 M1 13 [some (.inr (21, 0)), some (.inr (14, i1)), some (.inl x2), some (.inr (18, i3)), some (.inl 0), some (.inl 0), some (.inl 0), none] [] K))) : V κ 8 M 0 [some (.inr (21, 0)), some (.inr (14, i1)), some (.inl x2), some (.inr (18, i3)), none, none, none, none] [] K := by
  refine v_aload_n C dX0_trace_0 rfl ?_
  refine v_invV C ctX4_clear dX0_trace_1 ivX0_98 ⟨by decide, by decide, rfl, rfl⟩ (i3 : Int) (As := []) rfl rfl rfl (by decide) rfl (st := []) rfl (Nat.le_of_ble_eq_true rfl) h (fun o M1 oM1 io1 h => ?_)
  obtain ⟨rfl, h⟩ := rV_out h
  refine v_push0 ?_
  refine v_iconst C dX0_trace_4 (by decide) ?_
  refine v_istore C dX0_trace_5 (by decide) (Nat.le_of_ble_eq_true rfl) (lv' := [some (.inr (21, 0)), some (.inr (14, i1)), some (.inl x2), some (.inr (18, i3)), some (.inl 0), none, none, none]) rfl ?_
  refine v_iconst C dX0_trace_7 (by decide) ?_
  refine v_istore C dX0_trace_8 (by decide) (Nat.le_of_ble_eq_true rfl) (lv' := [some (.inr (21, 0)), some (.inr (14, i1)), some (.inl x2), some (.inr (18, i3)), some (.inl 0), some (.inl 0), none, none]) rfl ?_
  refine v_iconst C dX0_trace_10 (by decide) ?_
  refine v_istore C dX0_trace_11 (by decide) (Nat.le_of_ble_eq_true rfl) (lv' := [some (.inr (21, 0)), some (.inr (14, i1)), some (.inl x2), some (.inr (18, i3)), some (.inl 0), some (.inl 0), some (.inl 0), none]) rfl ?_
  refine v_weak [some (.inr (21, 0)), some (.inr (14, i1)), some (.inl x2), some (.inr (18, i3)), some (.inl 0), some (.inl 0), some (.inl 0), none] ⟨rfl, rfl, rfl, rfl, rfl, rfl, rfl, trivial⟩ ?_
  exact h
set_option maxHeartbeats 4000000 in
set_option maxRecDepth 20000 in
theorem sgX0_trace_13 {κ : Kx} {K : Kont} {M : Mem} (C : Cx κ RX0 cX0_trace 8 none rmX0_trace domC) (i1 : Int) (x2 : Int) (i3 : Int) (x4 : Int) (x5 : Int) (x6 : Int)
    (h :
    (((M 5 1 0) ≤ x6 →
      K none M) ∧
     (¬ ((M 5 1 0) ≤ x6) →
      ((x5 ≤ x6 →
        spX0_putFirst i1 x2 i3 x4 x6 M (rI (fun r45 M45 =>
        ((r45 = (-4) →
          inR (x6 + 1) ∧
          V κ 8 M45 13 [some (.inr (21, 0)), some (.inr (14, i1)), some (.inl x2), some (.inr (18, i3)), some (.inl x4), some (.inl x5), some (.inl (x6 + 1)), none] [] K) ∧
         (¬ (r45 = (-4)) →
          ∀ y4_64 : Int, y4_64 = bOr x4 (bShl 1 r45) →
          (0 ≤ r45 ∧ r45 < 7) ∧
          spX0_nextFree r45 (M45 19 i3 r45) x6 x2 M45 (rI (fun r79 M79 =>
          inR (x6 + 1) ∧
          V κ 8 M79 13 [some (.inr (21, 0)), some (.inr (14, i1)), some (.inl x2), some (.inr (18, i3)), some (.inl y4_64), some (.inl r79), some (.inl (x6 + 1)), none] [] K))))))) ∧
       (¬ (x5 ≤ x6) →
        inR (x6 + 1) ∧
        V κ 8 M 13 [some (.inr (21, 0)), some (.inr (14, i1)), some (.inl x2), some (.inr (18, i3)), some (.inl x4), some (.inl x5), some (.inl (x6 + 1)), none] [] K))))) : V κ 8 M 13 [some (.inr (21, 0)), some (.inr (14, i1)), some (.inl x2), some (.inr (18, i3)), some (.inl x4), some (.inl x5), some (.inl x6), none] [] K := by
  refine v_iload C dX0_trace_13 rfl ?_
  refine v_aload_n C dX0_trace_15 rfl ?_
  refine v_get C dX0_trace_16 flX0_15 rfl (by decide) (by decide) (w := .inr (5, 1)) rfl ?_
  refine v_get C dX0_trace_19 flX0_25 rfl (by decide) (by decide) (w := .inl (M 5 1 0)) rfl ?_
  refine v_icmp C dX0_trace_22 (tgt := 90) (by decide) (P := (M 5 1 0) ≤ x6) rfl (fun c22 => ?_) (fun c22 => ?_)
  · replace h := h.1 c22
    exact v_vret C dX0_trace_90 h
  · replace h := h.2 c22
    refine v_iload C dX0_trace_25 rfl ?_
    refine v_iload C dX0_trace_27 rfl ?_
    refine v_icmp C dX0_trace_29 (tgt := 37) (by decide) (P := x5 ≤ x6) rfl (fun c29 => ?_) (fun c29 => ?_)
    · replace h := h.1 c29
      refine v_aload_n C dX0_trace_37 rfl ?_
      refine v_aload_n C dX0_trace_38 rfl ?_
      refine v_iload_n C dX0_trace_39 rfl ?_
      refine v_aload_n C dX0_trace_40 rfl ?_
      refine v_iload C dX0_trace_41 rfl ?_
      refine v_iload C dX0_trace_43 rfl ?_
      refine v_invV C ctX0_putFirst dX0_trace_45 ivX0_103 ⟨by decide, by decide, rfl, rfl⟩ ((i1, x2, i3, x4, x6) : Int × Int × Int × Int × Int) (As := [.inr (14, i1), .inl x2, .inr (18, i3), .inl x4, .inl x6]) rfl rfl rfl (by decide) rfl (st := []) rfl (Nat.le_of_ble_eq_true rfl) h (fun o M45 oM45 io45 h => ?_)
      obtain ⟨r45, rfl, h⟩ := rI_out h
      refine v_push ?_
      refine v_istore C dX0_trace_48 (by decide) (Nat.le_of_ble_eq_true rfl) (lv' := [some (.inr (21, 0)), some (.inr (14, i1)), some (.inl x2), some (.inr (18, i3)), some (.inl x4), some (.inl x5), some (.inl x6), some (.inl r45)]) rfl ?_
      refine v_iload C dX0_trace_50 rfl ?_
      refine v_bipush C dX0_trace_52 (by decide) (by decide) ?_
      refine v_icmp C dX0_trace_54 (tgt := 84) (by decide) (P := r45 = (-4)) rfl (fun c54 => ?_) (fun c54 => ?_)
      · replace h := h.1 c54
        refine v_iinc C dX0_trace_84 (by decide) rfl h.1 (lv' := [some (.inr (21, 0)), some (.inr (14, i1)), some (.inl x2), some (.inr (18, i3)), some (.inl x4), some (.inl x5), some (.inl (x6 + 1)), some (.inl r45)]) rfl ?_
        replace h := h.2
        refine v_goto C dX0_trace_87 (tgt := 13) (by decide) ?_
        refine v_weak [some (.inr (21, 0)), some (.inr (14, i1)), some (.inl x2), some (.inr (18, i3)), some (.inl x4), some (.inl x5), some (.inl (x6 + 1)), none] ⟨rfl, rfl, rfl, rfl, rfl, rfl, rfl, trivial⟩ ?_
        exact h
      · replace h := h.2 c54
        refine v_iload C dX0_trace_57 rfl ?_
        refine v_iconst C dX0_trace_59 (by decide) ?_
        refine v_iload C dX0_trace_60 rfl ?_
        refine v_ishl C dX0_trace_62 ?_
        refine v_ior C dX0_trace_63 ?_
        refine v_nm (fun y4_64 ey4_64 => ?_)
        replace h := h y4_64 ey4_64
        refine v_istore C dX0_trace_64 (by decide) (Nat.le_of_ble_eq_true rfl) (lv' := [some (.inr (21, 0)), some (.inr (14, i1)), some (.inl x2), some (.inr (18, i3)), some (.inl y4_64), some (.inl x5), some (.inl x6), some (.inl r45)]) rfl ?_
        refine v_aload_n C dX0_trace_66 rfl ?_
        refine v_iload C dX0_trace_67 rfl ?_
        refine v_aload_n C dX0_trace_69 rfl ?_
        refine v_get C dX0_trace_70 flX0_107 rfl (by decide) (by decide) (w := .inr (19, i3)) rfl ?_
        refine v_iload C dX0_trace_73 rfl ?_
        refine v_iald C dX0_trace_75 rfl h.1.1 h.1.2 ?_
        replace h := h.2
        refine v_iload C dX0_trace_76 rfl ?_
        refine v_iload_n C dX0_trace_78 rfl ?_
        refine v_invV C ctX0_nextFree dX0_trace_79 ivX0_71 ⟨by decide, by decide, rfl, rfl⟩ ((r45, M45 19 i3 r45, x6, x2) : Int × Int × Int × Int) (As := [.inl r45, .inl (M45 19 i3 r45), .inl x6, .inl x2]) rfl rfl rfl (by decide) rfl (st := []) rfl (Nat.le_of_ble_eq_true rfl) h (fun o M79 oM79 io79 h => ?_)
        obtain ⟨r79, rfl, h⟩ := rI_out h
        refine v_push ?_
        refine v_istore C dX0_trace_82 (by decide) (Nat.le_of_ble_eq_true rfl) (lv' := [some (.inr (21, 0)), some (.inr (14, i1)), some (.inl x2), some (.inr (18, i3)), some (.inl y4_64), some (.inl r79), some (.inl x6), some (.inl r45)]) rfl ?_
        refine v_iinc C dX0_trace_84 (by decide) rfl h.1 (lv' := [some (.inr (21, 0)), some (.inr (14, i1)), some (.inl x2), some (.inr (18, i3)), some (.inl y4_64), some (.inl r79), some (.inl (x6 + 1)), some (.inl r45)]) rfl ?_
        replace h := h.2
        refine v_goto C dX0_trace_87 (tgt := 13) (by decide) ?_
        refine v_weak [some (.inr (21, 0)), some (.inr (14, i1)), some (.inl x2), some (.inr (18, i3)), some (.inl y4_64), some (.inl r79), some (.inl (x6 + 1)), none] ⟨rfl, rfl, rfl, rfl, rfl, rfl, rfl, trivial⟩ ?_
        exact h
    · replace h := h.2 c29
      refine v_bipush C dX0_trace_32 (by decide) (by decide) ?_
      refine v_goto C dX0_trace_34 (tgt := 48) (by decide) ?_
      refine v_istore C dX0_trace_48 (by decide) (Nat.le_of_ble_eq_true rfl) (lv' := [some (.inr (21, 0)), some (.inr (14, i1)), some (.inl x2), some (.inr (18, i3)), some (.inl x4), some (.inl x5), some (.inl x6), some (.inl (-4))]) rfl ?_
      refine v_iload C dX0_trace_50 rfl ?_
      refine v_bipush C dX0_trace_52 (by decide) (by decide) ?_
      refine v_icmp C dX0_trace_54 (tgt := 84) (by decide) (P := ((-4) : Int) = (-4)) rfl (fun _ => ?_) (fun c54 => absurd (by decide) c54)
      refine v_iinc C dX0_trace_84 (by decide) rfl h.1 (lv' := [some (.inr (21, 0)), some (.inr (14, i1)), some (.inl x2), some (.inr (18, i3)), some (.inl x4), some (.inl x5), some (.inl (x6 + 1)), some (.inl (-4))]) rfl ?_
      replace h := h.2
      refine v_goto C dX0_trace_87 (tgt := 13) (by decide) ?_
      refine v_weak [some (.inr (21, 0)), some (.inr (14, i1)), some (.inl x2), some (.inr (18, i3)), some (.inl x4), some (.inl x5), some (.inl (x6 + 1)), none] ⟨rfl, rfl, rfl, rfl, rfl, rfl, rfl, trivial⟩ ?_
      exact h
theorem trC_eq (F : Film) (S Q : Int → Int) (B : Int) (f : Int → Int → Int) : ∀ (n : Nat) (t free set : Int) (ver sta ver' sta' : Int → Int), PlEq ver sta ver' sta' → PlEq (trC F S Q B f n t free set ver sta).1 (trC F S Q B f n t free set ver sta).2 (trC F S Q B f n t free set ver' sta').1 (trC F S Q B f n t free set ver' sta').2 := by
  intro n
  induction n with
  | zero => intro t free set ver sta ver' sta' h; exact h
  | succ n ih =>
    intro t free set ver sta ver' sta' h
    unfold trC
    split
    · exact ih _ _ _ _ _ _ _ h
    · split
      · exact ih _ _ _ _ _ _ _ h
      · exact ih _ _ _ _ _ _ _ (h.put _ _ _)
/-- the best plan -/
def bstP (F : Film) (S Q : Int → Int) (B : Int) : (Int → Int) × (Int → Int) := trC F S Q B (tabR F S Q B (bShl 1 (F 3 0 0) - 1) (F 0 0 0).toNat) (F 0 0 0).toNat 0 0 0 (fun _ => -4) (fun _ => -4)
abbrev spX0_trace (tr b pl : Int) (M : Mem) (K : Kont) : Prop := (WFf (cFilm M 1) ∧ TrB M tr ∧ (0 ≤ b ∧ b ≤ 9) ∧ TabK M (cFilm M 1) (M 16 tr) (M 17 tr) b) ∧
  ∀ M', AgP M M' pl → PlK (cFilm M 1) (M' 19 pl) (M' 20 pl) → PlEq (M' 19 pl) (M' 20 pl) (bstP (cFilm M 1) (M 16 tr) (M 17 tr) b).1 (bstP (cFilm M 1) (M 16 tr) (M 17 tr) b).2 → K none M'
theorem clr_19 (M : Mem) (pl : Int) {q : Int} (a : 0 ≤ q) (b : q < 7) : filM (filM M 19 pl 7 (-4)) 20 pl 7 (-4) 19 pl q = -4 := by
  unfold filM
  rw [if_neg (by omega), if_pos ⟨rfl, rfl, a, b⟩]
theorem clr_20 (M : Mem) (pl : Int) {q : Int} (a : 0 ≤ q) (b : q < 7) : filM (filM M 19 pl 7 (-4)) 20 pl 7 (-4) 20 pl q = -4 := by
  unfold filM
  rw [if_pos ⟨rfl, rfl, a, b⟩]
theorem clr_ag (M : Mem) (pl : Int) : AgP M (filM (filM M 19 pl 7 (-4)) 20 pl 7 (-4)) pl := by
  intro r i hn
  funext j
  unfold filM
  rw [if_neg (fun z => hn ⟨Or.inr z.1, z.2.1⟩), if_neg (fun z => hn ⟨Or.inl z.1, z.2.1⟩)]
theorem ctX0_trace : CtX0_trace spX0_trace := by
  refine ct_of (by decide) dmC (fun _ => Nat.le_of_ble_eq_true rfl) ?_
  intro κ a M K C oM h
  obtain ⟨tr, b, pl⟩ := a
  dsimp only [spX0_trace] at h
  obtain ⟨⟨hf, hb, hbr, hTab⟩, hk⟩ := h
  have hT := hf.1
  have hnP := hf.2.2.2.1
  simp only [cFilm] at hT hnP
  have hw := shl_le7 (k := M 5 1 7) (by omega) (by omega)
  generalize hF : cFilm M 1 = F at *
  have f0 : F 0 0 0 = M 5 1 0 := by rw [← hF]; rfl
  have f3 : F 3 0 0 = M 5 1 7 := by rw [← hF]; rfl
  have f11 : ∀ p, F 11 p 0 = M 11 (7 * 1 + p) 4 := fun p => by rw [← hF]; rfl
  unfold bstP at hk
  generalize hf9 : tabR F (M 16 tr) (M 17 tr) b (bShl 1 (F 3 0 0) - 1) (F 0 0 0).toNat = f at *
  have loop : ∀ (n : Nat) (t free told : Int) (N : Mem), 0 ≤ t → t + n = M 5 1 0 → AgP M N pl → PlK F (N 19 pl) (N 20 pl) → SubA F (bShl 1 (F 3 0 0) - 1) t told →
      (∀ M', AgP M M' pl → PlK F (M' 19 pl) (M' 20 pl) → PlEq (M' 19 pl) (M' 20 pl) (trC F (M 16 tr) (M 17 tr) b f n t free told (N 19 pl) (N 20 pl)).1 (trC F (M 16 tr) (M 17 tr) b f n t free told (N 19 pl) (N 20 pl)).2 → K none M') →
      V κ 8 N 13 [some (.inr (21, 0)), some (.inr (14, tr)), some (.inl b), some (.inr (18, pl)), some (.inl told), some (.inl free), some (.inl t), none] [] K := by
    intro n
    induction n with
    | zero =>
      intro t free told N t0 tn hA hP hs hk
      have e5 : N 5 1 = M 5 1 := hA 5 1 (by omega)
      refine sgX0_trace_13 C tr b pl told free t ⟨fun c => hk N hA hP PlEq.rf, fun c => absurd (by rw [e5]; omega) c⟩
    | succ n ih =>
      intro t free told N t0 tn hA hP hs hk
      have e5 : N 5 1 = M 5 1 := hA 5 1 (by omega)
      have eF : cFilm N 1 = F := by rw [hA.film 1]; exact hF
      have e16 : N 16 tr = M 16 tr := hA 16 tr (by omega)
      have e17 : N 17 tr = M 17 tr := hA 17 tr (by omega)
      have e22 : N 22 0 = M 22 0 := hA 22 0 (by omega)
      have e11 : ∀ i, N 11 i = M 11 i := fun i => hA 11 i (by omega)
      have hmono := hs.mono (u := t + 1) (by omega)
      unfold trC at hk
      refine sgX0_trace_13 C tr b pl told free t ⟨fun c => absurd c (by rw [e5]; omega), fun c => ⟨fun c2 => ?_, fun c2 => ?_⟩⟩
      · rw [if_neg (by omega)] at hk
        refine ⟨⟨by rw [eF]; exact hf, fun u x y => by rw [e16, e17]; exact hb u x y, hbr, by rw [e5]; omega, by rw [eF, e5, ← f3]; exact hs, fun u td x y z => by rw [eF] at *; rw [e22, e16, e17]; exact hTab u td x y z⟩, ?_, ?_⟩
        · intro c3
          rw [eF, e16, e17, e5, ← f3, ← f0, hf9] at c3
          rw [if_pos c3] at hk
          refine ⟨fun _ => ⟨by omega, ih (t + 1) free told N (by omega) (by omega) hA hP hmono hk⟩, fun z => absurd rfl z⟩
        · intro p v p0 p1 v0 v1 c3
          rw [eF, e16, e17, e5, ← f3, ← f0, hf9] at c3
          rw [e5] at p1
          rw [e11] at v1
          have wv := wf_pv hf p0 (show p < F 3 0 0 by omega) v0 (by rw [f11]; omega)
          rw [c3, if_neg (by omega)] at hk
          have d1 : (3 * p + v) / 3 = p := by omega
          have d2 : (3 * p + v) % 3 = v := by omega
          rw [d1, d2] at hk
          have sp := fiP_spec hf (S := M 16 tr) (Q := M 17 tr) (B := b) (f := f) (t := t) (set := told) (F 3 0 0).toNat 0 (by omega) (by omega)
          rw [c3] at sp
          rcases sp with z | ⟨q, k, z1, z2, z3, z4, z5, z6, z7⟩
          · exact absurd z (by omega)
          · have wq := wf_p hf (p := q) (by omega) z2
            have eq1 : q = p := by omega
            have ek1 : k = v := by omega
            rw [eq1, ek1] at z6
            have oe := own_end z6.2.2
            have hso := sub_or hf hs (u := t + 1) (by omega) p0 (show p < F 3 0 0 by omega) (all_bit (by omega) (by omega) p0 (by omega)) (by omega)
            have n19 : up3 (up3 N 19 pl p v) 20 pl p t 19 pl = setP (N 19 pl) p v := put_19 N pl p v t
            have n20 : up3 (up3 N 19 pl p v) 20 pl p t 20 pl = setP (N 20 pl) p t := put_20 N pl p v t
            have hA2 := hA.tr (AgP.up N pl p v t)
            have hvp : up3 (up3 N 19 pl p v) 20 pl p t 19 pl p = v := by rw [n19]; exact if_pos rfl
            refine ⟨fun z => absurd z (by omega), fun _ y ey => ⟨by omega, ?_⟩⟩
            rw [hvp]
            have eF2 : cFilm (up3 (up3 N 19 pl p v) 20 pl p t) 1 = F := by rw [hA2.film 1]; exact hF
            have g5 : up3 (up3 N 19 pl p v) 20 pl p t 5 1 = M 5 1 := hA2 5 1 (by omega)
            have g11 : ∀ i, up3 (up3 N 19 pl p v) 20 pl p t 11 i = M 11 i := fun i => hA2 11 i (by omega)
            refine ⟨⟨by rw [eF2]; exact hf, by rw [g5]; omega, by rw [g11]; omega, by rw [g5]; omega, hbr⟩, ?_⟩
            rw [eF2]
            refine ⟨by omega, ?_⟩
            rw [ey]
            refine ih (t + 1) _ _ _ (by omega) (by omega) hA2 ?_ hso ?_
            · rw [n19, n20]
              exact PlK_put hP (by omega) (by rw [f11]; omega) t0 oe.1
            · rw [n19, n20]
              exact hk
      · rw [if_pos (by omega)] at hk
        exact ⟨by omega, ih (t + 1) free told N (by omega) (by omega) hA hP hmono hk⟩
  refine sgX0_trace_0 C tr b pl ?_
  have pe : PlEq (filM (filM M 19 pl 7 (-4)) 20 pl 7 (-4) 19 pl) (filM (filM M 19 pl 7 (-4)) 20 pl 7 (-4) 20 pl) (fun _ => -4) (fun _ => -4) := fun q a c => ⟨clr_19 M pl a c, clr_20 M pl a c⟩
  refine loop (M 5 1 0).toNat 0 0 0 _ (by omega) (by omega) (clr_ag M pl) (fun q a c => Or.inl (pe q a c)) ⟨⟨by omega, by rw [f3]; omega⟩, fun k _ _ hk => by rw [bit_0] at hk; cases hk⟩ ?_
  intro M' a1 a2 a3
  refine hk M' a1 a2 (a3.tr ?_)
  rw [f0]
  exact trC_eq _ _ _ _ _ _ _ _ _ _ _ _ _ pe
