/-! ===== the Model: sound ===== -/
/-! ===== GapTellingsModel.sound ===== -/
abbrev rmX8_sound : Room := { frames := 3, cells := 0, slots := 0, locals := 74 }
abbrev argX8_sound (a : Int × Int × Int) : List PV := [.inr (30, 0), .inl a.1, .inl a.2.1, .inl a.2.2]
abbrev CtX8_sound (sp : Int → Int → Int → Mem → Kont → Prop) : Prop := Ct yX8_sound cX8_sound 5 (some .int) rmX8_sound domM argX8_sound (fun a => sp a.1 a.2.1 a.2.2)
theorem dX8_sound_0 : decode cX8_sound 0 = .ok (.iload_n 1, 1) := by decide +kernel
theorem dX8_sound_1 : decode cX8_sound 1 = .ok (.iconst 0, 1) := by decide +kernel
theorem dX8_sound_2 : decode cX8_sound 2 = .ok (.iconst 2, 1) := by decide +kernel
theorem dX8_sound_3 : decode cX8_sound 3 = .ok (.invokestatic 97, 3) := by decide +kernel
theorem dX8_sound_6 : decode cX8_sound 6 = .ok (.ifCond .eq 31, 3) := by decide +kernel
theorem dX8_sound_9 : decode cX8_sound 9 = .ok (.iload_n 2, 1) := by decide +kernel
theorem dX8_sound_10 : decode cX8_sound 10 = .ok (.iconst 0, 1) := by decide +kernel
theorem dX8_sound_11 : decode cX8_sound 11 = .ok (.aload_n 0, 1) := by decide +kernel
theorem dX8_sound_12 : decode cX8_sound 12 = .ok (.getfield 64, 3) := by decide +kernel
theorem dX8_sound_15 : decode cX8_sound 15 = .ok (.iconst 1, 1) := by decide +kernel
theorem dX8_sound_16 : decode cX8_sound 16 = .ok (.isub, 1) := by decide +kernel
theorem dX8_sound_17 : decode cX8_sound 17 = .ok (.invokestatic 97, 3) := by decide +kernel
theorem dX8_sound_20 : decode cX8_sound 20 = .ok (.ifCond .eq 17, 3) := by decide +kernel
theorem dX8_sound_23 : decode cX8_sound 23 = .ok (.iload_n 3, 1) := by decide +kernel
theorem dX8_sound_24 : decode cX8_sound 24 = .ok (.iload_n 2, 1) := by decide +kernel
theorem dX8_sound_25 : decode cX8_sound 25 = .ok (.iconst 1, 1) := by decide +kernel
theorem dX8_sound_26 : decode cX8_sound 26 = .ok (.iadd, 1) := by decide +kernel
theorem dX8_sound_27 : decode cX8_sound 27 = .ok (.aload_n 0, 1) := by decide +kernel
theorem dX8_sound_28 : decode cX8_sound 28 = .ok (.getfield 64, 3) := by decide +kernel
theorem dX8_sound_31 : decode cX8_sound 31 = .ok (.invokestatic 97, 3) := by decide +kernel
theorem dX8_sound_34 : decode cX8_sound 34 = .ok (.ifCond .ne 5, 3) := by decide +kernel
theorem dX8_sound_37 : decode cX8_sound 37 = .ok (.iconst (-1), 1) := by decide +kernel
theorem dX8_sound_38 : decode cX8_sound 38 = .ok (.ireturn, 1) := by decide +kernel
theorem dX8_sound_39 : decode cX8_sound 39 = .ok (.aload_n 0, 1) := by decide +kernel
theorem dX8_sound_40 : decode cX8_sound 40 = .ok (.getfield 71, 3) := by decide +kernel
theorem dX8_sound_43 : decode cX8_sound 43 = .ok (.bipush 12, 2) := by decide +kernel
theorem dX8_sound_45 : decode cX8_sound 45 = .ok (.if_icmp .ne 6, 3) := by decide +kernel
theorem dX8_sound_48 : decode cX8_sound 48 = .ok (.bipush (-3), 2) := by decide +kernel
theorem dX8_sound_50 : decode cX8_sound 50 = .ok (.ireturn, 1) := by decide +kernel
theorem dX8_sound_51 : decode cX8_sound 51 = .ok (.aload_n 0, 1) := by decide +kernel
theorem dX8_sound_52 : decode cX8_sound 52 = .ok (.getfield 13, 3) := by decide +kernel
theorem dX8_sound_55 : decode cX8_sound 55 = .ok (.iconst 3, 1) := by decide +kernel
theorem dX8_sound_56 : decode cX8_sound 56 = .ok (.aload_n 0, 1) := by decide +kernel
theorem dX8_sound_57 : decode cX8_sound 57 = .ok (.getfield 71, 3) := by decide +kernel
theorem dX8_sound_60 : decode cX8_sound 60 = .ok (.imul, 1) := by decide +kernel
theorem dX8_sound_61 : decode cX8_sound 61 = .ok (.iload_n 1, 1) := by decide +kernel
theorem dX8_sound_62 : decode cX8_sound 62 = .ok (.iastore, 1) := by decide +kernel
theorem dX8_sound_63 : decode cX8_sound 63 = .ok (.aload_n 0, 1) := by decide +kernel
theorem dX8_sound_64 : decode cX8_sound 64 = .ok (.getfield 13, 3) := by decide +kernel
theorem dX8_sound_67 : decode cX8_sound 67 = .ok (.iconst 3, 1) := by decide +kernel
theorem dX8_sound_68 : decode cX8_sound 68 = .ok (.aload_n 0, 1) := by decide +kernel
theorem dX8_sound_69 : decode cX8_sound 69 = .ok (.getfield 71, 3) := by decide +kernel
theorem dX8_sound_72 : decode cX8_sound 72 = .ok (.imul, 1) := by decide +kernel
theorem dX8_sound_73 : decode cX8_sound 73 = .ok (.iconst 1, 1) := by decide +kernel
theorem dX8_sound_74 : decode cX8_sound 74 = .ok (.iadd, 1) := by decide +kernel
theorem dX8_sound_75 : decode cX8_sound 75 = .ok (.iload_n 2, 1) := by decide +kernel
theorem dX8_sound_76 : decode cX8_sound 76 = .ok (.iastore, 1) := by decide +kernel
theorem dX8_sound_77 : decode cX8_sound 77 = .ok (.aload_n 0, 1) := by decide +kernel
theorem dX8_sound_78 : decode cX8_sound 78 = .ok (.getfield 13, 3) := by decide +kernel
theorem dX8_sound_81 : decode cX8_sound 81 = .ok (.iconst 3, 1) := by decide +kernel
theorem dX8_sound_82 : decode cX8_sound 82 = .ok (.aload_n 0, 1) := by decide +kernel
theorem dX8_sound_83 : decode cX8_sound 83 = .ok (.getfield 71, 3) := by decide +kernel
theorem dX8_sound_86 : decode cX8_sound 86 = .ok (.imul, 1) := by decide +kernel
theorem dX8_sound_87 : decode cX8_sound 87 = .ok (.iconst 2, 1) := by decide +kernel
theorem dX8_sound_88 : decode cX8_sound 88 = .ok (.iadd, 1) := by decide +kernel
theorem dX8_sound_89 : decode cX8_sound 89 = .ok (.iload_n 3, 1) := by decide +kernel
theorem dX8_sound_90 : decode cX8_sound 90 = .ok (.iastore, 1) := by decide +kernel
theorem dX8_sound_91 : decode cX8_sound 91 = .ok (.aload_n 0, 1) := by decide +kernel
theorem dX8_sound_92 : decode cX8_sound 92 = .ok (.dup, 1) := by decide +kernel
theorem dX8_sound_93 : decode cX8_sound 93 = .ok (.getfield 71, 3) := by decide +kernel
theorem dX8_sound_96 : decode cX8_sound 96 = .ok (.iconst 1, 1) := by decide +kernel
theorem dX8_sound_97 : decode cX8_sound 97 = .ok (.iadd, 1) := by decide +kernel
theorem dX8_sound_98 : decode cX8_sound 98 = .ok (.putfield 71, 3) := by decide +kernel
theorem dX8_sound_101 : decode cX8_sound 101 = .ok (.aload_n 0, 1) := by decide +kernel
theorem dX8_sound_102 : decode cX8_sound 102 = .ok (.invokevirtual 137, 3) := by decide +kernel
theorem dX8_sound_105 : decode cX8_sound 105 = .ok (.iconst 0, 1) := by decide +kernel
theorem dX8_sound_106 : decode cX8_sound 106 = .ok (.istore 4, 2) := by decide +kernel
theorem dX8_sound_108 : decode cX8_sound 108 = .ok (.iload 4, 2) := by decide +kernel
theorem dX8_sound_110 : decode cX8_sound 110 = .ok (.aload_n 0, 1) := by decide +kernel
theorem dX8_sound_111 : decode cX8_sound 111 = .ok (.getfield 74, 3) := by decide +kernel
theorem dX8_sound_114 : decode cX8_sound 114 = .ok (.if_icmp .ge 66, 3) := by decide +kernel
theorem dX8_sound_117 : decode cX8_sound 117 = .ok (.aload_n 0, 1) := by decide +kernel
theorem dX8_sound_118 : decode cX8_sound 118 = .ok (.getfield 31, 3) := by decide +kernel
theorem dX8_sound_121 : decode cX8_sound 121 = .ok (.iload 4, 2) := by decide +kernel
theorem dX8_sound_123 : decode cX8_sound 123 = .ok (.iaload, 1) := by decide +kernel
theorem dX8_sound_124 : decode cX8_sound 124 = .ok (.ifCond .lt 50, 3) := by decide +kernel
theorem dX8_sound_127 : decode cX8_sound 127 = .ok (.aload_n 0, 1) := by decide +kernel
theorem dX8_sound_128 : decode cX8_sound 128 = .ok (.iload 4, 2) := by decide +kernel
theorem dX8_sound_130 : decode cX8_sound 130 = .ok (.aload_n 0, 1) := by decide +kernel
theorem dX8_sound_131 : decode cX8_sound 131 = .ok (.getfield 28, 3) := by decide +kernel
theorem dX8_sound_134 : decode cX8_sound 134 = .ok (.iload 4, 2) := by decide +kernel
theorem dX8_sound_136 : decode cX8_sound 136 = .ok (.iaload, 1) := by decide +kernel
theorem dX8_sound_137 : decode cX8_sound 137 = .ok (.aload_n 0, 1) := by decide +kernel
theorem dX8_sound_138 : decode cX8_sound 138 = .ok (.getfield 31, 3) := by decide +kernel
theorem dX8_sound_141 : decode cX8_sound 141 = .ok (.iload 4, 2) := by decide +kernel
theorem dX8_sound_143 : decode cX8_sound 143 = .ok (.iaload, 1) := by decide +kernel
theorem dX8_sound_144 : decode cX8_sound 144 = .ok (.invokevirtual 140, 3) := by decide +kernel
theorem dX8_sound_147 : decode cX8_sound 147 = .ok (.ifCond .le 27, 3) := by decide +kernel
theorem dX8_sound_150 : decode cX8_sound 150 = .ok (.aload_n 0, 1) := by decide +kernel
theorem dX8_sound_151 : decode cX8_sound 151 = .ok (.getfield 31, 3) := by decide +kernel
theorem dX8_sound_154 : decode cX8_sound 154 = .ok (.iload 4, 2) := by decide +kernel
theorem dX8_sound_156 : decode cX8_sound 156 = .ok (.bipush (-4), 2) := by decide +kernel
theorem dX8_sound_158 : decode cX8_sound 158 = .ok (.iastore, 1) := by decide +kernel
theorem dX8_sound_159 : decode cX8_sound 159 = .ok (.aload_n 0, 1) := by decide +kernel
theorem dX8_sound_160 : decode cX8_sound 160 = .ok (.getfield 28, 3) := by decide +kernel
theorem dX8_sound_163 : decode cX8_sound 163 = .ok (.iload 4, 2) := by decide +kernel
theorem dX8_sound_165 : decode cX8_sound 165 = .ok (.bipush (-4), 2) := by decide +kernel
theorem dX8_sound_167 : decode cX8_sound 167 = .ok (.iastore, 1) := by decide +kernel
theorem dX8_sound_168 : decode cX8_sound 168 = .ok (.iconst 0, 1) := by decide +kernel
theorem dX8_sound_169 : decode cX8_sound 169 = .ok (.istore 4, 2) := by decide +kernel
theorem dX8_sound_171 : decode cX8_sound 171 = .ok (.goto (-63), 3) := by decide +kernel
theorem dX8_sound_174 : decode cX8_sound 174 = .ok (.iinc 4 1, 3) := by decide +kernel
theorem dX8_sound_177 : decode cX8_sound 177 = .ok (.goto (-69), 3) := by decide +kernel
theorem dX8_sound_180 : decode cX8_sound 180 = .ok (.aload_n 0, 1) := by decide +kernel
theorem dX8_sound_181 : decode cX8_sound 181 = .ok (.getfield 71, 3) := by decide +kernel
theorem dX8_sound_184 : decode cX8_sound 184 = .ok (.ireturn, 1) := by decide +kernel
set_option maxHeartbeats 4000000 in
set_option maxRecDepth 20000 in
theorem sgX8_sound_0 {κ : Kx} {K : Kont} {M : Mem} (C : Cx κ RX8 cX8_sound 5 (some .int) rmX8_sound domM) (x1 : Int) (x2 : Int) (x3 : Int)
    (h :
    spX8_isIn x1 0 2 M (rI (fun r3 M3 =>
    ((r3 = 0 →
      K (some (-1)) M3) ∧
     (¬ (r3 = 0) →
      inR ((M3 30 0 2) - 1) ∧
      spX8_isIn x2 0 ((M3 30 0 2) - 1) M3 (rI (fun r17 M17 =>
      ((r17 = 0 →
        K (some (-1)) M17) ∧
       (¬ (r17 = 0) →
        inR (x2 + 1) ∧
        spX8_isIn x3 (x2 + 1) (M17 30 0 2) M17 (rI (fun r31 M31 =>
        ((r31 ≠ 0 →
          (((M31 30 0 4) ≠ 12 →
            inR (3 * (M31 30 0 4)) ∧
            (0 ≤ (3 * (M31 30 0 4)) ∧ (3 * (M31 30 0 4)) < 36) ∧
            ∀ M62 : Mem, M62 = up3 M31 35 0 (3 * (M31 30 0 4)) x1 →
            inR (3 * (M62 30 0 4)) ∧
            inR ((3 * (M62 30 0 4)) + 1) ∧
            (0 ≤ ((3 * (M62 30 0 4)) + 1) ∧ ((3 * (M62 30 0 4)) + 1) < 36) ∧
            ∀ M76 : Mem, M76 = up3 M62 35 0 ((3 * (M62 30 0 4)) + 1) x2 →
            inR (3 * (M76 30 0 4)) ∧
            inR ((3 * (M76 30 0 4)) + 2) ∧
            (0 ≤ ((3 * (M76 30 0 4)) + 2) ∧ ((3 * (M76 30 0 4)) + 2) < 36) ∧
            ∀ M90 : Mem, M90 = up3 M76 35 0 ((3 * (M76 30 0 4)) + 2) x3 →
            inR ((M90 30 0 4) + 1) ∧
            ∀ M98 : Mem, M98 = up3 M90 30 0 4 ((M90 30 0 4) + 1) →
            spX8_hears M98 (rV (fun M102 =>
            V κ 5 M102 108 [some (.inr (30, 0)), none, none, none, some (.inl 0)] [] K))) ∧
           (¬ ((M31 30 0 4) ≠ 12) →
            K (some (-3)) M31))) ∧
         (¬ (r31 ≠ 0) →
          K (some (-1)) M31))))))))))))) : V κ 5 M 0 [some (.inr (30, 0)), some (.inl x1), some (.inl x2), some (.inl x3), none] [] K := by
  refine v_iload_n C dX8_sound_0 rfl ?_
  refine v_iconst C dX8_sound_1 (by decide) ?_
  refine v_iconst C dX8_sound_2 (by decide) ?_
  refine v_invS C ctX8_isIn dX8_sound_3 ivX8_97 ⟨by decide, by decide, rfl, rfl⟩ ((x1, 0, 2) : Int × Int × Int) rfl (st := []) rfl (Nat.le_of_ble_eq_true rfl) h (fun o M3 oM3 io3 g3 => ?_)
  replace h := rI_out g3
  clear g3
  obtain ⟨r3, rfl, h⟩ := h
  refine v_push ?_
  refine v_if C dX8_sound_6 (tgt := 37) (by decide) (P := r3 = 0) rfl (fun c6 => ?_) (fun c6 => ?_)
  · replace h := h.1 c6
    refine v_iconst C dX8_sound_37 (by decide) ?_
    exact v_iret C dX8_sound_38 h
  · replace h := h.2 c6
    refine v_iload_n C dX8_sound_9 rfl ?_
    refine v_iconst C dX8_sound_10 (by decide) ?_
    refine v_aload_n C dX8_sound_11 rfl ?_
    refine v_get C dX8_sound_12 flX8_64 rfl (by decide) (by decide) (w := .inl (M3 30 0 2)) rfl ?_
    refine v_iconst C dX8_sound_15 (by decide) ?_
    refine v_isub C dX8_sound_16 h.1 ?_
    replace h := h.2
    refine v_invS C ctX8_isIn dX8_sound_17 ivX8_97 ⟨by decide, by decide, rfl, rfl⟩ ((x2, 0, (M3 30 0 2) - 1) : Int × Int × Int) rfl (st := []) rfl (Nat.le_of_ble_eq_true rfl) h (fun o M17 oM17 io17 g17 => ?_)
    replace h := rI_out g17
    clear g17
    obtain ⟨r17, rfl, h⟩ := h
    refine v_push ?_
    refine v_if C dX8_sound_20 (tgt := 37) (by decide) (P := r17 = 0) rfl (fun c20 => ?_) (fun c20 => ?_)
    · replace h := h.1 c20
      refine v_iconst C dX8_sound_37 (by decide) ?_
      exact v_iret C dX8_sound_38 h
    · replace h := h.2 c20
      refine v_iload_n C dX8_sound_23 rfl ?_
      refine v_iload_n C dX8_sound_24 rfl ?_
      refine v_iconst C dX8_sound_25 (by decide) ?_
      refine v_iadd C dX8_sound_26 h.1 ?_
      replace h := h.2
      refine v_aload_n C dX8_sound_27 rfl ?_
      refine v_get C dX8_sound_28 flX8_64 rfl (by decide) (by decide) (w := .inl (M17 30 0 2)) rfl ?_
      refine v_invS C ctX8_isIn dX8_sound_31 ivX8_97 ⟨by decide, by decide, rfl, rfl⟩ ((x3, x2 + 1, M17 30 0 2) : Int × Int × Int) rfl (st := []) rfl (Nat.le_of_ble_eq_true rfl) h (fun o M31 oM31 io31 g31 => ?_)
      replace h := rI_out g31
      clear g31
      obtain ⟨r31, rfl, h⟩ := h
      refine v_push ?_
      refine v_if C dX8_sound_34 (tgt := 39) (by decide) (P := r31 ≠ 0) rfl (fun c34 => ?_) (fun c34 => ?_)
      · replace h := h.1 c34
        refine v_aload_n C dX8_sound_39 rfl ?_
        refine v_get C dX8_sound_40 flX8_71 rfl (by decide) (by decide) (w := .inl (M31 30 0 4)) rfl ?_
        refine v_bipush C dX8_sound_43 (by decide) (by decide) ?_
        refine v_icmp C dX8_sound_45 (tgt := 51) (by decide) (P := (M31 30 0 4) ≠ 12) rfl (fun c45 => ?_) (fun c45 => ?_)
        · replace h := h.1 c45
          refine v_aload_n C dX8_sound_51 rfl ?_
          refine v_get C dX8_sound_52 flX8_13 rfl (by decide) (by decide) (w := .inr (35, 0)) rfl ?_
          refine v_iconst C dX8_sound_55 (by decide) ?_
          refine v_aload_n C dX8_sound_56 rfl ?_
          refine v_get C dX8_sound_57 flX8_71 rfl (by decide) (by decide) (w := .inl (M31 30 0 4)) rfl ?_
          refine v_imul C dX8_sound_60 h.1 ?_
          replace h := h.2
          refine v_iload_n C dX8_sound_61 rfl ?_
          refine v_iast C dX8_sound_62 rfl h.1.1 h.1.2 ?_
          replace h := h.2
          refine v_nmM (fun M62 eM62 => ?_)
          replace h := h M62 eM62
          refine v_aload_n C dX8_sound_63 rfl ?_
          refine v_get C dX8_sound_64 flX8_13 rfl (by decide) (by decide) (w := .inr (35, 0)) rfl ?_
          refine v_iconst C dX8_sound_67 (by decide) ?_
          refine v_aload_n C dX8_sound_68 rfl ?_
          refine v_get C dX8_sound_69 flX8_71 rfl (by decide) (by decide) (w := .inl (M62 30 0 4)) rfl ?_
          refine v_imul C dX8_sound_72 h.1 ?_
          replace h := h.2
          refine v_iconst C dX8_sound_73 (by decide) ?_
          refine v_iadd C dX8_sound_74 h.1 ?_
          replace h := h.2
          refine v_iload_n C dX8_sound_75 rfl ?_
          refine v_iast C dX8_sound_76 rfl h.1.1 h.1.2 ?_
          replace h := h.2
          refine v_nmM (fun M76 eM76 => ?_)
          replace h := h M76 eM76
          refine v_aload_n C dX8_sound_77 rfl ?_
          refine v_get C dX8_sound_78 flX8_13 rfl (by decide) (by decide) (w := .inr (35, 0)) rfl ?_
          refine v_iconst C dX8_sound_81 (by decide) ?_
          refine v_aload_n C dX8_sound_82 rfl ?_
          refine v_get C dX8_sound_83 flX8_71 rfl (by decide) (by decide) (w := .inl (M76 30 0 4)) rfl ?_
          refine v_imul C dX8_sound_86 h.1 ?_
          replace h := h.2
          refine v_iconst C dX8_sound_87 (by decide) ?_
          refine v_iadd C dX8_sound_88 h.1 ?_
          replace h := h.2
          refine v_iload_n C dX8_sound_89 rfl ?_
          refine v_iast C dX8_sound_90 rfl h.1.1 h.1.2 ?_
          replace h := h.2
          refine v_nmM (fun M90 eM90 => ?_)
          replace h := h M90 eM90
          refine v_aload_n C dX8_sound_91 rfl ?_
          refine v_dup C dX8_sound_92 ?_
          refine v_get C dX8_sound_93 flX8_71 rfl (by decide) (by decide) (w := .inl (M90 30 0 4)) rfl ?_
          refine v_iconst C dX8_sound_96 (by decide) ?_
          refine v_iadd C dX8_sound_97 h.1 ?_
          replace h := h.2
          refine v_put C dX8_sound_98 plX8_71 rfl (by decide) (by decide) rfl rfl rfl ?_
          refine v_nmM (fun M98 eM98 => ?_)
          replace h := h M98 eM98
          refine v_aload_n C dX8_sound_101 rfl ?_
          refine v_invV C ctX8_hears dX8_sound_102 ivX8_137 ⟨by decide, by decide, rfl, rfl⟩ (() : Unit) (As := []) rfl rfl rfl (by decide) rfl (st := []) rfl (Nat.le_of_ble_eq_true rfl) h (fun o M102 oM102 io102 g102 => ?_)
          replace h := rV_out g102
          clear g102
          obtain ⟨rfl, h⟩ := h
          refine v_push0 ?_
          refine v_iconst C dX8_sound_105 (by decide) ?_
          refine v_istore C dX8_sound_106 (by decide) (Nat.le_of_ble_eq_true rfl) (lv' := [some (.inr (30, 0)), some (.inl x1), some (.inl x2), some (.inl x3), some (.inl 0)]) rfl ?_
          refine v_weak [some (.inr (30, 0)), none, none, none, some (.inl 0)] ⟨rfl, rfl, trivial⟩ ?_
          exact h
        · replace h := h.2 c45
          refine v_bipush C dX8_sound_48 (by decide) (by decide) ?_
          exact v_iret C dX8_sound_50 h
      · replace h := h.2 c34
        refine v_iconst C dX8_sound_37 (by decide) ?_
        exact v_iret C dX8_sound_38 h
set_option maxHeartbeats 4000000 in
set_option maxRecDepth 20000 in
theorem sgX8_sound_108 {κ : Kx} {K : Kont} {M : Mem} (C : Cx κ RX8 cX8_sound 5 (some .int) rmX8_sound domM) (x4 : Int)
    (h :
    (((M 30 0 6) ≤ x4 →
      K (some (M 30 0 4)) M) ∧
     (¬ ((M 30 0 6) ≤ x4) →
      (0 ≤ x4 ∧ x4 < 7) ∧
      (((M 46 0 x4) < 0 →
        inR (x4 + 1) ∧
        V κ 5 M 108 [some (.inr (30, 0)), none, none, none, some (.inl (x4 + 1))] [] K) ∧
       (¬ ((M 46 0 x4) < 0) →
        (0 ≤ x4 ∧ x4 < 7) ∧
        (0 ≤ x4 ∧ x4 < 7) ∧
        spX8_whyNot x4 (M 45 0 x4) (M 46 0 x4) M (rI (fun r144 M144 =>
        ((r144 ≤ 0 →
          inR (x4 + 1) ∧
          V κ 5 M144 108 [some (.inr (30, 0)), none, none, none, some (.inl (x4 + 1))] [] K) ∧
         (¬ (r144 ≤ 0) →
          (0 ≤ x4 ∧ x4 < 7) ∧
          ∀ M158 : Mem, M158 = up3 M144 46 0 x4 (-4) →
          (0 ≤ x4 ∧ x4 < 7) ∧
          ∀ M167 : Mem, M167 = up3 M158 45 0 x4 (-4) →
          V κ 5 M167 108 [some (.inr (30, 0)), none, none, none, some (.inl 0)] [] K))))))))) : V κ 5 M 108 [some (.inr (30, 0)), none, none, none, some (.inl x4)] [] K := by
  refine v_iload C dX8_sound_108 rfl ?_
  refine v_aload_n C dX8_sound_110 rfl ?_
  refine v_get C dX8_sound_111 flX8_74 rfl (by decide) (by decide) (w := .inl (M 30 0 6)) rfl ?_
  refine v_icmp C dX8_sound_114 (tgt := 180) (by decide) (P := (M 30 0 6) ≤ x4) rfl (fun c114 => ?_) (fun c114 => ?_)
  · replace h := h.1 c114
    refine v_aload_n C dX8_sound_180 rfl ?_
    refine v_get C dX8_sound_181 flX8_71 rfl (by decide) (by decide) (w := .inl (M 30 0 4)) rfl ?_
    exact v_iret C dX8_sound_184 h
  · replace h := h.2 c114
    refine v_aload_n C dX8_sound_117 rfl ?_
    refine v_get C dX8_sound_118 flX8_31 rfl (by decide) (by decide) (w := .inr (46, 0)) rfl ?_
    refine v_iload C dX8_sound_121 rfl ?_
    refine v_iald C dX8_sound_123 rfl h.1.1 h.1.2 ?_
    replace h := h.2
    refine v_if C dX8_sound_124 (tgt := 174) (by decide) (P := (M 46 0 x4) < 0) rfl (fun c124 => ?_) (fun c124 => ?_)
    · replace h := h.1 c124
      refine v_iinc C dX8_sound_174 (by decide) rfl h.1 (lv' := [some (.inr (30, 0)), none, none, none, some (.inl (x4 + 1))]) rfl ?_
      replace h := h.2
      refine v_goto C dX8_sound_177 (tgt := 108) (by decide) ?_
      refine v_weak [some (.inr (30, 0)), none, none, none, some (.inl (x4 + 1))] ⟨rfl, rfl, trivial⟩ ?_
      exact h
    · replace h := h.2 c124
      refine v_aload_n C dX8_sound_127 rfl ?_
      refine v_iload C dX8_sound_128 rfl ?_
      refine v_aload_n C dX8_sound_130 rfl ?_
      refine v_get C dX8_sound_131 flX8_28 rfl (by decide) (by decide) (w := .inr (45, 0)) rfl ?_
      refine v_iload C dX8_sound_134 rfl ?_
      refine v_iald C dX8_sound_136 rfl h.1.1 h.1.2 ?_
      replace h := h.2
      refine v_aload_n C dX8_sound_137 rfl ?_
      refine v_get C dX8_sound_138 flX8_31 rfl (by decide) (by decide) (w := .inr (46, 0)) rfl ?_
      refine v_iload C dX8_sound_141 rfl ?_
      refine v_iald C dX8_sound_143 rfl h.1.1 h.1.2 ?_
      replace h := h.2
      refine v_invV C ctX8_whyNot dX8_sound_144 ivX8_140 ⟨by decide, by decide, rfl, rfl⟩ ((x4, M 45 0 x4, M 46 0 x4) : Int × Int × Int) (As := [.inl x4, .inl (M 45 0 x4), .inl (M 46 0 x4)]) rfl rfl rfl (by decide) rfl (st := []) rfl (Nat.le_of_ble_eq_true rfl) h (fun o M144 oM144 io144 g144 => ?_)
      replace h := rI_out g144
      clear g144
      obtain ⟨r144, rfl, h⟩ := h
      refine v_push ?_
      refine v_if C dX8_sound_147 (tgt := 174) (by decide) (P := r144 ≤ 0) rfl (fun c147 => ?_) (fun c147 => ?_)
      · replace h := h.1 c147
        refine v_iinc C dX8_sound_174 (by decide) rfl h.1 (lv' := [some (.inr (30, 0)), none, none, none, some (.inl (x4 + 1))]) rfl ?_
        replace h := h.2
        refine v_goto C dX8_sound_177 (tgt := 108) (by decide) ?_
        refine v_weak [some (.inr (30, 0)), none, none, none, some (.inl (x4 + 1))] ⟨rfl, rfl, trivial⟩ ?_
        exact h
      · replace h := h.2 c147
        refine v_aload_n C dX8_sound_150 rfl ?_
        refine v_get C dX8_sound_151 flX8_31 rfl (by decide) (by decide) (w := .inr (46, 0)) rfl ?_
        refine v_iload C dX8_sound_154 rfl ?_
        refine v_bipush C dX8_sound_156 (by decide) (by decide) ?_
        refine v_iast C dX8_sound_158 rfl h.1.1 h.1.2 ?_
        replace h := h.2
        refine v_nmM (fun M158 eM158 => ?_)
        replace h := h M158 eM158
        refine v_aload_n C dX8_sound_159 rfl ?_
        refine v_get C dX8_sound_160 flX8_28 rfl (by decide) (by decide) (w := .inr (45, 0)) rfl ?_
        refine v_iload C dX8_sound_163 rfl ?_
        refine v_bipush C dX8_sound_165 (by decide) (by decide) ?_
        refine v_iast C dX8_sound_167 rfl h.1.1 h.1.2 ?_
        replace h := h.2
        refine v_nmM (fun M167 eM167 => ?_)
        replace h := h M167 eM167
        refine v_iconst C dX8_sound_168 (by decide) ?_
        refine v_istore C dX8_sound_169 (by decide) (Nat.le_of_ble_eq_true rfl) (lv' := [some (.inr (30, 0)), none, none, none, some (.inl 0)]) rfl ?_
        refine v_goto C dX8_sound_171 (tgt := 108) (by decide) ?_
        refine v_weak [some (.inr (30, 0)), none, none, none, some (.inl 0)] ⟨rfl, rfl, trivial⟩ ?_
        exact h
abbrev spX8_sound (k x y : Int) (M : Mem) (K : Kont) : Prop := InvM M ∧ (¬ sndK (mFilm M) k x y → K (some (-1)) M) ∧ (sndK (mFilm M) k x y → 12 ≤ mFilm M 2 0 0 → K (some (-3)) M) ∧
  (sndK (mFilm M) k x y → mFilm M 2 0 0 < 12 → ∀ M', InvM M' → ChM M M' (sFS (mFilm M) k x y) (sndP (mFilm M) k x y (M 45 0) (M 46 0)).1 (sndP (mFilm M) k x y (M 45 0) (M 46 0)).2 → K (some (mFilm M 2 0 0 + 1)) M')
theorem lowF_at {F : Film} {S ver sta : Int → Int} {p : Int} {n : Nat} (h : ver p ≠ -4 ∧ whyW F S ver sta p (ver p) (sta p) ≠ 0) : lowF F S ver sta (n + 1) p = p := if_pos h
theorem lowF_go {F : Film} {S ver sta : Int → Int} {p : Int} {n : Nat} (h : ¬ (ver p ≠ -4 ∧ whyW F S ver sta p (ver p) (sta p) ≠ 0)) : lowF F S ver sta (n + 1) p = lowF F S ver sta n (p + 1) := if_neg h
theorem szN_pos {ver : Int → Int} {n : Nat} {p : Int} (h0 : 0 ≤ p) (h1 : p < n) (hv : ver p ≠ -4) : 1 ≤ szN ver n := by
  have := szN_off h0 hv h1
  have r := szN_rng (offP ver p) n
  omega
theorem dfN_end {F : Film} {S ver sta : Int → Int} (h : lowF F S ver sta (F 3 0 0).toNat 0 = -4) : ∀ n : Nat, dfN F S n ver sta = (ver, sta) := by
  intro n
  cases n with
  | zero => rfl
  | succ n => unfold dfN; rw [if_pos h]
theorem ctX8_sound : CtX8_sound spX8_sound := by
  refine ct_of (by decide) dmM (fun _ => Nat.le_of_ble_eq_true rfl) ?_
  intro κ a M K C oM h
  obtain ⟨k, x, y⟩ := a
  dsimp only [spX8_sound] at h
  obtain ⟨hI, k1, k2, k3⟩ := h
  have hf0 := hI.2.1
  have n2 := hf0.2.2.1
  have n3 := hf0.2.2.2.1
  have h0 := hf0.1
  have e2 : mFilm M 2 0 0 = M 30 0 4 := rfl
  have e0 : mFilm M 0 0 0 = M 30 0 2 := rfl
  have e3 : mFilm M 3 0 0 = M 30 0 6 := rfl
  refine sgX8_sound_0 C k x y ⟨fun c => k1 (fun z => if10n c (by omega)), fun c => ?_⟩
  have c1 := if10 c
  refine ⟨by omega, fun c2 => k1 (fun z => if10n c2 (by omega)), fun c2 => ?_⟩
  have c3 := if10 c2
  refine ⟨by omega, fun c4 => ?_, fun c4 => k1 (fun z => if10n (by omega) (by omega))⟩
  have c5 : x + 1 ≤ y ∧ y ≤ M 30 0 2 := if10 c4
  have sk : sndK (mFilm M) k x y := by refine ⟨?_, ?_, ?_, ?_⟩ <;> omega
  refine ⟨fun c6 => ?_, fun c6 => k2 sk (by omega)⟩
  refine ⟨by omega, by omega, fun N1 e1 => ?_⟩
  have n14 : N1 30 0 4 = M 30 0 4 := by rw [e1, up3_r _ _ _ _ _ (by decide)]
  rw [n14]
  refine ⟨by omega, by omega, by omega, fun N2 e2' => ?_⟩
  have n24 : N2 30 0 4 = M 30 0 4 := by rw [e2', up3_r _ _ _ _ _ (by decide), n14]
  rw [n24]
  refine ⟨by omega, by omega, by omega, fun N3 e3' => ?_⟩
  have n34 : N3 30 0 4 = M 30 0 4 := by rw [e3', up3_r _ _ _ _ _ (by decide), n24]
  rw [n34]
  refine ⟨by omega, fun N4 e4 => ?_⟩
  have v : ∀ j, N4 35 0 j = if j = 3 * M 30 0 4 + 2 then y else if j = 3 * M 30 0 4 + 1 then x else if j = 3 * M 30 0 4 then k else M 35 0 j := by
    intro j
    rw [e4, up3_r _ _ _ _ _ (by decide), e3']
    by_cases a : j = 3 * M 30 0 4 + 2
    · rw [if_pos a, a, up3_s]
    · rw [if_neg a, up3_j _ _ _ _ _ a, e2']
      by_cases b : j = 3 * M 30 0 4 + 1
      · rw [if_pos b, b, up3_s]
      · rw [if_neg b, up3_j _ _ _ _ _ b, e1]
        by_cases d : j = 3 * M 30 0 4
        · rw [if_pos d, d, up3_s]
        · rw [if_neg d, up3_j _ _ _ _ _ d]
  have o : ∀ r i j, ¬ (r = 30 ∧ j = 4) → r ≠ 35 → N4 r i j = M r i j := fun r i j a b => by rw [e4, show up3 N3 30 0 4 _ r i j = N3 r i j from if_neg (fun z => a ⟨z.1, z.2.2⟩), e3', up3_r _ _ _ _ _ b, e2', up3_r _ _ _ _ _ b, e1, up3_r _ _ _ _ _ b]
  have o4 : N4 30 0 4 = M 30 0 4 + 1 := by rw [e4, up3_s]
  have o37 : N4 37 0 = M 37 0 := by funext j; exact o 37 0 j (by omega) (by decide)
  have o38 : N4 38 0 = M 38 0 := by funext j; exact o 38 0 j (by omega) (by decide)
  have hw := wf_S hf0 (k := k) (x := x) (y := y) (by omega) (by omega) (by omega) (by omega) (by omega)
  have hg : FEq (sFS (mFilm M) k x y) (mFilm N4) := by
    refine ⟨?_, ?_, ?_, ?_, fun w a b => ?_, fun s a b => ?_, fun p a b => ?_⟩
    · simp [sFS, mFilm, o 30 0 2 (by omega) (by decide)]
    · simp [sFS, mFilm, o 30 0 3 (by omega) (by decide)]
    · simp [sFS, mFilm, o4]
    · simp [sFS, mFilm, o 30 0 6 (by omega) (by decide)]
    · simp [sFS, mFilm, o38]
    · have b' : s < M 30 0 4 + 1 := by simpa [sFS, mFilm] using b
      show _ = N4 35 0 (3 * s) ∧ _ = N4 35 0 (3 * s + 1) ∧ _ = N4 35 0 (3 * s + 2)
      rw [v, v, v]
      by_cases es : s = M 30 0 4
      · have es' : s = mFilm M 2 0 0 := es
        rw [if_neg (by omega), if_neg (by omega), if_pos (by omega), if_neg (by omega), if_pos (by omega), if_pos (by omega)]
        unfold sFS
        rw [if_neg (by decide), if_pos ⟨rfl, es'⟩, if_neg (by decide), if_neg (by omega), if_pos ⟨rfl, es'⟩, if_neg (by decide), if_neg (by omega), if_neg (by omega), if_pos ⟨rfl, es'⟩]
        exact ⟨rfl, rfl, rfl⟩
      · have es' : ¬ s = mFilm M 2 0 0 := es
        rw [if_neg (by omega), if_neg (by omega), if_neg (by omega), if_neg (by omega), if_neg (by omega), if_neg (by omega), if_neg (by omega), if_neg (by omega), if_neg (by omega)]
        simp [sFS, es']
        exact ⟨rfl, rfl, rfl⟩
    · simp [sFS, mFilm, o37]
  have hw4 := hg.wf hw
  refine ⟨hw4, fun N5 hA hH => ?_⟩
  have f5 : mFilm N5 = mFilm N4 := hA.film
  have g5 : ∀ r i j, ¬ (r = 30 ∧ j = 4) → r ≠ 35 → r ≠ 52 → N5 r i j = M r i j := fun r i j a b c => by rw [hA r c]; exact o r i j a b
  have f5' : FEq (sFS (mFilm M) k x y) (mFilm N5) := by rw [f5]; exact hg
  have hw5 : WFf (mFilm N5) := by rw [f5]; exact hw4
  have n54 : N5 30 0 4 = M 30 0 4 + 1 := by rw [hA 30 (by decide), o4]
  have p45 : N5 45 0 = M 45 0 := by funext j; exact g5 45 0 j (by omega) (by decide) (by decide)
  have p46 : N5 46 0 = M 46 0 := by funext j; exact g5 46 0 j (by omega) (by decide) (by decide)
  have P0 : PlK (mFilm N5) (M 45 0) (M 46 0) := PlK_c hw f5' PlEq.rfl' (PlK_mono (by simp [sFS]) (by simp [sFS]) (fun p _ _ => by simp [sFS]) hI.2.2)
  -- what is taken off
  have main : ∀ (n : Nat) (ver sta : Int → Int), szN ver (mFilm N5 3 0 0).toNat ≤ n → PlK (mFilm N5) ver sta → dfN (mFilm N5) (spb (mFilm N5)) n ver sta = dfN (mFilm N5) (spb (mFilm N5)) 7 (M 45 0) (M 46 0) → ∀ (m : Nat) (p : Int) (N : Mem), 0 ≤ p → p + m = mFilm N5 3 0 0 → (∀ r i, r ≠ 45 → r ≠ 46 → N r i = N5 r i) → N 45 0 = ver → N 46 0 = sta → lowF (mFilm N5) (spb (mFilm N5)) ver sta (mFilm N5 3 0 0).toNat 0 = lowF (mFilm N5) (spb (mFilm N5)) ver sta m p →
      V κ 5 N 108 [some (.inr (30, 0)), none, none, none, some (.inl p)] [] K := by
    intro n
    induction n with
    | zero =>
      intro ver sta hsz hP hd m
      have n53 := hw5.2.2.2.1
      have no : ∀ q, 0 ≤ q → q < mFilm N5 3 0 0 → ver q = -4 := fun q a b => szN_0 _ hsz q a (by omega)
      induction m with
      | zero =>
        intro p N p0 hn hA2 e45 e46 hl
        have e30 : N 30 0 = N5 30 0 := hA2 30 0 (by decide) (by decide)
        have fN : mFilm N = mFilm N5 := mFilm_eq (fun j _ => by rw [e30]) (fun r hr => hA2 r 0 (by omega) (by omega))
        have e36 : mFilm N5 3 0 0 = N5 30 0 6 := rfl
        refine sgX8_sound_108 C p ⟨fun _ => ?_, fun c => absurd (by rw [e30]; omega) c⟩
        rw [show N 30 0 4 = mFilm M 2 0 0 + 1 by rw [e30, n54]; rfl]
        refine k3 sk (by omega) N ⟨by rw [e30, g5 30 0 0 (by omega) (by decide) (by decide)]; exact hI.1, by rw [fN]; exact hw5, by rw [fN, e45, e46]; exact hP⟩ ⟨fun r a => by funext i j; rw [hA2 r i (by omega) (by omega), g5 r i j (by omega) (by omega) (by omega)], by rw [e30, g5 30 0 0 (by omega) (by decide) (by decide)], by funext j; rw [hA2 31 0 (by decide) (by decide), g5 31 0 j (by omega) (by decide) (by decide)], by rw [fN]; exact f5', ?_⟩
        have dc := dfN_c hw f5' (fun t _ _ => spb_c hw f5' t) 7 (M 45 0) (M 46 0) (M 45 0) (M 46 0) (PlK_mono (by simp [sFS]) (by simp [sFS]) (fun p _ _ => by simp [sFS]) hI.2.2) PlEq.rfl'
        rw [e45, e46]
        have := dc.1
        rw [← hd] at this
        exact this
      | succ m ih =>
        intro p N p0 hn hA2 e45 e46 hl
        have e30 : N 30 0 = N5 30 0 := hA2 30 0 (by decide) (by decide)
        have e36 : mFilm N5 3 0 0 = N5 30 0 6 := rfl
        have st := hP.sta p0 (by omega)
        have z := no p p0 (by omega)
        refine sgX8_sound_108 C p ⟨fun c => absurd c (by rw [e30]; omega), fun _ => ⟨by omega, fun c2 => ⟨by omega, ih (p + 1) N (by omega) (by omega) hA2 e45 e46 ?_⟩, fun c2 => absurd (by rw [e46]; omega) c2⟩⟩
        rw [hl, lowF_go (fun u => u.1 z)]
    | succ n ihn =>
      intro ver sta hsz hP hd m
      have n53 := hw5.2.2.2.1
      induction m with
      | zero =>
        intro p N p0 hn hA2 e45 e46 hl
        have e30 : N 30 0 = N5 30 0 := hA2 30 0 (by decide) (by decide)
        have fN : mFilm N = mFilm N5 := mFilm_eq (fun j _ => by rw [e30]) (fun r hr => hA2 r 0 (by omega) (by omega))
        have e36 : mFilm N5 3 0 0 = N5 30 0 6 := rfl
        refine sgX8_sound_108 C p ⟨fun _ => ?_, fun c => absurd (by rw [e30]; omega) c⟩
        rw [show N 30 0 4 = mFilm M 2 0 0 + 1 by rw [e30, n54]; rfl]
        refine k3 sk (by omega) N ⟨by rw [e30, g5 30 0 0 (by omega) (by decide) (by decide)]; exact hI.1, by rw [fN]; exact hw5, by rw [fN, e45, e46]; exact hP⟩ ⟨fun r a => by funext i j; rw [hA2 r i (by omega) (by omega), g5 r i j (by omega) (by omega) (by omega)], by rw [e30, g5 30 0 0 (by omega) (by decide) (by decide)], by funext j; rw [hA2 31 0 (by decide) (by decide), g5 31 0 j (by omega) (by decide) (by decide)], by rw [fN]; exact f5', ?_⟩
        have dc := dfN_c hw f5' (fun t _ _ => spb_c hw f5' t) 7 (M 45 0) (M 46 0) (M 45 0) (M 46 0) (PlK_mono (by simp [sFS]) (by simp [sFS]) (fun p _ _ => by simp [sFS]) hI.2.2) PlEq.rfl'
        rw [e45, e46]
        have := dc.1
        have de := dfN_end (F := mFilm N5) (S := spb (mFilm N5)) (ver := ver) (sta := sta) (by rw [hl]; rfl) (n + 1)
        rw [← hd, de] at this
        exact this
      | succ m ih =>
        intro p N p0 hn hA2 e45 e46 hl
        have e30 : N 30 0 = N5 30 0 := hA2 30 0 (by decide) (by decide)
        have fN : mFilm N = mFilm N5 := mFilm_eq (fun j _ => by rw [e30]) (fun r hr => hA2 r 0 (by omega) (by omega))
        have e36 : mFilm N5 3 0 0 = N5 30 0 6 := rfl
        have st := hP.sta p0 (by omega)
        refine sgX8_sound_108 C p ⟨fun c => absurd c (by rw [e30]; omega), fun _ => ⟨by omega, fun c2 => ⟨by omega, ih (p + 1) N (by omega) (by omega) hA2 e45 e46 ?_⟩, fun c2 => ?_⟩⟩
        · rw [e46] at c2
          rw [hl, lowF_go (fun u => u.1 (by omega))]
        · rw [e46] at c2
          have nv : ver p ≠ -4 := by omega
          have tl := hP.tell hw5 p0 (by omega) nv
          have nn := why_nn (mFilm N5) (spb (mFilm N5)) ver sta p (ver p) (sta p)
          rw [e45, e46]
          refine ⟨by omega, by omega, ⟨by rw [fN]; exact hw5, ?_, by rw [fN, e45, e46]; exact hP, by rw [fN]; exact tl.1⟩, ?_, ?_⟩
          · rw [fN]
            intro u a b
            rw [hA2 52 0 (by decide) (by decide)]
            have := hH u a b
            rw [f5]
            exact this
          · rw [fN, e45, e46]
            intro c3
            refine ⟨by omega, ih (p + 1) N (by omega) (by omega) hA2 e45 e46 ?_⟩
            rw [hl, lowF_go (fun u => u.2 (by omega))]
          · rw [fN, e45, e46]
            intro c3
            refine ⟨by omega, fun N6 e6 => ⟨by omega, fun N7 e7 => ?_⟩⟩
            have la : lowF (mFilm N5) (spb (mFilm N5)) ver sta (mFilm N5 3 0 0).toNat 0 = p := by rw [hl]; exact lowF_at ⟨nv, by omega⟩
            have v45 : N7 45 0 = offP ver p := by
              rw [← e45]
              funext q
              unfold offP
              by_cases e : q = p
              · rw [if_pos e, e, e7, up3_s]
              · rw [if_neg e, e7, up3_j _ _ _ _ _ e, e6, up3_r _ _ _ _ _ (by decide)]
            have v46 : N7 46 0 = offP sta p := by
              rw [← e46]
              funext q
              unfold offP
              rw [e7, up3_r _ _ _ _ _ (by decide), e6]
              by_cases e : q = p
              · rw [if_pos e, e, up3_s]
              · rw [if_neg e, up3_j _ _ _ _ _ e]
            have so := szN_off p0 nv (n := (mFilm N5 3 0 0).toNat) (by omega)
            refine ihn (offP ver p) (offP sta p) (by omega) (PlK_off hP p) ?_ (mFilm N5 3 0 0).toNat 0 N7 (by omega) (by omega) (fun r i a b => by funext j; rw [e7, up3_r _ _ _ _ _ a, e6, up3_r _ _ _ _ _ b, hA2 r i a b]) v45 v46 rfl
            rw [← hd]
            conv => rhs; unfold dfN
            rw [if_neg (by rw [la]; omega), la]
  exact main 7 (M 45 0) (M 46 0) (szN_le7 hw5 _) P0 rfl (mFilm N5 3 0 0).toNat 0 N5 (by omega) (by have := hw5.2.2.2.1; omega) (fun _ _ _ _ => rfl) p45 p46 rfl
