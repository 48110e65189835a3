/-! ===== TextReader: pictures, items, texts ===== -/
/-! ===== GapTellings$TextReader.isPicture ===== -/
abbrev rmX5_isPicture : Room := { frames := 1, cells := 0, slots := 0, locals := 21 }
abbrev argX5_isPicture (a : Int) : List PV := [.inr (2, 0), .inr (5, a)]
abbrev CtX5_isPicture (sp : Int → Mem → Kont → Prop) : Prop := Ct yX5_isPicture cX5_isPicture 3 (some .boolean) rmX5_isPicture domC argX5_isPicture (fun a => sp a)
theorem dX5_isPicture_0 : decode cX5_isPicture 0 = .ok (.aload_n 0, 1) := by decide +kernel
theorem dX5_isPicture_1 : decode cX5_isPicture 1 = .ok (.getfield 39, 3) := by decide +kernel
theorem dX5_isPicture_4 : decode cX5_isPicture 4 = .ok (.iconst 5, 1) := by decide +kernel
theorem dX5_isPicture_5 : decode cX5_isPicture 5 = .ok (.if_icmp .lt 54, 3) := by decide +kernel
theorem dX5_isPicture_8 : decode cX5_isPicture 8 = .ok (.aload_n 0, 1) := by decide +kernel
theorem dX5_isPicture_9 : decode cX5_isPicture 9 = .ok (.getfield 39, 3) := by decide +kernel
theorem dX5_isPicture_12 : decode cX5_isPicture 12 = .ok (.iconst 2, 1) := by decide +kernel
theorem dX5_isPicture_13 : decode cX5_isPicture 13 = .ok (.irem, 1) := by decide +kernel
theorem dX5_isPicture_14 : decode cX5_isPicture 14 = .ok (.ifCond .eq 45, 3) := by decide +kernel
theorem dX5_isPicture_17 : decode cX5_isPicture 17 = .ok (.aload_n 0, 1) := by decide +kernel
theorem dX5_isPicture_18 : decode cX5_isPicture 18 = .ok (.invokevirtual 96, 3) := by decide +kernel
theorem dX5_isPicture_21 : decode cX5_isPicture 21 = .ok (.ifCond .eq 38, 3) := by decide +kernel
theorem dX5_isPicture_24 : decode cX5_isPicture 24 = .ok (.aload_n 0, 1) := by decide +kernel
theorem dX5_isPicture_25 : decode cX5_isPicture 25 = .ok (.getfield 9, 3) := by decide +kernel
theorem dX5_isPicture_28 : decode cX5_isPicture 28 = .ok (.iconst 0, 1) := by decide +kernel
theorem dX5_isPicture_29 : decode cX5_isPicture 29 = .ok (.iaload, 1) := by decide +kernel
theorem dX5_isPicture_30 : decode cX5_isPicture 30 = .ok (.aload_n 1, 1) := by decide +kernel
theorem dX5_isPicture_31 : decode cX5_isPicture 31 = .ok (.getfield 46, 3) := by decide +kernel
theorem dX5_isPicture_34 : decode cX5_isPicture 34 = .ok (.if_icmp .ge 25, 3) := by decide +kernel
theorem dX5_isPicture_37 : decode cX5_isPicture 37 = .ok (.aload_n 0, 1) := by decide +kernel
theorem dX5_isPicture_38 : decode cX5_isPicture 38 = .ok (.getfield 9, 3) := by decide +kernel
theorem dX5_isPicture_41 : decode cX5_isPicture 41 = .ok (.iconst 1, 1) := by decide +kernel
theorem dX5_isPicture_42 : decode cX5_isPicture 42 = .ok (.iaload, 1) := by decide +kernel
theorem dX5_isPicture_43 : decode cX5_isPicture 43 = .ok (.bipush 20, 2) := by decide +kernel
theorem dX5_isPicture_45 : decode cX5_isPicture 45 = .ok (.if_icmp .gt 14, 3) := by decide +kernel
theorem dX5_isPicture_48 : decode cX5_isPicture 48 = .ok (.aload_n 0, 1) := by decide +kernel
theorem dX5_isPicture_49 : decode cX5_isPicture 49 = .ok (.getfield 9, 3) := by decide +kernel
theorem dX5_isPicture_52 : decode cX5_isPicture 52 = .ok (.iconst 2, 1) := by decide +kernel
theorem dX5_isPicture_53 : decode cX5_isPicture 53 = .ok (.iaload, 1) := by decide +kernel
theorem dX5_isPicture_54 : decode cX5_isPicture 54 = .ok (.bipush 20, 2) := by decide +kernel
theorem dX5_isPicture_56 : decode cX5_isPicture 56 = .ok (.if_icmp .le 5, 3) := by decide +kernel
theorem dX5_isPicture_59 : decode cX5_isPicture 59 = .ok (.iconst 0, 1) := by decide +kernel
theorem dX5_isPicture_60 : decode cX5_isPicture 60 = .ok (.ireturn, 1) := by decide +kernel
theorem dX5_isPicture_61 : decode cX5_isPicture 61 = .ok (.iconst 3, 1) := by decide +kernel
theorem dX5_isPicture_62 : decode cX5_isPicture 62 = .ok (.istore_n 2, 1) := by decide +kernel
theorem dX5_isPicture_63 : decode cX5_isPicture 63 = .ok (.iload_n 2, 1) := by decide +kernel
theorem dX5_isPicture_64 : decode cX5_isPicture 64 = .ok (.iconst 1, 1) := by decide +kernel
theorem dX5_isPicture_65 : decode cX5_isPicture 65 = .ok (.iadd, 1) := by decide +kernel
theorem dX5_isPicture_66 : decode cX5_isPicture 66 = .ok (.aload_n 0, 1) := by decide +kernel
theorem dX5_isPicture_67 : decode cX5_isPicture 67 = .ok (.getfield 39, 3) := by decide +kernel
theorem dX5_isPicture_70 : decode cX5_isPicture 70 = .ok (.if_icmp .ge 57, 3) := by decide +kernel
theorem dX5_isPicture_73 : decode cX5_isPicture 73 = .ok (.aload_n 0, 1) := by decide +kernel
theorem dX5_isPicture_74 : decode cX5_isPicture 74 = .ok (.getfield 9, 3) := by decide +kernel
theorem dX5_isPicture_77 : decode cX5_isPicture 77 = .ok (.iload_n 2, 1) := by decide +kernel
theorem dX5_isPicture_78 : decode cX5_isPicture 78 = .ok (.iaload, 1) := by decide +kernel
theorem dX5_isPicture_79 : decode cX5_isPicture 79 = .ok (.iconst 1, 1) := by decide +kernel
theorem dX5_isPicture_80 : decode cX5_isPicture 80 = .ok (.if_icmp .lt 39, 3) := by decide +kernel
theorem dX5_isPicture_83 : decode cX5_isPicture 83 = .ok (.aload_n 0, 1) := by decide +kernel
theorem dX5_isPicture_84 : decode cX5_isPicture 84 = .ok (.getfield 9, 3) := by decide +kernel
theorem dX5_isPicture_87 : decode cX5_isPicture 87 = .ok (.iload_n 2, 1) := by decide +kernel
theorem dX5_isPicture_88 : decode cX5_isPicture 88 = .ok (.iaload, 1) := by decide +kernel
theorem dX5_isPicture_89 : decode cX5_isPicture 89 = .ok (.bipush 30, 2) := by decide +kernel
theorem dX5_isPicture_91 : decode cX5_isPicture 91 = .ok (.if_icmp .gt 28, 3) := by decide +kernel
theorem dX5_isPicture_94 : decode cX5_isPicture 94 = .ok (.aload_n 0, 1) := by decide +kernel
theorem dX5_isPicture_95 : decode cX5_isPicture 95 = .ok (.getfield 9, 3) := by decide +kernel
theorem dX5_isPicture_98 : decode cX5_isPicture 98 = .ok (.iload_n 2, 1) := by decide +kernel
theorem dX5_isPicture_99 : decode cX5_isPicture 99 = .ok (.iconst 1, 1) := by decide +kernel
theorem dX5_isPicture_100 : decode cX5_isPicture 100 = .ok (.iadd, 1) := by decide +kernel
theorem dX5_isPicture_101 : decode cX5_isPicture 101 = .ok (.iaload, 1) := by decide +kernel
theorem dX5_isPicture_102 : decode cX5_isPicture 102 = .ok (.iconst 1, 1) := by decide +kernel
theorem dX5_isPicture_103 : decode cX5_isPicture 103 = .ok (.if_icmp .lt 16, 3) := by decide +kernel
theorem dX5_isPicture_106 : decode cX5_isPicture 106 = .ok (.aload_n 0, 1) := by decide +kernel
theorem dX5_isPicture_107 : decode cX5_isPicture 107 = .ok (.getfield 9, 3) := by decide +kernel
theorem dX5_isPicture_110 : decode cX5_isPicture 110 = .ok (.iload_n 2, 1) := by decide +kernel
theorem dX5_isPicture_111 : decode cX5_isPicture 111 = .ok (.iconst 1, 1) := by decide +kernel
theorem dX5_isPicture_112 : decode cX5_isPicture 112 = .ok (.iadd, 1) := by decide +kernel
theorem dX5_isPicture_113 : decode cX5_isPicture 113 = .ok (.iaload, 1) := by decide +kernel
theorem dX5_isPicture_114 : decode cX5_isPicture 114 = .ok (.bipush 99, 2) := by decide +kernel
theorem dX5_isPicture_116 : decode cX5_isPicture 116 = .ok (.if_icmp .le 5, 3) := by decide +kernel
theorem dX5_isPicture_119 : decode cX5_isPicture 119 = .ok (.iconst 0, 1) := by decide +kernel
theorem dX5_isPicture_120 : decode cX5_isPicture 120 = .ok (.ireturn, 1) := by decide +kernel
theorem dX5_isPicture_121 : decode cX5_isPicture 121 = .ok (.iinc 2 2, 3) := by decide +kernel
theorem dX5_isPicture_124 : decode cX5_isPicture 124 = .ok (.goto (-61), 3) := by decide +kernel
theorem dX5_isPicture_127 : decode cX5_isPicture 127 = .ok (.iconst 1, 1) := by decide +kernel
theorem dX5_isPicture_128 : decode cX5_isPicture 128 = .ok (.ireturn, 1) := by decide +kernel
set_option maxHeartbeats 4000000 in
set_option maxRecDepth 20000 in
theorem sgX5_isPicture_0 {κ : Kx} {K : Kont} {M : Mem} (C : Cx κ RX5 cX5_isPicture 3 (some .boolean) rmX5_isPicture domC) (i1 : Int)
    (h :
    (((M 2 0 2) < 5 →
      K (some 0) M) ∧
     (¬ ((M 2 0 2) < 5) →
      0 ≤ (M 2 0 2) ∧
      ((((M 2 0 2) % 2) = 0 →
        K (some 0) M) ∧
       (¬ (((M 2 0 2) % 2) = 0) →
        spX5_allShort M (rI (fun r18 M18 =>
        ((r18 = 0 →
          K (some 0) M18) ∧
         (¬ (r18 = 0) →
          (((M18 5 i1 0) ≤ (M18 3 0 0) →
            K (some 0) M18) ∧
           (¬ ((M18 5 i1 0) ≤ (M18 3 0 0)) →
            ((20 < (M18 3 0 1) →
              K (some 0) M18) ∧
             (¬ (20 < (M18 3 0 1)) →
              (((M18 3 0 2) ≤ 20 →
                V κ 3 M18 63 [some (.inr (2, 0)), none, some (.inl 3)] [] K) ∧
               (¬ ((M18 3 0 2) ≤ 20) →
                K (some 0) M18))))))))))))))) : V κ 3 M 0 [some (.inr (2, 0)), some (.inr (5, i1)), none] [] K := by
  refine v_aload_n C dX5_isPicture_0 rfl ?_
  refine v_get C dX5_isPicture_1 flX5_39 rfl (by decide) (by decide) (w := .inl (M 2 0 2)) rfl ?_
  refine v_iconst C dX5_isPicture_4 (by decide) ?_
  refine v_icmp C dX5_isPicture_5 (tgt := 59) (by decide) (P := (M 2 0 2) < 5) rfl (fun c5 => ?_) (fun c5 => ?_)
  · replace h := h.1 c5
    refine v_iconst C dX5_isPicture_59 (by decide) ?_
    exact v_zret C dX5_isPicture_60 (by decide) h
  · replace h := h.2 c5
    refine v_aload_n C dX5_isPicture_8 rfl ?_
    refine v_get C dX5_isPicture_9 flX5_39 rfl (by decide) (by decide) (w := .inl (M 2 0 2)) rfl ?_
    refine v_iconst C dX5_isPicture_12 (by decide) ?_
    refine v_irem C dX5_isPicture_13 h.1 (by decide) ?_
    replace h := h.2
    refine v_if C dX5_isPicture_14 (tgt := 59) (by decide) (P := ((M 2 0 2) % 2) = 0) rfl (fun c14 => ?_) (fun c14 => ?_)
    · replace h := h.1 c14
      refine v_iconst C dX5_isPicture_59 (by decide) ?_
      exact v_zret C dX5_isPicture_60 (by decide) h
    · replace h := h.2 c14
      refine v_aload_n C dX5_isPicture_17 rfl ?_
      refine v_invV C ctX5_allShort dX5_isPicture_18 ivX5_96 ⟨by decide, by decide, rfl, rfl⟩ (() : Unit) (As := []) rfl rfl rfl (by decide) rfl (st := []) rfl (Nat.le_of_ble_eq_true rfl) h (fun o M18 oM18 io18 h => ?_)
      obtain ⟨r18, rfl, h⟩ := rI_out h
      refine v_push ?_
      refine v_if C dX5_isPicture_21 (tgt := 59) (by decide) (P := r18 = 0) rfl (fun c21 => ?_) (fun c21 => ?_)
      · replace h := h.1 c21
        refine v_iconst C dX5_isPicture_59 (by decide) ?_
        exact v_zret C dX5_isPicture_60 (by decide) h
      · replace h := h.2 c21
        refine v_aload_n C dX5_isPicture_24 rfl ?_
        refine v_get C dX5_isPicture_25 flX5_9 rfl (by decide) (by decide) (w := .inr (3, 0)) rfl ?_
        refine v_iconst C dX5_isPicture_28 (by decide) ?_
        refine v_iald C dX5_isPicture_29 rfl (by decide) (by decide) ?_
        refine v_aload_n C dX5_isPicture_30 rfl ?_
        refine v_get C dX5_isPicture_31 flX5_46 rfl (by decide) (by decide) (w := .inl (M18 5 i1 0)) rfl ?_
        refine v_icmp C dX5_isPicture_34 (tgt := 59) (by decide) (P := (M18 5 i1 0) ≤ (M18 3 0 0)) rfl (fun c34 => ?_) (fun c34 => ?_)
        · replace h := h.1 c34
          refine v_iconst C dX5_isPicture_59 (by decide) ?_
          exact v_zret C dX5_isPicture_60 (by decide) h
        · replace h := h.2 c34
          refine v_aload_n C dX5_isPicture_37 rfl ?_
          refine v_get C dX5_isPicture_38 flX5_9 rfl (by decide) (by decide) (w := .inr (3, 0)) rfl ?_
          refine v_iconst C dX5_isPicture_41 (by decide) ?_
          refine v_iald C dX5_isPicture_42 rfl (by decide) (by decide) ?_
          refine v_bipush C dX5_isPicture_43 (by decide) (by decide) ?_
          refine v_icmp C dX5_isPicture_45 (tgt := 59) (by decide) (P := 20 < (M18 3 0 1)) rfl (fun c45 => ?_) (fun c45 => ?_)
          · replace h := h.1 c45
            refine v_iconst C dX5_isPicture_59 (by decide) ?_
            exact v_zret C dX5_isPicture_60 (by decide) h
          · replace h := h.2 c45
            refine v_aload_n C dX5_isPicture_48 rfl ?_
            refine v_get C dX5_isPicture_49 flX5_9 rfl (by decide) (by decide) (w := .inr (3, 0)) rfl ?_
            refine v_iconst C dX5_isPicture_52 (by decide) ?_
            refine v_iald C dX5_isPicture_53 rfl (by decide) (by decide) ?_
            refine v_bipush C dX5_isPicture_54 (by decide) (by decide) ?_
            refine v_icmp C dX5_isPicture_56 (tgt := 61) (by decide) (P := (M18 3 0 2) ≤ 20) rfl (fun c56 => ?_) (fun c56 => ?_)
            · replace h := h.1 c56
              refine v_iconst C dX5_isPicture_61 (by decide) ?_
              refine v_istore_n C dX5_isPicture_62 (by decide) (Nat.le_of_ble_eq_true rfl) (lv' := [some (.inr (2, 0)), some (.inr (5, i1)), some (.inl 3)]) rfl ?_
              refine v_weak [some (.inr (2, 0)), none, some (.inl 3)] ⟨rfl, rfl, trivial⟩ ?_
              exact h
            · replace h := h.2 c56
              refine v_iconst C dX5_isPicture_59 (by decide) ?_
              exact v_zret C dX5_isPicture_60 (by decide) h
set_option maxHeartbeats 4000000 in
set_option maxRecDepth 20000 in
theorem sgX5_isPicture_63 {κ : Kx} {K : Kont} {M : Mem} (C : Cx κ RX5 cX5_isPicture 3 (some .boolean) rmX5_isPicture domC) (x2 : Int)
    (h :
    inR (x2 + 1) ∧
    (((M 2 0 2) ≤ (x2 + 1) →
      K (some 1) M) ∧
     (¬ ((M 2 0 2) ≤ (x2 + 1)) →
      (0 ≤ x2 ∧ x2 < 9) ∧
      (((M 3 0 x2) < 1 →
        K (some 0) M) ∧
       (¬ ((M 3 0 x2) < 1) →
        (0 ≤ x2 ∧ x2 < 9) ∧
        ((30 < (M 3 0 x2) →
          K (some 0) M) ∧
         (¬ (30 < (M 3 0 x2)) →
          inR (x2 + 1) ∧
          (0 ≤ (x2 + 1) ∧ (x2 + 1) < 9) ∧
          (((M 3 0 (x2 + 1)) < 1 →
            K (some 0) M) ∧
           (¬ ((M 3 0 (x2 + 1)) < 1) →
            inR (x2 + 1) ∧
            (0 ≤ (x2 + 1) ∧ (x2 + 1) < 9) ∧
            (((M 3 0 (x2 + 1)) ≤ 99 →
              inR (x2 + 2) ∧
              V κ 3 M 63 [some (.inr (2, 0)), none, some (.inl (x2 + 2))] [] K) ∧
             (¬ ((M 3 0 (x2 + 1)) ≤ 99) →
              K (some 0) M))))))))))) : V κ 3 M 63 [some (.inr (2, 0)), none, some (.inl x2)] [] K := by
  refine v_iload_n C dX5_isPicture_63 rfl ?_
  refine v_iconst C dX5_isPicture_64 (by decide) ?_
  refine v_iadd C dX5_isPicture_65 h.1 ?_
  replace h := h.2
  refine v_aload_n C dX5_isPicture_66 rfl ?_
  refine v_get C dX5_isPicture_67 flX5_39 rfl (by decide) (by decide) (w := .inl (M 2 0 2)) rfl ?_
  refine v_icmp C dX5_isPicture_70 (tgt := 127) (by decide) (P := (M 2 0 2) ≤ (x2 + 1)) rfl (fun c70 => ?_) (fun c70 => ?_)
  · replace h := h.1 c70
    refine v_iconst C dX5_isPicture_127 (by decide) ?_
    exact v_zret C dX5_isPicture_128 (by decide) h
  · replace h := h.2 c70
    refine v_aload_n C dX5_isPicture_73 rfl ?_
    refine v_get C dX5_isPicture_74 flX5_9 rfl (by decide) (by decide) (w := .inr (3, 0)) rfl ?_
    refine v_iload_n C dX5_isPicture_77 rfl ?_
    refine v_iald C dX5_isPicture_78 rfl h.1.1 h.1.2 ?_
    replace h := h.2
    refine v_iconst C dX5_isPicture_79 (by decide) ?_
    refine v_icmp C dX5_isPicture_80 (tgt := 119) (by decide) (P := (M 3 0 x2) < 1) rfl (fun c80 => ?_) (fun c80 => ?_)
    · replace h := h.1 c80
      refine v_iconst C dX5_isPicture_119 (by decide) ?_
      exact v_zret C dX5_isPicture_120 (by decide) h
    · replace h := h.2 c80
      refine v_aload_n C dX5_isPicture_83 rfl ?_
      refine v_get C dX5_isPicture_84 flX5_9 rfl (by decide) (by decide) (w := .inr (3, 0)) rfl ?_
      refine v_iload_n C dX5_isPicture_87 rfl ?_
      refine v_iald C dX5_isPicture_88 rfl h.1.1 h.1.2 ?_
      replace h := h.2
      refine v_bipush C dX5_isPicture_89 (by decide) (by decide) ?_
      refine v_icmp C dX5_isPicture_91 (tgt := 119) (by decide) (P := 30 < (M 3 0 x2)) rfl (fun c91 => ?_) (fun c91 => ?_)
      · replace h := h.1 c91
        refine v_iconst C dX5_isPicture_119 (by decide) ?_
        exact v_zret C dX5_isPicture_120 (by decide) h
      · replace h := h.2 c91
        refine v_aload_n C dX5_isPicture_94 rfl ?_
        refine v_get C dX5_isPicture_95 flX5_9 rfl (by decide) (by decide) (w := .inr (3, 0)) rfl ?_
        refine v_iload_n C dX5_isPicture_98 rfl ?_
        refine v_iconst C dX5_isPicture_99 (by decide) ?_
        refine v_iadd C dX5_isPicture_100 h.1 ?_
        replace h := h.2
        refine v_iald C dX5_isPicture_101 rfl h.1.1 h.1.2 ?_
        replace h := h.2
        refine v_iconst C dX5_isPicture_102 (by decide) ?_
        refine v_icmp C dX5_isPicture_103 (tgt := 119) (by decide) (P := (M 3 0 (x2 + 1)) < 1) rfl (fun c103 => ?_) (fun c103 => ?_)
        · replace h := h.1 c103
          refine v_iconst C dX5_isPicture_119 (by decide) ?_
          exact v_zret C dX5_isPicture_120 (by decide) h
        · replace h := h.2 c103
          refine v_aload_n C dX5_isPicture_106 rfl ?_
          refine v_get C dX5_isPicture_107 flX5_9 rfl (by decide) (by decide) (w := .inr (3, 0)) rfl ?_
          refine v_iload_n C dX5_isPicture_110 rfl ?_
          refine v_iconst C dX5_isPicture_111 (by decide) ?_
          refine v_iadd C dX5_isPicture_112 h.1 ?_
          replace h := h.2
          refine v_iald C dX5_isPicture_113 rfl h.1.1 h.1.2 ?_
          replace h := h.2
          refine v_bipush C dX5_isPicture_114 (by decide) (by decide) ?_
          refine v_icmp C dX5_isPicture_116 (tgt := 121) (by decide) (P := (M 3 0 (x2 + 1)) ≤ 99) rfl (fun c116 => ?_) (fun c116 => ?_)
          · replace h := h.1 c116
            refine v_iinc C dX5_isPicture_121 (by decide) rfl h.1 (lv' := [some (.inr (2, 0)), none, some (.inl (x2 + 2))]) rfl ?_
            replace h := h.2
            refine v_goto C dX5_isPicture_124 (tgt := 63) (by decide) ?_
            refine v_weak [some (.inr (2, 0)), none, some (.inl (x2 + 2))] ⟨rfl, rfl, trivial⟩ ?_
            exact h
          · replace h := h.2 c116
            refine v_iconst C dX5_isPicture_119 (by decide) ?_
            exact v_zret C dX5_isPicture_120 (by decide) h
/-- versions from a place on are so -/
def vok (l : List (Int × Int)) : Nat → Nat → Bool
  | 0, _ => true
  | n + 1, i => if i + 1 < l.length then decide (1 ≤ aN l i ∧ aN l i ≤ 30 ∧ 1 ≤ aN l (i + 1) ∧ aN l (i + 1) ≤ 99) && vok l n (i + 2) else true
abbrev picOk (T : Int) (l : List (Int × Int)) : Prop := 5 ≤ l.length ∧ l.length % 2 = 1 ∧ shortB l = true ∧ aN l 0 < T ∧ aN l 1 ≤ 20 ∧ aN l 2 ≤ 20 ∧ vok l 4 3 = true
abbrev spX5_isPicture (f : Int) (M : Mem) (K : Kont) : Prop := ∃ l, RdK M l ∧ K (some (if picOk (M 5 f 0) l then 1 else 0)) M
theorem ctX5_isPicture : CtX5_isPicture spX5_isPicture := by
  refine ct_of (by decide) dmC (fun _ => Nat.le_of_ble_eq_true rfl) ?_
  intro κ f M K C oM h
  obtain ⟨l, hr, hk⟩ := h
  have hlen := hr.2.1
  have h2 := hr.1
  have no : ¬ picOk (M 5 f 0) l → K (some 0) M := fun z => by rw [if_neg z] at hk; exact hk
  have loop : ∀ (n i : Nat), i % 2 = 1 → i + 2 * n = 11 → l.length % 2 = 1 → (vok l n i = true → K (some 1) M) → (vok l n i = false → K (some 0) M) → V κ 3 M 63 [some (.inr (2, 0)), none, some (.inl (i : Int))] [] K := by
    intro n
    induction n with
    | zero =>
      intro i hi hn hodd k1 k0
      refine sgX5_isPicture_63 C i ⟨by omega, fun c => k1 rfl, fun c => absurd (by omega) c⟩
    | succ n ih =>
      intro i hi hn hodd k1 k0
      unfold vok at k1 k0
      refine sgX5_isPicture_63 C i ⟨by omega, fun c => ?_, fun c => ?_⟩
      · rw [if_neg (by omega)] at k1
        exact k1 rfl
      · have hc : i + 1 < l.length := by omega
        rw [if_pos hc] at k1 k0
        have ai := (hr.at (k := i) (by omega)).1.1
        have aj := (hr.at (k := i + 1) hc).1.1
        have ai' : M 3 0 (i : Int) = aN l i := ai
        have aj' : M 3 0 ((i : Int) + 1) = aN l (i + 1) := aj
        have bad : ¬ (1 ≤ aN l i ∧ aN l i ≤ 30 ∧ 1 ≤ aN l (i + 1) ∧ aN l (i + 1) ≤ 99) → K (some 0) M := by
          intro z
          apply k0
          rw [decide_eq_false z]
          rfl
        rw [ai', aj']
        refine ⟨by omega, fun c2 => bad (by omega), fun c2 => ⟨by omega, fun c3 => bad (by omega), fun c3 => ⟨by omega, by omega, fun c4 => bad (by omega), fun c4 => ⟨by omega, by omega, fun c5 => ⟨by omega, ?_⟩, fun c5 => bad (by omega)⟩⟩⟩⟩
        rw [decide_eq_true (show 1 ≤ aN l i ∧ aN l i ≤ 30 ∧ 1 ≤ aN l (i + 1) ∧ aN l (i + 1) ≤ 99 by omega), Bool.true_and] at k1 k0
        have := ih (i + 2) (by omega) (by omega) hodd k1 k0
        exact this
  refine sgX5_isPicture_0 C f ⟨fun c => no (by intro z; have := z.1; omega), fun c => ⟨by omega, fun c2 => no (by intro z; have := z.2.1; omega), fun c2 => ⟨l, hr, fun c3 => no ?_, fun c3 => ?_⟩⟩⟩
  · intro z
    rw [z.2.2.1] at c3
    exact absurd c3 (by decide)
  · have hs : shortB l = true := by
      cases z : shortB l
      · rw [z] at c3
        exact absurd rfl c3
      · rfl
    have e0 : M 3 0 0 = aN l 0 := (hr.at (k := 0) (by omega)).1.1
    have e1 : M 3 0 1 = aN l 1 := (hr.at (k := 1) (by omega)).1.1
    have e2 : M 3 0 2 = aN l 2 := (hr.at (k := 2) (by omega)).1.1
    rw [e0, e1, e2]
    refine ⟨fun c4 => no (by intro z; have := z.2.2.2.1; omega), fun c4 => ⟨fun c5 => no (by intro z; have := z.2.2.2.2.1; omega), fun c5 => ⟨fun c6 => ?_, fun c6 => no (by intro z; have := z.2.2.2.2.2.1; omega)⟩⟩⟩
    refine loop 4 3 (by omega) (by omega) (by omega) ?_ ?_
    · intro hv
      rw [if_pos ⟨by omega, by omega, hs, by omega, by omega, by omega, hv⟩] at hk
      exact hk
    · intro hv
      refine no (fun z => ?_)
      rw [z.2.2.2.2.2.2] at hv
      cases hv
/-! ===== GapTellings$TextReader.tellPicture ===== -/
abbrev rmX5_tellPicture : Room := { frames := 2, cells := 0, slots := 0, locals := 43 }
abbrev argX5_tellPicture (a : Int) : List PV := [.inr (2, 0), .inr (5, a)]
abbrev CtX5_tellPicture (sp : Int → Mem → Kont → Prop) : Prop := Ct yX5_tellPicture cX5_tellPicture 4 (some .boolean) rmX5_tellPicture domC argX5_tellPicture (fun a => sp a)
theorem dX5_tellPicture_0 : decode cX5_tellPicture 0 = .ok (.aload_n 1, 1) := by decide +kernel
theorem dX5_tellPicture_1 : decode cX5_tellPicture 1 = .ok (.getfield 77, 3) := by decide +kernel
theorem dX5_tellPicture_4 : decode cX5_tellPicture 4 = .ok (.bipush 7, 2) := by decide +kernel
theorem dX5_tellPicture_6 : decode cX5_tellPicture 6 = .ok (.if_icmp .ge 11, 3) := by decide +kernel
theorem dX5_tellPicture_9 : decode cX5_tellPicture 9 = .ok (.aload_n 0, 1) := by decide +kernel
theorem dX5_tellPicture_10 : decode cX5_tellPicture 10 = .ok (.aload_n 1, 1) := by decide +kernel
theorem dX5_tellPicture_11 : decode cX5_tellPicture 11 = .ok (.invokevirtual 80, 3) := by decide +kernel
theorem dX5_tellPicture_14 : decode cX5_tellPicture 14 = .ok (.ifCond .ne 5, 3) := by decide +kernel
theorem dX5_tellPicture_17 : decode cX5_tellPicture 17 = .ok (.iconst 0, 1) := by decide +kernel
theorem dX5_tellPicture_18 : decode cX5_tellPicture 18 = .ok (.ireturn, 1) := by decide +kernel
theorem dX5_tellPicture_19 : decode cX5_tellPicture 19 = .ok (.aload_n 1, 1) := by decide +kernel
theorem dX5_tellPicture_20 : decode cX5_tellPicture 20 = .ok (.getfield 83, 3) := by decide +kernel
theorem dX5_tellPicture_23 : decode cX5_tellPicture 23 = .ok (.aload_n 1, 1) := by decide +kernel
theorem dX5_tellPicture_24 : decode cX5_tellPicture 24 = .ok (.getfield 77, 3) := by decide +kernel
theorem dX5_tellPicture_27 : decode cX5_tellPicture 27 = .ok (.aaload, 1) := by decide +kernel
theorem dX5_tellPicture_28 : decode cX5_tellPicture 28 = .ok (.astore_n 2, 1) := by decide +kernel
theorem dX5_tellPicture_29 : decode cX5_tellPicture 29 = .ok (.aload_n 2, 1) := by decide +kernel
theorem dX5_tellPicture_30 : decode cX5_tellPicture 30 = .ok (.aload_n 0, 1) := by decide +kernel
theorem dX5_tellPicture_31 : decode cX5_tellPicture 31 = .ok (.getfield 9, 3) := by decide +kernel
theorem dX5_tellPicture_34 : decode cX5_tellPicture 34 = .ok (.iconst 0, 1) := by decide +kernel
theorem dX5_tellPicture_35 : decode cX5_tellPicture 35 = .ok (.iaload, 1) := by decide +kernel
theorem dX5_tellPicture_36 : decode cX5_tellPicture 36 = .ok (.aload_n 0, 1) := by decide +kernel
theorem dX5_tellPicture_37 : decode cX5_tellPicture 37 = .ok (.getfield 9, 3) := by decide +kernel
theorem dX5_tellPicture_40 : decode cX5_tellPicture 40 = .ok (.iconst 1, 1) := by decide +kernel
theorem dX5_tellPicture_41 : decode cX5_tellPicture 41 = .ok (.iaload, 1) := by decide +kernel
theorem dX5_tellPicture_42 : decode cX5_tellPicture 42 = .ok (.aload_n 0, 1) := by decide +kernel
theorem dX5_tellPicture_43 : decode cX5_tellPicture 43 = .ok (.getfield 9, 3) := by decide +kernel
theorem dX5_tellPicture_46 : decode cX5_tellPicture 46 = .ok (.iconst 2, 1) := by decide +kernel
theorem dX5_tellPicture_47 : decode cX5_tellPicture 47 = .ok (.iaload, 1) := by decide +kernel
theorem dX5_tellPicture_48 : decode cX5_tellPicture 48 = .ok (.invokevirtual 87, 3) := by decide +kernel
theorem dX5_tellPicture_51 : decode cX5_tellPicture 51 = .ok (.iconst 3, 1) := by decide +kernel
theorem dX5_tellPicture_52 : decode cX5_tellPicture 52 = .ok (.istore_n 3, 1) := by decide +kernel
theorem dX5_tellPicture_53 : decode cX5_tellPicture 53 = .ok (.iload_n 3, 1) := by decide +kernel
theorem dX5_tellPicture_54 : decode cX5_tellPicture 54 = .ok (.iconst 1, 1) := by decide +kernel
theorem dX5_tellPicture_55 : decode cX5_tellPicture 55 = .ok (.iadd, 1) := by decide +kernel
theorem dX5_tellPicture_56 : decode cX5_tellPicture 56 = .ok (.aload_n 0, 1) := by decide +kernel
theorem dX5_tellPicture_57 : decode cX5_tellPicture 57 = .ok (.getfield 39, 3) := by decide +kernel
theorem dX5_tellPicture_60 : decode cX5_tellPicture 60 = .ok (.if_icmp .ge 27, 3) := by decide +kernel
theorem dX5_tellPicture_63 : decode cX5_tellPicture 63 = .ok (.aload_n 2, 1) := by decide +kernel
theorem dX5_tellPicture_64 : decode cX5_tellPicture 64 = .ok (.aload_n 0, 1) := by decide +kernel
theorem dX5_tellPicture_65 : decode cX5_tellPicture 65 = .ok (.getfield 9, 3) := by decide +kernel
theorem dX5_tellPicture_68 : decode cX5_tellPicture 68 = .ok (.iload_n 3, 1) := by decide +kernel
theorem dX5_tellPicture_69 : decode cX5_tellPicture 69 = .ok (.iaload, 1) := by decide +kernel
theorem dX5_tellPicture_70 : decode cX5_tellPicture 70 = .ok (.aload_n 0, 1) := by decide +kernel
theorem dX5_tellPicture_71 : decode cX5_tellPicture 71 = .ok (.getfield 9, 3) := by decide +kernel
theorem dX5_tellPicture_74 : decode cX5_tellPicture 74 = .ok (.iload_n 3, 1) := by decide +kernel
theorem dX5_tellPicture_75 : decode cX5_tellPicture 75 = .ok (.iconst 1, 1) := by decide +kernel
theorem dX5_tellPicture_76 : decode cX5_tellPicture 76 = .ok (.iadd, 1) := by decide +kernel
theorem dX5_tellPicture_77 : decode cX5_tellPicture 77 = .ok (.iaload, 1) := by decide +kernel
theorem dX5_tellPicture_78 : decode cX5_tellPicture 78 = .ok (.invokevirtual 92, 3) := by decide +kernel
theorem dX5_tellPicture_81 : decode cX5_tellPicture 81 = .ok (.iinc 3 2, 3) := by decide +kernel
theorem dX5_tellPicture_84 : decode cX5_tellPicture 84 = .ok (.goto (-31), 3) := by decide +kernel
theorem dX5_tellPicture_87 : decode cX5_tellPicture 87 = .ok (.aload_n 1, 1) := by decide +kernel
theorem dX5_tellPicture_88 : decode cX5_tellPicture 88 = .ok (.dup, 1) := by decide +kernel
theorem dX5_tellPicture_89 : decode cX5_tellPicture 89 = .ok (.getfield 77, 3) := by decide +kernel
theorem dX5_tellPicture_92 : decode cX5_tellPicture 92 = .ok (.iconst 1, 1) := by decide +kernel
theorem dX5_tellPicture_93 : decode cX5_tellPicture 93 = .ok (.iadd, 1) := by decide +kernel
theorem dX5_tellPicture_94 : decode cX5_tellPicture 94 = .ok (.putfield 77, 3) := by decide +kernel
theorem dX5_tellPicture_97 : decode cX5_tellPicture 97 = .ok (.iconst 1, 1) := by decide +kernel
theorem dX5_tellPicture_98 : decode cX5_tellPicture 98 = .ok (.ireturn, 1) := by decide +kernel
theorem ivX5_80 : IV RX5 80 yX5_isPicture cX5_isPicture 3 (some .boolean) 1 := ⟨(tb_mem (t_in2 (List.mem_of_getElem? (i := 170) (by decide +kernel))) (by decide +kernel)), (tb_mem (t_in2 (List.mem_of_getElem? (i := 171) (by decide +kernel))) (by decide +kernel)), (tb_mem (t_in2 (List.mem_of_getElem? (i := 172) (by decide +kernel))) (by decide +kernel)), (tb_mem (t_in1 (List.mem_of_getElem? (i := 2) (by decide +kernel))) (by decide +kernel)), (tb_mem (t_in2 (List.mem_of_getElem? (i := 173) (by decide +kernel))) (by decide +kernel)), ⟨by decide +kernel, by decide +kernel, by decide +kernel⟩⟩
theorem ivX5_87 : IV RX5 87 yX3_start cX3_start 4 none 3 := ⟨(tb_mem (t_in2 (List.mem_of_getElem? (i := 178) (by decide +kernel))) (by decide +kernel)), (tb_mem (t_in2 (List.mem_of_getElem? (i := 179) (by decide +kernel))) (by decide +kernel)), (tb_mem (t_in2 (List.mem_of_getElem? (i := 180) (by decide +kernel))) (by decide +kernel)), (tb_mem (t_in1 (List.mem_of_getElem? (i := 4) (by decide +kernel))) (by decide +kernel)), (tb_mem (t_in2 (List.mem_of_getElem? (i := 181) (by decide +kernel))) (by decide +kernel)), ⟨by decide +kernel, by decide +kernel, by decide +kernel⟩⟩
theorem plX5_77 : PL RX5 77 1 7 .int := ⟨_, _, _, rfl, by decide, uwX1, Or.inr ⟨"GapTellings", (nw_mem (t_in1 (List.mem_of_getElem? (i := 136) (by decide +kernel))) (by decide +kernel))⟩, rfl, by decide +kernel, tyX1, tyX1_ok, nmX1⟩
theorem ivX5_92 : IV RX5 92 yX3_addVersion cX3_addVersion 3 none 2 := ⟨(tb_mem (t_in2 (List.mem_of_getElem? (i := 182) (by decide +kernel))) (by decide +kernel)), (tb_mem (t_in2 (List.mem_of_getElem? (i := 183) (by decide +kernel))) (by decide +kernel)), (tb_mem (t_in2 (List.mem_of_getElem? (i := 184) (by decide +kernel))) (by decide +kernel)), (tb_mem (t_in1 (List.mem_of_getElem? (i := 4) (by decide +kernel))) (by decide +kernel)), (tb_mem (t_in2 (List.mem_of_getElem? (i := 185) (by decide +kernel))) (by decide +kernel)), ⟨by decide +kernel, by decide +kernel, by decide +kernel⟩⟩
set_option maxHeartbeats 4000000 in
set_option maxRecDepth 20000 in
theorem sgX5_tellPicture_0 {κ : Kx} {K : Kont} {M : Mem} (C : Cx κ RX5 cX5_tellPicture 4 (some .boolean) rmX5_tellPicture domC) (i1 : Int)
    (h :
    ((7 ≤ (M 5 i1 7) →
      K (some 0) M) ∧
     (¬ (7 ≤ (M 5 i1 7)) →
      spX5_isPicture i1 M (rI (fun r11 M11 =>
      ((r11 ≠ 0 →
        (0 ≤ (M11 5 i1 7) ∧ (M11 5 i1 7) < 7) ∧
        spX3_start (7 * i1 + (M11 5 i1 7)) (M11 3 0 0) (M11 3 0 1) (M11 3 0 2) M11 (rV (fun M48 =>
        V κ 4 M48 53 [some (.inr (2, 0)), some (.inr (5, i1)), some (.inr (11, 7 * i1 + (M11 5 i1 7))), some (.inl 3)] [] K))) ∧
       (¬ (r11 ≠ 0) →
        K (some 0) M11))))))) : V κ 4 M 0 [some (.inr (2, 0)), some (.inr (5, i1)), none, none] [] K := by
  refine v_aload_n C dX5_tellPicture_0 rfl ?_
  refine v_get C dX5_tellPicture_1 flX5_77 rfl (by decide) (by decide) (w := .inl (M 5 i1 7)) rfl ?_
  refine v_bipush C dX5_tellPicture_4 (by decide) (by decide) ?_
  refine v_icmp C dX5_tellPicture_6 (tgt := 17) (by decide) (P := 7 ≤ (M 5 i1 7)) rfl (fun c6 => ?_) (fun c6 => ?_)
  · replace h := h.1 c6
    refine v_iconst C dX5_tellPicture_17 (by decide) ?_
    exact v_zret C dX5_tellPicture_18 (by decide) h
  · replace h := h.2 c6
    refine v_aload_n C dX5_tellPicture_9 rfl ?_
    refine v_aload_n C dX5_tellPicture_10 rfl ?_
    refine v_invV C ctX5_isPicture dX5_tellPicture_11 ivX5_80 ⟨by decide, by decide, rfl, rfl⟩ (i1 : Int) (As := [.inr (5, i1)]) rfl rfl rfl (by decide) rfl (st := []) rfl (Nat.le_of_ble_eq_true rfl) h (fun o M11 oM11 io11 h => ?_)
    obtain ⟨r11, rfl, h⟩ := rI_out h
    refine v_push ?_
    refine v_if C dX5_tellPicture_14 (tgt := 19) (by decide) (P := r11 ≠ 0) rfl (fun c14 => ?_) (fun c14 => ?_)
    · replace h := h.1 c14
      refine v_aload_n C dX5_tellPicture_19 rfl ?_
      refine v_get C dX5_tellPicture_20 flX5_83 rfl (by decide) (by decide) (w := .inr (10, i1)) rfl ?_
      refine v_aload_n C dX5_tellPicture_23 rfl ?_
      refine v_get C dX5_tellPicture_24 flX5_77 rfl (by decide) (by decide) (w := .inl (M11 5 i1 7)) rfl ?_
      refine v_aald C dX5_tellPicture_27 h.1.1 h.1.2 ?_
      replace h := h.2
      refine v_astore_n C dX5_tellPicture_28 (by decide) (Nat.le_of_ble_eq_true rfl) (lv' := [some (.inr (2, 0)), some (.inr (5, i1)), some (.inr (11, 7 * i1 + (M11 5 i1 7))), none]) rfl ?_
      refine v_aload_n C dX5_tellPicture_29 rfl ?_
      refine v_aload_n C dX5_tellPicture_30 rfl ?_
      refine v_get C dX5_tellPicture_31 flX5_9 rfl (by decide) (by decide) (w := .inr (3, 0)) rfl ?_
      refine v_iconst C dX5_tellPicture_34 (by decide) ?_
      refine v_iald C dX5_tellPicture_35 rfl (by decide) (by decide) ?_
      refine v_aload_n C dX5_tellPicture_36 rfl ?_
      refine v_get C dX5_tellPicture_37 flX5_9 rfl (by decide) (by decide) (w := .inr (3, 0)) rfl ?_
      refine v_iconst C dX5_tellPicture_40 (by decide) ?_
      refine v_iald C dX5_tellPicture_41 rfl (by decide) (by decide) ?_
      refine v_aload_n C dX5_tellPicture_42 rfl ?_
      refine v_get C dX5_tellPicture_43 flX5_9 rfl (by decide) (by decide) (w := .inr (3, 0)) rfl ?_
      refine v_iconst C dX5_tellPicture_46 (by decide) ?_
      refine v_iald C dX5_tellPicture_47 rfl (by decide) (by decide) ?_
      refine v_invV C ctX3_start dX5_tellPicture_48 ivX5_87 ⟨by decide, by decide, rfl, rfl⟩ ((7 * i1 + (M11 5 i1 7), M11 3 0 0, M11 3 0 1, M11 3 0 2) : Int × Int × Int × Int) (As := [.inl (M11 3 0 0), .inl (M11 3 0 1), .inl (M11 3 0 2)]) rfl rfl rfl (by decide) rfl (st := []) rfl (Nat.le_of_ble_eq_true rfl) h (fun o M48 oM48 io48 h => ?_)
      obtain ⟨rfl, h⟩ := rV_out h
      refine v_push0 ?_
      refine v_iconst C dX5_tellPicture_51 (by decide) ?_
      refine v_istore_n C dX5_tellPicture_52 (by decide) (Nat.le_of_ble_eq_true rfl) (lv' := [some (.inr (2, 0)), some (.inr (5, i1)), some (.inr (11, 7 * i1 + (M11 5 i1 7))), some (.inl 3)]) rfl ?_
      refine v_weak [some (.inr (2, 0)), some (.inr (5, i1)), some (.inr (11, 7 * i1 + (M11 5 i1 7))), some (.inl 3)] ⟨rfl, rfl, rfl, rfl, trivial⟩ ?_
      exact h
    · replace h := h.2 c14
      refine v_iconst C dX5_tellPicture_17 (by decide) ?_
      exact v_zret C dX5_tellPicture_18 (by decide) h
set_option maxHeartbeats 4000000 in
set_option maxRecDepth 20000 in
theorem sgX5_tellPicture_53 {κ : Kx} {K : Kont} {M : Mem} (C : Cx κ RX5 cX5_tellPicture 4 (some .boolean) rmX5_tellPicture domC) (i1 : Int) (i2 : Int) (x3 : Int)
    (h :
    inR (x3 + 1) ∧
    (((M 2 0 2) ≤ (x3 + 1) →
      inR ((M 5 i1 7) + 1) ∧
      ∀ M94 : Mem, M94 = up3 M 5 i1 7 ((M 5 i1 7) + 1) →
      K (some 1) M94) ∧
     (¬ ((M 2 0 2) ≤ (x3 + 1)) →
      (0 ≤ x3 ∧ x3 < 9) ∧
      inR (x3 + 1) ∧
      (0 ≤ (x3 + 1) ∧ (x3 + 1) < 9) ∧
      spX3_addVersion i2 (M 3 0 x3) (M 3 0 (x3 + 1)) M (rV (fun M78 =>
      inR (x3 + 2) ∧
      V κ 4 M78 53 [some (.inr (2, 0)), some (.inr (5, i1)), some (.inr (11, i2)), some (.inl (x3 + 2))] [] K))))) : V κ 4 M 53 [some (.inr (2, 0)), some (.inr (5, i1)), some (.inr (11, i2)), some (.inl x3)] [] K := by
  refine v_iload_n C dX5_tellPicture_53 rfl ?_
  refine v_iconst C dX5_tellPicture_54 (by decide) ?_
  refine v_iadd C dX5_tellPicture_55 h.1 ?_
  replace h := h.2
  refine v_aload_n C dX5_tellPicture_56 rfl ?_
  refine v_get C dX5_tellPicture_57 flX5_39 rfl (by decide) (by decide) (w := .inl (M 2 0 2)) rfl ?_
  refine v_icmp C dX5_tellPicture_60 (tgt := 87) (by decide) (P := (M 2 0 2) ≤ (x3 + 1)) rfl (fun c60 => ?_) (fun c60 => ?_)
  · replace h := h.1 c60
    refine v_aload_n C dX5_tellPicture_87 rfl ?_
    refine v_dup C dX5_tellPicture_88 ?_
    refine v_get C dX5_tellPicture_89 flX5_77 rfl (by decide) (by decide) (w := .inl (M 5 i1 7)) rfl ?_
    refine v_iconst C dX5_tellPicture_92 (by decide) ?_
    refine v_iadd C dX5_tellPicture_93 h.1 ?_
    replace h := h.2
    refine v_put C dX5_tellPicture_94 plX5_77 rfl (by decide) (by decide) rfl rfl rfl ?_
    refine v_nmM (fun M94 eM94 => ?_)
    replace h := h M94 eM94
    refine v_iconst C dX5_tellPicture_97 (by decide) ?_
    exact v_zret C dX5_tellPicture_98 (by decide) h
  · replace h := h.2 c60
    refine v_aload_n C dX5_tellPicture_63 rfl ?_
    refine v_aload_n C dX5_tellPicture_64 rfl ?_
    refine v_get C dX5_tellPicture_65 flX5_9 rfl (by decide) (by decide) (w := .inr (3, 0)) rfl ?_
    refine v_iload_n C dX5_tellPicture_68 rfl ?_
    refine v_iald C dX5_tellPicture_69 rfl h.1.1 h.1.2 ?_
    replace h := h.2
    refine v_aload_n C dX5_tellPicture_70 rfl ?_
    refine v_get C dX5_tellPicture_71 flX5_9 rfl (by decide) (by decide) (w := .inr (3, 0)) rfl ?_
    refine v_iload_n C dX5_tellPicture_74 rfl ?_
    refine v_iconst C dX5_tellPicture_75 (by decide) ?_
    refine v_iadd C dX5_tellPicture_76 h.1 ?_
    replace h := h.2
    refine v_iald C dX5_tellPicture_77 rfl h.1.1 h.1.2 ?_
    replace h := h.2
    refine v_invV C ctX3_addVersion dX5_tellPicture_78 ivX5_92 ⟨by decide, by decide, rfl, rfl⟩ ((i2, M 3 0 x3, M 3 0 (x3 + 1)) : Int × Int × Int) (As := [.inl (M 3 0 x3), .inl (M 3 0 (x3 + 1))]) rfl rfl rfl (by decide) rfl (st := []) rfl (Nat.le_of_ble_eq_true rfl) h (fun o M78 oM78 io78 h => ?_)
    obtain ⟨rfl, h⟩ := rV_out h
    refine v_push0 ?_
    refine v_iinc C dX5_tellPicture_81 (by decide) rfl h.1 (lv' := [some (.inr (2, 0)), some (.inr (5, i1)), some (.inr (11, i2)), some (.inl (x3 + 2))]) rfl ?_
    replace h := h.2
    refine v_goto C dX5_tellPicture_84 (tgt := 53) (by decide) ?_
    refine v_weak [some (.inr (2, 0)), some (.inr (5, i1)), some (.inr (11, i2)), some (.inl (x3 + 2))] ⟨rfl, rfl, rfl, rfl, trivial⟩ ?_
    exact h
def avs (F : Film) (p : Int) (l : List (Int × Int)) : Nat → Nat → Film
  | 0, _ => F
  | n + 1, i => if i + 1 < l.length then avs (sFV F p (aN l i) (aN l (i + 1))) p l n (i + 2) else F
def itP (F : Film) (l : List (Int × Int)) : Option Film := if F 3 0 0 < 7 ∧ picOk (F 0 0 0) l then some (sFC (avs (sFP F (F 3 0 0) (aN l 0) (aN l 1) (aN l 2)) (F 3 0 0) l 4 3) (F 3 0 0 + 1)) else none
abbrev spX5_tellPicture (f : Int) (M : Mem) (K : Kont) : Prop := (0 ≤ M 5 f 7) ∧ ∃ l, RdK M l ∧ resK M f K (itP (cFilm M f) l)
theorem ctX5_tellPicture : CtX5_tellPicture spX5_tellPicture := by
  refine ct_of (by decide) dmC (fun _ => Nat.le_of_ble_eq_true rfl) ?_
  intro κ f M K C oM h
  obtain ⟨hn, l, hr, hk⟩ := h
  have hlen := hr.2.1
  have h2 := hr.1
  have eT : cFilm M f 0 0 0 = M 5 f 0 := rfl
  have eP : cFilm M f 3 0 0 = M 5 f 7 := rfl
  unfold itP at hk
  rw [eT, eP] at hk
  have no : ¬ (M 5 f 7 < 7 ∧ picOk (M 5 f 0) l) → K (some 0) M := fun z => by rw [if_neg z] at hk; exact hk
  refine sgX5_tellPicture_0 C f ⟨fun c => no (fun z => by have := z.1; omega), fun c => ⟨l, hr, fun c2 => ?_, fun c2 => no (fun z => ?_)⟩⟩
  · have hok : picOk (M 5 f 0) l := by
      by_cases z : picOk (M 5 f 0) l
      · exact z
      · rw [if_neg z] at c2
        exact absurd rfl c2
    rw [if_pos ⟨by omega, hok⟩] at hk
    have e0 : M 3 0 0 = aN l 0 := (hr.at (k := 0) (by omega)).1.1
    have e1 : M 3 0 1 = aN l 1 := (hr.at (k := 1) (by have := hok.1; omega)).1.1
    have e2 : M 3 0 2 = aN l 2 := (hr.at (k := 2) (by have := hok.1; omega)).1.1
    rw [e0, e1, e2]
    refine ⟨by omega, fun N eN => ?_⟩
    have loop : ∀ (n i : Nat) (N : Mem), i % 2 = 1 → i + 2 * n = 11 → 3 ≤ i → AgM M N f → N 5 f 7 = M 5 f 7 → (0 ≤ N 11 (7 * f + M 5 f 7) 4 ∧ 2 * N 11 (7 * f + M 5 f 7) 4 + 3 = i) → avs (cFilm N f) (M 5 f 7) l n i = avs (sFP (cFilm M f) (M 5 f 7) (aN l 0) (aN l 1) (aN l 2)) (M 5 f 7) l 4 3 →
        V κ 4 N 53 [some (.inr (2, 0)), some (.inr (5, f)), some (.inr (11, 7 * f + M 5 f 7)), some (.inl (i : Int))] [] K := by
      have fin : ∀ N : Mem, AgM M N f → N 5 f 7 = M 5 f 7 → cFilm N f = avs (sFP (cFilm M f) (M 5 f 7) (aN l 0) (aN l 1) (aN l 2)) (M 5 f 7) l 4 3 → inR (N 5 f 7 + 1) ∧ ∀ M94 : Mem, M94 = up3 N 5 f 7 (N 5 f 7 + 1) → K (some 1) M94 := by
        intro N hA h7 hc
        refine ⟨by rw [h7]; omega, fun N2 e2 => hk N2 (by rw [e2]; exact hA.up1 (by decide) _ _) ?_⟩
        rw [← hc, e2, h7]
        funext t a b
        unfold cFilm sFC
        split <;> simp [up3]
        simp_all
      intro n
      induction n with
      | zero =>
        intro i N hi hin h3 hA h7 hv hav
        have hr2 := hA.rd hr
        refine sgX5_tellPicture_53 C f _ i ⟨by omega, fun c => fin N hA h7 hav, fun c => absurd (by rw [hr2.1]; omega) c⟩
      | succ n ih =>
        intro i N hi hin h3 hA h7 hv hav
        have hr2 := hA.rd hr
        unfold avs at hav
        refine sgX5_tellPicture_53 C f _ i ⟨by omega, fun c => ?_, fun c => ?_⟩
        · rw [hr2.1] at c
          rw [if_neg (by omega)] at hav
          exact fin N hA h7 hav
        · rw [hr2.1] at c
          have hc : i + 1 < l.length := by omega
          rw [if_pos hc] at hav
          have ai : N 3 0 (i : Int) = aN l i := (hr2.at (k := i) (by omega)).1.1
          have aj : N 3 0 ((i : Int) + 1) = aN l (i + 1) := (hr2.at (k := i + 1) hc).1.1
          rw [ai, aj]
          refine ⟨by omega, by omega, by omega, ⟨hv.1, by omega⟩, fun N2 e2 => ?_⟩
          have hA2 : AgM M N2 f := by
            rw [e2]
            exact ((hA.up2 (by decide) (by omega) _ _).up2 (by decide) (by omega) _ _).up2 (by decide) (by omega) _ _
          have v2 : N2 11 (7 * f + M 5 f 7) 4 = N 11 (7 * f + M 5 f 7) 4 + 1 := by rw [e2, up3_s]
          have s2 : N2 5 f 7 = M 5 f 7 := by rw [e2, up3_r _ _ _ _ _ (by decide), up3_r _ _ _ _ _ (by decide), up3_r _ _ _ _ _ (by decide), h7]
          have := ih (i + 2) N2 (by omega) (by omega) (by omega) hA2 s2 (by rw [v2]; omega) ?_
          · exact ⟨by omega, this⟩
          · rw [e2, cF_ver]
            exact hav
    have hA1 : AgM M N f := by
      rw [eN]
      exact ((((AgM.rf.up2 (by decide) (by omega) _ _).up2 (by decide) (by omega) _ _).up2 (by decide) (by omega) _ _).up2 (by decide) (by omega) _ _).up2 (by decide) (by omega) _ _
    refine loop 4 3 N (by omega) (by omega) (by omega) hA1 ?_ ?_ ?_
    · rw [eN, up3_r _ _ _ _ _ (by decide), up3_r _ _ _ _ _ (by decide), up3_r _ _ _ _ _ (by decide), up3_r _ _ _ _ _ (by decide), up3_r _ _ _ _ _ (by decide)]
    · rw [eN, up3_s]
      omega
    · rw [eN, cF_pic]
  · rw [if_pos z.2] at c2
    exact c2 (by decide)
