/-! ===== the Model: the table of the best ===== -/
def gT (F : Film) (may : Int) : Int → Int → Int := tabR F (spb F) (csb F) (F 1 0 0) may (F 0 0 0).toNat
theorem gT_end {F : Film} (hf : WFf F) (may set : Int) : gT F may (F 0 0 0) set = 0 := by
  unfold gT
  rw [tab_keep F (spb F) (csb F) (F 1 0 0) may (F 0 0 0).toNat 0 (F 0 0 0) set (by omega) (by omega)]
  rfl
theorem gT_row {F : Film} (hf : WFf F) {may t set : Int} (h0 : 0 ≤ t) (h1 : t < F 0 0 0) : gT F may t set = bP F (spb F) (csb F) (F 1 0 0) (gT F may) t set may (F 3 0 0).toNat := by
  have n3 := hf.2.2.2.1
  have e : gT F may t set = tabR F (spb F) (csb F) (F 1 0 0) may ((F 0 0 0 - t - 1).toNat + 1) t set := tab_keep F (spb F) (csb F) (F 1 0 0) may (F 0 0 0).toNat ((F 0 0 0 - t - 1).toNat + 1) t set (by omega) (by omega)
  rw [e]
  show (if t = F 0 0 0 - (((F 0 0 0 - t - 1).toNat : Int) + 1) then _ else _) = _
  rw [if_pos (by omega)]
  refine bP_c hf FEq.rf SEq.rf SEq.rf hf.2.1.1 (fun _ _ _ => rfl) h0 h1 (fun u s a b => ?_) _ (by omega)
  exact (tab_keep F (spb F) (csb F) (F 1 0 0) may (F 0 0 0).toNat (F 0 0 0 - t - 1).toNat u s (by omega) (by omega)).symm
theorem gT_rng {F : Film} (hf : WFf F) {may t set : Int} (h0 : 0 ≤ t) (h1 : t ≤ F 0 0 0) : 0 ≤ gT F may t set ∧ gT F may t set ≤ 200000 := by
  have hT := hf.1
  have := tab_rng (S := spb F) (may := may) hf (QB_csb hf) hf.2.1.1 (F 0 0 0).toNat t set (by omega) (by omega) h1
  unfold gT
  omega
theorem or_w {s p n : Int} (hn : 0 ≤ n) (hn2 : n ≤ 7) (h0 : 0 ≤ s) (h1 : s < bShl 1 n) (hp : 0 ≤ p) (hp2 : p < n) : 0 ≤ bOr s (bShl 1 p) ∧ bOr s (bShl 1 p) < bShl 1 n ∧ bOr s (bShl 1 p) < 128 := by
  have w := shl_le7 hn hn2
  have s2 := shl_lt128 (p := p) hp (by omega)
  have r := or_rng7 h0 (by omega) (show 0 ≤ bShl 1 p by omega) s2.2
  refine ⟨r.1, lt_bit r.1 r.2 hn hn2 (fun k a b => ?_), r.2⟩
  rw [bit_or2 h0 (by omega) (by omega) s2.2, bit_shl hp (by omega) (by omega), bit_lt h0 hn hn2 h1 a]
  simp
  omega
/-- the rows of the table from a tick on -/
def TbM (M : Mem) (F : Film) (may a : Int) : Prop := ∀ u s, a ≤ u → u ≤ F 0 0 0 → 0 ≤ s → s < bShl 1 (F 3 0 0) → M 53 0 (128 * u + s) = gT F may u s
/-! ===== GapTellingsModel.begun ===== -/
abbrev rmX8_begun : Room := { frames := 2, cells := 0, slots := 0, locals := 48 }
abbrev argX8_begun (a : Int × Int × Int × Int) : List PV := [.inr (30, 0), .inl a.1, .inl a.2.1, .inl a.2.2.1, .inl a.2.2.2]
abbrev CtX8_begun (sp : Int → Int → Int → Int → Mem → Kont → Prop) : Prop := Ct yX8_begun cX8_begun 7 (some .int) rmX8_begun domM argX8_begun (fun a => sp a.1 a.2.1 a.2.2.1 a.2.2.2)
theorem dX8_begun_0 : decode cX8_begun 0 = .ok (.aload_n 0, 1) := by decide +kernel
theorem dX8_begun_1 : decode cX8_begun 1 = .ok (.getfield 16, 3) := by decide +kernel
theorem dX8_begun_4 : decode cX8_begun 4 = .ok (.bipush 11, 2) := by decide +kernel
theorem dX8_begun_6 : decode cX8_begun 6 = .ok (.iload_n 1, 1) := by decide +kernel
theorem dX8_begun_7 : decode cX8_begun 7 = .ok (.imul, 1) := by decide +kernel
theorem dX8_begun_8 : decode cX8_begun 8 = .ok (.iconst 4, 1) := by decide +kernel
theorem dX8_begun_9 : decode cX8_begun 9 = .ok (.iadd, 1) := by decide +kernel
theorem dX8_begun_10 : decode cX8_begun 10 = .ok (.iaload, 1) := by decide +kernel
theorem dX8_begun_11 : decode cX8_begun 11 = .ok (.istore 5, 2) := by decide +kernel
theorem dX8_begun_13 : decode cX8_begun 13 = .ok (.iload 4, 2) := by decide +kernel
theorem dX8_begun_15 : decode cX8_begun 15 = .ok (.iload_n 1, 1) := by decide +kernel
theorem dX8_begun_16 : decode cX8_begun 16 = .ok (.ishr, 1) := by decide +kernel
theorem dX8_begun_17 : decode cX8_begun 17 = .ok (.iconst 1, 1) := by decide +kernel
theorem dX8_begun_18 : decode cX8_begun 18 = .ok (.iand, 1) := by decide +kernel
theorem dX8_begun_19 : decode cX8_begun 19 = .ok (.iconst 1, 1) := by decide +kernel
theorem dX8_begun_20 : decode cX8_begun 20 = .ok (.if_icmp .eq 28, 3) := by decide +kernel
theorem dX8_begun_23 : decode cX8_begun 23 = .ok (.iload 5, 2) := by decide +kernel
theorem dX8_begun_25 : decode cX8_begun 25 = .ok (.ifCond .lt 13, 3) := by decide +kernel
theorem dX8_begun_28 : decode cX8_begun 28 = .ok (.iload 4, 2) := by decide +kernel
theorem dX8_begun_30 : decode cX8_begun 30 = .ok (.iload 5, 2) := by decide +kernel
theorem dX8_begun_32 : decode cX8_begun 32 = .ok (.ishr, 1) := by decide +kernel
theorem dX8_begun_33 : decode cX8_begun 33 = .ok (.iconst 1, 1) := by decide +kernel
theorem dX8_begun_34 : decode cX8_begun 34 = .ok (.iand, 1) := by decide +kernel
theorem dX8_begun_35 : decode cX8_begun 35 = .ok (.ifCond .eq 13, 3) := by decide +kernel
theorem dX8_begun_38 : decode cX8_begun 38 = .ok (.aload_n 0, 1) := by decide +kernel
theorem dX8_begun_39 : decode cX8_begun 39 = .ok (.iload_n 1, 1) := by decide +kernel
theorem dX8_begun_40 : decode cX8_begun 40 = .ok (.iload_n 2, 1) := by decide +kernel
theorem dX8_begun_41 : decode cX8_begun 41 = .ok (.iload_n 3, 1) := by decide +kernel
theorem dX8_begun_42 : decode cX8_begun 42 = .ok (.invokevirtual 151, 3) := by decide +kernel
theorem dX8_begun_45 : decode cX8_begun 45 = .ok (.ifCond .le 6, 3) := by decide +kernel
theorem dX8_begun_48 : decode cX8_begun 48 = .ok (.ldc 173, 2) := by decide +kernel
theorem dX8_begun_50 : decode cX8_begun 50 = .ok (.ireturn, 1) := by decide +kernel
theorem dX8_begun_51 : decode cX8_begun 51 = .ok (.iload_n 3, 1) := by decide +kernel
theorem dX8_begun_52 : decode cX8_begun 52 = .ok (.aload_n 0, 1) := by decide +kernel
theorem dX8_begun_53 : decode cX8_begun 53 = .ok (.iload_n 1, 1) := by decide +kernel
theorem dX8_begun_54 : decode cX8_begun 54 = .ok (.iload_n 2, 1) := by decide +kernel
theorem dX8_begun_55 : decode cX8_begun 55 = .ok (.invokevirtual 147, 3) := by decide +kernel
theorem dX8_begun_58 : decode cX8_begun 58 = .ok (.iadd, 1) := by decide +kernel
theorem dX8_begun_59 : decode cX8_begun 59 = .ok (.aload_n 0, 1) := by decide +kernel
theorem dX8_begun_60 : decode cX8_begun 60 = .ok (.getfield 68, 3) := by decide +kernel
theorem dX8_begun_63 : decode cX8_begun 63 = .ok (.iadd, 1) := by decide +kernel
theorem dX8_begun_64 : decode cX8_begun 64 = .ok (.istore 6, 2) := by decide +kernel
theorem dX8_begun_66 : decode cX8_begun 66 = .ok (.aload_n 0, 1) := by decide +kernel
theorem dX8_begun_67 : decode cX8_begun 67 = .ok (.iload_n 1, 1) := by decide +kernel
theorem dX8_begun_68 : decode cX8_begun 68 = .ok (.iload_n 2, 1) := by decide +kernel
theorem dX8_begun_69 : decode cX8_begun 69 = .ok (.iload_n 3, 1) := by decide +kernel
theorem dX8_begun_70 : decode cX8_begun 70 = .ok (.invokevirtual 160, 3) := by decide +kernel
theorem dX8_begun_73 : decode cX8_begun 73 = .ok (.aload_n 0, 1) := by decide +kernel
theorem dX8_begun_74 : decode cX8_begun 74 = .ok (.getfield 52, 3) := by decide +kernel
theorem dX8_begun_77 : decode cX8_begun 77 = .ok (.sipush 128, 3) := by decide +kernel
theorem dX8_begun_80 : decode cX8_begun 80 = .ok (.iload 6, 2) := by decide +kernel
theorem dX8_begun_82 : decode cX8_begun 82 = .ok (.aload_n 0, 1) := by decide +kernel
theorem dX8_begun_83 : decode cX8_begun 83 = .ok (.getfield 64, 3) := by decide +kernel
theorem dX8_begun_86 : decode cX8_begun 86 = .ok (.if_icmp .le 10, 3) := by decide +kernel
theorem dX8_begun_89 : decode cX8_begun 89 = .ok (.aload_n 0, 1) := by decide +kernel
theorem dX8_begun_90 : decode cX8_begun 90 = .ok (.getfield 64, 3) := by decide +kernel
theorem dX8_begun_93 : decode cX8_begun 93 = .ok (.goto 5, 3) := by decide +kernel
theorem dX8_begun_96 : decode cX8_begun 96 = .ok (.iload 6, 2) := by decide +kernel
theorem dX8_begun_98 : decode cX8_begun 98 = .ok (.imul, 1) := by decide +kernel
theorem dX8_begun_99 : decode cX8_begun 99 = .ok (.iload 4, 2) := by decide +kernel
theorem dX8_begun_101 : decode cX8_begun 101 = .ok (.iconst 1, 1) := by decide +kernel
theorem dX8_begun_102 : decode cX8_begun 102 = .ok (.iload_n 1, 1) := by decide +kernel
theorem dX8_begun_103 : decode cX8_begun 103 = .ok (.ishl, 1) := by decide +kernel
theorem dX8_begun_104 : decode cX8_begun 104 = .ok (.ior, 1) := by decide +kernel
theorem dX8_begun_105 : decode cX8_begun 105 = .ok (.iadd, 1) := by decide +kernel
theorem dX8_begun_106 : decode cX8_begun 106 = .ok (.iaload, 1) := by decide +kernel
theorem dX8_begun_107 : decode cX8_begun 107 = .ok (.iadd, 1) := by decide +kernel
theorem dX8_begun_108 : decode cX8_begun 108 = .ok (.ireturn, 1) := by decide +kernel
theorem csX8_173 : Cond.constant RX8 173 (Int32.ofInt (-100000)) ∈ tb := (tb_mem (t_in5 (List.mem_of_getElem? (i := 104) (by decide +kernel))) (by decide +kernel))
theorem flX8_52 : FL RX8 52 8 23 := ⟨_, _, _, rfl, by decide, uwX8, Or.inl (tb_mem (t_in4 (List.mem_of_getElem? (i := 131) (by decide +kernel))) (by decide +kernel))⟩
set_option maxHeartbeats 4000000 in
set_option maxRecDepth 20000 in
theorem sgX8_begun_0 {κ : Kx} {K : Kont} {M : Mem} (C : Cx κ RX8 cX8_begun 7 (some .int) rmX8_begun domM) (x1 : Int) (x2 : Int) (x3 : Int) (x4 : Int)
    (h :
    inR (11 * x1) ∧
    inR ((11 * x1) + 4) ∧
    (0 ≤ ((11 * x1) + 4) ∧ ((11 * x1) + 4) < 77) ∧
    ∀ y5_11 : Int, y5_11 = M 37 0 ((11 * x1) + 4) →
    (((bAnd (bShr x4 x1) 1) = 1 →
      K (some (-100000)) M) ∧
     (¬ ((bAnd (bShr x4 x1) 1) = 1) →
      ((y5_11 < 0 →
        spX8_whyByFilm x1 x2 x3 M (rI (fun r42 M42 =>
        ((r42 ≤ 0 →
          spX8_wide x1 x2 M42 (rI (fun r55 M55 =>
          inR (x3 + r55) ∧
          inR ((x3 + r55) + (M55 30 0 3)) ∧
          ∀ y6_64 : Int, y6_64 = (x3 + r55) + (M55 30 0 3) →
          spX8_gainOf x1 x2 x3 M55 (rI (fun r70 M70 =>
          ((y6_64 ≤ (M70 30 0 2) →
            inR (128 * y6_64) ∧
            inR ((128 * y6_64) + (bOr x4 (bShl 1 x1))) ∧
            (0 ≤ ((128 * y6_64) + (bOr x4 (bShl 1 x1))) ∧ ((128 * y6_64) + (bOr x4 (bShl 1 x1))) < 12928) ∧
            inR (r70 + (M70 53 0 ((128 * y6_64) + (bOr x4 (bShl 1 x1))))) ∧
            K (some (r70 + (M70 53 0 ((128 * y6_64) + (bOr x4 (bShl 1 x1)))))) M70) ∧
           (¬ (y6_64 ≤ (M70 30 0 2)) →
            inR (128 * (M70 30 0 2)) ∧
            inR ((128 * (M70 30 0 2)) + (bOr x4 (bShl 1 x1))) ∧
            (0 ≤ ((128 * (M70 30 0 2)) + (bOr x4 (bShl 1 x1))) ∧ ((128 * (M70 30 0 2)) + (bOr x4 (bShl 1 x1))) < 12928) ∧
            inR (r70 + (M70 53 0 ((128 * (M70 30 0 2)) + (bOr x4 (bShl 1 x1))))) ∧
            K (some (r70 + (M70 53 0 ((128 * (M70 30 0 2)) + (bOr x4 (bShl 1 x1)))))) M70))))))) ∧
         (¬ (r42 ≤ 0) →
          K (some (-100000)) M42))))) ∧
       (¬ (y5_11 < 0) →
        (((bAnd (bShr x4 y5_11) 1) = 0 →
          K (some (-100000)) M) ∧
         (¬ ((bAnd (bShr x4 y5_11) 1) = 0) →
          spX8_whyByFilm x1 x2 x3 M (rI (fun r42 M42 =>
          ((r42 ≤ 0 →
            spX8_wide x1 x2 M42 (rI (fun r55 M55 =>
            inR (x3 + r55) ∧
            inR ((x3 + r55) + (M55 30 0 3)) ∧
            ∀ y6_64 : Int, y6_64 = (x3 + r55) + (M55 30 0 3) →
            spX8_gainOf x1 x2 x3 M55 (rI (fun r70 M70 =>
            ((y6_64 ≤ (M70 30 0 2) →
              inR (128 * y6_64) ∧
              inR ((128 * y6_64) + (bOr x4 (bShl 1 x1))) ∧
              (0 ≤ ((128 * y6_64) + (bOr x4 (bShl 1 x1))) ∧ ((128 * y6_64) + (bOr x4 (bShl 1 x1))) < 12928) ∧
              inR (r70 + (M70 53 0 ((128 * y6_64) + (bOr x4 (bShl 1 x1))))) ∧
              K (some (r70 + (M70 53 0 ((128 * y6_64) + (bOr x4 (bShl 1 x1)))))) M70) ∧
             (¬ (y6_64 ≤ (M70 30 0 2)) →
              inR (128 * (M70 30 0 2)) ∧
              inR ((128 * (M70 30 0 2)) + (bOr x4 (bShl 1 x1))) ∧
              (0 ≤ ((128 * (M70 30 0 2)) + (bOr x4 (bShl 1 x1))) ∧ ((128 * (M70 30 0 2)) + (bOr x4 (bShl 1 x1))) < 12928) ∧
              inR (r70 + (M70 53 0 ((128 * (M70 30 0 2)) + (bOr x4 (bShl 1 x1))))) ∧
              K (some (r70 + (M70 53 0 ((128 * (M70 30 0 2)) + (bOr x4 (bShl 1 x1)))))) M70))))))) ∧
           (¬ (r42 ≤ 0) →
            K (some (-100000)) M42))))))))))) : V κ 7 M 0 [some (.inr (30, 0)), some (.inl x1), some (.inl x2), some (.inl x3), some (.inl x4), none, none] [] K := by
  refine v_aload_n C dX8_begun_0 rfl ?_
  refine v_get C dX8_begun_1 flX8_16 rfl (by decide) (by decide) (w := .inr (37, 0)) rfl ?_
  refine v_bipush C dX8_begun_4 (by decide) (by decide) ?_
  refine v_iload_n C dX8_begun_6 rfl ?_
  refine v_imul C dX8_begun_7 h.1 ?_
  replace h := h.2
  refine v_iconst C dX8_begun_8 (by decide) ?_
  refine v_iadd C dX8_begun_9 h.1 ?_
  replace h := h.2
  refine v_iald C dX8_begun_10 rfl h.1.1 h.1.2 ?_
  replace h := h.2
  refine v_nm (fun y5_11 ey5_11 => ?_)
  replace h := h y5_11 ey5_11
  refine v_istore C dX8_begun_11 (by decide) (Nat.le_of_ble_eq_true rfl) (lv' := [some (.inr (30, 0)), some (.inl x1), some (.inl x2), some (.inl x3), some (.inl x4), some (.inl y5_11), none]) rfl ?_
  refine v_iload C dX8_begun_13 rfl ?_
  refine v_iload_n C dX8_begun_15 rfl ?_
  refine v_ishr C dX8_begun_16 ?_
  refine v_iconst C dX8_begun_17 (by decide) ?_
  refine v_iand C dX8_begun_18 ?_
  refine v_iconst C dX8_begun_19 (by decide) ?_
  refine v_icmp C dX8_begun_20 (tgt := 48) (by decide) (P := (bAnd (bShr x4 x1) 1) = 1) rfl (fun c20 => ?_) (fun c20 => ?_)
  · replace h := h.1 c20
    refine v_ldc C dX8_begun_48 csX8_173 (by decide) ?_
    exact v_iret C dX8_begun_50 h
  · replace h := h.2 c20
    refine v_iload C dX8_begun_23 rfl ?_
    refine v_if C dX8_begun_25 (tgt := 38) (by decide) (P := y5_11 < 0) rfl (fun c25 => ?_) (fun c25 => ?_)
    · replace h := h.1 c25
      refine v_aload_n C dX8_begun_38 rfl ?_
      refine v_iload_n C dX8_begun_39 rfl ?_
      refine v_iload_n C dX8_begun_40 rfl ?_
      refine v_iload_n C dX8_begun_41 rfl ?_
      refine v_invV C ctX8_whyByFilm dX8_begun_42 ivX8_151 ⟨by decide, by decide, rfl, rfl⟩ ((x1, x2, x3) : Int × Int × Int) (As := [.inl x1, .inl x2, .inl x3]) rfl rfl rfl (by decide) rfl (st := []) rfl (Nat.le_of_ble_eq_true rfl) h (fun o M42 oM42 io42 g42 => ?_)
      replace h := rI_out g42
      clear g42
      obtain ⟨r42, rfl, h⟩ := h
      refine v_push ?_
      refine v_if C dX8_begun_45 (tgt := 51) (by decide) (P := r42 ≤ 0) rfl (fun c45 => ?_) (fun c45 => ?_)
      · replace h := h.1 c45
        refine v_iload_n C dX8_begun_51 rfl ?_
        refine v_aload_n C dX8_begun_52 rfl ?_
        refine v_iload_n C dX8_begun_53 rfl ?_
        refine v_iload_n C dX8_begun_54 rfl ?_
        refine v_invV C ctX8_wide dX8_begun_55 ivX8_147 ⟨by decide, by decide, rfl, rfl⟩ ((x1, x2) : Int × Int) (As := [.inl x1, .inl x2]) rfl rfl rfl (by decide) rfl (st := [.inl x3]) rfl (Nat.le_of_ble_eq_true rfl) h (fun o M55 oM55 io55 g55 => ?_)
        replace h := rI_out g55
        clear g55
        obtain ⟨r55, rfl, h⟩ := h
        refine v_push ?_
        refine v_iadd C dX8_begun_58 h.1 ?_
        replace h := h.2
        refine v_aload_n C dX8_begun_59 rfl ?_
        refine v_get C dX8_begun_60 flX8_68 rfl (by decide) (by decide) (w := .inl (M55 30 0 3)) rfl ?_
        refine v_iadd C dX8_begun_63 h.1 ?_
        replace h := h.2
        refine v_nm (fun y6_64 ey6_64 => ?_)
        replace h := h y6_64 ey6_64
        refine v_istore C dX8_begun_64 (by decide) (Nat.le_of_ble_eq_true rfl) (lv' := [some (.inr (30, 0)), some (.inl x1), some (.inl x2), some (.inl x3), some (.inl x4), some (.inl y5_11), some (.inl y6_64)]) rfl ?_
        refine v_aload_n C dX8_begun_66 rfl ?_
        refine v_iload_n C dX8_begun_67 rfl ?_
        refine v_iload_n C dX8_begun_68 rfl ?_
        refine v_iload_n C dX8_begun_69 rfl ?_
        refine v_invV C ctX8_gainOf dX8_begun_70 ivX8_160 ⟨by decide, by decide, rfl, rfl⟩ ((x1, x2, x3) : Int × Int × Int) (As := [.inl x1, .inl x2, .inl x3]) rfl rfl rfl (by decide) rfl (st := []) rfl (Nat.le_of_ble_eq_true rfl) h (fun o M70 oM70 io70 g70 => ?_)
        replace h := rI_out g70
        clear g70
        obtain ⟨r70, rfl, h⟩ := h
        refine v_push ?_
        refine v_aload_n C dX8_begun_73 rfl ?_
        refine v_get C dX8_begun_74 flX8_52 rfl (by decide) (by decide) (w := .inr (53, 0)) rfl ?_
        refine v_sipush C dX8_begun_77 (by decide) (by decide) ?_
        refine v_iload C dX8_begun_80 rfl ?_
        refine v_aload_n C dX8_begun_82 rfl ?_
        refine v_get C dX8_begun_83 flX8_64 rfl (by decide) (by decide) (w := .inl (M70 30 0 2)) rfl ?_
        refine v_icmp C dX8_begun_86 (tgt := 96) (by decide) (P := y6_64 ≤ (M70 30 0 2)) rfl (fun c86 => ?_) (fun c86 => ?_)
        · replace h := h.1 c86
          refine v_iload C dX8_begun_96 rfl ?_
          refine v_imul C dX8_begun_98 h.1 ?_
          replace h := h.2
          refine v_iload C dX8_begun_99 rfl ?_
          refine v_iconst C dX8_begun_101 (by decide) ?_
          refine v_iload_n C dX8_begun_102 rfl ?_
          refine v_ishl C dX8_begun_103 ?_
          refine v_ior C dX8_begun_104 ?_
          refine v_iadd C dX8_begun_105 h.1 ?_
          replace h := h.2
          refine v_iald C dX8_begun_106 rfl h.1.1 h.1.2 ?_
          replace h := h.2
          refine v_iadd C dX8_begun_107 h.1 ?_
          replace h := h.2
          exact v_iret C dX8_begun_108 h
        · replace h := h.2 c86
          refine v_aload_n C dX8_begun_89 rfl ?_
          refine v_get C dX8_begun_90 flX8_64 rfl (by decide) (by decide) (w := .inl (M70 30 0 2)) rfl ?_
          refine v_goto C dX8_begun_93 (tgt := 98) (by decide) ?_
          refine v_imul C dX8_begun_98 h.1 ?_
          replace h := h.2
          refine v_iload C dX8_begun_99 rfl ?_
          refine v_iconst C dX8_begun_101 (by decide) ?_
          refine v_iload_n C dX8_begun_102 rfl ?_
          refine v_ishl C dX8_begun_103 ?_
          refine v_ior C dX8_begun_104 ?_
          refine v_iadd C dX8_begun_105 h.1 ?_
          replace h := h.2
          refine v_iald C dX8_begun_106 rfl h.1.1 h.1.2 ?_
          replace h := h.2
          refine v_iadd C dX8_begun_107 h.1 ?_
          replace h := h.2
          exact v_iret C dX8_begun_108 h
      · replace h := h.2 c45
        refine v_ldc C dX8_begun_48 csX8_173 (by decide) ?_
        exact v_iret C dX8_begun_50 h
    · replace h := h.2 c25
      refine v_iload C dX8_begun_28 rfl ?_
      refine v_iload C dX8_begun_30 rfl ?_
      refine v_ishr C dX8_begun_32 ?_
      refine v_iconst C dX8_begun_33 (by decide) ?_
      refine v_iand C dX8_begun_34 ?_
      refine v_if C dX8_begun_35 (tgt := 48) (by decide) (P := (bAnd (bShr x4 y5_11) 1) = 0) rfl (fun c35 => ?_) (fun c35 => ?_)
      · replace h := h.1 c35
        refine v_ldc C dX8_begun_48 csX8_173 (by decide) ?_
        exact v_iret C dX8_begun_50 h
      · replace h := h.2 c35
        refine v_aload_n C dX8_begun_38 rfl ?_
        refine v_iload_n C dX8_begun_39 rfl ?_
        refine v_iload_n C dX8_begun_40 rfl ?_
        refine v_iload_n C dX8_begun_41 rfl ?_
        refine v_invV C ctX8_whyByFilm dX8_begun_42 ivX8_151 ⟨by decide, by decide, rfl, rfl⟩ ((x1, x2, x3) : Int × Int × Int) (As := [.inl x1, .inl x2, .inl x3]) rfl rfl rfl (by decide) rfl (st := []) rfl (Nat.le_of_ble_eq_true rfl) h (fun o M42 oM42 io42 g42 => ?_)
        replace h := rI_out g42
        clear g42
        obtain ⟨r42, rfl, h⟩ := h
        refine v_push ?_
        refine v_if C dX8_begun_45 (tgt := 51) (by decide) (P := r42 ≤ 0) rfl (fun c45 => ?_) (fun c45 => ?_)
        · replace h := h.1 c45
          refine v_iload_n C dX8_begun_51 rfl ?_
          refine v_aload_n C dX8_begun_52 rfl ?_
          refine v_iload_n C dX8_begun_53 rfl ?_
          refine v_iload_n C dX8_begun_54 rfl ?_
          refine v_invV C ctX8_wide dX8_begun_55 ivX8_147 ⟨by decide, by decide, rfl, rfl⟩ ((x1, x2) : Int × Int) (As := [.inl x1, .inl x2]) rfl rfl rfl (by decide) rfl (st := [.inl x3]) rfl (Nat.le_of_ble_eq_true rfl) h (fun o M55 oM55 io55 g55 => ?_)
          replace h := rI_out g55
          clear g55
          obtain ⟨r55, rfl, h⟩ := h
          refine v_push ?_
          refine v_iadd C dX8_begun_58 h.1 ?_
          replace h := h.2
          refine v_aload_n C dX8_begun_59 rfl ?_
          refine v_get C dX8_begun_60 flX8_68 rfl (by decide) (by decide) (w := .inl (M55 30 0 3)) rfl ?_
          refine v_iadd C dX8_begun_63 h.1 ?_
          replace h := h.2
          refine v_nm (fun y6_64 ey6_64 => ?_)
          replace h := h y6_64 ey6_64
          refine v_istore C dX8_begun_64 (by decide) (Nat.le_of_ble_eq_true rfl) (lv' := [some (.inr (30, 0)), some (.inl x1), some (.inl x2), some (.inl x3), some (.inl x4), some (.inl y5_11), some (.inl y6_64)]) rfl ?_
          refine v_aload_n C dX8_begun_66 rfl ?_
          refine v_iload_n C dX8_begun_67 rfl ?_
          refine v_iload_n C dX8_begun_68 rfl ?_
          refine v_iload_n C dX8_begun_69 rfl ?_
          refine v_invV C ctX8_gainOf dX8_begun_70 ivX8_160 ⟨by decide, by decide, rfl, rfl⟩ ((x1, x2, x3) : Int × Int × Int) (As := [.inl x1, .inl x2, .inl x3]) rfl rfl rfl (by decide) rfl (st := []) rfl (Nat.le_of_ble_eq_true rfl) h (fun o M70 oM70 io70 g70 => ?_)
          replace h := rI_out g70
          clear g70
          obtain ⟨r70, rfl, h⟩ := h
          refine v_push ?_
          refine v_aload_n C dX8_begun_73 rfl ?_
          refine v_get C dX8_begun_74 flX8_52 rfl (by decide) (by decide) (w := .inr (53, 0)) rfl ?_
          refine v_sipush C dX8_begun_77 (by decide) (by decide) ?_
          refine v_iload C dX8_begun_80 rfl ?_
          refine v_aload_n C dX8_begun_82 rfl ?_
          refine v_get C dX8_begun_83 flX8_64 rfl (by decide) (by decide) (w := .inl (M70 30 0 2)) rfl ?_
          refine v_icmp C dX8_begun_86 (tgt := 96) (by decide) (P := y6_64 ≤ (M70 30 0 2)) rfl (fun c86 => ?_) (fun c86 => ?_)
          · replace h := h.1 c86
            refine v_iload C dX8_begun_96 rfl ?_
            refine v_imul C dX8_begun_98 h.1 ?_
            replace h := h.2
            refine v_iload C dX8_begun_99 rfl ?_
            refine v_iconst C dX8_begun_101 (by decide) ?_
            refine v_iload_n C dX8_begun_102 rfl ?_
            refine v_ishl C dX8_begun_103 ?_
            refine v_ior C dX8_begun_104 ?_
            refine v_iadd C dX8_begun_105 h.1 ?_
            replace h := h.2
            refine v_iald C dX8_begun_106 rfl h.1.1 h.1.2 ?_
            replace h := h.2
            refine v_iadd C dX8_begun_107 h.1 ?_
            replace h := h.2
            exact v_iret C dX8_begun_108 h
          · replace h := h.2 c86
            refine v_aload_n C dX8_begun_89 rfl ?_
            refine v_get C dX8_begun_90 flX8_64 rfl (by decide) (by decide) (w := .inl (M70 30 0 2)) rfl ?_
            refine v_goto C dX8_begun_93 (tgt := 98) (by decide) ?_
            refine v_imul C dX8_begun_98 h.1 ?_
            replace h := h.2
            refine v_iload C dX8_begun_99 rfl ?_
            refine v_iconst C dX8_begun_101 (by decide) ?_
            refine v_iload_n C dX8_begun_102 rfl ?_
            refine v_ishl C dX8_begun_103 ?_
            refine v_ior C dX8_begun_104 ?_
            refine v_iadd C dX8_begun_105 h.1 ?_
            replace h := h.2
            refine v_iald C dX8_begun_106 rfl h.1.1 h.1.2 ?_
            replace h := h.2
            refine v_iadd C dX8_begun_107 h.1 ?_
            replace h := h.2
            exact v_iret C dX8_begun_108 h
        · replace h := h.2 c45
          refine v_ldc C dX8_begun_48 csX8_173 (by decide) ?_
          exact v_iret C dX8_begun_50 h
def bgn (F : Film) (may p v t set : Int) : Int := if begOk F (spb F) p v t set then begW F (csb F) (F 1 0 0) (gT F may) p v t set else -100000
abbrev spX8_begun (p v t set : Int) (M : Mem) (K : Kont) : Prop := (WFf (mFilm M) ∧ HrK M (mFilm M) ∧ tellK (mFilm M) p v t ∧ (0 ≤ set ∧ set < bShl 1 (mFilm M 3 0 0))) ∧ ∃ may, TbM M (mFilm M) may (t + 1) ∧ K (some (bgn (mFilm M) may p v t set)) M
theorem ctX8_begun : CtX8_begun spX8_begun := by
  refine ct_of (by decide) dmM (fun _ => Nat.le_of_ble_eq_true rfl) ?_
  intro κ a M K C oM h
  obtain ⟨p, v, t, set⟩ := a
  obtain ⟨⟨hf, hH, tk, hs⟩, may, hT, hk⟩ := h
  have tk : tellK (mFilm M) p v t := tk
  have hs : 0 ≤ set ∧ set < bShl 1 (mFilm M 3 0 0) := hs
  have hT : TbM M (mFilm M) may (t + 1) := hT
  have hk : K (some (bgn (mFilm M) may p v t set)) M := hk
  have n3 := hf.2.2.2.1
  have B := hf.2.1
  have wp := wf_p hf tk.1.1.1 tk.1.1.2
  have wv := wf_pv hf tk.1.1.1 tk.1.1.2 tk.1.2.1 tk.1.2.2
  have hw := shl_le7 n3.1 n3.2
  have ow := or_w n3.1 n3.2 hs.1 hs.2 tk.1.1.1 tk.1.1.2
  have e12 : mFilm M 12 p 0 = M 37 0 (11 * p + 4) := rfl
  have e0 : mFilm M 0 0 0 = M 30 0 2 := rfl
  have e1 : mFilm M 1 0 0 = M 30 0 3 := rfl
  have sp := shr_bit (x := set) (k := p) hs.1 (by omega) tk.1.1.1 (by omega)
  unfold bgn at hk
  have no : ¬ begOk (mFilm M) (spb (mFilm M)) p v t set → K (some (-100000)) M := fun z => by rw [if_neg z] at hk; exact hk
  have on : ownW (mFilm M) (spb (mFilm M)) p v t = 0 ∨ 0 < ownW (mFilm M) (spb (mFilm M)) p v t := by
    unfold ownW
    (repeat' split) <;> omega
  -- behind the questions of the set
  have tail : bit set p = false → (mFilm M 12 p 0 = -4 ∨ bit set (mFilm M 12 p 0) = true) → 
      spX8_whyByFilm p v t M (rI (fun r42 M42 => ((r42 ≤ 0 → spX8_wide p v M42 (rI (fun r55 M55 => inR (t + r55) ∧ inR ((t + r55) + (M55 30 0 3)) ∧ ∀ y6_64 : Int, y6_64 = (t + r55) + (M55 30 0 3) →
          spX8_gainOf p v t M55 (rI (fun r70 M70 => ((y6_64 ≤ (M70 30 0 2) → inR (128 * y6_64) ∧ inR ((128 * y6_64) + (bOr set (bShl 1 p))) ∧ (0 ≤ ((128 * y6_64) + (bOr set (bShl 1 p))) ∧ ((128 * y6_64) + (bOr set (bShl 1 p))) < 12928) ∧ inR (r70 + (M70 53 0 ((128 * y6_64) + (bOr set (bShl 1 p))))) ∧ K (some (r70 + (M70 53 0 ((128 * y6_64) + (bOr set (bShl 1 p)))))) M70) ∧
           (¬ (y6_64 ≤ (M70 30 0 2)) → inR (128 * (M70 30 0 2)) ∧ inR ((128 * (M70 30 0 2)) + (bOr set (bShl 1 p))) ∧ (0 ≤ ((128 * (M70 30 0 2)) + (bOr set (bShl 1 p))) ∧ ((128 * (M70 30 0 2)) + (bOr set (bShl 1 p))) < 12928) ∧ inR (r70 + (M70 53 0 ((128 * (M70 30 0 2)) + (bOr set (bShl 1 p))))) ∧ K (some (r70 + (M70 53 0 ((128 * (M70 30 0 2)) + (bOr set (bShl 1 p)))))) M70))))))) ∧
         (¬ (r42 ≤ 0) → K (some (-100000)) M42)))) := by
    intro b1 b2
    refine ⟨⟨hf, hH, tk⟩, fun d => ?_, fun d => no (fun z => by have := z.2.2; omega)⟩
    have ok : begOk (mFilm M) (spb (mFilm M)) p v t set := ⟨b1, b2, by omega⟩
    have oe := own_end ok.2.2
    have gr := gainC_rng hf tk
    rw [if_pos ok] at hk
    unfold begW at hk
    refine ⟨by omega, ?_⟩
    show inR (t + mFilm M 13 p v) ∧ _
    refine ⟨by omega, by omega, fun y ey => ⟨⟨hf, hH, tk, oe.1⟩, fun d2 => ?_, fun d2 => ?_⟩⟩
    · have g := hT y (bOr set (bShl 1 p)) (by omega) (by omega) ow.1 ow.2.1
      have gr2 := gT_rng hf (may := may) (t := y) (set := bOr set (bShl 1 p)) (by omega) (by omega)
      rw [show min (t + mFilm M 13 p v + mFilm M 1 0 0) (mFilm M 0 0 0) = y by omega, ← g] at hk
      rw [← g] at gr2
      exact ⟨by omega, by omega, by omega, by omega, hk⟩
    · have g := hT (mFilm M 0 0 0) (bOr set (bShl 1 p)) (by omega) (by omega) ow.1 ow.2.1
      have gr2 := gT_rng hf (may := may) (t := mFilm M 0 0 0) (set := bOr set (bShl 1 p)) (by omega) (by omega)
      rw [show min (t + mFilm M 13 p v + mFilm M 1 0 0) (mFilm M 0 0 0) = mFilm M 0 0 0 by omega, ← g] at hk
      rw [← g] at gr2
      rw [e0] at gr2 hk
      exact ⟨by omega, by omega, by omega, by omega, hk⟩
  refine sgX8_begun_0 C p v t set ⟨by omega, by omega, by omega, fun y ey => ⟨fun c => no (fun z => ?_), fun c => ?_⟩⟩
  · rw [sp, z.1] at c
    exact absurd c (by decide)
  · have b1 : bit set p = false := by
      refine bfl (fun z => c ?_)
      rw [sp, z]
      rfl
    refine ⟨fun c2 => tail b1 (Or.inl (by omega)), fun c2 => ?_⟩
    have sy := shr_bit (x := set) (k := y) hs.1 (by omega) (by omega) (by omega)
    have ey' : mFilm M 12 p 0 = y := by omega
    refine ⟨fun c3 => no (fun z => ?_), fun c3 => tail b1 (Or.inr ?_)⟩
    · rcases z.2.1 with z' | z'
      · omega
      · rw [ey'] at z'
        rw [sy, z'] at c3
        exact absurd c3 (by decide)
    · rw [ey']
      cases hh : bit set y
      · rw [sy, hh] at c3
        exact absurd (by decide) c3
      · rfl
/-! ===== GapTellingsModel.fills ===== -/
abbrev rmX8_fills : Room := { frames := 3, cells := 0, slots := 0, locals := 74 }
abbrev argX8_fills (a : Int) : List PV := [.inr (30, 0), .inl a]
abbrev CtX8_fills (sp : Int → Mem → Kont → Prop) : Prop := Ct yX8_fills cX8_fills 8 (some .int) rmX8_fills domM argX8_fills (fun a => sp a)
theorem dX8_fills_0 : decode cX8_fills 0 = .ok (.iconst 0, 1) := by decide +kernel
theorem dX8_fills_1 : decode cX8_fills 1 = .ok (.istore_n 2, 1) := by decide +kernel
theorem dX8_fills_2 : decode cX8_fills 2 = .ok (.iload_n 2, 1) := by decide +kernel
theorem dX8_fills_3 : decode cX8_fills 3 = .ok (.sipush 128, 3) := by decide +kernel
theorem dX8_fills_6 : decode cX8_fills 6 = .ok (.if_icmp .ge 25, 3) := by decide +kernel
theorem dX8_fills_9 : decode cX8_fills 9 = .ok (.aload_n 0, 1) := by decide +kernel
theorem dX8_fills_10 : decode cX8_fills 10 = .ok (.getfield 52, 3) := by decide +kernel
theorem dX8_fills_13 : decode cX8_fills 13 = .ok (.sipush 128, 3) := by decide +kernel
theorem dX8_fills_16 : decode cX8_fills 16 = .ok (.aload_n 0, 1) := by decide +kernel
theorem dX8_fills_17 : decode cX8_fills 17 = .ok (.getfield 64, 3) := by decide +kernel
theorem dX8_fills_20 : decode cX8_fills 20 = .ok (.imul, 1) := by decide +kernel
theorem dX8_fills_21 : decode cX8_fills 21 = .ok (.iload_n 2, 1) := by decide +kernel
theorem dX8_fills_22 : decode cX8_fills 22 = .ok (.iadd, 1) := by decide +kernel
theorem dX8_fills_23 : decode cX8_fills 23 = .ok (.iconst 0, 1) := by decide +kernel
theorem dX8_fills_24 : decode cX8_fills 24 = .ok (.iastore, 1) := by decide +kernel
theorem dX8_fills_25 : decode cX8_fills 25 = .ok (.iinc 2 1, 3) := by decide +kernel
theorem dX8_fills_28 : decode cX8_fills 28 = .ok (.goto (-26), 3) := by decide +kernel
theorem dX8_fills_31 : decode cX8_fills 31 = .ok (.aload_n 0, 1) := by decide +kernel
theorem dX8_fills_32 : decode cX8_fills 32 = .ok (.getfield 64, 3) := by decide +kernel
theorem dX8_fills_35 : decode cX8_fills 35 = .ok (.iconst 1, 1) := by decide +kernel
theorem dX8_fills_36 : decode cX8_fills 36 = .ok (.isub, 1) := by decide +kernel
theorem dX8_fills_37 : decode cX8_fills 37 = .ok (.istore_n 2, 1) := by decide +kernel
theorem dX8_fills_38 : decode cX8_fills 38 = .ok (.iload_n 2, 1) := by decide +kernel
theorem dX8_fills_39 : decode cX8_fills 39 = .ok (.ifCond .lt 139, 3) := by decide +kernel
theorem dX8_fills_42 : decode cX8_fills 42 = .ok (.iconst 0, 1) := by decide +kernel
theorem dX8_fills_43 : decode cX8_fills 43 = .ok (.istore_n 3, 1) := by decide +kernel
theorem dX8_fills_44 : decode cX8_fills 44 = .ok (.iload_n 3, 1) := by decide +kernel
theorem dX8_fills_45 : decode cX8_fills 45 = .ok (.iconst 1, 1) := by decide +kernel
theorem dX8_fills_46 : decode cX8_fills 46 = .ok (.aload_n 0, 1) := by decide +kernel
theorem dX8_fills_47 : decode cX8_fills 47 = .ok (.getfield 74, 3) := by decide +kernel
theorem dX8_fills_50 : decode cX8_fills 50 = .ok (.ishl, 1) := by decide +kernel
theorem dX8_fills_51 : decode cX8_fills 51 = .ok (.if_icmp .ge 121, 3) := by decide +kernel
theorem dX8_fills_54 : decode cX8_fills 54 = .ok (.aload_n 0, 1) := by decide +kernel
theorem dX8_fills_55 : decode cX8_fills 55 = .ok (.getfield 52, 3) := by decide +kernel
theorem dX8_fills_58 : decode cX8_fills 58 = .ok (.sipush 128, 3) := by decide +kernel
theorem dX8_fills_61 : decode cX8_fills 61 = .ok (.iload_n 2, 1) := by decide +kernel
theorem dX8_fills_62 : decode cX8_fills 62 = .ok (.iconst 1, 1) := by decide +kernel
theorem dX8_fills_63 : decode cX8_fills 63 = .ok (.iadd, 1) := by decide +kernel
theorem dX8_fills_64 : decode cX8_fills 64 = .ok (.imul, 1) := by decide +kernel
theorem dX8_fills_65 : decode cX8_fills 65 = .ok (.iload_n 3, 1) := by decide +kernel
theorem dX8_fills_66 : decode cX8_fills 66 = .ok (.iadd, 1) := by decide +kernel
theorem dX8_fills_67 : decode cX8_fills 67 = .ok (.iaload, 1) := by decide +kernel
theorem dX8_fills_68 : decode cX8_fills 68 = .ok (.istore 4, 2) := by decide +kernel
theorem dX8_fills_70 : decode cX8_fills 70 = .ok (.iconst 0, 1) := by decide +kernel
theorem dX8_fills_71 : decode cX8_fills 71 = .ok (.istore 5, 2) := by decide +kernel
theorem dX8_fills_73 : decode cX8_fills 73 = .ok (.iload 5, 2) := by decide +kernel
theorem dX8_fills_75 : decode cX8_fills 75 = .ok (.aload_n 0, 1) := by decide +kernel
theorem dX8_fills_76 : decode cX8_fills 76 = .ok (.getfield 74, 3) := by decide +kernel
theorem dX8_fills_79 : decode cX8_fills 79 = .ok (.if_icmp .ge 73, 3) := by decide +kernel
theorem dX8_fills_82 : decode cX8_fills 82 = .ok (.iconst 0, 1) := by decide +kernel
theorem dX8_fills_83 : decode cX8_fills 83 = .ok (.istore 6, 2) := by decide +kernel
theorem dX8_fills_85 : decode cX8_fills 85 = .ok (.iload 6, 2) := by decide +kernel
theorem dX8_fills_87 : decode cX8_fills 87 = .ok (.aload_n 0, 1) := by decide +kernel
theorem dX8_fills_88 : decode cX8_fills 88 = .ok (.getfield 16, 3) := by decide +kernel
theorem dX8_fills_91 : decode cX8_fills 91 = .ok (.bipush 11, 2) := by decide +kernel
theorem dX8_fills_93 : decode cX8_fills 93 = .ok (.iload 5, 2) := by decide +kernel
theorem dX8_fills_95 : decode cX8_fills 95 = .ok (.imul, 1) := by decide +kernel
theorem dX8_fills_96 : decode cX8_fills 96 = .ok (.iconst 3, 1) := by decide +kernel
theorem dX8_fills_97 : decode cX8_fills 97 = .ok (.iadd, 1) := by decide +kernel
theorem dX8_fills_98 : decode cX8_fills 98 = .ok (.iaload, 1) := by decide +kernel
theorem dX8_fills_99 : decode cX8_fills 99 = .ok (.if_icmp .ge 47, 3) := by decide +kernel
theorem dX8_fills_102 : decode cX8_fills 102 = .ok (.iload_n 1, 1) := by decide +kernel
theorem dX8_fills_103 : decode cX8_fills 103 = .ok (.iload 5, 2) := by decide +kernel
theorem dX8_fills_105 : decode cX8_fills 105 = .ok (.ishr, 1) := by decide +kernel
theorem dX8_fills_106 : decode cX8_fills 106 = .ok (.iconst 1, 1) := by decide +kernel
theorem dX8_fills_107 : decode cX8_fills 107 = .ok (.iand, 1) := by decide +kernel
theorem dX8_fills_108 : decode cX8_fills 108 = .ok (.iconst 1, 1) := by decide +kernel
theorem dX8_fills_109 : decode cX8_fills 109 = .ok (.if_icmp .ne 37, 3) := by decide +kernel
theorem dX8_fills_112 : decode cX8_fills 112 = .ok (.aload_n 0, 1) := by decide +kernel
theorem dX8_fills_113 : decode cX8_fills 113 = .ok (.iload 5, 2) := by decide +kernel
theorem dX8_fills_115 : decode cX8_fills 115 = .ok (.iload 6, 2) := by decide +kernel
theorem dX8_fills_117 : decode cX8_fills 117 = .ok (.iload_n 2, 1) := by decide +kernel
theorem dX8_fills_118 : decode cX8_fills 118 = .ok (.iload_n 3, 1) := by decide +kernel
theorem dX8_fills_119 : decode cX8_fills 119 = .ok (.invokevirtual 174, 3) := by decide +kernel
theorem dX8_fills_122 : decode cX8_fills 122 = .ok (.istore 7, 2) := by decide +kernel
theorem dX8_fills_124 : decode cX8_fills 124 = .ok (.iload 7, 2) := by decide +kernel
theorem dX8_fills_126 : decode cX8_fills 126 = .ok (.iload 4, 2) := by decide +kernel
theorem dX8_fills_128 : decode cX8_fills 128 = .ok (.if_icmp .le 8, 3) := by decide +kernel
theorem dX8_fills_131 : decode cX8_fills 131 = .ok (.iload 7, 2) := by decide +kernel
theorem dX8_fills_133 : decode cX8_fills 133 = .ok (.goto 5, 3) := by decide +kernel
theorem dX8_fills_136 : decode cX8_fills 136 = .ok (.iload 4, 2) := by decide +kernel
theorem dX8_fills_138 : decode cX8_fills 138 = .ok (.istore 4, 2) := by decide +kernel
theorem dX8_fills_140 : decode cX8_fills 140 = .ok (.iinc 6 1, 3) := by decide +kernel
theorem dX8_fills_143 : decode cX8_fills 143 = .ok (.goto (-58), 3) := by decide +kernel
theorem dX8_fills_146 : decode cX8_fills 146 = .ok (.iinc 5 1, 3) := by decide +kernel
theorem dX8_fills_149 : decode cX8_fills 149 = .ok (.goto (-76), 3) := by decide +kernel
theorem dX8_fills_152 : decode cX8_fills 152 = .ok (.aload_n 0, 1) := by decide +kernel
theorem dX8_fills_153 : decode cX8_fills 153 = .ok (.getfield 52, 3) := by decide +kernel
theorem dX8_fills_156 : decode cX8_fills 156 = .ok (.sipush 128, 3) := by decide +kernel
theorem dX8_fills_159 : decode cX8_fills 159 = .ok (.iload_n 2, 1) := by decide +kernel
theorem dX8_fills_160 : decode cX8_fills 160 = .ok (.imul, 1) := by decide +kernel
theorem dX8_fills_161 : decode cX8_fills 161 = .ok (.iload_n 3, 1) := by decide +kernel
theorem dX8_fills_162 : decode cX8_fills 162 = .ok (.iadd, 1) := by decide +kernel
theorem dX8_fills_163 : decode cX8_fills 163 = .ok (.iload 4, 2) := by decide +kernel
theorem dX8_fills_165 : decode cX8_fills 165 = .ok (.iastore, 1) := by decide +kernel
theorem dX8_fills_166 : decode cX8_fills 166 = .ok (.iinc 3 1, 3) := by decide +kernel
theorem dX8_fills_169 : decode cX8_fills 169 = .ok (.goto (-125), 3) := by decide +kernel
theorem dX8_fills_172 : decode cX8_fills 172 = .ok (.iinc 2 (-1), 3) := by decide +kernel
theorem dX8_fills_175 : decode cX8_fills 175 = .ok (.goto (-137), 3) := by decide +kernel
theorem dX8_fills_178 : decode cX8_fills 178 = .ok (.aload_n 0, 1) := by decide +kernel
theorem dX8_fills_179 : decode cX8_fills 179 = .ok (.getfield 52, 3) := by decide +kernel
theorem dX8_fills_182 : decode cX8_fills 182 = .ok (.iconst 0, 1) := by decide +kernel
theorem dX8_fills_183 : decode cX8_fills 183 = .ok (.iaload, 1) := by decide +kernel
theorem dX8_fills_184 : decode cX8_fills 184 = .ok (.ireturn, 1) := by decide +kernel
theorem ivX8_174 : IV RX8 174 yX8_begun cX8_begun 7 (some .int) 4 := ⟨(tb_mem (t_in5 (List.mem_of_getElem? (i := 100) (by decide +kernel))) (by decide +kernel)), (tb_mem (t_in5 (List.mem_of_getElem? (i := 102) (by decide +kernel))) (by decide +kernel)), (tb_sel (q := (⟨"GapTellingsModel", "begun", "(IIII)I"⟩, 29)) (List.mem_of_getElem? (i := 29) (by decide +kernel)) (by decide +kernel)), (tb_mem (t_in1 (List.mem_of_getElem? (i := 16) (by decide +kernel))) (by decide +kernel)), (tb_mem (t_in5 (List.mem_of_getElem? (i := 103) (by decide +kernel))) (by decide +kernel)), ⟨by decide +kernel, by decide +kernel, by decide +kernel⟩⟩
set_option maxHeartbeats 4000000 in
set_option maxRecDepth 20000 in
theorem sgX8_fills_0 {κ : Kx} {K : Kont} {M : Mem} (C : Cx κ RX8 cX8_fills 8 (some .int) rmX8_fills domM) (x1 : Int)
    (h :
    V κ 8 M 2 [some (.inr (30, 0)), some (.inl x1), some (.inl 0), none, none, none, none, none] [] K) : V κ 8 M 0 [some (.inr (30, 0)), some (.inl x1), none, none, none, none, none, none] [] K := by
  refine v_iconst C dX8_fills_0 (by decide) ?_
  refine v_istore_n C dX8_fills_1 (by decide) (Nat.le_of_ble_eq_true rfl) (lv' := [some (.inr (30, 0)), some (.inl x1), some (.inl 0), none, none, none, none, none]) rfl ?_
  refine v_weak [some (.inr (30, 0)), some (.inl x1), some (.inl 0), none, none, none, none, none] ⟨rfl, rfl, rfl, trivial⟩ ?_
  exact h
set_option maxHeartbeats 4000000 in
set_option maxRecDepth 20000 in
theorem sgX8_fills_2 {κ : Kx} {K : Kont} {M : Mem} (C : Cx κ RX8 cX8_fills 8 (some .int) rmX8_fills domM) (x1 : Int) (x2 : Int)
    (h :
    ((128 ≤ x2 →
      inR ((M 30 0 2) - 1) ∧
      ∀ y2_37 : Int, y2_37 = (M 30 0 2) - 1 →
      V κ 8 M 38 [some (.inr (30, 0)), some (.inl x1), some (.inl y2_37), none, none, none, none, none] [] K) ∧
     (¬ (128 ≤ x2) →
      inR (128 * (M 30 0 2)) ∧
      inR ((128 * (M 30 0 2)) + x2) ∧
      (0 ≤ ((128 * (M 30 0 2)) + x2) ∧ ((128 * (M 30 0 2)) + x2) < 12928) ∧
      ∀ M24 : Mem, M24 = up3 M 53 0 ((128 * (M 30 0 2)) + x2) 0 →
      inR (x2 + 1) ∧
      V κ 8 M24 2 [some (.inr (30, 0)), some (.inl x1), some (.inl (x2 + 1)), none, none, none, none, none] [] K))) : V κ 8 M 2 [some (.inr (30, 0)), some (.inl x1), some (.inl x2), none, none, none, none, none] [] K := by
  refine v_iload_n C dX8_fills_2 rfl ?_
  refine v_sipush C dX8_fills_3 (by decide) (by decide) ?_
  refine v_icmp C dX8_fills_6 (tgt := 31) (by decide) (P := 128 ≤ x2) rfl (fun c6 => ?_) (fun c6 => ?_)
  · replace h := h.1 c6
    refine v_aload_n C dX8_fills_31 rfl ?_
    refine v_get C dX8_fills_32 flX8_64 rfl (by decide) (by decide) (w := .inl (M 30 0 2)) rfl ?_
    refine v_iconst C dX8_fills_35 (by decide) ?_
    refine v_isub C dX8_fills_36 h.1 ?_
    replace h := h.2
    refine v_nm (fun y2_37 ey2_37 => ?_)
    replace h := h y2_37 ey2_37
    refine v_istore_n C dX8_fills_37 (by decide) (Nat.le_of_ble_eq_true rfl) (lv' := [some (.inr (30, 0)), some (.inl x1), some (.inl y2_37), none, none, none, none, none]) rfl ?_
    refine v_weak [some (.inr (30, 0)), some (.inl x1), some (.inl y2_37), none, none, none, none, none] ⟨rfl, rfl, rfl, trivial⟩ ?_
    exact h
  · replace h := h.2 c6
    refine v_aload_n C dX8_fills_9 rfl ?_
    refine v_get C dX8_fills_10 flX8_52 rfl (by decide) (by decide) (w := .inr (53, 0)) rfl ?_
    refine v_sipush C dX8_fills_13 (by decide) (by decide) ?_
    refine v_aload_n C dX8_fills_16 rfl ?_
    refine v_get C dX8_fills_17 flX8_64 rfl (by decide) (by decide) (w := .inl (M 30 0 2)) rfl ?_
    refine v_imul C dX8_fills_20 h.1 ?_
    replace h := h.2
    refine v_iload_n C dX8_fills_21 rfl ?_
    refine v_iadd C dX8_fills_22 h.1 ?_
    replace h := h.2
    refine v_iconst C dX8_fills_23 (by decide) ?_
    refine v_iast C dX8_fills_24 rfl h.1.1 h.1.2 ?_
    replace h := h.2
    refine v_nmM (fun M24 eM24 => ?_)
    replace h := h M24 eM24
    refine v_iinc C dX8_fills_25 (by decide) rfl h.1 (lv' := [some (.inr (30, 0)), some (.inl x1), some (.inl (x2 + 1)), none, none, none, none, none]) rfl ?_
    replace h := h.2
    refine v_goto C dX8_fills_28 (tgt := 2) (by decide) ?_
    refine v_weak [some (.inr (30, 0)), some (.inl x1), some (.inl (x2 + 1)), none, none, none, none, none] ⟨rfl, rfl, rfl, trivial⟩ ?_
    exact h
set_option maxHeartbeats 4000000 in
set_option maxRecDepth 20000 in
theorem sgX8_fills_38 {κ : Kx} {K : Kont} {M : Mem} (C : Cx κ RX8 cX8_fills 8 (some .int) rmX8_fills domM) (x1 : Int) (x2 : Int)
    (h :
    ((x2 < 0 →
      K (some (M 53 0 0)) M) ∧
     (¬ (x2 < 0) →
      V κ 8 M 44 [some (.inr (30, 0)), some (.inl x1), some (.inl x2), some (.inl 0), none, none, none, none] [] K))) : V κ 8 M 38 [some (.inr (30, 0)), some (.inl x1), some (.inl x2), none, none, none, none, none] [] K := by
  refine v_iload_n C dX8_fills_38 rfl ?_
  refine v_if C dX8_fills_39 (tgt := 178) (by decide) (P := x2 < 0) rfl (fun c39 => ?_) (fun c39 => ?_)
  · replace h := h.1 c39
    refine v_aload_n C dX8_fills_178 rfl ?_
    refine v_get C dX8_fills_179 flX8_52 rfl (by decide) (by decide) (w := .inr (53, 0)) rfl ?_
    refine v_iconst C dX8_fills_182 (by decide) ?_
    refine v_iald C dX8_fills_183 rfl (by decide) (by decide) ?_
    exact v_iret C dX8_fills_184 h
  · replace h := h.2 c39
    refine v_iconst C dX8_fills_42 (by decide) ?_
    refine v_istore_n C dX8_fills_43 (by decide) (Nat.le_of_ble_eq_true rfl) (lv' := [some (.inr (30, 0)), some (.inl x1), some (.inl x2), some (.inl 0), none, none, none, none]) rfl ?_
    refine v_weak [some (.inr (30, 0)), some (.inl x1), some (.inl x2), some (.inl 0), none, none, none, none] ⟨rfl, rfl, rfl, rfl, trivial⟩ ?_
    exact h
set_option maxHeartbeats 4000000 in
set_option maxRecDepth 20000 in
theorem sgX8_fills_44 {κ : Kx} {K : Kont} {M : Mem} (C : Cx κ RX8 cX8_fills 8 (some .int) rmX8_fills domM) (x1 : Int) (x2 : Int) (x3 : Int)
    (h :
    (((bShl 1 (M 30 0 6)) ≤ x3 →
      inR (x2 + (-1)) ∧
      V κ 8 M 38 [some (.inr (30, 0)), some (.inl x1), some (.inl (x2 + (-1))), none, none, none, none, none] [] K) ∧
     (¬ ((bShl 1 (M 30 0 6)) ≤ x3) →
      inR (x2 + 1) ∧
      inR (128 * (x2 + 1)) ∧
      inR ((128 * (x2 + 1)) + x3) ∧
      (0 ≤ ((128 * (x2 + 1)) + x3) ∧ ((128 * (x2 + 1)) + x3) < 12928) ∧
      ∀ y4_68 : Int, y4_68 = M 53 0 ((128 * (x2 + 1)) + x3) →
      V κ 8 M 73 [some (.inr (30, 0)), some (.inl x1), some (.inl x2), some (.inl x3), some (.inl y4_68), some (.inl 0), none, none] [] K))) : V κ 8 M 44 [some (.inr (30, 0)), some (.inl x1), some (.inl x2), some (.inl x3), none, none, none, none] [] K := by
  refine v_iload_n C dX8_fills_44 rfl ?_
  refine v_iconst C dX8_fills_45 (by decide) ?_
  refine v_aload_n C dX8_fills_46 rfl ?_
  refine v_get C dX8_fills_47 flX8_74 rfl (by decide) (by decide) (w := .inl (M 30 0 6)) rfl ?_
  refine v_ishl C dX8_fills_50 ?_
  refine v_icmp C dX8_fills_51 (tgt := 172) (by decide) (P := (bShl 1 (M 30 0 6)) ≤ x3) rfl (fun c51 => ?_) (fun c51 => ?_)
  · replace h := h.1 c51
    refine v_iinc C dX8_fills_172 (by decide) rfl h.1 (lv' := [some (.inr (30, 0)), some (.inl x1), some (.inl (x2 + (-1))), some (.inl x3), none, none, none, none]) rfl ?_
    replace h := h.2
    refine v_goto C dX8_fills_175 (tgt := 38) (by decide) ?_
    refine v_weak [some (.inr (30, 0)), some (.inl x1), some (.inl (x2 + (-1))), none, none, none, none, none] ⟨rfl, rfl, rfl, trivial⟩ ?_
    exact h
  · replace h := h.2 c51
    refine v_aload_n C dX8_fills_54 rfl ?_
    refine v_get C dX8_fills_55 flX8_52 rfl (by decide) (by decide) (w := .inr (53, 0)) rfl ?_
    refine v_sipush C dX8_fills_58 (by decide) (by decide) ?_
    refine v_iload_n C dX8_fills_61 rfl ?_
    refine v_iconst C dX8_fills_62 (by decide) ?_
    refine v_iadd C dX8_fills_63 h.1 ?_
    replace h := h.2
    refine v_imul C dX8_fills_64 h.1 ?_
    replace h := h.2
    refine v_iload_n C dX8_fills_65 rfl ?_
    refine v_iadd C dX8_fills_66 h.1 ?_
    replace h := h.2
    refine v_iald C dX8_fills_67 rfl h.1.1 h.1.2 ?_
    replace h := h.2
    refine v_nm (fun y4_68 ey4_68 => ?_)
    replace h := h y4_68 ey4_68
    refine v_istore C dX8_fills_68 (by decide) (Nat.le_of_ble_eq_true rfl) (lv' := [some (.inr (30, 0)), some (.inl x1), some (.inl x2), some (.inl x3), some (.inl y4_68), none, none, none]) rfl ?_
    refine v_iconst C dX8_fills_70 (by decide) ?_
    refine v_istore C dX8_fills_71 (by decide) (Nat.le_of_ble_eq_true rfl) (lv' := [some (.inr (30, 0)), some (.inl x1), some (.inl x2), some (.inl x3), some (.inl y4_68), some (.inl 0), none, none]) rfl ?_
    refine v_weak [some (.inr (30, 0)), some (.inl x1), some (.inl x2), some (.inl x3), some (.inl y4_68), some (.inl 0), none, none] ⟨rfl, rfl, rfl, rfl, rfl, rfl, trivial⟩ ?_
    exact h
set_option maxHeartbeats 4000000 in
set_option maxRecDepth 20000 in
theorem sgX8_fills_73 {κ : Kx} {K : Kont} {M : Mem} (C : Cx κ RX8 cX8_fills 8 (some .int) rmX8_fills domM) (x1 : Int) (x2 : Int) (x3 : Int) (x4 : Int) (x5 : Int)
    (h :
    (((M 30 0 6) ≤ x5 →
      inR (128 * x2) ∧
      inR ((128 * x2) + x3) ∧
      (0 ≤ ((128 * x2) + x3) ∧ ((128 * x2) + x3) < 12928) ∧
      ∀ M165 : Mem, M165 = up3 M 53 0 ((128 * x2) + x3) x4 →
      inR (x3 + 1) ∧
      V κ 8 M165 44 [some (.inr (30, 0)), some (.inl x1), some (.inl x2), some (.inl (x3 + 1)), none, none, none, none] [] K) ∧
     (¬ ((M 30 0 6) ≤ x5) →
      V κ 8 M 85 [some (.inr (30, 0)), some (.inl x1), some (.inl x2), some (.inl x3), some (.inl x4), some (.inl x5), some (.inl 0), none] [] K))) : V κ 8 M 73 [some (.inr (30, 0)), some (.inl x1), some (.inl x2), some (.inl x3), some (.inl x4), some (.inl x5), none, none] [] K := by
  refine v_iload C dX8_fills_73 rfl ?_
  refine v_aload_n C dX8_fills_75 rfl ?_
  refine v_get C dX8_fills_76 flX8_74 rfl (by decide) (by decide) (w := .inl (M 30 0 6)) rfl ?_
  refine v_icmp C dX8_fills_79 (tgt := 152) (by decide) (P := (M 30 0 6) ≤ x5) rfl (fun c79 => ?_) (fun c79 => ?_)
  · replace h := h.1 c79
    refine v_aload_n C dX8_fills_152 rfl ?_
    refine v_get C dX8_fills_153 flX8_52 rfl (by decide) (by decide) (w := .inr (53, 0)) rfl ?_
    refine v_sipush C dX8_fills_156 (by decide) (by decide) ?_
    refine v_iload_n C dX8_fills_159 rfl ?_
    refine v_imul C dX8_fills_160 h.1 ?_
    replace h := h.2
    refine v_iload_n C dX8_fills_161 rfl ?_
    refine v_iadd C dX8_fills_162 h.1 ?_
    replace h := h.2
    refine v_iload C dX8_fills_163 rfl ?_
    refine v_iast C dX8_fills_165 rfl h.1.1 h.1.2 ?_
    replace h := h.2
    refine v_nmM (fun M165 eM165 => ?_)
    replace h := h M165 eM165
    refine v_iinc C dX8_fills_166 (by decide) rfl h.1 (lv' := [some (.inr (30, 0)), some (.inl x1), some (.inl x2), some (.inl (x3 + 1)), some (.inl x4), some (.inl x5), none, none]) rfl ?_
    replace h := h.2
    refine v_goto C dX8_fills_169 (tgt := 44) (by decide) ?_
    refine v_weak [some (.inr (30, 0)), some (.inl x1), some (.inl x2), some (.inl (x3 + 1)), none, none, none, none] ⟨rfl, rfl, rfl, rfl, trivial⟩ ?_
    exact h
  · replace h := h.2 c79
    refine v_iconst C dX8_fills_82 (by decide) ?_
    refine v_istore C dX8_fills_83 (by decide) (Nat.le_of_ble_eq_true rfl) (lv' := [some (.inr (30, 0)), some (.inl x1), some (.inl x2), some (.inl x3), some (.inl x4), some (.inl x5), some (.inl 0), none]) rfl ?_
    refine v_weak [some (.inr (30, 0)), some (.inl x1), some (.inl x2), some (.inl x3), some (.inl x4), some (.inl x5), some (.inl 0), none] ⟨rfl, rfl, rfl, rfl, rfl, rfl, rfl, trivial⟩ ?_
    exact h
set_option maxHeartbeats 4000000 in
set_option maxRecDepth 20000 in
theorem sgX8_fills_85 {κ : Kx} {K : Kont} {M : Mem} (C : Cx κ RX8 cX8_fills 8 (some .int) rmX8_fills domM) (x1 : Int) (x2 : Int) (x3 : Int) (x4 : Int) (x5 : Int) (x6 : Int)
    (h :
    inR (11 * x5) ∧
    inR ((11 * x5) + 3) ∧
    (0 ≤ ((11 * x5) + 3) ∧ ((11 * x5) + 3) < 77) ∧
    (((M 37 0 ((11 * x5) + 3)) ≤ x6 →
      inR (x5 + 1) ∧
      V κ 8 M 73 [some (.inr (30, 0)), some (.inl x1), some (.inl x2), some (.inl x3), some (.inl x4), some (.inl (x5 + 1)), none, none] [] K) ∧
     (¬ ((M 37 0 ((11 * x5) + 3)) ≤ x6) →
      (((bAnd (bShr x1 x5) 1) ≠ 1 →
        inR (x5 + 1) ∧
        V κ 8 M 73 [some (.inr (30, 0)), some (.inl x1), some (.inl x2), some (.inl x3), some (.inl x4), some (.inl (x5 + 1)), none, none] [] K) ∧
       (¬ ((bAnd (bShr x1 x5) 1) ≠ 1) →
        spX8_begun x5 x6 x2 x3 M (rI (fun r119 M119 =>
        ((r119 ≤ x4 →
          inR (x6 + 1) ∧
          V κ 8 M119 85 [some (.inr (30, 0)), some (.inl x1), some (.inl x2), some (.inl x3), some (.inl x4), some (.inl x5), some (.inl (x6 + 1)), none] [] K) ∧
         (¬ (r119 ≤ x4) →
          inR (x6 + 1) ∧
          V κ 8 M119 85 [some (.inr (30, 0)), some (.inl x1), some (.inl x2), some (.inl x3), some (.inl r119), some (.inl x5), some (.inl (x6 + 1)), none] [] K))))))))) : V κ 8 M 85 [some (.inr (30, 0)), some (.inl x1), some (.inl x2), some (.inl x3), some (.inl x4), some (.inl x5), some (.inl x6), none] [] K := by
  refine v_iload C dX8_fills_85 rfl ?_
  refine v_aload_n C dX8_fills_87 rfl ?_
  refine v_get C dX8_fills_88 flX8_16 rfl (by decide) (by decide) (w := .inr (37, 0)) rfl ?_
  refine v_bipush C dX8_fills_91 (by decide) (by decide) ?_
  refine v_iload C dX8_fills_93 rfl ?_
  refine v_imul C dX8_fills_95 h.1 ?_
  replace h := h.2
  refine v_iconst C dX8_fills_96 (by decide) ?_
  refine v_iadd C dX8_fills_97 h.1 ?_
  replace h := h.2
  refine v_iald C dX8_fills_98 rfl h.1.1 h.1.2 ?_
  replace h := h.2
  refine v_icmp C dX8_fills_99 (tgt := 146) (by decide) (P := (M 37 0 ((11 * x5) + 3)) ≤ x6) rfl (fun c99 => ?_) (fun c99 => ?_)
  · replace h := h.1 c99
    refine v_iinc C dX8_fills_146 (by decide) rfl h.1 (lv' := [some (.inr (30, 0)), some (.inl x1), some (.inl x2), some (.inl x3), some (.inl x4), some (.inl (x5 + 1)), some (.inl x6), none]) rfl ?_
    replace h := h.2
    refine v_goto C dX8_fills_149 (tgt := 73) (by decide) ?_
    refine v_weak [some (.inr (30, 0)), some (.inl x1), some (.inl x2), some (.inl x3), some (.inl x4), some (.inl (x5 + 1)), none, none] ⟨rfl, rfl, rfl, rfl, rfl, rfl, trivial⟩ ?_
    exact h
  · replace h := h.2 c99
    refine v_iload_n C dX8_fills_102 rfl ?_
    refine v_iload C dX8_fills_103 rfl ?_
    refine v_ishr C dX8_fills_105 ?_
    refine v_iconst C dX8_fills_106 (by decide) ?_
    refine v_iand C dX8_fills_107 ?_
    refine v_iconst C dX8_fills_108 (by decide) ?_
    refine v_icmp C dX8_fills_109 (tgt := 146) (by decide) (P := (bAnd (bShr x1 x5) 1) ≠ 1) rfl (fun c109 => ?_) (fun c109 => ?_)
    · replace h := h.1 c109
      refine v_iinc C dX8_fills_146 (by decide) rfl h.1 (lv' := [some (.inr (30, 0)), some (.inl x1), some (.inl x2), some (.inl x3), some (.inl x4), some (.inl (x5 + 1)), some (.inl x6), none]) rfl ?_
      replace h := h.2
      refine v_goto C dX8_fills_149 (tgt := 73) (by decide) ?_
      refine v_weak [some (.inr (30, 0)), some (.inl x1), some (.inl x2), some (.inl x3), some (.inl x4), some (.inl (x5 + 1)), none, none] ⟨rfl, rfl, rfl, rfl, rfl, rfl, trivial⟩ ?_
      exact h
    · replace h := h.2 c109
      refine v_aload_n C dX8_fills_112 rfl ?_
      refine v_iload C dX8_fills_113 rfl ?_
      refine v_iload C dX8_fills_115 rfl ?_
      refine v_iload_n C dX8_fills_117 rfl ?_
      refine v_iload_n C dX8_fills_118 rfl ?_
      refine v_invV C ctX8_begun dX8_fills_119 ivX8_174 ⟨by decide, by decide, rfl, rfl⟩ ((x5, x6, x2, x3) : Int × Int × Int × Int) (As := [.inl x5, .inl x6, .inl x2, .inl x3]) rfl rfl rfl (by decide) rfl (st := []) rfl (Nat.le_of_ble_eq_true rfl) h (fun o M119 oM119 io119 g119 => ?_)
      replace h := rI_out g119
      clear g119
      obtain ⟨r119, rfl, h⟩ := h
      refine v_push ?_
      refine v_istore C dX8_fills_122 (by decide) (Nat.le_of_ble_eq_true rfl) (lv' := [some (.inr (30, 0)), some (.inl x1), some (.inl x2), some (.inl x3), some (.inl x4), some (.inl x5), some (.inl x6), some (.inl r119)]) rfl ?_
      refine v_iload C dX8_fills_124 rfl ?_
      refine v_iload C dX8_fills_126 rfl ?_
      refine v_icmp C dX8_fills_128 (tgt := 136) (by decide) (P := r119 ≤ x4) rfl (fun c128 => ?_) (fun c128 => ?_)
      · replace h := h.1 c128
        refine v_iload C dX8_fills_136 rfl ?_
        refine v_istore C dX8_fills_138 (by decide) (Nat.le_of_ble_eq_true rfl) (lv' := [some (.inr (30, 0)), some (.inl x1), some (.inl x2), some (.inl x3), some (.inl x4), some (.inl x5), some (.inl x6), some (.inl r119)]) rfl ?_
        refine v_iinc C dX8_fills_140 (by decide) rfl h.1 (lv' := [some (.inr (30, 0)), some (.inl x1), some (.inl x2), some (.inl x3), some (.inl x4), some (.inl x5), some (.inl (x6 + 1)), some (.inl r119)]) rfl ?_
        replace h := h.2
        refine v_goto C dX8_fills_143 (tgt := 85) (by decide) ?_
        refine v_weak [some (.inr (30, 0)), some (.inl x1), some (.inl x2), some (.inl x3), some (.inl x4), some (.inl x5), some (.inl (x6 + 1)), none] ⟨rfl, rfl, rfl, rfl, rfl, rfl, rfl, trivial⟩ ?_
        exact h
      · replace h := h.2 c128
        refine v_iload C dX8_fills_131 rfl ?_
        refine v_goto C dX8_fills_133 (tgt := 138) (by decide) ?_
        refine v_istore C dX8_fills_138 (by decide) (Nat.le_of_ble_eq_true rfl) (lv' := [some (.inr (30, 0)), some (.inl x1), some (.inl x2), some (.inl x3), some (.inl r119), some (.inl x5), some (.inl x6), some (.inl r119)]) rfl ?_
        refine v_iinc C dX8_fills_140 (by decide) rfl h.1 (lv' := [some (.inr (30, 0)), some (.inl x1), some (.inl x2), some (.inl x3), some (.inl r119), some (.inl x5), some (.inl (x6 + 1)), some (.inl r119)]) rfl ?_
        replace h := h.2
        refine v_goto C dX8_fills_143 (tgt := 85) (by decide) ?_
        refine v_weak [some (.inr (30, 0)), some (.inl x1), some (.inl x2), some (.inl x3), some (.inl r119), some (.inl x5), some (.inl (x6 + 1)), none] ⟨rfl, rfl, rfl, rfl, rfl, rfl, rfl, trivial⟩ ?_
        exact h
/-- nothing but the table has changed -/
def AgK (M M' : Mem) : Prop := ∀ r, r ≠ 53 → M' r = M r
theorem AgK.rf {M : Mem} : AgK M M := fun _ _ => rfl
theorem AgK.up {M M' : Mem} (h : AgK M M') (j v : Int) : AgK M (up3 M' 53 0 j v) := by
  intro r hr
  rw [← h r hr]
  funext i' j'
  exact if_neg (fun z => hr z.1)
theorem AgK.s {M M' : Mem} (h : AgK M M') : AgS M M' := fun r i j hn => by rw [h r (by omega)]
abbrev spX8_fills (may : Int) (M : Mem) (K : Kont) : Prop := (WFf (mFilm M) ∧ HrK M (mFilm M) ∧ (0 ≤ may ∧ may < 128)) ∧ ∀ M', AgK M M' → TbM M' (mFilm M) may 0 → K (some (gT (mFilm M) may 0 0)) M'
theorem ctX8_fills : CtX8_fills spX8_fills := by
  refine ct_of (by decide) dmM (fun _ => Nat.le_of_ble_eq_true rfl) ?_
  intro κ may M K C oM h
  dsimp only [spX8_fills] at h
  obtain ⟨⟨hf, hH, hm⟩, hk⟩ := h
  have n3 := hf.2.2.2.1
  have T := hf.1
  have hw := shl_le7 n3.1 n3.2
  have e3 : mFilm M 3 0 0 = M 30 0 6 := rfl
  have e0 : mFilm M 0 0 0 = M 30 0 2 := rfl
  have ew : bShl 1 (mFilm M 3 0 0) = bShl 1 (M 30 0 6) := rfl
  -- row by row
  have rows : ∀ (k : Nat) (t : Int) (N : Mem), t + 1 = k → t < mFilm M 0 0 0 → AgK M N → TbM N (mFilm M) may (t + 1) →
      V κ 8 N 38 [some (.inr (30, 0)), some (.inl may), some (.inl t), none, none, none, none, none] [] K := by
    intro k
    induction k with
    | zero =>
      intro t N ht ht2 hA hT
      have et : t + 1 = 0 := by omega
      rw [et] at hT
      refine sgX8_fills_38 C may t ⟨fun _ => ?_, fun z => absurd (by omega) z⟩
      have := hT 0 0 (by omega) T.1 (by omega) (by omega)
      rw [show (128 * 0 + 0 : Int) = 0 by decide] at this
      rw [this]
      exact hk N hA hT
    | succ k ihk =>
      intro t N ht ht2 hA hT
      refine sgX8_fills_38 C may t ⟨fun z => absurd z (by omega), fun _ => ?_⟩
      -- set by set
      have sets : ∀ (n : Nat) (set : Int) (N2 : Mem), 0 ≤ set → set + n = bShl 1 (mFilm M 3 0 0) → AgK M N2 → TbM N2 (mFilm M) may (t + 1) → (∀ s, 0 ≤ s → s < set → N2 53 0 (128 * t + s) = gT (mFilm M) may t s) →
          V κ 8 N2 44 [some (.inr (30, 0)), some (.inl may), some (.inl t), some (.inl set), none, none, none, none] [] K := by
        intro n
        induction n with
        | zero =>
          intro set N2 s0 hn hA2 hT2 hr
          have e30 : N2 30 = M 30 := hA2 30 (by decide)
          refine sgX8_fills_44 C may t set ⟨fun _ => ⟨by omega, ?_⟩, fun z => absurd (by rw [e30, ← ew]; omega) z⟩
          rw [show t + -1 = t - 1 by omega]
          refine ihk (t - 1) N2 (by omega) (by omega) hA2 (fun u s a b c d => ?_)
          by_cases e : u = t
          · rw [e]; exact hr s c (by omega)
          · exact hT2 u s (by omega) b c d
        | succ n ihn =>
          intro set N2 s0 hn hA2 hT2 hr
          have e30 : N2 30 = M 30 := hA2 30 (by decide)
          have e37 : N2 37 = M 37 := hA2 37 (by decide)
          have fN : mFilm N2 = mFilm M := hA2.s.film
          have hH2 : HrK N2 (mFilm N2) := by rw [fN]; intro u a b; rw [hA2 52 (by decide)]; exact hH u a b
          -- picture by picture
          have pics : ∀ (m : Nat) (p b : Int), 0 ≤ p → p + m = mFilm M 3 0 0 → b = bP (mFilm M) (spb (mFilm M)) (csb (mFilm M)) (mFilm M 1 0 0) (gT (mFilm M) may) t set may p.toNat →
              V κ 8 N2 73 [some (.inr (30, 0)), some (.inl may), some (.inl t), some (.inl set), some (.inl b), some (.inl p), none, none] [] K := by
            intro m
            induction m with
            | zero =>
              intro p b p0 hp hb
              have ep : p = mFilm M 3 0 0 := by omega
              refine sgX8_fills_73 C may t set b p ⟨fun _ => ⟨by omega, by omega, by omega, fun N3 e => ⟨by omega, ?_⟩⟩, fun z => absurd (by rw [e30]; omega) z⟩
              have row := gT_row hf (may := may) (t := t) (set := set) (by omega) ht2
              rw [ep, ← row] at hb
              refine ihn (set + 1) N3 (by omega) (by omega) (by rw [e]; exact hA2.up _ _) (fun u s a b' c d => ?_) (fun s a b' => ?_)
              · rw [e, up3_j _ _ _ _ _ (by omega)]; exact hT2 u s a b' c d
              · rw [e]
                by_cases es : s = set
                · rw [es, up3_s, hb]
                · rw [up3_j _ _ _ _ _ (by omega)]; exact hr s a (by omega)
            | succ m ihm =>
              intro p b p0 hp hb
              have wp := wf_p hf p0 (by omega)
              have e11 : mFilm M 11 p 0 = M 37 0 (11 * p + 3) := rfl
              have br := bP_rng (S := spb (mFilm M)) (set := set) (may := may) hf (QB_csb hf) hf.2.1.1 (t := t) (f := gT (mFilm M) may) (U := 200000) (by omega) (by omega) ht2 (fun u s a b => gT_rng hf (by omega) b) p.toNat (by omega)
              have sb := shr_bit (x := may) (k := p) hm.1 (by omega) p0 (by omega)
              have bs : bP (mFilm M) (spb (mFilm M)) (csb (mFilm M)) (mFilm M 1 0 0) (gT (mFilm M) may) t set may (p + 1).toNat = if bit may p then bV (mFilm M) (spb (mFilm M)) (csb (mFilm M)) (mFilm M 1 0 0) (gT (mFilm M) may) t set p (mFilm M 11 p 0).toNat (bP (mFilm M) (spb (mFilm M)) (csb (mFilm M)) (mFilm M 1 0 0) (gT (mFilm M) may) t set may p.toNat) else bP (mFilm M) (spb (mFilm M)) (csb (mFilm M)) (mFilm M 1 0 0) (gT (mFilm M) may) t set may p.toNat := by
                rw [toNat_s p0]
                show (if bit may (p.toNat : Int) then bV _ _ _ _ _ t set (p.toNat : Int) (mFilm M 11 (p.toNat : Int) 0).toNat _ else _) = _
                rw [oi_nat p0]
              refine sgX8_fills_73 C may t set b p ⟨fun z => absurd z (by rw [e30]; omega), fun _ => ?_⟩
              -- version by version
              have vers : ∀ (j : Nat) (v b' : Int), 0 ≤ v → v + j = mFilm M 11 p 0 → bit may p = true → b' = bV (mFilm M) (spb (mFilm M)) (csb (mFilm M)) (mFilm M 1 0 0) (gT (mFilm M) may) t set p v.toNat b →
                  V κ 8 N2 85 [some (.inr (30, 0)), some (.inl may), some (.inl t), some (.inl set), some (.inl b'), some (.inl p), some (.inl v), none] [] K := by
                intro j
                induction j with
                | zero =>
                  intro v b' v0 hv hbit hb'
                  have ev : v = mFilm M 11 p 0 := by omega
                  refine sgX8_fills_85 C may t set b' p v ⟨by omega, by omega, by omega, fun _ => ⟨by omega, ihm (p + 1) b' (by omega) (by omega) ?_⟩, fun z => absurd (by rw [e37]; omega) z⟩
                  rw [bs, if_pos hbit, hb', ev, hb]
                | succ j ihj =>
                  intro v b' v0 hv hbit hb'
                  have vr := bV_rng (S := spb (mFilm M)) (set := set) hf (QB_csb hf) hf.2.1.1 (t := t) (f := gT (mFilm M) may) (U := 200000) p0 (by omega) (by omega) ht2 (fun u s a b => (gT_rng hf (by omega) b).2) v.toNat b (by omega) (by omega) (by omega)
                  have vs : bV (mFilm M) (spb (mFilm M)) (csb (mFilm M)) (mFilm M 1 0 0) (gT (mFilm M) may) t set p (v + 1).toNat b = if begOk (mFilm M) (spb (mFilm M)) p v t set then max (bV (mFilm M) (spb (mFilm M)) (csb (mFilm M)) (mFilm M 1 0 0) (gT (mFilm M) may) t set p v.toNat b) (begW (mFilm M) (csb (mFilm M)) (mFilm M 1 0 0) (gT (mFilm M) may) p v t set) else bV (mFilm M) (spb (mFilm M)) (csb (mFilm M)) (mFilm M 1 0 0) (gT (mFilm M) may) t set p v.toNat b := by
                    rw [toNat_s v0]
                    show (if begOk (mFilm M) (spb (mFilm M)) p (v.toNat : Int) t set then max _ (begW _ _ _ _ p (v.toNat : Int) t set) else _) = _
                    rw [oi_nat v0]
                  refine sgX8_fills_85 C may t set b' p v ⟨by omega, by omega, by omega, fun z => absurd z (by rw [e37]; omega), fun _ => ⟨fun c2 => ?_, fun c2 => ?_⟩⟩
                  · rw [sb, hbit] at c2
                    exact absurd rfl c2
                  · refine ⟨⟨by rw [fN]; exact hf, hH2, by rw [fN]; exact ⟨⟨⟨p0, by omega⟩, v0, by omega⟩, by omega, ht2⟩, by rw [fN]; omega⟩, may, by rw [fN]; exact hT2, ?_⟩
                    rw [fN]
                    show (_ → _) ∧ (_ → _)
                    unfold bgn
                    by_cases ok : begOk (mFilm M) (spb (mFilm M)) p v t set
                    · rw [if_pos ok] at vs ⊢
                      exact ⟨fun c3 => ⟨by omega, ihj (v + 1) b' (by omega) (by omega) hbit (by omega)⟩, fun c3 => ⟨by omega, ihj (v + 1) _ (by omega) (by omega) hbit (by omega)⟩⟩
                    · rw [if_neg ok] at vs ⊢
                      exact ⟨fun c3 => ⟨by omega, ihj (v + 1) b' (by omega) (by omega) hbit (by omega)⟩, fun c3 => absurd (by omega) c3⟩
              by_cases hbit : bit may p = true
              · exact vers (mFilm M 11 p 0).toNat 0 b (by omega) (by omega) hbit rfl
              · refine sgX8_fills_85 C may t set b p 0 ⟨by omega, by omega, by omega, fun z => absurd z (by rw [e37]; omega), fun _ => ⟨fun _ => ⟨by omega, ihm (p + 1) b (by omega) (by omega) ?_⟩, fun c2 => absurd (by rw [sb, if_neg hbit]; decide) c2⟩⟩
                rw [bs, if_neg hbit]
                exact hb
          refine sgX8_fills_44 C may t set ⟨fun z => absurd z (by rw [e30, ← ew]; omega), fun _ => ⟨by omega, by omega, by omega, by omega, fun y ey => ?_⟩⟩
          refine pics (mFilm M 3 0 0).toNat 0 y (by omega) (by omega) ?_
          rw [ey, hT2 (t + 1) set (by omega) (by omega) s0 (by omega)]
          rfl
      exact sets (bShl 1 (mFilm M 3 0 0)).toNat 0 N (by omega) (by omega) hA hT (fun s a b => by omega)
  -- the last row
  have zero : ∀ (k : Nat) (s : Int) (N : Mem), 0 ≤ s → s + k = 128 → AgK M N → (∀ u, 0 ≤ u → u < s → N 53 0 (128 * mFilm M 0 0 0 + u) = 0) →
      V κ 8 N 2 [some (.inr (30, 0)), some (.inl may), some (.inl s), none, none, none, none, none] [] K := by
    intro k
    induction k with
    | zero =>
      intro s N s0 hn hA hz
      have e30 : N 30 = M 30 := hA 30 (by decide)
      refine sgX8_fills_2 C may s ⟨fun _ => ?_, fun z => absurd (by omega) z⟩
      rw [e30]
      refine ⟨by omega, fun y ey => ?_⟩
      refine rows (y + 1).toNat y N (by omega) (by omega) hA (fun u q a b c d => ?_)
      rw [show u = mFilm M 0 0 0 by omega, gT_end hf]
      exact hz q c (by omega)
    | succ k ih =>
      intro s N s0 hn hA hz
      have e30 : N 30 = M 30 := hA 30 (by decide)
      refine sgX8_fills_2 C may s ⟨fun z => absurd z (by omega), fun _ => ?_⟩
      rw [e30]
      refine ⟨by omega, by omega, by omega, fun N1 e => ⟨by omega, ih (s + 1) N1 (by omega) (by omega) (by rw [e]; exact hA.up _ _) (fun u a b => ?_)⟩⟩
      rw [e, ← e0]
      by_cases eu : u = s
      · rw [eu, up3_s]
      · rw [up3_j _ _ _ _ _ (by omega)]; exact hz u a (by omega)
  exact sgX8_fills_0 C may (zero 128 0 M (by omega) (by omega) AgK.rf (fun u a b => by omega))
/-! ===== GapTellingsModel.begins ===== -/
abbrev rmX8_begins : Room := { frames := 3, cells := 0, slots := 0, locals := 74 }
abbrev argX8_begins (a : Int × Int) : List PV := [.inr (30, 0), .inl a.1, .inl a.2]
abbrev CtX8_begins (sp : Int → Int → Mem → Kont → Prop) : Prop := Ct yX8_begins cX8_begins 5 (some .int) rmX8_begins domM argX8_begins (fun a => sp a.1 a.2)
theorem dX8_begins_0 : decode cX8_begins 0 = .ok (.iconst 0, 1) := by decide +kernel
theorem dX8_begins_1 : decode cX8_begins 1 = .ok (.istore_n 3, 1) := by decide +kernel
theorem dX8_begins_2 : decode cX8_begins 2 = .ok (.iload_n 3, 1) := by decide +kernel
theorem dX8_begins_3 : decode cX8_begins 3 = .ok (.aload_n 0, 1) := by decide +kernel
theorem dX8_begins_4 : decode cX8_begins 4 = .ok (.getfield 74, 3) := by decide +kernel
theorem dX8_begins_7 : decode cX8_begins 7 = .ok (.if_icmp .ge 65, 3) := by decide +kernel
theorem dX8_begins_10 : decode cX8_begins 10 = .ok (.iconst 0, 1) := by decide +kernel
theorem dX8_begins_11 : decode cX8_begins 11 = .ok (.istore 4, 2) := by decide +kernel
theorem dX8_begins_13 : decode cX8_begins 13 = .ok (.iload 4, 2) := by decide +kernel
theorem dX8_begins_15 : decode cX8_begins 15 = .ok (.aload_n 0, 1) := by decide +kernel
theorem dX8_begins_16 : decode cX8_begins 16 = .ok (.getfield 16, 3) := by decide +kernel
theorem dX8_begins_19 : decode cX8_begins 19 = .ok (.bipush 11, 2) := by decide +kernel
theorem dX8_begins_21 : decode cX8_begins 21 = .ok (.iload_n 3, 1) := by decide +kernel
theorem dX8_begins_22 : decode cX8_begins 22 = .ok (.imul, 1) := by decide +kernel
theorem dX8_begins_23 : decode cX8_begins 23 = .ok (.iconst 3, 1) := by decide +kernel
theorem dX8_begins_24 : decode cX8_begins 24 = .ok (.iadd, 1) := by decide +kernel
theorem dX8_begins_25 : decode cX8_begins 25 = .ok (.iaload, 1) := by decide +kernel
theorem dX8_begins_26 : decode cX8_begins 26 = .ok (.if_icmp .ge 40, 3) := by decide +kernel
theorem dX8_begins_29 : decode cX8_begins 29 = .ok (.aload_n 0, 1) := by decide +kernel
theorem dX8_begins_30 : decode cX8_begins 30 = .ok (.iload_n 3, 1) := by decide +kernel
theorem dX8_begins_31 : decode cX8_begins 31 = .ok (.iload 4, 2) := by decide +kernel
theorem dX8_begins_33 : decode cX8_begins 33 = .ok (.iload_n 1, 1) := by decide +kernel
theorem dX8_begins_34 : decode cX8_begins 34 = .ok (.iload_n 2, 1) := by decide +kernel
theorem dX8_begins_35 : decode cX8_begins 35 = .ok (.invokevirtual 174, 3) := by decide +kernel
theorem dX8_begins_38 : decode cX8_begins 38 = .ok (.aload_n 0, 1) := by decide +kernel
theorem dX8_begins_39 : decode cX8_begins 39 = .ok (.getfield 52, 3) := by decide +kernel
theorem dX8_begins_42 : decode cX8_begins 42 = .ok (.sipush 128, 3) := by decide +kernel
theorem dX8_begins_45 : decode cX8_begins 45 = .ok (.iload_n 1, 1) := by decide +kernel
theorem dX8_begins_46 : decode cX8_begins 46 = .ok (.imul, 1) := by decide +kernel
theorem dX8_begins_47 : decode cX8_begins 47 = .ok (.iload_n 2, 1) := by decide +kernel
theorem dX8_begins_48 : decode cX8_begins 48 = .ok (.iadd, 1) := by decide +kernel
theorem dX8_begins_49 : decode cX8_begins 49 = .ok (.iaload, 1) := by decide +kernel
theorem dX8_begins_50 : decode cX8_begins 50 = .ok (.if_icmp .ne 10, 3) := by decide +kernel
theorem dX8_begins_53 : decode cX8_begins 53 = .ok (.iconst 3, 1) := by decide +kernel
theorem dX8_begins_54 : decode cX8_begins 54 = .ok (.iload_n 3, 1) := by decide +kernel
theorem dX8_begins_55 : decode cX8_begins 55 = .ok (.imul, 1) := by decide +kernel
theorem dX8_begins_56 : decode cX8_begins 56 = .ok (.iload 4, 2) := by decide +kernel
theorem dX8_begins_58 : decode cX8_begins 58 = .ok (.iadd, 1) := by decide +kernel
theorem dX8_begins_59 : decode cX8_begins 59 = .ok (.ireturn, 1) := by decide +kernel
theorem dX8_begins_60 : decode cX8_begins 60 = .ok (.iinc 4 1, 3) := by decide +kernel
theorem dX8_begins_63 : decode cX8_begins 63 = .ok (.goto (-50), 3) := by decide +kernel
theorem dX8_begins_66 : decode cX8_begins 66 = .ok (.iinc 3 1, 3) := by decide +kernel
theorem dX8_begins_69 : decode cX8_begins 69 = .ok (.goto (-67), 3) := by decide +kernel
theorem dX8_begins_72 : decode cX8_begins 72 = .ok (.iconst (-1), 1) := by decide +kernel
theorem dX8_begins_73 : decode cX8_begins 73 = .ok (.ireturn, 1) := by decide +kernel
set_option maxHeartbeats 4000000 in
set_option maxRecDepth 20000 in
theorem sgX8_begins_0 {κ : Kx} {K : Kont} {M : Mem} (C : Cx κ RX8 cX8_begins 5 (some .int) rmX8_begins domM) (x1 : Int) (x2 : Int)
    (h :
    V κ 5 M 2 [some (.inr (30, 0)), some (.inl x1), some (.inl x2), some (.inl 0), none] [] K) : V κ 5 M 0 [some (.inr (30, 0)), some (.inl x1), some (.inl x2), none, none] [] K := by
  refine v_iconst C dX8_begins_0 (by decide) ?_
  refine v_istore_n C dX8_begins_1 (by decide) (Nat.le_of_ble_eq_true rfl) (lv' := [some (.inr (30, 0)), some (.inl x1), some (.inl x2), some (.inl 0), none]) rfl ?_
  refine v_weak [some (.inr (30, 0)), some (.inl x1), some (.inl x2), some (.inl 0), none] ⟨rfl, rfl, rfl, rfl, trivial⟩ ?_
  exact h
set_option maxHeartbeats 4000000 in
set_option maxRecDepth 20000 in
theorem sgX8_begins_2 {κ : Kx} {K : Kont} {M : Mem} (C : Cx κ RX8 cX8_begins 5 (some .int) rmX8_begins domM) (x1 : Int) (x2 : Int) (x3 : Int)
    (h :
    (((M 30 0 6) ≤ x3 →
      K (some (-1)) M) ∧
     (¬ ((M 30 0 6) ≤ x3) →
      V κ 5 M 13 [some (.inr (30, 0)), some (.inl x1), some (.inl x2), some (.inl x3), some (.inl 0)] [] K))) : V κ 5 M 2 [some (.inr (30, 0)), some (.inl x1), some (.inl x2), some (.inl x3), none] [] K := by
  refine v_iload_n C dX8_begins_2 rfl ?_
  refine v_aload_n C dX8_begins_3 rfl ?_
  refine v_get C dX8_begins_4 flX8_74 rfl (by decide) (by decide) (w := .inl (M 30 0 6)) rfl ?_
  refine v_icmp C dX8_begins_7 (tgt := 72) (by decide) (P := (M 30 0 6) ≤ x3) rfl (fun c7 => ?_) (fun c7 => ?_)
  · replace h := h.1 c7
    refine v_iconst C dX8_begins_72 (by decide) ?_
    exact v_iret C dX8_begins_73 h
  · replace h := h.2 c7
    refine v_iconst C dX8_begins_10 (by decide) ?_
    refine v_istore C dX8_begins_11 (by decide) (Nat.le_of_ble_eq_true rfl) (lv' := [some (.inr (30, 0)), some (.inl x1), some (.inl x2), some (.inl x3), some (.inl 0)]) rfl ?_
    refine v_weak [some (.inr (30, 0)), some (.inl x1), some (.inl x2), some (.inl x3), some (.inl 0)] ⟨rfl, rfl, rfl, rfl, rfl, trivial⟩ ?_
    exact h
set_option maxHeartbeats 4000000 in
set_option maxRecDepth 20000 in
theorem sgX8_begins_13 {κ : Kx} {K : Kont} {M : Mem} (C : Cx κ RX8 cX8_begins 5 (some .int) rmX8_begins domM) (x1 : Int) (x2 : Int) (x3 : Int) (x4 : Int)
    (h :
    inR (11 * x3) ∧
    inR ((11 * x3) + 3) ∧
    (0 ≤ ((11 * x3) + 3) ∧ ((11 * x3) + 3) < 77) ∧
    (((M 37 0 ((11 * x3) + 3)) ≤ x4 →
      inR (x3 + 1) ∧
      V κ 5 M 2 [some (.inr (30, 0)), some (.inl x1), some (.inl x2), some (.inl (x3 + 1)), none] [] K) ∧
     (¬ ((M 37 0 ((11 * x3) + 3)) ≤ x4) →
      spX8_begun x3 x4 x1 x2 M (rI (fun r35 M35 =>
      inR (128 * x1) ∧
      inR ((128 * x1) + x2) ∧
      (0 ≤ ((128 * x1) + x2) ∧ ((128 * x1) + x2) < 12928) ∧
      ((r35 ≠ (M35 53 0 ((128 * x1) + x2)) →
        inR (x4 + 1) ∧
        V κ 5 M35 13 [some (.inr (30, 0)), some (.inl x1), some (.inl x2), some (.inl x3), some (.inl (x4 + 1))] [] K) ∧
       (¬ (r35 ≠ (M35 53 0 ((128 * x1) + x2))) →
        inR (3 * x3) ∧
        inR ((3 * x3) + x4) ∧
        K (some ((3 * x3) + x4)) M35))))))) : V κ 5 M 13 [some (.inr (30, 0)), some (.inl x1), some (.inl x2), some (.inl x3), some (.inl x4)] [] K := by
  refine v_iload C dX8_begins_13 rfl ?_
  refine v_aload_n C dX8_begins_15 rfl ?_
  refine v_get C dX8_begins_16 flX8_16 rfl (by decide) (by decide) (w := .inr (37, 0)) rfl ?_
  refine v_bipush C dX8_begins_19 (by decide) (by decide) ?_
  refine v_iload_n C dX8_begins_21 rfl ?_
  refine v_imul C dX8_begins_22 h.1 ?_
  replace h := h.2
  refine v_iconst C dX8_begins_23 (by decide) ?_
  refine v_iadd C dX8_begins_24 h.1 ?_
  replace h := h.2
  refine v_iald C dX8_begins_25 rfl h.1.1 h.1.2 ?_
  replace h := h.2
  refine v_icmp C dX8_begins_26 (tgt := 66) (by decide) (P := (M 37 0 ((11 * x3) + 3)) ≤ x4) rfl (fun c26 => ?_) (fun c26 => ?_)
  · replace h := h.1 c26
    refine v_iinc C dX8_begins_66 (by decide) rfl h.1 (lv' := [some (.inr (30, 0)), some (.inl x1), some (.inl x2), some (.inl (x3 + 1)), some (.inl x4)]) rfl ?_
    replace h := h.2
    refine v_goto C dX8_begins_69 (tgt := 2) (by decide) ?_
    refine v_weak [some (.inr (30, 0)), some (.inl x1), some (.inl x2), some (.inl (x3 + 1)), none] ⟨rfl, rfl, rfl, rfl, trivial⟩ ?_
    exact h
  · replace h := h.2 c26
    refine v_aload_n C dX8_begins_29 rfl ?_
    refine v_iload_n C dX8_begins_30 rfl ?_
    refine v_iload C dX8_begins_31 rfl ?_
    refine v_iload_n C dX8_begins_33 rfl ?_
    refine v_iload_n C dX8_begins_34 rfl ?_
    refine v_invV C ctX8_begun dX8_begins_35 ivX8_174 ⟨by decide, by decide, rfl, rfl⟩ ((x3, x4, x1, x2) : Int × Int × Int × Int) (As := [.inl x3, .inl x4, .inl x1, .inl x2]) rfl rfl rfl (by decide) rfl (st := []) rfl (Nat.le_of_ble_eq_true rfl) h (fun o M35 oM35 io35 g35 => ?_)
    replace h := rI_out g35
    clear g35
    obtain ⟨r35, rfl, h⟩ := h
    refine v_push ?_
    refine v_aload_n C dX8_begins_38 rfl ?_
    refine v_get C dX8_begins_39 flX8_52 rfl (by decide) (by decide) (w := .inr (53, 0)) rfl ?_
    refine v_sipush C dX8_begins_42 (by decide) (by decide) ?_
    refine v_iload_n C dX8_begins_45 rfl ?_
    refine v_imul C dX8_begins_46 h.1 ?_
    replace h := h.2
    refine v_iload_n C dX8_begins_47 rfl ?_
    refine v_iadd C dX8_begins_48 h.1 ?_
    replace h := h.2
    refine v_iald C dX8_begins_49 rfl h.1.1 h.1.2 ?_
    replace h := h.2
    refine v_icmp C dX8_begins_50 (tgt := 60) (by decide) (P := r35 ≠ (M35 53 0 ((128 * x1) + x2))) rfl (fun c50 => ?_) (fun c50 => ?_)
    · replace h := h.1 c50
      refine v_iinc C dX8_begins_60 (by decide) rfl h.1 (lv' := [some (.inr (30, 0)), some (.inl x1), some (.inl x2), some (.inl x3), some (.inl (x4 + 1))]) rfl ?_
      replace h := h.2
      refine v_goto C dX8_begins_63 (tgt := 13) (by decide) ?_
      refine v_weak [some (.inr (30, 0)), some (.inl x1), some (.inl x2), some (.inl x3), some (.inl (x4 + 1))] ⟨rfl, rfl, rfl, rfl, rfl, trivial⟩ ?_
      exact h
    · replace h := h.2 c50
      refine v_iconst C dX8_begins_53 (by decide) ?_
      refine v_iload_n C dX8_begins_54 rfl ?_
      refine v_imul C dX8_begins_55 h.1 ?_
      replace h := h.2
      refine v_iload C dX8_begins_56 rfl ?_
      refine v_iadd C dX8_begins_58 h.1 ?_
      replace h := h.2
      exact v_iret C dX8_begins_59 h
abbrev spX8_begins (t set : Int) (M : Mem) (K : Kont) : Prop := (WFf (mFilm M) ∧ HrK M (mFilm M) ∧ (0 ≤ t ∧ t < mFilm M 0 0 0) ∧ (0 ≤ set ∧ set < bShl 1 (mFilm M 3 0 0))) ∧ ∃ may, TbM M (mFilm M) may t ∧ K (some (fiP (mFilm M) (spb (mFilm M)) (csb (mFilm M)) (mFilm M 1 0 0) (gT (mFilm M) may) t set (mFilm M 3 0 0).toNat 0)) M
theorem ctX8_begins : CtX8_begins spX8_begins := by
  refine ct_of (by decide) dmM (fun _ => Nat.le_of_ble_eq_true rfl) ?_
  intro κ a M K C oM h
  obtain ⟨t, set⟩ := a
  obtain ⟨⟨hf, hH, ht, hs⟩, may, hT, hk⟩ := h
  have ht : 0 ≤ t ∧ t < mFilm M 0 0 0 := ht
  have hs : 0 ≤ set ∧ set < bShl 1 (mFilm M 3 0 0) := hs
  have hT : TbM M (mFilm M) may t := hT
  have hk : K (some (fiP (mFilm M) (spb (mFilm M)) (csb (mFilm M)) (mFilm M 1 0 0) (gT (mFilm M) may) t set (mFilm M 3 0 0).toNat 0)) M := hk
  have n3 := hf.2.2.2.1
  have T := hf.1
  have hw := shl_le7 n3.1 n3.2
  have e3 : mFilm M 3 0 0 = M 30 0 6 := rfl
  have e0 : mFilm M 0 0 0 = M 30 0 2 := rfl
  have gr := gT_rng hf (may := may) (t := t) (set := set) ht.1 (by omega)
  have here := hT t set (by omega) (by omega) hs.1 hs.2
  have pics : ∀ (m : Nat) (p : Int), 0 ≤ p → p + m = mFilm M 3 0 0 → K (some (fiP (mFilm M) (spb (mFilm M)) (csb (mFilm M)) (mFilm M 1 0 0) (gT (mFilm M) may) t set m p)) M →
      V κ 5 M 2 [some (.inr (30, 0)), some (.inl t), some (.inl set), some (.inl p), none] [] K := by
    intro m
    induction m with
    | zero =>
      intro p p0 hp hk
      exact sgX8_begins_2 C t set p ⟨fun _ => hk, fun z => absurd (by omega) z⟩
    | succ m ihm =>
      intro p p0 hp hk
      have wp := wf_p hf p0 (by omega)
      have e11 : mFilm M 11 p 0 = M 37 0 (11 * p + 3) := rfl
      refine sgX8_begins_2 C t set p ⟨fun z => absurd z (by omega), fun _ => ?_⟩
      have vers : ∀ (j : Nat) (v : Int), 0 ≤ v → v + j = mFilm M 11 p 0 → fiV (mFilm M) (spb (mFilm M)) (csb (mFilm M)) (mFilm M 1 0 0) (gT (mFilm M) may) t set p (mFilm M 11 p 0).toNat 0 = fiV (mFilm M) (spb (mFilm M)) (csb (mFilm M)) (mFilm M 1 0 0) (gT (mFilm M) may) t set p j v →
          V κ 5 M 13 [some (.inr (30, 0)), some (.inl t), some (.inl set), some (.inl p), some (.inl v)] [] K := by
        intro j
        induction j with
        | zero =>
          intro v v0 hv hv2
          refine sgX8_begins_13 C t set p v ⟨by omega, by omega, by omega, fun _ => ⟨by omega, ihm (p + 1) (by omega) (by omega) ?_⟩, fun z => absurd (by omega) z⟩
          unfold fiP at hk
          rw [hv2] at hk
          exact hk
        | succ j ihj =>
          intro v v0 hv hv2
          have fs : fiV (mFilm M) (spb (mFilm M)) (csb (mFilm M)) (mFilm M 1 0 0) (gT (mFilm M) may) t set p (j + 1) v = if begOk (mFilm M) (spb (mFilm M)) p v t set ∧ begW (mFilm M) (csb (mFilm M)) (mFilm M 1 0 0) (gT (mFilm M) may) p v t set = gT (mFilm M) may t set then 3 * p + v else fiV (mFilm M) (spb (mFilm M)) (csb (mFilm M)) (mFilm M 1 0 0) (gT (mFilm M) may) t set p j (v + 1) := rfl
          refine sgX8_begins_13 C t set p v ⟨by omega, by omega, by omega, fun z => absurd z (by omega), fun _ => ⟨⟨hf, hH, ⟨⟨⟨p0, by omega⟩, v0, by omega⟩, ht.1, ht.2⟩, hs⟩, may, fun u s a b c d => hT u s (by omega) b c d, ?_⟩⟩
          show inR _ ∧ _ ∧ _ ∧ ((_ → _) ∧ (_ → _))
          refine ⟨by omega, by omega, by omega, fun c2 => ?_, fun c2 => ?_⟩
          · refine ⟨by omega, ihj (v + 1) (by omega) (by omega) ?_⟩
            rw [hv2, fs, if_neg]
            intro z
            apply c2
            unfold bgn
            rw [if_pos z.1, here]
            exact z.2
          · have c3 : bgn (mFilm M) may p v t set = gT (mFilm M) may t set := by rw [← here]; exact Classical.byContradiction c2
            have ok : begOk (mFilm M) (spb (mFilm M)) p v t set := by
              refine Classical.byContradiction (fun z => ?_)
              unfold bgn at c3
              rw [if_neg z] at c3
              omega
            unfold bgn at c3
            rw [if_pos ok] at c3
            rw [if_pos ⟨ok, c3⟩] at fs
            unfold fiP at hk
            rw [hv2, fs, if_neg (by omega)] at hk
            exact ⟨by omega, by omega, hk⟩
      exact vers (mFilm M 11 p 0).toNat 0 (by omega) (by omega) rfl
  exact sgX8_begins_0 C t set (pics (mFilm M 3 0 0).toNat 0 (by omega) (by omega) hk)
/-! ===== GapTellingsModel.plans ===== -/
abbrev rmX8_plans : Room := { frames := 4, cells := 0, slots := 0, locals := 101 }
abbrev argX8_plans (a : Unit) : List PV := [.inr (30, 0)]
abbrev CtX8_plans (sp : Mem → Kont → Prop) : Prop := Ct yX8_plans cX8_plans 5 (some .int) rmX8_plans domM argX8_plans (fun _ => sp)
theorem dX8_plans_0 : decode cX8_plans 0 = .ok (.aload_n 0, 1) := by decide +kernel
theorem dX8_plans_1 : decode cX8_plans 1 = .ok (.invokevirtual 137, 3) := by decide +kernel
theorem dX8_plans_4 : decode cX8_plans 4 = .ok (.aload_n 0, 1) := by decide +kernel
theorem dX8_plans_5 : decode cX8_plans 5 = .ok (.bipush 127, 2) := by decide +kernel
theorem dX8_plans_7 : decode cX8_plans 7 = .ok (.invokevirtual 178, 3) := by decide +kernel
theorem dX8_plans_10 : decode cX8_plans 10 = .ok (.istore_n 1, 1) := by decide +kernel
theorem dX8_plans_11 : decode cX8_plans 11 = .ok (.iconst 0, 1) := by decide +kernel
theorem dX8_plans_12 : decode cX8_plans 12 = .ok (.istore_n 2, 1) := by decide +kernel
theorem dX8_plans_13 : decode cX8_plans 13 = .ok (.iload_n 2, 1) := by decide +kernel
theorem dX8_plans_14 : decode cX8_plans 14 = .ok (.bipush 7, 2) := by decide +kernel
theorem dX8_plans_16 : decode cX8_plans 16 = .ok (.if_icmp .ge 25, 3) := by decide +kernel
theorem dX8_plans_19 : decode cX8_plans 19 = .ok (.aload_n 0, 1) := by decide +kernel
theorem dX8_plans_20 : decode cX8_plans 20 = .ok (.getfield 34, 3) := by decide +kernel
theorem dX8_plans_23 : decode cX8_plans 23 = .ok (.iload_n 2, 1) := by decide +kernel
theorem dX8_plans_24 : decode cX8_plans 24 = .ok (.bipush (-4), 2) := by decide +kernel
theorem dX8_plans_26 : decode cX8_plans 26 = .ok (.iastore, 1) := by decide +kernel
theorem dX8_plans_27 : decode cX8_plans 27 = .ok (.aload_n 0, 1) := by decide +kernel
theorem dX8_plans_28 : decode cX8_plans 28 = .ok (.getfield 37, 3) := by decide +kernel
theorem dX8_plans_31 : decode cX8_plans 31 = .ok (.iload_n 2, 1) := by decide +kernel
theorem dX8_plans_32 : decode cX8_plans 32 = .ok (.bipush (-4), 2) := by decide +kernel
theorem dX8_plans_34 : decode cX8_plans 34 = .ok (.iastore, 1) := by decide +kernel
theorem dX8_plans_35 : decode cX8_plans 35 = .ok (.iinc 2 1, 3) := by decide +kernel
theorem dX8_plans_38 : decode cX8_plans 38 = .ok (.goto (-25), 3) := by decide +kernel
theorem dX8_plans_41 : decode cX8_plans 41 = .ok (.iconst 0, 1) := by decide +kernel
theorem dX8_plans_42 : decode cX8_plans 42 = .ok (.istore_n 2, 1) := by decide +kernel
theorem dX8_plans_43 : decode cX8_plans 43 = .ok (.iconst 0, 1) := by decide +kernel
theorem dX8_plans_44 : decode cX8_plans 44 = .ok (.istore_n 3, 1) := by decide +kernel
theorem dX8_plans_45 : decode cX8_plans 45 = .ok (.iload_n 3, 1) := by decide +kernel
theorem dX8_plans_46 : decode cX8_plans 46 = .ok (.aload_n 0, 1) := by decide +kernel
theorem dX8_plans_47 : decode cX8_plans 47 = .ok (.getfield 64, 3) := by decide +kernel
theorem dX8_plans_50 : decode cX8_plans 50 = .ok (.if_icmp .ge 77, 3) := by decide +kernel
theorem dX8_plans_53 : decode cX8_plans 53 = .ok (.aload_n 0, 1) := by decide +kernel
theorem dX8_plans_54 : decode cX8_plans 54 = .ok (.iload_n 3, 1) := by decide +kernel
theorem dX8_plans_55 : decode cX8_plans 55 = .ok (.iload_n 2, 1) := by decide +kernel
theorem dX8_plans_56 : decode cX8_plans 56 = .ok (.invokevirtual 181, 3) := by decide +kernel
theorem dX8_plans_59 : decode cX8_plans 59 = .ok (.istore 4, 2) := by decide +kernel
theorem dX8_plans_61 : decode cX8_plans 61 = .ok (.iload 4, 2) := by decide +kernel
theorem dX8_plans_63 : decode cX8_plans 63 = .ok (.ifCond .ge 9, 3) := by decide +kernel
theorem dX8_plans_66 : decode cX8_plans 66 = .ok (.iinc 3 1, 3) := by decide +kernel
theorem dX8_plans_69 : decode cX8_plans 69 = .ok (.goto 55, 3) := by decide +kernel
theorem dX8_plans_72 : decode cX8_plans 72 = .ok (.aload_n 0, 1) := by decide +kernel
theorem dX8_plans_73 : decode cX8_plans 73 = .ok (.getfield 34, 3) := by decide +kernel
theorem dX8_plans_76 : decode cX8_plans 76 = .ok (.iload 4, 2) := by decide +kernel
theorem dX8_plans_78 : decode cX8_plans 78 = .ok (.iconst 3, 1) := by decide +kernel
theorem dX8_plans_79 : decode cX8_plans 79 = .ok (.idiv, 1) := by decide +kernel
theorem dX8_plans_80 : decode cX8_plans 80 = .ok (.iload 4, 2) := by decide +kernel
theorem dX8_plans_82 : decode cX8_plans 82 = .ok (.iconst 3, 1) := by decide +kernel
theorem dX8_plans_83 : decode cX8_plans 83 = .ok (.irem, 1) := by decide +kernel
theorem dX8_plans_84 : decode cX8_plans 84 = .ok (.iastore, 1) := by decide +kernel
theorem dX8_plans_85 : decode cX8_plans 85 = .ok (.aload_n 0, 1) := by decide +kernel
theorem dX8_plans_86 : decode cX8_plans 86 = .ok (.getfield 37, 3) := by decide +kernel
theorem dX8_plans_89 : decode cX8_plans 89 = .ok (.iload 4, 2) := by decide +kernel
theorem dX8_plans_91 : decode cX8_plans 91 = .ok (.iconst 3, 1) := by decide +kernel
theorem dX8_plans_92 : decode cX8_plans 92 = .ok (.idiv, 1) := by decide +kernel
theorem dX8_plans_93 : decode cX8_plans 93 = .ok (.iload_n 3, 1) := by decide +kernel
theorem dX8_plans_94 : decode cX8_plans 94 = .ok (.iastore, 1) := by decide +kernel
theorem dX8_plans_95 : decode cX8_plans 95 = .ok (.iload_n 2, 1) := by decide +kernel
theorem dX8_plans_96 : decode cX8_plans 96 = .ok (.iconst 1, 1) := by decide +kernel
theorem dX8_plans_97 : decode cX8_plans 97 = .ok (.iload 4, 2) := by decide +kernel
theorem dX8_plans_99 : decode cX8_plans 99 = .ok (.iconst 3, 1) := by decide +kernel
theorem dX8_plans_100 : decode cX8_plans 100 = .ok (.idiv, 1) := by decide +kernel
theorem dX8_plans_101 : decode cX8_plans 101 = .ok (.ishl, 1) := by decide +kernel
theorem dX8_plans_102 : decode cX8_plans 102 = .ok (.ior, 1) := by decide +kernel
theorem dX8_plans_103 : decode cX8_plans 103 = .ok (.istore_n 2, 1) := by decide +kernel
theorem dX8_plans_104 : decode cX8_plans 104 = .ok (.iload_n 3, 1) := by decide +kernel
theorem dX8_plans_105 : decode cX8_plans 105 = .ok (.aload_n 0, 1) := by decide +kernel
theorem dX8_plans_106 : decode cX8_plans 106 = .ok (.iload 4, 2) := by decide +kernel
theorem dX8_plans_108 : decode cX8_plans 108 = .ok (.iconst 3, 1) := by decide +kernel
theorem dX8_plans_109 : decode cX8_plans 109 = .ok (.idiv, 1) := by decide +kernel
theorem dX8_plans_110 : decode cX8_plans 110 = .ok (.iload 4, 2) := by decide +kernel
theorem dX8_plans_112 : decode cX8_plans 112 = .ok (.iconst 3, 1) := by decide +kernel
theorem dX8_plans_113 : decode cX8_plans 113 = .ok (.irem, 1) := by decide +kernel
theorem dX8_plans_114 : decode cX8_plans 114 = .ok (.invokevirtual 147, 3) := by decide +kernel
theorem dX8_plans_117 : decode cX8_plans 117 = .ok (.aload_n 0, 1) := by decide +kernel
theorem dX8_plans_118 : decode cX8_plans 118 = .ok (.getfield 68, 3) := by decide +kernel
theorem dX8_plans_121 : decode cX8_plans 121 = .ok (.iadd, 1) := by decide +kernel
theorem dX8_plans_122 : decode cX8_plans 122 = .ok (.iadd, 1) := by decide +kernel
theorem dX8_plans_123 : decode cX8_plans 123 = .ok (.istore_n 3, 1) := by decide +kernel
theorem dX8_plans_124 : decode cX8_plans 124 = .ok (.goto (-79), 3) := by decide +kernel
theorem dX8_plans_127 : decode cX8_plans 127 = .ok (.iload_n 1, 1) := by decide +kernel
theorem dX8_plans_128 : decode cX8_plans 128 = .ok (.ireturn, 1) := by decide +kernel
theorem ivX8_178 : IV RX8 178 yX8_fills cX8_fills 8 (some .int) 1 := ⟨(tb_mem (t_in5 (List.mem_of_getElem? (i := 96) (by decide +kernel))) (by decide +kernel)), (tb_mem (t_in5 (List.mem_of_getElem? (i := 98) (by decide +kernel))) (by decide +kernel)), (tb_sel (q := (⟨"GapTellingsModel", "fills", "(I)I"⟩, 29)) (List.mem_of_getElem? (i := 28) (by decide +kernel)) (by decide +kernel)), (tb_mem (t_in1 (List.mem_of_getElem? (i := 16) (by decide +kernel))) (by decide +kernel)), (tb_mem (t_in5 (List.mem_of_getElem? (i := 99) (by decide +kernel))) (by decide +kernel)), ⟨by decide +kernel, by decide +kernel, by decide +kernel⟩⟩
theorem flX8_34 : FL RX8 34 8 17 := ⟨_, _, _, rfl, by decide, uwX8, Or.inl (tb_mem (t_in4 (List.mem_of_getElem? (i := 125) (by decide +kernel))) (by decide +kernel))⟩
theorem flX8_37 : FL RX8 37 8 18 := ⟨_, _, _, rfl, by decide, uwX8, Or.inl (tb_mem (t_in4 (List.mem_of_getElem? (i := 126) (by decide +kernel))) (by decide +kernel))⟩
theorem ivX8_181 : IV RX8 181 yX8_begins cX8_begins 5 (some .int) 2 := ⟨(tb_mem (t_in5 (List.mem_of_getElem? (i := 105) (by decide +kernel))) (by decide +kernel)), (tb_mem (t_in5 (List.mem_of_getElem? (i := 107) (by decide +kernel))) (by decide +kernel)), (tb_sel (q := (⟨"GapTellingsModel", "begins", "(II)I"⟩, 29)) (List.mem_of_getElem? (i := 30) (by decide +kernel)) (by decide +kernel)), (tb_mem (t_in1 (List.mem_of_getElem? (i := 16) (by decide +kernel))) (by decide +kernel)), (tb_mem (t_in5 (List.mem_of_getElem? (i := 108) (by decide +kernel))) (by decide +kernel)), ⟨by decide +kernel, by decide +kernel, by decide +kernel⟩⟩
set_option maxHeartbeats 4000000 in
set_option maxRecDepth 20000 in
theorem sgX8_plans_0 {κ : Kx} {K : Kont} {M : Mem} (C : Cx κ RX8 cX8_plans 5 (some .int) rmX8_plans domM) 
    (h :
    spX8_hears M (rV (fun M1 =>
    spX8_fills 127 M1 (rI (fun r7 M7 =>
    V κ 5 M7 13 [some (.inr (30, 0)), some (.inl r7), some (.inl 0), none, none] [] K))))) : V κ 5 M 0 [some (.inr (30, 0)), none, none, none, none] [] K := by
  refine v_aload_n C dX8_plans_0 rfl ?_
  refine v_invV C ctX8_hears dX8_plans_1 ivX8_137 ⟨by decide, by decide, rfl, rfl⟩ (() : Unit) (As := []) rfl rfl rfl (by decide) rfl (st := []) rfl (Nat.le_of_ble_eq_true rfl) h (fun o M1 oM1 io1 g1 => ?_)
  replace h := rV_out g1
  clear g1
  obtain ⟨rfl, h⟩ := h
  refine v_push0 ?_
  refine v_aload_n C dX8_plans_4 rfl ?_
  refine v_bipush C dX8_plans_5 (by decide) (by decide) ?_
  refine v_invV C ctX8_fills dX8_plans_7 ivX8_178 ⟨by decide, by decide, rfl, rfl⟩ (127 : Int) (As := [.inl 127]) rfl rfl rfl (by decide) rfl (st := []) rfl (Nat.le_of_ble_eq_true rfl) h (fun o M7 oM7 io7 g7 => ?_)
  replace h := rI_out g7
  clear g7
  obtain ⟨r7, rfl, h⟩ := h
  refine v_push ?_
  refine v_istore_n C dX8_plans_10 (by decide) (Nat.le_of_ble_eq_true rfl) (lv' := [some (.inr (30, 0)), some (.inl r7), none, none, none]) rfl ?_
  refine v_iconst C dX8_plans_11 (by decide) ?_
  refine v_istore_n C dX8_plans_12 (by decide) (Nat.le_of_ble_eq_true rfl) (lv' := [some (.inr (30, 0)), some (.inl r7), some (.inl 0), none, none]) rfl ?_
  refine v_weak [some (.inr (30, 0)), some (.inl r7), some (.inl 0), none, none] ⟨rfl, rfl, rfl, trivial⟩ ?_
  exact h
set_option maxHeartbeats 4000000 in
set_option maxRecDepth 20000 in
theorem sgX8_plans_13 {κ : Kx} {K : Kont} {M : Mem} (C : Cx κ RX8 cX8_plans 5 (some .int) rmX8_plans domM) (x1 : Int) (x2 : Int)
    (h :
    ((7 ≤ x2 →
      V κ 5 M 45 [some (.inr (30, 0)), some (.inl x1), some (.inl 0), some (.inl 0), none] [] K) ∧
     (¬ (7 ≤ x2) →
      (0 ≤ x2 ∧ x2 < 7) ∧
      ∀ M26 : Mem, M26 = up3 M 47 0 x2 (-4) →
      (0 ≤ x2 ∧ x2 < 7) ∧
      ∀ M34 : Mem, M34 = up3 M26 48 0 x2 (-4) →
      inR (x2 + 1) ∧
      V κ 5 M34 13 [some (.inr (30, 0)), some (.inl x1), some (.inl (x2 + 1)), none, none] [] K))) : V κ 5 M 13 [some (.inr (30, 0)), some (.inl x1), some (.inl x2), none, none] [] K := by
  refine v_iload_n C dX8_plans_13 rfl ?_
  refine v_bipush C dX8_plans_14 (by decide) (by decide) ?_
  refine v_icmp C dX8_plans_16 (tgt := 41) (by decide) (P := 7 ≤ x2) rfl (fun c16 => ?_) (fun c16 => ?_)
  · replace h := h.1 c16
    refine v_iconst C dX8_plans_41 (by decide) ?_
    refine v_istore_n C dX8_plans_42 (by decide) (Nat.le_of_ble_eq_true rfl) (lv' := [some (.inr (30, 0)), some (.inl x1), some (.inl 0), none, none]) rfl ?_
    refine v_iconst C dX8_plans_43 (by decide) ?_
    refine v_istore_n C dX8_plans_44 (by decide) (Nat.le_of_ble_eq_true rfl) (lv' := [some (.inr (30, 0)), some (.inl x1), some (.inl 0), some (.inl 0), none]) rfl ?_
    refine v_weak [some (.inr (30, 0)), some (.inl x1), some (.inl 0), some (.inl 0), none] ⟨rfl, rfl, rfl, rfl, trivial⟩ ?_
    exact h
  · replace h := h.2 c16
    refine v_aload_n C dX8_plans_19 rfl ?_
    refine v_get C dX8_plans_20 flX8_34 rfl (by decide) (by decide) (w := .inr (47, 0)) rfl ?_
    refine v_iload_n C dX8_plans_23 rfl ?_
    refine v_bipush C dX8_plans_24 (by decide) (by decide) ?_
    refine v_iast C dX8_plans_26 rfl h.1.1 h.1.2 ?_
    replace h := h.2
    refine v_nmM (fun M26 eM26 => ?_)
    replace h := h M26 eM26
    refine v_aload_n C dX8_plans_27 rfl ?_
    refine v_get C dX8_plans_28 flX8_37 rfl (by decide) (by decide) (w := .inr (48, 0)) rfl ?_
    refine v_iload_n C dX8_plans_31 rfl ?_
    refine v_bipush C dX8_plans_32 (by decide) (by decide) ?_
    refine v_iast C dX8_plans_34 rfl h.1.1 h.1.2 ?_
    replace h := h.2
    refine v_nmM (fun M34 eM34 => ?_)
    replace h := h M34 eM34
    refine v_iinc C dX8_plans_35 (by decide) rfl h.1 (lv' := [some (.inr (30, 0)), some (.inl x1), some (.inl (x2 + 1)), none, none]) rfl ?_
    replace h := h.2
    refine v_goto C dX8_plans_38 (tgt := 13) (by decide) ?_
    refine v_weak [some (.inr (30, 0)), some (.inl x1), some (.inl (x2 + 1)), none, none] ⟨rfl, rfl, rfl, trivial⟩ ?_
    exact h
set_option maxHeartbeats 4000000 in
set_option maxRecDepth 20000 in
theorem sgX8_plans_45 {κ : Kx} {K : Kont} {M : Mem} (C : Cx κ RX8 cX8_plans 5 (some .int) rmX8_plans domM) (x1 : Int) (x2 : Int) (x3 : Int)
    (h :
    (((M 30 0 2) ≤ x3 →
      K (some x1) M) ∧
     (¬ ((M 30 0 2) ≤ x3) →
      spX8_begins x3 x2 M (rI (fun r56 M56 =>
      ((0 ≤ r56 →
        0 ≤ r56 ∧
        0 ≤ r56 ∧
        (0 ≤ (r56 / 3) ∧ (r56 / 3) < 7) ∧
        ∀ M84 : Mem, M84 = up3 M56 47 0 (r56 / 3) (r56 % 3) →
        0 ≤ r56 ∧
        (0 ≤ (r56 / 3) ∧ (r56 / 3) < 7) ∧
        ∀ M94 : Mem, M94 = up3 M84 48 0 (r56 / 3) x3 →
        0 ≤ r56 ∧
        ∀ y2_103 : Int, y2_103 = bOr x2 (bShl 1 (r56 / 3)) →
        0 ≤ r56 ∧
        0 ≤ r56 ∧
        spX8_wide (r56 / 3) (r56 % 3) M94 (rI (fun r114 M114 =>
        inR (r114 + (M114 30 0 3)) ∧
        inR (x3 + (r114 + (M114 30 0 3))) ∧
        ∀ y3_123 : Int, y3_123 = x3 + (r114 + (M114 30 0 3)) →
        V κ 5 M114 45 [some (.inr (30, 0)), some (.inl x1), some (.inl y2_103), some (.inl y3_123), none] [] K))) ∧
       (¬ (0 ≤ r56) →
        inR (x3 + 1) ∧
        V κ 5 M56 45 [some (.inr (30, 0)), some (.inl x1), some (.inl x2), some (.inl (x3 + 1)), none] [] K))))))) : V κ 5 M 45 [some (.inr (30, 0)), some (.inl x1), some (.inl x2), some (.inl x3), none] [] K := by
  refine v_iload_n C dX8_plans_45 rfl ?_
  refine v_aload_n C dX8_plans_46 rfl ?_
  refine v_get C dX8_plans_47 flX8_64 rfl (by decide) (by decide) (w := .inl (M 30 0 2)) rfl ?_
  refine v_icmp C dX8_plans_50 (tgt := 127) (by decide) (P := (M 30 0 2) ≤ x3) rfl (fun c50 => ?_) (fun c50 => ?_)
  · replace h := h.1 c50
    refine v_iload_n C dX8_plans_127 rfl ?_
    exact v_iret C dX8_plans_128 h
  · replace h := h.2 c50
    refine v_aload_n C dX8_plans_53 rfl ?_
    refine v_iload_n C dX8_plans_54 rfl ?_
    refine v_iload_n C dX8_plans_55 rfl ?_
    refine v_invV C ctX8_begins dX8_plans_56 ivX8_181 ⟨by decide, by decide, rfl, rfl⟩ ((x3, x2) : Int × Int) (As := [.inl x3, .inl x2]) rfl rfl rfl (by decide) rfl (st := []) rfl (Nat.le_of_ble_eq_true rfl) h (fun o M56 oM56 io56 g56 => ?_)
    replace h := rI_out g56
    clear g56
    obtain ⟨r56, rfl, h⟩ := h
    refine v_push ?_
    refine v_istore C dX8_plans_59 (by decide) (Nat.le_of_ble_eq_true rfl) (lv' := [some (.inr (30, 0)), some (.inl x1), some (.inl x2), some (.inl x3), some (.inl r56)]) rfl ?_
    refine v_iload C dX8_plans_61 rfl ?_
    refine v_if C dX8_plans_63 (tgt := 72) (by decide) (P := 0 ≤ r56) rfl (fun c63 => ?_) (fun c63 => ?_)
    · replace h := h.1 c63
      refine v_aload_n C dX8_plans_72 rfl ?_
      refine v_get C dX8_plans_73 flX8_34 rfl (by decide) (by decide) (w := .inr (47, 0)) rfl ?_
      refine v_iload C dX8_plans_76 rfl ?_
      refine v_iconst C dX8_plans_78 (by decide) ?_
      refine v_idiv C dX8_plans_79 h.1 (by decide) ?_
      replace h := h.2
      refine v_iload C dX8_plans_80 rfl ?_
      refine v_iconst C dX8_plans_82 (by decide) ?_
      refine v_irem C dX8_plans_83 h.1 (by decide) ?_
      replace h := h.2
      refine v_iast C dX8_plans_84 rfl h.1.1 h.1.2 ?_
      replace h := h.2
      refine v_nmM (fun M84 eM84 => ?_)
      replace h := h M84 eM84
      refine v_aload_n C dX8_plans_85 rfl ?_
      refine v_get C dX8_plans_86 flX8_37 rfl (by decide) (by decide) (w := .inr (48, 0)) rfl ?_
      refine v_iload C dX8_plans_89 rfl ?_
      refine v_iconst C dX8_plans_91 (by decide) ?_
      refine v_idiv C dX8_plans_92 h.1 (by decide) ?_
      replace h := h.2
      refine v_iload_n C dX8_plans_93 rfl ?_
      refine v_iast C dX8_plans_94 rfl h.1.1 h.1.2 ?_
      replace h := h.2
      refine v_nmM (fun M94 eM94 => ?_)
      replace h := h M94 eM94
      refine v_iload_n C dX8_plans_95 rfl ?_
      refine v_iconst C dX8_plans_96 (by decide) ?_
      refine v_iload C dX8_plans_97 rfl ?_
      refine v_iconst C dX8_plans_99 (by decide) ?_
      refine v_idiv C dX8_plans_100 h.1 (by decide) ?_
      replace h := h.2
      refine v_ishl C dX8_plans_101 ?_
      refine v_ior C dX8_plans_102 ?_
      refine v_nm (fun y2_103 ey2_103 => ?_)
      replace h := h y2_103 ey2_103
      refine v_istore_n C dX8_plans_103 (by decide) (Nat.le_of_ble_eq_true rfl) (lv' := [some (.inr (30, 0)), some (.inl x1), some (.inl y2_103), some (.inl x3), some (.inl r56)]) rfl ?_
      refine v_iload_n C dX8_plans_104 rfl ?_
      refine v_aload_n C dX8_plans_105 rfl ?_
      refine v_iload C dX8_plans_106 rfl ?_
      refine v_iconst C dX8_plans_108 (by decide) ?_
      refine v_idiv C dX8_plans_109 h.1 (by decide) ?_
      replace h := h.2
      refine v_iload C dX8_plans_110 rfl ?_
      refine v_iconst C dX8_plans_112 (by decide) ?_
      refine v_irem C dX8_plans_113 h.1 (by decide) ?_
      replace h := h.2
      refine v_invV C ctX8_wide dX8_plans_114 ivX8_147 ⟨by decide, by decide, rfl, rfl⟩ ((r56 / 3, r56 % 3) : Int × Int) (As := [.inl (r56 / 3), .inl (r56 % 3)]) rfl rfl rfl (by decide) rfl (st := [.inl x3]) rfl (Nat.le_of_ble_eq_true rfl) h (fun o M114 oM114 io114 g114 => ?_)
      replace h := rI_out g114
      clear g114
      obtain ⟨r114, rfl, h⟩ := h
      refine v_push ?_
      refine v_aload_n C dX8_plans_117 rfl ?_
      refine v_get C dX8_plans_118 flX8_68 rfl (by decide) (by decide) (w := .inl (M114 30 0 3)) rfl ?_
      refine v_iadd C dX8_plans_121 h.1 ?_
      replace h := h.2
      refine v_iadd C dX8_plans_122 h.1 ?_
      replace h := h.2
      refine v_nm (fun y3_123 ey3_123 => ?_)
      replace h := h y3_123 ey3_123
      refine v_istore_n C dX8_plans_123 (by decide) (Nat.le_of_ble_eq_true rfl) (lv' := [some (.inr (30, 0)), some (.inl x1), some (.inl y2_103), some (.inl y3_123), some (.inl r56)]) rfl ?_
      refine v_goto C dX8_plans_124 (tgt := 45) (by decide) ?_
      refine v_weak [some (.inr (30, 0)), some (.inl x1), some (.inl y2_103), some (.inl y3_123), none] ⟨rfl, rfl, rfl, rfl, trivial⟩ ?_
      exact h
    · replace h := h.2 c63
      refine v_iinc C dX8_plans_66 (by decide) rfl h.1 (lv' := [some (.inr (30, 0)), some (.inl x1), some (.inl x2), some (.inl (x3 + 1)), some (.inl r56)]) rfl ?_
      replace h := h.2
      refine v_goto C dX8_plans_69 (tgt := 124) (by decide) ?_
      refine v_goto C dX8_plans_124 (tgt := 45) (by decide) ?_
      refine v_weak [some (.inr (30, 0)), some (.inl x1), some (.inl x2), some (.inl (x3 + 1)), none] ⟨rfl, rfl, rfl, rfl, trivial⟩ ?_
      exact h
theorem gT_all {F : Film} (hf : WFf F) {u s : Int} (h0 : 0 ≤ u) (h1 : u ≤ F 0 0 0) : gT F 127 u s = tabR F (spb F) (csb F) (F 1 0 0) (bShl 1 (F 3 0 0) - 1) (F 0 0 0).toNat u s := by
  have n3 := hf.2.2.2.1
  refine tab_c hf FEq.rf SEq.rf SEq.rf hf.2.1.1 (fun k a b => ?_) _ _ _ (by omega) (by omega) h1
  rw [all_bit n3.1 n3.2 a b]
  have key : ∀ j : Nat, j < 7 → bit 127 (j : Int) = true := by decide +kernel
  have := key k.toNat (by omega)
  rw [oi_nat a] at this
  exact this
theorem bV127 {F : Film} (hf : WFf F) : gT F 127 0 0 = bV0 F (F 1 0 0) (allS F) := by
  have := hf.1
  exact gT_all hf (by omega) (by omega)
theorem bP0_127 {F : Film} (hf : WFf F) : trC F (spb F) (csb F) (F 1 0 0) (gT F 127) (F 0 0 0).toNat 0 0 0 (fun _ => -4) (fun _ => -4) = bP0 F := by
  have := hf.1
  exact trC_c hf FEq.rf SEq.rf SEq.rf hf.2.1.1 (fun u s a b => gT_all hf a b) _ _ _ _ _ _ (by omega) (by omega)
theorem trC_skip {F : Film} {S Q : Int → Int} {B : Int} {f : Int → Int → Int} : ∀ (k n : Nat) (t free set : Int) (ver sta : Int → Int), t + k ≤ free → trC F S Q B f (k + n) t free set ver sta = trC F S Q B f n (t + k) free set ver sta := by
  intro k
  induction k with
  | zero => intro n t free set ver sta _; simp
  | succ k ih =>
    intro n t free set ver sta h
    rw [show k + 1 + n = (k + n) + 1 by omega]
    conv => lhs; unfold trC
    rw [if_pos (by omega), ih n (t + 1) free set ver sta (by omega)]
    congr 1
    omega
theorem bP0_wf {F : Film} (hf : WFf F) : PlK F (bP0 F).1 (bP0 F).2 := by
  have := hf.1
  exact bst_wf hf _ _ _ _ _ _ (by omega) (by omega) (fun q _ _ => Or.inl ⟨rfl, rfl⟩)
abbrev spX8_plans (M : Mem) (K : Kont) : Prop := InvM M ∧ ∀ M', AgS M M' → PlEq (M' 47 0) (M' 48 0) (bP0 (mFilm M)).1 (bP0 (mFilm M)).2 → K (some (bV0 (mFilm M) (mFilm M 1 0 0) (allS (mFilm M)))) M'
theorem ctX8_plans : CtX8_plans spX8_plans := by
  refine ct_of (by decide) dmM (fun _ => Nat.le_of_ble_eq_true rfl) ?_
  intro κ a M K C oM h
  obtain ⟨hI, hk⟩ := h
  have hf := hI.2.1
  have n3 := hf.2.2.2.1
  have B := hf.2.1
  have T := hf.1
  have hw := shl_le7 n3.1 n3.2
  have e3 : mFilm M 3 0 0 = M 30 0 6 := rfl
  have e0 : mFilm M 0 0 0 = M 30 0 2 := rfl
  have e1 : mFilm M 1 0 0 = M 30 0 3 := rfl
  refine sgX8_plans_0 C ⟨hf, fun N hA hH => ?_⟩
  have f1 := hA.s.film
  refine ⟨⟨by rw [f1]; exact hf, by rw [f1]; exact hH, by omega, by omega⟩, fun N2 hA2 hT => ?_⟩
  rw [f1] at hT
  rw [f1, bV127 hf]
  have S2 : AgS M N2 := hA.s.tr hA2.s
  have H2 : HrK N2 (mFilm M) := fun u a b => by rw [hA2 52 (by decide)]; exact hH u a b
  generalize hx : bV0 (mFilm M) (mFilm M 1 0 0) (allS (mFilm M)) = x at hk
  show V κ 5 N2 13 [some (.inr (30, 0)), some (.inl x), some (.inl 0), none, none] [] K
  -- only the plan changes from here on
  have main : ∀ (n : Nat) (t set : Int) (N3 : Mem) (ver sta : Int → Int) (free : Int), 0 ≤ t → (mFilm M 0 0 0 - t).toNat ≤ n → free ≤ t → (0 ≤ set ∧ set < bShl 1 (mFilm M 3 0 0)) → (∀ r i, r ≠ 47 → r ≠ 48 → N3 r i = N2 r i) → PlEq (N3 47 0) (N3 48 0) ver sta → t ≤ 200 → trC (mFilm M) (spb (mFilm M)) (csb (mFilm M)) (mFilm M 1 0 0) (gT (mFilm M) 127) (mFilm M 0 0 0 - t).toNat t free set ver sta = bP0 (mFilm M) →
      V κ 5 N3 45 [some (.inr (30, 0)), some (.inl x), some (.inl set), some (.inl t), none] [] K := by
    intro n
    have stop : ∀ (t set : Int) (N3 : Mem) (ver sta : Int → Int) (free : Int), mFilm M 0 0 0 ≤ t → (∀ r i, r ≠ 47 → r ≠ 48 → N3 r i = N2 r i) → PlEq (N3 47 0) (N3 48 0) ver sta → trC (mFilm M) (spb (mFilm M)) (csb (mFilm M)) (mFilm M 1 0 0) (gT (mFilm M) 127) (mFilm M 0 0 0 - t).toNat t free set ver sta = bP0 (mFilm M) → K (some x) N3 := by
      intro t set N3 ver sta free ht hA3 hp htr
      rw [show (mFilm M 0 0 0 - t).toNat = 0 by omega] at htr
      have e : bP0 (mFilm M) = (ver, sta) := htr.symm
      refine hk N3 (S2.tr (fun r i j hn => by rw [hA3 r i (by omega) (by omega)])) ?_
      rw [e]
      exact hp
    induction n with
    | zero =>
      intro t set N3 ver sta free t0 hn hfr hs hA3 hp t200 htr
      have e30 : N3 30 0 = M 30 0 ∨ True := Or.inr trivial
      have e2 : N3 30 0 2 = M 30 0 2 := by rw [hA3 30 0 (by decide) (by decide)]; exact S2 30 0 2 (by omega)
      exact sgX8_plans_45 C x set t ⟨fun _ => stop t set N3 ver sta free (by omega) hA3 hp htr, fun z => absurd (by omega) z⟩
    | succ n ih =>
      intro t set N3 ver sta free t0 hn hfr hs hA3 hp t200 htr
      have e2 : N3 30 0 2 = M 30 0 2 := by rw [hA3 30 0 (by decide) (by decide)]; exact S2 30 0 2 (by omega)
      refine sgX8_plans_45 C x set t ⟨fun z => stop t set N3 ver sta free (by omega) hA3 hp htr, fun z => ?_⟩
      have f3 : mFilm N3 = mFilm M := by
        rw [← S2.film]
        exact mFilm_eq (fun j hj => by rw [hA3 30 0 (by decide) (by decide)]) (fun r hr => hA3 r 0 (by omega) (by omega))
      have sp := fiP_spec hf (S := spb (mFilm M)) (Q := csb (mFilm M)) (B := mFilm M 1 0 0) (f := gT (mFilm M) 127) (t := t) (set := set) (mFilm M 3 0 0).toNat 0 (by omega) (by omega)
      refine ⟨⟨by rw [f3]; exact hf, by rw [f3]; intro u a b; rw [hA3 52 0 (by decide) (by decide)]; exact H2 u a b, by rw [f3]; omega, by rw [f3]; exact hs⟩, 127, by rw [f3]; intro u s a b c d; rw [hA3 53 0 (by decide) (by decide)]; exact hT u s (by omega) b c d, ?_⟩
      rw [f3]
      show (_ → _) ∧ (_ → _)
      rw [show (mFilm M 0 0 0 - t).toNat = (mFilm M 0 0 0 - (t + 1)).toNat + 1 by clear sp; omega] at htr
      unfold trC at htr
      rw [if_neg (by omega)] at htr
      generalize fiP (mFilm M) (spb (mFilm M)) (csb (mFilm M)) (mFilm M 1 0 0) (gT (mFilm M) 127) t set (mFilm M 3 0 0).toNat 0 = w at *
      refine ⟨fun c2 => ?_, fun c2 => ?_⟩
      · rcases sp with z' | ⟨p, k, z1, z2, z3, z4, z5, z6, -⟩
        · omega
        · have wv := wf_pv hf z1 z2 z3 z4
          have d1 : w / 3 = p := by omega
          have d2 : w % 3 = k := by omega
          rw [if_neg (by omega), d1, d2] at htr
          rw [d1, d2]
          have oe := own_end z6.2.2
          refine ⟨by omega, by omega, by omega, fun N4 e4 => ⟨by omega, by omega, fun N5 e5 => ⟨by omega, fun y ey => ⟨by omega, by omega, by omega, ?_⟩⟩⟩⟩
          have g5 : ∀ r i, r ≠ 47 → r ≠ 48 → N5 r i = N2 r i := fun r i a b => by funext j; rw [e5, up3_r _ _ _ _ _ b, e4, up3_r _ _ _ _ _ a, hA3 r i a b]
          have f5 : mFilm N5 = mFilm M := by
            rw [← S2.film]
            exact mFilm_eq (fun j hj => by rw [g5 30 0 (by decide) (by decide)]) (fun r hr => g5 r 0 (by omega) (by omega))
          have e13 : N5 30 0 3 = M 30 0 3 := by rw [g5 30 0 (by decide) (by decide)]; exact S2 30 0 3 (by omega)
          show inR (mFilm N5 13 p k + N5 30 0 3) ∧ inR (t + (mFilm N5 13 p k + N5 30 0 3)) ∧ ∀ q : Int, q = t + (mFilm N5 13 p k + N5 30 0 3) → V κ 5 N5 45 [some (.inr (30, 0)), some (.inl x), some (.inl y), some (.inl q), none] [] K
          rw [f5, e13]
          refine ⟨by omega, by omega, fun q eq => ?_⟩
          rw [ey]
          have ow := or_w n3.1 n3.2 hs.1 hs.2 z1 z2
          have pe : PlEq (N5 47 0) (N5 48 0) (setP ver p k) (setP sta p t) := by
            intro j a b
            have hj := hp j a b
            by_cases ej : j = p
            · rw [ej, setP_s, setP_s, e5, up3_s, up3_r _ _ _ _ _ (by decide), e4, up3_s]; exact ⟨rfl, rfl⟩
            · rw [setP_n _ _ _ ej, setP_n _ _ _ ej]
              refine ⟨?_, ?_⟩
              · rw [e5, up3_r _ _ _ _ _ (by decide), e4, up3_j _ _ _ _ _ ej]; exact hj.1
              · rw [e5, up3_j _ _ _ _ _ ej, e4, up3_r _ _ _ _ _ (by decide)]; exact hj.2
          refine ih q (bOr set (bShl 1 p)) N5 (setP ver p k) (setP sta p t) (min (t + mFilm M 13 p k + mFilm M 1 0 0) (mFilm M 0 0 0)) (by omega) (by omega) (by omega) ⟨ow.1, ow.2.1⟩ g5 pe (by omega) ?_
          rw [← htr]
          -- over the ticks that are told and the breath
          have sk := trC_skip (F := mFilm M) (S := spb (mFilm M)) (Q := csb (mFilm M)) (B := mFilm M 1 0 0) (f := gT (mFilm M) 127) (min (t + mFilm M 13 p k + mFilm M 1 0 0) (mFilm M 0 0 0) - (t + 1)).toNat (mFilm M 0 0 0 - min (t + mFilm M 13 p k + mFilm M 1 0 0) (mFilm M 0 0 0)).toNat (t + 1) (min (t + mFilm M 13 p k + mFilm M 1 0 0) (mFilm M 0 0 0)) (bOr set (bShl 1 p)) (setP ver p k) (setP sta p t) (by omega)
          rw [show (min (t + mFilm M 13 p k + mFilm M 1 0 0) (mFilm M 0 0 0) - (t + 1)).toNat + (mFilm M 0 0 0 - min (t + mFilm M 13 p k + mFilm M 1 0 0) (mFilm M 0 0 0)).toNat = (mFilm M 0 0 0 - (t + 1)).toNat by omega] at sk
          rw [sk]
          by_cases cq : q ≤ mFilm M 0 0 0
          · rw [show min (t + mFilm M 13 p k + mFilm M 1 0 0) (mFilm M 0 0 0) = q by omega, show t + 1 + ((q - (t + 1)).toNat : Int) = q by omega]
          · rw [show (mFilm M 0 0 0 - q).toNat = 0 by omega, show (mFilm M 0 0 0 - min (t + mFilm M 13 p k + mFilm M 1 0 0) (mFilm M 0 0 0)).toNat = 0 by omega]
            rfl
      · rw [if_pos (by omega)] at htr
        exact ⟨by omega, ih (t + 1) set N3 ver sta free (by omega) (by omega) (by omega) hs hA3 hp (by omega) htr⟩
  have clear : ∀ (n : Nat) (p : Int) (N3 : Mem), 0 ≤ p → p + n = 7 → (∀ r i, r ≠ 47 → r ≠ 48 → N3 r i = N2 r i) → (∀ q, 0 ≤ q → q < p → N3 47 0 q = -4 ∧ N3 48 0 q = -4) →
      V κ 5 N3 13 [some (.inr (30, 0)), some (.inl x), some (.inl p), none, none] [] K := by
    intro n
    induction n with
    | zero =>
      intro p N3 p0 hn hA3 hz
      refine sgX8_plans_13 C x p ⟨fun _ => ?_, fun z => absurd (by omega) z⟩
      refine main (mFilm M 0 0 0).toNat 0 0 N3 (fun _ => -4) (fun _ => -4) 0 (by omega) (by omega) (by omega) ⟨by omega, by omega⟩ hA3 (fun q a b => hz q a (by omega)) (by omega) ?_
      rw [Int.sub_zero]
      exact bP0_127 hf
    | succ n ih =>
      intro p N3 p0 hn hA3 hz
      refine sgX8_plans_13 C x p ⟨fun z => absurd z (by omega), fun _ => ⟨by omega, fun N4 e4 => ⟨by omega, fun N5 e5 => ⟨by omega, ih (p + 1) N5 (by omega) (by omega) (fun r i a b => by funext j; rw [e5, up3_r _ _ _ _ _ b, e4, up3_r _ _ _ _ _ a, hA3 r i a b]) (fun q a b => ?_)⟩⟩⟩⟩
      by_cases e : q = p
      · rw [e, e5, up3_s, up3_r _ _ _ _ _ (by decide), e4, up3_s]; exact ⟨rfl, rfl⟩
      · have := hz q a (by omega)
        refine ⟨?_, ?_⟩
        · rw [e5, up3_r _ _ _ _ _ (by decide), e4, up3_j _ _ _ _ _ e]; exact this.1
        · rw [e5, up3_j _ _ _ _ _ e, e4, up3_r _ _ _ _ _ (by decide)]; exact this.2
  exact clear 7 0 N2 (by omega) (by omega) (fun _ _ _ _ => rfl) (fun q a b => by omega)
