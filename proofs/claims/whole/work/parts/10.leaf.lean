/-! ===== GapTellings$Picture.isNear ===== -/
abbrev rmX3_isNear : Room := { frames := 0, cells := 0, slots := 0, locals := 0 }
abbrev argX3_isNear (a : Int × Int) : List PV := [.inr (11, a.1), .inl a.2]
abbrev CtX3_isNear (sp : Int → Int → Mem → Kont → Prop) : Prop := Ct yX3_isNear cX3_isNear 2 (some .boolean) rmX3_isNear domC argX3_isNear (fun a => sp a.1 a.2)
theorem dX3_isNear_0 : decode cX3_isNear 0 = .ok (.iload_n 1, 1) := by decide +kernel
theorem dX3_isNear_1 : decode cX3_isNear 1 = .ok (.aload_n 0, 1) := by decide +kernel
theorem dX3_isNear_2 : decode cX3_isNear 2 = .ok (.getfield 18, 3) := by decide +kernel
theorem dX3_isNear_5 : decode cX3_isNear 5 = .ok (.aload_n 0, 1) := by decide +kernel
theorem dX3_isNear_6 : decode cX3_isNear 6 = .ok (.getfield 22, 3) := by decide +kernel
theorem dX3_isNear_9 : decode cX3_isNear 9 = .ok (.isub, 1) := by decide +kernel
theorem dX3_isNear_10 : decode cX3_isNear 10 = .ok (.if_icmp .lt 20, 3) := by decide +kernel
theorem dX3_isNear_13 : decode cX3_isNear 13 = .ok (.iload_n 1, 1) := by decide +kernel
theorem dX3_isNear_14 : decode cX3_isNear 14 = .ok (.aload_n 0, 1) := by decide +kernel
theorem dX3_isNear_15 : decode cX3_isNear 15 = .ok (.getfield 18, 3) := by decide +kernel
theorem dX3_isNear_18 : decode cX3_isNear 18 = .ok (.aload_n 0, 1) := by decide +kernel
theorem dX3_isNear_19 : decode cX3_isNear 19 = .ok (.getfield 25, 3) := by decide +kernel
theorem dX3_isNear_22 : decode cX3_isNear 22 = .ok (.iadd, 1) := by decide +kernel
theorem dX3_isNear_23 : decode cX3_isNear 23 = .ok (.if_icmp .gt 7, 3) := by decide +kernel
theorem dX3_isNear_26 : decode cX3_isNear 26 = .ok (.iconst 1, 1) := by decide +kernel
theorem dX3_isNear_27 : decode cX3_isNear 27 = .ok (.goto 4, 3) := by decide +kernel
theorem dX3_isNear_30 : decode cX3_isNear 30 = .ok (.iconst 0, 1) := by decide +kernel
theorem dX3_isNear_31 : decode cX3_isNear 31 = .ok (.ireturn, 1) := by decide +kernel
theorem flX3_18 : FL RX3 18 3 0 := ⟨_, _, _, rfl, by decide, uwX3, Or.inl (tb_mem (t_in1 (List.mem_of_getElem? (i := 61) (by decide +kernel))) (by decide +kernel))⟩
theorem flX3_22 : FL RX3 22 3 1 := ⟨_, _, _, rfl, by decide, uwX3, Or.inl (tb_mem (t_in1 (List.mem_of_getElem? (i := 66) (by decide +kernel))) (by decide +kernel))⟩
theorem flX3_25 : FL RX3 25 3 2 := ⟨_, _, _, rfl, by decide, uwX3, Or.inl (tb_mem (t_in1 (List.mem_of_getElem? (i := 70) (by decide +kernel))) (by decide +kernel))⟩
set_option maxHeartbeats 4000000 in
set_option maxRecDepth 20000 in
theorem sgX3_isNear_0 {κ : Kx} {K : Kont} {M : Mem} (C : Cx κ RX3 cX3_isNear 2 (some .boolean) rmX3_isNear domC) (i0 : Int) (x1 : Int)
    (h :
    inR ((M 11 i0 0) - (M 11 i0 1)) ∧
    ((x1 < ((M 11 i0 0) - (M 11 i0 1)) →
      K (some 0) M) ∧
     (¬ (x1 < ((M 11 i0 0) - (M 11 i0 1))) →
      inR ((M 11 i0 0) + (M 11 i0 2)) ∧
      ((((M 11 i0 0) + (M 11 i0 2)) < x1 →
        K (some 0) M) ∧
       (¬ (((M 11 i0 0) + (M 11 i0 2)) < x1) →
        K (some 1) M))))) : V κ 2 M 0 [some (.inr (11, i0)), some (.inl x1)] [] K := by
  refine v_iload_n C dX3_isNear_0 rfl ?_
  refine v_aload_n C dX3_isNear_1 rfl ?_
  refine v_get C dX3_isNear_2 flX3_18 rfl (by decide) (by decide) (w := .inl (M 11 i0 0)) rfl ?_
  refine v_aload_n C dX3_isNear_5 rfl ?_
  refine v_get C dX3_isNear_6 flX3_22 rfl (by decide) (by decide) (w := .inl (M 11 i0 1)) rfl ?_
  refine v_isub C dX3_isNear_9 h.1 ?_
  replace h := h.2
  refine v_icmp C dX3_isNear_10 (tgt := 30) (by decide) (P := x1 < ((M 11 i0 0) - (M 11 i0 1))) rfl (fun c10 => ?_) (fun c10 => ?_)
  · replace h := h.1 c10
    refine v_iconst C dX3_isNear_30 (by decide) ?_
    exact v_zret C dX3_isNear_31 (by decide) h
  · replace h := h.2 c10
    refine v_iload_n C dX3_isNear_13 rfl ?_
    refine v_aload_n C dX3_isNear_14 rfl ?_
    refine v_get C dX3_isNear_15 flX3_18 rfl (by decide) (by decide) (w := .inl (M 11 i0 0)) rfl ?_
    refine v_aload_n C dX3_isNear_18 rfl ?_
    refine v_get C dX3_isNear_19 flX3_25 rfl (by decide) (by decide) (w := .inl (M 11 i0 2)) rfl ?_
    refine v_iadd C dX3_isNear_22 h.1 ?_
    replace h := h.2
    refine v_icmp C dX3_isNear_23 (tgt := 30) (by decide) (P := ((M 11 i0 0) + (M 11 i0 2)) < x1) rfl (fun c23 => ?_) (fun c23 => ?_)
    · replace h := h.1 c23
      refine v_iconst C dX3_isNear_30 (by decide) ?_
      exact v_zret C dX3_isNear_31 (by decide) h
    · replace h := h.2 c23
      refine v_iconst C dX3_isNear_26 (by decide) ?_
      refine v_goto C dX3_isNear_27 (tgt := 31) (by decide) ?_
      exact v_zret C dX3_isNear_31 (by decide) h
abbrev spX3_isNear (i t : Int) (M : Mem) (K : Kont) : Prop := (0 ≤ M 11 i 0 ∧ M 11 i 0 ≤ 100 ∧ 0 ≤ M 11 i 1 ∧ M 11 i 1 ≤ 20 ∧ 0 ≤ M 11 i 2 ∧ M 11 i 2 ≤ 20) ∧
  K (some (if t < M 11 i 0 - M 11 i 1 ∨ M 11 i 0 + M 11 i 2 < t then 0 else 1)) M
theorem ctX3_isNear : CtX3_isNear spX3_isNear := by
  refine ct_of (by decide) dmC (fun _ => Nat.le_of_ble_eq_true rfl) ?_
  intro κ a M K C oM h
  obtain ⟨i, t⟩ := a
  refine sgX3_isNear_0 C i t ?_
  clear C
  dsimp only [spX3_isNear] at h
  grind
/-! ===== GapTellings$Track.hasSpeech ===== -/
abbrev rmX6_hasSpeech : Room := { frames := 0, cells := 0, slots := 0, locals := 0 }
abbrev argX6_hasSpeech (a : Int × Int) : List PV := [.inr (14, a.1), .inl a.2]
abbrev CtX6_hasSpeech (sp : Int → Int → Mem → Kont → Prop) : Prop := Ct yX6_hasSpeech cX6_hasSpeech 2 (some .boolean) rmX6_hasSpeech domC argX6_hasSpeech (fun a => sp a.1 a.2)
theorem dX6_hasSpeech_0 : decode cX6_hasSpeech 0 = .ok (.aload_n 0, 1) := by decide +kernel
theorem dX6_hasSpeech_1 : decode cX6_hasSpeech 1 = .ok (.getfield 9, 3) := by decide +kernel
theorem dX6_hasSpeech_4 : decode cX6_hasSpeech 4 = .ok (.iload_n 1, 1) := by decide +kernel
theorem dX6_hasSpeech_5 : decode cX6_hasSpeech 5 = .ok (.iaload, 1) := by decide +kernel
theorem dX6_hasSpeech_6 : decode cX6_hasSpeech 6 = .ok (.iconst 1, 1) := by decide +kernel
theorem dX6_hasSpeech_7 : decode cX6_hasSpeech 7 = .ok (.iand, 1) := by decide +kernel
theorem dX6_hasSpeech_8 : decode cX6_hasSpeech 8 = .ok (.ifCond .eq 7, 3) := by decide +kernel
theorem dX6_hasSpeech_11 : decode cX6_hasSpeech 11 = .ok (.iconst 1, 1) := by decide +kernel
theorem dX6_hasSpeech_12 : decode cX6_hasSpeech 12 = .ok (.goto 4, 3) := by decide +kernel
theorem dX6_hasSpeech_15 : decode cX6_hasSpeech 15 = .ok (.iconst 0, 1) := by decide +kernel
theorem dX6_hasSpeech_16 : decode cX6_hasSpeech 16 = .ok (.ireturn, 1) := by decide +kernel
theorem flX6_9 : FL RX6 9 6 1 := ⟨_, _, _, rfl, by decide, uwX6, Or.inl (tb_mem (t_in1 (List.mem_of_getElem? (i := 170) (by decide +kernel))) (by decide +kernel))⟩
set_option maxHeartbeats 4000000 in
set_option maxRecDepth 20000 in
theorem sgX6_hasSpeech_0 {κ : Kx} {K : Kont} {M : Mem} (C : Cx κ RX6 cX6_hasSpeech 2 (some .boolean) rmX6_hasSpeech domC) (i0 : Int) (x1 : Int)
    (h :
    (0 ≤ x1 ∧ x1 < 100) ∧
    (((bAnd (M 15 i0 x1) 1) = 0 →
      K (some 0) M) ∧
     (¬ ((bAnd (M 15 i0 x1) 1) = 0) →
      K (some 1) M))) : V κ 2 M 0 [some (.inr (14, i0)), some (.inl x1)] [] K := by
  refine v_aload_n C dX6_hasSpeech_0 rfl ?_
  refine v_get C dX6_hasSpeech_1 flX6_9 rfl (by decide) (by decide) (w := .inr (15, i0)) rfl ?_
  refine v_iload_n C dX6_hasSpeech_4 rfl ?_
  refine v_iald C dX6_hasSpeech_5 rfl h.1.1 h.1.2 ?_
  replace h := h.2
  refine v_iconst C dX6_hasSpeech_6 (by decide) ?_
  refine v_iand C dX6_hasSpeech_7 ?_
  refine v_if C dX6_hasSpeech_8 (tgt := 15) (by decide) (P := (bAnd (M 15 i0 x1) 1) = 0) rfl (fun c8 => ?_) (fun c8 => ?_)
  · replace h := h.1 c8
    refine v_iconst C dX6_hasSpeech_15 (by decide) ?_
    exact v_zret C dX6_hasSpeech_16 (by decide) h
  · replace h := h.2 c8
    refine v_iconst C dX6_hasSpeech_11 (by decide) ?_
    refine v_goto C dX6_hasSpeech_12 (tgt := 16) (by decide) ?_
    exact v_zret C dX6_hasSpeech_16 (by decide) h
abbrev spX6_hasSpeech (i t : Int) (M : Mem) (K : Kont) : Prop := (0 ≤ t ∧ t < 100) ∧ K (some (if bAnd (M 15 i t) 1 = 0 then 0 else 1)) M
theorem ctX6_hasSpeech : CtX6_hasSpeech spX6_hasSpeech := by
  refine ct_of (by decide) dmC (fun _ => Nat.le_of_ble_eq_true rfl) ?_
  intro κ a M K C oM h
  obtain ⟨i, t⟩ := a
  refine sgX6_hasSpeech_0 C i t ?_
  clear C
  dsimp only [spX6_hasSpeech] at h
  grind
/-! ===== GapTellings$Track.ownWhyNot ===== -/
abbrev rmX6_ownWhyNot : Room := { frames := 1, cells := 0, slots := 0, locals := 21 }
abbrev argX6_ownWhyNot (a : Int × Int × Int × Int) : List PV := [.inr (14, a.1), .inl a.2.1, .inl a.2.2.1, .inl a.2.2.2]
abbrev CtX6_ownWhyNot (sp : Int → Int → Int → Int → Mem → Kont → Prop) : Prop := Ct yX6_ownWhyNot cX6_ownWhyNot 6 (some .int) rmX6_ownWhyNot domC argX6_ownWhyNot (fun a => sp a.1 a.2.1 a.2.2.1 a.2.2.2)
theorem dX6_ownWhyNot_0 : decode cX6_ownWhyNot 0 = .ok (.aload_n 0, 1) := by decide +kernel
theorem dX6_ownWhyNot_1 : decode cX6_ownWhyNot 1 = .ok (.getfield 21, 3) := by decide +kernel
theorem dX6_ownWhyNot_4 : decode cX6_ownWhyNot 4 = .ok (.getfield 60, 3) := by decide +kernel
theorem dX6_ownWhyNot_7 : decode cX6_ownWhyNot 7 = .ok (.iload_n 1, 1) := by decide +kernel
theorem dX6_ownWhyNot_8 : decode cX6_ownWhyNot 8 = .ok (.aaload, 1) := by decide +kernel
theorem dX6_ownWhyNot_9 : decode cX6_ownWhyNot 9 = .ok (.astore 4, 2) := by decide +kernel
theorem dX6_ownWhyNot_11 : decode cX6_ownWhyNot 11 = .ok (.iload_n 3, 1) := by decide +kernel
theorem dX6_ownWhyNot_12 : decode cX6_ownWhyNot 12 = .ok (.aload 4, 2) := by decide +kernel
theorem dX6_ownWhyNot_14 : decode cX6_ownWhyNot 14 = .ok (.getfield 64, 3) := by decide +kernel
theorem dX6_ownWhyNot_17 : decode cX6_ownWhyNot 17 = .ok (.iload_n 2, 1) := by decide +kernel
theorem dX6_ownWhyNot_18 : decode cX6_ownWhyNot 18 = .ok (.iaload, 1) := by decide +kernel
theorem dX6_ownWhyNot_19 : decode cX6_ownWhyNot 19 = .ok (.iadd, 1) := by decide +kernel
theorem dX6_ownWhyNot_20 : decode cX6_ownWhyNot 20 = .ok (.istore 5, 2) := by decide +kernel
theorem dX6_ownWhyNot_22 : decode cX6_ownWhyNot 22 = .ok (.iload 5, 2) := by decide +kernel
theorem dX6_ownWhyNot_24 : decode cX6_ownWhyNot 24 = .ok (.aload_n 0, 1) := by decide +kernel
theorem dX6_ownWhyNot_25 : decode cX6_ownWhyNot 25 = .ok (.getfield 21, 3) := by decide +kernel
theorem dX6_ownWhyNot_28 : decode cX6_ownWhyNot 28 = .ok (.getfield 46, 3) := by decide +kernel
theorem dX6_ownWhyNot_31 : decode cX6_ownWhyNot 31 = .ok (.if_icmp .le 5, 3) := by decide +kernel
theorem dX6_ownWhyNot_34 : decode cX6_ownWhyNot 34 = .ok (.iconst 1, 1) := by decide +kernel
theorem dX6_ownWhyNot_35 : decode cX6_ownWhyNot 35 = .ok (.ireturn, 1) := by decide +kernel
theorem dX6_ownWhyNot_36 : decode cX6_ownWhyNot 36 = .ok (.aload 4, 2) := by decide +kernel
theorem dX6_ownWhyNot_38 : decode cX6_ownWhyNot 38 = .ok (.iload_n 3, 1) := by decide +kernel
theorem dX6_ownWhyNot_39 : decode cX6_ownWhyNot 39 = .ok (.invokevirtual 69, 3) := by decide +kernel
theorem dX6_ownWhyNot_42 : decode cX6_ownWhyNot 42 = .ok (.ifCond .ne 5, 3) := by decide +kernel
theorem dX6_ownWhyNot_45 : decode cX6_ownWhyNot 45 = .ok (.iconst 2, 1) := by decide +kernel
theorem dX6_ownWhyNot_46 : decode cX6_ownWhyNot 46 = .ok (.ireturn, 1) := by decide +kernel
theorem dX6_ownWhyNot_47 : decode cX6_ownWhyNot 47 = .ok (.aload_n 0, 1) := by decide +kernel
theorem dX6_ownWhyNot_48 : decode cX6_ownWhyNot 48 = .ok (.getfield 15, 3) := by decide +kernel
theorem dX6_ownWhyNot_51 : decode cX6_ownWhyNot 51 = .ok (.iload 5, 2) := by decide +kernel
theorem dX6_ownWhyNot_53 : decode cX6_ownWhyNot 53 = .ok (.iaload, 1) := by decide +kernel
theorem dX6_ownWhyNot_54 : decode cX6_ownWhyNot 54 = .ok (.aload_n 0, 1) := by decide +kernel
theorem dX6_ownWhyNot_55 : decode cX6_ownWhyNot 55 = .ok (.getfield 15, 3) := by decide +kernel
theorem dX6_ownWhyNot_58 : decode cX6_ownWhyNot 58 = .ok (.iload_n 3, 1) := by decide +kernel
theorem dX6_ownWhyNot_59 : decode cX6_ownWhyNot 59 = .ok (.iaload, 1) := by decide +kernel
theorem dX6_ownWhyNot_60 : decode cX6_ownWhyNot 60 = .ok (.if_icmp .le 7, 3) := by decide +kernel
theorem dX6_ownWhyNot_63 : decode cX6_ownWhyNot 63 = .ok (.iconst 3, 1) := by decide +kernel
theorem dX6_ownWhyNot_64 : decode cX6_ownWhyNot 64 = .ok (.goto 4, 3) := by decide +kernel
theorem dX6_ownWhyNot_67 : decode cX6_ownWhyNot 67 = .ok (.iconst 0, 1) := by decide +kernel
theorem dX6_ownWhyNot_68 : decode cX6_ownWhyNot 68 = .ok (.ireturn, 1) := by decide +kernel
theorem flX6_21 : FL RX6 21 6 0 := ⟨_, _, _, rfl, by decide, uwX6, Or.inl (tb_mem (t_in1 (List.mem_of_getElem? (i := 169) (by decide +kernel))) (by decide +kernel))⟩
theorem flX6_60 : FL RX6 60 1 8 := ⟨_, _, _, rfl, by decide, uwX1, Or.inr ⟨"GapTellings", (nw_mem (t_in1 (List.mem_of_getElem? (i := 140) (by decide +kernel))) (by decide +kernel))⟩⟩
theorem flX6_64 : FL RX6 64 3 5 := ⟨_, _, _, rfl, by decide, uwX3, Or.inr ⟨"GapTellings", (nw_mem (t_in1 (List.mem_of_getElem? (i := 83) (by decide +kernel))) (by decide +kernel))⟩⟩
theorem flX6_46 : FL RX6 46 1 0 := ⟨_, _, _, rfl, by decide, uwX1, Or.inr ⟨"GapTellings", (nw_mem (t_in1 (List.mem_of_getElem? (i := 108) (by decide +kernel))) (by decide +kernel))⟩⟩
theorem ivX6_69 : IV RX6 69 yX3_isNear cX3_isNear 2 (some .boolean) 1 := ⟨(tb_mem (t_in3 (List.mem_of_getElem? (i := 65) (by decide +kernel))) (by decide +kernel)), (tb_mem (t_in3 (List.mem_of_getElem? (i := 66) (by decide +kernel))) (by decide +kernel)), (tb_mem (t_in3 (List.mem_of_getElem? (i := 67) (by decide +kernel))) (by decide +kernel)), (tb_mem (t_in1 (List.mem_of_getElem? (i := 4) (by decide +kernel))) (by decide +kernel)), (tb_mem (t_in3 (List.mem_of_getElem? (i := 68) (by decide +kernel))) (by decide +kernel)), ⟨by decide +kernel, by decide +kernel, by decide +kernel⟩⟩
theorem flX6_15 : FL RX6 15 6 2 := ⟨_, _, _, rfl, by decide, uwX6, Or.inl (tb_mem (t_in1 (List.mem_of_getElem? (i := 172) (by decide +kernel))) (by decide +kernel))⟩
set_option maxHeartbeats 4000000 in
set_option maxRecDepth 20000 in
theorem sgX6_ownWhyNot_0 {κ : Kx} {K : Kont} {M : Mem} (C : Cx κ RX6 cX6_ownWhyNot 6 (some .int) rmX6_ownWhyNot domC) (i0 : Int) (x1 : Int) (x2 : Int) (x3 : Int)
    (h :
    (0 ≤ x1 ∧ x1 < 7) ∧
    (0 ≤ x2 ∧ x2 < 3) ∧
    inR (x3 + (M 12 (7 * 1 + x1) x2)) ∧
    ∀ y5_20 : Int, y5_20 = x3 + (M 12 (7 * 1 + x1) x2) →
    ((y5_20 ≤ (M 5 1 0) →
      spX3_isNear (7 * 1 + x1) x3 M (rI (fun r39 M39 =>
      ((r39 ≠ 0 →
        (0 ≤ y5_20 ∧ y5_20 < 101) ∧
        (0 ≤ x3 ∧ x3 < 101) ∧
        (((M39 16 i0 y5_20) ≤ (M39 16 i0 x3) →
          K (some 0) M39) ∧
         (¬ ((M39 16 i0 y5_20) ≤ (M39 16 i0 x3)) →
          K (some 3) M39))) ∧
       (¬ (r39 ≠ 0) →
        K (some 2) M39))))) ∧
     (¬ (y5_20 ≤ (M 5 1 0)) →
      K (some 1) M))) : V κ 6 M 0 [some (.inr (14, i0)), some (.inl x1), some (.inl x2), some (.inl x3), none, none] [] K := by
  refine v_aload_n C dX6_ownWhyNot_0 rfl ?_
  refine v_get C dX6_ownWhyNot_1 flX6_21 rfl (by decide) (by decide) (w := .inr (5, 1)) rfl ?_
  refine v_get C dX6_ownWhyNot_4 flX6_60 rfl (by decide) (by decide) (w := .inr (10, 1)) rfl ?_
  refine v_iload_n C dX6_ownWhyNot_7 rfl ?_
  refine v_aald C dX6_ownWhyNot_8 h.1.1 h.1.2 ?_
  replace h := h.2
  refine v_astore C dX6_ownWhyNot_9 (by decide) (Nat.le_of_ble_eq_true rfl) (lv' := [some (.inr (14, i0)), some (.inl x1), some (.inl x2), some (.inl x3), some (.inr (11, 7 * 1 + x1)), none]) rfl ?_
  refine v_iload_n C dX6_ownWhyNot_11 rfl ?_
  refine v_aload C dX6_ownWhyNot_12 rfl ?_
  refine v_get C dX6_ownWhyNot_14 flX6_64 rfl (by decide) (by decide) (w := .inr (12, 7 * 1 + x1)) rfl ?_
  refine v_iload_n C dX6_ownWhyNot_17 rfl ?_
  refine v_iald C dX6_ownWhyNot_18 rfl h.1.1 h.1.2 ?_
  replace h := h.2
  refine v_iadd C dX6_ownWhyNot_19 h.1 ?_
  replace h := h.2
  refine v_nm (fun y5_20 ey5_20 => ?_)
  replace h := h y5_20 ey5_20
  refine v_istore C dX6_ownWhyNot_20 (by decide) (Nat.le_of_ble_eq_true rfl) (lv' := [some (.inr (14, i0)), some (.inl x1), some (.inl x2), some (.inl x3), some (.inr (11, 7 * 1 + x1)), some (.inl y5_20)]) rfl ?_
  refine v_iload C dX6_ownWhyNot_22 rfl ?_
  refine v_aload_n C dX6_ownWhyNot_24 rfl ?_
  refine v_get C dX6_ownWhyNot_25 flX6_21 rfl (by decide) (by decide) (w := .inr (5, 1)) rfl ?_
  refine v_get C dX6_ownWhyNot_28 flX6_46 rfl (by decide) (by decide) (w := .inl (M 5 1 0)) rfl ?_
  refine v_icmp C dX6_ownWhyNot_31 (tgt := 36) (by decide) (P := y5_20 ≤ (M 5 1 0)) rfl (fun c31 => ?_) (fun c31 => ?_)
  · replace h := h.1 c31
    refine v_aload C dX6_ownWhyNot_36 rfl ?_
    refine v_iload_n C dX6_ownWhyNot_38 rfl ?_
    refine v_invV C ctX3_isNear dX6_ownWhyNot_39 ivX6_69 ⟨by decide, by decide, rfl, rfl⟩ ((7 * 1 + x1, x3) : Int × Int) (As := [.inl x3]) rfl rfl rfl (by decide) rfl (st := []) rfl (Nat.le_of_ble_eq_true rfl) h (fun o M39 oM39 io39 h => ?_)
    obtain ⟨r39, rfl, h⟩ := rI_out h
    refine v_push ?_
    refine v_if C dX6_ownWhyNot_42 (tgt := 47) (by decide) (P := r39 ≠ 0) rfl (fun c42 => ?_) (fun c42 => ?_)
    · replace h := h.1 c42
      refine v_aload_n C dX6_ownWhyNot_47 rfl ?_
      refine v_get C dX6_ownWhyNot_48 flX6_15 rfl (by decide) (by decide) (w := .inr (16, i0)) rfl ?_
      refine v_iload C dX6_ownWhyNot_51 rfl ?_
      refine v_iald C dX6_ownWhyNot_53 rfl h.1.1 h.1.2 ?_
      replace h := h.2
      refine v_aload_n C dX6_ownWhyNot_54 rfl ?_
      refine v_get C dX6_ownWhyNot_55 flX6_15 rfl (by decide) (by decide) (w := .inr (16, i0)) rfl ?_
      refine v_iload_n C dX6_ownWhyNot_58 rfl ?_
      refine v_iald C dX6_ownWhyNot_59 rfl h.1.1 h.1.2 ?_
      replace h := h.2
      refine v_icmp C dX6_ownWhyNot_60 (tgt := 67) (by decide) (P := (M39 16 i0 y5_20) ≤ (M39 16 i0 x3)) rfl (fun c60 => ?_) (fun c60 => ?_)
      · replace h := h.1 c60
        refine v_iconst C dX6_ownWhyNot_67 (by decide) ?_
        exact v_iret C dX6_ownWhyNot_68 h
      · replace h := h.2 c60
        refine v_iconst C dX6_ownWhyNot_63 (by decide) ?_
        refine v_goto C dX6_ownWhyNot_64 (tgt := 68) (by decide) ?_
        exact v_iret C dX6_ownWhyNot_68 h
    · replace h := h.2 c42
      refine v_iconst C dX6_ownWhyNot_45 (by decide) ?_
      exact v_iret C dX6_ownWhyNot_46 h
  · replace h := h.2 c31
    refine v_iconst C dX6_ownWhyNot_34 (by decide) ?_
    exact v_iret C dX6_ownWhyNot_35 h
abbrev spX6_ownWhyNot (tr p v t : Int) (M : Mem) (K : Kont) : Prop := (WFf (cFilm M 1) ∧ (0 ≤ p ∧ p < M 5 1 7) ∧ (0 ≤ v ∧ v < M 11 (7 * 1 + p) 4) ∧ (0 ≤ t ∧ t < M 5 1 0)) ∧
  K (some (ownW (cFilm M 1) (M 16 tr) p v t)) M
theorem ctX6_ownWhyNot : CtX6_ownWhyNot spX6_ownWhyNot := by
  refine ct_of (by decide) dmC (fun _ => Nat.le_of_ble_eq_true rfl) ?_
  intro κ a M K C oM h
  obtain ⟨tr, p, v, t⟩ := a
  refine sgX6_ownWhyNot_0 C tr p v t ?_
  clear C
  dsimp only [spX6_ownWhyNot] at h
  obtain ⟨⟨hf, hp, hv, ht⟩, hk⟩ := h
  have hw := wf_pv hf hp.1 hp.2 hv.1 hv.2
  simp only [cFilm, ownW] at hw hk
  clear hf oM κ
  grind (splits := 20) [rI]
/-! ===== GapTellings$Track.gainOf ===== -/
abbrev rmX6_gainOf : Room := { frames := 1, cells := 0, slots := 0, locals := 21 }
abbrev argX6_gainOf (a : Int × Int × Int × Int) : List PV := [.inr (14, a.1), .inl a.2.1, .inl a.2.2.1, .inl a.2.2.2]
abbrev CtX6_gainOf (sp : Int → Int → Int → Int → Mem → Kont → Prop) : Prop := Ct yX6_gainOf cX6_gainOf 8 (some .int) rmX6_gainOf domC argX6_gainOf (fun a => sp a.1 a.2.1 a.2.2.1 a.2.2.2)
theorem dX6_gainOf_0 : decode cX6_gainOf 0 = .ok (.aload_n 0, 1) := by decide +kernel
theorem dX6_gainOf_1 : decode cX6_gainOf 1 = .ok (.getfield 21, 3) := by decide +kernel
theorem dX6_gainOf_4 : decode cX6_gainOf 4 = .ok (.getfield 60, 3) := by decide +kernel
theorem dX6_gainOf_7 : decode cX6_gainOf 7 = .ok (.iload_n 1, 1) := by decide +kernel
theorem dX6_gainOf_8 : decode cX6_gainOf 8 = .ok (.aaload, 1) := by decide +kernel
theorem dX6_gainOf_9 : decode cX6_gainOf 9 = .ok (.astore 4, 2) := by decide +kernel
theorem dX6_gainOf_11 : decode cX6_gainOf 11 = .ok (.iload_n 3, 1) := by decide +kernel
theorem dX6_gainOf_12 : decode cX6_gainOf 12 = .ok (.aload 4, 2) := by decide +kernel
theorem dX6_gainOf_14 : decode cX6_gainOf 14 = .ok (.getfield 64, 3) := by decide +kernel
theorem dX6_gainOf_17 : decode cX6_gainOf 17 = .ok (.iload_n 2, 1) := by decide +kernel
theorem dX6_gainOf_18 : decode cX6_gainOf 18 = .ok (.iaload, 1) := by decide +kernel
theorem dX6_gainOf_19 : decode cX6_gainOf 19 = .ok (.iadd, 1) := by decide +kernel
theorem dX6_gainOf_20 : decode cX6_gainOf 20 = .ok (.aload_n 0, 1) := by decide +kernel
theorem dX6_gainOf_21 : decode cX6_gainOf 21 = .ok (.getfield 21, 3) := by decide +kernel
theorem dX6_gainOf_24 : decode cX6_gainOf 24 = .ok (.getfield 46, 3) := by decide +kernel
theorem dX6_gainOf_27 : decode cX6_gainOf 27 = .ok (.invokestatic 72, 3) := by decide +kernel
theorem dX6_gainOf_30 : decode cX6_gainOf 30 = .ok (.istore 5, 2) := by decide +kernel
theorem dX6_gainOf_32 : decode cX6_gainOf 32 = .ok (.iload_n 3, 1) := by decide +kernel
theorem dX6_gainOf_33 : decode cX6_gainOf 33 = .ok (.aload 4, 2) := by decide +kernel
theorem dX6_gainOf_35 : decode cX6_gainOf 35 = .ok (.getfield 78, 3) := by decide +kernel
theorem dX6_gainOf_38 : decode cX6_gainOf 38 = .ok (.isub, 1) := by decide +kernel
theorem dX6_gainOf_39 : decode cX6_gainOf 39 = .ok (.istore 6, 2) := by decide +kernel
theorem dX6_gainOf_41 : decode cX6_gainOf 41 = .ok (.iload 6, 2) := by decide +kernel
theorem dX6_gainOf_43 : decode cX6_gainOf 43 = .ok (.ifCond .ge 19, 3) := by decide +kernel
theorem dX6_gainOf_46 : decode cX6_gainOf 46 = .ok (.iload 6, 2) := by decide +kernel
theorem dX6_gainOf_48 : decode cX6_gainOf 48 = .ok (.ineg, 1) := by decide +kernel
theorem dX6_gainOf_49 : decode cX6_gainOf 49 = .ok (.aload_n 0, 1) := by decide +kernel
theorem dX6_gainOf_50 : decode cX6_gainOf 50 = .ok (.getfield 21, 3) := by decide +kernel
theorem dX6_gainOf_53 : decode cX6_gainOf 53 = .ok (.getfield 57, 3) := by decide +kernel
theorem dX6_gainOf_56 : decode cX6_gainOf 56 = .ok (.iconst 0, 1) := by decide +kernel
theorem dX6_gainOf_57 : decode cX6_gainOf 57 = .ok (.iaload, 1) := by decide +kernel
theorem dX6_gainOf_58 : decode cX6_gainOf 58 = .ok (.imul, 1) := by decide +kernel
theorem dX6_gainOf_59 : decode cX6_gainOf 59 = .ok (.goto 15, 3) := by decide +kernel
theorem dX6_gainOf_62 : decode cX6_gainOf 62 = .ok (.iload 6, 2) := by decide +kernel
theorem dX6_gainOf_64 : decode cX6_gainOf 64 = .ok (.aload_n 0, 1) := by decide +kernel
theorem dX6_gainOf_65 : decode cX6_gainOf 65 = .ok (.getfield 21, 3) := by decide +kernel
theorem dX6_gainOf_68 : decode cX6_gainOf 68 = .ok (.getfield 57, 3) := by decide +kernel
theorem dX6_gainOf_71 : decode cX6_gainOf 71 = .ok (.iconst 1, 1) := by decide +kernel
theorem dX6_gainOf_72 : decode cX6_gainOf 72 = .ok (.iaload, 1) := by decide +kernel
theorem dX6_gainOf_73 : decode cX6_gainOf 73 = .ok (.imul, 1) := by decide +kernel
theorem dX6_gainOf_74 : decode cX6_gainOf 74 = .ok (.istore 7, 2) := by decide +kernel
theorem dX6_gainOf_76 : decode cX6_gainOf 76 = .ok (.aload 4, 2) := by decide +kernel
theorem dX6_gainOf_78 : decode cX6_gainOf 78 = .ok (.getfield 81, 3) := by decide +kernel
theorem dX6_gainOf_81 : decode cX6_gainOf 81 = .ok (.iload_n 2, 1) := by decide +kernel
theorem dX6_gainOf_82 : decode cX6_gainOf 82 = .ok (.iaload, 1) := by decide +kernel
theorem dX6_gainOf_83 : decode cX6_gainOf 83 = .ok (.iload 7, 2) := by decide +kernel
theorem dX6_gainOf_85 : decode cX6_gainOf 85 = .ok (.isub, 1) := by decide +kernel
theorem dX6_gainOf_86 : decode cX6_gainOf 86 = .ok (.aload_n 0, 1) := by decide +kernel
theorem dX6_gainOf_87 : decode cX6_gainOf 87 = .ok (.getfield 18, 3) := by decide +kernel
theorem dX6_gainOf_90 : decode cX6_gainOf 90 = .ok (.iload 5, 2) := by decide +kernel
theorem dX6_gainOf_92 : decode cX6_gainOf 92 = .ok (.iaload, 1) := by decide +kernel
theorem dX6_gainOf_93 : decode cX6_gainOf 93 = .ok (.aload_n 0, 1) := by decide +kernel
theorem dX6_gainOf_94 : decode cX6_gainOf 94 = .ok (.getfield 18, 3) := by decide +kernel
theorem dX6_gainOf_97 : decode cX6_gainOf 97 = .ok (.iload_n 3, 1) := by decide +kernel
theorem dX6_gainOf_98 : decode cX6_gainOf 98 = .ok (.iaload, 1) := by decide +kernel
theorem dX6_gainOf_99 : decode cX6_gainOf 99 = .ok (.isub, 1) := by decide +kernel
theorem dX6_gainOf_100 : decode cX6_gainOf 100 = .ok (.isub, 1) := by decide +kernel
theorem dX6_gainOf_101 : decode cX6_gainOf 101 = .ok (.ireturn, 1) := by decide +kernel
theorem ivX6_72 : IMin RX6 72 := ⟨(tb_mem (t_in3 (List.mem_of_getElem? (i := 123) (by decide +kernel))) (by decide +kernel)), (tb_mem (t_in2 (List.mem_of_getElem? (i := 32) (by decide +kernel))) (by decide +kernel)), (tb_mem (t_in1 (List.mem_of_getElem? (i := 11) (by decide +kernel))) (by decide +kernel)), (tb_mem (t_in2 (List.mem_of_getElem? (i := 33) (by decide +kernel))) (by decide +kernel))⟩
theorem flX6_78 : FL RX6 78 3 0 := ⟨_, _, _, rfl, by decide, uwX3, Or.inr ⟨"GapTellings", (nw_mem (t_in1 (List.mem_of_getElem? (i := 64) (by decide +kernel))) (by decide +kernel))⟩⟩
theorem flX6_57 : FL RX6 57 1 2 := ⟨_, _, _, rfl, by decide, uwX1, Or.inr ⟨"GapTellings", (nw_mem (t_in1 (List.mem_of_getElem? (i := 117) (by decide +kernel))) (by decide +kernel))⟩⟩
theorem flX6_81 : FL RX6 81 3 6 := ⟨_, _, _, rfl, by decide, uwX3, Or.inr ⟨"GapTellings", (nw_mem (t_in1 (List.mem_of_getElem? (i := 89) (by decide +kernel))) (by decide +kernel))⟩⟩
theorem flX6_18 : FL RX6 18 6 3 := ⟨_, _, _, rfl, by decide, uwX6, Or.inl (tb_mem (t_in1 (List.mem_of_getElem? (i := 174) (by decide +kernel))) (by decide +kernel))⟩
set_option maxHeartbeats 4000000 in
set_option maxRecDepth 20000 in
theorem sgX6_gainOf_0 {κ : Kx} {K : Kont} {M : Mem} (C : Cx κ RX6 cX6_gainOf 8 (some .int) rmX6_gainOf domC) (i0 : Int) (x1 : Int) (x2 : Int) (x3 : Int)
    (h :
    (0 ≤ x1 ∧ x1 < 7) ∧
    (0 ≤ x2 ∧ x2 < 3) ∧
    inR (x3 + (M 12 (7 * 1 + x1) x2)) ∧
    ∀ y5_30 : Int, y5_30 = min (x3 + (M 12 (7 * 1 + x1) x2)) (M 5 1 0) →
    inR (x3 - (M 11 (7 * 1 + x1) 0)) ∧
    ∀ y6_39 : Int, y6_39 = x3 - (M 11 (7 * 1 + x1) 0) →
    ((0 ≤ y6_39 →
      inR (y6_39 * (M 6 1 1)) ∧
      ∀ y7_74 : Int, y7_74 = y6_39 * (M 6 1 1) →
      (0 ≤ x2 ∧ x2 < 3) ∧
      inR ((M 13 (7 * 1 + x1) x2) - y7_74) ∧
      (0 ≤ y5_30 ∧ y5_30 < 101) ∧
      (0 ≤ x3 ∧ x3 < 101) ∧
      inR ((M 17 i0 y5_30) - (M 17 i0 x3)) ∧
      inR (((M 13 (7 * 1 + x1) x2) - y7_74) - ((M 17 i0 y5_30) - (M 17 i0 x3))) ∧
      K (some (((M 13 (7 * 1 + x1) x2) - y7_74) - ((M 17 i0 y5_30) - (M 17 i0 x3)))) M) ∧
     (¬ (0 ≤ y6_39) →
      inR (-y6_39) ∧
      inR ((-y6_39) * (M 6 1 0)) ∧
      ∀ y7_74 : Int, y7_74 = (-y6_39) * (M 6 1 0) →
      (0 ≤ x2 ∧ x2 < 3) ∧
      inR ((M 13 (7 * 1 + x1) x2) - y7_74) ∧
      (0 ≤ y5_30 ∧ y5_30 < 101) ∧
      (0 ≤ x3 ∧ x3 < 101) ∧
      inR ((M 17 i0 y5_30) - (M 17 i0 x3)) ∧
      inR (((M 13 (7 * 1 + x1) x2) - y7_74) - ((M 17 i0 y5_30) - (M 17 i0 x3))) ∧
      K (some (((M 13 (7 * 1 + x1) x2) - y7_74) - ((M 17 i0 y5_30) - (M 17 i0 x3)))) M))) : V κ 8 M 0 [some (.inr (14, i0)), some (.inl x1), some (.inl x2), some (.inl x3), none, none, none, none] [] K := by
  refine v_aload_n C dX6_gainOf_0 rfl ?_
  refine v_get C dX6_gainOf_1 flX6_21 rfl (by decide) (by decide) (w := .inr (5, 1)) rfl ?_
  refine v_get C dX6_gainOf_4 flX6_60 rfl (by decide) (by decide) (w := .inr (10, 1)) rfl ?_
  refine v_iload_n C dX6_gainOf_7 rfl ?_
  refine v_aald C dX6_gainOf_8 h.1.1 h.1.2 ?_
  replace h := h.2
  refine v_astore C dX6_gainOf_9 (by decide) (Nat.le_of_ble_eq_true rfl) (lv' := [some (.inr (14, i0)), some (.inl x1), some (.inl x2), some (.inl x3), some (.inr (11, 7 * 1 + x1)), none, none, none]) rfl ?_
  refine v_iload_n C dX6_gainOf_11 rfl ?_
  refine v_aload C dX6_gainOf_12 rfl ?_
  refine v_get C dX6_gainOf_14 flX6_64 rfl (by decide) (by decide) (w := .inr (12, 7 * 1 + x1)) rfl ?_
  refine v_iload_n C dX6_gainOf_17 rfl ?_
  refine v_iald C dX6_gainOf_18 rfl h.1.1 h.1.2 ?_
  replace h := h.2
  refine v_iadd C dX6_gainOf_19 h.1 ?_
  replace h := h.2
  refine v_aload_n C dX6_gainOf_20 rfl ?_
  refine v_get C dX6_gainOf_21 flX6_21 rfl (by decide) (by decide) (w := .inr (5, 1)) rfl ?_
  refine v_get C dX6_gainOf_24 flX6_46 rfl (by decide) (by decide) (w := .inl (M 5 1 0)) rfl ?_
  refine v_min C dX6_gainOf_27 ivX6_72 (Nat.le_of_ble_eq_true rfl) ⟨by decide, by decide⟩ ?_
  refine v_nm (fun y5_30 ey5_30 => ?_)
  replace h := h y5_30 ey5_30
  refine v_istore C dX6_gainOf_30 (by decide) (Nat.le_of_ble_eq_true rfl) (lv' := [some (.inr (14, i0)), some (.inl x1), some (.inl x2), some (.inl x3), some (.inr (11, 7 * 1 + x1)), some (.inl y5_30), none, none]) rfl ?_
  refine v_iload_n C dX6_gainOf_32 rfl ?_
  refine v_aload C dX6_gainOf_33 rfl ?_
  refine v_get C dX6_gainOf_35 flX6_78 rfl (by decide) (by decide) (w := .inl (M 11 (7 * 1 + x1) 0)) rfl ?_
  refine v_isub C dX6_gainOf_38 h.1 ?_
  replace h := h.2
  refine v_nm (fun y6_39 ey6_39 => ?_)
  replace h := h y6_39 ey6_39
  refine v_istore C dX6_gainOf_39 (by decide) (Nat.le_of_ble_eq_true rfl) (lv' := [some (.inr (14, i0)), some (.inl x1), some (.inl x2), some (.inl x3), some (.inr (11, 7 * 1 + x1)), some (.inl y5_30), some (.inl y6_39), none]) rfl ?_
  refine v_iload C dX6_gainOf_41 rfl ?_
  refine v_if C dX6_gainOf_43 (tgt := 62) (by decide) (P := 0 ≤ y6_39) rfl (fun c43 => ?_) (fun c43 => ?_)
  · replace h := h.1 c43
    refine v_iload C dX6_gainOf_62 rfl ?_
    refine v_aload_n C dX6_gainOf_64 rfl ?_
    refine v_get C dX6_gainOf_65 flX6_21 rfl (by decide) (by decide) (w := .inr (5, 1)) rfl ?_
    refine v_get C dX6_gainOf_68 flX6_57 rfl (by decide) (by decide) (w := .inr (6, 1)) rfl ?_
    refine v_iconst C dX6_gainOf_71 (by decide) ?_
    refine v_iald C dX6_gainOf_72 rfl (by decide) (by decide) ?_
    refine v_imul C dX6_gainOf_73 h.1 ?_
    replace h := h.2
    refine v_nm (fun y7_74 ey7_74 => ?_)
    replace h := h y7_74 ey7_74
    refine v_istore C dX6_gainOf_74 (by decide) (Nat.le_of_ble_eq_true rfl) (lv' := [some (.inr (14, i0)), some (.inl x1), some (.inl x2), some (.inl x3), some (.inr (11, 7 * 1 + x1)), some (.inl y5_30), some (.inl y6_39), some (.inl y7_74)]) rfl ?_
    refine v_aload C dX6_gainOf_76 rfl ?_
    refine v_get C dX6_gainOf_78 flX6_81 rfl (by decide) (by decide) (w := .inr (13, 7 * 1 + x1)) rfl ?_
    refine v_iload_n C dX6_gainOf_81 rfl ?_
    refine v_iald C dX6_gainOf_82 rfl h.1.1 h.1.2 ?_
    replace h := h.2
    refine v_iload C dX6_gainOf_83 rfl ?_
    refine v_isub C dX6_gainOf_85 h.1 ?_
    replace h := h.2
    refine v_aload_n C dX6_gainOf_86 rfl ?_
    refine v_get C dX6_gainOf_87 flX6_18 rfl (by decide) (by decide) (w := .inr (17, i0)) rfl ?_
    refine v_iload C dX6_gainOf_90 rfl ?_
    refine v_iald C dX6_gainOf_92 rfl h.1.1 h.1.2 ?_
    replace h := h.2
    refine v_aload_n C dX6_gainOf_93 rfl ?_
    refine v_get C dX6_gainOf_94 flX6_18 rfl (by decide) (by decide) (w := .inr (17, i0)) rfl ?_
    refine v_iload_n C dX6_gainOf_97 rfl ?_
    refine v_iald C dX6_gainOf_98 rfl h.1.1 h.1.2 ?_
    replace h := h.2
    refine v_isub C dX6_gainOf_99 h.1 ?_
    replace h := h.2
    refine v_isub C dX6_gainOf_100 h.1 ?_
    replace h := h.2
    exact v_iret C dX6_gainOf_101 h
  · replace h := h.2 c43
    refine v_iload C dX6_gainOf_46 rfl ?_
    refine v_ineg C dX6_gainOf_48 h.1 ?_
    replace h := h.2
    refine v_aload_n C dX6_gainOf_49 rfl ?_
    refine v_get C dX6_gainOf_50 flX6_21 rfl (by decide) (by decide) (w := .inr (5, 1)) rfl ?_
    refine v_get C dX6_gainOf_53 flX6_57 rfl (by decide) (by decide) (w := .inr (6, 1)) rfl ?_
    refine v_iconst C dX6_gainOf_56 (by decide) ?_
    refine v_iald C dX6_gainOf_57 rfl (by decide) (by decide) ?_
    refine v_imul C dX6_gainOf_58 h.1 ?_
    replace h := h.2
    refine v_goto C dX6_gainOf_59 (tgt := 74) (by decide) ?_
    refine v_nm (fun y7_74 ey7_74 => ?_)
    replace h := h y7_74 ey7_74
    refine v_istore C dX6_gainOf_74 (by decide) (Nat.le_of_ble_eq_true rfl) (lv' := [some (.inr (14, i0)), some (.inl x1), some (.inl x2), some (.inl x3), some (.inr (11, 7 * 1 + x1)), some (.inl y5_30), some (.inl y6_39), some (.inl y7_74)]) rfl ?_
    refine v_aload C dX6_gainOf_76 rfl ?_
    refine v_get C dX6_gainOf_78 flX6_81 rfl (by decide) (by decide) (w := .inr (13, 7 * 1 + x1)) rfl ?_
    refine v_iload_n C dX6_gainOf_81 rfl ?_
    refine v_iald C dX6_gainOf_82 rfl h.1.1 h.1.2 ?_
    replace h := h.2
    refine v_iload C dX6_gainOf_83 rfl ?_
    refine v_isub C dX6_gainOf_85 h.1 ?_
    replace h := h.2
    refine v_aload_n C dX6_gainOf_86 rfl ?_
    refine v_get C dX6_gainOf_87 flX6_18 rfl (by decide) (by decide) (w := .inr (17, i0)) rfl ?_
    refine v_iload C dX6_gainOf_90 rfl ?_
    refine v_iald C dX6_gainOf_92 rfl h.1.1 h.1.2 ?_
    replace h := h.2
    refine v_aload_n C dX6_gainOf_93 rfl ?_
    refine v_get C dX6_gainOf_94 flX6_18 rfl (by decide) (by decide) (w := .inr (17, i0)) rfl ?_
    refine v_iload_n C dX6_gainOf_97 rfl ?_
    refine v_iald C dX6_gainOf_98 rfl h.1.1 h.1.2 ?_
    replace h := h.2
    refine v_isub C dX6_gainOf_99 h.1 ?_
    replace h := h.2
    refine v_isub C dX6_gainOf_100 h.1 ?_
    replace h := h.2
    exact v_iret C dX6_gainOf_101 h
abbrev spX6_gainOf (tr p v t : Int) (M : Mem) (K : Kont) : Prop := (WFf (cFilm M 1) ∧ TrB M tr ∧ (0 ≤ p ∧ p < M 5 1 7) ∧ (0 ≤ v ∧ v < M 11 (7 * 1 + p) 4) ∧ (0 ≤ t ∧ t < M 5 1 0)) ∧
  K (some (gainW (cFilm M 1) (M 17 tr) p v t)) M
theorem ctX6_gainOf : CtX6_gainOf spX6_gainOf := by
  refine ct_of (by decide) dmC (fun _ => Nat.le_of_ble_eq_true rfl) ?_
  intro κ a M K C oM h
  obtain ⟨tr, p, v, t⟩ := a
  refine sgX6_gainOf_0 C tr p v t ?_
  clear C
  dsimp only [spX6_gainOf] at h
  obtain ⟨⟨hf, hb, hp, hv, ht⟩, hk⟩ := h
  have hw := wf_pv hf hp.1 hp.2 hv.1 hv.2
  have hs := shift_rng hf hp.1 hp.2 ht.1 ht.2
  have hb1 := hb t
  have hb2 := hb (min (t + M 12 (7 * 1 + p) v) (M 5 1 0))
  simp only [cFilm, gainW] at hw hk hs hb2
  replace hb1 := hb1 (by omega) (by omega)
  replace hb2 := hb2 (by omega) (by omega)
  clear hf oM hb
  simp only [shiftW, cFilm] at hs hk
  by_cases c : t - M 11 (7 * 1 + p) 0 < 0
  · rw [if_pos c] at hs hk
    repeat' (first | refine ⟨?_, ?_⟩ | intro _)
    all_goals first | omega | (subst_vars; first | omega | exact hk)
  · rw [if_neg c] at hs hk
    repeat' (first | refine ⟨?_, ?_⟩ | intro _)
    all_goals first | omega | (subst_vars; first | omega | exact hk)
/-! ===== GapTellings$Track.soundCost ===== -/
abbrev rmX6_soundCost : Room := { frames := 0, cells := 0, slots := 0, locals := 0 }
abbrev argX6_soundCost (a : Int × Int) : List PV := [.inr (14, a.1), .inl a.2]
abbrev CtX6_soundCost (sp : Int → Int → Mem → Kont → Prop) : Prop := Ct yX6_soundCost cX6_soundCost 2 (some .int) rmX6_soundCost domC argX6_soundCost (fun a => sp a.1 a.2)
theorem dX6_soundCost_0 : decode cX6_soundCost 0 = .ok (.iload_n 1, 1) := by decide +kernel
theorem dX6_soundCost_1 : decode cX6_soundCost 1 = .ok (.iconst 2, 1) := by decide +kernel
theorem dX6_soundCost_2 : decode cX6_soundCost 2 = .ok (.iand, 1) := by decide +kernel
theorem dX6_soundCost_3 : decode cX6_soundCost 3 = .ok (.ifCond .eq 13, 3) := by decide +kernel
theorem dX6_soundCost_6 : decode cX6_soundCost 6 = .ok (.aload_n 0, 1) := by decide +kernel
theorem dX6_soundCost_7 : decode cX6_soundCost 7 = .ok (.getfield 21, 3) := by decide +kernel
theorem dX6_soundCost_10 : decode cX6_soundCost 10 = .ok (.getfield 57, 3) := by decide +kernel
theorem dX6_soundCost_13 : decode cX6_soundCost 13 = .ok (.iconst 2, 1) := by decide +kernel
theorem dX6_soundCost_14 : decode cX6_soundCost 14 = .ok (.iaload, 1) := by decide +kernel
theorem dX6_soundCost_15 : decode cX6_soundCost 15 = .ok (.ireturn, 1) := by decide +kernel
theorem dX6_soundCost_16 : decode cX6_soundCost 16 = .ok (.iload_n 1, 1) := by decide +kernel
theorem dX6_soundCost_17 : decode cX6_soundCost 17 = .ok (.iconst 4, 1) := by decide +kernel
theorem dX6_soundCost_18 : decode cX6_soundCost 18 = .ok (.iand, 1) := by decide +kernel
theorem dX6_soundCost_19 : decode cX6_soundCost 19 = .ok (.ifCond .eq 15, 3) := by decide +kernel
theorem dX6_soundCost_22 : decode cX6_soundCost 22 = .ok (.aload_n 0, 1) := by decide +kernel
theorem dX6_soundCost_23 : decode cX6_soundCost 23 = .ok (.getfield 21, 3) := by decide +kernel
theorem dX6_soundCost_26 : decode cX6_soundCost 26 = .ok (.getfield 57, 3) := by decide +kernel
theorem dX6_soundCost_29 : decode cX6_soundCost 29 = .ok (.iconst 3, 1) := by decide +kernel
theorem dX6_soundCost_30 : decode cX6_soundCost 30 = .ok (.iaload, 1) := by decide +kernel
theorem dX6_soundCost_31 : decode cX6_soundCost 31 = .ok (.goto 4, 3) := by decide +kernel
theorem dX6_soundCost_34 : decode cX6_soundCost 34 = .ok (.iconst 0, 1) := by decide +kernel
theorem dX6_soundCost_35 : decode cX6_soundCost 35 = .ok (.ireturn, 1) := by decide +kernel
set_option maxHeartbeats 4000000 in
set_option maxRecDepth 20000 in
theorem sgX6_soundCost_0 {κ : Kx} {K : Kont} {M : Mem} (C : Cx κ RX6 cX6_soundCost 2 (some .int) rmX6_soundCost domC) (i0 : Int) (x1 : Int)
    (h :
    (((bAnd x1 2) = 0 →
      (((bAnd x1 4) = 0 →
        K (some 0) M) ∧
       (¬ ((bAnd x1 4) = 0) →
        K (some (M 6 1 3)) M))) ∧
     (¬ ((bAnd x1 2) = 0) →
      K (some (M 6 1 2)) M))) : V κ 2 M 0 [some (.inr (14, i0)), some (.inl x1)] [] K := by
  refine v_iload_n C dX6_soundCost_0 rfl ?_
  refine v_iconst C dX6_soundCost_1 (by decide) ?_
  refine v_iand C dX6_soundCost_2 ?_
  refine v_if C dX6_soundCost_3 (tgt := 16) (by decide) (P := (bAnd x1 2) = 0) rfl (fun c3 => ?_) (fun c3 => ?_)
  · replace h := h.1 c3
    refine v_iload_n C dX6_soundCost_16 rfl ?_
    refine v_iconst C dX6_soundCost_17 (by decide) ?_
    refine v_iand C dX6_soundCost_18 ?_
    refine v_if C dX6_soundCost_19 (tgt := 34) (by decide) (P := (bAnd x1 4) = 0) rfl (fun c19 => ?_) (fun c19 => ?_)
    · replace h := h.1 c19
      refine v_iconst C dX6_soundCost_34 (by decide) ?_
      exact v_iret C dX6_soundCost_35 h
    · replace h := h.2 c19
      refine v_aload_n C dX6_soundCost_22 rfl ?_
      refine v_get C dX6_soundCost_23 flX6_21 rfl (by decide) (by decide) (w := .inr (5, 1)) rfl ?_
      refine v_get C dX6_soundCost_26 flX6_57 rfl (by decide) (by decide) (w := .inr (6, 1)) rfl ?_
      refine v_iconst C dX6_soundCost_29 (by decide) ?_
      refine v_iald C dX6_soundCost_30 rfl (by decide) (by decide) ?_
      refine v_goto C dX6_soundCost_31 (tgt := 35) (by decide) ?_
      exact v_iret C dX6_soundCost_35 h
  · replace h := h.2 c3
    refine v_aload_n C dX6_soundCost_6 rfl ?_
    refine v_get C dX6_soundCost_7 flX6_21 rfl (by decide) (by decide) (w := .inr (5, 1)) rfl ?_
    refine v_get C dX6_soundCost_10 flX6_57 rfl (by decide) (by decide) (w := .inr (6, 1)) rfl ?_
    refine v_iconst C dX6_soundCost_13 (by decide) ?_
    refine v_iald C dX6_soundCost_14 rfl (by decide) (by decide) ?_
    exact v_iret C dX6_soundCost_15 h
abbrev spX6_soundCost (i t : Int) (M : Mem) (K : Kont) : Prop := K (some (if bAnd t 2 ≠ 0 then M 6 1 2 else if bAnd t 4 ≠ 0 then M 6 1 3 else 0)) M
theorem ctX6_soundCost : CtX6_soundCost spX6_soundCost := by
  refine ct_of (by decide) dmC (fun _ => Nat.le_of_ble_eq_true rfl) ?_
  intro κ a M K C oM h
  obtain ⟨i, t⟩ := a
  refine sgX6_soundCost_0 C i t ?_
  clear C
  dsimp only [spX6_soundCost] at h
  grind
