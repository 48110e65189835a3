/-! ===== GapTellings: by hand, and what is asked ===== -/
/-! ===== GapTellings.why ===== -/
abbrev rmX7_why : Room := { frames := 3, cells := 0, slots := 0, locals := 72 }
abbrev argX7_why (a : Int × Int × Int) : List PV := [.inr (0, 0), .inl a.1, .inl a.2.1, .inl a.2.2]
abbrev CtX7_why (sp : Int → Int → Int → Mem → Kont → Prop) : Prop := Ct yX7_why cX7_why 4 (some .int) rmX7_why domC argX7_why (fun a => sp a.1 a.2.1 a.2.2)
theorem dX7_why_0 : decode cX7_why 0 = .ok (.aload_n 0, 1) := by decide +kernel
theorem dX7_why_1 : decode cX7_why 1 = .ok (.iload_n 1, 1) := by decide +kernel
theorem dX7_why_2 : decode cX7_why 2 = .ok (.iload_n 2, 1) := by decide +kernel
theorem dX7_why_3 : decode cX7_why 3 = .ok (.invokevirtual 151, 3) := by decide +kernel
theorem dX7_why_6 : decode cX7_why 6 = .ok (.ifCond .eq 11, 3) := by decide +kernel
theorem dX7_why_9 : decode cX7_why 9 = .ok (.aload_n 0, 1) := by decide +kernel
theorem dX7_why_10 : decode cX7_why 10 = .ok (.iload_n 3, 1) := by decide +kernel
theorem dX7_why_11 : decode cX7_why 11 = .ok (.invokevirtual 155, 3) := by decide +kernel
theorem dX7_why_14 : decode cX7_why 14 = .ok (.ifCond .ne 5, 3) := by decide +kernel
theorem dX7_why_17 : decode cX7_why 17 = .ok (.iconst (-1), 1) := by decide +kernel
theorem dX7_why_18 : decode cX7_why 18 = .ok (.ireturn, 1) := by decide +kernel
theorem dX7_why_19 : decode cX7_why 19 = .ok (.aload_n 0, 1) := by decide +kernel
theorem dX7_why_20 : decode cX7_why 20 = .ok (.getfield 45, 3) := by decide +kernel
theorem dX7_why_23 : decode cX7_why 23 = .ok (.aload_n 0, 1) := by decide +kernel
theorem dX7_why_24 : decode cX7_why 24 = .ok (.getfield 35, 3) := by decide +kernel
theorem dX7_why_27 : decode cX7_why 27 = .ok (.iload_n 1, 1) := by decide +kernel
theorem dX7_why_28 : decode cX7_why 28 = .ok (.iload_n 2, 1) := by decide +kernel
theorem dX7_why_29 : decode cX7_why 29 = .ok (.iload_n 3, 1) := by decide +kernel
theorem dX7_why_30 : decode cX7_why 30 = .ok (.invokevirtual 158, 3) := by decide +kernel
theorem dX7_why_33 : decode cX7_why 33 = .ok (.ireturn, 1) := by decide +kernel
theorem ivX7_151 : IV RX7 151 yX7_hasVersion cX7_hasVersion 3 (some .boolean) 2 := ⟨(tb_mem (t_in3 (List.mem_of_getElem? (i := 106) (by decide +kernel))) (by decide +kernel)), (tb_mem (t_in3 (List.mem_of_getElem? (i := 108) (by decide +kernel))) (by decide +kernel)), (tb_sel (q := (⟨"GapTellings", "hasVersion", "(II)Z"⟩, 13)) (List.mem_of_getElem? (i := 4) (by decide +kernel)) (by decide +kernel)), (tb_mem (t_in1 (List.mem_of_getElem? (i := 1) (by decide +kernel))) (by decide +kernel)), (tb_mem (t_in3 (List.mem_of_getElem? (i := 109) (by decide +kernel))) (by decide +kernel)), ⟨by decide +kernel, by decide +kernel, by decide +kernel⟩⟩
theorem ivX7_155 : IV RX7 155 yX7_hasTick cX7_hasTick 2 (some .boolean) 1 := ⟨(tb_mem (t_in3 (List.mem_of_getElem? (i := 110) (by decide +kernel))) (by decide +kernel)), (tb_mem (t_in3 (List.mem_of_getElem? (i := 112) (by decide +kernel))) (by decide +kernel)), (tb_sel (q := (⟨"GapTellings", "hasTick", "(I)Z"⟩, 13)) (List.mem_of_getElem? (i := 5) (by decide +kernel)) (by decide +kernel)), (tb_mem (t_in1 (List.mem_of_getElem? (i := 1) (by decide +kernel))) (by decide +kernel)), (tb_mem (t_in3 (List.mem_of_getElem? (i := 113) (by decide +kernel))) (by decide +kernel)), ⟨by decide +kernel, by decide +kernel, by decide +kernel⟩⟩
theorem flX7_45 : FL RX7 45 7 7 := ⟨_, _, _, rfl, by decide, uwX7, Or.inl (tb_mem (t_in2 (List.mem_of_getElem? (i := 222) (by decide +kernel))) (by decide +kernel))⟩
theorem ivX7_158 : IV RX7 158 yX4_whyNot cX4_whyNot 6 (some .int) 4 := ⟨(tb_mem (t_in3 (List.mem_of_getElem? (i := 114) (by decide +kernel))) (by decide +kernel)), (tb_mem (t_in3 (List.mem_of_getElem? (i := 58) (by decide +kernel))) (by decide +kernel)), (tb_mem (t_in3 (List.mem_of_getElem? (i := 59) (by decide +kernel))) (by decide +kernel)), (tb_mem (t_in1 (List.mem_of_getElem? (i := 6) (by decide +kernel))) (by decide +kernel)), (tb_mem (t_in3 (List.mem_of_getElem? (i := 60) (by decide +kernel))) (by decide +kernel)), ⟨by decide +kernel, by decide +kernel, by decide +kernel⟩⟩
set_option maxHeartbeats 4000000 in
set_option maxRecDepth 20000 in
theorem sgX7_why_0 {κ : Kx} {K : Kont} {M : Mem} (C : Cx κ RX7 cX7_why 4 (some .int) rmX7_why domC) (x1 : Int) (x2 : Int) (x3 : Int)
    (h :
    spX7_hasVersion x1 x2 M (rI (fun r3 M3 =>
    ((r3 = 0 →
      K (some (-1)) M3) ∧
     (¬ (r3 = 0) →
      spX7_hasTick x3 M3 (rI (fun r11 M11 =>
      ((r11 ≠ 0 →
        spX4_whyNot 0 0 x1 x2 x3 M11 (rI (fun r30 M30 =>
        K (some r30) M30))) ∧
       (¬ (r11 ≠ 0) →
        K (some (-1)) M11))))))))) : V κ 4 M 0 [some (.inr (0, 0)), some (.inl x1), some (.inl x2), some (.inl x3)] [] K := by
  refine v_aload_n C dX7_why_0 rfl ?_
  refine v_iload_n C dX7_why_1 rfl ?_
  refine v_iload_n C dX7_why_2 rfl ?_
  refine v_invV C ctX7_hasVersion dX7_why_3 ivX7_151 ⟨by decide, by decide, rfl, rfl⟩ ((x1, x2) : Int × Int) (As := [.inl x1, .inl x2]) rfl rfl rfl (by decide) rfl (st := []) rfl (Nat.le_of_ble_eq_true rfl) h (fun o M3 oM3 io3 g3 => ?_)
  replace h := rI_out g3
  clear g3
  obtain ⟨r3, rfl, h⟩ := h
  refine v_push ?_
  refine v_if C dX7_why_6 (tgt := 17) (by decide) (P := r3 = 0) rfl (fun c6 => ?_) (fun c6 => ?_)
  · replace h := h.1 c6
    refine v_iconst C dX7_why_17 (by decide) ?_
    exact v_iret C dX7_why_18 h
  · replace h := h.2 c6
    refine v_aload_n C dX7_why_9 rfl ?_
    refine v_iload_n C dX7_why_10 rfl ?_
    refine v_invV C ctX7_hasTick dX7_why_11 ivX7_155 ⟨by decide, by decide, rfl, rfl⟩ (x3 : Int) (As := [.inl x3]) rfl rfl rfl (by decide) rfl (st := []) rfl (Nat.le_of_ble_eq_true rfl) h (fun o M11 oM11 io11 g11 => ?_)
    replace h := rI_out g11
    clear g11
    obtain ⟨r11, rfl, h⟩ := h
    refine v_push ?_
    refine v_if C dX7_why_14 (tgt := 19) (by decide) (P := r11 ≠ 0) rfl (fun c14 => ?_) (fun c14 => ?_)
    · replace h := h.1 c14
      refine v_aload_n C dX7_why_19 rfl ?_
      refine v_get C dX7_why_20 flX7_45 rfl (by decide) (by decide) (w := .inr (18, 0)) rfl ?_
      refine v_aload_n C dX7_why_23 rfl ?_
      refine v_get C dX7_why_24 flX7_35 rfl (by decide) (by decide) (w := .inr (14, 0)) rfl ?_
      refine v_iload_n C dX7_why_27 rfl ?_
      refine v_iload_n C dX7_why_28 rfl ?_
      refine v_iload_n C dX7_why_29 rfl ?_
      refine v_invV C ctX4_whyNot dX7_why_30 ivX7_158 ⟨by decide, by decide, rfl, rfl⟩ ((0, 0, x1, x2, x3) : Int × Int × Int × Int × Int) (As := [.inr (14, 0), .inl x1, .inl x2, .inl x3]) rfl rfl rfl (by decide) rfl (st := []) rfl (Nat.le_of_ble_eq_true rfl) h (fun o M30 oM30 io30 g30 => ?_)
      replace h := rI_out g30
      clear g30
      obtain ⟨r30, rfl, h⟩ := h
      refine v_push ?_
      exact v_iret C dX7_why_33 h
    · replace h := h.2 c14
      refine v_iconst C dX7_why_17 (by decide) ?_
      exact v_iret C dX7_why_18 h
abbrev tellK (F : Film) (p v t : Int) : Prop := hasV F p v ∧ 0 ≤ t ∧ t < F 0 0 0
noncomputable def whyA (F : Film) (ver sta : Int → Int) (p v t : Int) : Int := if tellK F p v t then whyW F (spb F) ver sta p v t else -1
abbrev spX7_why (p v t : Int) (M : Mem) (K : Kont) : Prop := InvC M ∧ K (some (whyA (cFilm M 1) (M 19 0) (M 20 0) p v t)) M
theorem ctX7_why : CtX7_why spX7_why := by
  refine ct_of (by decide) dmC (fun _ => Nat.le_of_ble_eq_true rfl) ?_
  intro κ a M K C oM h
  obtain ⟨p, v, t⟩ := a
  obtain ⟨hI, hk⟩ := h
  have hk : K (some (whyA (cFilm M 1) (M 19 0) (M 20 0) p v t)) M := hk
  have hf := hI.1.2.1
  have hP := hI.1.2.2.2.2.1
  have n3 := hf.2.2.2.1
  have e3 : cFilm M 1 3 0 0 = M 5 1 7 := rfl
  have e0 : cFilm M 1 0 0 0 = M 5 1 0 := rfl
  unfold whyA at hk
  have no : ¬ tellK (cFilm M 1) p v t → K (some (-1)) M := fun z => by rw [if_neg z] at hk; exact hk
  refine sgX7_why_0 C p v t ⟨by omega, fun c => no (fun z => if10n c z.1), fun c => ⟨fun c2 => ?_, fun c2 => no (fun z => if10n (by omega) z.2)⟩⟩
  have c1 := if10 c
  have c3 := if10 c2
  rw [if_pos ⟨c1, c3⟩, ← whyW_c hf FEq.rf hI.S hP PlEq.rf c1.1.1 c1.1.2 c1.2.1 c1.2.2 c3.1] at hk
  exact ⟨⟨hf, hP, c1.1, c1.2, c3⟩, hk⟩
/-! ===== GapTellings.place ===== -/
abbrev rmX7_place : Room := { frames := 3, cells := 0, slots := 0, locals := 72 }
abbrev argX7_place (a : Int × Int × Int) : List PV := [.inr (0, 0), .inl a.1, .inl a.2.1, .inl a.2.2]
abbrev CtX7_place (sp : Int → Int → Int → Mem → Kont → Prop) : Prop := Ct yX7_place cX7_place 4 (some .int) rmX7_place domC argX7_place (fun a => sp a.1 a.2.1 a.2.2)
theorem dX7_place_0 : decode cX7_place 0 = .ok (.aload_n 0, 1) := by decide +kernel
theorem dX7_place_1 : decode cX7_place 1 = .ok (.iload_n 1, 1) := by decide +kernel
theorem dX7_place_2 : decode cX7_place 2 = .ok (.iload_n 2, 1) := by decide +kernel
theorem dX7_place_3 : decode cX7_place 3 = .ok (.invokevirtual 151, 3) := by decide +kernel
theorem dX7_place_6 : decode cX7_place 6 = .ok (.ifCond .eq 11, 3) := by decide +kernel
theorem dX7_place_9 : decode cX7_place 9 = .ok (.aload_n 0, 1) := by decide +kernel
theorem dX7_place_10 : decode cX7_place 10 = .ok (.iload_n 3, 1) := by decide +kernel
theorem dX7_place_11 : decode cX7_place 11 = .ok (.invokevirtual 155, 3) := by decide +kernel
theorem dX7_place_14 : decode cX7_place 14 = .ok (.ifCond .ne 5, 3) := by decide +kernel
theorem dX7_place_17 : decode cX7_place 17 = .ok (.iconst (-1), 1) := by decide +kernel
theorem dX7_place_18 : decode cX7_place 18 = .ok (.ireturn, 1) := by decide +kernel
theorem dX7_place_19 : decode cX7_place 19 = .ok (.aload_n 0, 1) := by decide +kernel
theorem dX7_place_20 : decode cX7_place 20 = .ok (.getfield 45, 3) := by decide +kernel
theorem dX7_place_23 : decode cX7_place 23 = .ok (.aload_n 0, 1) := by decide +kernel
theorem dX7_place_24 : decode cX7_place 24 = .ok (.getfield 35, 3) := by decide +kernel
theorem dX7_place_27 : decode cX7_place 27 = .ok (.iload_n 1, 1) := by decide +kernel
theorem dX7_place_28 : decode cX7_place 28 = .ok (.iload_n 2, 1) := by decide +kernel
theorem dX7_place_29 : decode cX7_place 29 = .ok (.iload_n 3, 1) := by decide +kernel
theorem dX7_place_30 : decode cX7_place 30 = .ok (.invokevirtual 158, 3) := by decide +kernel
theorem dX7_place_33 : decode cX7_place 33 = .ok (.ifCond .eq 6, 3) := by decide +kernel
theorem dX7_place_36 : decode cX7_place 36 = .ok (.bipush (-2), 2) := by decide +kernel
theorem dX7_place_38 : decode cX7_place 38 = .ok (.ireturn, 1) := by decide +kernel
theorem dX7_place_39 : decode cX7_place 39 = .ok (.aload_n 0, 1) := by decide +kernel
theorem dX7_place_40 : decode cX7_place 40 = .ok (.getfield 45, 3) := by decide +kernel
theorem dX7_place_43 : decode cX7_place 43 = .ok (.iload_n 1, 1) := by decide +kernel
theorem dX7_place_44 : decode cX7_place 44 = .ok (.iload_n 2, 1) := by decide +kernel
theorem dX7_place_45 : decode cX7_place 45 = .ok (.iload_n 3, 1) := by decide +kernel
theorem dX7_place_46 : decode cX7_place 46 = .ok (.invokevirtual 162, 3) := by decide +kernel
theorem dX7_place_49 : decode cX7_place 49 = .ok (.aload_n 0, 1) := by decide +kernel
theorem dX7_place_50 : decode cX7_place 50 = .ok (.getfield 35, 3) := by decide +kernel
theorem dX7_place_53 : decode cX7_place 53 = .ok (.iload_n 1, 1) := by decide +kernel
theorem dX7_place_54 : decode cX7_place 54 = .ok (.iload_n 2, 1) := by decide +kernel
theorem dX7_place_55 : decode cX7_place 55 = .ok (.iload_n 3, 1) := by decide +kernel
theorem dX7_place_56 : decode cX7_place 56 = .ok (.invokevirtual 165, 3) := by decide +kernel
theorem dX7_place_59 : decode cX7_place 59 = .ok (.ldc 169, 2) := by decide +kernel
theorem dX7_place_61 : decode cX7_place 61 = .ok (.iadd, 1) := by decide +kernel
theorem dX7_place_62 : decode cX7_place 62 = .ok (.ireturn, 1) := by decide +kernel
theorem ivX7_162 : IV RX7 162 yX4_put cX4_put 4 none 3 := ⟨(tb_mem (t_in3 (List.mem_of_getElem? (i := 115) (by decide +kernel))) (by decide +kernel)), (tb_mem (t_in3 (List.mem_of_getElem? (i := 116) (by decide +kernel))) (by decide +kernel)), (tb_mem (t_in3 (List.mem_of_getElem? (i := 117) (by decide +kernel))) (by decide +kernel)), (tb_mem (t_in1 (List.mem_of_getElem? (i := 6) (by decide +kernel))) (by decide +kernel)), (tb_mem (t_in3 (List.mem_of_getElem? (i := 118) (by decide +kernel))) (by decide +kernel)), ⟨by decide +kernel, by decide +kernel, by decide +kernel⟩⟩
theorem ivX7_165 : IV RX7 165 yX6_gainOf cX6_gainOf 8 (some .int) 3 := ⟨(tb_mem (t_in3 (List.mem_of_getElem? (i := 119) (by decide +kernel))) (by decide +kernel)), (tb_mem (t_in3 (List.mem_of_getElem? (i := 120) (by decide +kernel))) (by decide +kernel)), (tb_mem (t_in3 (List.mem_of_getElem? (i := 121) (by decide +kernel))) (by decide +kernel)), (tb_mem (t_in1 (List.mem_of_getElem? (i := 5) (by decide +kernel))) (by decide +kernel)), (tb_mem (t_in3 (List.mem_of_getElem? (i := 122) (by decide +kernel))) (by decide +kernel)), ⟨by decide +kernel, by decide +kernel, by decide +kernel⟩⟩
theorem csX7_169 : Cond.constant RX7 169 (Int32.ofInt (100000)) ∈ tb := (tb_mem (t_in3 (List.mem_of_getElem? (i := 124) (by decide +kernel))) (by decide +kernel))
set_option maxHeartbeats 4000000 in
set_option maxRecDepth 20000 in
theorem sgX7_place_0 {κ : Kx} {K : Kont} {M : Mem} (C : Cx κ RX7 cX7_place 4 (some .int) rmX7_place domC) (x1 : Int) (x2 : Int) (x3 : Int)
    (h :
    spX7_hasVersion x1 x2 M (rI (fun r3 M3 =>
    ((r3 = 0 →
      K (some (-1)) M3) ∧
     (¬ (r3 = 0) →
      spX7_hasTick x3 M3 (rI (fun r11 M11 =>
      ((r11 ≠ 0 →
        spX4_whyNot 0 0 x1 x2 x3 M11 (rI (fun r30 M30 =>
        ((r30 = 0 →
          spX4_put 0 x1 x2 x3 M30 (rV (fun M46 =>
          spX6_gainOf 0 x1 x2 x3 M46 (rI (fun r56 M56 =>
          inR (r56 + 100000) ∧
          K (some (r56 + 100000)) M56))))) ∧
         (¬ (r30 = 0) →
          K (some (-2)) M30))))) ∧
       (¬ (r11 ≠ 0) →
        K (some (-1)) M11))))))))) : V κ 4 M 0 [some (.inr (0, 0)), some (.inl x1), some (.inl x2), some (.inl x3)] [] K := by
  refine v_aload_n C dX7_place_0 rfl ?_
  refine v_iload_n C dX7_place_1 rfl ?_
  refine v_iload_n C dX7_place_2 rfl ?_
  refine v_invV C ctX7_hasVersion dX7_place_3 ivX7_151 ⟨by decide, by decide, rfl, rfl⟩ ((x1, x2) : Int × Int) (As := [.inl x1, .inl x2]) rfl rfl rfl (by decide) rfl (st := []) rfl (Nat.le_of_ble_eq_true rfl) h (fun o M3 oM3 io3 g3 => ?_)
  replace h := rI_out g3
  clear g3
  obtain ⟨r3, rfl, h⟩ := h
  refine v_push ?_
  refine v_if C dX7_place_6 (tgt := 17) (by decide) (P := r3 = 0) rfl (fun c6 => ?_) (fun c6 => ?_)
  · replace h := h.1 c6
    refine v_iconst C dX7_place_17 (by decide) ?_
    exact v_iret C dX7_place_18 h
  · replace h := h.2 c6
    refine v_aload_n C dX7_place_9 rfl ?_
    refine v_iload_n C dX7_place_10 rfl ?_
    refine v_invV C ctX7_hasTick dX7_place_11 ivX7_155 ⟨by decide, by decide, rfl, rfl⟩ (x3 : Int) (As := [.inl x3]) rfl rfl rfl (by decide) rfl (st := []) rfl (Nat.le_of_ble_eq_true rfl) h (fun o M11 oM11 io11 g11 => ?_)
    replace h := rI_out g11
    clear g11
    obtain ⟨r11, rfl, h⟩ := h
    refine v_push ?_
    refine v_if C dX7_place_14 (tgt := 19) (by decide) (P := r11 ≠ 0) rfl (fun c14 => ?_) (fun c14 => ?_)
    · replace h := h.1 c14
      refine v_aload_n C dX7_place_19 rfl ?_
      refine v_get C dX7_place_20 flX7_45 rfl (by decide) (by decide) (w := .inr (18, 0)) rfl ?_
      refine v_aload_n C dX7_place_23 rfl ?_
      refine v_get C dX7_place_24 flX7_35 rfl (by decide) (by decide) (w := .inr (14, 0)) rfl ?_
      refine v_iload_n C dX7_place_27 rfl ?_
      refine v_iload_n C dX7_place_28 rfl ?_
      refine v_iload_n C dX7_place_29 rfl ?_
      refine v_invV C ctX4_whyNot dX7_place_30 ivX7_158 ⟨by decide, by decide, rfl, rfl⟩ ((0, 0, x1, x2, x3) : Int × Int × Int × Int × Int) (As := [.inr (14, 0), .inl x1, .inl x2, .inl x3]) rfl rfl rfl (by decide) rfl (st := []) rfl (Nat.le_of_ble_eq_true rfl) h (fun o M30 oM30 io30 g30 => ?_)
      replace h := rI_out g30
      clear g30
      obtain ⟨r30, rfl, h⟩ := h
      refine v_push ?_
      refine v_if C dX7_place_33 (tgt := 39) (by decide) (P := r30 = 0) rfl (fun c33 => ?_) (fun c33 => ?_)
      · replace h := h.1 c33
        refine v_aload_n C dX7_place_39 rfl ?_
        refine v_get C dX7_place_40 flX7_45 rfl (by decide) (by decide) (w := .inr (18, 0)) rfl ?_
        refine v_iload_n C dX7_place_43 rfl ?_
        refine v_iload_n C dX7_place_44 rfl ?_
        refine v_iload_n C dX7_place_45 rfl ?_
        refine v_invV C ctX4_put dX7_place_46 ivX7_162 ⟨by decide, by decide, rfl, rfl⟩ ((0, x1, x2, x3) : Int × Int × Int × Int) (As := [.inl x1, .inl x2, .inl x3]) rfl rfl rfl (by decide) rfl (st := []) rfl (Nat.le_of_ble_eq_true rfl) h (fun o M46 oM46 io46 g46 => ?_)
        replace h := rV_out g46
        clear g46
        obtain ⟨rfl, h⟩ := h
        refine v_push0 ?_
        refine v_aload_n C dX7_place_49 rfl ?_
        refine v_get C dX7_place_50 flX7_35 rfl (by decide) (by decide) (w := .inr (14, 0)) rfl ?_
        refine v_iload_n C dX7_place_53 rfl ?_
        refine v_iload_n C dX7_place_54 rfl ?_
        refine v_iload_n C dX7_place_55 rfl ?_
        refine v_invV C ctX6_gainOf dX7_place_56 ivX7_165 ⟨by decide, by decide, rfl, rfl⟩ ((0, x1, x2, x3) : Int × Int × Int × Int) (As := [.inl x1, .inl x2, .inl x3]) rfl rfl rfl (by decide) rfl (st := []) rfl (Nat.le_of_ble_eq_true rfl) h (fun o M56 oM56 io56 g56 => ?_)
        replace h := rI_out g56
        clear g56
        obtain ⟨r56, rfl, h⟩ := h
        refine v_push ?_
        refine v_ldc C dX7_place_59 csX7_169 (by decide) ?_
        refine v_iadd C dX7_place_61 h.1 ?_
        replace h := h.2
        exact v_iret C dX7_place_62 h
      · replace h := h.2 c33
        refine v_bipush C dX7_place_36 (by decide) (by decide) ?_
        exact v_iret C dX7_place_38 h
    · replace h := h.2 c14
      refine v_iconst C dX7_place_17 (by decide) ?_
      exact v_iret C dX7_place_18 h
abbrev spX7_place (p v t : Int) (M : Mem) (K : Kont) : Prop := InvC M ∧ (¬ tellK (cFilm M 1) p v t → K (some (-1)) M) ∧ (tellK (cFilm M 1) p v t → whyW (cFilm M 1) (spb (cFilm M 1)) (M 19 0) (M 20 0) p v t ≠ 0 → K (some (-2)) M) ∧
  (tellK (cFilm M 1) p v t → whyW (cFilm M 1) (spb (cFilm M 1)) (M 19 0) (M 20 0) p v t = 0 → ∀ M', InvC M' → M' 0 0 1 = M 0 0 1 → M' 1 0 = M 1 0 → cFilm M' 1 = cFilm M 1 → Up M M' → M' 19 0 = setP (M 19 0) p v → M' 20 0 = setP (M 20 0) p t → K (some (gainW (cFilm M 1) (csb (cFilm M 1)) p v t + 100000)) M')
theorem InvC_put {M : Mem} (h : InvC M) {p v t : Int} (hP : PlV (cFilm M 1) (setP (M 19 0) p v) (setP (M 20 0) p t)) : InvC (up3 (up3 M 19 0 p v) 20 0 p t) := by
  have hA := AgP.up M 0 p v t
  have g : ∀ r i, ¬ ((r = 19 ∨ r = 20) ∧ i = 0) → up3 (up3 M 19 0 p v) 20 0 p t r i = M r i := hA
  have hf := hA.film 1
  obtain ⟨⟨a1, a2, a3, a4, a5⟩, b1, b2, b3⟩ := h
  refine ⟨⟨⟨by rw [g 0 0 (by omega)]; exact a1.1, by rw [g 1 0 (by omega)]; exact a1.2⟩, by rw [hf]; exact a2, ⟨fun u x y => by rw [g 16 0 (by omega), g 17 0 (by omega)]; exact a3.1 u x y, fun u x y => by rw [g 16 1 (by omega), g 17 1 (by omega)]; exact a3.2 u x y⟩, ⟨by rw [g 16 0 (by omega)]; exact a4.1, by rw [g 17 0 (by omega)]; exact a4.2.1, by rw [g 16 1 (by omega)]; exact a4.2.2.1, by rw [g 17 1 (by omega)]; exact a4.2.2.2⟩, by rw [hf, put_19, put_20]; exact hP⟩, ?_, ?_, ?_⟩
  · rw [hf]
    exact ⟨fun u x y => by rw [g 15 0 (by omega)]; exact b1.1 u x y, fun u x y => by rw [g 16 0 (by omega), g 17 0 (by omega)]; exact b1.2 u x y⟩
  · rw [hf, g 0 0 (by omega), g 19 1 (by omega), g 20 1 (by omega)]
    exact b2
  · rw [hf, g 23 0 (by omega), g 19 2 (by omega), g 20 2 (by omega)]
    exact b3
theorem ctX7_place : CtX7_place spX7_place := by
  refine ct_of (by decide) dmC (fun _ => Nat.le_of_ble_eq_true rfl) ?_
  intro κ a M K C oM h
  obtain ⟨p, v, t⟩ := a
  dsimp only [spX7_place] at h
  obtain ⟨hI, k1, k2, k3⟩ := h
  have hf := hI.1.2.1
  have hb := hI.1.2.2.1.1
  have hP := hI.1.2.2.2.2.1
  have n3 := hf.2.2.2.1
  have e3 : cFilm M 1 3 0 0 = M 5 1 7 := rfl
  have e0 : cFilm M 1 0 0 0 = M 5 1 0 := rfl
  refine sgX7_place_0 C p v t ⟨by omega, fun c => k1 (fun z => if10n c z.1), fun c => ⟨fun c2 => ?_, fun c2 => k1 (fun z => if10n (by omega) z.2)⟩⟩
  have c1 := if10 c
  have c3 := if10 c2
  have tk : tellK (cFilm M 1) p v t := ⟨c1, c3⟩
  have hw := whyW_c hf FEq.rf hI.S hP PlEq.rf c1.1.1 c1.1.2 c1.2.1 c1.2.2 c3.1
  refine ⟨⟨hf, hP, c1.1, c1.2, c3⟩, fun c4 => ?_, fun c4 => ?_⟩
  · have c4' : whyW (cFilm M 1) (M 16 0) (M 19 0) (M 20 0) p v t = 0 := c4
    have oe := own_end (why_own c4')
    rw [hw] at c4'
    have hA := AgP.up M 0 p v t
    have g : ∀ r i, ¬ ((r = 19 ∨ r = 20) ∧ i = 0) → up3 (up3 M 19 0 p v) 20 0 p t r i = M r i := hA
    have hf2 := hA.film 1
    have hg := gain_rng hf hb c1.1.1 c1.1.2 c1.2.1 c1.2.2 c3.1 c3.2
    refine ⟨⟨c1.1.1, by omega⟩, ⟨by rw [hf2]; exact hf, fun u x y => by rw [g 16 0 (by omega), g 17 0 (by omega)]; exact hb u x y, by rw [g 5 1 (by omega)]; exact c1.1, by rw [g 11 _ (by omega)]; exact c1.2, by rw [g 5 1 (by omega)]; exact c3⟩, ?_⟩
    rw [hf2, g 17 0 (by omega)]
    refine ⟨by omega, ?_⟩
    have := k3 tk c4' _ (InvC_put hI ⟨PlK_put hP c1.1.2 c1.2 c3.1 oe.1, VP_put hf hP hI.1.2.2.2.2.2 c1.1.1 c1.1.2 c1.2.1 c4'⟩) (by rw [g 0 0 (by omega)]) (g 1 0 (by omega)) hf2 (fun r a => by funext i; exact g r i (by omega)) (put_19 M 0 p v t) (put_20 M 0 p v t)
    rw [← gainW_c hf FEq.rf hI.Q c1.1.1 c1.1.2 c1.2.1 c1.2.2 c3.1 c3.2] at this
    exact this
  · refine k2 tk ?_
    rw [← hw]
    exact c4
/-! ===== GapTellings.gain ===== -/
abbrev rmX7_gain : Room := { frames := 2, cells := 0, slots := 0, locals := 48 }
abbrev argX7_gain (a : Int × Int × Int) : List PV := [.inr (0, 0), .inl a.1, .inl a.2.1, .inl a.2.2]
abbrev CtX7_gain (sp : Int → Int → Int → Mem → Kont → Prop) : Prop := Ct yX7_gain cX7_gain 4 (some .int) rmX7_gain domC argX7_gain (fun a => sp a.1 a.2.1 a.2.2)
theorem dX7_gain_0 : decode cX7_gain 0 = .ok (.aload_n 0, 1) := by decide +kernel
theorem dX7_gain_1 : decode cX7_gain 1 = .ok (.iload_n 1, 1) := by decide +kernel
theorem dX7_gain_2 : decode cX7_gain 2 = .ok (.iload_n 2, 1) := by decide +kernel
theorem dX7_gain_3 : decode cX7_gain 3 = .ok (.invokevirtual 151, 3) := by decide +kernel
theorem dX7_gain_6 : decode cX7_gain 6 = .ok (.ifCond .eq 25, 3) := by decide +kernel
theorem dX7_gain_9 : decode cX7_gain 9 = .ok (.aload_n 0, 1) := by decide +kernel
theorem dX7_gain_10 : decode cX7_gain 10 = .ok (.iload_n 3, 1) := by decide +kernel
theorem dX7_gain_11 : decode cX7_gain 11 = .ok (.invokevirtual 155, 3) := by decide +kernel
theorem dX7_gain_14 : decode cX7_gain 14 = .ok (.ifCond .eq 17, 3) := by decide +kernel
theorem dX7_gain_17 : decode cX7_gain 17 = .ok (.aload_n 0, 1) := by decide +kernel
theorem dX7_gain_18 : decode cX7_gain 18 = .ok (.getfield 35, 3) := by decide +kernel
theorem dX7_gain_21 : decode cX7_gain 21 = .ok (.iload_n 1, 1) := by decide +kernel
theorem dX7_gain_22 : decode cX7_gain 22 = .ok (.iload_n 2, 1) := by decide +kernel
theorem dX7_gain_23 : decode cX7_gain 23 = .ok (.iload_n 3, 1) := by decide +kernel
theorem dX7_gain_24 : decode cX7_gain 24 = .ok (.invokevirtual 177, 3) := by decide +kernel
theorem dX7_gain_27 : decode cX7_gain 27 = .ok (.iconst 1, 1) := by decide +kernel
theorem dX7_gain_28 : decode cX7_gain 28 = .ok (.if_icmp .ne 5, 3) := by decide +kernel
theorem dX7_gain_31 : decode cX7_gain 31 = .ok (.iconst (-1), 1) := by decide +kernel
theorem dX7_gain_32 : decode cX7_gain 32 = .ok (.ireturn, 1) := by decide +kernel
theorem dX7_gain_33 : decode cX7_gain 33 = .ok (.aload_n 0, 1) := by decide +kernel
theorem dX7_gain_34 : decode cX7_gain 34 = .ok (.getfield 35, 3) := by decide +kernel
theorem dX7_gain_37 : decode cX7_gain 37 = .ok (.iload_n 1, 1) := by decide +kernel
theorem dX7_gain_38 : decode cX7_gain 38 = .ok (.iload_n 2, 1) := by decide +kernel
theorem dX7_gain_39 : decode cX7_gain 39 = .ok (.iload_n 3, 1) := by decide +kernel
theorem dX7_gain_40 : decode cX7_gain 40 = .ok (.invokevirtual 165, 3) := by decide +kernel
theorem dX7_gain_43 : decode cX7_gain 43 = .ok (.ldc 169, 2) := by decide +kernel
theorem dX7_gain_45 : decode cX7_gain 45 = .ok (.iadd, 1) := by decide +kernel
theorem dX7_gain_46 : decode cX7_gain 46 = .ok (.ireturn, 1) := by decide +kernel
theorem ivX7_177 : IV RX7 177 yX6_ownWhyNot cX6_ownWhyNot 6 (some .int) 3 := ⟨(tb_mem (t_in3 (List.mem_of_getElem? (i := 142) (by decide +kernel))) (by decide +kernel)), (tb_mem (t_in3 (List.mem_of_getElem? (i := 62) (by decide +kernel))) (by decide +kernel)), (tb_mem (t_in3 (List.mem_of_getElem? (i := 63) (by decide +kernel))) (by decide +kernel)), (tb_mem (t_in1 (List.mem_of_getElem? (i := 5) (by decide +kernel))) (by decide +kernel)), (tb_mem (t_in3 (List.mem_of_getElem? (i := 64) (by decide +kernel))) (by decide +kernel)), ⟨by decide +kernel, by decide +kernel, by decide +kernel⟩⟩
set_option maxHeartbeats 4000000 in
set_option maxRecDepth 20000 in
theorem sgX7_gain_0 {κ : Kx} {K : Kont} {M : Mem} (C : Cx κ RX7 cX7_gain 4 (some .int) rmX7_gain domC) (x1 : Int) (x2 : Int) (x3 : Int)
    (h :
    spX7_hasVersion x1 x2 M (rI (fun r3 M3 =>
    ((r3 = 0 →
      K (some (-1)) M3) ∧
     (¬ (r3 = 0) →
      spX7_hasTick x3 M3 (rI (fun r11 M11 =>
      ((r11 = 0 →
        K (some (-1)) M11) ∧
       (¬ (r11 = 0) →
        spX6_ownWhyNot 0 x1 x2 x3 M11 (rI (fun r24 M24 =>
        ((r24 ≠ 1 →
          spX6_gainOf 0 x1 x2 x3 M24 (rI (fun r40 M40 =>
          inR (r40 + 100000) ∧
          K (some (r40 + 100000)) M40))) ∧
         (¬ (r24 ≠ 1) →
          K (some (-1)) M24))))))))))))) : V κ 4 M 0 [some (.inr (0, 0)), some (.inl x1), some (.inl x2), some (.inl x3)] [] K := by
  refine v_aload_n C dX7_gain_0 rfl ?_
  refine v_iload_n C dX7_gain_1 rfl ?_
  refine v_iload_n C dX7_gain_2 rfl ?_
  refine v_invV C ctX7_hasVersion dX7_gain_3 ivX7_151 ⟨by decide, by decide, rfl, rfl⟩ ((x1, x2) : Int × Int) (As := [.inl x1, .inl x2]) rfl rfl rfl (by decide) rfl (st := []) rfl (Nat.le_of_ble_eq_true rfl) h (fun o M3 oM3 io3 g3 => ?_)
  replace h := rI_out g3
  clear g3
  obtain ⟨r3, rfl, h⟩ := h
  refine v_push ?_
  refine v_if C dX7_gain_6 (tgt := 31) (by decide) (P := r3 = 0) rfl (fun c6 => ?_) (fun c6 => ?_)
  · replace h := h.1 c6
    refine v_iconst C dX7_gain_31 (by decide) ?_
    exact v_iret C dX7_gain_32 h
  · replace h := h.2 c6
    refine v_aload_n C dX7_gain_9 rfl ?_
    refine v_iload_n C dX7_gain_10 rfl ?_
    refine v_invV C ctX7_hasTick dX7_gain_11 ivX7_155 ⟨by decide, by decide, rfl, rfl⟩ (x3 : Int) (As := [.inl x3]) rfl rfl rfl (by decide) rfl (st := []) rfl (Nat.le_of_ble_eq_true rfl) h (fun o M11 oM11 io11 g11 => ?_)
    replace h := rI_out g11
    clear g11
    obtain ⟨r11, rfl, h⟩ := h
    refine v_push ?_
    refine v_if C dX7_gain_14 (tgt := 31) (by decide) (P := r11 = 0) rfl (fun c14 => ?_) (fun c14 => ?_)
    · replace h := h.1 c14
      refine v_iconst C dX7_gain_31 (by decide) ?_
      exact v_iret C dX7_gain_32 h
    · replace h := h.2 c14
      refine v_aload_n C dX7_gain_17 rfl ?_
      refine v_get C dX7_gain_18 flX7_35 rfl (by decide) (by decide) (w := .inr (14, 0)) rfl ?_
      refine v_iload_n C dX7_gain_21 rfl ?_
      refine v_iload_n C dX7_gain_22 rfl ?_
      refine v_iload_n C dX7_gain_23 rfl ?_
      refine v_invV C ctX6_ownWhyNot dX7_gain_24 ivX7_177 ⟨by decide, by decide, rfl, rfl⟩ ((0, x1, x2, x3) : Int × Int × Int × Int) (As := [.inl x1, .inl x2, .inl x3]) rfl rfl rfl (by decide) rfl (st := []) rfl (Nat.le_of_ble_eq_true rfl) h (fun o M24 oM24 io24 g24 => ?_)
      replace h := rI_out g24
      clear g24
      obtain ⟨r24, rfl, h⟩ := h
      refine v_push ?_
      refine v_iconst C dX7_gain_27 (by decide) ?_
      refine v_icmp C dX7_gain_28 (tgt := 33) (by decide) (P := r24 ≠ 1) rfl (fun c28 => ?_) (fun c28 => ?_)
      · replace h := h.1 c28
        refine v_aload_n C dX7_gain_33 rfl ?_
        refine v_get C dX7_gain_34 flX7_35 rfl (by decide) (by decide) (w := .inr (14, 0)) rfl ?_
        refine v_iload_n C dX7_gain_37 rfl ?_
        refine v_iload_n C dX7_gain_38 rfl ?_
        refine v_iload_n C dX7_gain_39 rfl ?_
        refine v_invV C ctX6_gainOf dX7_gain_40 ivX7_165 ⟨by decide, by decide, rfl, rfl⟩ ((0, x1, x2, x3) : Int × Int × Int × Int) (As := [.inl x1, .inl x2, .inl x3]) rfl rfl rfl (by decide) rfl (st := []) rfl (Nat.le_of_ble_eq_true rfl) h (fun o M40 oM40 io40 g40 => ?_)
        replace h := rI_out g40
        clear g40
        obtain ⟨r40, rfl, h⟩ := h
        refine v_push ?_
        refine v_ldc C dX7_gain_43 csX7_169 (by decide) ?_
        refine v_iadd C dX7_gain_45 h.1 ?_
        replace h := h.2
        exact v_iret C dX7_gain_46 h
      · replace h := h.2 c28
        refine v_iconst C dX7_gain_31 (by decide) ?_
        exact v_iret C dX7_gain_32 h
def gainA (F : Film) (p v t : Int) : Int := if tellK F p v t ∧ t + F 13 p v ≤ F 0 0 0 then gainW F (csb F) p v t + 100000 else -1
abbrev spX7_gain (p v t : Int) (M : Mem) (K : Kont) : Prop := InvC M ∧ K (some (gainA (cFilm M 1) p v t)) M
theorem ctX7_gain : CtX7_gain spX7_gain := by
  refine ct_of (by decide) dmC (fun _ => Nat.le_of_ble_eq_true rfl) ?_
  intro κ a M K C oM h
  obtain ⟨p, v, t⟩ := a
  obtain ⟨hI, hk⟩ := h
  have hk : K (some (gainA (cFilm M 1) p v t)) M := hk
  have hf := hI.1.2.1
  have hb := hI.1.2.2.1.1
  have n3 := hf.2.2.2.1
  have e3 : cFilm M 1 3 0 0 = M 5 1 7 := rfl
  have e0 : cFilm M 1 0 0 0 = M 5 1 0 := rfl
  unfold gainA at hk
  have no : ¬ (tellK (cFilm M 1) p v t ∧ t + cFilm M 1 13 p v ≤ cFilm M 1 0 0 0) → K (some (-1)) M := fun z => by rw [if_neg z] at hk; exact hk
  refine sgX7_gain_0 C p v t ⟨by omega, fun c => no (fun z => if10n c z.1.1), fun c => ⟨fun c2 => no (fun z => if10n c2 z.1.2), fun c2 => ?_⟩⟩
  have c1 := if10 c
  have c3 := if10 c2
  have hg := gain_rng hf hb c1.1.1 c1.1.2 c1.2.1 c1.2.2 c3.1 c3.2
  refine ⟨⟨hf, c1.1, c1.2, c3⟩, fun c4 => ⟨⟨hf, hb, c1.1, c1.2, c3⟩, by omega, ?_⟩, fun c4 => no (fun z => ?_)⟩
  · have c5 : t + cFilm M 1 13 p v ≤ cFilm M 1 0 0 0 := by
      rcases Int.lt_or_le (cFilm M 1 0 0 0) (t + cFilm M 1 13 p v) with q | q
      · exfalso
        apply c4
        unfold ownW
        rw [if_pos q]
      · exact q
    rw [if_pos ⟨⟨c1, c3⟩, c5⟩, ← gainW_c hf FEq.rf hI.Q c1.1.1 c1.1.2 c1.2.1 c1.2.2 c3.1 c3.2] at hk
    exact hk
  · have c5 : ownW (cFilm M 1) (M 16 0) p v t = 1 := by omega
    unfold ownW at c5
    have z2 := z.2
    rw [if_neg (by omega)] at c5
    split at c5
    · omega
    · split at c5 <;> omega
/-! ===== GapTellings.value ===== -/
abbrev rmX7_value : Room := { frames := 3, cells := 0, slots := 0, locals := 71 }
abbrev argX7_value (a : Unit) : List PV := [.inr (0, 0)]
abbrev CtX7_value (sp : Mem → Kont → Prop) : Prop := Ct yX7_value cX7_value 1 (some .int) rmX7_value domC argX7_value (fun _ => sp)
theorem dX7_value_0 : decode cX7_value 0 = .ok (.aload_n 0, 1) := by decide +kernel
theorem dX7_value_1 : decode cX7_value 1 = .ok (.getfield 45, 3) := by decide +kernel
theorem dX7_value_4 : decode cX7_value 4 = .ok (.aload_n 0, 1) := by decide +kernel
theorem dX7_value_5 : decode cX7_value 5 = .ok (.getfield 35, 3) := by decide +kernel
theorem dX7_value_8 : decode cX7_value 8 = .ok (.invokevirtual 180, 3) := by decide +kernel
theorem dX7_value_11 : decode cX7_value 11 = .ok (.ldc 169, 2) := by decide +kernel
theorem dX7_value_13 : decode cX7_value 13 = .ok (.iadd, 1) := by decide +kernel
theorem dX7_value_14 : decode cX7_value 14 = .ok (.ireturn, 1) := by decide +kernel
theorem ivX7_180 : IV RX7 180 yX4_valueOn cX4_valueOn 4 (some .int) 1 := ⟨(tb_mem (t_in3 (List.mem_of_getElem? (i := 147) (by decide +kernel))) (by decide +kernel)), (tb_mem (t_in3 (List.mem_of_getElem? (i := 148) (by decide +kernel))) (by decide +kernel)), (tb_mem (t_in3 (List.mem_of_getElem? (i := 149) (by decide +kernel))) (by decide +kernel)), (tb_mem (t_in1 (List.mem_of_getElem? (i := 6) (by decide +kernel))) (by decide +kernel)), (tb_mem (t_in3 (List.mem_of_getElem? (i := 150) (by decide +kernel))) (by decide +kernel)), ⟨by decide +kernel, by decide +kernel, by decide +kernel⟩⟩
set_option maxHeartbeats 4000000 in
set_option maxRecDepth 20000 in
theorem sgX7_value_0 {κ : Kx} {K : Kont} {M : Mem} (C : Cx κ RX7 cX7_value 1 (some .int) rmX7_value domC) 
    (h :
    spX4_valueOn 0 0 M (rI (fun r8 M8 =>
    inR (r8 + 100000) ∧
    K (some (r8 + 100000)) M8))) : V κ 1 M 0 [some (.inr (0, 0))] [] K := by
  refine v_aload_n C dX7_value_0 rfl ?_
  refine v_get C dX7_value_1 flX7_45 rfl (by decide) (by decide) (w := .inr (18, 0)) rfl ?_
  refine v_aload_n C dX7_value_4 rfl ?_
  refine v_get C dX7_value_5 flX7_35 rfl (by decide) (by decide) (w := .inr (14, 0)) rfl ?_
  refine v_invV C ctX4_valueOn dX7_value_8 ivX7_180 ⟨by decide, by decide, rfl, rfl⟩ ((0, 0) : Int × Int) (As := [.inr (14, 0)]) rfl rfl rfl (by decide) rfl (st := []) rfl (Nat.le_of_ble_eq_true rfl) h (fun o M8 oM8 io8 g8 => ?_)
  replace h := rI_out g8
  clear g8
  obtain ⟨r8, rfl, h⟩ := h
  refine v_push ?_
  refine v_ldc C dX7_value_11 csX7_169 (by decide) ?_
  refine v_iadd C dX7_value_13 h.1 ?_
  replace h := h.2
  exact v_iret C dX7_value_14 h
def valA (F : Film) (ver sta : Int → Int) : Int := vaN F (csb F) ver sta (F 3 0 0).toNat + 100000
abbrev spX7_value (M : Mem) (K : Kont) : Prop := InvC M ∧ K (some (valA (cFilm M 1) (M 19 0) (M 20 0))) M
theorem ctX7_value : CtX7_value spX7_value := by
  refine ct_of (by decide) dmC (fun _ => Nat.le_of_ble_eq_true rfl) ?_
  intro κ a M K C oM h
  obtain ⟨hI, hk⟩ := h
  have hf := hI.1.2.1
  have hb := hI.1.2.2.1.1
  have hP := hI.1.2.2.2.2.1
  have n3 := hf.2.2.2.1
  have e3 : cFilm M 1 3 0 0 = M 5 1 7 := rfl
  have hv := vaN_rng hf hb hP (M 5 1 7).toNat (by omega)
  unfold valA at hk
  rw [← vaN_c hf FEq.rf hI.Q hP PlEq.rf _ (by omega)] at hk
  exact sgX7_value_0 C ⟨⟨hf, hb, hP⟩, by omega, hk⟩
/-! ===== GapTellings.adopt ===== -/
abbrev rmX7_adopt : Room := { frames := 5, cells := 0, slots := 0, locals := 128 }
abbrev argX7_adopt (a : Unit) : List PV := [.inr (0, 0)]
abbrev CtX7_adopt (sp : Mem → Kont → Prop) : Prop := Ct yX7_adopt cX7_adopt 1 (some .int) rmX7_adopt domC argX7_adopt (fun _ => sp)
theorem dX7_adopt_0 : decode cX7_adopt 0 = .ok (.aload_n 0, 1) := by decide +kernel
theorem dX7_adopt_1 : decode cX7_adopt 1 = .ok (.invokevirtual 184, 3) := by decide +kernel
theorem dX7_adopt_4 : decode cX7_adopt 4 = .ok (.aload_n 0, 1) := by decide +kernel
theorem dX7_adopt_5 : decode cX7_adopt 5 = .ok (.getfield 45, 3) := by decide +kernel
theorem dX7_adopt_8 : decode cX7_adopt 8 = .ok (.aload_n 0, 1) := by decide +kernel
theorem dX7_adopt_9 : decode cX7_adopt 9 = .ok (.getfield 56, 3) := by decide +kernel
theorem dX7_adopt_12 : decode cX7_adopt 12 = .ok (.invokevirtual 187, 3) := by decide +kernel
theorem dX7_adopt_15 : decode cX7_adopt 15 = .ok (.aload_n 0, 1) := by decide +kernel
theorem dX7_adopt_16 : decode cX7_adopt 16 = .ok (.getfield 45, 3) := by decide +kernel
theorem dX7_adopt_19 : decode cX7_adopt 19 = .ok (.invokevirtual 191, 3) := by decide +kernel
theorem dX7_adopt_22 : decode cX7_adopt 22 = .ok (.ireturn, 1) := by decide +kernel
theorem ivX7_184 : IV RX7 184 yX7_findBest cX7_findBest 1 none 0 := ⟨(tb_mem (t_in3 (List.mem_of_getElem? (i := 156) (by decide +kernel))) (by decide +kernel)), (tb_mem (t_in3 (List.mem_of_getElem? (i := 158) (by decide +kernel))) (by decide +kernel)), (tb_sel (q := (⟨"GapTellings", "findBest", "()V"⟩, 13)) (List.mem_of_getElem? (i := 6) (by decide +kernel)) (by decide +kernel)), (tb_mem (t_in1 (List.mem_of_getElem? (i := 1) (by decide +kernel))) (by decide +kernel)), (tb_mem (t_in3 (List.mem_of_getElem? (i := 159) (by decide +kernel))) (by decide +kernel)), ⟨by decide +kernel, by decide +kernel, by decide +kernel⟩⟩
theorem ivX7_187 : IV RX7 187 yX4_copyFrom cX4_copyFrom 2 none 1 := ⟨(tb_mem (t_in3 (List.mem_of_getElem? (i := 211) (by decide +kernel))) (by decide +kernel)), (tb_mem (t_in3 (List.mem_of_getElem? (i := 212) (by decide +kernel))) (by decide +kernel)), (tb_mem (t_in3 (List.mem_of_getElem? (i := 213) (by decide +kernel))) (by decide +kernel)), (tb_mem (t_in1 (List.mem_of_getElem? (i := 6) (by decide +kernel))) (by decide +kernel)), (tb_mem (t_in3 (List.mem_of_getElem? (i := 214) (by decide +kernel))) (by decide +kernel)), ⟨by decide +kernel, by decide +kernel, by decide +kernel⟩⟩
theorem ivX7_191 : IV RX7 191 yX4_size cX4_size 3 (some .int) 0 := ⟨(tb_mem (t_in3 (List.mem_of_getElem? (i := 216) (by decide +kernel))) (by decide +kernel)), (tb_mem (t_in3 (List.mem_of_getElem? (i := 217) (by decide +kernel))) (by decide +kernel)), (tb_mem (t_in3 (List.mem_of_getElem? (i := 218) (by decide +kernel))) (by decide +kernel)), (tb_mem (t_in1 (List.mem_of_getElem? (i := 6) (by decide +kernel))) (by decide +kernel)), (tb_mem (t_in3 (List.mem_of_getElem? (i := 219) (by decide +kernel))) (by decide +kernel)), ⟨by decide +kernel, by decide +kernel, by decide +kernel⟩⟩
set_option maxHeartbeats 4000000 in
set_option maxRecDepth 20000 in
theorem sgX7_adopt_0 {κ : Kx} {K : Kont} {M : Mem} (C : Cx κ RX7 cX7_adopt 1 (some .int) rmX7_adopt domC) 
    (h :
    spX7_findBest M (rV (fun M1 =>
    spX4_copyFrom 0 1 M1 (rV (fun M12 =>
    spX4_size 0 M12 (rI (fun r19 M19 =>
    K (some r19) M19))))))) : V κ 1 M 0 [some (.inr (0, 0))] [] K := by
  refine v_aload_n C dX7_adopt_0 rfl ?_
  refine v_invV C ctX7_findBest dX7_adopt_1 ivX7_184 ⟨by decide, by decide, rfl, rfl⟩ (() : Unit) (As := []) rfl rfl rfl (by decide) rfl (st := []) rfl (Nat.le_of_ble_eq_true rfl) h (fun o M1 oM1 io1 g1 => ?_)
  replace h := rV_out g1
  clear g1
  obtain ⟨rfl, h⟩ := h
  refine v_push0 ?_
  refine v_aload_n C dX7_adopt_4 rfl ?_
  refine v_get C dX7_adopt_5 flX7_45 rfl (by decide) (by decide) (w := .inr (18, 0)) rfl ?_
  refine v_aload_n C dX7_adopt_8 rfl ?_
  refine v_get C dX7_adopt_9 flX7_56 rfl (by decide) (by decide) (w := .inr (18, 1)) rfl ?_
  refine v_invV C ctX4_copyFrom dX7_adopt_12 ivX7_187 ⟨by decide, by decide, rfl, rfl⟩ ((0, 1) : Int × Int) (As := [.inr (18, 1)]) rfl rfl rfl (by decide) rfl (st := []) rfl (Nat.le_of_ble_eq_true rfl) h (fun o M12 oM12 io12 g12 => ?_)
  replace h := rV_out g12
  clear g12
  obtain ⟨rfl, h⟩ := h
  refine v_push0 ?_
  refine v_aload_n C dX7_adopt_15 rfl ?_
  refine v_get C dX7_adopt_16 flX7_45 rfl (by decide) (by decide) (w := .inr (18, 0)) rfl ?_
  refine v_invV C ctX4_size dX7_adopt_19 ivX7_191 ⟨by decide, by decide, rfl, rfl⟩ (0 : Int) (As := []) rfl rfl rfl (by decide) rfl (st := []) rfl (Nat.le_of_ble_eq_true rfl) h (fun o M19 oM19 io19 g19 => ?_)
  replace h := rI_out g19
  clear g19
  obtain ⟨r19, rfl, h⟩ := h
  refine v_push ?_
  exact v_iret C dX7_adopt_22 h
abbrev spX7_adopt (M : Mem) (K : Kont) : Prop := InvC M ∧ ∀ M', InvC M' → M' 0 0 1 = M 0 0 1 → M' 1 0 = M 1 0 → cFilm M' 1 = cFilm M 1 → Up M M' → PlEq (M' 19 0) (M' 20 0) (bP0 (cFilm M 1)).1 (bP0 (cFilm M 1)).2 → K (some (szN (bP0 (cFilm M 1)).1 (cFilm M 1 3 0 0).toNat)) M'
theorem ctX7_adopt : CtX7_adopt spX7_adopt := by
  refine ct_of (by decide) dmC (fun _ => Nat.le_of_ble_eq_true rfl) ?_
  intro κ a M K C oM h
  obtain ⟨hI, hk⟩ := h
  refine sgX7_adopt_0 C ⟨hI, ?_⟩
  intro N hN hs v10 hP hE
  have hfN := hN.1.2.1
  have n3 := hfN.2.2.2.1
  have e3 : cFilm N 1 3 0 0 = N 5 1 7 := rfl
  have g : ∀ r i, ¬ ((r = 19 ∨ r = 20) ∧ i = 0) → cpyM (cpyM N 19 1 0 19 0 0 7) 20 1 0 20 0 0 7 r i = N r i := by
    intro r i hn
    funext j
    unfold cpyM
    rw [if_neg (fun z => hn ⟨Or.inr z.1, z.2.1⟩), if_neg (fun z => hn ⟨Or.inl z.1, z.2.1⟩)]
  have c19 : ∀ q, 0 ≤ q → q < 7 → cpyM (cpyM N 19 1 0 19 0 0 7) 20 1 0 20 0 0 7 19 0 q = N 19 1 q := by
    intro q a b
    unfold cpyM
    rw [if_neg (by omega), if_pos ⟨rfl, rfl, by omega, by omega⟩]
    congr 1
    omega
  have c20 : ∀ q, 0 ≤ q → q < 7 → cpyM (cpyM N 19 1 0 19 0 0 7) 20 1 0 20 0 0 7 20 0 q = N 20 1 q := by
    intro q a b
    unfold cpyM
    rw [if_pos ⟨rfl, rfl, by omega, by omega⟩, if_neg (by omega)]
    congr 1
    omega
  have pe : PlEq (N 19 1) (N 20 1) (cpyM (cpyM N 19 1 0 19 0 0 7) 20 1 0 20 0 0 7 19 0) (cpyM (cpyM N 19 1 0 19 0 0 7) 20 1 0 20 0 0 7 20 0) := fun q a b => ⟨(c19 q a b).symm, (c20 q a b).symm⟩
  have hf : cFilm (cpyM (cpyM N 19 1 0 19 0 0 7) 20 1 0 20 0 0 7) 1 = cFilm N 1 := by
    refine cFilm_eq (fun r x y => ?_) 1
    funext i
    exact g r i (by omega)
  have hInv : InvC (cpyM (cpyM N 19 1 0 19 0 0 7) 20 1 0 20 0 0 7) := by
    obtain ⟨⟨a1, a2, a3, a4, a5⟩, b1, b2, b3⟩ := hN
    refine ⟨⟨⟨by rw [g 0 0 (by omega)]; exact a1.1, by rw [g 1 0 (by omega)]; exact a1.2⟩, by rw [hf]; exact a2, ⟨fun u x y => by rw [g 16 0 (by omega), g 17 0 (by omega)]; exact a3.1 u x y, fun u x y => by rw [g 16 1 (by omega), g 17 1 (by omega)]; exact a3.2 u x y⟩, ⟨by rw [g 16 0 (by omega)]; exact a4.1, by rw [g 17 0 (by omega)]; exact a4.2.1, by rw [g 16 1 (by omega)]; exact a4.2.2.1, by rw [g 17 1 (by omega)]; exact a4.2.2.2⟩, ?_⟩, ?_, ?_, ?_⟩
    · rw [hf, hs.2.2.1]
      exact PlV_c (by rw [← hs.2.2.1]; exact a2) FEq.rf (pe.sy.tr hE).sy ⟨PlK_eq hE hP, VP_best (by rw [← hs.2.2.1]; exact a2) (by rw [← hs.2.2.1]; exact a2.2.1.1)⟩
    · rw [hf]
      exact ⟨fun u x y => by rw [g 15 0 (by omega)]; exact b1.1 u x y, fun u x y => by rw [g 16 0 (by omega), g 17 0 (by omega)]; exact b1.2 u x y⟩
    · rw [hf, g 0 0 (by omega), g 19 1 (by omega), g 20 1 (by omega)]
      exact b2
    · rw [hf, g 23 0 (by omega), g 19 2 (by omega), g 20 2 (by omega)]
      exact b3
  refine ⟨by rw [g 5 1 (by omega)]; omega, ?_⟩
  have := hk _ hInv (by rw [g 0 0 (by omega)]; exact hs.1) (by rw [g 1 0 (by omega)]; exact hs.2.1) (by rw [hf]; exact hs.2.2.1) (hs.2.2.2.2.2.tr (fun r a => by funext i; exact g r i (by omega))) (pe.sy.tr hE)
  rw [← szN_c (pe.sy.tr hE) _ (by rw [← hs.2.2.1]; omega)] at this
  rw [g 5 1 (by omega)]
  rw [← hs.2.2.1] at this
  exact this
/-! ===== GapTellings.picture ===== -/
abbrev rmX7_picture : Room := { frames := 1, cells := 0, slots := 0, locals := 21 }
abbrev argX7_picture (a : Int × Int) : List PV := [.inr (0, 0), .inl a.1, .inl a.2]
abbrev CtX7_picture (sp : Int → Int → Mem → Kont → Prop) : Prop := Ct yX7_picture cX7_picture 4 (some .int) rmX7_picture domC argX7_picture (fun a => sp a.1 a.2)
theorem dX7_picture_0 : decode cX7_picture 0 = .ok (.aload_n 0, 1) := by decide +kernel
theorem dX7_picture_1 : decode cX7_picture 1 = .ok (.iload_n 1, 1) := by decide +kernel
theorem dX7_picture_2 : decode cX7_picture 2 = .ok (.invokevirtual 135, 3) := by decide +kernel
theorem dX7_picture_5 : decode cX7_picture 5 = .ok (.ifCond .ne 5, 3) := by decide +kernel
theorem dX7_picture_8 : decode cX7_picture 8 = .ok (.iconst (-1), 1) := by decide +kernel
theorem dX7_picture_9 : decode cX7_picture 9 = .ok (.ireturn, 1) := by decide +kernel
theorem dX7_picture_10 : decode cX7_picture 10 = .ok (.aload_n 0, 1) := by decide +kernel
theorem dX7_picture_11 : decode cX7_picture 11 = .ok (.getfield 27, 3) := by decide +kernel
theorem dX7_picture_14 : decode cX7_picture 14 = .ok (.getfield 138, 3) := by decide +kernel
theorem dX7_picture_17 : decode cX7_picture 17 = .ok (.iload_n 1, 1) := by decide +kernel
theorem dX7_picture_18 : decode cX7_picture 18 = .ok (.aaload, 1) := by decide +kernel
theorem dX7_picture_19 : decode cX7_picture 19 = .ok (.astore_n 3, 1) := by decide +kernel
theorem dX7_picture_20 : decode cX7_picture 20 = .ok (.iload_n 2, 1) := by decide +kernel
theorem dX7_picture_21 : decode cX7_picture 21 = .ok (.tableswitch 88 0 6 #[43, 48, 53, 58, 63, 68, 78], 43) := by decide +kernel
theorem dX7_picture_64 : decode cX7_picture 64 = .ok (.aload_n 3, 1) := by decide +kernel
theorem dX7_picture_65 : decode cX7_picture 65 = .ok (.getfield 194, 3) := by decide +kernel
theorem dX7_picture_68 : decode cX7_picture 68 = .ok (.ireturn, 1) := by decide +kernel
theorem dX7_picture_69 : decode cX7_picture 69 = .ok (.aload_n 3, 1) := by decide +kernel
theorem dX7_picture_70 : decode cX7_picture 70 = .ok (.getfield 197, 3) := by decide +kernel
theorem dX7_picture_73 : decode cX7_picture 73 = .ok (.ireturn, 1) := by decide +kernel
theorem dX7_picture_74 : decode cX7_picture 74 = .ok (.aload_n 3, 1) := by decide +kernel
theorem dX7_picture_75 : decode cX7_picture 75 = .ok (.getfield 200, 3) := by decide +kernel
theorem dX7_picture_78 : decode cX7_picture 78 = .ok (.ireturn, 1) := by decide +kernel
theorem dX7_picture_79 : decode cX7_picture 79 = .ok (.aload_n 3, 1) := by decide +kernel
theorem dX7_picture_80 : decode cX7_picture 80 = .ok (.getfield 142, 3) := by decide +kernel
theorem dX7_picture_83 : decode cX7_picture 83 = .ok (.ireturn, 1) := by decide +kernel
theorem dX7_picture_84 : decode cX7_picture 84 = .ok (.aload_n 3, 1) := by decide +kernel
theorem dX7_picture_85 : decode cX7_picture 85 = .ok (.getfield 203, 3) := by decide +kernel
theorem dX7_picture_88 : decode cX7_picture 88 = .ok (.ireturn, 1) := by decide +kernel
theorem dX7_picture_89 : decode cX7_picture 89 = .ok (.aload_n 0, 1) := by decide +kernel
theorem dX7_picture_90 : decode cX7_picture 90 = .ok (.getfield 45, 3) := by decide +kernel
theorem dX7_picture_93 : decode cX7_picture 93 = .ok (.getfield 206, 3) := by decide +kernel
theorem dX7_picture_96 : decode cX7_picture 96 = .ok (.iload_n 1, 1) := by decide +kernel
theorem dX7_picture_97 : decode cX7_picture 97 = .ok (.iaload, 1) := by decide +kernel
theorem dX7_picture_98 : decode cX7_picture 98 = .ok (.ireturn, 1) := by decide +kernel
theorem dX7_picture_99 : decode cX7_picture 99 = .ok (.aload_n 0, 1) := by decide +kernel
theorem dX7_picture_100 : decode cX7_picture 100 = .ok (.getfield 45, 3) := by decide +kernel
theorem dX7_picture_103 : decode cX7_picture 103 = .ok (.getfield 209, 3) := by decide +kernel
theorem dX7_picture_106 : decode cX7_picture 106 = .ok (.iload_n 1, 1) := by decide +kernel
theorem dX7_picture_107 : decode cX7_picture 107 = .ok (.iaload, 1) := by decide +kernel
theorem dX7_picture_108 : decode cX7_picture 108 = .ok (.ireturn, 1) := by decide +kernel
theorem dX7_picture_109 : decode cX7_picture 109 = .ok (.iconst (-1), 1) := by decide +kernel
theorem dX7_picture_110 : decode cX7_picture 110 = .ok (.ireturn, 1) := by decide +kernel
theorem flX7_194 : FL RX7 194 3 0 := ⟨_, _, _, rfl, by decide, uwX3, Or.inr ⟨"GapTellings", (nw_mem (t_in1 (List.mem_of_getElem? (i := 65) (by decide +kernel))) (by decide +kernel))⟩⟩
theorem flX7_197 : FL RX7 197 3 1 := ⟨_, _, _, rfl, by decide, uwX3, Or.inr ⟨"GapTellings", (nw_mem (t_in1 (List.mem_of_getElem? (i := 69) (by decide +kernel))) (by decide +kernel))⟩⟩
theorem flX7_200 : FL RX7 200 3 2 := ⟨_, _, _, rfl, by decide, uwX3, Or.inr ⟨"GapTellings", (nw_mem (t_in1 (List.mem_of_getElem? (i := 72) (by decide +kernel))) (by decide +kernel))⟩⟩
theorem flX7_203 : FL RX7 203 3 3 := ⟨_, _, _, rfl, by decide, uwX3, Or.inr ⟨"GapTellings", (nw_mem (t_in1 (List.mem_of_getElem? (i := 77) (by decide +kernel))) (by decide +kernel))⟩⟩
theorem flX7_206 : FL RX7 206 4 1 := ⟨_, _, _, rfl, by decide, uwX4, Or.inr ⟨"GapTellings", (nw_mem (t_in1 (List.mem_of_getElem? (i := 196) (by decide +kernel))) (by decide +kernel))⟩⟩
theorem flX7_209 : FL RX7 209 4 2 := ⟨_, _, _, rfl, by decide, uwX4, Or.inr ⟨"GapTellings", (nw_mem (t_in1 (List.mem_of_getElem? (i := 198) (by decide +kernel))) (by decide +kernel))⟩⟩
set_option maxHeartbeats 4000000 in
set_option maxRecDepth 20000 in
theorem sgX7_picture_0 {κ : Kx} {K : Kont} {M : Mem} (C : Cx κ RX7 cX7_picture 4 (some .int) rmX7_picture domC) (x1 : Int) (x2 : Int)
    (h :
    spX7_hasPicture x1 M (rI (fun r2 M2 =>
    ((r2 ≠ 0 →
      (0 ≤ x1 ∧ x1 < 7) ∧
      ((x2 = 0 →
        K (some (M2 11 (7 * 1 + x1) 0)) M2) ∧
       (x2 = 1 →
        K (some (M2 11 (7 * 1 + x1) 1)) M2) ∧
       (x2 = 2 →
        K (some (M2 11 (7 * 1 + x1) 2)) M2) ∧
       (x2 = 3 →
        K (some (M2 11 (7 * 1 + x1) 4)) M2) ∧
       (x2 = 4 →
        K (some (M2 11 (7 * 1 + x1) 3)) M2) ∧
       (x2 = 5 →
        (0 ≤ x1 ∧ x1 < 7) ∧
        K (some (M2 19 0 x1)) M2) ∧
       (x2 = 6 →
        (0 ≤ x1 ∧ x1 < 7) ∧
        K (some (M2 20 0 x1)) M2) ∧
       (x2 < 0 ∨ 6 < x2 →
        K (some (-1)) M2))) ∧
     (¬ (r2 ≠ 0) →
      K (some (-1)) M2))))) : V κ 4 M 0 [some (.inr (0, 0)), some (.inl x1), some (.inl x2), none] [] K := by
  refine v_aload_n C dX7_picture_0 rfl ?_
  refine v_iload_n C dX7_picture_1 rfl ?_
  refine v_invV C ctX7_hasPicture dX7_picture_2 ivX7_135 ⟨by decide, by decide, rfl, rfl⟩ (x1 : Int) (As := [.inl x1]) rfl rfl rfl (by decide) rfl (st := []) rfl (Nat.le_of_ble_eq_true rfl) h (fun o M2 oM2 io2 g2 => ?_)
  replace h := rI_out g2
  clear g2
  obtain ⟨r2, rfl, h⟩ := h
  refine v_push ?_
  refine v_if C dX7_picture_5 (tgt := 10) (by decide) (P := r2 ≠ 0) rfl (fun c5 => ?_) (fun c5 => ?_)
  · replace h := h.1 c5
    refine v_aload_n C dX7_picture_10 rfl ?_
    refine v_get C dX7_picture_11 flX7_27 rfl (by decide) (by decide) (w := .inr (5, 1)) rfl ?_
    refine v_get C dX7_picture_14 flX7_138 rfl (by decide) (by decide) (w := .inr (10, 1)) rfl ?_
    refine v_iload_n C dX7_picture_17 rfl ?_
    refine v_aald C dX7_picture_18 h.1.1 h.1.2 ?_
    replace h := h.2
    refine v_astore_n C dX7_picture_19 (by decide) (Nat.le_of_ble_eq_true rfl) (lv' := [some (.inr (0, 0)), some (.inl x1), some (.inl x2), some (.inr (11, 7 * 1 + x1))]) rfl ?_
    refine v_iload_n C dX7_picture_20 rfl ?_
    refine v_tsw C dX7_picture_21 (dt := 109) (by decide) (fun j hj hh => ?_) (fun ho => ?_)
    · have hjj : j = 0 ∨ j = 1 ∨ j = 2 ∨ j = 3 ∨ j = 4 ∨ j = 5 ∨ j = 6 := by omega
      rcases hjj with rfl | rfl | rfl | rfl | rfl | rfl | rfl
      · refine ⟨43, 64, rfl, by decide, ?_⟩
        replace h := h.1 (by omega)
        refine v_aload_n C dX7_picture_64 rfl ?_
        refine v_get C dX7_picture_65 flX7_194 rfl (by decide) (by decide) (w := .inl (M2 11 (7 * 1 + x1) 0)) rfl ?_
        exact v_iret C dX7_picture_68 h
      · refine ⟨48, 69, rfl, by decide, ?_⟩
        replace h := h.2.1 (by omega)
        refine v_aload_n C dX7_picture_69 rfl ?_
        refine v_get C dX7_picture_70 flX7_197 rfl (by decide) (by decide) (w := .inl (M2 11 (7 * 1 + x1) 1)) rfl ?_
        exact v_iret C dX7_picture_73 h
      · refine ⟨53, 74, rfl, by decide, ?_⟩
        replace h := h.2.2.1 (by omega)
        refine v_aload_n C dX7_picture_74 rfl ?_
        refine v_get C dX7_picture_75 flX7_200 rfl (by decide) (by decide) (w := .inl (M2 11 (7 * 1 + x1) 2)) rfl ?_
        exact v_iret C dX7_picture_78 h
      · refine ⟨58, 79, rfl, by decide, ?_⟩
        replace h := h.2.2.2.1 (by omega)
        refine v_aload_n C dX7_picture_79 rfl ?_
        refine v_get C dX7_picture_80 flX7_142 rfl (by decide) (by decide) (w := .inl (M2 11 (7 * 1 + x1) 4)) rfl ?_
        exact v_iret C dX7_picture_83 h
      · refine ⟨63, 84, rfl, by decide, ?_⟩
        replace h := h.2.2.2.2.1 (by omega)
        refine v_aload_n C dX7_picture_84 rfl ?_
        refine v_get C dX7_picture_85 flX7_203 rfl (by decide) (by decide) (w := .inl (M2 11 (7 * 1 + x1) 3)) rfl ?_
        exact v_iret C dX7_picture_88 h
      · refine ⟨68, 89, rfl, by decide, ?_⟩
        replace h := h.2.2.2.2.2.1 (by omega)
        refine v_aload_n C dX7_picture_89 rfl ?_
        refine v_get C dX7_picture_90 flX7_45 rfl (by decide) (by decide) (w := .inr (18, 0)) rfl ?_
        refine v_get C dX7_picture_93 flX7_206 rfl (by decide) (by decide) (w := .inr (19, 0)) rfl ?_
        refine v_iload_n C dX7_picture_96 rfl ?_
        refine v_iald C dX7_picture_97 rfl h.1.1 h.1.2 ?_
        replace h := h.2
        exact v_iret C dX7_picture_98 h
      · refine ⟨78, 99, rfl, by decide, ?_⟩
        replace h := h.2.2.2.2.2.2.1 (by omega)
        refine v_aload_n C dX7_picture_99 rfl ?_
        refine v_get C dX7_picture_100 flX7_45 rfl (by decide) (by decide) (w := .inr (18, 0)) rfl ?_
        refine v_get C dX7_picture_103 flX7_209 rfl (by decide) (by decide) (w := .inr (20, 0)) rfl ?_
        refine v_iload_n C dX7_picture_106 rfl ?_
        refine v_iald C dX7_picture_107 rfl h.1.1 h.1.2 ?_
        replace h := h.2
        exact v_iret C dX7_picture_108 h
    · replace h := h.2.2.2.2.2.2.2 ho
      refine v_iconst C dX7_picture_109 (by decide) ?_
      exact v_iret C dX7_picture_110 h
  · replace h := h.2 c5
    refine v_iconst C dX7_picture_8 (by decide) ?_
    exact v_iret C dX7_picture_9 h
def picA (F : Film) (ver sta : Int → Int) (p what : Int) : Int :=
  if ¬ (0 ≤ p ∧ p < F 3 0 0) then -1 else if what = 0 then F 8 p 0 else if what = 1 then F 9 p 0 else if what = 2 then F 10 p 0 else if what = 3 then F 11 p 0 else if what = 4 then F 12 p 0 else if what = 5 then ver p else if what = 6 then sta p else -1
abbrev spX7_picture (p what : Int) (M : Mem) (K : Kont) : Prop := InvC M ∧ K (some (picA (cFilm M 1) (M 19 0) (M 20 0) p what)) M
theorem ctX7_picture : CtX7_picture spX7_picture := by
  refine ct_of (by decide) dmC (fun _ => Nat.le_of_ble_eq_true rfl) ?_
  intro κ a M K C oM h
  obtain ⟨p, what⟩ := a
  obtain ⟨hI, hk⟩ := h
  have hk : K (some (picA (cFilm M 1) (M 19 0) (M 20 0) p what)) M := hk
  have n3 := hI.1.2.1.2.2.2.1
  have e3 : cFilm M 1 3 0 0 = M 5 1 7 := rfl
  unfold picA at hk
  refine sgX7_picture_0 C p what ⟨fun c => ?_, fun c => ?_⟩
  · have c1 := if10 c
    rw [if_neg (by omega)] at hk
    refine ⟨by omega, fun z => ?_, fun z => ?_, fun z => ?_, fun z => ?_, fun z => ?_, fun z => ⟨by omega, ?_⟩, fun z => ⟨by omega, ?_⟩, fun z => ?_⟩
    · rw [if_pos z] at hk; exact hk
    · rw [if_neg (by omega), if_pos z] at hk; exact hk
    · rw [if_neg (by omega), if_neg (by omega), if_pos z] at hk; exact hk
    · rw [if_neg (by omega), if_neg (by omega), if_neg (by omega), if_pos z] at hk; exact hk
    · rw [if_neg (by omega), if_neg (by omega), if_neg (by omega), if_neg (by omega), if_pos z] at hk; exact hk
    · rw [if_neg (by omega), if_neg (by omega), if_neg (by omega), if_neg (by omega), if_neg (by omega), if_pos z] at hk; exact hk
    · rw [if_neg (by omega), if_neg (by omega), if_neg (by omega), if_neg (by omega), if_neg (by omega), if_neg (by omega), if_pos z] at hk; exact hk
    · rw [if_neg (by omega), if_neg (by omega), if_neg (by omega), if_neg (by omega), if_neg (by omega), if_neg (by omega), if_neg (by omega)] at hk; exact hk
  · have c1 := if10n (by omega : (if 0 ≤ p ∧ p < M 5 1 7 then (1 : Int) else 0) = 0)
    rw [if_pos (by omega)] at hk
    exact hk
