/-! ===== the Model: by hand ===== -/
/-! ===== GapTellingsModel.why ===== -/
abbrev rmX8_why : Room := { frames := 3, cells := 0, slots := 0, locals := 74 }
abbrev argX8_why (a : Int × Int × Int) : List PV := [.inr (30, 0), .inl a.1, .inl a.2.1, .inl a.2.2]
abbrev CtX8_why (sp : Int → Int → Int → Mem → Kont → Prop) : Prop := Ct yX8_why cX8_why 4 (some .int) rmX8_why domM argX8_why (fun a => sp a.1 a.2.1 a.2.2)
theorem dX8_why_0 : decode cX8_why 0 = .ok (.aload_n 0, 1) := by decide +kernel
theorem dX8_why_1 : decode cX8_why 1 = .ok (.iload_n 1, 1) := by decide +kernel
theorem dX8_why_2 : decode cX8_why 2 = .ok (.iload_n 2, 1) := by decide +kernel
theorem dX8_why_3 : decode cX8_why 3 = .ok (.iload_n 3, 1) := by decide +kernel
theorem dX8_why_4 : decode cX8_why 4 = .ok (.invokevirtual 157, 3) := by decide +kernel
theorem dX8_why_7 : decode cX8_why 7 = .ok (.ifCond .ne 5, 3) := by decide +kernel
theorem dX8_why_10 : decode cX8_why 10 = .ok (.iconst (-1), 1) := by decide +kernel
theorem dX8_why_11 : decode cX8_why 11 = .ok (.ireturn, 1) := by decide +kernel
theorem dX8_why_12 : decode cX8_why 12 = .ok (.aload_n 0, 1) := by decide +kernel
theorem dX8_why_13 : decode cX8_why 13 = .ok (.invokevirtual 137, 3) := by decide +kernel
theorem dX8_why_16 : decode cX8_why 16 = .ok (.aload_n 0, 1) := by decide +kernel
theorem dX8_why_17 : decode cX8_why 17 = .ok (.iload_n 1, 1) := by decide +kernel
theorem dX8_why_18 : decode cX8_why 18 = .ok (.iload_n 2, 1) := by decide +kernel
theorem dX8_why_19 : decode cX8_why 19 = .ok (.iload_n 3, 1) := by decide +kernel
theorem dX8_why_20 : decode cX8_why 20 = .ok (.invokevirtual 140, 3) := by decide +kernel
theorem dX8_why_23 : decode cX8_why 23 = .ok (.ireturn, 1) := by decide +kernel
theorem ivX8_157 : IV RX8 157 yX8_isTelling cX8_isTelling 4 (some .boolean) 3 := ⟨(tb_mem (t_in5 (List.mem_of_getElem? (i := 59) (by decide +kernel))) (by decide +kernel)), (tb_mem (t_in5 (List.mem_of_getElem? (i := 61) (by decide +kernel))) (by decide +kernel)), (tb_sel (q := (⟨"GapTellingsModel", "isTelling", "(III)Z"⟩, 29)) (List.mem_of_getElem? (i := 24) (by decide +kernel)) (by decide +kernel)), (tb_mem (t_in1 (List.mem_of_getElem? (i := 16) (by decide +kernel))) (by decide +kernel)), (tb_mem (t_in5 (List.mem_of_getElem? (i := 62) (by decide +kernel))) (by decide +kernel)), ⟨by decide +kernel, by decide +kernel, by decide +kernel⟩⟩
theorem ivX8_137 : IV RX8 137 yX8_hears cX8_hears 3 none 0 := ⟨(tb_mem (t_in5 (List.mem_of_getElem? (i := 23) (by decide +kernel))) (by decide +kernel)), (tb_mem (t_in5 (List.mem_of_getElem? (i := 25) (by decide +kernel))) (by decide +kernel)), (tb_sel (q := (⟨"GapTellingsModel", "hears", "()V"⟩, 29)) (List.mem_of_getElem? (i := 18) (by decide +kernel)) (by decide +kernel)), (tb_mem (t_in1 (List.mem_of_getElem? (i := 16) (by decide +kernel))) (by decide +kernel)), (tb_mem (t_in5 (List.mem_of_getElem? (i := 26) (by decide +kernel))) (by decide +kernel)), ⟨by decide +kernel, by decide +kernel, by decide +kernel⟩⟩
theorem ivX8_140 : IV RX8 140 yX8_whyNot cX8_whyNot 8 (some .int) 3 := ⟨(tb_mem (t_in5 (List.mem_of_getElem? (i := 27) (by decide +kernel))) (by decide +kernel)), (tb_mem (t_in5 (List.mem_of_getElem? (i := 29) (by decide +kernel))) (by decide +kernel)), (tb_sel (q := (⟨"GapTellingsModel", "whyNot", "(III)I"⟩, 29)) (List.mem_of_getElem? (i := 19) (by decide +kernel)) (by decide +kernel)), (tb_mem (t_in1 (List.mem_of_getElem? (i := 16) (by decide +kernel))) (by decide +kernel)), (tb_mem (t_in5 (List.mem_of_getElem? (i := 30) (by decide +kernel))) (by decide +kernel)), ⟨by decide +kernel, by decide +kernel, by decide +kernel⟩⟩
set_option maxHeartbeats 4000000 in
set_option maxRecDepth 20000 in
theorem sgX8_why_0 {κ : Kx} {K : Kont} {M : Mem} (C : Cx κ RX8 cX8_why 4 (some .int) rmX8_why domM) (x1 : Int) (x2 : Int) (x3 : Int)
    (h :
    spX8_isTelling x1 x2 x3 M (rI (fun r4 M4 =>
    ((r4 ≠ 0 →
      spX8_hears M4 (rV (fun M13 =>
      spX8_whyNot x1 x2 x3 M13 (rI (fun r20 M20 =>
      K (some r20) M20))))) ∧
     (¬ (r4 ≠ 0) →
      K (some (-1)) M4))))) : V κ 4 M 0 [some (.inr (30, 0)), some (.inl x1), some (.inl x2), some (.inl x3)] [] K := by
  refine v_aload_n C dX8_why_0 rfl ?_
  refine v_iload_n C dX8_why_1 rfl ?_
  refine v_iload_n C dX8_why_2 rfl ?_
  refine v_iload_n C dX8_why_3 rfl ?_
  refine v_invV C ctX8_isTelling dX8_why_4 ivX8_157 ⟨by decide, by decide, rfl, rfl⟩ ((x1, x2, x3) : Int × Int × Int) (As := [.inl x1, .inl x2, .inl x3]) rfl rfl rfl (by decide) rfl (st := []) rfl (Nat.le_of_ble_eq_true rfl) h (fun o M4 oM4 io4 g4 => ?_)
  replace h := rI_out g4
  clear g4
  obtain ⟨r4, rfl, h⟩ := h
  refine v_push ?_
  refine v_if C dX8_why_7 (tgt := 12) (by decide) (P := r4 ≠ 0) rfl (fun c7 => ?_) (fun c7 => ?_)
  · replace h := h.1 c7
    refine v_aload_n C dX8_why_12 rfl ?_
    refine v_invV C ctX8_hears dX8_why_13 ivX8_137 ⟨by decide, by decide, rfl, rfl⟩ (() : Unit) (As := []) rfl rfl rfl (by decide) rfl (st := []) rfl (Nat.le_of_ble_eq_true rfl) h (fun o M13 oM13 io13 g13 => ?_)
    replace h := rV_out g13
    clear g13
    obtain ⟨rfl, h⟩ := h
    refine v_push0 ?_
    refine v_aload_n C dX8_why_16 rfl ?_
    refine v_iload_n C dX8_why_17 rfl ?_
    refine v_iload_n C dX8_why_18 rfl ?_
    refine v_iload_n C dX8_why_19 rfl ?_
    refine v_invV C ctX8_whyNot dX8_why_20 ivX8_140 ⟨by decide, by decide, rfl, rfl⟩ ((x1, x2, x3) : Int × Int × Int) (As := [.inl x1, .inl x2, .inl x3]) rfl rfl rfl (by decide) rfl (st := []) rfl (Nat.le_of_ble_eq_true rfl) h (fun o M20 oM20 io20 g20 => ?_)
    replace h := rI_out g20
    clear g20
    obtain ⟨r20, rfl, h⟩ := h
    refine v_push ?_
    exact v_iret C dX8_why_23 h
  · replace h := h.2 c7
    refine v_iconst C dX8_why_10 (by decide) ?_
    exact v_iret C dX8_why_11 h
abbrev spX8_why (p v t : Int) (M : Mem) (K : Kont) : Prop := InvM M ∧ ∀ M', InvM M' → ChM M M' (mFilm M) (M 45 0) (M 46 0) → K (some (whyA (mFilm M) (M 45 0) (M 46 0) p v t)) M'
theorem ctX8_why : CtX8_why spX8_why := by
  refine ct_of (by decide) dmM (fun _ => Nat.le_of_ble_eq_true rfl) ?_
  intro κ a M K C oM h
  obtain ⟨p, v, t⟩ := a
  obtain ⟨hI, hk⟩ := h
  have hk : ∀ M', InvM M' → ChM M M' (mFilm M) (M 45 0) (M 46 0) → K (some (whyA (mFilm M) (M 45 0) (M 46 0) p v t)) M' := hk
  unfold whyA at hk
  refine sgX8_why_0 C p v t ⟨hI.2.1, fun c => ?_, fun c => ?_⟩
  · have c1 : tellK (mFilm M) p v t := if10 c
    refine ⟨hI.2.1, fun N hA hH => ?_⟩
    have hf := hA.s.film
    have hI2 := hA.s.inv hI
    have := hk N hI2 hA.s.ch
    rw [if_pos c1, ← hf, ← hA.s.row 0 (r := 45) (by omega), ← hA.s.row 0 (r := 46) (by omega)] at this
    exact ⟨⟨hI2.2.1, by rw [hf]; exact hH, hI2.2.2, by rw [hf]; exact c1⟩, this⟩
  · have := hk M hI AgS.rf.ch
    rw [if_neg (if10n (by omega))] at this
    exact this
/-! ===== GapTellingsModel.gain ===== -/
abbrev rmX8_gain : Room := { frames := 3, cells := 0, slots := 0, locals := 66 }
abbrev argX8_gain (a : Int × Int × Int) : List PV := [.inr (30, 0), .inl a.1, .inl a.2.1, .inl a.2.2]
abbrev CtX8_gain (sp : Int → Int → Int → Mem → Kont → Prop) : Prop := Ct yX8_gain cX8_gain 4 (some .int) rmX8_gain domM argX8_gain (fun a => sp a.1 a.2.1 a.2.2)
theorem dX8_gain_0 : decode cX8_gain 0 = .ok (.aload_n 0, 1) := by decide +kernel
theorem dX8_gain_1 : decode cX8_gain 1 = .ok (.iload_n 1, 1) := by decide +kernel
theorem dX8_gain_2 : decode cX8_gain 2 = .ok (.iload_n 2, 1) := by decide +kernel
theorem dX8_gain_3 : decode cX8_gain 3 = .ok (.iload_n 3, 1) := by decide +kernel
theorem dX8_gain_4 : decode cX8_gain 4 = .ok (.invokevirtual 157, 3) := by decide +kernel
theorem dX8_gain_7 : decode cX8_gain 7 = .ok (.ifCond .eq 18, 3) := by decide +kernel
theorem dX8_gain_10 : decode cX8_gain 10 = .ok (.iload_n 3, 1) := by decide +kernel
theorem dX8_gain_11 : decode cX8_gain 11 = .ok (.aload_n 0, 1) := by decide +kernel
theorem dX8_gain_12 : decode cX8_gain 12 = .ok (.iload_n 1, 1) := by decide +kernel
theorem dX8_gain_13 : decode cX8_gain 13 = .ok (.iload_n 2, 1) := by decide +kernel
theorem dX8_gain_14 : decode cX8_gain 14 = .ok (.invokevirtual 147, 3) := by decide +kernel
theorem dX8_gain_17 : decode cX8_gain 17 = .ok (.iadd, 1) := by decide +kernel
theorem dX8_gain_18 : decode cX8_gain 18 = .ok (.aload_n 0, 1) := by decide +kernel
theorem dX8_gain_19 : decode cX8_gain 19 = .ok (.getfield 64, 3) := by decide +kernel
theorem dX8_gain_22 : decode cX8_gain 22 = .ok (.if_icmp .le 5, 3) := by decide +kernel
theorem dX8_gain_25 : decode cX8_gain 25 = .ok (.iconst (-1), 1) := by decide +kernel
theorem dX8_gain_26 : decode cX8_gain 26 = .ok (.ireturn, 1) := by decide +kernel
theorem dX8_gain_27 : decode cX8_gain 27 = .ok (.aload_n 0, 1) := by decide +kernel
theorem dX8_gain_28 : decode cX8_gain 28 = .ok (.invokevirtual 137, 3) := by decide +kernel
theorem dX8_gain_31 : decode cX8_gain 31 = .ok (.aload_n 0, 1) := by decide +kernel
theorem dX8_gain_32 : decode cX8_gain 32 = .ok (.iload_n 1, 1) := by decide +kernel
theorem dX8_gain_33 : decode cX8_gain 33 = .ok (.iload_n 2, 1) := by decide +kernel
theorem dX8_gain_34 : decode cX8_gain 34 = .ok (.iload_n 3, 1) := by decide +kernel
theorem dX8_gain_35 : decode cX8_gain 35 = .ok (.invokevirtual 160, 3) := by decide +kernel
theorem dX8_gain_38 : decode cX8_gain 38 = .ok (.ldc 163, 2) := by decide +kernel
theorem dX8_gain_40 : decode cX8_gain 40 = .ok (.iadd, 1) := by decide +kernel
theorem dX8_gain_41 : decode cX8_gain 41 = .ok (.ireturn, 1) := by decide +kernel
theorem ivX8_160 : IV RX8 160 yX8_gainOf cX8_gainOf 7 (some .int) 3 := ⟨(tb_mem (t_in5 (List.mem_of_getElem? (i := 63) (by decide +kernel))) (by decide +kernel)), (tb_mem (t_in5 (List.mem_of_getElem? (i := 65) (by decide +kernel))) (by decide +kernel)), (tb_sel (q := (⟨"GapTellingsModel", "gainOf", "(III)I"⟩, 29)) (List.mem_of_getElem? (i := 25) (by decide +kernel)) (by decide +kernel)), (tb_mem (t_in1 (List.mem_of_getElem? (i := 16) (by decide +kernel))) (by decide +kernel)), (tb_mem (t_in5 (List.mem_of_getElem? (i := 66) (by decide +kernel))) (by decide +kernel)), ⟨by decide +kernel, by decide +kernel, by decide +kernel⟩⟩
theorem csX8_163 : Cond.constant RX8 163 (Int32.ofInt (100000)) ∈ tb := (tb_mem (t_in5 (List.mem_of_getElem? (i := 67) (by decide +kernel))) (by decide +kernel))
set_option maxHeartbeats 4000000 in
set_option maxRecDepth 20000 in
theorem sgX8_gain_0 {κ : Kx} {K : Kont} {M : Mem} (C : Cx κ RX8 cX8_gain 4 (some .int) rmX8_gain domM) (x1 : Int) (x2 : Int) (x3 : Int)
    (h :
    spX8_isTelling x1 x2 x3 M (rI (fun r4 M4 =>
    ((r4 = 0 →
      K (some (-1)) M4) ∧
     (¬ (r4 = 0) →
      spX8_wide x1 x2 M4 (rI (fun r14 M14 =>
      inR (x3 + r14) ∧
      (((x3 + r14) ≤ (M14 30 0 2) →
        spX8_hears M14 (rV (fun M28 =>
        spX8_gainOf x1 x2 x3 M28 (rI (fun r35 M35 =>
        inR (r35 + 100000) ∧
        K (some (r35 + 100000)) M35))))) ∧
       (¬ ((x3 + r14) ≤ (M14 30 0 2)) →
        K (some (-1)) M14))))))))) : V κ 4 M 0 [some (.inr (30, 0)), some (.inl x1), some (.inl x2), some (.inl x3)] [] K := by
  refine v_aload_n C dX8_gain_0 rfl ?_
  refine v_iload_n C dX8_gain_1 rfl ?_
  refine v_iload_n C dX8_gain_2 rfl ?_
  refine v_iload_n C dX8_gain_3 rfl ?_
  refine v_invV C ctX8_isTelling dX8_gain_4 ivX8_157 ⟨by decide, by decide, rfl, rfl⟩ ((x1, x2, x3) : Int × Int × Int) (As := [.inl x1, .inl x2, .inl x3]) rfl rfl rfl (by decide) rfl (st := []) rfl (Nat.le_of_ble_eq_true rfl) h (fun o M4 oM4 io4 g4 => ?_)
  replace h := rI_out g4
  clear g4
  obtain ⟨r4, rfl, h⟩ := h
  refine v_push ?_
  refine v_if C dX8_gain_7 (tgt := 25) (by decide) (P := r4 = 0) rfl (fun c7 => ?_) (fun c7 => ?_)
  · replace h := h.1 c7
    refine v_iconst C dX8_gain_25 (by decide) ?_
    exact v_iret C dX8_gain_26 h
  · replace h := h.2 c7
    refine v_iload_n C dX8_gain_10 rfl ?_
    refine v_aload_n C dX8_gain_11 rfl ?_
    refine v_iload_n C dX8_gain_12 rfl ?_
    refine v_iload_n C dX8_gain_13 rfl ?_
    refine v_invV C ctX8_wide dX8_gain_14 ivX8_147 ⟨by decide, by decide, rfl, rfl⟩ ((x1, x2) : Int × Int) (As := [.inl x1, .inl x2]) rfl rfl rfl (by decide) rfl (st := [.inl x3]) rfl (Nat.le_of_ble_eq_true rfl) h (fun o M14 oM14 io14 g14 => ?_)
    replace h := rI_out g14
    clear g14
    obtain ⟨r14, rfl, h⟩ := h
    refine v_push ?_
    refine v_iadd C dX8_gain_17 h.1 ?_
    replace h := h.2
    refine v_aload_n C dX8_gain_18 rfl ?_
    refine v_get C dX8_gain_19 flX8_64 rfl (by decide) (by decide) (w := .inl (M14 30 0 2)) rfl ?_
    refine v_icmp C dX8_gain_22 (tgt := 27) (by decide) (P := (x3 + r14) ≤ (M14 30 0 2)) rfl (fun c22 => ?_) (fun c22 => ?_)
    · replace h := h.1 c22
      refine v_aload_n C dX8_gain_27 rfl ?_
      refine v_invV C ctX8_hears dX8_gain_28 ivX8_137 ⟨by decide, by decide, rfl, rfl⟩ (() : Unit) (As := []) rfl rfl rfl (by decide) rfl (st := []) rfl (Nat.le_of_ble_eq_true rfl) h (fun o M28 oM28 io28 g28 => ?_)
      replace h := rV_out g28
      clear g28
      obtain ⟨rfl, h⟩ := h
      refine v_push0 ?_
      refine v_aload_n C dX8_gain_31 rfl ?_
      refine v_iload_n C dX8_gain_32 rfl ?_
      refine v_iload_n C dX8_gain_33 rfl ?_
      refine v_iload_n C dX8_gain_34 rfl ?_
      refine v_invV C ctX8_gainOf dX8_gain_35 ivX8_160 ⟨by decide, by decide, rfl, rfl⟩ ((x1, x2, x3) : Int × Int × Int) (As := [.inl x1, .inl x2, .inl x3]) rfl rfl rfl (by decide) rfl (st := []) rfl (Nat.le_of_ble_eq_true rfl) h (fun o M35 oM35 io35 g35 => ?_)
      replace h := rI_out g35
      clear g35
      obtain ⟨r35, rfl, h⟩ := h
      refine v_push ?_
      refine v_ldc C dX8_gain_38 csX8_163 (by decide) ?_
      refine v_iadd C dX8_gain_40 h.1 ?_
      replace h := h.2
      exact v_iret C dX8_gain_41 h
    · replace h := h.2 c22
      refine v_iconst C dX8_gain_25 (by decide) ?_
      exact v_iret C dX8_gain_26 h
abbrev spX8_gain (p v t : Int) (M : Mem) (K : Kont) : Prop := InvM M ∧ ∀ M', InvM M' → ChM M M' (mFilm M) (M 45 0) (M 46 0) → K (some (gainA (mFilm M) p v t)) M'
theorem gainC_rng {F : Film} (hf : WFf F) {p v t : Int} (h : tellK F p v t) : -2000 ≤ gainW F (csb F) p v t ∧ gainW F (csb F) p v t ≤ 2000 := gainQ_rng hf (QB_csb hf) h.1.1.1 h.1.1.2 h.1.2.1 h.1.2.2 h.2.1 h.2.2
theorem ctX8_gain : CtX8_gain spX8_gain := by
  refine ct_of (by decide) dmM (fun _ => Nat.le_of_ble_eq_true rfl) ?_
  intro κ a M K C oM h
  obtain ⟨p, v, t⟩ := a
  obtain ⟨hI, hk⟩ := h
  have hk : ∀ M', InvM M' → ChM M M' (mFilm M) (M 45 0) (M 46 0) → K (some (gainA (mFilm M) p v t)) M' := hk
  unfold gainA at hk
  have e0 : mFilm M 0 0 0 = M 30 0 2 := rfl
  have no : ¬ (tellK (mFilm M) p v t ∧ t + mFilm M 13 p v ≤ mFilm M 0 0 0) → K (some (-1)) M := fun z => by
    have := hk M hI AgS.rf.ch
    rw [if_neg z] at this; exact this
  refine sgX8_gain_0 C p v t ⟨hI.2.1, fun c => no (fun z => if10n c z.1), fun c => ?_⟩
  have c1 : tellK (mFilm M) p v t := if10 c
  have w := wf_pv hI.2.1 c1.1.1.1 c1.1.1.2 c1.1.2.1 c1.1.2.2
  refine ⟨by omega, ?_⟩
  show inR (t + mFilm M 13 p v) ∧ _
  refine ⟨by omega, fun c2 => ⟨hI.2.1, fun N hA hH => ?_⟩, fun c2 => no (fun z => c2 z.2)⟩
  have hf := hA.s.film
  have hI2 := hA.s.inv hI
  have := hk N hI2 hA.s.ch
  rw [if_pos ⟨c1, c2⟩, ← hf] at this
  have hg := gainC_rng hI.2.1 c1
  refine ⟨⟨hI2.2.1, by rw [hf]; exact hH, by rw [hf]; exact c1, by rw [hf]; exact c2⟩, by rw [hf]; omega, this⟩
/-! ===== GapTellingsModel.sum ===== -/
abbrev rmX8_sum : Room := { frames := 2, cells := 0, slots := 0, locals := 48 }
abbrev argX8_sum (a : Unit) : List PV := [.inr (30, 0)]
abbrev CtX8_sum (sp : Mem → Kont → Prop) : Prop := Ct yX8_sum cX8_sum 3 (some .int) rmX8_sum domM argX8_sum (fun _ => sp)
theorem dX8_sum_0 : decode cX8_sum 0 = .ok (.iconst 0, 1) := by decide +kernel
theorem dX8_sum_1 : decode cX8_sum 1 = .ok (.istore_n 1, 1) := by decide +kernel
theorem dX8_sum_2 : decode cX8_sum 2 = .ok (.iconst 0, 1) := by decide +kernel
theorem dX8_sum_3 : decode cX8_sum 3 = .ok (.istore_n 2, 1) := by decide +kernel
theorem dX8_sum_4 : decode cX8_sum 4 = .ok (.iload_n 2, 1) := by decide +kernel
theorem dX8_sum_5 : decode cX8_sum 5 = .ok (.aload_n 0, 1) := by decide +kernel
theorem dX8_sum_6 : decode cX8_sum 6 = .ok (.getfield 74, 3) := by decide +kernel
theorem dX8_sum_9 : decode cX8_sum 9 = .ok (.if_icmp .ge 42, 3) := by decide +kernel
theorem dX8_sum_12 : decode cX8_sum 12 = .ok (.iload_n 1, 1) := by decide +kernel
theorem dX8_sum_13 : decode cX8_sum 13 = .ok (.aload_n 0, 1) := by decide +kernel
theorem dX8_sum_14 : decode cX8_sum 14 = .ok (.getfield 31, 3) := by decide +kernel
theorem dX8_sum_17 : decode cX8_sum 17 = .ok (.iload_n 2, 1) := by decide +kernel
theorem dX8_sum_18 : decode cX8_sum 18 = .ok (.iaload, 1) := by decide +kernel
theorem dX8_sum_19 : decode cX8_sum 19 = .ok (.ifCond .lt 23, 3) := by decide +kernel
theorem dX8_sum_22 : decode cX8_sum 22 = .ok (.aload_n 0, 1) := by decide +kernel
theorem dX8_sum_23 : decode cX8_sum 23 = .ok (.iload_n 2, 1) := by decide +kernel
theorem dX8_sum_24 : decode cX8_sum 24 = .ok (.aload_n 0, 1) := by decide +kernel
theorem dX8_sum_25 : decode cX8_sum 25 = .ok (.getfield 28, 3) := by decide +kernel
theorem dX8_sum_28 : decode cX8_sum 28 = .ok (.iload_n 2, 1) := by decide +kernel
theorem dX8_sum_29 : decode cX8_sum 29 = .ok (.iaload, 1) := by decide +kernel
theorem dX8_sum_30 : decode cX8_sum 30 = .ok (.aload_n 0, 1) := by decide +kernel
theorem dX8_sum_31 : decode cX8_sum 31 = .ok (.getfield 31, 3) := by decide +kernel
theorem dX8_sum_34 : decode cX8_sum 34 = .ok (.iload_n 2, 1) := by decide +kernel
theorem dX8_sum_35 : decode cX8_sum 35 = .ok (.iaload, 1) := by decide +kernel
theorem dX8_sum_36 : decode cX8_sum 36 = .ok (.invokevirtual 160, 3) := by decide +kernel
theorem dX8_sum_39 : decode cX8_sum 39 = .ok (.goto 4, 3) := by decide +kernel
theorem dX8_sum_42 : decode cX8_sum 42 = .ok (.iconst 0, 1) := by decide +kernel
theorem dX8_sum_43 : decode cX8_sum 43 = .ok (.iadd, 1) := by decide +kernel
theorem dX8_sum_44 : decode cX8_sum 44 = .ok (.istore_n 1, 1) := by decide +kernel
theorem dX8_sum_45 : decode cX8_sum 45 = .ok (.iinc 2 1, 3) := by decide +kernel
theorem dX8_sum_48 : decode cX8_sum 48 = .ok (.goto (-44), 3) := by decide +kernel
theorem dX8_sum_51 : decode cX8_sum 51 = .ok (.iload_n 1, 1) := by decide +kernel
theorem dX8_sum_52 : decode cX8_sum 52 = .ok (.ireturn, 1) := by decide +kernel
set_option maxHeartbeats 4000000 in
set_option maxRecDepth 20000 in
theorem sgX8_sum_0 {κ : Kx} {K : Kont} {M : Mem} (C : Cx κ RX8 cX8_sum 3 (some .int) rmX8_sum domM) 
    (h :
    V κ 3 M 4 [some (.inr (30, 0)), some (.inl 0), some (.inl 0)] [] K) : V κ 3 M 0 [some (.inr (30, 0)), none, none] [] K := by
  refine v_iconst C dX8_sum_0 (by decide) ?_
  refine v_istore_n C dX8_sum_1 (by decide) (Nat.le_of_ble_eq_true rfl) (lv' := [some (.inr (30, 0)), some (.inl 0), none]) rfl ?_
  refine v_iconst C dX8_sum_2 (by decide) ?_
  refine v_istore_n C dX8_sum_3 (by decide) (Nat.le_of_ble_eq_true rfl) (lv' := [some (.inr (30, 0)), some (.inl 0), some (.inl 0)]) rfl ?_
  refine v_weak [some (.inr (30, 0)), some (.inl 0), some (.inl 0)] ⟨rfl, rfl, rfl, trivial⟩ ?_
  exact h
set_option maxHeartbeats 4000000 in
set_option maxRecDepth 20000 in
theorem sgX8_sum_4 {κ : Kx} {K : Kont} {M : Mem} (C : Cx κ RX8 cX8_sum 3 (some .int) rmX8_sum domM) (x1 : Int) (x2 : Int)
    (h :
    (((M 30 0 6) ≤ x2 →
      K (some x1) M) ∧
     (¬ ((M 30 0 6) ≤ x2) →
      (0 ≤ x2 ∧ x2 < 7) ∧
      (((M 46 0 x2) < 0 →
        inR (x1 + 0) ∧
        ∀ y1_44 : Int, y1_44 = x1 + 0 →
        inR (x2 + 1) ∧
        V κ 3 M 4 [some (.inr (30, 0)), some (.inl y1_44), some (.inl (x2 + 1))] [] K) ∧
       (¬ ((M 46 0 x2) < 0) →
        (0 ≤ x2 ∧ x2 < 7) ∧
        (0 ≤ x2 ∧ x2 < 7) ∧
        spX8_gainOf x2 (M 45 0 x2) (M 46 0 x2) M (rI (fun r36 M36 =>
        inR (x1 + r36) ∧
        ∀ y1_44 : Int, y1_44 = x1 + r36 →
        inR (x2 + 1) ∧
        V κ 3 M36 4 [some (.inr (30, 0)), some (.inl y1_44), some (.inl (x2 + 1))] [] K))))))) : V κ 3 M 4 [some (.inr (30, 0)), some (.inl x1), some (.inl x2)] [] K := by
  refine v_iload_n C dX8_sum_4 rfl ?_
  refine v_aload_n C dX8_sum_5 rfl ?_
  refine v_get C dX8_sum_6 flX8_74 rfl (by decide) (by decide) (w := .inl (M 30 0 6)) rfl ?_
  refine v_icmp C dX8_sum_9 (tgt := 51) (by decide) (P := (M 30 0 6) ≤ x2) rfl (fun c9 => ?_) (fun c9 => ?_)
  · replace h := h.1 c9
    refine v_iload_n C dX8_sum_51 rfl ?_
    exact v_iret C dX8_sum_52 h
  · replace h := h.2 c9
    refine v_iload_n C dX8_sum_12 rfl ?_
    refine v_aload_n C dX8_sum_13 rfl ?_
    refine v_get C dX8_sum_14 flX8_31 rfl (by decide) (by decide) (w := .inr (46, 0)) rfl ?_
    refine v_iload_n C dX8_sum_17 rfl ?_
    refine v_iald C dX8_sum_18 rfl h.1.1 h.1.2 ?_
    replace h := h.2
    refine v_if C dX8_sum_19 (tgt := 42) (by decide) (P := (M 46 0 x2) < 0) rfl (fun c19 => ?_) (fun c19 => ?_)
    · replace h := h.1 c19
      refine v_iconst C dX8_sum_42 (by decide) ?_
      refine v_iadd C dX8_sum_43 h.1 ?_
      replace h := h.2
      refine v_nm (fun y1_44 ey1_44 => ?_)
      replace h := h y1_44 ey1_44
      refine v_istore_n C dX8_sum_44 (by decide) (Nat.le_of_ble_eq_true rfl) (lv' := [some (.inr (30, 0)), some (.inl y1_44), some (.inl x2)]) rfl ?_
      refine v_iinc C dX8_sum_45 (by decide) rfl h.1 (lv' := [some (.inr (30, 0)), some (.inl y1_44), some (.inl (x2 + 1))]) rfl ?_
      replace h := h.2
      refine v_goto C dX8_sum_48 (tgt := 4) (by decide) ?_
      refine v_weak [some (.inr (30, 0)), some (.inl y1_44), some (.inl (x2 + 1))] ⟨rfl, rfl, rfl, trivial⟩ ?_
      exact h
    · replace h := h.2 c19
      refine v_aload_n C dX8_sum_22 rfl ?_
      refine v_iload_n C dX8_sum_23 rfl ?_
      refine v_aload_n C dX8_sum_24 rfl ?_
      refine v_get C dX8_sum_25 flX8_28 rfl (by decide) (by decide) (w := .inr (45, 0)) rfl ?_
      refine v_iload_n C dX8_sum_28 rfl ?_
      refine v_iald C dX8_sum_29 rfl h.1.1 h.1.2 ?_
      replace h := h.2
      refine v_aload_n C dX8_sum_30 rfl ?_
      refine v_get C dX8_sum_31 flX8_31 rfl (by decide) (by decide) (w := .inr (46, 0)) rfl ?_
      refine v_iload_n C dX8_sum_34 rfl ?_
      refine v_iald C dX8_sum_35 rfl h.1.1 h.1.2 ?_
      replace h := h.2
      refine v_invV C ctX8_gainOf dX8_sum_36 ivX8_160 ⟨by decide, by decide, rfl, rfl⟩ ((x2, M 45 0 x2, M 46 0 x2) : Int × Int × Int) (As := [.inl x2, .inl (M 45 0 x2), .inl (M 46 0 x2)]) rfl rfl rfl (by decide) rfl (st := [.inl x1]) rfl (Nat.le_of_ble_eq_true rfl) h (fun o M36 oM36 io36 g36 => ?_)
      replace h := rI_out g36
      clear g36
      obtain ⟨r36, rfl, h⟩ := h
      refine v_push ?_
      refine v_goto C dX8_sum_39 (tgt := 43) (by decide) ?_
      refine v_iadd C dX8_sum_43 h.1 ?_
      replace h := h.2
      refine v_nm (fun y1_44 ey1_44 => ?_)
      replace h := h y1_44 ey1_44
      refine v_istore_n C dX8_sum_44 (by decide) (Nat.le_of_ble_eq_true rfl) (lv' := [some (.inr (30, 0)), some (.inl y1_44), some (.inl x2)]) rfl ?_
      refine v_iinc C dX8_sum_45 (by decide) rfl h.1 (lv' := [some (.inr (30, 0)), some (.inl y1_44), some (.inl (x2 + 1))]) rfl ?_
      replace h := h.2
      refine v_goto C dX8_sum_48 (tgt := 4) (by decide) ?_
      refine v_weak [some (.inr (30, 0)), some (.inl y1_44), some (.inl (x2 + 1))] ⟨rfl, rfl, rfl, trivial⟩ ?_
      exact h
abbrev spX8_sum (M : Mem) (K : Kont) : Prop := (WFf (mFilm M) ∧ HrK M (mFilm M) ∧ PlK (mFilm M) (M 45 0) (M 46 0)) ∧ K (some (vaN (mFilm M) (csb (mFilm M)) (M 45 0) (M 46 0) (mFilm M 3 0 0).toNat)) M
theorem PlK.tell {F : Film} {ver sta : Int → Int} (hf : WFf F) (h : PlK F ver sta) {q : Int} (h0 : 0 ≤ q) (h1 : q < 7) (hv : ver q ≠ -4) : tellK F q (ver q) (sta q) ∧ sta q + F 13 q (ver q) ≤ F 0 0 0 := by
  have k := h.at h0 h1 hv
  have w := wf_pv hf h0 k.1 k.2.1.1 k.2.1.2
  exact ⟨⟨⟨⟨h0, k.1⟩, k.2.1⟩, k.2.2.1, by omega⟩, k.2.2.2⟩
theorem vaC_rng {F : Film} {ver sta : Int → Int} (hf : WFf F) (hP : PlK F ver sta) (n : Nat) (hn : n ≤ 7) : -2000 * n ≤ vaN F (csb F) ver sta n ∧ vaN F (csb F) ver sta n ≤ 2000 * n := by
  refine sum_abs n (fun t a b => ?_)
  split
  · omega
  · rename_i c
    exact gainC_rng hf (hP.tell hf a (by omega) c).1
theorem ctX8_sum : CtX8_sum spX8_sum := by
  refine ct_of (by decide) dmM (fun _ => Nat.le_of_ble_eq_true rfl) ?_
  intro κ a M K C oM h
  obtain ⟨⟨hf, hH, hP⟩, hk⟩ := h
  have n3 : (0 ≤ M 30 0 6 ∧ M 30 0 6 ≤ 7) := hf.2.2.2.1
  have e3 : mFilm M 3 0 0 = M 30 0 6 := rfl
  refine sgX8_sum_0 C ?_
  have loop : ∀ (n : Nat) (p s : Int), 0 ≤ p → p + n = M 30 0 6 → s = vaN (mFilm M) (csb (mFilm M)) (M 45 0) (M 46 0) p.toNat →
      V κ 3 M 4 [some (.inr (30, 0)), some (.inl s), some (.inl p)] [] K := by
    intro n
    induction n with
    | zero =>
      intro p s h0 hn hs
      refine sgX8_sum_4 C s p ⟨fun c => ?_, fun c => absurd (by omega) c⟩
      have e : p = mFilm M 3 0 0 := by omega
      rw [hs, e]
      exact hk
    | succ n ih =>
      intro p s h0 hn hs
      have hr := vaC_rng hf hP p.toNat (by omega)
      have st := hP.sta h0 (by omega)
      have e : vaN (mFilm M) (csb (mFilm M)) (M 45 0) (M 46 0) (p + 1).toNat = vaN (mFilm M) (csb (mFilm M)) (M 45 0) (M 46 0) p.toNat + (if M 45 0 p = -4 then 0 else gainW (mFilm M) (csb (mFilm M)) p (M 45 0 p) (M 46 0 p)) := sumN_s _ h0
      refine sgX8_sum_4 C s p ⟨fun c => absurd c (by omega), fun c => ⟨by omega, fun c2 => ⟨by omega, fun y ey => ⟨by omega, ih (p + 1) y (by omega) (by omega) ?_⟩⟩, fun c2 => ?_⟩⟩
      · rw [e, if_pos (by omega)]
        omega
      · have nv : M 45 0 p ≠ -4 := by omega
        have tl := hP.tell hf h0 (by omega) nv
        have gr := gainC_rng hf tl.1
        refine ⟨by omega, by omega, ⟨hf, hH, tl.1, tl.2⟩, by omega, fun y ey => ⟨by omega, ih (p + 1) y (by omega) (by omega) ?_⟩⟩
        rw [e, if_neg nv]
        omega
  exact loop (M 30 0 6).toNat 0 0 (by omega) (by omega) rfl
/-! ===== GapTellingsModel.value ===== -/
abbrev rmX8_value : Room := { frames := 3, cells := 0, slots := 0, locals := 70 }
abbrev argX8_value (a : Unit) : List PV := [.inr (30, 0)]
abbrev CtX8_value (sp : Mem → Kont → Prop) : Prop := Ct yX8_value cX8_value 1 (some .int) rmX8_value domM argX8_value (fun _ => sp)
theorem dX8_value_0 : decode cX8_value 0 = .ok (.aload_n 0, 1) := by decide +kernel
theorem dX8_value_1 : decode cX8_value 1 = .ok (.invokevirtual 137, 3) := by decide +kernel
theorem dX8_value_4 : decode cX8_value 4 = .ok (.aload_n 0, 1) := by decide +kernel
theorem dX8_value_5 : decode cX8_value 5 = .ok (.invokevirtual 164, 3) := by decide +kernel
theorem dX8_value_8 : decode cX8_value 8 = .ok (.ldc 163, 2) := by decide +kernel
theorem dX8_value_10 : decode cX8_value 10 = .ok (.iadd, 1) := by decide +kernel
theorem dX8_value_11 : decode cX8_value 11 = .ok (.ireturn, 1) := by decide +kernel
theorem ivX8_164 : IV RX8 164 yX8_sum cX8_sum 3 (some .int) 0 := ⟨(tb_mem (t_in5 (List.mem_of_getElem? (i := 84) (by decide +kernel))) (by decide +kernel)), (tb_mem (t_in5 (List.mem_of_getElem? (i := 86) (by decide +kernel))) (by decide +kernel)), (tb_sel (q := (⟨"GapTellingsModel", "sum", "()I"⟩, 29)) (List.mem_of_getElem? (i := 26) (by decide +kernel)) (by decide +kernel)), (tb_mem (t_in1 (List.mem_of_getElem? (i := 16) (by decide +kernel))) (by decide +kernel)), (tb_mem (t_in5 (List.mem_of_getElem? (i := 87) (by decide +kernel))) (by decide +kernel)), ⟨by decide +kernel, by decide +kernel, by decide +kernel⟩⟩
set_option maxHeartbeats 4000000 in
set_option maxRecDepth 20000 in
theorem sgX8_value_0 {κ : Kx} {K : Kont} {M : Mem} (C : Cx κ RX8 cX8_value 1 (some .int) rmX8_value domM) 
    (h :
    spX8_hears M (rV (fun M1 =>
    spX8_sum M1 (rI (fun r5 M5 =>
    inR (r5 + 100000) ∧
    K (some (r5 + 100000)) M5))))) : V κ 1 M 0 [some (.inr (30, 0))] [] K := by
  refine v_aload_n C dX8_value_0 rfl ?_
  refine v_invV C ctX8_hears dX8_value_1 ivX8_137 ⟨by decide, by decide, rfl, rfl⟩ (() : Unit) (As := []) rfl rfl rfl (by decide) rfl (st := []) rfl (Nat.le_of_ble_eq_true rfl) h (fun o M1 oM1 io1 g1 => ?_)
  replace h := rV_out g1
  clear g1
  obtain ⟨rfl, h⟩ := h
  refine v_push0 ?_
  refine v_aload_n C dX8_value_4 rfl ?_
  refine v_invV C ctX8_sum dX8_value_5 ivX8_164 ⟨by decide, by decide, rfl, rfl⟩ (() : Unit) (As := []) rfl rfl rfl (by decide) rfl (st := []) rfl (Nat.le_of_ble_eq_true rfl) h (fun o M5 oM5 io5 g5 => ?_)
  replace h := rI_out g5
  clear g5
  obtain ⟨r5, rfl, h⟩ := h
  refine v_push ?_
  refine v_ldc C dX8_value_8 csX8_163 (by decide) ?_
  refine v_iadd C dX8_value_10 h.1 ?_
  replace h := h.2
  exact v_iret C dX8_value_11 h
abbrev spX8_value (M : Mem) (K : Kont) : Prop := InvM M ∧ ∀ M', InvM M' → ChM M M' (mFilm M) (M 45 0) (M 46 0) → K (some (valA (mFilm M) (M 45 0) (M 46 0))) M'
theorem ctX8_value : CtX8_value spX8_value := by
  refine ct_of (by decide) dmM (fun _ => Nat.le_of_ble_eq_true rfl) ?_
  intro κ a M K C oM h
  obtain ⟨hI, hk⟩ := h
  refine sgX8_value_0 C ⟨hI.2.1, fun N hA hH => ?_⟩
  have hf := hA.s.film
  have hI2 := hA.s.inv hI
  have := hk N hI2 hA.s.ch
  have n3 := hI2.2.1.2.2.2.1
  have vr := vaC_rng hI2.2.1 hI2.2.2 (mFilm N 3 0 0).toNat (by omega)
  unfold valA at this
  rw [← hf, ← hA.s.row 0 (r := 45) (by omega), ← hA.s.row 0 (r := 46) (by omega)] at this
  exact ⟨⟨hI2.2.1, by rw [hf]; exact hH, hI2.2.2⟩, by omega, this⟩
/-! ===== GapTellingsModel.picture ===== -/
abbrev rmX8_picture : Room := { frames := 2, cells := 0, slots := 0, locals := 43 }
abbrev argX8_picture (a : Int × Int) : List PV := [.inr (30, 0), .inl a.1, .inl a.2]
abbrev CtX8_picture (sp : Int → Int → Mem → Kont → Prop) : Prop := Ct yX8_picture cX8_picture 3 (some .int) rmX8_picture domM argX8_picture (fun a => sp a.1 a.2)
theorem dX8_picture_0 : decode cX8_picture 0 = .ok (.aload_n 0, 1) := by decide +kernel
theorem dX8_picture_1 : decode cX8_picture 1 = .ok (.iload_n 1, 1) := by decide +kernel
theorem dX8_picture_2 : decode cX8_picture 2 = .ok (.invokevirtual 144, 3) := by decide +kernel
theorem dX8_picture_5 : decode cX8_picture 5 = .ok (.ifCond .eq 13, 3) := by decide +kernel
theorem dX8_picture_8 : decode cX8_picture 8 = .ok (.iload_n 2, 1) := by decide +kernel
theorem dX8_picture_9 : decode cX8_picture 9 = .ok (.iconst 0, 1) := by decide +kernel
theorem dX8_picture_10 : decode cX8_picture 10 = .ok (.bipush 6, 2) := by decide +kernel
theorem dX8_picture_12 : decode cX8_picture 12 = .ok (.invokestatic 97, 3) := by decide +kernel
theorem dX8_picture_15 : decode cX8_picture 15 = .ok (.ifCond .ne 5, 3) := by decide +kernel
theorem dX8_picture_18 : decode cX8_picture 18 = .ok (.iconst (-1), 1) := by decide +kernel
theorem dX8_picture_19 : decode cX8_picture 19 = .ok (.ireturn, 1) := by decide +kernel
theorem dX8_picture_20 : decode cX8_picture 20 = .ok (.iload_n 2, 1) := by decide +kernel
theorem dX8_picture_21 : decode cX8_picture 21 = .ok (.iconst 5, 1) := by decide +kernel
theorem dX8_picture_22 : decode cX8_picture 22 = .ok (.if_icmp .ge 17, 3) := by decide +kernel
theorem dX8_picture_25 : decode cX8_picture 25 = .ok (.aload_n 0, 1) := by decide +kernel
theorem dX8_picture_26 : decode cX8_picture 26 = .ok (.getfield 16, 3) := by decide +kernel
theorem dX8_picture_29 : decode cX8_picture 29 = .ok (.bipush 11, 2) := by decide +kernel
theorem dX8_picture_31 : decode cX8_picture 31 = .ok (.iload_n 1, 1) := by decide +kernel
theorem dX8_picture_32 : decode cX8_picture 32 = .ok (.imul, 1) := by decide +kernel
theorem dX8_picture_33 : decode cX8_picture 33 = .ok (.iload_n 2, 1) := by decide +kernel
theorem dX8_picture_34 : decode cX8_picture 34 = .ok (.iadd, 1) := by decide +kernel
theorem dX8_picture_35 : decode cX8_picture 35 = .ok (.iaload, 1) := by decide +kernel
theorem dX8_picture_36 : decode cX8_picture 36 = .ok (.goto 23, 3) := by decide +kernel
theorem dX8_picture_39 : decode cX8_picture 39 = .ok (.iload_n 2, 1) := by decide +kernel
theorem dX8_picture_40 : decode cX8_picture 40 = .ok (.iconst 5, 1) := by decide +kernel
theorem dX8_picture_41 : decode cX8_picture 41 = .ok (.if_icmp .ne 12, 3) := by decide +kernel
theorem dX8_picture_44 : decode cX8_picture 44 = .ok (.aload_n 0, 1) := by decide +kernel
theorem dX8_picture_45 : decode cX8_picture 45 = .ok (.getfield 28, 3) := by decide +kernel
theorem dX8_picture_48 : decode cX8_picture 48 = .ok (.iload_n 1, 1) := by decide +kernel
theorem dX8_picture_49 : decode cX8_picture 49 = .ok (.iaload, 1) := by decide +kernel
theorem dX8_picture_50 : decode cX8_picture 50 = .ok (.goto 9, 3) := by decide +kernel
theorem dX8_picture_53 : decode cX8_picture 53 = .ok (.aload_n 0, 1) := by decide +kernel
theorem dX8_picture_54 : decode cX8_picture 54 = .ok (.getfield 31, 3) := by decide +kernel
theorem dX8_picture_57 : decode cX8_picture 57 = .ok (.iload_n 1, 1) := by decide +kernel
theorem dX8_picture_58 : decode cX8_picture 58 = .ok (.iaload, 1) := by decide +kernel
theorem dX8_picture_59 : decode cX8_picture 59 = .ok (.ireturn, 1) := by decide +kernel
set_option maxHeartbeats 4000000 in
set_option maxRecDepth 20000 in
theorem sgX8_picture_0 {κ : Kx} {K : Kont} {M : Mem} (C : Cx κ RX8 cX8_picture 3 (some .int) rmX8_picture domM) (x1 : Int) (x2 : Int)
    (h :
    spX8_isPicture x1 M (rI (fun r2 M2 =>
    ((r2 = 0 →
      K (some (-1)) M2) ∧
     (¬ (r2 = 0) →
      spX8_isIn x2 0 6 M2 (rI (fun r12 M12 =>
      ((r12 ≠ 0 →
        ((5 ≤ x2 →
          ((x2 ≠ 5 →
            (0 ≤ x1 ∧ x1 < 7) ∧
            K (some (M12 46 0 x1)) M12) ∧
           (¬ (x2 ≠ 5) →
            (0 ≤ x1 ∧ x1 < 7) ∧
            K (some (M12 45 0 x1)) M12))) ∧
         (¬ (5 ≤ x2) →
          inR (11 * x1) ∧
          inR ((11 * x1) + x2) ∧
          (0 ≤ ((11 * x1) + x2) ∧ ((11 * x1) + x2) < 77) ∧
          K (some (M12 37 0 ((11 * x1) + x2))) M12))) ∧
       (¬ (r12 ≠ 0) →
        K (some (-1)) M12))))))))) : V κ 3 M 0 [some (.inr (30, 0)), some (.inl x1), some (.inl x2)] [] K := by
  refine v_aload_n C dX8_picture_0 rfl ?_
  refine v_iload_n C dX8_picture_1 rfl ?_
  refine v_invV C ctX8_isPicture dX8_picture_2 ivX8_144 ⟨by decide, by decide, rfl, rfl⟩ (x1 : Int) (As := [.inl x1]) rfl rfl rfl (by decide) rfl (st := []) rfl (Nat.le_of_ble_eq_true rfl) h (fun o M2 oM2 io2 g2 => ?_)
  replace h := rI_out g2
  clear g2
  obtain ⟨r2, rfl, h⟩ := h
  refine v_push ?_
  refine v_if C dX8_picture_5 (tgt := 18) (by decide) (P := r2 = 0) rfl (fun c5 => ?_) (fun c5 => ?_)
  · replace h := h.1 c5
    refine v_iconst C dX8_picture_18 (by decide) ?_
    exact v_iret C dX8_picture_19 h
  · replace h := h.2 c5
    refine v_iload_n C dX8_picture_8 rfl ?_
    refine v_iconst C dX8_picture_9 (by decide) ?_
    refine v_bipush C dX8_picture_10 (by decide) (by decide) ?_
    refine v_invS C ctX8_isIn dX8_picture_12 ivX8_97 ⟨by decide, by decide, rfl, rfl⟩ ((x2, 0, 6) : Int × Int × Int) rfl (st := []) rfl (Nat.le_of_ble_eq_true rfl) h (fun o M12 oM12 io12 g12 => ?_)
    replace h := rI_out g12
    clear g12
    obtain ⟨r12, rfl, h⟩ := h
    refine v_push ?_
    refine v_if C dX8_picture_15 (tgt := 20) (by decide) (P := r12 ≠ 0) rfl (fun c15 => ?_) (fun c15 => ?_)
    · replace h := h.1 c15
      refine v_iload_n C dX8_picture_20 rfl ?_
      refine v_iconst C dX8_picture_21 (by decide) ?_
      refine v_icmp C dX8_picture_22 (tgt := 39) (by decide) (P := 5 ≤ x2) rfl (fun c22 => ?_) (fun c22 => ?_)
      · replace h := h.1 c22
        refine v_iload_n C dX8_picture_39 rfl ?_
        refine v_iconst C dX8_picture_40 (by decide) ?_
        refine v_icmp C dX8_picture_41 (tgt := 53) (by decide) (P := x2 ≠ 5) rfl (fun c41 => ?_) (fun c41 => ?_)
        · replace h := h.1 c41
          refine v_aload_n C dX8_picture_53 rfl ?_
          refine v_get C dX8_picture_54 flX8_31 rfl (by decide) (by decide) (w := .inr (46, 0)) rfl ?_
          refine v_iload_n C dX8_picture_57 rfl ?_
          refine v_iald C dX8_picture_58 rfl h.1.1 h.1.2 ?_
          replace h := h.2
          exact v_iret C dX8_picture_59 h
        · replace h := h.2 c41
          refine v_aload_n C dX8_picture_44 rfl ?_
          refine v_get C dX8_picture_45 flX8_28 rfl (by decide) (by decide) (w := .inr (45, 0)) rfl ?_
          refine v_iload_n C dX8_picture_48 rfl ?_
          refine v_iald C dX8_picture_49 rfl h.1.1 h.1.2 ?_
          replace h := h.2
          refine v_goto C dX8_picture_50 (tgt := 59) (by decide) ?_
          exact v_iret C dX8_picture_59 h
      · replace h := h.2 c22
        refine v_aload_n C dX8_picture_25 rfl ?_
        refine v_get C dX8_picture_26 flX8_16 rfl (by decide) (by decide) (w := .inr (37, 0)) rfl ?_
        refine v_bipush C dX8_picture_29 (by decide) (by decide) ?_
        refine v_iload_n C dX8_picture_31 rfl ?_
        refine v_imul C dX8_picture_32 h.1 ?_
        replace h := h.2
        refine v_iload_n C dX8_picture_33 rfl ?_
        refine v_iadd C dX8_picture_34 h.1 ?_
        replace h := h.2
        refine v_iald C dX8_picture_35 rfl h.1.1 h.1.2 ?_
        replace h := h.2
        refine v_goto C dX8_picture_36 (tgt := 59) (by decide) ?_
        exact v_iret C dX8_picture_59 h
    · replace h := h.2 c15
      refine v_iconst C dX8_picture_18 (by decide) ?_
      exact v_iret C dX8_picture_19 h
abbrev spX8_picture (p what : Int) (M : Mem) (K : Kont) : Prop := InvM M ∧ K (some (picA (mFilm M) (M 45 0) (M 46 0) p what)) M
theorem ctX8_picture : CtX8_picture spX8_picture := by
  refine ct_of (by decide) dmM (fun _ => Nat.le_of_ble_eq_true rfl) ?_
  intro κ a M K C oM h
  obtain ⟨p, what⟩ := a
  obtain ⟨hI, hk⟩ := h
  have hk : K (some (picA (mFilm M) (M 45 0) (M 46 0) p what)) M := hk
  have n3 := hI.2.1.2.2.2.1
  have e3 : mFilm M 3 0 0 = M 30 0 6 := rfl
  unfold picA at hk
  refine sgX8_picture_0 C p what ⟨n3, fun c => ?_, fun c => ?_⟩
  · rw [if_pos (show ¬ (0 ≤ p ∧ p < mFilm M 3 0 0) from if10n c)] at hk; exact hk
  · have c1 : 0 ≤ p ∧ p < mFilm M 3 0 0 := if10 c
    rw [if_neg (fun z => z c1)] at hk
    refine ⟨fun c2 => ?_, fun c2 => ?_⟩
    · have c3 := if10 c2
      refine ⟨fun c4 => ⟨fun c5 => ⟨by omega, ?_⟩, fun c5 => ⟨by omega, ?_⟩⟩, fun c4 => ⟨by omega, by omega, by omega, ?_⟩⟩
      · rw [if_neg (by omega), if_neg (by omega), if_neg (by omega), if_neg (by omega), if_neg (by omega), if_neg (by omega), if_pos (by omega)] at hk; exact hk
      · rw [if_neg (by omega), if_neg (by omega), if_neg (by omega), if_neg (by omega), if_neg (by omega), if_pos (by omega)] at hk; exact hk
      · have : what = 0 ∨ what = 1 ∨ what = 2 ∨ what = 3 ∨ what = 4 := by omega
        rcases this with e | e | e | e | e <;> subst e
        · rw [if_pos rfl] at hk
          rw [show 11 * p + 0 = 11 * p by omega]
          exact hk
        · exact hk
        · exact hk
        · exact hk
        · exact hk
    · have c3 := if10n (show (if 0 ≤ what ∧ what ≤ 6 then (1 : Int) else 0) = 0 by omega)
      rw [if_neg (by omega), if_neg (by omega), if_neg (by omega), if_neg (by omega), if_neg (by omega), if_neg (by omega), if_neg (by omega)] at hk; exact hk
/-! ===== GapTellingsModel.place ===== -/
abbrev rmX8_place : Room := { frames := 3, cells := 0, slots := 0, locals := 74 }
abbrev argX8_place (a : Int × Int × Int) : List PV := [.inr (30, 0), .inl a.1, .inl a.2.1, .inl a.2.2]
abbrev CtX8_place (sp : Int → Int → Int → Mem → Kont → Prop) : Prop := Ct yX8_place cX8_place 4 (some .int) rmX8_place domM argX8_place (fun a => sp a.1 a.2.1 a.2.2)
theorem dX8_place_0 : decode cX8_place 0 = .ok (.aload_n 0, 1) := by decide +kernel
theorem dX8_place_1 : decode cX8_place 1 = .ok (.iload_n 1, 1) := by decide +kernel
theorem dX8_place_2 : decode cX8_place 2 = .ok (.iload_n 2, 1) := by decide +kernel
theorem dX8_place_3 : decode cX8_place 3 = .ok (.iload_n 3, 1) := by decide +kernel
theorem dX8_place_4 : decode cX8_place 4 = .ok (.invokevirtual 157, 3) := by decide +kernel
theorem dX8_place_7 : decode cX8_place 7 = .ok (.ifCond .ne 5, 3) := by decide +kernel
theorem dX8_place_10 : decode cX8_place 10 = .ok (.iconst (-1), 1) := by decide +kernel
theorem dX8_place_11 : decode cX8_place 11 = .ok (.ireturn, 1) := by decide +kernel
theorem dX8_place_12 : decode cX8_place 12 = .ok (.aload_n 0, 1) := by decide +kernel
theorem dX8_place_13 : decode cX8_place 13 = .ok (.invokevirtual 137, 3) := by decide +kernel
theorem dX8_place_16 : decode cX8_place 16 = .ok (.aload_n 0, 1) := by decide +kernel
theorem dX8_place_17 : decode cX8_place 17 = .ok (.iload_n 1, 1) := by decide +kernel
theorem dX8_place_18 : decode cX8_place 18 = .ok (.iload_n 2, 1) := by decide +kernel
theorem dX8_place_19 : decode cX8_place 19 = .ok (.iload_n 3, 1) := by decide +kernel
theorem dX8_place_20 : decode cX8_place 20 = .ok (.invokevirtual 140, 3) := by decide +kernel
theorem dX8_place_23 : decode cX8_place 23 = .ok (.ifCond .le 6, 3) := by decide +kernel
theorem dX8_place_26 : decode cX8_place 26 = .ok (.bipush (-2), 2) := by decide +kernel
theorem dX8_place_28 : decode cX8_place 28 = .ok (.ireturn, 1) := by decide +kernel
theorem dX8_place_29 : decode cX8_place 29 = .ok (.aload_n 0, 1) := by decide +kernel
theorem dX8_place_30 : decode cX8_place 30 = .ok (.getfield 28, 3) := by decide +kernel
theorem dX8_place_33 : decode cX8_place 33 = .ok (.iload_n 1, 1) := by decide +kernel
theorem dX8_place_34 : decode cX8_place 34 = .ok (.iload_n 2, 1) := by decide +kernel
theorem dX8_place_35 : decode cX8_place 35 = .ok (.iastore, 1) := by decide +kernel
theorem dX8_place_36 : decode cX8_place 36 = .ok (.aload_n 0, 1) := by decide +kernel
theorem dX8_place_37 : decode cX8_place 37 = .ok (.getfield 31, 3) := by decide +kernel
theorem dX8_place_40 : decode cX8_place 40 = .ok (.iload_n 1, 1) := by decide +kernel
theorem dX8_place_41 : decode cX8_place 41 = .ok (.iload_n 3, 1) := by decide +kernel
theorem dX8_place_42 : decode cX8_place 42 = .ok (.iastore, 1) := by decide +kernel
theorem dX8_place_43 : decode cX8_place 43 = .ok (.aload_n 0, 1) := by decide +kernel
theorem dX8_place_44 : decode cX8_place 44 = .ok (.iload_n 1, 1) := by decide +kernel
theorem dX8_place_45 : decode cX8_place 45 = .ok (.iload_n 2, 1) := by decide +kernel
theorem dX8_place_46 : decode cX8_place 46 = .ok (.iload_n 3, 1) := by decide +kernel
theorem dX8_place_47 : decode cX8_place 47 = .ok (.invokevirtual 160, 3) := by decide +kernel
theorem dX8_place_50 : decode cX8_place 50 = .ok (.ldc 163, 2) := by decide +kernel
theorem dX8_place_52 : decode cX8_place 52 = .ok (.iadd, 1) := by decide +kernel
theorem dX8_place_53 : decode cX8_place 53 = .ok (.ireturn, 1) := by decide +kernel
set_option maxHeartbeats 4000000 in
set_option maxRecDepth 20000 in
theorem sgX8_place_0 {κ : Kx} {K : Kont} {M : Mem} (C : Cx κ RX8 cX8_place 4 (some .int) rmX8_place domM) (x1 : Int) (x2 : Int) (x3 : Int)
    (h :
    spX8_isTelling x1 x2 x3 M (rI (fun r4 M4 =>
    ((r4 ≠ 0 →
      spX8_hears M4 (rV (fun M13 =>
      spX8_whyNot x1 x2 x3 M13 (rI (fun r20 M20 =>
      ((r20 ≤ 0 →
        (0 ≤ x1 ∧ x1 < 7) ∧
        ∀ M35 : Mem, M35 = up3 M20 45 0 x1 x2 →
        (0 ≤ x1 ∧ x1 < 7) ∧
        ∀ M42 : Mem, M42 = up3 M35 46 0 x1 x3 →
        spX8_gainOf x1 x2 x3 M42 (rI (fun r47 M47 =>
        inR (r47 + 100000) ∧
        K (some (r47 + 100000)) M47))) ∧
       (¬ (r20 ≤ 0) →
        K (some (-2)) M20))))))) ∧
     (¬ (r4 ≠ 0) →
      K (some (-1)) M4))))) : V κ 4 M 0 [some (.inr (30, 0)), some (.inl x1), some (.inl x2), some (.inl x3)] [] K := by
  refine v_aload_n C dX8_place_0 rfl ?_
  refine v_iload_n C dX8_place_1 rfl ?_
  refine v_iload_n C dX8_place_2 rfl ?_
  refine v_iload_n C dX8_place_3 rfl ?_
  refine v_invV C ctX8_isTelling dX8_place_4 ivX8_157 ⟨by decide, by decide, rfl, rfl⟩ ((x1, x2, x3) : Int × Int × Int) (As := [.inl x1, .inl x2, .inl x3]) rfl rfl rfl (by decide) rfl (st := []) rfl (Nat.le_of_ble_eq_true rfl) h (fun o M4 oM4 io4 g4 => ?_)
  replace h := rI_out g4
  clear g4
  obtain ⟨r4, rfl, h⟩ := h
  refine v_push ?_
  refine v_if C dX8_place_7 (tgt := 12) (by decide) (P := r4 ≠ 0) rfl (fun c7 => ?_) (fun c7 => ?_)
  · replace h := h.1 c7
    refine v_aload_n C dX8_place_12 rfl ?_
    refine v_invV C ctX8_hears dX8_place_13 ivX8_137 ⟨by decide, by decide, rfl, rfl⟩ (() : Unit) (As := []) rfl rfl rfl (by decide) rfl (st := []) rfl (Nat.le_of_ble_eq_true rfl) h (fun o M13 oM13 io13 g13 => ?_)
    replace h := rV_out g13
    clear g13
    obtain ⟨rfl, h⟩ := h
    refine v_push0 ?_
    refine v_aload_n C dX8_place_16 rfl ?_
    refine v_iload_n C dX8_place_17 rfl ?_
    refine v_iload_n C dX8_place_18 rfl ?_
    refine v_iload_n C dX8_place_19 rfl ?_
    refine v_invV C ctX8_whyNot dX8_place_20 ivX8_140 ⟨by decide, by decide, rfl, rfl⟩ ((x1, x2, x3) : Int × Int × Int) (As := [.inl x1, .inl x2, .inl x3]) rfl rfl rfl (by decide) rfl (st := []) rfl (Nat.le_of_ble_eq_true rfl) h (fun o M20 oM20 io20 g20 => ?_)
    replace h := rI_out g20
    clear g20
    obtain ⟨r20, rfl, h⟩ := h
    refine v_push ?_
    refine v_if C dX8_place_23 (tgt := 29) (by decide) (P := r20 ≤ 0) rfl (fun c23 => ?_) (fun c23 => ?_)
    · replace h := h.1 c23
      refine v_aload_n C dX8_place_29 rfl ?_
      refine v_get C dX8_place_30 flX8_28 rfl (by decide) (by decide) (w := .inr (45, 0)) rfl ?_
      refine v_iload_n C dX8_place_33 rfl ?_
      refine v_iload_n C dX8_place_34 rfl ?_
      refine v_iast C dX8_place_35 rfl h.1.1 h.1.2 ?_
      replace h := h.2
      refine v_nmM (fun M35 eM35 => ?_)
      replace h := h M35 eM35
      refine v_aload_n C dX8_place_36 rfl ?_
      refine v_get C dX8_place_37 flX8_31 rfl (by decide) (by decide) (w := .inr (46, 0)) rfl ?_
      refine v_iload_n C dX8_place_40 rfl ?_
      refine v_iload_n C dX8_place_41 rfl ?_
      refine v_iast C dX8_place_42 rfl h.1.1 h.1.2 ?_
      replace h := h.2
      refine v_nmM (fun M42 eM42 => ?_)
      replace h := h M42 eM42
      refine v_aload_n C dX8_place_43 rfl ?_
      refine v_iload_n C dX8_place_44 rfl ?_
      refine v_iload_n C dX8_place_45 rfl ?_
      refine v_iload_n C dX8_place_46 rfl ?_
      refine v_invV C ctX8_gainOf dX8_place_47 ivX8_160 ⟨by decide, by decide, rfl, rfl⟩ ((x1, x2, x3) : Int × Int × Int) (As := [.inl x1, .inl x2, .inl x3]) rfl rfl rfl (by decide) rfl (st := []) rfl (Nat.le_of_ble_eq_true rfl) h (fun o M47 oM47 io47 g47 => ?_)
      replace h := rI_out g47
      clear g47
      obtain ⟨r47, rfl, h⟩ := h
      refine v_push ?_
      refine v_ldc C dX8_place_50 csX8_163 (by decide) ?_
      refine v_iadd C dX8_place_52 h.1 ?_
      replace h := h.2
      exact v_iret C dX8_place_53 h
    · replace h := h.2 c23
      refine v_bipush C dX8_place_26 (by decide) (by decide) ?_
      exact v_iret C dX8_place_28 h
  · replace h := h.2 c7
    refine v_iconst C dX8_place_10 (by decide) ?_
    exact v_iret C dX8_place_11 h
theorem putM_45 (M : Mem) (p a b : Int) : up3 (up3 M 45 0 p a) 46 0 p b 45 0 = setP (M 45 0) p a := by
  funext q
  rw [up3_r _ _ _ _ _ (by decide)]
  by_cases e : q = p
  · rw [e, up3_s, setP_s]
  · rw [up3_j _ _ _ _ _ e, setP_n _ _ _ e]
theorem putM_46 (M : Mem) (p a b : Int) : up3 (up3 M 45 0 p a) 46 0 p b 46 0 = setP (M 46 0) p b := by
  funext q
  by_cases e : q = p
  · rw [e, up3_s, setP_s]
  · rw [up3_j _ _ _ _ _ e, setP_n _ _ _ e, up3_r _ _ _ _ _ (by decide)]
abbrev spX8_place (p v t : Int) (M : Mem) (K : Kont) : Prop := InvM M ∧ (¬ tellK (mFilm M) p v t → K (some (-1)) M) ∧ (tellK (mFilm M) p v t → whyW (mFilm M) (spb (mFilm M)) (M 45 0) (M 46 0) p v t ≠ 0 → ∀ M', InvM M' → ChM M M' (mFilm M) (M 45 0) (M 46 0) → K (some (-2)) M') ∧
  (tellK (mFilm M) p v t → whyW (mFilm M) (spb (mFilm M)) (M 45 0) (M 46 0) p v t = 0 → ∀ M', InvM M' → ChM M M' (mFilm M) (setP (M 45 0) p v) (setP (M 46 0) p t) → K (some (gainW (mFilm M) (csb (mFilm M)) p v t + 100000)) M')
theorem why_nn (F : Film) (S ver sta : Int → Int) (p v t : Int) : 0 ≤ whyW F S ver sta p v t := by
  unfold whyW ownW whyB
  (repeat' split) <;> omega
theorem ctX8_place : CtX8_place spX8_place := by
  refine ct_of (by decide) dmM (fun _ => Nat.le_of_ble_eq_true rfl) ?_
  intro κ a M K C oM h
  obtain ⟨p, v, t⟩ := a
  dsimp only [spX8_place] at h
  obtain ⟨hI, k1, k2, k3⟩ := h
  have hf0 := hI.2.1
  refine sgX8_place_0 C p v t ⟨hf0, fun c => ?_, fun c => k1 (if10n (by omega))⟩
  have c1 : tellK (mFilm M) p v t := if10 c
  have w := wf_pv hf0 c1.1.1.1 c1.1.1.2 c1.1.2.1 c1.1.2.2
  refine ⟨hf0, fun N hA hH => ?_⟩
  have hf := hA.s.film
  have hI2 := hA.s.inv hI
  have r45 := hA.s.row 0 (r := 45) (by omega)
  have r46 := hA.s.row 0 (r := 46) (by omega)
  have nn := why_nn (mFilm M) (spb (mFilm M)) (M 45 0) (M 46 0) p v t
  refine ⟨⟨hI2.2.1, by rw [hf]; exact hH, hI2.2.2, by rw [hf]; exact c1⟩, ?_, ?_⟩
  · rw [hf, r45, r46]
    intro c2
    have w0 : whyW (mFilm M) (spb (mFilm M)) (M 45 0) (M 46 0) p v t = 0 := by omega
    have oe := own_end (why_own w0)
    refine ⟨by omega, fun N1 e1 => ⟨by omega, fun N2 e2 => ?_⟩⟩
    have g : ∀ r i, r ≠ 45 → r ≠ 46 → N2 r i = N r i := fun r i a b => by funext j; rw [e2, up3_r _ _ _ _ _ b, e1, up3_r _ _ _ _ _ a]
    have f2 : mFilm N2 = mFilm M := by
      rw [← hf]
      exact mFilm_eq (fun j _ => by rw [g 30 0 (by decide) (by decide)]) (fun r hr => g r 0 (by omega) (by omega))
    have p1 : N2 45 0 = setP (M 45 0) p v := by rw [e2, e1, putM_45, r45]
    have p2 : N2 46 0 = setP (M 46 0) p t := by rw [e2, e1, putM_46, r46]
    have hI3 : InvM N2 := by
      refine ⟨by rw [g 30 0 (by decide) (by decide)]; exact hI2.1, by rw [f2]; exact hf0, ?_⟩
      rw [f2, p1, p2]
      exact PlK_put hI.2.2 c1.1.1.2 c1.1.2 c1.2.1 oe.1
    have hg := gainC_rng hf0 c1
    refine ⟨⟨hI3.2.1, ?_, by rw [f2]; exact c1, by rw [f2]; exact oe.1⟩, ?_⟩
    · rw [f2]
      intro u a b
      rw [g 52 0 (by decide) (by decide)]
      exact hH u a b
    · rw [f2]
      refine ⟨by omega, ?_⟩
      have ch := hA.s.ch
      refine k3 c1 w0 N2 hI3 ⟨fun r a => by funext i; rw [g r i (by omega) (by omega), ch.1 r a], by rw [g 30 0 (by decide) (by decide)]; exact ch.2.1, by rw [g 31 0 (by decide) (by decide)]; exact ch.2.2.1, by rw [f2]; exact FEq.rf, by rw [p1, p2]; exact PlEq.rfl'⟩
  · rw [hf, r45, r46]
    intro c2
    exact k2 c1 (by omega) N hI2 hA.s.ch
/-! ===== GapTellingsModel.off ===== -/
abbrev rmX8_off : Room := { frames := 2, cells := 0, slots := 0, locals := 43 }
abbrev argX8_off (a : Int) : List PV := [.inr (30, 0), .inl a]
abbrev CtX8_off (sp : Int → Mem → Kont → Prop) : Prop := Ct yX8_off cX8_off 6 (some .int) rmX8_off domM argX8_off (fun a => sp a)
theorem dX8_off_0 : decode cX8_off 0 = .ok (.aload_n 0, 1) := by decide +kernel
theorem dX8_off_1 : decode cX8_off 1 = .ok (.iload_n 1, 1) := by decide +kernel
theorem dX8_off_2 : decode cX8_off 2 = .ok (.invokevirtual 144, 3) := by decide +kernel
theorem dX8_off_5 : decode cX8_off 5 = .ok (.ifCond .ne 5, 3) := by decide +kernel
theorem dX8_off_8 : decode cX8_off 8 = .ok (.iconst (-1), 1) := by decide +kernel
theorem dX8_off_9 : decode cX8_off 9 = .ok (.ireturn, 1) := by decide +kernel
theorem dX8_off_10 : decode cX8_off 10 = .ok (.aload_n 0, 1) := by decide +kernel
theorem dX8_off_11 : decode cX8_off 11 = .ok (.getfield 31, 3) := by decide +kernel
theorem dX8_off_14 : decode cX8_off 14 = .ok (.iload_n 1, 1) := by decide +kernel
theorem dX8_off_15 : decode cX8_off 15 = .ok (.iaload, 1) := by decide +kernel
theorem dX8_off_16 : decode cX8_off 16 = .ok (.ifCond .ge 6, 3) := by decide +kernel
theorem dX8_off_19 : decode cX8_off 19 = .ok (.bipush (-2), 2) := by decide +kernel
theorem dX8_off_21 : decode cX8_off 21 = .ok (.ireturn, 1) := by decide +kernel
theorem dX8_off_22 : decode cX8_off 22 = .ok (.iconst 1, 1) := by decide +kernel
theorem dX8_off_23 : decode cX8_off 23 = .ok (.iload_n 1, 1) := by decide +kernel
theorem dX8_off_24 : decode cX8_off 24 = .ok (.ishl, 1) := by decide +kernel
theorem dX8_off_25 : decode cX8_off 25 = .ok (.istore_n 2, 1) := by decide +kernel
theorem dX8_off_26 : decode cX8_off 26 = .ok (.iconst 0, 1) := by decide +kernel
theorem dX8_off_27 : decode cX8_off 27 = .ok (.istore_n 3, 1) := by decide +kernel
theorem dX8_off_28 : decode cX8_off 28 = .ok (.iload_n 1, 1) := by decide +kernel
theorem dX8_off_29 : decode cX8_off 29 = .ok (.istore 4, 2) := by decide +kernel
theorem dX8_off_31 : decode cX8_off 31 = .ok (.iload 4, 2) := by decide +kernel
theorem dX8_off_33 : decode cX8_off 33 = .ok (.aload_n 0, 1) := by decide +kernel
theorem dX8_off_34 : decode cX8_off 34 = .ok (.getfield 74, 3) := by decide +kernel
theorem dX8_off_37 : decode cX8_off 37 = .ok (.if_icmp .ge 90, 3) := by decide +kernel
theorem dX8_off_40 : decode cX8_off 40 = .ok (.aload_n 0, 1) := by decide +kernel
theorem dX8_off_41 : decode cX8_off 41 = .ok (.getfield 16, 3) := by decide +kernel
theorem dX8_off_44 : decode cX8_off 44 = .ok (.bipush 11, 2) := by decide +kernel
theorem dX8_off_46 : decode cX8_off 46 = .ok (.iload 4, 2) := by decide +kernel
theorem dX8_off_48 : decode cX8_off 48 = .ok (.imul, 1) := by decide +kernel
theorem dX8_off_49 : decode cX8_off 49 = .ok (.iconst 4, 1) := by decide +kernel
theorem dX8_off_50 : decode cX8_off 50 = .ok (.iadd, 1) := by decide +kernel
theorem dX8_off_51 : decode cX8_off 51 = .ok (.iaload, 1) := by decide +kernel
theorem dX8_off_52 : decode cX8_off 52 = .ok (.istore 5, 2) := by decide +kernel
theorem dX8_off_54 : decode cX8_off 54 = .ok (.iload_n 2, 1) := by decide +kernel
theorem dX8_off_55 : decode cX8_off 55 = .ok (.iload 5, 2) := by decide +kernel
theorem dX8_off_57 : decode cX8_off 57 = .ok (.ifCond .lt 20, 3) := by decide +kernel
theorem dX8_off_60 : decode cX8_off 60 = .ok (.iload_n 2, 1) := by decide +kernel
theorem dX8_off_61 : decode cX8_off 61 = .ok (.iload 5, 2) := by decide +kernel
theorem dX8_off_63 : decode cX8_off 63 = .ok (.ishr, 1) := by decide +kernel
theorem dX8_off_64 : decode cX8_off 64 = .ok (.iconst 1, 1) := by decide +kernel
theorem dX8_off_65 : decode cX8_off 65 = .ok (.iand, 1) := by decide +kernel
theorem dX8_off_66 : decode cX8_off 66 = .ok (.iconst 1, 1) := by decide +kernel
theorem dX8_off_67 : decode cX8_off 67 = .ok (.if_icmp .ne 10, 3) := by decide +kernel
theorem dX8_off_70 : decode cX8_off 70 = .ok (.iconst 1, 1) := by decide +kernel
theorem dX8_off_71 : decode cX8_off 71 = .ok (.iload 4, 2) := by decide +kernel
theorem dX8_off_73 : decode cX8_off 73 = .ok (.ishl, 1) := by decide +kernel
theorem dX8_off_74 : decode cX8_off 74 = .ok (.goto 4, 3) := by decide +kernel
theorem dX8_off_77 : decode cX8_off 77 = .ok (.iconst 0, 1) := by decide +kernel
theorem dX8_off_78 : decode cX8_off 78 = .ok (.ior, 1) := by decide +kernel
theorem dX8_off_79 : decode cX8_off 79 = .ok (.istore_n 2, 1) := by decide +kernel
theorem dX8_off_80 : decode cX8_off 80 = .ok (.iload_n 2, 1) := by decide +kernel
theorem dX8_off_81 : decode cX8_off 81 = .ok (.iload 4, 2) := by decide +kernel
theorem dX8_off_83 : decode cX8_off 83 = .ok (.ishr, 1) := by decide +kernel
theorem dX8_off_84 : decode cX8_off 84 = .ok (.iconst 1, 1) := by decide +kernel
theorem dX8_off_85 : decode cX8_off 85 = .ok (.iand, 1) := by decide +kernel
theorem dX8_off_86 : decode cX8_off 86 = .ok (.iconst 1, 1) := by decide +kernel
theorem dX8_off_87 : decode cX8_off 87 = .ok (.if_icmp .ne 34, 3) := by decide +kernel
theorem dX8_off_90 : decode cX8_off 90 = .ok (.aload_n 0, 1) := by decide +kernel
theorem dX8_off_91 : decode cX8_off 91 = .ok (.getfield 31, 3) := by decide +kernel
theorem dX8_off_94 : decode cX8_off 94 = .ok (.iload 4, 2) := by decide +kernel
theorem dX8_off_96 : decode cX8_off 96 = .ok (.iaload, 1) := by decide +kernel
theorem dX8_off_97 : decode cX8_off 97 = .ok (.ifCond .lt 24, 3) := by decide +kernel
theorem dX8_off_100 : decode cX8_off 100 = .ok (.aload_n 0, 1) := by decide +kernel
theorem dX8_off_101 : decode cX8_off 101 = .ok (.getfield 31, 3) := by decide +kernel
theorem dX8_off_104 : decode cX8_off 104 = .ok (.iload 4, 2) := by decide +kernel
theorem dX8_off_106 : decode cX8_off 106 = .ok (.bipush (-4), 2) := by decide +kernel
theorem dX8_off_108 : decode cX8_off 108 = .ok (.iastore, 1) := by decide +kernel
theorem dX8_off_109 : decode cX8_off 109 = .ok (.aload_n 0, 1) := by decide +kernel
theorem dX8_off_110 : decode cX8_off 110 = .ok (.getfield 28, 3) := by decide +kernel
theorem dX8_off_113 : decode cX8_off 113 = .ok (.iload 4, 2) := by decide +kernel
theorem dX8_off_115 : decode cX8_off 115 = .ok (.bipush (-4), 2) := by decide +kernel
theorem dX8_off_117 : decode cX8_off 117 = .ok (.iastore, 1) := by decide +kernel
theorem dX8_off_118 : decode cX8_off 118 = .ok (.iinc 3 1, 3) := by decide +kernel
theorem dX8_off_121 : decode cX8_off 121 = .ok (.iinc 4 1, 3) := by decide +kernel
theorem dX8_off_124 : decode cX8_off 124 = .ok (.goto (-93), 3) := by decide +kernel
theorem dX8_off_127 : decode cX8_off 127 = .ok (.iload_n 3, 1) := by decide +kernel
theorem dX8_off_128 : decode cX8_off 128 = .ok (.ireturn, 1) := by decide +kernel
set_option maxHeartbeats 4000000 in
set_option maxRecDepth 20000 in
theorem sgX8_off_0 {κ : Kx} {K : Kont} {M : Mem} (C : Cx κ RX8 cX8_off 6 (some .int) rmX8_off domM) (x1 : Int)
    (h :
    spX8_isPicture x1 M (rI (fun r2 M2 =>
    ((r2 ≠ 0 →
      (0 ≤ x1 ∧ x1 < 7) ∧
      ((0 ≤ (M2 46 0 x1) →
        ∀ y2_25 : Int, y2_25 = bShl 1 x1 →
        V κ 6 M2 31 [some (.inr (30, 0)), none, some (.inl y2_25), some (.inl 0), some (.inl x1), none] [] K) ∧
       (¬ (0 ≤ (M2 46 0 x1)) →
        K (some (-2)) M2))) ∧
     (¬ (r2 ≠ 0) →
      K (some (-1)) M2))))) : V κ 6 M 0 [some (.inr (30, 0)), some (.inl x1), none, none, none, none] [] K := by
  refine v_aload_n C dX8_off_0 rfl ?_
  refine v_iload_n C dX8_off_1 rfl ?_
  refine v_invV C ctX8_isPicture dX8_off_2 ivX8_144 ⟨by decide, by decide, rfl, rfl⟩ (x1 : Int) (As := [.inl x1]) rfl rfl rfl (by decide) rfl (st := []) rfl (Nat.le_of_ble_eq_true rfl) h (fun o M2 oM2 io2 g2 => ?_)
  replace h := rI_out g2
  clear g2
  obtain ⟨r2, rfl, h⟩ := h
  refine v_push ?_
  refine v_if C dX8_off_5 (tgt := 10) (by decide) (P := r2 ≠ 0) rfl (fun c5 => ?_) (fun c5 => ?_)
  · replace h := h.1 c5
    refine v_aload_n C dX8_off_10 rfl ?_
    refine v_get C dX8_off_11 flX8_31 rfl (by decide) (by decide) (w := .inr (46, 0)) rfl ?_
    refine v_iload_n C dX8_off_14 rfl ?_
    refine v_iald C dX8_off_15 rfl h.1.1 h.1.2 ?_
    replace h := h.2
    refine v_if C dX8_off_16 (tgt := 22) (by decide) (P := 0 ≤ (M2 46 0 x1)) rfl (fun c16 => ?_) (fun c16 => ?_)
    · replace h := h.1 c16
      refine v_iconst C dX8_off_22 (by decide) ?_
      refine v_iload_n C dX8_off_23 rfl ?_
      refine v_ishl C dX8_off_24 ?_
      refine v_nm (fun y2_25 ey2_25 => ?_)
      replace h := h y2_25 ey2_25
      refine v_istore_n C dX8_off_25 (by decide) (Nat.le_of_ble_eq_true rfl) (lv' := [some (.inr (30, 0)), some (.inl x1), some (.inl y2_25), none, none, none]) rfl ?_
      refine v_iconst C dX8_off_26 (by decide) ?_
      refine v_istore_n C dX8_off_27 (by decide) (Nat.le_of_ble_eq_true rfl) (lv' := [some (.inr (30, 0)), some (.inl x1), some (.inl y2_25), some (.inl 0), none, none]) rfl ?_
      refine v_iload_n C dX8_off_28 rfl ?_
      refine v_istore C dX8_off_29 (by decide) (Nat.le_of_ble_eq_true rfl) (lv' := [some (.inr (30, 0)), some (.inl x1), some (.inl y2_25), some (.inl 0), some (.inl x1), none]) rfl ?_
      refine v_weak [some (.inr (30, 0)), none, some (.inl y2_25), some (.inl 0), some (.inl x1), none] ⟨rfl, rfl, rfl, rfl, trivial⟩ ?_
      exact h
    · replace h := h.2 c16
      refine v_bipush C dX8_off_19 (by decide) (by decide) ?_
      exact v_iret C dX8_off_21 h
  · replace h := h.2 c5
    refine v_iconst C dX8_off_8 (by decide) ?_
    exact v_iret C dX8_off_9 h
set_option maxHeartbeats 4000000 in
set_option maxRecDepth 20000 in
theorem sgX8_off_31 {κ : Kx} {K : Kont} {M : Mem} (C : Cx κ RX8 cX8_off 6 (some .int) rmX8_off domM) (x2 : Int) (x3 : Int) (x4 : Int)
    (h :
    (((M 30 0 6) ≤ x4 →
      K (some x3) M) ∧
     (¬ ((M 30 0 6) ≤ x4) →
      inR (11 * x4) ∧
      inR ((11 * x4) + 4) ∧
      (0 ≤ ((11 * x4) + 4) ∧ ((11 * x4) + 4) < 77) ∧
      ∀ y5_52 : Int, y5_52 = M 37 0 ((11 * x4) + 4) →
      ((y5_52 < 0 →
        ∀ y2_79 : Int, y2_79 = bOr x2 0 →
        (((bAnd (bShr y2_79 x4) 1) ≠ 1 →
          inR (x4 + 1) ∧
          V κ 6 M 31 [some (.inr (30, 0)), none, some (.inl y2_79), some (.inl x3), some (.inl (x4 + 1)), none] [] K) ∧
         (¬ ((bAnd (bShr y2_79 x4) 1) ≠ 1) →
          (0 ≤ x4 ∧ x4 < 7) ∧
          (((M 46 0 x4) < 0 →
            inR (x4 + 1) ∧
            V κ 6 M 31 [some (.inr (30, 0)), none, some (.inl y2_79), some (.inl x3), some (.inl (x4 + 1)), none] [] K) ∧
           (¬ ((M 46 0 x4) < 0) →
            (0 ≤ x4 ∧ x4 < 7) ∧
            ∀ M108 : Mem, M108 = up3 M 46 0 x4 (-4) →
            (0 ≤ x4 ∧ x4 < 7) ∧
            ∀ M117 : Mem, M117 = up3 M108 45 0 x4 (-4) →
            inR (x3 + 1) ∧
            inR (x4 + 1) ∧
            V κ 6 M117 31 [some (.inr (30, 0)), none, some (.inl y2_79), some (.inl (x3 + 1)), some (.inl (x4 + 1)), none] [] K))))) ∧
       (¬ (y5_52 < 0) →
        (((bAnd (bShr x2 y5_52) 1) ≠ 1 →
          ∀ y2_79 : Int, y2_79 = bOr x2 0 →
          (((bAnd (bShr y2_79 x4) 1) ≠ 1 →
            inR (x4 + 1) ∧
            V κ 6 M 31 [some (.inr (30, 0)), none, some (.inl y2_79), some (.inl x3), some (.inl (x4 + 1)), none] [] K) ∧
           (¬ ((bAnd (bShr y2_79 x4) 1) ≠ 1) →
            (0 ≤ x4 ∧ x4 < 7) ∧
            (((M 46 0 x4) < 0 →
              inR (x4 + 1) ∧
              V κ 6 M 31 [some (.inr (30, 0)), none, some (.inl y2_79), some (.inl x3), some (.inl (x4 + 1)), none] [] K) ∧
             (¬ ((M 46 0 x4) < 0) →
              (0 ≤ x4 ∧ x4 < 7) ∧
              ∀ M108 : Mem, M108 = up3 M 46 0 x4 (-4) →
              (0 ≤ x4 ∧ x4 < 7) ∧
              ∀ M117 : Mem, M117 = up3 M108 45 0 x4 (-4) →
              inR (x3 + 1) ∧
              inR (x4 + 1) ∧
              V κ 6 M117 31 [some (.inr (30, 0)), none, some (.inl y2_79), some (.inl (x3 + 1)), some (.inl (x4 + 1)), none] [] K))))) ∧
         (¬ ((bAnd (bShr x2 y5_52) 1) ≠ 1) →
          ∀ y2_79 : Int, y2_79 = bOr x2 (bShl 1 x4) →
          (((bAnd (bShr y2_79 x4) 1) ≠ 1 →
            inR (x4 + 1) ∧
            V κ 6 M 31 [some (.inr (30, 0)), none, some (.inl y2_79), some (.inl x3), some (.inl (x4 + 1)), none] [] K) ∧
           (¬ ((bAnd (bShr y2_79 x4) 1) ≠ 1) →
            (0 ≤ x4 ∧ x4 < 7) ∧
            (((M 46 0 x4) < 0 →
              inR (x4 + 1) ∧
              V κ 6 M 31 [some (.inr (30, 0)), none, some (.inl y2_79), some (.inl x3), some (.inl (x4 + 1)), none] [] K) ∧
             (¬ ((M 46 0 x4) < 0) →
              (0 ≤ x4 ∧ x4 < 7) ∧
              ∀ M108 : Mem, M108 = up3 M 46 0 x4 (-4) →
              (0 ≤ x4 ∧ x4 < 7) ∧
              ∀ M117 : Mem, M117 = up3 M108 45 0 x4 (-4) →
              inR (x3 + 1) ∧
              inR (x4 + 1) ∧
              V κ 6 M117 31 [some (.inr (30, 0)), none, some (.inl y2_79), some (.inl (x3 + 1)), some (.inl (x4 + 1)), none] [] K))))))))))) : V κ 6 M 31 [some (.inr (30, 0)), none, some (.inl x2), some (.inl x3), some (.inl x4), none] [] K := by
  refine v_iload C dX8_off_31 rfl ?_
  refine v_aload_n C dX8_off_33 rfl ?_
  refine v_get C dX8_off_34 flX8_74 rfl (by decide) (by decide) (w := .inl (M 30 0 6)) rfl ?_
  refine v_icmp C dX8_off_37 (tgt := 127) (by decide) (P := (M 30 0 6) ≤ x4) rfl (fun c37 => ?_) (fun c37 => ?_)
  · replace h := h.1 c37
    refine v_iload_n C dX8_off_127 rfl ?_
    exact v_iret C dX8_off_128 h
  · replace h := h.2 c37
    refine v_aload_n C dX8_off_40 rfl ?_
    refine v_get C dX8_off_41 flX8_16 rfl (by decide) (by decide) (w := .inr (37, 0)) rfl ?_
    refine v_bipush C dX8_off_44 (by decide) (by decide) ?_
    refine v_iload C dX8_off_46 rfl ?_
    refine v_imul C dX8_off_48 h.1 ?_
    replace h := h.2
    refine v_iconst C dX8_off_49 (by decide) ?_
    refine v_iadd C dX8_off_50 h.1 ?_
    replace h := h.2
    refine v_iald C dX8_off_51 rfl h.1.1 h.1.2 ?_
    replace h := h.2
    refine v_nm (fun y5_52 ey5_52 => ?_)
    replace h := h y5_52 ey5_52
    refine v_istore C dX8_off_52 (by decide) (Nat.le_of_ble_eq_true rfl) (lv' := [some (.inr (30, 0)), none, some (.inl x2), some (.inl x3), some (.inl x4), some (.inl y5_52)]) rfl ?_
    refine v_iload_n C dX8_off_54 rfl ?_
    refine v_iload C dX8_off_55 rfl ?_
    refine v_if C dX8_off_57 (tgt := 77) (by decide) (P := y5_52 < 0) rfl (fun c57 => ?_) (fun c57 => ?_)
    · replace h := h.1 c57
      refine v_iconst C dX8_off_77 (by decide) ?_
      refine v_ior C dX8_off_78 ?_
      refine v_nm (fun y2_79 ey2_79 => ?_)
      replace h := h y2_79 ey2_79
      refine v_istore_n C dX8_off_79 (by decide) (Nat.le_of_ble_eq_true rfl) (lv' := [some (.inr (30, 0)), none, some (.inl y2_79), some (.inl x3), some (.inl x4), some (.inl y5_52)]) rfl ?_
      refine v_iload_n C dX8_off_80 rfl ?_
      refine v_iload C dX8_off_81 rfl ?_
      refine v_ishr C dX8_off_83 ?_
      refine v_iconst C dX8_off_84 (by decide) ?_
      refine v_iand C dX8_off_85 ?_
      refine v_iconst C dX8_off_86 (by decide) ?_
      refine v_icmp C dX8_off_87 (tgt := 121) (by decide) (P := (bAnd (bShr y2_79 x4) 1) ≠ 1) rfl (fun c87 => ?_) (fun c87 => ?_)
      · replace h := h.1 c87
        refine v_iinc C dX8_off_121 (by decide) rfl h.1 (lv' := [some (.inr (30, 0)), none, some (.inl y2_79), some (.inl x3), some (.inl (x4 + 1)), some (.inl y5_52)]) rfl ?_
        replace h := h.2
        refine v_goto C dX8_off_124 (tgt := 31) (by decide) ?_
        refine v_weak [some (.inr (30, 0)), none, some (.inl y2_79), some (.inl x3), some (.inl (x4 + 1)), none] ⟨rfl, rfl, rfl, rfl, trivial⟩ ?_
        exact h
      · replace h := h.2 c87
        refine v_aload_n C dX8_off_90 rfl ?_
        refine v_get C dX8_off_91 flX8_31 rfl (by decide) (by decide) (w := .inr (46, 0)) rfl ?_
        refine v_iload C dX8_off_94 rfl ?_
        refine v_iald C dX8_off_96 rfl h.1.1 h.1.2 ?_
        replace h := h.2
        refine v_if C dX8_off_97 (tgt := 121) (by decide) (P := (M 46 0 x4) < 0) rfl (fun c97 => ?_) (fun c97 => ?_)
        · replace h := h.1 c97
          refine v_iinc C dX8_off_121 (by decide) rfl h.1 (lv' := [some (.inr (30, 0)), none, some (.inl y2_79), some (.inl x3), some (.inl (x4 + 1)), some (.inl y5_52)]) rfl ?_
          replace h := h.2
          refine v_goto C dX8_off_124 (tgt := 31) (by decide) ?_
          refine v_weak [some (.inr (30, 0)), none, some (.inl y2_79), some (.inl x3), some (.inl (x4 + 1)), none] ⟨rfl, rfl, rfl, rfl, trivial⟩ ?_
          exact h
        · replace h := h.2 c97
          refine v_aload_n C dX8_off_100 rfl ?_
          refine v_get C dX8_off_101 flX8_31 rfl (by decide) (by decide) (w := .inr (46, 0)) rfl ?_
          refine v_iload C dX8_off_104 rfl ?_
          refine v_bipush C dX8_off_106 (by decide) (by decide) ?_
          refine v_iast C dX8_off_108 rfl h.1.1 h.1.2 ?_
          replace h := h.2
          refine v_nmM (fun M108 eM108 => ?_)
          replace h := h M108 eM108
          refine v_aload_n C dX8_off_109 rfl ?_
          refine v_get C dX8_off_110 flX8_28 rfl (by decide) (by decide) (w := .inr (45, 0)) rfl ?_
          refine v_iload C dX8_off_113 rfl ?_
          refine v_bipush C dX8_off_115 (by decide) (by decide) ?_
          refine v_iast C dX8_off_117 rfl h.1.1 h.1.2 ?_
          replace h := h.2
          refine v_nmM (fun M117 eM117 => ?_)
          replace h := h M117 eM117
          refine v_iinc C dX8_off_118 (by decide) rfl h.1 (lv' := [some (.inr (30, 0)), none, some (.inl y2_79), some (.inl (x3 + 1)), some (.inl x4), some (.inl y5_52)]) rfl ?_
          replace h := h.2
          refine v_iinc C dX8_off_121 (by decide) rfl h.1 (lv' := [some (.inr (30, 0)), none, some (.inl y2_79), some (.inl (x3 + 1)), some (.inl (x4 + 1)), some (.inl y5_52)]) rfl ?_
          replace h := h.2
          refine v_goto C dX8_off_124 (tgt := 31) (by decide) ?_
          refine v_weak [some (.inr (30, 0)), none, some (.inl y2_79), some (.inl (x3 + 1)), some (.inl (x4 + 1)), none] ⟨rfl, rfl, rfl, rfl, trivial⟩ ?_
          exact h
    · replace h := h.2 c57
      refine v_iload_n C dX8_off_60 rfl ?_
      refine v_iload C dX8_off_61 rfl ?_
      refine v_ishr C dX8_off_63 ?_
      refine v_iconst C dX8_off_64 (by decide) ?_
      refine v_iand C dX8_off_65 ?_
      refine v_iconst C dX8_off_66 (by decide) ?_
      refine v_icmp C dX8_off_67 (tgt := 77) (by decide) (P := (bAnd (bShr x2 y5_52) 1) ≠ 1) rfl (fun c67 => ?_) (fun c67 => ?_)
      · replace h := h.1 c67
        refine v_iconst C dX8_off_77 (by decide) ?_
        refine v_ior C dX8_off_78 ?_
        refine v_nm (fun y2_79 ey2_79 => ?_)
        replace h := h y2_79 ey2_79
        refine v_istore_n C dX8_off_79 (by decide) (Nat.le_of_ble_eq_true rfl) (lv' := [some (.inr (30, 0)), none, some (.inl y2_79), some (.inl x3), some (.inl x4), some (.inl y5_52)]) rfl ?_
        refine v_iload_n C dX8_off_80 rfl ?_
        refine v_iload C dX8_off_81 rfl ?_
        refine v_ishr C dX8_off_83 ?_
        refine v_iconst C dX8_off_84 (by decide) ?_
        refine v_iand C dX8_off_85 ?_
        refine v_iconst C dX8_off_86 (by decide) ?_
        refine v_icmp C dX8_off_87 (tgt := 121) (by decide) (P := (bAnd (bShr y2_79 x4) 1) ≠ 1) rfl (fun c87 => ?_) (fun c87 => ?_)
        · replace h := h.1 c87
          refine v_iinc C dX8_off_121 (by decide) rfl h.1 (lv' := [some (.inr (30, 0)), none, some (.inl y2_79), some (.inl x3), some (.inl (x4 + 1)), some (.inl y5_52)]) rfl ?_
          replace h := h.2
          refine v_goto C dX8_off_124 (tgt := 31) (by decide) ?_
          refine v_weak [some (.inr (30, 0)), none, some (.inl y2_79), some (.inl x3), some (.inl (x4 + 1)), none] ⟨rfl, rfl, rfl, rfl, trivial⟩ ?_
          exact h
        · replace h := h.2 c87
          refine v_aload_n C dX8_off_90 rfl ?_
          refine v_get C dX8_off_91 flX8_31 rfl (by decide) (by decide) (w := .inr (46, 0)) rfl ?_
          refine v_iload C dX8_off_94 rfl ?_
          refine v_iald C dX8_off_96 rfl h.1.1 h.1.2 ?_
          replace h := h.2
          refine v_if C dX8_off_97 (tgt := 121) (by decide) (P := (M 46 0 x4) < 0) rfl (fun c97 => ?_) (fun c97 => ?_)
          · replace h := h.1 c97
            refine v_iinc C dX8_off_121 (by decide) rfl h.1 (lv' := [some (.inr (30, 0)), none, some (.inl y2_79), some (.inl x3), some (.inl (x4 + 1)), some (.inl y5_52)]) rfl ?_
            replace h := h.2
            refine v_goto C dX8_off_124 (tgt := 31) (by decide) ?_
            refine v_weak [some (.inr (30, 0)), none, some (.inl y2_79), some (.inl x3), some (.inl (x4 + 1)), none] ⟨rfl, rfl, rfl, rfl, trivial⟩ ?_
            exact h
          · replace h := h.2 c97
            refine v_aload_n C dX8_off_100 rfl ?_
            refine v_get C dX8_off_101 flX8_31 rfl (by decide) (by decide) (w := .inr (46, 0)) rfl ?_
            refine v_iload C dX8_off_104 rfl ?_
            refine v_bipush C dX8_off_106 (by decide) (by decide) ?_
            refine v_iast C dX8_off_108 rfl h.1.1 h.1.2 ?_
            replace h := h.2
            refine v_nmM (fun M108 eM108 => ?_)
            replace h := h M108 eM108
            refine v_aload_n C dX8_off_109 rfl ?_
            refine v_get C dX8_off_110 flX8_28 rfl (by decide) (by decide) (w := .inr (45, 0)) rfl ?_
            refine v_iload C dX8_off_113 rfl ?_
            refine v_bipush C dX8_off_115 (by decide) (by decide) ?_
            refine v_iast C dX8_off_117 rfl h.1.1 h.1.2 ?_
            replace h := h.2
            refine v_nmM (fun M117 eM117 => ?_)
            replace h := h M117 eM117
            refine v_iinc C dX8_off_118 (by decide) rfl h.1 (lv' := [some (.inr (30, 0)), none, some (.inl y2_79), some (.inl (x3 + 1)), some (.inl x4), some (.inl y5_52)]) rfl ?_
            replace h := h.2
            refine v_iinc C dX8_off_121 (by decide) rfl h.1 (lv' := [some (.inr (30, 0)), none, some (.inl y2_79), some (.inl (x3 + 1)), some (.inl (x4 + 1)), some (.inl y5_52)]) rfl ?_
            replace h := h.2
            refine v_goto C dX8_off_124 (tgt := 31) (by decide) ?_
            refine v_weak [some (.inr (30, 0)), none, some (.inl y2_79), some (.inl (x3 + 1)), some (.inl (x4 + 1)), none] ⟨rfl, rfl, rfl, rfl, trivial⟩ ?_
            exact h
      · replace h := h.2 c67
        refine v_iconst C dX8_off_70 (by decide) ?_
        refine v_iload C dX8_off_71 rfl ?_
        refine v_ishl C dX8_off_73 ?_
        refine v_goto C dX8_off_74 (tgt := 78) (by decide) ?_
        refine v_ior C dX8_off_78 ?_
        refine v_nm (fun y2_79 ey2_79 => ?_)
        replace h := h y2_79 ey2_79
        refine v_istore_n C dX8_off_79 (by decide) (Nat.le_of_ble_eq_true rfl) (lv' := [some (.inr (30, 0)), none, some (.inl y2_79), some (.inl x3), some (.inl x4), some (.inl y5_52)]) rfl ?_
        refine v_iload_n C dX8_off_80 rfl ?_
        refine v_iload C dX8_off_81 rfl ?_
        refine v_ishr C dX8_off_83 ?_
        refine v_iconst C dX8_off_84 (by decide) ?_
        refine v_iand C dX8_off_85 ?_
        refine v_iconst C dX8_off_86 (by decide) ?_
        refine v_icmp C dX8_off_87 (tgt := 121) (by decide) (P := (bAnd (bShr y2_79 x4) 1) ≠ 1) rfl (fun c87 => ?_) (fun c87 => ?_)
        · replace h := h.1 c87
          refine v_iinc C dX8_off_121 (by decide) rfl h.1 (lv' := [some (.inr (30, 0)), none, some (.inl y2_79), some (.inl x3), some (.inl (x4 + 1)), some (.inl y5_52)]) rfl ?_
          replace h := h.2
          refine v_goto C dX8_off_124 (tgt := 31) (by decide) ?_
          refine v_weak [some (.inr (30, 0)), none, some (.inl y2_79), some (.inl x3), some (.inl (x4 + 1)), none] ⟨rfl, rfl, rfl, rfl, trivial⟩ ?_
          exact h
        · replace h := h.2 c87
          refine v_aload_n C dX8_off_90 rfl ?_
          refine v_get C dX8_off_91 flX8_31 rfl (by decide) (by decide) (w := .inr (46, 0)) rfl ?_
          refine v_iload C dX8_off_94 rfl ?_
          refine v_iald C dX8_off_96 rfl h.1.1 h.1.2 ?_
          replace h := h.2
          refine v_if C dX8_off_97 (tgt := 121) (by decide) (P := (M 46 0 x4) < 0) rfl (fun c97 => ?_) (fun c97 => ?_)
          · replace h := h.1 c97
            refine v_iinc C dX8_off_121 (by decide) rfl h.1 (lv' := [some (.inr (30, 0)), none, some (.inl y2_79), some (.inl x3), some (.inl (x4 + 1)), some (.inl y5_52)]) rfl ?_
            replace h := h.2
            refine v_goto C dX8_off_124 (tgt := 31) (by decide) ?_
            refine v_weak [some (.inr (30, 0)), none, some (.inl y2_79), some (.inl x3), some (.inl (x4 + 1)), none] ⟨rfl, rfl, rfl, rfl, trivial⟩ ?_
            exact h
          · replace h := h.2 c97
            refine v_aload_n C dX8_off_100 rfl ?_
            refine v_get C dX8_off_101 flX8_31 rfl (by decide) (by decide) (w := .inr (46, 0)) rfl ?_
            refine v_iload C dX8_off_104 rfl ?_
            refine v_bipush C dX8_off_106 (by decide) (by decide) ?_
            refine v_iast C dX8_off_108 rfl h.1.1 h.1.2 ?_
            replace h := h.2
            refine v_nmM (fun M108 eM108 => ?_)
            replace h := h M108 eM108
            refine v_aload_n C dX8_off_109 rfl ?_
            refine v_get C dX8_off_110 flX8_28 rfl (by decide) (by decide) (w := .inr (45, 0)) rfl ?_
            refine v_iload C dX8_off_113 rfl ?_
            refine v_bipush C dX8_off_115 (by decide) (by decide) ?_
            refine v_iast C dX8_off_117 rfl h.1.1 h.1.2 ?_
            replace h := h.2
            refine v_nmM (fun M117 eM117 => ?_)
            replace h := h M117 eM117
            refine v_iinc C dX8_off_118 (by decide) rfl h.1 (lv' := [some (.inr (30, 0)), none, some (.inl y2_79), some (.inl (x3 + 1)), some (.inl x4), some (.inl y5_52)]) rfl ?_
            replace h := h.2
            refine v_iinc C dX8_off_121 (by decide) rfl h.1 (lv' := [some (.inr (30, 0)), none, some (.inl y2_79), some (.inl (x3 + 1)), some (.inl (x4 + 1)), some (.inl y5_52)]) rfl ?_
            replace h := h.2
            refine v_goto C dX8_off_124 (tgt := 31) (by decide) ?_
            refine v_weak [some (.inr (30, 0)), none, some (.inl y2_79), some (.inl (x3 + 1)), some (.inl (x4 + 1)), none] ⟨rfl, rfl, rfl, rfl, trivial⟩ ?_
            exact h
theorem or_0 {x : Int} (h0 : 0 ≤ x) (h1 : x < 128) : bOr x 0 = x := by
  have r := or_rng7 h0 h1 (show (0 : Int) ≤ 0 by omega) (show (0 : Int) < 128 by omega)
  refine bit_ext r.1 r.2 h0 h1 (fun k a b => ?_)
  rw [bit_or2 h0 h1 (by omega) (by omega), bit_0, Bool.or_false]
abbrev spX8_off (p : Int) (M : Mem) (K : Kont) : Prop := InvM M ∧ (¬ (0 ≤ p ∧ p < mFilm M 3 0 0) → K (some (-1)) M) ∧ ((0 ≤ p ∧ p < mFilm M 3 0 0) → M 45 0 p = -4 → K (some (-2)) M) ∧
  ((0 ≤ p ∧ p < mFilm M 3 0 0) → M 45 0 p ≠ -4 → ∀ M', InvM M' → ChM M M' (mFilm M) (offD (mFilm M) p (M 45 0)) (offD (mFilm M) p (M 46 0)) → K (some (dpN (mFilm M) p (M 45 0) (mFilm M 3 0 0).toNat)) M')
theorem ctX8_off : CtX8_off spX8_off := by
  refine ct_of (by decide) dmM (fun _ => Nat.le_of_ble_eq_true rfl) ?_
  intro κ p M K C oM h
  dsimp only [spX8_off] at h
  obtain ⟨hI, k1, k2, k3⟩ := h
  have hf := hI.2.1
  have hP := hI.2.2
  have n3 := hf.2.2.2.1
  have e3 : mFilm M 3 0 0 = M 30 0 6 := rfl
  refine sgX8_off_0 C p ⟨n3, fun c => ?_, fun c => k1 (if10n (by omega))⟩
  have c1 : 0 ≤ p ∧ p < mFilm M 3 0 0 := if10 c
  have st := hP.sta c1.1 (by omega)
  refine ⟨by omega, fun c2 g0 eg0 => ?_, fun c2 => k2 c1 (by omega)⟩
  have hv : M 45 0 p ≠ -4 := by omega
  have loop : ∀ (n : Nat) (q g c : Int) (N : Mem), p ≤ q → q + n = M 30 0 6 → (∀ r i, r ≠ 45 → r ≠ 46 → N r i = M r i) → (∀ k, 0 ≤ k → k < 7 → N 45 0 k = (if k < q ∧ dp (mFilm M) p k = true then -4 else M 45 0 k) ∧ N 46 0 k = (if k < q ∧ dp (mFilm M) p k = true then -4 else M 46 0 k)) → (0 ≤ g ∧ g < 128) → (∀ k, 0 ≤ k → k < 7 → (bit g k = true ↔ (k = p ∨ (k < q ∧ dp (mFilm M) p k = true)))) → c = dpN (mFilm M) p (M 45 0) q.toNat →
      V κ 6 N 31 [some (.inr (30, 0)), none, some (.inl g), some (.inl c), some (.inl q), none] [] K := by
    intro n
    induction n with
    | zero =>
      intro q g c N hq hn hA hN hg hb hc
      have e30 : N 30 0 = M 30 0 := hA 30 0 (by decide) (by decide)
      refine sgX8_off_31 C g c q ⟨fun _ => ?_, fun z => absurd (by rw [e30]; omega) z⟩
      have eq : q = mFilm M 3 0 0 := by omega
      have f2 : mFilm N = mFilm M := mFilm_eq (fun j _ => by rw [e30]) (fun r hr => hA r 0 (by omega) (by omega))
      have pe : PlEq (offD (mFilm M) p (M 45 0)) (offD (mFilm M) p (M 46 0)) (N 45 0) (N 46 0) := by
        intro k a b
        have := hN k a b
        unfold offD
        by_cases z : dp (mFilm M) p k = true
        · rw [if_pos z, if_pos z, this.1, this.2]
          by_cases y : k < q
          · rw [if_pos ⟨y, z⟩, if_pos ⟨y, z⟩]; exact ⟨rfl, rfl⟩
          · rw [if_neg (fun u => y u.1), if_neg (fun u => y u.1)]
            rcases hP k a b with x | x
            · exact ⟨x.1.symm, x.2.symm⟩
            · omega
        · rw [if_neg z, if_neg z, this.1, this.2, if_neg (fun u => z u.2), if_neg (fun u => z u.2)]; exact ⟨rfl, rfl⟩
      rw [hc, eq]
      have pk : PlK (mFilm M) (offD (mFilm M) p (M 45 0)) (offD (mFilm M) p (M 46 0)) := by
        intro k a b
        unfold offD
        split
        · exact Or.inl ⟨rfl, rfl⟩
        · exact hP k a b
      refine k3 c1 hv N ⟨by rw [e30]; exact hI.1, by rw [f2]; exact hf, by rw [f2]; exact PlK_eq pe pk⟩ ⟨fun r x => by funext i; exact hA r i (by omega) (by omega), by rw [e30], hA 31 0 (by decide) (by decide), by rw [f2]; exact FEq.rf, pe⟩
    | succ n ih =>
      intro q g c N hq hn hA hN hg hb hc
      have e30 : N 30 0 = M 30 0 := hA 30 0 (by decide) (by decide)
      have e37 : N 37 0 = M 37 0 := hA 37 0 (by decide) (by decide)
      have q0 : 0 ≤ q := by omega
      have w := wf_p hf q0 (by omega)
      have ed := dp_eq hf (p := p) q0 (by omega : q < mFilm M 3 0 0)
      have e12 : mFilm M 12 q 0 = M 37 0 (11 * q + 4) := rfl
      have hr := dpN_rng (mFilm M) p (M 45 0) q.toNat
      have hs : dpN (mFilm M) p (M 45 0) (q + 1).toNat = dpN (mFilm M) p (M 45 0) q.toNat + (if dp (mFilm M) p q = true ∧ M 45 0 q ≠ -4 then 1 else 0) := sumN_s _ q0
      have nq : N 45 0 q = M 45 0 q := by rw [(hN q q0 (by omega)).1, if_neg (by omega)]
      have nq6 : N 46 0 q = M 46 0 q := by rw [(hN q q0 (by omega)).2, if_neg (by omega)]
      have stq := hP.sta q0 (by omega : q < 7)
      have lk : ∀ k, k ≠ q → (k < q + 1 ∧ dp (mFilm M) p k = true) = (k < q ∧ dp (mFilm M) p k = true) := fun k e => by apply propext; constructor <;> (rintro ⟨u, v⟩; exact ⟨by omega, v⟩)
      -- with the new bits the rest is one
      have rest : ∀ g2, (0 ≤ g2 ∧ g2 < 128) → (∀ k, 0 ≤ k → k < 7 → (bit g2 k = true ↔ (k = p ∨ (k < q + 1 ∧ dp (mFilm M) p k = true)))) →
          ((bAnd (bShr g2 q) 1 ≠ 1 → inR (q + 1) ∧ V κ 6 N 31 [some (.inr (30, 0)), none, some (.inl g2), some (.inl c), some (.inl (q + 1)), none] [] K) ∧
           (¬ (bAnd (bShr g2 q) 1 ≠ 1) → (0 ≤ q ∧ q < 7) ∧ ((N 46 0 q < 0 → inR (q + 1) ∧ V κ 6 N 31 [some (.inr (30, 0)), none, some (.inl g2), some (.inl c), some (.inl (q + 1)), none] [] K) ∧
             (¬ (N 46 0 q < 0) → (0 ≤ q ∧ q < 7) ∧ ∀ M108 : Mem, M108 = up3 N 46 0 q (-4) → (0 ≤ q ∧ q < 7) ∧ ∀ M117 : Mem, M117 = up3 M108 45 0 q (-4) → inR (c + 1) ∧ inR (q + 1) ∧
               V κ 6 M117 31 [some (.inr (30, 0)), none, some (.inl g2), some (.inl (c + 1)), some (.inl (q + 1)), none] [] K)))) := by
        intro g2 hg2 hb2
        have sb := shr_bit (x := g2) (k := q) hg2.1 (by omega) q0 (by omega)
        have bq : bit g2 q = true ↔ dp (mFilm M) p q = true := by
          rw [hb2 q q0 (by omega)]
          constructor
          · rintro (u | u)
            · rw [u]; exact dp_self p
            · exact u.2
          · intro u; exact Or.inr ⟨by omega, u⟩
        have stay : ¬ (dp (mFilm M) p q = true ∧ M 45 0 q ≠ -4) → V κ 6 N 31 [some (.inr (30, 0)), none, some (.inl g2), some (.inl c), some (.inl (q + 1)), none] [] K := by
          intro no
          refine ih (q + 1) g2 c N (by omega) (by omega) hA (fun k a b => ?_) hg2 hb2 (by rw [hs, if_neg no, hc]; omega)
          by_cases e : k = q
          · subst e
            rw [nq, nq6]
            by_cases z : dp (mFilm M) p k = true
            · rw [if_pos ⟨by omega, z⟩, if_pos ⟨by omega, z⟩]
              rcases hP k a b with x | x
              · exact x
              · exact absurd ⟨z, by omega⟩ no
            · rw [if_neg (fun u => z u.2), if_neg (fun u => z u.2)]; exact ⟨rfl, rfl⟩
          · simp only [lk k e]
            exact hN k a b
        refine ⟨fun c2 => ⟨by omega, stay (fun z => ?_)⟩, fun c2 => ⟨by omega, fun c3 => ⟨by omega, stay (fun z => ?_)⟩, fun c3 => ⟨by omega, fun N1 e1 => ⟨by omega, fun N2 e2 => ⟨by omega, by omega, ?_⟩⟩⟩⟩⟩
        · rw [sb, if_pos (bq.2 z.1)] at c2
          exact c2 rfl
        · rw [nq6] at c3
          exact z.2 (by omega)
        · have dq : dp (mFilm M) p q = true := by
            refine bq.1 ?_
            cases hh : bit g2 q
            · rw [sb, hh] at c2
              exact absurd (by decide) c2
            · rfl
          have v1 : M 45 0 q ≠ -4 := by rw [nq6] at c3; omega
          refine ih (q + 1) g2 (c + 1) N2 (by omega) (by omega) (fun r i a b => by funext j; rw [e2, up3_r _ _ _ _ _ a, e1, up3_r _ _ _ _ _ b, hA r i a b]) (fun k a b => ?_) hg2 hb2 (by rw [hs, if_pos ⟨dq, v1⟩, hc])
          by_cases e : k = q
          · subst e
            rw [if_pos ⟨by omega, dq⟩, if_pos ⟨by omega, dq⟩, e2, up3_s, up3_r _ _ _ _ _ (by decide), e1, up3_s]
            exact ⟨rfl, rfl⟩
          · have := hN k a b
            simp only [lk k e]
            refine ⟨?_, ?_⟩
            · rw [e2, up3_j _ _ _ _ _ e, e1, up3_r _ _ _ _ _ (by decide)]; exact this.1
            · rw [e2, up3_r _ _ _ _ _ (by decide), e1, up3_j _ _ _ _ _ e]; exact this.2
      -- no bit more
      have same : ¬ (q ≠ p ∧ dp (mFilm M) p q = true) → ∀ k, 0 ≤ k → k < 7 → (bit g k = true ↔ (k = p ∨ (k < q + 1 ∧ dp (mFilm M) p k = true))) := by
        intro no k a b
        rw [hb k a b]
        by_cases e : k = q
        · subst e
          constructor
          · rintro (u | u)
            · exact Or.inl u
            · exact Or.inr ⟨by omega, u.2⟩
          · rintro (u | u)
            · exact Or.inl u
            · by_cases ep : k = p
              · exact Or.inl ep
              · exact absurd ⟨ep, u.2⟩ no
        · rw [lk k e]
      refine sgX8_off_31 C g c q ⟨fun z => absurd z (by rw [e30]; omega), fun _ => ⟨by omega, by omega, by omega, fun y ey => ?_⟩⟩
      rw [e37, ← e12] at ey
      refine ⟨fun c3 g2 eg => ?_, fun c3 => ⟨fun c4 g2 eg => ?_, fun c4 g2 eg => ?_⟩⟩
      · rw [or_0 hg.1 hg.2] at eg
        rw [eg]
        refine rest g hg (same ?_)
        rintro ⟨u, v⟩
        rw [ed] at v
        have : mFilm M 12 q 0 = -4 := by omega
        simp [this] at v
        exact u v
      · rw [or_0 hg.1 hg.2] at eg
        rw [eg]
        refine rest g hg (same ?_)
        rintro ⟨u, v⟩
        rw [ed] at v
        simp [u] at v
        have sb := shr_bit (x := g) (k := y) hg.1 (by omega) (by omega) (by omega)
        have : bit g y = true := (hb y (by omega) (by omega)).2 (Or.inr ⟨by omega, by rw [ey]; exact v.2⟩)
        rw [sb, this] at c4
        exact c4 rfl
      · have sb := shr_bit (x := g) (k := y) hg.1 (by omega) (by omega) (by omega)
        have by' : bit g y = true := by
          cases hh : bit g y
          · rw [sb, hh] at c4
            exact absurd (by decide) c4
          · rfl
        have dy : dp (mFilm M) p y = true := by
          rcases (hb y (by omega) (by omega)).1 by' with u | u
          · rw [u]; exact dp_self p
          · exact u.2
        have dq : dp (mFilm M) p q = true := by
          rw [ed, ← ey]
          have : y ≠ -4 := by omega
          simp [this, dy]
        have s2 := shl_lt128 (p := q) q0 (by omega)
        rw [eg]
        refine rest _ (or_rng7 hg.1 hg.2 (by omega) s2.2) (fun k a b => ?_)
        rw [bit_or2 hg.1 hg.2 (by omega) s2.2, bit_shl q0 (by omega) a]
        by_cases e : k = q
        · subst e
          simp only [decide_true, Bool.or_true, true_iff]
          exact Or.inr ⟨by omega, dq⟩
        · simp only [e, decide_false, Bool.or_false]
          rw [hb k a b, lk k e]
  have s2 := shl_lt128 (p := p) c1.1 (by omega)
  have only : ∀ k, 0 ≤ k → k < p → ¬ dp (mFilm M) p k = true := by
    intro k a b c
    have := dp_ge hf 7 k a (by omega) (by omega) c
    omega
  rw [eg0]
  refine loop (M 30 0 6 - p).toNat p (bShl 1 p) 0 M (by omega) (by omega) (fun _ _ _ _ => rfl) (fun k a b => ?_) (by omega) (fun k a b => ?_) ?_
  · rw [if_neg (fun u => only k a u.1 u.2), if_neg (fun u => only k a u.1 u.2)]; exact ⟨rfl, rfl⟩
  · rw [bit_shl c1.1 (by omega) a]
    constructor
    · intro u
      exact Or.inl (by simpa using u)
    · rintro (u | u)
      · simp [u]
      · exact absurd u.2 (only k a u.1)
  · unfold dpN
    rw [sumN_z p.toNat (fun t a b => if_neg (fun u => only t a (by omega) u.1))]
