/-! ===== the Model: best, count ===== -/
theorem hrS {M N : Mem} {F : Film} (h : HrK N F) (hA : M 52 = N 52) : HrK M F := fun u a b => by rw [hA]; exact h u a b
/-- the table made for what is heard: its first number -/
theorem best_ok {M : Mem} {K : Kont} {may : Int} (hI : WFf (mFilm M)) (hm : 0 ≤ may ∧ may < 128) (hk : ∀ M', (∀ r, r ≠ 52 → r ≠ 53 → M' r = M r) → K (some (gT (mFilm M) may 0 0)) M') : spX8_hears M (rV (fun M1 => spX8_fills may M1 (rI (fun r7 M7 => K (some r7) M7)))) := by
  refine ⟨hI, fun N hA hH => ?_⟩
  have f1 := hA.s.film
  refine ⟨⟨by rw [f1]; exact hI, by rw [f1]; exact hH, hm⟩, fun N2 hA2 hT => ?_⟩
  rw [f1]
  exact hk N2 (fun r a b => by rw [hA2 r b, hA r a])
theorem AgS.of2 {M M' : Mem} (h : ∀ r, r ≠ 52 → r ≠ 53 → M' r = M r) : AgS M M' := fun r i j hn => by rw [h r (by omega) (by omega)]
/-! ===== GapTellingsModel.best ===== -/
abbrev rmX8_best : Room := { frames := 4, cells := 0, slots := 0, locals := 101 }
abbrev argX8_best (a : Unit) : List PV := [.inr (30, 0)]
abbrev CtX8_best (sp : Mem → Kont → Prop) : Prop := Ct yX8_best cX8_best 1 (some .int) rmX8_best domM argX8_best (fun _ => sp)
theorem dX8_best_0 : decode cX8_best 0 = .ok (.aload_n 0, 1) := by decide +kernel
theorem dX8_best_1 : decode cX8_best 1 = .ok (.invokevirtual 137, 3) := by decide +kernel
theorem dX8_best_4 : decode cX8_best 4 = .ok (.aload_n 0, 1) := by decide +kernel
theorem dX8_best_5 : decode cX8_best 5 = .ok (.bipush 127, 2) := by decide +kernel
theorem dX8_best_7 : decode cX8_best 7 = .ok (.invokevirtual 178, 3) := by decide +kernel
theorem dX8_best_10 : decode cX8_best 10 = .ok (.ireturn, 1) := by decide +kernel
set_option maxHeartbeats 4000000 in
set_option maxRecDepth 20000 in
theorem sgX8_best_0 {κ : Kx} {K : Kont} {M : Mem} (C : Cx κ RX8 cX8_best 1 (some .int) rmX8_best domM) 
    (h :
    spX8_hears M (rV (fun M1 =>
    spX8_fills 127 M1 (rI (fun r7 M7 =>
    K (some r7) M7))))) : V κ 1 M 0 [some (.inr (30, 0))] [] K := by
  refine v_aload_n C dX8_best_0 rfl ?_
  refine v_invV C ctX8_hears dX8_best_1 ivX8_137 ⟨by decide, by decide, rfl, rfl⟩ (() : Unit) (As := []) rfl rfl rfl (by decide) rfl (st := []) rfl (Nat.le_of_ble_eq_true rfl) h (fun o M1 oM1 io1 g1 => ?_)
  replace h := rV_out g1
  clear g1
  obtain ⟨rfl, h⟩ := h
  refine v_push0 ?_
  refine v_aload_n C dX8_best_4 rfl ?_
  refine v_bipush C dX8_best_5 (by decide) (by decide) ?_
  refine v_invV C ctX8_fills dX8_best_7 ivX8_178 ⟨by decide, by decide, rfl, rfl⟩ (127 : Int) (As := [.inl 127]) rfl rfl rfl (by decide) rfl (st := []) rfl (Nat.le_of_ble_eq_true rfl) h (fun o M7 oM7 io7 g7 => ?_)
  replace h := rI_out g7
  clear g7
  obtain ⟨r7, rfl, h⟩ := h
  refine v_push ?_
  exact v_iret C dX8_best_10 h
abbrev spX8_best (M : Mem) (K : Kont) : Prop := InvM M ∧ ∀ M', InvM M' → ChM M M' (mFilm M) (M 45 0) (M 46 0) → K (some (bV0 (mFilm M) (mFilm M 1 0 0) (allS (mFilm M)))) M'
theorem ctX8_best : CtX8_best spX8_best := by
  refine ct_of (by decide) dmM (fun _ => Nat.le_of_ble_eq_true rfl) ?_
  intro κ a M K C oM h
  obtain ⟨hI, hk⟩ := h
  refine sgX8_best_0 C (best_ok hI.2.1 (by omega) (fun N hA => ?_))
  rw [bV127 hI.2.1]
  exact hk N ((AgS.of2 hA).inv hI) (AgS.of2 hA).ch
/-! ===== GapTellingsModel.bestOf ===== -/
abbrev rmX8_bestOf : Room := { frames := 5, cells := 0, slots := 0, locals := 125 }
abbrev argX8_bestOf (a : Int × Int) : List PV := [.inr (30, 0), .inl a.1, .inl a.2]
abbrev CtX8_bestOf (sp : Int → Int → Mem → Kont → Prop) : Prop := Ct yX8_bestOf cX8_bestOf 3 (some .int) rmX8_bestOf domM argX8_bestOf (fun a => sp a.1 a.2)
theorem dX8_bestOf_0 : decode cX8_bestOf 0 = .ok (.aload_n 0, 1) := by decide +kernel
theorem dX8_bestOf_1 : decode cX8_bestOf 1 = .ok (.iload_n 1, 1) := by decide +kernel
theorem dX8_bestOf_2 : decode cX8_bestOf 2 = .ok (.invokevirtual 144, 3) := by decide +kernel
theorem dX8_bestOf_5 : decode cX8_bestOf 5 = .ok (.ifCond .eq 12, 3) := by decide +kernel
theorem dX8_bestOf_8 : decode cX8_bestOf 8 = .ok (.iload_n 2, 1) := by decide +kernel
theorem dX8_bestOf_9 : decode cX8_bestOf 9 = .ok (.iconst 0, 1) := by decide +kernel
theorem dX8_bestOf_10 : decode cX8_bestOf 10 = .ok (.iconst 1, 1) := by decide +kernel
theorem dX8_bestOf_11 : decode cX8_bestOf 11 = .ok (.invokestatic 97, 3) := by decide +kernel
theorem dX8_bestOf_14 : decode cX8_bestOf 14 = .ok (.ifCond .ne 5, 3) := by decide +kernel
theorem dX8_bestOf_17 : decode cX8_bestOf 17 = .ok (.iconst (-1), 1) := by decide +kernel
theorem dX8_bestOf_18 : decode cX8_bestOf 18 = .ok (.ireturn, 1) := by decide +kernel
theorem dX8_bestOf_19 : decode cX8_bestOf 19 = .ok (.aload_n 0, 1) := by decide +kernel
theorem dX8_bestOf_20 : decode cX8_bestOf 20 = .ok (.invokevirtual 167, 3) := by decide +kernel
theorem dX8_bestOf_23 : decode cX8_bestOf 23 = .ok (.pop, 1) := by decide +kernel
theorem dX8_bestOf_24 : decode cX8_bestOf 24 = .ok (.iload_n 2, 1) := by decide +kernel
theorem dX8_bestOf_25 : decode cX8_bestOf 25 = .ok (.ifCond .ne 12, 3) := by decide +kernel
theorem dX8_bestOf_28 : decode cX8_bestOf 28 = .ok (.aload_n 0, 1) := by decide +kernel
theorem dX8_bestOf_29 : decode cX8_bestOf 29 = .ok (.getfield 34, 3) := by decide +kernel
theorem dX8_bestOf_32 : decode cX8_bestOf 32 = .ok (.iload_n 1, 1) := by decide +kernel
theorem dX8_bestOf_33 : decode cX8_bestOf 33 = .ok (.iaload, 1) := by decide +kernel
theorem dX8_bestOf_34 : decode cX8_bestOf 34 = .ok (.goto 9, 3) := by decide +kernel
theorem dX8_bestOf_37 : decode cX8_bestOf 37 = .ok (.aload_n 0, 1) := by decide +kernel
theorem dX8_bestOf_38 : decode cX8_bestOf 38 = .ok (.getfield 37, 3) := by decide +kernel
theorem dX8_bestOf_41 : decode cX8_bestOf 41 = .ok (.iload_n 1, 1) := by decide +kernel
theorem dX8_bestOf_42 : decode cX8_bestOf 42 = .ok (.iaload, 1) := by decide +kernel
theorem dX8_bestOf_43 : decode cX8_bestOf 43 = .ok (.ireturn, 1) := by decide +kernel
theorem ivX8_167 : IV RX8 167 yX8_plans cX8_plans 5 (some .int) 0 := ⟨(tb_mem (t_in5 (List.mem_of_getElem? (i := 92) (by decide +kernel))) (by decide +kernel)), (tb_mem (t_in5 (List.mem_of_getElem? (i := 94) (by decide +kernel))) (by decide +kernel)), (tb_sel (q := (⟨"GapTellingsModel", "plans", "()I"⟩, 29)) (List.mem_of_getElem? (i := 27) (by decide +kernel)) (by decide +kernel)), (tb_mem (t_in1 (List.mem_of_getElem? (i := 16) (by decide +kernel))) (by decide +kernel)), (tb_mem (t_in5 (List.mem_of_getElem? (i := 95) (by decide +kernel))) (by decide +kernel)), ⟨by decide +kernel, by decide +kernel, by decide +kernel⟩⟩
set_option maxHeartbeats 4000000 in
set_option maxRecDepth 20000 in
theorem sgX8_bestOf_0 {κ : Kx} {K : Kont} {M : Mem} (C : Cx κ RX8 cX8_bestOf 3 (some .int) rmX8_bestOf domM) (x1 : Int) (x2 : Int)
    (h :
    spX8_isPicture x1 M (rI (fun r2 M2 =>
    ((r2 = 0 →
      K (some (-1)) M2) ∧
     (¬ (r2 = 0) →
      spX8_isIn x2 0 1 M2 (rI (fun r11 M11 =>
      ((r11 ≠ 0 →
        spX8_plans M11 (rI (fun r20 M20 =>
        ((x2 ≠ 0 →
          (0 ≤ x1 ∧ x1 < 7) ∧
          K (some (M20 48 0 x1)) M20) ∧
         (¬ (x2 ≠ 0) →
          (0 ≤ x1 ∧ x1 < 7) ∧
          K (some (M20 47 0 x1)) M20))))) ∧
       (¬ (r11 ≠ 0) →
        K (some (-1)) M11))))))))) : V κ 3 M 0 [some (.inr (30, 0)), some (.inl x1), some (.inl x2)] [] K := by
  refine v_aload_n C dX8_bestOf_0 rfl ?_
  refine v_iload_n C dX8_bestOf_1 rfl ?_
  refine v_invV C ctX8_isPicture dX8_bestOf_2 ivX8_144 ⟨by decide, by decide, rfl, rfl⟩ (x1 : Int) (As := [.inl x1]) rfl rfl rfl (by decide) rfl (st := []) rfl (Nat.le_of_ble_eq_true rfl) h (fun o M2 oM2 io2 g2 => ?_)
  replace h := rI_out g2
  clear g2
  obtain ⟨r2, rfl, h⟩ := h
  refine v_push ?_
  refine v_if C dX8_bestOf_5 (tgt := 17) (by decide) (P := r2 = 0) rfl (fun c5 => ?_) (fun c5 => ?_)
  · replace h := h.1 c5
    refine v_iconst C dX8_bestOf_17 (by decide) ?_
    exact v_iret C dX8_bestOf_18 h
  · replace h := h.2 c5
    refine v_iload_n C dX8_bestOf_8 rfl ?_
    refine v_iconst C dX8_bestOf_9 (by decide) ?_
    refine v_iconst C dX8_bestOf_10 (by decide) ?_
    refine v_invS C ctX8_isIn dX8_bestOf_11 ivX8_97 ⟨by decide, by decide, rfl, rfl⟩ ((x2, 0, 1) : Int × Int × Int) rfl (st := []) rfl (Nat.le_of_ble_eq_true rfl) h (fun o M11 oM11 io11 g11 => ?_)
    replace h := rI_out g11
    clear g11
    obtain ⟨r11, rfl, h⟩ := h
    refine v_push ?_
    refine v_if C dX8_bestOf_14 (tgt := 19) (by decide) (P := r11 ≠ 0) rfl (fun c14 => ?_) (fun c14 => ?_)
    · replace h := h.1 c14
      refine v_aload_n C dX8_bestOf_19 rfl ?_
      refine v_invV C ctX8_plans dX8_bestOf_20 ivX8_167 ⟨by decide, by decide, rfl, rfl⟩ (() : Unit) (As := []) rfl rfl rfl (by decide) rfl (st := []) rfl (Nat.le_of_ble_eq_true rfl) h (fun o M20 oM20 io20 g20 => ?_)
      replace h := rI_out g20
      clear g20
      obtain ⟨r20, rfl, h⟩ := h
      refine v_push ?_
      refine v_pop C dX8_bestOf_23 ?_
      refine v_iload_n C dX8_bestOf_24 rfl ?_
      refine v_if C dX8_bestOf_25 (tgt := 37) (by decide) (P := x2 ≠ 0) rfl (fun c25 => ?_) (fun c25 => ?_)
      · replace h := h.1 c25
        refine v_aload_n C dX8_bestOf_37 rfl ?_
        refine v_get C dX8_bestOf_38 flX8_37 rfl (by decide) (by decide) (w := .inr (48, 0)) rfl ?_
        refine v_iload_n C dX8_bestOf_41 rfl ?_
        refine v_iald C dX8_bestOf_42 rfl h.1.1 h.1.2 ?_
        replace h := h.2
        exact v_iret C dX8_bestOf_43 h
      · replace h := h.2 c25
        refine v_aload_n C dX8_bestOf_28 rfl ?_
        refine v_get C dX8_bestOf_29 flX8_34 rfl (by decide) (by decide) (w := .inr (47, 0)) rfl ?_
        refine v_iload_n C dX8_bestOf_32 rfl ?_
        refine v_iald C dX8_bestOf_33 rfl h.1.1 h.1.2 ?_
        replace h := h.2
        refine v_goto C dX8_bestOf_34 (tgt := 43) (by decide) ?_
        exact v_iret C dX8_bestOf_43 h
    · replace h := h.2 c14
      refine v_iconst C dX8_bestOf_17 (by decide) ?_
      exact v_iret C dX8_bestOf_18 h
abbrev spX8_bestOf (p w : Int) (M : Mem) (K : Kont) : Prop := InvM M ∧ (¬ ofK (mFilm M) p w → K (some (-1)) M) ∧ (ofK (mFilm M) p w → ∀ M', InvM M' → ChM M M' (mFilm M) (M 45 0) (M 46 0) → K (some (if w = 0 then (bP0 (mFilm M)).1 p else (bP0 (mFilm M)).2 p)) M')
theorem ctX8_bestOf : CtX8_bestOf spX8_bestOf := by
  refine ct_of (by decide) dmM (fun _ => Nat.le_of_ble_eq_true rfl) ?_
  intro κ a M K C oM h
  obtain ⟨p, w⟩ := a
  dsimp only [spX8_bestOf] at h
  obtain ⟨hI, k1, k2⟩ := h
  have n3 := hI.2.1.2.2.2.1
  refine sgX8_bestOf_0 C p w ⟨n3, fun c => k1 (fun z => if10n c z.1), fun c => ?_⟩
  have c1 : 0 ≤ p ∧ p < mFilm M 3 0 0 := if10 c
  refine ⟨fun c2 => ?_, fun c2 => k1 (fun z => if10n (by omega) z.2)⟩
  have c3 := if10 c2
  refine ⟨hI, fun N hA hE => ?_⟩
  have := k2 ⟨c1, c3⟩ N (hA.inv hI) hA.ch
  have e := hE p c1.1 (by omega)
  refine ⟨fun c4 => ⟨by omega, ?_⟩, fun c4 => ⟨by omega, ?_⟩⟩
  · rw [if_neg c4, ← e.2] at this; exact this
  · rw [if_pos (by omega), ← e.1] at this; exact this
/-! ===== GapTellingsModel.bestBy ===== -/
abbrev rmX8_bestBy : Room := { frames := 4, cells := 0, slots := 0, locals := 101 }
abbrev argX8_bestBy (a : Int) : List PV := [.inr (30, 0), .inl a]
abbrev CtX8_bestBy (sp : Int → Mem → Kont → Prop) : Prop := Ct yX8_bestBy cX8_bestBy 2 (some .int) rmX8_bestBy domM argX8_bestBy (fun a => sp a)
theorem dX8_bestBy_0 : decode cX8_bestBy 0 = .ok (.iload_n 1, 1) := by decide +kernel
theorem dX8_bestBy_1 : decode cX8_bestBy 1 = .ok (.iconst 0, 1) := by decide +kernel
theorem dX8_bestBy_2 : decode cX8_bestBy 2 = .ok (.iconst 1, 1) := by decide +kernel
theorem dX8_bestBy_3 : decode cX8_bestBy 3 = .ok (.aload_n 0, 1) := by decide +kernel
theorem dX8_bestBy_4 : decode cX8_bestBy 4 = .ok (.getfield 74, 3) := by decide +kernel
theorem dX8_bestBy_7 : decode cX8_bestBy 7 = .ok (.ishl, 1) := by decide +kernel
theorem dX8_bestBy_8 : decode cX8_bestBy 8 = .ok (.iconst 1, 1) := by decide +kernel
theorem dX8_bestBy_9 : decode cX8_bestBy 9 = .ok (.isub, 1) := by decide +kernel
theorem dX8_bestBy_10 : decode cX8_bestBy 10 = .ok (.invokestatic 97, 3) := by decide +kernel
theorem dX8_bestBy_13 : decode cX8_bestBy 13 = .ok (.ifCond .ne 5, 3) := by decide +kernel
theorem dX8_bestBy_16 : decode cX8_bestBy 16 = .ok (.iconst (-1), 1) := by decide +kernel
theorem dX8_bestBy_17 : decode cX8_bestBy 17 = .ok (.ireturn, 1) := by decide +kernel
theorem dX8_bestBy_18 : decode cX8_bestBy 18 = .ok (.aload_n 0, 1) := by decide +kernel
theorem dX8_bestBy_19 : decode cX8_bestBy 19 = .ok (.invokevirtual 137, 3) := by decide +kernel
theorem dX8_bestBy_22 : decode cX8_bestBy 22 = .ok (.aload_n 0, 1) := by decide +kernel
theorem dX8_bestBy_23 : decode cX8_bestBy 23 = .ok (.iload_n 1, 1) := by decide +kernel
theorem dX8_bestBy_24 : decode cX8_bestBy 24 = .ok (.invokevirtual 178, 3) := by decide +kernel
theorem dX8_bestBy_27 : decode cX8_bestBy 27 = .ok (.ireturn, 1) := by decide +kernel
set_option maxHeartbeats 4000000 in
set_option maxRecDepth 20000 in
theorem sgX8_bestBy_0 {κ : Kx} {K : Kont} {M : Mem} (C : Cx κ RX8 cX8_bestBy 2 (some .int) rmX8_bestBy domM) (x1 : Int)
    (h :
    inR ((bShl 1 (M 30 0 6)) - 1) ∧
    spX8_isIn x1 0 ((bShl 1 (M 30 0 6)) - 1) M (rI (fun r10 M10 =>
    ((r10 ≠ 0 →
      spX8_hears M10 (rV (fun M19 =>
      spX8_fills x1 M19 (rI (fun r24 M24 =>
      K (some r24) M24))))) ∧
     (¬ (r10 ≠ 0) →
      K (some (-1)) M10))))) : V κ 2 M 0 [some (.inr (30, 0)), some (.inl x1)] [] K := by
  refine v_iload_n C dX8_bestBy_0 rfl ?_
  refine v_iconst C dX8_bestBy_1 (by decide) ?_
  refine v_iconst C dX8_bestBy_2 (by decide) ?_
  refine v_aload_n C dX8_bestBy_3 rfl ?_
  refine v_get C dX8_bestBy_4 flX8_74 rfl (by decide) (by decide) (w := .inl (M 30 0 6)) rfl ?_
  refine v_ishl C dX8_bestBy_7 ?_
  refine v_iconst C dX8_bestBy_8 (by decide) ?_
  refine v_isub C dX8_bestBy_9 h.1 ?_
  replace h := h.2
  refine v_invS C ctX8_isIn dX8_bestBy_10 ivX8_97 ⟨by decide, by decide, rfl, rfl⟩ ((x1, 0, (bShl 1 (M 30 0 6)) - 1) : Int × Int × Int) rfl (st := []) rfl (Nat.le_of_ble_eq_true rfl) h (fun o M10 oM10 io10 g10 => ?_)
  replace h := rI_out g10
  clear g10
  obtain ⟨r10, rfl, h⟩ := h
  refine v_push ?_
  refine v_if C dX8_bestBy_13 (tgt := 18) (by decide) (P := r10 ≠ 0) rfl (fun c13 => ?_) (fun c13 => ?_)
  · replace h := h.1 c13
    refine v_aload_n C dX8_bestBy_18 rfl ?_
    refine v_invV C ctX8_hears dX8_bestBy_19 ivX8_137 ⟨by decide, by decide, rfl, rfl⟩ (() : Unit) (As := []) rfl rfl rfl (by decide) rfl (st := []) rfl (Nat.le_of_ble_eq_true rfl) h (fun o M19 oM19 io19 g19 => ?_)
    replace h := rV_out g19
    clear g19
    obtain ⟨rfl, h⟩ := h
    refine v_push0 ?_
    refine v_aload_n C dX8_bestBy_22 rfl ?_
    refine v_iload_n C dX8_bestBy_23 rfl ?_
    refine v_invV C ctX8_fills dX8_bestBy_24 ivX8_178 ⟨by decide, by decide, rfl, rfl⟩ (x1 : Int) (As := [.inl x1]) rfl rfl rfl (by decide) rfl (st := []) rfl (Nat.le_of_ble_eq_true rfl) h (fun o M24 oM24 io24 g24 => ?_)
    replace h := rI_out g24
    clear g24
    obtain ⟨r24, rfl, h⟩ := h
    refine v_push ?_
    exact v_iret C dX8_bestBy_27 h
  · replace h := h.2 c13
    refine v_iconst C dX8_bestBy_16 (by decide) ?_
    exact v_iret C dX8_bestBy_17 h
abbrev spX8_bestBy (x : Int) (M : Mem) (K : Kont) : Prop := InvM M ∧ (¬ (0 ≤ x ∧ x ≤ allS (mFilm M)) → K (some (-1)) M) ∧ ((0 ≤ x ∧ x ≤ allS (mFilm M)) → ∀ M', InvM M' → ChM M M' (mFilm M) (M 45 0) (M 46 0) → K (some (bV0 (mFilm M) (mFilm M 1 0 0) x)) M')
theorem ctX8_bestBy : CtX8_bestBy spX8_bestBy := by
  refine ct_of (by decide) dmM (fun _ => Nat.le_of_ble_eq_true rfl) ?_
  intro κ x M K C oM h
  dsimp only [spX8_bestBy] at h
  obtain ⟨hI, k1, k2⟩ := h
  have hf := hI.2.1
  have n3 := hf.2.2.2.1
  have hw := shl_le7 n3.1 n3.2
  have eA : allS (mFilm M) = bShl 1 (M 30 0 6) - 1 := rfl
  have ew : bShl 1 (mFilm M 3 0 0) = bShl 1 (M 30 0 6) := rfl
  refine sgX8_bestBy_0 C x ⟨by omega, fun c => ?_, fun c => k1 (fun z => if10n (by omega) (by omega))⟩
  have c1 : 0 ≤ x ∧ x ≤ bShl 1 (M 30 0 6) - 1 := if10 c
  refine best_ok hf (by omega) (fun N hA => ?_)
  exact k2 (by omega) N ((AgS.of2 hA).inv hI) (AgS.of2 hA).ch
/-! ===== GapTellingsModel.bestIf ===== -/
abbrev rmX8_bestIf : Room := { frames := 4, cells := 0, slots := 0, locals := 101 }
abbrev argX8_bestIf (a : Int × Int) : List PV := [.inr (30, 0), .inl a.1, .inl a.2]
abbrev CtX8_bestIf (sp : Int → Int → Mem → Kont → Prop) : Prop := Ct yX8_bestIf cX8_bestIf 4 (some .int) rmX8_bestIf domM argX8_bestIf (fun a => sp a.1 a.2)
theorem dX8_bestIf_0 : decode cX8_bestIf 0 = .ok (.iload_n 1, 1) := by decide +kernel
theorem dX8_bestIf_1 : decode cX8_bestIf 1 = .ok (.iconst 0, 1) := by decide +kernel
theorem dX8_bestIf_2 : decode cX8_bestIf 2 = .ok (.aload_n 0, 1) := by decide +kernel
theorem dX8_bestIf_3 : decode cX8_bestIf 3 = .ok (.getfield 71, 3) := by decide +kernel
theorem dX8_bestIf_6 : decode cX8_bestIf 6 = .ok (.iconst 1, 1) := by decide +kernel
theorem dX8_bestIf_7 : decode cX8_bestIf 7 = .ok (.isub, 1) := by decide +kernel
theorem dX8_bestIf_8 : decode cX8_bestIf 8 = .ok (.invokestatic 97, 3) := by decide +kernel
theorem dX8_bestIf_11 : decode cX8_bestIf 11 = .ok (.ifCond .eq 32, 3) := by decide +kernel
theorem dX8_bestIf_14 : decode cX8_bestIf 14 = .ok (.iload_n 2, 1) := by decide +kernel
theorem dX8_bestIf_15 : decode cX8_bestIf 15 = .ok (.iconst 0, 1) := by decide +kernel
theorem dX8_bestIf_16 : decode cX8_bestIf 16 = .ok (.aload_n 0, 1) := by decide +kernel
theorem dX8_bestIf_17 : decode cX8_bestIf 17 = .ok (.getfield 13, 3) := by decide +kernel
theorem dX8_bestIf_20 : decode cX8_bestIf 20 = .ok (.iconst 3, 1) := by decide +kernel
theorem dX8_bestIf_21 : decode cX8_bestIf 21 = .ok (.iload_n 1, 1) := by decide +kernel
theorem dX8_bestIf_22 : decode cX8_bestIf 22 = .ok (.imul, 1) := by decide +kernel
theorem dX8_bestIf_23 : decode cX8_bestIf 23 = .ok (.iconst 2, 1) := by decide +kernel
theorem dX8_bestIf_24 : decode cX8_bestIf 24 = .ok (.iadd, 1) := by decide +kernel
theorem dX8_bestIf_25 : decode cX8_bestIf 25 = .ok (.iaload, 1) := by decide +kernel
theorem dX8_bestIf_26 : decode cX8_bestIf 26 = .ok (.aload_n 0, 1) := by decide +kernel
theorem dX8_bestIf_27 : decode cX8_bestIf 27 = .ok (.getfield 13, 3) := by decide +kernel
theorem dX8_bestIf_30 : decode cX8_bestIf 30 = .ok (.iconst 3, 1) := by decide +kernel
theorem dX8_bestIf_31 : decode cX8_bestIf 31 = .ok (.iload_n 1, 1) := by decide +kernel
theorem dX8_bestIf_32 : decode cX8_bestIf 32 = .ok (.imul, 1) := by decide +kernel
theorem dX8_bestIf_33 : decode cX8_bestIf 33 = .ok (.iconst 1, 1) := by decide +kernel
theorem dX8_bestIf_34 : decode cX8_bestIf 34 = .ok (.iadd, 1) := by decide +kernel
theorem dX8_bestIf_35 : decode cX8_bestIf 35 = .ok (.iaload, 1) := by decide +kernel
theorem dX8_bestIf_36 : decode cX8_bestIf 36 = .ok (.isub, 1) := by decide +kernel
theorem dX8_bestIf_37 : decode cX8_bestIf 37 = .ok (.invokestatic 97, 3) := by decide +kernel
theorem dX8_bestIf_40 : decode cX8_bestIf 40 = .ok (.ifCond .ne 5, 3) := by decide +kernel
theorem dX8_bestIf_43 : decode cX8_bestIf 43 = .ok (.iconst (-1), 1) := by decide +kernel
theorem dX8_bestIf_44 : decode cX8_bestIf 44 = .ok (.ireturn, 1) := by decide +kernel
theorem dX8_bestIf_45 : decode cX8_bestIf 45 = .ok (.aload_n 0, 1) := by decide +kernel
theorem dX8_bestIf_46 : decode cX8_bestIf 46 = .ok (.getfield 13, 3) := by decide +kernel
theorem dX8_bestIf_49 : decode cX8_bestIf 49 = .ok (.iconst 3, 1) := by decide +kernel
theorem dX8_bestIf_50 : decode cX8_bestIf 50 = .ok (.iload_n 1, 1) := by decide +kernel
theorem dX8_bestIf_51 : decode cX8_bestIf 51 = .ok (.imul, 1) := by decide +kernel
theorem dX8_bestIf_52 : decode cX8_bestIf 52 = .ok (.iconst 2, 1) := by decide +kernel
theorem dX8_bestIf_53 : decode cX8_bestIf 53 = .ok (.iadd, 1) := by decide +kernel
theorem dX8_bestIf_54 : decode cX8_bestIf 54 = .ok (.dup2, 1) := by decide +kernel
theorem dX8_bestIf_55 : decode cX8_bestIf 55 = .ok (.iaload, 1) := by decide +kernel
theorem dX8_bestIf_56 : decode cX8_bestIf 56 = .ok (.iload_n 2, 1) := by decide +kernel
theorem dX8_bestIf_57 : decode cX8_bestIf 57 = .ok (.isub, 1) := by decide +kernel
theorem dX8_bestIf_58 : decode cX8_bestIf 58 = .ok (.iastore, 1) := by decide +kernel
theorem dX8_bestIf_59 : decode cX8_bestIf 59 = .ok (.aload_n 0, 1) := by decide +kernel
theorem dX8_bestIf_60 : decode cX8_bestIf 60 = .ok (.invokevirtual 137, 3) := by decide +kernel
theorem dX8_bestIf_63 : decode cX8_bestIf 63 = .ok (.aload_n 0, 1) := by decide +kernel
theorem dX8_bestIf_64 : decode cX8_bestIf 64 = .ok (.bipush 127, 2) := by decide +kernel
theorem dX8_bestIf_66 : decode cX8_bestIf 66 = .ok (.invokevirtual 178, 3) := by decide +kernel
theorem dX8_bestIf_69 : decode cX8_bestIf 69 = .ok (.istore_n 3, 1) := by decide +kernel
theorem dX8_bestIf_70 : decode cX8_bestIf 70 = .ok (.aload_n 0, 1) := by decide +kernel
theorem dX8_bestIf_71 : decode cX8_bestIf 71 = .ok (.getfield 13, 3) := by decide +kernel
theorem dX8_bestIf_74 : decode cX8_bestIf 74 = .ok (.iconst 3, 1) := by decide +kernel
theorem dX8_bestIf_75 : decode cX8_bestIf 75 = .ok (.iload_n 1, 1) := by decide +kernel
theorem dX8_bestIf_76 : decode cX8_bestIf 76 = .ok (.imul, 1) := by decide +kernel
theorem dX8_bestIf_77 : decode cX8_bestIf 77 = .ok (.iconst 2, 1) := by decide +kernel
theorem dX8_bestIf_78 : decode cX8_bestIf 78 = .ok (.iadd, 1) := by decide +kernel
theorem dX8_bestIf_79 : decode cX8_bestIf 79 = .ok (.dup2, 1) := by decide +kernel
theorem dX8_bestIf_80 : decode cX8_bestIf 80 = .ok (.iaload, 1) := by decide +kernel
theorem dX8_bestIf_81 : decode cX8_bestIf 81 = .ok (.iload_n 2, 1) := by decide +kernel
theorem dX8_bestIf_82 : decode cX8_bestIf 82 = .ok (.iadd, 1) := by decide +kernel
theorem dX8_bestIf_83 : decode cX8_bestIf 83 = .ok (.iastore, 1) := by decide +kernel
theorem dX8_bestIf_84 : decode cX8_bestIf 84 = .ok (.iload_n 3, 1) := by decide +kernel
theorem dX8_bestIf_85 : decode cX8_bestIf 85 = .ok (.ireturn, 1) := by decide +kernel
set_option maxHeartbeats 4000000 in
set_option maxRecDepth 20000 in
theorem sgX8_bestIf_0 {κ : Kx} {K : Kont} {M : Mem} (C : Cx κ RX8 cX8_bestIf 4 (some .int) rmX8_bestIf domM) (x1 : Int) (x2 : Int)
    (h :
    inR ((M 30 0 4) - 1) ∧
    spX8_isIn x1 0 ((M 30 0 4) - 1) M (rI (fun r8 M8 =>
    ((r8 = 0 →
      K (some (-1)) M8) ∧
     (¬ (r8 = 0) →
      inR (3 * x1) ∧
      inR ((3 * x1) + 2) ∧
      (0 ≤ ((3 * x1) + 2) ∧ ((3 * x1) + 2) < 36) ∧
      inR (3 * x1) ∧
      inR ((3 * x1) + 1) ∧
      (0 ≤ ((3 * x1) + 1) ∧ ((3 * x1) + 1) < 36) ∧
      inR ((M8 35 0 ((3 * x1) + 2)) - (M8 35 0 ((3 * x1) + 1))) ∧
      spX8_isIn x2 0 ((M8 35 0 ((3 * x1) + 2)) - (M8 35 0 ((3 * x1) + 1))) M8 (rI (fun r37 M37 =>
      ((r37 ≠ 0 →
        inR (3 * x1) ∧
        inR ((3 * x1) + 2) ∧
        (0 ≤ ((3 * x1) + 2) ∧ ((3 * x1) + 2) < 36) ∧
        inR ((M37 35 0 ((3 * x1) + 2)) - x2) ∧
        (0 ≤ ((3 * x1) + 2) ∧ ((3 * x1) + 2) < 36) ∧
        ∀ M58 : Mem, M58 = up3 M37 35 0 ((3 * x1) + 2) ((M37 35 0 ((3 * x1) + 2)) - x2) →
        spX8_hears M58 (rV (fun M60 =>
        spX8_fills 127 M60 (rI (fun r66 M66 =>
        inR (3 * x1) ∧
        inR ((3 * x1) + 2) ∧
        (0 ≤ ((3 * x1) + 2) ∧ ((3 * x1) + 2) < 36) ∧
        inR ((M66 35 0 ((3 * x1) + 2)) + x2) ∧
        (0 ≤ ((3 * x1) + 2) ∧ ((3 * x1) + 2) < 36) ∧
        ∀ M83 : Mem, M83 = up3 M66 35 0 ((3 * x1) + 2) ((M66 35 0 ((3 * x1) + 2)) + x2) →
        K (some r66) M83))))) ∧
       (¬ (r37 ≠ 0) →
        K (some (-1)) M37))))))))) : V κ 4 M 0 [some (.inr (30, 0)), some (.inl x1), some (.inl x2), none] [] K := by
  refine v_iload_n C dX8_bestIf_0 rfl ?_
  refine v_iconst C dX8_bestIf_1 (by decide) ?_
  refine v_aload_n C dX8_bestIf_2 rfl ?_
  refine v_get C dX8_bestIf_3 flX8_71 rfl (by decide) (by decide) (w := .inl (M 30 0 4)) rfl ?_
  refine v_iconst C dX8_bestIf_6 (by decide) ?_
  refine v_isub C dX8_bestIf_7 h.1 ?_
  replace h := h.2
  refine v_invS C ctX8_isIn dX8_bestIf_8 ivX8_97 ⟨by decide, by decide, rfl, rfl⟩ ((x1, 0, (M 30 0 4) - 1) : Int × Int × Int) rfl (st := []) rfl (Nat.le_of_ble_eq_true rfl) h (fun o M8 oM8 io8 g8 => ?_)
  replace h := rI_out g8
  clear g8
  obtain ⟨r8, rfl, h⟩ := h
  refine v_push ?_
  refine v_if C dX8_bestIf_11 (tgt := 43) (by decide) (P := r8 = 0) rfl (fun c11 => ?_) (fun c11 => ?_)
  · replace h := h.1 c11
    refine v_iconst C dX8_bestIf_43 (by decide) ?_
    exact v_iret C dX8_bestIf_44 h
  · replace h := h.2 c11
    refine v_iload_n C dX8_bestIf_14 rfl ?_
    refine v_iconst C dX8_bestIf_15 (by decide) ?_
    refine v_aload_n C dX8_bestIf_16 rfl ?_
    refine v_get C dX8_bestIf_17 flX8_13 rfl (by decide) (by decide) (w := .inr (35, 0)) rfl ?_
    refine v_iconst C dX8_bestIf_20 (by decide) ?_
    refine v_iload_n C dX8_bestIf_21 rfl ?_
    refine v_imul C dX8_bestIf_22 h.1 ?_
    replace h := h.2
    refine v_iconst C dX8_bestIf_23 (by decide) ?_
    refine v_iadd C dX8_bestIf_24 h.1 ?_
    replace h := h.2
    refine v_iald C dX8_bestIf_25 rfl h.1.1 h.1.2 ?_
    replace h := h.2
    refine v_aload_n C dX8_bestIf_26 rfl ?_
    refine v_get C dX8_bestIf_27 flX8_13 rfl (by decide) (by decide) (w := .inr (35, 0)) rfl ?_
    refine v_iconst C dX8_bestIf_30 (by decide) ?_
    refine v_iload_n C dX8_bestIf_31 rfl ?_
    refine v_imul C dX8_bestIf_32 h.1 ?_
    replace h := h.2
    refine v_iconst C dX8_bestIf_33 (by decide) ?_
    refine v_iadd C dX8_bestIf_34 h.1 ?_
    replace h := h.2
    refine v_iald C dX8_bestIf_35 rfl h.1.1 h.1.2 ?_
    replace h := h.2
    refine v_isub C dX8_bestIf_36 h.1 ?_
    replace h := h.2
    refine v_invS C ctX8_isIn dX8_bestIf_37 ivX8_97 ⟨by decide, by decide, rfl, rfl⟩ ((x2, 0, (M8 35 0 ((3 * x1) + 2)) - (M8 35 0 ((3 * x1) + 1))) : Int × Int × Int) rfl (st := []) rfl (Nat.le_of_ble_eq_true rfl) h (fun o M37 oM37 io37 g37 => ?_)
    replace h := rI_out g37
    clear g37
    obtain ⟨r37, rfl, h⟩ := h
    refine v_push ?_
    refine v_if C dX8_bestIf_40 (tgt := 45) (by decide) (P := r37 ≠ 0) rfl (fun c40 => ?_) (fun c40 => ?_)
    · replace h := h.1 c40
      refine v_aload_n C dX8_bestIf_45 rfl ?_
      refine v_get C dX8_bestIf_46 flX8_13 rfl (by decide) (by decide) (w := .inr (35, 0)) rfl ?_
      refine v_iconst C dX8_bestIf_49 (by decide) ?_
      refine v_iload_n C dX8_bestIf_50 rfl ?_
      refine v_imul C dX8_bestIf_51 h.1 ?_
      replace h := h.2
      refine v_iconst C dX8_bestIf_52 (by decide) ?_
      refine v_iadd C dX8_bestIf_53 h.1 ?_
      replace h := h.2
      refine v_dup2 C dX8_bestIf_54 ?_
      refine v_iald C dX8_bestIf_55 rfl h.1.1 h.1.2 ?_
      replace h := h.2
      refine v_iload_n C dX8_bestIf_56 rfl ?_
      refine v_isub C dX8_bestIf_57 h.1 ?_
      replace h := h.2
      refine v_iast C dX8_bestIf_58 rfl h.1.1 h.1.2 ?_
      replace h := h.2
      refine v_nmM (fun M58 eM58 => ?_)
      replace h := h M58 eM58
      refine v_aload_n C dX8_bestIf_59 rfl ?_
      refine v_invV C ctX8_hears dX8_bestIf_60 ivX8_137 ⟨by decide, by decide, rfl, rfl⟩ (() : Unit) (As := []) rfl rfl rfl (by decide) rfl (st := []) rfl (Nat.le_of_ble_eq_true rfl) h (fun o M60 oM60 io60 g60 => ?_)
      replace h := rV_out g60
      clear g60
      obtain ⟨rfl, h⟩ := h
      refine v_push0 ?_
      refine v_aload_n C dX8_bestIf_63 rfl ?_
      refine v_bipush C dX8_bestIf_64 (by decide) (by decide) ?_
      refine v_invV C ctX8_fills dX8_bestIf_66 ivX8_178 ⟨by decide, by decide, rfl, rfl⟩ (127 : Int) (As := [.inl 127]) rfl rfl rfl (by decide) rfl (st := []) rfl (Nat.le_of_ble_eq_true rfl) h (fun o M66 oM66 io66 g66 => ?_)
      replace h := rI_out g66
      clear g66
      obtain ⟨r66, rfl, h⟩ := h
      refine v_push ?_
      refine v_istore_n C dX8_bestIf_69 (by decide) (Nat.le_of_ble_eq_true rfl) (lv' := [some (.inr (30, 0)), some (.inl x1), some (.inl x2), some (.inl r66)]) rfl ?_
      refine v_aload_n C dX8_bestIf_70 rfl ?_
      refine v_get C dX8_bestIf_71 flX8_13 rfl (by decide) (by decide) (w := .inr (35, 0)) rfl ?_
      refine v_iconst C dX8_bestIf_74 (by decide) ?_
      refine v_iload_n C dX8_bestIf_75 rfl ?_
      refine v_imul C dX8_bestIf_76 h.1 ?_
      replace h := h.2
      refine v_iconst C dX8_bestIf_77 (by decide) ?_
      refine v_iadd C dX8_bestIf_78 h.1 ?_
      replace h := h.2
      refine v_dup2 C dX8_bestIf_79 ?_
      refine v_iald C dX8_bestIf_80 rfl h.1.1 h.1.2 ?_
      replace h := h.2
      refine v_iload_n C dX8_bestIf_81 rfl ?_
      refine v_iadd C dX8_bestIf_82 h.1 ?_
      replace h := h.2
      refine v_iast C dX8_bestIf_83 rfl h.1.1 h.1.2 ?_
      replace h := h.2
      refine v_nmM (fun M83 eM83 => ?_)
      replace h := h M83 eM83
      refine v_iload_n C dX8_bestIf_84 rfl ?_
      exact v_iret C dX8_bestIf_85 h
    · replace h := h.2 c40
      refine v_iconst C dX8_bestIf_43 (by decide) ?_
      exact v_iret C dX8_bestIf_44 h
theorem mF_sh {M N : Mem} {s n : Int} (hs : 0 ≤ s) (e : N = up3 M 35 0 (3 * s + 2) (M 35 0 (3 * s + 2) - n)) : mFilm N = shF (mFilm M) s n := by
  rw [e]
  funext t a b
  unfold mFilm shF
  have q : ∀ a : Int, ((3 * a + 2 = 3 * s + 2) = (a = s)) := fun a => by apply propext; omega
  have q1 : ∀ a : Int, ¬ (3 * a + 1 = 3 * s + 2) := fun a => by omega
  have q0 : ∀ a : Int, ¬ (3 * a = 3 * s + 2) := fun a => by omega
  split <;> simp [up3, q, q1, q0, hs]
  simp_all
abbrev spX8_bestIf (s n : Int) (M : Mem) (K : Kont) : Prop := InvM M ∧ (¬ ifK (mFilm M) s n → K (some (-1)) M) ∧ (ifK (mFilm M) s n → ∀ M', InvM M' → ChM M M' (mFilm M) (M 45 0) (M 46 0) → K (some (bV0 (shF (mFilm M) s n) (mFilm M 1 0 0) (allS (mFilm M)))) M')
theorem ctX8_bestIf : CtX8_bestIf spX8_bestIf := by
  refine ct_of (by decide) dmM (fun _ => Nat.le_of_ble_eq_true rfl) ?_
  intro κ a M K C oM h
  obtain ⟨s, n⟩ := a
  dsimp only [spX8_bestIf] at h
  obtain ⟨hI, k1, k2⟩ := h
  have hf := hI.2.1
  have n2 := hf.2.2.1
  have T := hf.1
  have e2 : mFilm M 2 0 0 = M 30 0 4 := rfl
  have e7 : mFilm M 7 s 0 = M 35 0 (3 * s + 2) := rfl
  have e6 : mFilm M 6 s 0 = M 35 0 (3 * s + 1) := rfl
  refine sgX8_bestIf_0 C s n ⟨by omega, fun c => k1 (fun z => if10n c (by omega)), fun c => ?_⟩
  have c1 : 0 ≤ s ∧ s ≤ M 30 0 4 - 1 := if10 c
  have ws := hf.2.2.2.2.2.1 s c1.1 (by omega)
  unfold WFs at ws
  refine ⟨by omega, by omega, by omega, by omega, by omega, by omega, by omega, fun c2 => ?_, fun c2 => k1 (fun z => if10n (by omega) (by omega))⟩
  have c3 : 0 ≤ n ∧ n ≤ M 35 0 (3 * s + 2) - M 35 0 (3 * s + 1) := if10 c2
  refine ⟨by omega, by omega, by omega, by omega, by omega, fun N e => ?_⟩
  have fN := mF_sh c1.1 e
  have hw : WFf (shF (mFilm M) s n) := wf_shF hf (Or.inr ⟨c1.1, by omega, by omega, by omega⟩)
  refine best_ok (K := rI (fun r66 M66 => inR (3 * s) ∧ inR (3 * s + 2) ∧ (0 ≤ 3 * s + 2 ∧ 3 * s + 2 < 36) ∧ inR (M66 35 0 (3 * s + 2) + n) ∧ (0 ≤ 3 * s + 2 ∧ 3 * s + 2 < 36) ∧ ∀ M83 : Mem, M83 = up3 M66 35 0 (3 * s + 2) (M66 35 0 (3 * s + 2) + n) → K (some r66) M83)) (by rw [fN]; exact hw) (by omega) (fun N2 hA => ?_)
  have v : N2 35 0 (3 * s + 2) = M 35 0 (3 * s + 2) - n := by rw [hA 35 (by decide) (by decide), e, up3_s]
  show inR (3 * s) ∧ inR (3 * s + 2) ∧ (0 ≤ 3 * s + 2 ∧ 3 * s + 2 < 36) ∧ inR (N2 35 0 (3 * s + 2) + n) ∧ (0 ≤ 3 * s + 2 ∧ 3 * s + 2 < 36) ∧ ∀ M83 : Mem, M83 = up3 N2 35 0 (3 * s + 2) (N2 35 0 (3 * s + 2) + n) → K (some (gT (mFilm N) 127 0 0)) M83
  rw [v, fN, bV127 hw]
  refine ⟨by omega, by omega, by omega, by omega, by omega, fun N3 e3 => ?_⟩
  have hA3 : AgS M N3 := by
    intro r i j hn
    rw [e3]
    by_cases z : r = 35 ∧ i = 0 ∧ j = 3 * s + 2
    · rw [z.1, z.2.1, z.2.2, up3_s]
      omega
    · rw [show up3 N2 35 0 (3 * s + 2) _ r i j = N2 r i j from if_neg z, hA r (by omega) (by omega), e]
      exact if_neg z
  exact k2 ⟨by omega, by omega⟩ N3 (hA3.inv hI) hA3.ch
/-! ===== GapTellingsModel.bestBreath ===== -/
abbrev rmX8_bestBreath : Room := { frames := 4, cells := 0, slots := 0, locals := 101 }
abbrev argX8_bestBreath (a : Int) : List PV := [.inr (30, 0), .inl a]
abbrev CtX8_bestBreath (sp : Int → Mem → Kont → Prop) : Prop := Ct yX8_bestBreath cX8_bestBreath 4 (some .int) rmX8_bestBreath domM argX8_bestBreath (fun a => sp a)
theorem dX8_bestBreath_0 : decode cX8_bestBreath 0 = .ok (.iload_n 1, 1) := by decide +kernel
theorem dX8_bestBreath_1 : decode cX8_bestBreath 1 = .ok (.iconst 0, 1) := by decide +kernel
theorem dX8_bestBreath_2 : decode cX8_bestBreath 2 = .ok (.bipush 9, 2) := by decide +kernel
theorem dX8_bestBreath_4 : decode cX8_bestBreath 4 = .ok (.invokestatic 97, 3) := by decide +kernel
theorem dX8_bestBreath_7 : decode cX8_bestBreath 7 = .ok (.ifCond .ne 5, 3) := by decide +kernel
theorem dX8_bestBreath_10 : decode cX8_bestBreath 10 = .ok (.iconst (-1), 1) := by decide +kernel
theorem dX8_bestBreath_11 : decode cX8_bestBreath 11 = .ok (.ireturn, 1) := by decide +kernel
theorem dX8_bestBreath_12 : decode cX8_bestBreath 12 = .ok (.aload_n 0, 1) := by decide +kernel
theorem dX8_bestBreath_13 : decode cX8_bestBreath 13 = .ok (.getfield 68, 3) := by decide +kernel
theorem dX8_bestBreath_16 : decode cX8_bestBreath 16 = .ok (.istore_n 2, 1) := by decide +kernel
theorem dX8_bestBreath_17 : decode cX8_bestBreath 17 = .ok (.aload_n 0, 1) := by decide +kernel
theorem dX8_bestBreath_18 : decode cX8_bestBreath 18 = .ok (.iload_n 1, 1) := by decide +kernel
theorem dX8_bestBreath_19 : decode cX8_bestBreath 19 = .ok (.putfield 68, 3) := by decide +kernel
theorem dX8_bestBreath_22 : decode cX8_bestBreath 22 = .ok (.aload_n 0, 1) := by decide +kernel
theorem dX8_bestBreath_23 : decode cX8_bestBreath 23 = .ok (.invokevirtual 137, 3) := by decide +kernel
theorem dX8_bestBreath_26 : decode cX8_bestBreath 26 = .ok (.aload_n 0, 1) := by decide +kernel
theorem dX8_bestBreath_27 : decode cX8_bestBreath 27 = .ok (.bipush 127, 2) := by decide +kernel
theorem dX8_bestBreath_29 : decode cX8_bestBreath 29 = .ok (.invokevirtual 178, 3) := by decide +kernel
theorem dX8_bestBreath_32 : decode cX8_bestBreath 32 = .ok (.istore_n 3, 1) := by decide +kernel
theorem dX8_bestBreath_33 : decode cX8_bestBreath 33 = .ok (.aload_n 0, 1) := by decide +kernel
theorem dX8_bestBreath_34 : decode cX8_bestBreath 34 = .ok (.iload_n 2, 1) := by decide +kernel
theorem dX8_bestBreath_35 : decode cX8_bestBreath 35 = .ok (.putfield 68, 3) := by decide +kernel
theorem dX8_bestBreath_38 : decode cX8_bestBreath 38 = .ok (.iload_n 3, 1) := by decide +kernel
theorem dX8_bestBreath_39 : decode cX8_bestBreath 39 = .ok (.ireturn, 1) := by decide +kernel
set_option maxHeartbeats 4000000 in
set_option maxRecDepth 20000 in
theorem sgX8_bestBreath_0 {κ : Kx} {K : Kont} {M : Mem} (C : Cx κ RX8 cX8_bestBreath 4 (some .int) rmX8_bestBreath domM) (x1 : Int)
    (h :
    spX8_isIn x1 0 9 M (rI (fun r4 M4 =>
    ((r4 ≠ 0 →
      ∀ M19 : Mem, M19 = up3 M4 30 0 3 x1 →
      spX8_hears M19 (rV (fun M23 =>
      spX8_fills 127 M23 (rI (fun r29 M29 =>
      ∀ M35 : Mem, M35 = up3 M29 30 0 3 (M4 30 0 3) →
      K (some r29) M35))))) ∧
     (¬ (r4 ≠ 0) →
      K (some (-1)) M4))))) : V κ 4 M 0 [some (.inr (30, 0)), some (.inl x1), none, none] [] K := by
  refine v_iload_n C dX8_bestBreath_0 rfl ?_
  refine v_iconst C dX8_bestBreath_1 (by decide) ?_
  refine v_bipush C dX8_bestBreath_2 (by decide) (by decide) ?_
  refine v_invS C ctX8_isIn dX8_bestBreath_4 ivX8_97 ⟨by decide, by decide, rfl, rfl⟩ ((x1, 0, 9) : Int × Int × Int) rfl (st := []) rfl (Nat.le_of_ble_eq_true rfl) h (fun o M4 oM4 io4 g4 => ?_)
  replace h := rI_out g4
  clear g4
  obtain ⟨r4, rfl, h⟩ := h
  refine v_push ?_
  refine v_if C dX8_bestBreath_7 (tgt := 12) (by decide) (P := r4 ≠ 0) rfl (fun c7 => ?_) (fun c7 => ?_)
  · replace h := h.1 c7
    refine v_aload_n C dX8_bestBreath_12 rfl ?_
    refine v_get C dX8_bestBreath_13 flX8_68 rfl (by decide) (by decide) (w := .inl (M4 30 0 3)) rfl ?_
    refine v_istore_n C dX8_bestBreath_16 (by decide) (Nat.le_of_ble_eq_true rfl) (lv' := [some (.inr (30, 0)), some (.inl x1), some (.inl (M4 30 0 3)), none]) rfl ?_
    refine v_aload_n C dX8_bestBreath_17 rfl ?_
    refine v_iload_n C dX8_bestBreath_18 rfl ?_
    refine v_put C dX8_bestBreath_19 plX8_68 rfl (by decide) (by decide) rfl rfl rfl ?_
    refine v_nmM (fun M19 eM19 => ?_)
    replace h := h M19 eM19
    refine v_aload_n C dX8_bestBreath_22 rfl ?_
    refine v_invV C ctX8_hears dX8_bestBreath_23 ivX8_137 ⟨by decide, by decide, rfl, rfl⟩ (() : Unit) (As := []) rfl rfl rfl (by decide) rfl (st := []) rfl (Nat.le_of_ble_eq_true rfl) h (fun o M23 oM23 io23 g23 => ?_)
    replace h := rV_out g23
    clear g23
    obtain ⟨rfl, h⟩ := h
    refine v_push0 ?_
    refine v_aload_n C dX8_bestBreath_26 rfl ?_
    refine v_bipush C dX8_bestBreath_27 (by decide) (by decide) ?_
    refine v_invV C ctX8_fills dX8_bestBreath_29 ivX8_178 ⟨by decide, by decide, rfl, rfl⟩ (127 : Int) (As := [.inl 127]) rfl rfl rfl (by decide) rfl (st := []) rfl (Nat.le_of_ble_eq_true rfl) h (fun o M29 oM29 io29 g29 => ?_)
    replace h := rI_out g29
    clear g29
    obtain ⟨r29, rfl, h⟩ := h
    refine v_push ?_
    refine v_istore_n C dX8_bestBreath_32 (by decide) (Nat.le_of_ble_eq_true rfl) (lv' := [some (.inr (30, 0)), some (.inl x1), some (.inl (M4 30 0 3)), some (.inl r29)]) rfl ?_
    refine v_aload_n C dX8_bestBreath_33 rfl ?_
    refine v_iload_n C dX8_bestBreath_34 rfl ?_
    refine v_put C dX8_bestBreath_35 plX8_68 rfl (by decide) (by decide) rfl rfl rfl ?_
    refine v_nmM (fun M35 eM35 => ?_)
    replace h := h M35 eM35
    refine v_iload_n C dX8_bestBreath_38 rfl ?_
    exact v_iret C dX8_bestBreath_39 h
  · replace h := h.2 c7
    refine v_iconst C dX8_bestBreath_10 (by decide) ?_
    exact v_iret C dX8_bestBreath_11 h
theorem mkN_B (F : Film) (b t : Int) : ∀ n : Nat, mkN (sFB F b) t n = mkN F t n := by
  intro n
  induction n with
  | zero => rfl
  | succ n ih =>
    unfold mkN
    rw [ih]
    rfl
theorem mkF_B (F : Film) (b t : Int) : mkF (sFB F b) t = mkF F t := mkN_B F b t _
theorem spb_B (F : Film) (b : Int) : spb (sFB F b) = spb F := by
  funext t
  exact sumN_c _ (fun u _ _ => by unfold spc; rw [mkF_B])
theorem csb_B (F : Film) (b : Int) : csb (sFB F b) = csb F := by
  funext t
  exact sumN_c _ (fun u _ _ => by unfold cst; rw [mkF_B]; rfl)
theorem bV_B (F : Film) (S Q : Int → Int) (B : Int) (f : Int → Int → Int) (x t set p : Int) : ∀ (k : Nat) (b : Int), bV (sFB F x) S Q B f t set p k b = bV F S Q B f t set p k b := by
  intro k
  induction k with
  | zero => intro b; rfl
  | succ k ih =>
    intro b
    unfold bV
    rw [ih]
    rfl
theorem bP_B (F : Film) (S Q : Int → Int) (B : Int) (f : Int → Int → Int) (x t set may : Int) : ∀ (k : Nat), bP (sFB F x) S Q B f t set may k = bP F S Q B f t set may k := by
  intro k
  induction k with
  | zero => rfl
  | succ k ih =>
    unfold bP
    rw [ih, bV_B]
    rfl
theorem tab_B (F : Film) (S Q : Int → Int) (B may x : Int) : ∀ (k : Nat), tabR (sFB F x) S Q B may k = tabR F S Q B may k := by
  intro k
  induction k with
  | zero => rfl
  | succ k ih =>
    funext t set
    unfold tabR
    rw [ih, bP_B]
    rfl
abbrev spX8_bestBreath (b : Int) (M : Mem) (K : Kont) : Prop := InvM M ∧ (¬ (0 ≤ b ∧ b ≤ 9) → K (some (-1)) M) ∧ ((0 ≤ b ∧ b ≤ 9) → ∀ M', InvM M' → ChM M M' (mFilm M) (M 45 0) (M 46 0) → K (some (bV0 (mFilm M) b (allS (mFilm M)))) M')
theorem ctX8_bestBreath : CtX8_bestBreath spX8_bestBreath := by
  refine ct_of (by decide) dmM (fun _ => Nat.le_of_ble_eq_true rfl) ?_
  intro κ b M K C oM h
  dsimp only [spX8_bestBreath] at h
  obtain ⟨hI, k1, k2⟩ := h
  have hf := hI.2.1
  refine sgX8_bestBreath_0 C b ⟨fun c => ?_, fun c => k1 (if10n (by omega))⟩
  have c1 := if10 c
  intro N e
  have fN : mFilm N = sFB (mFilm M) b := by
    rw [e]
    funext t a b
    unfold mFilm sFB
    split <;> simp [up3]
    simp_all
  have hw : WFf (sFB (mFilm M) b) := wf_B hf c1
  refine best_ok (K := rI (fun r29 M29 => ∀ M35 : Mem, M35 = up3 M29 30 0 3 (M 30 0 3) → K (some r29) M35)) (by rw [fN]; exact hw) (by omega) (fun N2 hA => ?_)
  show ∀ M35 : Mem, M35 = up3 N2 30 0 3 (M 30 0 3) → K (some (gT (mFilm N) 127 0 0)) M35
  intro N3 e3
  have hA3 : AgS M N3 := by
    intro r i j hn
    rw [e3]
    by_cases z : r = 30 ∧ i = 0 ∧ j = 3
    · rw [z.1, z.2.1, z.2.2, up3_s]
    · rw [show up3 N2 30 0 3 _ r i j = N2 r i j from if_neg z, hA r (by omega) (by omega), e]
      exact if_neg z
  have val : gT (mFilm N) 127 0 0 = bV0 (mFilm M) b (allS (mFilm M)) := by
    rw [fN, bV127 hw]
    unfold bV0
    rw [tab_B, spb_B, csb_B]
    rfl
  rw [val]
  exact k2 c1 N3 (hA3.inv hI) hA3.ch
/-! ===== GapTellingsModel.adopt ===== -/
abbrev rmX8_adopt : Room := { frames := 5, cells := 0, slots := 0, locals := 125 }
abbrev argX8_adopt (a : Unit) : List PV := [.inr (30, 0)]
abbrev CtX8_adopt (sp : Mem → Kont → Prop) : Prop := Ct yX8_adopt cX8_adopt 3 (some .int) rmX8_adopt domM argX8_adopt (fun _ => sp)
theorem dX8_adopt_0 : decode cX8_adopt 0 = .ok (.aload_n 0, 1) := by decide +kernel
theorem dX8_adopt_1 : decode cX8_adopt 1 = .ok (.invokevirtual 167, 3) := by decide +kernel
theorem dX8_adopt_4 : decode cX8_adopt 4 = .ok (.pop, 1) := by decide +kernel
theorem dX8_adopt_5 : decode cX8_adopt 5 = .ok (.iconst 0, 1) := by decide +kernel
theorem dX8_adopt_6 : decode cX8_adopt 6 = .ok (.istore_n 1, 1) := by decide +kernel
theorem dX8_adopt_7 : decode cX8_adopt 7 = .ok (.iconst 0, 1) := by decide +kernel
theorem dX8_adopt_8 : decode cX8_adopt 8 = .ok (.istore_n 2, 1) := by decide +kernel
theorem dX8_adopt_9 : decode cX8_adopt 9 = .ok (.iload_n 2, 1) := by decide +kernel
theorem dX8_adopt_10 : decode cX8_adopt 10 = .ok (.bipush 7, 2) := by decide +kernel
theorem dX8_adopt_12 : decode cX8_adopt 12 = .ok (.if_icmp .ge 50, 3) := by decide +kernel
theorem dX8_adopt_15 : decode cX8_adopt 15 = .ok (.aload_n 0, 1) := by decide +kernel
theorem dX8_adopt_16 : decode cX8_adopt 16 = .ok (.getfield 28, 3) := by decide +kernel
theorem dX8_adopt_19 : decode cX8_adopt 19 = .ok (.iload_n 2, 1) := by decide +kernel
theorem dX8_adopt_20 : decode cX8_adopt 20 = .ok (.aload_n 0, 1) := by decide +kernel
theorem dX8_adopt_21 : decode cX8_adopt 21 = .ok (.getfield 34, 3) := by decide +kernel
theorem dX8_adopt_24 : decode cX8_adopt 24 = .ok (.iload_n 2, 1) := by decide +kernel
theorem dX8_adopt_25 : decode cX8_adopt 25 = .ok (.iaload, 1) := by decide +kernel
theorem dX8_adopt_26 : decode cX8_adopt 26 = .ok (.iastore, 1) := by decide +kernel
theorem dX8_adopt_27 : decode cX8_adopt 27 = .ok (.aload_n 0, 1) := by decide +kernel
theorem dX8_adopt_28 : decode cX8_adopt 28 = .ok (.getfield 31, 3) := by decide +kernel
theorem dX8_adopt_31 : decode cX8_adopt 31 = .ok (.iload_n 2, 1) := by decide +kernel
theorem dX8_adopt_32 : decode cX8_adopt 32 = .ok (.aload_n 0, 1) := by decide +kernel
theorem dX8_adopt_33 : decode cX8_adopt 33 = .ok (.getfield 37, 3) := by decide +kernel
theorem dX8_adopt_36 : decode cX8_adopt 36 = .ok (.iload_n 2, 1) := by decide +kernel
theorem dX8_adopt_37 : decode cX8_adopt 37 = .ok (.iaload, 1) := by decide +kernel
theorem dX8_adopt_38 : decode cX8_adopt 38 = .ok (.iastore, 1) := by decide +kernel
theorem dX8_adopt_39 : decode cX8_adopt 39 = .ok (.iload_n 1, 1) := by decide +kernel
theorem dX8_adopt_40 : decode cX8_adopt 40 = .ok (.aload_n 0, 1) := by decide +kernel
theorem dX8_adopt_41 : decode cX8_adopt 41 = .ok (.getfield 31, 3) := by decide +kernel
theorem dX8_adopt_44 : decode cX8_adopt 44 = .ok (.iload_n 2, 1) := by decide +kernel
theorem dX8_adopt_45 : decode cX8_adopt 45 = .ok (.iaload, 1) := by decide +kernel
theorem dX8_adopt_46 : decode cX8_adopt 46 = .ok (.ifCond .lt 7, 3) := by decide +kernel
theorem dX8_adopt_49 : decode cX8_adopt 49 = .ok (.iconst 1, 1) := by decide +kernel
theorem dX8_adopt_50 : decode cX8_adopt 50 = .ok (.goto 4, 3) := by decide +kernel
theorem dX8_adopt_53 : decode cX8_adopt 53 = .ok (.iconst 0, 1) := by decide +kernel
theorem dX8_adopt_54 : decode cX8_adopt 54 = .ok (.iadd, 1) := by decide +kernel
theorem dX8_adopt_55 : decode cX8_adopt 55 = .ok (.istore_n 1, 1) := by decide +kernel
theorem dX8_adopt_56 : decode cX8_adopt 56 = .ok (.iinc 2 1, 3) := by decide +kernel
theorem dX8_adopt_59 : decode cX8_adopt 59 = .ok (.goto (-50), 3) := by decide +kernel
theorem dX8_adopt_62 : decode cX8_adopt 62 = .ok (.iload_n 1, 1) := by decide +kernel
theorem dX8_adopt_63 : decode cX8_adopt 63 = .ok (.ireturn, 1) := by decide +kernel
set_option maxHeartbeats 4000000 in
set_option maxRecDepth 20000 in
theorem sgX8_adopt_0 {κ : Kx} {K : Kont} {M : Mem} (C : Cx κ RX8 cX8_adopt 3 (some .int) rmX8_adopt domM) 
    (h :
    spX8_plans M (rI (fun r1 M1 =>
    V κ 3 M1 9 [some (.inr (30, 0)), some (.inl 0), some (.inl 0)] [] K))) : V κ 3 M 0 [some (.inr (30, 0)), none, none] [] K := by
  refine v_aload_n C dX8_adopt_0 rfl ?_
  refine v_invV C ctX8_plans dX8_adopt_1 ivX8_167 ⟨by decide, by decide, rfl, rfl⟩ (() : Unit) (As := []) rfl rfl rfl (by decide) rfl (st := []) rfl (Nat.le_of_ble_eq_true rfl) h (fun o M1 oM1 io1 g1 => ?_)
  replace h := rI_out g1
  clear g1
  obtain ⟨r1, rfl, h⟩ := h
  refine v_push ?_
  refine v_pop C dX8_adopt_4 ?_
  refine v_iconst C dX8_adopt_5 (by decide) ?_
  refine v_istore_n C dX8_adopt_6 (by decide) (Nat.le_of_ble_eq_true rfl) (lv' := [some (.inr (30, 0)), some (.inl 0), none]) rfl ?_
  refine v_iconst C dX8_adopt_7 (by decide) ?_
  refine v_istore_n C dX8_adopt_8 (by decide) (Nat.le_of_ble_eq_true rfl) (lv' := [some (.inr (30, 0)), some (.inl 0), some (.inl 0)]) rfl ?_
  refine v_weak [some (.inr (30, 0)), some (.inl 0), some (.inl 0)] ⟨rfl, rfl, rfl, trivial⟩ ?_
  exact h
set_option maxHeartbeats 4000000 in
set_option maxRecDepth 20000 in
theorem sgX8_adopt_9 {κ : Kx} {K : Kont} {M : Mem} (C : Cx κ RX8 cX8_adopt 3 (some .int) rmX8_adopt domM) (x1 : Int) (x2 : Int)
    (h :
    ((7 ≤ x2 →
      K (some x1) M) ∧
     (¬ (7 ≤ x2) →
      (0 ≤ x2 ∧ x2 < 7) ∧
      (0 ≤ x2 ∧ x2 < 7) ∧
      ∀ M26 : Mem, M26 = up3 M 45 0 x2 (M 47 0 x2) →
      (0 ≤ x2 ∧ x2 < 7) ∧
      (0 ≤ x2 ∧ x2 < 7) ∧
      ∀ M38 : Mem, M38 = up3 M26 46 0 x2 (M26 48 0 x2) →
      (0 ≤ x2 ∧ x2 < 7) ∧
      (((M38 46 0 x2) < 0 →
        inR (x1 + 0) ∧
        ∀ y1_55 : Int, y1_55 = x1 + 0 →
        inR (x2 + 1) ∧
        V κ 3 M38 9 [some (.inr (30, 0)), some (.inl y1_55), some (.inl (x2 + 1))] [] K) ∧
       (¬ ((M38 46 0 x2) < 0) →
        inR (x1 + 1) ∧
        ∀ y1_55 : Int, y1_55 = x1 + 1 →
        inR (x2 + 1) ∧
        V κ 3 M38 9 [some (.inr (30, 0)), some (.inl y1_55), some (.inl (x2 + 1))] [] K))))) : V κ 3 M 9 [some (.inr (30, 0)), some (.inl x1), some (.inl x2)] [] K := by
  refine v_iload_n C dX8_adopt_9 rfl ?_
  refine v_bipush C dX8_adopt_10 (by decide) (by decide) ?_
  refine v_icmp C dX8_adopt_12 (tgt := 62) (by decide) (P := 7 ≤ x2) rfl (fun c12 => ?_) (fun c12 => ?_)
  · replace h := h.1 c12
    refine v_iload_n C dX8_adopt_62 rfl ?_
    exact v_iret C dX8_adopt_63 h
  · replace h := h.2 c12
    refine v_aload_n C dX8_adopt_15 rfl ?_
    refine v_get C dX8_adopt_16 flX8_28 rfl (by decide) (by decide) (w := .inr (45, 0)) rfl ?_
    refine v_iload_n C dX8_adopt_19 rfl ?_
    refine v_aload_n C dX8_adopt_20 rfl ?_
    refine v_get C dX8_adopt_21 flX8_34 rfl (by decide) (by decide) (w := .inr (47, 0)) rfl ?_
    refine v_iload_n C dX8_adopt_24 rfl ?_
    refine v_iald C dX8_adopt_25 rfl h.1.1 h.1.2 ?_
    replace h := h.2
    refine v_iast C dX8_adopt_26 rfl h.1.1 h.1.2 ?_
    replace h := h.2
    refine v_nmM (fun M26 eM26 => ?_)
    replace h := h M26 eM26
    refine v_aload_n C dX8_adopt_27 rfl ?_
    refine v_get C dX8_adopt_28 flX8_31 rfl (by decide) (by decide) (w := .inr (46, 0)) rfl ?_
    refine v_iload_n C dX8_adopt_31 rfl ?_
    refine v_aload_n C dX8_adopt_32 rfl ?_
    refine v_get C dX8_adopt_33 flX8_37 rfl (by decide) (by decide) (w := .inr (48, 0)) rfl ?_
    refine v_iload_n C dX8_adopt_36 rfl ?_
    refine v_iald C dX8_adopt_37 rfl h.1.1 h.1.2 ?_
    replace h := h.2
    refine v_iast C dX8_adopt_38 rfl h.1.1 h.1.2 ?_
    replace h := h.2
    refine v_nmM (fun M38 eM38 => ?_)
    replace h := h M38 eM38
    refine v_iload_n C dX8_adopt_39 rfl ?_
    refine v_aload_n C dX8_adopt_40 rfl ?_
    refine v_get C dX8_adopt_41 flX8_31 rfl (by decide) (by decide) (w := .inr (46, 0)) rfl ?_
    refine v_iload_n C dX8_adopt_44 rfl ?_
    refine v_iald C dX8_adopt_45 rfl h.1.1 h.1.2 ?_
    replace h := h.2
    refine v_if C dX8_adopt_46 (tgt := 53) (by decide) (P := (M38 46 0 x2) < 0) rfl (fun c46 => ?_) (fun c46 => ?_)
    · replace h := h.1 c46
      refine v_iconst C dX8_adopt_53 (by decide) ?_
      refine v_iadd C dX8_adopt_54 h.1 ?_
      replace h := h.2
      refine v_nm (fun y1_55 ey1_55 => ?_)
      replace h := h y1_55 ey1_55
      refine v_istore_n C dX8_adopt_55 (by decide) (Nat.le_of_ble_eq_true rfl) (lv' := [some (.inr (30, 0)), some (.inl y1_55), some (.inl x2)]) rfl ?_
      refine v_iinc C dX8_adopt_56 (by decide) rfl h.1 (lv' := [some (.inr (30, 0)), some (.inl y1_55), some (.inl (x2 + 1))]) rfl ?_
      replace h := h.2
      refine v_goto C dX8_adopt_59 (tgt := 9) (by decide) ?_
      refine v_weak [some (.inr (30, 0)), some (.inl y1_55), some (.inl (x2 + 1))] ⟨rfl, rfl, rfl, trivial⟩ ?_
      exact h
    · replace h := h.2 c46
      refine v_iconst C dX8_adopt_49 (by decide) ?_
      refine v_goto C dX8_adopt_50 (tgt := 54) (by decide) ?_
      refine v_iadd C dX8_adopt_54 h.1 ?_
      replace h := h.2
      refine v_nm (fun y1_55 ey1_55 => ?_)
      replace h := h y1_55 ey1_55
      refine v_istore_n C dX8_adopt_55 (by decide) (Nat.le_of_ble_eq_true rfl) (lv' := [some (.inr (30, 0)), some (.inl y1_55), some (.inl x2)]) rfl ?_
      refine v_iinc C dX8_adopt_56 (by decide) rfl h.1 (lv' := [some (.inr (30, 0)), some (.inl y1_55), some (.inl (x2 + 1))]) rfl ?_
      replace h := h.2
      refine v_goto C dX8_adopt_59 (tgt := 9) (by decide) ?_
      refine v_weak [some (.inr (30, 0)), some (.inl y1_55), some (.inl (x2 + 1))] ⟨rfl, rfl, rfl, trivial⟩ ?_
      exact h
theorem szN_7 {F : Film} {ver sta : Int → Int} (hf : WFf F) (hP : PlK F ver sta) : ∀ n : Nat, (F 3 0 0).toNat ≤ n → n ≤ 7 → szN ver n = szN ver (F 3 0 0).toNat := by
  have n3 := hf.2.2.2.1
  intro n
  induction n with
  | zero => intro h _; rw [show (F 3 0 0).toNat = 0 by omega]
  | succ n ih =>
    intro h1 h2
    by_cases e : (F 3 0 0).toNat = n + 1
    · rw [e]
    · rw [← ih (by omega) (by omega)]
      show szN ver n + (if ver n = -4 then 0 else 1) = _
      rcases hP n (by omega) (by omega) with z | z
      · rw [if_pos z.1]; omega
      · omega
abbrev spX8_adopt (M : Mem) (K : Kont) : Prop := InvM M ∧ ∀ M', InvM M' → ChM M M' (mFilm M) (bP0 (mFilm M)).1 (bP0 (mFilm M)).2 → K (some (szN (bP0 (mFilm M)).1 (mFilm M 3 0 0).toNat)) M'
theorem ctX8_adopt : CtX8_adopt spX8_adopt := by
  refine ct_of (by decide) dmM (fun _ => Nat.le_of_ble_eq_true rfl) ?_
  intro κ a M K C oM h
  obtain ⟨hI, hk⟩ := h
  have hf := hI.2.1
  have n3 := hf.2.2.2.1
  have hB := bP0_wf hf
  refine sgX8_adopt_0 C ⟨hI, fun N hA hE => ?_⟩
  have loop : ∀ (n : Nat) (p c : Int) (N2 : Mem), 0 ≤ p → p + n = 7 → (∀ r i, r ≠ 45 → r ≠ 46 → N2 r i = N r i) → (∀ q, 0 ≤ q → q < p → N2 45 0 q = (bP0 (mFilm M)).1 q ∧ N2 46 0 q = (bP0 (mFilm M)).2 q) → c = szN (bP0 (mFilm M)).1 p.toNat →
      V κ 3 N2 9 [some (.inr (30, 0)), some (.inl c), some (.inl p)] [] K := by
    intro n
    induction n with
    | zero =>
      intro p c N2 p0 hn hA2 hq hc
      have e7 : p = 7 := by omega
      refine sgX8_adopt_9 C c p ⟨fun _ => ?_, fun z => absurd (by omega) z⟩
      have f2 : mFilm N2 = mFilm M := by
        rw [← hA.film]
        exact mFilm_eq (fun j hj => by rw [hA2 30 0 (by decide) (by decide)]) (fun r hr => hA2 r 0 (by omega) (by omega))
      have pe : PlEq (bP0 (mFilm M)).1 (bP0 (mFilm M)).2 (N2 45 0) (N2 46 0) := fun q a b => ⟨(hq q a (by omega)).1.symm, (hq q a (by omega)).2.symm⟩
      rw [hc, e7]
      have s7 := szN_7 hf hB 7 (by omega) (by omega)
      show K (some (szN (bP0 (mFilm M)).1 7)) N2
      rw [s7]
      refine hk N2 ⟨by rw [hA2 30 0 (by decide) (by decide), hA 30 0 0 (by omega)]; exact hI.1, by rw [f2]; exact hf, by rw [f2]; exact PlK_eq pe hB⟩ ⟨fun r a => by funext i; rw [hA2 r i (by omega) (by omega)]; exact hA.row i (by omega), by rw [hA2 30 0 (by decide) (by decide), hA 30 0 0 (by omega)], by rw [hA2 31 0 (by decide) (by decide)]; exact hA.row 0 (by omega), by rw [f2]; exact FEq.rf, pe⟩
    | succ n ih =>
      intro p c N2 p0 hn hA2 hq hc
      have hr := szN_rng (bP0 (mFilm M)).1 p.toNat
      have e47 : N2 47 0 p = (bP0 (mFilm M)).1 p := by rw [hA2 47 0 (by decide) (by decide)]; exact (hE p p0 (by omega)).1
      have e48 : N2 48 0 p = (bP0 (mFilm M)).2 p := by rw [hA2 48 0 (by decide) (by decide)]; exact (hE p p0 (by omega)).2
      have hs : szN (bP0 (mFilm M)).1 (p + 1).toNat = szN (bP0 (mFilm M)).1 p.toNat + (if (bP0 (mFilm M)).1 p = -4 then 0 else 1) := sumN_s _ p0
      have st := hB.sta p0 (by omega)
      refine sgX8_adopt_9 C c p ⟨fun z => absurd z (by omega), fun _ => ⟨by omega, by omega, fun N3 e3 => ⟨by omega, by omega, fun N4 e4 => ⟨by omega, ?_⟩⟩⟩⟩
      have v45 : ∀ q, N4 45 0 q = if q = p then (bP0 (mFilm M)).1 p else N2 45 0 q := by
        intro q
        rw [e4, up3_r _ _ _ _ _ (by decide), e3]
        by_cases e : q = p
        · rw [if_pos e, e, up3_s, e47]
        · rw [if_neg e, up3_j _ _ _ _ _ e]
      have v46 : ∀ q, N4 46 0 q = if q = p then (bP0 (mFilm M)).2 p else N2 46 0 q := by
        intro q
        rw [e4]
        by_cases e : q = p
        · rw [if_pos e, e, up3_s, e3, up3_r _ _ _ _ _ (by decide), e48]
        · rw [if_neg e, up3_j _ _ _ _ _ e, e3, up3_r _ _ _ _ _ (by decide)]
      have next : ∀ y, y = szN (bP0 (mFilm M)).1 (p + 1).toNat → V κ 3 N4 9 [some (.inr (30, 0)), some (.inl y), some (.inl (p + 1))] [] K := by
        intro y ey
        refine ih (p + 1) y N4 (by omega) (by omega) (fun r i a b => by funext j; rw [e4, up3_r _ _ _ _ _ b, e3, up3_r _ _ _ _ _ a, hA2 r i a b]) (fun q a b => ?_) ey
        rw [v45, v46]
        by_cases e : q = p
        · rw [if_pos e, if_pos e, e]; exact ⟨rfl, rfl⟩
        · rw [if_neg e, if_neg e]; exact hq q a (by omega)
      rw [v46, if_pos rfl]
      refine ⟨fun c2 => ⟨by omega, fun y ey => ⟨by omega, next y ?_⟩⟩, fun c2 => ⟨by omega, fun y ey => ⟨by omega, next y ?_⟩⟩⟩
      · rw [hs, if_pos (by omega)]; omega
      · rw [hs, if_neg (by omega)]; omega
  exact loop 7 0 0 N (by omega) (by omega) (fun _ _ _ _ => rfl) (fun q a b => by omega) rfl
/-! ===== GapTellingsModel.count ===== -/
abbrev rmX8_count : Room := { frames := 5, cells := 0, slots := 0, locals := 125 }
abbrev argX8_count (a : Int) : List PV := [.inr (30, 0), .inl a]
abbrev CtX8_count (sp : Int → Mem → Kont → Prop) : Prop := Ct yX8_count cX8_count 4 (some .int) rmX8_count domM argX8_count (fun a => sp a)
theorem dX8_count_0 : decode cX8_count 0 = .ok (.iload_n 1, 1) := by decide +kernel
theorem dX8_count_1 : decode cX8_count 1 = .ok (.bipush 9, 2) := by decide +kernel
theorem dX8_count_3 : decode cX8_count 3 = .ok (.bipush 12, 2) := by decide +kernel
theorem dX8_count_5 : decode cX8_count 5 = .ok (.invokestatic 97, 3) := by decide +kernel
theorem dX8_count_8 : decode cX8_count 8 = .ok (.ifCond .eq 13, 3) := by decide +kernel
theorem dX8_count_11 : decode cX8_count 11 = .ok (.aload_n 0, 1) := by decide +kernel
theorem dX8_count_12 : decode cX8_count 12 = .ok (.getfield 19, 3) := by decide +kernel
theorem dX8_count_15 : decode cX8_count 15 = .ok (.iload_n 1, 1) := by decide +kernel
theorem dX8_count_16 : decode cX8_count 16 = .ok (.bipush 9, 2) := by decide +kernel
theorem dX8_count_18 : decode cX8_count 18 = .ok (.isub, 1) := by decide +kernel
theorem dX8_count_19 : decode cX8_count 19 = .ok (.iaload, 1) := by decide +kernel
theorem dX8_count_20 : decode cX8_count 20 = .ok (.ireturn, 1) := by decide +kernel
theorem dX8_count_21 : decode cX8_count 21 = .ok (.iconst 0, 1) := by decide +kernel
theorem dX8_count_22 : decode cX8_count 22 = .ok (.istore_n 2, 1) := by decide +kernel
theorem dX8_count_23 : decode cX8_count 23 = .ok (.iload_n 1, 1) := by decide +kernel
theorem dX8_count_24 : decode cX8_count 24 = .ok (.tableswitch 219 0 8 #[52, 57, 62, 67, 102, 107, 112, 152, 185], 52) := by decide +kernel
theorem dX8_count_76 : decode cX8_count 76 = .ok (.aload_n 0, 1) := by decide +kernel
theorem dX8_count_77 : decode cX8_count 77 = .ok (.getfield 64, 3) := by decide +kernel
theorem dX8_count_80 : decode cX8_count 80 = .ok (.ireturn, 1) := by decide +kernel
theorem dX8_count_81 : decode cX8_count 81 = .ok (.aload_n 0, 1) := by decide +kernel
theorem dX8_count_82 : decode cX8_count 82 = .ok (.getfield 71, 3) := by decide +kernel
theorem dX8_count_85 : decode cX8_count 85 = .ok (.ireturn, 1) := by decide +kernel
theorem dX8_count_86 : decode cX8_count 86 = .ok (.aload_n 0, 1) := by decide +kernel
theorem dX8_count_87 : decode cX8_count 87 = .ok (.getfield 74, 3) := by decide +kernel
theorem dX8_count_90 : decode cX8_count 90 = .ok (.ireturn, 1) := by decide +kernel
theorem dX8_count_91 : decode cX8_count 91 = .ok (.iconst 0, 1) := by decide +kernel
theorem dX8_count_92 : decode cX8_count 92 = .ok (.istore_n 3, 1) := by decide +kernel
theorem dX8_count_93 : decode cX8_count 93 = .ok (.iload_n 3, 1) := by decide +kernel
theorem dX8_count_94 : decode cX8_count 94 = .ok (.aload_n 0, 1) := by decide +kernel
theorem dX8_count_95 : decode cX8_count 95 = .ok (.getfield 74, 3) := by decide +kernel
theorem dX8_count_98 : decode cX8_count 98 = .ok (.if_icmp .ge 26, 3) := by decide +kernel
theorem dX8_count_101 : decode cX8_count 101 = .ok (.iload_n 2, 1) := by decide +kernel
theorem dX8_count_102 : decode cX8_count 102 = .ok (.aload_n 0, 1) := by decide +kernel
theorem dX8_count_103 : decode cX8_count 103 = .ok (.getfield 31, 3) := by decide +kernel
theorem dX8_count_106 : decode cX8_count 106 = .ok (.iload_n 3, 1) := by decide +kernel
theorem dX8_count_107 : decode cX8_count 107 = .ok (.iaload, 1) := by decide +kernel
theorem dX8_count_108 : decode cX8_count 108 = .ok (.ifCond .lt 7, 3) := by decide +kernel
theorem dX8_count_111 : decode cX8_count 111 = .ok (.iconst 1, 1) := by decide +kernel
theorem dX8_count_112 : decode cX8_count 112 = .ok (.goto 4, 3) := by decide +kernel
theorem dX8_count_115 : decode cX8_count 115 = .ok (.iconst 0, 1) := by decide +kernel
theorem dX8_count_116 : decode cX8_count 116 = .ok (.iadd, 1) := by decide +kernel
theorem dX8_count_117 : decode cX8_count 117 = .ok (.istore_n 2, 1) := by decide +kernel
theorem dX8_count_118 : decode cX8_count 118 = .ok (.iinc 3 1, 3) := by decide +kernel
theorem dX8_count_121 : decode cX8_count 121 = .ok (.goto (-28), 3) := by decide +kernel
theorem dX8_count_124 : decode cX8_count 124 = .ok (.iload_n 2, 1) := by decide +kernel
theorem dX8_count_125 : decode cX8_count 125 = .ok (.ireturn, 1) := by decide +kernel
theorem dX8_count_126 : decode cX8_count 126 = .ok (.aload_n 0, 1) := by decide +kernel
theorem dX8_count_127 : decode cX8_count 127 = .ok (.getfield 68, 3) := by decide +kernel
theorem dX8_count_130 : decode cX8_count 130 = .ok (.ireturn, 1) := by decide +kernel
theorem dX8_count_131 : decode cX8_count 131 = .ok (.aload_n 0, 1) := by decide +kernel
theorem dX8_count_132 : decode cX8_count 132 = .ok (.getfield 80, 3) := by decide +kernel
theorem dX8_count_135 : decode cX8_count 135 = .ok (.ireturn, 1) := by decide +kernel
theorem dX8_count_136 : decode cX8_count 136 = .ok (.aload_n 0, 1) := by decide +kernel
theorem dX8_count_137 : decode cX8_count 137 = .ok (.invokevirtual 167, 3) := by decide +kernel
theorem dX8_count_140 : decode cX8_count 140 = .ok (.pop, 1) := by decide +kernel
theorem dX8_count_141 : decode cX8_count 141 = .ok (.iconst 0, 1) := by decide +kernel
theorem dX8_count_142 : decode cX8_count 142 = .ok (.istore_n 3, 1) := by decide +kernel
theorem dX8_count_143 : decode cX8_count 143 = .ok (.iload_n 3, 1) := by decide +kernel
theorem dX8_count_144 : decode cX8_count 144 = .ok (.aload_n 0, 1) := by decide +kernel
theorem dX8_count_145 : decode cX8_count 145 = .ok (.getfield 74, 3) := by decide +kernel
theorem dX8_count_148 : decode cX8_count 148 = .ok (.if_icmp .ge 26, 3) := by decide +kernel
theorem dX8_count_151 : decode cX8_count 151 = .ok (.iload_n 2, 1) := by decide +kernel
theorem dX8_count_152 : decode cX8_count 152 = .ok (.aload_n 0, 1) := by decide +kernel
theorem dX8_count_153 : decode cX8_count 153 = .ok (.getfield 37, 3) := by decide +kernel
theorem dX8_count_156 : decode cX8_count 156 = .ok (.iload_n 3, 1) := by decide +kernel
theorem dX8_count_157 : decode cX8_count 157 = .ok (.iaload, 1) := by decide +kernel
theorem dX8_count_158 : decode cX8_count 158 = .ok (.ifCond .lt 7, 3) := by decide +kernel
theorem dX8_count_161 : decode cX8_count 161 = .ok (.iconst 1, 1) := by decide +kernel
theorem dX8_count_162 : decode cX8_count 162 = .ok (.goto 4, 3) := by decide +kernel
theorem dX8_count_165 : decode cX8_count 165 = .ok (.iconst 0, 1) := by decide +kernel
theorem dX8_count_166 : decode cX8_count 166 = .ok (.iadd, 1) := by decide +kernel
theorem dX8_count_167 : decode cX8_count 167 = .ok (.istore_n 2, 1) := by decide +kernel
theorem dX8_count_168 : decode cX8_count 168 = .ok (.iinc 3 1, 3) := by decide +kernel
theorem dX8_count_171 : decode cX8_count 171 = .ok (.goto (-28), 3) := by decide +kernel
theorem dX8_count_174 : decode cX8_count 174 = .ok (.iload_n 2, 1) := by decide +kernel
theorem dX8_count_175 : decode cX8_count 175 = .ok (.ireturn, 1) := by decide +kernel
theorem dX8_count_176 : decode cX8_count 176 = .ok (.aload_n 0, 1) := by decide +kernel
theorem dX8_count_177 : decode cX8_count 177 = .ok (.invokevirtual 137, 3) := by decide +kernel
theorem dX8_count_180 : decode cX8_count 180 = .ok (.iconst 0, 1) := by decide +kernel
theorem dX8_count_181 : decode cX8_count 181 = .ok (.istore_n 3, 1) := by decide +kernel
theorem dX8_count_182 : decode cX8_count 182 = .ok (.iload_n 3, 1) := by decide +kernel
theorem dX8_count_183 : decode cX8_count 183 = .ok (.aload_n 0, 1) := by decide +kernel
theorem dX8_count_184 : decode cX8_count 184 = .ok (.getfield 64, 3) := by decide +kernel
theorem dX8_count_187 : decode cX8_count 187 = .ok (.if_icmp .ge 20, 3) := by decide +kernel
theorem dX8_count_190 : decode cX8_count 190 = .ok (.iload_n 2, 1) := by decide +kernel
theorem dX8_count_191 : decode cX8_count 191 = .ok (.aload_n 0, 1) := by decide +kernel
theorem dX8_count_192 : decode cX8_count 192 = .ok (.getfield 49, 3) := by decide +kernel
theorem dX8_count_195 : decode cX8_count 195 = .ok (.iload_n 3, 1) := by decide +kernel
theorem dX8_count_196 : decode cX8_count 196 = .ok (.iaload, 1) := by decide +kernel
theorem dX8_count_197 : decode cX8_count 197 = .ok (.iconst 1, 1) := by decide +kernel
theorem dX8_count_198 : decode cX8_count 198 = .ok (.iand, 1) := by decide +kernel
theorem dX8_count_199 : decode cX8_count 199 = .ok (.iadd, 1) := by decide +kernel
theorem dX8_count_200 : decode cX8_count 200 = .ok (.istore_n 2, 1) := by decide +kernel
theorem dX8_count_201 : decode cX8_count 201 = .ok (.iinc 3 1, 3) := by decide +kernel
theorem dX8_count_204 : decode cX8_count 204 = .ok (.goto (-22), 3) := by decide +kernel
theorem dX8_count_207 : decode cX8_count 207 = .ok (.iload_n 2, 1) := by decide +kernel
theorem dX8_count_208 : decode cX8_count 208 = .ok (.ireturn, 1) := by decide +kernel
theorem dX8_count_209 : decode cX8_count 209 = .ok (.iconst 0, 1) := by decide +kernel
theorem dX8_count_210 : decode cX8_count 210 = .ok (.istore_n 3, 1) := by decide +kernel
theorem dX8_count_211 : decode cX8_count 211 = .ok (.iload_n 3, 1) := by decide +kernel
theorem dX8_count_212 : decode cX8_count 212 = .ok (.aload_n 0, 1) := by decide +kernel
theorem dX8_count_213 : decode cX8_count 213 = .ok (.getfield 64, 3) := by decide +kernel
theorem dX8_count_216 : decode cX8_count 216 = .ok (.if_icmp .ge 25, 3) := by decide +kernel
theorem dX8_count_219 : decode cX8_count 219 = .ok (.iload_n 2, 1) := by decide +kernel
theorem dX8_count_220 : decode cX8_count 220 = .ok (.aload_n 0, 1) := by decide +kernel
theorem dX8_count_221 : decode cX8_count 221 = .ok (.iload_n 3, 1) := by decide +kernel
theorem dX8_count_222 : decode cX8_count 222 = .ok (.invokevirtual 170, 3) := by decide +kernel
theorem dX8_count_225 : decode cX8_count 225 = .ok (.ifCond .eq 7, 3) := by decide +kernel
theorem dX8_count_228 : decode cX8_count 228 = .ok (.iconst 1, 1) := by decide +kernel
theorem dX8_count_229 : decode cX8_count 229 = .ok (.goto 4, 3) := by decide +kernel
theorem dX8_count_232 : decode cX8_count 232 = .ok (.iconst 0, 1) := by decide +kernel
theorem dX8_count_233 : decode cX8_count 233 = .ok (.iadd, 1) := by decide +kernel
theorem dX8_count_234 : decode cX8_count 234 = .ok (.istore_n 2, 1) := by decide +kernel
theorem dX8_count_235 : decode cX8_count 235 = .ok (.iinc 3 1, 3) := by decide +kernel
theorem dX8_count_238 : decode cX8_count 238 = .ok (.goto (-27), 3) := by decide +kernel
theorem dX8_count_241 : decode cX8_count 241 = .ok (.iload_n 2, 1) := by decide +kernel
theorem dX8_count_242 : decode cX8_count 242 = .ok (.ireturn, 1) := by decide +kernel
theorem dX8_count_243 : decode cX8_count 243 = .ok (.iconst (-1), 1) := by decide +kernel
theorem dX8_count_244 : decode cX8_count 244 = .ok (.ireturn, 1) := by decide +kernel
set_option maxHeartbeats 4000000 in
set_option maxRecDepth 20000 in
theorem sgX8_count_0 {κ : Kx} {K : Kont} {M : Mem} (C : Cx κ RX8 cX8_count 4 (some .int) rmX8_count domM) (x1 : Int)
    (h :
    spX8_isIn x1 9 12 M (rI (fun r5 M5 =>
    ((r5 = 0 →
      ((x1 = 0 →
        K (some (M5 30 0 2)) M5) ∧
       (x1 = 1 →
        K (some (M5 30 0 4)) M5) ∧
       (x1 = 2 →
        K (some (M5 30 0 6)) M5) ∧
       (x1 = 3 →
        V κ 4 M5 93 [some (.inr (30, 0)), none, some (.inl 0), some (.inl 0)] [] K) ∧
       (x1 = 4 →
        K (some (M5 30 0 3)) M5) ∧
       (x1 = 5 →
        K (some (M5 30 0 0)) M5) ∧
       (x1 = 6 →
        spX8_plans M5 (rI (fun r137 M137 =>
        V κ 4 M137 143 [some (.inr (30, 0)), none, some (.inl 0), some (.inl 0)] [] K))) ∧
       (x1 = 7 →
        spX8_hears M5 (rV (fun M177 =>
        V κ 4 M177 182 [some (.inr (30, 0)), none, some (.inl 0), some (.inl 0)] [] K))) ∧
       (x1 = 8 →
        V κ 4 M5 211 [some (.inr (30, 0)), none, some (.inl 0), some (.inl 0)] [] K) ∧
       (x1 < 0 ∨ 8 < x1 →
        K (some (-1)) M5))) ∧
     (¬ (r5 = 0) →
      inR (x1 - 9) ∧
      (0 ≤ (x1 - 9) ∧ (x1 - 9) < 4) ∧
      K (some (M5 38 0 (x1 - 9))) M5))))) : V κ 4 M 0 [some (.inr (30, 0)), some (.inl x1), none, none] [] K := by
  refine v_iload_n C dX8_count_0 rfl ?_
  refine v_bipush C dX8_count_1 (by decide) (by decide) ?_
  refine v_bipush C dX8_count_3 (by decide) (by decide) ?_
  refine v_invS C ctX8_isIn dX8_count_5 ivX8_97 ⟨by decide, by decide, rfl, rfl⟩ ((x1, 9, 12) : Int × Int × Int) rfl (st := []) rfl (Nat.le_of_ble_eq_true rfl) h (fun o M5 oM5 io5 g5 => ?_)
  replace h := rI_out g5
  clear g5
  obtain ⟨r5, rfl, h⟩ := h
  refine v_push ?_
  refine v_if C dX8_count_8 (tgt := 21) (by decide) (P := r5 = 0) rfl (fun c8 => ?_) (fun c8 => ?_)
  · replace h := h.1 c8
    refine v_iconst C dX8_count_21 (by decide) ?_
    refine v_istore_n C dX8_count_22 (by decide) (Nat.le_of_ble_eq_true rfl) (lv' := [some (.inr (30, 0)), some (.inl x1), some (.inl 0), none]) rfl ?_
    refine v_iload_n C dX8_count_23 rfl ?_
    refine v_tsw C dX8_count_24 (dt := 243) (by decide) (fun j hj hh => ?_) (fun ho => ?_)
    · have hjj : j = 0 ∨ j = 1 ∨ j = 2 ∨ j = 3 ∨ j = 4 ∨ j = 5 ∨ j = 6 ∨ j = 7 ∨ j = 8 := by omega
      rcases hjj with rfl | rfl | rfl | rfl | rfl | rfl | rfl | rfl | rfl
      · refine ⟨52, 76, rfl, by decide, ?_⟩
        replace h := h.1 (by omega)
        refine v_aload_n C dX8_count_76 rfl ?_
        refine v_get C dX8_count_77 flX8_64 rfl (by decide) (by decide) (w := .inl (M5 30 0 2)) rfl ?_
        exact v_iret C dX8_count_80 h
      · refine ⟨57, 81, rfl, by decide, ?_⟩
        replace h := h.2.1 (by omega)
        refine v_aload_n C dX8_count_81 rfl ?_
        refine v_get C dX8_count_82 flX8_71 rfl (by decide) (by decide) (w := .inl (M5 30 0 4)) rfl ?_
        exact v_iret C dX8_count_85 h
      · refine ⟨62, 86, rfl, by decide, ?_⟩
        replace h := h.2.2.1 (by omega)
        refine v_aload_n C dX8_count_86 rfl ?_
        refine v_get C dX8_count_87 flX8_74 rfl (by decide) (by decide) (w := .inl (M5 30 0 6)) rfl ?_
        exact v_iret C dX8_count_90 h
      · refine ⟨67, 91, rfl, by decide, ?_⟩
        replace h := h.2.2.2.1 (by omega)
        refine v_iconst C dX8_count_91 (by decide) ?_
        refine v_istore_n C dX8_count_92 (by decide) (Nat.le_of_ble_eq_true rfl) (lv' := [some (.inr (30, 0)), some (.inl x1), some (.inl 0), some (.inl 0)]) rfl ?_
        refine v_weak [some (.inr (30, 0)), none, some (.inl 0), some (.inl 0)] ⟨rfl, rfl, rfl, trivial⟩ ?_
        exact h
      · refine ⟨102, 126, rfl, by decide, ?_⟩
        replace h := h.2.2.2.2.1 (by omega)
        refine v_aload_n C dX8_count_126 rfl ?_
        refine v_get C dX8_count_127 flX8_68 rfl (by decide) (by decide) (w := .inl (M5 30 0 3)) rfl ?_
        exact v_iret C dX8_count_130 h
      · refine ⟨107, 131, rfl, by decide, ?_⟩
        replace h := h.2.2.2.2.2.1 (by omega)
        refine v_aload_n C dX8_count_131 rfl ?_
        refine v_get C dX8_count_132 flX8_80 rfl (by decide) (by decide) (w := .inl (M5 30 0 0)) rfl ?_
        exact v_iret C dX8_count_135 h
      · refine ⟨112, 136, rfl, by decide, ?_⟩
        replace h := h.2.2.2.2.2.2.1 (by omega)
        refine v_aload_n C dX8_count_136 rfl ?_
        refine v_invV C ctX8_plans dX8_count_137 ivX8_167 ⟨by decide, by decide, rfl, rfl⟩ (() : Unit) (As := []) rfl rfl rfl (by decide) rfl (st := []) rfl (Nat.le_of_ble_eq_true rfl) h (fun o M137 oM137 io137 g137 => ?_)
        replace h := rI_out g137
        clear g137
        obtain ⟨r137, rfl, h⟩ := h
        refine v_push ?_
        refine v_pop C dX8_count_140 ?_
        refine v_iconst C dX8_count_141 (by decide) ?_
        refine v_istore_n C dX8_count_142 (by decide) (Nat.le_of_ble_eq_true rfl) (lv' := [some (.inr (30, 0)), some (.inl x1), some (.inl 0), some (.inl 0)]) rfl ?_
        refine v_weak [some (.inr (30, 0)), none, some (.inl 0), some (.inl 0)] ⟨rfl, rfl, rfl, trivial⟩ ?_
        exact h
      · refine ⟨152, 176, rfl, by decide, ?_⟩
        replace h := h.2.2.2.2.2.2.2.1 (by omega)
        refine v_aload_n C dX8_count_176 rfl ?_
        refine v_invV C ctX8_hears dX8_count_177 ivX8_137 ⟨by decide, by decide, rfl, rfl⟩ (() : Unit) (As := []) rfl rfl rfl (by decide) rfl (st := []) rfl (Nat.le_of_ble_eq_true rfl) h (fun o M177 oM177 io177 g177 => ?_)
        replace h := rV_out g177
        clear g177
        obtain ⟨rfl, h⟩ := h
        refine v_push0 ?_
        refine v_iconst C dX8_count_180 (by decide) ?_
        refine v_istore_n C dX8_count_181 (by decide) (Nat.le_of_ble_eq_true rfl) (lv' := [some (.inr (30, 0)), some (.inl x1), some (.inl 0), some (.inl 0)]) rfl ?_
        refine v_weak [some (.inr (30, 0)), none, some (.inl 0), some (.inl 0)] ⟨rfl, rfl, rfl, trivial⟩ ?_
        exact h
      · refine ⟨185, 209, rfl, by decide, ?_⟩
        replace h := h.2.2.2.2.2.2.2.2.1 (by omega)
        refine v_iconst C dX8_count_209 (by decide) ?_
        refine v_istore_n C dX8_count_210 (by decide) (Nat.le_of_ble_eq_true rfl) (lv' := [some (.inr (30, 0)), some (.inl x1), some (.inl 0), some (.inl 0)]) rfl ?_
        refine v_weak [some (.inr (30, 0)), none, some (.inl 0), some (.inl 0)] ⟨rfl, rfl, rfl, trivial⟩ ?_
        exact h
    · replace h := h.2.2.2.2.2.2.2.2.2 ho
      refine v_iconst C dX8_count_243 (by decide) ?_
      exact v_iret C dX8_count_244 h
  · replace h := h.2 c8
    refine v_aload_n C dX8_count_11 rfl ?_
    refine v_get C dX8_count_12 flX8_19 rfl (by decide) (by decide) (w := .inr (38, 0)) rfl ?_
    refine v_iload_n C dX8_count_15 rfl ?_
    refine v_bipush C dX8_count_16 (by decide) (by decide) ?_
    refine v_isub C dX8_count_18 h.1 ?_
    replace h := h.2
    refine v_iald C dX8_count_19 rfl h.1.1 h.1.2 ?_
    replace h := h.2
    exact v_iret C dX8_count_20 h
set_option maxHeartbeats 4000000 in
set_option maxRecDepth 20000 in
theorem sgX8_count_93 {κ : Kx} {K : Kont} {M : Mem} (C : Cx κ RX8 cX8_count 4 (some .int) rmX8_count domM) (x2 : Int) (x3 : Int)
    (h :
    (((M 30 0 6) ≤ x3 →
      K (some x2) M) ∧
     (¬ ((M 30 0 6) ≤ x3) →
      (0 ≤ x3 ∧ x3 < 7) ∧
      (((M 46 0 x3) < 0 →
        inR (x2 + 0) ∧
        ∀ y2_117 : Int, y2_117 = x2 + 0 →
        inR (x3 + 1) ∧
        V κ 4 M 93 [some (.inr (30, 0)), none, some (.inl y2_117), some (.inl (x3 + 1))] [] K) ∧
       (¬ ((M 46 0 x3) < 0) →
        inR (x2 + 1) ∧
        ∀ y2_117 : Int, y2_117 = x2 + 1 →
        inR (x3 + 1) ∧
        V κ 4 M 93 [some (.inr (30, 0)), none, some (.inl y2_117), some (.inl (x3 + 1))] [] K))))) : V κ 4 M 93 [some (.inr (30, 0)), none, some (.inl x2), some (.inl x3)] [] K := by
  refine v_iload_n C dX8_count_93 rfl ?_
  refine v_aload_n C dX8_count_94 rfl ?_
  refine v_get C dX8_count_95 flX8_74 rfl (by decide) (by decide) (w := .inl (M 30 0 6)) rfl ?_
  refine v_icmp C dX8_count_98 (tgt := 124) (by decide) (P := (M 30 0 6) ≤ x3) rfl (fun c98 => ?_) (fun c98 => ?_)
  · replace h := h.1 c98
    refine v_iload_n C dX8_count_124 rfl ?_
    exact v_iret C dX8_count_125 h
  · replace h := h.2 c98
    refine v_iload_n C dX8_count_101 rfl ?_
    refine v_aload_n C dX8_count_102 rfl ?_
    refine v_get C dX8_count_103 flX8_31 rfl (by decide) (by decide) (w := .inr (46, 0)) rfl ?_
    refine v_iload_n C dX8_count_106 rfl ?_
    refine v_iald C dX8_count_107 rfl h.1.1 h.1.2 ?_
    replace h := h.2
    refine v_if C dX8_count_108 (tgt := 115) (by decide) (P := (M 46 0 x3) < 0) rfl (fun c108 => ?_) (fun c108 => ?_)
    · replace h := h.1 c108
      refine v_iconst C dX8_count_115 (by decide) ?_
      refine v_iadd C dX8_count_116 h.1 ?_
      replace h := h.2
      refine v_nm (fun y2_117 ey2_117 => ?_)
      replace h := h y2_117 ey2_117
      refine v_istore_n C dX8_count_117 (by decide) (Nat.le_of_ble_eq_true rfl) (lv' := [some (.inr (30, 0)), none, some (.inl y2_117), some (.inl x3)]) rfl ?_
      refine v_iinc C dX8_count_118 (by decide) rfl h.1 (lv' := [some (.inr (30, 0)), none, some (.inl y2_117), some (.inl (x3 + 1))]) rfl ?_
      replace h := h.2
      refine v_goto C dX8_count_121 (tgt := 93) (by decide) ?_
      refine v_weak [some (.inr (30, 0)), none, some (.inl y2_117), some (.inl (x3 + 1))] ⟨rfl, rfl, rfl, trivial⟩ ?_
      exact h
    · replace h := h.2 c108
      refine v_iconst C dX8_count_111 (by decide) ?_
      refine v_goto C dX8_count_112 (tgt := 116) (by decide) ?_
      refine v_iadd C dX8_count_116 h.1 ?_
      replace h := h.2
      refine v_nm (fun y2_117 ey2_117 => ?_)
      replace h := h y2_117 ey2_117
      refine v_istore_n C dX8_count_117 (by decide) (Nat.le_of_ble_eq_true rfl) (lv' := [some (.inr (30, 0)), none, some (.inl y2_117), some (.inl x3)]) rfl ?_
      refine v_iinc C dX8_count_118 (by decide) rfl h.1 (lv' := [some (.inr (30, 0)), none, some (.inl y2_117), some (.inl (x3 + 1))]) rfl ?_
      replace h := h.2
      refine v_goto C dX8_count_121 (tgt := 93) (by decide) ?_
      refine v_weak [some (.inr (30, 0)), none, some (.inl y2_117), some (.inl (x3 + 1))] ⟨rfl, rfl, rfl, trivial⟩ ?_
      exact h
set_option maxHeartbeats 4000000 in
set_option maxRecDepth 20000 in
theorem sgX8_count_143 {κ : Kx} {K : Kont} {M : Mem} (C : Cx κ RX8 cX8_count 4 (some .int) rmX8_count domM) (x2 : Int) (x3 : Int)
    (h :
    (((M 30 0 6) ≤ x3 →
      K (some x2) M) ∧
     (¬ ((M 30 0 6) ≤ x3) →
      (0 ≤ x3 ∧ x3 < 7) ∧
      (((M 48 0 x3) < 0 →
        inR (x2 + 0) ∧
        ∀ y2_167 : Int, y2_167 = x2 + 0 →
        inR (x3 + 1) ∧
        V κ 4 M 143 [some (.inr (30, 0)), none, some (.inl y2_167), some (.inl (x3 + 1))] [] K) ∧
       (¬ ((M 48 0 x3) < 0) →
        inR (x2 + 1) ∧
        ∀ y2_167 : Int, y2_167 = x2 + 1 →
        inR (x3 + 1) ∧
        V κ 4 M 143 [some (.inr (30, 0)), none, some (.inl y2_167), some (.inl (x3 + 1))] [] K))))) : V κ 4 M 143 [some (.inr (30, 0)), none, some (.inl x2), some (.inl x3)] [] K := by
  refine v_iload_n C dX8_count_143 rfl ?_
  refine v_aload_n C dX8_count_144 rfl ?_
  refine v_get C dX8_count_145 flX8_74 rfl (by decide) (by decide) (w := .inl (M 30 0 6)) rfl ?_
  refine v_icmp C dX8_count_148 (tgt := 174) (by decide) (P := (M 30 0 6) ≤ x3) rfl (fun c148 => ?_) (fun c148 => ?_)
  · replace h := h.1 c148
    refine v_iload_n C dX8_count_174 rfl ?_
    exact v_iret C dX8_count_175 h
  · replace h := h.2 c148
    refine v_iload_n C dX8_count_151 rfl ?_
    refine v_aload_n C dX8_count_152 rfl ?_
    refine v_get C dX8_count_153 flX8_37 rfl (by decide) (by decide) (w := .inr (48, 0)) rfl ?_
    refine v_iload_n C dX8_count_156 rfl ?_
    refine v_iald C dX8_count_157 rfl h.1.1 h.1.2 ?_
    replace h := h.2
    refine v_if C dX8_count_158 (tgt := 165) (by decide) (P := (M 48 0 x3) < 0) rfl (fun c158 => ?_) (fun c158 => ?_)
    · replace h := h.1 c158
      refine v_iconst C dX8_count_165 (by decide) ?_
      refine v_iadd C dX8_count_166 h.1 ?_
      replace h := h.2
      refine v_nm (fun y2_167 ey2_167 => ?_)
      replace h := h y2_167 ey2_167
      refine v_istore_n C dX8_count_167 (by decide) (Nat.le_of_ble_eq_true rfl) (lv' := [some (.inr (30, 0)), none, some (.inl y2_167), some (.inl x3)]) rfl ?_
      refine v_iinc C dX8_count_168 (by decide) rfl h.1 (lv' := [some (.inr (30, 0)), none, some (.inl y2_167), some (.inl (x3 + 1))]) rfl ?_
      replace h := h.2
      refine v_goto C dX8_count_171 (tgt := 143) (by decide) ?_
      refine v_weak [some (.inr (30, 0)), none, some (.inl y2_167), some (.inl (x3 + 1))] ⟨rfl, rfl, rfl, trivial⟩ ?_
      exact h
    · replace h := h.2 c158
      refine v_iconst C dX8_count_161 (by decide) ?_
      refine v_goto C dX8_count_162 (tgt := 166) (by decide) ?_
      refine v_iadd C dX8_count_166 h.1 ?_
      replace h := h.2
      refine v_nm (fun y2_167 ey2_167 => ?_)
      replace h := h y2_167 ey2_167
      refine v_istore_n C dX8_count_167 (by decide) (Nat.le_of_ble_eq_true rfl) (lv' := [some (.inr (30, 0)), none, some (.inl y2_167), some (.inl x3)]) rfl ?_
      refine v_iinc C dX8_count_168 (by decide) rfl h.1 (lv' := [some (.inr (30, 0)), none, some (.inl y2_167), some (.inl (x3 + 1))]) rfl ?_
      replace h := h.2
      refine v_goto C dX8_count_171 (tgt := 143) (by decide) ?_
      refine v_weak [some (.inr (30, 0)), none, some (.inl y2_167), some (.inl (x3 + 1))] ⟨rfl, rfl, rfl, trivial⟩ ?_
      exact h
set_option maxHeartbeats 4000000 in
set_option maxRecDepth 20000 in
theorem sgX8_count_182 {κ : Kx} {K : Kont} {M : Mem} (C : Cx κ RX8 cX8_count 4 (some .int) rmX8_count domM) (x2 : Int) (x3 : Int)
    (h :
    (((M 30 0 2) ≤ x3 →
      K (some x2) M) ∧
     (¬ ((M 30 0 2) ≤ x3) →
      (0 ≤ x3 ∧ x3 < 100) ∧
      inR (x2 + (bAnd (M 52 0 x3) 1)) ∧
      ∀ y2_200 : Int, y2_200 = x2 + (bAnd (M 52 0 x3) 1) →
      inR (x3 + 1) ∧
      V κ 4 M 182 [some (.inr (30, 0)), none, some (.inl y2_200), some (.inl (x3 + 1))] [] K))) : V κ 4 M 182 [some (.inr (30, 0)), none, some (.inl x2), some (.inl x3)] [] K := by
  refine v_iload_n C dX8_count_182 rfl ?_
  refine v_aload_n C dX8_count_183 rfl ?_
  refine v_get C dX8_count_184 flX8_64 rfl (by decide) (by decide) (w := .inl (M 30 0 2)) rfl ?_
  refine v_icmp C dX8_count_187 (tgt := 207) (by decide) (P := (M 30 0 2) ≤ x3) rfl (fun c187 => ?_) (fun c187 => ?_)
  · replace h := h.1 c187
    refine v_iload_n C dX8_count_207 rfl ?_
    exact v_iret C dX8_count_208 h
  · replace h := h.2 c187
    refine v_iload_n C dX8_count_190 rfl ?_
    refine v_aload_n C dX8_count_191 rfl ?_
    refine v_get C dX8_count_192 flX8_49 rfl (by decide) (by decide) (w := .inr (52, 0)) rfl ?_
    refine v_iload_n C dX8_count_195 rfl ?_
    refine v_iald C dX8_count_196 rfl h.1.1 h.1.2 ?_
    replace h := h.2
    refine v_iconst C dX8_count_197 (by decide) ?_
    refine v_iand C dX8_count_198 ?_
    refine v_iadd C dX8_count_199 h.1 ?_
    replace h := h.2
    refine v_nm (fun y2_200 ey2_200 => ?_)
    replace h := h y2_200 ey2_200
    refine v_istore_n C dX8_count_200 (by decide) (Nat.le_of_ble_eq_true rfl) (lv' := [some (.inr (30, 0)), none, some (.inl y2_200), some (.inl x3)]) rfl ?_
    refine v_iinc C dX8_count_201 (by decide) rfl h.1 (lv' := [some (.inr (30, 0)), none, some (.inl y2_200), some (.inl (x3 + 1))]) rfl ?_
    replace h := h.2
    refine v_goto C dX8_count_204 (tgt := 182) (by decide) ?_
    refine v_weak [some (.inr (30, 0)), none, some (.inl y2_200), some (.inl (x3 + 1))] ⟨rfl, rfl, rfl, trivial⟩ ?_
    exact h
set_option maxHeartbeats 4000000 in
set_option maxRecDepth 20000 in
theorem sgX8_count_211 {κ : Kx} {K : Kont} {M : Mem} (C : Cx κ RX8 cX8_count 4 (some .int) rmX8_count domM) (x2 : Int) (x3 : Int)
    (h :
    (((M 30 0 2) ≤ x3 →
      K (some x2) M) ∧
     (¬ ((M 30 0 2) ≤ x3) →
      spX8_isTold x3 M (rI (fun r222 M222 =>
      ((r222 = 0 →
        inR (x2 + 0) ∧
        ∀ y2_234 : Int, y2_234 = x2 + 0 →
        inR (x3 + 1) ∧
        V κ 4 M222 211 [some (.inr (30, 0)), none, some (.inl y2_234), some (.inl (x3 + 1))] [] K) ∧
       (¬ (r222 = 0) →
        inR (x2 + 1) ∧
        ∀ y2_234 : Int, y2_234 = x2 + 1 →
        inR (x3 + 1) ∧
        V κ 4 M222 211 [some (.inr (30, 0)), none, some (.inl y2_234), some (.inl (x3 + 1))] [] K))))))) : V κ 4 M 211 [some (.inr (30, 0)), none, some (.inl x2), some (.inl x3)] [] K := by
  refine v_iload_n C dX8_count_211 rfl ?_
  refine v_aload_n C dX8_count_212 rfl ?_
  refine v_get C dX8_count_213 flX8_64 rfl (by decide) (by decide) (w := .inl (M 30 0 2)) rfl ?_
  refine v_icmp C dX8_count_216 (tgt := 241) (by decide) (P := (M 30 0 2) ≤ x3) rfl (fun c216 => ?_) (fun c216 => ?_)
  · replace h := h.1 c216
    refine v_iload_n C dX8_count_241 rfl ?_
    exact v_iret C dX8_count_242 h
  · replace h := h.2 c216
    refine v_iload_n C dX8_count_219 rfl ?_
    refine v_aload_n C dX8_count_220 rfl ?_
    refine v_iload_n C dX8_count_221 rfl ?_
    refine v_invV C ctX8_isTold dX8_count_222 ivX8_170 ⟨by decide, by decide, rfl, rfl⟩ (x3 : Int) (As := [.inl x3]) rfl rfl rfl (by decide) rfl (st := [.inl x2]) rfl (Nat.le_of_ble_eq_true rfl) h (fun o M222 oM222 io222 g222 => ?_)
    replace h := rI_out g222
    clear g222
    obtain ⟨r222, rfl, h⟩ := h
    refine v_push ?_
    refine v_if C dX8_count_225 (tgt := 232) (by decide) (P := r222 = 0) rfl (fun c225 => ?_) (fun c225 => ?_)
    · replace h := h.1 c225
      refine v_iconst C dX8_count_232 (by decide) ?_
      refine v_iadd C dX8_count_233 h.1 ?_
      replace h := h.2
      refine v_nm (fun y2_234 ey2_234 => ?_)
      replace h := h y2_234 ey2_234
      refine v_istore_n C dX8_count_234 (by decide) (Nat.le_of_ble_eq_true rfl) (lv' := [some (.inr (30, 0)), none, some (.inl y2_234), some (.inl x3)]) rfl ?_
      refine v_iinc C dX8_count_235 (by decide) rfl h.1 (lv' := [some (.inr (30, 0)), none, some (.inl y2_234), some (.inl (x3 + 1))]) rfl ?_
      replace h := h.2
      refine v_goto C dX8_count_238 (tgt := 211) (by decide) ?_
      refine v_weak [some (.inr (30, 0)), none, some (.inl y2_234), some (.inl (x3 + 1))] ⟨rfl, rfl, rfl, trivial⟩ ?_
      exact h
    · replace h := h.2 c225
      refine v_iconst C dX8_count_228 (by decide) ?_
      refine v_goto C dX8_count_229 (tgt := 233) (by decide) ?_
      refine v_iadd C dX8_count_233 h.1 ?_
      replace h := h.2
      refine v_nm (fun y2_234 ey2_234 => ?_)
      replace h := h y2_234 ey2_234
      refine v_istore_n C dX8_count_234 (by decide) (Nat.le_of_ble_eq_true rfl) (lv' := [some (.inr (30, 0)), none, some (.inl y2_234), some (.inl x3)]) rfl ?_
      refine v_iinc C dX8_count_235 (by decide) rfl h.1 (lv' := [some (.inr (30, 0)), none, some (.inl y2_234), some (.inl (x3 + 1))]) rfl ?_
      replace h := h.2
      refine v_goto C dX8_count_238 (tgt := 211) (by decide) ?_
      refine v_weak [some (.inr (30, 0)), none, some (.inl y2_234), some (.inl (x3 + 1))] ⟨rfl, rfl, rfl, trivial⟩ ?_
      exact h
abbrev spX8_count (w : Int) (M : Mem) (K : Kont) : Prop := (InvM M ∧ VP (mFilm M) (M 45 0) (M 46 0)) ∧ ∀ M', InvM M' → ChM M M' (mFilm M) (M 45 0) (M 46 0) → K (some (cntA (mFilm M) (M 30 0 0) (M 45 0) (M 46 0) w)) M'
theorem ctX8_count : CtX8_count spX8_count := by
  refine ct_of (by decide) dmM (fun _ => Nat.le_of_ble_eq_true rfl) ?_
  intro κ w M K C oM h
  obtain ⟨⟨hI, hVP⟩, hk⟩ := h
  have hk : ∀ M', InvM M' → ChM M M' (mFilm M) (M 45 0) (M 46 0) → K (some (cntA (mFilm M) (M 30 0 0) (M 45 0) (M 46 0) w)) M' := hk
  have hf := hI.2.1
  have hP := hI.2.2
  have n3 := hf.2.2.2.1
  have T := hf.1
  have e3 : mFilm M 3 0 0 = M 30 0 6 := rfl
  have e0 : mFilm M 0 0 0 = M 30 0 2 := rfl
  have k0 := hk M hI AgS.rf.ch
  unfold cntA at hk k0
  refine sgX8_count_0 C w ⟨fun c => ?_, fun c => ?_⟩
  · have c1 : ¬ (9 ≤ w ∧ w ≤ 12) := if10n c
    refine ⟨fun z => ?_, fun z => ?_, fun z => ?_, fun z => ?_, fun z => ?_, fun z => ?_, fun z => ⟨hI, fun N hA hE => ?_⟩, fun z => ⟨hf, fun N hA hH => ?_⟩, fun z => ?_, fun z => ?_⟩
    · rw [if_pos z] at k0; exact k0
    · rw [if_neg (by omega), if_pos z] at k0; exact k0
    · rw [if_neg (by omega), if_neg (by omega), if_pos z] at k0; exact k0
    · rw [if_neg (by omega), if_neg (by omega), if_neg (by omega), if_pos z] at k0
      have loop : ∀ (n : Nat) (p s : Int), 0 ≤ p → p + n = M 30 0 6 → s = szN (M 45 0) p.toNat → V κ 4 M 93 [some (.inr (30, 0)), none, some (.inl s), some (.inl p)] [] K := by
        intro n
        induction n with
        | zero =>
          intro p s p0 hn hs
          refine sgX8_count_93 C s p ⟨fun _ => ?_, fun z => absurd (by omega) z⟩
          rw [hs, show p = mFilm M 3 0 0 by omega]
          exact k0
        | succ n ih =>
          intro p s p0 hn hs
          have hr := szN_rng (M 45 0) p.toNat
          have st := hP.sta p0 (by omega)
          have e : szN (M 45 0) (p + 1).toNat = szN (M 45 0) p.toNat + (if M 45 0 p = -4 then 0 else 1) := sumN_s _ p0
          refine sgX8_count_93 C s p ⟨fun z => absurd z (by omega), fun _ => ⟨by omega, fun c2 => ⟨by omega, fun y ey => ⟨by omega, ih (p + 1) y (by omega) (by omega) ?_⟩⟩, fun c2 => ⟨by omega, fun y ey => ⟨by omega, ih (p + 1) y (by omega) (by omega) ?_⟩⟩⟩⟩
          · rw [e, if_pos (by omega)]; omega
          · rw [e, if_neg (by omega)]; omega
      exact loop (M 30 0 6).toNat 0 0 (by omega) (by omega) rfl
    · rw [if_neg (by omega), if_neg (by omega), if_neg (by omega), if_neg (by omega), if_pos z] at k0; exact k0
    · rw [if_neg (by omega), if_neg (by omega), if_neg (by omega), if_neg (by omega), if_neg (by omega), if_pos z] at k0; exact k0
    · have k1 := hk N (hA.inv hI) hA.ch
      rw [if_neg (by omega), if_neg (by omega), if_neg (by omega), if_neg (by omega), if_neg (by omega), if_neg (by omega), if_pos z, ← szN_c hE _ (by omega)] at k1
      have e6 : N 30 0 6 = M 30 0 6 := hA 30 0 6 (by omega)
      have PB := PlK_eq hE.sy (bP0_wf hf)
      have loop : ∀ (n : Nat) (p s : Int), 0 ≤ p → p + n = M 30 0 6 → s = szN (N 47 0) p.toNat → V κ 4 N 143 [some (.inr (30, 0)), none, some (.inl s), some (.inl p)] [] K := by
        intro n
        induction n with
        | zero =>
          intro p s p0 hn hs
          refine sgX8_count_143 C s p ⟨fun _ => ?_, fun z => absurd (by omega) z⟩
          rw [hs, show p = mFilm M 3 0 0 by omega]
          exact k1
        | succ n ih =>
          intro p s p0 hn hs
          have hr := szN_rng (N 47 0) p.toNat
          have st := PB.sta p0 (by omega)
          have e : szN (N 47 0) (p + 1).toNat = szN (N 47 0) p.toNat + (if N 47 0 p = -4 then 0 else 1) := sumN_s _ p0
          refine sgX8_count_143 C s p ⟨fun z => absurd z (by omega), fun _ => ⟨by omega, fun c2 => ⟨by omega, fun y ey => ⟨by omega, ih (p + 1) y (by omega) (by omega) ?_⟩⟩, fun c2 => ⟨by omega, fun y ey => ⟨by omega, ih (p + 1) y (by omega) (by omega) ?_⟩⟩⟩⟩
          · rw [e, if_pos (by omega)]; omega
          · rw [e, if_neg (by omega)]; omega
      exact loop (M 30 0 6).toNat 0 0 (by omega) (by omega) rfl
    · have k1 := hk N (hA.s.inv hI) hA.s.ch
      rw [if_neg (by omega), if_neg (by omega), if_neg (by omega), if_neg (by omega), if_neg (by omega), if_neg (by omega), if_neg (by omega), if_pos z] at k1
      have e2 : N 30 0 2 = M 30 0 2 := hA.s 30 0 2 (by omega)
      have loop : ∀ (n : Nat) (t s : Int), 0 ≤ t → t + n = M 30 0 2 → s = spb (mFilm M) t → V κ 4 N 182 [some (.inr (30, 0)), none, some (.inl s), some (.inl t)] [] K := by
        intro n
        induction n with
        | zero =>
          intro t s t0 hn hs
          refine sgX8_count_182 C s t ⟨fun _ => ?_, fun z => absurd (by omega) z⟩
          rw [hs, show t = mFilm M 0 0 0 by omega]
          exact k1
        | succ n ih =>
          intro t s t0 hn hs
          have hr := spb_rng (mFilm M) (t := t) t0 (by omega)
          have e := spb_s (mFilm M) t0
          have e' := spc_1 hf t
          have cr := spc_rng (mFilm M) t
          have hm := hH t t0 (by omega)
          refine sgX8_count_182 C s t ⟨fun z => absurd z (by omega), fun _ => ⟨by omega, ?_⟩⟩
          rw [hm]
          exact ⟨by omega, fun y ey => ⟨by omega, ih (t + 1) y (by omega) (by omega) (by omega)⟩⟩
      exact loop (M 30 0 2).toNat 0 0 (by omega) (by omega) rfl
    · rw [if_neg (by omega), if_neg (by omega), if_neg (by omega), if_neg (by omega), if_neg (by omega), if_neg (by omega), if_neg (by omega), if_neg (by omega), if_pos z, ← told_tk hf hVP 0 (mFilm M 0 0 0) (by omega), Int.sub_zero] at k0
      have loop : ∀ (n : Nat) (t s : Int), 0 ≤ t → t + n = M 30 0 2 → s = tdI (mFilm M) (M 45 0) (M 46 0) 0 t.toNat → V κ 4 M 211 [some (.inr (30, 0)), none, some (.inl s), some (.inl t)] [] K := by
        intro n
        induction n with
        | zero =>
          intro t s t0 hn hs
          refine sgX8_count_211 C s t ⟨fun _ => ?_, fun z => absurd (by omega) z⟩
          rw [hs, show t = mFilm M 0 0 0 by omega]
          exact k0
        | succ n ih =>
          intro t s t0 hn hs
          have hr := tdI_rng (mFilm M) (M 45 0) (M 46 0) 0 t.toNat
          have ts : tdI (mFilm M) (M 45 0) (M 46 0) 0 (t + 1).toNat = tdI (mFilm M) (M 45 0) (M 46 0) 0 t.toNat + (if tlB (mFilm M) (M 45 0) (M 46 0) t (mFilm M 3 0 0).toNat then 1 else 0) := by
            rw [toNat_s t0]
            show sumI _ 0 t.toNat + (if tlB (mFilm M) (M 45 0) (M 46 0) (0 + (t.toNat : Int)) (mFilm M 3 0 0).toNat then 1 else 0) = _
            rw [show (0 : Int) + (t.toNat : Int) = t by omega]
            rfl
          refine sgX8_count_211 C s t ⟨fun z => absurd z (by omega), fun _ => ⟨⟨hf, hP⟩, fun d2 => ⟨by omega, fun y ey => ⟨by omega, ih (t + 1) y (by omega) (by omega) ?_⟩⟩, fun d2 => ⟨by omega, fun y ey => ⟨by omega, ih (t + 1) y (by omega) (by omega) ?_⟩⟩⟩⟩
          · rw [ts, d2]; omega
          · rw [ts, if_pos (if10 d2)]; omega
      exact loop (M 30 0 2).toNat 0 0 (by omega) (by omega) rfl
    · rw [if_neg (by omega), if_neg (by omega), if_neg (by omega), if_neg (by omega), if_neg (by omega), if_neg (by omega), if_neg (by omega), if_neg (by omega), if_neg (by omega), if_neg (by omega)] at k0; exact k0
  · have c1 : 9 ≤ w ∧ w ≤ 12 := if10 c
    rw [if_neg (by omega), if_neg (by omega), if_neg (by omega), if_neg (by omega), if_neg (by omega), if_neg (by omega), if_neg (by omega), if_neg (by omega), if_neg (by omega), if_pos c1] at k0
    exact ⟨by omega, by omega, k0⟩
