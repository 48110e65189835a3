/-! ===== the Model: its film, small methods ===== -/
def mFilm (M : Mem) : Film := fun t a b => match t with
  | 0 => M 30 0 2
  | 1 => M 30 0 3
  | 2 => M 30 0 4
  | 3 => M 30 0 6
  | 4 => M 38 0 a
  | 5 => M 35 0 (3 * a)
  | 6 => M 35 0 (3 * a + 1)
  | 7 => M 35 0 (3 * a + 2)
  | 8 => M 37 0 (11 * a)
  | 9 => M 37 0 (11 * a + 1)
  | 10 => M 37 0 (11 * a + 2)
  | 11 => M 37 0 (11 * a + 3)
  | 12 => M 37 0 (11 * a + 4)
  | 13 => M 37 0 (11 * a + 5 + 2 * b)
  | 14 => M 37 0 (11 * a + 6 + 2 * b)
  | _ => 0
theorem mFilm_eq {M M' : Mem} (h30 : ∀ j, j = 2 ∨ j = 3 ∨ j = 4 ∨ j = 6 → M' 30 0 j = M 30 0 j) (h : ∀ r, r = 35 ∨ r = 37 ∨ r = 38 → M' r 0 = M r 0) : mFilm M' = mFilm M := by
  funext t a b
  unfold mFilm
  split <;> first | rfl | exact h30 _ (by decide) | (rw [h _ (by decide)])
/-! ===== GapTellingsModel.isIn ===== -/
abbrev rmX8_isIn : Room := { frames := 0, cells := 0, slots := 0, locals := 0 }
abbrev argX8_isIn (a : Int × Int × Int) : List PV := [.inl a.1, .inl a.2.1, .inl a.2.2]
abbrev CtX8_isIn (sp : Int → Int → Int → Mem → Kont → Prop) : Prop := Ct yX8_isIn cX8_isIn 3 (some .boolean) rmX8_isIn domM argX8_isIn (fun a => sp a.1 a.2.1 a.2.2)
theorem dX8_isIn_0 : decode cX8_isIn 0 = .ok (.iload_n 0, 1) := by decide +kernel
theorem dX8_isIn_1 : decode cX8_isIn 1 = .ok (.iload_n 1, 1) := by decide +kernel
theorem dX8_isIn_2 : decode cX8_isIn 2 = .ok (.if_icmp .lt 12, 3) := by decide +kernel
theorem dX8_isIn_5 : decode cX8_isIn 5 = .ok (.iload_n 0, 1) := by decide +kernel
theorem dX8_isIn_6 : decode cX8_isIn 6 = .ok (.iload_n 2, 1) := by decide +kernel
theorem dX8_isIn_7 : decode cX8_isIn 7 = .ok (.if_icmp .gt 7, 3) := by decide +kernel
theorem dX8_isIn_10 : decode cX8_isIn 10 = .ok (.iconst 1, 1) := by decide +kernel
theorem dX8_isIn_11 : decode cX8_isIn 11 = .ok (.goto 4, 3) := by decide +kernel
theorem dX8_isIn_14 : decode cX8_isIn 14 = .ok (.iconst 0, 1) := by decide +kernel
theorem dX8_isIn_15 : decode cX8_isIn 15 = .ok (.ireturn, 1) := by decide +kernel
set_option maxHeartbeats 4000000 in
set_option maxRecDepth 20000 in
theorem sgX8_isIn_0 {κ : Kx} {K : Kont} {M : Mem} (C : Cx κ RX8 cX8_isIn 3 (some .boolean) rmX8_isIn domM) (x0 : Int) (x1 : Int) (x2 : Int)
    (h :
    ((x0 < x1 →
      K (some 0) M) ∧
     (¬ (x0 < x1) →
      ((x2 < x0 →
        K (some 0) M) ∧
       (¬ (x2 < x0) →
        K (some 1) M))))) : V κ 3 M 0 [some (.inl x0), some (.inl x1), some (.inl x2)] [] K := by
  refine v_iload_n C dX8_isIn_0 rfl ?_
  refine v_iload_n C dX8_isIn_1 rfl ?_
  refine v_icmp C dX8_isIn_2 (tgt := 14) (by decide) (P := x0 < x1) rfl (fun c2 => ?_) (fun c2 => ?_)
  · replace h := h.1 c2
    refine v_iconst C dX8_isIn_14 (by decide) ?_
    exact v_zret C dX8_isIn_15 (by decide) h
  · replace h := h.2 c2
    refine v_iload_n C dX8_isIn_5 rfl ?_
    refine v_iload_n C dX8_isIn_6 rfl ?_
    refine v_icmp C dX8_isIn_7 (tgt := 14) (by decide) (P := x2 < x0) rfl (fun c7 => ?_) (fun c7 => ?_)
    · replace h := h.1 c7
      refine v_iconst C dX8_isIn_14 (by decide) ?_
      exact v_zret C dX8_isIn_15 (by decide) h
    · replace h := h.2 c7
      refine v_iconst C dX8_isIn_10 (by decide) ?_
      refine v_goto C dX8_isIn_11 (tgt := 15) (by decide) ?_
      exact v_zret C dX8_isIn_15 (by decide) h
abbrev spX8_isIn (x a b : Int) (M : Mem) (K : Kont) : Prop := K (some (if a ≤ x ∧ x ≤ b then 1 else 0)) M
theorem ctX8_isIn : CtX8_isIn spX8_isIn := by
  refine ct_of (by decide) dmM (fun _ => Nat.le_of_ble_eq_true rfl) ?_
  intro κ a M K C oM h
  obtain ⟨x, y, z⟩ := a
  have h : K (some (if y ≤ x ∧ x ≤ z then 1 else 0)) M := h
  refine sgX8_isIn_0 C x y z ⟨fun c => ?_, fun c => ⟨fun c2 => ?_, fun c2 => ?_⟩⟩
  · rw [if_neg (by omega)] at h; exact h
  · rw [if_neg (by omega)] at h; exact h
  · rw [if_pos (by omega)] at h; exact h
/-! ===== GapTellingsModel.letterAt ===== -/
abbrev rmX8_letterAt : Room := { frames := 0, cells := 0, slots := 0, locals := 0 }
abbrev argX8_letterAt (a : Int) : List PV := [.inr (30, 0), .inl a]
abbrev CtX8_letterAt (sp : Int → Mem → Kont → Prop) : Prop := Ct yX8_letterAt cX8_letterAt 2 (some .int) rmX8_letterAt domM argX8_letterAt (fun a => sp a)
theorem dX8_letterAt_0 : decode cX8_letterAt 0 = .ok (.iload_n 1, 1) := by decide +kernel
theorem dX8_letterAt_1 : decode cX8_letterAt 1 = .ok (.aload_n 0, 1) := by decide +kernel
theorem dX8_letterAt_2 : decode cX8_letterAt 2 = .ok (.getfield 80, 3) := by decide +kernel
theorem dX8_letterAt_5 : decode cX8_letterAt 5 = .ok (.if_icmp .ge 12, 3) := by decide +kernel
theorem dX8_letterAt_8 : decode cX8_letterAt 8 = .ok (.aload_n 0, 1) := by decide +kernel
theorem dX8_letterAt_9 : decode cX8_letterAt 9 = .ok (.getfield 7, 3) := by decide +kernel
theorem dX8_letterAt_12 : decode cX8_letterAt 12 = .ok (.iload_n 1, 1) := by decide +kernel
theorem dX8_letterAt_13 : decode cX8_letterAt 13 = .ok (.iaload, 1) := by decide +kernel
theorem dX8_letterAt_14 : decode cX8_letterAt 14 = .ok (.goto 4, 3) := by decide +kernel
theorem dX8_letterAt_17 : decode cX8_letterAt 17 = .ok (.iconst 0, 1) := by decide +kernel
theorem dX8_letterAt_18 : decode cX8_letterAt 18 = .ok (.ireturn, 1) := by decide +kernel
theorem flX8_80 : FL RX8 80 8 0 := ⟨_, _, _, rfl, by decide, uwX8, Or.inl (tb_mem (t_in4 (List.mem_of_getElem? (i := 108) (by decide +kernel))) (by decide +kernel))⟩
theorem flX8_7 : FL RX8 7 8 1 := ⟨_, _, _, rfl, by decide, uwX8, Or.inl (tb_mem (t_in4 (List.mem_of_getElem? (i := 109) (by decide +kernel))) (by decide +kernel))⟩
set_option maxHeartbeats 4000000 in
set_option maxRecDepth 20000 in
theorem sgX8_letterAt_0 {κ : Kx} {K : Kont} {M : Mem} (C : Cx κ RX8 cX8_letterAt 2 (some .int) rmX8_letterAt domM) (x1 : Int)
    (h :
    (((M 30 0 0) ≤ x1 →
      K (some 0) M) ∧
     (¬ ((M 30 0 0) ≤ x1) →
      (0 ≤ x1 ∧ x1 < 200) ∧
      K (some (M 31 0 x1)) M))) : V κ 2 M 0 [some (.inr (30, 0)), some (.inl x1)] [] K := by
  refine v_iload_n C dX8_letterAt_0 rfl ?_
  refine v_aload_n C dX8_letterAt_1 rfl ?_
  refine v_get C dX8_letterAt_2 flX8_80 rfl (by decide) (by decide) (w := .inl (M 30 0 0)) rfl ?_
  refine v_icmp C dX8_letterAt_5 (tgt := 17) (by decide) (P := (M 30 0 0) ≤ x1) rfl (fun c5 => ?_) (fun c5 => ?_)
  · replace h := h.1 c5
    refine v_iconst C dX8_letterAt_17 (by decide) ?_
    exact v_iret C dX8_letterAt_18 h
  · replace h := h.2 c5
    refine v_aload_n C dX8_letterAt_8 rfl ?_
    refine v_get C dX8_letterAt_9 flX8_7 rfl (by decide) (by decide) (w := .inr (31, 0)) rfl ?_
    refine v_iload_n C dX8_letterAt_12 rfl ?_
    refine v_iald C dX8_letterAt_13 rfl h.1.1 h.1.2 ?_
    replace h := h.2
    refine v_goto C dX8_letterAt_14 (tgt := 18) (by decide) ?_
    exact v_iret C dX8_letterAt_18 h
def lt (X : Int → Int) (L p : Int) : Int := if p < L then X p else 0
abbrev spX8_letterAt (p : Int) (M : Mem) (K : Kont) : Prop := (0 ≤ p ∧ M 30 0 0 ≤ 200) ∧ K (some (lt (M 31 0) (M 30 0 0) p)) M
theorem ctX8_letterAt : CtX8_letterAt spX8_letterAt := by
  refine ct_of (by decide) dmM (fun _ => Nat.le_of_ble_eq_true rfl) ?_
  intro κ p M K C oM h
  dsimp only [spX8_letterAt] at h
  obtain ⟨h0, h⟩ := h
  unfold lt at h
  refine sgX8_letterAt_0 C p ⟨fun c => ?_, fun c => ⟨by omega, ?_⟩⟩
  · rw [if_neg (by omega)] at h; exact h
  · rw [if_pos (by omega)] at h; exact h
/-! ===== GapTellingsModel.isFigure ===== -/
abbrev rmX8_isFigure : Room := { frames := 1, cells := 0, slots := 0, locals := 21 }
abbrev argX8_isFigure (a : Int) : List PV := [.inr (30, 0), .inl a]
abbrev CtX8_isFigure (sp : Int → Mem → Kont → Prop) : Prop := Ct yX8_isFigure cX8_isFigure 2 (some .boolean) rmX8_isFigure domM argX8_isFigure (fun a => sp a)
theorem dX8_isFigure_0 : decode cX8_isFigure 0 = .ok (.aload_n 0, 1) := by decide +kernel
theorem dX8_isFigure_1 : decode cX8_isFigure 1 = .ok (.iload_n 1, 1) := by decide +kernel
theorem dX8_isFigure_2 : decode cX8_isFigure 2 = .ok (.invokevirtual 83, 3) := by decide +kernel
theorem dX8_isFigure_5 : decode cX8_isFigure 5 = .ok (.bipush 48, 2) := by decide +kernel
theorem dX8_isFigure_7 : decode cX8_isFigure 7 = .ok (.if_icmp .lt 17, 3) := by decide +kernel
theorem dX8_isFigure_10 : decode cX8_isFigure 10 = .ok (.aload_n 0, 1) := by decide +kernel
theorem dX8_isFigure_11 : decode cX8_isFigure 11 = .ok (.iload_n 1, 1) := by decide +kernel
theorem dX8_isFigure_12 : decode cX8_isFigure 12 = .ok (.invokevirtual 83, 3) := by decide +kernel
theorem dX8_isFigure_15 : decode cX8_isFigure 15 = .ok (.bipush 57, 2) := by decide +kernel
theorem dX8_isFigure_17 : decode cX8_isFigure 17 = .ok (.if_icmp .gt 7, 3) := by decide +kernel
theorem dX8_isFigure_20 : decode cX8_isFigure 20 = .ok (.iconst 1, 1) := by decide +kernel
theorem dX8_isFigure_21 : decode cX8_isFigure 21 = .ok (.goto 4, 3) := by decide +kernel
theorem dX8_isFigure_24 : decode cX8_isFigure 24 = .ok (.iconst 0, 1) := by decide +kernel
theorem dX8_isFigure_25 : decode cX8_isFigure 25 = .ok (.ireturn, 1) := by decide +kernel
theorem ivX8_83 : IV RX8 83 yX8_letterAt cX8_letterAt 2 (some .int) 1 := ⟨(tb_mem (t_in4 (List.mem_of_getElem? (i := 224) (by decide +kernel))) (by decide +kernel)), (tb_mem (t_in4 (List.mem_of_getElem? (i := 226) (by decide +kernel))) (by decide +kernel)), (tb_sel (q := (⟨"GapTellingsModel", "letterAt", "(I)I"⟩, 29)) (List.mem_of_getElem? (i := 13) (by decide +kernel)) (by decide +kernel)), (tb_mem (t_in1 (List.mem_of_getElem? (i := 16) (by decide +kernel))) (by decide +kernel)), (tb_mem (t_in4 (List.mem_of_getElem? (i := 227) (by decide +kernel))) (by decide +kernel)), ⟨by decide +kernel, by decide +kernel, by decide +kernel⟩⟩
set_option maxHeartbeats 4000000 in
set_option maxRecDepth 20000 in
theorem sgX8_isFigure_0 {κ : Kx} {K : Kont} {M : Mem} (C : Cx κ RX8 cX8_isFigure 2 (some .boolean) rmX8_isFigure domM) (x1 : Int)
    (h :
    spX8_letterAt x1 M (rI (fun r2 M2 =>
    ((r2 < 48 →
      K (some 0) M2) ∧
     (¬ (r2 < 48) →
      spX8_letterAt x1 M2 (rI (fun r12 M12 =>
      ((57 < r12 →
        K (some 0) M12) ∧
       (¬ (57 < r12) →
        K (some 1) M12))))))))) : V κ 2 M 0 [some (.inr (30, 0)), some (.inl x1)] [] K := by
  refine v_aload_n C dX8_isFigure_0 rfl ?_
  refine v_iload_n C dX8_isFigure_1 rfl ?_
  refine v_invV C ctX8_letterAt dX8_isFigure_2 ivX8_83 ⟨by decide, by decide, rfl, rfl⟩ (x1 : Int) (As := [.inl x1]) rfl rfl rfl (by decide) rfl (st := []) rfl (Nat.le_of_ble_eq_true rfl) h (fun o M2 oM2 io2 g2 => ?_)
  replace h := rI_out g2
  clear g2
  obtain ⟨r2, rfl, h⟩ := h
  refine v_push ?_
  refine v_bipush C dX8_isFigure_5 (by decide) (by decide) ?_
  refine v_icmp C dX8_isFigure_7 (tgt := 24) (by decide) (P := r2 < 48) rfl (fun c7 => ?_) (fun c7 => ?_)
  · replace h := h.1 c7
    refine v_iconst C dX8_isFigure_24 (by decide) ?_
    exact v_zret C dX8_isFigure_25 (by decide) h
  · replace h := h.2 c7
    refine v_aload_n C dX8_isFigure_10 rfl ?_
    refine v_iload_n C dX8_isFigure_11 rfl ?_
    refine v_invV C ctX8_letterAt dX8_isFigure_12 ivX8_83 ⟨by decide, by decide, rfl, rfl⟩ (x1 : Int) (As := [.inl x1]) rfl rfl rfl (by decide) rfl (st := []) rfl (Nat.le_of_ble_eq_true rfl) h (fun o M12 oM12 io12 g12 => ?_)
    replace h := rI_out g12
    clear g12
    obtain ⟨r12, rfl, h⟩ := h
    refine v_push ?_
    refine v_bipush C dX8_isFigure_15 (by decide) (by decide) ?_
    refine v_icmp C dX8_isFigure_17 (tgt := 24) (by decide) (P := 57 < r12) rfl (fun c17 => ?_) (fun c17 => ?_)
    · replace h := h.1 c17
      refine v_iconst C dX8_isFigure_24 (by decide) ?_
      exact v_zret C dX8_isFigure_25 (by decide) h
    · replace h := h.2 c17
      refine v_iconst C dX8_isFigure_20 (by decide) ?_
      refine v_goto C dX8_isFigure_21 (tgt := 25) (by decide) ?_
      exact v_zret C dX8_isFigure_25 (by decide) h
abbrev spX8_isFigure (p : Int) (M : Mem) (K : Kont) : Prop := (0 ≤ p ∧ M 30 0 0 ≤ 200) ∧ K (some (if isF (M 31 0) (M 30 0 0) p then 1 else 0)) M
theorem ctX8_isFigure : CtX8_isFigure spX8_isFigure := by
  refine ct_of (by decide) dmM (fun _ => Nat.le_of_ble_eq_true rfl) ?_
  intro κ p M K C oM h
  dsimp only [spX8_isFigure] at h
  obtain ⟨h0, h⟩ := h
  have e : ∀ x, x = lt (M 31 0) (M 30 0 0) p → (isF (M 31 0) (M 30 0 0) p ↔ (48 ≤ x ∧ x ≤ 57)) := by
    intro x ex
    unfold lt at ex
    rw [ex]
    split <;> omega
  have e := e _ rfl
  refine sgX8_isFigure_0 C p ⟨h0, fun c => ?_, fun c => ⟨h0, fun c2 => ?_, fun c2 => ?_⟩⟩
  · rw [if_neg (fun z => by have := e.1 z; omega)] at h; exact h
  · rw [if_neg (fun z => by have := e.1 z; omega)] at h; exact h
  · rw [if_pos (e.2 ⟨by omega, by omega⟩)] at h; exact h
/-! ===== GapTellingsModel.number ===== -/
abbrev rmX8_number : Room := { frames := 2, cells := 0, slots := 0, locals := 42 }
abbrev argX8_number (a : Int × Int × Int × Int) : List PV := [.inr (30, 0), .inl a.1, .inl a.2.1, .inl a.2.2.1, .inl a.2.2.2]
abbrev CtX8_number (sp : Int → Int → Int → Int → Mem → Kont → Prop) : Prop := Ct yX8_number cX8_number 6 (some .boolean) rmX8_number domM argX8_number (fun a => sp a.1 a.2.1 a.2.2.1 a.2.2.2)
theorem dX8_number_0 : decode cX8_number 0 = .ok (.iload_n 1, 1) := by decide +kernel
theorem dX8_number_1 : decode cX8_number 1 = .ok (.istore 5, 2) := by decide +kernel
theorem dX8_number_3 : decode cX8_number 3 = .ok (.aload_n 0, 1) := by decide +kernel
theorem dX8_number_4 : decode cX8_number 4 = .ok (.iconst 0, 1) := by decide +kernel
theorem dX8_number_5 : decode cX8_number 5 = .ok (.putfield 87, 3) := by decide +kernel
theorem dX8_number_8 : decode cX8_number 8 = .ok (.aload_n 0, 1) := by decide +kernel
theorem dX8_number_9 : decode cX8_number 9 = .ok (.iload 5, 2) := by decide +kernel
theorem dX8_number_11 : decode cX8_number 11 = .ok (.invokevirtual 90, 3) := by decide +kernel
theorem dX8_number_14 : decode cX8_number 14 = .ok (.ifCond .eq 38, 3) := by decide +kernel
theorem dX8_number_17 : decode cX8_number 17 = .ok (.iload 5, 2) := by decide +kernel
theorem dX8_number_19 : decode cX8_number 19 = .ok (.iload_n 1, 1) := by decide +kernel
theorem dX8_number_20 : decode cX8_number 20 = .ok (.iload_n 2, 1) := by decide +kernel
theorem dX8_number_21 : decode cX8_number 21 = .ok (.iadd, 1) := by decide +kernel
theorem dX8_number_22 : decode cX8_number 22 = .ok (.if_icmp .ge 30, 3) := by decide +kernel
theorem dX8_number_25 : decode cX8_number 25 = .ok (.aload_n 0, 1) := by decide +kernel
theorem dX8_number_26 : decode cX8_number 26 = .ok (.bipush 10, 2) := by decide +kernel
theorem dX8_number_28 : decode cX8_number 28 = .ok (.aload_n 0, 1) := by decide +kernel
theorem dX8_number_29 : decode cX8_number 29 = .ok (.getfield 87, 3) := by decide +kernel
theorem dX8_number_32 : decode cX8_number 32 = .ok (.imul, 1) := by decide +kernel
theorem dX8_number_33 : decode cX8_number 33 = .ok (.aload_n 0, 1) := by decide +kernel
theorem dX8_number_34 : decode cX8_number 34 = .ok (.iload 5, 2) := by decide +kernel
theorem dX8_number_36 : decode cX8_number 36 = .ok (.invokevirtual 83, 3) := by decide +kernel
theorem dX8_number_39 : decode cX8_number 39 = .ok (.iadd, 1) := by decide +kernel
theorem dX8_number_40 : decode cX8_number 40 = .ok (.bipush 48, 2) := by decide +kernel
theorem dX8_number_42 : decode cX8_number 42 = .ok (.isub, 1) := by decide +kernel
theorem dX8_number_43 : decode cX8_number 43 = .ok (.putfield 87, 3) := by decide +kernel
theorem dX8_number_46 : decode cX8_number 46 = .ok (.iinc 5 1, 3) := by decide +kernel
theorem dX8_number_49 : decode cX8_number 49 = .ok (.goto (-41), 3) := by decide +kernel
theorem dX8_number_52 : decode cX8_number 52 = .ok (.aload_n 0, 1) := by decide +kernel
theorem dX8_number_53 : decode cX8_number 53 = .ok (.iload 5, 2) := by decide +kernel
theorem dX8_number_55 : decode cX8_number 55 = .ok (.putfield 94, 3) := by decide +kernel
theorem dX8_number_58 : decode cX8_number 58 = .ok (.iload 5, 2) := by decide +kernel
theorem dX8_number_60 : decode cX8_number 60 = .ok (.iload_n 1, 1) := by decide +kernel
theorem dX8_number_61 : decode cX8_number 61 = .ok (.if_icmp .le 20, 3) := by decide +kernel
theorem dX8_number_64 : decode cX8_number 64 = .ok (.aload_n 0, 1) := by decide +kernel
theorem dX8_number_65 : decode cX8_number 65 = .ok (.getfield 87, 3) := by decide +kernel
theorem dX8_number_68 : decode cX8_number 68 = .ok (.iload_n 3, 1) := by decide +kernel
theorem dX8_number_69 : decode cX8_number 69 = .ok (.iload 4, 2) := by decide +kernel
theorem dX8_number_71 : decode cX8_number 71 = .ok (.invokestatic 97, 3) := by decide +kernel
theorem dX8_number_74 : decode cX8_number 74 = .ok (.ifCond .eq 7, 3) := by decide +kernel
theorem dX8_number_77 : decode cX8_number 77 = .ok (.iconst 1, 1) := by decide +kernel
theorem dX8_number_78 : decode cX8_number 78 = .ok (.goto 4, 3) := by decide +kernel
theorem dX8_number_81 : decode cX8_number 81 = .ok (.iconst 0, 1) := by decide +kernel
theorem dX8_number_82 : decode cX8_number 82 = .ok (.ireturn, 1) := by decide +kernel
theorem plX8_87 : PL RX8 87 8 27 .int := ⟨_, _, _, rfl, by decide, uwX8, Or.inl (tb_mem (t_in4 (List.mem_of_getElem? (i := 135) (by decide +kernel))) (by decide +kernel)), rfl, by decide +kernel, tyX8, tyX8_ok, nmX8⟩
theorem ivX8_90 : IV RX8 90 yX8_isFigure cX8_isFigure 2 (some .boolean) 1 := ⟨(tb_mem (t_in4 (List.mem_of_getElem? (i := 220) (by decide +kernel))) (by decide +kernel)), (tb_mem (t_in4 (List.mem_of_getElem? (i := 222) (by decide +kernel))) (by decide +kernel)), (tb_sel (q := (⟨"GapTellingsModel", "isFigure", "(I)Z"⟩, 29)) (List.mem_of_getElem? (i := 12) (by decide +kernel)) (by decide +kernel)), (tb_mem (t_in1 (List.mem_of_getElem? (i := 16) (by decide +kernel))) (by decide +kernel)), (tb_mem (t_in4 (List.mem_of_getElem? (i := 223) (by decide +kernel))) (by decide +kernel)), ⟨by decide +kernel, by decide +kernel, by decide +kernel⟩⟩
theorem plX8_94 : PL RX8 94 8 28 .int := ⟨_, _, _, rfl, by decide, uwX8, Or.inl (tb_mem (t_in4 (List.mem_of_getElem? (i := 136) (by decide +kernel))) (by decide +kernel)), rfl, by decide +kernel, tyX8, tyX8_ok, nmX8⟩
theorem flX8_87 : FL RX8 87 8 27 := ⟨_, _, _, rfl, by decide, uwX8, Or.inl (tb_mem (t_in4 (List.mem_of_getElem? (i := 135) (by decide +kernel))) (by decide +kernel))⟩
theorem ivX8_97 : IS RX8 97 yX8_isIn cX8_isIn 3 (some .boolean) 3 := ⟨(tb_mem (t_in4 (List.mem_of_getElem? (i := 228) (by decide +kernel))) (by decide +kernel)), (tb_mem (t_in4 (List.mem_of_getElem? (i := 229) (by decide +kernel))) (by decide +kernel)), (tb_mem (t_in1 (List.mem_of_getElem? (i := 16) (by decide +kernel))) (by decide +kernel)), (tb_mem (t_in4 (List.mem_of_getElem? (i := 230) (by decide +kernel))) (by decide +kernel)), ⟨by decide +kernel, by decide +kernel, by decide +kernel⟩⟩
set_option maxHeartbeats 4000000 in
set_option maxRecDepth 20000 in
theorem sgX8_number_0 {κ : Kx} {K : Kont} {M : Mem} (C : Cx κ RX8 cX8_number 6 (some .boolean) rmX8_number domM) (x1 : Int) (x2 : Int) (x3 : Int) (x4 : Int)
    (h :
    ∀ M5 : Mem, M5 = up3 M 30 0 27 0 →
    V κ 6 M5 8 [some (.inr (30, 0)), some (.inl x1), some (.inl x2), some (.inl x3), some (.inl x4), some (.inl x1)] [] K) : V κ 6 M 0 [some (.inr (30, 0)), some (.inl x1), some (.inl x2), some (.inl x3), some (.inl x4), none] [] K := by
  refine v_iload_n C dX8_number_0 rfl ?_
  refine v_istore C dX8_number_1 (by decide) (Nat.le_of_ble_eq_true rfl) (lv' := [some (.inr (30, 0)), some (.inl x1), some (.inl x2), some (.inl x3), some (.inl x4), some (.inl x1)]) rfl ?_
  refine v_aload_n C dX8_number_3 rfl ?_
  refine v_iconst C dX8_number_4 (by decide) ?_
  refine v_put C dX8_number_5 plX8_87 rfl (by decide) (by decide) rfl rfl rfl ?_
  refine v_nmM (fun M5 eM5 => ?_)
  replace h := h M5 eM5
  refine v_weak [some (.inr (30, 0)), some (.inl x1), some (.inl x2), some (.inl x3), some (.inl x4), some (.inl x1)] ⟨rfl, rfl, rfl, rfl, rfl, rfl, trivial⟩ ?_
  exact h
set_option maxHeartbeats 4000000 in
set_option maxRecDepth 20000 in
theorem sgX8_number_8 {κ : Kx} {K : Kont} {M : Mem} (C : Cx κ RX8 cX8_number 6 (some .boolean) rmX8_number domM) (x1 : Int) (x2 : Int) (x3 : Int) (x4 : Int) (x5 : Int)
    (h :
    spX8_isFigure x5 M (rI (fun r11 M11 =>
    ((r11 = 0 →
      ∀ M55 : Mem, M55 = up3 M11 30 0 28 x5 →
      ((x5 ≤ x1 →
        K (some 0) M55) ∧
       (¬ (x5 ≤ x1) →
        spX8_isIn (M55 30 0 27) x3 x4 M55 (rI (fun r71 M71 =>
        ((r71 = 0 →
          K (some 0) M71) ∧
         (¬ (r71 = 0) →
          K (some 1) M71))))))) ∧
     (¬ (r11 = 0) →
      inR (x1 + x2) ∧
      (((x1 + x2) ≤ x5 →
        ∀ M55 : Mem, M55 = up3 M11 30 0 28 x5 →
        ((x5 ≤ x1 →
          K (some 0) M55) ∧
         (¬ (x5 ≤ x1) →
          spX8_isIn (M55 30 0 27) x3 x4 M55 (rI (fun r71 M71 =>
          ((r71 = 0 →
            K (some 0) M71) ∧
           (¬ (r71 = 0) →
            K (some 1) M71))))))) ∧
       (¬ ((x1 + x2) ≤ x5) →
        inR (10 * (M11 30 0 27)) ∧
        spX8_letterAt x5 M11 (rI (fun r36 M36 =>
        inR ((10 * (M11 30 0 27)) + r36) ∧
        inR (((10 * (M11 30 0 27)) + r36) - 48) ∧
        ∀ M43 : Mem, M43 = up3 M36 30 0 27 (((10 * (M11 30 0 27)) + r36) - 48) →
        inR (x5 + 1) ∧
        V κ 6 M43 8 [some (.inr (30, 0)), some (.inl x1), some (.inl x2), some (.inl x3), some (.inl x4), some (.inl (x5 + 1))] [] K))))))))) : V κ 6 M 8 [some (.inr (30, 0)), some (.inl x1), some (.inl x2), some (.inl x3), some (.inl x4), some (.inl x5)] [] K := by
  refine v_aload_n C dX8_number_8 rfl ?_
  refine v_iload C dX8_number_9 rfl ?_
  refine v_invV C ctX8_isFigure dX8_number_11 ivX8_90 ⟨by decide, by decide, rfl, rfl⟩ (x5 : Int) (As := [.inl x5]) rfl rfl rfl (by decide) rfl (st := []) rfl (Nat.le_of_ble_eq_true rfl) h (fun o M11 oM11 io11 g11 => ?_)
  replace h := rI_out g11
  clear g11
  obtain ⟨r11, rfl, h⟩ := h
  refine v_push ?_
  refine v_if C dX8_number_14 (tgt := 52) (by decide) (P := r11 = 0) rfl (fun c14 => ?_) (fun c14 => ?_)
  · replace h := h.1 c14
    refine v_aload_n C dX8_number_52 rfl ?_
    refine v_iload C dX8_number_53 rfl ?_
    refine v_put C dX8_number_55 plX8_94 rfl (by decide) (by decide) rfl rfl rfl ?_
    refine v_nmM (fun M55 eM55 => ?_)
    replace h := h M55 eM55
    refine v_iload C dX8_number_58 rfl ?_
    refine v_iload_n C dX8_number_60 rfl ?_
    refine v_icmp C dX8_number_61 (tgt := 81) (by decide) (P := x5 ≤ x1) rfl (fun c61 => ?_) (fun c61 => ?_)
    · replace h := h.1 c61
      refine v_iconst C dX8_number_81 (by decide) ?_
      exact v_zret C dX8_number_82 (by decide) h
    · replace h := h.2 c61
      refine v_aload_n C dX8_number_64 rfl ?_
      refine v_get C dX8_number_65 flX8_87 rfl (by decide) (by decide) (w := .inl (M55 30 0 27)) rfl ?_
      refine v_iload_n C dX8_number_68 rfl ?_
      refine v_iload C dX8_number_69 rfl ?_
      refine v_invS C ctX8_isIn dX8_number_71 ivX8_97 ⟨by decide, by decide, rfl, rfl⟩ ((M55 30 0 27, x3, x4) : Int × Int × Int) rfl (st := []) rfl (Nat.le_of_ble_eq_true rfl) h (fun o M71 oM71 io71 g71 => ?_)
      replace h := rI_out g71
      clear g71
      obtain ⟨r71, rfl, h⟩ := h
      refine v_push ?_
      refine v_if C dX8_number_74 (tgt := 81) (by decide) (P := r71 = 0) rfl (fun c74 => ?_) (fun c74 => ?_)
      · replace h := h.1 c74
        refine v_iconst C dX8_number_81 (by decide) ?_
        exact v_zret C dX8_number_82 (by decide) h
      · replace h := h.2 c74
        refine v_iconst C dX8_number_77 (by decide) ?_
        refine v_goto C dX8_number_78 (tgt := 82) (by decide) ?_
        exact v_zret C dX8_number_82 (by decide) h
  · replace h := h.2 c14
    refine v_iload C dX8_number_17 rfl ?_
    refine v_iload_n C dX8_number_19 rfl ?_
    refine v_iload_n C dX8_number_20 rfl ?_
    refine v_iadd C dX8_number_21 h.1 ?_
    replace h := h.2
    refine v_icmp C dX8_number_22 (tgt := 52) (by decide) (P := (x1 + x2) ≤ x5) rfl (fun c22 => ?_) (fun c22 => ?_)
    · replace h := h.1 c22
      refine v_aload_n C dX8_number_52 rfl ?_
      refine v_iload C dX8_number_53 rfl ?_
      refine v_put C dX8_number_55 plX8_94 rfl (by decide) (by decide) rfl rfl rfl ?_
      refine v_nmM (fun M55 eM55 => ?_)
      replace h := h M55 eM55
      refine v_iload C dX8_number_58 rfl ?_
      refine v_iload_n C dX8_number_60 rfl ?_
      refine v_icmp C dX8_number_61 (tgt := 81) (by decide) (P := x5 ≤ x1) rfl (fun c61 => ?_) (fun c61 => ?_)
      · replace h := h.1 c61
        refine v_iconst C dX8_number_81 (by decide) ?_
        exact v_zret C dX8_number_82 (by decide) h
      · replace h := h.2 c61
        refine v_aload_n C dX8_number_64 rfl ?_
        refine v_get C dX8_number_65 flX8_87 rfl (by decide) (by decide) (w := .inl (M55 30 0 27)) rfl ?_
        refine v_iload_n C dX8_number_68 rfl ?_
        refine v_iload C dX8_number_69 rfl ?_
        refine v_invS C ctX8_isIn dX8_number_71 ivX8_97 ⟨by decide, by decide, rfl, rfl⟩ ((M55 30 0 27, x3, x4) : Int × Int × Int) rfl (st := []) rfl (Nat.le_of_ble_eq_true rfl) h (fun o M71 oM71 io71 g71 => ?_)
        replace h := rI_out g71
        clear g71
        obtain ⟨r71, rfl, h⟩ := h
        refine v_push ?_
        refine v_if C dX8_number_74 (tgt := 81) (by decide) (P := r71 = 0) rfl (fun c74 => ?_) (fun c74 => ?_)
        · replace h := h.1 c74
          refine v_iconst C dX8_number_81 (by decide) ?_
          exact v_zret C dX8_number_82 (by decide) h
        · replace h := h.2 c74
          refine v_iconst C dX8_number_77 (by decide) ?_
          refine v_goto C dX8_number_78 (tgt := 82) (by decide) ?_
          exact v_zret C dX8_number_82 (by decide) h
    · replace h := h.2 c22
      refine v_aload_n C dX8_number_25 rfl ?_
      refine v_bipush C dX8_number_26 (by decide) (by decide) ?_
      refine v_aload_n C dX8_number_28 rfl ?_
      refine v_get C dX8_number_29 flX8_87 rfl (by decide) (by decide) (w := .inl (M11 30 0 27)) rfl ?_
      refine v_imul C dX8_number_32 h.1 ?_
      replace h := h.2
      refine v_aload_n C dX8_number_33 rfl ?_
      refine v_iload C dX8_number_34 rfl ?_
      refine v_invV C ctX8_letterAt dX8_number_36 ivX8_83 ⟨by decide, by decide, rfl, rfl⟩ (x5 : Int) (As := [.inl x5]) rfl rfl rfl (by decide) rfl (st := [.inl (10 * (M11 30 0 27)), .inr (30, 0)]) rfl (Nat.le_of_ble_eq_true rfl) h (fun o M36 oM36 io36 g36 => ?_)
      replace h := rI_out g36
      clear g36
      obtain ⟨r36, rfl, h⟩ := h
      refine v_push ?_
      refine v_iadd C dX8_number_39 h.1 ?_
      replace h := h.2
      refine v_bipush C dX8_number_40 (by decide) (by decide) ?_
      refine v_isub C dX8_number_42 h.1 ?_
      replace h := h.2
      refine v_put C dX8_number_43 plX8_87 rfl (by decide) (by decide) rfl rfl rfl ?_
      refine v_nmM (fun M43 eM43 => ?_)
      replace h := h M43 eM43
      refine v_iinc C dX8_number_46 (by decide) rfl h.1 (lv' := [some (.inr (30, 0)), some (.inl x1), some (.inl x2), some (.inl x3), some (.inl x4), some (.inl (x5 + 1))]) rfl ?_
      replace h := h.2
      refine v_goto C dX8_number_49 (tgt := 8) (by decide) ?_
      refine v_weak [some (.inr (30, 0)), some (.inl x1), some (.inl x2), some (.inl x3), some (.inl x4), some (.inl (x5 + 1))] ⟨rfl, rfl, rfl, rfl, rfl, rfl, trivial⟩ ?_
      exact h
theorem dgv_p {X : Int → Int} {L p acc : Int} {m : Nat} (h : isF X L p) : dgv X L (m + 1) p acc = dgv X L m (p + 1) (acc * 10 + (X p - 48)) := if_pos h
theorem dgv_n {X : Int → Int} {L p acc : Int} {m : Nat} (h : ¬ isF X L p) : dgv X L (m + 1) p acc = acc := if_neg h
theorem dgc_p {X : Int → Int} {L p : Int} {m : Nat} (h : isF X L p) : dgc X L (m + 1) p = 1 + dgc X L m (p + 1) := if_pos h
theorem dgc_n {X : Int → Int} {L p : Int} {m : Nat} (h : ¬ isF X L p) : dgc X L (m + 1) p = 0 := if_neg h
/-- nothing but value and ends has changed -/
def AgV (M M' : Mem) : Prop := ∀ r i j, ¬ (r = 30 ∧ (j = 27 ∨ j = 28)) → M' r i j = M r i j
theorem AgV.rf {M : Mem} : AgV M M := fun _ _ _ _ => rfl
theorem AgV.tr {M M' M2 : Mem} (h : AgV M M') (h2 : AgV M' M2) : AgV M M2 := fun r i j hn => (h2 r i j hn).trans (h r i j hn)
theorem AgV.up (M : Mem) {j : Int} (hj : j = 27 ∨ j = 28) (v : Int) : AgV M (up3 M 30 0 j v) := fun r i j' hn => if_neg (fun z => hn ⟨z.1, by rw [z.2.2]; exact hj⟩)
abbrev spX8_number (p m lo hi : Int) (M : Mem) (K : Kont) : Prop := ((0 ≤ p ∧ p ≤ 200) ∧ M 30 0 0 ≤ 200 ∧ (0 ≤ m ∧ m ≤ 3)) ∧ ∀ M', AgV M M' → M' 30 0 27 = dgv (M 31 0) (M 30 0 0) m.toNat p 0 → M' 30 0 28 = p + dgc (M 31 0) (M 30 0 0) m.toNat p →
  K (some (if 0 < dgc (M 31 0) (M 30 0 0) m.toNat p ∧ lo ≤ dgv (M 31 0) (M 30 0 0) m.toNat p 0 ∧ dgv (M 31 0) (M 30 0 0) m.toNat p 0 ≤ hi then 1 else 0)) M'
theorem ctX8_number : CtX8_number spX8_number := by
  refine ct_of (by decide) dmM (fun _ => Nat.le_of_ble_eq_true rfl) ?_
  intro κ a M K C oM h
  obtain ⟨p, m, lo, hi⟩ := a
  dsimp only [spX8_number] at h
  obtain ⟨⟨hp, hL, hm⟩, hk⟩ := h
  have done : ∀ (N : Mem) (a : Int), AgV M N → p ≤ a → N 30 0 27 = dgv (M 31 0) (M 30 0 0) m.toNat p 0 → a = p + dgc (M 31 0) (M 30 0 0) m.toNat p → ∀ N2 : Mem, N2 = up3 N 30 0 28 a →
      ((a ≤ p → K (some 0) N2) ∧ (¬ (a ≤ p) → spX8_isIn (N2 30 0 27) lo hi N2 (rI (fun r71 M71 => ((r71 = 0 → K (some 0) M71) ∧ (¬ (r71 = 0) → K (some 1) M71)))))) := by
    intro N a hA hpa hv ha N2 e2
    have hA2 : AgV M N2 := by rw [e2]; exact hA.tr (AgV.up N (Or.inr rfl) a)
    have v2 : N2 30 0 27 = dgv (M 31 0) (M 30 0 0) m.toNat p 0 := by rw [e2, up3_j _ _ _ _ _ (by decide), hv]
    have s2 : N2 30 0 28 = p + dgc (M 31 0) (M 30 0 0) m.toNat p := by rw [e2, up3_s, ha]
    have := hk N2 hA2 v2 s2
    refine ⟨fun c => ?_, fun c => ?_⟩
    · rw [if_neg (by omega)] at this; exact this
    · refine ⟨fun c2 => ?_, fun c2 => ?_⟩
      · rw [v2] at c2
        rw [if_neg (fun z => if10n c2 z.2)] at this; exact this
      · rw [v2] at c2
        rw [if_pos ⟨by omega, if10 c2⟩] at this; exact this
  have loop : ∀ (n : Nat) (a acc : Int) (N : Mem), p ≤ a → a + n = p + m → AgV M N → N 30 0 27 = acc → (0 ≤ acc ∧ (a = p → acc = 0) ∧ (a = p + 1 → acc ≤ 9) ∧ (a = p + 2 → acc ≤ 99)) → dgv (M 31 0) (M 30 0 0) n a acc = dgv (M 31 0) (M 30 0 0) m.toNat p 0 → a + dgc (M 31 0) (M 30 0 0) n a = p + dgc (M 31 0) (M 30 0 0) m.toNat p →
      V κ 6 N 8 [some (.inr (30, 0)), some (.inl p), some (.inl m), some (.inl lo), some (.inl hi), some (.inl a)] [] K := by
    intro n
    induction n with
    | zero =>
      intro a acc N h0 hn hA hv hacc e1 e2
      have eL : N 30 0 0 = M 30 0 0 := hA 30 0 0 (by omega)
      have d := done N a hA h0 (by rw [hv]; exact e1) (by have : dgc (M 31 0) (M 30 0 0) 0 a = 0 := rfl; omega)
      exact sgX8_number_8 C p m lo hi a ⟨by omega, fun c N2 e => d N2 e, fun c => ⟨by omega, fun c2 N2 e => d N2 e, fun c2 => absurd (by omega) c2⟩⟩
    | succ n ih =>
      intro a acc N h0 hn hA hv hacc e1 e2
      have eL : N 30 0 0 = M 30 0 0 := hA 30 0 0 (by omega)
      have eX : N 31 0 = M 31 0 := by funext j; exact hA 31 0 j (by omega)
      refine sgX8_number_8 C p m lo hi a ⟨by omega, fun c N2 e => ?_, fun c => ?_⟩
      · rw [eL, eX] at c
        have c' := if10n c
        rw [dgv_n c'] at e1
        rw [dgc_n c'] at e2
        exact done N a hA h0 (by rw [hv]; exact e1) (by omega) N2 e
      · rw [eL, eX] at c
        have c' : isF (M 31 0) (M 30 0 0) a := if10 c
        have q : acc ≤ 99 := by omega
        refine ⟨by omega, fun c2 => absurd c2 (by omega), fun c2 => ⟨by omega, ⟨by omega, by omega⟩, ?_⟩⟩
        rw [eL, eX]
        have le : lt (M 31 0) (M 30 0 0) a = M 31 0 a := if_pos c'.1
        show inR (10 * N 30 0 27 + lt (M 31 0) (M 30 0 0) a) ∧ _
        rw [le]
        refine ⟨by omega, by omega, fun N2 e => ⟨by omega, ?_⟩⟩
        rw [dgv_p c'] at e1
        rw [dgc_p c'] at e2
        refine ih (a + 1) (acc * 10 + (M 31 0 a - 48)) N2 (by omega) (by omega) (by rw [e]; exact hA.tr (AgV.up N (Or.inl rfl) _)) ?_ ⟨by omega, ?_⟩ e1 (by omega)
        · rw [e, up3_s, hv]; omega
        · omega
  refine sgX8_number_0 C p m lo hi (fun N e => ?_)
  refine loop m.toNat p 0 N (by omega) (by omega) (by rw [e]; exact AgV.up M (Or.inl rfl) 0) (by rw [e, up3_s]) ⟨by omega, by omega⟩ rfl rfl
/-! ===== GapTellingsModel.more ===== -/
abbrev rmX8_more : Room := { frames := 3, cells := 0, slots := 0, locals := 67 }
abbrev argX8_more (a : Int × Int × Int) : List PV := [.inr (30, 0), .inl a.1, .inl a.2.1, .inl a.2.2]
abbrev CtX8_more (sp : Int → Int → Int → Mem → Kont → Prop) : Prop := Ct yX8_more cX8_more 4 (some .boolean) rmX8_more domM argX8_more (fun a => sp a.1 a.2.1 a.2.2)
theorem dX8_more_0 : decode cX8_more 0 = .ok (.aload_n 0, 1) := by decide +kernel
theorem dX8_more_1 : decode cX8_more 1 = .ok (.aload_n 0, 1) := by decide +kernel
theorem dX8_more_2 : decode cX8_more 2 = .ok (.getfield 94, 3) := by decide +kernel
theorem dX8_more_5 : decode cX8_more 5 = .ok (.invokevirtual 83, 3) := by decide +kernel
theorem dX8_more_8 : decode cX8_more 8 = .ok (.bipush 44, 2) := by decide +kernel
theorem dX8_more_10 : decode cX8_more 10 = .ok (.if_icmp .ne 23, 3) := by decide +kernel
theorem dX8_more_13 : decode cX8_more 13 = .ok (.aload_n 0, 1) := by decide +kernel
theorem dX8_more_14 : decode cX8_more 14 = .ok (.aload_n 0, 1) := by decide +kernel
theorem dX8_more_15 : decode cX8_more 15 = .ok (.getfield 94, 3) := by decide +kernel
theorem dX8_more_18 : decode cX8_more 18 = .ok (.iconst 1, 1) := by decide +kernel
theorem dX8_more_19 : decode cX8_more 19 = .ok (.iadd, 1) := by decide +kernel
theorem dX8_more_20 : decode cX8_more 20 = .ok (.iload_n 1, 1) := by decide +kernel
theorem dX8_more_21 : decode cX8_more 21 = .ok (.iload_n 2, 1) := by decide +kernel
theorem dX8_more_22 : decode cX8_more 22 = .ok (.iload_n 3, 1) := by decide +kernel
theorem dX8_more_23 : decode cX8_more 23 = .ok (.invokevirtual 101, 3) := by decide +kernel
theorem dX8_more_26 : decode cX8_more 26 = .ok (.ifCond .eq 7, 3) := by decide +kernel
theorem dX8_more_29 : decode cX8_more 29 = .ok (.iconst 1, 1) := by decide +kernel
theorem dX8_more_30 : decode cX8_more 30 = .ok (.goto 4, 3) := by decide +kernel
theorem dX8_more_33 : decode cX8_more 33 = .ok (.iconst 0, 1) := by decide +kernel
theorem dX8_more_34 : decode cX8_more 34 = .ok (.ireturn, 1) := by decide +kernel
theorem flX8_94 : FL RX8 94 8 28 := ⟨_, _, _, rfl, by decide, uwX8, Or.inl (tb_mem (t_in4 (List.mem_of_getElem? (i := 136) (by decide +kernel))) (by decide +kernel))⟩
theorem ivX8_101 : IV RX8 101 yX8_number cX8_number 6 (some .boolean) 4 := ⟨(tb_mem (t_in4 (List.mem_of_getElem? (i := 216) (by decide +kernel))) (by decide +kernel)), (tb_mem (t_in4 (List.mem_of_getElem? (i := 218) (by decide +kernel))) (by decide +kernel)), (tb_sel (q := (⟨"GapTellingsModel", "number", "(IIII)Z"⟩, 29)) (List.mem_of_getElem? (i := 11) (by decide +kernel)) (by decide +kernel)), (tb_mem (t_in1 (List.mem_of_getElem? (i := 16) (by decide +kernel))) (by decide +kernel)), (tb_mem (t_in4 (List.mem_of_getElem? (i := 219) (by decide +kernel))) (by decide +kernel)), ⟨by decide +kernel, by decide +kernel, by decide +kernel⟩⟩
set_option maxHeartbeats 4000000 in
set_option maxRecDepth 20000 in
theorem sgX8_more_0 {κ : Kx} {K : Kont} {M : Mem} (C : Cx κ RX8 cX8_more 4 (some .boolean) rmX8_more domM) (x1 : Int) (x2 : Int) (x3 : Int)
    (h :
    spX8_letterAt (M 30 0 28) M (rI (fun r5 M5 =>
    ((r5 ≠ 44 →
      K (some 0) M5) ∧
     (¬ (r5 ≠ 44) →
      inR ((M5 30 0 28) + 1) ∧
      spX8_number ((M5 30 0 28) + 1) x1 x2 x3 M5 (rI (fun r23 M23 =>
      ((r23 = 0 →
        K (some 0) M23) ∧
       (¬ (r23 = 0) →
        K (some 1) M23))))))))) : V κ 4 M 0 [some (.inr (30, 0)), some (.inl x1), some (.inl x2), some (.inl x3)] [] K := by
  refine v_aload_n C dX8_more_0 rfl ?_
  refine v_aload_n C dX8_more_1 rfl ?_
  refine v_get C dX8_more_2 flX8_94 rfl (by decide) (by decide) (w := .inl (M 30 0 28)) rfl ?_
  refine v_invV C ctX8_letterAt dX8_more_5 ivX8_83 ⟨by decide, by decide, rfl, rfl⟩ (M 30 0 28 : Int) (As := [.inl (M 30 0 28)]) rfl rfl rfl (by decide) rfl (st := []) rfl (Nat.le_of_ble_eq_true rfl) h (fun o M5 oM5 io5 g5 => ?_)
  replace h := rI_out g5
  clear g5
  obtain ⟨r5, rfl, h⟩ := h
  refine v_push ?_
  refine v_bipush C dX8_more_8 (by decide) (by decide) ?_
  refine v_icmp C dX8_more_10 (tgt := 33) (by decide) (P := r5 ≠ 44) rfl (fun c10 => ?_) (fun c10 => ?_)
  · replace h := h.1 c10
    refine v_iconst C dX8_more_33 (by decide) ?_
    exact v_zret C dX8_more_34 (by decide) h
  · replace h := h.2 c10
    refine v_aload_n C dX8_more_13 rfl ?_
    refine v_aload_n C dX8_more_14 rfl ?_
    refine v_get C dX8_more_15 flX8_94 rfl (by decide) (by decide) (w := .inl (M5 30 0 28)) rfl ?_
    refine v_iconst C dX8_more_18 (by decide) ?_
    refine v_iadd C dX8_more_19 h.1 ?_
    replace h := h.2
    refine v_iload_n C dX8_more_20 rfl ?_
    refine v_iload_n C dX8_more_21 rfl ?_
    refine v_iload_n C dX8_more_22 rfl ?_
    refine v_invV C ctX8_number dX8_more_23 ivX8_101 ⟨by decide, by decide, rfl, rfl⟩ (((M5 30 0 28) + 1, x1, x2, x3) : Int × Int × Int × Int) (As := [.inl ((M5 30 0 28) + 1), .inl x1, .inl x2, .inl x3]) rfl rfl rfl (by decide) rfl (st := []) rfl (Nat.le_of_ble_eq_true rfl) h (fun o M23 oM23 io23 g23 => ?_)
    replace h := rI_out g23
    clear g23
    obtain ⟨r23, rfl, h⟩ := h
    refine v_push ?_
    refine v_if C dX8_more_26 (tgt := 33) (by decide) (P := r23 = 0) rfl (fun c26 => ?_) (fun c26 => ?_)
    · replace h := h.1 c26
      refine v_iconst C dX8_more_33 (by decide) ?_
      exact v_zret C dX8_more_34 (by decide) h
    · replace h := h.2 c26
      refine v_iconst C dX8_more_29 (by decide) ?_
      refine v_goto C dX8_more_30 (tgt := 34) (by decide) ?_
      exact v_zret C dX8_more_34 (by decide) h
abbrev spX8_more (m lo hi : Int) (M : Mem) (K : Kont) : Prop := ((0 ≤ M 30 0 28 ∧ M 30 0 28 ≤ M 30 0 0) ∧ M 30 0 0 ≤ 200 ∧ (0 ≤ m ∧ m ≤ 3)) ∧ (lt (M 31 0) (M 30 0 0) (M 30 0 28) ≠ 44 → K (some 0) M) ∧
  (lt (M 31 0) (M 30 0 0) (M 30 0 28) = 44 → ∀ M', AgV M M' → M' 30 0 27 = dgv (M 31 0) (M 30 0 0) m.toNat (M 30 0 28 + 1) 0 → M' 30 0 28 = M 30 0 28 + 1 + dgc (M 31 0) (M 30 0 0) m.toNat (M 30 0 28 + 1) →
  K (some (if 0 < dgc (M 31 0) (M 30 0 0) m.toNat (M 30 0 28 + 1) ∧ lo ≤ dgv (M 31 0) (M 30 0 0) m.toNat (M 30 0 28 + 1) 0 ∧ dgv (M 31 0) (M 30 0 0) m.toNat (M 30 0 28 + 1) 0 ≤ hi then 1 else 0)) M')
theorem ctX8_more : CtX8_more spX8_more := by
  refine ct_of (by decide) dmM (fun _ => Nat.le_of_ble_eq_true rfl) ?_
  intro κ a M K C oM h
  obtain ⟨m, lo, hi⟩ := a
  dsimp only [spX8_more] at h
  obtain ⟨⟨hE, hL, hm⟩, k1, k2⟩ := h
  refine sgX8_more_0 C m lo hi ⟨by omega, fun c => k1 c, fun c => ⟨by omega, ⟨⟨by omega, ?_⟩, hL, hm⟩, fun N hA hv he => ?_⟩⟩
  · have c' : lt (M 31 0) (M 30 0 0) (M 30 0 28) = 44 := by omega
    unfold lt at c'
    split at c'
    · omega
    · exact absurd c' (by decide)
  · have := k2 (by omega) N hA hv he
    refine ⟨fun c2 => ?_, fun c2 => ?_⟩
    · rw [if_neg (if10n c2)] at this; exact this
    · rw [if_pos (if10 c2)] at this; exact this
/-! ===== GapTellingsModel.clears ===== -/
abbrev rmX8_clears : Room := { frames := 0, cells := 0, slots := 0, locals := 0 }
abbrev argX8_clears (a : Unit) : List PV := [.inr (30, 0)]
abbrev CtX8_clears (sp : Mem → Kont → Prop) : Prop := Ct yX8_clears cX8_clears 2 none rmX8_clears domM argX8_clears (fun _ => sp)
theorem dX8_clears_0 : decode cX8_clears 0 = .ok (.iconst 0, 1) := by decide +kernel
theorem dX8_clears_1 : decode cX8_clears 1 = .ok (.istore_n 1, 1) := by decide +kernel
theorem dX8_clears_2 : decode cX8_clears 2 = .ok (.iload_n 1, 1) := by decide +kernel
theorem dX8_clears_3 : decode cX8_clears 3 = .ok (.bipush 7, 2) := by decide +kernel
theorem dX8_clears_5 : decode cX8_clears 5 = .ok (.if_icmp .ge 25, 3) := by decide +kernel
theorem dX8_clears_8 : decode cX8_clears 8 = .ok (.aload_n 0, 1) := by decide +kernel
theorem dX8_clears_9 : decode cX8_clears 9 = .ok (.getfield 28, 3) := by decide +kernel
theorem dX8_clears_12 : decode cX8_clears 12 = .ok (.iload_n 1, 1) := by decide +kernel
theorem dX8_clears_13 : decode cX8_clears 13 = .ok (.bipush (-4), 2) := by decide +kernel
theorem dX8_clears_15 : decode cX8_clears 15 = .ok (.iastore, 1) := by decide +kernel
theorem dX8_clears_16 : decode cX8_clears 16 = .ok (.aload_n 0, 1) := by decide +kernel
theorem dX8_clears_17 : decode cX8_clears 17 = .ok (.getfield 31, 3) := by decide +kernel
theorem dX8_clears_20 : decode cX8_clears 20 = .ok (.iload_n 1, 1) := by decide +kernel
theorem dX8_clears_21 : decode cX8_clears 21 = .ok (.bipush (-4), 2) := by decide +kernel
theorem dX8_clears_23 : decode cX8_clears 23 = .ok (.iastore, 1) := by decide +kernel
theorem dX8_clears_24 : decode cX8_clears 24 = .ok (.iinc 1 1, 3) := by decide +kernel
theorem dX8_clears_27 : decode cX8_clears 27 = .ok (.goto (-25), 3) := by decide +kernel
theorem dX8_clears_30 : decode cX8_clears 30 = .ok (.return_, 1) := by decide +kernel
theorem flX8_28 : FL RX8 28 8 15 := ⟨_, _, _, rfl, by decide, uwX8, Or.inl (tb_mem (t_in4 (List.mem_of_getElem? (i := 123) (by decide +kernel))) (by decide +kernel))⟩
theorem flX8_31 : FL RX8 31 8 16 := ⟨_, _, _, rfl, by decide, uwX8, Or.inl (tb_mem (t_in4 (List.mem_of_getElem? (i := 124) (by decide +kernel))) (by decide +kernel))⟩
set_option maxHeartbeats 4000000 in
set_option maxRecDepth 20000 in
theorem sgX8_clears_0 {κ : Kx} {K : Kont} {M : Mem} (C : Cx κ RX8 cX8_clears 2 none rmX8_clears domM) 
    (h :
    V κ 2 M 2 [some (.inr (30, 0)), some (.inl 0)] [] K) : V κ 2 M 0 [some (.inr (30, 0)), none] [] K := by
  refine v_iconst C dX8_clears_0 (by decide) ?_
  refine v_istore_n C dX8_clears_1 (by decide) (Nat.le_of_ble_eq_true rfl) (lv' := [some (.inr (30, 0)), some (.inl 0)]) rfl ?_
  refine v_weak [some (.inr (30, 0)), some (.inl 0)] ⟨rfl, rfl, trivial⟩ ?_
  exact h
set_option maxHeartbeats 4000000 in
set_option maxRecDepth 20000 in
theorem sgX8_clears_2 {κ : Kx} {K : Kont} {M : Mem} (C : Cx κ RX8 cX8_clears 2 none rmX8_clears domM) (x1 : Int)
    (h :
    ((7 ≤ x1 →
      K none M) ∧
     (¬ (7 ≤ x1) →
      (0 ≤ x1 ∧ x1 < 7) ∧
      ∀ M15 : Mem, M15 = up3 M 45 0 x1 (-4) →
      (0 ≤ x1 ∧ x1 < 7) ∧
      ∀ M23 : Mem, M23 = up3 M15 46 0 x1 (-4) →
      inR (x1 + 1) ∧
      V κ 2 M23 2 [some (.inr (30, 0)), some (.inl (x1 + 1))] [] K))) : V κ 2 M 2 [some (.inr (30, 0)), some (.inl x1)] [] K := by
  refine v_iload_n C dX8_clears_2 rfl ?_
  refine v_bipush C dX8_clears_3 (by decide) (by decide) ?_
  refine v_icmp C dX8_clears_5 (tgt := 30) (by decide) (P := 7 ≤ x1) rfl (fun c5 => ?_) (fun c5 => ?_)
  · replace h := h.1 c5
    exact v_vret C dX8_clears_30 h
  · replace h := h.2 c5
    refine v_aload_n C dX8_clears_8 rfl ?_
    refine v_get C dX8_clears_9 flX8_28 rfl (by decide) (by decide) (w := .inr (45, 0)) rfl ?_
    refine v_iload_n C dX8_clears_12 rfl ?_
    refine v_bipush C dX8_clears_13 (by decide) (by decide) ?_
    refine v_iast C dX8_clears_15 rfl h.1.1 h.1.2 ?_
    replace h := h.2
    refine v_nmM (fun M15 eM15 => ?_)
    replace h := h M15 eM15
    refine v_aload_n C dX8_clears_16 rfl ?_
    refine v_get C dX8_clears_17 flX8_31 rfl (by decide) (by decide) (w := .inr (46, 0)) rfl ?_
    refine v_iload_n C dX8_clears_20 rfl ?_
    refine v_bipush C dX8_clears_21 (by decide) (by decide) ?_
    refine v_iast C dX8_clears_23 rfl h.1.1 h.1.2 ?_
    replace h := h.2
    refine v_nmM (fun M23 eM23 => ?_)
    replace h := h M23 eM23
    refine v_iinc C dX8_clears_24 (by decide) rfl h.1 (lv' := [some (.inr (30, 0)), some (.inl (x1 + 1))]) rfl ?_
    replace h := h.2
    refine v_goto C dX8_clears_27 (tgt := 2) (by decide) ?_
    refine v_weak [some (.inr (30, 0)), some (.inl (x1 + 1))] ⟨rfl, rfl, trivial⟩ ?_
    exact h
abbrev clM (M M' : Mem) : Prop := (∀ r i, ¬ ((r = 45 ∨ r = 46) ∧ i = 0) → M' r i = M r i) ∧ ∀ q, 0 ≤ q → q < 7 → M' 45 0 q = -4 ∧ M' 46 0 q = -4
abbrev spX8_clears (M : Mem) (K : Kont) : Prop := ∀ M', clM M M' → K none M'
theorem ctX8_clears : CtX8_clears spX8_clears := by
  refine ct_of (by decide) dmM (fun _ => Nat.le_of_ble_eq_true rfl) ?_
  intro κ a M K C oM hk
  refine sgX8_clears_0 C ?_
  have loop : ∀ (n : Nat) (p : Int) (N : Mem), 0 ≤ p → p + n = 7 → (∀ r i, ¬ ((r = 45 ∨ r = 46) ∧ i = 0) → N r i = M r i) → (∀ q, 0 ≤ q → q < p → N 45 0 q = -4 ∧ N 46 0 q = -4) →
      V κ 2 N 2 [some (.inr (30, 0)), some (.inl p)] [] K := by
    intro n
    induction n with
    | zero =>
      intro p N h0 hn hA hq
      exact sgX8_clears_2 C p ⟨fun c => hk N ⟨hA, fun q a b => hq q a (by omega)⟩, fun c => absurd (by omega) c⟩
    | succ n ih =>
      intro p N h0 hn hA hq
      refine sgX8_clears_2 C p ⟨fun c => absurd c (by omega), fun c => ⟨by omega, fun N1 e1 => ⟨by omega, fun N2 e2 => ⟨by omega, ?_⟩⟩⟩⟩
      refine ih (p + 1) N2 (by omega) (by omega) (fun r i hn => ?_) (fun q a b => ?_)
      · rw [← hA r i hn, e2, e1]
        funext j
        rw [show up3 (up3 N 45 0 p (-4)) 46 0 p (-4) r i j = up3 N 45 0 p (-4) r i j from if_neg (fun z => hn ⟨Or.inr z.1, z.2.1⟩)]
        exact if_neg (fun z => hn ⟨Or.inl z.1, z.2.1⟩)
      · by_cases e : q = p
        · rw [e, e2, up3_s, up3_r _ _ _ _ _ (by decide), e1, up3_s]; exact ⟨rfl, rfl⟩
        · have := hq q a (by omega)
          refine ⟨?_, ?_⟩
          · rw [e2, up3_r _ _ _ _ _ (by decide), e1, up3_j _ _ _ _ _ e]; exact this.1
          · rw [e2, up3_j _ _ _ _ _ e, e1, up3_r _ _ _ _ _ (by decide)]; exact this.2
  exact loop 7 0 M (by omega) (by omega) (fun _ _ _ => rfl) (fun q a b => by omega)
/-! ===== GapTellingsModel.isPicture ===== -/
abbrev rmX8_isPicture : Room := { frames := 1, cells := 0, slots := 0, locals := 22 }
abbrev argX8_isPicture (a : Int) : List PV := [.inr (30, 0), .inl a]
abbrev CtX8_isPicture (sp : Int → Mem → Kont → Prop) : Prop := Ct yX8_isPicture cX8_isPicture 2 (some .boolean) rmX8_isPicture domM argX8_isPicture (fun a => sp a)
theorem dX8_isPicture_0 : decode cX8_isPicture 0 = .ok (.iload_n 1, 1) := by decide +kernel
theorem dX8_isPicture_1 : decode cX8_isPicture 1 = .ok (.iconst 0, 1) := by decide +kernel
theorem dX8_isPicture_2 : decode cX8_isPicture 2 = .ok (.aload_n 0, 1) := by decide +kernel
theorem dX8_isPicture_3 : decode cX8_isPicture 3 = .ok (.getfield 74, 3) := by decide +kernel
theorem dX8_isPicture_6 : decode cX8_isPicture 6 = .ok (.iconst 1, 1) := by decide +kernel
theorem dX8_isPicture_7 : decode cX8_isPicture 7 = .ok (.isub, 1) := by decide +kernel
theorem dX8_isPicture_8 : decode cX8_isPicture 8 = .ok (.invokestatic 97, 3) := by decide +kernel
theorem dX8_isPicture_11 : decode cX8_isPicture 11 = .ok (.ireturn, 1) := by decide +kernel
theorem flX8_74 : FL RX8 74 8 6 := ⟨_, _, _, rfl, by decide, uwX8, Or.inl (tb_mem (t_in4 (List.mem_of_getElem? (i := 114) (by decide +kernel))) (by decide +kernel))⟩
set_option maxHeartbeats 4000000 in
set_option maxRecDepth 20000 in
theorem sgX8_isPicture_0 {κ : Kx} {K : Kont} {M : Mem} (C : Cx κ RX8 cX8_isPicture 2 (some .boolean) rmX8_isPicture domM) (x1 : Int)
    (h :
    inR ((M 30 0 6) - 1) ∧
    spX8_isIn x1 0 ((M 30 0 6) - 1) M (rI (fun r8 M8 =>
    (r8 = 0 ∨ r8 = 1) ∧ K (some r8) M8))) : V κ 2 M 0 [some (.inr (30, 0)), some (.inl x1)] [] K := by
  refine v_iload_n C dX8_isPicture_0 rfl ?_
  refine v_iconst C dX8_isPicture_1 (by decide) ?_
  refine v_aload_n C dX8_isPicture_2 rfl ?_
  refine v_get C dX8_isPicture_3 flX8_74 rfl (by decide) (by decide) (w := .inl (M 30 0 6)) rfl ?_
  refine v_iconst C dX8_isPicture_6 (by decide) ?_
  refine v_isub C dX8_isPicture_7 h.1 ?_
  replace h := h.2
  refine v_invS C ctX8_isIn dX8_isPicture_8 ivX8_97 ⟨by decide, by decide, rfl, rfl⟩ ((x1, 0, (M 30 0 6) - 1) : Int × Int × Int) rfl (st := []) rfl (Nat.le_of_ble_eq_true rfl) h (fun o M8 oM8 io8 g8 => ?_)
  replace h := rI_out g8
  clear g8
  obtain ⟨r8, rfl, h⟩ := h
  refine v_push ?_
  exact v_zret C dX8_isPicture_11 h.1 h.2
abbrev spX8_isPicture (p : Int) (M : Mem) (K : Kont) : Prop := (0 ≤ M 30 0 6 ∧ M 30 0 6 ≤ 7) ∧ K (some (if 0 ≤ p ∧ p < M 30 0 6 then 1 else 0)) M
theorem ctX8_isPicture : CtX8_isPicture spX8_isPicture := by
  refine ct_of (by decide) dmM (fun _ => Nat.le_of_ble_eq_true rfl) ?_
  intro κ p M K C oM h
  dsimp only [spX8_isPicture] at h
  obtain ⟨h0, h⟩ := h
  refine sgX8_isPicture_0 C p ⟨by omega, ?_⟩
  show (_ ∨ _) ∧ K (some (if 0 ≤ p ∧ p ≤ M 30 0 6 - 1 then 1 else 0)) M
  by_cases c : 0 ≤ p ∧ p < M 30 0 6
  · rw [if_pos c] at h
    rw [if_pos (by omega)]
    exact ⟨Or.inr rfl, h⟩
  · rw [if_neg c] at h
    rw [if_neg (by omega)]
    exact ⟨Or.inl rfl, h⟩
/-! ===== GapTellingsModel.isTelling ===== -/
abbrev rmX8_isTelling : Room := { frames := 2, cells := 0, slots := 0, locals := 43 }
abbrev argX8_isTelling (a : Int × Int × Int) : List PV := [.inr (30, 0), .inl a.1, .inl a.2.1, .inl a.2.2]
abbrev CtX8_isTelling (sp : Int → Int → Int → Mem → Kont → Prop) : Prop := Ct yX8_isTelling cX8_isTelling 4 (some .boolean) rmX8_isTelling domM argX8_isTelling (fun a => sp a.1 a.2.1 a.2.2)
theorem dX8_isTelling_0 : decode cX8_isTelling 0 = .ok (.aload_n 0, 1) := by decide +kernel
theorem dX8_isTelling_1 : decode cX8_isTelling 1 = .ok (.iload_n 1, 1) := by decide +kernel
theorem dX8_isTelling_2 : decode cX8_isTelling 2 = .ok (.invokevirtual 144, 3) := by decide +kernel
theorem dX8_isTelling_5 : decode cX8_isTelling 5 = .ok (.ifCond .eq 42, 3) := by decide +kernel
theorem dX8_isTelling_8 : decode cX8_isTelling 8 = .ok (.iload_n 2, 1) := by decide +kernel
theorem dX8_isTelling_9 : decode cX8_isTelling 9 = .ok (.iconst 0, 1) := by decide +kernel
theorem dX8_isTelling_10 : decode cX8_isTelling 10 = .ok (.aload_n 0, 1) := by decide +kernel
theorem dX8_isTelling_11 : decode cX8_isTelling 11 = .ok (.getfield 16, 3) := by decide +kernel
theorem dX8_isTelling_14 : decode cX8_isTelling 14 = .ok (.bipush 11, 2) := by decide +kernel
theorem dX8_isTelling_16 : decode cX8_isTelling 16 = .ok (.iload_n 1, 1) := by decide +kernel
theorem dX8_isTelling_17 : decode cX8_isTelling 17 = .ok (.imul, 1) := by decide +kernel
theorem dX8_isTelling_18 : decode cX8_isTelling 18 = .ok (.iconst 3, 1) := by decide +kernel
theorem dX8_isTelling_19 : decode cX8_isTelling 19 = .ok (.iadd, 1) := by decide +kernel
theorem dX8_isTelling_20 : decode cX8_isTelling 20 = .ok (.iaload, 1) := by decide +kernel
theorem dX8_isTelling_21 : decode cX8_isTelling 21 = .ok (.iconst 1, 1) := by decide +kernel
theorem dX8_isTelling_22 : decode cX8_isTelling 22 = .ok (.isub, 1) := by decide +kernel
theorem dX8_isTelling_23 : decode cX8_isTelling 23 = .ok (.invokestatic 97, 3) := by decide +kernel
theorem dX8_isTelling_26 : decode cX8_isTelling 26 = .ok (.ifCond .eq 21, 3) := by decide +kernel
theorem dX8_isTelling_29 : decode cX8_isTelling 29 = .ok (.iload_n 3, 1) := by decide +kernel
theorem dX8_isTelling_30 : decode cX8_isTelling 30 = .ok (.iconst 0, 1) := by decide +kernel
theorem dX8_isTelling_31 : decode cX8_isTelling 31 = .ok (.aload_n 0, 1) := by decide +kernel
theorem dX8_isTelling_32 : decode cX8_isTelling 32 = .ok (.getfield 64, 3) := by decide +kernel
theorem dX8_isTelling_35 : decode cX8_isTelling 35 = .ok (.iconst 1, 1) := by decide +kernel
theorem dX8_isTelling_36 : decode cX8_isTelling 36 = .ok (.isub, 1) := by decide +kernel
theorem dX8_isTelling_37 : decode cX8_isTelling 37 = .ok (.invokestatic 97, 3) := by decide +kernel
theorem dX8_isTelling_40 : decode cX8_isTelling 40 = .ok (.ifCond .eq 7, 3) := by decide +kernel
theorem dX8_isTelling_43 : decode cX8_isTelling 43 = .ok (.iconst 1, 1) := by decide +kernel
theorem dX8_isTelling_44 : decode cX8_isTelling 44 = .ok (.goto 4, 3) := by decide +kernel
theorem dX8_isTelling_47 : decode cX8_isTelling 47 = .ok (.iconst 0, 1) := by decide +kernel
theorem dX8_isTelling_48 : decode cX8_isTelling 48 = .ok (.ireturn, 1) := by decide +kernel
theorem ivX8_144 : IV RX8 144 yX8_isPicture cX8_isPicture 2 (some .boolean) 1 := ⟨(tb_mem (t_in5 (List.mem_of_getElem? (i := 51) (by decide +kernel))) (by decide +kernel)), (tb_mem (t_in5 (List.mem_of_getElem? (i := 53) (by decide +kernel))) (by decide +kernel)), (tb_sel (q := (⟨"GapTellingsModel", "isPicture", "(I)Z"⟩, 29)) (List.mem_of_getElem? (i := 23) (by decide +kernel)) (by decide +kernel)), (tb_mem (t_in1 (List.mem_of_getElem? (i := 16) (by decide +kernel))) (by decide +kernel)), (tb_mem (t_in5 (List.mem_of_getElem? (i := 54) (by decide +kernel))) (by decide +kernel)), ⟨by decide +kernel, by decide +kernel, by decide +kernel⟩⟩
theorem flX8_16 : FL RX8 16 8 7 := ⟨_, _, _, rfl, by decide, uwX8, Or.inl (tb_mem (t_in4 (List.mem_of_getElem? (i := 115) (by decide +kernel))) (by decide +kernel))⟩
theorem flX8_64 : FL RX8 64 8 2 := ⟨_, _, _, rfl, by decide, uwX8, Or.inl (tb_mem (t_in4 (List.mem_of_getElem? (i := 110) (by decide +kernel))) (by decide +kernel))⟩
set_option maxHeartbeats 4000000 in
set_option maxRecDepth 20000 in
theorem sgX8_isTelling_0 {κ : Kx} {K : Kont} {M : Mem} (C : Cx κ RX8 cX8_isTelling 4 (some .boolean) rmX8_isTelling domM) (x1 : Int) (x2 : Int) (x3 : Int)
    (h :
    spX8_isPicture x1 M (rI (fun r2 M2 =>
    ((r2 = 0 →
      K (some 0) M2) ∧
     (¬ (r2 = 0) →
      inR (11 * x1) ∧
      inR ((11 * x1) + 3) ∧
      (0 ≤ ((11 * x1) + 3) ∧ ((11 * x1) + 3) < 77) ∧
      inR ((M2 37 0 ((11 * x1) + 3)) - 1) ∧
      spX8_isIn x2 0 ((M2 37 0 ((11 * x1) + 3)) - 1) M2 (rI (fun r23 M23 =>
      ((r23 = 0 →
        K (some 0) M23) ∧
       (¬ (r23 = 0) →
        inR ((M23 30 0 2) - 1) ∧
        spX8_isIn x3 0 ((M23 30 0 2) - 1) M23 (rI (fun r37 M37 =>
        ((r37 = 0 →
          K (some 0) M37) ∧
         (¬ (r37 = 0) →
          K (some 1) M37))))))))))))) : V κ 4 M 0 [some (.inr (30, 0)), some (.inl x1), some (.inl x2), some (.inl x3)] [] K := by
  refine v_aload_n C dX8_isTelling_0 rfl ?_
  refine v_iload_n C dX8_isTelling_1 rfl ?_
  refine v_invV C ctX8_isPicture dX8_isTelling_2 ivX8_144 ⟨by decide, by decide, rfl, rfl⟩ (x1 : Int) (As := [.inl x1]) rfl rfl rfl (by decide) rfl (st := []) rfl (Nat.le_of_ble_eq_true rfl) h (fun o M2 oM2 io2 g2 => ?_)
  replace h := rI_out g2
  clear g2
  obtain ⟨r2, rfl, h⟩ := h
  refine v_push ?_
  refine v_if C dX8_isTelling_5 (tgt := 47) (by decide) (P := r2 = 0) rfl (fun c5 => ?_) (fun c5 => ?_)
  · replace h := h.1 c5
    refine v_iconst C dX8_isTelling_47 (by decide) ?_
    exact v_zret C dX8_isTelling_48 (by decide) h
  · replace h := h.2 c5
    refine v_iload_n C dX8_isTelling_8 rfl ?_
    refine v_iconst C dX8_isTelling_9 (by decide) ?_
    refine v_aload_n C dX8_isTelling_10 rfl ?_
    refine v_get C dX8_isTelling_11 flX8_16 rfl (by decide) (by decide) (w := .inr (37, 0)) rfl ?_
    refine v_bipush C dX8_isTelling_14 (by decide) (by decide) ?_
    refine v_iload_n C dX8_isTelling_16 rfl ?_
    refine v_imul C dX8_isTelling_17 h.1 ?_
    replace h := h.2
    refine v_iconst C dX8_isTelling_18 (by decide) ?_
    refine v_iadd C dX8_isTelling_19 h.1 ?_
    replace h := h.2
    refine v_iald C dX8_isTelling_20 rfl h.1.1 h.1.2 ?_
    replace h := h.2
    refine v_iconst C dX8_isTelling_21 (by decide) ?_
    refine v_isub C dX8_isTelling_22 h.1 ?_
    replace h := h.2
    refine v_invS C ctX8_isIn dX8_isTelling_23 ivX8_97 ⟨by decide, by decide, rfl, rfl⟩ ((x2, 0, (M2 37 0 ((11 * x1) + 3)) - 1) : Int × Int × Int) rfl (st := []) rfl (Nat.le_of_ble_eq_true rfl) h (fun o M23 oM23 io23 g23 => ?_)
    replace h := rI_out g23
    clear g23
    obtain ⟨r23, rfl, h⟩ := h
    refine v_push ?_
    refine v_if C dX8_isTelling_26 (tgt := 47) (by decide) (P := r23 = 0) rfl (fun c26 => ?_) (fun c26 => ?_)
    · replace h := h.1 c26
      refine v_iconst C dX8_isTelling_47 (by decide) ?_
      exact v_zret C dX8_isTelling_48 (by decide) h
    · replace h := h.2 c26
      refine v_iload_n C dX8_isTelling_29 rfl ?_
      refine v_iconst C dX8_isTelling_30 (by decide) ?_
      refine v_aload_n C dX8_isTelling_31 rfl ?_
      refine v_get C dX8_isTelling_32 flX8_64 rfl (by decide) (by decide) (w := .inl (M23 30 0 2)) rfl ?_
      refine v_iconst C dX8_isTelling_35 (by decide) ?_
      refine v_isub C dX8_isTelling_36 h.1 ?_
      replace h := h.2
      refine v_invS C ctX8_isIn dX8_isTelling_37 ivX8_97 ⟨by decide, by decide, rfl, rfl⟩ ((x3, 0, (M23 30 0 2) - 1) : Int × Int × Int) rfl (st := []) rfl (Nat.le_of_ble_eq_true rfl) h (fun o M37 oM37 io37 g37 => ?_)
      replace h := rI_out g37
      clear g37
      obtain ⟨r37, rfl, h⟩ := h
      refine v_push ?_
      refine v_if C dX8_isTelling_40 (tgt := 47) (by decide) (P := r37 = 0) rfl (fun c40 => ?_) (fun c40 => ?_)
      · replace h := h.1 c40
        refine v_iconst C dX8_isTelling_47 (by decide) ?_
        exact v_zret C dX8_isTelling_48 (by decide) h
      · replace h := h.2 c40
        refine v_iconst C dX8_isTelling_43 (by decide) ?_
        refine v_goto C dX8_isTelling_44 (tgt := 48) (by decide) ?_
        exact v_zret C dX8_isTelling_48 (by decide) h
abbrev spX8_isTelling (p v t : Int) (M : Mem) (K : Kont) : Prop := (WFf (mFilm M)) ∧ K (some (if tellK (mFilm M) p v t then 1 else 0)) M
theorem ctX8_isTelling : CtX8_isTelling spX8_isTelling := by
  refine ct_of (by decide) dmM (fun _ => Nat.le_of_ble_eq_true rfl) ?_
  intro κ a M K C oM h
  obtain ⟨p, v, t⟩ := a
  obtain ⟨hf, h⟩ := h
  have h : K (some (if tellK (mFilm M) p v t then 1 else 0)) M := h
  have h0 : (0 ≤ M 30 0 2 ∧ M 30 0 2 ≤ 100) := hf.1
  have n3 : (0 ≤ M 30 0 6 ∧ M 30 0 6 ≤ 7) := hf.2.2.2.1
  have e3 : mFilm M 3 0 0 = M 30 0 6 := rfl
  have e0 : mFilm M 0 0 0 = M 30 0 2 := rfl
  have e11 : mFilm M 11 p 0 = M 37 0 (11 * p + 3) := rfl
  have no : ¬ tellK (mFilm M) p v t → K (some 0) M := fun z => by rw [if_neg z] at h; exact h
  refine sgX8_isTelling_0 C p v t ⟨n3, fun c => no (fun z => if10n c z.1.1), fun c => ?_⟩
  have c1 : 0 ≤ p ∧ p < M 30 0 6 := if10 c
  have w := wf_p hf c1.1 c1.2
  refine ⟨by omega, by omega, by omega, by omega, fun c2 => no (fun z => if10n c2 (by omega)), fun c2 => ?_⟩
  have c3 := if10 c2
  refine ⟨by omega, fun c4 => no (fun z => if10n c4 (by omega)), fun c4 => ?_⟩
  have c5 := if10 c4
  rw [if_pos ⟨⟨c1, by omega⟩, by omega⟩] at h
  exact h
/-! ===== GapTellingsModel.wide ===== -/
abbrev rmX8_wide : Room := { frames := 0, cells := 0, slots := 0, locals := 0 }
abbrev argX8_wide (a : Int × Int) : List PV := [.inr (30, 0), .inl a.1, .inl a.2]
abbrev CtX8_wide (sp : Int → Int → Mem → Kont → Prop) : Prop := Ct yX8_wide cX8_wide 3 (some .int) rmX8_wide domM argX8_wide (fun a => sp a.1 a.2)
theorem dX8_wide_0 : decode cX8_wide 0 = .ok (.aload_n 0, 1) := by decide +kernel
theorem dX8_wide_1 : decode cX8_wide 1 = .ok (.getfield 16, 3) := by decide +kernel
theorem dX8_wide_4 : decode cX8_wide 4 = .ok (.bipush 11, 2) := by decide +kernel
theorem dX8_wide_6 : decode cX8_wide 6 = .ok (.iload_n 1, 1) := by decide +kernel
theorem dX8_wide_7 : decode cX8_wide 7 = .ok (.imul, 1) := by decide +kernel
theorem dX8_wide_8 : decode cX8_wide 8 = .ok (.iconst 5, 1) := by decide +kernel
theorem dX8_wide_9 : decode cX8_wide 9 = .ok (.iadd, 1) := by decide +kernel
theorem dX8_wide_10 : decode cX8_wide 10 = .ok (.iconst 2, 1) := by decide +kernel
theorem dX8_wide_11 : decode cX8_wide 11 = .ok (.iload_n 2, 1) := by decide +kernel
theorem dX8_wide_12 : decode cX8_wide 12 = .ok (.imul, 1) := by decide +kernel
theorem dX8_wide_13 : decode cX8_wide 13 = .ok (.iadd, 1) := by decide +kernel
theorem dX8_wide_14 : decode cX8_wide 14 = .ok (.iaload, 1) := by decide +kernel
theorem dX8_wide_15 : decode cX8_wide 15 = .ok (.ireturn, 1) := by decide +kernel
set_option maxHeartbeats 4000000 in
set_option maxRecDepth 20000 in
theorem sgX8_wide_0 {κ : Kx} {K : Kont} {M : Mem} (C : Cx κ RX8 cX8_wide 3 (some .int) rmX8_wide domM) (x1 : Int) (x2 : Int)
    (h :
    inR (11 * x1) ∧
    inR ((11 * x1) + 5) ∧
    inR (2 * x2) ∧
    inR (((11 * x1) + 5) + (2 * x2)) ∧
    (0 ≤ (((11 * x1) + 5) + (2 * x2)) ∧ (((11 * x1) + 5) + (2 * x2)) < 77) ∧
    K (some (M 37 0 (((11 * x1) + 5) + (2 * x2)))) M) : V κ 3 M 0 [some (.inr (30, 0)), some (.inl x1), some (.inl x2)] [] K := by
  refine v_aload_n C dX8_wide_0 rfl ?_
  refine v_get C dX8_wide_1 flX8_16 rfl (by decide) (by decide) (w := .inr (37, 0)) rfl ?_
  refine v_bipush C dX8_wide_4 (by decide) (by decide) ?_
  refine v_iload_n C dX8_wide_6 rfl ?_
  refine v_imul C dX8_wide_7 h.1 ?_
  replace h := h.2
  refine v_iconst C dX8_wide_8 (by decide) ?_
  refine v_iadd C dX8_wide_9 h.1 ?_
  replace h := h.2
  refine v_iconst C dX8_wide_10 (by decide) ?_
  refine v_iload_n C dX8_wide_11 rfl ?_
  refine v_imul C dX8_wide_12 h.1 ?_
  replace h := h.2
  refine v_iadd C dX8_wide_13 h.1 ?_
  replace h := h.2
  refine v_iald C dX8_wide_14 rfl h.1.1 h.1.2 ?_
  replace h := h.2
  exact v_iret C dX8_wide_15 h
abbrev spX8_wide (p v : Int) (M : Mem) (K : Kont) : Prop := (0 ≤ p ∧ p < 7 ∧ 0 ≤ v ∧ v < 3) ∧ K (some (mFilm M 13 p v)) M
theorem ctX8_wide : CtX8_wide spX8_wide := by
  refine ct_of (by decide) dmM (fun _ => Nat.le_of_ble_eq_true rfl) ?_
  intro κ a M K C oM h
  obtain ⟨p, v⟩ := a
  dsimp only [spX8_wide] at h
  obtain ⟨h0, h⟩ := h
  exact sgX8_wide_0 C p v ⟨by omega, by omega, by omega, by omega, by omega, h⟩
/-! ===== GapTellingsModel.endOf ===== -/
abbrev rmX8_endOf : Room := { frames := 1, cells := 0, slots := 0, locals := 22 }
abbrev argX8_endOf (a : Int) : List PV := [.inr (30, 0), .inl a]
abbrev CtX8_endOf (sp : Int → Mem → Kont → Prop) : Prop := Ct yX8_endOf cX8_endOf 2 (some .int) rmX8_endOf domM argX8_endOf (fun a => sp a)
theorem dX8_endOf_0 : decode cX8_endOf 0 = .ok (.aload_n 0, 1) := by decide +kernel
theorem dX8_endOf_1 : decode cX8_endOf 1 = .ok (.getfield 31, 3) := by decide +kernel
theorem dX8_endOf_4 : decode cX8_endOf 4 = .ok (.iload_n 1, 1) := by decide +kernel
theorem dX8_endOf_5 : decode cX8_endOf 5 = .ok (.iaload, 1) := by decide +kernel
theorem dX8_endOf_6 : decode cX8_endOf 6 = .ok (.aload_n 0, 1) := by decide +kernel
theorem dX8_endOf_7 : decode cX8_endOf 7 = .ok (.iload_n 1, 1) := by decide +kernel
theorem dX8_endOf_8 : decode cX8_endOf 8 = .ok (.aload_n 0, 1) := by decide +kernel
theorem dX8_endOf_9 : decode cX8_endOf 9 = .ok (.getfield 28, 3) := by decide +kernel
theorem dX8_endOf_12 : decode cX8_endOf 12 = .ok (.iload_n 1, 1) := by decide +kernel
theorem dX8_endOf_13 : decode cX8_endOf 13 = .ok (.iaload, 1) := by decide +kernel
theorem dX8_endOf_14 : decode cX8_endOf 14 = .ok (.invokevirtual 147, 3) := by decide +kernel
theorem dX8_endOf_17 : decode cX8_endOf 17 = .ok (.iadd, 1) := by decide +kernel
theorem dX8_endOf_18 : decode cX8_endOf 18 = .ok (.ireturn, 1) := by decide +kernel
theorem ivX8_147 : IV RX8 147 yX8_wide cX8_wide 3 (some .int) 2 := ⟨(tb_mem (t_in5 (List.mem_of_getElem? (i := 35) (by decide +kernel))) (by decide +kernel)), (tb_mem (t_in5 (List.mem_of_getElem? (i := 37) (by decide +kernel))) (by decide +kernel)), (tb_sel (q := (⟨"GapTellingsModel", "wide", "(II)I"⟩, 29)) (List.mem_of_getElem? (i := 21) (by decide +kernel)) (by decide +kernel)), (tb_mem (t_in1 (List.mem_of_getElem? (i := 16) (by decide +kernel))) (by decide +kernel)), (tb_mem (t_in5 (List.mem_of_getElem? (i := 38) (by decide +kernel))) (by decide +kernel)), ⟨by decide +kernel, by decide +kernel, by decide +kernel⟩⟩
set_option maxHeartbeats 4000000 in
set_option maxRecDepth 20000 in
theorem sgX8_endOf_0 {κ : Kx} {K : Kont} {M : Mem} (C : Cx κ RX8 cX8_endOf 2 (some .int) rmX8_endOf domM) (x1 : Int)
    (h :
    (0 ≤ x1 ∧ x1 < 7) ∧
    (0 ≤ x1 ∧ x1 < 7) ∧
    spX8_wide x1 (M 45 0 x1) M (rI (fun r14 M14 =>
    inR ((M 46 0 x1) + r14) ∧
    K (some ((M 46 0 x1) + r14)) M14))) : V κ 2 M 0 [some (.inr (30, 0)), some (.inl x1)] [] K := by
  refine v_aload_n C dX8_endOf_0 rfl ?_
  refine v_get C dX8_endOf_1 flX8_31 rfl (by decide) (by decide) (w := .inr (46, 0)) rfl ?_
  refine v_iload_n C dX8_endOf_4 rfl ?_
  refine v_iald C dX8_endOf_5 rfl h.1.1 h.1.2 ?_
  replace h := h.2
  refine v_aload_n C dX8_endOf_6 rfl ?_
  refine v_iload_n C dX8_endOf_7 rfl ?_
  refine v_aload_n C dX8_endOf_8 rfl ?_
  refine v_get C dX8_endOf_9 flX8_28 rfl (by decide) (by decide) (w := .inr (45, 0)) rfl ?_
  refine v_iload_n C dX8_endOf_12 rfl ?_
  refine v_iald C dX8_endOf_13 rfl h.1.1 h.1.2 ?_
  replace h := h.2
  refine v_invV C ctX8_wide dX8_endOf_14 ivX8_147 ⟨by decide, by decide, rfl, rfl⟩ ((x1, M 45 0 x1) : Int × Int) (As := [.inl x1, .inl (M 45 0 x1)]) rfl rfl rfl (by decide) rfl (st := [.inl (M 46 0 x1)]) rfl (Nat.le_of_ble_eq_true rfl) h (fun o M14 oM14 io14 g14 => ?_)
  replace h := rI_out g14
  clear g14
  obtain ⟨r14, rfl, h⟩ := h
  refine v_push ?_
  refine v_iadd C dX8_endOf_17 h.1 ?_
  replace h := h.2
  exact v_iret C dX8_endOf_18 h
abbrev spX8_endOf (p : Int) (M : Mem) (K : Kont) : Prop := (WFf (mFilm M) ∧ PlK (mFilm M) (M 45 0) (M 46 0) ∧ (0 ≤ p ∧ p < 7) ∧ M 45 0 p ≠ -4) ∧ K (some (M 46 0 p + mFilm M 13 p (M 45 0 p))) M
theorem ctX8_endOf : CtX8_endOf spX8_endOf := by
  refine ct_of (by decide) dmM (fun _ => Nat.le_of_ble_eq_true rfl) ?_
  intro κ p M K C oM h
  dsimp only [spX8_endOf] at h
  obtain ⟨⟨hf, hP, hp, hv⟩, h⟩ := h
  have k := hP.at hp.1 hp.2 hv
  have w := wf_pv hf hp.1 k.1 k.2.1.1 k.2.1.2
  exact sgX8_endOf_0 C p ⟨hp, hp, ⟨by omega, by omega, by omega, by omega⟩, by omega, h⟩
/-! ===== GapTellingsModel.hears ===== -/
abbrev rmX8_hears : Room := { frames := 0, cells := 0, slots := 0, locals := 0 }
abbrev argX8_hears (a : Unit) : List PV := [.inr (30, 0)]
abbrev CtX8_hears (sp : Mem → Kont → Prop) : Prop := Ct yX8_hears cX8_hears 3 none rmX8_hears domM argX8_hears (fun _ => sp)
theorem dX8_hears_0 : decode cX8_hears 0 = .ok (.iconst 0, 1) := by decide +kernel
theorem dX8_hears_1 : decode cX8_hears 1 = .ok (.istore_n 1, 1) := by decide +kernel
theorem dX8_hears_2 : decode cX8_hears 2 = .ok (.iload_n 1, 1) := by decide +kernel
theorem dX8_hears_3 : decode cX8_hears 3 = .ok (.bipush 100, 2) := by decide +kernel
theorem dX8_hears_5 : decode cX8_hears 5 = .ok (.if_icmp .ge 16, 3) := by decide +kernel
theorem dX8_hears_8 : decode cX8_hears 8 = .ok (.aload_n 0, 1) := by decide +kernel
theorem dX8_hears_9 : decode cX8_hears 9 = .ok (.getfield 49, 3) := by decide +kernel
theorem dX8_hears_12 : decode cX8_hears 12 = .ok (.iload_n 1, 1) := by decide +kernel
theorem dX8_hears_13 : decode cX8_hears 13 = .ok (.iconst 0, 1) := by decide +kernel
theorem dX8_hears_14 : decode cX8_hears 14 = .ok (.iastore, 1) := by decide +kernel
theorem dX8_hears_15 : decode cX8_hears 15 = .ok (.iinc 1 1, 3) := by decide +kernel
theorem dX8_hears_18 : decode cX8_hears 18 = .ok (.goto (-16), 3) := by decide +kernel
theorem dX8_hears_21 : decode cX8_hears 21 = .ok (.iconst 0, 1) := by decide +kernel
theorem dX8_hears_22 : decode cX8_hears 22 = .ok (.istore_n 1, 1) := by decide +kernel
theorem dX8_hears_23 : decode cX8_hears 23 = .ok (.iload_n 1, 1) := by decide +kernel
theorem dX8_hears_24 : decode cX8_hears 24 = .ok (.aload_n 0, 1) := by decide +kernel
theorem dX8_hears_25 : decode cX8_hears 25 = .ok (.getfield 71, 3) := by decide +kernel
theorem dX8_hears_28 : decode cX8_hears 28 = .ok (.if_icmp .ge 59, 3) := by decide +kernel
theorem dX8_hears_31 : decode cX8_hears 31 = .ok (.aload_n 0, 1) := by decide +kernel
theorem dX8_hears_32 : decode cX8_hears 32 = .ok (.getfield 13, 3) := by decide +kernel
theorem dX8_hears_35 : decode cX8_hears 35 = .ok (.iconst 3, 1) := by decide +kernel
theorem dX8_hears_36 : decode cX8_hears 36 = .ok (.iload_n 1, 1) := by decide +kernel
theorem dX8_hears_37 : decode cX8_hears 37 = .ok (.imul, 1) := by decide +kernel
theorem dX8_hears_38 : decode cX8_hears 38 = .ok (.iconst 1, 1) := by decide +kernel
theorem dX8_hears_39 : decode cX8_hears 39 = .ok (.iadd, 1) := by decide +kernel
theorem dX8_hears_40 : decode cX8_hears 40 = .ok (.iaload, 1) := by decide +kernel
theorem dX8_hears_41 : decode cX8_hears 41 = .ok (.istore_n 2, 1) := by decide +kernel
theorem dX8_hears_42 : decode cX8_hears 42 = .ok (.iload_n 2, 1) := by decide +kernel
theorem dX8_hears_43 : decode cX8_hears 43 = .ok (.aload_n 0, 1) := by decide +kernel
theorem dX8_hears_44 : decode cX8_hears 44 = .ok (.getfield 13, 3) := by decide +kernel
theorem dX8_hears_47 : decode cX8_hears 47 = .ok (.iconst 3, 1) := by decide +kernel
theorem dX8_hears_48 : decode cX8_hears 48 = .ok (.iload_n 1, 1) := by decide +kernel
theorem dX8_hears_49 : decode cX8_hears 49 = .ok (.imul, 1) := by decide +kernel
theorem dX8_hears_50 : decode cX8_hears 50 = .ok (.iconst 2, 1) := by decide +kernel
theorem dX8_hears_51 : decode cX8_hears 51 = .ok (.iadd, 1) := by decide +kernel
theorem dX8_hears_52 : decode cX8_hears 52 = .ok (.iaload, 1) := by decide +kernel
theorem dX8_hears_53 : decode cX8_hears 53 = .ok (.if_icmp .ge 28, 3) := by decide +kernel
theorem dX8_hears_56 : decode cX8_hears 56 = .ok (.aload_n 0, 1) := by decide +kernel
theorem dX8_hears_57 : decode cX8_hears 57 = .ok (.getfield 49, 3) := by decide +kernel
theorem dX8_hears_60 : decode cX8_hears 60 = .ok (.iload_n 2, 1) := by decide +kernel
theorem dX8_hears_61 : decode cX8_hears 61 = .ok (.dup2, 1) := by decide +kernel
theorem dX8_hears_62 : decode cX8_hears 62 = .ok (.iaload, 1) := by decide +kernel
theorem dX8_hears_63 : decode cX8_hears 63 = .ok (.iconst 1, 1) := by decide +kernel
theorem dX8_hears_64 : decode cX8_hears 64 = .ok (.aload_n 0, 1) := by decide +kernel
theorem dX8_hears_65 : decode cX8_hears 65 = .ok (.getfield 13, 3) := by decide +kernel
theorem dX8_hears_68 : decode cX8_hears 68 = .ok (.iconst 3, 1) := by decide +kernel
theorem dX8_hears_69 : decode cX8_hears 69 = .ok (.iload_n 1, 1) := by decide +kernel
theorem dX8_hears_70 : decode cX8_hears 70 = .ok (.imul, 1) := by decide +kernel
theorem dX8_hears_71 : decode cX8_hears 71 = .ok (.iaload, 1) := by decide +kernel
theorem dX8_hears_72 : decode cX8_hears 72 = .ok (.ishl, 1) := by decide +kernel
theorem dX8_hears_73 : decode cX8_hears 73 = .ok (.ior, 1) := by decide +kernel
theorem dX8_hears_74 : decode cX8_hears 74 = .ok (.iastore, 1) := by decide +kernel
theorem dX8_hears_75 : decode cX8_hears 75 = .ok (.iinc 2 1, 3) := by decide +kernel
theorem dX8_hears_78 : decode cX8_hears 78 = .ok (.goto (-36), 3) := by decide +kernel
theorem dX8_hears_81 : decode cX8_hears 81 = .ok (.iinc 1 1, 3) := by decide +kernel
theorem dX8_hears_84 : decode cX8_hears 84 = .ok (.goto (-61), 3) := by decide +kernel
theorem dX8_hears_87 : decode cX8_hears 87 = .ok (.return_, 1) := by decide +kernel
theorem flX8_49 : FL RX8 49 8 22 := ⟨_, _, _, rfl, by decide, uwX8, Or.inl (tb_mem (t_in4 (List.mem_of_getElem? (i := 130) (by decide +kernel))) (by decide +kernel))⟩
theorem flX8_71 : FL RX8 71 8 4 := ⟨_, _, _, rfl, by decide, uwX8, Or.inl (tb_mem (t_in4 (List.mem_of_getElem? (i := 112) (by decide +kernel))) (by decide +kernel))⟩
theorem flX8_13 : FL RX8 13 8 5 := ⟨_, _, _, rfl, by decide, uwX8, Or.inl (tb_mem (t_in4 (List.mem_of_getElem? (i := 113) (by decide +kernel))) (by decide +kernel))⟩
set_option maxHeartbeats 4000000 in
set_option maxRecDepth 20000 in
theorem sgX8_hears_0 {κ : Kx} {K : Kont} {M : Mem} (C : Cx κ RX8 cX8_hears 3 none rmX8_hears domM) 
    (h :
    V κ 3 M 2 [some (.inr (30, 0)), some (.inl 0), none] [] K) : V κ 3 M 0 [some (.inr (30, 0)), none, none] [] K := by
  refine v_iconst C dX8_hears_0 (by decide) ?_
  refine v_istore_n C dX8_hears_1 (by decide) (Nat.le_of_ble_eq_true rfl) (lv' := [some (.inr (30, 0)), some (.inl 0), none]) rfl ?_
  refine v_weak [some (.inr (30, 0)), some (.inl 0), none] ⟨rfl, rfl, trivial⟩ ?_
  exact h
set_option maxHeartbeats 4000000 in
set_option maxRecDepth 20000 in
theorem sgX8_hears_2 {κ : Kx} {K : Kont} {M : Mem} (C : Cx κ RX8 cX8_hears 3 none rmX8_hears domM) (x1 : Int)
    (h :
    ((100 ≤ x1 →
      V κ 3 M 23 [some (.inr (30, 0)), some (.inl 0), none] [] K) ∧
     (¬ (100 ≤ x1) →
      (0 ≤ x1 ∧ x1 < 100) ∧
      ∀ M14 : Mem, M14 = up3 M 52 0 x1 0 →
      inR (x1 + 1) ∧
      V κ 3 M14 2 [some (.inr (30, 0)), some (.inl (x1 + 1)), none] [] K))) : V κ 3 M 2 [some (.inr (30, 0)), some (.inl x1), none] [] K := by
  refine v_iload_n C dX8_hears_2 rfl ?_
  refine v_bipush C dX8_hears_3 (by decide) (by decide) ?_
  refine v_icmp C dX8_hears_5 (tgt := 21) (by decide) (P := 100 ≤ x1) rfl (fun c5 => ?_) (fun c5 => ?_)
  · replace h := h.1 c5
    refine v_iconst C dX8_hears_21 (by decide) ?_
    refine v_istore_n C dX8_hears_22 (by decide) (Nat.le_of_ble_eq_true rfl) (lv' := [some (.inr (30, 0)), some (.inl 0), none]) rfl ?_
    refine v_weak [some (.inr (30, 0)), some (.inl 0), none] ⟨rfl, rfl, trivial⟩ ?_
    exact h
  · replace h := h.2 c5
    refine v_aload_n C dX8_hears_8 rfl ?_
    refine v_get C dX8_hears_9 flX8_49 rfl (by decide) (by decide) (w := .inr (52, 0)) rfl ?_
    refine v_iload_n C dX8_hears_12 rfl ?_
    refine v_iconst C dX8_hears_13 (by decide) ?_
    refine v_iast C dX8_hears_14 rfl h.1.1 h.1.2 ?_
    replace h := h.2
    refine v_nmM (fun M14 eM14 => ?_)
    replace h := h M14 eM14
    refine v_iinc C dX8_hears_15 (by decide) rfl h.1 (lv' := [some (.inr (30, 0)), some (.inl (x1 + 1)), none]) rfl ?_
    replace h := h.2
    refine v_goto C dX8_hears_18 (tgt := 2) (by decide) ?_
    refine v_weak [some (.inr (30, 0)), some (.inl (x1 + 1)), none] ⟨rfl, rfl, trivial⟩ ?_
    exact h
set_option maxHeartbeats 4000000 in
set_option maxRecDepth 20000 in
theorem sgX8_hears_23 {κ : Kx} {K : Kont} {M : Mem} (C : Cx κ RX8 cX8_hears 3 none rmX8_hears domM) (x1 : Int)
    (h :
    (((M 30 0 4) ≤ x1 →
      K none M) ∧
     (¬ ((M 30 0 4) ≤ x1) →
      inR (3 * x1) ∧
      inR ((3 * x1) + 1) ∧
      (0 ≤ ((3 * x1) + 1) ∧ ((3 * x1) + 1) < 36) ∧
      ∀ y2_41 : Int, y2_41 = M 35 0 ((3 * x1) + 1) →
      V κ 3 M 42 [some (.inr (30, 0)), some (.inl x1), some (.inl y2_41)] [] K))) : V κ 3 M 23 [some (.inr (30, 0)), some (.inl x1), none] [] K := by
  refine v_iload_n C dX8_hears_23 rfl ?_
  refine v_aload_n C dX8_hears_24 rfl ?_
  refine v_get C dX8_hears_25 flX8_71 rfl (by decide) (by decide) (w := .inl (M 30 0 4)) rfl ?_
  refine v_icmp C dX8_hears_28 (tgt := 87) (by decide) (P := (M 30 0 4) ≤ x1) rfl (fun c28 => ?_) (fun c28 => ?_)
  · replace h := h.1 c28
    exact v_vret C dX8_hears_87 h
  · replace h := h.2 c28
    refine v_aload_n C dX8_hears_31 rfl ?_
    refine v_get C dX8_hears_32 flX8_13 rfl (by decide) (by decide) (w := .inr (35, 0)) rfl ?_
    refine v_iconst C dX8_hears_35 (by decide) ?_
    refine v_iload_n C dX8_hears_36 rfl ?_
    refine v_imul C dX8_hears_37 h.1 ?_
    replace h := h.2
    refine v_iconst C dX8_hears_38 (by decide) ?_
    refine v_iadd C dX8_hears_39 h.1 ?_
    replace h := h.2
    refine v_iald C dX8_hears_40 rfl h.1.1 h.1.2 ?_
    replace h := h.2
    refine v_nm (fun y2_41 ey2_41 => ?_)
    replace h := h y2_41 ey2_41
    refine v_istore_n C dX8_hears_41 (by decide) (Nat.le_of_ble_eq_true rfl) (lv' := [some (.inr (30, 0)), some (.inl x1), some (.inl y2_41)]) rfl ?_
    refine v_weak [some (.inr (30, 0)), some (.inl x1), some (.inl y2_41)] ⟨rfl, rfl, rfl, trivial⟩ ?_
    exact h
set_option maxHeartbeats 4000000 in
set_option maxRecDepth 20000 in
theorem sgX8_hears_42 {κ : Kx} {K : Kont} {M : Mem} (C : Cx κ RX8 cX8_hears 3 none rmX8_hears domM) (x1 : Int) (x2 : Int)
    (h :
    inR (3 * x1) ∧
    inR ((3 * x1) + 2) ∧
    (0 ≤ ((3 * x1) + 2) ∧ ((3 * x1) + 2) < 36) ∧
    (((M 35 0 ((3 * x1) + 2)) ≤ x2 →
      inR (x1 + 1) ∧
      V κ 3 M 23 [some (.inr (30, 0)), some (.inl (x1 + 1)), none] [] K) ∧
     (¬ ((M 35 0 ((3 * x1) + 2)) ≤ x2) →
      (0 ≤ x2 ∧ x2 < 100) ∧
      inR (3 * x1) ∧
      (0 ≤ (3 * x1) ∧ (3 * x1) < 36) ∧
      (0 ≤ x2 ∧ x2 < 100) ∧
      ∀ M74 : Mem, M74 = up3 M 52 0 x2 (bOr (M 52 0 x2) (bShl 1 (M 35 0 (3 * x1)))) →
      inR (x2 + 1) ∧
      V κ 3 M74 42 [some (.inr (30, 0)), some (.inl x1), some (.inl (x2 + 1))] [] K))) : V κ 3 M 42 [some (.inr (30, 0)), some (.inl x1), some (.inl x2)] [] K := by
  refine v_iload_n C dX8_hears_42 rfl ?_
  refine v_aload_n C dX8_hears_43 rfl ?_
  refine v_get C dX8_hears_44 flX8_13 rfl (by decide) (by decide) (w := .inr (35, 0)) rfl ?_
  refine v_iconst C dX8_hears_47 (by decide) ?_
  refine v_iload_n C dX8_hears_48 rfl ?_
  refine v_imul C dX8_hears_49 h.1 ?_
  replace h := h.2
  refine v_iconst C dX8_hears_50 (by decide) ?_
  refine v_iadd C dX8_hears_51 h.1 ?_
  replace h := h.2
  refine v_iald C dX8_hears_52 rfl h.1.1 h.1.2 ?_
  replace h := h.2
  refine v_icmp C dX8_hears_53 (tgt := 81) (by decide) (P := (M 35 0 ((3 * x1) + 2)) ≤ x2) rfl (fun c53 => ?_) (fun c53 => ?_)
  · replace h := h.1 c53
    refine v_iinc C dX8_hears_81 (by decide) rfl h.1 (lv' := [some (.inr (30, 0)), some (.inl (x1 + 1)), some (.inl x2)]) rfl ?_
    replace h := h.2
    refine v_goto C dX8_hears_84 (tgt := 23) (by decide) ?_
    refine v_weak [some (.inr (30, 0)), some (.inl (x1 + 1)), none] ⟨rfl, rfl, trivial⟩ ?_
    exact h
  · replace h := h.2 c53
    refine v_aload_n C dX8_hears_56 rfl ?_
    refine v_get C dX8_hears_57 flX8_49 rfl (by decide) (by decide) (w := .inr (52, 0)) rfl ?_
    refine v_iload_n C dX8_hears_60 rfl ?_
    refine v_dup2 C dX8_hears_61 ?_
    refine v_iald C dX8_hears_62 rfl h.1.1 h.1.2 ?_
    replace h := h.2
    refine v_iconst C dX8_hears_63 (by decide) ?_
    refine v_aload_n C dX8_hears_64 rfl ?_
    refine v_get C dX8_hears_65 flX8_13 rfl (by decide) (by decide) (w := .inr (35, 0)) rfl ?_
    refine v_iconst C dX8_hears_68 (by decide) ?_
    refine v_iload_n C dX8_hears_69 rfl ?_
    refine v_imul C dX8_hears_70 h.1 ?_
    replace h := h.2
    refine v_iald C dX8_hears_71 rfl h.1.1 h.1.2 ?_
    replace h := h.2
    refine v_ishl C dX8_hears_72 ?_
    refine v_ior C dX8_hears_73 ?_
    refine v_iast C dX8_hears_74 rfl h.1.1 h.1.2 ?_
    replace h := h.2
    refine v_nmM (fun M74 eM74 => ?_)
    replace h := h M74 eM74
    refine v_iinc C dX8_hears_75 (by decide) rfl h.1 (lv' := [some (.inr (30, 0)), some (.inl x1), some (.inl (x2 + 1))]) rfl ?_
    replace h := h.2
    refine v_goto C dX8_hears_78 (tgt := 42) (by decide) ?_
    refine v_weak [some (.inr (30, 0)), some (.inl x1), some (.inl (x2 + 1))] ⟨rfl, rfl, rfl, trivial⟩ ?_
    exact h
def HrK (M : Mem) (F : Film) : Prop := ∀ t, 0 ≤ t → t < 100 → M 52 0 t = mkF F t
def AgH (M M' : Mem) : Prop := ∀ r, r ≠ 52 → M' r = M r
theorem AgH.rf {M : Mem} : AgH M M := fun _ _ => rfl
theorem AgH.up {M M' : Mem} (h : AgH M M') (j v : Int) : AgH M (up3 M' 52 0 j v) := by
  intro r hr
  rw [← h r hr]
  funext i' j'
  exact if_neg (fun z => hr z.1)
theorem AgH.film {M M' : Mem} (h : AgH M M') : mFilm M' = mFilm M := mFilm_eq (fun j _ => by rw [h 30 (by decide)]) (fun r hr => by rw [h r (by omega)])
abbrev spX8_hears (M : Mem) (K : Kont) : Prop := WFf (mFilm M) ∧ ∀ M', AgH M M' → HrK M' (mFilm M) → K none M'
theorem ctX8_hears : CtX8_hears spX8_hears := by
  refine ct_of (by decide) dmM (fun _ => Nat.le_of_ble_eq_true rfl) ?_
  intro κ a M K C oM h
  obtain ⟨hf, hk⟩ := h
  have n2 : (0 ≤ M 30 0 4 ∧ M 30 0 4 ≤ 12) := hf.2.2.1
  have h0 := hf.1
  have e2 : mFilm M 2 0 0 = M 30 0 4 := rfl
  have inner : ∀ (k : Nat) (s t : Int) (N : Mem), 0 ≤ s → s < M 30 0 4 → mFilm M 6 s 0 ≤ t → t + k = mFilm M 7 s 0 → AgH M N → (∀ u, 0 ≤ u → u < 100 → N 52 0 u = if mFilm M 6 s 0 ≤ u ∧ u < t then bOr (mkN (mFilm M) u s.toNat) (bShl 1 (mFilm M 5 s 0)) else mkN (mFilm M) u s.toNat) → 
      (∀ N', AgH M N' → (∀ u, 0 ≤ u → u < 100 → N' 52 0 u = mkN (mFilm M) u (s + 1).toNat) → V κ 3 N' 23 [some (.inr (30, 0)), some (.inl (s + 1)), none] [] K) →
      V κ 3 N 42 [some (.inr (30, 0)), some (.inl s), some (.inl t)] [] K := by
    intro k
    induction k with
    | zero =>
      intro s t N s0 s1 h6 hn hA hm hk2
      have e35 : N 35 = M 35 := hA 35 (by decide)
      have ws := hf.2.2.2.2.2.1 s s0 s1
      unfold WFs at ws
      have e7 : mFilm M 7 s 0 = M 35 0 (3 * s + 2) := rfl
      refine sgX8_hears_42 C s t ⟨by omega, by omega, by omega, fun c => ⟨by omega, hk2 N hA (fun u a b => ?_)⟩, fun c => absurd (by rw [e35]; omega) c⟩
      rw [hm u a b, toNat_s s0]
      show _ = if mFilm M 6 (s.toNat : Int) 0 ≤ u ∧ u < mFilm M 7 (s.toNat : Int) 0 then bOr (mkN (mFilm M) u s.toNat) (bShl 1 (mFilm M 5 (s.toNat : Int) 0)) else mkN (mFilm M) u s.toNat
      rw [oi_nat s0]
      have e : t = mFilm M 7 s 0 := by omega
      rw [e]
    | succ k ih =>
      intro s t N s0 s1 h6 hn hA hm hk2
      have e35 : N 35 = M 35 := hA 35 (by decide)
      have ws := hf.2.2.2.2.2.1 s s0 s1
      unfold WFs at ws
      have e7 : mFilm M 7 s 0 = M 35 0 (3 * s + 2) := rfl
      have e5 : mFilm M 5 s 0 = M 35 0 (3 * s) := rfl
      refine sgX8_hears_42 C s t ⟨by omega, by omega, by omega, fun c => absurd c (by rw [e35]; omega), fun c => ⟨by omega, by omega, by omega, by omega, fun N1 e1 => ⟨by omega, ?_⟩⟩⟩
      refine ih s (t + 1) N1 s0 s1 (by omega) (by omega) (by rw [e1]; exact hA.up _ _) (fun u a b => ?_) hk2
      rw [e1]
      by_cases eu : u = t
      · rw [eu, up3_s, hm t (by omega) (by omega), if_neg (by omega), if_pos (by omega), e35, e5]
      · rw [up3_j _ _ _ _ _ eu, hm u a b]
        by_cases c1 : mFilm M 6 s 0 ≤ u ∧ u < t
        · rw [if_pos c1, if_pos (by omega)]
        · rw [if_neg c1, if_neg (by omega)]
  have outer : ∀ (k : Nat) (s : Int) (N : Mem), 0 ≤ s → s + k = M 30 0 4 → AgH M N → (∀ u, 0 ≤ u → u < 100 → N 52 0 u = mkN (mFilm M) u s.toNat) →
      V κ 3 N 23 [some (.inr (30, 0)), some (.inl s), none] [] K := by
    intro k
    induction k with
    | zero =>
      intro s N s0 hn hA hm
      have e30 : N 30 = M 30 := hA 30 (by decide)
      refine sgX8_hears_23 C s ⟨fun c => hk N hA (fun u a b => ?_), fun c => absurd (by rw [e30]; omega) c⟩
      rw [hm u a b]
      have : s = mFilm M 2 0 0 := by omega
      rw [this]
      rfl
    | succ k ih =>
      intro s N s0 hn hA hm
      have e30 : N 30 = M 30 := hA 30 (by decide)
      have e35 : N 35 = M 35 := hA 35 (by decide)
      have ws := hf.2.2.2.2.2.1 s s0 (by omega)
      unfold WFs at ws
      have e6 : mFilm M 6 s 0 = M 35 0 (3 * s + 1) := rfl
      refine sgX8_hears_23 C s ⟨fun c => absurd c (by rw [e30]; omega), fun c => ⟨by omega, by omega, by omega, fun y ey => ?_⟩⟩
      rw [e35, ← e6] at ey
      rw [ey]
      refine inner (mFilm M 7 s 0 - mFilm M 6 s 0).toNat s (mFilm M 6 s 0) N s0 (by omega) (by omega) (by omega) hA (fun u a b => ?_) (fun N' hA' hm' => ih (s + 1) N' (by omega) (by omega) hA' hm')
      rw [if_neg (by omega)]
      exact hm u a b
  have zero : ∀ (k : Nat) (t : Int) (N : Mem), 0 ≤ t → t + k = 100 → AgH M N → (∀ u, 0 ≤ u → u < t → N 52 0 u = 0) →
      V κ 3 N 2 [some (.inr (30, 0)), some (.inl t), none] [] K := by
    intro k
    induction k with
    | zero =>
      intro t N t0 hn hA hm
      refine sgX8_hears_2 C t ⟨fun c => ?_, fun c => absurd (by omega) c⟩
      exact outer (M 30 0 4).toNat 0 N (by omega) (by omega) hA (fun u a b => by rw [hm u a (by omega)]; rfl)
    | succ k ih =>
      intro t N t0 hn hA hm
      refine sgX8_hears_2 C t ⟨fun c => absurd c (by omega), fun c => ⟨by omega, fun N1 e1 => ⟨by omega, ?_⟩⟩⟩
      refine ih (t + 1) N1 (by omega) (by omega) (by rw [e1]; exact hA.up _ _) (fun u a b => ?_)
      rw [e1]
      by_cases eu : u = t
      · rw [eu, up3_s]
      · rw [up3_j _ _ _ _ _ eu]
        exact hm u a (by omega)
  exact sgX8_hears_0 C (zero 100 0 M (by omega) (by omega) AgH.rf (fun u a b => by omega))
