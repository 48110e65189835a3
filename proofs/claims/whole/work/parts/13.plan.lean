/-! ===== Plan ===== -/
/-! ===== GapTellings$Plan.has ===== -/
abbrev rmX4_has : Room := { frames := 0, cells := 0, slots := 0, locals := 0 }
abbrev argX4_has (a : Int × Int) : List PV := [.inr (18, a.1), .inl a.2]
abbrev CtX4_has (sp : Int → Int → Mem → Kont → Prop) : Prop := Ct yX4_has cX4_has 2 (some .boolean) rmX4_has domC argX4_has (fun a => sp a.1 a.2)
theorem dX4_has_0 : decode cX4_has 0 = .ok (.aload_n 0, 1) := by decide +kernel
theorem dX4_has_1 : decode cX4_has 1 = .ok (.getfield 9, 3) := by decide +kernel
theorem dX4_has_4 : decode cX4_has 4 = .ok (.iload_n 1, 1) := by decide +kernel
theorem dX4_has_5 : decode cX4_has 5 = .ok (.iaload, 1) := by decide +kernel
theorem dX4_has_6 : decode cX4_has 6 = .ok (.bipush (-4), 2) := by decide +kernel
theorem dX4_has_8 : decode cX4_has 8 = .ok (.if_icmp .eq 7, 3) := by decide +kernel
theorem dX4_has_11 : decode cX4_has 11 = .ok (.iconst 1, 1) := by decide +kernel
theorem dX4_has_12 : decode cX4_has 12 = .ok (.goto 4, 3) := by decide +kernel
theorem dX4_has_15 : decode cX4_has 15 = .ok (.iconst 0, 1) := by decide +kernel
theorem dX4_has_16 : decode cX4_has 16 = .ok (.ireturn, 1) := by decide +kernel
theorem flX4_9 : FL RX4 9 4 1 := ⟨_, _, _, rfl, by decide, uwX4, Or.inl (tb_mem (t_in1 (List.mem_of_getElem? (i := 194) (by decide +kernel))) (by decide +kernel))⟩
set_option maxHeartbeats 4000000 in
set_option maxRecDepth 20000 in
theorem sgX4_has_0 {κ : Kx} {K : Kont} {M : Mem} (C : Cx κ RX4 cX4_has 2 (some .boolean) rmX4_has domC) (i0 : Int) (x1 : Int)
    (h :
    (0 ≤ x1 ∧ x1 < 7) ∧
    (((M 19 i0 x1) = (-4) →
      K (some 0) M) ∧
     (¬ ((M 19 i0 x1) = (-4)) →
      K (some 1) M))) : V κ 2 M 0 [some (.inr (18, i0)), some (.inl x1)] [] K := by
  refine v_aload_n C dX4_has_0 rfl ?_
  refine v_get C dX4_has_1 flX4_9 rfl (by decide) (by decide) (w := .inr (19, i0)) rfl ?_
  refine v_iload_n C dX4_has_4 rfl ?_
  refine v_iald C dX4_has_5 rfl h.1.1 h.1.2 ?_
  replace h := h.2
  refine v_bipush C dX4_has_6 (by decide) (by decide) ?_
  refine v_icmp C dX4_has_8 (tgt := 15) (by decide) (P := (M 19 i0 x1) = (-4)) rfl (fun c8 => ?_) (fun c8 => ?_)
  · replace h := h.1 c8
    refine v_iconst C dX4_has_15 (by decide) ?_
    exact v_zret C dX4_has_16 (by decide) h
  · replace h := h.2 c8
    refine v_iconst C dX4_has_11 (by decide) ?_
    refine v_goto C dX4_has_12 (tgt := 16) (by decide) ?_
    exact v_zret C dX4_has_16 (by decide) h
abbrev spX4_has (pl p : Int) (M : Mem) (K : Kont) : Prop := (0 ≤ p ∧ p < 7) ∧ K (some (if M 19 pl p = -4 then 0 else 1)) M
theorem ctX4_has : CtX4_has spX4_has := by
  refine ct_of (by decide) dmC (fun _ => Nat.le_of_ble_eq_true rfl) ?_
  intro κ a M K C oM h
  obtain ⟨pl, p⟩ := a
  refine sgX4_has_0 C pl p ?_
  dsimp only [spX4_has] at h
  clear C
  grind
/-! ===== GapTellings$Plan.put ===== -/
abbrev rmX4_put : Room := { frames := 0, cells := 0, slots := 0, locals := 0 }
abbrev argX4_put (a : Int × Int × Int × Int) : List PV := [.inr (18, a.1), .inl a.2.1, .inl a.2.2.1, .inl a.2.2.2]
abbrev CtX4_put (sp : Int → Int → Int → Int → Mem → Kont → Prop) : Prop := Ct yX4_put cX4_put 4 none rmX4_put domC argX4_put (fun a => sp a.1 a.2.1 a.2.2.1 a.2.2.2)
theorem dX4_put_0 : decode cX4_put 0 = .ok (.aload_n 0, 1) := by decide +kernel
theorem dX4_put_1 : decode cX4_put 1 = .ok (.getfield 9, 3) := by decide +kernel
theorem dX4_put_4 : decode cX4_put 4 = .ok (.iload_n 1, 1) := by decide +kernel
theorem dX4_put_5 : decode cX4_put 5 = .ok (.iload_n 2, 1) := by decide +kernel
theorem dX4_put_6 : decode cX4_put 6 = .ok (.iastore, 1) := by decide +kernel
theorem dX4_put_7 : decode cX4_put 7 = .ok (.aload_n 0, 1) := by decide +kernel
theorem dX4_put_8 : decode cX4_put 8 = .ok (.getfield 15, 3) := by decide +kernel
theorem dX4_put_11 : decode cX4_put 11 = .ok (.iload_n 1, 1) := by decide +kernel
theorem dX4_put_12 : decode cX4_put 12 = .ok (.iload_n 3, 1) := by decide +kernel
theorem dX4_put_13 : decode cX4_put 13 = .ok (.iastore, 1) := by decide +kernel
theorem dX4_put_14 : decode cX4_put 14 = .ok (.return_, 1) := by decide +kernel
theorem flX4_15 : FL RX4 15 4 2 := ⟨_, _, _, rfl, by decide, uwX4, Or.inl (tb_mem (t_in1 (List.mem_of_getElem? (i := 197) (by decide +kernel))) (by decide +kernel))⟩
set_option maxHeartbeats 4000000 in
set_option maxRecDepth 20000 in
theorem sgX4_put_0 {κ : Kx} {K : Kont} {M : Mem} (C : Cx κ RX4 cX4_put 4 none rmX4_put domC) (i0 : Int) (x1 : Int) (x2 : Int) (x3 : Int)
    (h :
    (0 ≤ x1 ∧ x1 < 7) ∧
    ∀ M6 : Mem, M6 = up3 M 19 i0 x1 x2 →
    (0 ≤ x1 ∧ x1 < 7) ∧
    ∀ M13 : Mem, M13 = up3 M6 20 i0 x1 x3 →
    K none M13) : V κ 4 M 0 [some (.inr (18, i0)), some (.inl x1), some (.inl x2), some (.inl x3)] [] K := by
  refine v_aload_n C dX4_put_0 rfl ?_
  refine v_get C dX4_put_1 flX4_9 rfl (by decide) (by decide) (w := .inr (19, i0)) rfl ?_
  refine v_iload_n C dX4_put_4 rfl ?_
  refine v_iload_n C dX4_put_5 rfl ?_
  refine v_iast C dX4_put_6 rfl h.1.1 h.1.2 ?_
  replace h := h.2
  refine v_nmM (fun M6 eM6 => ?_)
  replace h := h M6 eM6
  refine v_aload_n C dX4_put_7 rfl ?_
  refine v_get C dX4_put_8 flX4_15 rfl (by decide) (by decide) (w := .inr (20, i0)) rfl ?_
  refine v_iload_n C dX4_put_11 rfl ?_
  refine v_iload_n C dX4_put_12 rfl ?_
  refine v_iast C dX4_put_13 rfl h.1.1 h.1.2 ?_
  replace h := h.2
  refine v_nmM (fun M13 eM13 => ?_)
  replace h := h M13 eM13
  exact v_vret C dX4_put_14 h
abbrev spX4_put (pl p v t : Int) (M : Mem) (K : Kont) : Prop := (0 ≤ p ∧ p < 7) ∧ K none (up3 (up3 M 19 pl p v) 20 pl p t)
theorem ctX4_put : CtX4_put spX4_put := by
  refine ct_of (by decide) dmC (fun _ => Nat.le_of_ble_eq_true rfl) ?_
  intro κ a M K C oM h
  obtain ⟨pl, p, v, t⟩ := a
  exact sgX4_put_0 C pl p v t ⟨h.1, fun M1 e1 => ⟨h.1, fun M2 e2 => by rw [e2, e1]; exact h.2⟩⟩
/-! ===== GapTellings$Plan.drop ===== -/
abbrev rmX4_drop : Room := { frames := 0, cells := 0, slots := 0, locals := 0 }
abbrev argX4_drop (a : Int × Int) : List PV := [.inr (18, a.1), .inl a.2]
abbrev CtX4_drop (sp : Int → Int → Mem → Kont → Prop) : Prop := Ct yX4_drop cX4_drop 2 none rmX4_drop domC argX4_drop (fun a => sp a.1 a.2)
theorem dX4_drop_0 : decode cX4_drop 0 = .ok (.aload_n 0, 1) := by decide +kernel
theorem dX4_drop_1 : decode cX4_drop 1 = .ok (.getfield 9, 3) := by decide +kernel
theorem dX4_drop_4 : decode cX4_drop 4 = .ok (.iload_n 1, 1) := by decide +kernel
theorem dX4_drop_5 : decode cX4_drop 5 = .ok (.bipush (-4), 2) := by decide +kernel
theorem dX4_drop_7 : decode cX4_drop 7 = .ok (.iastore, 1) := by decide +kernel
theorem dX4_drop_8 : decode cX4_drop 8 = .ok (.aload_n 0, 1) := by decide +kernel
theorem dX4_drop_9 : decode cX4_drop 9 = .ok (.getfield 15, 3) := by decide +kernel
theorem dX4_drop_12 : decode cX4_drop 12 = .ok (.iload_n 1, 1) := by decide +kernel
theorem dX4_drop_13 : decode cX4_drop 13 = .ok (.bipush (-4), 2) := by decide +kernel
theorem dX4_drop_15 : decode cX4_drop 15 = .ok (.iastore, 1) := by decide +kernel
theorem dX4_drop_16 : decode cX4_drop 16 = .ok (.return_, 1) := by decide +kernel
set_option maxHeartbeats 4000000 in
set_option maxRecDepth 20000 in
theorem sgX4_drop_0 {κ : Kx} {K : Kont} {M : Mem} (C : Cx κ RX4 cX4_drop 2 none rmX4_drop domC) (i0 : Int) (x1 : Int)
    (h :
    (0 ≤ x1 ∧ x1 < 7) ∧
    ∀ M7 : Mem, M7 = up3 M 19 i0 x1 (-4) →
    (0 ≤ x1 ∧ x1 < 7) ∧
    ∀ M15 : Mem, M15 = up3 M7 20 i0 x1 (-4) →
    K none M15) : V κ 2 M 0 [some (.inr (18, i0)), some (.inl x1)] [] K := by
  refine v_aload_n C dX4_drop_0 rfl ?_
  refine v_get C dX4_drop_1 flX4_9 rfl (by decide) (by decide) (w := .inr (19, i0)) rfl ?_
  refine v_iload_n C dX4_drop_4 rfl ?_
  refine v_bipush C dX4_drop_5 (by decide) (by decide) ?_
  refine v_iast C dX4_drop_7 rfl h.1.1 h.1.2 ?_
  replace h := h.2
  refine v_nmM (fun M7 eM7 => ?_)
  replace h := h M7 eM7
  refine v_aload_n C dX4_drop_8 rfl ?_
  refine v_get C dX4_drop_9 flX4_15 rfl (by decide) (by decide) (w := .inr (20, i0)) rfl ?_
  refine v_iload_n C dX4_drop_12 rfl ?_
  refine v_bipush C dX4_drop_13 (by decide) (by decide) ?_
  refine v_iast C dX4_drop_15 rfl h.1.1 h.1.2 ?_
  replace h := h.2
  refine v_nmM (fun M15 eM15 => ?_)
  replace h := h M15 eM15
  exact v_vret C dX4_drop_16 h
abbrev spX4_drop (pl p : Int) (M : Mem) (K : Kont) : Prop := (0 ≤ p ∧ p < 7) ∧ K none (up3 (up3 M 19 pl p (-4)) 20 pl p (-4))
theorem ctX4_drop : CtX4_drop spX4_drop := by
  refine ct_of (by decide) dmC (fun _ => Nat.le_of_ble_eq_true rfl) ?_
  intro κ a M K C oM h
  obtain ⟨pl, p⟩ := a
  exact sgX4_drop_0 C pl p ⟨h.1, fun M1 e1 => ⟨h.1, fun M2 e2 => by rw [e2, e1]; exact h.2⟩⟩
/-! ===== GapTellings$Plan.clear ===== -/
abbrev rmX4_clear : Room := { frames := 1, cells := 0, slots := 0, locals := 23 }
abbrev argX4_clear (a : Int) : List PV := [.inr (18, a)]
abbrev CtX4_clear (sp : Int → Mem → Kont → Prop) : Prop := Ct yX4_clear cX4_clear 1 none rmX4_clear domC argX4_clear (fun a => sp a)
theorem dX4_clear_0 : decode cX4_clear 0 = .ok (.aload_n 0, 1) := by decide +kernel
theorem dX4_clear_1 : decode cX4_clear 1 = .ok (.getfield 9, 3) := by decide +kernel
theorem dX4_clear_4 : decode cX4_clear 4 = .ok (.bipush (-4), 2) := by decide +kernel
theorem dX4_clear_6 : decode cX4_clear 6 = .ok (.invokestatic 22, 3) := by decide +kernel
theorem dX4_clear_9 : decode cX4_clear 9 = .ok (.aload_n 0, 1) := by decide +kernel
theorem dX4_clear_10 : decode cX4_clear 10 = .ok (.getfield 15, 3) := by decide +kernel
theorem dX4_clear_13 : decode cX4_clear 13 = .ok (.bipush (-4), 2) := by decide +kernel
theorem dX4_clear_15 : decode cX4_clear 15 = .ok (.invokestatic 22, 3) := by decide +kernel
theorem dX4_clear_18 : decode cX4_clear 18 = .ok (.return_, 1) := by decide +kernel
theorem ivX4_22 : IS RX4 22 yJ7_fill_53178 cJ7_fill_53178 4 none 2 := ⟨(tb_mem (t_in1 (List.mem_of_getElem? (i := 190) (by decide +kernel))) (by decide +kernel)), (tb_mem (t_in1 (List.mem_of_getElem? (i := 191) (by decide +kernel))) (by decide +kernel)), (tb_mem (t_in1 (List.mem_of_getElem? (i := 7) (by decide +kernel))) (by decide +kernel)), (tb_mem (t_in1 (List.mem_of_getElem? (i := 192) (by decide +kernel))) (by decide +kernel)), ⟨by decide +kernel, by decide +kernel, by decide +kernel⟩⟩
set_option maxHeartbeats 4000000 in
set_option maxRecDepth 20000 in
theorem sgX4_clear_0 {κ : Kx} {K : Kont} {M : Mem} (C : Cx κ RX4 cX4_clear 1 none rmX4_clear domC) (i0 : Int)
    (h :
    ∀ M6 : Mem, M6 = filM M 19 i0 7 (-4) →
    ∀ M15 : Mem, M15 = filM M6 20 i0 7 (-4) →
    K none M15) : V κ 1 M 0 [some (.inr (18, i0))] [] K := by
  refine v_aload_n C dX4_clear_0 rfl ?_
  refine v_get C dX4_clear_1 flX4_9 rfl (by decide) (by decide) (w := .inr (19, i0)) rfl ?_
  refine v_bipush C dX4_clear_4 (by decide) (by decide) ?_
  refine v_invS C (ctFill domC (Or.inl rfl)) dX4_clear_6 ivX4_22 ⟨by decide, by decide, rfl, rfl⟩ ((19, i0, (-4)) : Nat × Int × Int) rfl (st := []) rfl (Nat.le_of_ble_eq_true rfl) (K1 := rV (fun M' => M' = filM M 19 i0 7 (-4))) ⟨rfl, rfl⟩ (fun o M6 oM6 io h6 => ?_)
  obtain ⟨rfl, eM6⟩ := rV_out h6
  refine v_push0 ?_
  replace h := h M6 eM6
  refine v_aload_n C dX4_clear_9 rfl ?_
  refine v_get C dX4_clear_10 flX4_15 rfl (by decide) (by decide) (w := .inr (20, i0)) rfl ?_
  refine v_bipush C dX4_clear_13 (by decide) (by decide) ?_
  refine v_invS C (ctFill domC (Or.inl rfl)) dX4_clear_15 ivX4_22 ⟨by decide, by decide, rfl, rfl⟩ ((20, i0, (-4)) : Nat × Int × Int) rfl (st := []) rfl (Nat.le_of_ble_eq_true rfl) (K1 := rV (fun M' => M' = filM M6 20 i0 7 (-4))) ⟨rfl, rfl⟩ (fun o M15 oM15 io h15 => ?_)
  obtain ⟨rfl, eM15⟩ := rV_out h15
  refine v_push0 ?_
  replace h := h M15 eM15
  exact v_vret C dX4_clear_18 h
abbrev spX4_clear (pl : Int) (M : Mem) (K : Kont) : Prop := K none (filM (filM M 19 pl 7 (-4)) 20 pl 7 (-4))
theorem ctX4_clear : CtX4_clear spX4_clear := by
  refine ct_of (by decide) dmC (fun _ => Nat.le_of_ble_eq_true rfl) ?_
  intro κ pl M K C oM h
  exact sgX4_clear_0 C pl (fun M1 e1 M2 e2 => by rw [e2, e1]; exact h)
/-! ===== GapTellings$Plan.size ===== -/
abbrev rmX4_size : Room := { frames := 1, cells := 0, slots := 0, locals := 21 }
abbrev argX4_size (a : Int) : List PV := [.inr (18, a)]
abbrev CtX4_size (sp : Int → Mem → Kont → Prop) : Prop := Ct yX4_size cX4_size 3 (some .int) rmX4_size domC argX4_size (fun a => sp a)
theorem dX4_size_0 : decode cX4_size 0 = .ok (.iconst 0, 1) := by decide +kernel
theorem dX4_size_1 : decode cX4_size 1 = .ok (.istore_n 1, 1) := by decide +kernel
theorem dX4_size_2 : decode cX4_size 2 = .ok (.iconst 0, 1) := by decide +kernel
theorem dX4_size_3 : decode cX4_size 3 = .ok (.istore_n 2, 1) := by decide +kernel
theorem dX4_size_4 : decode cX4_size 4 = .ok (.iload_n 2, 1) := by decide +kernel
theorem dX4_size_5 : decode cX4_size 5 = .ok (.aload_n 0, 1) := by decide +kernel
theorem dX4_size_6 : decode cX4_size 6 = .ok (.getfield 18, 3) := by decide +kernel
theorem dX4_size_9 : decode cX4_size 9 = .ok (.getfield 34, 3) := by decide +kernel
theorem dX4_size_12 : decode cX4_size 12 = .ok (.if_icmp .ge 20, 3) := by decide +kernel
theorem dX4_size_15 : decode cX4_size 15 = .ok (.aload_n 0, 1) := by decide +kernel
theorem dX4_size_16 : decode cX4_size 16 = .ok (.iload_n 2, 1) := by decide +kernel
theorem dX4_size_17 : decode cX4_size 17 = .ok (.invokevirtual 40, 3) := by decide +kernel
theorem dX4_size_20 : decode cX4_size 20 = .ok (.ifCond .eq 6, 3) := by decide +kernel
theorem dX4_size_23 : decode cX4_size 23 = .ok (.iinc 1 1, 3) := by decide +kernel
theorem dX4_size_26 : decode cX4_size 26 = .ok (.iinc 2 1, 3) := by decide +kernel
theorem dX4_size_29 : decode cX4_size 29 = .ok (.goto (-25), 3) := by decide +kernel
theorem dX4_size_32 : decode cX4_size 32 = .ok (.iload_n 1, 1) := by decide +kernel
theorem dX4_size_33 : decode cX4_size 33 = .ok (.ireturn, 1) := by decide +kernel
theorem flX4_18 : FL RX4 18 4 0 := ⟨_, _, _, rfl, by decide, uwX4, Or.inl (tb_mem (t_in1 (List.mem_of_getElem? (i := 193) (by decide +kernel))) (by decide +kernel))⟩
theorem flX4_34 : FL RX4 34 1 7 := ⟨_, _, _, rfl, by decide, uwX1, Or.inr ⟨"GapTellings", (nw_mem (t_in1 (List.mem_of_getElem? (i := 135) (by decide +kernel))) (by decide +kernel))⟩⟩
theorem ivX4_40 : IV RX4 40 yX4_has cX4_has 2 (some .boolean) 1 := ⟨(tb_mem (t_in3 (List.mem_of_getElem? (i := 53) (by decide +kernel))) (by decide +kernel)), (tb_mem (t_in3 (List.mem_of_getElem? (i := 54) (by decide +kernel))) (by decide +kernel)), (tb_mem (t_in3 (List.mem_of_getElem? (i := 55) (by decide +kernel))) (by decide +kernel)), (tb_mem (t_in1 (List.mem_of_getElem? (i := 6) (by decide +kernel))) (by decide +kernel)), (tb_mem (t_in3 (List.mem_of_getElem? (i := 56) (by decide +kernel))) (by decide +kernel)), ⟨by decide +kernel, by decide +kernel, by decide +kernel⟩⟩
set_option maxHeartbeats 4000000 in
set_option maxRecDepth 20000 in
theorem sgX4_size_0 {κ : Kx} {K : Kont} {M : Mem} (C : Cx κ RX4 cX4_size 3 (some .int) rmX4_size domC) (i0 : Int)
    (h :
    V κ 3 M 4 [some (.inr (18, i0)), some (.inl 0), some (.inl 0)] [] K) : V κ 3 M 0 [some (.inr (18, i0)), none, none] [] K := by
  refine v_iconst C dX4_size_0 (by decide) ?_
  refine v_istore_n C dX4_size_1 (by decide) (Nat.le_of_ble_eq_true rfl) (lv' := [some (.inr (18, i0)), some (.inl 0), none]) rfl ?_
  refine v_iconst C dX4_size_2 (by decide) ?_
  refine v_istore_n C dX4_size_3 (by decide) (Nat.le_of_ble_eq_true rfl) (lv' := [some (.inr (18, i0)), some (.inl 0), some (.inl 0)]) rfl ?_
  refine v_weak [some (.inr (18, i0)), some (.inl 0), some (.inl 0)] ⟨rfl, rfl, rfl, trivial⟩ ?_
  exact h
set_option maxHeartbeats 4000000 in
set_option maxRecDepth 20000 in
theorem sgX4_size_4 {κ : Kx} {K : Kont} {M : Mem} (C : Cx κ RX4 cX4_size 3 (some .int) rmX4_size domC) (i0 : Int) (x1 : Int) (x2 : Int)
    (h :
    (((M 5 1 7) ≤ x2 →
      K (some x1) M) ∧
     (¬ ((M 5 1 7) ≤ x2) →
      spX4_has i0 x2 M (rI (fun r17 M17 =>
      ((r17 = 0 →
        inR (x2 + 1) ∧
        V κ 3 M17 4 [some (.inr (18, i0)), some (.inl x1), some (.inl (x2 + 1))] [] K) ∧
       (¬ (r17 = 0) →
        inR (x1 + 1) ∧
        inR (x2 + 1) ∧
        V κ 3 M17 4 [some (.inr (18, i0)), some (.inl (x1 + 1)), some (.inl (x2 + 1))] [] K))))))) : V κ 3 M 4 [some (.inr (18, i0)), some (.inl x1), some (.inl x2)] [] K := by
  refine v_iload_n C dX4_size_4 rfl ?_
  refine v_aload_n C dX4_size_5 rfl ?_
  refine v_get C dX4_size_6 flX4_18 rfl (by decide) (by decide) (w := .inr (5, 1)) rfl ?_
  refine v_get C dX4_size_9 flX4_34 rfl (by decide) (by decide) (w := .inl (M 5 1 7)) rfl ?_
  refine v_icmp C dX4_size_12 (tgt := 32) (by decide) (P := (M 5 1 7) ≤ x2) rfl (fun c12 => ?_) (fun c12 => ?_)
  · replace h := h.1 c12
    refine v_iload_n C dX4_size_32 rfl ?_
    exact v_iret C dX4_size_33 h
  · replace h := h.2 c12
    refine v_aload_n C dX4_size_15 rfl ?_
    refine v_iload_n C dX4_size_16 rfl ?_
    refine v_invV C ctX4_has dX4_size_17 ivX4_40 ⟨by decide, by decide, rfl, rfl⟩ ((i0, x2) : Int × Int) (As := [.inl x2]) rfl rfl rfl (by decide) rfl (st := []) rfl (Nat.le_of_ble_eq_true rfl) h (fun o M17 oM17 io17 h => ?_)
    obtain ⟨r17, rfl, h⟩ := rI_out h
    refine v_push ?_
    refine v_if C dX4_size_20 (tgt := 26) (by decide) (P := r17 = 0) rfl (fun c20 => ?_) (fun c20 => ?_)
    · replace h := h.1 c20
      refine v_iinc C dX4_size_26 (by decide) rfl h.1 (lv' := [some (.inr (18, i0)), some (.inl x1), some (.inl (x2 + 1))]) rfl ?_
      replace h := h.2
      refine v_goto C dX4_size_29 (tgt := 4) (by decide) ?_
      refine v_weak [some (.inr (18, i0)), some (.inl x1), some (.inl (x2 + 1))] ⟨rfl, rfl, rfl, trivial⟩ ?_
      exact h
    · replace h := h.2 c20
      refine v_iinc C dX4_size_23 (by decide) rfl h.1 (lv' := [some (.inr (18, i0)), some (.inl (x1 + 1)), some (.inl x2)]) rfl ?_
      replace h := h.2
      refine v_iinc C dX4_size_26 (by decide) rfl h.1 (lv' := [some (.inr (18, i0)), some (.inl (x1 + 1)), some (.inl (x2 + 1))]) rfl ?_
      replace h := h.2
      refine v_goto C dX4_size_29 (tgt := 4) (by decide) ?_
      refine v_weak [some (.inr (18, i0)), some (.inl (x1 + 1)), some (.inl (x2 + 1))] ⟨rfl, rfl, rfl, trivial⟩ ?_
      exact h
abbrev spX4_size (pl : Int) (M : Mem) (K : Kont) : Prop := (0 ≤ M 5 1 7 ∧ M 5 1 7 ≤ 7) ∧ K (some (szN (M 19 pl) (M 5 1 7).toNat)) M
theorem szN_rng (ver : Int → Int) (n : Nat) : 0 ≤ szN ver n ∧ szN ver n ≤ n := by
  have := sum_rng (f := fun p => if ver p = -4 then 0 else 1) (B := 1) (fun t => by split <;> omega) n
  unfold szN
  omega
theorem ctX4_size : CtX4_size spX4_size := by
  refine ct_of (by decide) dmC (fun _ => Nat.le_of_ble_eq_true rfl) ?_
  intro κ pl M K C oM h
  refine sgX4_size_0 C pl ?_
  dsimp only [spX4_size] at h
  obtain ⟨hP, hk⟩ := h
  have loop : ∀ (n : Nat) (t o : Int), 0 ≤ t → t + n = M 5 1 7 → o = szN (M 19 pl) t.toNat →
      V κ 3 M 4 [some (.inr (18, pl)), some (.inl o), some (.inl t)] [] K := by
    intro n
    induction n with
    | zero =>
      intro t o h0 hn ho
      refine sgX4_size_4 C pl o t ⟨fun c => ?_, fun c => absurd (by omega) c⟩
      have e : t = M 5 1 7 := by omega
      rw [ho, e]
      exact hk
    | succ n ih =>
      intro t o h0 hn ho
      have hr := szN_rng (M 19 pl) t.toNat
      have hs : szN (M 19 pl) (t + 1).toNat = szN (M 19 pl) t.toNat + (if M 19 pl t = -4 then 0 else 1) := sumN_s _ h0
      refine sgX4_size_4 C pl o t ⟨fun c => absurd c (by omega), fun c => ⟨⟨h0, by omega⟩, fun c2 => ⟨by omega, ?_⟩, fun c2 => ⟨by omega, by omega, ?_⟩⟩⟩
      · refine ih (t + 1) o (by omega) (by omega) (by rw [hs, c2]; omega)
      · refine ih (t + 1) (o + 1) (by omega) (by omega) ?_
        rw [hs]
        split
        · rename_i q
          rw [if_pos q] at c2
          exact absurd rfl c2
        · omega
  exact loop (M 5 1 7).toNat 0 0 (by omega) (by omega) rfl
/-! ===== GapTellings$Plan.endOf ===== -/
abbrev rmX4_endOf : Room := { frames := 0, cells := 0, slots := 0, locals := 0 }
abbrev argX4_endOf (a : Int × Int) : List PV := [.inr (18, a.1), .inl a.2]
abbrev CtX4_endOf (sp : Int → Int → Mem → Kont → Prop) : Prop := Ct yX4_endOf cX4_endOf 2 (some .int) rmX4_endOf domC argX4_endOf (fun a => sp a.1 a.2)
theorem dX4_endOf_0 : decode cX4_endOf 0 = .ok (.aload_n 0, 1) := by decide +kernel
theorem dX4_endOf_1 : decode cX4_endOf 1 = .ok (.getfield 15, 3) := by decide +kernel
theorem dX4_endOf_4 : decode cX4_endOf 4 = .ok (.iload_n 1, 1) := by decide +kernel
theorem dX4_endOf_5 : decode cX4_endOf 5 = .ok (.iaload, 1) := by decide +kernel
theorem dX4_endOf_6 : decode cX4_endOf 6 = .ok (.aload_n 0, 1) := by decide +kernel
theorem dX4_endOf_7 : decode cX4_endOf 7 = .ok (.getfield 18, 3) := by decide +kernel
theorem dX4_endOf_10 : decode cX4_endOf 10 = .ok (.getfield 44, 3) := by decide +kernel
theorem dX4_endOf_13 : decode cX4_endOf 13 = .ok (.iload_n 1, 1) := by decide +kernel
theorem dX4_endOf_14 : decode cX4_endOf 14 = .ok (.aaload, 1) := by decide +kernel
theorem dX4_endOf_15 : decode cX4_endOf 15 = .ok (.getfield 48, 3) := by decide +kernel
theorem dX4_endOf_18 : decode cX4_endOf 18 = .ok (.aload_n 0, 1) := by decide +kernel
theorem dX4_endOf_19 : decode cX4_endOf 19 = .ok (.getfield 9, 3) := by decide +kernel
theorem dX4_endOf_22 : decode cX4_endOf 22 = .ok (.iload_n 1, 1) := by decide +kernel
theorem dX4_endOf_23 : decode cX4_endOf 23 = .ok (.iaload, 1) := by decide +kernel
theorem dX4_endOf_24 : decode cX4_endOf 24 = .ok (.iaload, 1) := by decide +kernel
theorem dX4_endOf_25 : decode cX4_endOf 25 = .ok (.iadd, 1) := by decide +kernel
theorem dX4_endOf_26 : decode cX4_endOf 26 = .ok (.ireturn, 1) := by decide +kernel
theorem flX4_44 : FL RX4 44 1 8 := ⟨_, _, _, rfl, by decide, uwX1, Or.inr ⟨"GapTellings", (nw_mem (t_in1 (List.mem_of_getElem? (i := 141) (by decide +kernel))) (by decide +kernel))⟩⟩
theorem flX4_48 : FL RX4 48 3 5 := ⟨_, _, _, rfl, by decide, uwX3, Or.inr ⟨"GapTellings", (nw_mem (t_in1 (List.mem_of_getElem? (i := 85) (by decide +kernel))) (by decide +kernel))⟩⟩
set_option maxHeartbeats 4000000 in
set_option maxRecDepth 20000 in
theorem sgX4_endOf_0 {κ : Kx} {K : Kont} {M : Mem} (C : Cx κ RX4 cX4_endOf 2 (some .int) rmX4_endOf domC) (i0 : Int) (x1 : Int)
    (h :
    (0 ≤ x1 ∧ x1 < 7) ∧
    (0 ≤ x1 ∧ x1 < 7) ∧
    (0 ≤ x1 ∧ x1 < 7) ∧
    (0 ≤ (M 19 i0 x1) ∧ (M 19 i0 x1) < 3) ∧
    inR ((M 20 i0 x1) + (M 12 (7 * 1 + x1) (M 19 i0 x1))) ∧
    K (some ((M 20 i0 x1) + (M 12 (7 * 1 + x1) (M 19 i0 x1)))) M) : V κ 2 M 0 [some (.inr (18, i0)), some (.inl x1)] [] K := by
  refine v_aload_n C dX4_endOf_0 rfl ?_
  refine v_get C dX4_endOf_1 flX4_15 rfl (by decide) (by decide) (w := .inr (20, i0)) rfl ?_
  refine v_iload_n C dX4_endOf_4 rfl ?_
  refine v_iald C dX4_endOf_5 rfl h.1.1 h.1.2 ?_
  replace h := h.2
  refine v_aload_n C dX4_endOf_6 rfl ?_
  refine v_get C dX4_endOf_7 flX4_18 rfl (by decide) (by decide) (w := .inr (5, 1)) rfl ?_
  refine v_get C dX4_endOf_10 flX4_44 rfl (by decide) (by decide) (w := .inr (10, 1)) rfl ?_
  refine v_iload_n C dX4_endOf_13 rfl ?_
  refine v_aald C dX4_endOf_14 h.1.1 h.1.2 ?_
  replace h := h.2
  refine v_get C dX4_endOf_15 flX4_48 rfl (by decide) (by decide) (w := .inr (12, 7 * 1 + x1)) rfl ?_
  refine v_aload_n C dX4_endOf_18 rfl ?_
  refine v_get C dX4_endOf_19 flX4_9 rfl (by decide) (by decide) (w := .inr (19, i0)) rfl ?_
  refine v_iload_n C dX4_endOf_22 rfl ?_
  refine v_iald C dX4_endOf_23 rfl h.1.1 h.1.2 ?_
  replace h := h.2
  refine v_iald C dX4_endOf_24 rfl h.1.1 h.1.2 ?_
  replace h := h.2
  refine v_iadd C dX4_endOf_25 h.1 ?_
  replace h := h.2
  exact v_iret C dX4_endOf_26 h
abbrev spX4_endOf (pl p : Int) (M : Mem) (K : Kont) : Prop := ((0 ≤ p ∧ p < 7) ∧ (0 ≤ M 19 pl p ∧ M 19 pl p < 3) ∧ inR (M 20 pl p + M 12 (7 * 1 + p) (M 19 pl p))) ∧ K (some (M 20 pl p + M 12 (7 * 1 + p) (M 19 pl p))) M
theorem ctX4_endOf : CtX4_endOf spX4_endOf := by
  refine ct_of (by decide) dmC (fun _ => Nat.le_of_ble_eq_true rfl) ?_
  intro κ a M K C oM h
  obtain ⟨pl, p⟩ := a
  exact sgX4_endOf_0 C pl p ⟨h.1.1, h.1.1, h.1.1, h.1.2.1, h.1.2.2, h.2⟩
/-- what endOf asks, of a picture that is placed -/
theorem end_pre {M : Mem} {pl q : Int} (hf : WFf (cFilm M 1)) (hp : PlK (cFilm M 1) (M 19 pl) (M 20 pl)) (h0 : 0 ≤ q) (h1 : q < 7) (hv : M 19 pl q ≠ -4) : (0 ≤ M 19 pl q ∧ M 19 pl q < 3) ∧ (0 ≤ M 20 pl q ∧ M 20 pl q ≤ 100) ∧ (1 ≤ M 12 (7 * 1 + q) (M 19 pl q) ∧ M 12 (7 * 1 + q) (M 19 pl q) ≤ 30) ∧ inR (M 20 pl q + M 12 (7 * 1 + q) (M 19 pl q)) := by
  have a := hp.at h0 h1 hv
  have b := wf_pv hf h0 a.1 a.2.1.1 a.2.1.2
  simp only [cFilm] at a b
  refine ⟨⟨a.2.1.1, b.2.2.1⟩, ⟨a.2.2.1, by omega⟩, b.2.2.2.2.2.2.1, by omega⟩
/-! ===== GapTellings$Plan.whyNotBesideOthers ===== -/
abbrev rmX4_whyNotBesideOthers : Room := { frames := 1, cells := 0, slots := 0, locals := 21 }
abbrev argX4_whyNotBesideOthers (a : Int × Int × Int × Int) : List PV := [.inr (18, a.1), .inl a.2.1, .inl a.2.2.1, .inl a.2.2.2]
abbrev CtX4_whyNotBesideOthers (sp : Int → Int → Int → Int → Mem → Kont → Prop) : Prop := Ct yX4_whyNotBesideOthers cX4_whyNotBesideOthers 7 (some .int) rmX4_whyNotBesideOthers domC argX4_whyNotBesideOthers (fun a => sp a.1 a.2.1 a.2.2.1 a.2.2.2)
theorem dX4_whyNotBesideOthers_0 : decode cX4_whyNotBesideOthers 0 = .ok (.iload_n 3, 1) := by decide +kernel
theorem dX4_whyNotBesideOthers_1 : decode cX4_whyNotBesideOthers 1 = .ok (.aload_n 0, 1) := by decide +kernel
theorem dX4_whyNotBesideOthers_2 : decode cX4_whyNotBesideOthers 2 = .ok (.getfield 18, 3) := by decide +kernel
theorem dX4_whyNotBesideOthers_5 : decode cX4_whyNotBesideOthers 5 = .ok (.getfield 44, 3) := by decide +kernel
theorem dX4_whyNotBesideOthers_8 : decode cX4_whyNotBesideOthers 8 = .ok (.iload_n 1, 1) := by decide +kernel
theorem dX4_whyNotBesideOthers_9 : decode cX4_whyNotBesideOthers 9 = .ok (.aaload, 1) := by decide +kernel
theorem dX4_whyNotBesideOthers_10 : decode cX4_whyNotBesideOthers 10 = .ok (.getfield 48, 3) := by decide +kernel
theorem dX4_whyNotBesideOthers_13 : decode cX4_whyNotBesideOthers 13 = .ok (.iload_n 2, 1) := by decide +kernel
theorem dX4_whyNotBesideOthers_14 : decode cX4_whyNotBesideOthers 14 = .ok (.iaload, 1) := by decide +kernel
theorem dX4_whyNotBesideOthers_15 : decode cX4_whyNotBesideOthers 15 = .ok (.iadd, 1) := by decide +kernel
theorem dX4_whyNotBesideOthers_16 : decode cX4_whyNotBesideOthers 16 = .ok (.istore 4, 2) := by decide +kernel
theorem dX4_whyNotBesideOthers_18 : decode cX4_whyNotBesideOthers 18 = .ok (.iconst 0, 1) := by decide +kernel
theorem dX4_whyNotBesideOthers_19 : decode cX4_whyNotBesideOthers 19 = .ok (.istore 5, 2) := by decide +kernel
theorem dX4_whyNotBesideOthers_21 : decode cX4_whyNotBesideOthers 21 = .ok (.iload 5, 2) := by decide +kernel
theorem dX4_whyNotBesideOthers_23 : decode cX4_whyNotBesideOthers 23 = .ok (.aload_n 0, 1) := by decide +kernel
theorem dX4_whyNotBesideOthers_24 : decode cX4_whyNotBesideOthers 24 = .ok (.getfield 18, 3) := by decide +kernel
theorem dX4_whyNotBesideOthers_27 : decode cX4_whyNotBesideOthers 27 = .ok (.getfield 34, 3) := by decide +kernel
theorem dX4_whyNotBesideOthers_30 : decode cX4_whyNotBesideOthers 30 = .ok (.if_icmp .ge 64, 3) := by decide +kernel
theorem dX4_whyNotBesideOthers_33 : decode cX4_whyNotBesideOthers 33 = .ok (.iload 5, 2) := by decide +kernel
theorem dX4_whyNotBesideOthers_35 : decode cX4_whyNotBesideOthers 35 = .ok (.iload_n 1, 1) := by decide +kernel
theorem dX4_whyNotBesideOthers_36 : decode cX4_whyNotBesideOthers 36 = .ok (.if_icmp .eq 52, 3) := by decide +kernel
theorem dX4_whyNotBesideOthers_39 : decode cX4_whyNotBesideOthers 39 = .ok (.aload_n 0, 1) := by decide +kernel
theorem dX4_whyNotBesideOthers_40 : decode cX4_whyNotBesideOthers 40 = .ok (.iload 5, 2) := by decide +kernel
theorem dX4_whyNotBesideOthers_42 : decode cX4_whyNotBesideOthers 42 = .ok (.invokevirtual 40, 3) := by decide +kernel
theorem dX4_whyNotBesideOthers_45 : decode cX4_whyNotBesideOthers 45 = .ok (.ifCond .eq 43, 3) := by decide +kernel
theorem dX4_whyNotBesideOthers_48 : decode cX4_whyNotBesideOthers 48 = .ok (.aload_n 0, 1) := by decide +kernel
theorem dX4_whyNotBesideOthers_49 : decode cX4_whyNotBesideOthers 49 = .ok (.getfield 15, 3) := by decide +kernel
theorem dX4_whyNotBesideOthers_52 : decode cX4_whyNotBesideOthers 52 = .ok (.iload 5, 2) := by decide +kernel
theorem dX4_whyNotBesideOthers_54 : decode cX4_whyNotBesideOthers 54 = .ok (.iaload, 1) := by decide +kernel
theorem dX4_whyNotBesideOthers_55 : decode cX4_whyNotBesideOthers 55 = .ok (.iload 4, 2) := by decide +kernel
theorem dX4_whyNotBesideOthers_57 : decode cX4_whyNotBesideOthers 57 = .ok (.isub, 1) := by decide +kernel
theorem dX4_whyNotBesideOthers_58 : decode cX4_whyNotBesideOthers 58 = .ok (.aload_n 0, 1) := by decide +kernel
theorem dX4_whyNotBesideOthers_59 : decode cX4_whyNotBesideOthers 59 = .ok (.getfield 18, 3) := by decide +kernel
theorem dX4_whyNotBesideOthers_62 : decode cX4_whyNotBesideOthers 62 = .ok (.getfield 62, 3) := by decide +kernel
theorem dX4_whyNotBesideOthers_65 : decode cX4_whyNotBesideOthers 65 = .ok (.if_icmp .ge 23, 3) := by decide +kernel
theorem dX4_whyNotBesideOthers_68 : decode cX4_whyNotBesideOthers 68 = .ok (.iload_n 3, 1) := by decide +kernel
theorem dX4_whyNotBesideOthers_69 : decode cX4_whyNotBesideOthers 69 = .ok (.aload_n 0, 1) := by decide +kernel
theorem dX4_whyNotBesideOthers_70 : decode cX4_whyNotBesideOthers 70 = .ok (.iload 5, 2) := by decide +kernel
theorem dX4_whyNotBesideOthers_72 : decode cX4_whyNotBesideOthers 72 = .ok (.invokevirtual 65, 3) := by decide +kernel
theorem dX4_whyNotBesideOthers_75 : decode cX4_whyNotBesideOthers 75 = .ok (.isub, 1) := by decide +kernel
theorem dX4_whyNotBesideOthers_76 : decode cX4_whyNotBesideOthers 76 = .ok (.aload_n 0, 1) := by decide +kernel
theorem dX4_whyNotBesideOthers_77 : decode cX4_whyNotBesideOthers 77 = .ok (.getfield 18, 3) := by decide +kernel
theorem dX4_whyNotBesideOthers_80 : decode cX4_whyNotBesideOthers 80 = .ok (.getfield 62, 3) := by decide +kernel
theorem dX4_whyNotBesideOthers_83 : decode cX4_whyNotBesideOthers 83 = .ok (.if_icmp .ge 5, 3) := by decide +kernel
theorem dX4_whyNotBesideOthers_86 : decode cX4_whyNotBesideOthers 86 = .ok (.iconst 4, 1) := by decide +kernel
theorem dX4_whyNotBesideOthers_87 : decode cX4_whyNotBesideOthers 87 = .ok (.ireturn, 1) := by decide +kernel
theorem dX4_whyNotBesideOthers_88 : decode cX4_whyNotBesideOthers 88 = .ok (.iinc 5 1, 3) := by decide +kernel
theorem dX4_whyNotBesideOthers_91 : decode cX4_whyNotBesideOthers 91 = .ok (.goto (-70), 3) := by decide +kernel
theorem dX4_whyNotBesideOthers_94 : decode cX4_whyNotBesideOthers 94 = .ok (.aload_n 0, 1) := by decide +kernel
theorem dX4_whyNotBesideOthers_95 : decode cX4_whyNotBesideOthers 95 = .ok (.getfield 18, 3) := by decide +kernel
theorem dX4_whyNotBesideOthers_98 : decode cX4_whyNotBesideOthers 98 = .ok (.getfield 44, 3) := by decide +kernel
theorem dX4_whyNotBesideOthers_101 : decode cX4_whyNotBesideOthers 101 = .ok (.iload_n 1, 1) := by decide +kernel
theorem dX4_whyNotBesideOthers_102 : decode cX4_whyNotBesideOthers 102 = .ok (.aaload, 1) := by decide +kernel
theorem dX4_whyNotBesideOthers_103 : decode cX4_whyNotBesideOthers 103 = .ok (.getfield 69, 3) := by decide +kernel
theorem dX4_whyNotBesideOthers_106 : decode cX4_whyNotBesideOthers 106 = .ok (.istore 5, 2) := by decide +kernel
theorem dX4_whyNotBesideOthers_108 : decode cX4_whyNotBesideOthers 108 = .ok (.iload 5, 2) := by decide +kernel
theorem dX4_whyNotBesideOthers_110 : decode cX4_whyNotBesideOthers 110 = .ok (.bipush (-4), 2) := by decide +kernel
theorem dX4_whyNotBesideOthers_112 : decode cX4_whyNotBesideOthers 112 = .ok (.if_icmp .eq 24, 3) := by decide +kernel
theorem dX4_whyNotBesideOthers_115 : decode cX4_whyNotBesideOthers 115 = .ok (.aload_n 0, 1) := by decide +kernel
theorem dX4_whyNotBesideOthers_116 : decode cX4_whyNotBesideOthers 116 = .ok (.iload 5, 2) := by decide +kernel
theorem dX4_whyNotBesideOthers_118 : decode cX4_whyNotBesideOthers 118 = .ok (.invokevirtual 40, 3) := by decide +kernel
theorem dX4_whyNotBesideOthers_121 : decode cX4_whyNotBesideOthers 121 = .ok (.ifCond .eq 13, 3) := by decide +kernel
theorem dX4_whyNotBesideOthers_124 : decode cX4_whyNotBesideOthers 124 = .ok (.aload_n 0, 1) := by decide +kernel
theorem dX4_whyNotBesideOthers_125 : decode cX4_whyNotBesideOthers 125 = .ok (.iload 5, 2) := by decide +kernel
theorem dX4_whyNotBesideOthers_127 : decode cX4_whyNotBesideOthers 127 = .ok (.invokevirtual 65, 3) := by decide +kernel
theorem dX4_whyNotBesideOthers_130 : decode cX4_whyNotBesideOthers 130 = .ok (.iload_n 3, 1) := by decide +kernel
theorem dX4_whyNotBesideOthers_131 : decode cX4_whyNotBesideOthers 131 = .ok (.if_icmp .le 5, 3) := by decide +kernel
theorem dX4_whyNotBesideOthers_134 : decode cX4_whyNotBesideOthers 134 = .ok (.iconst 5, 1) := by decide +kernel
theorem dX4_whyNotBesideOthers_135 : decode cX4_whyNotBesideOthers 135 = .ok (.ireturn, 1) := by decide +kernel
theorem dX4_whyNotBesideOthers_136 : decode cX4_whyNotBesideOthers 136 = .ok (.iconst 0, 1) := by decide +kernel
theorem dX4_whyNotBesideOthers_137 : decode cX4_whyNotBesideOthers 137 = .ok (.istore 6, 2) := by decide +kernel
theorem dX4_whyNotBesideOthers_139 : decode cX4_whyNotBesideOthers 139 = .ok (.iload 6, 2) := by decide +kernel
theorem dX4_whyNotBesideOthers_141 : decode cX4_whyNotBesideOthers 141 = .ok (.aload_n 0, 1) := by decide +kernel
theorem dX4_whyNotBesideOthers_142 : decode cX4_whyNotBesideOthers 142 = .ok (.getfield 18, 3) := by decide +kernel
theorem dX4_whyNotBesideOthers_145 : decode cX4_whyNotBesideOthers 145 = .ok (.getfield 34, 3) := by decide +kernel
theorem dX4_whyNotBesideOthers_148 : decode cX4_whyNotBesideOthers 148 = .ok (.if_icmp .ge 50, 3) := by decide +kernel
theorem dX4_whyNotBesideOthers_151 : decode cX4_whyNotBesideOthers 151 = .ok (.aload_n 0, 1) := by decide +kernel
theorem dX4_whyNotBesideOthers_152 : decode cX4_whyNotBesideOthers 152 = .ok (.getfield 18, 3) := by decide +kernel
theorem dX4_whyNotBesideOthers_155 : decode cX4_whyNotBesideOthers 155 = .ok (.getfield 44, 3) := by decide +kernel
theorem dX4_whyNotBesideOthers_158 : decode cX4_whyNotBesideOthers 158 = .ok (.iload 6, 2) := by decide +kernel
theorem dX4_whyNotBesideOthers_160 : decode cX4_whyNotBesideOthers 160 = .ok (.aaload, 1) := by decide +kernel
theorem dX4_whyNotBesideOthers_161 : decode cX4_whyNotBesideOthers 161 = .ok (.getfield 69, 3) := by decide +kernel
theorem dX4_whyNotBesideOthers_164 : decode cX4_whyNotBesideOthers 164 = .ok (.iload_n 1, 1) := by decide +kernel
theorem dX4_whyNotBesideOthers_165 : decode cX4_whyNotBesideOthers 165 = .ok (.if_icmp .ne 27, 3) := by decide +kernel
theorem dX4_whyNotBesideOthers_168 : decode cX4_whyNotBesideOthers 168 = .ok (.aload_n 0, 1) := by decide +kernel
theorem dX4_whyNotBesideOthers_169 : decode cX4_whyNotBesideOthers 169 = .ok (.iload 6, 2) := by decide +kernel
theorem dX4_whyNotBesideOthers_171 : decode cX4_whyNotBesideOthers 171 = .ok (.invokevirtual 40, 3) := by decide +kernel
theorem dX4_whyNotBesideOthers_174 : decode cX4_whyNotBesideOthers 174 = .ok (.ifCond .eq 18, 3) := by decide +kernel
theorem dX4_whyNotBesideOthers_177 : decode cX4_whyNotBesideOthers 177 = .ok (.aload_n 0, 1) := by decide +kernel
theorem dX4_whyNotBesideOthers_178 : decode cX4_whyNotBesideOthers 178 = .ok (.getfield 15, 3) := by decide +kernel
theorem dX4_whyNotBesideOthers_181 : decode cX4_whyNotBesideOthers 181 = .ok (.iload 6, 2) := by decide +kernel
theorem dX4_whyNotBesideOthers_183 : decode cX4_whyNotBesideOthers 183 = .ok (.iaload, 1) := by decide +kernel
theorem dX4_whyNotBesideOthers_184 : decode cX4_whyNotBesideOthers 184 = .ok (.iload 4, 2) := by decide +kernel
theorem dX4_whyNotBesideOthers_186 : decode cX4_whyNotBesideOthers 186 = .ok (.if_icmp .ge 6, 3) := by decide +kernel
theorem dX4_whyNotBesideOthers_189 : decode cX4_whyNotBesideOthers 189 = .ok (.bipush 6, 2) := by decide +kernel
theorem dX4_whyNotBesideOthers_191 : decode cX4_whyNotBesideOthers 191 = .ok (.ireturn, 1) := by decide +kernel
theorem dX4_whyNotBesideOthers_192 : decode cX4_whyNotBesideOthers 192 = .ok (.iinc 6 1, 3) := by decide +kernel
theorem dX4_whyNotBesideOthers_195 : decode cX4_whyNotBesideOthers 195 = .ok (.goto (-56), 3) := by decide +kernel
theorem dX4_whyNotBesideOthers_198 : decode cX4_whyNotBesideOthers 198 = .ok (.iconst 0, 1) := by decide +kernel
theorem dX4_whyNotBesideOthers_199 : decode cX4_whyNotBesideOthers 199 = .ok (.ireturn, 1) := by decide +kernel
theorem flX4_69 : FL RX4 69 3 3 := ⟨_, _, _, rfl, by decide, uwX3, Or.inr ⟨"GapTellings", (nw_mem (t_in1 (List.mem_of_getElem? (i := 75) (by decide +kernel))) (by decide +kernel))⟩⟩
theorem ivX4_65 : IV RX4 65 yX4_endOf cX4_endOf 2 (some .int) 1 := ⟨(tb_mem (t_in3 (List.mem_of_getElem? (i := 73) (by decide +kernel))) (by decide +kernel)), (tb_mem (t_in3 (List.mem_of_getElem? (i := 74) (by decide +kernel))) (by decide +kernel)), (tb_mem (t_in3 (List.mem_of_getElem? (i := 75) (by decide +kernel))) (by decide +kernel)), (tb_mem (t_in1 (List.mem_of_getElem? (i := 6) (by decide +kernel))) (by decide +kernel)), (tb_mem (t_in3 (List.mem_of_getElem? (i := 76) (by decide +kernel))) (by decide +kernel)), ⟨by decide +kernel, by decide +kernel, by decide +kernel⟩⟩
theorem flX4_62 : FL RX4 62 1 1 := ⟨_, _, _, rfl, by decide, uwX1, Or.inr ⟨"GapTellings", (nw_mem (t_in1 (List.mem_of_getElem? (i := 114) (by decide +kernel))) (by decide +kernel))⟩⟩
set_option maxHeartbeats 4000000 in
set_option maxRecDepth 20000 in
theorem sgX4_whyNotBesideOthers_0 {κ : Kx} {K : Kont} {M : Mem} (C : Cx κ RX4 cX4_whyNotBesideOthers 7 (some .int) rmX4_whyNotBesideOthers domC) (i0 : Int) (x1 : Int) (x2 : Int) (x3 : Int)
    (h :
    (0 ≤ x1 ∧ x1 < 7) ∧
    (0 ≤ x2 ∧ x2 < 3) ∧
    inR (x3 + (M 12 (7 * 1 + x1) x2)) ∧
    ∀ y4_16 : Int, y4_16 = x3 + (M 12 (7 * 1 + x1) x2) →
    V κ 7 M 21 [some (.inr (18, i0)), some (.inl x1), none, some (.inl x3), some (.inl y4_16), some (.inl 0), none] [] K) : V κ 7 M 0 [some (.inr (18, i0)), some (.inl x1), some (.inl x2), some (.inl x3), none, none, none] [] K := by
  refine v_iload_n C dX4_whyNotBesideOthers_0 rfl ?_
  refine v_aload_n C dX4_whyNotBesideOthers_1 rfl ?_
  refine v_get C dX4_whyNotBesideOthers_2 flX4_18 rfl (by decide) (by decide) (w := .inr (5, 1)) rfl ?_
  refine v_get C dX4_whyNotBesideOthers_5 flX4_44 rfl (by decide) (by decide) (w := .inr (10, 1)) rfl ?_
  refine v_iload_n C dX4_whyNotBesideOthers_8 rfl ?_
  refine v_aald C dX4_whyNotBesideOthers_9 h.1.1 h.1.2 ?_
  replace h := h.2
  refine v_get C dX4_whyNotBesideOthers_10 flX4_48 rfl (by decide) (by decide) (w := .inr (12, 7 * 1 + x1)) rfl ?_
  refine v_iload_n C dX4_whyNotBesideOthers_13 rfl ?_
  refine v_iald C dX4_whyNotBesideOthers_14 rfl h.1.1 h.1.2 ?_
  replace h := h.2
  refine v_iadd C dX4_whyNotBesideOthers_15 h.1 ?_
  replace h := h.2
  refine v_nm (fun y4_16 ey4_16 => ?_)
  replace h := h y4_16 ey4_16
  refine v_istore C dX4_whyNotBesideOthers_16 (by decide) (Nat.le_of_ble_eq_true rfl) (lv' := [some (.inr (18, i0)), some (.inl x1), some (.inl x2), some (.inl x3), some (.inl y4_16), none, none]) rfl ?_
  refine v_iconst C dX4_whyNotBesideOthers_18 (by decide) ?_
  refine v_istore C dX4_whyNotBesideOthers_19 (by decide) (Nat.le_of_ble_eq_true rfl) (lv' := [some (.inr (18, i0)), some (.inl x1), some (.inl x2), some (.inl x3), some (.inl y4_16), some (.inl 0), none]) rfl ?_
  refine v_weak [some (.inr (18, i0)), some (.inl x1), none, some (.inl x3), some (.inl y4_16), some (.inl 0), none] ⟨rfl, rfl, rfl, rfl, rfl, trivial⟩ ?_
  exact h
set_option maxHeartbeats 4000000 in
set_option maxRecDepth 20000 in
theorem sgX4_whyNotBesideOthers_21 {κ : Kx} {K : Kont} {M : Mem} (C : Cx κ RX4 cX4_whyNotBesideOthers 7 (some .int) rmX4_whyNotBesideOthers domC) (i0 : Int) (x1 : Int) (x3 : Int) (x4 : Int) (x5 : Int)
    (h :
    (((M 5 1 7) ≤ x5 →
      (0 ≤ x1 ∧ x1 < 7) ∧
      ∀ y5_106 : Int, y5_106 = M 11 (7 * 1 + x1) 3 →
      ((y5_106 = (-4) →
        V κ 7 M 139 [some (.inr (18, i0)), some (.inl x1), none, none, some (.inl x4), none, some (.inl 0)] [] K) ∧
       (¬ (y5_106 = (-4)) →
        spX4_has i0 y5_106 M (rI (fun r118 M118 =>
        ((r118 = 0 →
          K (some 5) M118) ∧
         (¬ (r118 = 0) →
          spX4_endOf i0 y5_106 M118 (rI (fun r127 M127 =>
          ((r127 ≤ x3 →
            V κ 7 M127 139 [some (.inr (18, i0)), some (.inl x1), none, none, some (.inl x4), none, some (.inl 0)] [] K) ∧
           (¬ (r127 ≤ x3) →
            K (some 5) M127))))))))))) ∧
     (¬ ((M 5 1 7) ≤ x5) →
      ((x5 = x1 →
        inR (x5 + 1) ∧
        V κ 7 M 21 [some (.inr (18, i0)), some (.inl x1), none, some (.inl x3), some (.inl x4), some (.inl (x5 + 1)), none] [] K) ∧
       (¬ (x5 = x1) →
        spX4_has i0 x5 M (rI (fun r42 M42 =>
        ((r42 = 0 →
          inR (x5 + 1) ∧
          V κ 7 M42 21 [some (.inr (18, i0)), some (.inl x1), none, some (.inl x3), some (.inl x4), some (.inl (x5 + 1)), none] [] K) ∧
         (¬ (r42 = 0) →
          (0 ≤ x5 ∧ x5 < 7) ∧
          inR ((M42 20 i0 x5) - x4) ∧
          (((M42 5 1 1) ≤ ((M42 20 i0 x5) - x4) →
            inR (x5 + 1) ∧
            V κ 7 M42 21 [some (.inr (18, i0)), some (.inl x1), none, some (.inl x3), some (.inl x4), some (.inl (x5 + 1)), none] [] K) ∧
           (¬ ((M42 5 1 1) ≤ ((M42 20 i0 x5) - x4)) →
            spX4_endOf i0 x5 M42 (rI (fun r72 M72 =>
            inR (x3 - r72) ∧
            (((M72 5 1 1) ≤ (x3 - r72) →
              inR (x5 + 1) ∧
              V κ 7 M72 21 [some (.inr (18, i0)), some (.inl x1), none, some (.inl x3), some (.inl x4), some (.inl (x5 + 1)), none] [] K) ∧
             (¬ ((M72 5 1 1) ≤ (x3 - r72)) →
              K (some 4) M72))))))))))))))) : V κ 7 M 21 [some (.inr (18, i0)), some (.inl x1), none, some (.inl x3), some (.inl x4), some (.inl x5), none] [] K := by
  refine v_iload C dX4_whyNotBesideOthers_21 rfl ?_
  refine v_aload_n C dX4_whyNotBesideOthers_23 rfl ?_
  refine v_get C dX4_whyNotBesideOthers_24 flX4_18 rfl (by decide) (by decide) (w := .inr (5, 1)) rfl ?_
  refine v_get C dX4_whyNotBesideOthers_27 flX4_34 rfl (by decide) (by decide) (w := .inl (M 5 1 7)) rfl ?_
  refine v_icmp C dX4_whyNotBesideOthers_30 (tgt := 94) (by decide) (P := (M 5 1 7) ≤ x5) rfl (fun c30 => ?_) (fun c30 => ?_)
  · replace h := h.1 c30
    refine v_aload_n C dX4_whyNotBesideOthers_94 rfl ?_
    refine v_get C dX4_whyNotBesideOthers_95 flX4_18 rfl (by decide) (by decide) (w := .inr (5, 1)) rfl ?_
    refine v_get C dX4_whyNotBesideOthers_98 flX4_44 rfl (by decide) (by decide) (w := .inr (10, 1)) rfl ?_
    refine v_iload_n C dX4_whyNotBesideOthers_101 rfl ?_
    refine v_aald C dX4_whyNotBesideOthers_102 h.1.1 h.1.2 ?_
    replace h := h.2
    refine v_get C dX4_whyNotBesideOthers_103 flX4_69 rfl (by decide) (by decide) (w := .inl (M 11 (7 * 1 + x1) 3)) rfl ?_
    refine v_nm (fun y5_106 ey5_106 => ?_)
    replace h := h y5_106 ey5_106
    refine v_istore C dX4_whyNotBesideOthers_106 (by decide) (Nat.le_of_ble_eq_true rfl) (lv' := [some (.inr (18, i0)), some (.inl x1), none, some (.inl x3), some (.inl x4), some (.inl y5_106), none]) rfl ?_
    refine v_iload C dX4_whyNotBesideOthers_108 rfl ?_
    refine v_bipush C dX4_whyNotBesideOthers_110 (by decide) (by decide) ?_
    refine v_icmp C dX4_whyNotBesideOthers_112 (tgt := 136) (by decide) (P := y5_106 = (-4)) rfl (fun c112 => ?_) (fun c112 => ?_)
    · replace h := h.1 c112
      refine v_iconst C dX4_whyNotBesideOthers_136 (by decide) ?_
      refine v_istore C dX4_whyNotBesideOthers_137 (by decide) (Nat.le_of_ble_eq_true rfl) (lv' := [some (.inr (18, i0)), some (.inl x1), none, some (.inl x3), some (.inl x4), some (.inl y5_106), some (.inl 0)]) rfl ?_
      refine v_weak [some (.inr (18, i0)), some (.inl x1), none, none, some (.inl x4), none, some (.inl 0)] ⟨rfl, rfl, rfl, rfl, trivial⟩ ?_
      exact h
    · replace h := h.2 c112
      refine v_aload_n C dX4_whyNotBesideOthers_115 rfl ?_
      refine v_iload C dX4_whyNotBesideOthers_116 rfl ?_
      refine v_invV C ctX4_has dX4_whyNotBesideOthers_118 ivX4_40 ⟨by decide, by decide, rfl, rfl⟩ ((i0, y5_106) : Int × Int) (As := [.inl y5_106]) rfl rfl rfl (by decide) rfl (st := []) rfl (Nat.le_of_ble_eq_true rfl) h (fun o M118 oM118 io118 h => ?_)
      obtain ⟨r118, rfl, h⟩ := rI_out h
      refine v_push ?_
      refine v_if C dX4_whyNotBesideOthers_121 (tgt := 134) (by decide) (P := r118 = 0) rfl (fun c121 => ?_) (fun c121 => ?_)
      · replace h := h.1 c121
        refine v_iconst C dX4_whyNotBesideOthers_134 (by decide) ?_
        exact v_iret C dX4_whyNotBesideOthers_135 h
      · replace h := h.2 c121
        refine v_aload_n C dX4_whyNotBesideOthers_124 rfl ?_
        refine v_iload C dX4_whyNotBesideOthers_125 rfl ?_
        refine v_invV C ctX4_endOf dX4_whyNotBesideOthers_127 ivX4_65 ⟨by decide, by decide, rfl, rfl⟩ ((i0, y5_106) : Int × Int) (As := [.inl y5_106]) rfl rfl rfl (by decide) rfl (st := []) rfl (Nat.le_of_ble_eq_true rfl) h (fun o M127 oM127 io127 h => ?_)
        obtain ⟨r127, rfl, h⟩ := rI_out h
        refine v_push ?_
        refine v_iload_n C dX4_whyNotBesideOthers_130 rfl ?_
        refine v_icmp C dX4_whyNotBesideOthers_131 (tgt := 136) (by decide) (P := r127 ≤ x3) rfl (fun c131 => ?_) (fun c131 => ?_)
        · replace h := h.1 c131
          refine v_iconst C dX4_whyNotBesideOthers_136 (by decide) ?_
          refine v_istore C dX4_whyNotBesideOthers_137 (by decide) (Nat.le_of_ble_eq_true rfl) (lv' := [some (.inr (18, i0)), some (.inl x1), none, some (.inl x3), some (.inl x4), some (.inl y5_106), some (.inl 0)]) rfl ?_
          refine v_weak [some (.inr (18, i0)), some (.inl x1), none, none, some (.inl x4), none, some (.inl 0)] ⟨rfl, rfl, rfl, rfl, trivial⟩ ?_
          exact h
        · replace h := h.2 c131
          refine v_iconst C dX4_whyNotBesideOthers_134 (by decide) ?_
          exact v_iret C dX4_whyNotBesideOthers_135 h
  · replace h := h.2 c30
    refine v_iload C dX4_whyNotBesideOthers_33 rfl ?_
    refine v_iload_n C dX4_whyNotBesideOthers_35 rfl ?_
    refine v_icmp C dX4_whyNotBesideOthers_36 (tgt := 88) (by decide) (P := x5 = x1) rfl (fun c36 => ?_) (fun c36 => ?_)
    · replace h := h.1 c36
      refine v_iinc C dX4_whyNotBesideOthers_88 (by decide) rfl h.1 (lv' := [some (.inr (18, i0)), some (.inl x1), none, some (.inl x3), some (.inl x4), some (.inl (x5 + 1)), none]) rfl ?_
      replace h := h.2
      refine v_goto C dX4_whyNotBesideOthers_91 (tgt := 21) (by decide) ?_
      refine v_weak [some (.inr (18, i0)), some (.inl x1), none, some (.inl x3), some (.inl x4), some (.inl (x5 + 1)), none] ⟨rfl, rfl, rfl, rfl, rfl, trivial⟩ ?_
      exact h
    · replace h := h.2 c36
      refine v_aload_n C dX4_whyNotBesideOthers_39 rfl ?_
      refine v_iload C dX4_whyNotBesideOthers_40 rfl ?_
      refine v_invV C ctX4_has dX4_whyNotBesideOthers_42 ivX4_40 ⟨by decide, by decide, rfl, rfl⟩ ((i0, x5) : Int × Int) (As := [.inl x5]) rfl rfl rfl (by decide) rfl (st := []) rfl (Nat.le_of_ble_eq_true rfl) h (fun o M42 oM42 io42 h => ?_)
      obtain ⟨r42, rfl, h⟩ := rI_out h
      refine v_push ?_
      refine v_if C dX4_whyNotBesideOthers_45 (tgt := 88) (by decide) (P := r42 = 0) rfl (fun c45 => ?_) (fun c45 => ?_)
      · replace h := h.1 c45
        refine v_iinc C dX4_whyNotBesideOthers_88 (by decide) rfl h.1 (lv' := [some (.inr (18, i0)), some (.inl x1), none, some (.inl x3), some (.inl x4), some (.inl (x5 + 1)), none]) rfl ?_
        replace h := h.2
        refine v_goto C dX4_whyNotBesideOthers_91 (tgt := 21) (by decide) ?_
        refine v_weak [some (.inr (18, i0)), some (.inl x1), none, some (.inl x3), some (.inl x4), some (.inl (x5 + 1)), none] ⟨rfl, rfl, rfl, rfl, rfl, trivial⟩ ?_
        exact h
      · replace h := h.2 c45
        refine v_aload_n C dX4_whyNotBesideOthers_48 rfl ?_
        refine v_get C dX4_whyNotBesideOthers_49 flX4_15 rfl (by decide) (by decide) (w := .inr (20, i0)) rfl ?_
        refine v_iload C dX4_whyNotBesideOthers_52 rfl ?_
        refine v_iald C dX4_whyNotBesideOthers_54 rfl h.1.1 h.1.2 ?_
        replace h := h.2
        refine v_iload C dX4_whyNotBesideOthers_55 rfl ?_
        refine v_isub C dX4_whyNotBesideOthers_57 h.1 ?_
        replace h := h.2
        refine v_aload_n C dX4_whyNotBesideOthers_58 rfl ?_
        refine v_get C dX4_whyNotBesideOthers_59 flX4_18 rfl (by decide) (by decide) (w := .inr (5, 1)) rfl ?_
        refine v_get C dX4_whyNotBesideOthers_62 flX4_62 rfl (by decide) (by decide) (w := .inl (M42 5 1 1)) rfl ?_
        refine v_icmp C dX4_whyNotBesideOthers_65 (tgt := 88) (by decide) (P := (M42 5 1 1) ≤ ((M42 20 i0 x5) - x4)) rfl (fun c65 => ?_) (fun c65 => ?_)
        · replace h := h.1 c65
          refine v_iinc C dX4_whyNotBesideOthers_88 (by decide) rfl h.1 (lv' := [some (.inr (18, i0)), some (.inl x1), none, some (.inl x3), some (.inl x4), some (.inl (x5 + 1)), none]) rfl ?_
          replace h := h.2
          refine v_goto C dX4_whyNotBesideOthers_91 (tgt := 21) (by decide) ?_
          refine v_weak [some (.inr (18, i0)), some (.inl x1), none, some (.inl x3), some (.inl x4), some (.inl (x5 + 1)), none] ⟨rfl, rfl, rfl, rfl, rfl, trivial⟩ ?_
          exact h
        · replace h := h.2 c65
          refine v_iload_n C dX4_whyNotBesideOthers_68 rfl ?_
          refine v_aload_n C dX4_whyNotBesideOthers_69 rfl ?_
          refine v_iload C dX4_whyNotBesideOthers_70 rfl ?_
          refine v_invV C ctX4_endOf dX4_whyNotBesideOthers_72 ivX4_65 ⟨by decide, by decide, rfl, rfl⟩ ((i0, x5) : Int × Int) (As := [.inl x5]) rfl rfl rfl (by decide) rfl (st := [.inl x3]) rfl (Nat.le_of_ble_eq_true rfl) h (fun o M72 oM72 io72 h => ?_)
          obtain ⟨r72, rfl, h⟩ := rI_out h
          refine v_push ?_
          refine v_isub C dX4_whyNotBesideOthers_75 h.1 ?_
          replace h := h.2
          refine v_aload_n C dX4_whyNotBesideOthers_76 rfl ?_
          refine v_get C dX4_whyNotBesideOthers_77 flX4_18 rfl (by decide) (by decide) (w := .inr (5, 1)) rfl ?_
          refine v_get C dX4_whyNotBesideOthers_80 flX4_62 rfl (by decide) (by decide) (w := .inl (M72 5 1 1)) rfl ?_
          refine v_icmp C dX4_whyNotBesideOthers_83 (tgt := 88) (by decide) (P := (M72 5 1 1) ≤ (x3 - r72)) rfl (fun c83 => ?_) (fun c83 => ?_)
          · replace h := h.1 c83
            refine v_iinc C dX4_whyNotBesideOthers_88 (by decide) rfl h.1 (lv' := [some (.inr (18, i0)), some (.inl x1), none, some (.inl x3), some (.inl x4), some (.inl (x5 + 1)), none]) rfl ?_
            replace h := h.2
            refine v_goto C dX4_whyNotBesideOthers_91 (tgt := 21) (by decide) ?_
            refine v_weak [some (.inr (18, i0)), some (.inl x1), none, some (.inl x3), some (.inl x4), some (.inl (x5 + 1)), none] ⟨rfl, rfl, rfl, rfl, rfl, trivial⟩ ?_
            exact h
          · replace h := h.2 c83
            refine v_iconst C dX4_whyNotBesideOthers_86 (by decide) ?_
            exact v_iret C dX4_whyNotBesideOthers_87 h
set_option maxHeartbeats 4000000 in
set_option maxRecDepth 20000 in
theorem sgX4_whyNotBesideOthers_139 {κ : Kx} {K : Kont} {M : Mem} (C : Cx κ RX4 cX4_whyNotBesideOthers 7 (some .int) rmX4_whyNotBesideOthers domC) (i0 : Int) (x1 : Int) (x4 : Int) (x6 : Int)
    (h :
    (((M 5 1 7) ≤ x6 →
      K (some 0) M) ∧
     (¬ ((M 5 1 7) ≤ x6) →
      (0 ≤ x6 ∧ x6 < 7) ∧
      (((M 11 (7 * 1 + x6) 3) ≠ x1 →
        inR (x6 + 1) ∧
        V κ 7 M 139 [some (.inr (18, i0)), some (.inl x1), none, none, some (.inl x4), none, some (.inl (x6 + 1))] [] K) ∧
       (¬ ((M 11 (7 * 1 + x6) 3) ≠ x1) →
        spX4_has i0 x6 M (rI (fun r171 M171 =>
        ((r171 = 0 →
          inR (x6 + 1) ∧
          V κ 7 M171 139 [some (.inr (18, i0)), some (.inl x1), none, none, some (.inl x4), none, some (.inl (x6 + 1))] [] K) ∧
         (¬ (r171 = 0) →
          (0 ≤ x6 ∧ x6 < 7) ∧
          ((x4 ≤ (M171 20 i0 x6) →
            inR (x6 + 1) ∧
            V κ 7 M171 139 [some (.inr (18, i0)), some (.inl x1), none, none, some (.inl x4), none, some (.inl (x6 + 1))] [] K) ∧
           (¬ (x4 ≤ (M171 20 i0 x6)) →
            K (some 6) M171))))))))))) : V κ 7 M 139 [some (.inr (18, i0)), some (.inl x1), none, none, some (.inl x4), none, some (.inl x6)] [] K := by
  refine v_iload C dX4_whyNotBesideOthers_139 rfl ?_
  refine v_aload_n C dX4_whyNotBesideOthers_141 rfl ?_
  refine v_get C dX4_whyNotBesideOthers_142 flX4_18 rfl (by decide) (by decide) (w := .inr (5, 1)) rfl ?_
  refine v_get C dX4_whyNotBesideOthers_145 flX4_34 rfl (by decide) (by decide) (w := .inl (M 5 1 7)) rfl ?_
  refine v_icmp C dX4_whyNotBesideOthers_148 (tgt := 198) (by decide) (P := (M 5 1 7) ≤ x6) rfl (fun c148 => ?_) (fun c148 => ?_)
  · replace h := h.1 c148
    refine v_iconst C dX4_whyNotBesideOthers_198 (by decide) ?_
    exact v_iret C dX4_whyNotBesideOthers_199 h
  · replace h := h.2 c148
    refine v_aload_n C dX4_whyNotBesideOthers_151 rfl ?_
    refine v_get C dX4_whyNotBesideOthers_152 flX4_18 rfl (by decide) (by decide) (w := .inr (5, 1)) rfl ?_
    refine v_get C dX4_whyNotBesideOthers_155 flX4_44 rfl (by decide) (by decide) (w := .inr (10, 1)) rfl ?_
    refine v_iload C dX4_whyNotBesideOthers_158 rfl ?_
    refine v_aald C dX4_whyNotBesideOthers_160 h.1.1 h.1.2 ?_
    replace h := h.2
    refine v_get C dX4_whyNotBesideOthers_161 flX4_69 rfl (by decide) (by decide) (w := .inl (M 11 (7 * 1 + x6) 3)) rfl ?_
    refine v_iload_n C dX4_whyNotBesideOthers_164 rfl ?_
    refine v_icmp C dX4_whyNotBesideOthers_165 (tgt := 192) (by decide) (P := (M 11 (7 * 1 + x6) 3) ≠ x1) rfl (fun c165 => ?_) (fun c165 => ?_)
    · replace h := h.1 c165
      refine v_iinc C dX4_whyNotBesideOthers_192 (by decide) rfl h.1 (lv' := [some (.inr (18, i0)), some (.inl x1), none, none, some (.inl x4), none, some (.inl (x6 + 1))]) rfl ?_
      replace h := h.2
      refine v_goto C dX4_whyNotBesideOthers_195 (tgt := 139) (by decide) ?_
      refine v_weak [some (.inr (18, i0)), some (.inl x1), none, none, some (.inl x4), none, some (.inl (x6 + 1))] ⟨rfl, rfl, rfl, rfl, trivial⟩ ?_
      exact h
    · replace h := h.2 c165
      refine v_aload_n C dX4_whyNotBesideOthers_168 rfl ?_
      refine v_iload C dX4_whyNotBesideOthers_169 rfl ?_
      refine v_invV C ctX4_has dX4_whyNotBesideOthers_171 ivX4_40 ⟨by decide, by decide, rfl, rfl⟩ ((i0, x6) : Int × Int) (As := [.inl x6]) rfl rfl rfl (by decide) rfl (st := []) rfl (Nat.le_of_ble_eq_true rfl) h (fun o M171 oM171 io171 h => ?_)
      obtain ⟨r171, rfl, h⟩ := rI_out h
      refine v_push ?_
      refine v_if C dX4_whyNotBesideOthers_174 (tgt := 192) (by decide) (P := r171 = 0) rfl (fun c174 => ?_) (fun c174 => ?_)
      · replace h := h.1 c174
        refine v_iinc C dX4_whyNotBesideOthers_192 (by decide) rfl h.1 (lv' := [some (.inr (18, i0)), some (.inl x1), none, none, some (.inl x4), none, some (.inl (x6 + 1))]) rfl ?_
        replace h := h.2
        refine v_goto C dX4_whyNotBesideOthers_195 (tgt := 139) (by decide) ?_
        refine v_weak [some (.inr (18, i0)), some (.inl x1), none, none, some (.inl x4), none, some (.inl (x6 + 1))] ⟨rfl, rfl, rfl, rfl, trivial⟩ ?_
        exact h
      · replace h := h.2 c174
        refine v_aload_n C dX4_whyNotBesideOthers_177 rfl ?_
        refine v_get C dX4_whyNotBesideOthers_178 flX4_15 rfl (by decide) (by decide) (w := .inr (20, i0)) rfl ?_
        refine v_iload C dX4_whyNotBesideOthers_181 rfl ?_
        refine v_iald C dX4_whyNotBesideOthers_183 rfl h.1.1 h.1.2 ?_
        replace h := h.2
        refine v_iload C dX4_whyNotBesideOthers_184 rfl ?_
        refine v_icmp C dX4_whyNotBesideOthers_186 (tgt := 192) (by decide) (P := x4 ≤ (M171 20 i0 x6)) rfl (fun c186 => ?_) (fun c186 => ?_)
        · replace h := h.1 c186
          refine v_iinc C dX4_whyNotBesideOthers_192 (by decide) rfl h.1 (lv' := [some (.inr (18, i0)), some (.inl x1), none, none, some (.inl x4), none, some (.inl (x6 + 1))]) rfl ?_
          replace h := h.2
          refine v_goto C dX4_whyNotBesideOthers_195 (tgt := 139) (by decide) ?_
          refine v_weak [some (.inr (18, i0)), some (.inl x1), none, none, some (.inl x4), none, some (.inl (x6 + 1))] ⟨rfl, rfl, rfl, rfl, trivial⟩ ?_
          exact h
        · replace h := h.2 c186
          refine v_bipush C dX4_whyNotBesideOthers_189 (by decide) (by decide) ?_
          exact v_iret C dX4_whyNotBesideOthers_191 h
abbrev spX4_whyNotBesideOthers (pl p v t : Int) (M : Mem) (K : Kont) : Prop := (WFf (cFilm M 1) ∧ PlK (cFilm M 1) (M 19 pl) (M 20 pl) ∧ (0 ≤ p ∧ p < M 5 1 7) ∧ (0 ≤ v ∧ v < M 11 (7 * 1 + p) 4) ∧ (0 ≤ t ∧ t < M 5 1 0)) ∧
  K (some (whyB (cFilm M 1) (M 19 pl) (M 20 pl) p v t)) M
theorem if01 {P : Prop} [Decidable P] (h : (if P then (0 : Int) else 1) = 0) : P := by
  by_cases q : P
  · exact q
  · rw [if_neg q] at h; omega
theorem if01n {P : Prop} [Decidable P] (h : ¬ (if P then (0 : Int) else 1) = 0) : ¬ P := by
  intro q
  rw [if_pos q] at h
  exact h rfl
theorem ctX4_whyNotBesideOthers : CtX4_whyNotBesideOthers spX4_whyNotBesideOthers := by
  refine ct_of (by decide) dmC (fun _ => Nat.le_of_ble_eq_true rfl) ?_
  intro κ a M K C oM h
  obtain ⟨pl, p, v, t⟩ := a
  dsimp only [spX4_whyNotBesideOthers] at h
  obtain ⟨⟨hf, hP, hp, hv, ht⟩, hk⟩ := h
  have hw := wf_pv hf hp.1 hp.2 hv.1 hv.2
  have hwp := wf_p hf hp.1 hp.2
  have hnP := hf.2.2.2.1
  have hB := hf.2.1
  simp only [cFilm] at hw hnP hB hwp
  have six : ∀ (n : Nat) (q : Int), 0 ≤ q → q + n = M 5 1 7 → ¬ C4 (cFilm M 1) (M 19 pl) (M 20 pl) p v t → ¬ C5 (cFilm M 1) (M 19 pl) (M 20 pl) p t →
      (∀ j, 0 ≤ j → j < q → ¬ (M 11 (7 * 1 + j) 3 = p ∧ M 19 pl j ≠ -4 ∧ M 20 pl j < t + M 12 (7 * 1 + p) v)) →
      V κ 7 M 139 [some (.inr (18, pl)), some (.inl p), none, none, some (.inl (t + M 12 (7 * 1 + p) v)), none, some (.inl q)] [] K := by
    intro n
    induction n with
    | zero =>
      intro q h0 hn n4 n5 hj
      refine sgX4_whyNotBesideOthers_139 C pl p _ q ⟨fun c => ?_, fun c => absurd (by omega) c⟩
      rw [whyB_0 n4 n5 ?_] at hk
      · exact hk
      · rintro ⟨j, a, b, d⟩
        have b' : j < M 5 1 7 := b
        exact hj j a (by omega) d
    | succ n ih =>
      intro q h0 hn n4 n5 hj
      have go : ∀ (hq : ¬ (M 11 (7 * 1 + q) 3 = p ∧ M 19 pl q ≠ -4 ∧ M 20 pl q < t + M 12 (7 * 1 + p) v)), inR (q + 1) ∧ V κ 7 M 139 [some (.inr (18, pl)), some (.inl p), none, none, some (.inl (t + M 12 (7 * 1 + p) v)), none, some (.inl (q + 1))] [] K := by
        intro hq
        refine ⟨by omega, ih (q + 1) (by omega) (by omega) n4 n5 ?_⟩
        intro j a b
        by_cases e : j = q
        · rw [e]; exact hq
        · exact hj j a (by omega)
      refine sgX4_whyNotBesideOthers_139 C pl p _ q ⟨fun c => absurd c (by omega), fun c => ⟨by omega, fun c2 => go (fun z => c2 z.1), fun c2 => ⟨⟨h0, by omega⟩, fun c3 => go (fun z => z.2.1 (if01 c3)), fun c3 => ⟨by omega, fun c4 => go (fun z => by have := z.2.2; omega), fun c4 => ?_⟩⟩⟩⟩
      rw [whyB_6 n4 n5 ⟨q, h0, by show q < M 5 1 7; omega, by show M 11 (7 * 1 + q) 3 = p; omega, if01n c3, by show M 20 pl q < t + M 12 (7 * 1 + p) v; omega⟩] at hk
      exact hk
  have four : ∀ (n : Nat) (q : Int), 0 ≤ q → q + n = M 5 1 7 →
      (∀ j, 0 ≤ j → j < q → ¬ (j ≠ p ∧ M 19 pl j ≠ -4 ∧ M 20 pl j - (t + M 12 (7 * 1 + p) v) < M 5 1 1 ∧ t - (M 20 pl j + M 12 (7 * 1 + j) (M 19 pl j)) < M 5 1 1)) →
      V κ 7 M 21 [some (.inr (18, pl)), some (.inl p), none, some (.inl t), some (.inl (t + M 12 (7 * 1 + p) v)), some (.inl q), none] [] K := by
    intro n
    induction n with
    | zero =>
      intro q h0 hn hj
      have n4 : ¬ C4 (cFilm M 1) (M 19 pl) (M 20 pl) p v t := by
        rintro ⟨j, a, b, d⟩
        have b' : j < M 5 1 7 := b
        exact hj j a (by omega) d
      refine sgX4_whyNotBesideOthers_21 C pl p t _ q ⟨fun c => ⟨by omega, fun y ey => ⟨fun c2 => ?_, fun c2 => ?_⟩⟩, fun c => absurd (by omega) c⟩
      · refine six (M 5 1 7).toNat 0 (by omega) (by omega) n4 (fun z => z.1 ?_) (fun j a b => by omega)
        show M 11 (7 * 1 + p) 3 = -4
        omega
      · have hy : 0 ≤ y ∧ y < p := by omega
        refine ⟨⟨by omega, by omega⟩, fun c3 => ?_, fun c3 => ?_⟩
        · rw [whyB_5 n4 ⟨by show M 11 (7 * 1 + p) 3 ≠ -4; omega, Or.inl (by show M 19 pl (M 11 (7 * 1 + p) 3) = -4; rw [← ey]; exact if01 c3)⟩] at hk
          exact hk
        · have c3' := if01n c3
          have he := end_pre hf hP (q := y) (by omega) (by omega) c3'
          refine ⟨⟨by omega, he.1, he.2.2.2⟩, fun c4 => ?_, fun c4 => ?_⟩
          · refine six (M 5 1 7).toNat 0 (by omega) (by omega) n4 ?_ (fun j a b => by omega)
            rintro ⟨z1, z2⟩
            have z2' : M 19 pl (M 11 (7 * 1 + p) 3) = -4 ∨ t < M 20 pl (M 11 (7 * 1 + p) 3) + M 12 (7 * 1 + M 11 (7 * 1 + p) 3) (M 19 pl (M 11 (7 * 1 + p) 3)) := z2
            rw [← ey] at z2'
            rcases z2' with z | z
            · exact c3' z
            · omega
          · rw [whyB_5 n4 ⟨by show M 11 (7 * 1 + p) 3 ≠ -4; omega, Or.inr (by show t < M 20 pl (M 11 (7 * 1 + p) 3) + M 12 (7 * 1 + M 11 (7 * 1 + p) 3) (M 19 pl (M 11 (7 * 1 + p) 3)); rw [← ey]; omega)⟩] at hk
            exact hk
    | succ n ih =>
      intro q h0 hn hj
      have go : ∀ (hq : ¬ (q ≠ p ∧ M 19 pl q ≠ -4 ∧ M 20 pl q - (t + M 12 (7 * 1 + p) v) < M 5 1 1 ∧ t - (M 20 pl q + M 12 (7 * 1 + q) (M 19 pl q)) < M 5 1 1)), inR (q + 1) ∧ V κ 7 M 21 [some (.inr (18, pl)), some (.inl p), none, some (.inl t), some (.inl (t + M 12 (7 * 1 + p) v)), some (.inl (q + 1)), none] [] K := by
        intro hq
        refine ⟨by omega, ih (q + 1) (by omega) (by omega) ?_⟩
        intro j a b
        by_cases e : j = q
        · rw [e]; exact hq
        · exact hj j a (by omega)
      refine sgX4_whyNotBesideOthers_21 C pl p t _ q ⟨fun c => absurd c (by omega), fun c => ⟨fun c2 => go (fun z => z.1 c2), fun c2 => ⟨⟨h0, by omega⟩, fun c3 => go (fun z => z.2.1 (if01 c3)), fun c3 => ?_⟩⟩⟩
      have c3' := if01n c3
      have he := end_pre hf hP (q := q) h0 (by omega) c3'
      refine ⟨by omega, by omega, fun c4 => go (fun z => by have := z.2.2.1; omega), fun c4 => ⟨⟨by omega, he.1, he.2.2.2⟩, by omega, fun c5 => go (fun z => by have := z.2.2.2; omega), fun c5 => ?_⟩⟩
      rw [whyB_4 ⟨q, h0, by show q < M 5 1 7; omega, c2, c3', by show M 20 pl q - (t + M 12 (7 * 1 + p) v) < M 5 1 1; omega, by show t - (M 20 pl q + M 12 (7 * 1 + q) (M 19 pl q)) < M 5 1 1; omega⟩] at hk
      exact hk
  refine sgX4_whyNotBesideOthers_0 C pl p v t ⟨by omega, by omega, by omega, fun y ey => ?_⟩
  rw [ey]
  exact four (M 5 1 7).toNat 0 (by omega) (by omega) (fun j a b => by omega)
/-! ===== GapTellings$Plan.whyNot ===== -/
abbrev rmX4_whyNot : Room := { frames := 2, cells := 0, slots := 0, locals := 47 }
abbrev argX4_whyNot (a : Int × Int × Int × Int × Int) : List PV := [.inr (18, a.1), .inr (14, a.2.1), .inl a.2.2.1, .inl a.2.2.2.1, .inl a.2.2.2.2]
abbrev CtX4_whyNot (sp : Int → Int → Int → Int → Int → Mem → Kont → Prop) : Prop := Ct yX4_whyNot cX4_whyNot 6 (some .int) rmX4_whyNot domC argX4_whyNot (fun a => sp a.1 a.2.1 a.2.2.1 a.2.2.2.1 a.2.2.2.2)
theorem dX4_whyNot_0 : decode cX4_whyNot 0 = .ok (.aload_n 1, 1) := by decide +kernel
theorem dX4_whyNot_1 : decode cX4_whyNot 1 = .ok (.iload_n 2, 1) := by decide +kernel
theorem dX4_whyNot_2 : decode cX4_whyNot 2 = .ok (.iload_n 3, 1) := by decide +kernel
theorem dX4_whyNot_3 : decode cX4_whyNot 3 = .ok (.iload 4, 2) := by decide +kernel
theorem dX4_whyNot_5 : decode cX4_whyNot 5 = .ok (.invokevirtual 53, 3) := by decide +kernel
theorem dX4_whyNot_8 : decode cX4_whyNot 8 = .ok (.istore 5, 2) := by decide +kernel
theorem dX4_whyNot_10 : decode cX4_whyNot 10 = .ok (.iload 5, 2) := by decide +kernel
theorem dX4_whyNot_12 : decode cX4_whyNot 12 = .ok (.ifCond .eq 8, 3) := by decide +kernel
theorem dX4_whyNot_15 : decode cX4_whyNot 15 = .ok (.iload 5, 2) := by decide +kernel
theorem dX4_whyNot_17 : decode cX4_whyNot 17 = .ok (.goto 11, 3) := by decide +kernel
theorem dX4_whyNot_20 : decode cX4_whyNot 20 = .ok (.aload_n 0, 1) := by decide +kernel
theorem dX4_whyNot_21 : decode cX4_whyNot 21 = .ok (.iload_n 2, 1) := by decide +kernel
theorem dX4_whyNot_22 : decode cX4_whyNot 22 = .ok (.iload_n 3, 1) := by decide +kernel
theorem dX4_whyNot_23 : decode cX4_whyNot 23 = .ok (.iload 4, 2) := by decide +kernel
theorem dX4_whyNot_25 : decode cX4_whyNot 25 = .ok (.invokevirtual 59, 3) := by decide +kernel
theorem dX4_whyNot_28 : decode cX4_whyNot 28 = .ok (.ireturn, 1) := by decide +kernel
theorem ivX4_53 : IV RX4 53 yX6_ownWhyNot cX6_ownWhyNot 6 (some .int) 3 := ⟨(tb_mem (t_in3 (List.mem_of_getElem? (i := 61) (by decide +kernel))) (by decide +kernel)), (tb_mem (t_in3 (List.mem_of_getElem? (i := 62) (by decide +kernel))) (by decide +kernel)), (tb_mem (t_in3 (List.mem_of_getElem? (i := 63) (by decide +kernel))) (by decide +kernel)), (tb_mem (t_in1 (List.mem_of_getElem? (i := 5) (by decide +kernel))) (by decide +kernel)), (tb_mem (t_in3 (List.mem_of_getElem? (i := 64) (by decide +kernel))) (by decide +kernel)), ⟨by decide +kernel, by decide +kernel, by decide +kernel⟩⟩
theorem ivX4_59 : IV RX4 59 yX4_whyNotBesideOthers cX4_whyNotBesideOthers 7 (some .int) 3 := ⟨(tb_mem (t_in3 (List.mem_of_getElem? (i := 69) (by decide +kernel))) (by decide +kernel)), (tb_mem (t_in3 (List.mem_of_getElem? (i := 70) (by decide +kernel))) (by decide +kernel)), (tb_mem (t_in3 (List.mem_of_getElem? (i := 71) (by decide +kernel))) (by decide +kernel)), (tb_mem (t_in1 (List.mem_of_getElem? (i := 6) (by decide +kernel))) (by decide +kernel)), (tb_mem (t_in3 (List.mem_of_getElem? (i := 72) (by decide +kernel))) (by decide +kernel)), ⟨by decide +kernel, by decide +kernel, by decide +kernel⟩⟩
set_option maxHeartbeats 4000000 in
set_option maxRecDepth 20000 in
theorem sgX4_whyNot_0 {κ : Kx} {K : Kont} {M : Mem} (C : Cx κ RX4 cX4_whyNot 6 (some .int) rmX4_whyNot domC) (i0 : Int) (i1 : Int) (x2 : Int) (x3 : Int) (x4 : Int)
    (h :
    spX6_ownWhyNot i1 x2 x3 x4 M (rI (fun r5 M5 =>
    ((r5 = 0 →
      spX4_whyNotBesideOthers i0 x2 x3 x4 M5 (rI (fun r25 M25 =>
      K (some r25) M25))) ∧
     (¬ (r5 = 0) →
      K (some r5) M5))))) : V κ 6 M 0 [some (.inr (18, i0)), some (.inr (14, i1)), some (.inl x2), some (.inl x3), some (.inl x4), none] [] K := by
  refine v_aload_n C dX4_whyNot_0 rfl ?_
  refine v_iload_n C dX4_whyNot_1 rfl ?_
  refine v_iload_n C dX4_whyNot_2 rfl ?_
  refine v_iload C dX4_whyNot_3 rfl ?_
  refine v_invV C ctX6_ownWhyNot dX4_whyNot_5 ivX4_53 ⟨by decide, by decide, rfl, rfl⟩ ((i1, x2, x3, x4) : Int × Int × Int × Int) (As := [.inl x2, .inl x3, .inl x4]) rfl rfl rfl (by decide) rfl (st := []) rfl (Nat.le_of_ble_eq_true rfl) h (fun o M5 oM5 io5 h => ?_)
  obtain ⟨r5, rfl, h⟩ := rI_out h
  refine v_push ?_
  refine v_istore C dX4_whyNot_8 (by decide) (Nat.le_of_ble_eq_true rfl) (lv' := [some (.inr (18, i0)), some (.inr (14, i1)), some (.inl x2), some (.inl x3), some (.inl x4), some (.inl r5)]) rfl ?_
  refine v_iload C dX4_whyNot_10 rfl ?_
  refine v_if C dX4_whyNot_12 (tgt := 20) (by decide) (P := r5 = 0) rfl (fun c12 => ?_) (fun c12 => ?_)
  · replace h := h.1 c12
    refine v_aload_n C dX4_whyNot_20 rfl ?_
    refine v_iload_n C dX4_whyNot_21 rfl ?_
    refine v_iload_n C dX4_whyNot_22 rfl ?_
    refine v_iload C dX4_whyNot_23 rfl ?_
    refine v_invV C ctX4_whyNotBesideOthers dX4_whyNot_25 ivX4_59 ⟨by decide, by decide, rfl, rfl⟩ ((i0, x2, x3, x4) : Int × Int × Int × Int) (As := [.inl x2, .inl x3, .inl x4]) rfl rfl rfl (by decide) rfl (st := []) rfl (Nat.le_of_ble_eq_true rfl) h (fun o M25 oM25 io25 h => ?_)
    obtain ⟨r25, rfl, h⟩ := rI_out h
    refine v_push ?_
    exact v_iret C dX4_whyNot_28 h
  · replace h := h.2 c12
    refine v_iload C dX4_whyNot_15 rfl ?_
    refine v_goto C dX4_whyNot_17 (tgt := 28) (by decide) ?_
    exact v_iret C dX4_whyNot_28 h
abbrev spX4_whyNot (pl tr p v t : Int) (M : Mem) (K : Kont) : Prop := (WFf (cFilm M 1) ∧ PlK (cFilm M 1) (M 19 pl) (M 20 pl) ∧ (0 ≤ p ∧ p < M 5 1 7) ∧ (0 ≤ v ∧ v < M 11 (7 * 1 + p) 4) ∧ (0 ≤ t ∧ t < M 5 1 0)) ∧
  K (some (whyW (cFilm M 1) (M 16 tr) (M 19 pl) (M 20 pl) p v t)) M
theorem ctX4_whyNot : CtX4_whyNot spX4_whyNot := by
  refine ct_of (by decide) dmC (fun _ => Nat.le_of_ble_eq_true rfl) ?_
  intro κ a M K C oM h
  obtain ⟨pl, tr, p, v, t⟩ := a
  dsimp only [spX4_whyNot] at h
  obtain ⟨⟨hf, hP, hp, hv, ht⟩, hk⟩ := h
  refine sgX4_whyNot_0 C pl tr p v t ⟨⟨hf, hp, hv, ht⟩, fun c => ⟨⟨hf, hP, hp, hv, ht⟩, ?_⟩, fun c => ?_⟩
  · unfold whyW at hk
    rw [if_pos c] at hk
    exact hk
  · unfold whyW at hk
    rw [if_neg c] at hk
    exact hk
