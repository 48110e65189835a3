/-! ===== GreedyFinder.fillPlan ===== -/
/-! ===== GapTellings$GreedyFinder.fillPlan ===== -/
abbrev rmX2_fillPlan : Room := { frames := 5, cells := 0, slots := 0, locals := 121 }
abbrev argX2_fillPlan (a : Unit) : List PV := [.inr (23, 0)]
abbrev CtX2_fillPlan (sp : Mem → Kont → Prop) : Prop := Ct yX2_fillPlan cX2_fillPlan 2 none rmX2_fillPlan domC argX2_fillPlan (fun _ => sp)
theorem dX2_fillPlan_0 : decode cX2_fillPlan 0 = .ok (.aload_n 0, 1) := by decide +kernel
theorem dX2_fillPlan_1 : decode cX2_fillPlan 1 = .ok (.getfield 28, 3) := by decide +kernel
theorem dX2_fillPlan_4 : decode cX2_fillPlan 4 = .ok (.ifCond .eq 4, 3) := by decide +kernel
theorem dX2_fillPlan_7 : decode cX2_fillPlan 7 = .ok (.return_, 1) := by decide +kernel
theorem dX2_fillPlan_8 : decode cX2_fillPlan 8 = .ok (.aload_n 0, 1) := by decide +kernel
theorem dX2_fillPlan_9 : decode cX2_fillPlan 9 = .ok (.iconst 1, 1) := by decide +kernel
theorem dX2_fillPlan_10 : decode cX2_fillPlan 10 = .ok (.putfield 28, 3) := by decide +kernel
theorem dX2_fillPlan_13 : decode cX2_fillPlan 13 = .ok (.aload_n 0, 1) := by decide +kernel
theorem dX2_fillPlan_14 : decode cX2_fillPlan 14 = .ok (.getfield 24, 3) := by decide +kernel
theorem dX2_fillPlan_17 : decode cX2_fillPlan 17 = .ok (.invokevirtual 32, 3) := by decide +kernel
theorem dX2_fillPlan_20 : decode cX2_fillPlan 20 = .ok (.aload_n 0, 1) := by decide +kernel
theorem dX2_fillPlan_21 : decode cX2_fillPlan 21 = .ok (.iconst 0, 1) := by decide +kernel
theorem dX2_fillPlan_22 : decode cX2_fillPlan 22 = .ok (.putfield 35, 3) := by decide +kernel
theorem dX2_fillPlan_25 : decode cX2_fillPlan 25 = .ok (.iconst 0, 1) := by decide +kernel
theorem dX2_fillPlan_26 : decode cX2_fillPlan 26 = .ok (.istore_n 1, 1) := by decide +kernel
theorem dX2_fillPlan_27 : decode cX2_fillPlan 27 = .ok (.iload_n 1, 1) := by decide +kernel
theorem dX2_fillPlan_28 : decode cX2_fillPlan 28 = .ok (.bipush 21, 2) := by decide +kernel
theorem dX2_fillPlan_30 : decode cX2_fillPlan 30 = .ok (.if_icmp .gt 71, 3) := by decide +kernel
theorem dX2_fillPlan_33 : decode cX2_fillPlan 33 = .ok (.aload_n 0, 1) := by decide +kernel
theorem dX2_fillPlan_34 : decode cX2_fillPlan 34 = .ok (.invokevirtual 39, 3) := by decide +kernel
theorem dX2_fillPlan_37 : decode cX2_fillPlan 37 = .ok (.aload_n 0, 1) := by decide +kernel
theorem dX2_fillPlan_38 : decode cX2_fillPlan 38 = .ok (.getfield 42, 3) := by decide +kernel
theorem dX2_fillPlan_41 : decode cX2_fillPlan 41 = .ok (.ifCond .ne 4, 3) := by decide +kernel
theorem dX2_fillPlan_44 : decode cX2_fillPlan 44 = .ok (.return_, 1) := by decide +kernel
theorem dX2_fillPlan_45 : decode cX2_fillPlan 45 = .ok (.aload_n 0, 1) := by decide +kernel
theorem dX2_fillPlan_46 : decode cX2_fillPlan 46 = .ok (.getfield 45, 3) := by decide +kernel
theorem dX2_fillPlan_49 : decode cX2_fillPlan 49 = .ok (.ifCond .le 25, 3) := by decide +kernel
theorem dX2_fillPlan_52 : decode cX2_fillPlan 52 = .ok (.aload_n 0, 1) := by decide +kernel
theorem dX2_fillPlan_53 : decode cX2_fillPlan 53 = .ok (.getfield 24, 3) := by decide +kernel
theorem dX2_fillPlan_56 : decode cX2_fillPlan 56 = .ok (.aload_n 0, 1) := by decide +kernel
theorem dX2_fillPlan_57 : decode cX2_fillPlan 57 = .ok (.getfield 48, 3) := by decide +kernel
theorem dX2_fillPlan_60 : decode cX2_fillPlan 60 = .ok (.aload_n 0, 1) := by decide +kernel
theorem dX2_fillPlan_61 : decode cX2_fillPlan 61 = .ok (.getfield 51, 3) := by decide +kernel
theorem dX2_fillPlan_64 : decode cX2_fillPlan 64 = .ok (.aload_n 0, 1) := by decide +kernel
theorem dX2_fillPlan_65 : decode cX2_fillPlan 65 = .ok (.getfield 54, 3) := by decide +kernel
theorem dX2_fillPlan_68 : decode cX2_fillPlan 68 = .ok (.invokevirtual 57, 3) := by decide +kernel
theorem dX2_fillPlan_71 : decode cX2_fillPlan 71 = .ok (.goto 24, 3) := by decide +kernel
theorem dX2_fillPlan_74 : decode cX2_fillPlan 74 = .ok (.aload_n 0, 1) := by decide +kernel
theorem dX2_fillPlan_75 : decode cX2_fillPlan 75 = .ok (.dup, 1) := by decide +kernel
theorem dX2_fillPlan_76 : decode cX2_fillPlan 76 = .ok (.getfield 35, 3) := by decide +kernel
theorem dX2_fillPlan_79 : decode cX2_fillPlan 79 = .ok (.aload_n 0, 1) := by decide +kernel
theorem dX2_fillPlan_80 : decode cX2_fillPlan 80 = .ok (.aload_n 0, 1) := by decide +kernel
theorem dX2_fillPlan_81 : decode cX2_fillPlan 81 = .ok (.getfield 48, 3) := by decide +kernel
theorem dX2_fillPlan_84 : decode cX2_fillPlan 84 = .ok (.aload_n 0, 1) := by decide +kernel
theorem dX2_fillPlan_85 : decode cX2_fillPlan 85 = .ok (.getfield 51, 3) := by decide +kernel
theorem dX2_fillPlan_88 : decode cX2_fillPlan 88 = .ok (.invokevirtual 61, 3) := by decide +kernel
theorem dX2_fillPlan_91 : decode cX2_fillPlan 91 = .ok (.ior, 1) := by decide +kernel
theorem dX2_fillPlan_92 : decode cX2_fillPlan 92 = .ok (.putfield 35, 3) := by decide +kernel
theorem dX2_fillPlan_95 : decode cX2_fillPlan 95 = .ok (.iinc 1 1, 3) := by decide +kernel
theorem dX2_fillPlan_98 : decode cX2_fillPlan 98 = .ok (.goto (-71), 3) := by decide +kernel
theorem dX2_fillPlan_101 : decode cX2_fillPlan 101 = .ok (.return_, 1) := by decide +kernel
theorem flX2_28 : FL RX2 28 2 3 := ⟨_, _, _, rfl, by decide, uwX2, Or.inl (tb_mem (t_in1 (List.mem_of_getElem? (i := 231) (by decide +kernel))) (by decide +kernel))⟩
theorem plX2_28 : PL RX2 28 2 3 .boolean := ⟨_, _, _, rfl, by decide, uwX2, Or.inl (tb_mem (t_in1 (List.mem_of_getElem? (i := 231) (by decide +kernel))) (by decide +kernel)), rfl, by decide +kernel, tyX2, tyX2_ok, nmX2⟩
theorem ivX2_32 : IV RX2 32 yX4_clear cX4_clear 1 none 0 := ⟨(tb_mem (t_in4 (List.mem_of_getElem? (i := 67) (by decide +kernel))) (by decide +kernel)), (tb_mem (t_in2 (List.mem_of_getElem? (i := 195) (by decide +kernel))) (by decide +kernel)), (tb_mem (t_in2 (List.mem_of_getElem? (i := 196) (by decide +kernel))) (by decide +kernel)), (tb_mem (t_in1 (List.mem_of_getElem? (i := 6) (by decide +kernel))) (by decide +kernel)), (tb_mem (t_in2 (List.mem_of_getElem? (i := 197) (by decide +kernel))) (by decide +kernel)), ⟨by decide +kernel, by decide +kernel, by decide +kernel⟩⟩
theorem plX2_35 : PL RX2 35 2 4 .int := ⟨_, _, _, rfl, by decide, uwX2, Or.inl (tb_mem (t_in1 (List.mem_of_getElem? (i := 233) (by decide +kernel))) (by decide +kernel)), rfl, by decide +kernel, tyX2, tyX2_ok, nmX2⟩
theorem ivX2_39 : IV RX2 39 yX2_findWorthiest cX2_findWorthiest 3 none 0 := ⟨(tb_mem (t_in4 (List.mem_of_getElem? (i := 68) (by decide +kernel))) (by decide +kernel)), (tb_mem (t_in4 (List.mem_of_getElem? (i := 69) (by decide +kernel))) (by decide +kernel)), (tb_mem (t_in4 (List.mem_of_getElem? (i := 70) (by decide +kernel))) (by decide +kernel)), (tb_mem (t_in1 (List.mem_of_getElem? (i := 9) (by decide +kernel))) (by decide +kernel)), (tb_mem (t_in4 (List.mem_of_getElem? (i := 71) (by decide +kernel))) (by decide +kernel)), ⟨by decide +kernel, by decide +kernel, by decide +kernel⟩⟩
theorem flX2_48 : FL RX2 48 2 5 := ⟨_, _, _, rfl, by decide, uwX2, Or.inl (tb_mem (t_in1 (List.mem_of_getElem? (i := 234) (by decide +kernel))) (by decide +kernel))⟩
theorem flX2_51 : FL RX2 51 2 6 := ⟨_, _, _, rfl, by decide, uwX2, Or.inl (tb_mem (t_in1 (List.mem_of_getElem? (i := 235) (by decide +kernel))) (by decide +kernel))⟩
theorem flX2_54 : FL RX2 54 2 7 := ⟨_, _, _, rfl, by decide, uwX2, Or.inl (tb_mem (t_in1 (List.mem_of_getElem? (i := 236) (by decide +kernel))) (by decide +kernel))⟩
theorem ivX2_57 : IV RX2 57 yX4_put cX4_put 4 none 3 := ⟨(tb_mem (t_in4 (List.mem_of_getElem? (i := 89) (by decide +kernel))) (by decide +kernel)), (tb_mem (t_in3 (List.mem_of_getElem? (i := 116) (by decide +kernel))) (by decide +kernel)), (tb_mem (t_in3 (List.mem_of_getElem? (i := 117) (by decide +kernel))) (by decide +kernel)), (tb_mem (t_in1 (List.mem_of_getElem? (i := 6) (by decide +kernel))) (by decide +kernel)), (tb_mem (t_in3 (List.mem_of_getElem? (i := 118) (by decide +kernel))) (by decide +kernel)), ⟨by decide +kernel, by decide +kernel, by decide +kernel⟩⟩
set_option maxHeartbeats 4000000 in
set_option maxRecDepth 20000 in
theorem sgX2_fillPlan_0 {κ : Kx} {K : Kont} {M : Mem} (C : Cx κ RX2 cX2_fillPlan 2 none rmX2_fillPlan domC) 
    (h :
    (((M 23 0 3) = 0 →
      ∀ M10 : Mem, M10 = up3 M 23 0 3 1 →
      spX4_clear 2 M10 (rV (fun M17 =>
      ∀ M22 : Mem, M22 = up3 M17 23 0 4 0 →
      V κ 2 M22 27 [some (.inr (23, 0)), some (.inl 0)] [] K))) ∧
     (¬ ((M 23 0 3) = 0) →
      K none M))) : V κ 2 M 0 [some (.inr (23, 0)), none] [] K := by
  refine v_aload_n C dX2_fillPlan_0 rfl ?_
  refine v_get C dX2_fillPlan_1 flX2_28 rfl (by decide) (by decide) (w := .inl (M 23 0 3)) rfl ?_
  refine v_if C dX2_fillPlan_4 (tgt := 8) (by decide) (P := (M 23 0 3) = 0) rfl (fun c4 => ?_) (fun c4 => ?_)
  · replace h := h.1 c4
    refine v_aload_n C dX2_fillPlan_8 rfl ?_
    refine v_iconst C dX2_fillPlan_9 (by decide) ?_
    refine v_put C dX2_fillPlan_10 plX2_28 rfl (by decide) (by decide) rfl rfl rfl ?_
    refine v_nmM (fun M10 eM10 => ?_)
    replace h := h M10 eM10
    refine v_aload_n C dX2_fillPlan_13 rfl ?_
    refine v_get C dX2_fillPlan_14 flX2_24 rfl (by decide) (by decide) (w := .inr (18, 2)) rfl ?_
    refine v_invV C ctX4_clear dX2_fillPlan_17 ivX2_32 ⟨by decide, by decide, rfl, rfl⟩ (2 : Int) (As := []) rfl rfl rfl (by decide) rfl (st := []) rfl (Nat.le_of_ble_eq_true rfl) h (fun o M17 oM17 io17 h => ?_)
    obtain ⟨rfl, h⟩ := rV_out h
    refine v_push0 ?_
    refine v_aload_n C dX2_fillPlan_20 rfl ?_
    refine v_iconst C dX2_fillPlan_21 (by decide) ?_
    refine v_put C dX2_fillPlan_22 plX2_35 rfl (by decide) (by decide) rfl rfl rfl ?_
    refine v_nmM (fun M22 eM22 => ?_)
    replace h := h M22 eM22
    refine v_iconst C dX2_fillPlan_25 (by decide) ?_
    refine v_istore_n C dX2_fillPlan_26 (by decide) (Nat.le_of_ble_eq_true rfl) (lv' := [some (.inr (23, 0)), some (.inl 0)]) rfl ?_
    refine v_weak [some (.inr (23, 0)), some (.inl 0)] ⟨rfl, rfl, trivial⟩ ?_
    exact h
  · replace h := h.2 c4
    exact v_vret C dX2_fillPlan_7 h
set_option maxHeartbeats 4000000 in
set_option maxRecDepth 20000 in
theorem sgX2_fillPlan_27 {κ : Kx} {K : Kont} {M : Mem} (C : Cx κ RX2 cX2_fillPlan 2 none rmX2_fillPlan domC) (x1 : Int)
    (h :
    ((21 < x1 →
      K none M) ∧
     (¬ (21 < x1) →
      spX2_findWorthiest M (rV (fun M34 =>
      (((M34 23 0 8) ≠ 0 →
        (((M34 23 0 9) ≤ 0 →
          spX2_versionBit (M34 23 0 5) (M34 23 0 6) M34 (rI (fun r88 M88 =>
          ∀ M92 : Mem, M92 = up3 M88 23 0 4 (bOr (M34 23 0 4) r88) →
          inR (x1 + 1) ∧
          V κ 2 M92 27 [some (.inr (23, 0)), some (.inl (x1 + 1))] [] K))) ∧
         (¬ ((M34 23 0 9) ≤ 0) →
          spX4_put 2 (M34 23 0 5) (M34 23 0 6) (M34 23 0 7) M34 (rV (fun M68 =>
          inR (x1 + 1) ∧
          V κ 2 M68 27 [some (.inr (23, 0)), some (.inl (x1 + 1))] [] K))))) ∧
       (¬ ((M34 23 0 8) ≠ 0) →
        K none M34))))))) : V κ 2 M 27 [some (.inr (23, 0)), some (.inl x1)] [] K := by
  refine v_iload_n C dX2_fillPlan_27 rfl ?_
  refine v_bipush C dX2_fillPlan_28 (by decide) (by decide) ?_
  refine v_icmp C dX2_fillPlan_30 (tgt := 101) (by decide) (P := 21 < x1) rfl (fun c30 => ?_) (fun c30 => ?_)
  · replace h := h.1 c30
    exact v_vret C dX2_fillPlan_101 h
  · replace h := h.2 c30
    refine v_aload_n C dX2_fillPlan_33 rfl ?_
    refine v_invV C ctX2_findWorthiest dX2_fillPlan_34 ivX2_39 ⟨by decide, by decide, rfl, rfl⟩ (() : Unit) (As := []) rfl rfl rfl (by decide) rfl (st := []) rfl (Nat.le_of_ble_eq_true rfl) h (fun o M34 oM34 io34 h => ?_)
    obtain ⟨rfl, h⟩ := rV_out h
    refine v_push0 ?_
    refine v_aload_n C dX2_fillPlan_37 rfl ?_
    refine v_get C dX2_fillPlan_38 flX2_42 rfl (by decide) (by decide) (w := .inl (M34 23 0 8)) rfl ?_
    refine v_if C dX2_fillPlan_41 (tgt := 45) (by decide) (P := (M34 23 0 8) ≠ 0) rfl (fun c41 => ?_) (fun c41 => ?_)
    · replace h := h.1 c41
      refine v_aload_n C dX2_fillPlan_45 rfl ?_
      refine v_get C dX2_fillPlan_46 flX2_45 rfl (by decide) (by decide) (w := .inl (M34 23 0 9)) rfl ?_
      refine v_if C dX2_fillPlan_49 (tgt := 74) (by decide) (P := (M34 23 0 9) ≤ 0) rfl (fun c49 => ?_) (fun c49 => ?_)
      · replace h := h.1 c49
        refine v_aload_n C dX2_fillPlan_74 rfl ?_
        refine v_dup C dX2_fillPlan_75 ?_
        refine v_get C dX2_fillPlan_76 flX2_35 rfl (by decide) (by decide) (w := .inl (M34 23 0 4)) rfl ?_
        refine v_aload_n C dX2_fillPlan_79 rfl ?_
        refine v_aload_n C dX2_fillPlan_80 rfl ?_
        refine v_get C dX2_fillPlan_81 flX2_48 rfl (by decide) (by decide) (w := .inl (M34 23 0 5)) rfl ?_
        refine v_aload_n C dX2_fillPlan_84 rfl ?_
        refine v_get C dX2_fillPlan_85 flX2_51 rfl (by decide) (by decide) (w := .inl (M34 23 0 6)) rfl ?_
        refine v_invV C ctX2_versionBit dX2_fillPlan_88 ivX2_61 ⟨by decide, by decide, rfl, rfl⟩ ((M34 23 0 5, M34 23 0 6) : Int × Int) (As := [.inl (M34 23 0 5), .inl (M34 23 0 6)]) rfl rfl rfl (by decide) rfl (st := [.inl (M34 23 0 4), .inr (23, 0)]) rfl (Nat.le_of_ble_eq_true rfl) h (fun o M88 oM88 io88 h => ?_)
        obtain ⟨r88, rfl, h⟩ := rI_out h
        refine v_push ?_
        refine v_ior C dX2_fillPlan_91 ?_
        refine v_put C dX2_fillPlan_92 plX2_35 rfl (by decide) (by decide) rfl rfl rfl ?_
        refine v_nmM (fun M92 eM92 => ?_)
        replace h := h M92 eM92
        refine v_iinc C dX2_fillPlan_95 (by decide) rfl h.1 (lv' := [some (.inr (23, 0)), some (.inl (x1 + 1))]) rfl ?_
        replace h := h.2
        refine v_goto C dX2_fillPlan_98 (tgt := 27) (by decide) ?_
        refine v_weak [some (.inr (23, 0)), some (.inl (x1 + 1))] ⟨rfl, rfl, trivial⟩ ?_
        exact h
      · replace h := h.2 c49
        refine v_aload_n C dX2_fillPlan_52 rfl ?_
        refine v_get C dX2_fillPlan_53 flX2_24 rfl (by decide) (by decide) (w := .inr (18, 2)) rfl ?_
        refine v_aload_n C dX2_fillPlan_56 rfl ?_
        refine v_get C dX2_fillPlan_57 flX2_48 rfl (by decide) (by decide) (w := .inl (M34 23 0 5)) rfl ?_
        refine v_aload_n C dX2_fillPlan_60 rfl ?_
        refine v_get C dX2_fillPlan_61 flX2_51 rfl (by decide) (by decide) (w := .inl (M34 23 0 6)) rfl ?_
        refine v_aload_n C dX2_fillPlan_64 rfl ?_
        refine v_get C dX2_fillPlan_65 flX2_54 rfl (by decide) (by decide) (w := .inl (M34 23 0 7)) rfl ?_
        refine v_invV C ctX4_put dX2_fillPlan_68 ivX2_57 ⟨by decide, by decide, rfl, rfl⟩ ((2, M34 23 0 5, M34 23 0 6, M34 23 0 7) : Int × Int × Int × Int) (As := [.inl (M34 23 0 5), .inl (M34 23 0 6), .inl (M34 23 0 7)]) rfl rfl rfl (by decide) rfl (st := []) rfl (Nat.le_of_ble_eq_true rfl) h (fun o M68 oM68 io68 h => ?_)
        obtain ⟨rfl, h⟩ := rV_out h
        refine v_push0 ?_
        refine v_goto C dX2_fillPlan_71 (tgt := 95) (by decide) ?_
        refine v_iinc C dX2_fillPlan_95 (by decide) rfl h.1 (lv' := [some (.inr (23, 0)), some (.inl (x1 + 1))]) rfl ?_
        replace h := h.2
        refine v_goto C dX2_fillPlan_98 (tgt := 27) (by decide) ?_
        refine v_weak [some (.inr (23, 0)), some (.inl (x1 + 1))] ⟨rfl, rfl, trivial⟩ ?_
        exact h
    · replace h := h.2 c41
      exact v_vret C dX2_fillPlan_44 h
/-- nothing but the finder and its plan has changed -/
def AgG (M M' : Mem) : Prop := ∀ r i j, ¬ ((r = 23 ∧ i = 0) ∨ ((r = 19 ∨ r = 20) ∧ i = 2)) → M' r i j = M r i j
theorem AgG.rf {M : Mem} : AgG M M := fun _ _ _ _ => rfl
theorem AgG.tr {M M' M2 : Mem} (h : AgG M M') (h2 : AgG M' M2) : AgG M M2 := fun r i j hn => (h2 r i j hn).trans (h r i j hn)
theorem AgG.reg {M M' : Mem} (h : AgG M M') {r : Nat} (h1 : r ≠ 23) (h2 : r ≠ 19) (h3 : r ≠ 20) : M' r = M r := by
  funext i j
  exact h r i j (fun q => by rcases q with q | q <;> omega)
theorem AgG.film {M M' : Mem} (h : AgG M M') (f : Int) : cFilm M' f = cFilm M f := cFilm_eq (fun r h1 h2 => h.reg (by omega) (by omega) (by omega)) f
theorem AgF.toG {M M' : Mem} (h : AgF M M') : AgG M M' := fun r i j hn => h r i j (fun q => hn (Or.inl ⟨q.1, q.2.1⟩))
theorem AgG.up (M : Mem) (j v : Int) : AgG M (up3 M 23 0 j v) := fun r i j' hn => if_neg (fun q => hn (Or.inl ⟨q.1, q.2.1⟩))
theorem AgG.put (M : Mem) (p a b : Int) : AgG M (up3 (up3 M 19 2 p a) 20 2 p b) := by
  intro r i j hn
  rw [AgP.up M 2 p a b r i (fun q => hn (Or.inr q))]
abbrev spX2_fillPlan (M : Mem) (K : Kont) : Prop := (WFf (cFilm M 1) ∧ TrB M 0) ∧ (M 23 0 3 ≠ 0 → K none M) ∧
  (M 23 0 3 = 0 → ∀ M', AgG M M' → M' 23 0 3 = 1 → PlK (cFilm M 1) (M' 19 2) (M' 20 2) → PlEq (M' 19 2) (M' 20 2) (gre (cFilm M 1) (M 16 0) (M 17 0)).1 (gre (cFilm M 1) (M 16 0) (M 17 0)).2 → K none M')
theorem ctX2_fillPlan : CtX2_fillPlan spX2_fillPlan := by
  refine ct_of (by decide) dmC (fun _ => Nat.le_of_ble_eq_true rfl) ?_
  intro κ a M K C oM h
  dsimp only [spX2_fillPlan] at h
  obtain ⟨⟨hf, hb⟩, hk1, hk⟩ := h
  have hnP := hf.2.2.2.1
  simp only [cFilm] at hnP
  generalize hF : cFilm M 1 = F at *
  have e37 : F 3 0 0 = M 5 1 7 := by rw [← hF]; rfl
  have loop : ∀ (n : Nat) (x : Int) (N : Mem), x + n = 22 → 0 ≤ x → AgG M N → N 23 0 3 = 1 → (0 ≤ N 23 0 4 ∧ N 23 0 4 < 2147483648) → PlK F (N 19 2) (N 20 2) →
      (∀ M', AgG M M' → M' 23 0 3 = 1 → PlK F (M' 19 2) (M' 20 2) → PlEq (M' 19 2) (M' 20 2) (grG F (M 16 0) (M 17 0) n (N 19 2) (N 20 2) (pzC (N 23 0 4))).1 (grG F (M 16 0) (M 17 0) n (N 19 2) (N 20 2) (pzC (N 23 0 4))).2 → K none M') →
      V κ 2 N 27 [some (.inr (23, 0)), some (.inl x)] [] K := by
    intro n
    induction n with
    | zero =>
      intro x N hn h0 hA h3 h4 hP hk
      refine sgX2_fillPlan_27 C x ⟨fun c => ?_, fun c => absurd (by omega) c⟩
      exact hk N hA h3 hP PlEq.rf
    | succ n ih =>
      intro x N hn h0 hA h3 h4 hP hk
      have e1 := hA.film 1
      rw [hF] at e1
      have r16 := hA.reg (r := 16) (by decide) (by decide) (by decide)
      have r17 := hA.reg (r := 17) (by decide) (by decide) (by decide)
      have r5 := hA.reg (r := 5) (by decide) (by decide) (by decide)
      refine sgX2_fillPlan_27 C x ⟨fun c => absurd c (by omega), fun c => ⟨⟨by rw [e1]; exact hf, fun u a b => by rw [r16, r17]; exact hb u a b, by rw [e1]; exact hP, h4⟩, ?_⟩⟩
      intro N2 hA2 hg
      rw [e1, r16, r17, r5, ← e37] at hg
      have ok := grP_ok hf (S := M 16 0) (Q := M 17 0) (ver := N 19 2) (sta := N 20 2) (pz := pzC (N 23 0 4)) (F 3 0 0).toNat (by omega)
      have s3 : N2 23 0 3 = 1 := by rw [hA2 23 0 3 (by omega)]; exact h3
      have s4 : N2 23 0 4 = N 23 0 4 := hA2 23 0 4 (by omega)
      have s19 := hA2.reg (r := 19) (by decide)
      have s20 := hA2.reg (r := 20) (by decide)
      have hA' : AgG M N2 := hA.tr hA2.toG
      have hk' := hk
      unfold grG at hk'
      generalize grP F (M 16 0) (M 17 0) (N 19 2) (N 20 2) (pzC (N 23 0 4)) (F 3 0 0).toNat = w at *
      refine ⟨fun c2 => ?_, fun c2 => ?_⟩
      · have hw := hg.2 c2
        have hw0 : w.1 ≠ 0 := by rw [← hg.1]; exact c2
        rw [if_neg hw0] at hk'
        have i5 : N2 23 0 5 = w.2.2.1 := by rw [← hw]; rfl
        have i6 : N2 23 0 6 = w.2.2.2.1 := by rw [← hw]; rfl
        have i7 : N2 23 0 7 = w.2.2.2.2 := by rw [← hw]; rfl
        have i9 : N2 23 0 9 = w.2.1 := by rw [← hw]; rfl
        rcases ok with ok | ⟨o1, o2, o3, o4, o5, o6, o7, o8⟩
        · exact absurd (by rw [ok]) hw0
        · have wpv := wf_pv hf o1.1 o1.2 o3.1 o3.2
          have wown := own_end (why_own o6)
          refine ⟨fun c3 => ?_, fun c3 => ?_⟩
          · rw [i9] at c3
            rw [if_pos c3] at hk'
            rw [i5, i6]
            refine ⟨⟨by omega, by omega, by omega, by omega⟩, ?_⟩
            intro N3 e3
            rw [s4] at e3
            have hpz : N3 23 0 4 = bOr (N 23 0 4) (bShl 1 (w.2.2.1 * 3 + w.2.2.2.1)) := by rw [e3, up3_s]
            have hsr := bShl_rng (k := w.2.2.1 * 3 + w.2.2.2.1) (by omega) (by omega)
            have hr := bOr_rng h4.1 h4.2 (y := bShl 1 (w.2.2.1 * 3 + w.2.2.2.1)) (by omega) (by omega)
            have n19 : N3 19 = N 19 := by funext i j; rw [e3, up3_r _ _ _ _ _ (by decide), s19]
            have n20 : N3 20 = N 20 := by funext i j; rw [e3, up3_r _ _ _ _ _ (by decide), s20]
            refine ⟨by omega, ih (x + 1) N3 (by omega) (by omega) (by rw [e3]; exact hA'.tr (AgG.up _ _ _)) ?_ (by rw [hpz]; exact hr) (by rw [n19, n20]; exact hP) ?_⟩
            · rw [e3, up3_j _ _ _ _ _ (by decide)]
              exact s3
            · intro M' a1 a2 a3 a4
              refine hk' M' a1 a2 a3 (a4.tr ?_)
              rw [n19, n20, hpz]
              refine grG_eq hf _ _ _ _ _ _ _ _ _ PlEq.rf (fun k k0 k1 => ?_)
              unfold pzC setB
              exact bit_or h4.1 h4.2 (by omega) (by omega) k0
          · rw [i9] at c3
            rw [if_neg c3] at hk'
            rw [i5, i6, i7]
            refine ⟨⟨by omega, by omega⟩, ?_⟩
            have n19 : up3 (up3 N2 19 2 w.2.2.1 w.2.2.2.1) 20 2 w.2.2.1 w.2.2.2.2 19 2 = setP (N 19 2) w.2.2.1 w.2.2.2.1 := by rw [put_19, s19]; rfl
            have n20 : up3 (up3 N2 19 2 w.2.2.1 w.2.2.2.1) 20 2 w.2.2.1 w.2.2.2.2 20 2 = setP (N 20 2) w.2.2.1 w.2.2.2.2 := by rw [put_20, s20]; rfl
            have n23 : ∀ j, up3 (up3 N2 19 2 w.2.2.1 w.2.2.2.1) 20 2 w.2.2.1 w.2.2.2.2 23 0 j = N2 23 0 j := fun j => by rw [up3_r _ _ _ _ _ (by decide), up3_r _ _ _ _ _ (by decide)]
            refine ⟨by omega, ih (x + 1) _ (by omega) (by omega) (hA'.tr (AgG.put _ _ _ _)) ?_ ?_ ?_ ?_⟩
            · rw [n23]
              exact s3
            · rw [n23, s4]
              exact h4
            · rw [n19, n20]
              exact PlK_put hP (by omega) o3 o5.1 wown.1
            · rw [n19, n20, n23, s4]
              exact hk'
      · have hw0 : w.1 = 0 := by rw [← hg.1]; omega
        rw [if_pos hw0] at hk'
        refine hk' N2 hA' s3 (by rw [s19, s20]; exact hP) ?_
        rw [s19, s20]
        exact PlEq.rf
  refine sgX2_fillPlan_0 C ⟨fun c => ?_, fun c => hk1 c⟩
  intro M10 e10 M22 e22
  have f19 : ∀ q, M22 19 2 q = if 0 ≤ q ∧ q < 7 then -4 else M 19 2 q := by
    intro q
    rw [e22, up3_r _ _ _ _ _ (by decide)]
    unfold filM
    rw [if_neg (by omega)]
    by_cases z : 0 ≤ q ∧ q < 7
    · rw [if_pos ⟨rfl, rfl, z⟩, if_pos z]
    · rw [if_neg (fun y => z y.2.2), if_neg z, e10, up3_r _ _ _ _ _ (by decide)]
  have f20 : ∀ q, M22 20 2 q = if 0 ≤ q ∧ q < 7 then -4 else M 20 2 q := by
    intro q
    rw [e22, up3_r _ _ _ _ _ (by decide)]
    unfold filM
    by_cases z : 0 ≤ q ∧ q < 7
    · rw [if_pos ⟨rfl, rfl, z⟩, if_pos z]
    · rw [if_neg (fun y => z y.2.2), if_neg (by omega), if_neg z, e10, up3_r _ _ _ _ _ (by decide)]
  have pe : PlEq (M22 19 2) (M22 20 2) (fun _ => -4) (fun _ => -4) := by
    intro q a b
    rw [f19, f20, if_pos ⟨a, b⟩, if_pos ⟨a, b⟩]
    exact ⟨rfl, rfl⟩
  refine loop 22 0 M22 (by omega) (by omega) ?_ ?_ ?_ ?_ ?_
  · intro r i j hn
    rw [e22, show up3 _ 23 0 4 0 r i j = _ from if_neg (fun q => hn (Or.inl ⟨q.1, q.2.1⟩))]
    unfold filM
    rw [if_neg (fun q => hn (Or.inr ⟨Or.inr q.1, q.2.1⟩)), if_neg (fun q => hn (Or.inr ⟨Or.inl q.1, q.2.1⟩)), e10]
    exact if_neg (fun q => hn (Or.inl ⟨q.1, q.2.1⟩))
  · rw [e22, up3_j _ _ _ _ _ (by decide)]
    unfold filM
    rw [if_neg (by omega), if_neg (by omega), e10, up3_s]
  · rw [e22, up3_s]
    decide
  · intro q a b
    have := pe q a b
    exact Or.inl this
  · intro M' a1 a2 a3 a4
    refine hk c M' a1 a2 a3 (a4.tr ?_)
    unfold gre
    refine grG_eq hf _ _ _ _ _ _ _ _ _ pe (fun k k0 k1 => ?_)
    unfold pzC
    rw [e22, up3_s, bit_0]
