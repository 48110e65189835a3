/-! ===== BestFinder ===== -/
/-! ===== GapTellings$BestFinder.nextFree ===== -/
abbrev rmX0_nextFree : Room := { frames := 1, cells := 0, slots := 0, locals := 21 }
abbrev argX0_nextFree (a : Int × Int × Int × Int) : List PV := [.inr (21, 0), .inl a.1, .inl a.2.1, .inl a.2.2.1, .inl a.2.2.2]
abbrev CtX0_nextFree (sp : Int → Int → Int → Int → Mem → Kont → Prop) : Prop := Ct yX0_nextFree cX0_nextFree 5 (some .int) rmX0_nextFree domC argX0_nextFree (fun a => sp a.1 a.2.1 a.2.2.1 a.2.2.2)
theorem dX0_nextFree_0 : decode cX0_nextFree 0 = .ok (.iload_n 3, 1) := by decide +kernel
theorem dX0_nextFree_1 : decode cX0_nextFree 1 = .ok (.aload_n 0, 1) := by decide +kernel
theorem dX0_nextFree_2 : decode cX0_nextFree 2 = .ok (.getfield 15, 3) := by decide +kernel
theorem dX0_nextFree_5 : decode cX0_nextFree 5 = .ok (.getfield 38, 3) := by decide +kernel
theorem dX0_nextFree_8 : decode cX0_nextFree 8 = .ok (.iload_n 1, 1) := by decide +kernel
theorem dX0_nextFree_9 : decode cX0_nextFree 9 = .ok (.aaload, 1) := by decide +kernel
theorem dX0_nextFree_10 : decode cX0_nextFree 10 = .ok (.getfield 87, 3) := by decide +kernel
theorem dX0_nextFree_13 : decode cX0_nextFree 13 = .ok (.iload_n 2, 1) := by decide +kernel
theorem dX0_nextFree_14 : decode cX0_nextFree 14 = .ok (.iaload, 1) := by decide +kernel
theorem dX0_nextFree_15 : decode cX0_nextFree 15 = .ok (.iadd, 1) := by decide +kernel
theorem dX0_nextFree_16 : decode cX0_nextFree 16 = .ok (.iload 4, 2) := by decide +kernel
theorem dX0_nextFree_18 : decode cX0_nextFree 18 = .ok (.iadd, 1) := by decide +kernel
theorem dX0_nextFree_19 : decode cX0_nextFree 19 = .ok (.aload_n 0, 1) := by decide +kernel
theorem dX0_nextFree_20 : decode cX0_nextFree 20 = .ok (.getfield 15, 3) := by decide +kernel
theorem dX0_nextFree_23 : decode cX0_nextFree 23 = .ok (.getfield 25, 3) := by decide +kernel
theorem dX0_nextFree_26 : decode cX0_nextFree 26 = .ok (.invokestatic 90, 3) := by decide +kernel
theorem dX0_nextFree_29 : decode cX0_nextFree 29 = .ok (.ireturn, 1) := by decide +kernel
theorem flX0_15 : FL RX0 15 0 0 := ⟨_, _, _, rfl, by decide, uwX0, Or.inl (tb_mem (t_in1 (List.mem_of_getElem? (i := 212) (by decide +kernel))) (by decide +kernel))⟩
theorem flX0_38 : FL RX0 38 1 8 := ⟨_, _, _, rfl, by decide, uwX1, Or.inr ⟨"GapTellings", (nw_mem (t_in1 (List.mem_of_getElem? (i := 138) (by decide +kernel))) (by decide +kernel))⟩⟩
theorem flX0_87 : FL RX0 87 3 5 := ⟨_, _, _, rfl, by decide, uwX3, Or.inr ⟨"GapTellings", (nw_mem (t_in1 (List.mem_of_getElem? (i := 84) (by decide +kernel))) (by decide +kernel))⟩⟩
theorem flX0_25 : FL RX0 25 1 0 := ⟨_, _, _, rfl, by decide, uwX1, Or.inr ⟨"GapTellings", (nw_mem (t_in1 (List.mem_of_getElem? (i := 107) (by decide +kernel))) (by decide +kernel))⟩⟩
theorem ivX0_90 : IMin RX0 90 := ⟨(tb_mem (t_in3 (List.mem_of_getElem? (i := 189) (by decide +kernel))) (by decide +kernel)), (tb_mem (t_in2 (List.mem_of_getElem? (i := 32) (by decide +kernel))) (by decide +kernel)), (tb_mem (t_in1 (List.mem_of_getElem? (i := 11) (by decide +kernel))) (by decide +kernel)), (tb_mem (t_in2 (List.mem_of_getElem? (i := 33) (by decide +kernel))) (by decide +kernel))⟩
set_option maxHeartbeats 4000000 in
set_option maxRecDepth 20000 in
theorem sgX0_nextFree_0 {κ : Kx} {K : Kont} {M : Mem} (C : Cx κ RX0 cX0_nextFree 5 (some .int) rmX0_nextFree domC) (x1 : Int) (x2 : Int) (x3 : Int) (x4 : Int)
    (h :
    (0 ≤ x1 ∧ x1 < 7) ∧
    (0 ≤ x2 ∧ x2 < 3) ∧
    inR (x3 + (M 12 (7 * 1 + x1) x2)) ∧
    inR ((x3 + (M 12 (7 * 1 + x1) x2)) + x4) ∧
    K (some (min ((x3 + (M 12 (7 * 1 + x1) x2)) + x4) (M 5 1 0))) M) : V κ 5 M 0 [some (.inr (21, 0)), some (.inl x1), some (.inl x2), some (.inl x3), some (.inl x4)] [] K := by
  refine v_iload_n C dX0_nextFree_0 rfl ?_
  refine v_aload_n C dX0_nextFree_1 rfl ?_
  refine v_get C dX0_nextFree_2 flX0_15 rfl (by decide) (by decide) (w := .inr (5, 1)) rfl ?_
  refine v_get C dX0_nextFree_5 flX0_38 rfl (by decide) (by decide) (w := .inr (10, 1)) rfl ?_
  refine v_iload_n C dX0_nextFree_8 rfl ?_
  refine v_aald C dX0_nextFree_9 h.1.1 h.1.2 ?_
  replace h := h.2
  refine v_get C dX0_nextFree_10 flX0_87 rfl (by decide) (by decide) (w := .inr (12, 7 * 1 + x1)) rfl ?_
  refine v_iload_n C dX0_nextFree_13 rfl ?_
  refine v_iald C dX0_nextFree_14 rfl h.1.1 h.1.2 ?_
  replace h := h.2
  refine v_iadd C dX0_nextFree_15 h.1 ?_
  replace h := h.2
  refine v_iload C dX0_nextFree_16 rfl ?_
  refine v_iadd C dX0_nextFree_18 h.1 ?_
  replace h := h.2
  refine v_aload_n C dX0_nextFree_19 rfl ?_
  refine v_get C dX0_nextFree_20 flX0_15 rfl (by decide) (by decide) (w := .inr (5, 1)) rfl ?_
  refine v_get C dX0_nextFree_23 flX0_25 rfl (by decide) (by decide) (w := .inl (M 5 1 0)) rfl ?_
  refine v_min C dX0_nextFree_26 ivX0_90 (Nat.le_of_ble_eq_true rfl) ⟨by decide, by decide⟩ ?_
  exact v_iret C dX0_nextFree_29 h
abbrev spX0_nextFree (p v t b : Int) (M : Mem) (K : Kont) : Prop := (WFf (cFilm M 1) ∧ (0 ≤ p ∧ p < M 5 1 7) ∧ (0 ≤ v ∧ v < M 11 (7 * 1 + p) 4) ∧ (0 ≤ t ∧ t < M 5 1 0) ∧ (0 ≤ b ∧ b ≤ 9)) ∧ K (some (min (t + cFilm M 1 13 p v + b) (cFilm M 1 0 0 0))) M
theorem ctX0_nextFree : CtX0_nextFree spX0_nextFree := by
  refine ct_of (by decide) dmC (fun _ => Nat.le_of_ble_eq_true rfl) ?_
  intro κ a M K C oM h
  obtain ⟨p, v, t, b⟩ := a
  dsimp only [spX0_nextFree] at h
  obtain ⟨⟨hf, hp, hv, ht, hb⟩, hk⟩ := h
  have hw := wf_pv hf hp.1 hp.2 hv.1 hv.2
  simp only [cFilm] at hw
  exact sgX0_nextFree_0 C p v t b ⟨by omega, by omega, by omega, by omega, hk⟩
/-! ===== GapTellings$BestFinder.neededSet ===== -/
abbrev rmX0_neededSet : Room := { frames := 0, cells := 0, slots := 0, locals := 0 }
abbrev argX0_neededSet (a : Int) : List PV := [.inr (21, 0), .inl a]
abbrev CtX0_neededSet (sp : Int → Mem → Kont → Prop) : Prop := Ct yX0_neededSet cX0_neededSet 3 (some .int) rmX0_neededSet domC argX0_neededSet (fun a => sp a)
theorem dX0_neededSet_0 : decode cX0_neededSet 0 = .ok (.aload_n 0, 1) := by decide +kernel
theorem dX0_neededSet_1 : decode cX0_neededSet 1 = .ok (.getfield 15, 3) := by decide +kernel
theorem dX0_neededSet_4 : decode cX0_neededSet 4 = .ok (.getfield 38, 3) := by decide +kernel
theorem dX0_neededSet_7 : decode cX0_neededSet 7 = .ok (.iload_n 1, 1) := by decide +kernel
theorem dX0_neededSet_8 : decode cX0_neededSet 8 = .ok (.aaload, 1) := by decide +kernel
theorem dX0_neededSet_9 : decode cX0_neededSet 9 = .ok (.getfield 95, 3) := by decide +kernel
theorem dX0_neededSet_12 : decode cX0_neededSet 12 = .ok (.istore_n 2, 1) := by decide +kernel
theorem dX0_neededSet_13 : decode cX0_neededSet 13 = .ok (.iload_n 2, 1) := by decide +kernel
theorem dX0_neededSet_14 : decode cX0_neededSet 14 = .ok (.bipush (-4), 2) := by decide +kernel
theorem dX0_neededSet_16 : decode cX0_neededSet 16 = .ok (.if_icmp .ne 7, 3) := by decide +kernel
theorem dX0_neededSet_19 : decode cX0_neededSet 19 = .ok (.iconst 0, 1) := by decide +kernel
theorem dX0_neededSet_20 : decode cX0_neededSet 20 = .ok (.goto 6, 3) := by decide +kernel
theorem dX0_neededSet_23 : decode cX0_neededSet 23 = .ok (.iconst 1, 1) := by decide +kernel
theorem dX0_neededSet_24 : decode cX0_neededSet 24 = .ok (.iload_n 2, 1) := by decide +kernel
theorem dX0_neededSet_25 : decode cX0_neededSet 25 = .ok (.ishl, 1) := by decide +kernel
theorem dX0_neededSet_26 : decode cX0_neededSet 26 = .ok (.ireturn, 1) := by decide +kernel
theorem flX0_95 : FL RX0 95 3 3 := ⟨_, _, _, rfl, by decide, uwX3, Or.inr ⟨"GapTellings", (nw_mem (t_in1 (List.mem_of_getElem? (i := 74) (by decide +kernel))) (by decide +kernel))⟩⟩
set_option maxHeartbeats 4000000 in
set_option maxRecDepth 20000 in
theorem sgX0_neededSet_0 {κ : Kx} {K : Kont} {M : Mem} (C : Cx κ RX0 cX0_neededSet 3 (some .int) rmX0_neededSet domC) (x1 : Int)
    (h :
    (0 ≤ x1 ∧ x1 < 7) ∧
    ∀ y2_12 : Int, y2_12 = M 11 (7 * 1 + x1) 3 →
    ((y2_12 ≠ (-4) →
      K (some (bShl 1 y2_12)) M) ∧
     (¬ (y2_12 ≠ (-4)) →
      K (some 0) M))) : V κ 3 M 0 [some (.inr (21, 0)), some (.inl x1), none] [] K := by
  refine v_aload_n C dX0_neededSet_0 rfl ?_
  refine v_get C dX0_neededSet_1 flX0_15 rfl (by decide) (by decide) (w := .inr (5, 1)) rfl ?_
  refine v_get C dX0_neededSet_4 flX0_38 rfl (by decide) (by decide) (w := .inr (10, 1)) rfl ?_
  refine v_iload_n C dX0_neededSet_7 rfl ?_
  refine v_aald C dX0_neededSet_8 h.1.1 h.1.2 ?_
  replace h := h.2
  refine v_get C dX0_neededSet_9 flX0_95 rfl (by decide) (by decide) (w := .inl (M 11 (7 * 1 + x1) 3)) rfl ?_
  refine v_nm (fun y2_12 ey2_12 => ?_)
  replace h := h y2_12 ey2_12
  refine v_istore_n C dX0_neededSet_12 (by decide) (Nat.le_of_ble_eq_true rfl) (lv' := [some (.inr (21, 0)), some (.inl x1), some (.inl y2_12)]) rfl ?_
  refine v_iload_n C dX0_neededSet_13 rfl ?_
  refine v_bipush C dX0_neededSet_14 (by decide) (by decide) ?_
  refine v_icmp C dX0_neededSet_16 (tgt := 23) (by decide) (P := y2_12 ≠ (-4)) rfl (fun c16 => ?_) (fun c16 => ?_)
  · replace h := h.1 c16
    refine v_iconst C dX0_neededSet_23 (by decide) ?_
    refine v_iload_n C dX0_neededSet_24 rfl ?_
    refine v_ishl C dX0_neededSet_25 ?_
    exact v_iret C dX0_neededSet_26 h
  · replace h := h.2 c16
    refine v_iconst C dX0_neededSet_19 (by decide) ?_
    refine v_goto C dX0_neededSet_20 (tgt := 26) (by decide) ?_
    exact v_iret C dX0_neededSet_26 h
def ndS (F : Film) (p : Int) : Int := if F 12 p 0 = -4 then 0 else bShl 1 (F 12 p 0)
abbrev spX0_neededSet (p : Int) (M : Mem) (K : Kont) : Prop := (0 ≤ p ∧ p < 7) ∧ K (some (ndS (cFilm M 1) p)) M
theorem ctX0_neededSet : CtX0_neededSet spX0_neededSet := by
  refine ct_of (by decide) dmC (fun _ => Nat.le_of_ble_eq_true rfl) ?_
  intro κ p M K C oM h
  dsimp only [spX0_neededSet] at h
  obtain ⟨hp, hk⟩ := h
  refine sgX0_neededSet_0 C p ⟨hp, fun y ey => ⟨fun c => ?_, fun c => ?_⟩⟩
  · unfold ndS at hk
    rw [if_neg (by show M 11 (7 * 1 + p) 3 ≠ -4; omega)] at hk
    rw [ey]
    exact hk
  · unfold ndS at hk
    rw [if_pos (by show M 11 (7 * 1 + p) 3 = -4; omega)] at hk
    exact hk
/-! ===== GapTellings$BestFinder.openAhead ===== -/
abbrev rmX0_openAhead : Room := { frames := 0, cells := 0, slots := 0, locals := 0 }
abbrev argX0_openAhead (a : Int × Int) : List PV := [.inr (21, 0), .inl a.1, .inl a.2]
abbrev CtX0_openAhead (sp : Int → Int → Mem → Kont → Prop) : Prop := Ct yX0_openAhead cX0_openAhead 5 (some .int) rmX0_openAhead domC argX0_openAhead (fun a => sp a.1 a.2)
theorem dX0_openAhead_0 : decode cX0_openAhead 0 = .ok (.iconst 0, 1) := by decide +kernel
theorem dX0_openAhead_1 : decode cX0_openAhead 1 = .ok (.istore_n 3, 1) := by decide +kernel
theorem dX0_openAhead_2 : decode cX0_openAhead 2 = .ok (.iconst 0, 1) := by decide +kernel
theorem dX0_openAhead_3 : decode cX0_openAhead 3 = .ok (.istore 4, 2) := by decide +kernel
theorem dX0_openAhead_5 : decode cX0_openAhead 5 = .ok (.iload 4, 2) := by decide +kernel
theorem dX0_openAhead_7 : decode cX0_openAhead 7 = .ok (.aload_n 0, 1) := by decide +kernel
theorem dX0_openAhead_8 : decode cX0_openAhead 8 = .ok (.getfield 15, 3) := by decide +kernel
theorem dX0_openAhead_11 : decode cX0_openAhead 11 = .ok (.getfield 19, 3) := by decide +kernel
theorem dX0_openAhead_14 : decode cX0_openAhead 14 = .ok (.if_icmp .ge 47, 3) := by decide +kernel
theorem dX0_openAhead_17 : decode cX0_openAhead 17 = .ok (.aload_n 0, 1) := by decide +kernel
theorem dX0_openAhead_18 : decode cX0_openAhead 18 = .ok (.getfield 15, 3) := by decide +kernel
theorem dX0_openAhead_21 : decode cX0_openAhead 21 = .ok (.getfield 38, 3) := by decide +kernel
theorem dX0_openAhead_24 : decode cX0_openAhead 24 = .ok (.iload 4, 2) := by decide +kernel
theorem dX0_openAhead_26 : decode cX0_openAhead 26 = .ok (.aaload, 1) := by decide +kernel
theorem dX0_openAhead_27 : decode cX0_openAhead 27 = .ok (.getfield 56, 3) := by decide +kernel
theorem dX0_openAhead_30 : decode cX0_openAhead 30 = .ok (.aload_n 0, 1) := by decide +kernel
theorem dX0_openAhead_31 : decode cX0_openAhead 31 = .ok (.getfield 15, 3) := by decide +kernel
theorem dX0_openAhead_34 : decode cX0_openAhead 34 = .ok (.getfield 38, 3) := by decide +kernel
theorem dX0_openAhead_37 : decode cX0_openAhead 37 = .ok (.iload 4, 2) := by decide +kernel
theorem dX0_openAhead_39 : decode cX0_openAhead 39 = .ok (.aaload, 1) := by decide +kernel
theorem dX0_openAhead_40 : decode cX0_openAhead 40 = .ok (.getfield 59, 3) := by decide +kernel
theorem dX0_openAhead_43 : decode cX0_openAhead 43 = .ok (.isub, 1) := by decide +kernel
theorem dX0_openAhead_44 : decode cX0_openAhead 44 = .ok (.iload_n 2, 1) := by decide +kernel
theorem dX0_openAhead_45 : decode cX0_openAhead 45 = .ok (.if_icmp .ge 10, 3) := by decide +kernel
theorem dX0_openAhead_48 : decode cX0_openAhead 48 = .ok (.iload_n 3, 1) := by decide +kernel
theorem dX0_openAhead_49 : decode cX0_openAhead 49 = .ok (.iconst 1, 1) := by decide +kernel
theorem dX0_openAhead_50 : decode cX0_openAhead 50 = .ok (.iload 4, 2) := by decide +kernel
theorem dX0_openAhead_52 : decode cX0_openAhead 52 = .ok (.ishl, 1) := by decide +kernel
theorem dX0_openAhead_53 : decode cX0_openAhead 53 = .ok (.ior, 1) := by decide +kernel
theorem dX0_openAhead_54 : decode cX0_openAhead 54 = .ok (.istore_n 3, 1) := by decide +kernel
theorem dX0_openAhead_55 : decode cX0_openAhead 55 = .ok (.iinc 4 1, 3) := by decide +kernel
theorem dX0_openAhead_58 : decode cX0_openAhead 58 = .ok (.goto (-53), 3) := by decide +kernel
theorem dX0_openAhead_61 : decode cX0_openAhead 61 = .ok (.iload_n 3, 1) := by decide +kernel
theorem dX0_openAhead_62 : decode cX0_openAhead 62 = .ok (.iload_n 1, 1) := by decide +kernel
theorem dX0_openAhead_63 : decode cX0_openAhead 63 = .ok (.iand, 1) := by decide +kernel
theorem dX0_openAhead_64 : decode cX0_openAhead 64 = .ok (.ireturn, 1) := by decide +kernel
theorem flX0_19 : FL RX0 19 1 7 := ⟨_, _, _, rfl, by decide, uwX1, Or.inr ⟨"GapTellings", (nw_mem (t_in1 (List.mem_of_getElem? (i := 131) (by decide +kernel))) (by decide +kernel))⟩⟩
theorem flX0_56 : FL RX0 56 3 0 := ⟨_, _, _, rfl, by decide, uwX3, Or.inr ⟨"GapTellings", (nw_mem (t_in1 (List.mem_of_getElem? (i := 62) (by decide +kernel))) (by decide +kernel))⟩⟩
theorem flX0_59 : FL RX0 59 3 1 := ⟨_, _, _, rfl, by decide, uwX3, Or.inr ⟨"GapTellings", (nw_mem (t_in1 (List.mem_of_getElem? (i := 67) (by decide +kernel))) (by decide +kernel))⟩⟩
set_option maxHeartbeats 4000000 in
set_option maxRecDepth 20000 in
theorem sgX0_openAhead_0 {κ : Kx} {K : Kont} {M : Mem} (C : Cx κ RX0 cX0_openAhead 5 (some .int) rmX0_openAhead domC) (x1 : Int) (x2 : Int)
    (h :
    V κ 5 M 5 [some (.inr (21, 0)), some (.inl x1), some (.inl x2), some (.inl 0), some (.inl 0)] [] K) : V κ 5 M 0 [some (.inr (21, 0)), some (.inl x1), some (.inl x2), none, none] [] K := by
  refine v_iconst C dX0_openAhead_0 (by decide) ?_
  refine v_istore_n C dX0_openAhead_1 (by decide) (Nat.le_of_ble_eq_true rfl) (lv' := [some (.inr (21, 0)), some (.inl x1), some (.inl x2), some (.inl 0), none]) rfl ?_
  refine v_iconst C dX0_openAhead_2 (by decide) ?_
  refine v_istore C dX0_openAhead_3 (by decide) (Nat.le_of_ble_eq_true rfl) (lv' := [some (.inr (21, 0)), some (.inl x1), some (.inl x2), some (.inl 0), some (.inl 0)]) rfl ?_
  refine v_weak [some (.inr (21, 0)), some (.inl x1), some (.inl x2), some (.inl 0), some (.inl 0)] ⟨rfl, rfl, rfl, rfl, rfl, trivial⟩ ?_
  exact h
set_option maxHeartbeats 4000000 in
set_option maxRecDepth 20000 in
theorem sgX0_openAhead_5 {κ : Kx} {K : Kont} {M : Mem} (C : Cx κ RX0 cX0_openAhead 5 (some .int) rmX0_openAhead domC) (x1 : Int) (x2 : Int) (x3 : Int) (x4 : Int)
    (h :
    (((M 5 1 7) ≤ x4 →
      K (some (bAnd x3 x1)) M) ∧
     (¬ ((M 5 1 7) ≤ x4) →
      (0 ≤ x4 ∧ x4 < 7) ∧
      (0 ≤ x4 ∧ x4 < 7) ∧
      inR ((M 11 (7 * 1 + x4) 0) - (M 11 (7 * 1 + x4) 1)) ∧
      ((x2 ≤ ((M 11 (7 * 1 + x4) 0) - (M 11 (7 * 1 + x4) 1)) →
        inR (x4 + 1) ∧
        V κ 5 M 5 [some (.inr (21, 0)), some (.inl x1), some (.inl x2), some (.inl x3), some (.inl (x4 + 1))] [] K) ∧
       (¬ (x2 ≤ ((M 11 (7 * 1 + x4) 0) - (M 11 (7 * 1 + x4) 1))) →
        ∀ y3_54 : Int, y3_54 = bOr x3 (bShl 1 x4) →
        inR (x4 + 1) ∧
        V κ 5 M 5 [some (.inr (21, 0)), some (.inl x1), some (.inl x2), some (.inl y3_54), some (.inl (x4 + 1))] [] K))))) : V κ 5 M 5 [some (.inr (21, 0)), some (.inl x1), some (.inl x2), some (.inl x3), some (.inl x4)] [] K := by
  refine v_iload C dX0_openAhead_5 rfl ?_
  refine v_aload_n C dX0_openAhead_7 rfl ?_
  refine v_get C dX0_openAhead_8 flX0_15 rfl (by decide) (by decide) (w := .inr (5, 1)) rfl ?_
  refine v_get C dX0_openAhead_11 flX0_19 rfl (by decide) (by decide) (w := .inl (M 5 1 7)) rfl ?_
  refine v_icmp C dX0_openAhead_14 (tgt := 61) (by decide) (P := (M 5 1 7) ≤ x4) rfl (fun c14 => ?_) (fun c14 => ?_)
  · replace h := h.1 c14
    refine v_iload_n C dX0_openAhead_61 rfl ?_
    refine v_iload_n C dX0_openAhead_62 rfl ?_
    refine v_iand C dX0_openAhead_63 ?_
    exact v_iret C dX0_openAhead_64 h
  · replace h := h.2 c14
    refine v_aload_n C dX0_openAhead_17 rfl ?_
    refine v_get C dX0_openAhead_18 flX0_15 rfl (by decide) (by decide) (w := .inr (5, 1)) rfl ?_
    refine v_get C dX0_openAhead_21 flX0_38 rfl (by decide) (by decide) (w := .inr (10, 1)) rfl ?_
    refine v_iload C dX0_openAhead_24 rfl ?_
    refine v_aald C dX0_openAhead_26 h.1.1 h.1.2 ?_
    replace h := h.2
    refine v_get C dX0_openAhead_27 flX0_56 rfl (by decide) (by decide) (w := .inl (M 11 (7 * 1 + x4) 0)) rfl ?_
    refine v_aload_n C dX0_openAhead_30 rfl ?_
    refine v_get C dX0_openAhead_31 flX0_15 rfl (by decide) (by decide) (w := .inr (5, 1)) rfl ?_
    refine v_get C dX0_openAhead_34 flX0_38 rfl (by decide) (by decide) (w := .inr (10, 1)) rfl ?_
    refine v_iload C dX0_openAhead_37 rfl ?_
    refine v_aald C dX0_openAhead_39 h.1.1 h.1.2 ?_
    replace h := h.2
    refine v_get C dX0_openAhead_40 flX0_59 rfl (by decide) (by decide) (w := .inl (M 11 (7 * 1 + x4) 1)) rfl ?_
    refine v_isub C dX0_openAhead_43 h.1 ?_
    replace h := h.2
    refine v_iload_n C dX0_openAhead_44 rfl ?_
    refine v_icmp C dX0_openAhead_45 (tgt := 55) (by decide) (P := x2 ≤ ((M 11 (7 * 1 + x4) 0) - (M 11 (7 * 1 + x4) 1))) rfl (fun c45 => ?_) (fun c45 => ?_)
    · replace h := h.1 c45
      refine v_iinc C dX0_openAhead_55 (by decide) rfl h.1 (lv' := [some (.inr (21, 0)), some (.inl x1), some (.inl x2), some (.inl x3), some (.inl (x4 + 1))]) rfl ?_
      replace h := h.2
      refine v_goto C dX0_openAhead_58 (tgt := 5) (by decide) ?_
      refine v_weak [some (.inr (21, 0)), some (.inl x1), some (.inl x2), some (.inl x3), some (.inl (x4 + 1))] ⟨rfl, rfl, rfl, rfl, rfl, trivial⟩ ?_
      exact h
    · replace h := h.2 c45
      refine v_iload_n C dX0_openAhead_48 rfl ?_
      refine v_iconst C dX0_openAhead_49 (by decide) ?_
      refine v_iload C dX0_openAhead_50 rfl ?_
      refine v_ishl C dX0_openAhead_52 ?_
      refine v_ior C dX0_openAhead_53 ?_
      refine v_nm (fun y3_54 ey3_54 => ?_)
      replace h := h y3_54 ey3_54
      refine v_istore_n C dX0_openAhead_54 (by decide) (Nat.le_of_ble_eq_true rfl) (lv' := [some (.inr (21, 0)), some (.inl x1), some (.inl x2), some (.inl y3_54), some (.inl x4)]) rfl ?_
      refine v_iinc C dX0_openAhead_55 (by decide) rfl h.1 (lv' := [some (.inr (21, 0)), some (.inl x1), some (.inl x2), some (.inl y3_54), some (.inl (x4 + 1))]) rfl ?_
      replace h := h.2
      refine v_goto C dX0_openAhead_58 (tgt := 5) (by decide) ?_
      refine v_weak [some (.inr (21, 0)), some (.inl x1), some (.inl x2), some (.inl y3_54), some (.inl (x4 + 1))] ⟨rfl, rfl, rfl, rfl, rfl, trivial⟩ ?_
      exact h
/-- a set of those that can begin ahead of a tick -/
def AhM (F : Film) (set t A : Int) : Prop := (0 ≤ A ∧ A ≤ set) ∧ ∀ k, 0 ≤ k → k < 7 → (bit A k = true ↔ (bit set k = true ∧ k < F 3 0 0 ∧ F 8 k 0 - F 9 k 0 < t))
abbrev spX0_openAhead (set t : Int) (M : Mem) (K : Kont) : Prop := (WFf (cFilm M 1) ∧ (0 ≤ set ∧ set < 128)) ∧ ∀ A, AhM (cFilm M 1) set t A → K (some A) M
theorem ctX0_openAhead : CtX0_openAhead spX0_openAhead := by
  refine ct_of (by decide) dmC (fun _ => Nat.le_of_ble_eq_true rfl) ?_
  intro κ a M K C oM h
  obtain ⟨set, t⟩ := a
  dsimp only [spX0_openAhead] at h
  obtain ⟨⟨hf, hs⟩, hk⟩ := h
  have hnP := hf.2.2.2.1
  simp only [cFilm] at hnP
  have loop : ∀ (n : Nat) (p x : Int), 0 ≤ p → p + n = M 5 1 7 → (0 ≤ x ∧ x < 2147483648) → (∀ k, 0 ≤ k → (bit x k = true ↔ (k < p ∧ M 11 (7 * 1 + k) 0 - M 11 (7 * 1 + k) 1 < t))) →
      V κ 5 M 5 [some (.inr (21, 0)), some (.inl set), some (.inl t), some (.inl x), some (.inl p)] [] K := by
    intro n
    induction n with
    | zero =>
      intro p x h0 hn hx hbit
      refine sgX0_openAhead_5 C set t x p ⟨fun c => ?_, fun c => absurd (by omega) c⟩
      refine hk _ ⟨bAnd_le hx.1 hx.2 hs.1 (by omega), fun k k0 k1 => ?_⟩
      rw [bit_and hx.1 hx.2 hs.1 (by omega), Bool.and_eq_true, hbit k k0]
      show _ ↔ (_ ∧ k < M 5 1 7 ∧ M 11 (7 * 1 + k) 0 - M 11 (7 * 1 + k) 1 < t)
      constructor
      · rintro ⟨⟨a, b⟩, c⟩
        exact ⟨c, by omega, b⟩
      · rintro ⟨a, b, c⟩
        exact ⟨⟨by omega, c⟩, a⟩
    | succ n ih =>
      intro p x h0 hn hx hbit
      have hw := wf_p hf h0 (show p < M 5 1 7 by omega)
      simp only [cFilm] at hw
      refine sgX0_openAhead_5 C set t x p ⟨fun c => absurd c (by omega), fun c => ⟨by omega, by omega, by omega, fun c2 => ⟨by omega, ?_⟩, fun c2 y ey => ⟨by omega, ?_⟩⟩⟩
      · refine ih (p + 1) x (by omega) (by omega) hx (fun k k0 => ?_)
        rw [hbit k k0]
        by_cases e : k = p
        · subst e
          constructor
          · rintro ⟨a, b⟩; omega
          · rintro ⟨a, b⟩; omega
        · constructor
          · rintro ⟨a, b⟩; exact ⟨by omega, b⟩
          · rintro ⟨a, b⟩; exact ⟨by omega, b⟩
      · have hsr := bShl_rng (k := p) h0 (by omega)
        refine ih (p + 1) y (by omega) (by omega) (by rw [ey]; exact bOr_rng hx.1 hx.2 (by omega) (by omega)) (fun k k0 => ?_)
        rw [ey, bit_or hx.1 hx.2 h0 (by omega) k0, Bool.or_eq_true, hbit k k0, decide_eq_true_eq]
        by_cases e : k = p
        · subst e
          constructor
          · intro _; exact ⟨by omega, by omega⟩
          · intro _; exact Or.inr rfl
        · constructor
          · rintro (⟨a, b⟩ | a)
            · exact ⟨by omega, b⟩
            · exact absurd a e
          · rintro ⟨a, b⟩
            exact Or.inl ⟨by omega, b⟩
  refine sgX0_openAhead_0 C set t ?_
  refine loop (M 5 1 7).toNat 0 0 (by omega) (by omega) (by omega) (fun k k0 => ?_)
  rw [bit_0]
  constructor
  · intro z; cases z
  · rintro ⟨a, b⟩; omega
/-- nothing but the table has changed -/
def AgB (M M' : Mem) : Prop := ∀ r, r ≠ 22 → M' r = M r
theorem AgB.rf {M : Mem} : AgB M M := fun _ _ => rfl
theorem AgB.tr {M M' M2 : Mem} (h : AgB M M') (h2 : AgB M' M2) : AgB M M2 := fun r hr => (h2 r hr).trans (h r hr)
theorem AgB.up (M : Mem) (j v : Int) : AgB M (up3 M 22 0 j v) := by
  intro r hr
  funext i j'
  exact up3_r _ _ _ _ _ hr i j'
theorem AgB.film {M M' : Mem} (h : AgB M M') (f : Int) : cFilm M' f = cFilm M f := cFilm_eq (fun r h1 h2 => h r (by omega)) f
/-! ===== GapTellings$BestFinder.raiseRow ===== -/
abbrev rmX0_raiseRow : Room := { frames := 1, cells := 0, slots := 0, locals := 22 }
abbrev argX0_raiseRow (a : Int × Int × Int × Int × Int) : List PV := [.inr (21, 0), .inl a.1, .inl a.2.1, .inl a.2.2.1, .inl a.2.2.2.1, .inl a.2.2.2.2]
abbrev CtX0_raiseRow (sp : Int → Int → Int → Int → Int → Mem → Kont → Prop) : Prop := Ct yX0_raiseRow cX0_raiseRow 13 none rmX0_raiseRow domC argX0_raiseRow (fun a => sp a.1 a.2.1 a.2.2.1 a.2.2.2.1 a.2.2.2.2)
theorem dX0_raiseRow_0 : decode cX0_raiseRow 0 = .ok (.iconst 1, 1) := by decide +kernel
theorem dX0_raiseRow_1 : decode cX0_raiseRow 1 = .ok (.aload_n 0, 1) := by decide +kernel
theorem dX0_raiseRow_2 : decode cX0_raiseRow 2 = .ok (.getfield 15, 3) := by decide +kernel
theorem dX0_raiseRow_5 : decode cX0_raiseRow 5 = .ok (.getfield 19, 3) := by decide +kernel
theorem dX0_raiseRow_8 : decode cX0_raiseRow 8 = .ok (.ishl, 1) := by decide +kernel
theorem dX0_raiseRow_9 : decode cX0_raiseRow 9 = .ok (.istore 6, 2) := by decide +kernel
theorem dX0_raiseRow_11 : decode cX0_raiseRow 11 = .ok (.aload_n 0, 1) := by decide +kernel
theorem dX0_raiseRow_12 : decode cX0_raiseRow 12 = .ok (.iload_n 1, 1) := by decide +kernel
theorem dX0_raiseRow_13 : decode cX0_raiseRow 13 = .ok (.invokevirtual 48, 3) := by decide +kernel
theorem dX0_raiseRow_16 : decode cX0_raiseRow 16 = .ok (.istore 7, 2) := by decide +kernel
theorem dX0_raiseRow_18 : decode cX0_raiseRow 18 = .ok (.iload_n 2, 1) := by decide +kernel
theorem dX0_raiseRow_19 : decode cX0_raiseRow 19 = .ok (.iload 6, 2) := by decide +kernel
theorem dX0_raiseRow_21 : decode cX0_raiseRow 21 = .ok (.imul, 1) := by decide +kernel
theorem dX0_raiseRow_22 : decode cX0_raiseRow 22 = .ok (.iload 7, 2) := by decide +kernel
theorem dX0_raiseRow_24 : decode cX0_raiseRow 24 = .ok (.iadd, 1) := by decide +kernel
theorem dX0_raiseRow_25 : decode cX0_raiseRow 25 = .ok (.istore 8, 2) := by decide +kernel
theorem dX0_raiseRow_27 : decode cX0_raiseRow 27 = .ok (.iload_n 3, 1) := by decide +kernel
theorem dX0_raiseRow_28 : decode cX0_raiseRow 28 = .ok (.iload 6, 2) := by decide +kernel
theorem dX0_raiseRow_30 : decode cX0_raiseRow 30 = .ok (.imul, 1) := by decide +kernel
theorem dX0_raiseRow_31 : decode cX0_raiseRow 31 = .ok (.iload 7, 2) := by decide +kernel
theorem dX0_raiseRow_33 : decode cX0_raiseRow 33 = .ok (.iadd, 1) := by decide +kernel
theorem dX0_raiseRow_34 : decode cX0_raiseRow 34 = .ok (.iconst 1, 1) := by decide +kernel
theorem dX0_raiseRow_35 : decode cX0_raiseRow 35 = .ok (.iload_n 1, 1) := by decide +kernel
theorem dX0_raiseRow_36 : decode cX0_raiseRow 36 = .ok (.ishl, 1) := by decide +kernel
theorem dX0_raiseRow_37 : decode cX0_raiseRow 37 = .ok (.iadd, 1) := by decide +kernel
theorem dX0_raiseRow_38 : decode cX0_raiseRow 38 = .ok (.istore 9, 2) := by decide +kernel
theorem dX0_raiseRow_40 : decode cX0_raiseRow 40 = .ok (.iconst 0, 1) := by decide +kernel
theorem dX0_raiseRow_41 : decode cX0_raiseRow 41 = .ok (.istore 10, 2) := by decide +kernel
theorem dX0_raiseRow_43 : decode cX0_raiseRow 43 = .ok (.iconst 1, 1) := by decide +kernel
theorem dX0_raiseRow_44 : decode cX0_raiseRow 44 = .ok (.iload 5, 2) := by decide +kernel
theorem dX0_raiseRow_46 : decode cX0_raiseRow 46 = .ok (.invokestatic 82, 3) := by decide +kernel
theorem dX0_raiseRow_49 : decode cX0_raiseRow 49 = .ok (.ishl, 1) := by decide +kernel
theorem dX0_raiseRow_50 : decode cX0_raiseRow 50 = .ok (.istore 11, 2) := by decide +kernel
theorem dX0_raiseRow_52 : decode cX0_raiseRow 52 = .ok (.iload 11, 2) := by decide +kernel
theorem dX0_raiseRow_54 : decode cX0_raiseRow 54 = .ok (.ifCond .le 61, 3) := by decide +kernel
theorem dX0_raiseRow_57 : decode cX0_raiseRow 57 = .ok (.iload 4, 2) := by decide +kernel
theorem dX0_raiseRow_59 : decode cX0_raiseRow 59 = .ok (.aload_n 0, 1) := by decide +kernel
theorem dX0_raiseRow_60 : decode cX0_raiseRow 60 = .ok (.getfield 9, 3) := by decide +kernel
theorem dX0_raiseRow_63 : decode cX0_raiseRow 63 = .ok (.iload 9, 2) := by decide +kernel
theorem dX0_raiseRow_65 : decode cX0_raiseRow 65 = .ok (.iload 10, 2) := by decide +kernel
theorem dX0_raiseRow_67 : decode cX0_raiseRow 67 = .ok (.iadd, 1) := by decide +kernel
theorem dX0_raiseRow_68 : decode cX0_raiseRow 68 = .ok (.iaload, 1) := by decide +kernel
theorem dX0_raiseRow_69 : decode cX0_raiseRow 69 = .ok (.iadd, 1) := by decide +kernel
theorem dX0_raiseRow_70 : decode cX0_raiseRow 70 = .ok (.istore 12, 2) := by decide +kernel
theorem dX0_raiseRow_72 : decode cX0_raiseRow 72 = .ok (.iload 12, 2) := by decide +kernel
theorem dX0_raiseRow_74 : decode cX0_raiseRow 74 = .ok (.aload_n 0, 1) := by decide +kernel
theorem dX0_raiseRow_75 : decode cX0_raiseRow 75 = .ok (.getfield 9, 3) := by decide +kernel
theorem dX0_raiseRow_78 : decode cX0_raiseRow 78 = .ok (.iload 8, 2) := by decide +kernel
theorem dX0_raiseRow_80 : decode cX0_raiseRow 80 = .ok (.iload 10, 2) := by decide +kernel
theorem dX0_raiseRow_82 : decode cX0_raiseRow 82 = .ok (.iadd, 1) := by decide +kernel
theorem dX0_raiseRow_83 : decode cX0_raiseRow 83 = .ok (.iaload, 1) := by decide +kernel
theorem dX0_raiseRow_84 : decode cX0_raiseRow 84 = .ok (.if_icmp .le 15, 3) := by decide +kernel
theorem dX0_raiseRow_87 : decode cX0_raiseRow 87 = .ok (.aload_n 0, 1) := by decide +kernel
theorem dX0_raiseRow_88 : decode cX0_raiseRow 88 = .ok (.getfield 9, 3) := by decide +kernel
theorem dX0_raiseRow_91 : decode cX0_raiseRow 91 = .ok (.iload 8, 2) := by decide +kernel
theorem dX0_raiseRow_93 : decode cX0_raiseRow 93 = .ok (.iload 10, 2) := by decide +kernel
theorem dX0_raiseRow_95 : decode cX0_raiseRow 95 = .ok (.iadd, 1) := by decide +kernel
theorem dX0_raiseRow_96 : decode cX0_raiseRow 96 = .ok (.iload 12, 2) := by decide +kernel
theorem dX0_raiseRow_98 : decode cX0_raiseRow 98 = .ok (.iastore, 1) := by decide +kernel
theorem dX0_raiseRow_99 : decode cX0_raiseRow 99 = .ok (.iload 10, 2) := by decide +kernel
theorem dX0_raiseRow_101 : decode cX0_raiseRow 101 = .ok (.iload 5, 2) := by decide +kernel
theorem dX0_raiseRow_103 : decode cX0_raiseRow 103 = .ok (.isub, 1) := by decide +kernel
theorem dX0_raiseRow_104 : decode cX0_raiseRow 104 = .ok (.iload 5, 2) := by decide +kernel
theorem dX0_raiseRow_106 : decode cX0_raiseRow 106 = .ok (.iand, 1) := by decide +kernel
theorem dX0_raiseRow_107 : decode cX0_raiseRow 107 = .ok (.istore 10, 2) := by decide +kernel
theorem dX0_raiseRow_109 : decode cX0_raiseRow 109 = .ok (.iinc 11 (-1), 3) := by decide +kernel
theorem dX0_raiseRow_112 : decode cX0_raiseRow 112 = .ok (.goto (-60), 3) := by decide +kernel
theorem dX0_raiseRow_115 : decode cX0_raiseRow 115 = .ok (.return_, 1) := by decide +kernel
theorem ivX0_48 : IV RX0 48 yX0_neededSet cX0_neededSet 3 (some .int) 1 := ⟨(tb_mem (t_in3 (List.mem_of_getElem? (i := 176) (by decide +kernel))) (by decide +kernel)), (tb_mem (t_in3 (List.mem_of_getElem? (i := 177) (by decide +kernel))) (by decide +kernel)), (tb_mem (t_in3 (List.mem_of_getElem? (i := 178) (by decide +kernel))) (by decide +kernel)), (tb_mem (t_in1 (List.mem_of_getElem? (i := 8) (by decide +kernel))) (by decide +kernel)), (tb_mem (t_in3 (List.mem_of_getElem? (i := 179) (by decide +kernel))) (by decide +kernel)), ⟨by decide +kernel, by decide +kernel, by decide +kernel⟩⟩
theorem ivX0_82 : IS RX0 82 yJ6_bitCount_0f7a4 cJ6_bitCount_0f7a4 1 (some .int) 1 := ⟨(tb_mem (t_in3 (List.mem_of_getElem? (i := 195) (by decide +kernel))) (by decide +kernel)), (tb_mem (t_in3 (List.mem_of_getElem? (i := 196) (by decide +kernel))) (by decide +kernel)), (tb_mem (t_in1 (List.mem_of_getElem? (i := 18) (by decide +kernel))) (by decide +kernel)), (tb_mem (t_in3 (List.mem_of_getElem? (i := 197) (by decide +kernel))) (by decide +kernel)), ⟨by decide +kernel, by decide +kernel, by decide +kernel⟩⟩
theorem flX0_9 : FL RX0 9 0 1 := ⟨_, _, _, rfl, by decide, uwX0, Or.inl (tb_mem (t_in1 (List.mem_of_getElem? (i := 213) (by decide +kernel))) (by decide +kernel))⟩
set_option maxHeartbeats 4000000 in
set_option maxRecDepth 20000 in
theorem sgX0_raiseRow_0 {κ : Kx} {K : Kont} {M : Mem} (C : Cx κ RX0 cX0_raiseRow 13 none rmX0_raiseRow domC) (x1 : Int) (x2 : Int) (x3 : Int) (x4 : Int) (x5 : Int)
    (h :
    ∀ y6_9 : Int, y6_9 = bShl 1 (M 5 1 7) →
    spX0_neededSet x1 M (rI (fun r13 M13 =>
    inR (x2 * y6_9) ∧
    inR ((x2 * y6_9) + r13) ∧
    ∀ y8_25 : Int, y8_25 = (x2 * y6_9) + r13 →
    inR (x3 * y6_9) ∧
    inR ((x3 * y6_9) + r13) ∧
    inR (((x3 * y6_9) + r13) + (bShl 1 x1)) ∧
    ∀ y9_38 : Int, y9_38 = ((x3 * y6_9) + r13) + (bShl 1 x1) →
    spJ6_bitCount_0f7a4 x5 M13 (rI (fun r46 M46 =>
    ∀ y11_50 : Int, y11_50 = bShl 1 r46 →
    V κ 13 M46 52 [some (.inr (21, 0)), none, none, none, some (.inl x4), some (.inl x5), none, none, some (.inl y8_25), some (.inl y9_38), some (.inl 0), some (.inl y11_50), none] [] K))))) : V κ 13 M 0 [some (.inr (21, 0)), some (.inl x1), some (.inl x2), some (.inl x3), some (.inl x4), some (.inl x5), none, none, none, none, none, none, none] [] K := by
  refine v_iconst C dX0_raiseRow_0 (by decide) ?_
  refine v_aload_n C dX0_raiseRow_1 rfl ?_
  refine v_get C dX0_raiseRow_2 flX0_15 rfl (by decide) (by decide) (w := .inr (5, 1)) rfl ?_
  refine v_get C dX0_raiseRow_5 flX0_19 rfl (by decide) (by decide) (w := .inl (M 5 1 7)) rfl ?_
  refine v_ishl C dX0_raiseRow_8 ?_
  refine v_nm (fun y6_9 ey6_9 => ?_)
  replace h := h y6_9 ey6_9
  refine v_istore C dX0_raiseRow_9 (by decide) (Nat.le_of_ble_eq_true rfl) (lv' := [some (.inr (21, 0)), some (.inl x1), some (.inl x2), some (.inl x3), some (.inl x4), some (.inl x5), some (.inl y6_9), none, none, none, none, none, none]) rfl ?_
  refine v_aload_n C dX0_raiseRow_11 rfl ?_
  refine v_iload_n C dX0_raiseRow_12 rfl ?_
  refine v_invV C ctX0_neededSet dX0_raiseRow_13 ivX0_48 ⟨by decide, by decide, rfl, rfl⟩ (x1 : Int) (As := [.inl x1]) rfl rfl rfl (by decide) rfl (st := []) rfl (Nat.le_of_ble_eq_true rfl) h (fun o M13 oM13 io13 h => ?_)
  obtain ⟨r13, rfl, h⟩ := rI_out h
  refine v_push ?_
  refine v_istore C dX0_raiseRow_16 (by decide) (Nat.le_of_ble_eq_true rfl) (lv' := [some (.inr (21, 0)), some (.inl x1), some (.inl x2), some (.inl x3), some (.inl x4), some (.inl x5), some (.inl y6_9), some (.inl r13), none, none, none, none, none]) rfl ?_
  refine v_iload_n C dX0_raiseRow_18 rfl ?_
  refine v_iload C dX0_raiseRow_19 rfl ?_
  refine v_imul C dX0_raiseRow_21 h.1 ?_
  replace h := h.2
  refine v_iload C dX0_raiseRow_22 rfl ?_
  refine v_iadd C dX0_raiseRow_24 h.1 ?_
  replace h := h.2
  refine v_nm (fun y8_25 ey8_25 => ?_)
  replace h := h y8_25 ey8_25
  refine v_istore C dX0_raiseRow_25 (by decide) (Nat.le_of_ble_eq_true rfl) (lv' := [some (.inr (21, 0)), some (.inl x1), some (.inl x2), some (.inl x3), some (.inl x4), some (.inl x5), some (.inl y6_9), some (.inl r13), some (.inl y8_25), none, none, none, none]) rfl ?_
  refine v_iload_n C dX0_raiseRow_27 rfl ?_
  refine v_iload C dX0_raiseRow_28 rfl ?_
  refine v_imul C dX0_raiseRow_30 h.1 ?_
  replace h := h.2
  refine v_iload C dX0_raiseRow_31 rfl ?_
  refine v_iadd C dX0_raiseRow_33 h.1 ?_
  replace h := h.2
  refine v_iconst C dX0_raiseRow_34 (by decide) ?_
  refine v_iload_n C dX0_raiseRow_35 rfl ?_
  refine v_ishl C dX0_raiseRow_36 ?_
  refine v_iadd C dX0_raiseRow_37 h.1 ?_
  replace h := h.2
  refine v_nm (fun y9_38 ey9_38 => ?_)
  replace h := h y9_38 ey9_38
  refine v_istore C dX0_raiseRow_38 (by decide) (Nat.le_of_ble_eq_true rfl) (lv' := [some (.inr (21, 0)), some (.inl x1), some (.inl x2), some (.inl x3), some (.inl x4), some (.inl x5), some (.inl y6_9), some (.inl r13), some (.inl y8_25), some (.inl y9_38), none, none, none]) rfl ?_
  refine v_iconst C dX0_raiseRow_40 (by decide) ?_
  refine v_istore C dX0_raiseRow_41 (by decide) (Nat.le_of_ble_eq_true rfl) (lv' := [some (.inr (21, 0)), some (.inl x1), some (.inl x2), some (.inl x3), some (.inl x4), some (.inl x5), some (.inl y6_9), some (.inl r13), some (.inl y8_25), some (.inl y9_38), some (.inl 0), none, none]) rfl ?_
  refine v_iconst C dX0_raiseRow_43 (by decide) ?_
  refine v_iload C dX0_raiseRow_44 rfl ?_
  refine v_invS C ctJ6_bitCount_0f7a4 dX0_raiseRow_46 ivX0_82 ⟨by decide, by decide, rfl, rfl⟩ (x5 : Int) rfl (st := [.inl 1]) rfl (Nat.le_of_ble_eq_true rfl) h (fun o M46 oM46 io46 h => ?_)
  obtain ⟨r46, rfl, h⟩ := rI_out h
  refine v_push ?_
  refine v_ishl C dX0_raiseRow_49 ?_
  refine v_nm (fun y11_50 ey11_50 => ?_)
  replace h := h y11_50 ey11_50
  refine v_istore C dX0_raiseRow_50 (by decide) (Nat.le_of_ble_eq_true rfl) (lv' := [some (.inr (21, 0)), some (.inl x1), some (.inl x2), some (.inl x3), some (.inl x4), some (.inl x5), some (.inl y6_9), some (.inl r13), some (.inl y8_25), some (.inl y9_38), some (.inl 0), some (.inl y11_50), none]) rfl ?_
  refine v_weak [some (.inr (21, 0)), none, none, none, some (.inl x4), some (.inl x5), none, none, some (.inl y8_25), some (.inl y9_38), some (.inl 0), some (.inl y11_50), none] ⟨rfl, rfl, rfl, rfl, rfl, rfl, rfl, trivial⟩ ?_
  exact h
set_option maxHeartbeats 4000000 in
set_option maxRecDepth 20000 in
theorem sgX0_raiseRow_52 {κ : Kx} {K : Kont} {M : Mem} (C : Cx κ RX0 cX0_raiseRow 13 none rmX0_raiseRow domC) (x4 : Int) (x5 : Int) (x8 : Int) (x9 : Int) (x10 : Int) (x11 : Int)
    (h :
    ((x11 ≤ 0 →
      K none M) ∧
     (¬ (x11 ≤ 0) →
      inR (x9 + x10) ∧
      (0 ≤ (x9 + x10) ∧ (x9 + x10) < 12928) ∧
      inR (x4 + (M 22 0 (x9 + x10))) ∧
      ∀ y12_70 : Int, y12_70 = x4 + (M 22 0 (x9 + x10)) →
      inR (x8 + x10) ∧
      (0 ≤ (x8 + x10) ∧ (x8 + x10) < 12928) ∧
      ((y12_70 ≤ (M 22 0 (x8 + x10)) →
        inR (x10 - x5) ∧
        ∀ y10_107 : Int, y10_107 = bAnd (x10 - x5) x5 →
        inR (x11 + (-1)) ∧
        V κ 13 M 52 [some (.inr (21, 0)), none, none, none, some (.inl x4), some (.inl x5), none, none, some (.inl x8), some (.inl x9), some (.inl y10_107), some (.inl (x11 + (-1))), none] [] K) ∧
       (¬ (y12_70 ≤ (M 22 0 (x8 + x10))) →
        inR (x8 + x10) ∧
        (0 ≤ (x8 + x10) ∧ (x8 + x10) < 12928) ∧
        ∀ M98 : Mem, M98 = up3 M 22 0 (x8 + x10) y12_70 →
        inR (x10 - x5) ∧
        ∀ y10_107 : Int, y10_107 = bAnd (x10 - x5) x5 →
        inR (x11 + (-1)) ∧
        V κ 13 M98 52 [some (.inr (21, 0)), none, none, none, some (.inl x4), some (.inl x5), none, none, some (.inl x8), some (.inl x9), some (.inl y10_107), some (.inl (x11 + (-1))), none] [] K))))) : V κ 13 M 52 [some (.inr (21, 0)), none, none, none, some (.inl x4), some (.inl x5), none, none, some (.inl x8), some (.inl x9), some (.inl x10), some (.inl x11), none] [] K := by
  refine v_iload C dX0_raiseRow_52 rfl ?_
  refine v_if C dX0_raiseRow_54 (tgt := 115) (by decide) (P := x11 ≤ 0) rfl (fun c54 => ?_) (fun c54 => ?_)
  · replace h := h.1 c54
    exact v_vret C dX0_raiseRow_115 h
  · replace h := h.2 c54
    refine v_iload C dX0_raiseRow_57 rfl ?_
    refine v_aload_n C dX0_raiseRow_59 rfl ?_
    refine v_get C dX0_raiseRow_60 flX0_9 rfl (by decide) (by decide) (w := .inr (22, 0)) rfl ?_
    refine v_iload C dX0_raiseRow_63 rfl ?_
    refine v_iload C dX0_raiseRow_65 rfl ?_
    refine v_iadd C dX0_raiseRow_67 h.1 ?_
    replace h := h.2
    refine v_iald C dX0_raiseRow_68 rfl h.1.1 h.1.2 ?_
    replace h := h.2
    refine v_iadd C dX0_raiseRow_69 h.1 ?_
    replace h := h.2
    refine v_nm (fun y12_70 ey12_70 => ?_)
    replace h := h y12_70 ey12_70
    refine v_istore C dX0_raiseRow_70 (by decide) (Nat.le_of_ble_eq_true rfl) (lv' := [some (.inr (21, 0)), none, none, none, some (.inl x4), some (.inl x5), none, none, some (.inl x8), some (.inl x9), some (.inl x10), some (.inl x11), some (.inl y12_70)]) rfl ?_
    refine v_iload C dX0_raiseRow_72 rfl ?_
    refine v_aload_n C dX0_raiseRow_74 rfl ?_
    refine v_get C dX0_raiseRow_75 flX0_9 rfl (by decide) (by decide) (w := .inr (22, 0)) rfl ?_
    refine v_iload C dX0_raiseRow_78 rfl ?_
    refine v_iload C dX0_raiseRow_80 rfl ?_
    refine v_iadd C dX0_raiseRow_82 h.1 ?_
    replace h := h.2
    refine v_iald C dX0_raiseRow_83 rfl h.1.1 h.1.2 ?_
    replace h := h.2
    refine v_icmp C dX0_raiseRow_84 (tgt := 99) (by decide) (P := y12_70 ≤ (M 22 0 (x8 + x10))) rfl (fun c84 => ?_) (fun c84 => ?_)
    · replace h := h.1 c84
      refine v_iload C dX0_raiseRow_99 rfl ?_
      refine v_iload C dX0_raiseRow_101 rfl ?_
      refine v_isub C dX0_raiseRow_103 h.1 ?_
      replace h := h.2
      refine v_iload C dX0_raiseRow_104 rfl ?_
      refine v_iand C dX0_raiseRow_106 ?_
      refine v_nm (fun y10_107 ey10_107 => ?_)
      replace h := h y10_107 ey10_107
      refine v_istore C dX0_raiseRow_107 (by decide) (Nat.le_of_ble_eq_true rfl) (lv' := [some (.inr (21, 0)), none, none, none, some (.inl x4), some (.inl x5), none, none, some (.inl x8), some (.inl x9), some (.inl y10_107), some (.inl x11), some (.inl y12_70)]) rfl ?_
      refine v_iinc C dX0_raiseRow_109 (by decide) rfl h.1 (lv' := [some (.inr (21, 0)), none, none, none, some (.inl x4), some (.inl x5), none, none, some (.inl x8), some (.inl x9), some (.inl y10_107), some (.inl (x11 + (-1))), some (.inl y12_70)]) rfl ?_
      replace h := h.2
      refine v_goto C dX0_raiseRow_112 (tgt := 52) (by decide) ?_
      refine v_weak [some (.inr (21, 0)), none, none, none, some (.inl x4), some (.inl x5), none, none, some (.inl x8), some (.inl x9), some (.inl y10_107), some (.inl (x11 + (-1))), none] ⟨rfl, rfl, rfl, rfl, rfl, rfl, rfl, trivial⟩ ?_
      exact h
    · replace h := h.2 c84
      refine v_aload_n C dX0_raiseRow_87 rfl ?_
      refine v_get C dX0_raiseRow_88 flX0_9 rfl (by decide) (by decide) (w := .inr (22, 0)) rfl ?_
      refine v_iload C dX0_raiseRow_91 rfl ?_
      refine v_iload C dX0_raiseRow_93 rfl ?_
      refine v_iadd C dX0_raiseRow_95 h.1 ?_
      replace h := h.2
      refine v_iload C dX0_raiseRow_96 rfl ?_
      refine v_iast C dX0_raiseRow_98 rfl h.1.1 h.1.2 ?_
      replace h := h.2
      refine v_nmM (fun M98 eM98 => ?_)
      replace h := h M98 eM98
      refine v_iload C dX0_raiseRow_99 rfl ?_
      refine v_iload C dX0_raiseRow_101 rfl ?_
      refine v_isub C dX0_raiseRow_103 h.1 ?_
      replace h := h.2
      refine v_iload C dX0_raiseRow_104 rfl ?_
      refine v_iand C dX0_raiseRow_106 ?_
      refine v_nm (fun y10_107 ey10_107 => ?_)
      replace h := h y10_107 ey10_107
      refine v_istore C dX0_raiseRow_107 (by decide) (Nat.le_of_ble_eq_true rfl) (lv' := [some (.inr (21, 0)), none, none, none, some (.inl x4), some (.inl x5), none, none, some (.inl x8), some (.inl x9), some (.inl y10_107), some (.inl x11), some (.inl y12_70)]) rfl ?_
      refine v_iinc C dX0_raiseRow_109 (by decide) rfl h.1 (lv' := [some (.inr (21, 0)), none, none, none, some (.inl x4), some (.inl x5), none, none, some (.inl x8), some (.inl x9), some (.inl y10_107), some (.inl (x11 + (-1))), some (.inl y12_70)]) rfl ?_
      replace h := h.2
      refine v_goto C dX0_raiseRow_112 (tgt := 52) (by decide) ?_
      refine v_weak [some (.inr (21, 0)), none, none, none, some (.inl x4), some (.inl x5), none, none, some (.inl x8), some (.inl x9), some (.inl y10_107), some (.inl (x11 + (-1))), none] ⟨rfl, rfl, rfl, rfl, rfl, rfl, rfl, trivial⟩ ?_
      exact h
abbrev spX0_raiseRow (p t nx g rest : Int) (M : Mem) (K : Kont) : Prop := (WFf (cFilm M 1) ∧ (0 ≤ p ∧ p < M 5 1 7) ∧ (0 ≤ t ∧ t < nx ∧ nx ≤ M 5 1 0) ∧ (-2000 ≤ g ∧ g ≤ 2000) ∧ (0 ≤ rest ∧ rest < 128 ∧ ndS (cFilm M 1) p + bShl 1 p + rest < bShl 1 (M 5 1 7)) ∧
    (∀ s : Int, 0 ≤ s → s < bShl 1 (M 5 1 7) → 0 ≤ M 22 0 (nx * bShl 1 (M 5 1 7) + s) ∧ M 22 0 (nx * bShl 1 (M 5 1 7) + s) ≤ 200000)) ∧
  ∀ M', AgB M M' → (∀ s : Nat, s &&& rest.toNat = s → M' 22 0 (t * bShl 1 (M 5 1 7) + ndS (cFilm M 1) p + s) = max (M 22 0 (t * bShl 1 (M 5 1 7) + ndS (cFilm M 1) p + s)) (g + M 22 0 (nx * bShl 1 (M 5 1 7) + ndS (cFilm M 1) p + bShl 1 p + s))) →
    (∀ j, (∀ s : Nat, s &&& rest.toNat = s → j ≠ t * bShl 1 (M 5 1 7) + ndS (cFilm M 1) p + s) → M' 22 0 j = M 22 0 j) → K none M'
theorem ndS_rng {F : Film} (hf : WFf F) {p : Int} (hp : 0 ≤ p) (hp2 : p < F 3 0 0) : 0 ≤ ndS F p ∧ ndS F p ≤ 64 := by
  have w := wf_p hf hp hp2
  unfold ndS
  split
  · omega
  · have h1 := shl_le7 (k := F 12 p 0) (by omega) (by omega)
    have h2 := shl_lt (k := F 12 p 0) (n := 7) (by omega) (by omega) (by omega)
    have h3 := shl_le7 (k := 7) (by omega) (by omega)
    omega
theorem sub_le {s r : Nat} (h : s &&& r = s) : s ≤ r := by
  have : s &&& r ≤ r := Nat.and_le_right
  omega
theorem ctX0_raiseRow : CtX0_raiseRow spX0_raiseRow := by
  refine ct_of (by decide) dmC (fun _ => Nat.le_of_ble_eq_true rfl) ?_
  intro κ a M K C oM h
  obtain ⟨p, t, nx, g, rest⟩ := a
  dsimp only [spX0_raiseRow] at h
  obtain ⟨⟨hf, hp, ht, hg, hr, htb⟩, hk⟩ := h
  have hT := hf.1
  have hnP := hf.2.2.2.1
  have hnd := ndS_rng hf hp.1 hp.2
  simp only [cFilm] at hT hnP
  have hw := shl_le7 (k := M 5 1 7) (by omega) (by omega)
  have hsp := shl_le7 (k := p) hp.1 (by omega)
  generalize hW : bShl 1 (M 5 1 7) = w at *
  generalize hN : ndS (cFilm M 1) p = nd at *
  generalize hQ : bShl 1 p = own at *
  have m1 := mul_rng (a := t) (b := w) (A := 100) (B := 128) ht.1 (by omega) (by omega) hw.2
  have m2 := mul_rng (a := nx) (b := w) (A := 100) (B := 128) (by omega) (by omega) (by omega) hw.2
  have m3 : t * w + w ≤ nx * w := by
    have : (t + 1) * w ≤ nx * w := Int.mul_le_mul_of_nonneg_right (by omega) (by omega)
    rw [Int.add_mul, Int.one_mul] at this
    exact this
  have m4 : nx * w + w ≤ 12928 := by
    have : (nx + 1) * w ≤ 101 * 128 := Int.mul_le_mul (by omega) hw.2 (by omega) (by omega)
    rw [Int.add_mul, Int.one_mul] at this
    omega
  have pn := pop_le rest.toNat (by omega)
  have loop : ∀ (n k : Nat) (N : Mem), k + n = 2 ^ popN rest.toNat → AgB M N → (∀ j, j < k → N 22 0 (t * w + nd + sqP rest.toNat j) = max (M 22 0 (t * w + nd + sqP rest.toNat j)) (g + M 22 0 (nx * w + nd + own + sqP rest.toNat j))) →
      (∀ j, (∀ i, i < k → j ≠ t * w + nd + sqP rest.toNat i) → N 22 0 j = M 22 0 j) →
      V κ 13 N 52 [some (.inr (21, 0)), none, none, none, some (.inl g), some (.inl rest), none, none, some (.inl (t * w + nd)), some (.inl (nx * w + nd + own)), some (.inl (sqP rest.toNat k : Int)), some (.inl (n : Int)), none] [] K := by
    intro n
    induction n with
    | zero =>
      intro k N hn hA h1 h2
      refine sgX0_raiseRow_52 C _ _ _ _ _ _ ⟨fun c => ?_, fun c => absurd (by omega) c⟩
      refine hk N hA (fun s hs => ?_) (fun j hj => h2 j (fun i hi => hj _ (sqP_sub _ i)))
      obtain ⟨i, hi, e⟩ := parts_all (rest := rest.toNat) (s := s) (by omega) hs
      rw [← e]
      exact h1 i (by omega)
    | succ n ih =>
      intro k N hn hA h1 h2
      have hle := sub_le (sqP_sub rest.toNat k)
      have hnx : N 22 0 (nx * w + nd + own + sqP rest.toNat k) = M 22 0 (nx * w + nd + own + sqP rest.toNat k) := by
        refine h2 _ (fun i hi => ?_)
        have := sub_le (sqP_sub rest.toNat i)
        omega
      have hbd := htb (nd + own + sqP rest.toNat k) (by omega) (by omega)
      have e9 : nx * w + (nd + own + (sqP rest.toNat k : Int)) = nx * w + nd + own + sqP rest.toNat k := by omega
      rw [e9] at hbd
      have hsq : bAnd ((sqP rest.toNat k : Int) - rest) rest = (sqP rest.toNat (k + 1) : Int) := by
        have := bAnd_sub (a := sqP rest.toNat k) (r := rest.toNat) (by omega) (by omega)
        rw [oi_nat hr.1] at this
        exact this
      have hpw : 2 ^ popN rest.toNat ≤ 2 ^ 7 := Nat.pow_le_pow_right (by decide) pn
      -- what the place holds behind this part
      have old : N 22 0 (t * w + nd + sqP rest.toNat k) = M 22 0 (t * w + nd + sqP rest.toNat k) ∨ N 22 0 (t * w + nd + sqP rest.toNat k) = max (M 22 0 (t * w + nd + sqP rest.toNat k)) (g + M 22 0 (nx * w + nd + own + sqP rest.toNat k)) := by
        by_cases hv : ∃ i, i < k ∧ sqP rest.toNat i = sqP rest.toNat k
        · obtain ⟨i, hi, e⟩ := hv
          right
          rw [← e]
          exact h1 i hi
        · left
          refine h2 _ (fun i hi z => hv ⟨i, hi, by omega⟩)
      have fin : ∀ N2 : Mem, AgB N N2 → N2 22 0 (t * w + nd + sqP rest.toNat k) = max (M 22 0 (t * w + nd + sqP rest.toNat k)) (g + M 22 0 (nx * w + nd + own + sqP rest.toNat k)) → (∀ j, j ≠ t * w + nd + sqP rest.toNat k → N2 22 0 j = N 22 0 j) →
          inR ((sqP rest.toNat k : Int) - rest) ∧ ∀ y10 : Int, y10 = bAnd ((sqP rest.toNat k : Int) - rest) rest → inR (((n + 1 : Nat) : Int) + (-1)) ∧
          V κ 13 N2 52 [some (.inr (21, 0)), none, none, none, some (.inl g), some (.inl rest), none, none, some (.inl (t * w + nd)), some (.inl (nx * w + nd + own)), some (.inl y10), some (.inl (((n + 1 : Nat) : Int) + (-1))), none] [] K := by
        intro N2 hA2 hv ho
        refine ⟨by omega, fun y ey => ⟨by omega, ?_⟩⟩
        have en : ((n + 1 : Nat) : Int) + (-1) = (n : Int) := by omega
        rw [ey, hsq, en]
        refine ih (k + 1) N2 (by omega) (hA.tr hA2) (fun j hj => ?_) (fun j hj => ?_)
        · by_cases e : sqP rest.toNat j = sqP rest.toNat k
          · rw [e]; exact hv
          · rw [ho _ (by omega)]
            exact h1 j (by
              rcases Nat.lt_or_ge j k with q | q
              · exact q
              · have : j = k := by omega
                rw [this] at e
                exact absurd rfl e)
        · rw [ho j (hj k (by omega))]
          exact h2 j (fun i hi => hj i (by omega))
      refine sgX0_raiseRow_52 C _ _ _ _ _ _ ⟨fun c => absurd c (by omega), fun c => ⟨by omega, by omega, by rw [hnx]; omega, fun y ey => ⟨by omega, by omega, fun c2 => ?_, fun c2 => ⟨by omega, by omega, fun N2 eN2 => ?_⟩⟩⟩⟩
      · rw [hnx] at ey
        refine fin N AgB.rf ?_ (fun _ _ => rfl)
        rcases old with o | o
        · omega
        · exact o
      · rw [hnx] at ey
        rw [eN2]
        refine fin _ (AgB.up _ _ _) ?_ (fun j hj => up3_j _ _ _ _ _ hj)
        rw [up3_s, ey]
        rcases old with o | o <;> omega
  have tw : t * w ≤ 12800 := by omega
  refine sgX0_raiseRow_0 C p t nx g rest (fun y6 ey6 => ?_)
  rw [hW] at ey6
  rw [ey6]
  refine ⟨by omega, ?_⟩
  show inR (t * w) ∧ inR (t * w + ndS (cFilm M 1) p) ∧ _
  rw [hN]
  refine ⟨by omega, by omega, fun y8 ey8 => ⟨by omega, by omega, ?_, fun y9 ey9 => ⟨by omega, fun y11 ey11 => ?_⟩⟩⟩
  · rw [hQ]
    omega
  · rw [hQ] at ey9
    rw [ey8, ey9, ey11]
    have e11 : bShl 1 (popN rest.toNat : Int) = ((2 ^ popN rest.toNat : Nat) : Int) := bShl_key _ (by omega)
    rw [e11]
    exact loop (2 ^ popN rest.toNat) 0 M (by omega) AgB.rf (fun j hj => by omega) (fun j hj => rfl)
