/-! ===== Plan, continued ===== -/
/-! ===== GapTellings$Plan.copyFrom ===== -/
abbrev rmX4_copyFrom : Room := { frames := 1, cells := 0, slots := 0, locals := 26 }
abbrev argX4_copyFrom (a : Int × Int) : List PV := [.inr (18, a.1), .inr (18, a.2)]
abbrev CtX4_copyFrom (sp : Int → Int → Mem → Kont → Prop) : Prop := Ct yX4_copyFrom cX4_copyFrom 2 none rmX4_copyFrom domC argX4_copyFrom (fun a => sp a.1 a.2)
theorem dX4_copyFrom_0 : decode cX4_copyFrom 0 = .ok (.aload_n 1, 1) := by decide +kernel
theorem dX4_copyFrom_1 : decode cX4_copyFrom 1 = .ok (.getfield 9, 3) := by decide +kernel
theorem dX4_copyFrom_4 : decode cX4_copyFrom 4 = .ok (.iconst 0, 1) := by decide +kernel
theorem dX4_copyFrom_5 : decode cX4_copyFrom 5 = .ok (.aload_n 0, 1) := by decide +kernel
theorem dX4_copyFrom_6 : decode cX4_copyFrom 6 = .ok (.getfield 9, 3) := by decide +kernel
theorem dX4_copyFrom_9 : decode cX4_copyFrom 9 = .ok (.iconst 0, 1) := by decide +kernel
theorem dX4_copyFrom_10 : decode cX4_copyFrom 10 = .ok (.bipush 7, 2) := by decide +kernel
theorem dX4_copyFrom_12 : decode cX4_copyFrom 12 = .ok (.invokestatic 28, 3) := by decide +kernel
theorem dX4_copyFrom_15 : decode cX4_copyFrom 15 = .ok (.aload_n 1, 1) := by decide +kernel
theorem dX4_copyFrom_16 : decode cX4_copyFrom 16 = .ok (.getfield 15, 3) := by decide +kernel
theorem dX4_copyFrom_19 : decode cX4_copyFrom 19 = .ok (.iconst 0, 1) := by decide +kernel
theorem dX4_copyFrom_20 : decode cX4_copyFrom 20 = .ok (.aload_n 0, 1) := by decide +kernel
theorem dX4_copyFrom_21 : decode cX4_copyFrom 21 = .ok (.getfield 15, 3) := by decide +kernel
theorem dX4_copyFrom_24 : decode cX4_copyFrom 24 = .ok (.iconst 0, 1) := by decide +kernel
theorem dX4_copyFrom_25 : decode cX4_copyFrom 25 = .ok (.bipush 7, 2) := by decide +kernel
theorem dX4_copyFrom_27 : decode cX4_copyFrom 27 = .ok (.invokestatic 28, 3) := by decide +kernel
theorem dX4_copyFrom_30 : decode cX4_copyFrom 30 = .ok (.return_, 1) := by decide +kernel
theorem ivX4_28 : ICp RX4 28 := ⟨(tb_mem (t_in3 (List.mem_of_getElem? (i := 215) (by decide +kernel))) (by decide +kernel)), (tb_mem (t_in3 (List.mem_of_getElem? (i := 170) (by decide +kernel))) (by decide +kernel)), (tb_mem (t_in3 (List.mem_of_getElem? (i := 169) (by decide +kernel))) (by decide +kernel)), (tb_mem (t_in1 (List.mem_of_getElem? (i := 17) (by decide +kernel))) (by decide +kernel))⟩
set_option maxHeartbeats 4000000 in
set_option maxRecDepth 20000 in
theorem sgX4_copyFrom_0 {κ : Kx} {K : Kont} {M : Mem} (C : Cx κ RX4 cX4_copyFrom 2 none rmX4_copyFrom domC) (i0 : Int) (i1 : Int)
    (h :
    ∀ M12 : Mem, M12 = cpyM M 19 i1 0 19 i0 0 7 →
    ∀ M27 : Mem, M27 = cpyM M12 20 i1 0 20 i0 0 7 →
    K none M27) : V κ 2 M 0 [some (.inr (18, i0)), some (.inr (18, i1))] [] K := by
  refine v_aload_n C dX4_copyFrom_0 rfl ?_
  refine v_get C dX4_copyFrom_1 flX4_9 rfl (by decide) (by decide) (w := .inr (19, i1)) rfl ?_
  refine v_iconst C dX4_copyFrom_4 (by decide) ?_
  refine v_aload_n C dX4_copyFrom_5 rfl ?_
  refine v_get C dX4_copyFrom_6 flX4_9 rfl (by decide) (by decide) (w := .inr (19, i0)) rfl ?_
  refine v_iconst C dX4_copyFrom_9 (by decide) ?_
  refine v_bipush C dX4_copyFrom_10 (by decide) (by decide) ?_
  refine v_copy C dX4_copyFrom_12 ivX4_28 rfl rfl (by decide) (by decide) (by decide) (by decide) (by decide) (Nat.le_of_ble_eq_true rfl) ⟨by decide, by decide⟩ ?_
  refine v_nmM (fun M12 eM12 => ?_)
  replace h := h M12 eM12
  refine v_aload_n C dX4_copyFrom_15 rfl ?_
  refine v_get C dX4_copyFrom_16 flX4_15 rfl (by decide) (by decide) (w := .inr (20, i1)) rfl ?_
  refine v_iconst C dX4_copyFrom_19 (by decide) ?_
  refine v_aload_n C dX4_copyFrom_20 rfl ?_
  refine v_get C dX4_copyFrom_21 flX4_15 rfl (by decide) (by decide) (w := .inr (20, i0)) rfl ?_
  refine v_iconst C dX4_copyFrom_24 (by decide) ?_
  refine v_bipush C dX4_copyFrom_25 (by decide) (by decide) ?_
  refine v_copy C dX4_copyFrom_27 ivX4_28 rfl rfl (by decide) (by decide) (by decide) (by decide) (by decide) (Nat.le_of_ble_eq_true rfl) ⟨by decide, by decide⟩ ?_
  refine v_nmM (fun M27 eM27 => ?_)
  replace h := h M27 eM27
  exact v_vret C dX4_copyFrom_30 h
abbrev spX4_copyFrom (pl po : Int) (M : Mem) (K : Kont) : Prop := K none (cpyM (cpyM M 19 po 0 19 pl 0 7) 20 po 0 20 pl 0 7)
theorem ctX4_copyFrom : CtX4_copyFrom spX4_copyFrom := by
  refine ct_of (by decide) dmC (fun _ => Nat.le_of_ble_eq_true rfl) ?_
  intro κ a M K C oM h
  obtain ⟨pl, po⟩ := a
  exact sgX4_copyFrom_0 C pl po (fun M1 e1 M2 e2 => by rw [e2, e1]; exact h)
/-! ===== GapTellings$Plan.lowestFaulty ===== -/
abbrev rmX4_lowestFaulty : Room := { frames := 3, cells := 0, slots := 0, locals := 72 }
abbrev argX4_lowestFaulty (a : Int × Int) : List PV := [.inr (18, a.1), .inr (14, a.2)]
abbrev CtX4_lowestFaulty (sp : Int → Int → Mem → Kont → Prop) : Prop := Ct yX4_lowestFaulty cX4_lowestFaulty 3 (some .int) rmX4_lowestFaulty domC argX4_lowestFaulty (fun a => sp a.1 a.2)
theorem dX4_lowestFaulty_0 : decode cX4_lowestFaulty 0 = .ok (.iconst 0, 1) := by decide +kernel
theorem dX4_lowestFaulty_1 : decode cX4_lowestFaulty 1 = .ok (.istore_n 2, 1) := by decide +kernel
theorem dX4_lowestFaulty_2 : decode cX4_lowestFaulty 2 = .ok (.iload_n 2, 1) := by decide +kernel
theorem dX4_lowestFaulty_3 : decode cX4_lowestFaulty 3 = .ok (.aload_n 0, 1) := by decide +kernel
theorem dX4_lowestFaulty_4 : decode cX4_lowestFaulty 4 = .ok (.getfield 18, 3) := by decide +kernel
theorem dX4_lowestFaulty_7 : decode cX4_lowestFaulty 7 = .ok (.getfield 34, 3) := by decide +kernel
theorem dX4_lowestFaulty_10 : decode cX4_lowestFaulty 10 = .ok (.if_icmp .ge 40, 3) := by decide +kernel
theorem dX4_lowestFaulty_13 : decode cX4_lowestFaulty 13 = .ok (.aload_n 0, 1) := by decide +kernel
theorem dX4_lowestFaulty_14 : decode cX4_lowestFaulty 14 = .ok (.iload_n 2, 1) := by decide +kernel
theorem dX4_lowestFaulty_15 : decode cX4_lowestFaulty 15 = .ok (.invokevirtual 40, 3) := by decide +kernel
theorem dX4_lowestFaulty_18 : decode cX4_lowestFaulty 18 = .ok (.ifCond .eq 26, 3) := by decide +kernel
theorem dX4_lowestFaulty_21 : decode cX4_lowestFaulty 21 = .ok (.aload_n 0, 1) := by decide +kernel
theorem dX4_lowestFaulty_22 : decode cX4_lowestFaulty 22 = .ok (.aload_n 1, 1) := by decide +kernel
theorem dX4_lowestFaulty_23 : decode cX4_lowestFaulty 23 = .ok (.iload_n 2, 1) := by decide +kernel
theorem dX4_lowestFaulty_24 : decode cX4_lowestFaulty 24 = .ok (.aload_n 0, 1) := by decide +kernel
theorem dX4_lowestFaulty_25 : decode cX4_lowestFaulty 25 = .ok (.getfield 9, 3) := by decide +kernel
theorem dX4_lowestFaulty_28 : decode cX4_lowestFaulty 28 = .ok (.iload_n 2, 1) := by decide +kernel
theorem dX4_lowestFaulty_29 : decode cX4_lowestFaulty 29 = .ok (.iaload, 1) := by decide +kernel
theorem dX4_lowestFaulty_30 : decode cX4_lowestFaulty 30 = .ok (.aload_n 0, 1) := by decide +kernel
theorem dX4_lowestFaulty_31 : decode cX4_lowestFaulty 31 = .ok (.getfield 15, 3) := by decide +kernel
theorem dX4_lowestFaulty_34 : decode cX4_lowestFaulty 34 = .ok (.iload_n 2, 1) := by decide +kernel
theorem dX4_lowestFaulty_35 : decode cX4_lowestFaulty 35 = .ok (.iaload, 1) := by decide +kernel
theorem dX4_lowestFaulty_36 : decode cX4_lowestFaulty 36 = .ok (.invokevirtual 80, 3) := by decide +kernel
theorem dX4_lowestFaulty_39 : decode cX4_lowestFaulty 39 = .ok (.ifCond .eq 5, 3) := by decide +kernel
theorem dX4_lowestFaulty_42 : decode cX4_lowestFaulty 42 = .ok (.iload_n 2, 1) := by decide +kernel
theorem dX4_lowestFaulty_43 : decode cX4_lowestFaulty 43 = .ok (.ireturn, 1) := by decide +kernel
theorem dX4_lowestFaulty_44 : decode cX4_lowestFaulty 44 = .ok (.iinc 2 1, 3) := by decide +kernel
theorem dX4_lowestFaulty_47 : decode cX4_lowestFaulty 47 = .ok (.goto (-45), 3) := by decide +kernel
theorem dX4_lowestFaulty_50 : decode cX4_lowestFaulty 50 = .ok (.bipush (-4), 2) := by decide +kernel
theorem dX4_lowestFaulty_52 : decode cX4_lowestFaulty 52 = .ok (.ireturn, 1) := by decide +kernel
theorem ivX4_80 : IV RX4 80 yX4_whyNot cX4_whyNot 6 (some .int) 4 := ⟨(tb_mem (t_in3 (List.mem_of_getElem? (i := 57) (by decide +kernel))) (by decide +kernel)), (tb_mem (t_in3 (List.mem_of_getElem? (i := 58) (by decide +kernel))) (by decide +kernel)), (tb_mem (t_in3 (List.mem_of_getElem? (i := 59) (by decide +kernel))) (by decide +kernel)), (tb_mem (t_in1 (List.mem_of_getElem? (i := 6) (by decide +kernel))) (by decide +kernel)), (tb_mem (t_in3 (List.mem_of_getElem? (i := 60) (by decide +kernel))) (by decide +kernel)), ⟨by decide +kernel, by decide +kernel, by decide +kernel⟩⟩
set_option maxHeartbeats 4000000 in
set_option maxRecDepth 20000 in
theorem sgX4_lowestFaulty_0 {κ : Kx} {K : Kont} {M : Mem} (C : Cx κ RX4 cX4_lowestFaulty 3 (some .int) rmX4_lowestFaulty domC) (i0 : Int) (i1 : Int)
    (h :
    V κ 3 M 2 [some (.inr (18, i0)), some (.inr (14, i1)), some (.inl 0)] [] K) : V κ 3 M 0 [some (.inr (18, i0)), some (.inr (14, i1)), none] [] K := by
  refine v_iconst C dX4_lowestFaulty_0 (by decide) ?_
  refine v_istore_n C dX4_lowestFaulty_1 (by decide) (Nat.le_of_ble_eq_true rfl) (lv' := [some (.inr (18, i0)), some (.inr (14, i1)), some (.inl 0)]) rfl ?_
  refine v_weak [some (.inr (18, i0)), some (.inr (14, i1)), some (.inl 0)] ⟨rfl, rfl, rfl, trivial⟩ ?_
  exact h
set_option maxHeartbeats 4000000 in
set_option maxRecDepth 20000 in
theorem sgX4_lowestFaulty_2 {κ : Kx} {K : Kont} {M : Mem} (C : Cx κ RX4 cX4_lowestFaulty 3 (some .int) rmX4_lowestFaulty domC) (i0 : Int) (i1 : Int) (x2 : Int)
    (h :
    (((M 5 1 7) ≤ x2 →
      K (some (-4)) M) ∧
     (¬ ((M 5 1 7) ≤ x2) →
      spX4_has i0 x2 M (rI (fun r15 M15 =>
      ((r15 = 0 →
        inR (x2 + 1) ∧
        V κ 3 M15 2 [some (.inr (18, i0)), some (.inr (14, i1)), some (.inl (x2 + 1))] [] K) ∧
       (¬ (r15 = 0) →
        (0 ≤ x2 ∧ x2 < 7) ∧
        (0 ≤ x2 ∧ x2 < 7) ∧
        spX4_whyNot i0 i1 x2 (M15 19 i0 x2) (M15 20 i0 x2) M15 (rI (fun r36 M36 =>
        ((r36 = 0 →
          inR (x2 + 1) ∧
          V κ 3 M36 2 [some (.inr (18, i0)), some (.inr (14, i1)), some (.inl (x2 + 1))] [] K) ∧
         (¬ (r36 = 0) →
          K (some x2) M36))))))))))) : V κ 3 M 2 [some (.inr (18, i0)), some (.inr (14, i1)), some (.inl x2)] [] K := by
  refine v_iload_n C dX4_lowestFaulty_2 rfl ?_
  refine v_aload_n C dX4_lowestFaulty_3 rfl ?_
  refine v_get C dX4_lowestFaulty_4 flX4_18 rfl (by decide) (by decide) (w := .inr (5, 1)) rfl ?_
  refine v_get C dX4_lowestFaulty_7 flX4_34 rfl (by decide) (by decide) (w := .inl (M 5 1 7)) rfl ?_
  refine v_icmp C dX4_lowestFaulty_10 (tgt := 50) (by decide) (P := (M 5 1 7) ≤ x2) rfl (fun c10 => ?_) (fun c10 => ?_)
  · replace h := h.1 c10
    refine v_bipush C dX4_lowestFaulty_50 (by decide) (by decide) ?_
    exact v_iret C dX4_lowestFaulty_52 h
  · replace h := h.2 c10
    refine v_aload_n C dX4_lowestFaulty_13 rfl ?_
    refine v_iload_n C dX4_lowestFaulty_14 rfl ?_
    refine v_invV C ctX4_has dX4_lowestFaulty_15 ivX4_40 ⟨by decide, by decide, rfl, rfl⟩ ((i0, x2) : Int × Int) (As := [.inl x2]) rfl rfl rfl (by decide) rfl (st := []) rfl (Nat.le_of_ble_eq_true rfl) h (fun o M15 oM15 io15 h => ?_)
    obtain ⟨r15, rfl, h⟩ := rI_out h
    refine v_push ?_
    refine v_if C dX4_lowestFaulty_18 (tgt := 44) (by decide) (P := r15 = 0) rfl (fun c18 => ?_) (fun c18 => ?_)
    · replace h := h.1 c18
      refine v_iinc C dX4_lowestFaulty_44 (by decide) rfl h.1 (lv' := [some (.inr (18, i0)), some (.inr (14, i1)), some (.inl (x2 + 1))]) rfl ?_
      replace h := h.2
      refine v_goto C dX4_lowestFaulty_47 (tgt := 2) (by decide) ?_
      refine v_weak [some (.inr (18, i0)), some (.inr (14, i1)), some (.inl (x2 + 1))] ⟨rfl, rfl, rfl, trivial⟩ ?_
      exact h
    · replace h := h.2 c18
      refine v_aload_n C dX4_lowestFaulty_21 rfl ?_
      refine v_aload_n C dX4_lowestFaulty_22 rfl ?_
      refine v_iload_n C dX4_lowestFaulty_23 rfl ?_
      refine v_aload_n C dX4_lowestFaulty_24 rfl ?_
      refine v_get C dX4_lowestFaulty_25 flX4_9 rfl (by decide) (by decide) (w := .inr (19, i0)) rfl ?_
      refine v_iload_n C dX4_lowestFaulty_28 rfl ?_
      refine v_iald C dX4_lowestFaulty_29 rfl h.1.1 h.1.2 ?_
      replace h := h.2
      refine v_aload_n C dX4_lowestFaulty_30 rfl ?_
      refine v_get C dX4_lowestFaulty_31 flX4_15 rfl (by decide) (by decide) (w := .inr (20, i0)) rfl ?_
      refine v_iload_n C dX4_lowestFaulty_34 rfl ?_
      refine v_iald C dX4_lowestFaulty_35 rfl h.1.1 h.1.2 ?_
      replace h := h.2
      refine v_invV C ctX4_whyNot dX4_lowestFaulty_36 ivX4_80 ⟨by decide, by decide, rfl, rfl⟩ ((i0, i1, x2, M15 19 i0 x2, M15 20 i0 x2) : Int × Int × Int × Int × Int) (As := [.inr (14, i1), .inl x2, .inl (M15 19 i0 x2), .inl (M15 20 i0 x2)]) rfl rfl rfl (by decide) rfl (st := []) rfl (Nat.le_of_ble_eq_true rfl) h (fun o M36 oM36 io36 h => ?_)
      obtain ⟨r36, rfl, h⟩ := rI_out h
      refine v_push ?_
      refine v_if C dX4_lowestFaulty_39 (tgt := 44) (by decide) (P := r36 = 0) rfl (fun c39 => ?_) (fun c39 => ?_)
      · replace h := h.1 c39
        refine v_iinc C dX4_lowestFaulty_44 (by decide) rfl h.1 (lv' := [some (.inr (18, i0)), some (.inr (14, i1)), some (.inl (x2 + 1))]) rfl ?_
        replace h := h.2
        refine v_goto C dX4_lowestFaulty_47 (tgt := 2) (by decide) ?_
        refine v_weak [some (.inr (18, i0)), some (.inr (14, i1)), some (.inl (x2 + 1))] ⟨rfl, rfl, rfl, trivial⟩ ?_
        exact h
      · replace h := h.2 c39
        refine v_iload_n C dX4_lowestFaulty_42 rfl ?_
        exact v_iret C dX4_lowestFaulty_43 h
abbrev spX4_lowestFaulty (pl tr : Int) (M : Mem) (K : Kont) : Prop := (WFf (cFilm M 1) ∧ PlK (cFilm M 1) (M 19 pl) (M 20 pl)) ∧ K (some (lowF (cFilm M 1) (M 16 tr) (M 19 pl) (M 20 pl) (M 5 1 7).toNat 0)) M
theorem ctX4_lowestFaulty : CtX4_lowestFaulty spX4_lowestFaulty := by
  refine ct_of (by decide) dmC (fun _ => Nat.le_of_ble_eq_true rfl) ?_
  intro κ a M K C oM h
  obtain ⟨pl, tr⟩ := a
  dsimp only [spX4_lowestFaulty] at h
  obtain ⟨⟨hf, hP⟩, hk⟩ := h
  have hnP := hf.2.2.2.1
  simp only [cFilm] at hnP
  refine sgX4_lowestFaulty_0 C pl tr ?_
  have loop : ∀ (n : Nat) (p : Int), 0 ≤ p → p + n = M 5 1 7 → K (some (lowF (cFilm M 1) (M 16 tr) (M 19 pl) (M 20 pl) n p)) M →
      V κ 3 M 2 [some (.inr (18, pl)), some (.inr (14, tr)), some (.inl p)] [] K := by
    intro n
    induction n with
    | zero =>
      intro p h0 hn hk
      exact sgX4_lowestFaulty_2 C pl tr p ⟨fun c => hk, fun c => absurd (by omega) c⟩
    | succ n ih =>
      intro p h0 hn hk
      unfold lowF at hk
      refine sgX4_lowestFaulty_2 C pl tr p ⟨fun c => absurd c (by omega), fun c => ⟨⟨h0, by omega⟩, fun c2 => ⟨by omega, ?_⟩, fun c2 => ⟨by omega, by omega, ?_⟩⟩⟩
      · rw [if_neg (fun z => z.1 (if01 c2))] at hk
        exact ih (p + 1) (by omega) (by omega) hk
      · have c3 := if01n c2
        have a := hP.at h0 (by omega) c3
        have b := wf_pv hf h0 a.1 a.2.1.1 a.2.1.2
        simp only [cFilm] at a b
        refine ⟨⟨hf, hP, ⟨h0, by omega⟩, a.2.1, by omega, by omega⟩, fun c4 => ⟨by omega, ?_⟩, fun c4 => ?_⟩
        · rw [if_neg (fun z => z.2 c4)] at hk
          exact ih (p + 1) (by omega) (by omega) hk
        · rw [if_pos ⟨c3, c4⟩] at hk
          exact hk
  exact loop (M 5 1 7).toNat 0 (by omega) (by omega) hk
theorem lowF_spec (F : Film) (S ver sta : Int → Int) : ∀ (n : Nat) (p : Int), lowF F S ver sta n p = -4 ∨ (p ≤ lowF F S ver sta n p ∧ lowF F S ver sta n p < p + n ∧ ver (lowF F S ver sta n p) ≠ -4) := by
  intro n
  induction n with
  | zero => intro p; exact Or.inl rfl
  | succ n ih =>
    intro p
    unfold lowF
    split
    · rename_i h
      exact Or.inr ⟨by omega, by omega, h.1⟩
    · rcases ih (p + 1) with h | h
      · exact Or.inl h
      · exact Or.inr ⟨by omega, by omega, h.2.2⟩
/-- a picture taken off a plan -/
def offP (f : Int → Int) (p : Int) : Int → Int := fun q => if q = p then -4 else f q
/-- again and again the lowest picture that has a reason why not is taken off: versions, ticks then -/
noncomputable def dfN (F : Film) (S : Int → Int) : Nat → (Int → Int) → (Int → Int) → (Int → Int) × (Int → Int)
  | 0, ver, sta => (ver, sta)
  | n + 1, ver, sta => if lowF F S ver sta (F 3 0 0).toNat 0 = -4 then (ver, sta) else dfN F S n (offP ver (lowF F S ver sta (F 3 0 0).toNat 0)) (offP sta (lowF F S ver sta (F 3 0 0).toNat 0))
theorem PlK_off {F : Film} {ver sta : Int → Int} (h : PlK F ver sta) (p : Int) : PlK F (offP ver p) (offP sta p) := by
  intro q h0 h1
  unfold offP
  by_cases e : q = p
  · rw [if_pos e, if_pos e]
    exact Or.inl ⟨rfl, rfl⟩
  · rw [if_neg e, if_neg e]
    exact h q h0 h1
/-- nothing but a plan has changed -/
def AgP (M M' : Mem) (pl : Int) : Prop := ∀ r i, ¬ ((r = 19 ∨ r = 20) ∧ i = pl) → M' r i = M r i
theorem AgP.rf {M : Mem} {pl : Int} : AgP M M pl := fun _ _ _ => rfl
theorem AgP.tr {M M' M2 : Mem} {pl : Int} (h : AgP M M' pl) (h2 : AgP M' M2 pl) : AgP M M2 pl := fun r i hn => (h2 r i hn).trans (h r i hn)
theorem AgP.up (M : Mem) (pl p a b : Int) : AgP M (up3 (up3 M 19 pl p a) 20 pl p b) pl := by
  intro r i hn
  funext j
  rw [show up3 (up3 M 19 pl p a) 20 pl p b r i j = up3 M 19 pl p a r i j from if_neg (fun q => hn ⟨Or.inr q.1, q.2.1⟩)]
  exact if_neg (fun q => hn ⟨Or.inl q.1, q.2.1⟩)
theorem AgP.film {M M' : Mem} {pl : Int} (h : AgP M M' pl) (f : Int) : cFilm M' f = cFilm M f := by
  refine cFilm_eq (fun r h1 h2 => ?_) f
  funext i
  exact h r i (by omega)
theorem put_19 (M : Mem) (pl p a b : Int) : up3 (up3 M 19 pl p a) 20 pl p b 19 pl = fun q => if q = p then a else M 19 pl q := by
  funext q
  rw [up3_r _ _ _ _ _ (by decide)]
  by_cases e : q = p
  · rw [e, up3_s, if_pos rfl]
  · rw [up3_j _ _ _ _ _ e, if_neg e]
theorem put_20 (M : Mem) (pl p a b : Int) : up3 (up3 M 19 pl p a) 20 pl p b 20 pl = fun q => if q = p then b else M 20 pl q := by
  funext q
  by_cases e : q = p
  · rw [e, up3_s, if_pos rfl]
  · rw [up3_j _ _ _ _ _ e, if_neg e, up3_r _ _ _ _ _ (by decide)]
/-! ===== GapTellings$Plan.dropFaulty ===== -/
abbrev rmX4_dropFaulty : Room := { frames := 4, cells := 0, slots := 0, locals := 94 }
abbrev argX4_dropFaulty (a : Int × Int) : List PV := [.inr (18, a.1), .inr (14, a.2)]
abbrev CtX4_dropFaulty (sp : Int → Int → Mem → Kont → Prop) : Prop := Ct yX4_dropFaulty cX4_dropFaulty 4 none rmX4_dropFaulty domC argX4_dropFaulty (fun a => sp a.1 a.2)
theorem dX4_dropFaulty_0 : decode cX4_dropFaulty 0 = .ok (.iconst 0, 1) := by decide +kernel
theorem dX4_dropFaulty_1 : decode cX4_dropFaulty 1 = .ok (.istore_n 2, 1) := by decide +kernel
theorem dX4_dropFaulty_2 : decode cX4_dropFaulty 2 = .ok (.iload_n 2, 1) := by decide +kernel
theorem dX4_dropFaulty_3 : decode cX4_dropFaulty 3 = .ok (.bipush 7, 2) := by decide +kernel
theorem dX4_dropFaulty_5 : decode cX4_dropFaulty 5 = .ok (.if_icmp .ge 27, 3) := by decide +kernel
theorem dX4_dropFaulty_8 : decode cX4_dropFaulty 8 = .ok (.aload_n 0, 1) := by decide +kernel
theorem dX4_dropFaulty_9 : decode cX4_dropFaulty 9 = .ok (.aload_n 1, 1) := by decide +kernel
theorem dX4_dropFaulty_10 : decode cX4_dropFaulty 10 = .ok (.invokevirtual 72, 3) := by decide +kernel
theorem dX4_dropFaulty_13 : decode cX4_dropFaulty 13 = .ok (.istore_n 3, 1) := by decide +kernel
theorem dX4_dropFaulty_14 : decode cX4_dropFaulty 14 = .ok (.iload_n 3, 1) := by decide +kernel
theorem dX4_dropFaulty_15 : decode cX4_dropFaulty 15 = .ok (.bipush (-4), 2) := by decide +kernel
theorem dX4_dropFaulty_17 : decode cX4_dropFaulty 17 = .ok (.if_icmp .ne 4, 3) := by decide +kernel
theorem dX4_dropFaulty_20 : decode cX4_dropFaulty 20 = .ok (.return_, 1) := by decide +kernel
theorem dX4_dropFaulty_21 : decode cX4_dropFaulty 21 = .ok (.aload_n 0, 1) := by decide +kernel
theorem dX4_dropFaulty_22 : decode cX4_dropFaulty 22 = .ok (.iload_n 3, 1) := by decide +kernel
theorem dX4_dropFaulty_23 : decode cX4_dropFaulty 23 = .ok (.invokevirtual 76, 3) := by decide +kernel
theorem dX4_dropFaulty_26 : decode cX4_dropFaulty 26 = .ok (.iinc 2 1, 3) := by decide +kernel
theorem dX4_dropFaulty_29 : decode cX4_dropFaulty 29 = .ok (.goto (-27), 3) := by decide +kernel
theorem dX4_dropFaulty_32 : decode cX4_dropFaulty 32 = .ok (.return_, 1) := by decide +kernel
theorem ivX4_72 : IV RX4 72 yX4_lowestFaulty cX4_lowestFaulty 3 (some .int) 1 := ⟨(tb_mem (t_in3 (List.mem_of_getElem? (i := 49) (by decide +kernel))) (by decide +kernel)), (tb_mem (t_in3 (List.mem_of_getElem? (i := 50) (by decide +kernel))) (by decide +kernel)), (tb_mem (t_in3 (List.mem_of_getElem? (i := 51) (by decide +kernel))) (by decide +kernel)), (tb_mem (t_in1 (List.mem_of_getElem? (i := 6) (by decide +kernel))) (by decide +kernel)), (tb_mem (t_in3 (List.mem_of_getElem? (i := 52) (by decide +kernel))) (by decide +kernel)), ⟨by decide +kernel, by decide +kernel, by decide +kernel⟩⟩
theorem ivX4_76 : IV RX4 76 yX4_drop cX4_drop 2 none 1 := ⟨(tb_mem (t_in3 (List.mem_of_getElem? (i := 77) (by decide +kernel))) (by decide +kernel)), (tb_mem (t_in3 (List.mem_of_getElem? (i := 78) (by decide +kernel))) (by decide +kernel)), (tb_mem (t_in3 (List.mem_of_getElem? (i := 79) (by decide +kernel))) (by decide +kernel)), (tb_mem (t_in1 (List.mem_of_getElem? (i := 6) (by decide +kernel))) (by decide +kernel)), (tb_mem (t_in3 (List.mem_of_getElem? (i := 80) (by decide +kernel))) (by decide +kernel)), ⟨by decide +kernel, by decide +kernel, by decide +kernel⟩⟩
set_option maxHeartbeats 4000000 in
set_option maxRecDepth 20000 in
theorem sgX4_dropFaulty_0 {κ : Kx} {K : Kont} {M : Mem} (C : Cx κ RX4 cX4_dropFaulty 4 none rmX4_dropFaulty domC) (i0 : Int) (i1 : Int)
    (h :
    V κ 4 M 2 [some (.inr (18, i0)), some (.inr (14, i1)), some (.inl 0), none] [] K) : V κ 4 M 0 [some (.inr (18, i0)), some (.inr (14, i1)), none, none] [] K := by
  refine v_iconst C dX4_dropFaulty_0 (by decide) ?_
  refine v_istore_n C dX4_dropFaulty_1 (by decide) (Nat.le_of_ble_eq_true rfl) (lv' := [some (.inr (18, i0)), some (.inr (14, i1)), some (.inl 0), none]) rfl ?_
  refine v_weak [some (.inr (18, i0)), some (.inr (14, i1)), some (.inl 0), none] ⟨rfl, rfl, rfl, trivial⟩ ?_
  exact h
set_option maxHeartbeats 4000000 in
set_option maxRecDepth 20000 in
theorem sgX4_dropFaulty_2 {κ : Kx} {K : Kont} {M : Mem} (C : Cx κ RX4 cX4_dropFaulty 4 none rmX4_dropFaulty domC) (i0 : Int) (i1 : Int) (x2 : Int)
    (h :
    ((7 ≤ x2 →
      K none M) ∧
     (¬ (7 ≤ x2) →
      spX4_lowestFaulty i0 i1 M (rI (fun r10 M10 =>
      ((r10 ≠ (-4) →
        spX4_drop i0 r10 M10 (rV (fun M23 =>
        inR (x2 + 1) ∧
        V κ 4 M23 2 [some (.inr (18, i0)), some (.inr (14, i1)), some (.inl (x2 + 1)), none] [] K))) ∧
       (¬ (r10 ≠ (-4)) →
        K none M10))))))) : V κ 4 M 2 [some (.inr (18, i0)), some (.inr (14, i1)), some (.inl x2), none] [] K := by
  refine v_iload_n C dX4_dropFaulty_2 rfl ?_
  refine v_bipush C dX4_dropFaulty_3 (by decide) (by decide) ?_
  refine v_icmp C dX4_dropFaulty_5 (tgt := 32) (by decide) (P := 7 ≤ x2) rfl (fun c5 => ?_) (fun c5 => ?_)
  · replace h := h.1 c5
    exact v_vret C dX4_dropFaulty_32 h
  · replace h := h.2 c5
    refine v_aload_n C dX4_dropFaulty_8 rfl ?_
    refine v_aload_n C dX4_dropFaulty_9 rfl ?_
    refine v_invV C ctX4_lowestFaulty dX4_dropFaulty_10 ivX4_72 ⟨by decide, by decide, rfl, rfl⟩ ((i0, i1) : Int × Int) (As := [.inr (14, i1)]) rfl rfl rfl (by decide) rfl (st := []) rfl (Nat.le_of_ble_eq_true rfl) h (fun o M10 oM10 io10 h => ?_)
    obtain ⟨r10, rfl, h⟩ := rI_out h
    refine v_push ?_
    refine v_istore_n C dX4_dropFaulty_13 (by decide) (Nat.le_of_ble_eq_true rfl) (lv' := [some (.inr (18, i0)), some (.inr (14, i1)), some (.inl x2), some (.inl r10)]) rfl ?_
    refine v_iload_n C dX4_dropFaulty_14 rfl ?_
    refine v_bipush C dX4_dropFaulty_15 (by decide) (by decide) ?_
    refine v_icmp C dX4_dropFaulty_17 (tgt := 21) (by decide) (P := r10 ≠ (-4)) rfl (fun c17 => ?_) (fun c17 => ?_)
    · replace h := h.1 c17
      refine v_aload_n C dX4_dropFaulty_21 rfl ?_
      refine v_iload_n C dX4_dropFaulty_22 rfl ?_
      refine v_invV C ctX4_drop dX4_dropFaulty_23 ivX4_76 ⟨by decide, by decide, rfl, rfl⟩ ((i0, r10) : Int × Int) (As := [.inl r10]) rfl rfl rfl (by decide) rfl (st := []) rfl (Nat.le_of_ble_eq_true rfl) h (fun o M23 oM23 io23 h => ?_)
      obtain ⟨rfl, h⟩ := rV_out h
      refine v_push0 ?_
      refine v_iinc C dX4_dropFaulty_26 (by decide) rfl h.1 (lv' := [some (.inr (18, i0)), some (.inr (14, i1)), some (.inl (x2 + 1)), some (.inl r10)]) rfl ?_
      replace h := h.2
      refine v_goto C dX4_dropFaulty_29 (tgt := 2) (by decide) ?_
      refine v_weak [some (.inr (18, i0)), some (.inr (14, i1)), some (.inl (x2 + 1)), none] ⟨rfl, rfl, rfl, trivial⟩ ?_
      exact h
    · replace h := h.2 c17
      exact v_vret C dX4_dropFaulty_20 h
abbrev spX4_dropFaulty (pl tr : Int) (M : Mem) (K : Kont) : Prop := (WFf (cFilm M 1) ∧ PlK (cFilm M 1) (M 19 pl) (M 20 pl)) ∧
  ∀ M', AgP M M' pl → M' 19 pl = (dfN (cFilm M 1) (M 16 tr) 7 (M 19 pl) (M 20 pl)).1 → M' 20 pl = (dfN (cFilm M 1) (M 16 tr) 7 (M 19 pl) (M 20 pl)).2 → K none M'
theorem ctX4_dropFaulty : CtX4_dropFaulty spX4_dropFaulty := by
  refine ct_of (by decide) dmC (fun _ => Nat.le_of_ble_eq_true rfl) ?_
  intro κ a M K C oM h
  obtain ⟨pl, tr⟩ := a
  dsimp only [spX4_dropFaulty] at h
  obtain ⟨⟨hf, hP⟩, hk⟩ := h
  have hnP := hf.2.2.2.1
  simp only [cFilm] at hnP
  refine sgX4_dropFaulty_0 C pl tr ?_
  have loop : ∀ (n : Nat) (x : Int) (N : Mem), 0 ≤ x → x + n = 7 → AgP M N pl → PlK (cFilm M 1) (N 19 pl) (N 20 pl) → (∀ M', AgP M M' pl → M' 19 pl = (dfN (cFilm M 1) (M 16 tr) n (N 19 pl) (N 20 pl)).1 → M' 20 pl = (dfN (cFilm M 1) (M 16 tr) n (N 19 pl) (N 20 pl)).2 → K none M') →
      V κ 4 N 2 [some (.inr (18, pl)), some (.inr (14, tr)), some (.inl x), none] [] K := by
    intro n
    induction n with
    | zero =>
      intro x N h0 hn hA hP hk
      exact sgX4_dropFaulty_2 C pl tr x ⟨fun c => hk N hA rfl rfl, fun c => absurd (by omega) c⟩
    | succ n ih =>
      intro x N h0 hn hA hP hk
      have e := hA.film 1
      have e16 : N 16 = M 16 := by funext i; exact hA 16 i (by omega)
      have e5 : N 5 1 = M 5 1 := hA 5 1 (by omega)
      refine sgX4_dropFaulty_2 C pl tr x ⟨fun c => absurd c (by omega), fun c => ⟨⟨by rw [e]; exact hf, by rw [e]; exact hP⟩, ?_, ?_⟩⟩
      · intro c2
        rw [e, e16, e5] at c2 ⊢
        have hl := lowF_spec (cFilm M 1) (M 16 tr) (N 19 pl) (N 20 pl) (M 5 1 7).toNat 0
        have hk' := hk
        unfold dfN at hk'
        rw [show cFilm M 1 3 0 0 = M 5 1 7 from rfl] at hk'
        generalize lowF (cFilm M 1) (M 16 tr) (N 19 pl) (N 20 pl) (M 5 1 7).toNat 0 = w at *
        rw [if_neg c2] at hk'
        have hw : 0 ≤ w ∧ w < 7 := by omega
        refine ⟨hw, ?_⟩
        have w19 : up3 (up3 N 19 pl w (-4)) 20 pl w (-4) 19 pl = offP (N 19 pl) w := put_19 N pl w (-4) (-4)
        have w20 : up3 (up3 N 19 pl w (-4)) 20 pl w (-4) 20 pl = offP (N 20 pl) w := put_20 N pl w (-4) (-4)
        refine ⟨by omega, ih (x + 1) _ (by omega) (by omega) (hA.tr (AgP.up N pl w (-4) (-4))) ?_ ?_⟩
        · rw [w19, w20]
          exact PlK_off hP w
        · rw [w19, w20]
          exact hk'
      · intro c2
        rw [e, e16, e5] at c2
        refine hk N hA ?_ ?_
        · unfold dfN
          rw [show cFilm M 1 3 0 0 = M 5 1 7 from rfl, if_pos (by omega)]
        · unfold dfN
          rw [show cFilm M 1 3 0 0 = M 5 1 7 from rfl, if_pos (by omega)]
  exact loop 7 0 M (by omega) (by omega) AgP.rf hP hk
/-! ===== GapTellings$Plan.valueOn ===== -/
abbrev rmX4_valueOn : Room := { frames := 2, cells := 0, slots := 0, locals := 48 }
abbrev argX4_valueOn (a : Int × Int) : List PV := [.inr (18, a.1), .inr (14, a.2)]
abbrev CtX4_valueOn (sp : Int → Int → Mem → Kont → Prop) : Prop := Ct yX4_valueOn cX4_valueOn 4 (some .int) rmX4_valueOn domC argX4_valueOn (fun a => sp a.1 a.2)
theorem dX4_valueOn_0 : decode cX4_valueOn 0 = .ok (.iconst 0, 1) := by decide +kernel
theorem dX4_valueOn_1 : decode cX4_valueOn 1 = .ok (.istore_n 2, 1) := by decide +kernel
theorem dX4_valueOn_2 : decode cX4_valueOn 2 = .ok (.iconst 0, 1) := by decide +kernel
theorem dX4_valueOn_3 : decode cX4_valueOn 3 = .ok (.istore_n 3, 1) := by decide +kernel
theorem dX4_valueOn_4 : decode cX4_valueOn 4 = .ok (.iload_n 3, 1) := by decide +kernel
theorem dX4_valueOn_5 : decode cX4_valueOn 5 = .ok (.aload_n 0, 1) := by decide +kernel
theorem dX4_valueOn_6 : decode cX4_valueOn 6 = .ok (.getfield 18, 3) := by decide +kernel
theorem dX4_valueOn_9 : decode cX4_valueOn 9 = .ok (.getfield 34, 3) := by decide +kernel
theorem dX4_valueOn_12 : decode cX4_valueOn 12 = .ok (.if_icmp .ge 37, 3) := by decide +kernel
theorem dX4_valueOn_15 : decode cX4_valueOn 15 = .ok (.aload_n 0, 1) := by decide +kernel
theorem dX4_valueOn_16 : decode cX4_valueOn 16 = .ok (.iload_n 3, 1) := by decide +kernel
theorem dX4_valueOn_17 : decode cX4_valueOn 17 = .ok (.invokevirtual 40, 3) := by decide +kernel
theorem dX4_valueOn_20 : decode cX4_valueOn 20 = .ok (.ifCond .eq 23, 3) := by decide +kernel
theorem dX4_valueOn_23 : decode cX4_valueOn 23 = .ok (.iload_n 2, 1) := by decide +kernel
theorem dX4_valueOn_24 : decode cX4_valueOn 24 = .ok (.aload_n 1, 1) := by decide +kernel
theorem dX4_valueOn_25 : decode cX4_valueOn 25 = .ok (.iload_n 3, 1) := by decide +kernel
theorem dX4_valueOn_26 : decode cX4_valueOn 26 = .ok (.aload_n 0, 1) := by decide +kernel
theorem dX4_valueOn_27 : decode cX4_valueOn 27 = .ok (.getfield 9, 3) := by decide +kernel
theorem dX4_valueOn_30 : decode cX4_valueOn 30 = .ok (.iload_n 3, 1) := by decide +kernel
theorem dX4_valueOn_31 : decode cX4_valueOn 31 = .ok (.iaload, 1) := by decide +kernel
theorem dX4_valueOn_32 : decode cX4_valueOn 32 = .ok (.aload_n 0, 1) := by decide +kernel
theorem dX4_valueOn_33 : decode cX4_valueOn 33 = .ok (.getfield 15, 3) := by decide +kernel
theorem dX4_valueOn_36 : decode cX4_valueOn 36 = .ok (.iload_n 3, 1) := by decide +kernel
theorem dX4_valueOn_37 : decode cX4_valueOn 37 = .ok (.iaload, 1) := by decide +kernel
theorem dX4_valueOn_38 : decode cX4_valueOn 38 = .ok (.invokevirtual 84, 3) := by decide +kernel
theorem dX4_valueOn_41 : decode cX4_valueOn 41 = .ok (.iadd, 1) := by decide +kernel
theorem dX4_valueOn_42 : decode cX4_valueOn 42 = .ok (.istore_n 2, 1) := by decide +kernel
theorem dX4_valueOn_43 : decode cX4_valueOn 43 = .ok (.iinc 3 1, 3) := by decide +kernel
theorem dX4_valueOn_46 : decode cX4_valueOn 46 = .ok (.goto (-42), 3) := by decide +kernel
theorem dX4_valueOn_49 : decode cX4_valueOn 49 = .ok (.iload_n 2, 1) := by decide +kernel
theorem dX4_valueOn_50 : decode cX4_valueOn 50 = .ok (.ireturn, 1) := by decide +kernel
theorem ivX4_84 : IV RX4 84 yX6_gainOf cX6_gainOf 8 (some .int) 3 := ⟨(tb_mem (t_in3 (List.mem_of_getElem? (i := 151) (by decide +kernel))) (by decide +kernel)), (tb_mem (t_in3 (List.mem_of_getElem? (i := 120) (by decide +kernel))) (by decide +kernel)), (tb_mem (t_in3 (List.mem_of_getElem? (i := 121) (by decide +kernel))) (by decide +kernel)), (tb_mem (t_in1 (List.mem_of_getElem? (i := 5) (by decide +kernel))) (by decide +kernel)), (tb_mem (t_in3 (List.mem_of_getElem? (i := 122) (by decide +kernel))) (by decide +kernel)), ⟨by decide +kernel, by decide +kernel, by decide +kernel⟩⟩
set_option maxHeartbeats 4000000 in
set_option maxRecDepth 20000 in
theorem sgX4_valueOn_0 {κ : Kx} {K : Kont} {M : Mem} (C : Cx κ RX4 cX4_valueOn 4 (some .int) rmX4_valueOn domC) (i0 : Int) (i1 : Int)
    (h :
    V κ 4 M 4 [some (.inr (18, i0)), some (.inr (14, i1)), some (.inl 0), some (.inl 0)] [] K) : V κ 4 M 0 [some (.inr (18, i0)), some (.inr (14, i1)), none, none] [] K := by
  refine v_iconst C dX4_valueOn_0 (by decide) ?_
  refine v_istore_n C dX4_valueOn_1 (by decide) (Nat.le_of_ble_eq_true rfl) (lv' := [some (.inr (18, i0)), some (.inr (14, i1)), some (.inl 0), none]) rfl ?_
  refine v_iconst C dX4_valueOn_2 (by decide) ?_
  refine v_istore_n C dX4_valueOn_3 (by decide) (Nat.le_of_ble_eq_true rfl) (lv' := [some (.inr (18, i0)), some (.inr (14, i1)), some (.inl 0), some (.inl 0)]) rfl ?_
  refine v_weak [some (.inr (18, i0)), some (.inr (14, i1)), some (.inl 0), some (.inl 0)] ⟨rfl, rfl, rfl, rfl, trivial⟩ ?_
  exact h
set_option maxHeartbeats 4000000 in
set_option maxRecDepth 20000 in
theorem sgX4_valueOn_4 {κ : Kx} {K : Kont} {M : Mem} (C : Cx κ RX4 cX4_valueOn 4 (some .int) rmX4_valueOn domC) (i0 : Int) (i1 : Int) (x2 : Int) (x3 : Int)
    (h :
    (((M 5 1 7) ≤ x3 →
      K (some x2) M) ∧
     (¬ ((M 5 1 7) ≤ x3) →
      spX4_has i0 x3 M (rI (fun r17 M17 =>
      ((r17 = 0 →
        inR (x3 + 1) ∧
        V κ 4 M17 4 [some (.inr (18, i0)), some (.inr (14, i1)), some (.inl x2), some (.inl (x3 + 1))] [] K) ∧
       (¬ (r17 = 0) →
        (0 ≤ x3 ∧ x3 < 7) ∧
        (0 ≤ x3 ∧ x3 < 7) ∧
        spX6_gainOf i1 x3 (M17 19 i0 x3) (M17 20 i0 x3) M17 (rI (fun r38 M38 =>
        inR (x2 + r38) ∧
        ∀ y2_42 : Int, y2_42 = x2 + r38 →
        inR (x3 + 1) ∧
        V κ 4 M38 4 [some (.inr (18, i0)), some (.inr (14, i1)), some (.inl y2_42), some (.inl (x3 + 1))] [] K))))))))) : V κ 4 M 4 [some (.inr (18, i0)), some (.inr (14, i1)), some (.inl x2), some (.inl x3)] [] K := by
  refine v_iload_n C dX4_valueOn_4 rfl ?_
  refine v_aload_n C dX4_valueOn_5 rfl ?_
  refine v_get C dX4_valueOn_6 flX4_18 rfl (by decide) (by decide) (w := .inr (5, 1)) rfl ?_
  refine v_get C dX4_valueOn_9 flX4_34 rfl (by decide) (by decide) (w := .inl (M 5 1 7)) rfl ?_
  refine v_icmp C dX4_valueOn_12 (tgt := 49) (by decide) (P := (M 5 1 7) ≤ x3) rfl (fun c12 => ?_) (fun c12 => ?_)
  · replace h := h.1 c12
    refine v_iload_n C dX4_valueOn_49 rfl ?_
    exact v_iret C dX4_valueOn_50 h
  · replace h := h.2 c12
    refine v_aload_n C dX4_valueOn_15 rfl ?_
    refine v_iload_n C dX4_valueOn_16 rfl ?_
    refine v_invV C ctX4_has dX4_valueOn_17 ivX4_40 ⟨by decide, by decide, rfl, rfl⟩ ((i0, x3) : Int × Int) (As := [.inl x3]) rfl rfl rfl (by decide) rfl (st := []) rfl (Nat.le_of_ble_eq_true rfl) h (fun o M17 oM17 io17 h => ?_)
    obtain ⟨r17, rfl, h⟩ := rI_out h
    refine v_push ?_
    refine v_if C dX4_valueOn_20 (tgt := 43) (by decide) (P := r17 = 0) rfl (fun c20 => ?_) (fun c20 => ?_)
    · replace h := h.1 c20
      refine v_iinc C dX4_valueOn_43 (by decide) rfl h.1 (lv' := [some (.inr (18, i0)), some (.inr (14, i1)), some (.inl x2), some (.inl (x3 + 1))]) rfl ?_
      replace h := h.2
      refine v_goto C dX4_valueOn_46 (tgt := 4) (by decide) ?_
      refine v_weak [some (.inr (18, i0)), some (.inr (14, i1)), some (.inl x2), some (.inl (x3 + 1))] ⟨rfl, rfl, rfl, rfl, trivial⟩ ?_
      exact h
    · replace h := h.2 c20
      refine v_iload_n C dX4_valueOn_23 rfl ?_
      refine v_aload_n C dX4_valueOn_24 rfl ?_
      refine v_iload_n C dX4_valueOn_25 rfl ?_
      refine v_aload_n C dX4_valueOn_26 rfl ?_
      refine v_get C dX4_valueOn_27 flX4_9 rfl (by decide) (by decide) (w := .inr (19, i0)) rfl ?_
      refine v_iload_n C dX4_valueOn_30 rfl ?_
      refine v_iald C dX4_valueOn_31 rfl h.1.1 h.1.2 ?_
      replace h := h.2
      refine v_aload_n C dX4_valueOn_32 rfl ?_
      refine v_get C dX4_valueOn_33 flX4_15 rfl (by decide) (by decide) (w := .inr (20, i0)) rfl ?_
      refine v_iload_n C dX4_valueOn_36 rfl ?_
      refine v_iald C dX4_valueOn_37 rfl h.1.1 h.1.2 ?_
      replace h := h.2
      refine v_invV C ctX6_gainOf dX4_valueOn_38 ivX4_84 ⟨by decide, by decide, rfl, rfl⟩ ((i1, x3, M17 19 i0 x3, M17 20 i0 x3) : Int × Int × Int × Int) (As := [.inl x3, .inl (M17 19 i0 x3), .inl (M17 20 i0 x3)]) rfl rfl rfl (by decide) rfl (st := [.inl x2]) rfl (Nat.le_of_ble_eq_true rfl) h (fun o M38 oM38 io38 h => ?_)
      obtain ⟨r38, rfl, h⟩ := rI_out h
      refine v_push ?_
      refine v_iadd C dX4_valueOn_41 h.1 ?_
      replace h := h.2
      refine v_nm (fun y2_42 ey2_42 => ?_)
      replace h := h y2_42 ey2_42
      refine v_istore_n C dX4_valueOn_42 (by decide) (Nat.le_of_ble_eq_true rfl) (lv' := [some (.inr (18, i0)), some (.inr (14, i1)), some (.inl y2_42), some (.inl x3)]) rfl ?_
      refine v_iinc C dX4_valueOn_43 (by decide) rfl h.1 (lv' := [some (.inr (18, i0)), some (.inr (14, i1)), some (.inl y2_42), some (.inl (x3 + 1))]) rfl ?_
      replace h := h.2
      refine v_goto C dX4_valueOn_46 (tgt := 4) (by decide) ?_
      refine v_weak [some (.inr (18, i0)), some (.inr (14, i1)), some (.inl y2_42), some (.inl (x3 + 1))] ⟨rfl, rfl, rfl, rfl, trivial⟩ ?_
      exact h
abbrev spX4_valueOn (pl tr : Int) (M : Mem) (K : Kont) : Prop := (WFf (cFilm M 1) ∧ TrB M tr ∧ PlK (cFilm M 1) (M 19 pl) (M 20 pl)) ∧ K (some (vaN (cFilm M 1) (M 17 tr) (M 19 pl) (M 20 pl) (M 5 1 7).toNat)) M
theorem vaN_rng {M : Mem} {pl tr : Int} (hf : WFf (cFilm M 1)) (hb : TrB M tr) (hP : PlK (cFilm M 1) (M 19 pl) (M 20 pl)) (n : Nat) (hn : n ≤ 7) : -2000 * n ≤ vaN (cFilm M 1) (M 17 tr) (M 19 pl) (M 20 pl) n ∧ vaN (cFilm M 1) (M 17 tr) (M 19 pl) (M 20 pl) n ≤ 2000 * n := by
  unfold vaN
  refine sum_abs n (fun t h0 h1 => ?_)
  split
  · omega
  · rename_i hv
    have a := hP.at h0 (by omega) hv
    have b := wf_pv hf h0 a.1 a.2.1.1 a.2.1.2
    simp only [cFilm] at a b
    exact gain_rng hf hb h0 a.1 a.2.1.1 a.2.1.2 a.2.2.1 (by omega)
theorem ctX4_valueOn : CtX4_valueOn spX4_valueOn := by
  refine ct_of (by decide) dmC (fun _ => Nat.le_of_ble_eq_true rfl) ?_
  intro κ a M K C oM h
  obtain ⟨pl, tr⟩ := a
  dsimp only [spX4_valueOn] at h
  obtain ⟨⟨hf, hb, hP⟩, hk⟩ := h
  have hnP := hf.2.2.2.1
  simp only [cFilm] at hnP
  refine sgX4_valueOn_0 C pl tr ?_
  have loop : ∀ (n : Nat) (p o : Int), 0 ≤ p → p + n = M 5 1 7 → o = vaN (cFilm M 1) (M 17 tr) (M 19 pl) (M 20 pl) p.toNat →
      V κ 4 M 4 [some (.inr (18, pl)), some (.inr (14, tr)), some (.inl o), some (.inl p)] [] K := by
    intro n
    induction n with
    | zero =>
      intro p o h0 hn ho
      refine sgX4_valueOn_4 C pl tr o p ⟨fun c => ?_, fun c => absurd (by omega) c⟩
      have e : p = M 5 1 7 := by omega
      rw [ho, e]
      exact hk
    | succ n ih =>
      intro p o h0 hn ho
      have hr := vaN_rng hf hb hP p.toNat (by omega)
      have hs : vaN (cFilm M 1) (M 17 tr) (M 19 pl) (M 20 pl) (p + 1).toNat = vaN (cFilm M 1) (M 17 tr) (M 19 pl) (M 20 pl) p.toNat + (if M 19 pl p = -4 then 0 else gainW (cFilm M 1) (M 17 tr) p (M 19 pl p) (M 20 pl p)) := sumN_s _ h0
      refine sgX4_valueOn_4 C pl tr o p ⟨fun c => absurd c (by omega), fun c => ⟨⟨h0, by omega⟩, fun c2 => ⟨by omega, ?_⟩, fun c2 => ⟨by omega, by omega, ?_⟩⟩⟩
      · refine ih (p + 1) o (by omega) (by omega) ?_
        rw [hs, if_pos (if01 c2), ho]
        omega
      · have c3 := if01n c2
        have a := hP.at h0 (by omega) c3
        have b := wf_pv hf h0 a.1 a.2.1.1 a.2.1.2
        simp only [cFilm] at a b
        have hg := gain_rng hf hb h0 a.1 a.2.1.1 a.2.1.2 a.2.2.1 (by omega)
        refine ⟨⟨hf, hb, ⟨h0, by omega⟩, a.2.1, by omega, by omega⟩, by omega, fun y ey => ⟨by omega, ?_⟩⟩
        refine ih (p + 1) y (by omega) (by omega) ?_
        rw [hs, if_neg c3, ey, ho]
  exact loop (M 5 1 7).toNat 0 0 (by omega) (by omega) rfl
/-! ===== GapTellings$Plan.ticksTold ===== -/
abbrev rmX4_ticksTold : Room := { frames := 1, cells := 0, slots := 0, locals := 21 }
abbrev argX4_ticksTold (a : Int × Int × Int) : List PV := [.inr (18, a.1), .inl a.2.1, .inl a.2.2]
abbrev CtX4_ticksTold (sp : Int → Int → Int → Mem → Kont → Prop) : Prop := Ct yX4_ticksTold cX4_ticksTold 5 (some .int) rmX4_ticksTold domC argX4_ticksTold (fun a => sp a.1 a.2.1 a.2.2)
theorem dX4_ticksTold_0 : decode cX4_ticksTold 0 = .ok (.iconst 0, 1) := by decide +kernel
theorem dX4_ticksTold_1 : decode cX4_ticksTold 1 = .ok (.istore_n 3, 1) := by decide +kernel
theorem dX4_ticksTold_2 : decode cX4_ticksTold 2 = .ok (.iconst 0, 1) := by decide +kernel
theorem dX4_ticksTold_3 : decode cX4_ticksTold 3 = .ok (.istore 4, 2) := by decide +kernel
theorem dX4_ticksTold_5 : decode cX4_ticksTold 5 = .ok (.iload 4, 2) := by decide +kernel
theorem dX4_ticksTold_7 : decode cX4_ticksTold 7 = .ok (.aload_n 0, 1) := by decide +kernel
theorem dX4_ticksTold_8 : decode cX4_ticksTold 8 = .ok (.getfield 18, 3) := by decide +kernel
theorem dX4_ticksTold_11 : decode cX4_ticksTold 11 = .ok (.getfield 34, 3) := by decide +kernel
theorem dX4_ticksTold_14 : decode cX4_ticksTold 14 = .ok (.if_icmp .ge 47, 3) := by decide +kernel
theorem dX4_ticksTold_17 : decode cX4_ticksTold 17 = .ok (.aload_n 0, 1) := by decide +kernel
theorem dX4_ticksTold_18 : decode cX4_ticksTold 18 = .ok (.iload 4, 2) := by decide +kernel
theorem dX4_ticksTold_20 : decode cX4_ticksTold 20 = .ok (.invokevirtual 40, 3) := by decide +kernel
theorem dX4_ticksTold_23 : decode cX4_ticksTold 23 = .ok (.ifCond .eq 32, 3) := by decide +kernel
theorem dX4_ticksTold_26 : decode cX4_ticksTold 26 = .ok (.iload_n 3, 1) := by decide +kernel
theorem dX4_ticksTold_27 : decode cX4_ticksTold 27 = .ok (.iconst 0, 1) := by decide +kernel
theorem dX4_ticksTold_28 : decode cX4_ticksTold 28 = .ok (.aload_n 0, 1) := by decide +kernel
theorem dX4_ticksTold_29 : decode cX4_ticksTold 29 = .ok (.iload 4, 2) := by decide +kernel
theorem dX4_ticksTold_31 : decode cX4_ticksTold 31 = .ok (.invokevirtual 65, 3) := by decide +kernel
theorem dX4_ticksTold_34 : decode cX4_ticksTold 34 = .ok (.iload_n 2, 1) := by decide +kernel
theorem dX4_ticksTold_35 : decode cX4_ticksTold 35 = .ok (.invokestatic 91, 3) := by decide +kernel
theorem dX4_ticksTold_38 : decode cX4_ticksTold 38 = .ok (.aload_n 0, 1) := by decide +kernel
theorem dX4_ticksTold_39 : decode cX4_ticksTold 39 = .ok (.getfield 15, 3) := by decide +kernel
theorem dX4_ticksTold_42 : decode cX4_ticksTold 42 = .ok (.iload 4, 2) := by decide +kernel
theorem dX4_ticksTold_44 : decode cX4_ticksTold 44 = .ok (.iaload, 1) := by decide +kernel
theorem dX4_ticksTold_45 : decode cX4_ticksTold 45 = .ok (.iload_n 1, 1) := by decide +kernel
theorem dX4_ticksTold_46 : decode cX4_ticksTold 46 = .ok (.invokestatic 96, 3) := by decide +kernel
theorem dX4_ticksTold_49 : decode cX4_ticksTold 49 = .ok (.isub, 1) := by decide +kernel
theorem dX4_ticksTold_50 : decode cX4_ticksTold 50 = .ok (.invokestatic 96, 3) := by decide +kernel
theorem dX4_ticksTold_53 : decode cX4_ticksTold 53 = .ok (.iadd, 1) := by decide +kernel
theorem dX4_ticksTold_54 : decode cX4_ticksTold 54 = .ok (.istore_n 3, 1) := by decide +kernel
theorem dX4_ticksTold_55 : decode cX4_ticksTold 55 = .ok (.iinc 4 1, 3) := by decide +kernel
theorem dX4_ticksTold_58 : decode cX4_ticksTold 58 = .ok (.goto (-53), 3) := by decide +kernel
theorem dX4_ticksTold_61 : decode cX4_ticksTold 61 = .ok (.iload_n 3, 1) := by decide +kernel
theorem dX4_ticksTold_62 : decode cX4_ticksTold 62 = .ok (.ireturn, 1) := by decide +kernel
theorem ivX4_91 : IMin RX4 91 := ⟨(tb_mem (t_in4 (List.mem_of_getElem? (i := 16) (by decide +kernel))) (by decide +kernel)), (tb_mem (t_in2 (List.mem_of_getElem? (i := 32) (by decide +kernel))) (by decide +kernel)), (tb_mem (t_in1 (List.mem_of_getElem? (i := 11) (by decide +kernel))) (by decide +kernel)), (tb_mem (t_in2 (List.mem_of_getElem? (i := 33) (by decide +kernel))) (by decide +kernel))⟩
theorem ivX4_96 : IMax RX4 96 := ⟨(tb_mem (t_in4 (List.mem_of_getElem? (i := 17) (by decide +kernel))) (by decide +kernel)), (tb_mem (t_in2 (List.mem_of_getElem? (i := 117) (by decide +kernel))) (by decide +kernel)), (tb_mem (t_in1 (List.mem_of_getElem? (i := 11) (by decide +kernel))) (by decide +kernel)), (tb_mem (t_in2 (List.mem_of_getElem? (i := 118) (by decide +kernel))) (by decide +kernel))⟩
set_option maxHeartbeats 4000000 in
set_option maxRecDepth 20000 in
theorem sgX4_ticksTold_0 {κ : Kx} {K : Kont} {M : Mem} (C : Cx κ RX4 cX4_ticksTold 5 (some .int) rmX4_ticksTold domC) (i0 : Int) (x1 : Int) (x2 : Int)
    (h :
    V κ 5 M 5 [some (.inr (18, i0)), some (.inl x1), some (.inl x2), some (.inl 0), some (.inl 0)] [] K) : V κ 5 M 0 [some (.inr (18, i0)), some (.inl x1), some (.inl x2), none, none] [] K := by
  refine v_iconst C dX4_ticksTold_0 (by decide) ?_
  refine v_istore_n C dX4_ticksTold_1 (by decide) (Nat.le_of_ble_eq_true rfl) (lv' := [some (.inr (18, i0)), some (.inl x1), some (.inl x2), some (.inl 0), none]) rfl ?_
  refine v_iconst C dX4_ticksTold_2 (by decide) ?_
  refine v_istore C dX4_ticksTold_3 (by decide) (Nat.le_of_ble_eq_true rfl) (lv' := [some (.inr (18, i0)), some (.inl x1), some (.inl x2), some (.inl 0), some (.inl 0)]) rfl ?_
  refine v_weak [some (.inr (18, i0)), some (.inl x1), some (.inl x2), some (.inl 0), some (.inl 0)] ⟨rfl, rfl, rfl, rfl, rfl, trivial⟩ ?_
  exact h
set_option maxHeartbeats 4000000 in
set_option maxRecDepth 20000 in
theorem sgX4_ticksTold_5 {κ : Kx} {K : Kont} {M : Mem} (C : Cx κ RX4 cX4_ticksTold 5 (some .int) rmX4_ticksTold domC) (i0 : Int) (x1 : Int) (x2 : Int) (x3 : Int) (x4 : Int)
    (h :
    (((M 5 1 7) ≤ x4 →
      K (some x3) M) ∧
     (¬ ((M 5 1 7) ≤ x4) →
      spX4_has i0 x4 M (rI (fun r20 M20 =>
      ((r20 = 0 →
        inR (x4 + 1) ∧
        V κ 5 M20 5 [some (.inr (18, i0)), some (.inl x1), some (.inl x2), some (.inl x3), some (.inl (x4 + 1))] [] K) ∧
       (¬ (r20 = 0) →
        spX4_endOf i0 x4 M20 (rI (fun r31 M31 =>
        (0 ≤ x4 ∧ x4 < 7) ∧
        inR ((min r31 x2) - (max (M31 20 i0 x4) x1)) ∧
        inR (x3 + (max 0 ((min r31 x2) - (max (M31 20 i0 x4) x1)))) ∧
        ∀ y3_54 : Int, y3_54 = x3 + (max 0 ((min r31 x2) - (max (M31 20 i0 x4) x1))) →
        inR (x4 + 1) ∧
        V κ 5 M31 5 [some (.inr (18, i0)), some (.inl x1), some (.inl x2), some (.inl y3_54), some (.inl (x4 + 1))] [] K))))))))) : V κ 5 M 5 [some (.inr (18, i0)), some (.inl x1), some (.inl x2), some (.inl x3), some (.inl x4)] [] K := by
  refine v_iload C dX4_ticksTold_5 rfl ?_
  refine v_aload_n C dX4_ticksTold_7 rfl ?_
  refine v_get C dX4_ticksTold_8 flX4_18 rfl (by decide) (by decide) (w := .inr (5, 1)) rfl ?_
  refine v_get C dX4_ticksTold_11 flX4_34 rfl (by decide) (by decide) (w := .inl (M 5 1 7)) rfl ?_
  refine v_icmp C dX4_ticksTold_14 (tgt := 61) (by decide) (P := (M 5 1 7) ≤ x4) rfl (fun c14 => ?_) (fun c14 => ?_)
  · replace h := h.1 c14
    refine v_iload_n C dX4_ticksTold_61 rfl ?_
    exact v_iret C dX4_ticksTold_62 h
  · replace h := h.2 c14
    refine v_aload_n C dX4_ticksTold_17 rfl ?_
    refine v_iload C dX4_ticksTold_18 rfl ?_
    refine v_invV C ctX4_has dX4_ticksTold_20 ivX4_40 ⟨by decide, by decide, rfl, rfl⟩ ((i0, x4) : Int × Int) (As := [.inl x4]) rfl rfl rfl (by decide) rfl (st := []) rfl (Nat.le_of_ble_eq_true rfl) h (fun o M20 oM20 io20 h => ?_)
    obtain ⟨r20, rfl, h⟩ := rI_out h
    refine v_push ?_
    refine v_if C dX4_ticksTold_23 (tgt := 55) (by decide) (P := r20 = 0) rfl (fun c23 => ?_) (fun c23 => ?_)
    · replace h := h.1 c23
      refine v_iinc C dX4_ticksTold_55 (by decide) rfl h.1 (lv' := [some (.inr (18, i0)), some (.inl x1), some (.inl x2), some (.inl x3), some (.inl (x4 + 1))]) rfl ?_
      replace h := h.2
      refine v_goto C dX4_ticksTold_58 (tgt := 5) (by decide) ?_
      refine v_weak [some (.inr (18, i0)), some (.inl x1), some (.inl x2), some (.inl x3), some (.inl (x4 + 1))] ⟨rfl, rfl, rfl, rfl, rfl, trivial⟩ ?_
      exact h
    · replace h := h.2 c23
      refine v_iload_n C dX4_ticksTold_26 rfl ?_
      refine v_iconst C dX4_ticksTold_27 (by decide) ?_
      refine v_aload_n C dX4_ticksTold_28 rfl ?_
      refine v_iload C dX4_ticksTold_29 rfl ?_
      refine v_invV C ctX4_endOf dX4_ticksTold_31 ivX4_65 ⟨by decide, by decide, rfl, rfl⟩ ((i0, x4) : Int × Int) (As := [.inl x4]) rfl rfl rfl (by decide) rfl (st := [.inl 0, .inl x3]) rfl (Nat.le_of_ble_eq_true rfl) h (fun o M31 oM31 io31 h => ?_)
      obtain ⟨r31, rfl, h⟩ := rI_out h
      refine v_push ?_
      refine v_iload_n C dX4_ticksTold_34 rfl ?_
      refine v_min C dX4_ticksTold_35 ivX4_91 (Nat.le_of_ble_eq_true rfl) ⟨by decide, by decide⟩ ?_
      refine v_aload_n C dX4_ticksTold_38 rfl ?_
      refine v_get C dX4_ticksTold_39 flX4_15 rfl (by decide) (by decide) (w := .inr (20, i0)) rfl ?_
      refine v_iload C dX4_ticksTold_42 rfl ?_
      refine v_iald C dX4_ticksTold_44 rfl h.1.1 h.1.2 ?_
      replace h := h.2
      refine v_iload_n C dX4_ticksTold_45 rfl ?_
      refine v_max C dX4_ticksTold_46 ivX4_96 (Nat.le_of_ble_eq_true rfl) ⟨by decide, by decide⟩ ?_
      refine v_isub C dX4_ticksTold_49 h.1 ?_
      replace h := h.2
      refine v_max C dX4_ticksTold_50 ivX4_96 (Nat.le_of_ble_eq_true rfl) ⟨by decide, by decide⟩ ?_
      refine v_iadd C dX4_ticksTold_53 h.1 ?_
      replace h := h.2
      refine v_nm (fun y3_54 ey3_54 => ?_)
      replace h := h y3_54 ey3_54
      refine v_istore_n C dX4_ticksTold_54 (by decide) (Nat.le_of_ble_eq_true rfl) (lv' := [some (.inr (18, i0)), some (.inl x1), some (.inl x2), some (.inl y3_54), some (.inl x4)]) rfl ?_
      refine v_iinc C dX4_ticksTold_55 (by decide) rfl h.1 (lv' := [some (.inr (18, i0)), some (.inl x1), some (.inl x2), some (.inl y3_54), some (.inl (x4 + 1))]) rfl ?_
      replace h := h.2
      refine v_goto C dX4_ticksTold_58 (tgt := 5) (by decide) ?_
      refine v_weak [some (.inr (18, i0)), some (.inl x1), some (.inl x2), some (.inl y3_54), some (.inl (x4 + 1))] ⟨rfl, rfl, rfl, rfl, rfl, trivial⟩ ?_
      exact h
abbrev spX4_ticksTold (pl a b : Int) (M : Mem) (K : Kont) : Prop := (WFf (cFilm M 1) ∧ PlK (cFilm M 1) (M 19 pl) (M 20 pl) ∧ (0 ≤ a ∧ a ≤ 1000 ∧ 0 ≤ b ∧ b ≤ 1000)) ∧ K (some (tkN (cFilm M 1) (M 19 pl) (M 20 pl) a b (M 5 1 7).toNat)) M
theorem tkN_rng {F : Film} {ver sta : Int → Int} (hf : WFf F) (hP : PlK F ver sta) (a b : Int) (n : Nat) (hn : n ≤ 7) : -1000 * n ≤ tkN F ver sta a b n ∧ tkN F ver sta a b n ≤ 1000 * n := by
  unfold tkN
  refine sum_abs n (fun t h0 h1 => ?_)
  split
  · omega
  · rename_i hv
    have c := hP.at h0 (by omega) hv
    have d := wf_pv hf h0 c.1 c.2.1.1 c.2.1.2
    omega
theorem ctX4_ticksTold : CtX4_ticksTold spX4_ticksTold := by
  refine ct_of (by decide) dmC (fun _ => Nat.le_of_ble_eq_true rfl) ?_
  intro κ a M K C oM h
  obtain ⟨pl, a, b⟩ := a
  dsimp only [spX4_ticksTold] at h
  obtain ⟨⟨hf, hP, hab⟩, hk⟩ := h
  have hnP := hf.2.2.2.1
  simp only [cFilm] at hnP
  refine sgX4_ticksTold_0 C pl a b ?_
  have loop : ∀ (n : Nat) (p o : Int), 0 ≤ p → p + n = M 5 1 7 → o = tkN (cFilm M 1) (M 19 pl) (M 20 pl) a b p.toNat →
      V κ 5 M 5 [some (.inr (18, pl)), some (.inl a), some (.inl b), some (.inl o), some (.inl p)] [] K := by
    intro n
    induction n with
    | zero =>
      intro p o h0 hn ho
      refine sgX4_ticksTold_5 C pl a b o p ⟨fun c => ?_, fun c => absurd (by omega) c⟩
      have e : p = M 5 1 7 := by omega
      rw [ho, e]
      exact hk
    | succ n ih =>
      intro p o h0 hn ho
      have hr := tkN_rng hf hP a b p.toNat (by omega)
      have hs : tkN (cFilm M 1) (M 19 pl) (M 20 pl) a b (p + 1).toNat = tkN (cFilm M 1) (M 19 pl) (M 20 pl) a b p.toNat + (if M 19 pl p = -4 then 0 else max 0 (min (M 20 pl p + M 12 (7 * 1 + p) (M 19 pl p)) b - max (M 20 pl p) a)) := sumN_s _ h0
      refine sgX4_ticksTold_5 C pl a b o p ⟨fun c => absurd c (by omega), fun c => ⟨⟨h0, by omega⟩, fun c2 => ⟨by omega, ?_⟩, fun c2 => ?_⟩⟩
      · refine ih (p + 1) o (by omega) (by omega) ?_
        rw [hs, if_pos (if01 c2), ho]
        omega
      · have c3 := if01n c2
        have he := end_pre hf hP h0 (by omega) c3
        refine ⟨⟨by omega, he.1, he.2.2.2⟩, by omega, by omega, by omega, fun y ey => ⟨by omega, ?_⟩⟩
        refine ih (p + 1) y (by omega) (by omega) ?_
        rw [hs, if_neg c3, ey, ho]
  exact loop (M 5 1 7).toNat 0 0 (by omega) (by omega) rfl
/-! ===== GapTellings$Plan.tellsAt ===== -/
abbrev rmX4_tellsAt : Room := { frames := 2, cells := 0, slots := 0, locals := 45 }
abbrev argX4_tellsAt (a : Int × Int) : List PV := [.inr (18, a.1), .inl a.2]
abbrev CtX4_tellsAt (sp : Int → Int → Mem → Kont → Prop) : Prop := Ct yX4_tellsAt cX4_tellsAt 2 (some .boolean) rmX4_tellsAt domC argX4_tellsAt (fun a => sp a.1 a.2)
theorem dX4_tellsAt_0 : decode cX4_tellsAt 0 = .ok (.aload_n 0, 1) := by decide +kernel
theorem dX4_tellsAt_1 : decode cX4_tellsAt 1 = .ok (.iload_n 1, 1) := by decide +kernel
theorem dX4_tellsAt_2 : decode cX4_tellsAt 2 = .ok (.iload_n 1, 1) := by decide +kernel
theorem dX4_tellsAt_3 : decode cX4_tellsAt 3 = .ok (.iconst 1, 1) := by decide +kernel
theorem dX4_tellsAt_4 : decode cX4_tellsAt 4 = .ok (.iadd, 1) := by decide +kernel
theorem dX4_tellsAt_5 : decode cX4_tellsAt 5 = .ok (.invokevirtual 87, 3) := by decide +kernel
theorem dX4_tellsAt_8 : decode cX4_tellsAt 8 = .ok (.ifCond .le 7, 3) := by decide +kernel
theorem dX4_tellsAt_11 : decode cX4_tellsAt 11 = .ok (.iconst 1, 1) := by decide +kernel
theorem dX4_tellsAt_12 : decode cX4_tellsAt 12 = .ok (.goto 4, 3) := by decide +kernel
theorem dX4_tellsAt_15 : decode cX4_tellsAt 15 = .ok (.iconst 0, 1) := by decide +kernel
theorem dX4_tellsAt_16 : decode cX4_tellsAt 16 = .ok (.ireturn, 1) := by decide +kernel
theorem ivX4_87 : IV RX4 87 yX4_ticksTold cX4_ticksTold 5 (some .int) 2 := ⟨(tb_mem (t_in4 (List.mem_of_getElem? (i := 12) (by decide +kernel))) (by decide +kernel)), (tb_mem (t_in4 (List.mem_of_getElem? (i := 13) (by decide +kernel))) (by decide +kernel)), (tb_mem (t_in4 (List.mem_of_getElem? (i := 14) (by decide +kernel))) (by decide +kernel)), (tb_mem (t_in1 (List.mem_of_getElem? (i := 6) (by decide +kernel))) (by decide +kernel)), (tb_mem (t_in4 (List.mem_of_getElem? (i := 15) (by decide +kernel))) (by decide +kernel)), ⟨by decide +kernel, by decide +kernel, by decide +kernel⟩⟩
set_option maxHeartbeats 4000000 in
set_option maxRecDepth 20000 in
theorem sgX4_tellsAt_0 {κ : Kx} {K : Kont} {M : Mem} (C : Cx κ RX4 cX4_tellsAt 2 (some .boolean) rmX4_tellsAt domC) (i0 : Int) (x1 : Int)
    (h :
    inR (x1 + 1) ∧
    spX4_ticksTold i0 x1 (x1 + 1) M (rI (fun r5 M5 =>
    ((r5 ≤ 0 →
      K (some 0) M5) ∧
     (¬ (r5 ≤ 0) →
      K (some 1) M5))))) : V κ 2 M 0 [some (.inr (18, i0)), some (.inl x1)] [] K := by
  refine v_aload_n C dX4_tellsAt_0 rfl ?_
  refine v_iload_n C dX4_tellsAt_1 rfl ?_
  refine v_iload_n C dX4_tellsAt_2 rfl ?_
  refine v_iconst C dX4_tellsAt_3 (by decide) ?_
  refine v_iadd C dX4_tellsAt_4 h.1 ?_
  replace h := h.2
  refine v_invV C ctX4_ticksTold dX4_tellsAt_5 ivX4_87 ⟨by decide, by decide, rfl, rfl⟩ ((i0, x1, x1 + 1) : Int × Int × Int) (As := [.inl x1, .inl (x1 + 1)]) rfl rfl rfl (by decide) rfl (st := []) rfl (Nat.le_of_ble_eq_true rfl) h (fun o M5 oM5 io5 h => ?_)
  obtain ⟨r5, rfl, h⟩ := rI_out h
  refine v_push ?_
  refine v_if C dX4_tellsAt_8 (tgt := 15) (by decide) (P := r5 ≤ 0) rfl (fun c8 => ?_) (fun c8 => ?_)
  · replace h := h.1 c8
    refine v_iconst C dX4_tellsAt_15 (by decide) ?_
    exact v_zret C dX4_tellsAt_16 (by decide) h
  · replace h := h.2 c8
    refine v_iconst C dX4_tellsAt_11 (by decide) ?_
    refine v_goto C dX4_tellsAt_12 (tgt := 16) (by decide) ?_
    exact v_zret C dX4_tellsAt_16 (by decide) h
abbrev spX4_tellsAt (pl t : Int) (M : Mem) (K : Kont) : Prop := (WFf (cFilm M 1) ∧ PlK (cFilm M 1) (M 19 pl) (M 20 pl) ∧ (0 ≤ t ∧ t < 1000)) ∧ K (some (if tkN (cFilm M 1) (M 19 pl) (M 20 pl) t (t + 1) (M 5 1 7).toNat ≤ 0 then 0 else 1)) M
theorem ctX4_tellsAt : CtX4_tellsAt spX4_tellsAt := by
  refine ct_of (by decide) dmC (fun _ => Nat.le_of_ble_eq_true rfl) ?_
  intro κ a M K C oM h
  obtain ⟨pl, t⟩ := a
  dsimp only [spX4_tellsAt] at h
  obtain ⟨⟨hf, hP, hab⟩, hk⟩ := h
  refine sgX4_tellsAt_0 C pl t ⟨by omega, ⟨hf, hP, by omega, by omega, by omega, by omega⟩, fun c => ?_, fun c => ?_⟩
  · rw [if_pos c] at hk
    exact hk
  · rw [if_neg c] at hk
    exact hk
