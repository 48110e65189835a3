/-! ===== GapTellings$Track.hasSpeech ===== -/
abbrev rmX6_hasSpeech : Room := { frames := 0, cells := 0, slots := 0, locals := 0 }
abbrev argX6_hasSpeech (a : Int × Int) : List PV := [.inr (14, a.1), .inl a.2]
theorem dX6_hasSpeech_0 : decode cX6_hasSpeech 0 = .ok (.aload_n 0, 1) := by decide +kernel
theorem dX6_hasSpeech_1 : decode cX6_hasSpeech 1 = .ok (.getfield 9, 3) := by decide +kernel
theorem dX6_hasSpeech_4 : decode cX6_hasSpeech 4 = .ok (.iload_n 1, 1) := by decide +kernel
theorem dX6_hasSpeech_5 : decode cX6_hasSpeech 5 = .ok (.iaload, 1) := by decide +kernel
theorem dX6_hasSpeech_6 : decode cX6_hasSpeech 6 = .ok (.iconst 1, 1) := by decide +kernel
theorem dX6_hasSpeech_7 : decode cX6_hasSpeech 7 = .ok (.iand, 1) := by decide +kernel
theorem dX6_hasSpeech_8 : decode cX6_hasSpeech 8 = .ok (.ifCond .eq 7, 3) := by decide +kernel
theorem dX6_hasSpeech_11 : decode cX6_hasSpeech 11 = .ok (.iconst 1, 1) := by decide +kernel
theorem dX6_hasSpeech_12 : decode cX6_hasSpeech 12 = .ok (.goto 4, 3) := by decide +kernel
theorem dX6_hasSpeech_15 : decode cX6_hasSpeech 15 = .ok (.iconst 0, 1) := by decide +kernel
theorem dX6_hasSpeech_16 : decode cX6_hasSpeech 16 = .ok (.ireturn, 1) := by decide +kernel
theorem flX6_9 : FL RX6 9 6 1 := ⟨_, _, _, rfl, by decide, uwX6, Or.inl (tb_mem (t_in1 (List.mem_of_getElem? (i := 170) (by decide +kernel))) (by decide +kernel))⟩
set_option maxHeartbeats 4000000 in
set_option maxRecDepth 20000 in
theorem sgX6_hasSpeech_0 {κ : Kx} {K : Kont} {M : Mem} (C : Cx κ RX6 cX6_hasSpeech 2 (some .boolean) rmX6_hasSpeech domC) (i0 : Int) (x1 : Int)
    (h :
    (0 ≤ x1 ∧ x1 < 100) ∧
    (((bAnd (M 15 i0 x1) 1) = 0 →
      K (some 0) M) ∧
     (¬ ((bAnd (M 15 i0 x1) 1) = 0) →
      K (some 1) M))) : V κ 2 M 0 [some (.inr (14, i0)), some (.inl x1)] [] K := by
  refine v_aload_n C dX6_hasSpeech_0 rfl ?_
  refine v_get C dX6_hasSpeech_1 flX6_9 rfl (by decide) (by decide) (w := .inr (15, i0)) rfl ?_
  refine v_iload_n C dX6_hasSpeech_4 rfl ?_
  refine v_iald C dX6_hasSpeech_5 rfl h.1.1 h.1.2 ?_
  replace h := h.2
  refine v_iconst C dX6_hasSpeech_6 (by decide) ?_
  refine v_iand C dX6_hasSpeech_7 ?_
  refine v_if C dX6_hasSpeech_8 (tgt := 15) (by decide) (P := (bAnd (M 15 i0 x1) 1) = 0) rfl (fun c8 => ?_) (fun c8 => ?_)
  · replace h := h.1 c8
    refine v_iconst C dX6_hasSpeech_15 (by decide) ?_
    exact v_zret C dX6_hasSpeech_16 (by decide) h
  · replace h := h.2 c8
    refine v_iconst C dX6_hasSpeech_11 (by decide) ?_
    refine v_goto C dX6_hasSpeech_12 (tgt := 16) (by decide) ?_
    exact v_zret C dX6_hasSpeech_16 (by decide) h
abbrev spX6_hasSpeech (a : Int × Int) (M : Mem) (K : Kont) : Prop := (0 ≤ a.2 ∧ a.2 < 100) ∧ K (some (if bAnd (M 15 a.1 a.2) 1 ≠ 0 then 1 else 0)) M
