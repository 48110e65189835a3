/-! ===== TextReader ===== -/
/-! ===== GapTellings$TextReader.readNumbers ===== -/
abbrev rmX5_readNumbers : Room := { frames := 1, cells := 0, slots := 0, locals := 25 }
abbrev argX5_readNumbers (a : Int) : List PV := [.inr (2, 0), .inr (1, 0), .inl a]
abbrev CtX5_readNumbers (sp : Int → Mem → Kont → Prop) : Prop := Ct yX5_readNumbers cX5_readNumbers 5 (some .boolean) rmX5_readNumbers domC argX5_readNumbers (fun a => sp a)
theorem dX5_readNumbers_0 : decode cX5_readNumbers 0 = .ok (.aload_n 0, 1) := by decide +kernel
theorem dX5_readNumbers_1 : decode cX5_readNumbers 1 = .ok (.dup, 1) := by decide +kernel
theorem dX5_readNumbers_2 : decode cX5_readNumbers 2 = .ok (.getfield 23, 3) := by decide +kernel
theorem dX5_readNumbers_5 : decode cX5_readNumbers 5 = .ok (.iconst 1, 1) := by decide +kernel
theorem dX5_readNumbers_6 : decode cX5_readNumbers 6 = .ok (.iadd, 1) := by decide +kernel
theorem dX5_readNumbers_7 : decode cX5_readNumbers 7 = .ok (.putfield 23, 3) := by decide +kernel
theorem dX5_readNumbers_10 : decode cX5_readNumbers 10 = .ok (.iconst 0, 1) := by decide +kernel
theorem dX5_readNumbers_11 : decode cX5_readNumbers 11 = .ok (.istore_n 3, 1) := by decide +kernel
theorem dX5_readNumbers_12 : decode cX5_readNumbers 12 = .ok (.iload_n 3, 1) := by decide +kernel
theorem dX5_readNumbers_13 : decode cX5_readNumbers 13 = .ok (.bipush 9, 2) := by decide +kernel
theorem dX5_readNumbers_15 : decode cX5_readNumbers 15 = .ok (.if_icmp .ge 78, 3) := by decide +kernel
theorem dX5_readNumbers_18 : decode cX5_readNumbers 18 = .ok (.aload_n 0, 1) := by decide +kernel
theorem dX5_readNumbers_19 : decode cX5_readNumbers 19 = .ok (.aload_n 1, 1) := by decide +kernel
theorem dX5_readNumbers_20 : decode cX5_readNumbers 20 = .ok (.iload_n 2, 1) := by decide +kernel
theorem dX5_readNumbers_21 : decode cX5_readNumbers 21 = .ok (.iload_n 3, 1) := by decide +kernel
theorem dX5_readNumbers_22 : decode cX5_readNumbers 22 = .ok (.invokevirtual 35, 3) := by decide +kernel
theorem dX5_readNumbers_25 : decode cX5_readNumbers 25 = .ok (.aload_n 0, 1) := by decide +kernel
theorem dX5_readNumbers_26 : decode cX5_readNumbers 26 = .ok (.getfield 15, 3) := by decide +kernel
theorem dX5_readNumbers_29 : decode cX5_readNumbers 29 = .ok (.iload_n 3, 1) := by decide +kernel
theorem dX5_readNumbers_30 : decode cX5_readNumbers 30 = .ok (.iaload, 1) := by decide +kernel
theorem dX5_readNumbers_31 : decode cX5_readNumbers 31 = .ok (.ifCond .eq 11, 3) := by decide +kernel
theorem dX5_readNumbers_34 : decode cX5_readNumbers 34 = .ok (.aload_n 0, 1) := by decide +kernel
theorem dX5_readNumbers_35 : decode cX5_readNumbers 35 = .ok (.getfield 23, 3) := by decide +kernel
theorem dX5_readNumbers_38 : decode cX5_readNumbers 38 = .ok (.iload_n 2, 1) := by decide +kernel
theorem dX5_readNumbers_39 : decode cX5_readNumbers 39 = .ok (.if_icmp .lt 5, 3) := by decide +kernel
theorem dX5_readNumbers_42 : decode cX5_readNumbers 42 = .ok (.iconst 0, 1) := by decide +kernel
theorem dX5_readNumbers_43 : decode cX5_readNumbers 43 = .ok (.ireturn, 1) := by decide +kernel
theorem dX5_readNumbers_44 : decode cX5_readNumbers 44 = .ok (.aload_n 0, 1) := by decide +kernel
theorem dX5_readNumbers_45 : decode cX5_readNumbers 45 = .ok (.iload_n 3, 1) := by decide +kernel
theorem dX5_readNumbers_46 : decode cX5_readNumbers 46 = .ok (.iconst 1, 1) := by decide +kernel
theorem dX5_readNumbers_47 : decode cX5_readNumbers 47 = .ok (.iadd, 1) := by decide +kernel
theorem dX5_readNumbers_48 : decode cX5_readNumbers 48 = .ok (.putfield 39, 3) := by decide +kernel
theorem dX5_readNumbers_51 : decode cX5_readNumbers 51 = .ok (.aload_n 1, 1) := by decide +kernel
theorem dX5_readNumbers_52 : decode cX5_readNumbers 52 = .ok (.aload_n 0, 1) := by decide +kernel
theorem dX5_readNumbers_53 : decode cX5_readNumbers 53 = .ok (.getfield 23, 3) := by decide +kernel
theorem dX5_readNumbers_56 : decode cX5_readNumbers 56 = .ok (.caload, 1) := by decide +kernel
theorem dX5_readNumbers_57 : decode cX5_readNumbers 57 = .ok (.istore 4, 2) := by decide +kernel
theorem dX5_readNumbers_59 : decode cX5_readNumbers 59 = .ok (.aload_n 0, 1) := by decide +kernel
theorem dX5_readNumbers_60 : decode cX5_readNumbers 60 = .ok (.dup, 1) := by decide +kernel
theorem dX5_readNumbers_61 : decode cX5_readNumbers 61 = .ok (.getfield 23, 3) := by decide +kernel
theorem dX5_readNumbers_64 : decode cX5_readNumbers 64 = .ok (.iconst 1, 1) := by decide +kernel
theorem dX5_readNumbers_65 : decode cX5_readNumbers 65 = .ok (.iadd, 1) := by decide +kernel
theorem dX5_readNumbers_66 : decode cX5_readNumbers 66 = .ok (.putfield 23, 3) := by decide +kernel
theorem dX5_readNumbers_69 : decode cX5_readNumbers 69 = .ok (.iload 4, 2) := by decide +kernel
theorem dX5_readNumbers_71 : decode cX5_readNumbers 71 = .ok (.bipush 59, 2) := by decide +kernel
theorem dX5_readNumbers_73 : decode cX5_readNumbers 73 = .ok (.if_icmp .ne 5, 3) := by decide +kernel
theorem dX5_readNumbers_76 : decode cX5_readNumbers 76 = .ok (.iconst 1, 1) := by decide +kernel
theorem dX5_readNumbers_77 : decode cX5_readNumbers 77 = .ok (.ireturn, 1) := by decide +kernel
theorem dX5_readNumbers_78 : decode cX5_readNumbers 78 = .ok (.iload 4, 2) := by decide +kernel
theorem dX5_readNumbers_80 : decode cX5_readNumbers 80 = .ok (.bipush 44, 2) := by decide +kernel
theorem dX5_readNumbers_82 : decode cX5_readNumbers 82 = .ok (.if_icmp .eq 5, 3) := by decide +kernel
theorem dX5_readNumbers_85 : decode cX5_readNumbers 85 = .ok (.iconst 0, 1) := by decide +kernel
theorem dX5_readNumbers_86 : decode cX5_readNumbers 86 = .ok (.ireturn, 1) := by decide +kernel
theorem dX5_readNumbers_87 : decode cX5_readNumbers 87 = .ok (.iinc 3 1, 3) := by decide +kernel
theorem dX5_readNumbers_90 : decode cX5_readNumbers 90 = .ok (.goto (-78), 3) := by decide +kernel
theorem dX5_readNumbers_93 : decode cX5_readNumbers 93 = .ok (.iconst 0, 1) := by decide +kernel
theorem dX5_readNumbers_94 : decode cX5_readNumbers 94 = .ok (.ireturn, 1) := by decide +kernel
theorem ivX5_35 : IV RX5 35 yX5_readNumber cX5_readNumber 6 none 3 := ⟨(tb_mem (t_in2 (List.mem_of_getElem? (i := 88) (by decide +kernel))) (by decide +kernel)), (tb_mem (t_in2 (List.mem_of_getElem? (i := 89) (by decide +kernel))) (by decide +kernel)), (tb_mem (t_in2 (List.mem_of_getElem? (i := 90) (by decide +kernel))) (by decide +kernel)), (tb_mem (t_in1 (List.mem_of_getElem? (i := 2) (by decide +kernel))) (by decide +kernel)), (tb_mem (t_in2 (List.mem_of_getElem? (i := 91) (by decide +kernel))) (by decide +kernel)), ⟨by decide +kernel, by decide +kernel, by decide +kernel⟩⟩
theorem plX5_39 : PL RX5 39 5 2 .int := ⟨_, _, _, rfl, by decide, uwX5, Or.inl (tb_mem (t_in1 (List.mem_of_getElem? (i := 35) (by decide +kernel))) (by decide +kernel)), rfl, by decide +kernel, tyX5, tyX5_ok, nmX5⟩
set_option maxHeartbeats 4000000 in
set_option maxRecDepth 20000 in
theorem sgX5_readNumbers_0 {κ : Kx} {K : Kont} {M : Mem} (C : Cx κ RX5 cX5_readNumbers 5 (some .boolean) rmX5_readNumbers domC) (x2 : Int)
    (h :
    inR ((M 2 0 3) + 1) ∧
    ∀ M7 : Mem, M7 = up3 M 2 0 3 ((M 2 0 3) + 1) →
    V κ 5 M7 12 [some (.inr (2, 0)), some (.inr (1, 0)), some (.inl x2), some (.inl 0), none] [] K) : V κ 5 M 0 [some (.inr (2, 0)), some (.inr (1, 0)), some (.inl x2), none, none] [] K := by
  refine v_aload_n C dX5_readNumbers_0 rfl ?_
  refine v_dup C dX5_readNumbers_1 ?_
  refine v_get C dX5_readNumbers_2 flX5_23 rfl (by decide) (by decide) (w := .inl (M 2 0 3)) rfl ?_
  refine v_iconst C dX5_readNumbers_5 (by decide) ?_
  refine v_iadd C dX5_readNumbers_6 h.1 ?_
  replace h := h.2
  refine v_put C dX5_readNumbers_7 plX5_23 rfl (by decide) (by decide) rfl rfl rfl ?_
  refine v_nmM (fun M7 eM7 => ?_)
  replace h := h M7 eM7
  refine v_iconst C dX5_readNumbers_10 (by decide) ?_
  refine v_istore_n C dX5_readNumbers_11 (by decide) (Nat.le_of_ble_eq_true rfl) (lv' := [some (.inr (2, 0)), some (.inr (1, 0)), some (.inl x2), some (.inl 0), none]) rfl ?_
  refine v_weak [some (.inr (2, 0)), some (.inr (1, 0)), some (.inl x2), some (.inl 0), none] ⟨rfl, rfl, rfl, rfl, trivial⟩ ?_
  exact h
set_option maxHeartbeats 4000000 in
set_option maxRecDepth 20000 in
theorem sgX5_readNumbers_12 {κ : Kx} {K : Kont} {M : Mem} (C : Cx κ RX5 cX5_readNumbers 5 (some .boolean) rmX5_readNumbers domC) (x2 : Int) (x3 : Int)
    (h :
    ((9 ≤ x3 →
      K (some 0) M) ∧
     (¬ (9 ≤ x3) →
      spX5_readNumber x2 x3 M (rV (fun M22 =>
      (0 ≤ x3 ∧ x3 < 9) ∧
      (((M22 4 0 x3) = 0 →
        K (some 0) M22) ∧
       (¬ ((M22 4 0 x3) = 0) →
        (((M22 2 0 3) < x2 →
          inR (x3 + 1) ∧
          ∀ M48 : Mem, M48 = up3 M22 2 0 2 (x3 + 1) →
          (0 ≤ (M48 2 0 3) ∧ (M48 2 0 3) < 200) ∧
          ∀ y4_57 : Int, y4_57 = M48 1 0 (M48 2 0 3) →
          inR ((M48 2 0 3) + 1) ∧
          ∀ M66 : Mem, M66 = up3 M48 2 0 3 ((M48 2 0 3) + 1) →
          ((y4_57 ≠ 59 →
            ((y4_57 = 44 →
              inR (x3 + 1) ∧
              V κ 5 M66 12 [some (.inr (2, 0)), some (.inr (1, 0)), some (.inl x2), some (.inl (x3 + 1)), none] [] K) ∧
             (¬ (y4_57 = 44) →
              K (some 0) M66))) ∧
           (¬ (y4_57 ≠ 59) →
            K (some 1) M66))) ∧
         (¬ ((M22 2 0 3) < x2) →
          K (some 0) M22))))))))) : V κ 5 M 12 [some (.inr (2, 0)), some (.inr (1, 0)), some (.inl x2), some (.inl x3), none] [] K := by
  refine v_iload_n C dX5_readNumbers_12 rfl ?_
  refine v_bipush C dX5_readNumbers_13 (by decide) (by decide) ?_
  refine v_icmp C dX5_readNumbers_15 (tgt := 93) (by decide) (P := 9 ≤ x3) rfl (fun c15 => ?_) (fun c15 => ?_)
  · replace h := h.1 c15
    refine v_iconst C dX5_readNumbers_93 (by decide) ?_
    exact v_zret C dX5_readNumbers_94 (by decide) h
  · replace h := h.2 c15
    refine v_aload_n C dX5_readNumbers_18 rfl ?_
    refine v_aload_n C dX5_readNumbers_19 rfl ?_
    refine v_iload_n C dX5_readNumbers_20 rfl ?_
    refine v_iload_n C dX5_readNumbers_21 rfl ?_
    refine v_invV C ctX5_readNumber dX5_readNumbers_22 ivX5_35 ⟨by decide, by decide, rfl, rfl⟩ ((x2, x3) : Int × Int) (As := [.inr (1, 0), .inl x2, .inl x3]) rfl rfl rfl (by decide) rfl (st := []) rfl (Nat.le_of_ble_eq_true rfl) h (fun o M22 oM22 io22 h => ?_)
    obtain ⟨rfl, h⟩ := rV_out h
    refine v_push0 ?_
    refine v_aload_n C dX5_readNumbers_25 rfl ?_
    refine v_get C dX5_readNumbers_26 flX5_15 rfl (by decide) (by decide) (w := .inr (4, 0)) rfl ?_
    refine v_iload_n C dX5_readNumbers_29 rfl ?_
    refine v_iald C dX5_readNumbers_30 rfl h.1.1 h.1.2 ?_
    replace h := h.2
    refine v_if C dX5_readNumbers_31 (tgt := 42) (by decide) (P := (M22 4 0 x3) = 0) rfl (fun c31 => ?_) (fun c31 => ?_)
    · replace h := h.1 c31
      refine v_iconst C dX5_readNumbers_42 (by decide) ?_
      exact v_zret C dX5_readNumbers_43 (by decide) h
    · replace h := h.2 c31
      refine v_aload_n C dX5_readNumbers_34 rfl ?_
      refine v_get C dX5_readNumbers_35 flX5_23 rfl (by decide) (by decide) (w := .inl (M22 2 0 3)) rfl ?_
      refine v_iload_n C dX5_readNumbers_38 rfl ?_
      refine v_icmp C dX5_readNumbers_39 (tgt := 44) (by decide) (P := (M22 2 0 3) < x2) rfl (fun c39 => ?_) (fun c39 => ?_)
      · replace h := h.1 c39
        refine v_aload_n C dX5_readNumbers_44 rfl ?_
        refine v_iload_n C dX5_readNumbers_45 rfl ?_
        refine v_iconst C dX5_readNumbers_46 (by decide) ?_
        refine v_iadd C dX5_readNumbers_47 h.1 ?_
        replace h := h.2
        refine v_put C dX5_readNumbers_48 plX5_39 rfl (by decide) (by decide) rfl rfl rfl ?_
        refine v_nmM (fun M48 eM48 => ?_)
        replace h := h M48 eM48
        refine v_aload_n C dX5_readNumbers_51 rfl ?_
        refine v_aload_n C dX5_readNumbers_52 rfl ?_
        refine v_get C dX5_readNumbers_53 flX5_23 rfl (by decide) (by decide) (w := .inl (M48 2 0 3)) rfl ?_
        refine v_cald C dX5_readNumbers_56 rfl h.1.1 h.1.2 ?_
        replace h := h.2
        refine v_nm (fun y4_57 ey4_57 => ?_)
        replace h := h y4_57 ey4_57
        refine v_istore C dX5_readNumbers_57 (by decide) (Nat.le_of_ble_eq_true rfl) (lv' := [some (.inr (2, 0)), some (.inr (1, 0)), some (.inl x2), some (.inl x3), some (.inl y4_57)]) rfl ?_
        refine v_aload_n C dX5_readNumbers_59 rfl ?_
        refine v_dup C dX5_readNumbers_60 ?_
        refine v_get C dX5_readNumbers_61 flX5_23 rfl (by decide) (by decide) (w := .inl (M48 2 0 3)) rfl ?_
        refine v_iconst C dX5_readNumbers_64 (by decide) ?_
        refine v_iadd C dX5_readNumbers_65 h.1 ?_
        replace h := h.2
        refine v_put C dX5_readNumbers_66 plX5_23 rfl (by decide) (by decide) rfl rfl rfl ?_
        refine v_nmM (fun M66 eM66 => ?_)
        replace h := h M66 eM66
        refine v_iload C dX5_readNumbers_69 rfl ?_
        refine v_bipush C dX5_readNumbers_71 (by decide) (by decide) ?_
        refine v_icmp C dX5_readNumbers_73 (tgt := 78) (by decide) (P := y4_57 ≠ 59) rfl (fun c73 => ?_) (fun c73 => ?_)
        · replace h := h.1 c73
          refine v_iload C dX5_readNumbers_78 rfl ?_
          refine v_bipush C dX5_readNumbers_80 (by decide) (by decide) ?_
          refine v_icmp C dX5_readNumbers_82 (tgt := 87) (by decide) (P := y4_57 = 44) rfl (fun c82 => ?_) (fun c82 => ?_)
          · replace h := h.1 c82
            refine v_iinc C dX5_readNumbers_87 (by decide) rfl h.1 (lv' := [some (.inr (2, 0)), some (.inr (1, 0)), some (.inl x2), some (.inl (x3 + 1)), some (.inl y4_57)]) rfl ?_
            replace h := h.2
            refine v_goto C dX5_readNumbers_90 (tgt := 12) (by decide) ?_
            refine v_weak [some (.inr (2, 0)), some (.inr (1, 0)), some (.inl x2), some (.inl (x3 + 1)), none] ⟨rfl, rfl, rfl, rfl, trivial⟩ ?_
            exact h
          · replace h := h.2 c82
            refine v_iconst C dX5_readNumbers_85 (by decide) ?_
            exact v_zret C dX5_readNumbers_86 (by decide) h
        · replace h := h.2 c73
          refine v_iconst C dX5_readNumbers_76 (by decide) ?_
          exact v_zret C dX5_readNumbers_77 (by decide) h
      · replace h := h.2 c39
        refine v_iconst C dX5_readNumbers_42 (by decide) ?_
        exact v_zret C dX5_readNumbers_43 (by decide) h
abbrev spX5_readNumbers (L : Int) (M : Mem) (K : Kont) : Prop := (0 ≤ M 2 0 3 ∧ M 2 0 3 < L ∧ L ≤ 200) ∧
  (∀ M', AgR M M' → tks (M 1 0) L 9 (M 2 0 3 + 1) = none → K (some 0) M') ∧
  (∀ M' l e, AgR M M' → tks (M 1 0) L 9 (M 2 0 3 + 1) = some (l, e) → M' 2 0 2 = l.length → M' 2 0 3 = e → (∀ k : Nat, k < l.length → M' 3 0 k = (l.getD k (0, 0)).1 ∧ M' 4 0 k = (l.getD k (0, 0)).2) → K (some 1) M')
theorem ctX5_readNumbers : CtX5_readNumbers spX5_readNumbers := by
  refine ct_of (by decide) dmC (fun _ => Nat.le_of_ble_eq_true rfl) ?_
  intro κ L M K C oM h
  dsimp only [spX5_readNumbers] at h
  obtain ⟨hL, hk1, hk2⟩ := h
  have loop : ∀ (n i : Nat) (N : Mem) (pre : List (Int × Int)), i + n = 9 → pre.length = i → AgR M N → (0 ≤ N 2 0 3 ∧ N 2 0 3 ≤ L) → (∀ k : Nat, k < i → N 3 0 k = (pre.getD k (0, 0)).1 ∧ N 4 0 k = (pre.getD k (0, 0)).2) →
      (tks (M 1 0) L 9 (M 2 0 3 + 1) = (tks (M 1 0) L n (N 2 0 3)).map (fun q => (pre ++ q.1, q.2))) →
      V κ 5 N 12 [some (.inr (2, 0)), some (.inr (1, 0)), some (.inl L), some (.inl (i : Int)), none] [] K := by
    intro n
    induction n with
    | zero =>
      intro i N pre hn hp hA hat hnum ht
      refine sgX5_readNumbers_12 C L i ⟨fun c => hk1 N hA (by rw [ht]; rfl), fun c => absurd (by omega) c⟩
    | succ n ih =>
      intro i N pre hn hp hA hat hnum ht
      have hX : N 1 = M 1 := hA 1 (by omega)
      refine sgX5_readNumbers_12 C L i ⟨fun c => absurd c (by omega), fun c => ⟨⟨⟨hat.1, hat.2, hL.2.2⟩, by omega⟩, ?_⟩⟩
      intro N1 hA1 r2 r3 r30 r40 ro
      rw [hX] at r3 r30 r40
      have hc := dgc_rng (M 1 0) L 3 (N 2 0 3)
      have hv := dgv_rng (M 1 0) L 3 (N 2 0 3) 0 0 (by omega) (by omega)
      have hX1 : N1 1 = M 1 := by rw [hA1 1 (by omega), hX]
      have tq : tks (M 1 0) L (n + 1) (N 2 0 3) = if dgc (M 1 0) L 3 (N 2 0 3) = 0 ∨ L ≤ N 2 0 3 + dgc (M 1 0) L 3 (N 2 0 3) then none
          else if M 1 0 (N 2 0 3 + dgc (M 1 0) L 3 (N 2 0 3)) = 59 then some ([(dgv (M 1 0) L 3 (N 2 0 3) 0, dgc (M 1 0) L 3 (N 2 0 3))], N 2 0 3 + dgc (M 1 0) L 3 (N 2 0 3) + 1)
          else if M 1 0 (N 2 0 3 + dgc (M 1 0) L 3 (N 2 0 3)) = 44 then (tks (M 1 0) L n (N 2 0 3 + dgc (M 1 0) L 3 (N 2 0 3) + 1)).map (fun q => ((dgv (M 1 0) L 3 (N 2 0 3) 0, dgc (M 1 0) L 3 (N 2 0 3)) :: q.1, q.2))
          else none := rfl
      rw [tq] at ht
      generalize dgc (M 1 0) L 3 (N 2 0 3) = dc at *
      generalize dgv (M 1 0) L 3 (N 2 0 3) 0 = dv at *
      refine ⟨by omega, fun c2 => ?_, fun c2 => ⟨fun c3 => ⟨by omega, fun N2 e2 => ?_⟩, fun c3 => ?_⟩⟩
      · rw [if_pos (Or.inl (by omega))] at ht
        exact hk1 N1 (hA.tr hA1) (by rw [ht]; rfl)
      · rw [if_neg (by omega)] at ht
        have at2 : N2 2 0 3 = N 2 0 3 + dc := by rw [e2, up3_j _ _ _ _ _ (by decide)]; exact r3
        have x2 : N2 1 0 (N2 2 0 3) = M 1 0 (N 2 0 3 + dc) := by rw [at2, e2, up3_r _ _ _ _ _ (by decide), hX1]
        refine ⟨by omega, fun y ey => ⟨by omega, fun N3 e3 => ?_⟩⟩
        rw [x2] at ey
        have at3 : N3 2 0 3 = N 2 0 3 + dc + 1 := by rw [e3, up3_s, at2]
        have hA3 : AgR M N3 := by rw [e3, e2]; exact ((hA.tr hA1).up (by decide) _ _ _).up (by decide) _ _ _
        have f3 : N3 2 0 2 = i + 1 := by rw [e3, up3_j _ _ _ _ _ (by decide), e2, up3_s]
        have nums : ∀ k : Nat, k < i + 1 → N3 3 0 k = ((pre ++ [(dv, dc)]).getD k (0, 0)).1 ∧ N3 4 0 k = ((pre ++ [(dv, dc)]).getD k (0, 0)).2 := by
          intro k hk
          rw [e3, up3_r _ _ _ _ _ (by decide), up3_r _ _ _ _ _ (by decide), e2, up3_r _ _ _ _ _ (by decide), up3_r _ _ _ _ _ (by decide)]
          by_cases e : k = i
          · subst e
            rw [r30, r40, List.getD_eq_getElem?_getD, List.getElem?_append_right (by omega), hp]
            simp
          · have hk2 : k < pre.length := by omega
            have := ro k (by omega)
            rw [this.1, this.2, List.getD_eq_getElem?_getD, List.getElem?_append_left hk2, ← List.getD_eq_getElem?_getD]
            exact hnum k (by omega)
        refine ⟨fun c4 => ⟨fun c5 => ⟨by omega, ?_⟩, fun c5 => ?_⟩, fun c4 => ?_⟩
        · rw [if_neg (by omega), if_pos (by omega)] at ht
          have := ih (i + 1) N3 (pre ++ [(dv, dc)]) (by omega) (by simp [hp]) hA3 (by omega) nums ?_
          · exact this
          · rw [ht, at3]
            cases tks (M 1 0) L n (N 2 0 3 + dc + 1) with
            | none => rfl
            | some q => simp
        · rw [if_neg (by omega), if_neg (by omega)] at ht
          exact hk1 N3 hA3 (by rw [ht]; rfl)
        · rw [if_pos (by omega)] at ht
          have ht' : tks (M 1 0) L 9 (M 2 0 3 + 1) = some (pre ++ [(dv, dc)], N 2 0 3 + dc + 1) := by rw [ht]; rfl
          refine hk2 N3 _ _ hA3 ht' (by rw [f3]; simp [hp]) at3 ?_
          intro k hk
          exact nums k (by simp [hp] at hk; omega)
      · rw [if_pos (Or.inr (by omega))] at ht
        exact hk1 N1 (hA.tr hA1) (by rw [ht]; rfl)
  refine sgX5_readNumbers_0 C L ⟨by omega, fun N eN => ?_⟩
  have at1 : N 2 0 3 = M 2 0 3 + 1 := by rw [eN, up3_s]
  refine loop 9 0 N [] (by omega) rfl (by rw [eN]; exact AgR.rf.up (by decide) _ _ _) (by omega) (fun k hk => by omega) ?_
  rw [at1]
  cases tks (M 1 0) L 9 (M 2 0 3 + 1) with
  | none => rfl
  | some q => simp
/-- the reader holds these numbers -/
def RdK (M : Mem) (l : List (Int × Int)) : Prop := M 2 0 2 = l.length ∧ (1 ≤ l.length ∧ l.length ≤ 9) ∧ (∀ q ∈ l, (0 ≤ q.1 ∧ q.1 ≤ 999) ∧ (1 ≤ q.2 ∧ q.2 ≤ 3)) ∧ ∀ k : Nat, k < l.length → M 3 0 k = (l.getD k (0, 0)).1 ∧ M 4 0 k = (l.getD k (0, 0)).2
theorem RdK.at {M : Mem} {l : List (Int × Int)} (h : RdK M l) {k : Nat} (hk : k < l.length) : (M 3 0 k = (l.getD k (0, 0)).1 ∧ M 4 0 k = (l.getD k (0, 0)).2) ∧ (0 ≤ (l.getD k (0, 0)).1 ∧ (l.getD k (0, 0)).1 ≤ 999) ∧ (1 ≤ (l.getD k (0, 0)).2 ∧ (l.getD k (0, 0)).2 ≤ 3) := by
  have e : l.getD k (0, 0) = l[k] := by rw [List.getD_eq_getElem?_getD, List.getElem?_eq_getElem hk]; rfl
  have := h.2.2.1 (l.getD k (0, 0)) (by rw [e]; exact List.getElem_mem hk)
  exact ⟨h.2.2.2 k hk, this.1, this.2⟩
/-! ===== GapTellings$TextReader.allShort ===== -/
abbrev rmX5_allShort : Room := { frames := 0, cells := 0, slots := 0, locals := 0 }
abbrev argX5_allShort (a : Unit) : List PV := [.inr (2, 0)]
abbrev CtX5_allShort (sp : Mem → Kont → Prop) : Prop := Ct yX5_allShort cX5_allShort 2 (some .boolean) rmX5_allShort domC argX5_allShort (fun _ => sp)
theorem dX5_allShort_0 : decode cX5_allShort 0 = .ok (.iconst 0, 1) := by decide +kernel
theorem dX5_allShort_1 : decode cX5_allShort 1 = .ok (.istore_n 1, 1) := by decide +kernel
theorem dX5_allShort_2 : decode cX5_allShort 2 = .ok (.iload_n 1, 1) := by decide +kernel
theorem dX5_allShort_3 : decode cX5_allShort 3 = .ok (.aload_n 0, 1) := by decide +kernel
theorem dX5_allShort_4 : decode cX5_allShort 4 = .ok (.getfield 39, 3) := by decide +kernel
theorem dX5_allShort_7 : decode cX5_allShort 7 = .ok (.if_icmp .ge 21, 3) := by decide +kernel
theorem dX5_allShort_10 : decode cX5_allShort 10 = .ok (.aload_n 0, 1) := by decide +kernel
theorem dX5_allShort_11 : decode cX5_allShort 11 = .ok (.getfield 15, 3) := by decide +kernel
theorem dX5_allShort_14 : decode cX5_allShort 14 = .ok (.iload_n 1, 1) := by decide +kernel
theorem dX5_allShort_15 : decode cX5_allShort 15 = .ok (.iaload, 1) := by decide +kernel
theorem dX5_allShort_16 : decode cX5_allShort 16 = .ok (.iconst 2, 1) := by decide +kernel
theorem dX5_allShort_17 : decode cX5_allShort 17 = .ok (.if_icmp .le 5, 3) := by decide +kernel
theorem dX5_allShort_20 : decode cX5_allShort 20 = .ok (.iconst 0, 1) := by decide +kernel
theorem dX5_allShort_21 : decode cX5_allShort 21 = .ok (.ireturn, 1) := by decide +kernel
theorem dX5_allShort_22 : decode cX5_allShort 22 = .ok (.iinc 1 1, 3) := by decide +kernel
theorem dX5_allShort_25 : decode cX5_allShort 25 = .ok (.goto (-23), 3) := by decide +kernel
theorem dX5_allShort_28 : decode cX5_allShort 28 = .ok (.iconst 1, 1) := by decide +kernel
theorem dX5_allShort_29 : decode cX5_allShort 29 = .ok (.ireturn, 1) := by decide +kernel
theorem flX5_39 : FL RX5 39 5 2 := ⟨_, _, _, rfl, by decide, uwX5, Or.inl (tb_mem (t_in1 (List.mem_of_getElem? (i := 35) (by decide +kernel))) (by decide +kernel))⟩
set_option maxHeartbeats 4000000 in
set_option maxRecDepth 20000 in
theorem sgX5_allShort_0 {κ : Kx} {K : Kont} {M : Mem} (C : Cx κ RX5 cX5_allShort 2 (some .boolean) rmX5_allShort domC) 
    (h :
    V κ 2 M 2 [some (.inr (2, 0)), some (.inl 0)] [] K) : V κ 2 M 0 [some (.inr (2, 0)), none] [] K := by
  refine v_iconst C dX5_allShort_0 (by decide) ?_
  refine v_istore_n C dX5_allShort_1 (by decide) (Nat.le_of_ble_eq_true rfl) (lv' := [some (.inr (2, 0)), some (.inl 0)]) rfl ?_
  refine v_weak [some (.inr (2, 0)), some (.inl 0)] ⟨rfl, rfl, trivial⟩ ?_
  exact h
set_option maxHeartbeats 4000000 in
set_option maxRecDepth 20000 in
theorem sgX5_allShort_2 {κ : Kx} {K : Kont} {M : Mem} (C : Cx κ RX5 cX5_allShort 2 (some .boolean) rmX5_allShort domC) (x1 : Int)
    (h :
    (((M 2 0 2) ≤ x1 →
      K (some 1) M) ∧
     (¬ ((M 2 0 2) ≤ x1) →
      (0 ≤ x1 ∧ x1 < 9) ∧
      (((M 4 0 x1) ≤ 2 →
        inR (x1 + 1) ∧
        V κ 2 M 2 [some (.inr (2, 0)), some (.inl (x1 + 1))] [] K) ∧
       (¬ ((M 4 0 x1) ≤ 2) →
        K (some 0) M))))) : V κ 2 M 2 [some (.inr (2, 0)), some (.inl x1)] [] K := by
  refine v_iload_n C dX5_allShort_2 rfl ?_
  refine v_aload_n C dX5_allShort_3 rfl ?_
  refine v_get C dX5_allShort_4 flX5_39 rfl (by decide) (by decide) (w := .inl (M 2 0 2)) rfl ?_
  refine v_icmp C dX5_allShort_7 (tgt := 28) (by decide) (P := (M 2 0 2) ≤ x1) rfl (fun c7 => ?_) (fun c7 => ?_)
  · replace h := h.1 c7
    refine v_iconst C dX5_allShort_28 (by decide) ?_
    exact v_zret C dX5_allShort_29 (by decide) h
  · replace h := h.2 c7
    refine v_aload_n C dX5_allShort_10 rfl ?_
    refine v_get C dX5_allShort_11 flX5_15 rfl (by decide) (by decide) (w := .inr (4, 0)) rfl ?_
    refine v_iload_n C dX5_allShort_14 rfl ?_
    refine v_iald C dX5_allShort_15 rfl h.1.1 h.1.2 ?_
    replace h := h.2
    refine v_iconst C dX5_allShort_16 (by decide) ?_
    refine v_icmp C dX5_allShort_17 (tgt := 22) (by decide) (P := (M 4 0 x1) ≤ 2) rfl (fun c17 => ?_) (fun c17 => ?_)
    · replace h := h.1 c17
      refine v_iinc C dX5_allShort_22 (by decide) rfl h.1 (lv' := [some (.inr (2, 0)), some (.inl (x1 + 1))]) rfl ?_
      replace h := h.2
      refine v_goto C dX5_allShort_25 (tgt := 2) (by decide) ?_
      refine v_weak [some (.inr (2, 0)), some (.inl (x1 + 1))] ⟨rfl, rfl, trivial⟩ ?_
      exact h
    · replace h := h.2 c17
      refine v_iconst C dX5_allShort_20 (by decide) ?_
      exact v_zret C dX5_allShort_21 (by decide) h
def shortB (l : List (Int × Int)) : Bool := l.all (fun q => decide (q.2 ≤ 2))
def aN (l : List (Int × Int)) (k : Nat) : Int := (l.getD k (0, 0)).1
def cN (l : List (Int × Int)) (k : Nat) : Int := (l.getD k (0, 0)).2
theorem short_iff (l : List (Int × Int)) : shortB l = true ↔ ∀ k : Nat, k < l.length → cN l k ≤ 2 := by
  unfold shortB cN
  rw [List.all_eq_true]
  constructor
  · intro h k hk
    have e : l.getD k (0, 0) = l[k] := by rw [List.getD_eq_getElem?_getD, List.getElem?_eq_getElem hk]; rfl
    rw [e]
    exact of_decide_eq_true (h l[k] (List.getElem_mem hk))
  · intro h q hq
    obtain ⟨k, hk, e⟩ := List.getElem_of_mem hq
    have := h k hk
    have e2 : l.getD k (0, 0) = l[k] := by rw [List.getD_eq_getElem?_getD, List.getElem?_eq_getElem hk]; rfl
    rw [e2, e] at this
    exact decide_eq_true this
abbrev spX5_allShort (M : Mem) (K : Kont) : Prop := ∃ l, RdK M l ∧ K (some (if shortB l then 1 else 0)) M
theorem ctX5_allShort : CtX5_allShort spX5_allShort := by
  refine ct_of (by decide) dmC (fun _ => Nat.le_of_ble_eq_true rfl) ?_
  intro κ a M K C oM h
  obtain ⟨l, hr, hk⟩ := h
  have hlen := hr.2.1
  have loop : ∀ (n i : Nat), i + n = l.length → (∀ k : Nat, k < i → cN l k ≤ 2) → V κ 2 M 2 [some (.inr (2, 0)), some (.inl (i : Int))] [] K := by
    intro n
    induction n with
    | zero =>
      intro i hn hs
      refine sgX5_allShort_2 C i ⟨fun c => ?_, fun c => absurd (by rw [hr.1]; omega) c⟩
      have : shortB l = true := (short_iff l).mpr (fun k hk => hs k (by omega))
      rw [this] at hk
      exact hk
    | succ n ih =>
      intro i hn hs
      have hat := hr.at (k := i) (by omega)
      refine sgX5_allShort_2 C i ⟨fun c => absurd c (by rw [hr.1]; omega), fun c => ⟨by omega, fun c2 => ⟨by omega, ?_⟩, fun c2 => ?_⟩⟩
      · have := ih (i + 1) (by omega) (fun k hk => ?_)
        · exact this
        · by_cases e : k = i
          · subst e
            unfold cN
            rw [← hat.1.2]
            exact c2
          · exact hs k (by omega)
      · have : shortB l = false := by
          cases z : shortB l
          · rfl
          · have := (short_iff l).mp z i (by omega)
            unfold cN at this
            rw [← hat.1.2] at this
            exact absurd this c2
        rw [this] at hk
        exact hk
  exact sgX5_allShort_0 C (loop l.length 0 (by omega) (fun k hk => by omega))
/-- the answer of an item: it is not so, or a film behind it -/
def resK (M : Mem) (f : Int) (K : Kont) : Option Film → Prop
  | none => K (some 0) M
  | some F' => ∀ M', AgM M M' f → cFilm M' f = F' → K (some 1) M'
theorem AgM.rd {M M' : Mem} {f : Int} (h : AgM M M' f) {l : List (Int × Int)} (hr : RdK M l) : RdK M' l := by
  have e2 := h.reg (r := 2) (by decide)
  have e3 := h.reg (r := 3) (by decide)
  have e4 := h.reg (r := 4) (by decide)
  unfold RdK
  rw [e2, e3, e4]
  exact hr
/-! ===== GapTellings$TextReader.tellFilm ===== -/
abbrev rmX5_tellFilm : Room := { frames := 0, cells := 0, slots := 0, locals := 0 }
abbrev argX5_tellFilm (a : Int) : List PV := [.inr (2, 0), .inr (5, a)]
abbrev CtX5_tellFilm (sp : Int → Mem → Kont → Prop) : Prop := Ct yX5_tellFilm cX5_tellFilm 2 (some .boolean) rmX5_tellFilm domC argX5_tellFilm (fun a => sp a)
theorem dX5_tellFilm_0 : decode cX5_tellFilm 0 = .ok (.aload_n 1, 1) := by decide +kernel
theorem dX5_tellFilm_1 : decode cX5_tellFilm 1 = .ok (.getfield 46, 3) := by decide +kernel
theorem dX5_tellFilm_4 : decode cX5_tellFilm 4 = .ok (.ifCond .ne 32, 3) := by decide +kernel
theorem dX5_tellFilm_7 : decode cX5_tellFilm 7 = .ok (.aload_n 0, 1) := by decide +kernel
theorem dX5_tellFilm_8 : decode cX5_tellFilm 8 = .ok (.getfield 39, 3) := by decide +kernel
theorem dX5_tellFilm_11 : decode cX5_tellFilm 11 = .ok (.iconst 1, 1) := by decide +kernel
theorem dX5_tellFilm_12 : decode cX5_tellFilm 12 = .ok (.if_icmp .ne 24, 3) := by decide +kernel
theorem dX5_tellFilm_15 : decode cX5_tellFilm 15 = .ok (.aload_n 0, 1) := by decide +kernel
theorem dX5_tellFilm_16 : decode cX5_tellFilm 16 = .ok (.getfield 9, 3) := by decide +kernel
theorem dX5_tellFilm_19 : decode cX5_tellFilm 19 = .ok (.iconst 0, 1) := by decide +kernel
theorem dX5_tellFilm_20 : decode cX5_tellFilm 20 = .ok (.iaload, 1) := by decide +kernel
theorem dX5_tellFilm_21 : decode cX5_tellFilm 21 = .ok (.iconst 1, 1) := by decide +kernel
theorem dX5_tellFilm_22 : decode cX5_tellFilm 22 = .ok (.if_icmp .lt 14, 3) := by decide +kernel
theorem dX5_tellFilm_25 : decode cX5_tellFilm 25 = .ok (.aload_n 0, 1) := by decide +kernel
theorem dX5_tellFilm_26 : decode cX5_tellFilm 26 = .ok (.getfield 9, 3) := by decide +kernel
theorem dX5_tellFilm_29 : decode cX5_tellFilm 29 = .ok (.iconst 0, 1) := by decide +kernel
theorem dX5_tellFilm_30 : decode cX5_tellFilm 30 = .ok (.iaload, 1) := by decide +kernel
theorem dX5_tellFilm_31 : decode cX5_tellFilm 31 = .ok (.bipush 100, 2) := by decide +kernel
theorem dX5_tellFilm_33 : decode cX5_tellFilm 33 = .ok (.if_icmp .le 5, 3) := by decide +kernel
theorem dX5_tellFilm_36 : decode cX5_tellFilm 36 = .ok (.iconst 0, 1) := by decide +kernel
theorem dX5_tellFilm_37 : decode cX5_tellFilm 37 = .ok (.ireturn, 1) := by decide +kernel
theorem dX5_tellFilm_38 : decode cX5_tellFilm 38 = .ok (.aload_n 1, 1) := by decide +kernel
theorem dX5_tellFilm_39 : decode cX5_tellFilm 39 = .ok (.aload_n 0, 1) := by decide +kernel
theorem dX5_tellFilm_40 : decode cX5_tellFilm 40 = .ok (.getfield 9, 3) := by decide +kernel
theorem dX5_tellFilm_43 : decode cX5_tellFilm 43 = .ok (.iconst 0, 1) := by decide +kernel
theorem dX5_tellFilm_44 : decode cX5_tellFilm 44 = .ok (.iaload, 1) := by decide +kernel
theorem dX5_tellFilm_45 : decode cX5_tellFilm 45 = .ok (.putfield 46, 3) := by decide +kernel
theorem dX5_tellFilm_48 : decode cX5_tellFilm 48 = .ok (.iconst 1, 1) := by decide +kernel
theorem dX5_tellFilm_49 : decode cX5_tellFilm 49 = .ok (.ireturn, 1) := by decide +kernel
theorem flX5_46 : FL RX5 46 1 0 := ⟨_, _, _, rfl, by decide, uwX1, Or.inr ⟨"GapTellings", (nw_mem (t_in1 (List.mem_of_getElem? (i := 109) (by decide +kernel))) (by decide +kernel))⟩⟩
theorem plX5_46 : PL RX5 46 1 0 .int := ⟨_, _, _, rfl, by decide, uwX1, Or.inr ⟨"GapTellings", (nw_mem (t_in1 (List.mem_of_getElem? (i := 109) (by decide +kernel))) (by decide +kernel))⟩, rfl, by decide +kernel, tyX1, tyX1_ok, nmX1⟩
set_option maxHeartbeats 4000000 in
set_option maxRecDepth 20000 in
theorem sgX5_tellFilm_0 {κ : Kx} {K : Kont} {M : Mem} (C : Cx κ RX5 cX5_tellFilm 2 (some .boolean) rmX5_tellFilm domC) (i1 : Int)
    (h :
    (((M 5 i1 0) ≠ 0 →
      K (some 0) M) ∧
     (¬ ((M 5 i1 0) ≠ 0) →
      (((M 2 0 2) ≠ 1 →
        K (some 0) M) ∧
       (¬ ((M 2 0 2) ≠ 1) →
        (((M 3 0 0) < 1 →
          K (some 0) M) ∧
         (¬ ((M 3 0 0) < 1) →
          (((M 3 0 0) ≤ 100 →
            ∀ M45 : Mem, M45 = up3 M 5 i1 0 (M 3 0 0) →
            K (some 1) M45) ∧
           (¬ ((M 3 0 0) ≤ 100) →
            K (some 0) M))))))))) : V κ 2 M 0 [some (.inr (2, 0)), some (.inr (5, i1))] [] K := by
  refine v_aload_n C dX5_tellFilm_0 rfl ?_
  refine v_get C dX5_tellFilm_1 flX5_46 rfl (by decide) (by decide) (w := .inl (M 5 i1 0)) rfl ?_
  refine v_if C dX5_tellFilm_4 (tgt := 36) (by decide) (P := (M 5 i1 0) ≠ 0) rfl (fun c4 => ?_) (fun c4 => ?_)
  · replace h := h.1 c4
    refine v_iconst C dX5_tellFilm_36 (by decide) ?_
    exact v_zret C dX5_tellFilm_37 (by decide) h
  · replace h := h.2 c4
    refine v_aload_n C dX5_tellFilm_7 rfl ?_
    refine v_get C dX5_tellFilm_8 flX5_39 rfl (by decide) (by decide) (w := .inl (M 2 0 2)) rfl ?_
    refine v_iconst C dX5_tellFilm_11 (by decide) ?_
    refine v_icmp C dX5_tellFilm_12 (tgt := 36) (by decide) (P := (M 2 0 2) ≠ 1) rfl (fun c12 => ?_) (fun c12 => ?_)
    · replace h := h.1 c12
      refine v_iconst C dX5_tellFilm_36 (by decide) ?_
      exact v_zret C dX5_tellFilm_37 (by decide) h
    · replace h := h.2 c12
      refine v_aload_n C dX5_tellFilm_15 rfl ?_
      refine v_get C dX5_tellFilm_16 flX5_9 rfl (by decide) (by decide) (w := .inr (3, 0)) rfl ?_
      refine v_iconst C dX5_tellFilm_19 (by decide) ?_
      refine v_iald C dX5_tellFilm_20 rfl (by decide) (by decide) ?_
      refine v_iconst C dX5_tellFilm_21 (by decide) ?_
      refine v_icmp C dX5_tellFilm_22 (tgt := 36) (by decide) (P := (M 3 0 0) < 1) rfl (fun c22 => ?_) (fun c22 => ?_)
      · replace h := h.1 c22
        refine v_iconst C dX5_tellFilm_36 (by decide) ?_
        exact v_zret C dX5_tellFilm_37 (by decide) h
      · replace h := h.2 c22
        refine v_aload_n C dX5_tellFilm_25 rfl ?_
        refine v_get C dX5_tellFilm_26 flX5_9 rfl (by decide) (by decide) (w := .inr (3, 0)) rfl ?_
        refine v_iconst C dX5_tellFilm_29 (by decide) ?_
        refine v_iald C dX5_tellFilm_30 rfl (by decide) (by decide) ?_
        refine v_bipush C dX5_tellFilm_31 (by decide) (by decide) ?_
        refine v_icmp C dX5_tellFilm_33 (tgt := 38) (by decide) (P := (M 3 0 0) ≤ 100) rfl (fun c33 => ?_) (fun c33 => ?_)
        · replace h := h.1 c33
          refine v_aload_n C dX5_tellFilm_38 rfl ?_
          refine v_aload_n C dX5_tellFilm_39 rfl ?_
          refine v_get C dX5_tellFilm_40 flX5_9 rfl (by decide) (by decide) (w := .inr (3, 0)) rfl ?_
          refine v_iconst C dX5_tellFilm_43 (by decide) ?_
          refine v_iald C dX5_tellFilm_44 rfl (by decide) (by decide) ?_
          refine v_put C dX5_tellFilm_45 plX5_46 rfl (by decide) (by decide) rfl rfl rfl ?_
          refine v_nmM (fun M45 eM45 => ?_)
          replace h := h M45 eM45
          refine v_iconst C dX5_tellFilm_48 (by decide) ?_
          exact v_zret C dX5_tellFilm_49 (by decide) h
        · replace h := h.2 c33
          refine v_iconst C dX5_tellFilm_36 (by decide) ?_
          exact v_zret C dX5_tellFilm_37 (by decide) h
def itF (F : Film) (l : List (Int × Int)) : Option Film := if F 0 0 0 = 0 ∧ l.length = 1 ∧ 1 ≤ aN l 0 ∧ aN l 0 ≤ 100 then some (sFT F (aN l 0)) else none
abbrev spX5_tellFilm (f : Int) (M : Mem) (K : Kont) : Prop := ∃ l, RdK M l ∧ resK M f K (itF (cFilm M f) l)
theorem ctX5_tellFilm : CtX5_tellFilm spX5_tellFilm := by
  refine ct_of (by decide) dmC (fun _ => Nat.le_of_ble_eq_true rfl) ?_
  intro κ f M K C oM h
  obtain ⟨l, hr, hk⟩ := h
  have h0 := hr.at (k := 0) (by have := hr.2.1; omega)
  have h2 := hr.1
  have e0 : M 3 0 0 = aN l 0 := h0.1.1
  have eT : cFilm M f 0 0 0 = M 5 f 0 := rfl
  unfold itF at hk
  rw [eT] at hk
  have no : ¬ (M 5 f 0 = 0 ∧ l.length = 1 ∧ 1 ≤ aN l 0 ∧ aN l 0 ≤ 100) → K (some 0) M := fun z => by rw [if_neg z] at hk; exact hk
  refine sgX5_tellFilm_0 C f ⟨fun c => no (by omega), fun c => ⟨fun c2 => no (by omega), fun c2 => ⟨fun c3 => no (by omega), fun c3 => ⟨fun c4 N eN => ?_, fun c4 => no (by omega)⟩⟩⟩⟩
  rw [if_pos (by omega)] at hk
  refine hk N (by rw [eN]; exact AgM.rf.up1 (by decide) _ _) ?_
  rw [eN, e0]
  funext t a b
  unfold cFilm sFT
  split <;> simp [up3]
  simp_all
/-! ===== GapTellings$TextReader.tellBreath ===== -/
abbrev rmX5_tellBreath : Room := { frames := 1, cells := 0, slots := 0, locals := 21 }
abbrev argX5_tellBreath (a : Int) : List PV := [.inr (2, 0), .inr (5, a)]
abbrev CtX5_tellBreath (sp : Int → Mem → Kont → Prop) : Prop := Ct yX5_tellBreath cX5_tellBreath 2 (some .boolean) rmX5_tellBreath domC argX5_tellBreath (fun a => sp a)
theorem dX5_tellBreath_0 : decode cX5_tellBreath 0 = .ok (.aload_n 0, 1) := by decide +kernel
theorem dX5_tellBreath_1 : decode cX5_tellBreath 1 = .ok (.getfield 39, 3) := by decide +kernel
theorem dX5_tellBreath_4 : decode cX5_tellBreath 4 = .ok (.iconst 1, 1) := by decide +kernel
theorem dX5_tellBreath_5 : decode cX5_tellBreath 5 = .ok (.if_icmp .ne 21, 3) := by decide +kernel
theorem dX5_tellBreath_8 : decode cX5_tellBreath 8 = .ok (.aload_n 0, 1) := by decide +kernel
theorem dX5_tellBreath_9 : decode cX5_tellBreath 9 = .ok (.invokevirtual 96, 3) := by decide +kernel
theorem dX5_tellBreath_12 : decode cX5_tellBreath 12 = .ok (.ifCond .eq 14, 3) := by decide +kernel
theorem dX5_tellBreath_15 : decode cX5_tellBreath 15 = .ok (.aload_n 0, 1) := by decide +kernel
theorem dX5_tellBreath_16 : decode cX5_tellBreath 16 = .ok (.getfield 9, 3) := by decide +kernel
theorem dX5_tellBreath_19 : decode cX5_tellBreath 19 = .ok (.iconst 0, 1) := by decide +kernel
theorem dX5_tellBreath_20 : decode cX5_tellBreath 20 = .ok (.iaload, 1) := by decide +kernel
theorem dX5_tellBreath_21 : decode cX5_tellBreath 21 = .ok (.bipush 9, 2) := by decide +kernel
theorem dX5_tellBreath_23 : decode cX5_tellBreath 23 = .ok (.if_icmp .le 5, 3) := by decide +kernel
theorem dX5_tellBreath_26 : decode cX5_tellBreath 26 = .ok (.iconst 0, 1) := by decide +kernel
theorem dX5_tellBreath_27 : decode cX5_tellBreath 27 = .ok (.ireturn, 1) := by decide +kernel
theorem dX5_tellBreath_28 : decode cX5_tellBreath 28 = .ok (.aload_n 1, 1) := by decide +kernel
theorem dX5_tellBreath_29 : decode cX5_tellBreath 29 = .ok (.aload_n 0, 1) := by decide +kernel
theorem dX5_tellBreath_30 : decode cX5_tellBreath 30 = .ok (.getfield 9, 3) := by decide +kernel
theorem dX5_tellBreath_33 : decode cX5_tellBreath 33 = .ok (.iconst 0, 1) := by decide +kernel
theorem dX5_tellBreath_34 : decode cX5_tellBreath 34 = .ok (.iaload, 1) := by decide +kernel
theorem dX5_tellBreath_35 : decode cX5_tellBreath 35 = .ok (.putfield 103, 3) := by decide +kernel
theorem dX5_tellBreath_38 : decode cX5_tellBreath 38 = .ok (.iconst 1, 1) := by decide +kernel
theorem dX5_tellBreath_39 : decode cX5_tellBreath 39 = .ok (.ireturn, 1) := by decide +kernel
theorem ivX5_96 : IV RX5 96 yX5_allShort cX5_allShort 2 (some .boolean) 0 := ⟨(tb_mem (t_in2 (List.mem_of_getElem? (i := 174) (by decide +kernel))) (by decide +kernel)), (tb_mem (t_in2 (List.mem_of_getElem? (i := 175) (by decide +kernel))) (by decide +kernel)), (tb_mem (t_in2 (List.mem_of_getElem? (i := 176) (by decide +kernel))) (by decide +kernel)), (tb_mem (t_in1 (List.mem_of_getElem? (i := 2) (by decide +kernel))) (by decide +kernel)), (tb_mem (t_in2 (List.mem_of_getElem? (i := 177) (by decide +kernel))) (by decide +kernel)), ⟨by decide +kernel, by decide +kernel, by decide +kernel⟩⟩
theorem plX5_103 : PL RX5 103 1 1 .int := ⟨_, _, _, rfl, by decide, uwX1, Or.inr ⟨"GapTellings", (nw_mem (t_in1 (List.mem_of_getElem? (i := 115) (by decide +kernel))) (by decide +kernel))⟩, rfl, by decide +kernel, tyX1, tyX1_ok, nmX1⟩
set_option maxHeartbeats 4000000 in
set_option maxRecDepth 20000 in
theorem sgX5_tellBreath_0 {κ : Kx} {K : Kont} {M : Mem} (C : Cx κ RX5 cX5_tellBreath 2 (some .boolean) rmX5_tellBreath domC) (i1 : Int)
    (h :
    (((M 2 0 2) ≠ 1 →
      K (some 0) M) ∧
     (¬ ((M 2 0 2) ≠ 1) →
      spX5_allShort M (rI (fun r9 M9 =>
      ((r9 = 0 →
        K (some 0) M9) ∧
       (¬ (r9 = 0) →
        (((M9 3 0 0) ≤ 9 →
          ∀ M35 : Mem, M35 = up3 M9 5 i1 1 (M9 3 0 0) →
          K (some 1) M35) ∧
         (¬ ((M9 3 0 0) ≤ 9) →
          K (some 0) M9))))))))) : V κ 2 M 0 [some (.inr (2, 0)), some (.inr (5, i1))] [] K := by
  refine v_aload_n C dX5_tellBreath_0 rfl ?_
  refine v_get C dX5_tellBreath_1 flX5_39 rfl (by decide) (by decide) (w := .inl (M 2 0 2)) rfl ?_
  refine v_iconst C dX5_tellBreath_4 (by decide) ?_
  refine v_icmp C dX5_tellBreath_5 (tgt := 26) (by decide) (P := (M 2 0 2) ≠ 1) rfl (fun c5 => ?_) (fun c5 => ?_)
  · replace h := h.1 c5
    refine v_iconst C dX5_tellBreath_26 (by decide) ?_
    exact v_zret C dX5_tellBreath_27 (by decide) h
  · replace h := h.2 c5
    refine v_aload_n C dX5_tellBreath_8 rfl ?_
    refine v_invV C ctX5_allShort dX5_tellBreath_9 ivX5_96 ⟨by decide, by decide, rfl, rfl⟩ (() : Unit) (As := []) rfl rfl rfl (by decide) rfl (st := []) rfl (Nat.le_of_ble_eq_true rfl) h (fun o M9 oM9 io9 h => ?_)
    obtain ⟨r9, rfl, h⟩ := rI_out h
    refine v_push ?_
    refine v_if C dX5_tellBreath_12 (tgt := 26) (by decide) (P := r9 = 0) rfl (fun c12 => ?_) (fun c12 => ?_)
    · replace h := h.1 c12
      refine v_iconst C dX5_tellBreath_26 (by decide) ?_
      exact v_zret C dX5_tellBreath_27 (by decide) h
    · replace h := h.2 c12
      refine v_aload_n C dX5_tellBreath_15 rfl ?_
      refine v_get C dX5_tellBreath_16 flX5_9 rfl (by decide) (by decide) (w := .inr (3, 0)) rfl ?_
      refine v_iconst C dX5_tellBreath_19 (by decide) ?_
      refine v_iald C dX5_tellBreath_20 rfl (by decide) (by decide) ?_
      refine v_bipush C dX5_tellBreath_21 (by decide) (by decide) ?_
      refine v_icmp C dX5_tellBreath_23 (tgt := 28) (by decide) (P := (M9 3 0 0) ≤ 9) rfl (fun c23 => ?_) (fun c23 => ?_)
      · replace h := h.1 c23
        refine v_aload_n C dX5_tellBreath_28 rfl ?_
        refine v_aload_n C dX5_tellBreath_29 rfl ?_
        refine v_get C dX5_tellBreath_30 flX5_9 rfl (by decide) (by decide) (w := .inr (3, 0)) rfl ?_
        refine v_iconst C dX5_tellBreath_33 (by decide) ?_
        refine v_iald C dX5_tellBreath_34 rfl (by decide) (by decide) ?_
        refine v_put C dX5_tellBreath_35 plX5_103 rfl (by decide) (by decide) rfl rfl rfl ?_
        refine v_nmM (fun M35 eM35 => ?_)
        replace h := h M35 eM35
        refine v_iconst C dX5_tellBreath_38 (by decide) ?_
        exact v_zret C dX5_tellBreath_39 (by decide) h
      · replace h := h.2 c23
        refine v_iconst C dX5_tellBreath_26 (by decide) ?_
        exact v_zret C dX5_tellBreath_27 (by decide) h
def itB (F : Film) (l : List (Int × Int)) : Option Film := if l.length = 1 ∧ shortB l = true ∧ aN l 0 ≤ 9 then some (sFB F (aN l 0)) else none
abbrev spX5_tellBreath (f : Int) (M : Mem) (K : Kont) : Prop := ∃ l, RdK M l ∧ resK M f K (itB (cFilm M f) l)
theorem ctX5_tellBreath : CtX5_tellBreath spX5_tellBreath := by
  refine ct_of (by decide) dmC (fun _ => Nat.le_of_ble_eq_true rfl) ?_
  intro κ f M K C oM h
  obtain ⟨l, hr, hk⟩ := h
  have h0 := hr.at (k := 0) (by have := hr.2.1; omega)
  have h2 := hr.1
  have e0 : M 3 0 0 = aN l 0 := h0.1.1
  unfold itB at hk
  have no : ¬ (l.length = 1 ∧ shortB l = true ∧ aN l 0 ≤ 9) → K (some 0) M := fun z => by rw [if_neg z] at hk; exact hk
  refine sgX5_tellBreath_0 C f ⟨fun c => no (by omega), fun c => ⟨l, hr, ?_, ?_⟩⟩
  · intro c2
    refine no (fun z => ?_)
    rw [z.2.1] at c2
    exact absurd c2 (by decide)
  · intro c2
    have hs : shortB l = true := by
      cases z : shortB l
      · rw [z] at c2
        exact absurd rfl c2
      · rfl
    refine ⟨fun c3 N eN => ?_, fun c3 => no (by omega)⟩
    rw [if_pos ⟨by omega, hs, by omega⟩] at hk
    refine hk N (by rw [eN]; exact AgM.rf.up1 (by decide) _ _) ?_
    rw [eN, e0]
    funext t a b
    unfold cFilm sFB
    split <;> simp [up3]
    simp_all
/-! ===== GapTellings$TextReader.tellSound ===== -/
abbrev rmX5_tellSound : Room := { frames := 1, cells := 0, slots := 0, locals := 23 }
abbrev argX5_tellSound (a : Int × Int) : List PV := [.inr (2, 0), .inr (5, a.1), .inl a.2]
abbrev CtX5_tellSound (sp : Int → Int → Mem → Kont → Prop) : Prop := Ct yX5_tellSound cX5_tellSound 3 (some .boolean) rmX5_tellSound domC argX5_tellSound (fun a => sp a.1 a.2)
theorem dX5_tellSound_0 : decode cX5_tellSound 0 = .ok (.aload_n 0, 1) := by decide +kernel
theorem dX5_tellSound_1 : decode cX5_tellSound 1 = .ok (.getfield 39, 3) := by decide +kernel
theorem dX5_tellSound_4 : decode cX5_tellSound 4 = .ok (.iconst 2, 1) := by decide +kernel
theorem dX5_tellSound_5 : decode cX5_tellSound 5 = .ok (.if_icmp .ne 50, 3) := by decide +kernel
theorem dX5_tellSound_8 : decode cX5_tellSound 8 = .ok (.aload_n 0, 1) := by decide +kernel
theorem dX5_tellSound_9 : decode cX5_tellSound 9 = .ok (.getfield 15, 3) := by decide +kernel
theorem dX5_tellSound_12 : decode cX5_tellSound 12 = .ok (.iconst 0, 1) := by decide +kernel
theorem dX5_tellSound_13 : decode cX5_tellSound 13 = .ok (.iaload, 1) := by decide +kernel
theorem dX5_tellSound_14 : decode cX5_tellSound 14 = .ok (.iconst 2, 1) := by decide +kernel
theorem dX5_tellSound_15 : decode cX5_tellSound 15 = .ok (.if_icmp .gt 40, 3) := by decide +kernel
theorem dX5_tellSound_18 : decode cX5_tellSound 18 = .ok (.aload_n 0, 1) := by decide +kernel
theorem dX5_tellSound_19 : decode cX5_tellSound 19 = .ok (.getfield 9, 3) := by decide +kernel
theorem dX5_tellSound_22 : decode cX5_tellSound 22 = .ok (.iconst 0, 1) := by decide +kernel
theorem dX5_tellSound_23 : decode cX5_tellSound 23 = .ok (.iaload, 1) := by decide +kernel
theorem dX5_tellSound_24 : decode cX5_tellSound 24 = .ok (.aload_n 0, 1) := by decide +kernel
theorem dX5_tellSound_25 : decode cX5_tellSound 25 = .ok (.getfield 9, 3) := by decide +kernel
theorem dX5_tellSound_28 : decode cX5_tellSound 28 = .ok (.iconst 1, 1) := by decide +kernel
theorem dX5_tellSound_29 : decode cX5_tellSound 29 = .ok (.iaload, 1) := by decide +kernel
theorem dX5_tellSound_30 : decode cX5_tellSound 30 = .ok (.if_icmp .ge 25, 3) := by decide +kernel
theorem dX5_tellSound_33 : decode cX5_tellSound 33 = .ok (.aload_n 0, 1) := by decide +kernel
theorem dX5_tellSound_34 : decode cX5_tellSound 34 = .ok (.getfield 9, 3) := by decide +kernel
theorem dX5_tellSound_37 : decode cX5_tellSound 37 = .ok (.iconst 1, 1) := by decide +kernel
theorem dX5_tellSound_38 : decode cX5_tellSound 38 = .ok (.iaload, 1) := by decide +kernel
theorem dX5_tellSound_39 : decode cX5_tellSound 39 = .ok (.aload_n 1, 1) := by decide +kernel
theorem dX5_tellSound_40 : decode cX5_tellSound 40 = .ok (.getfield 46, 3) := by decide +kernel
theorem dX5_tellSound_43 : decode cX5_tellSound 43 = .ok (.if_icmp .gt 12, 3) := by decide +kernel
theorem dX5_tellSound_46 : decode cX5_tellSound 46 = .ok (.aload_n 1, 1) := by decide +kernel
theorem dX5_tellSound_47 : decode cX5_tellSound 47 = .ok (.getfield 70, 3) := by decide +kernel
theorem dX5_tellSound_50 : decode cX5_tellSound 50 = .ok (.bipush 12, 2) := by decide +kernel
theorem dX5_tellSound_52 : decode cX5_tellSound 52 = .ok (.if_icmp .lt 5, 3) := by decide +kernel
theorem dX5_tellSound_55 : decode cX5_tellSound 55 = .ok (.iconst 0, 1) := by decide +kernel
theorem dX5_tellSound_56 : decode cX5_tellSound 56 = .ok (.ireturn, 1) := by decide +kernel
theorem dX5_tellSound_57 : decode cX5_tellSound 57 = .ok (.aload_n 1, 1) := by decide +kernel
theorem dX5_tellSound_58 : decode cX5_tellSound 58 = .ok (.iload_n 2, 1) := by decide +kernel
theorem dX5_tellSound_59 : decode cX5_tellSound 59 = .ok (.aload_n 0, 1) := by decide +kernel
theorem dX5_tellSound_60 : decode cX5_tellSound 60 = .ok (.getfield 9, 3) := by decide +kernel
theorem dX5_tellSound_63 : decode cX5_tellSound 63 = .ok (.iconst 0, 1) := by decide +kernel
theorem dX5_tellSound_64 : decode cX5_tellSound 64 = .ok (.iaload, 1) := by decide +kernel
theorem dX5_tellSound_65 : decode cX5_tellSound 65 = .ok (.aload_n 0, 1) := by decide +kernel
theorem dX5_tellSound_66 : decode cX5_tellSound 66 = .ok (.getfield 9, 3) := by decide +kernel
theorem dX5_tellSound_69 : decode cX5_tellSound 69 = .ok (.iconst 1, 1) := by decide +kernel
theorem dX5_tellSound_70 : decode cX5_tellSound 70 = .ok (.iaload, 1) := by decide +kernel
theorem dX5_tellSound_71 : decode cX5_tellSound 71 = .ok (.invokevirtual 73, 3) := by decide +kernel
theorem dX5_tellSound_74 : decode cX5_tellSound 74 = .ok (.iconst 1, 1) := by decide +kernel
theorem dX5_tellSound_75 : decode cX5_tellSound 75 = .ok (.ireturn, 1) := by decide +kernel
theorem flX5_70 : FL RX5 70 1 3 := ⟨_, _, _, rfl, by decide, uwX1, Or.inr ⟨"GapTellings", (nw_mem (t_in1 (List.mem_of_getElem? (i := 121) (by decide +kernel))) (by decide +kernel))⟩⟩
theorem ivX5_73 : IV RX5 73 yX1_addSound cX1_addSound 4 none 3 := ⟨(tb_mem (t_in2 (List.mem_of_getElem? (i := 162) (by decide +kernel))) (by decide +kernel)), (tb_mem (t_in2 (List.mem_of_getElem? (i := 163) (by decide +kernel))) (by decide +kernel)), (tb_mem (t_in2 (List.mem_of_getElem? (i := 164) (by decide +kernel))) (by decide +kernel)), (tb_mem (t_in1 (List.mem_of_getElem? (i := 3) (by decide +kernel))) (by decide +kernel)), (tb_mem (t_in2 (List.mem_of_getElem? (i := 165) (by decide +kernel))) (by decide +kernel)), ⟨by decide +kernel, by decide +kernel, by decide +kernel⟩⟩
set_option maxHeartbeats 4000000 in
set_option maxRecDepth 20000 in
theorem sgX5_tellSound_0 {κ : Kx} {K : Kont} {M : Mem} (C : Cx κ RX5 cX5_tellSound 3 (some .boolean) rmX5_tellSound domC) (i1 : Int) (x2 : Int)
    (h :
    (((M 2 0 2) ≠ 2 →
      K (some 0) M) ∧
     (¬ ((M 2 0 2) ≠ 2) →
      ((2 < (M 4 0 0) →
        K (some 0) M) ∧
       (¬ (2 < (M 4 0 0)) →
        (((M 3 0 1) ≤ (M 3 0 0) →
          K (some 0) M) ∧
         (¬ ((M 3 0 1) ≤ (M 3 0 0)) →
          (((M 5 i1 0) < (M 3 0 1) →
            K (some 0) M) ∧
           (¬ ((M 5 i1 0) < (M 3 0 1)) →
            (((M 5 i1 3) < 12 →
              spX1_addSound i1 x2 (M 3 0 0) (M 3 0 1) M (rV (fun M71 =>
              K (some 1) M71))) ∧
             (¬ ((M 5 i1 3) < 12) →
              K (some 0) M))))))))))) : V κ 3 M 0 [some (.inr (2, 0)), some (.inr (5, i1)), some (.inl x2)] [] K := by
  refine v_aload_n C dX5_tellSound_0 rfl ?_
  refine v_get C dX5_tellSound_1 flX5_39 rfl (by decide) (by decide) (w := .inl (M 2 0 2)) rfl ?_
  refine v_iconst C dX5_tellSound_4 (by decide) ?_
  refine v_icmp C dX5_tellSound_5 (tgt := 55) (by decide) (P := (M 2 0 2) ≠ 2) rfl (fun c5 => ?_) (fun c5 => ?_)
  · replace h := h.1 c5
    refine v_iconst C dX5_tellSound_55 (by decide) ?_
    exact v_zret C dX5_tellSound_56 (by decide) h
  · replace h := h.2 c5
    refine v_aload_n C dX5_tellSound_8 rfl ?_
    refine v_get C dX5_tellSound_9 flX5_15 rfl (by decide) (by decide) (w := .inr (4, 0)) rfl ?_
    refine v_iconst C dX5_tellSound_12 (by decide) ?_
    refine v_iald C dX5_tellSound_13 rfl (by decide) (by decide) ?_
    refine v_iconst C dX5_tellSound_14 (by decide) ?_
    refine v_icmp C dX5_tellSound_15 (tgt := 55) (by decide) (P := 2 < (M 4 0 0)) rfl (fun c15 => ?_) (fun c15 => ?_)
    · replace h := h.1 c15
      refine v_iconst C dX5_tellSound_55 (by decide) ?_
      exact v_zret C dX5_tellSound_56 (by decide) h
    · replace h := h.2 c15
      refine v_aload_n C dX5_tellSound_18 rfl ?_
      refine v_get C dX5_tellSound_19 flX5_9 rfl (by decide) (by decide) (w := .inr (3, 0)) rfl ?_
      refine v_iconst C dX5_tellSound_22 (by decide) ?_
      refine v_iald C dX5_tellSound_23 rfl (by decide) (by decide) ?_
      refine v_aload_n C dX5_tellSound_24 rfl ?_
      refine v_get C dX5_tellSound_25 flX5_9 rfl (by decide) (by decide) (w := .inr (3, 0)) rfl ?_
      refine v_iconst C dX5_tellSound_28 (by decide) ?_
      refine v_iald C dX5_tellSound_29 rfl (by decide) (by decide) ?_
      refine v_icmp C dX5_tellSound_30 (tgt := 55) (by decide) (P := (M 3 0 1) ≤ (M 3 0 0)) rfl (fun c30 => ?_) (fun c30 => ?_)
      · replace h := h.1 c30
        refine v_iconst C dX5_tellSound_55 (by decide) ?_
        exact v_zret C dX5_tellSound_56 (by decide) h
      · replace h := h.2 c30
        refine v_aload_n C dX5_tellSound_33 rfl ?_
        refine v_get C dX5_tellSound_34 flX5_9 rfl (by decide) (by decide) (w := .inr (3, 0)) rfl ?_
        refine v_iconst C dX5_tellSound_37 (by decide) ?_
        refine v_iald C dX5_tellSound_38 rfl (by decide) (by decide) ?_
        refine v_aload_n C dX5_tellSound_39 rfl ?_
        refine v_get C dX5_tellSound_40 flX5_46 rfl (by decide) (by decide) (w := .inl (M 5 i1 0)) rfl ?_
        refine v_icmp C dX5_tellSound_43 (tgt := 55) (by decide) (P := (M 5 i1 0) < (M 3 0 1)) rfl (fun c43 => ?_) (fun c43 => ?_)
        · replace h := h.1 c43
          refine v_iconst C dX5_tellSound_55 (by decide) ?_
          exact v_zret C dX5_tellSound_56 (by decide) h
        · replace h := h.2 c43
          refine v_aload_n C dX5_tellSound_46 rfl ?_
          refine v_get C dX5_tellSound_47 flX5_70 rfl (by decide) (by decide) (w := .inl (M 5 i1 3)) rfl ?_
          refine v_bipush C dX5_tellSound_50 (by decide) (by decide) ?_
          refine v_icmp C dX5_tellSound_52 (tgt := 57) (by decide) (P := (M 5 i1 3) < 12) rfl (fun c52 => ?_) (fun c52 => ?_)
          · replace h := h.1 c52
            refine v_aload_n C dX5_tellSound_57 rfl ?_
            refine v_iload_n C dX5_tellSound_58 rfl ?_
            refine v_aload_n C dX5_tellSound_59 rfl ?_
            refine v_get C dX5_tellSound_60 flX5_9 rfl (by decide) (by decide) (w := .inr (3, 0)) rfl ?_
            refine v_iconst C dX5_tellSound_63 (by decide) ?_
            refine v_iald C dX5_tellSound_64 rfl (by decide) (by decide) ?_
            refine v_aload_n C dX5_tellSound_65 rfl ?_
            refine v_get C dX5_tellSound_66 flX5_9 rfl (by decide) (by decide) (w := .inr (3, 0)) rfl ?_
            refine v_iconst C dX5_tellSound_69 (by decide) ?_
            refine v_iald C dX5_tellSound_70 rfl (by decide) (by decide) ?_
            refine v_invV C ctX1_addSound dX5_tellSound_71 ivX5_73 ⟨by decide, by decide, rfl, rfl⟩ ((i1, x2, M 3 0 0, M 3 0 1) : Int × Int × Int × Int) (As := [.inl x2, .inl (M 3 0 0), .inl (M 3 0 1)]) rfl rfl rfl (by decide) rfl (st := []) rfl (Nat.le_of_ble_eq_true rfl) h (fun o M71 oM71 io71 h => ?_)
            obtain ⟨rfl, h⟩ := rV_out h
            refine v_push0 ?_
            refine v_iconst C dX5_tellSound_74 (by decide) ?_
            exact v_zret C dX5_tellSound_75 (by decide) h
          · replace h := h.2 c52
            refine v_iconst C dX5_tellSound_55 (by decide) ?_
            exact v_zret C dX5_tellSound_56 (by decide) h
def itO (F : Film) (k : Int) (l : List (Int × Int)) : Option Film := if l.length = 2 ∧ cN l 0 ≤ 2 ∧ aN l 0 < aN l 1 ∧ aN l 1 ≤ F 0 0 0 ∧ F 2 0 0 < 12 then some (sFS F k (aN l 0) (aN l 1)) else none
abbrev spX5_tellSound (f k : Int) (M : Mem) (K : Kont) : Prop := (0 ≤ M 5 f 3) ∧ ∃ l, RdK M l ∧ resK M f K (itO (cFilm M f) k l)
theorem ctX5_tellSound : CtX5_tellSound spX5_tellSound := by
  refine ct_of (by decide) dmC (fun _ => Nat.le_of_ble_eq_true rfl) ?_
  intro κ a M K C oM h
  obtain ⟨f, k⟩ := a
  obtain ⟨hn, l, hr, hk⟩ := h
  have hn : 0 ≤ M 5 f 3 := hn
  have hlen := hr.2.1
  have h0 := hr.at (k := 0) (by omega)
  have h2 := hr.1
  have e0 : M 3 0 0 = aN l 0 := h0.1.1
  have f0 : M 4 0 0 = cN l 0 := h0.1.2
  have e1 : l.length = 2 → M 3 0 1 = aN l 1 := fun z => (hr.at (k := 1) (by omega)).1.1
  have eT : cFilm M f 0 0 0 = M 5 f 0 := rfl
  have eS : cFilm M f 2 0 0 = M 5 f 3 := rfl
  unfold itO at hk
  rw [eT, eS] at hk
  have no : ¬ (l.length = 2 ∧ cN l 0 ≤ 2 ∧ aN l 0 < aN l 1 ∧ aN l 1 ≤ M 5 f 0 ∧ M 5 f 3 < 12) → K (some 0) M := fun z => by rw [if_neg z] at hk; exact hk
  refine sgX5_tellSound_0 C f k ⟨fun c => no (by omega), fun c => ?_⟩
  have e1' := e1 (by omega)
  refine ⟨fun c2 => no (by omega), fun c2 => ⟨fun c3 => no (by omega), fun c3 => ⟨fun c4 => no (by omega), fun c4 => ⟨fun c5 => ⟨by omega, ?_⟩, fun c5 => no (by omega)⟩⟩⟩⟩
  rw [if_pos (by omega)] at hk
  rw [e0, e1']
  intro N hA hN
  exact hk N hA hN
/-! ===== GapTellings$TextReader.tellNeed ===== -/
abbrev rmX5_tellNeed : Room := { frames := 1, cells := 0, slots := 0, locals := 21 }
abbrev argX5_tellNeed (a : Int) : List PV := [.inr (2, 0), .inr (5, a)]
abbrev CtX5_tellNeed (sp : Int → Mem → Kont → Prop) : Prop := Ct yX5_tellNeed cX5_tellNeed 2 (some .boolean) rmX5_tellNeed domC argX5_tellNeed (fun a => sp a)
theorem dX5_tellNeed_0 : decode cX5_tellNeed 0 = .ok (.aload_n 0, 1) := by decide +kernel
theorem dX5_tellNeed_1 : decode cX5_tellNeed 1 = .ok (.getfield 39, 3) := by decide +kernel
theorem dX5_tellNeed_4 : decode cX5_tellNeed 4 = .ok (.iconst 2, 1) := by decide +kernel
theorem dX5_tellNeed_5 : decode cX5_tellNeed 5 = .ok (.if_icmp .ne 57, 3) := by decide +kernel
theorem dX5_tellNeed_8 : decode cX5_tellNeed 8 = .ok (.aload_n 0, 1) := by decide +kernel
theorem dX5_tellNeed_9 : decode cX5_tellNeed 9 = .ok (.invokevirtual 96, 3) := by decide +kernel
theorem dX5_tellNeed_12 : decode cX5_tellNeed 12 = .ok (.ifCond .eq 50, 3) := by decide +kernel
theorem dX5_tellNeed_15 : decode cX5_tellNeed 15 = .ok (.aload_n 0, 1) := by decide +kernel
theorem dX5_tellNeed_16 : decode cX5_tellNeed 16 = .ok (.getfield 9, 3) := by decide +kernel
theorem dX5_tellNeed_19 : decode cX5_tellNeed 19 = .ok (.iconst 1, 1) := by decide +kernel
theorem dX5_tellNeed_20 : decode cX5_tellNeed 20 = .ok (.iaload, 1) := by decide +kernel
theorem dX5_tellNeed_21 : decode cX5_tellNeed 21 = .ok (.aload_n 1, 1) := by decide +kernel
theorem dX5_tellNeed_22 : decode cX5_tellNeed 22 = .ok (.getfield 77, 3) := by decide +kernel
theorem dX5_tellNeed_25 : decode cX5_tellNeed 25 = .ok (.if_icmp .ge 37, 3) := by decide +kernel
theorem dX5_tellNeed_28 : decode cX5_tellNeed 28 = .ok (.aload_n 0, 1) := by decide +kernel
theorem dX5_tellNeed_29 : decode cX5_tellNeed 29 = .ok (.getfield 9, 3) := by decide +kernel
theorem dX5_tellNeed_32 : decode cX5_tellNeed 32 = .ok (.iconst 0, 1) := by decide +kernel
theorem dX5_tellNeed_33 : decode cX5_tellNeed 33 = .ok (.iaload, 1) := by decide +kernel
theorem dX5_tellNeed_34 : decode cX5_tellNeed 34 = .ok (.aload_n 0, 1) := by decide +kernel
theorem dX5_tellNeed_35 : decode cX5_tellNeed 35 = .ok (.getfield 9, 3) := by decide +kernel
theorem dX5_tellNeed_38 : decode cX5_tellNeed 38 = .ok (.iconst 1, 1) := by decide +kernel
theorem dX5_tellNeed_39 : decode cX5_tellNeed 39 = .ok (.iaload, 1) := by decide +kernel
theorem dX5_tellNeed_40 : decode cX5_tellNeed 40 = .ok (.if_icmp .ge 22, 3) := by decide +kernel
theorem dX5_tellNeed_43 : decode cX5_tellNeed 43 = .ok (.aload_n 1, 1) := by decide +kernel
theorem dX5_tellNeed_44 : decode cX5_tellNeed 44 = .ok (.getfield 83, 3) := by decide +kernel
theorem dX5_tellNeed_47 : decode cX5_tellNeed 47 = .ok (.aload_n 0, 1) := by decide +kernel
theorem dX5_tellNeed_48 : decode cX5_tellNeed 48 = .ok (.getfield 9, 3) := by decide +kernel
theorem dX5_tellNeed_51 : decode cX5_tellNeed 51 = .ok (.iconst 1, 1) := by decide +kernel
theorem dX5_tellNeed_52 : decode cX5_tellNeed 52 = .ok (.iaload, 1) := by decide +kernel
theorem dX5_tellNeed_53 : decode cX5_tellNeed 53 = .ok (.aaload, 1) := by decide +kernel
theorem dX5_tellNeed_54 : decode cX5_tellNeed 54 = .ok (.getfield 100, 3) := by decide +kernel
theorem dX5_tellNeed_57 : decode cX5_tellNeed 57 = .ok (.bipush (-4), 2) := by decide +kernel
theorem dX5_tellNeed_59 : decode cX5_tellNeed 59 = .ok (.if_icmp .eq 5, 3) := by decide +kernel
theorem dX5_tellNeed_62 : decode cX5_tellNeed 62 = .ok (.iconst 0, 1) := by decide +kernel
theorem dX5_tellNeed_63 : decode cX5_tellNeed 63 = .ok (.ireturn, 1) := by decide +kernel
theorem dX5_tellNeed_64 : decode cX5_tellNeed 64 = .ok (.aload_n 1, 1) := by decide +kernel
theorem dX5_tellNeed_65 : decode cX5_tellNeed 65 = .ok (.getfield 83, 3) := by decide +kernel
theorem dX5_tellNeed_68 : decode cX5_tellNeed 68 = .ok (.aload_n 0, 1) := by decide +kernel
theorem dX5_tellNeed_69 : decode cX5_tellNeed 69 = .ok (.getfield 9, 3) := by decide +kernel
theorem dX5_tellNeed_72 : decode cX5_tellNeed 72 = .ok (.iconst 1, 1) := by decide +kernel
theorem dX5_tellNeed_73 : decode cX5_tellNeed 73 = .ok (.iaload, 1) := by decide +kernel
theorem dX5_tellNeed_74 : decode cX5_tellNeed 74 = .ok (.aaload, 1) := by decide +kernel
theorem dX5_tellNeed_75 : decode cX5_tellNeed 75 = .ok (.aload_n 0, 1) := by decide +kernel
theorem dX5_tellNeed_76 : decode cX5_tellNeed 76 = .ok (.getfield 9, 3) := by decide +kernel
theorem dX5_tellNeed_79 : decode cX5_tellNeed 79 = .ok (.iconst 0, 1) := by decide +kernel
theorem dX5_tellNeed_80 : decode cX5_tellNeed 80 = .ok (.iaload, 1) := by decide +kernel
theorem dX5_tellNeed_81 : decode cX5_tellNeed 81 = .ok (.putfield 100, 3) := by decide +kernel
theorem dX5_tellNeed_84 : decode cX5_tellNeed 84 = .ok (.iconst 1, 1) := by decide +kernel
theorem dX5_tellNeed_85 : decode cX5_tellNeed 85 = .ok (.ireturn, 1) := by decide +kernel
theorem flX5_77 : FL RX5 77 1 7 := ⟨_, _, _, rfl, by decide, uwX1, Or.inr ⟨"GapTellings", (nw_mem (t_in1 (List.mem_of_getElem? (i := 136) (by decide +kernel))) (by decide +kernel))⟩⟩
theorem flX5_83 : FL RX5 83 1 8 := ⟨_, _, _, rfl, by decide, uwX1, Or.inr ⟨"GapTellings", (nw_mem (t_in1 (List.mem_of_getElem? (i := 142) (by decide +kernel))) (by decide +kernel))⟩⟩
theorem flX5_100 : FL RX5 100 3 3 := ⟨_, _, _, rfl, by decide, uwX3, Or.inr ⟨"GapTellings", (nw_mem (t_in1 (List.mem_of_getElem? (i := 76) (by decide +kernel))) (by decide +kernel))⟩⟩
theorem plX5_100 : PL RX5 100 3 3 .int := ⟨_, _, _, rfl, by decide, uwX3, Or.inr ⟨"GapTellings", (nw_mem (t_in1 (List.mem_of_getElem? (i := 76) (by decide +kernel))) (by decide +kernel))⟩, rfl, by decide +kernel, tyX3, tyX3_ok, nmX3⟩
set_option maxHeartbeats 4000000 in
set_option maxRecDepth 20000 in
theorem sgX5_tellNeed_0 {κ : Kx} {K : Kont} {M : Mem} (C : Cx κ RX5 cX5_tellNeed 2 (some .boolean) rmX5_tellNeed domC) (i1 : Int)
    (h :
    (((M 2 0 2) ≠ 2 →
      K (some 0) M) ∧
     (¬ ((M 2 0 2) ≠ 2) →
      spX5_allShort M (rI (fun r9 M9 =>
      ((r9 = 0 →
        K (some 0) M9) ∧
       (¬ (r9 = 0) →
        (((M9 5 i1 7) ≤ (M9 3 0 1) →
          K (some 0) M9) ∧
         (¬ ((M9 5 i1 7) ≤ (M9 3 0 1)) →
          (((M9 3 0 1) ≤ (M9 3 0 0) →
            K (some 0) M9) ∧
           (¬ ((M9 3 0 1) ≤ (M9 3 0 0)) →
            (0 ≤ (M9 3 0 1) ∧ (M9 3 0 1) < 7) ∧
            (((M9 11 (7 * i1 + (M9 3 0 1)) 3) = (-4) →
              (0 ≤ (M9 3 0 1) ∧ (M9 3 0 1) < 7) ∧
              ∀ M81 : Mem, M81 = up3 M9 11 (7 * i1 + (M9 3 0 1)) 3 (M9 3 0 0) →
              K (some 1) M81) ∧
             (¬ ((M9 11 (7 * i1 + (M9 3 0 1)) 3) = (-4)) →
              K (some 0) M9))))))))))))) : V κ 2 M 0 [some (.inr (2, 0)), some (.inr (5, i1))] [] K := by
  refine v_aload_n C dX5_tellNeed_0 rfl ?_
  refine v_get C dX5_tellNeed_1 flX5_39 rfl (by decide) (by decide) (w := .inl (M 2 0 2)) rfl ?_
  refine v_iconst C dX5_tellNeed_4 (by decide) ?_
  refine v_icmp C dX5_tellNeed_5 (tgt := 62) (by decide) (P := (M 2 0 2) ≠ 2) rfl (fun c5 => ?_) (fun c5 => ?_)
  · replace h := h.1 c5
    refine v_iconst C dX5_tellNeed_62 (by decide) ?_
    exact v_zret C dX5_tellNeed_63 (by decide) h
  · replace h := h.2 c5
    refine v_aload_n C dX5_tellNeed_8 rfl ?_
    refine v_invV C ctX5_allShort dX5_tellNeed_9 ivX5_96 ⟨by decide, by decide, rfl, rfl⟩ (() : Unit) (As := []) rfl rfl rfl (by decide) rfl (st := []) rfl (Nat.le_of_ble_eq_true rfl) h (fun o M9 oM9 io9 h => ?_)
    obtain ⟨r9, rfl, h⟩ := rI_out h
    refine v_push ?_
    refine v_if C dX5_tellNeed_12 (tgt := 62) (by decide) (P := r9 = 0) rfl (fun c12 => ?_) (fun c12 => ?_)
    · replace h := h.1 c12
      refine v_iconst C dX5_tellNeed_62 (by decide) ?_
      exact v_zret C dX5_tellNeed_63 (by decide) h
    · replace h := h.2 c12
      refine v_aload_n C dX5_tellNeed_15 rfl ?_
      refine v_get C dX5_tellNeed_16 flX5_9 rfl (by decide) (by decide) (w := .inr (3, 0)) rfl ?_
      refine v_iconst C dX5_tellNeed_19 (by decide) ?_
      refine v_iald C dX5_tellNeed_20 rfl (by decide) (by decide) ?_
      refine v_aload_n C dX5_tellNeed_21 rfl ?_
      refine v_get C dX5_tellNeed_22 flX5_77 rfl (by decide) (by decide) (w := .inl (M9 5 i1 7)) rfl ?_
      refine v_icmp C dX5_tellNeed_25 (tgt := 62) (by decide) (P := (M9 5 i1 7) ≤ (M9 3 0 1)) rfl (fun c25 => ?_) (fun c25 => ?_)
      · replace h := h.1 c25
        refine v_iconst C dX5_tellNeed_62 (by decide) ?_
        exact v_zret C dX5_tellNeed_63 (by decide) h
      · replace h := h.2 c25
        refine v_aload_n C dX5_tellNeed_28 rfl ?_
        refine v_get C dX5_tellNeed_29 flX5_9 rfl (by decide) (by decide) (w := .inr (3, 0)) rfl ?_
        refine v_iconst C dX5_tellNeed_32 (by decide) ?_
        refine v_iald C dX5_tellNeed_33 rfl (by decide) (by decide) ?_
        refine v_aload_n C dX5_tellNeed_34 rfl ?_
        refine v_get C dX5_tellNeed_35 flX5_9 rfl (by decide) (by decide) (w := .inr (3, 0)) rfl ?_
        refine v_iconst C dX5_tellNeed_38 (by decide) ?_
        refine v_iald C dX5_tellNeed_39 rfl (by decide) (by decide) ?_
        refine v_icmp C dX5_tellNeed_40 (tgt := 62) (by decide) (P := (M9 3 0 1) ≤ (M9 3 0 0)) rfl (fun c40 => ?_) (fun c40 => ?_)
        · replace h := h.1 c40
          refine v_iconst C dX5_tellNeed_62 (by decide) ?_
          exact v_zret C dX5_tellNeed_63 (by decide) h
        · replace h := h.2 c40
          refine v_aload_n C dX5_tellNeed_43 rfl ?_
          refine v_get C dX5_tellNeed_44 flX5_83 rfl (by decide) (by decide) (w := .inr (10, i1)) rfl ?_
          refine v_aload_n C dX5_tellNeed_47 rfl ?_
          refine v_get C dX5_tellNeed_48 flX5_9 rfl (by decide) (by decide) (w := .inr (3, 0)) rfl ?_
          refine v_iconst C dX5_tellNeed_51 (by decide) ?_
          refine v_iald C dX5_tellNeed_52 rfl (by decide) (by decide) ?_
          refine v_aald C dX5_tellNeed_53 h.1.1 h.1.2 ?_
          replace h := h.2
          refine v_get C dX5_tellNeed_54 flX5_100 rfl (by decide) (by decide) (w := .inl (M9 11 (7 * i1 + (M9 3 0 1)) 3)) rfl ?_
          refine v_bipush C dX5_tellNeed_57 (by decide) (by decide) ?_
          refine v_icmp C dX5_tellNeed_59 (tgt := 64) (by decide) (P := (M9 11 (7 * i1 + (M9 3 0 1)) 3) = (-4)) rfl (fun c59 => ?_) (fun c59 => ?_)
          · replace h := h.1 c59
            refine v_aload_n C dX5_tellNeed_64 rfl ?_
            refine v_get C dX5_tellNeed_65 flX5_83 rfl (by decide) (by decide) (w := .inr (10, i1)) rfl ?_
            refine v_aload_n C dX5_tellNeed_68 rfl ?_
            refine v_get C dX5_tellNeed_69 flX5_9 rfl (by decide) (by decide) (w := .inr (3, 0)) rfl ?_
            refine v_iconst C dX5_tellNeed_72 (by decide) ?_
            refine v_iald C dX5_tellNeed_73 rfl (by decide) (by decide) ?_
            refine v_aald C dX5_tellNeed_74 h.1.1 h.1.2 ?_
            replace h := h.2
            refine v_aload_n C dX5_tellNeed_75 rfl ?_
            refine v_get C dX5_tellNeed_76 flX5_9 rfl (by decide) (by decide) (w := .inr (3, 0)) rfl ?_
            refine v_iconst C dX5_tellNeed_79 (by decide) ?_
            refine v_iald C dX5_tellNeed_80 rfl (by decide) (by decide) ?_
            refine v_put C dX5_tellNeed_81 plX5_100 rfl (by decide) (by decide) rfl rfl rfl ?_
            refine v_nmM (fun M81 eM81 => ?_)
            replace h := h M81 eM81
            refine v_iconst C dX5_tellNeed_84 (by decide) ?_
            exact v_zret C dX5_tellNeed_85 (by decide) h
          · replace h := h.2 c59
            refine v_iconst C dX5_tellNeed_62 (by decide) ?_
            exact v_zret C dX5_tellNeed_63 (by decide) h
def itN (F : Film) (l : List (Int × Int)) : Option Film := if l.length = 2 ∧ shortB l = true ∧ aN l 1 < F 3 0 0 ∧ aN l 0 < aN l 1 ∧ F 12 (aN l 1) 0 = -4 then some (sFN F (aN l 1) (aN l 0)) else none
abbrev spX5_tellNeed (f : Int) (M : Mem) (K : Kont) : Prop := (M 5 f 7 ≤ 7) ∧ ∃ l, RdK M l ∧ resK M f K (itN (cFilm M f) l)
theorem ctX5_tellNeed : CtX5_tellNeed spX5_tellNeed := by
  refine ct_of (by decide) dmC (fun _ => Nat.le_of_ble_eq_true rfl) ?_
  intro κ f M K C oM h
  obtain ⟨hn, l, hr, hk⟩ := h
  have hlen := hr.2.1
  have h0 := hr.at (k := 0) (by omega)
  have h2 := hr.1
  have e0 : M 3 0 0 = aN l 0 := h0.1.1
  have g0 : 0 ≤ aN l 0 := h0.2.1.1
  have eP : cFilm M f 3 0 0 = M 5 f 7 := rfl
  have eN : cFilm M f 12 (aN l 1) 0 = M 11 (7 * f + aN l 1) 3 := rfl
  unfold itN at hk
  rw [eP, eN] at hk
  have no : ¬ (l.length = 2 ∧ shortB l = true ∧ aN l 1 < M 5 f 7 ∧ aN l 0 < aN l 1 ∧ M 11 (7 * f + aN l 1) 3 = -4) → K (some 0) M := fun z => by rw [if_neg z] at hk; exact hk
  refine sgX5_tellNeed_0 C f ⟨fun c => no (by omega), fun c => ⟨l, hr, ?_, ?_⟩⟩
  · intro c2
    refine no (fun z => ?_)
    rw [z.2.1] at c2
    exact absurd c2 (by decide)
  · intro c2
    have hs : shortB l = true := by
      cases z : shortB l
      · rw [z] at c2
        exact absurd rfl c2
      · rfl
    have h1 := hr.at (k := 1) (by omega)
    have e1 : M 3 0 1 = aN l 1 := h1.1.1
    have g1 : 0 ≤ aN l 1 := h1.2.1.1
    rw [e0, e1]
    refine ⟨fun c3 => no (by omega), fun c3 => ⟨fun c4 => no (by omega), fun c4 => ⟨by omega, fun c5 => ⟨by omega, fun N eN2 => ?_⟩, fun c5 => no (by omega)⟩⟩⟩
    rw [if_pos ⟨by omega, hs, by omega, by omega, c5⟩] at hk
    refine hk N (by rw [eN2]; exact AgM.rf.up2 (by decide) (by omega) _ _) ?_
    rw [eN2]
    funext t a b
    have e : ∀ a : Int, (7 * f + a = 7 * f + aN l 1) = (a = aN l 1) := fun a => by apply propext; omega
    unfold cFilm sFN
    split <;> simp [up3, e]
    all_goals simp_all
