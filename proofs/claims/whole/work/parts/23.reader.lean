/-! ===== TextReader ===== -/
/-! ===== GapTellings$TextReader.readNumbers ===== -/
abbrev rmX5_readNumbers : Room := { frames := 1, cells := 0, slots := 0, locals := 25 }
abbrev argX5_readNumbers (a : Int) : List PV := [.inr (2, 0), .inr (1, 0), .inl a]
abbrev CtX5_readNumbers (sp : Int → Mem → Kont → Prop) : Prop := Ct yX5_readNumbers cX5_readNumbers 5 (some .boolean) rmX5_readNumbers domC argX5_readNumbers (fun a => sp a)
theorem dX5_readNumbers_0 : decode cX5_readNumbers 0 = .ok (.aload_n 0, 1) := by decide +kernel
theorem dX5_readNumbers_1 : decode cX5_readNumbers 1 = .ok (.dup, 1) := by decide +kernel
theorem dX5_readNumbers_2 : decode cX5_readNumbers 2 = .ok (.getfield 23, 3) := by decide +kernel
theorem dX5_readNumbers_5 : decode cX5_readNumbers 5 = .ok (.iconst 1, 1) := by decide +kernel
theorem dX5_readNumbers_6 : decode cX5_readNumbers 6 = .ok (.iadd, 1) := by decide +kernel
theorem dX5_readNumbers_7 : decode cX5_readNumbers 7 = .ok (.putfield 23, 3) := by decide +kernel
theorem dX5_readNumbers_10 : decode cX5_readNumbers 10 = .ok (.iconst 0, 1) := by decide +kernel
theorem dX5_readNumbers_11 : decode cX5_readNumbers 11 = .ok (.istore_n 3, 1) := by decide +kernel
theorem dX5_readNumbers_12 : decode cX5_readNumbers 12 = .ok (.iload_n 3, 1) := by decide +kernel
theorem dX5_readNumbers_13 : decode cX5_readNumbers 13 = .ok (.bipush 9, 2) := by decide +kernel
theorem dX5_readNumbers_15 : decode cX5_readNumbers 15 = .ok (.if_icmp .ge 78, 3) := by decide +kernel
theorem dX5_readNumbers_18 : decode cX5_readNumbers 18 = .ok (.aload_n 0, 1) := by decide +kernel
theorem dX5_readNumbers_19 : decode cX5_readNumbers 19 = .ok (.aload_n 1, 1) := by decide +kernel
theorem dX5_readNumbers_20 : decode cX5_readNumbers 20 = .ok (.iload_n 2, 1) := by decide +kernel
theorem dX5_readNumbers_21 : decode cX5_readNumbers 21 = .ok (.iload_n 3, 1) := by decide +kernel
theorem dX5_readNumbers_22 : decode cX5_readNumbers 22 = .ok (.invokevirtual 35, 3) := by decide +kernel
theorem dX5_readNumbers_25 : decode cX5_readNumbers 25 = .ok (.aload_n 0, 1) := by decide +kernel
theorem dX5_readNumbers_26 : decode cX5_readNumbers 26 = .ok (.getfield 15, 3) := by decide +kernel
theorem dX5_readNumbers_29 : decode cX5_readNumbers 29 = .ok (.iload_n 3, 1) := by decide +kernel
theorem dX5_readNumbers_30 : decode cX5_readNumbers 30 = .ok (.iaload, 1) := by decide +kernel
theorem dX5_readNumbers_31 : decode cX5_readNumbers 31 = .ok (.ifCond .eq 11, 3) := by decide +kernel
theorem dX5_readNumbers_34 : decode cX5_readNumbers 34 = .ok (.aload_n 0, 1) := by decide +kernel
theorem dX5_readNumbers_35 : decode cX5_readNumbers 35 = .ok (.getfield 23, 3) := by decide +kernel
theorem dX5_readNumbers_38 : decode cX5_readNumbers 38 = .ok (.iload_n 2, 1) := by decide +kernel
theorem dX5_readNumbers_39 : decode cX5_readNumbers 39 = .ok (.if_icmp .lt 5, 3) := by decide +kernel
theorem dX5_readNumbers_42 : decode cX5_readNumbers 42 = .ok (.iconst 0, 1) := by decide +kernel
theorem dX5_readNumbers_43 : decode cX5_readNumbers 43 = .ok (.ireturn, 1) := by decide +kernel
theorem dX5_readNumbers_44 : decode cX5_readNumbers 44 = .ok (.aload_n 0, 1) := by decide +kernel
theorem dX5_readNumbers_45 : decode cX5_readNumbers 45 = .ok (.iload_n 3, 1) := by decide +kernel
theorem dX5_readNumbers_46 : decode cX5_readNumbers 46 = .ok (.iconst 1, 1) := by decide +kernel
theorem dX5_readNumbers_47 : decode cX5_readNumbers 47 = .ok (.iadd, 1) := by decide +kernel
theorem dX5_readNumbers_48 : decode cX5_readNumbers 48 = .ok (.putfield 39, 3) := by decide +kernel
theorem dX5_readNumbers_51 : decode cX5_readNumbers 51 = .ok (.aload_n 1, 1) := by decide +kernel
theorem dX5_readNumbers_52 : decode cX5_readNumbers 52 = .ok (.aload_n 0, 1) := by decide +kernel
theorem dX5_readNumbers_53 : decode cX5_readNumbers 53 = .ok (.getfield 23, 3) := by decide +kernel
theorem dX5_readNumbers_56 : decode cX5_readNumbers 56 = .ok (.caload, 1) := by decide +kernel
theorem dX5_readNumbers_57 : decode cX5_readNumbers 57 = .ok (.istore 4, 2) := by decide +kernel
theorem dX5_readNumbers_59 : decode cX5_readNumbers 59 = .ok (.aload_n 0, 1) := by decide +kernel
theorem dX5_readNumbers_60 : decode cX5_readNumbers 60 = .ok (.dup, 1) := by decide +kernel
theorem dX5_readNumbers_61 : decode cX5_readNumbers 61 = .ok (.getfield 23, 3) := by decide +kernel
theorem dX5_readNumbers_64 : decode cX5_readNumbers 64 = .ok (.iconst 1, 1) := by decide +kernel
theorem dX5_readNumbers_65 : decode cX5_readNumbers 65 = .ok (.iadd, 1) := by decide +kernel
theorem dX5_readNumbers_66 : decode cX5_readNumbers 66 = .ok (.putfield 23, 3) := by decide +kernel
theorem dX5_readNumbers_69 : decode cX5_readNumbers 69 = .ok (.iload 4, 2) := by decide +kernel
theorem dX5_readNumbers_71 : decode cX5_readNumbers 71 = .ok (.bipush 59, 2) := by decide +kernel
theorem dX5_readNumbers_73 : decode cX5_readNumbers 73 = .ok (.if_icmp .ne 5, 3) := by decide +kernel
theorem dX5_readNumbers_76 : decode cX5_readNumbers 76 = .ok (.iconst 1, 1) := by decide +kernel
theorem dX5_readNumbers_77 : decode cX5_readNumbers 77 = .ok (.ireturn, 1) := by decide +kernel
theorem dX5_readNumbers_78 : decode cX5_readNumbers 78 = .ok (.iload 4, 2) := by decide +kernel
theorem dX5_readNumbers_80 : decode cX5_readNumbers 80 = .ok (.bipush 44, 2) := by decide +kernel
theorem dX5_readNumbers_82 : decode cX5_readNumbers 82 = .ok (.if_icmp .eq 5, 3) := by decide +kernel
theorem dX5_readNumbers_85 : decode cX5_readNumbers 85 = .ok (.iconst 0, 1) := by decide +kernel
theorem dX5_readNumbers_86 : decode cX5_readNumbers 86 = .ok (.ireturn, 1) := by decide +kernel
theorem dX5_readNumbers_87 : decode cX5_readNumbers 87 = .ok (.iinc 3 1, 3) := by decide +kernel
theorem dX5_readNumbers_90 : decode cX5_readNumbers 90 = .ok (.goto (-78), 3) := by decide +kernel
theorem dX5_readNumbers_93 : decode cX5_readNumbers 93 = .ok (.iconst 0, 1) := by decide +kernel
theorem dX5_readNumbers_94 : decode cX5_readNumbers 94 = .ok (.ireturn, 1) := by decide +kernel
theorem ivX5_35 : IV RX5 35 yX5_readNumber cX5_readNumber 6 none 3 := ⟨(tb_mem (t_in2 (List.mem_of_getElem? (i := 88) (by decide +kernel))) (by decide +kernel)), (tb_mem (t_in2 (List.mem_of_getElem? (i := 89) (by decide +kernel))) (by decide +kernel)), (tb_mem (t_in2 (List.mem_of_getElem? (i := 90) (by decide +kernel))) (by decide +kernel)), (tb_mem (t_in1 (List.mem_of_getElem? (i := 2) (by decide +kernel))) (by decide +kernel)), (tb_mem (t_in2 (List.mem_of_getElem? (i := 91) (by decide +kernel))) (by decide +kernel)), ⟨by decide +kernel, by decide +kernel, by decide +kernel⟩⟩
theorem plX5_39 : PL RX5 39 5 2 .int := ⟨_, _, _, rfl, by decide, uwX5, Or.inl (tb_mem (t_in1 (List.mem_of_getElem? (i := 35) (by decide +kernel))) (by decide +kernel)), rfl, by decide +kernel, tyX5, tyX5_ok, nmX5⟩
set_option maxHeartbeats 4000000 in
set_option maxRecDepth 20000 in
theorem sgX5_readNumbers_0 {κ : Kx} {K : Kont} {M : Mem} (C : Cx κ RX5 cX5_readNumbers 5 (some .boolean) rmX5_readNumbers domC) (x2 : Int)
    (h :
    inR ((M 2 0 3) + 1) ∧
    ∀ M7 : Mem, M7 = up3 M 2 0 3 ((M 2 0 3) + 1) →
    V κ 5 M7 12 [some (.inr (2, 0)), some (.inr (1, 0)), some (.inl x2), some (.inl 0), none] [] K) : V κ 5 M 0 [some (.inr (2, 0)), some (.inr (1, 0)), some (.inl x2), none, none] [] K := by
  refine v_aload_n C dX5_readNumbers_0 rfl ?_
  refine v_dup C dX5_readNumbers_1 ?_
  refine v_get C dX5_readNumbers_2 flX5_23 rfl (by decide) (by decide) (w := .inl (M 2 0 3)) rfl ?_
  refine v_iconst C dX5_readNumbers_5 (by decide) ?_
  refine v_iadd C dX5_readNumbers_6 h.1 ?_
  replace h := h.2
  refine v_put C dX5_readNumbers_7 plX5_23 rfl (by decide) (by decide) rfl rfl rfl ?_
  refine v_nmM (fun M7 eM7 => ?_)
  replace h := h M7 eM7
  refine v_iconst C dX5_readNumbers_10 (by decide) ?_
  refine v_istore_n C dX5_readNumbers_11 (by decide) (Nat.le_of_ble_eq_true rfl) (lv' := [some (.inr (2, 0)), some (.inr (1, 0)), some (.inl x2), some (.inl 0), none]) rfl ?_
  refine v_weak [some (.inr (2, 0)), some (.inr (1, 0)), some (.inl x2), some (.inl 0), none] ⟨rfl, rfl, rfl, rfl, trivial⟩ ?_
  exact h
set_option maxHeartbeats 4000000 in
set_option maxRecDepth 20000 in
theorem sgX5_readNumbers_12 {κ : Kx} {K : Kont} {M : Mem} (C : Cx κ RX5 cX5_readNumbers 5 (some .boolean) rmX5_readNumbers domC) (x2 : Int) (x3 : Int)
    (h :
    ((9 ≤ x3 →
      K (some 0) M) ∧
     (¬ (9 ≤ x3) →
      spX5_readNumber x2 x3 M (rV (fun M22 =>
      (0 ≤ x3 ∧ x3 < 9) ∧
      (((M22 4 0 x3) = 0 →
        K (some 0) M22) ∧
       (¬ ((M22 4 0 x3) = 0) →
        (((M22 2 0 3) < x2 →
          inR (x3 + 1) ∧
          ∀ M48 : Mem, M48 = up3 M22 2 0 2 (x3 + 1) →
          (0 ≤ (M48 2 0 3) ∧ (M48 2 0 3) < 200) ∧
          ∀ y4_57 : Int, y4_57 = M48 1 0 (M48 2 0 3) →
          inR ((M48 2 0 3) + 1) ∧
          ∀ M66 : Mem, M66 = up3 M48 2 0 3 ((M48 2 0 3) + 1) →
          ((y4_57 ≠ 59 →
            ((y4_57 = 44 →
              inR (x3 + 1) ∧
              V κ 5 M66 12 [some (.inr (2, 0)), some (.inr (1, 0)), some (.inl x2), some (.inl (x3 + 1)), none] [] K) ∧
             (¬ (y4_57 = 44) →
              K (some 0) M66))) ∧
           (¬ (y4_57 ≠ 59) →
            K (some 1) M66))) ∧
         (¬ ((M22 2 0 3) < x2) →
          K (some 0) M22))))))))) : V κ 5 M 12 [some (.inr (2, 0)), some (.inr (1, 0)), some (.inl x2), some (.inl x3), none] [] K := by
  refine v_iload_n C dX5_readNumbers_12 rfl ?_
  refine v_bipush C dX5_readNumbers_13 (by decide) (by decide) ?_
  refine v_icmp C dX5_readNumbers_15 (tgt := 93) (by decide) (P := 9 ≤ x3) rfl (fun c15 => ?_) (fun c15 => ?_)
  · replace h := h.1 c15
    refine v_iconst C dX5_readNumbers_93 (by decide) ?_
    exact v_zret C dX5_readNumbers_94 (by decide) h
  · replace h := h.2 c15
    refine v_aload_n C dX5_readNumbers_18 rfl ?_
    refine v_aload_n C dX5_readNumbers_19 rfl ?_
    refine v_iload_n C dX5_readNumbers_20 rfl ?_
    refine v_iload_n C dX5_readNumbers_21 rfl ?_
    refine v_invV C ctX5_readNumber dX5_readNumbers_22 ivX5_35 ⟨by decide, by decide, rfl, rfl⟩ ((x2, x3) : Int × Int) (As := [.inr (1, 0), .inl x2, .inl x3]) rfl rfl rfl (by decide) rfl (st := []) rfl (Nat.le_of_ble_eq_true rfl) h (fun o M22 oM22 io22 h => ?_)
    obtain ⟨rfl, h⟩ := rV_out h
    refine v_push0 ?_
    refine v_aload_n C dX5_readNumbers_25 rfl ?_
    refine v_get C dX5_readNumbers_26 flX5_15 rfl (by decide) (by decide) (w := .inr (4, 0)) rfl ?_
    refine v_iload_n C dX5_readNumbers_29 rfl ?_
    refine v_iald C dX5_readNumbers_30 rfl h.1.1 h.1.2 ?_
    replace h := h.2
    refine v_if C dX5_readNumbers_31 (tgt := 42) (by decide) (P := (M22 4 0 x3) = 0) rfl (fun c31 => ?_) (fun c31 => ?_)
    · replace h := h.1 c31
      refine v_iconst C dX5_readNumbers_42 (by decide) ?_
      exact v_zret C dX5_readNumbers_43 (by decide) h
    · replace h := h.2 c31
      refine v_aload_n C dX5_readNumbers_34 rfl ?_
      refine v_get C dX5_readNumbers_35 flX5_23 rfl (by decide) (by decide) (w := .inl (M22 2 0 3)) rfl ?_
      refine v_iload_n C dX5_readNumbers_38 rfl ?_
      refine v_icmp C dX5_readNumbers_39 (tgt := 44) (by decide) (P := (M22 2 0 3) < x2) rfl (fun c39 => ?_) (fun c39 => ?_)
      · replace h := h.1 c39
        refine v_aload_n C dX5_readNumbers_44 rfl ?_
        refine v_iload_n C dX5_readNumbers_45 rfl ?_
        refine v_iconst C dX5_readNumbers_46 (by decide) ?_
        refine v_iadd C dX5_readNumbers_47 h.1 ?_
        replace h := h.2
        refine v_put C dX5_readNumbers_48 plX5_39 rfl (by decide) (by decide) rfl rfl rfl ?_
        refine v_nmM (fun M48 eM48 => ?_)
        replace h := h M48 eM48
        refine v_aload_n C dX5_readNumbers_51 rfl ?_
        refine v_aload_n C dX5_readNumbers_52 rfl ?_
        refine v_get C dX5_readNumbers_53 flX5_23 rfl (by decide) (by decide) (w := .inl (M48 2 0 3)) rfl ?_
        refine v_cald C dX5_readNumbers_56 rfl h.1.1 h.1.2 ?_
        replace h := h.2
        refine v_nm (fun y4_57 ey4_57 => ?_)
        replace h := h y4_57 ey4_57
        refine v_istore C dX5_readNumbers_57 (by decide) (Nat.le_of_ble_eq_true rfl) (lv' := [some (.inr (2, 0)), some (.inr (1, 0)), some (.inl x2), some (.inl x3), some (.inl y4_57)]) rfl ?_
        refine v_aload_n C dX5_readNumbers_59 rfl ?_
        refine v_dup C dX5_readNumbers_60 ?_
        refine v_get C dX5_readNumbers_61 flX5_23 rfl (by decide) (by decide) (w := .inl (M48 2 0 3)) rfl ?_
        refine v_iconst C dX5_readNumbers_64 (by decide) ?_
        refine v_iadd C dX5_readNumbers_65 h.1 ?_
        replace h := h.2
        refine v_put C dX5_readNumbers_66 plX5_23 rfl (by decide) (by decide) rfl rfl rfl ?_
        refine v_nmM (fun M66 eM66 => ?_)
        replace h := h M66 eM66
        refine v_iload C dX5_readNumbers_69 rfl ?_
        refine v_bipush C dX5_readNumbers_71 (by decide) (by decide) ?_
        refine v_icmp C dX5_readNumbers_73 (tgt := 78) (by decide) (P := y4_57 ≠ 59) rfl (fun c73 => ?_) (fun c73 => ?_)
        · replace h := h.1 c73
          refine v_iload C dX5_readNumbers_78 rfl ?_
          refine v_bipush C dX5_readNumbers_80 (by decide) (by decide) ?_
          refine v_icmp C dX5_readNumbers_82 (tgt := 87) (by decide) (P := y4_57 = 44) rfl (fun c82 => ?_) (fun c82 => ?_)
          · replace h := h.1 c82
            refine v_iinc C dX5_readNumbers_87 (by decide) rfl h.1 (lv' := [some (.inr (2, 0)), some (.inr (1, 0)), some (.inl x2), some (.inl (x3 + 1)), some (.inl y4_57)]) rfl ?_
            replace h := h.2
            refine v_goto C dX5_readNumbers_90 (tgt := 12) (by decide) ?_
            refine v_weak [some (.inr (2, 0)), some (.inr (1, 0)), some (.inl x2), some (.inl (x3 + 1)), none] ⟨rfl, rfl, rfl, rfl, trivial⟩ ?_
            exact h
          · replace h := h.2 c82
            refine v_iconst C dX5_readNumbers_85 (by decide) ?_
            exact v_zret C dX5_readNumbers_86 (by decide) h
        · replace h := h.2 c73
          refine v_iconst C dX5_readNumbers_76 (by decide) ?_
          exact v_zret C dX5_readNumbers_77 (by decide) h
      · replace h := h.2 c39
        refine v_iconst C dX5_readNumbers_42 (by decide) ?_
        exact v_zret C dX5_readNumbers_43 (by decide) h
abbrev spX5_readNumbers (L : Int) (M : Mem) (K : Kont) : Prop := (0 ≤ M 2 0 3 ∧ M 2 0 3 < L ∧ L ≤ 200) ∧
  (∀ M', AgR M M' → tks (M 1 0) L 9 (M 2 0 3 + 1) = none → K (some 0) M') ∧
  (∀ M' l e, AgR M M' → tks (M 1 0) L 9 (M 2 0 3 + 1) = some (l, e) → M' 2 0 2 = l.length → M' 2 0 3 = e → (∀ k : Nat, k < l.length → M' 3 0 k = (l.getD k (0, 0)).1 ∧ M' 4 0 k = (l.getD k (0, 0)).2) → K (some 1) M')
theorem ctX5_readNumbers : CtX5_readNumbers spX5_readNumbers := by
  refine ct_of (by decide) dmC (fun _ => Nat.le_of_ble_eq_true rfl) ?_
  intro κ L M K C oM h
  dsimp only [spX5_readNumbers] at h
  obtain ⟨hL, hk1, hk2⟩ := h
  have loop : ∀ (n i : Nat) (N : Mem) (pre : List (Int × Int)), i + n = 9 → pre.length = i → AgR M N → (0 ≤ N 2 0 3 ∧ N 2 0 3 ≤ L) → (∀ k : Nat, k < i → N 3 0 k = (pre.getD k (0, 0)).1 ∧ N 4 0 k = (pre.getD k (0, 0)).2) →
      (tks (M 1 0) L 9 (M 2 0 3 + 1) = (tks (M 1 0) L n (N 2 0 3)).map (fun q => (pre ++ q.1, q.2))) →
      V κ 5 N 12 [some (.inr (2, 0)), some (.inr (1, 0)), some (.inl L), some (.inl (i : Int)), none] [] K := by
    intro n
    induction n with
    | zero =>
      intro i N pre hn hp hA hat hnum ht
      refine sgX5_readNumbers_12 C L i ⟨fun c => hk1 N hA (by rw [ht]; rfl), fun c => absurd (by omega) c⟩
    | succ n ih =>
      intro i N pre hn hp hA hat hnum ht
      have hX : N 1 = M 1 := hA 1 (by omega)
      refine sgX5_readNumbers_12 C L i ⟨fun c => absurd c (by omega), fun c => ⟨⟨⟨hat.1, hat.2, hL.2.2⟩, by omega⟩, ?_⟩⟩
      intro N1 hA1 r2 r3 r30 r40 ro
      rw [hX] at r3 r30 r40
      have hc := dgc_rng (M 1 0) L 3 (N 2 0 3)
      have hv := dgv_rng (M 1 0) L 3 (N 2 0 3) 0 0 (by omega) (by omega)
      have hX1 : N1 1 = M 1 := by rw [hA1 1 (by omega), hX]
      have tq : tks (M 1 0) L (n + 1) (N 2 0 3) = if dgc (M 1 0) L 3 (N 2 0 3) = 0 ∨ L ≤ N 2 0 3 + dgc (M 1 0) L 3 (N 2 0 3) then none
          else if M 1 0 (N 2 0 3 + dgc (M 1 0) L 3 (N 2 0 3)) = 59 then some ([(dgv (M 1 0) L 3 (N 2 0 3) 0, dgc (M 1 0) L 3 (N 2 0 3))], N 2 0 3 + dgc (M 1 0) L 3 (N 2 0 3) + 1)
          else if M 1 0 (N 2 0 3 + dgc (M 1 0) L 3 (N 2 0 3)) = 44 then (tks (M 1 0) L n (N 2 0 3 + dgc (M 1 0) L 3 (N 2 0 3) + 1)).map (fun q => ((dgv (M 1 0) L 3 (N 2 0 3) 0, dgc (M 1 0) L 3 (N 2 0 3)) :: q.1, q.2))
          else none := rfl
      rw [tq] at ht
      generalize dgc (M 1 0) L 3 (N 2 0 3) = dc at *
      generalize dgv (M 1 0) L 3 (N 2 0 3) 0 = dv at *
      refine ⟨by omega, fun c2 => ?_, fun c2 => ⟨fun c3 => ⟨by omega, fun N2 e2 => ?_⟩, fun c3 => ?_⟩⟩
      · rw [if_pos (Or.inl (by omega))] at ht
        exact hk1 N1 (hA.tr hA1) (by rw [ht]; rfl)
      · rw [if_neg (by omega)] at ht
        have at2 : N2 2 0 3 = N 2 0 3 + dc := by rw [e2, up3_j _ _ _ _ _ (by decide)]; exact r3
        have x2 : N2 1 0 (N2 2 0 3) = M 1 0 (N 2 0 3 + dc) := by rw [at2, e2, up3_r _ _ _ _ _ (by decide), hX1]
        refine ⟨by omega, fun y ey => ⟨by omega, fun N3 e3 => ?_⟩⟩
        rw [x2] at ey
        have at3 : N3 2 0 3 = N 2 0 3 + dc + 1 := by rw [e3, up3_s, at2]
        have hA3 : AgR M N3 := by rw [e3, e2]; exact ((hA.tr hA1).up (by decide) _ _ _).up (by decide) _ _ _
        have f3 : N3 2 0 2 = i + 1 := by rw [e3, up3_j _ _ _ _ _ (by decide), e2, up3_s]
        have nums : ∀ k : Nat, k < i + 1 → N3 3 0 k = ((pre ++ [(dv, dc)]).getD k (0, 0)).1 ∧ N3 4 0 k = ((pre ++ [(dv, dc)]).getD k (0, 0)).2 := by
          intro k hk
          rw [e3, up3_r _ _ _ _ _ (by decide), up3_r _ _ _ _ _ (by decide), e2, up3_r _ _ _ _ _ (by decide), up3_r _ _ _ _ _ (by decide)]
          by_cases e : k = i
          · subst e
            rw [r30, r40, List.getD_eq_getElem?_getD, List.getElem?_append_right (by omega), hp]
            simp
          · have hk2 : k < pre.length := by omega
            have := ro k (by omega)
            rw [this.1, this.2, List.getD_eq_getElem?_getD, List.getElem?_append_left hk2, ← List.getD_eq_getElem?_getD]
            exact hnum k (by omega)
        refine ⟨fun c4 => ⟨fun c5 => ⟨by omega, ?_⟩, fun c5 => ?_⟩, fun c4 => ?_⟩
        · rw [if_neg (by omega), if_pos (by omega)] at ht
          have := ih (i + 1) N3 (pre ++ [(dv, dc)]) (by omega) (by simp [hp]) hA3 (by omega) nums ?_
          · exact this
          · rw [ht, at3]
            cases tks (M 1 0) L n (N 2 0 3 + dc + 1) with
            | none => rfl
            | some q => simp
        · rw [if_neg (by omega), if_neg (by omega)] at ht
          exact hk1 N3 hA3 (by rw [ht]; rfl)
        · rw [if_pos (by omega)] at ht
          have ht' : tks (M 1 0) L 9 (M 2 0 3 + 1) = some (pre ++ [(dv, dc)], N 2 0 3 + dc + 1) := by rw [ht]; rfl
          refine hk2 N3 _ _ hA3 ht' (by rw [f3]; simp [hp]) at3 ?_
          intro k hk
          exact nums k (by simp [hp] at hk; omega)
      · rw [if_pos (Or.inr (by omega))] at ht
        exact hk1 N1 (hA.tr hA1) (by rw [ht]; rfl)
  refine sgX5_readNumbers_0 C L ⟨by omega, fun N eN => ?_⟩
  have at1 : N 2 0 3 = M 2 0 3 + 1 := by rw [eN, up3_s]
  refine loop 9 0 N [] (by omega) rfl (by rw [eN]; exact AgR.rf.up (by decide) _ _ _) (by omega) (fun k hk => by omega) ?_
  rw [at1]
  cases tks (M 1 0) L 9 (M 2 0 3 + 1) with
  | none => rfl
  | some q => simp
/-- the reader holds these numbers -/
def RdK (M : Mem) (l : List (Int × Int)) : Prop := M 2 0 2 = l.length ∧ (1 ≤ l.length ∧ l.length ≤ 9) ∧ (∀ q ∈ l, (0 ≤ q.1 ∧ q.1 ≤ 999) ∧ (1 ≤ q.2 ∧ q.2 ≤ 3)) ∧ ∀ k : Nat, k < l.length → M 3 0 k = (l.getD k (0, 0)).1 ∧ M 4 0 k = (l.getD k (0, 0)).2
theorem RdK.at {M : Mem} {l : List (Int × Int)} (h : RdK M l) {k : Nat} (hk : k < l.length) : (M 3 0 k = (l.getD k (0, 0)).1 ∧ M 4 0 k = (l.getD k (0, 0)).2) ∧ (0 ≤ (l.getD k (0, 0)).1 ∧ (l.getD k (0, 0)).1 ≤ 999) ∧ (1 ≤ (l.getD k (0, 0)).2 ∧ (l.getD k (0, 0)).2 ≤ 3) := by
  have e : l.getD k (0, 0) = l[k] := by rw [List.getD_eq_getElem?_getD, List.getElem?_eq_getElem hk]; rfl
  have := h.2.2.1 (l.getD k (0, 0)) (by rw [e]; exact List.getElem_mem hk)
  exact ⟨h.2.2.2 k hk, this.1, this.2⟩
/-! ===== GapTellings$TextReader.allShort ===== -/
abbrev rmX5_allShort : Room := { frames := 0, cells := 0, slots := 0, locals := 0 }
abbrev argX5_allShort (a : Unit) : List PV := [.inr (2, 0)]
abbrev CtX5_allShort (sp : Mem → Kont → Prop) : Prop := Ct yX5_allShort cX5_allShort 2 (some .boolean) rmX5_allShort domC argX5_allShort (fun _ => sp)
theorem dX5_allShort_0 : decode cX5_allShort 0 = .ok (.iconst 0, 1) := by decide +kernel
theorem dX5_allShort_1 : decode cX5_allShort 1 = .ok (.istore_n 1, 1) := by decide +kernel
theorem dX5_allShort_2 : decode cX5_allShort 2 = .ok (.iload_n 1, 1) := by decide +kernel
theorem dX5_allShort_3 : decode cX5_allShort 3 = .ok (.aload_n 0, 1) := by decide +kernel
theorem dX5_allShort_4 : decode cX5_allShort 4 = .ok (.getfield 39, 3) := by decide +kernel
theorem dX5_allShort_7 : decode cX5_allShort 7 = .ok (.if_icmp .ge 21, 3) := by decide +kernel
theorem dX5_allShort_10 : decode cX5_allShort 10 = .ok (.aload_n 0, 1) := by decide +kernel
theorem dX5_allShort_11 : decode cX5_allShort 11 = .ok (.getfield 15, 3) := by decide +kernel
theorem dX5_allShort_14 : decode cX5_allShort 14 = .ok (.iload_n 1, 1) := by decide +kernel
theorem dX5_allShort_15 : decode cX5_allShort 15 = .ok (.iaload, 1) := by decide +kernel
theorem dX5_allShort_16 : decode cX5_allShort 16 = .ok (.iconst 2, 1) := by decide +kernel
theorem dX5_allShort_17 : decode cX5_allShort 17 = .ok (.if_icmp .le 5, 3) := by decide +kernel
theorem dX5_allShort_20 : decode cX5_allShort 20 = .ok (.iconst 0, 1) := by decide +kernel
theorem dX5_allShort_21 : decode cX5_allShort 21 = .ok (.ireturn, 1) := by decide +kernel
theorem dX5_allShort_22 : decode cX5_allShort 22 = .ok (.iinc 1 1, 3) := by decide +kernel
theorem dX5_allShort_25 : decode cX5_allShort 25 = .ok (.goto (-23), 3) := by decide +kernel
theorem dX5_allShort_28 : decode cX5_allShort 28 = .ok (.iconst 1, 1) := by decide +kernel
theorem dX5_allShort_29 : decode cX5_allShort 29 = .ok (.ireturn, 1) := by decide +kernel
theorem flX5_39 : FL RX5 39 5 2 := ⟨_, _, _, rfl, by decide, uwX5, Or.inl (tb_mem (t_in1 (List.mem_of_getElem? (i := 35) (by decide +kernel))) (by decide +kernel))⟩
set_option maxHeartbeats 4000000 in
set_option maxRecDepth 20000 in
theorem sgX5_allShort_0 {κ : Kx} {K : Kont} {M : Mem} (C : Cx κ RX5 cX5_allShort 2 (some .boolean) rmX5_allShort domC) 
    (h :
    V κ 2 M 2 [some (.inr (2, 0)), some (.inl 0)] [] K) : V κ 2 M 0 [some (.inr (2, 0)), none] [] K := by
  refine v_iconst C dX5_allShort_0 (by decide) ?_
  refine v_istore_n C dX5_allShort_1 (by decide) (Nat.le_of_ble_eq_true rfl) (lv' := [some (.inr (2, 0)), some (.inl 0)]) rfl ?_
  refine v_weak [some (.inr (2, 0)), some (.inl 0)] ⟨rfl, rfl, trivial⟩ ?_
  exact h
set_option maxHeartbeats 4000000 in
set_option maxRecDepth 20000 in
theorem sgX5_allShort_2 {κ : Kx} {K : Kont} {M : Mem} (C : Cx κ RX5 cX5_allShort 2 (some .boolean) rmX5_allShort domC) (x1 : Int)
    (h :
    (((M 2 0 2) ≤ x1 →
      K (some 1) M) ∧
     (¬ ((M 2 0 2) ≤ x1) →
      (0 ≤ x1 ∧ x1 < 9) ∧
      (((M 4 0 x1) ≤ 2 →
        inR (x1 + 1) ∧
        V κ 2 M 2 [some (.inr (2, 0)), some (.inl (x1 + 1))] [] K) ∧
       (¬ ((M 4 0 x1) ≤ 2) →
        K (some 0) M))))) : V κ 2 M 2 [some (.inr (2, 0)), some (.inl x1)] [] K := by
  refine v_iload_n C dX5_allShort_2 rfl ?_
  refine v_aload_n C dX5_allShort_3 rfl ?_
  refine v_get C dX5_allShort_4 flX5_39 rfl (by decide) (by decide) (w := .inl (M 2 0 2)) rfl ?_
  refine v_icmp C dX5_allShort_7 (tgt := 28) (by decide) (P := (M 2 0 2) ≤ x1) rfl (fun c7 => ?_) (fun c7 => ?_)
  · replace h := h.1 c7
    refine v_iconst C dX5_allShort_28 (by decide) ?_
    exact v_zret C dX5_allShort_29 (by decide) h
  · replace h := h.2 c7
    refine v_aload_n C dX5_allShort_10 rfl ?_
    refine v_get C dX5_allShort_11 flX5_15 rfl (by decide) (by decide) (w := .inr (4, 0)) rfl ?_
    refine v_iload_n C dX5_allShort_14 rfl ?_
    refine v_iald C dX5_allShort_15 rfl h.1.1 h.1.2 ?_
    replace h := h.2
    refine v_iconst C dX5_allShort_16 (by decide) ?_
    refine v_icmp C dX5_allShort_17 (tgt := 22) (by decide) (P := (M 4 0 x1) ≤ 2) rfl (fun c17 => ?_) (fun c17 => ?_)
    · replace h := h.1 c17
      refine v_iinc C dX5_allShort_22 (by decide) rfl h.1 (lv' := [some (.inr (2, 0)), some (.inl (x1 + 1))]) rfl ?_
      replace h := h.2
      refine v_goto C dX5_allShort_25 (tgt := 2) (by decide) ?_
      refine v_weak [some (.inr (2, 0)), some (.inl (x1 + 1))] ⟨rfl, rfl, trivial⟩ ?_
      exact h
    · replace h := h.2 c17
      refine v_iconst C dX5_allShort_20 (by decide) ?_
      exact v_zret C dX5_allShort_21 (by decide) h
def shortL (l : List (Int × Int)) : Prop := ∀ q ∈ l, q.2 ≤ 2
abbrev spX5_allShort (M : Mem) (K : Kont) : Prop := ∀ l, RdK M l → (shortL l → K (some 1) M) ∧ (¬ shortL l → K (some 0) M)
