/-! ===== the Model: why not, gain ===== -/
theorem or7 {x y : Int} (hx : 0 ≤ x) (hx2 : x ≤ 7) (hy : 0 ≤ y) (hy2 : y ≤ 7) : 0 ≤ bOr x y ∧ bOr x y ≤ 7 := by
  have key : ∀ a : Nat, a < 8 → ∀ b : Nat, b < 8 → 0 ≤ bOr (a : Int) (b : Int) ∧ bOr (a : Int) (b : Int) ≤ 7 := by decide +kernel
  have := key x.toNat (by omega) y.toNat (by omega)
  rw [oi_nat hx, oi_nat hy] at this
  exact this
theorem shl2 {k : Int} (h0 : 0 ≤ k) (h1 : k ≤ 2) : 0 ≤ bShl 1 k ∧ bShl 1 k ≤ 7 := by
  have : k = 0 ∨ k = 1 ∨ k = 2 := by omega
  rcases this with e | e | e <;> subst e <;> decide
theorem mkN_rng {F : Film} (hf : WFf F) (t : Int) : ∀ n : Nat, (n : Int) ≤ F 2 0 0 → 0 ≤ mkN F t n ∧ mkN F t n ≤ 7 := by
  intro n
  induction n with
  | zero => intro _; unfold mkN; omega
  | succ n ih =>
    intro hn
    have h1 := ih (by omega)
    have ws := hf.2.2.2.2.2.1 n (by omega) (by omega)
    unfold WFs at ws
    have h2 := shl2 ws.1.1 ws.1.2
    unfold mkN
    split
    · exact or7 h1.1 h1.2 h2.1 h2.2
    · exact h1
theorem mkF_rng {F : Film} (hf : WFf F) (t : Int) : 0 ≤ mkF F t ∧ mkF F t ≤ 7 := mkN_rng hf t _ (by have := hf.2.2.1; omega)
theorem and8 : ∀ x : Nat, x < 8 → (bAnd (x : Int) 1 = 0 ∨ bAnd (x : Int) 1 = 1) ∧ 0 ≤ bAnd (x : Int) 2 ∧ 0 ≤ bAnd (x : Int) 4 := by decide +kernel
theorem and_m {x : Int} (h0 : 0 ≤ x) (h1 : x ≤ 7) : (bAnd x 1 = 0 ∨ bAnd x 1 = 1) ∧ 0 ≤ bAnd x 2 ∧ 0 ≤ bAnd x 4 := by
  have := and8 x.toNat (by omega)
  rw [oi_nat h0] at this
  exact this
theorem spc_1 {F : Film} (hf : WFf F) (t : Int) : spc F t = bAnd (mkF F t) 1 := by
  have r := mkF_rng hf t
  have a := and_m r.1 r.2
  unfold spc
  split <;> omega
theorem spb_mono (F : Film) {a : Int} (h0 : 0 ≤ a) : ∀ n : Nat, spb F a ≤ spb F (a + n) := by
  intro n
  induction n with
  | zero => simp
  | succ n ih =>
    have e : a + ((n + 1 : Nat) : Int) = a + n + 1 := by omega
    have := spc_rng F (a + n)
    rw [e, spb_s F (by omega)]
    omega
/-! ===== GapTellingsModel.whyByFilm ===== -/
abbrev rmX8_whyByFilm : Room := { frames := 1, cells := 0, slots := 0, locals := 22 }
abbrev argX8_whyByFilm (a : Int × Int × Int) : List PV := [.inr (30, 0), .inl a.1, .inl a.2.1, .inl a.2.2]
abbrev CtX8_whyByFilm (sp : Int → Int → Int → Mem → Kont → Prop) : Prop := Ct yX8_whyByFilm cX8_whyByFilm 6 (some .int) rmX8_whyByFilm domM argX8_whyByFilm (fun a => sp a.1 a.2.1 a.2.2)
theorem dX8_whyByFilm_0 : decode cX8_whyByFilm 0 = .ok (.iload_n 3, 1) := by decide +kernel
theorem dX8_whyByFilm_1 : decode cX8_whyByFilm 1 = .ok (.aload_n 0, 1) := by decide +kernel
theorem dX8_whyByFilm_2 : decode cX8_whyByFilm 2 = .ok (.iload_n 1, 1) := by decide +kernel
theorem dX8_whyByFilm_3 : decode cX8_whyByFilm 3 = .ok (.iload_n 2, 1) := by decide +kernel
theorem dX8_whyByFilm_4 : decode cX8_whyByFilm 4 = .ok (.invokevirtual 147, 3) := by decide +kernel
theorem dX8_whyByFilm_7 : decode cX8_whyByFilm 7 = .ok (.iadd, 1) := by decide +kernel
theorem dX8_whyByFilm_8 : decode cX8_whyByFilm 8 = .ok (.istore 4, 2) := by decide +kernel
theorem dX8_whyByFilm_10 : decode cX8_whyByFilm 10 = .ok (.iload 4, 2) := by decide +kernel
theorem dX8_whyByFilm_12 : decode cX8_whyByFilm 12 = .ok (.aload_n 0, 1) := by decide +kernel
theorem dX8_whyByFilm_13 : decode cX8_whyByFilm 13 = .ok (.getfield 64, 3) := by decide +kernel
theorem dX8_whyByFilm_16 : decode cX8_whyByFilm 16 = .ok (.if_icmp .le 5, 3) := by decide +kernel
theorem dX8_whyByFilm_19 : decode cX8_whyByFilm 19 = .ok (.iconst 1, 1) := by decide +kernel
theorem dX8_whyByFilm_20 : decode cX8_whyByFilm 20 = .ok (.ireturn, 1) := by decide +kernel
theorem dX8_whyByFilm_21 : decode cX8_whyByFilm 21 = .ok (.iload_n 3, 1) := by decide +kernel
theorem dX8_whyByFilm_22 : decode cX8_whyByFilm 22 = .ok (.aload_n 0, 1) := by decide +kernel
theorem dX8_whyByFilm_23 : decode cX8_whyByFilm 23 = .ok (.getfield 16, 3) := by decide +kernel
theorem dX8_whyByFilm_26 : decode cX8_whyByFilm 26 = .ok (.bipush 11, 2) := by decide +kernel
theorem dX8_whyByFilm_28 : decode cX8_whyByFilm 28 = .ok (.iload_n 1, 1) := by decide +kernel
theorem dX8_whyByFilm_29 : decode cX8_whyByFilm 29 = .ok (.imul, 1) := by decide +kernel
theorem dX8_whyByFilm_30 : decode cX8_whyByFilm 30 = .ok (.iaload, 1) := by decide +kernel
theorem dX8_whyByFilm_31 : decode cX8_whyByFilm 31 = .ok (.aload_n 0, 1) := by decide +kernel
theorem dX8_whyByFilm_32 : decode cX8_whyByFilm 32 = .ok (.getfield 16, 3) := by decide +kernel
theorem dX8_whyByFilm_35 : decode cX8_whyByFilm 35 = .ok (.bipush 11, 2) := by decide +kernel
theorem dX8_whyByFilm_37 : decode cX8_whyByFilm 37 = .ok (.iload_n 1, 1) := by decide +kernel
theorem dX8_whyByFilm_38 : decode cX8_whyByFilm 38 = .ok (.imul, 1) := by decide +kernel
theorem dX8_whyByFilm_39 : decode cX8_whyByFilm 39 = .ok (.iconst 1, 1) := by decide +kernel
theorem dX8_whyByFilm_40 : decode cX8_whyByFilm 40 = .ok (.iadd, 1) := by decide +kernel
theorem dX8_whyByFilm_41 : decode cX8_whyByFilm 41 = .ok (.iaload, 1) := by decide +kernel
theorem dX8_whyByFilm_42 : decode cX8_whyByFilm 42 = .ok (.isub, 1) := by decide +kernel
theorem dX8_whyByFilm_43 : decode cX8_whyByFilm 43 = .ok (.if_icmp .lt 28, 3) := by decide +kernel
theorem dX8_whyByFilm_46 : decode cX8_whyByFilm 46 = .ok (.iload_n 3, 1) := by decide +kernel
theorem dX8_whyByFilm_47 : decode cX8_whyByFilm 47 = .ok (.aload_n 0, 1) := by decide +kernel
theorem dX8_whyByFilm_48 : decode cX8_whyByFilm 48 = .ok (.getfield 16, 3) := by decide +kernel
theorem dX8_whyByFilm_51 : decode cX8_whyByFilm 51 = .ok (.bipush 11, 2) := by decide +kernel
theorem dX8_whyByFilm_53 : decode cX8_whyByFilm 53 = .ok (.iload_n 1, 1) := by decide +kernel
theorem dX8_whyByFilm_54 : decode cX8_whyByFilm 54 = .ok (.imul, 1) := by decide +kernel
theorem dX8_whyByFilm_55 : decode cX8_whyByFilm 55 = .ok (.iaload, 1) := by decide +kernel
theorem dX8_whyByFilm_56 : decode cX8_whyByFilm 56 = .ok (.aload_n 0, 1) := by decide +kernel
theorem dX8_whyByFilm_57 : decode cX8_whyByFilm 57 = .ok (.getfield 16, 3) := by decide +kernel
theorem dX8_whyByFilm_60 : decode cX8_whyByFilm 60 = .ok (.bipush 11, 2) := by decide +kernel
theorem dX8_whyByFilm_62 : decode cX8_whyByFilm 62 = .ok (.iload_n 1, 1) := by decide +kernel
theorem dX8_whyByFilm_63 : decode cX8_whyByFilm 63 = .ok (.imul, 1) := by decide +kernel
theorem dX8_whyByFilm_64 : decode cX8_whyByFilm 64 = .ok (.iconst 2, 1) := by decide +kernel
theorem dX8_whyByFilm_65 : decode cX8_whyByFilm 65 = .ok (.iadd, 1) := by decide +kernel
theorem dX8_whyByFilm_66 : decode cX8_whyByFilm 66 = .ok (.iaload, 1) := by decide +kernel
theorem dX8_whyByFilm_67 : decode cX8_whyByFilm 67 = .ok (.iadd, 1) := by decide +kernel
theorem dX8_whyByFilm_68 : decode cX8_whyByFilm 68 = .ok (.if_icmp .le 5, 3) := by decide +kernel
theorem dX8_whyByFilm_71 : decode cX8_whyByFilm 71 = .ok (.iconst 2, 1) := by decide +kernel
theorem dX8_whyByFilm_72 : decode cX8_whyByFilm 72 = .ok (.ireturn, 1) := by decide +kernel
theorem dX8_whyByFilm_73 : decode cX8_whyByFilm 73 = .ok (.iload_n 3, 1) := by decide +kernel
theorem dX8_whyByFilm_74 : decode cX8_whyByFilm 74 = .ok (.istore 5, 2) := by decide +kernel
theorem dX8_whyByFilm_76 : decode cX8_whyByFilm 76 = .ok (.iload 5, 2) := by decide +kernel
theorem dX8_whyByFilm_78 : decode cX8_whyByFilm 78 = .ok (.iload 4, 2) := by decide +kernel
theorem dX8_whyByFilm_80 : decode cX8_whyByFilm 80 = .ok (.if_icmp .ge 24, 3) := by decide +kernel
theorem dX8_whyByFilm_83 : decode cX8_whyByFilm 83 = .ok (.aload_n 0, 1) := by decide +kernel
theorem dX8_whyByFilm_84 : decode cX8_whyByFilm 84 = .ok (.getfield 49, 3) := by decide +kernel
theorem dX8_whyByFilm_87 : decode cX8_whyByFilm 87 = .ok (.iload 5, 2) := by decide +kernel
theorem dX8_whyByFilm_89 : decode cX8_whyByFilm 89 = .ok (.iaload, 1) := by decide +kernel
theorem dX8_whyByFilm_90 : decode cX8_whyByFilm 90 = .ok (.iconst 1, 1) := by decide +kernel
theorem dX8_whyByFilm_91 : decode cX8_whyByFilm 91 = .ok (.iand, 1) := by decide +kernel
theorem dX8_whyByFilm_92 : decode cX8_whyByFilm 92 = .ok (.iconst 1, 1) := by decide +kernel
theorem dX8_whyByFilm_93 : decode cX8_whyByFilm 93 = .ok (.if_icmp .ne 5, 3) := by decide +kernel
theorem dX8_whyByFilm_96 : decode cX8_whyByFilm 96 = .ok (.iconst 3, 1) := by decide +kernel
theorem dX8_whyByFilm_97 : decode cX8_whyByFilm 97 = .ok (.ireturn, 1) := by decide +kernel
theorem dX8_whyByFilm_98 : decode cX8_whyByFilm 98 = .ok (.iinc 5 1, 3) := by decide +kernel
theorem dX8_whyByFilm_101 : decode cX8_whyByFilm 101 = .ok (.goto (-25), 3) := by decide +kernel
theorem dX8_whyByFilm_104 : decode cX8_whyByFilm 104 = .ok (.iconst 0, 1) := by decide +kernel
theorem dX8_whyByFilm_105 : decode cX8_whyByFilm 105 = .ok (.ireturn, 1) := by decide +kernel
set_option maxHeartbeats 4000000 in
set_option maxRecDepth 20000 in
theorem sgX8_whyByFilm_0 {κ : Kx} {K : Kont} {M : Mem} (C : Cx κ RX8 cX8_whyByFilm 6 (some .int) rmX8_whyByFilm domM) (x1 : Int) (x2 : Int) (x3 : Int)
    (h :
    spX8_wide x1 x2 M (rI (fun r4 M4 =>
    inR (x3 + r4) ∧
    ∀ y4_8 : Int, y4_8 = x3 + r4 →
    ((y4_8 ≤ (M4 30 0 2) →
      inR (11 * x1) ∧
      (0 ≤ (11 * x1) ∧ (11 * x1) < 77) ∧
      inR (11 * x1) ∧
      inR ((11 * x1) + 1) ∧
      (0 ≤ ((11 * x1) + 1) ∧ ((11 * x1) + 1) < 77) ∧
      inR ((M4 37 0 (11 * x1)) - (M4 37 0 ((11 * x1) + 1))) ∧
      ((x3 < ((M4 37 0 (11 * x1)) - (M4 37 0 ((11 * x1) + 1))) →
        K (some 2) M4) ∧
       (¬ (x3 < ((M4 37 0 (11 * x1)) - (M4 37 0 ((11 * x1) + 1)))) →
        inR (11 * x1) ∧
        (0 ≤ (11 * x1) ∧ (11 * x1) < 77) ∧
        inR (11 * x1) ∧
        inR ((11 * x1) + 2) ∧
        (0 ≤ ((11 * x1) + 2) ∧ ((11 * x1) + 2) < 77) ∧
        inR ((M4 37 0 (11 * x1)) + (M4 37 0 ((11 * x1) + 2))) ∧
        ((x3 ≤ ((M4 37 0 (11 * x1)) + (M4 37 0 ((11 * x1) + 2))) →
          V κ 6 M4 76 [some (.inr (30, 0)), none, none, none, some (.inl y4_8), some (.inl x3)] [] K) ∧
         (¬ (x3 ≤ ((M4 37 0 (11 * x1)) + (M4 37 0 ((11 * x1) + 2)))) →
          K (some 2) M4))))) ∧
     (¬ (y4_8 ≤ (M4 30 0 2)) →
      K (some 1) M4))))) : V κ 6 M 0 [some (.inr (30, 0)), some (.inl x1), some (.inl x2), some (.inl x3), none, none] [] K := by
  refine v_iload_n C dX8_whyByFilm_0 rfl ?_
  refine v_aload_n C dX8_whyByFilm_1 rfl ?_
  refine v_iload_n C dX8_whyByFilm_2 rfl ?_
  refine v_iload_n C dX8_whyByFilm_3 rfl ?_
  refine v_invV C ctX8_wide dX8_whyByFilm_4 ivX8_147 ⟨by decide, by decide, rfl, rfl⟩ ((x1, x2) : Int × Int) (As := [.inl x1, .inl x2]) rfl rfl rfl (by decide) rfl (st := [.inl x3]) rfl (Nat.le_of_ble_eq_true rfl) h (fun o M4 oM4 io4 g4 => ?_)
  replace h := rI_out g4
  clear g4
  obtain ⟨r4, rfl, h⟩ := h
  refine v_push ?_
  refine v_iadd C dX8_whyByFilm_7 h.1 ?_
  replace h := h.2
  refine v_nm (fun y4_8 ey4_8 => ?_)
  replace h := h y4_8 ey4_8
  refine v_istore C dX8_whyByFilm_8 (by decide) (Nat.le_of_ble_eq_true rfl) (lv' := [some (.inr (30, 0)), some (.inl x1), some (.inl x2), some (.inl x3), some (.inl y4_8), none]) rfl ?_
  refine v_iload C dX8_whyByFilm_10 rfl ?_
  refine v_aload_n C dX8_whyByFilm_12 rfl ?_
  refine v_get C dX8_whyByFilm_13 flX8_64 rfl (by decide) (by decide) (w := .inl (M4 30 0 2)) rfl ?_
  refine v_icmp C dX8_whyByFilm_16 (tgt := 21) (by decide) (P := y4_8 ≤ (M4 30 0 2)) rfl (fun c16 => ?_) (fun c16 => ?_)
  · replace h := h.1 c16
    refine v_iload_n C dX8_whyByFilm_21 rfl ?_
    refine v_aload_n C dX8_whyByFilm_22 rfl ?_
    refine v_get C dX8_whyByFilm_23 flX8_16 rfl (by decide) (by decide) (w := .inr (37, 0)) rfl ?_
    refine v_bipush C dX8_whyByFilm_26 (by decide) (by decide) ?_
    refine v_iload_n C dX8_whyByFilm_28 rfl ?_
    refine v_imul C dX8_whyByFilm_29 h.1 ?_
    replace h := h.2
    refine v_iald C dX8_whyByFilm_30 rfl h.1.1 h.1.2 ?_
    replace h := h.2
    refine v_aload_n C dX8_whyByFilm_31 rfl ?_
    refine v_get C dX8_whyByFilm_32 flX8_16 rfl (by decide) (by decide) (w := .inr (37, 0)) rfl ?_
    refine v_bipush C dX8_whyByFilm_35 (by decide) (by decide) ?_
    refine v_iload_n C dX8_whyByFilm_37 rfl ?_
    refine v_imul C dX8_whyByFilm_38 h.1 ?_
    replace h := h.2
    refine v_iconst C dX8_whyByFilm_39 (by decide) ?_
    refine v_iadd C dX8_whyByFilm_40 h.1 ?_
    replace h := h.2
    refine v_iald C dX8_whyByFilm_41 rfl h.1.1 h.1.2 ?_
    replace h := h.2
    refine v_isub C dX8_whyByFilm_42 h.1 ?_
    replace h := h.2
    refine v_icmp C dX8_whyByFilm_43 (tgt := 71) (by decide) (P := x3 < ((M4 37 0 (11 * x1)) - (M4 37 0 ((11 * x1) + 1)))) rfl (fun c43 => ?_) (fun c43 => ?_)
    · replace h := h.1 c43
      refine v_iconst C dX8_whyByFilm_71 (by decide) ?_
      exact v_iret C dX8_whyByFilm_72 h
    · replace h := h.2 c43
      refine v_iload_n C dX8_whyByFilm_46 rfl ?_
      refine v_aload_n C dX8_whyByFilm_47 rfl ?_
      refine v_get C dX8_whyByFilm_48 flX8_16 rfl (by decide) (by decide) (w := .inr (37, 0)) rfl ?_
      refine v_bipush C dX8_whyByFilm_51 (by decide) (by decide) ?_
      refine v_iload_n C dX8_whyByFilm_53 rfl ?_
      refine v_imul C dX8_whyByFilm_54 h.1 ?_
      replace h := h.2
      refine v_iald C dX8_whyByFilm_55 rfl h.1.1 h.1.2 ?_
      replace h := h.2
      refine v_aload_n C dX8_whyByFilm_56 rfl ?_
      refine v_get C dX8_whyByFilm_57 flX8_16 rfl (by decide) (by decide) (w := .inr (37, 0)) rfl ?_
      refine v_bipush C dX8_whyByFilm_60 (by decide) (by decide) ?_
      refine v_iload_n C dX8_whyByFilm_62 rfl ?_
      refine v_imul C dX8_whyByFilm_63 h.1 ?_
      replace h := h.2
      refine v_iconst C dX8_whyByFilm_64 (by decide) ?_
      refine v_iadd C dX8_whyByFilm_65 h.1 ?_
      replace h := h.2
      refine v_iald C dX8_whyByFilm_66 rfl h.1.1 h.1.2 ?_
      replace h := h.2
      refine v_iadd C dX8_whyByFilm_67 h.1 ?_
      replace h := h.2
      refine v_icmp C dX8_whyByFilm_68 (tgt := 73) (by decide) (P := x3 ≤ ((M4 37 0 (11 * x1)) + (M4 37 0 ((11 * x1) + 2)))) rfl (fun c68 => ?_) (fun c68 => ?_)
      · replace h := h.1 c68
        refine v_iload_n C dX8_whyByFilm_73 rfl ?_
        refine v_istore C dX8_whyByFilm_74 (by decide) (Nat.le_of_ble_eq_true rfl) (lv' := [some (.inr (30, 0)), some (.inl x1), some (.inl x2), some (.inl x3), some (.inl y4_8), some (.inl x3)]) rfl ?_
        refine v_weak [some (.inr (30, 0)), none, none, none, some (.inl y4_8), some (.inl x3)] ⟨rfl, rfl, rfl, trivial⟩ ?_
        exact h
      · replace h := h.2 c68
        refine v_iconst C dX8_whyByFilm_71 (by decide) ?_
        exact v_iret C dX8_whyByFilm_72 h
  · replace h := h.2 c16
    refine v_iconst C dX8_whyByFilm_19 (by decide) ?_
    exact v_iret C dX8_whyByFilm_20 h
set_option maxHeartbeats 4000000 in
set_option maxRecDepth 20000 in
theorem sgX8_whyByFilm_76 {κ : Kx} {K : Kont} {M : Mem} (C : Cx κ RX8 cX8_whyByFilm 6 (some .int) rmX8_whyByFilm domM) (x4 : Int) (x5 : Int)
    (h :
    ((x4 ≤ x5 →
      K (some 0) M) ∧
     (¬ (x4 ≤ x5) →
      (0 ≤ x5 ∧ x5 < 100) ∧
      (((bAnd (M 52 0 x5) 1) ≠ 1 →
        inR (x5 + 1) ∧
        V κ 6 M 76 [some (.inr (30, 0)), none, none, none, some (.inl x4), some (.inl (x5 + 1))] [] K) ∧
       (¬ ((bAnd (M 52 0 x5) 1) ≠ 1) →
        K (some 3) M))))) : V κ 6 M 76 [some (.inr (30, 0)), none, none, none, some (.inl x4), some (.inl x5)] [] K := by
  refine v_iload C dX8_whyByFilm_76 rfl ?_
  refine v_iload C dX8_whyByFilm_78 rfl ?_
  refine v_icmp C dX8_whyByFilm_80 (tgt := 104) (by decide) (P := x4 ≤ x5) rfl (fun c80 => ?_) (fun c80 => ?_)
  · replace h := h.1 c80
    refine v_iconst C dX8_whyByFilm_104 (by decide) ?_
    exact v_iret C dX8_whyByFilm_105 h
  · replace h := h.2 c80
    refine v_aload_n C dX8_whyByFilm_83 rfl ?_
    refine v_get C dX8_whyByFilm_84 flX8_49 rfl (by decide) (by decide) (w := .inr (52, 0)) rfl ?_
    refine v_iload C dX8_whyByFilm_87 rfl ?_
    refine v_iald C dX8_whyByFilm_89 rfl h.1.1 h.1.2 ?_
    replace h := h.2
    refine v_iconst C dX8_whyByFilm_90 (by decide) ?_
    refine v_iand C dX8_whyByFilm_91 ?_
    refine v_iconst C dX8_whyByFilm_92 (by decide) ?_
    refine v_icmp C dX8_whyByFilm_93 (tgt := 98) (by decide) (P := (bAnd (M 52 0 x5) 1) ≠ 1) rfl (fun c93 => ?_) (fun c93 => ?_)
    · replace h := h.1 c93
      refine v_iinc C dX8_whyByFilm_98 (by decide) rfl h.1 (lv' := [some (.inr (30, 0)), none, none, none, some (.inl x4), some (.inl (x5 + 1))]) rfl ?_
      replace h := h.2
      refine v_goto C dX8_whyByFilm_101 (tgt := 76) (by decide) ?_
      refine v_weak [some (.inr (30, 0)), none, none, none, some (.inl x4), some (.inl (x5 + 1))] ⟨rfl, rfl, rfl, trivial⟩ ?_
      exact h
    · replace h := h.2 c93
      refine v_iconst C dX8_whyByFilm_96 (by decide) ?_
      exact v_iret C dX8_whyByFilm_97 h
abbrev spX8_whyByFilm (p v t : Int) (M : Mem) (K : Kont) : Prop := (WFf (mFilm M) ∧ HrK M (mFilm M) ∧ tellK (mFilm M) p v t) ∧ K (some (ownW (mFilm M) (spb (mFilm M)) p v t)) M
theorem ctX8_whyByFilm : CtX8_whyByFilm spX8_whyByFilm := by
  refine ct_of (by decide) dmM (fun _ => Nat.le_of_ble_eq_true rfl) ?_
  intro κ a M K C oM h
  obtain ⟨p, v, t⟩ := a
  obtain ⟨⟨hf, hH, ht⟩, hk⟩ := h
  have ht : tellK (mFilm M) p v t := ht
  have hk : K (some (ownW (mFilm M) (spb (mFilm M)) p v t)) M := hk
  obtain ⟨⟨hp, hv⟩, ht⟩ := ht
  have w := wf_pv hf hp.1 hp.2 hv.1 hv.2
  have e0 : mFilm M 0 0 0 = M 30 0 2 := rfl
  have e8 : mFilm M 8 p 0 = M 37 0 (11 * p) := rfl
  have e9 : mFilm M 9 p 0 = M 37 0 (11 * p + 1) := rfl
  have e10 : mFilm M 10 p 0 = M 37 0 (11 * p + 2) := rfl
  unfold ownW at hk
  refine sgX8_whyByFilm_0 C p v t ⟨by omega, ?_⟩
  show inR (t + mFilm M 13 p v) ∧ _
  generalize mFilm M 13 p v = l at *
  refine ⟨by omega, fun y ey => ⟨fun c => ⟨by omega, by omega, by omega, by omega, by omega, by omega, fun c2 => ?_, fun c2 => ⟨by omega, by omega, by omega, by omega, by omega, by omega, fun c3 => ?_, fun c3 => ?_⟩⟩, fun c => ?_⟩⟩
  · rw [if_neg (by omega), if_pos (by omega)] at hk; exact hk
  · rw [if_neg (by omega), if_neg (by omega)] at hk
    rw [ey]
    have loop : ∀ (n : Nat) (k : Int), t ≤ k → k + n = t + l → spb (mFilm M) k = spb (mFilm M) t →
        V κ 6 M 76 [some (.inr (30, 0)), none, none, none, some (.inl (t + l)), some (.inl k)] [] K := by
      intro n
      induction n with
      | zero =>
        intro k k0 hn hs
        refine sgX8_whyByFilm_76 C (t + l) k ⟨fun _ => ?_, fun c => absurd (by omega) c⟩
        have e : k = t + l := by omega
        rw [e] at hs
        rw [if_neg (by omega)] at hk
        exact hk
      | succ n ih =>
        intro k k0 hn hs
        have s1 := spb_s (mFilm M) (t := k) (by omega)
        have s2 := spc_1 hf k
        have hm := hH k (by omega) (by omega)
        have r := mkF_rng hf k
        have a := and_m r.1 r.2
        refine sgX8_whyByFilm_76 C (t + l) k ⟨fun c => absurd c (by omega), fun _ => ⟨by omega, fun c2 => ⟨by omega, ?_⟩, fun c2 => ?_⟩⟩
        · rw [hm] at c2
          exact ih (k + 1) (by omega) (by omega) (by omega)
        · rw [hm] at c2
          have mo := spb_mono (mFilm M) (a := k + 1) (by omega) n
          have e : k + 1 + (n : Int) = t + l := by omega
          rw [e] at mo
          rw [if_pos (by omega)] at hk
          exact hk
    exact loop l.toNat t (by omega) (by omega) rfl
  · rw [if_neg (by omega), if_pos (by omega)] at hk; exact hk
  · rw [if_pos (by omega)] at hk; exact hk
/-! ===== GapTellingsModel.gainOf ===== -/
abbrev rmX8_gainOf : Room := { frames := 1, cells := 0, slots := 0, locals := 22 }
abbrev argX8_gainOf (a : Int × Int × Int) : List PV := [.inr (30, 0), .inl a.1, .inl a.2.1, .inl a.2.2]
abbrev CtX8_gainOf (sp : Int → Int → Int → Mem → Kont → Prop) : Prop := Ct yX8_gainOf cX8_gainOf 7 (some .int) rmX8_gainOf domM argX8_gainOf (fun a => sp a.1 a.2.1 a.2.2)
theorem dX8_gainOf_0 : decode cX8_gainOf 0 = .ok (.iload_n 3, 1) := by decide +kernel
theorem dX8_gainOf_1 : decode cX8_gainOf 1 = .ok (.aload_n 0, 1) := by decide +kernel
theorem dX8_gainOf_2 : decode cX8_gainOf 2 = .ok (.getfield 16, 3) := by decide +kernel
theorem dX8_gainOf_5 : decode cX8_gainOf 5 = .ok (.bipush 11, 2) := by decide +kernel
theorem dX8_gainOf_7 : decode cX8_gainOf 7 = .ok (.iload_n 1, 1) := by decide +kernel
theorem dX8_gainOf_8 : decode cX8_gainOf 8 = .ok (.imul, 1) := by decide +kernel
theorem dX8_gainOf_9 : decode cX8_gainOf 9 = .ok (.iaload, 1) := by decide +kernel
theorem dX8_gainOf_10 : decode cX8_gainOf 10 = .ok (.isub, 1) := by decide +kernel
theorem dX8_gainOf_11 : decode cX8_gainOf 11 = .ok (.istore 4, 2) := by decide +kernel
theorem dX8_gainOf_13 : decode cX8_gainOf 13 = .ok (.aload_n 0, 1) := by decide +kernel
theorem dX8_gainOf_14 : decode cX8_gainOf 14 = .ok (.getfield 16, 3) := by decide +kernel
theorem dX8_gainOf_17 : decode cX8_gainOf 17 = .ok (.bipush 11, 2) := by decide +kernel
theorem dX8_gainOf_19 : decode cX8_gainOf 19 = .ok (.iload_n 1, 1) := by decide +kernel
theorem dX8_gainOf_20 : decode cX8_gainOf 20 = .ok (.imul, 1) := by decide +kernel
theorem dX8_gainOf_21 : decode cX8_gainOf 21 = .ok (.bipush 6, 2) := by decide +kernel
theorem dX8_gainOf_23 : decode cX8_gainOf 23 = .ok (.iadd, 1) := by decide +kernel
theorem dX8_gainOf_24 : decode cX8_gainOf 24 = .ok (.iconst 2, 1) := by decide +kernel
theorem dX8_gainOf_25 : decode cX8_gainOf 25 = .ok (.iload_n 2, 1) := by decide +kernel
theorem dX8_gainOf_26 : decode cX8_gainOf 26 = .ok (.imul, 1) := by decide +kernel
theorem dX8_gainOf_27 : decode cX8_gainOf 27 = .ok (.iadd, 1) := by decide +kernel
theorem dX8_gainOf_28 : decode cX8_gainOf 28 = .ok (.iaload, 1) := by decide +kernel
theorem dX8_gainOf_29 : decode cX8_gainOf 29 = .ok (.iload 4, 2) := by decide +kernel
theorem dX8_gainOf_31 : decode cX8_gainOf 31 = .ok (.ifCond .ge 16, 3) := by decide +kernel
theorem dX8_gainOf_34 : decode cX8_gainOf 34 = .ok (.iload 4, 2) := by decide +kernel
theorem dX8_gainOf_36 : decode cX8_gainOf 36 = .ok (.ineg, 1) := by decide +kernel
theorem dX8_gainOf_37 : decode cX8_gainOf 37 = .ok (.aload_n 0, 1) := by decide +kernel
theorem dX8_gainOf_38 : decode cX8_gainOf 38 = .ok (.getfield 19, 3) := by decide +kernel
theorem dX8_gainOf_41 : decode cX8_gainOf 41 = .ok (.iconst 0, 1) := by decide +kernel
theorem dX8_gainOf_42 : decode cX8_gainOf 42 = .ok (.iaload, 1) := by decide +kernel
theorem dX8_gainOf_43 : decode cX8_gainOf 43 = .ok (.imul, 1) := by decide +kernel
theorem dX8_gainOf_44 : decode cX8_gainOf 44 = .ok (.goto 12, 3) := by decide +kernel
theorem dX8_gainOf_47 : decode cX8_gainOf 47 = .ok (.iload 4, 2) := by decide +kernel
theorem dX8_gainOf_49 : decode cX8_gainOf 49 = .ok (.aload_n 0, 1) := by decide +kernel
theorem dX8_gainOf_50 : decode cX8_gainOf 50 = .ok (.getfield 19, 3) := by decide +kernel
theorem dX8_gainOf_53 : decode cX8_gainOf 53 = .ok (.iconst 1, 1) := by decide +kernel
theorem dX8_gainOf_54 : decode cX8_gainOf 54 = .ok (.iaload, 1) := by decide +kernel
theorem dX8_gainOf_55 : decode cX8_gainOf 55 = .ok (.imul, 1) := by decide +kernel
theorem dX8_gainOf_56 : decode cX8_gainOf 56 = .ok (.isub, 1) := by decide +kernel
theorem dX8_gainOf_57 : decode cX8_gainOf 57 = .ok (.istore 5, 2) := by decide +kernel
theorem dX8_gainOf_59 : decode cX8_gainOf 59 = .ok (.iload_n 3, 1) := by decide +kernel
theorem dX8_gainOf_60 : decode cX8_gainOf 60 = .ok (.istore 6, 2) := by decide +kernel
theorem dX8_gainOf_62 : decode cX8_gainOf 62 = .ok (.iload 6, 2) := by decide +kernel
theorem dX8_gainOf_64 : decode cX8_gainOf 64 = .ok (.iload_n 3, 1) := by decide +kernel
theorem dX8_gainOf_65 : decode cX8_gainOf 65 = .ok (.aload_n 0, 1) := by decide +kernel
theorem dX8_gainOf_66 : decode cX8_gainOf 66 = .ok (.iload_n 1, 1) := by decide +kernel
theorem dX8_gainOf_67 : decode cX8_gainOf 67 = .ok (.iload_n 2, 1) := by decide +kernel
theorem dX8_gainOf_68 : decode cX8_gainOf 68 = .ok (.invokevirtual 147, 3) := by decide +kernel
theorem dX8_gainOf_71 : decode cX8_gainOf 71 = .ok (.iadd, 1) := by decide +kernel
theorem dX8_gainOf_72 : decode cX8_gainOf 72 = .ok (.if_icmp .ge 57, 3) := by decide +kernel
theorem dX8_gainOf_75 : decode cX8_gainOf 75 = .ok (.iload 5, 2) := by decide +kernel
theorem dX8_gainOf_77 : decode cX8_gainOf 77 = .ok (.aload_n 0, 1) := by decide +kernel
theorem dX8_gainOf_78 : decode cX8_gainOf 78 = .ok (.getfield 49, 3) := by decide +kernel
theorem dX8_gainOf_81 : decode cX8_gainOf 81 = .ok (.iload 6, 2) := by decide +kernel
theorem dX8_gainOf_83 : decode cX8_gainOf 83 = .ok (.iaload, 1) := by decide +kernel
theorem dX8_gainOf_84 : decode cX8_gainOf 84 = .ok (.iconst 2, 1) := by decide +kernel
theorem dX8_gainOf_85 : decode cX8_gainOf 85 = .ok (.iand, 1) := by decide +kernel
theorem dX8_gainOf_86 : decode cX8_gainOf 86 = .ok (.ifCond .le 12, 3) := by decide +kernel
theorem dX8_gainOf_89 : decode cX8_gainOf 89 = .ok (.aload_n 0, 1) := by decide +kernel
theorem dX8_gainOf_90 : decode cX8_gainOf 90 = .ok (.getfield 19, 3) := by decide +kernel
theorem dX8_gainOf_93 : decode cX8_gainOf 93 = .ok (.iconst 2, 1) := by decide +kernel
theorem dX8_gainOf_94 : decode cX8_gainOf 94 = .ok (.iaload, 1) := by decide +kernel
theorem dX8_gainOf_95 : decode cX8_gainOf 95 = .ok (.goto 25, 3) := by decide +kernel
theorem dX8_gainOf_98 : decode cX8_gainOf 98 = .ok (.aload_n 0, 1) := by decide +kernel
theorem dX8_gainOf_99 : decode cX8_gainOf 99 = .ok (.getfield 49, 3) := by decide +kernel
theorem dX8_gainOf_102 : decode cX8_gainOf 102 = .ok (.iload 6, 2) := by decide +kernel
theorem dX8_gainOf_104 : decode cX8_gainOf 104 = .ok (.iaload, 1) := by decide +kernel
theorem dX8_gainOf_105 : decode cX8_gainOf 105 = .ok (.iconst 4, 1) := by decide +kernel
theorem dX8_gainOf_106 : decode cX8_gainOf 106 = .ok (.iand, 1) := by decide +kernel
theorem dX8_gainOf_107 : decode cX8_gainOf 107 = .ok (.ifCond .le 12, 3) := by decide +kernel
theorem dX8_gainOf_110 : decode cX8_gainOf 110 = .ok (.aload_n 0, 1) := by decide +kernel
theorem dX8_gainOf_111 : decode cX8_gainOf 111 = .ok (.getfield 19, 3) := by decide +kernel
theorem dX8_gainOf_114 : decode cX8_gainOf 114 = .ok (.iconst 3, 1) := by decide +kernel
theorem dX8_gainOf_115 : decode cX8_gainOf 115 = .ok (.iaload, 1) := by decide +kernel
theorem dX8_gainOf_116 : decode cX8_gainOf 116 = .ok (.goto 4, 3) := by decide +kernel
theorem dX8_gainOf_119 : decode cX8_gainOf 119 = .ok (.iconst 0, 1) := by decide +kernel
theorem dX8_gainOf_120 : decode cX8_gainOf 120 = .ok (.isub, 1) := by decide +kernel
theorem dX8_gainOf_121 : decode cX8_gainOf 121 = .ok (.istore 5, 2) := by decide +kernel
theorem dX8_gainOf_123 : decode cX8_gainOf 123 = .ok (.iinc 6 1, 3) := by decide +kernel
theorem dX8_gainOf_126 : decode cX8_gainOf 126 = .ok (.goto (-64), 3) := by decide +kernel
theorem dX8_gainOf_129 : decode cX8_gainOf 129 = .ok (.iload 5, 2) := by decide +kernel
theorem dX8_gainOf_131 : decode cX8_gainOf 131 = .ok (.ireturn, 1) := by decide +kernel
theorem flX8_19 : FL RX8 19 8 8 := ⟨_, _, _, rfl, by decide, uwX8, Or.inl (tb_mem (t_in4 (List.mem_of_getElem? (i := 116) (by decide +kernel))) (by decide +kernel))⟩
set_option maxHeartbeats 4000000 in
set_option maxRecDepth 20000 in
theorem sgX8_gainOf_0 {κ : Kx} {K : Kont} {M : Mem} (C : Cx κ RX8 cX8_gainOf 7 (some .int) rmX8_gainOf domM) (x1 : Int) (x2 : Int) (x3 : Int)
    (h :
    inR (11 * x1) ∧
    (0 ≤ (11 * x1) ∧ (11 * x1) < 77) ∧
    inR (x3 - (M 37 0 (11 * x1))) ∧
    ∀ y4_11 : Int, y4_11 = x3 - (M 37 0 (11 * x1)) →
    inR (11 * x1) ∧
    inR ((11 * x1) + 6) ∧
    inR (2 * x2) ∧
    inR (((11 * x1) + 6) + (2 * x2)) ∧
    (0 ≤ (((11 * x1) + 6) + (2 * x2)) ∧ (((11 * x1) + 6) + (2 * x2)) < 77) ∧
    ((0 ≤ y4_11 →
      inR (y4_11 * (M 38 0 1)) ∧
      inR ((M 37 0 (((11 * x1) + 6) + (2 * x2))) - (y4_11 * (M 38 0 1))) ∧
      ∀ y5_57 : Int, y5_57 = (M 37 0 (((11 * x1) + 6) + (2 * x2))) - (y4_11 * (M 38 0 1)) →
      V κ 7 M 62 [some (.inr (30, 0)), some (.inl x1), some (.inl x2), some (.inl x3), none, some (.inl y5_57), some (.inl x3)] [] K) ∧
     (¬ (0 ≤ y4_11) →
      inR (-y4_11) ∧
      inR ((-y4_11) * (M 38 0 0)) ∧
      inR ((M 37 0 (((11 * x1) + 6) + (2 * x2))) - ((-y4_11) * (M 38 0 0))) ∧
      ∀ y5_57 : Int, y5_57 = (M 37 0 (((11 * x1) + 6) + (2 * x2))) - ((-y4_11) * (M 38 0 0)) →
      V κ 7 M 62 [some (.inr (30, 0)), some (.inl x1), some (.inl x2), some (.inl x3), none, some (.inl y5_57), some (.inl x3)] [] K))) : V κ 7 M 0 [some (.inr (30, 0)), some (.inl x1), some (.inl x2), some (.inl x3), none, none, none] [] K := by
  refine v_iload_n C dX8_gainOf_0 rfl ?_
  refine v_aload_n C dX8_gainOf_1 rfl ?_
  refine v_get C dX8_gainOf_2 flX8_16 rfl (by decide) (by decide) (w := .inr (37, 0)) rfl ?_
  refine v_bipush C dX8_gainOf_5 (by decide) (by decide) ?_
  refine v_iload_n C dX8_gainOf_7 rfl ?_
  refine v_imul C dX8_gainOf_8 h.1 ?_
  replace h := h.2
  refine v_iald C dX8_gainOf_9 rfl h.1.1 h.1.2 ?_
  replace h := h.2
  refine v_isub C dX8_gainOf_10 h.1 ?_
  replace h := h.2
  refine v_nm (fun y4_11 ey4_11 => ?_)
  replace h := h y4_11 ey4_11
  refine v_istore C dX8_gainOf_11 (by decide) (Nat.le_of_ble_eq_true rfl) (lv' := [some (.inr (30, 0)), some (.inl x1), some (.inl x2), some (.inl x3), some (.inl y4_11), none, none]) rfl ?_
  refine v_aload_n C dX8_gainOf_13 rfl ?_
  refine v_get C dX8_gainOf_14 flX8_16 rfl (by decide) (by decide) (w := .inr (37, 0)) rfl ?_
  refine v_bipush C dX8_gainOf_17 (by decide) (by decide) ?_
  refine v_iload_n C dX8_gainOf_19 rfl ?_
  refine v_imul C dX8_gainOf_20 h.1 ?_
  replace h := h.2
  refine v_bipush C dX8_gainOf_21 (by decide) (by decide) ?_
  refine v_iadd C dX8_gainOf_23 h.1 ?_
  replace h := h.2
  refine v_iconst C dX8_gainOf_24 (by decide) ?_
  refine v_iload_n C dX8_gainOf_25 rfl ?_
  refine v_imul C dX8_gainOf_26 h.1 ?_
  replace h := h.2
  refine v_iadd C dX8_gainOf_27 h.1 ?_
  replace h := h.2
  refine v_iald C dX8_gainOf_28 rfl h.1.1 h.1.2 ?_
  replace h := h.2
  refine v_iload C dX8_gainOf_29 rfl ?_
  refine v_if C dX8_gainOf_31 (tgt := 47) (by decide) (P := 0 ≤ y4_11) rfl (fun c31 => ?_) (fun c31 => ?_)
  · replace h := h.1 c31
    refine v_iload C dX8_gainOf_47 rfl ?_
    refine v_aload_n C dX8_gainOf_49 rfl ?_
    refine v_get C dX8_gainOf_50 flX8_19 rfl (by decide) (by decide) (w := .inr (38, 0)) rfl ?_
    refine v_iconst C dX8_gainOf_53 (by decide) ?_
    refine v_iald C dX8_gainOf_54 rfl (by decide) (by decide) ?_
    refine v_imul C dX8_gainOf_55 h.1 ?_
    replace h := h.2
    refine v_isub C dX8_gainOf_56 h.1 ?_
    replace h := h.2
    refine v_nm (fun y5_57 ey5_57 => ?_)
    replace h := h y5_57 ey5_57
    refine v_istore C dX8_gainOf_57 (by decide) (Nat.le_of_ble_eq_true rfl) (lv' := [some (.inr (30, 0)), some (.inl x1), some (.inl x2), some (.inl x3), some (.inl y4_11), some (.inl y5_57), none]) rfl ?_
    refine v_iload_n C dX8_gainOf_59 rfl ?_
    refine v_istore C dX8_gainOf_60 (by decide) (Nat.le_of_ble_eq_true rfl) (lv' := [some (.inr (30, 0)), some (.inl x1), some (.inl x2), some (.inl x3), some (.inl y4_11), some (.inl y5_57), some (.inl x3)]) rfl ?_
    refine v_weak [some (.inr (30, 0)), some (.inl x1), some (.inl x2), some (.inl x3), none, some (.inl y5_57), some (.inl x3)] ⟨rfl, rfl, rfl, rfl, rfl, rfl, trivial⟩ ?_
    exact h
  · replace h := h.2 c31
    refine v_iload C dX8_gainOf_34 rfl ?_
    refine v_ineg C dX8_gainOf_36 h.1 ?_
    replace h := h.2
    refine v_aload_n C dX8_gainOf_37 rfl ?_
    refine v_get C dX8_gainOf_38 flX8_19 rfl (by decide) (by decide) (w := .inr (38, 0)) rfl ?_
    refine v_iconst C dX8_gainOf_41 (by decide) ?_
    refine v_iald C dX8_gainOf_42 rfl (by decide) (by decide) ?_
    refine v_imul C dX8_gainOf_43 h.1 ?_
    replace h := h.2
    refine v_goto C dX8_gainOf_44 (tgt := 56) (by decide) ?_
    refine v_isub C dX8_gainOf_56 h.1 ?_
    replace h := h.2
    refine v_nm (fun y5_57 ey5_57 => ?_)
    replace h := h y5_57 ey5_57
    refine v_istore C dX8_gainOf_57 (by decide) (Nat.le_of_ble_eq_true rfl) (lv' := [some (.inr (30, 0)), some (.inl x1), some (.inl x2), some (.inl x3), some (.inl y4_11), some (.inl y5_57), none]) rfl ?_
    refine v_iload_n C dX8_gainOf_59 rfl ?_
    refine v_istore C dX8_gainOf_60 (by decide) (Nat.le_of_ble_eq_true rfl) (lv' := [some (.inr (30, 0)), some (.inl x1), some (.inl x2), some (.inl x3), some (.inl y4_11), some (.inl y5_57), some (.inl x3)]) rfl ?_
    refine v_weak [some (.inr (30, 0)), some (.inl x1), some (.inl x2), some (.inl x3), none, some (.inl y5_57), some (.inl x3)] ⟨rfl, rfl, rfl, rfl, rfl, rfl, trivial⟩ ?_
    exact h
set_option maxHeartbeats 4000000 in
set_option maxRecDepth 20000 in
theorem sgX8_gainOf_62 {κ : Kx} {K : Kont} {M : Mem} (C : Cx κ RX8 cX8_gainOf 7 (some .int) rmX8_gainOf domM) (x1 : Int) (x2 : Int) (x3 : Int) (x5 : Int) (x6 : Int)
    (h :
    spX8_wide x1 x2 M (rI (fun r68 M68 =>
    inR (x3 + r68) ∧
    (((x3 + r68) ≤ x6 →
      K (some x5) M68) ∧
     (¬ ((x3 + r68) ≤ x6) →
      (0 ≤ x6 ∧ x6 < 100) ∧
      (((bAnd (M68 52 0 x6) 2) ≤ 0 →
        (0 ≤ x6 ∧ x6 < 100) ∧
        (((bAnd (M68 52 0 x6) 4) ≤ 0 →
          inR (x5 - 0) ∧
          ∀ y5_121 : Int, y5_121 = x5 - 0 →
          inR (x6 + 1) ∧
          V κ 7 M68 62 [some (.inr (30, 0)), some (.inl x1), some (.inl x2), some (.inl x3), none, some (.inl y5_121), some (.inl (x6 + 1))] [] K) ∧
         (¬ ((bAnd (M68 52 0 x6) 4) ≤ 0) →
          inR (x5 - (M68 38 0 3)) ∧
          ∀ y5_121 : Int, y5_121 = x5 - (M68 38 0 3) →
          inR (x6 + 1) ∧
          V κ 7 M68 62 [some (.inr (30, 0)), some (.inl x1), some (.inl x2), some (.inl x3), none, some (.inl y5_121), some (.inl (x6 + 1))] [] K))) ∧
       (¬ ((bAnd (M68 52 0 x6) 2) ≤ 0) →
        inR (x5 - (M68 38 0 2)) ∧
        ∀ y5_121 : Int, y5_121 = x5 - (M68 38 0 2) →
        inR (x6 + 1) ∧
        V κ 7 M68 62 [some (.inr (30, 0)), some (.inl x1), some (.inl x2), some (.inl x3), none, some (.inl y5_121), some (.inl (x6 + 1))] [] K))))))) : V κ 7 M 62 [some (.inr (30, 0)), some (.inl x1), some (.inl x2), some (.inl x3), none, some (.inl x5), some (.inl x6)] [] K := by
  refine v_iload C dX8_gainOf_62 rfl ?_
  refine v_iload_n C dX8_gainOf_64 rfl ?_
  refine v_aload_n C dX8_gainOf_65 rfl ?_
  refine v_iload_n C dX8_gainOf_66 rfl ?_
  refine v_iload_n C dX8_gainOf_67 rfl ?_
  refine v_invV C ctX8_wide dX8_gainOf_68 ivX8_147 ⟨by decide, by decide, rfl, rfl⟩ ((x1, x2) : Int × Int) (As := [.inl x1, .inl x2]) rfl rfl rfl (by decide) rfl (st := [.inl x3, .inl x6]) rfl (Nat.le_of_ble_eq_true rfl) h (fun o M68 oM68 io68 g68 => ?_)
  replace h := rI_out g68
  clear g68
  obtain ⟨r68, rfl, h⟩ := h
  refine v_push ?_
  refine v_iadd C dX8_gainOf_71 h.1 ?_
  replace h := h.2
  refine v_icmp C dX8_gainOf_72 (tgt := 129) (by decide) (P := (x3 + r68) ≤ x6) rfl (fun c72 => ?_) (fun c72 => ?_)
  · replace h := h.1 c72
    refine v_iload C dX8_gainOf_129 rfl ?_
    exact v_iret C dX8_gainOf_131 h
  · replace h := h.2 c72
    refine v_iload C dX8_gainOf_75 rfl ?_
    refine v_aload_n C dX8_gainOf_77 rfl ?_
    refine v_get C dX8_gainOf_78 flX8_49 rfl (by decide) (by decide) (w := .inr (52, 0)) rfl ?_
    refine v_iload C dX8_gainOf_81 rfl ?_
    refine v_iald C dX8_gainOf_83 rfl h.1.1 h.1.2 ?_
    replace h := h.2
    refine v_iconst C dX8_gainOf_84 (by decide) ?_
    refine v_iand C dX8_gainOf_85 ?_
    refine v_if C dX8_gainOf_86 (tgt := 98) (by decide) (P := (bAnd (M68 52 0 x6) 2) ≤ 0) rfl (fun c86 => ?_) (fun c86 => ?_)
    · replace h := h.1 c86
      refine v_aload_n C dX8_gainOf_98 rfl ?_
      refine v_get C dX8_gainOf_99 flX8_49 rfl (by decide) (by decide) (w := .inr (52, 0)) rfl ?_
      refine v_iload C dX8_gainOf_102 rfl ?_
      refine v_iald C dX8_gainOf_104 rfl h.1.1 h.1.2 ?_
      replace h := h.2
      refine v_iconst C dX8_gainOf_105 (by decide) ?_
      refine v_iand C dX8_gainOf_106 ?_
      refine v_if C dX8_gainOf_107 (tgt := 119) (by decide) (P := (bAnd (M68 52 0 x6) 4) ≤ 0) rfl (fun c107 => ?_) (fun c107 => ?_)
      · replace h := h.1 c107
        refine v_iconst C dX8_gainOf_119 (by decide) ?_
        refine v_isub C dX8_gainOf_120 h.1 ?_
        replace h := h.2
        refine v_nm (fun y5_121 ey5_121 => ?_)
        replace h := h y5_121 ey5_121
        refine v_istore C dX8_gainOf_121 (by decide) (Nat.le_of_ble_eq_true rfl) (lv' := [some (.inr (30, 0)), some (.inl x1), some (.inl x2), some (.inl x3), none, some (.inl y5_121), some (.inl x6)]) rfl ?_
        refine v_iinc C dX8_gainOf_123 (by decide) rfl h.1 (lv' := [some (.inr (30, 0)), some (.inl x1), some (.inl x2), some (.inl x3), none, some (.inl y5_121), some (.inl (x6 + 1))]) rfl ?_
        replace h := h.2
        refine v_goto C dX8_gainOf_126 (tgt := 62) (by decide) ?_
        refine v_weak [some (.inr (30, 0)), some (.inl x1), some (.inl x2), some (.inl x3), none, some (.inl y5_121), some (.inl (x6 + 1))] ⟨rfl, rfl, rfl, rfl, rfl, rfl, trivial⟩ ?_
        exact h
      · replace h := h.2 c107
        refine v_aload_n C dX8_gainOf_110 rfl ?_
        refine v_get C dX8_gainOf_111 flX8_19 rfl (by decide) (by decide) (w := .inr (38, 0)) rfl ?_
        refine v_iconst C dX8_gainOf_114 (by decide) ?_
        refine v_iald C dX8_gainOf_115 rfl (by decide) (by decide) ?_
        refine v_goto C dX8_gainOf_116 (tgt := 120) (by decide) ?_
        refine v_isub C dX8_gainOf_120 h.1 ?_
        replace h := h.2
        refine v_nm (fun y5_121 ey5_121 => ?_)
        replace h := h y5_121 ey5_121
        refine v_istore C dX8_gainOf_121 (by decide) (Nat.le_of_ble_eq_true rfl) (lv' := [some (.inr (30, 0)), some (.inl x1), some (.inl x2), some (.inl x3), none, some (.inl y5_121), some (.inl x6)]) rfl ?_
        refine v_iinc C dX8_gainOf_123 (by decide) rfl h.1 (lv' := [some (.inr (30, 0)), some (.inl x1), some (.inl x2), some (.inl x3), none, some (.inl y5_121), some (.inl (x6 + 1))]) rfl ?_
        replace h := h.2
        refine v_goto C dX8_gainOf_126 (tgt := 62) (by decide) ?_
        refine v_weak [some (.inr (30, 0)), some (.inl x1), some (.inl x2), some (.inl x3), none, some (.inl y5_121), some (.inl (x6 + 1))] ⟨rfl, rfl, rfl, rfl, rfl, rfl, trivial⟩ ?_
        exact h
    · replace h := h.2 c86
      refine v_aload_n C dX8_gainOf_89 rfl ?_
      refine v_get C dX8_gainOf_90 flX8_19 rfl (by decide) (by decide) (w := .inr (38, 0)) rfl ?_
      refine v_iconst C dX8_gainOf_93 (by decide) ?_
      refine v_iald C dX8_gainOf_94 rfl (by decide) (by decide) ?_
      refine v_goto C dX8_gainOf_95 (tgt := 120) (by decide) ?_
      refine v_isub C dX8_gainOf_120 h.1 ?_
      replace h := h.2
      refine v_nm (fun y5_121 ey5_121 => ?_)
      replace h := h y5_121 ey5_121
      refine v_istore C dX8_gainOf_121 (by decide) (Nat.le_of_ble_eq_true rfl) (lv' := [some (.inr (30, 0)), some (.inl x1), some (.inl x2), some (.inl x3), none, some (.inl y5_121), some (.inl x6)]) rfl ?_
      refine v_iinc C dX8_gainOf_123 (by decide) rfl h.1 (lv' := [some (.inr (30, 0)), some (.inl x1), some (.inl x2), some (.inl x3), none, some (.inl y5_121), some (.inl (x6 + 1))]) rfl ?_
      replace h := h.2
      refine v_goto C dX8_gainOf_126 (tgt := 62) (by decide) ?_
      refine v_weak [some (.inr (30, 0)), some (.inl x1), some (.inl x2), some (.inl x3), none, some (.inl y5_121), some (.inl (x6 + 1))] ⟨rfl, rfl, rfl, rfl, rfl, rfl, trivial⟩ ?_
      exact h
abbrev spX8_gainOf (p v t : Int) (M : Mem) (K : Kont) : Prop := (WFf (mFilm M) ∧ HrK M (mFilm M) ∧ tellK (mFilm M) p v t ∧ t + mFilm M 13 p v ≤ mFilm M 0 0 0) ∧ K (some (gainW (mFilm M) (csb (mFilm M)) p v t)) M
theorem ctX8_gainOf : CtX8_gainOf spX8_gainOf := by
  refine ct_of (by decide) dmM (fun _ => Nat.le_of_ble_eq_true rfl) ?_
  intro κ a M K C oM h
  obtain ⟨p, v, t⟩ := a
  obtain ⟨⟨hf, hH, ht, he⟩, hk⟩ := h
  have ht : tellK (mFilm M) p v t := ht
  have he : t + mFilm M 13 p v ≤ mFilm M 0 0 0 := he
  have hk : K (some (gainW (mFilm M) (csb (mFilm M)) p v t)) M := hk
  obtain ⟨⟨hp, hv⟩, ht⟩ := ht
  have w := wf_pv hf hp.1 hp.2 hv.1 hv.2
  have sr := shift_rng hf hp.1 hp.2 ht.1 ht.2
  have e0 : mFilm M 0 0 0 = M 30 0 2 := rfl
  have e8 : mFilm M 8 p 0 = M 37 0 (11 * p) := rfl
  have e14 : mFilm M 14 p v = M 37 0 (11 * p + 6 + 2 * v) := rfl
  have r2 := hf.2.2.2.2.1 2 (by decide) (by decide)
  have r3 := hf.2.2.2.2.1 3 (by decide) (by decide)
  have e42 : mFilm M 4 2 0 = M 38 0 2 := rfl
  have e43 : mFilm M 4 3 0 = M 38 0 3 := rfl
  have e13 : mFilm M 13 p v = mFilm M 13 p v := rfl
  have loop : ∀ (n : Nat) (k g : Int), t ≤ k → k + n = t + mFilm M 13 p v → g = mFilm M 14 p v - shiftW (mFilm M) p t - (csb (mFilm M) k - csb (mFilm M) t) →
      V κ 7 M 62 [some (.inr (30, 0)), some (.inl p), some (.inl v), some (.inl t), none, some (.inl g), some (.inl k)] [] K := by
    intro n
    induction n with
    | zero =>
      intro k g k0 hn hg
      refine sgX8_gainOf_62 C p v t g k ⟨by omega, ?_⟩
      show inR (t + mFilm M 13 p v) ∧ _
      refine ⟨by omega, fun _ => ?_, fun c => absurd (by omega) c⟩
      have e : k = t + mFilm M 13 p v := by omega
      unfold gainW at hk
      rw [show min (t + mFilm M 13 p v) (mFilm M 0 0 0) = t + mFilm M 13 p v by omega, ← e, ← hg] at hk
      exact hk
    | succ n ih =>
      intro k g k0 hn hg
      have s1 := csb_s (mFilm M) (t := k) (by omega)
      have hm := hH k (by omega) (by omega)
      have r := mkF_rng hf k
      have a := and_m r.1 r.2
      have q1 := csb_rng hf (t := k) (by omega) (by omega)
      have q2 := csb_rng hf (t := t) (by omega) (by omega)
      have ec : cst (mFilm M) k = if bAnd (mkF (mFilm M) k) 2 ≠ 0 then mFilm M 4 2 0 else if bAnd (mkF (mFilm M) k) 4 ≠ 0 then mFilm M 4 3 0 else 0 := rfl
      refine sgX8_gainOf_62 C p v t g k ⟨by omega, ?_⟩
      show inR (t + mFilm M 13 p v) ∧ _
      refine ⟨by omega, fun c => absurd c (by omega), fun _ => ⟨by omega, fun c2 => ⟨by omega, fun c3 => ⟨by omega, fun y ey => ⟨by omega, ih (k + 1) y (by omega) (by omega) ?_⟩⟩, fun c3 => ⟨by omega, fun y ey => ⟨by omega, ih (k + 1) y (by omega) (by omega) ?_⟩⟩⟩, fun c2 => ⟨by omega, fun y ey => ⟨by omega, ih (k + 1) y (by omega) (by omega) ?_⟩⟩⟩⟩
      · rw [hm] at c2 c3
        rw [if_neg (by omega), if_neg (by omega)] at ec
        omega
      · rw [hm] at c2 c3
        rw [if_neg (by omega), if_pos (by omega)] at ec
        omega
      · rw [hm] at c2
        rw [if_pos (by omega)] at ec
        omega
  have es : shiftW (mFilm M) p t = if t - M 37 0 (11 * p) < 0 then -(t - M 37 0 (11 * p)) * M 38 0 0 else (t - M 37 0 (11 * p)) * M 38 0 1 := rfl
  refine sgX8_gainOf_0 C p v t ⟨by omega, by omega, by omega, fun y ey => ⟨by omega, by omega, by omega, by omega, by omega, fun c => ?_, fun c => ?_⟩⟩
  · rw [if_neg (by omega), ← ey] at es
    refine ⟨by omega, by omega, fun z ez => loop (mFilm M 13 p v).toNat t z (by omega) (by omega) ?_⟩
    omega
  · rw [if_pos (by omega), ← ey] at es
    refine ⟨by omega, by omega, by omega, fun z ez => loop (mFilm M 13 p v).toNat t z (by omega) (by omega) ?_⟩
    omega
/-! ===== GapTellingsModel.whyNot ===== -/
abbrev rmX8_whyNot : Room := { frames := 2, cells := 0, slots := 0, locals := 47 }
abbrev argX8_whyNot (a : Int × Int × Int) : List PV := [.inr (30, 0), .inl a.1, .inl a.2.1, .inl a.2.2]
abbrev CtX8_whyNot (sp : Int → Int → Int → Mem → Kont → Prop) : Prop := Ct yX8_whyNot cX8_whyNot 8 (some .int) rmX8_whyNot domM argX8_whyNot (fun a => sp a.1 a.2.1 a.2.2)
theorem dX8_whyNot_0 : decode cX8_whyNot 0 = .ok (.aload_n 0, 1) := by decide +kernel
theorem dX8_whyNot_1 : decode cX8_whyNot 1 = .ok (.iload_n 1, 1) := by decide +kernel
theorem dX8_whyNot_2 : decode cX8_whyNot 2 = .ok (.iload_n 2, 1) := by decide +kernel
theorem dX8_whyNot_3 : decode cX8_whyNot 3 = .ok (.iload_n 3, 1) := by decide +kernel
theorem dX8_whyNot_4 : decode cX8_whyNot 4 = .ok (.invokevirtual 151, 3) := by decide +kernel
theorem dX8_whyNot_7 : decode cX8_whyNot 7 = .ok (.istore 4, 2) := by decide +kernel
theorem dX8_whyNot_9 : decode cX8_whyNot 9 = .ok (.iload 4, 2) := by decide +kernel
theorem dX8_whyNot_11 : decode cX8_whyNot 11 = .ok (.ifCond .le 6, 3) := by decide +kernel
theorem dX8_whyNot_14 : decode cX8_whyNot 14 = .ok (.iload 4, 2) := by decide +kernel
theorem dX8_whyNot_16 : decode cX8_whyNot 16 = .ok (.ireturn, 1) := by decide +kernel
theorem dX8_whyNot_17 : decode cX8_whyNot 17 = .ok (.iload_n 3, 1) := by decide +kernel
theorem dX8_whyNot_18 : decode cX8_whyNot 18 = .ok (.aload_n 0, 1) := by decide +kernel
theorem dX8_whyNot_19 : decode cX8_whyNot 19 = .ok (.iload_n 1, 1) := by decide +kernel
theorem dX8_whyNot_20 : decode cX8_whyNot 20 = .ok (.iload_n 2, 1) := by decide +kernel
theorem dX8_whyNot_21 : decode cX8_whyNot 21 = .ok (.invokevirtual 147, 3) := by decide +kernel
theorem dX8_whyNot_24 : decode cX8_whyNot 24 = .ok (.iadd, 1) := by decide +kernel
theorem dX8_whyNot_25 : decode cX8_whyNot 25 = .ok (.istore 5, 2) := by decide +kernel
theorem dX8_whyNot_27 : decode cX8_whyNot 27 = .ok (.iconst 0, 1) := by decide +kernel
theorem dX8_whyNot_28 : decode cX8_whyNot 28 = .ok (.istore 6, 2) := by decide +kernel
theorem dX8_whyNot_30 : decode cX8_whyNot 30 = .ok (.iload 6, 2) := by decide +kernel
theorem dX8_whyNot_32 : decode cX8_whyNot 32 = .ok (.aload_n 0, 1) := by decide +kernel
theorem dX8_whyNot_33 : decode cX8_whyNot 33 = .ok (.getfield 74, 3) := by decide +kernel
theorem dX8_whyNot_36 : decode cX8_whyNot 36 = .ok (.if_icmp .ge 59, 3) := by decide +kernel
theorem dX8_whyNot_39 : decode cX8_whyNot 39 = .ok (.iload 6, 2) := by decide +kernel
theorem dX8_whyNot_41 : decode cX8_whyNot 41 = .ok (.iload_n 1, 1) := by decide +kernel
theorem dX8_whyNot_42 : decode cX8_whyNot 42 = .ok (.if_icmp .eq 47, 3) := by decide +kernel
theorem dX8_whyNot_45 : decode cX8_whyNot 45 = .ok (.aload_n 0, 1) := by decide +kernel
theorem dX8_whyNot_46 : decode cX8_whyNot 46 = .ok (.getfield 31, 3) := by decide +kernel
theorem dX8_whyNot_49 : decode cX8_whyNot 49 = .ok (.iload 6, 2) := by decide +kernel
theorem dX8_whyNot_51 : decode cX8_whyNot 51 = .ok (.iaload, 1) := by decide +kernel
theorem dX8_whyNot_52 : decode cX8_whyNot 52 = .ok (.ifCond .lt 37, 3) := by decide +kernel
theorem dX8_whyNot_55 : decode cX8_whyNot 55 = .ok (.aload_n 0, 1) := by decide +kernel
theorem dX8_whyNot_56 : decode cX8_whyNot 56 = .ok (.iload 6, 2) := by decide +kernel
theorem dX8_whyNot_58 : decode cX8_whyNot 58 = .ok (.invokevirtual 154, 3) := by decide +kernel
theorem dX8_whyNot_61 : decode cX8_whyNot 61 = .ok (.aload_n 0, 1) := by decide +kernel
theorem dX8_whyNot_62 : decode cX8_whyNot 62 = .ok (.getfield 68, 3) := by decide +kernel
theorem dX8_whyNot_65 : decode cX8_whyNot 65 = .ok (.iadd, 1) := by decide +kernel
theorem dX8_whyNot_66 : decode cX8_whyNot 66 = .ok (.iload_n 3, 1) := by decide +kernel
theorem dX8_whyNot_67 : decode cX8_whyNot 67 = .ok (.if_icmp .le 22, 3) := by decide +kernel
theorem dX8_whyNot_70 : decode cX8_whyNot 70 = .ok (.iload 5, 2) := by decide +kernel
theorem dX8_whyNot_72 : decode cX8_whyNot 72 = .ok (.aload_n 0, 1) := by decide +kernel
theorem dX8_whyNot_73 : decode cX8_whyNot 73 = .ok (.getfield 68, 3) := by decide +kernel
theorem dX8_whyNot_76 : decode cX8_whyNot 76 = .ok (.iadd, 1) := by decide +kernel
theorem dX8_whyNot_77 : decode cX8_whyNot 77 = .ok (.aload_n 0, 1) := by decide +kernel
theorem dX8_whyNot_78 : decode cX8_whyNot 78 = .ok (.getfield 31, 3) := by decide +kernel
theorem dX8_whyNot_81 : decode cX8_whyNot 81 = .ok (.iload 6, 2) := by decide +kernel
theorem dX8_whyNot_83 : decode cX8_whyNot 83 = .ok (.iaload, 1) := by decide +kernel
theorem dX8_whyNot_84 : decode cX8_whyNot 84 = .ok (.if_icmp .le 5, 3) := by decide +kernel
theorem dX8_whyNot_87 : decode cX8_whyNot 87 = .ok (.iconst 4, 1) := by decide +kernel
theorem dX8_whyNot_88 : decode cX8_whyNot 88 = .ok (.ireturn, 1) := by decide +kernel
theorem dX8_whyNot_89 : decode cX8_whyNot 89 = .ok (.iinc 6 1, 3) := by decide +kernel
theorem dX8_whyNot_92 : decode cX8_whyNot 92 = .ok (.goto (-62), 3) := by decide +kernel
theorem dX8_whyNot_95 : decode cX8_whyNot 95 = .ok (.aload_n 0, 1) := by decide +kernel
theorem dX8_whyNot_96 : decode cX8_whyNot 96 = .ok (.getfield 16, 3) := by decide +kernel
theorem dX8_whyNot_99 : decode cX8_whyNot 99 = .ok (.bipush 11, 2) := by decide +kernel
theorem dX8_whyNot_101 : decode cX8_whyNot 101 = .ok (.iload_n 1, 1) := by decide +kernel
theorem dX8_whyNot_102 : decode cX8_whyNot 102 = .ok (.imul, 1) := by decide +kernel
theorem dX8_whyNot_103 : decode cX8_whyNot 103 = .ok (.iconst 4, 1) := by decide +kernel
theorem dX8_whyNot_104 : decode cX8_whyNot 104 = .ok (.iadd, 1) := by decide +kernel
theorem dX8_whyNot_105 : decode cX8_whyNot 105 = .ok (.iaload, 1) := by decide +kernel
theorem dX8_whyNot_106 : decode cX8_whyNot 106 = .ok (.istore 6, 2) := by decide +kernel
theorem dX8_whyNot_108 : decode cX8_whyNot 108 = .ok (.iload 6, 2) := by decide +kernel
theorem dX8_whyNot_110 : decode cX8_whyNot 110 = .ok (.ifCond .lt 25, 3) := by decide +kernel
theorem dX8_whyNot_113 : decode cX8_whyNot 113 = .ok (.aload_n 0, 1) := by decide +kernel
theorem dX8_whyNot_114 : decode cX8_whyNot 114 = .ok (.getfield 31, 3) := by decide +kernel
theorem dX8_whyNot_117 : decode cX8_whyNot 117 = .ok (.iload 6, 2) := by decide +kernel
theorem dX8_whyNot_119 : decode cX8_whyNot 119 = .ok (.iaload, 1) := by decide +kernel
theorem dX8_whyNot_120 : decode cX8_whyNot 120 = .ok (.ifCond .lt 13, 3) := by decide +kernel
theorem dX8_whyNot_123 : decode cX8_whyNot 123 = .ok (.aload_n 0, 1) := by decide +kernel
theorem dX8_whyNot_124 : decode cX8_whyNot 124 = .ok (.iload 6, 2) := by decide +kernel
theorem dX8_whyNot_126 : decode cX8_whyNot 126 = .ok (.invokevirtual 154, 3) := by decide +kernel
theorem dX8_whyNot_129 : decode cX8_whyNot 129 = .ok (.iload_n 3, 1) := by decide +kernel
theorem dX8_whyNot_130 : decode cX8_whyNot 130 = .ok (.if_icmp .le 5, 3) := by decide +kernel
theorem dX8_whyNot_133 : decode cX8_whyNot 133 = .ok (.iconst 5, 1) := by decide +kernel
theorem dX8_whyNot_134 : decode cX8_whyNot 134 = .ok (.ireturn, 1) := by decide +kernel
theorem dX8_whyNot_135 : decode cX8_whyNot 135 = .ok (.iconst 0, 1) := by decide +kernel
theorem dX8_whyNot_136 : decode cX8_whyNot 136 = .ok (.istore 7, 2) := by decide +kernel
theorem dX8_whyNot_138 : decode cX8_whyNot 138 = .ok (.iload 7, 2) := by decide +kernel
theorem dX8_whyNot_140 : decode cX8_whyNot 140 = .ok (.aload_n 0, 1) := by decide +kernel
theorem dX8_whyNot_141 : decode cX8_whyNot 141 = .ok (.getfield 74, 3) := by decide +kernel
theorem dX8_whyNot_144 : decode cX8_whyNot 144 = .ok (.if_icmp .ge 50, 3) := by decide +kernel
theorem dX8_whyNot_147 : decode cX8_whyNot 147 = .ok (.aload_n 0, 1) := by decide +kernel
theorem dX8_whyNot_148 : decode cX8_whyNot 148 = .ok (.getfield 16, 3) := by decide +kernel
theorem dX8_whyNot_151 : decode cX8_whyNot 151 = .ok (.bipush 11, 2) := by decide +kernel
theorem dX8_whyNot_153 : decode cX8_whyNot 153 = .ok (.iload 7, 2) := by decide +kernel
theorem dX8_whyNot_155 : decode cX8_whyNot 155 = .ok (.imul, 1) := by decide +kernel
theorem dX8_whyNot_156 : decode cX8_whyNot 156 = .ok (.iconst 4, 1) := by decide +kernel
theorem dX8_whyNot_157 : decode cX8_whyNot 157 = .ok (.iadd, 1) := by decide +kernel
theorem dX8_whyNot_158 : decode cX8_whyNot 158 = .ok (.iaload, 1) := by decide +kernel
theorem dX8_whyNot_159 : decode cX8_whyNot 159 = .ok (.iload_n 1, 1) := by decide +kernel
theorem dX8_whyNot_160 : decode cX8_whyNot 160 = .ok (.if_icmp .ne 28, 3) := by decide +kernel
theorem dX8_whyNot_163 : decode cX8_whyNot 163 = .ok (.aload_n 0, 1) := by decide +kernel
theorem dX8_whyNot_164 : decode cX8_whyNot 164 = .ok (.getfield 31, 3) := by decide +kernel
theorem dX8_whyNot_167 : decode cX8_whyNot 167 = .ok (.iload 7, 2) := by decide +kernel
theorem dX8_whyNot_169 : decode cX8_whyNot 169 = .ok (.iaload, 1) := by decide +kernel
theorem dX8_whyNot_170 : decode cX8_whyNot 170 = .ok (.ifCond .lt 18, 3) := by decide +kernel
theorem dX8_whyNot_173 : decode cX8_whyNot 173 = .ok (.aload_n 0, 1) := by decide +kernel
theorem dX8_whyNot_174 : decode cX8_whyNot 174 = .ok (.getfield 31, 3) := by decide +kernel
theorem dX8_whyNot_177 : decode cX8_whyNot 177 = .ok (.iload 7, 2) := by decide +kernel
theorem dX8_whyNot_179 : decode cX8_whyNot 179 = .ok (.iaload, 1) := by decide +kernel
theorem dX8_whyNot_180 : decode cX8_whyNot 180 = .ok (.iload 5, 2) := by decide +kernel
theorem dX8_whyNot_182 : decode cX8_whyNot 182 = .ok (.if_icmp .ge 6, 3) := by decide +kernel
theorem dX8_whyNot_185 : decode cX8_whyNot 185 = .ok (.bipush 6, 2) := by decide +kernel
theorem dX8_whyNot_187 : decode cX8_whyNot 187 = .ok (.ireturn, 1) := by decide +kernel
theorem dX8_whyNot_188 : decode cX8_whyNot 188 = .ok (.iinc 7 1, 3) := by decide +kernel
theorem dX8_whyNot_191 : decode cX8_whyNot 191 = .ok (.goto (-53), 3) := by decide +kernel
theorem dX8_whyNot_194 : decode cX8_whyNot 194 = .ok (.iconst 0, 1) := by decide +kernel
theorem dX8_whyNot_195 : decode cX8_whyNot 195 = .ok (.ireturn, 1) := by decide +kernel
theorem ivX8_151 : IV RX8 151 yX8_whyByFilm cX8_whyByFilm 6 (some .int) 3 := ⟨(tb_mem (t_in5 (List.mem_of_getElem? (i := 31) (by decide +kernel))) (by decide +kernel)), (tb_mem (t_in5 (List.mem_of_getElem? (i := 33) (by decide +kernel))) (by decide +kernel)), (tb_sel (q := (⟨"GapTellingsModel", "whyByFilm", "(III)I"⟩, 29)) (List.mem_of_getElem? (i := 20) (by decide +kernel)) (by decide +kernel)), (tb_mem (t_in1 (List.mem_of_getElem? (i := 16) (by decide +kernel))) (by decide +kernel)), (tb_mem (t_in5 (List.mem_of_getElem? (i := 34) (by decide +kernel))) (by decide +kernel)), ⟨by decide +kernel, by decide +kernel, by decide +kernel⟩⟩
theorem ivX8_154 : IV RX8 154 yX8_endOf cX8_endOf 2 (some .int) 1 := ⟨(tb_mem (t_in5 (List.mem_of_getElem? (i := 39) (by decide +kernel))) (by decide +kernel)), (tb_mem (t_in5 (List.mem_of_getElem? (i := 41) (by decide +kernel))) (by decide +kernel)), (tb_sel (q := (⟨"GapTellingsModel", "endOf", "(I)I"⟩, 29)) (List.mem_of_getElem? (i := 22) (by decide +kernel)) (by decide +kernel)), (tb_mem (t_in1 (List.mem_of_getElem? (i := 16) (by decide +kernel))) (by decide +kernel)), (tb_mem (t_in5 (List.mem_of_getElem? (i := 42) (by decide +kernel))) (by decide +kernel)), ⟨by decide +kernel, by decide +kernel, by decide +kernel⟩⟩
theorem flX8_68 : FL RX8 68 8 3 := ⟨_, _, _, rfl, by decide, uwX8, Or.inl (tb_mem (t_in4 (List.mem_of_getElem? (i := 111) (by decide +kernel))) (by decide +kernel))⟩
set_option maxHeartbeats 4000000 in
set_option maxRecDepth 20000 in
theorem sgX8_whyNot_0 {κ : Kx} {K : Kont} {M : Mem} (C : Cx κ RX8 cX8_whyNot 8 (some .int) rmX8_whyNot domM) (x1 : Int) (x2 : Int) (x3 : Int)
    (h :
    spX8_whyByFilm x1 x2 x3 M (rI (fun r4 M4 =>
    ((r4 ≤ 0 →
      spX8_wide x1 x2 M4 (rI (fun r21 M21 =>
      inR (x3 + r21) ∧
      ∀ y5_25 : Int, y5_25 = x3 + r21 →
      V κ 8 M21 30 [some (.inr (30, 0)), some (.inl x1), none, some (.inl x3), none, some (.inl y5_25), some (.inl 0), none] [] K))) ∧
     (¬ (r4 ≤ 0) →
      K (some r4) M4))))) : V κ 8 M 0 [some (.inr (30, 0)), some (.inl x1), some (.inl x2), some (.inl x3), none, none, none, none] [] K := by
  refine v_aload_n C dX8_whyNot_0 rfl ?_
  refine v_iload_n C dX8_whyNot_1 rfl ?_
  refine v_iload_n C dX8_whyNot_2 rfl ?_
  refine v_iload_n C dX8_whyNot_3 rfl ?_
  refine v_invV C ctX8_whyByFilm dX8_whyNot_4 ivX8_151 ⟨by decide, by decide, rfl, rfl⟩ ((x1, x2, x3) : Int × Int × Int) (As := [.inl x1, .inl x2, .inl x3]) rfl rfl rfl (by decide) rfl (st := []) rfl (Nat.le_of_ble_eq_true rfl) h (fun o M4 oM4 io4 g4 => ?_)
  replace h := rI_out g4
  clear g4
  obtain ⟨r4, rfl, h⟩ := h
  refine v_push ?_
  refine v_istore C dX8_whyNot_7 (by decide) (Nat.le_of_ble_eq_true rfl) (lv' := [some (.inr (30, 0)), some (.inl x1), some (.inl x2), some (.inl x3), some (.inl r4), none, none, none]) rfl ?_
  refine v_iload C dX8_whyNot_9 rfl ?_
  refine v_if C dX8_whyNot_11 (tgt := 17) (by decide) (P := r4 ≤ 0) rfl (fun c11 => ?_) (fun c11 => ?_)
  · replace h := h.1 c11
    refine v_iload_n C dX8_whyNot_17 rfl ?_
    refine v_aload_n C dX8_whyNot_18 rfl ?_
    refine v_iload_n C dX8_whyNot_19 rfl ?_
    refine v_iload_n C dX8_whyNot_20 rfl ?_
    refine v_invV C ctX8_wide dX8_whyNot_21 ivX8_147 ⟨by decide, by decide, rfl, rfl⟩ ((x1, x2) : Int × Int) (As := [.inl x1, .inl x2]) rfl rfl rfl (by decide) rfl (st := [.inl x3]) rfl (Nat.le_of_ble_eq_true rfl) h (fun o M21 oM21 io21 g21 => ?_)
    replace h := rI_out g21
    clear g21
    obtain ⟨r21, rfl, h⟩ := h
    refine v_push ?_
    refine v_iadd C dX8_whyNot_24 h.1 ?_
    replace h := h.2
    refine v_nm (fun y5_25 ey5_25 => ?_)
    replace h := h y5_25 ey5_25
    refine v_istore C dX8_whyNot_25 (by decide) (Nat.le_of_ble_eq_true rfl) (lv' := [some (.inr (30, 0)), some (.inl x1), some (.inl x2), some (.inl x3), some (.inl r4), some (.inl y5_25), none, none]) rfl ?_
    refine v_iconst C dX8_whyNot_27 (by decide) ?_
    refine v_istore C dX8_whyNot_28 (by decide) (Nat.le_of_ble_eq_true rfl) (lv' := [some (.inr (30, 0)), some (.inl x1), some (.inl x2), some (.inl x3), some (.inl r4), some (.inl y5_25), some (.inl 0), none]) rfl ?_
    refine v_weak [some (.inr (30, 0)), some (.inl x1), none, some (.inl x3), none, some (.inl y5_25), some (.inl 0), none] ⟨rfl, rfl, rfl, rfl, rfl, trivial⟩ ?_
    exact h
  · replace h := h.2 c11
    refine v_iload C dX8_whyNot_14 rfl ?_
    exact v_iret C dX8_whyNot_16 h
set_option maxHeartbeats 4000000 in
set_option maxRecDepth 20000 in
theorem sgX8_whyNot_30 {κ : Kx} {K : Kont} {M : Mem} (C : Cx κ RX8 cX8_whyNot 8 (some .int) rmX8_whyNot domM) (x1 : Int) (x3 : Int) (x5 : Int) (x6 : Int)
    (h :
    (((M 30 0 6) ≤ x6 →
      inR (11 * x1) ∧
      inR ((11 * x1) + 4) ∧
      (0 ≤ ((11 * x1) + 4) ∧ ((11 * x1) + 4) < 77) ∧
      ∀ y6_106 : Int, y6_106 = M 37 0 ((11 * x1) + 4) →
      ((y6_106 < 0 →
        V κ 8 M 138 [some (.inr (30, 0)), some (.inl x1), none, none, none, some (.inl x5), none, some (.inl 0)] [] K) ∧
       (¬ (y6_106 < 0) →
        (0 ≤ y6_106 ∧ y6_106 < 7) ∧
        (((M 46 0 y6_106) < 0 →
          K (some 5) M) ∧
         (¬ ((M 46 0 y6_106) < 0) →
          spX8_endOf y6_106 M (rI (fun r126 M126 =>
          ((r126 ≤ x3 →
            V κ 8 M126 138 [some (.inr (30, 0)), some (.inl x1), none, none, none, some (.inl x5), none, some (.inl 0)] [] K) ∧
           (¬ (r126 ≤ x3) →
            K (some 5) M126))))))))) ∧
     (¬ ((M 30 0 6) ≤ x6) →
      ((x6 = x1 →
        inR (x6 + 1) ∧
        V κ 8 M 30 [some (.inr (30, 0)), some (.inl x1), none, some (.inl x3), none, some (.inl x5), some (.inl (x6 + 1)), none] [] K) ∧
       (¬ (x6 = x1) →
        (0 ≤ x6 ∧ x6 < 7) ∧
        (((M 46 0 x6) < 0 →
          inR (x6 + 1) ∧
          V κ 8 M 30 [some (.inr (30, 0)), some (.inl x1), none, some (.inl x3), none, some (.inl x5), some (.inl (x6 + 1)), none] [] K) ∧
         (¬ ((M 46 0 x6) < 0) →
          spX8_endOf x6 M (rI (fun r58 M58 =>
          inR (r58 + (M58 30 0 3)) ∧
          (((r58 + (M58 30 0 3)) ≤ x3 →
            inR (x6 + 1) ∧
            V κ 8 M58 30 [some (.inr (30, 0)), some (.inl x1), none, some (.inl x3), none, some (.inl x5), some (.inl (x6 + 1)), none] [] K) ∧
           (¬ ((r58 + (M58 30 0 3)) ≤ x3) →
            inR (x5 + (M58 30 0 3)) ∧
            (0 ≤ x6 ∧ x6 < 7) ∧
            (((x5 + (M58 30 0 3)) ≤ (M58 46 0 x6) →
              inR (x6 + 1) ∧
              V κ 8 M58 30 [some (.inr (30, 0)), some (.inl x1), none, some (.inl x3), none, some (.inl x5), some (.inl (x6 + 1)), none] [] K) ∧
             (¬ ((x5 + (M58 30 0 3)) ≤ (M58 46 0 x6)) →
              K (some 4) M58))))))))))))) : V κ 8 M 30 [some (.inr (30, 0)), some (.inl x1), none, some (.inl x3), none, some (.inl x5), some (.inl x6), none] [] K := by
  refine v_iload C dX8_whyNot_30 rfl ?_
  refine v_aload_n C dX8_whyNot_32 rfl ?_
  refine v_get C dX8_whyNot_33 flX8_74 rfl (by decide) (by decide) (w := .inl (M 30 0 6)) rfl ?_
  refine v_icmp C dX8_whyNot_36 (tgt := 95) (by decide) (P := (M 30 0 6) ≤ x6) rfl (fun c36 => ?_) (fun c36 => ?_)
  · replace h := h.1 c36
    refine v_aload_n C dX8_whyNot_95 rfl ?_
    refine v_get C dX8_whyNot_96 flX8_16 rfl (by decide) (by decide) (w := .inr (37, 0)) rfl ?_
    refine v_bipush C dX8_whyNot_99 (by decide) (by decide) ?_
    refine v_iload_n C dX8_whyNot_101 rfl ?_
    refine v_imul C dX8_whyNot_102 h.1 ?_
    replace h := h.2
    refine v_iconst C dX8_whyNot_103 (by decide) ?_
    refine v_iadd C dX8_whyNot_104 h.1 ?_
    replace h := h.2
    refine v_iald C dX8_whyNot_105 rfl h.1.1 h.1.2 ?_
    replace h := h.2
    refine v_nm (fun y6_106 ey6_106 => ?_)
    replace h := h y6_106 ey6_106
    refine v_istore C dX8_whyNot_106 (by decide) (Nat.le_of_ble_eq_true rfl) (lv' := [some (.inr (30, 0)), some (.inl x1), none, some (.inl x3), none, some (.inl x5), some (.inl y6_106), none]) rfl ?_
    refine v_iload C dX8_whyNot_108 rfl ?_
    refine v_if C dX8_whyNot_110 (tgt := 135) (by decide) (P := y6_106 < 0) rfl (fun c110 => ?_) (fun c110 => ?_)
    · replace h := h.1 c110
      refine v_iconst C dX8_whyNot_135 (by decide) ?_
      refine v_istore C dX8_whyNot_136 (by decide) (Nat.le_of_ble_eq_true rfl) (lv' := [some (.inr (30, 0)), some (.inl x1), none, some (.inl x3), none, some (.inl x5), some (.inl y6_106), some (.inl 0)]) rfl ?_
      refine v_weak [some (.inr (30, 0)), some (.inl x1), none, none, none, some (.inl x5), none, some (.inl 0)] ⟨rfl, rfl, rfl, rfl, trivial⟩ ?_
      exact h
    · replace h := h.2 c110
      refine v_aload_n C dX8_whyNot_113 rfl ?_
      refine v_get C dX8_whyNot_114 flX8_31 rfl (by decide) (by decide) (w := .inr (46, 0)) rfl ?_
      refine v_iload C dX8_whyNot_117 rfl ?_
      refine v_iald C dX8_whyNot_119 rfl h.1.1 h.1.2 ?_
      replace h := h.2
      refine v_if C dX8_whyNot_120 (tgt := 133) (by decide) (P := (M 46 0 y6_106) < 0) rfl (fun c120 => ?_) (fun c120 => ?_)
      · replace h := h.1 c120
        refine v_iconst C dX8_whyNot_133 (by decide) ?_
        exact v_iret C dX8_whyNot_134 h
      · replace h := h.2 c120
        refine v_aload_n C dX8_whyNot_123 rfl ?_
        refine v_iload C dX8_whyNot_124 rfl ?_
        refine v_invV C ctX8_endOf dX8_whyNot_126 ivX8_154 ⟨by decide, by decide, rfl, rfl⟩ (y6_106 : Int) (As := [.inl y6_106]) rfl rfl rfl (by decide) rfl (st := []) rfl (Nat.le_of_ble_eq_true rfl) h (fun o M126 oM126 io126 g126 => ?_)
        replace h := rI_out g126
        clear g126
        obtain ⟨r126, rfl, h⟩ := h
        refine v_push ?_
        refine v_iload_n C dX8_whyNot_129 rfl ?_
        refine v_icmp C dX8_whyNot_130 (tgt := 135) (by decide) (P := r126 ≤ x3) rfl (fun c130 => ?_) (fun c130 => ?_)
        · replace h := h.1 c130
          refine v_iconst C dX8_whyNot_135 (by decide) ?_
          refine v_istore C dX8_whyNot_136 (by decide) (Nat.le_of_ble_eq_true rfl) (lv' := [some (.inr (30, 0)), some (.inl x1), none, some (.inl x3), none, some (.inl x5), some (.inl y6_106), some (.inl 0)]) rfl ?_
          refine v_weak [some (.inr (30, 0)), some (.inl x1), none, none, none, some (.inl x5), none, some (.inl 0)] ⟨rfl, rfl, rfl, rfl, trivial⟩ ?_
          exact h
        · replace h := h.2 c130
          refine v_iconst C dX8_whyNot_133 (by decide) ?_
          exact v_iret C dX8_whyNot_134 h
  · replace h := h.2 c36
    refine v_iload C dX8_whyNot_39 rfl ?_
    refine v_iload_n C dX8_whyNot_41 rfl ?_
    refine v_icmp C dX8_whyNot_42 (tgt := 89) (by decide) (P := x6 = x1) rfl (fun c42 => ?_) (fun c42 => ?_)
    · replace h := h.1 c42
      refine v_iinc C dX8_whyNot_89 (by decide) rfl h.1 (lv' := [some (.inr (30, 0)), some (.inl x1), none, some (.inl x3), none, some (.inl x5), some (.inl (x6 + 1)), none]) rfl ?_
      replace h := h.2
      refine v_goto C dX8_whyNot_92 (tgt := 30) (by decide) ?_
      refine v_weak [some (.inr (30, 0)), some (.inl x1), none, some (.inl x3), none, some (.inl x5), some (.inl (x6 + 1)), none] ⟨rfl, rfl, rfl, rfl, rfl, trivial⟩ ?_
      exact h
    · replace h := h.2 c42
      refine v_aload_n C dX8_whyNot_45 rfl ?_
      refine v_get C dX8_whyNot_46 flX8_31 rfl (by decide) (by decide) (w := .inr (46, 0)) rfl ?_
      refine v_iload C dX8_whyNot_49 rfl ?_
      refine v_iald C dX8_whyNot_51 rfl h.1.1 h.1.2 ?_
      replace h := h.2
      refine v_if C dX8_whyNot_52 (tgt := 89) (by decide) (P := (M 46 0 x6) < 0) rfl (fun c52 => ?_) (fun c52 => ?_)
      · replace h := h.1 c52
        refine v_iinc C dX8_whyNot_89 (by decide) rfl h.1 (lv' := [some (.inr (30, 0)), some (.inl x1), none, some (.inl x3), none, some (.inl x5), some (.inl (x6 + 1)), none]) rfl ?_
        replace h := h.2
        refine v_goto C dX8_whyNot_92 (tgt := 30) (by decide) ?_
        refine v_weak [some (.inr (30, 0)), some (.inl x1), none, some (.inl x3), none, some (.inl x5), some (.inl (x6 + 1)), none] ⟨rfl, rfl, rfl, rfl, rfl, trivial⟩ ?_
        exact h
      · replace h := h.2 c52
        refine v_aload_n C dX8_whyNot_55 rfl ?_
        refine v_iload C dX8_whyNot_56 rfl ?_
        refine v_invV C ctX8_endOf dX8_whyNot_58 ivX8_154 ⟨by decide, by decide, rfl, rfl⟩ (x6 : Int) (As := [.inl x6]) rfl rfl rfl (by decide) rfl (st := []) rfl (Nat.le_of_ble_eq_true rfl) h (fun o M58 oM58 io58 g58 => ?_)
        replace h := rI_out g58
        clear g58
        obtain ⟨r58, rfl, h⟩ := h
        refine v_push ?_
        refine v_aload_n C dX8_whyNot_61 rfl ?_
        refine v_get C dX8_whyNot_62 flX8_68 rfl (by decide) (by decide) (w := .inl (M58 30 0 3)) rfl ?_
        refine v_iadd C dX8_whyNot_65 h.1 ?_
        replace h := h.2
        refine v_iload_n C dX8_whyNot_66 rfl ?_
        refine v_icmp C dX8_whyNot_67 (tgt := 89) (by decide) (P := (r58 + (M58 30 0 3)) ≤ x3) rfl (fun c67 => ?_) (fun c67 => ?_)
        · replace h := h.1 c67
          refine v_iinc C dX8_whyNot_89 (by decide) rfl h.1 (lv' := [some (.inr (30, 0)), some (.inl x1), none, some (.inl x3), none, some (.inl x5), some (.inl (x6 + 1)), none]) rfl ?_
          replace h := h.2
          refine v_goto C dX8_whyNot_92 (tgt := 30) (by decide) ?_
          refine v_weak [some (.inr (30, 0)), some (.inl x1), none, some (.inl x3), none, some (.inl x5), some (.inl (x6 + 1)), none] ⟨rfl, rfl, rfl, rfl, rfl, trivial⟩ ?_
          exact h
        · replace h := h.2 c67
          refine v_iload C dX8_whyNot_70 rfl ?_
          refine v_aload_n C dX8_whyNot_72 rfl ?_
          refine v_get C dX8_whyNot_73 flX8_68 rfl (by decide) (by decide) (w := .inl (M58 30 0 3)) rfl ?_
          refine v_iadd C dX8_whyNot_76 h.1 ?_
          replace h := h.2
          refine v_aload_n C dX8_whyNot_77 rfl ?_
          refine v_get C dX8_whyNot_78 flX8_31 rfl (by decide) (by decide) (w := .inr (46, 0)) rfl ?_
          refine v_iload C dX8_whyNot_81 rfl ?_
          refine v_iald C dX8_whyNot_83 rfl h.1.1 h.1.2 ?_
          replace h := h.2
          refine v_icmp C dX8_whyNot_84 (tgt := 89) (by decide) (P := (x5 + (M58 30 0 3)) ≤ (M58 46 0 x6)) rfl (fun c84 => ?_) (fun c84 => ?_)
          · replace h := h.1 c84
            refine v_iinc C dX8_whyNot_89 (by decide) rfl h.1 (lv' := [some (.inr (30, 0)), some (.inl x1), none, some (.inl x3), none, some (.inl x5), some (.inl (x6 + 1)), none]) rfl ?_
            replace h := h.2
            refine v_goto C dX8_whyNot_92 (tgt := 30) (by decide) ?_
            refine v_weak [some (.inr (30, 0)), some (.inl x1), none, some (.inl x3), none, some (.inl x5), some (.inl (x6 + 1)), none] ⟨rfl, rfl, rfl, rfl, rfl, trivial⟩ ?_
            exact h
          · replace h := h.2 c84
            refine v_iconst C dX8_whyNot_87 (by decide) ?_
            exact v_iret C dX8_whyNot_88 h
set_option maxHeartbeats 4000000 in
set_option maxRecDepth 20000 in
theorem sgX8_whyNot_138 {κ : Kx} {K : Kont} {M : Mem} (C : Cx κ RX8 cX8_whyNot 8 (some .int) rmX8_whyNot domM) (x1 : Int) (x5 : Int) (x7 : Int)
    (h :
    (((M 30 0 6) ≤ x7 →
      K (some 0) M) ∧
     (¬ ((M 30 0 6) ≤ x7) →
      inR (11 * x7) ∧
      inR ((11 * x7) + 4) ∧
      (0 ≤ ((11 * x7) + 4) ∧ ((11 * x7) + 4) < 77) ∧
      (((M 37 0 ((11 * x7) + 4)) ≠ x1 →
        inR (x7 + 1) ∧
        V κ 8 M 138 [some (.inr (30, 0)), some (.inl x1), none, none, none, some (.inl x5), none, some (.inl (x7 + 1))] [] K) ∧
       (¬ ((M 37 0 ((11 * x7) + 4)) ≠ x1) →
        (0 ≤ x7 ∧ x7 < 7) ∧
        (((M 46 0 x7) < 0 →
          inR (x7 + 1) ∧
          V κ 8 M 138 [some (.inr (30, 0)), some (.inl x1), none, none, none, some (.inl x5), none, some (.inl (x7 + 1))] [] K) ∧
         (¬ ((M 46 0 x7) < 0) →
          (0 ≤ x7 ∧ x7 < 7) ∧
          ((x5 ≤ (M 46 0 x7) →
            inR (x7 + 1) ∧
            V κ 8 M 138 [some (.inr (30, 0)), some (.inl x1), none, none, none, some (.inl x5), none, some (.inl (x7 + 1))] [] K) ∧
           (¬ (x5 ≤ (M 46 0 x7)) →
            K (some 6) M))))))))) : V κ 8 M 138 [some (.inr (30, 0)), some (.inl x1), none, none, none, some (.inl x5), none, some (.inl x7)] [] K := by
  refine v_iload C dX8_whyNot_138 rfl ?_
  refine v_aload_n C dX8_whyNot_140 rfl ?_
  refine v_get C dX8_whyNot_141 flX8_74 rfl (by decide) (by decide) (w := .inl (M 30 0 6)) rfl ?_
  refine v_icmp C dX8_whyNot_144 (tgt := 194) (by decide) (P := (M 30 0 6) ≤ x7) rfl (fun c144 => ?_) (fun c144 => ?_)
  · replace h := h.1 c144
    refine v_iconst C dX8_whyNot_194 (by decide) ?_
    exact v_iret C dX8_whyNot_195 h
  · replace h := h.2 c144
    refine v_aload_n C dX8_whyNot_147 rfl ?_
    refine v_get C dX8_whyNot_148 flX8_16 rfl (by decide) (by decide) (w := .inr (37, 0)) rfl ?_
    refine v_bipush C dX8_whyNot_151 (by decide) (by decide) ?_
    refine v_iload C dX8_whyNot_153 rfl ?_
    refine v_imul C dX8_whyNot_155 h.1 ?_
    replace h := h.2
    refine v_iconst C dX8_whyNot_156 (by decide) ?_
    refine v_iadd C dX8_whyNot_157 h.1 ?_
    replace h := h.2
    refine v_iald C dX8_whyNot_158 rfl h.1.1 h.1.2 ?_
    replace h := h.2
    refine v_iload_n C dX8_whyNot_159 rfl ?_
    refine v_icmp C dX8_whyNot_160 (tgt := 188) (by decide) (P := (M 37 0 ((11 * x7) + 4)) ≠ x1) rfl (fun c160 => ?_) (fun c160 => ?_)
    · replace h := h.1 c160
      refine v_iinc C dX8_whyNot_188 (by decide) rfl h.1 (lv' := [some (.inr (30, 0)), some (.inl x1), none, none, none, some (.inl x5), none, some (.inl (x7 + 1))]) rfl ?_
      replace h := h.2
      refine v_goto C dX8_whyNot_191 (tgt := 138) (by decide) ?_
      refine v_weak [some (.inr (30, 0)), some (.inl x1), none, none, none, some (.inl x5), none, some (.inl (x7 + 1))] ⟨rfl, rfl, rfl, rfl, trivial⟩ ?_
      exact h
    · replace h := h.2 c160
      refine v_aload_n C dX8_whyNot_163 rfl ?_
      refine v_get C dX8_whyNot_164 flX8_31 rfl (by decide) (by decide) (w := .inr (46, 0)) rfl ?_
      refine v_iload C dX8_whyNot_167 rfl ?_
      refine v_iald C dX8_whyNot_169 rfl h.1.1 h.1.2 ?_
      replace h := h.2
      refine v_if C dX8_whyNot_170 (tgt := 188) (by decide) (P := (M 46 0 x7) < 0) rfl (fun c170 => ?_) (fun c170 => ?_)
      · replace h := h.1 c170
        refine v_iinc C dX8_whyNot_188 (by decide) rfl h.1 (lv' := [some (.inr (30, 0)), some (.inl x1), none, none, none, some (.inl x5), none, some (.inl (x7 + 1))]) rfl ?_
        replace h := h.2
        refine v_goto C dX8_whyNot_191 (tgt := 138) (by decide) ?_
        refine v_weak [some (.inr (30, 0)), some (.inl x1), none, none, none, some (.inl x5), none, some (.inl (x7 + 1))] ⟨rfl, rfl, rfl, rfl, trivial⟩ ?_
        exact h
      · replace h := h.2 c170
        refine v_aload_n C dX8_whyNot_173 rfl ?_
        refine v_get C dX8_whyNot_174 flX8_31 rfl (by decide) (by decide) (w := .inr (46, 0)) rfl ?_
        refine v_iload C dX8_whyNot_177 rfl ?_
        refine v_iald C dX8_whyNot_179 rfl h.1.1 h.1.2 ?_
        replace h := h.2
        refine v_iload C dX8_whyNot_180 rfl ?_
        refine v_icmp C dX8_whyNot_182 (tgt := 188) (by decide) (P := x5 ≤ (M 46 0 x7)) rfl (fun c182 => ?_) (fun c182 => ?_)
        · replace h := h.1 c182
          refine v_iinc C dX8_whyNot_188 (by decide) rfl h.1 (lv' := [some (.inr (30, 0)), some (.inl x1), none, none, none, some (.inl x5), none, some (.inl (x7 + 1))]) rfl ?_
          replace h := h.2
          refine v_goto C dX8_whyNot_191 (tgt := 138) (by decide) ?_
          refine v_weak [some (.inr (30, 0)), some (.inl x1), none, none, none, some (.inl x5), none, some (.inl (x7 + 1))] ⟨rfl, rfl, rfl, rfl, trivial⟩ ?_
          exact h
        · replace h := h.2 c182
          refine v_bipush C dX8_whyNot_185 (by decide) (by decide) ?_
          exact v_iret C dX8_whyNot_187 h
abbrev spX8_whyNot (p v t : Int) (M : Mem) (K : Kont) : Prop := (WFf (mFilm M) ∧ HrK M (mFilm M) ∧ PlK (mFilm M) (M 45 0) (M 46 0) ∧ tellK (mFilm M) p v t) ∧ K (some (whyW (mFilm M) (spb (mFilm M)) (M 45 0) (M 46 0) p v t)) M
theorem PlK.sta {F : Film} {ver sta : Int → Int} (h : PlK F ver sta) {q : Int} (h0 : 0 ≤ q) (h1 : q < 7) : (sta q < 0 ↔ ver q = -4) := by
  rcases h q h0 h1 with z | z
  · omega
  · omega
theorem ctX8_whyNot : CtX8_whyNot spX8_whyNot := by
  refine ct_of (by decide) dmM (fun _ => Nat.le_of_ble_eq_true rfl) ?_
  intro κ a M K C oM h
  obtain ⟨p, v, t⟩ := a
  obtain ⟨⟨hf, hH, hP, ht⟩, hk⟩ := h
  have ht : tellK (mFilm M) p v t := ht
  have hk : K (some (whyW (mFilm M) (spb (mFilm M)) (M 45 0) (M 46 0) p v t)) M := hk
  have tk := ht
  obtain ⟨⟨hp, hv⟩, ht⟩ := ht
  have hw := wf_pv hf hp.1 hp.2 hv.1 hv.2
  have hwp := wf_p hf hp.1 hp.2
  have hB := hf.2.1
  have hn3 := hf.2.2.2.1
  have e3 : mFilm M 3 0 0 = M 30 0 6 := rfl
  have e1 : mFilm M 1 0 0 = M 30 0 3 := rfl
  have e12 : ∀ q, mFilm M 12 q 0 = M 37 0 (11 * q + 4) := fun _ => rfl
  unfold whyW at hk
  have six : ∀ (n : Nat) (q : Int), 0 ≤ q → q + n = M 30 0 6 → (K (some (whyB (mFilm M) (M 45 0) (M 46 0) p v t)) M) → ¬ C4 (mFilm M) (M 45 0) (M 46 0) p v t → ¬ C5 (mFilm M) (M 45 0) (M 46 0) p t →
      (∀ j, 0 ≤ j → j < q → ¬ (mFilm M 12 j 0 = p ∧ M 45 0 j ≠ -4 ∧ M 46 0 j < t + mFilm M 13 p v)) →
      V κ 8 M 138 [some (.inr (30, 0)), some (.inl p), none, none, none, some (.inl (t + mFilm M 13 p v)), none, some (.inl q)] [] K := by
    intro n
    induction n with
    | zero =>
      intro q h0 hn hk n4 n5 hj
      refine sgX8_whyNot_138 C p _ q ⟨fun c => ?_, fun c => absurd (by omega) c⟩
      rw [whyB_0 n4 n5 ?_] at hk
      · exact hk
      · rintro ⟨j, a, b, d⟩
        exact hj j a (by omega) d
    | succ n ih =>
      intro q h0 hn hk n4 n5 hj
      have st := hP.sta h0 (by omega)
      have eq := e12 q
      have go : ∀ (hq : ¬ (mFilm M 12 q 0 = p ∧ M 45 0 q ≠ -4 ∧ M 46 0 q < t + mFilm M 13 p v)), inR (q + 1) ∧ V κ 8 M 138 [some (.inr (30, 0)), some (.inl p), none, none, none, some (.inl (t + mFilm M 13 p v)), none, some (.inl (q + 1))] [] K := by
        intro hq
        refine ⟨by omega, ih (q + 1) (by omega) (by omega) hk n4 n5 ?_⟩
        intro j a b
        by_cases e : j = q
        · rw [e]; exact hq
        · exact hj j a (by omega)
      refine sgX8_whyNot_138 C p _ q ⟨fun c => absurd c (by omega), fun c => ⟨by omega, by omega, by omega, fun c2 => go (by omega), fun c2 => ⟨by omega, fun c3 => go (by omega), fun c3 => ⟨by omega, fun c4 => go (by omega), fun c4 => ?_⟩⟩⟩⟩
      rw [whyB_6 n4 n5 ⟨q, h0, by omega, by omega, by omega, by omega⟩] at hk
      exact hk
  have four : ∀ (n : Nat) (q : Int), 0 ≤ q → q + n = M 30 0 6 → (K (some (whyB (mFilm M) (M 45 0) (M 46 0) p v t)) M) →
      (∀ j, 0 ≤ j → j < q → ¬ (j ≠ p ∧ M 45 0 j ≠ -4 ∧ M 46 0 j - (t + mFilm M 13 p v) < M 30 0 3 ∧ t - (M 46 0 j + mFilm M 13 j (M 45 0 j)) < M 30 0 3)) →
      V κ 8 M 30 [some (.inr (30, 0)), some (.inl p), none, some (.inl t), none, some (.inl (t + mFilm M 13 p v)), some (.inl q), none] [] K := by
    intro n
    induction n with
    | zero =>
      intro q h0 hn hk hj
      have n4 : ¬ C4 (mFilm M) (M 45 0) (M 46 0) p v t := by
        rintro ⟨j, a, b, d⟩
        exact hj j a (by omega) d
      have ep := e12 p
      refine sgX8_whyNot_30 C p t _ q ⟨fun c => ⟨by omega, by omega, by omega, fun y ey => ⟨fun c2 => ?_, fun c2 => ?_⟩⟩, fun c => absurd (by omega) c⟩
      · exact six (M 30 0 6).toNat 0 (by omega) (by omega) hk n4 (fun z => z.1 (by omega)) (fun j a b => by omega)
      · have hy : 0 ≤ y ∧ y < p := by omega
        have ey' : mFilm M 12 p 0 = y := by omega
        have st := hP.sta (q := y) (by omega) (by omega)
        refine ⟨by omega, fun c3 => ?_, fun c3 => ?_⟩
        · rw [whyB_5 n4 ⟨by omega, Or.inl (by rw [ey']; omega)⟩] at hk
          exact hk
        · refine ⟨⟨hf, hP, by omega, by omega⟩, fun c4 => ?_, fun c4 => ?_⟩
          · refine six (M 30 0 6).toNat 0 (by omega) (by omega) hk n4 ?_ (fun j a b => by omega)
            rintro ⟨z1, z2⟩
            rw [ey'] at z2
            omega
          · rw [whyB_5 n4 ⟨by omega, Or.inr (by rw [ey']; omega)⟩] at hk
            exact hk
    | succ n ih =>
      intro q h0 hn hk hj
      have st := hP.sta h0 (by omega)
      have go : ∀ (hq : ¬ (q ≠ p ∧ M 45 0 q ≠ -4 ∧ M 46 0 q - (t + mFilm M 13 p v) < M 30 0 3 ∧ t - (M 46 0 q + mFilm M 13 q (M 45 0 q)) < M 30 0 3)), inR (q + 1) ∧ V κ 8 M 30 [some (.inr (30, 0)), some (.inl p), none, some (.inl t), none, some (.inl (t + mFilm M 13 p v)), some (.inl (q + 1)), none] [] K := by
        intro hq
        refine ⟨by omega, ih (q + 1) (by omega) (by omega) hk ?_⟩
        intro j a b
        by_cases e : j = q
        · rw [e]; exact hq
        · exact hj j a (by omega)
      refine sgX8_whyNot_30 C p t _ q ⟨fun c => absurd c (by omega), fun c => ⟨fun c2 => go (by omega), fun c2 => ⟨by omega, fun c3 => go (by omega), fun c3 => ?_⟩⟩⟩
      have nv : M 45 0 q ≠ -4 := by omega
      have k := hP.at h0 (by omega) nv
      have wq := wf_pv hf h0 k.1 k.2.1.1 k.2.1.2
      refine ⟨⟨hf, hP, by omega, nv⟩, by omega, fun c4 => go (by omega), fun c4 => ⟨by omega, by omega, fun c5 => go (by omega), fun c5 => ?_⟩⟩
      rw [whyB_4 ⟨q, h0, by omega, c2, nv, by omega, by omega⟩] at hk
      exact hk
  have ow : ownW (mFilm M) (spb (mFilm M)) p v t = 0 ∨ 0 < ownW (mFilm M) (spb (mFilm M)) p v t := by
    unfold ownW
    split
    · omega
    · split
      · omega
      · split <;> omega
  refine sgX8_whyNot_0 C p v t ⟨⟨hf, hH, tk⟩, fun c => ⟨by omega, ?_⟩, fun c => ?_⟩
  · show inR (t + mFilm M 13 p v) ∧ _
    refine ⟨by omega, fun y ey => ?_⟩
    rw [if_pos (by omega)] at hk
    rw [ey]
    exact four (M 30 0 6).toNat 0 (by omega) (by omega) hk (fun j a b => by omega)
  · rw [if_neg (by omega)] at hk
    exact hk
