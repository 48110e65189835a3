/-! ===== off: a picture and all that need it ===== -/
def depB (F : Film) (p : Int) : Nat → Int → Bool
  | 0, q => decide (q = p)
  | n + 1, q => decide (q = p) || (decide (F 12 q 0 ≠ -4) && depB F p n (F 12 q 0))
def dp (F : Film) (p q : Int) : Bool := depB F p 7 q
theorem depB_fuel {F : Film} (hf : WFf F) (p : Int) : ∀ (n m : Nat) (q : Int), 0 ≤ q → q < F 3 0 0 → q ≤ n → q ≤ m → depB F p n q = depB F p m q := by
  have key : ∀ (k n m : Nat) (q : Int), 0 ≤ q → q < F 3 0 0 → q ≤ k → q ≤ n → q ≤ m → depB F p n q = depB F p m q := by
    intro k
    induction k with
    | zero =>
      intro n m q h0 h1 hk hn hm
      have w := wf_p hf h0 h1
      have e : F 12 q 0 = -4 := by omega
      cases n <;> cases m <;> simp [depB, e]
    | succ k ih =>
      intro n m q h0 h1 hk hn hm
      have w := wf_p hf h0 h1
      by_cases e : F 12 q 0 = -4
      · cases n <;> cases m <;> simp [depB, e]
      · have r : 0 ≤ F 12 q 0 ∧ F 12 q 0 < q := by omega
        cases n with
        | zero => omega
        | succ n =>
          cases m with
          | zero => omega
          | succ m =>
            show (_ || (_ && depB F p n (F 12 q 0))) = (_ || (_ && depB F p m (F 12 q 0)))
            rw [ih n m (F 12 q 0) (by omega) (by omega) (by omega) (by omega) (by omega)]
  intro n m q h0 h1 hn hm
  exact key q.toNat n m q h0 h1 (by omega) hn hm
theorem dp_eq {F : Film} (hf : WFf F) {p q : Int} (h0 : 0 ≤ q) (h1 : q < F 3 0 0) : dp F p q = (decide (q = p) || (decide (F 12 q 0 ≠ -4) && dp F p (F 12 q 0))) := by
  have n3 := hf.2.2.2.1
  have w := wf_p hf h0 h1
  unfold dp
  show (_ || (_ && depB F p 6 (F 12 q 0))) = _
  by_cases e : F 12 q 0 = -4
  · simp [e]
  · rw [depB_fuel hf p 6 7 (F 12 q 0) (by omega) (by omega) (by omega) (by omega)]
theorem dp_ge {F : Film} (hf : WFf F) {p : Int} : ∀ (n : Nat) (q : Int), 0 ≤ q → q < F 3 0 0 → q ≤ n → dp F p q = true → p ≤ q := by
  intro n
  induction n with
  | zero =>
    intro q h0 h1 hn h
    have w := wf_p hf h0 h1
    rw [dp_eq hf h0 h1] at h
    have e : F 12 q 0 = -4 := by omega
    simp [e] at h
    omega
  | succ n ih =>
    intro q h0 h1 hn h
    have w := wf_p hf h0 h1
    rw [dp_eq hf h0 h1] at h
    by_cases e : F 12 q 0 = -4
    · simp [e] at h; omega
    · simp [e] at h
      rcases h with z | z
      · omega
      · have := ih (F 12 q 0) (by omega) (by omega) (by omega) z
        omega
theorem dp_self {F : Film} (p : Int) : dp F p p = true := by simp [dp, depB]
def offD (F : Film) (p : Int) (f : Int → Int) : Int → Int := fun q => if dp F p q = true then -4 else f q
def dpN (F : Film) (p : Int) (ver : Int → Int) : Nat → Int := sumN (fun q => if dp F p q = true ∧ ver q ≠ -4 then 1 else 0)
theorem dpN_rng (F : Film) (p : Int) (ver : Int → Int) (n : Nat) : 0 ≤ dpN F p ver n ∧ dpN F p ver n ≤ n := by
  have := sum_rng (f := fun q => if dp F p q = true ∧ ver q ≠ -4 then 1 else 0) (B := 1) (fun t => by split <;> omega) n
  unfold dpN
  omega
theorem PlV_offD {F : Film} {p : Int} {ver sta : Int → Int} (hf : WFf F) (h : PlV F ver sta) : PlV F (offD F p ver) (offD F p sta) := by
  refine ⟨fun q a b => ?_, fun x y a b c d e f g => ?_, fun x a b c d => ?_⟩
  · unfold offD
    split
    · exact Or.inl ⟨rfl, rfl⟩
    · exact h.1 q a b
  · unfold offD at f g ⊢
    by_cases z : dp F p x = true
    · rw [if_pos z] at f; exact absurd rfl f
    · by_cases y' : dp F p y = true
      · rw [if_pos y'] at g; exact absurd rfl g
      · rw [if_neg z] at f ⊢
        rw [if_neg y'] at g ⊢
        rw [if_neg z, if_neg y']
        exact h.2.1 x y a b c d e f g
  · unfold offD at c ⊢
    by_cases z : dp F p x = true
    · rw [if_pos z] at c; exact absurd rfl c
    · rw [if_neg z] at c
      have k := h.1.at a b c
      rw [dp_eq hf a k.1] at z
      have y : ¬ dp F p (F 12 x 0) = true := by
        intro y
        apply z
        simp [d, y]
      rw [if_neg y]
      exact h.2.2 x a b c d
theorem dp_c {F G : Film} (hf : WFf F) (hg : FEq F G) {p : Int} : ∀ (n : Nat) (q : Int), 0 ≤ q → q < F 3 0 0 → depB F p n q = depB G p n q := by
  intro n
  induction n with
  | zero => intro q _ _; rfl
  | succ n ih =>
    intro q h0 h1
    have w := wf_p hf h0 h1
    have e := (hg.2.2.2.2.2.2 q h0 h1).2.2.2.2.1
    unfold depB
    rw [← e]
    by_cases c : F 12 q 0 = -4
    · simp [c]
    · rw [ih (F 12 q 0) (by omega) (by omega)]
theorem offD_c {F G : Film} (hf : WFf F) (hg : FEq F G) {p : Int} {ver sta ver' sta' : Int → Int} (hP : PlK F ver sta) (he : PlEq ver sta ver' sta') : PlEq (offD F p ver) (offD F p sta) (offD G p ver') (offD G p sta') := by
  intro q a b
  have e := he q a b
  unfold offD
  by_cases c : q < F 3 0 0
  · have : dp F p q = dp G p q := dp_c hf hg 7 q a c
    rw [← this, e.1, e.2]
    exact ⟨rfl, rfl⟩
  · have z : ver q = -4 ∧ sta q = -4 := by
      rcases hP q a b with z | z
      · exact z
      · exact absurd z.1 c
    rw [← e.1, ← e.2, z.1, z.2]
    simp
theorem dpN_c {F G : Film} (hf : WFf F) (hg : FEq F G) {p : Int} {ver sta ver' sta' : Int → Int} (he : PlEq ver sta ver' sta') (n : Nat) (hn : (n : Int) ≤ F 3 0 0) : dpN F p ver n = dpN G p ver' n := by
  have n3 := hf.2.2.2.1
  refine sumN_c n (fun q a b => ?_)
  have : dp F p q = dp G p q := dp_c hf hg 7 q a (by omega)
  rw [this, (he q a (by omega)).1]
/-! ===== GapTellings$Plan.dropWithNeeders ===== -/
abbrev rmX4_dropWithNeeders : Room := { frames := 1, cells := 0, slots := 0, locals := 21 }
abbrev argX4_dropWithNeeders (a : Int × Int) : List PV := [.inr (18, a.1), .inl a.2]
abbrev CtX4_dropWithNeeders (sp : Int → Int → Mem → Kont → Prop) : Prop := Ct yX4_dropWithNeeders cX4_dropWithNeeders 6 (some .int) rmX4_dropWithNeeders domC argX4_dropWithNeeders (fun a => sp a.1 a.2)
theorem dX4_dropWithNeeders_0 : decode cX4_dropWithNeeders 0 = .ok (.iconst 1, 1) := by decide +kernel
theorem dX4_dropWithNeeders_1 : decode cX4_dropWithNeeders 1 = .ok (.iload_n 1, 1) := by decide +kernel
theorem dX4_dropWithNeeders_2 : decode cX4_dropWithNeeders 2 = .ok (.ishl, 1) := by decide +kernel
theorem dX4_dropWithNeeders_3 : decode cX4_dropWithNeeders 3 = .ok (.istore_n 2, 1) := by decide +kernel
theorem dX4_dropWithNeeders_4 : decode cX4_dropWithNeeders 4 = .ok (.iconst 1, 1) := by decide +kernel
theorem dX4_dropWithNeeders_5 : decode cX4_dropWithNeeders 5 = .ok (.istore_n 3, 1) := by decide +kernel
theorem dX4_dropWithNeeders_6 : decode cX4_dropWithNeeders 6 = .ok (.aload_n 0, 1) := by decide +kernel
theorem dX4_dropWithNeeders_7 : decode cX4_dropWithNeeders 7 = .ok (.iload_n 1, 1) := by decide +kernel
theorem dX4_dropWithNeeders_8 : decode cX4_dropWithNeeders 8 = .ok (.invokevirtual 76, 3) := by decide +kernel
theorem dX4_dropWithNeeders_11 : decode cX4_dropWithNeeders 11 = .ok (.iload_n 1, 1) := by decide +kernel
theorem dX4_dropWithNeeders_12 : decode cX4_dropWithNeeders 12 = .ok (.iconst 1, 1) := by decide +kernel
theorem dX4_dropWithNeeders_13 : decode cX4_dropWithNeeders 13 = .ok (.iadd, 1) := by decide +kernel
theorem dX4_dropWithNeeders_14 : decode cX4_dropWithNeeders 14 = .ok (.istore 4, 2) := by decide +kernel
theorem dX4_dropWithNeeders_16 : decode cX4_dropWithNeeders 16 = .ok (.iload 4, 2) := by decide +kernel
theorem dX4_dropWithNeeders_18 : decode cX4_dropWithNeeders 18 = .ok (.aload_n 0, 1) := by decide +kernel
theorem dX4_dropWithNeeders_19 : decode cX4_dropWithNeeders 19 = .ok (.getfield 18, 3) := by decide +kernel
theorem dX4_dropWithNeeders_22 : decode cX4_dropWithNeeders 22 = .ok (.getfield 34, 3) := by decide +kernel
theorem dX4_dropWithNeeders_25 : decode cX4_dropWithNeeders 25 = .ok (.if_icmp .ge 65, 3) := by decide +kernel
theorem dX4_dropWithNeeders_28 : decode cX4_dropWithNeeders 28 = .ok (.aload_n 0, 1) := by decide +kernel
theorem dX4_dropWithNeeders_29 : decode cX4_dropWithNeeders 29 = .ok (.getfield 18, 3) := by decide +kernel
theorem dX4_dropWithNeeders_32 : decode cX4_dropWithNeeders 32 = .ok (.getfield 44, 3) := by decide +kernel
theorem dX4_dropWithNeeders_35 : decode cX4_dropWithNeeders 35 = .ok (.iload 4, 2) := by decide +kernel
theorem dX4_dropWithNeeders_37 : decode cX4_dropWithNeeders 37 = .ok (.aaload, 1) := by decide +kernel
theorem dX4_dropWithNeeders_38 : decode cX4_dropWithNeeders 38 = .ok (.getfield 69, 3) := by decide +kernel
theorem dX4_dropWithNeeders_41 : decode cX4_dropWithNeeders 41 = .ok (.istore 5, 2) := by decide +kernel
theorem dX4_dropWithNeeders_43 : decode cX4_dropWithNeeders 43 = .ok (.iload 5, 2) := by decide +kernel
theorem dX4_dropWithNeeders_45 : decode cX4_dropWithNeeders 45 = .ok (.bipush (-4), 2) := by decide +kernel
theorem dX4_dropWithNeeders_47 : decode cX4_dropWithNeeders 47 = .ok (.if_icmp .eq 37, 3) := by decide +kernel
theorem dX4_dropWithNeeders_50 : decode cX4_dropWithNeeders 50 = .ok (.aload_n 0, 1) := by decide +kernel
theorem dX4_dropWithNeeders_51 : decode cX4_dropWithNeeders 51 = .ok (.iload 4, 2) := by decide +kernel
theorem dX4_dropWithNeeders_53 : decode cX4_dropWithNeeders 53 = .ok (.invokevirtual 40, 3) := by decide +kernel
theorem dX4_dropWithNeeders_56 : decode cX4_dropWithNeeders 56 = .ok (.ifCond .eq 28, 3) := by decide +kernel
theorem dX4_dropWithNeeders_59 : decode cX4_dropWithNeeders 59 = .ok (.iload_n 2, 1) := by decide +kernel
theorem dX4_dropWithNeeders_60 : decode cX4_dropWithNeeders 60 = .ok (.iconst 1, 1) := by decide +kernel
theorem dX4_dropWithNeeders_61 : decode cX4_dropWithNeeders 61 = .ok (.iload 5, 2) := by decide +kernel
theorem dX4_dropWithNeeders_63 : decode cX4_dropWithNeeders 63 = .ok (.ishl, 1) := by decide +kernel
theorem dX4_dropWithNeeders_64 : decode cX4_dropWithNeeders 64 = .ok (.iand, 1) := by decide +kernel
theorem dX4_dropWithNeeders_65 : decode cX4_dropWithNeeders 65 = .ok (.ifCond .eq 19, 3) := by decide +kernel
theorem dX4_dropWithNeeders_68 : decode cX4_dropWithNeeders 68 = .ok (.iload_n 2, 1) := by decide +kernel
theorem dX4_dropWithNeeders_69 : decode cX4_dropWithNeeders 69 = .ok (.iconst 1, 1) := by decide +kernel
theorem dX4_dropWithNeeders_70 : decode cX4_dropWithNeeders 70 = .ok (.iload 4, 2) := by decide +kernel
theorem dX4_dropWithNeeders_72 : decode cX4_dropWithNeeders 72 = .ok (.ishl, 1) := by decide +kernel
theorem dX4_dropWithNeeders_73 : decode cX4_dropWithNeeders 73 = .ok (.ior, 1) := by decide +kernel
theorem dX4_dropWithNeeders_74 : decode cX4_dropWithNeeders 74 = .ok (.istore_n 2, 1) := by decide +kernel
theorem dX4_dropWithNeeders_75 : decode cX4_dropWithNeeders 75 = .ok (.iinc 3 1, 3) := by decide +kernel
theorem dX4_dropWithNeeders_78 : decode cX4_dropWithNeeders 78 = .ok (.aload_n 0, 1) := by decide +kernel
theorem dX4_dropWithNeeders_79 : decode cX4_dropWithNeeders 79 = .ok (.iload 4, 2) := by decide +kernel
theorem dX4_dropWithNeeders_81 : decode cX4_dropWithNeeders 81 = .ok (.invokevirtual 76, 3) := by decide +kernel
theorem dX4_dropWithNeeders_84 : decode cX4_dropWithNeeders 84 = .ok (.iinc 4 1, 3) := by decide +kernel
theorem dX4_dropWithNeeders_87 : decode cX4_dropWithNeeders 87 = .ok (.goto (-71), 3) := by decide +kernel
theorem dX4_dropWithNeeders_90 : decode cX4_dropWithNeeders 90 = .ok (.iload_n 3, 1) := by decide +kernel
theorem dX4_dropWithNeeders_91 : decode cX4_dropWithNeeders 91 = .ok (.ireturn, 1) := by decide +kernel
set_option maxHeartbeats 4000000 in
set_option maxRecDepth 20000 in
theorem sgX4_dropWithNeeders_0 {κ : Kx} {K : Kont} {M : Mem} (C : Cx κ RX4 cX4_dropWithNeeders 6 (some .int) rmX4_dropWithNeeders domC) (i0 : Int) (x1 : Int)
    (h :
    ∀ y2_3 : Int, y2_3 = bShl 1 x1 →
    spX4_drop i0 x1 M (rV (fun M8 =>
    inR (x1 + 1) ∧
    ∀ y4_14 : Int, y4_14 = x1 + 1 →
    V κ 6 M8 16 [some (.inr (18, i0)), none, some (.inl y2_3), some (.inl 1), some (.inl y4_14), none] [] K))) : V κ 6 M 0 [some (.inr (18, i0)), some (.inl x1), none, none, none, none] [] K := by
  refine v_iconst C dX4_dropWithNeeders_0 (by decide) ?_
  refine v_iload_n C dX4_dropWithNeeders_1 rfl ?_
  refine v_ishl C dX4_dropWithNeeders_2 ?_
  refine v_nm (fun y2_3 ey2_3 => ?_)
  replace h := h y2_3 ey2_3
  refine v_istore_n C dX4_dropWithNeeders_3 (by decide) (Nat.le_of_ble_eq_true rfl) (lv' := [some (.inr (18, i0)), some (.inl x1), some (.inl y2_3), none, none, none]) rfl ?_
  refine v_iconst C dX4_dropWithNeeders_4 (by decide) ?_
  refine v_istore_n C dX4_dropWithNeeders_5 (by decide) (Nat.le_of_ble_eq_true rfl) (lv' := [some (.inr (18, i0)), some (.inl x1), some (.inl y2_3), some (.inl 1), none, none]) rfl ?_
  refine v_aload_n C dX4_dropWithNeeders_6 rfl ?_
  refine v_iload_n C dX4_dropWithNeeders_7 rfl ?_
  refine v_invV C ctX4_drop dX4_dropWithNeeders_8 ivX4_76 ⟨by decide, by decide, rfl, rfl⟩ ((i0, x1) : Int × Int) (As := [.inl x1]) rfl rfl rfl (by decide) rfl (st := []) rfl (Nat.le_of_ble_eq_true rfl) h (fun o M8 oM8 io8 g8 => ?_)
  replace h := rV_out g8
  clear g8
  obtain ⟨rfl, h⟩ := h
  refine v_push0 ?_
  refine v_iload_n C dX4_dropWithNeeders_11 rfl ?_
  refine v_iconst C dX4_dropWithNeeders_12 (by decide) ?_
  refine v_iadd C dX4_dropWithNeeders_13 h.1 ?_
  replace h := h.2
  refine v_nm (fun y4_14 ey4_14 => ?_)
  replace h := h y4_14 ey4_14
  refine v_istore C dX4_dropWithNeeders_14 (by decide) (Nat.le_of_ble_eq_true rfl) (lv' := [some (.inr (18, i0)), some (.inl x1), some (.inl y2_3), some (.inl 1), some (.inl y4_14), none]) rfl ?_
  refine v_weak [some (.inr (18, i0)), none, some (.inl y2_3), some (.inl 1), some (.inl y4_14), none] ⟨rfl, rfl, rfl, rfl, trivial⟩ ?_
  exact h
set_option maxHeartbeats 4000000 in
set_option maxRecDepth 20000 in
theorem sgX4_dropWithNeeders_16 {κ : Kx} {K : Kont} {M : Mem} (C : Cx κ RX4 cX4_dropWithNeeders 6 (some .int) rmX4_dropWithNeeders domC) (i0 : Int) (x2 : Int) (x3 : Int) (x4 : Int)
    (h :
    (((M 5 1 7) ≤ x4 →
      K (some x3) M) ∧
     (¬ ((M 5 1 7) ≤ x4) →
      (0 ≤ x4 ∧ x4 < 7) ∧
      ∀ y5_41 : Int, y5_41 = M 11 (7 * 1 + x4) 3 →
      ((y5_41 = (-4) →
        inR (x4 + 1) ∧
        V κ 6 M 16 [some (.inr (18, i0)), none, some (.inl x2), some (.inl x3), some (.inl (x4 + 1)), none] [] K) ∧
       (¬ (y5_41 = (-4)) →
        spX4_has i0 x4 M (rI (fun r53 M53 =>
        ((r53 = 0 →
          inR (x4 + 1) ∧
          V κ 6 M53 16 [some (.inr (18, i0)), none, some (.inl x2), some (.inl x3), some (.inl (x4 + 1)), none] [] K) ∧
         (¬ (r53 = 0) →
          (((bAnd x2 (bShl 1 y5_41)) = 0 →
            inR (x4 + 1) ∧
            V κ 6 M53 16 [some (.inr (18, i0)), none, some (.inl x2), some (.inl x3), some (.inl (x4 + 1)), none] [] K) ∧
           (¬ ((bAnd x2 (bShl 1 y5_41)) = 0) →
            ∀ y2_74 : Int, y2_74 = bOr x2 (bShl 1 x4) →
            inR (x3 + 1) ∧
            spX4_drop i0 x4 M53 (rV (fun M81 =>
            inR (x4 + 1) ∧
            V κ 6 M81 16 [some (.inr (18, i0)), none, some (.inl y2_74), some (.inl (x3 + 1)), some (.inl (x4 + 1)), none] [] K))))))))))))) : V κ 6 M 16 [some (.inr (18, i0)), none, some (.inl x2), some (.inl x3), some (.inl x4), none] [] K := by
  refine v_iload C dX4_dropWithNeeders_16 rfl ?_
  refine v_aload_n C dX4_dropWithNeeders_18 rfl ?_
  refine v_get C dX4_dropWithNeeders_19 flX4_18 rfl (by decide) (by decide) (w := .inr (5, 1)) rfl ?_
  refine v_get C dX4_dropWithNeeders_22 flX4_34 rfl (by decide) (by decide) (w := .inl (M 5 1 7)) rfl ?_
  refine v_icmp C dX4_dropWithNeeders_25 (tgt := 90) (by decide) (P := (M 5 1 7) ≤ x4) rfl (fun c25 => ?_) (fun c25 => ?_)
  · replace h := h.1 c25
    refine v_iload_n C dX4_dropWithNeeders_90 rfl ?_
    exact v_iret C dX4_dropWithNeeders_91 h
  · replace h := h.2 c25
    refine v_aload_n C dX4_dropWithNeeders_28 rfl ?_
    refine v_get C dX4_dropWithNeeders_29 flX4_18 rfl (by decide) (by decide) (w := .inr (5, 1)) rfl ?_
    refine v_get C dX4_dropWithNeeders_32 flX4_44 rfl (by decide) (by decide) (w := .inr (10, 1)) rfl ?_
    refine v_iload C dX4_dropWithNeeders_35 rfl ?_
    refine v_aald C dX4_dropWithNeeders_37 h.1.1 h.1.2 ?_
    replace h := h.2
    refine v_get C dX4_dropWithNeeders_38 flX4_69 rfl (by decide) (by decide) (w := .inl (M 11 (7 * 1 + x4) 3)) rfl ?_
    refine v_nm (fun y5_41 ey5_41 => ?_)
    replace h := h y5_41 ey5_41
    refine v_istore C dX4_dropWithNeeders_41 (by decide) (Nat.le_of_ble_eq_true rfl) (lv' := [some (.inr (18, i0)), none, some (.inl x2), some (.inl x3), some (.inl x4), some (.inl y5_41)]) rfl ?_
    refine v_iload C dX4_dropWithNeeders_43 rfl ?_
    refine v_bipush C dX4_dropWithNeeders_45 (by decide) (by decide) ?_
    refine v_icmp C dX4_dropWithNeeders_47 (tgt := 84) (by decide) (P := y5_41 = (-4)) rfl (fun c47 => ?_) (fun c47 => ?_)
    · replace h := h.1 c47
      refine v_iinc C dX4_dropWithNeeders_84 (by decide) rfl h.1 (lv' := [some (.inr (18, i0)), none, some (.inl x2), some (.inl x3), some (.inl (x4 + 1)), some (.inl y5_41)]) rfl ?_
      replace h := h.2
      refine v_goto C dX4_dropWithNeeders_87 (tgt := 16) (by decide) ?_
      refine v_weak [some (.inr (18, i0)), none, some (.inl x2), some (.inl x3), some (.inl (x4 + 1)), none] ⟨rfl, rfl, rfl, rfl, trivial⟩ ?_
      exact h
    · replace h := h.2 c47
      refine v_aload_n C dX4_dropWithNeeders_50 rfl ?_
      refine v_iload C dX4_dropWithNeeders_51 rfl ?_
      refine v_invV C ctX4_has dX4_dropWithNeeders_53 ivX4_40 ⟨by decide, by decide, rfl, rfl⟩ ((i0, x4) : Int × Int) (As := [.inl x4]) rfl rfl rfl (by decide) rfl (st := []) rfl (Nat.le_of_ble_eq_true rfl) h (fun o M53 oM53 io53 g53 => ?_)
      replace h := rI_out g53
      clear g53
      obtain ⟨r53, rfl, h⟩ := h
      refine v_push ?_
      refine v_if C dX4_dropWithNeeders_56 (tgt := 84) (by decide) (P := r53 = 0) rfl (fun c56 => ?_) (fun c56 => ?_)
      · replace h := h.1 c56
        refine v_iinc C dX4_dropWithNeeders_84 (by decide) rfl h.1 (lv' := [some (.inr (18, i0)), none, some (.inl x2), some (.inl x3), some (.inl (x4 + 1)), some (.inl y5_41)]) rfl ?_
        replace h := h.2
        refine v_goto C dX4_dropWithNeeders_87 (tgt := 16) (by decide) ?_
        refine v_weak [some (.inr (18, i0)), none, some (.inl x2), some (.inl x3), some (.inl (x4 + 1)), none] ⟨rfl, rfl, rfl, rfl, trivial⟩ ?_
        exact h
      · replace h := h.2 c56
        refine v_iload_n C dX4_dropWithNeeders_59 rfl ?_
        refine v_iconst C dX4_dropWithNeeders_60 (by decide) ?_
        refine v_iload C dX4_dropWithNeeders_61 rfl ?_
        refine v_ishl C dX4_dropWithNeeders_63 ?_
        refine v_iand C dX4_dropWithNeeders_64 ?_
        refine v_if C dX4_dropWithNeeders_65 (tgt := 84) (by decide) (P := (bAnd x2 (bShl 1 y5_41)) = 0) rfl (fun c65 => ?_) (fun c65 => ?_)
        · replace h := h.1 c65
          refine v_iinc C dX4_dropWithNeeders_84 (by decide) rfl h.1 (lv' := [some (.inr (18, i0)), none, some (.inl x2), some (.inl x3), some (.inl (x4 + 1)), some (.inl y5_41)]) rfl ?_
          replace h := h.2
          refine v_goto C dX4_dropWithNeeders_87 (tgt := 16) (by decide) ?_
          refine v_weak [some (.inr (18, i0)), none, some (.inl x2), some (.inl x3), some (.inl (x4 + 1)), none] ⟨rfl, rfl, rfl, rfl, trivial⟩ ?_
          exact h
        · replace h := h.2 c65
          refine v_iload_n C dX4_dropWithNeeders_68 rfl ?_
          refine v_iconst C dX4_dropWithNeeders_69 (by decide) ?_
          refine v_iload C dX4_dropWithNeeders_70 rfl ?_
          refine v_ishl C dX4_dropWithNeeders_72 ?_
          refine v_ior C dX4_dropWithNeeders_73 ?_
          refine v_nm (fun y2_74 ey2_74 => ?_)
          replace h := h y2_74 ey2_74
          refine v_istore_n C dX4_dropWithNeeders_74 (by decide) (Nat.le_of_ble_eq_true rfl) (lv' := [some (.inr (18, i0)), none, some (.inl y2_74), some (.inl x3), some (.inl x4), some (.inl y5_41)]) rfl ?_
          refine v_iinc C dX4_dropWithNeeders_75 (by decide) rfl h.1 (lv' := [some (.inr (18, i0)), none, some (.inl y2_74), some (.inl (x3 + 1)), some (.inl x4), some (.inl y5_41)]) rfl ?_
          replace h := h.2
          refine v_aload_n C dX4_dropWithNeeders_78 rfl ?_
          refine v_iload C dX4_dropWithNeeders_79 rfl ?_
          refine v_invV C ctX4_drop dX4_dropWithNeeders_81 ivX4_76 ⟨by decide, by decide, rfl, rfl⟩ ((i0, x4) : Int × Int) (As := [.inl x4]) rfl rfl rfl (by decide) rfl (st := []) rfl (Nat.le_of_ble_eq_true rfl) h (fun o M81 oM81 io81 g81 => ?_)
          replace h := rV_out g81
          clear g81
          obtain ⟨rfl, h⟩ := h
          refine v_push0 ?_
          refine v_iinc C dX4_dropWithNeeders_84 (by decide) rfl h.1 (lv' := [some (.inr (18, i0)), none, some (.inl y2_74), some (.inl (x3 + 1)), some (.inl (x4 + 1)), some (.inl y5_41)]) rfl ?_
          replace h := h.2
          refine v_goto C dX4_dropWithNeeders_87 (tgt := 16) (by decide) ?_
          refine v_weak [some (.inr (18, i0)), none, some (.inl y2_74), some (.inl (x3 + 1)), some (.inl (x4 + 1)), none] ⟨rfl, rfl, rfl, rfl, trivial⟩ ?_
          exact h
abbrev spX4_dropWithNeeders (pl p : Int) (M : Mem) (K : Kont) : Prop := (WFf (cFilm M 1) ∧ PlV (cFilm M 1) (M 19 pl) (M 20 pl) ∧ (0 ≤ p ∧ p < M 5 1 7) ∧ M 19 pl p ≠ -4) ∧
  ∀ M', AgP M M' pl → PlEq (offD (cFilm M 1) p (M 19 pl)) (offD (cFilm M 1) p (M 20 pl)) (M' 19 pl) (M' 20 pl) → K (some (dpN (cFilm M 1) p (M 19 pl) (M 5 1 7).toNat)) M'
theorem sumN_z {f : Int → Int} : ∀ n : Nat, (∀ t : Int, 0 ≤ t → t < n → f t = 0) → sumN f n = 0 := by
  intro n
  induction n with
  | zero => intro _; rfl
  | succ n ih =>
    intro h
    show sumN f n + f n = 0
    rw [ih (fun t a b => h t a (by omega)), h n (by omega) (by omega)]
    rfl
theorem ctX4_dropWithNeeders : CtX4_dropWithNeeders spX4_dropWithNeeders := by
  refine ct_of (by decide) dmC (fun _ => Nat.le_of_ble_eq_true rfl) ?_
  intro κ a M K C oM h
  obtain ⟨pl, p⟩ := a
  dsimp only [spX4_dropWithNeeders] at h
  obtain ⟨⟨hf, hP, hp, hv⟩, hk⟩ := h
  have n3 := hf.2.2.2.1
  have e3 : cFilm M 1 3 0 0 = M 5 1 7 := rfl
  have loop : ∀ (n : Nat) (q g c : Int) (N : Mem), p < q → q + n = M 5 1 7 → AgP M N pl → (∀ k, 0 ≤ k → k < 7 → N 19 pl k = (if k < q ∧ dp (cFilm M 1) p k = true then -4 else M 19 pl k) ∧ N 20 pl k = (if k < q ∧ dp (cFilm M 1) p k = true then -4 else M 20 pl k)) → (0 ≤ g ∧ g < 128) → (∀ k, 0 ≤ k → k < 7 → (bit g k = true ↔ (k < q ∧ dp (cFilm M 1) p k = true ∧ M 19 pl k ≠ -4))) → c = dpN (cFilm M 1) p (M 19 pl) q.toNat →
      V κ 6 N 16 [some (.inr (18, pl)), none, some (.inl g), some (.inl c), some (.inl q), none] [] K := by
    intro n
    induction n with
    | zero =>
      intro q g c N hq hn hA hN hg hb hc
      have e5 : N 5 1 = M 5 1 := hA 5 1 (by omega)
      refine sgX4_dropWithNeeders_16 C pl g c q ⟨fun _ => ?_, fun z => absurd (by rw [e5]; omega) z⟩
      have eq : q = M 5 1 7 := by omega
      rw [hc, eq]
      refine hk N hA (fun k a b => ?_)
      have := hN k a b
      unfold offD
      by_cases z : dp (cFilm M 1) p k = true
      · rw [if_pos z, if_pos z, this.1, this.2]
        by_cases y : k < q
        · rw [if_pos ⟨y, z⟩, if_pos ⟨y, z⟩]; exact ⟨rfl, rfl⟩
        · rw [if_neg (fun u => y u.1), if_neg (fun u => y u.1)]
          rcases hP.1 k a b with x | x
          · exact ⟨x.1.symm, x.2.symm⟩
          · omega
      · rw [if_neg z, if_neg z, this.1, this.2, if_neg (fun u => z u.2), if_neg (fun u => z u.2)]; exact ⟨rfl, rfl⟩
    | succ n ih =>
      intro q g c N hq hn hA hN hg hb hc
      have e5 : N 5 1 = M 5 1 := hA 5 1 (by omega)
      have e11 : N 11 (7 * 1 + q) = M 11 (7 * 1 + q) := hA 11 _ (by omega)
      have q0 : 0 ≤ q := by omega
      have w := wf_p hf q0 (by omega)
      have ed := dp_eq hf (p := p) q0 (by omega : q < cFilm M 1 3 0 0)
      have e12 : cFilm M 1 12 q 0 = M 11 (7 * 1 + q) 3 := rfl
      have hr := dpN_rng (cFilm M 1) p (M 19 pl) q.toNat
      have hs : dpN (cFilm M 1) p (M 19 pl) (q + 1).toNat = dpN (cFilm M 1) p (M 19 pl) q.toNat + (if dp (cFilm M 1) p q = true ∧ M 19 pl q ≠ -4 then 1 else 0) := sumN_s _ q0
      have nq : N 19 pl q = M 19 pl q := by rw [(hN q q0 (by omega)).1, if_neg (by omega)]
      -- q is not dropped
      have stay : ¬ (dp (cFilm M 1) p q = true ∧ M 19 pl q ≠ -4) → V κ 6 N 16 [some (.inr (18, pl)), none, some (.inl g), some (.inl c), some (.inl (q + 1)), none] [] K := by
        intro no
        refine ih (q + 1) g c N (by omega) (by omega) hA (fun k a b => ?_) hg (fun k a b => ?_) (by rw [hs, if_neg no, hc]; omega)
        · have := hN k a b
          by_cases e : k = q
          · subst e
            have t1 : N 19 pl k = M 19 pl k := nq
            have t2 : N 20 pl k = M 20 pl k := by rw [this.2, if_neg (by omega)]
            rw [t1, t2]
            by_cases z : dp (cFilm M 1) p k = true
            · rw [if_pos ⟨by omega, z⟩, if_pos ⟨by omega, z⟩]
              rcases hP.1 k a b with x | x
              · exact x
              · exact absurd ⟨z, by omega⟩ no
            · rw [if_neg (fun u => z u.2), if_neg (fun u => z u.2)]; exact ⟨rfl, rfl⟩
          · have e' : (k < q + 1 ∧ dp (cFilm M 1) p k = true) = (k < q ∧ dp (cFilm M 1) p k = true) := by apply propext; constructor <;> (rintro ⟨u, v⟩; exact ⟨by omega, v⟩)
            simp only [e']
            exact this
        · rw [hb k a b]
          constructor
          · rintro ⟨u, v⟩; exact ⟨by omega, v⟩
          · rintro ⟨u, v⟩
            refine ⟨?_, v⟩
            by_cases e : k = q
            · subst e; exact absurd v no
            · omega
      refine sgX4_dropWithNeeders_16 C pl g c q ⟨fun z => absurd z (by rw [e5]; omega), fun _ => ⟨⟨q0, by omega⟩, fun y ey => ?_⟩⟩
      rw [e11] at ey
      refine ⟨fun c1 => ⟨by omega, stay (fun z => ?_)⟩, fun c1 => ⟨⟨q0, by omega⟩, fun c2 => ⟨by omega, stay (fun z => ?_)⟩, fun c2 => ⟨fun c3 => ⟨by omega, stay (fun z => ?_)⟩, fun c3 g2 eg => ⟨by omega, ⟨q0, by omega⟩, by omega, ?_⟩⟩⟩⟩
      · rw [ed] at z
        have : cFilm M 1 12 q 0 = -4 := by omega
        simp [this] at z
        omega
      · rw [nq] at c2
        exact z.2 (if01 c2)
      · have bz := (and_bit (x := g) (k := y) hg.1 (by omega) (by omega) (by omega)).1 c3
        have need : dp (cFilm M 1) p y = true := by
          have z1 := z.1
          rw [ed] at z1
          have : ¬ q = p := by omega
          simp [this] at z1
          rw [e12, ← ey] at z1
          exact z1.2
        have pl' : M 19 pl y ≠ -4 := by
          have := hP.2.2 q q0 (by omega) z.2 (by omega)
          rw [e12, ← ey] at this
          exact this
        have := (hb y (by omega) (by omega)).2 ⟨by omega, need, pl'⟩
        rw [bz] at this
        exact absurd this (by decide)
      · have v1 : M 19 pl q ≠ -4 := by
          rw [nq] at c2
          exact if01n c2
        have by' : bit g y = true := by
          cases hh : bit g y
          · exact absurd ((and_bit (x := g) (k := y) hg.1 (by omega) (by omega) (by omega)).2 hh) c3
          · rfl
        have by2 := (hb y (by omega) (by omega)).1 by'
        have dq : dp (cFilm M 1) p q = true := by
          rw [ed, e12, ← ey]
          simp [c1, by2.2.1]
        have w19 : up3 (up3 N 19 pl q (-4)) 20 pl q (-4) 19 pl = offP (N 19 pl) q := put_19 N pl q (-4) (-4)
        have w20 : up3 (up3 N 19 pl q (-4)) 20 pl q (-4) 20 pl = offP (N 20 pl) q := put_20 N pl q (-4) (-4)
        have s2 := shl_lt128 (p := q) q0 (by omega)
        refine ih (q + 1) g2 (c + 1) _ (by omega) (by omega) (hA.tr (AgP.up N pl q (-4) (-4))) (fun k a b => ?_) (by rw [eg]; exact or_rng7 hg.1 hg.2 (by omega) s2.2) (fun k a b => ?_) (by rw [hs, if_pos ⟨dq, v1⟩, hc])
        · rw [w19, w20]
          unfold offP
          by_cases e : k = q
          · subst e
            rw [if_pos rfl, if_pos rfl, if_pos ⟨by omega, dq⟩, if_pos ⟨by omega, dq⟩]; exact ⟨rfl, rfl⟩
          · rw [if_neg e, if_neg e]
            have e' : (k < q + 1 ∧ dp (cFilm M 1) p k = true) = (k < q ∧ dp (cFilm M 1) p k = true) := by apply propext; constructor <;> (rintro ⟨u, v⟩; exact ⟨by omega, v⟩)
            simp only [e']
            exact hN k a b
        · rw [eg, bit_or2 hg.1 hg.2 (by omega) s2.2, bit_shl q0 (by omega) a]
          by_cases e : k = q
          · subst e
            simp [dq, v1]
            omega
          · simp only [e, decide_false, Bool.or_false]
            rw [hb k a b]
            constructor
            · rintro ⟨u, v⟩; exact ⟨by omega, v⟩
            · rintro ⟨u, v⟩; exact ⟨by omega, v⟩
  have s2 := shl_lt128 (p := p) hp.1 (by omega)
  refine sgX4_dropWithNeeders_0 C pl p (fun g eg => ⟨⟨hp.1, by omega⟩, by omega, fun q eq => ?_⟩)
  have w19 : up3 (up3 M 19 pl p (-4)) 20 pl p (-4) 19 pl = offP (M 19 pl) p := put_19 M pl p (-4) (-4)
  have w20 : up3 (up3 M 19 pl p (-4)) 20 pl p (-4) 20 pl = offP (M 20 pl) p := put_20 M pl p (-4) (-4)
  have only : ∀ k, 0 ≤ k → k < q → dp (cFilm M 1) p k = true → k = p := by
    intro k a b c
    have := dp_ge hf 7 k a (by omega) (by omega) c
    omega
  rw [eq] at only
  rw [eq]
  refine loop (M 5 1 7 - (p + 1)).toNat (p + 1) g 1 _ (by omega) (by omega) (AgP.up M pl p (-4) (-4)) (fun k a b => ?_) (by rw [eg]; omega) (fun k a b => ?_) ?_
  · rw [w19, w20]
    unfold offP
    by_cases e : k = p
    · subst e
      rw [if_pos rfl, if_pos rfl, if_pos ⟨by omega, dp_self k⟩, if_pos ⟨by omega, dp_self k⟩]; exact ⟨rfl, rfl⟩
    · rw [if_neg e, if_neg e, if_neg (fun u => e (only k a u.1 u.2)), if_neg (fun u => e (only k a u.1 u.2))]; exact ⟨rfl, rfl⟩
  · rw [eg, bit_shl hp.1 (by omega) a]
    constructor
    · intro u
      have : k = p := by simpa using u
      subst this
      exact ⟨by omega, dp_self k, hv⟩
    · rintro ⟨u, v, _⟩
      simp [only k a u v]
  · unfold dpN
    rw [sumN_s _ hp.1, if_pos ⟨dp_self p, hv⟩, sumN_z p.toNat (fun t a b => if_neg (fun u => by have := only t a (by omega) u.1; omega))]
    rfl
/-! ===== GapTellings.off ===== -/
abbrev rmX7_off : Room := { frames := 2, cells := 0, slots := 0, locals := 46 }
abbrev argX7_off (a : Int) : List PV := [.inr (0, 0), .inl a]
abbrev CtX7_off (sp : Int → Mem → Kont → Prop) : Prop := Ct yX7_off cX7_off 2 (some .int) rmX7_off domC argX7_off (fun a => sp a)
theorem dX7_off_0 : decode cX7_off 0 = .ok (.aload_n 0, 1) := by decide +kernel
theorem dX7_off_1 : decode cX7_off 1 = .ok (.iload_n 1, 1) := by decide +kernel
theorem dX7_off_2 : decode cX7_off 2 = .ok (.invokevirtual 135, 3) := by decide +kernel
theorem dX7_off_5 : decode cX7_off 5 = .ok (.ifCond .ne 5, 3) := by decide +kernel
theorem dX7_off_8 : decode cX7_off 8 = .ok (.iconst (-1), 1) := by decide +kernel
theorem dX7_off_9 : decode cX7_off 9 = .ok (.ireturn, 1) := by decide +kernel
theorem dX7_off_10 : decode cX7_off 10 = .ok (.aload_n 0, 1) := by decide +kernel
theorem dX7_off_11 : decode cX7_off 11 = .ok (.getfield 45, 3) := by decide +kernel
theorem dX7_off_14 : decode cX7_off 14 = .ok (.iload_n 1, 1) := by decide +kernel
theorem dX7_off_15 : decode cX7_off 15 = .ok (.invokevirtual 170, 3) := by decide +kernel
theorem dX7_off_18 : decode cX7_off 18 = .ok (.ifCond .ne 6, 3) := by decide +kernel
theorem dX7_off_21 : decode cX7_off 21 = .ok (.bipush (-2), 2) := by decide +kernel
theorem dX7_off_23 : decode cX7_off 23 = .ok (.ireturn, 1) := by decide +kernel
theorem dX7_off_24 : decode cX7_off 24 = .ok (.aload_n 0, 1) := by decide +kernel
theorem dX7_off_25 : decode cX7_off 25 = .ok (.getfield 45, 3) := by decide +kernel
theorem dX7_off_28 : decode cX7_off 28 = .ok (.iload_n 1, 1) := by decide +kernel
theorem dX7_off_29 : decode cX7_off 29 = .ok (.invokevirtual 173, 3) := by decide +kernel
theorem dX7_off_32 : decode cX7_off 32 = .ok (.ireturn, 1) := by decide +kernel
theorem ivX7_170 : IV RX7 170 yX4_has cX4_has 2 (some .boolean) 1 := ⟨(tb_mem (t_in3 (List.mem_of_getElem? (i := 129) (by decide +kernel))) (by decide +kernel)), (tb_mem (t_in3 (List.mem_of_getElem? (i := 54) (by decide +kernel))) (by decide +kernel)), (tb_mem (t_in3 (List.mem_of_getElem? (i := 55) (by decide +kernel))) (by decide +kernel)), (tb_mem (t_in1 (List.mem_of_getElem? (i := 6) (by decide +kernel))) (by decide +kernel)), (tb_mem (t_in3 (List.mem_of_getElem? (i := 56) (by decide +kernel))) (by decide +kernel)), ⟨by decide +kernel, by decide +kernel, by decide +kernel⟩⟩
theorem ivX7_173 : IV RX7 173 yX4_dropWithNeeders cX4_dropWithNeeders 6 (some .int) 1 := ⟨(tb_mem (t_in3 (List.mem_of_getElem? (i := 130) (by decide +kernel))) (by decide +kernel)), (tb_mem (t_in3 (List.mem_of_getElem? (i := 131) (by decide +kernel))) (by decide +kernel)), (tb_mem (t_in3 (List.mem_of_getElem? (i := 132) (by decide +kernel))) (by decide +kernel)), (tb_mem (t_in1 (List.mem_of_getElem? (i := 6) (by decide +kernel))) (by decide +kernel)), (tb_mem (t_in3 (List.mem_of_getElem? (i := 133) (by decide +kernel))) (by decide +kernel)), ⟨by decide +kernel, by decide +kernel, by decide +kernel⟩⟩
set_option maxHeartbeats 4000000 in
set_option maxRecDepth 20000 in
theorem sgX7_off_0 {κ : Kx} {K : Kont} {M : Mem} (C : Cx κ RX7 cX7_off 2 (some .int) rmX7_off domC) (x1 : Int)
    (h :
    spX7_hasPicture x1 M (rI (fun r2 M2 =>
    ((r2 ≠ 0 →
      spX4_has 0 x1 M2 (rI (fun r15 M15 =>
      ((r15 ≠ 0 →
        spX4_dropWithNeeders 0 x1 M15 (rI (fun r29 M29 =>
        K (some r29) M29))) ∧
       (¬ (r15 ≠ 0) →
        K (some (-2)) M15))))) ∧
     (¬ (r2 ≠ 0) →
      K (some (-1)) M2))))) : V κ 2 M 0 [some (.inr (0, 0)), some (.inl x1)] [] K := by
  refine v_aload_n C dX7_off_0 rfl ?_
  refine v_iload_n C dX7_off_1 rfl ?_
  refine v_invV C ctX7_hasPicture dX7_off_2 ivX7_135 ⟨by decide, by decide, rfl, rfl⟩ (x1 : Int) (As := [.inl x1]) rfl rfl rfl (by decide) rfl (st := []) rfl (Nat.le_of_ble_eq_true rfl) h (fun o M2 oM2 io2 g2 => ?_)
  replace h := rI_out g2
  clear g2
  obtain ⟨r2, rfl, h⟩ := h
  refine v_push ?_
  refine v_if C dX7_off_5 (tgt := 10) (by decide) (P := r2 ≠ 0) rfl (fun c5 => ?_) (fun c5 => ?_)
  · replace h := h.1 c5
    refine v_aload_n C dX7_off_10 rfl ?_
    refine v_get C dX7_off_11 flX7_45 rfl (by decide) (by decide) (w := .inr (18, 0)) rfl ?_
    refine v_iload_n C dX7_off_14 rfl ?_
    refine v_invV C ctX4_has dX7_off_15 ivX7_170 ⟨by decide, by decide, rfl, rfl⟩ ((0, x1) : Int × Int) (As := [.inl x1]) rfl rfl rfl (by decide) rfl (st := []) rfl (Nat.le_of_ble_eq_true rfl) h (fun o M15 oM15 io15 g15 => ?_)
    replace h := rI_out g15
    clear g15
    obtain ⟨r15, rfl, h⟩ := h
    refine v_push ?_
    refine v_if C dX7_off_18 (tgt := 24) (by decide) (P := r15 ≠ 0) rfl (fun c18 => ?_) (fun c18 => ?_)
    · replace h := h.1 c18
      refine v_aload_n C dX7_off_24 rfl ?_
      refine v_get C dX7_off_25 flX7_45 rfl (by decide) (by decide) (w := .inr (18, 0)) rfl ?_
      refine v_iload_n C dX7_off_28 rfl ?_
      refine v_invV C ctX4_dropWithNeeders dX7_off_29 ivX7_173 ⟨by decide, by decide, rfl, rfl⟩ ((0, x1) : Int × Int) (As := [.inl x1]) rfl rfl rfl (by decide) rfl (st := []) rfl (Nat.le_of_ble_eq_true rfl) h (fun o M29 oM29 io29 g29 => ?_)
      replace h := rI_out g29
      clear g29
      obtain ⟨r29, rfl, h⟩ := h
      refine v_push ?_
      exact v_iret C dX7_off_32 h
    · replace h := h.2 c18
      refine v_bipush C dX7_off_21 (by decide) (by decide) ?_
      exact v_iret C dX7_off_23 h
  · replace h := h.2 c5
    refine v_iconst C dX7_off_8 (by decide) ?_
    exact v_iret C dX7_off_9 h
abbrev spX7_off (p : Int) (M : Mem) (K : Kont) : Prop := InvC M ∧ (¬ (0 ≤ p ∧ p < cFilm M 1 3 0 0) → K (some (-1)) M) ∧ ((0 ≤ p ∧ p < cFilm M 1 3 0 0) → M 19 0 p = -4 → K (some (-2)) M) ∧
  ((0 ≤ p ∧ p < cFilm M 1 3 0 0) → M 19 0 p ≠ -4 → ∀ M', InvC M' → Ch M M' (cFilm M 1) (offD (cFilm M 1) p (M 19 0)) (offD (cFilm M 1) p (M 20 0)) → K (some (dpN (cFilm M 1) p (M 19 0) (cFilm M 1 3 0 0).toNat)) M')
theorem ctX7_off : CtX7_off spX7_off := by
  refine ct_of (by decide) dmC (fun _ => Nat.le_of_ble_eq_true rfl) ?_
  intro κ p M K C oM h
  dsimp only [spX7_off] at h
  obtain ⟨hI, k1, k2, k3⟩ := h
  have hf := hI.1.2.1
  have n3 := hf.2.2.2.1
  have e3 : cFilm M 1 3 0 0 = M 5 1 7 := rfl
  refine sgX7_off_0 C p ⟨fun c => ?_, fun c => k1 (fun z => if10n (by omega) z)⟩
  have c1 := if10 c
  refine ⟨⟨c1.1, by omega⟩, fun c2 => ?_, fun c2 => k2 c1 (if01 (by omega))⟩
  have c3 := if01n c2
  refine ⟨⟨hf, hI.1.2.2.2.2, c1, c3⟩, fun N hA hE => ?_⟩
  have hI2 : InvC N := InvC_plan hI hA (PlV_c hf FEq.rf hE (PlV_offD hf hI.1.2.2.2.2))
  refine k3 c1 c3 N hI2 ⟨by rw [hA 0 0 (by omega)], hA 1 0 (by omega), fun r a => by funext i; exact hA r i (by omega), by rw [hA.film 1]; exact FEq.rf, hE⟩
