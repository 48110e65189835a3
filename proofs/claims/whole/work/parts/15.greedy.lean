/-! ===== GreedyFinder ===== -/
/-! ===== GapTellings$GreedyFinder.versionBit ===== -/
abbrev rmX2_versionBit : Room := { frames := 0, cells := 0, slots := 0, locals := 0 }
abbrev argX2_versionBit (a : Int × Int) : List PV := [.inr (23, 0), .inl a.1, .inl a.2]
abbrev CtX2_versionBit (sp : Int → Int → Mem → Kont → Prop) : Prop := Ct yX2_versionBit cX2_versionBit 3 (some .int) rmX2_versionBit domC argX2_versionBit (fun a => sp a.1 a.2)
theorem dX2_versionBit_0 : decode cX2_versionBit 0 = .ok (.iconst 1, 1) := by decide +kernel
theorem dX2_versionBit_1 : decode cX2_versionBit 1 = .ok (.iload_n 1, 1) := by decide +kernel
theorem dX2_versionBit_2 : decode cX2_versionBit 2 = .ok (.iconst 3, 1) := by decide +kernel
theorem dX2_versionBit_3 : decode cX2_versionBit 3 = .ok (.imul, 1) := by decide +kernel
theorem dX2_versionBit_4 : decode cX2_versionBit 4 = .ok (.iload_n 2, 1) := by decide +kernel
theorem dX2_versionBit_5 : decode cX2_versionBit 5 = .ok (.iadd, 1) := by decide +kernel
theorem dX2_versionBit_6 : decode cX2_versionBit 6 = .ok (.ishl, 1) := by decide +kernel
theorem dX2_versionBit_7 : decode cX2_versionBit 7 = .ok (.ireturn, 1) := by decide +kernel
set_option maxHeartbeats 4000000 in
set_option maxRecDepth 20000 in
theorem sgX2_versionBit_0 {κ : Kx} {K : Kont} {M : Mem} (C : Cx κ RX2 cX2_versionBit 3 (some .int) rmX2_versionBit domC) (x1 : Int) (x2 : Int)
    (h :
    inR (x1 * 3) ∧
    inR ((x1 * 3) + x2) ∧
    K (some (bShl 1 ((x1 * 3) + x2))) M) : V κ 3 M 0 [some (.inr (23, 0)), some (.inl x1), some (.inl x2)] [] K := by
  refine v_iconst C dX2_versionBit_0 (by decide) ?_
  refine v_iload_n C dX2_versionBit_1 rfl ?_
  refine v_iconst C dX2_versionBit_2 (by decide) ?_
  refine v_imul C dX2_versionBit_3 h.1 ?_
  replace h := h.2
  refine v_iload_n C dX2_versionBit_4 rfl ?_
  refine v_iadd C dX2_versionBit_5 h.1 ?_
  replace h := h.2
  refine v_ishl C dX2_versionBit_6 ?_
  exact v_iret C dX2_versionBit_7 h
abbrev spX2_versionBit (p v : Int) (M : Mem) (K : Kont) : Prop := (0 ≤ p ∧ p < 7 ∧ 0 ≤ v ∧ v < 3) ∧ K (some (bShl 1 (p * 3 + v))) M
theorem ctX2_versionBit : CtX2_versionBit spX2_versionBit := by
  refine ct_of (by decide) dmC (fun _ => Nat.le_of_ble_eq_true rfl) ?_
  intro κ a M K C oM h
  obtain ⟨p, v⟩ := a
  dsimp only [spX2_versionBit] at h
  exact sgX2_versionBit_0 C p v ⟨by omega, by omega, h.2⟩
/-- what the finder has found -/
def fnd (M : Mem) : gSt := (M 23 0 8, M 23 0 9, M 23 0 5, M 23 0 6, M 23 0 7)
/-- nothing but that has changed -/
def AgF (M M' : Mem) : Prop := ∀ r i j, ¬ (r = 23 ∧ i = 0 ∧ 5 ≤ j ∧ j ≤ 9) → M' r i j = M r i j
theorem AgF.rf {M : Mem} : AgF M M := fun _ _ _ _ => rfl
theorem AgF.tr {M M' M2 : Mem} (h : AgF M M') (h2 : AgF M' M2) : AgF M M2 := fun r i j hn => (h2 r i j hn).trans (h r i j hn)
theorem AgF.up {M M' : Mem} (h : AgF M M') {j v : Int} (h5 : 5 ≤ j) (h9 : j ≤ 9) : AgF M (up3 M' 23 0 j v) := by
  intro r i j' hn
  rw [← h r i j' hn]
  exact if_neg (fun q => hn ⟨q.1, q.2.1, by omega, by omega⟩)
theorem AgF.reg {M M' : Mem} (h : AgF M M') {r : Nat} (hr : r ≠ 23) : M' r = M r := by
  funext i j
  exact h r i j (fun q => hr q.1)
theorem AgF.film {M M' : Mem} (h : AgF M M') (f : Int) : cFilm M' f = cFilm M f := cFilm_eq (fun r h1 h2 => h.reg (by omega)) f
/-! ===== GapTellings$GreedyFinder.offer ===== -/
abbrev rmX2_offer : Room := { frames := 2, cells := 0, slots := 0, locals := 48 }
abbrev argX2_offer (a : Int × Int × Int) : List PV := [.inr (23, 0), .inl a.1, .inl a.2.1, .inl a.2.2]
abbrev CtX2_offer (sp : Int → Int → Int → Mem → Kont → Prop) : Prop := Ct yX2_offer cX2_offer 6 none rmX2_offer domC argX2_offer (fun a => sp a.1 a.2.1 a.2.2)
theorem dX2_offer_0 : decode cX2_offer 0 = .ok (.aload_n 0, 1) := by decide +kernel
theorem dX2_offer_1 : decode cX2_offer 1 = .ok (.getfield 9, 3) := by decide +kernel
theorem dX2_offer_4 : decode cX2_offer 4 = .ok (.getfield 74, 3) := by decide +kernel
theorem dX2_offer_7 : decode cX2_offer 7 = .ok (.iload_n 1, 1) := by decide +kernel
theorem dX2_offer_8 : decode cX2_offer 8 = .ok (.aaload, 1) := by decide +kernel
theorem dX2_offer_9 : decode cX2_offer 9 = .ok (.getfield 83, 3) := by decide +kernel
theorem dX2_offer_12 : decode cX2_offer 12 = .ok (.iload_n 2, 1) := by decide +kernel
theorem dX2_offer_13 : decode cX2_offer 13 = .ok (.iaload, 1) := by decide +kernel
theorem dX2_offer_14 : decode cX2_offer 14 = .ok (.istore 4, 2) := by decide +kernel
theorem dX2_offer_16 : decode cX2_offer 16 = .ok (.aload_n 0, 1) := by decide +kernel
theorem dX2_offer_17 : decode cX2_offer 17 = .ok (.getfield 15, 3) := by decide +kernel
theorem dX2_offer_20 : decode cX2_offer 20 = .ok (.iload_n 1, 1) := by decide +kernel
theorem dX2_offer_21 : decode cX2_offer 21 = .ok (.iload_n 2, 1) := by decide +kernel
theorem dX2_offer_22 : decode cX2_offer 22 = .ok (.iload_n 3, 1) := by decide +kernel
theorem dX2_offer_23 : decode cX2_offer 23 = .ok (.invokevirtual 118, 3) := by decide +kernel
theorem dX2_offer_26 : decode cX2_offer 26 = .ok (.istore 5, 2) := by decide +kernel
theorem dX2_offer_28 : decode cX2_offer 28 = .ok (.iload 4, 2) := by decide +kernel
theorem dX2_offer_30 : decode cX2_offer 30 = .ok (.aload_n 0, 1) := by decide +kernel
theorem dX2_offer_31 : decode cX2_offer 31 = .ok (.getfield 42, 3) := by decide +kernel
theorem dX2_offer_34 : decode cX2_offer 34 = .ok (.if_icmp .gt 21, 3) := by decide +kernel
theorem dX2_offer_37 : decode cX2_offer 37 = .ok (.iload 4, 2) := by decide +kernel
theorem dX2_offer_39 : decode cX2_offer 39 = .ok (.aload_n 0, 1) := by decide +kernel
theorem dX2_offer_40 : decode cX2_offer 40 = .ok (.getfield 42, 3) := by decide +kernel
theorem dX2_offer_43 : decode cX2_offer 43 = .ok (.if_icmp .ne 39, 3) := by decide +kernel
theorem dX2_offer_46 : decode cX2_offer 46 = .ok (.iload 5, 2) := by decide +kernel
theorem dX2_offer_48 : decode cX2_offer 48 = .ok (.aload_n 0, 1) := by decide +kernel
theorem dX2_offer_49 : decode cX2_offer 49 = .ok (.getfield 45, 3) := by decide +kernel
theorem dX2_offer_52 : decode cX2_offer 52 = .ok (.if_icmp .le 30, 3) := by decide +kernel
theorem dX2_offer_55 : decode cX2_offer 55 = .ok (.aload_n 0, 1) := by decide +kernel
theorem dX2_offer_56 : decode cX2_offer 56 = .ok (.iload_n 1, 1) := by decide +kernel
theorem dX2_offer_57 : decode cX2_offer 57 = .ok (.putfield 48, 3) := by decide +kernel
theorem dX2_offer_60 : decode cX2_offer 60 = .ok (.aload_n 0, 1) := by decide +kernel
theorem dX2_offer_61 : decode cX2_offer 61 = .ok (.iload_n 2, 1) := by decide +kernel
theorem dX2_offer_62 : decode cX2_offer 62 = .ok (.putfield 51, 3) := by decide +kernel
theorem dX2_offer_65 : decode cX2_offer 65 = .ok (.aload_n 0, 1) := by decide +kernel
theorem dX2_offer_66 : decode cX2_offer 66 = .ok (.iload_n 3, 1) := by decide +kernel
theorem dX2_offer_67 : decode cX2_offer 67 = .ok (.putfield 54, 3) := by decide +kernel
theorem dX2_offer_70 : decode cX2_offer 70 = .ok (.aload_n 0, 1) := by decide +kernel
theorem dX2_offer_71 : decode cX2_offer 71 = .ok (.iload 4, 2) := by decide +kernel
theorem dX2_offer_73 : decode cX2_offer 73 = .ok (.putfield 42, 3) := by decide +kernel
theorem dX2_offer_76 : decode cX2_offer 76 = .ok (.aload_n 0, 1) := by decide +kernel
theorem dX2_offer_77 : decode cX2_offer 77 = .ok (.iload 5, 2) := by decide +kernel
theorem dX2_offer_79 : decode cX2_offer 79 = .ok (.putfield 45, 3) := by decide +kernel
theorem dX2_offer_82 : decode cX2_offer 82 = .ok (.return_, 1) := by decide +kernel
theorem flX2_9 : FL RX2 9 2 0 := ⟨_, _, _, rfl, by decide, uwX2, Or.inl (tb_mem (t_in1 (List.mem_of_getElem? (i := 227) (by decide +kernel))) (by decide +kernel))⟩
theorem flX2_74 : FL RX2 74 1 8 := ⟨_, _, _, rfl, by decide, uwX1, Or.inr ⟨"GapTellings", (nw_mem (t_in1 (List.mem_of_getElem? (i := 139) (by decide +kernel))) (by decide +kernel))⟩⟩
theorem flX2_83 : FL RX2 83 3 6 := ⟨_, _, _, rfl, by decide, uwX3, Or.inr ⟨"GapTellings", (nw_mem (t_in1 (List.mem_of_getElem? (i := 88) (by decide +kernel))) (by decide +kernel))⟩⟩
theorem flX2_15 : FL RX2 15 2 1 := ⟨_, _, _, rfl, by decide, uwX2, Or.inl (tb_mem (t_in1 (List.mem_of_getElem? (i := 228) (by decide +kernel))) (by decide +kernel))⟩
theorem ivX2_118 : IV RX2 118 yX6_gainOf cX6_gainOf 8 (some .int) 3 := ⟨(tb_mem (t_in4 (List.mem_of_getElem? (i := 88) (by decide +kernel))) (by decide +kernel)), (tb_mem (t_in3 (List.mem_of_getElem? (i := 120) (by decide +kernel))) (by decide +kernel)), (tb_mem (t_in3 (List.mem_of_getElem? (i := 121) (by decide +kernel))) (by decide +kernel)), (tb_mem (t_in1 (List.mem_of_getElem? (i := 5) (by decide +kernel))) (by decide +kernel)), (tb_mem (t_in3 (List.mem_of_getElem? (i := 122) (by decide +kernel))) (by decide +kernel)), ⟨by decide +kernel, by decide +kernel, by decide +kernel⟩⟩
theorem flX2_42 : FL RX2 42 2 8 := ⟨_, _, _, rfl, by decide, uwX2, Or.inl (tb_mem (t_in1 (List.mem_of_getElem? (i := 237) (by decide +kernel))) (by decide +kernel))⟩
theorem plX2_48 : PL RX2 48 2 5 .int := ⟨_, _, _, rfl, by decide, uwX2, Or.inl (tb_mem (t_in1 (List.mem_of_getElem? (i := 234) (by decide +kernel))) (by decide +kernel)), rfl, by decide +kernel, tyX2, tyX2_ok, nmX2⟩
theorem plX2_51 : PL RX2 51 2 6 .int := ⟨_, _, _, rfl, by decide, uwX2, Or.inl (tb_mem (t_in1 (List.mem_of_getElem? (i := 235) (by decide +kernel))) (by decide +kernel)), rfl, by decide +kernel, tyX2, tyX2_ok, nmX2⟩
theorem plX2_54 : PL RX2 54 2 7 .int := ⟨_, _, _, rfl, by decide, uwX2, Or.inl (tb_mem (t_in1 (List.mem_of_getElem? (i := 236) (by decide +kernel))) (by decide +kernel)), rfl, by decide +kernel, tyX2, tyX2_ok, nmX2⟩
theorem plX2_42 : PL RX2 42 2 8 .int := ⟨_, _, _, rfl, by decide, uwX2, Or.inl (tb_mem (t_in1 (List.mem_of_getElem? (i := 237) (by decide +kernel))) (by decide +kernel)), rfl, by decide +kernel, tyX2, tyX2_ok, nmX2⟩
theorem plX2_45 : PL RX2 45 2 9 .int := ⟨_, _, _, rfl, by decide, uwX2, Or.inl (tb_mem (t_in1 (List.mem_of_getElem? (i := 238) (by decide +kernel))) (by decide +kernel)), rfl, by decide +kernel, tyX2, tyX2_ok, nmX2⟩
theorem flX2_45 : FL RX2 45 2 9 := ⟨_, _, _, rfl, by decide, uwX2, Or.inl (tb_mem (t_in1 (List.mem_of_getElem? (i := 238) (by decide +kernel))) (by decide +kernel))⟩
set_option maxHeartbeats 4000000 in
set_option maxRecDepth 20000 in
theorem sgX2_offer_0 {κ : Kx} {K : Kont} {M : Mem} (C : Cx κ RX2 cX2_offer 6 none rmX2_offer domC) (x1 : Int) (x2 : Int) (x3 : Int)
    (h :
    (0 ≤ x1 ∧ x1 < 7) ∧
    (0 ≤ x2 ∧ x2 < 3) ∧
    ∀ y4_14 : Int, y4_14 = M 13 (7 * 1 + x1) x2 →
    spX6_gainOf 0 x1 x2 x3 M (rI (fun r23 M23 =>
    (((M23 23 0 8) < y4_14 →
      ∀ M57 : Mem, M57 = up3 M23 23 0 5 x1 →
      ∀ M62 : Mem, M62 = up3 M57 23 0 6 x2 →
      ∀ M67 : Mem, M67 = up3 M62 23 0 7 x3 →
      ∀ M73 : Mem, M73 = up3 M67 23 0 8 y4_14 →
      ∀ M79 : Mem, M79 = up3 M73 23 0 9 r23 →
      K none M79) ∧
     (¬ ((M23 23 0 8) < y4_14) →
      ((y4_14 ≠ (M23 23 0 8) →
        K none M23) ∧
       (¬ (y4_14 ≠ (M23 23 0 8)) →
        ((r23 ≤ (M23 23 0 9) →
          K none M23) ∧
         (¬ (r23 ≤ (M23 23 0 9)) →
          ∀ M57 : Mem, M57 = up3 M23 23 0 5 x1 →
          ∀ M62 : Mem, M62 = up3 M57 23 0 6 x2 →
          ∀ M67 : Mem, M67 = up3 M62 23 0 7 x3 →
          ∀ M73 : Mem, M73 = up3 M67 23 0 8 y4_14 →
          ∀ M79 : Mem, M79 = up3 M73 23 0 9 r23 →
          K none M79))))))))) : V κ 6 M 0 [some (.inr (23, 0)), some (.inl x1), some (.inl x2), some (.inl x3), none, none] [] K := by
  refine v_aload_n C dX2_offer_0 rfl ?_
  refine v_get C dX2_offer_1 flX2_9 rfl (by decide) (by decide) (w := .inr (5, 1)) rfl ?_
  refine v_get C dX2_offer_4 flX2_74 rfl (by decide) (by decide) (w := .inr (10, 1)) rfl ?_
  refine v_iload_n C dX2_offer_7 rfl ?_
  refine v_aald C dX2_offer_8 h.1.1 h.1.2 ?_
  replace h := h.2
  refine v_get C dX2_offer_9 flX2_83 rfl (by decide) (by decide) (w := .inr (13, 7 * 1 + x1)) rfl ?_
  refine v_iload_n C dX2_offer_12 rfl ?_
  refine v_iald C dX2_offer_13 rfl h.1.1 h.1.2 ?_
  replace h := h.2
  refine v_nm (fun y4_14 ey4_14 => ?_)
  replace h := h y4_14 ey4_14
  refine v_istore C dX2_offer_14 (by decide) (Nat.le_of_ble_eq_true rfl) (lv' := [some (.inr (23, 0)), some (.inl x1), some (.inl x2), some (.inl x3), some (.inl y4_14), none]) rfl ?_
  refine v_aload_n C dX2_offer_16 rfl ?_
  refine v_get C dX2_offer_17 flX2_15 rfl (by decide) (by decide) (w := .inr (14, 0)) rfl ?_
  refine v_iload_n C dX2_offer_20 rfl ?_
  refine v_iload_n C dX2_offer_21 rfl ?_
  refine v_iload_n C dX2_offer_22 rfl ?_
  refine v_invV C ctX6_gainOf dX2_offer_23 ivX2_118 ⟨by decide, by decide, rfl, rfl⟩ ((0, x1, x2, x3) : Int × Int × Int × Int) (As := [.inl x1, .inl x2, .inl x3]) rfl rfl rfl (by decide) rfl (st := []) rfl (Nat.le_of_ble_eq_true rfl) h (fun o M23 oM23 io23 h => ?_)
  obtain ⟨r23, rfl, h⟩ := rI_out h
  refine v_push ?_
  refine v_istore C dX2_offer_26 (by decide) (Nat.le_of_ble_eq_true rfl) (lv' := [some (.inr (23, 0)), some (.inl x1), some (.inl x2), some (.inl x3), some (.inl y4_14), some (.inl r23)]) rfl ?_
  refine v_iload C dX2_offer_28 rfl ?_
  refine v_aload_n C dX2_offer_30 rfl ?_
  refine v_get C dX2_offer_31 flX2_42 rfl (by decide) (by decide) (w := .inl (M23 23 0 8)) rfl ?_
  refine v_icmp C dX2_offer_34 (tgt := 55) (by decide) (P := (M23 23 0 8) < y4_14) rfl (fun c34 => ?_) (fun c34 => ?_)
  · replace h := h.1 c34
    refine v_aload_n C dX2_offer_55 rfl ?_
    refine v_iload_n C dX2_offer_56 rfl ?_
    refine v_put C dX2_offer_57 plX2_48 rfl (by decide) (by decide) rfl rfl rfl ?_
    refine v_nmM (fun M57 eM57 => ?_)
    replace h := h M57 eM57
    refine v_aload_n C dX2_offer_60 rfl ?_
    refine v_iload_n C dX2_offer_61 rfl ?_
    refine v_put C dX2_offer_62 plX2_51 rfl (by decide) (by decide) rfl rfl rfl ?_
    refine v_nmM (fun M62 eM62 => ?_)
    replace h := h M62 eM62
    refine v_aload_n C dX2_offer_65 rfl ?_
    refine v_iload_n C dX2_offer_66 rfl ?_
    refine v_put C dX2_offer_67 plX2_54 rfl (by decide) (by decide) rfl rfl rfl ?_
    refine v_nmM (fun M67 eM67 => ?_)
    replace h := h M67 eM67
    refine v_aload_n C dX2_offer_70 rfl ?_
    refine v_iload C dX2_offer_71 rfl ?_
    refine v_put C dX2_offer_73 plX2_42 rfl (by decide) (by decide) rfl rfl rfl ?_
    refine v_nmM (fun M73 eM73 => ?_)
    replace h := h M73 eM73
    refine v_aload_n C dX2_offer_76 rfl ?_
    refine v_iload C dX2_offer_77 rfl ?_
    refine v_put C dX2_offer_79 plX2_45 rfl (by decide) (by decide) rfl rfl rfl ?_
    refine v_nmM (fun M79 eM79 => ?_)
    replace h := h M79 eM79
    exact v_vret C dX2_offer_82 h
  · replace h := h.2 c34
    refine v_iload C dX2_offer_37 rfl ?_
    refine v_aload_n C dX2_offer_39 rfl ?_
    refine v_get C dX2_offer_40 flX2_42 rfl (by decide) (by decide) (w := .inl (M23 23 0 8)) rfl ?_
    refine v_icmp C dX2_offer_43 (tgt := 82) (by decide) (P := y4_14 ≠ (M23 23 0 8)) rfl (fun c43 => ?_) (fun c43 => ?_)
    · replace h := h.1 c43
      exact v_vret C dX2_offer_82 h
    · replace h := h.2 c43
      refine v_iload C dX2_offer_46 rfl ?_
      refine v_aload_n C dX2_offer_48 rfl ?_
      refine v_get C dX2_offer_49 flX2_45 rfl (by decide) (by decide) (w := .inl (M23 23 0 9)) rfl ?_
      refine v_icmp C dX2_offer_52 (tgt := 82) (by decide) (P := r23 ≤ (M23 23 0 9)) rfl (fun c52 => ?_) (fun c52 => ?_)
      · replace h := h.1 c52
        exact v_vret C dX2_offer_82 h
      · replace h := h.2 c52
        refine v_aload_n C dX2_offer_55 rfl ?_
        refine v_iload_n C dX2_offer_56 rfl ?_
        refine v_put C dX2_offer_57 plX2_48 rfl (by decide) (by decide) rfl rfl rfl ?_
        refine v_nmM (fun M57 eM57 => ?_)
        replace h := h M57 eM57
        refine v_aload_n C dX2_offer_60 rfl ?_
        refine v_iload_n C dX2_offer_61 rfl ?_
        refine v_put C dX2_offer_62 plX2_51 rfl (by decide) (by decide) rfl rfl rfl ?_
        refine v_nmM (fun M62 eM62 => ?_)
        replace h := h M62 eM62
        refine v_aload_n C dX2_offer_65 rfl ?_
        refine v_iload_n C dX2_offer_66 rfl ?_
        refine v_put C dX2_offer_67 plX2_54 rfl (by decide) (by decide) rfl rfl rfl ?_
        refine v_nmM (fun M67 eM67 => ?_)
        replace h := h M67 eM67
        refine v_aload_n C dX2_offer_70 rfl ?_
        refine v_iload C dX2_offer_71 rfl ?_
        refine v_put C dX2_offer_73 plX2_42 rfl (by decide) (by decide) rfl rfl rfl ?_
        refine v_nmM (fun M73 eM73 => ?_)
        replace h := h M73 eM73
        refine v_aload_n C dX2_offer_76 rfl ?_
        refine v_iload C dX2_offer_77 rfl ?_
        refine v_put C dX2_offer_79 plX2_45 rfl (by decide) (by decide) rfl rfl rfl ?_
        refine v_nmM (fun M79 eM79 => ?_)
        replace h := h M79 eM79
        exact v_vret C dX2_offer_82 h
abbrev spX2_offer (p v t : Int) (M : Mem) (K : Kont) : Prop := (WFf (cFilm M 1) ∧ TrB M 0 ∧ (0 ≤ p ∧ p < M 5 1 7) ∧ (0 ≤ v ∧ v < M 11 (7 * 1 + p) 4) ∧ (0 ≤ t ∧ t < M 5 1 0)) ∧
  ∀ M', AgF M M' → fnd M' = offS (cFilm M 1) (M 17 0) p v t (fnd M) → K none M'
theorem ctX2_offer : CtX2_offer spX2_offer := by
  refine ct_of (by decide) dmC (fun _ => Nat.le_of_ble_eq_true rfl) ?_
  intro κ a M K C oM h
  obtain ⟨p, v, t⟩ := a
  dsimp only [spX2_offer] at h
  obtain ⟨⟨hf, hb, hp, hv, ht⟩, hk⟩ := h
  have hw := wf_pv hf hp.1 hp.2 hv.1 hv.2
  simp only [cFilm] at hw
  have new : ∀ y, y = M 13 (7 * 1 + p) v → ∀ (c : (fnd M).1 < (cFilm M 1) 14 p v ∨ ((cFilm M 1) 14 p v = (fnd M).1 ∧ (fnd M).2.1 < gainW (cFilm M 1) (M 17 0) p v t)), ∀ M57 : Mem, M57 = up3 M 23 0 5 p → ∀ M62 : Mem, M62 = up3 M57 23 0 6 v → ∀ M67 : Mem, M67 = up3 M62 23 0 7 t → ∀ M73 : Mem, M73 = up3 M67 23 0 8 y →
      ∀ M79 : Mem, M79 = up3 M73 23 0 9 (gainW (cFilm M 1) (M 17 0) p v t) → K none M79 := by
    intro y ey c M1 e1 M2 e2 M3 e3 M4 e4 M5 e5
    refine hk M5 ?_ ?_
    · rw [e5, e4, e3, e2, e1]
      exact ((((AgF.rf.up (by decide) (by decide)).up (by decide) (by decide)).up (by decide) (by decide)).up (by decide) (by decide)).up (by decide) (by decide)
    · unfold offS
      rw [if_pos c]
      unfold fnd
      rw [e5, e4, e3, e2, e1, ey]
      simp [up3, cFilm]
  refine sgX2_offer_0 C p v t ⟨by omega, by omega, fun y ey => ⟨⟨hf, hb, hp, hv, ht⟩, fun c => ?_, fun c => ⟨fun c2 => ?_, fun c2 => ⟨fun c3 => ?_, fun c3 => ?_⟩⟩⟩⟩
  · exact new y ey (Or.inl (by show M 23 0 8 < M 13 (7 * 1 + p) v; omega))
  · refine hk M AgF.rf ?_
    unfold offS
    rw [if_neg]
    rintro (z | z)
    · have : M 23 0 8 < M 13 (7 * 1 + p) v := z
      omega
    · have : M 13 (7 * 1 + p) v = M 23 0 8 := z.1
      omega
  · refine hk M AgF.rf ?_
    unfold offS
    rw [if_neg]
    rintro (z | z)
    · have : M 23 0 8 < M 13 (7 * 1 + p) v := z
      omega
    · have : M 23 0 9 < gainW (cFilm M 1) (M 17 0) p v t := z.2
      omega
  · exact new y ey (Or.inr ⟨by show M 13 (7 * 1 + p) v = M 23 0 8; omega, by show M 23 0 9 < _; omega⟩)
/-! ===== GapTellings$GreedyFinder.lookAtTicks ===== -/
abbrev rmX2_lookAtTicks : Room := { frames := 3, cells := 0, slots := 0, locals := 73 }
abbrev argX2_lookAtTicks (a : Int × Int) : List PV := [.inr (23, 0), .inl a.1, .inl a.2]
abbrev CtX2_lookAtTicks (sp : Int → Int → Mem → Kont → Prop) : Prop := Ct yX2_lookAtTicks cX2_lookAtTicks 7 none rmX2_lookAtTicks domC argX2_lookAtTicks (fun a => sp a.1 a.2)
theorem dX2_lookAtTicks_0 : decode cX2_lookAtTicks 0 = .ok (.aload_n 0, 1) := by decide +kernel
theorem dX2_lookAtTicks_1 : decode cX2_lookAtTicks 1 = .ok (.getfield 9, 3) := by decide +kernel
theorem dX2_lookAtTicks_4 : decode cX2_lookAtTicks 4 = .ok (.getfield 74, 3) := by decide +kernel
theorem dX2_lookAtTicks_7 : decode cX2_lookAtTicks 7 = .ok (.iload_n 1, 1) := by decide +kernel
theorem dX2_lookAtTicks_8 : decode cX2_lookAtTicks 8 = .ok (.aaload, 1) := by decide +kernel
theorem dX2_lookAtTicks_9 : decode cX2_lookAtTicks 9 = .ok (.astore_n 3, 1) := by decide +kernel
theorem dX2_lookAtTicks_10 : decode cX2_lookAtTicks 10 = .ok (.iconst 0, 1) := by decide +kernel
theorem dX2_lookAtTicks_11 : decode cX2_lookAtTicks 11 = .ok (.aload_n 3, 1) := by decide +kernel
theorem dX2_lookAtTicks_12 : decode cX2_lookAtTicks 12 = .ok (.getfield 91, 3) := by decide +kernel
theorem dX2_lookAtTicks_15 : decode cX2_lookAtTicks 15 = .ok (.aload_n 3, 1) := by decide +kernel
theorem dX2_lookAtTicks_16 : decode cX2_lookAtTicks 16 = .ok (.getfield 94, 3) := by decide +kernel
theorem dX2_lookAtTicks_19 : decode cX2_lookAtTicks 19 = .ok (.isub, 1) := by decide +kernel
theorem dX2_lookAtTicks_20 : decode cX2_lookAtTicks 20 = .ok (.invokestatic 97, 3) := by decide +kernel
theorem dX2_lookAtTicks_23 : decode cX2_lookAtTicks 23 = .ok (.istore 4, 2) := by decide +kernel
theorem dX2_lookAtTicks_25 : decode cX2_lookAtTicks 25 = .ok (.aload_n 0, 1) := by decide +kernel
theorem dX2_lookAtTicks_26 : decode cX2_lookAtTicks 26 = .ok (.getfield 9, 3) := by decide +kernel
theorem dX2_lookAtTicks_29 : decode cX2_lookAtTicks 29 = .ok (.getfield 102, 3) := by decide +kernel
theorem dX2_lookAtTicks_32 : decode cX2_lookAtTicks 32 = .ok (.iconst 1, 1) := by decide +kernel
theorem dX2_lookAtTicks_33 : decode cX2_lookAtTicks 33 = .ok (.isub, 1) := by decide +kernel
theorem dX2_lookAtTicks_34 : decode cX2_lookAtTicks 34 = .ok (.aload_n 3, 1) := by decide +kernel
theorem dX2_lookAtTicks_35 : decode cX2_lookAtTicks 35 = .ok (.getfield 91, 3) := by decide +kernel
theorem dX2_lookAtTicks_38 : decode cX2_lookAtTicks 38 = .ok (.aload_n 3, 1) := by decide +kernel
theorem dX2_lookAtTicks_39 : decode cX2_lookAtTicks 39 = .ok (.getfield 105, 3) := by decide +kernel
theorem dX2_lookAtTicks_42 : decode cX2_lookAtTicks 42 = .ok (.iadd, 1) := by decide +kernel
theorem dX2_lookAtTicks_43 : decode cX2_lookAtTicks 43 = .ok (.invokestatic 108, 3) := by decide +kernel
theorem dX2_lookAtTicks_46 : decode cX2_lookAtTicks 46 = .ok (.istore 5, 2) := by decide +kernel
theorem dX2_lookAtTicks_48 : decode cX2_lookAtTicks 48 = .ok (.iload 4, 2) := by decide +kernel
theorem dX2_lookAtTicks_50 : decode cX2_lookAtTicks 50 = .ok (.istore 6, 2) := by decide +kernel
theorem dX2_lookAtTicks_52 : decode cX2_lookAtTicks 52 = .ok (.iload 6, 2) := by decide +kernel
theorem dX2_lookAtTicks_54 : decode cX2_lookAtTicks 54 = .ok (.iload 5, 2) := by decide +kernel
theorem dX2_lookAtTicks_56 : decode cX2_lookAtTicks 56 = .ok (.if_icmp .gt 35, 3) := by decide +kernel
theorem dX2_lookAtTicks_59 : decode cX2_lookAtTicks 59 = .ok (.aload_n 0, 1) := by decide +kernel
theorem dX2_lookAtTicks_60 : decode cX2_lookAtTicks 60 = .ok (.getfield 24, 3) := by decide +kernel
theorem dX2_lookAtTicks_63 : decode cX2_lookAtTicks 63 = .ok (.aload_n 0, 1) := by decide +kernel
theorem dX2_lookAtTicks_64 : decode cX2_lookAtTicks 64 = .ok (.getfield 15, 3) := by decide +kernel
theorem dX2_lookAtTicks_67 : decode cX2_lookAtTicks 67 = .ok (.iload_n 1, 1) := by decide +kernel
theorem dX2_lookAtTicks_68 : decode cX2_lookAtTicks 68 = .ok (.iload_n 2, 1) := by decide +kernel
theorem dX2_lookAtTicks_69 : decode cX2_lookAtTicks 69 = .ok (.iload 6, 2) := by decide +kernel
theorem dX2_lookAtTicks_71 : decode cX2_lookAtTicks 71 = .ok (.invokevirtual 111, 3) := by decide +kernel
theorem dX2_lookAtTicks_74 : decode cX2_lookAtTicks 74 = .ok (.ifCond .ne 11, 3) := by decide +kernel
theorem dX2_lookAtTicks_77 : decode cX2_lookAtTicks 77 = .ok (.aload_n 0, 1) := by decide +kernel
theorem dX2_lookAtTicks_78 : decode cX2_lookAtTicks 78 = .ok (.iload_n 1, 1) := by decide +kernel
theorem dX2_lookAtTicks_79 : decode cX2_lookAtTicks 79 = .ok (.iload_n 2, 1) := by decide +kernel
theorem dX2_lookAtTicks_80 : decode cX2_lookAtTicks 80 = .ok (.iload 6, 2) := by decide +kernel
theorem dX2_lookAtTicks_82 : decode cX2_lookAtTicks 82 = .ok (.invokevirtual 115, 3) := by decide +kernel
theorem dX2_lookAtTicks_85 : decode cX2_lookAtTicks 85 = .ok (.iinc 6 1, 3) := by decide +kernel
theorem dX2_lookAtTicks_88 : decode cX2_lookAtTicks 88 = .ok (.goto (-36), 3) := by decide +kernel
theorem dX2_lookAtTicks_91 : decode cX2_lookAtTicks 91 = .ok (.return_, 1) := by decide +kernel
theorem flX2_91 : FL RX2 91 3 0 := ⟨_, _, _, rfl, by decide, uwX3, Or.inr ⟨"GapTellings", (nw_mem (t_in1 (List.mem_of_getElem? (i := 63) (by decide +kernel))) (by decide +kernel))⟩⟩
theorem flX2_94 : FL RX2 94 3 1 := ⟨_, _, _, rfl, by decide, uwX3, Or.inr ⟨"GapTellings", (nw_mem (t_in1 (List.mem_of_getElem? (i := 68) (by decide +kernel))) (by decide +kernel))⟩⟩
theorem ivX2_97 : IMax RX2 97 := ⟨(tb_mem (t_in4 (List.mem_of_getElem? (i := 81) (by decide +kernel))) (by decide +kernel)), (tb_mem (t_in2 (List.mem_of_getElem? (i := 117) (by decide +kernel))) (by decide +kernel)), (tb_mem (t_in1 (List.mem_of_getElem? (i := 11) (by decide +kernel))) (by decide +kernel)), (tb_mem (t_in2 (List.mem_of_getElem? (i := 118) (by decide +kernel))) (by decide +kernel))⟩
theorem flX2_102 : FL RX2 102 1 0 := ⟨_, _, _, rfl, by decide, uwX1, Or.inr ⟨"GapTellings", (nw_mem (t_in1 (List.mem_of_getElem? (i := 110) (by decide +kernel))) (by decide +kernel))⟩⟩
theorem flX2_105 : FL RX2 105 3 2 := ⟨_, _, _, rfl, by decide, uwX3, Or.inr ⟨"GapTellings", (nw_mem (t_in1 (List.mem_of_getElem? (i := 71) (by decide +kernel))) (by decide +kernel))⟩⟩
theorem ivX2_108 : IMin RX2 108 := ⟨(tb_mem (t_in4 (List.mem_of_getElem? (i := 82) (by decide +kernel))) (by decide +kernel)), (tb_mem (t_in2 (List.mem_of_getElem? (i := 32) (by decide +kernel))) (by decide +kernel)), (tb_mem (t_in1 (List.mem_of_getElem? (i := 11) (by decide +kernel))) (by decide +kernel)), (tb_mem (t_in2 (List.mem_of_getElem? (i := 33) (by decide +kernel))) (by decide +kernel))⟩
theorem flX2_24 : FL RX2 24 2 2 := ⟨_, _, _, rfl, by decide, uwX2, Or.inl (tb_mem (t_in1 (List.mem_of_getElem? (i := 229) (by decide +kernel))) (by decide +kernel))⟩
theorem ivX2_111 : IV RX2 111 yX4_whyNot cX4_whyNot 6 (some .int) 4 := ⟨(tb_mem (t_in4 (List.mem_of_getElem? (i := 83) (by decide +kernel))) (by decide +kernel)), (tb_mem (t_in3 (List.mem_of_getElem? (i := 58) (by decide +kernel))) (by decide +kernel)), (tb_mem (t_in3 (List.mem_of_getElem? (i := 59) (by decide +kernel))) (by decide +kernel)), (tb_mem (t_in1 (List.mem_of_getElem? (i := 6) (by decide +kernel))) (by decide +kernel)), (tb_mem (t_in3 (List.mem_of_getElem? (i := 60) (by decide +kernel))) (by decide +kernel)), ⟨by decide +kernel, by decide +kernel, by decide +kernel⟩⟩
theorem ivX2_115 : IV RX2 115 yX2_offer cX2_offer 6 none 3 := ⟨(tb_mem (t_in4 (List.mem_of_getElem? (i := 84) (by decide +kernel))) (by decide +kernel)), (tb_mem (t_in4 (List.mem_of_getElem? (i := 85) (by decide +kernel))) (by decide +kernel)), (tb_mem (t_in4 (List.mem_of_getElem? (i := 86) (by decide +kernel))) (by decide +kernel)), (tb_mem (t_in1 (List.mem_of_getElem? (i := 9) (by decide +kernel))) (by decide +kernel)), (tb_mem (t_in4 (List.mem_of_getElem? (i := 87) (by decide +kernel))) (by decide +kernel)), ⟨by decide +kernel, by decide +kernel, by decide +kernel⟩⟩
set_option maxHeartbeats 4000000 in
set_option maxRecDepth 20000 in
theorem sgX2_lookAtTicks_0 {κ : Kx} {K : Kont} {M : Mem} (C : Cx κ RX2 cX2_lookAtTicks 7 none rmX2_lookAtTicks domC) (x1 : Int) (x2 : Int)
    (h :
    (0 ≤ x1 ∧ x1 < 7) ∧
    inR ((M 11 (7 * 1 + x1) 0) - (M 11 (7 * 1 + x1) 1)) ∧
    ∀ y4_23 : Int, y4_23 = max 0 ((M 11 (7 * 1 + x1) 0) - (M 11 (7 * 1 + x1) 1)) →
    inR ((M 5 1 0) - 1) ∧
    inR ((M 11 (7 * 1 + x1) 0) + (M 11 (7 * 1 + x1) 2)) ∧
    ∀ y5_46 : Int, y5_46 = min ((M 5 1 0) - 1) ((M 11 (7 * 1 + x1) 0) + (M 11 (7 * 1 + x1) 2)) →
    V κ 7 M 52 [some (.inr (23, 0)), some (.inl x1), some (.inl x2), none, none, some (.inl y5_46), some (.inl y4_23)] [] K) : V κ 7 M 0 [some (.inr (23, 0)), some (.inl x1), some (.inl x2), none, none, none, none] [] K := by
  refine v_aload_n C dX2_lookAtTicks_0 rfl ?_
  refine v_get C dX2_lookAtTicks_1 flX2_9 rfl (by decide) (by decide) (w := .inr (5, 1)) rfl ?_
  refine v_get C dX2_lookAtTicks_4 flX2_74 rfl (by decide) (by decide) (w := .inr (10, 1)) rfl ?_
  refine v_iload_n C dX2_lookAtTicks_7 rfl ?_
  refine v_aald C dX2_lookAtTicks_8 h.1.1 h.1.2 ?_
  replace h := h.2
  refine v_astore_n C dX2_lookAtTicks_9 (by decide) (Nat.le_of_ble_eq_true rfl) (lv' := [some (.inr (23, 0)), some (.inl x1), some (.inl x2), some (.inr (11, 7 * 1 + x1)), none, none, none]) rfl ?_
  refine v_iconst C dX2_lookAtTicks_10 (by decide) ?_
  refine v_aload_n C dX2_lookAtTicks_11 rfl ?_
  refine v_get C dX2_lookAtTicks_12 flX2_91 rfl (by decide) (by decide) (w := .inl (M 11 (7 * 1 + x1) 0)) rfl ?_
  refine v_aload_n C dX2_lookAtTicks_15 rfl ?_
  refine v_get C dX2_lookAtTicks_16 flX2_94 rfl (by decide) (by decide) (w := .inl (M 11 (7 * 1 + x1) 1)) rfl ?_
  refine v_isub C dX2_lookAtTicks_19 h.1 ?_
  replace h := h.2
  refine v_max C dX2_lookAtTicks_20 ivX2_97 (Nat.le_of_ble_eq_true rfl) ⟨by decide, by decide⟩ ?_
  refine v_nm (fun y4_23 ey4_23 => ?_)
  replace h := h y4_23 ey4_23
  refine v_istore C dX2_lookAtTicks_23 (by decide) (Nat.le_of_ble_eq_true rfl) (lv' := [some (.inr (23, 0)), some (.inl x1), some (.inl x2), some (.inr (11, 7 * 1 + x1)), some (.inl y4_23), none, none]) rfl ?_
  refine v_aload_n C dX2_lookAtTicks_25 rfl ?_
  refine v_get C dX2_lookAtTicks_26 flX2_9 rfl (by decide) (by decide) (w := .inr (5, 1)) rfl ?_
  refine v_get C dX2_lookAtTicks_29 flX2_102 rfl (by decide) (by decide) (w := .inl (M 5 1 0)) rfl ?_
  refine v_iconst C dX2_lookAtTicks_32 (by decide) ?_
  refine v_isub C dX2_lookAtTicks_33 h.1 ?_
  replace h := h.2
  refine v_aload_n C dX2_lookAtTicks_34 rfl ?_
  refine v_get C dX2_lookAtTicks_35 flX2_91 rfl (by decide) (by decide) (w := .inl (M 11 (7 * 1 + x1) 0)) rfl ?_
  refine v_aload_n C dX2_lookAtTicks_38 rfl ?_
  refine v_get C dX2_lookAtTicks_39 flX2_105 rfl (by decide) (by decide) (w := .inl (M 11 (7 * 1 + x1) 2)) rfl ?_
  refine v_iadd C dX2_lookAtTicks_42 h.1 ?_
  replace h := h.2
  refine v_min C dX2_lookAtTicks_43 ivX2_108 (Nat.le_of_ble_eq_true rfl) ⟨by decide, by decide⟩ ?_
  refine v_nm (fun y5_46 ey5_46 => ?_)
  replace h := h y5_46 ey5_46
  refine v_istore C dX2_lookAtTicks_46 (by decide) (Nat.le_of_ble_eq_true rfl) (lv' := [some (.inr (23, 0)), some (.inl x1), some (.inl x2), some (.inr (11, 7 * 1 + x1)), some (.inl y4_23), some (.inl y5_46), none]) rfl ?_
  refine v_iload C dX2_lookAtTicks_48 rfl ?_
  refine v_istore C dX2_lookAtTicks_50 (by decide) (Nat.le_of_ble_eq_true rfl) (lv' := [some (.inr (23, 0)), some (.inl x1), some (.inl x2), some (.inr (11, 7 * 1 + x1)), some (.inl y4_23), some (.inl y5_46), some (.inl y4_23)]) rfl ?_
  refine v_weak [some (.inr (23, 0)), some (.inl x1), some (.inl x2), none, none, some (.inl y5_46), some (.inl y4_23)] ⟨rfl, rfl, rfl, rfl, rfl, trivial⟩ ?_
  exact h
set_option maxHeartbeats 4000000 in
set_option maxRecDepth 20000 in
theorem sgX2_lookAtTicks_52 {κ : Kx} {K : Kont} {M : Mem} (C : Cx κ RX2 cX2_lookAtTicks 7 none rmX2_lookAtTicks domC) (x1 : Int) (x2 : Int) (x5 : Int) (x6 : Int)
    (h :
    ((x5 < x6 →
      K none M) ∧
     (¬ (x5 < x6) →
      spX4_whyNot 2 0 x1 x2 x6 M (rI (fun r71 M71 =>
      ((r71 ≠ 0 →
        inR (x6 + 1) ∧
        V κ 7 M71 52 [some (.inr (23, 0)), some (.inl x1), some (.inl x2), none, none, some (.inl x5), some (.inl (x6 + 1))] [] K) ∧
       (¬ (r71 ≠ 0) →
        spX2_offer x1 x2 x6 M71 (rV (fun M82 =>
        inR (x6 + 1) ∧
        V κ 7 M82 52 [some (.inr (23, 0)), some (.inl x1), some (.inl x2), none, none, some (.inl x5), some (.inl (x6 + 1))] [] K))))))))) : V κ 7 M 52 [some (.inr (23, 0)), some (.inl x1), some (.inl x2), none, none, some (.inl x5), some (.inl x6)] [] K := by
  refine v_iload C dX2_lookAtTicks_52 rfl ?_
  refine v_iload C dX2_lookAtTicks_54 rfl ?_
  refine v_icmp C dX2_lookAtTicks_56 (tgt := 91) (by decide) (P := x5 < x6) rfl (fun c56 => ?_) (fun c56 => ?_)
  · replace h := h.1 c56
    exact v_vret C dX2_lookAtTicks_91 h
  · replace h := h.2 c56
    refine v_aload_n C dX2_lookAtTicks_59 rfl ?_
    refine v_get C dX2_lookAtTicks_60 flX2_24 rfl (by decide) (by decide) (w := .inr (18, 2)) rfl ?_
    refine v_aload_n C dX2_lookAtTicks_63 rfl ?_
    refine v_get C dX2_lookAtTicks_64 flX2_15 rfl (by decide) (by decide) (w := .inr (14, 0)) rfl ?_
    refine v_iload_n C dX2_lookAtTicks_67 rfl ?_
    refine v_iload_n C dX2_lookAtTicks_68 rfl ?_
    refine v_iload C dX2_lookAtTicks_69 rfl ?_
    refine v_invV C ctX4_whyNot dX2_lookAtTicks_71 ivX2_111 ⟨by decide, by decide, rfl, rfl⟩ ((2, 0, x1, x2, x6) : Int × Int × Int × Int × Int) (As := [.inr (14, 0), .inl x1, .inl x2, .inl x6]) rfl rfl rfl (by decide) rfl (st := []) rfl (Nat.le_of_ble_eq_true rfl) h (fun o M71 oM71 io71 h => ?_)
    obtain ⟨r71, rfl, h⟩ := rI_out h
    refine v_push ?_
    refine v_if C dX2_lookAtTicks_74 (tgt := 85) (by decide) (P := r71 ≠ 0) rfl (fun c74 => ?_) (fun c74 => ?_)
    · replace h := h.1 c74
      refine v_iinc C dX2_lookAtTicks_85 (by decide) rfl h.1 (lv' := [some (.inr (23, 0)), some (.inl x1), some (.inl x2), none, none, some (.inl x5), some (.inl (x6 + 1))]) rfl ?_
      replace h := h.2
      refine v_goto C dX2_lookAtTicks_88 (tgt := 52) (by decide) ?_
      refine v_weak [some (.inr (23, 0)), some (.inl x1), some (.inl x2), none, none, some (.inl x5), some (.inl (x6 + 1))] ⟨rfl, rfl, rfl, rfl, rfl, trivial⟩ ?_
      exact h
    · replace h := h.2 c74
      refine v_aload_n C dX2_lookAtTicks_77 rfl ?_
      refine v_iload_n C dX2_lookAtTicks_78 rfl ?_
      refine v_iload_n C dX2_lookAtTicks_79 rfl ?_
      refine v_iload C dX2_lookAtTicks_80 rfl ?_
      refine v_invV C ctX2_offer dX2_lookAtTicks_82 ivX2_115 ⟨by decide, by decide, rfl, rfl⟩ ((x1, x2, x6) : Int × Int × Int) (As := [.inl x1, .inl x2, .inl x6]) rfl rfl rfl (by decide) rfl (st := []) rfl (Nat.le_of_ble_eq_true rfl) h (fun o M82 oM82 io82 h => ?_)
      obtain ⟨rfl, h⟩ := rV_out h
      refine v_push0 ?_
      refine v_iinc C dX2_lookAtTicks_85 (by decide) rfl h.1 (lv' := [some (.inr (23, 0)), some (.inl x1), some (.inl x2), none, none, some (.inl x5), some (.inl (x6 + 1))]) rfl ?_
      replace h := h.2
      refine v_goto C dX2_lookAtTicks_88 (tgt := 52) (by decide) ?_
      refine v_weak [some (.inr (23, 0)), some (.inl x1), some (.inl x2), none, none, some (.inl x5), some (.inl (x6 + 1))] ⟨rfl, rfl, rfl, rfl, rfl, trivial⟩ ?_
      exact h
abbrev spX2_lookAtTicks (p v : Int) (M : Mem) (K : Kont) : Prop := (WFf (cFilm M 1) ∧ TrB M 0 ∧ PlK (cFilm M 1) (M 19 2) (M 20 2) ∧ (0 ≤ p ∧ p < M 5 1 7) ∧ (0 ≤ v ∧ v < M 11 (7 * 1 + p) 4)) ∧
  ∀ M', AgF M M' → fnd M' = grT (cFilm M 1) (M 16 0) (M 17 0) (M 19 2) (M 20 2) p v (M 5 1 0).toNat (fnd M) → K none M'
theorem ctX2_lookAtTicks : CtX2_lookAtTicks spX2_lookAtTicks := by
  refine ct_of (by decide) dmC (fun _ => Nat.le_of_ble_eq_true rfl) ?_
  intro κ a M K C oM h
  obtain ⟨p, v⟩ := a
  dsimp only [spX2_lookAtTicks] at h
  obtain ⟨⟨hf, hb, hP, hp, hv⟩, hk⟩ := h
  have hw := wf_pv hf hp.1 hp.2 hv.1 hv.2
  simp only [cFilm] at hw
  have loop : ∀ (n : Nat) (t e : Int) (N : Mem), 0 ≤ t → t + n = e + 1 → e < M 5 1 0 → (∀ u : Int, e + 1 ≤ u → u < M 5 1 0 → whyW (cFilm M 1) (M 16 0) (M 19 2) (M 20 2) p v u ≠ 0) → AgF M N → fnd N = grT (cFilm M 1) (M 16 0) (M 17 0) (M 19 2) (M 20 2) p v t.toNat (fnd M) →
      V κ 7 N 52 [some (.inr (23, 0)), some (.inl p), some (.inl v), none, none, some (.inl e), some (.inl t)] [] K := by
    intro n
    induction n with
    | zero =>
      intro t e N h0 hn he hout hA hfn
      refine sgX2_lookAtTicks_52 C p v e t ⟨fun c => ?_, fun c => absurd (by omega) c⟩
      refine hk N hA ?_
      rw [hfn]
      symm
      refine grT_same _ _ _ (fun u a b => hout u (by omega) (by omega)) (by omega)
    | succ n ih =>
      intro t e N h0 hn he hout hA hfn
      have e1 := hA.film 1
      have r16 := hA.reg (r := 16) (by decide)
      have r17 := hA.reg (r := 17) (by decide)
      have r19 := hA.reg (r := 19) (by decide)
      have r20 := hA.reg (r := 20) (by decide)
      have r5 := hA.reg (r := 5) (by decide)
      have r11 := hA.reg (r := 11) (by decide)
      refine sgX2_lookAtTicks_52 C p v e t ⟨fun c => absurd c (by omega), fun c => ⟨⟨by rw [e1]; exact hf, by rw [e1, r19, r20]; exact hP, by rw [r5]; exact hp, by rw [r11]; exact hv, by rw [r5]; omega⟩, ?_, ?_⟩⟩
      · intro c2
        rw [e1, r16, r19, r20] at c2
        refine ⟨by omega, ih (t + 1) e N (by omega) (by omega) he hout hA ?_⟩
        rw [grT_s _ _ _ _ _ _ _ h0, hfn]
        unfold grO
        rw [if_neg c2]
      · intro c2
        rw [e1, r16, r19, r20] at c2
        have c2' : whyW (cFilm M 1) (M 16 0) (M 19 2) (M 20 2) p v t = 0 := by omega
        refine ⟨⟨by rw [e1]; exact hf, fun u a b => by rw [r16, r17]; exact hb u a b, by rw [r5]; exact hp, by rw [r11]; exact hv, by rw [r5]; omega⟩, ?_⟩
        intro N2 hA2 hfn2
        refine ⟨by omega, ih (t + 1) e N2 (by omega) (by omega) he hout (hA.tr hA2) ?_⟩
        rw [hfn2, e1, r17, hfn, grT_s _ _ _ _ _ _ _ h0]
        unfold grO
        rw [if_pos c2']
  refine sgX2_lookAtTicks_0 C p v ⟨by omega, by omega, fun y4 ey4 => ⟨by omega, by omega, fun y5 ey5 => ?_⟩⟩
  refine loop (y5 + 1 - y4).toNat y4 y5 M (by omega) (by omega) (by omega) ?_ AgF.rf ?_
  · intro u a b
    refine why_out (Or.inr ?_)
    show M 11 (7 * 1 + p) 0 + M 11 (7 * 1 + p) 2 < u
    omega
  · symm
    refine grT_same 0 y4.toNat _ (fun u a b => why_out (Or.inl ?_)) (by omega)
    show u < M 11 (7 * 1 + p) 0 - M 11 (7 * 1 + p) 1
    omega
/-! ===== GapTellings$GreedyFinder.findWorthiest ===== -/
abbrev rmX2_findWorthiest : Room := { frames := 4, cells := 0, slots := 0, locals := 99 }
abbrev argX2_findWorthiest (a : Unit) : List PV := [.inr (23, 0)]
abbrev CtX2_findWorthiest (sp : Mem → Kont → Prop) : Prop := Ct yX2_findWorthiest cX2_findWorthiest 3 none rmX2_findWorthiest domC argX2_findWorthiest (fun _ => sp)
theorem dX2_findWorthiest_0 : decode cX2_findWorthiest 0 = .ok (.aload_n 0, 1) := by decide +kernel
theorem dX2_findWorthiest_1 : decode cX2_findWorthiest 1 = .ok (.iconst 0, 1) := by decide +kernel
theorem dX2_findWorthiest_2 : decode cX2_findWorthiest 2 = .ok (.putfield 42, 3) := by decide +kernel
theorem dX2_findWorthiest_5 : decode cX2_findWorthiest 5 = .ok (.aload_n 0, 1) := by decide +kernel
theorem dX2_findWorthiest_6 : decode cX2_findWorthiest 6 = .ok (.iconst 0, 1) := by decide +kernel
theorem dX2_findWorthiest_7 : decode cX2_findWorthiest 7 = .ok (.putfield 45, 3) := by decide +kernel
theorem dX2_findWorthiest_10 : decode cX2_findWorthiest 10 = .ok (.iconst 0, 1) := by decide +kernel
theorem dX2_findWorthiest_11 : decode cX2_findWorthiest 11 = .ok (.istore_n 1, 1) := by decide +kernel
theorem dX2_findWorthiest_12 : decode cX2_findWorthiest 12 = .ok (.iload_n 1, 1) := by decide +kernel
theorem dX2_findWorthiest_13 : decode cX2_findWorthiest 13 = .ok (.aload_n 0, 1) := by decide +kernel
theorem dX2_findWorthiest_14 : decode cX2_findWorthiest 14 = .ok (.getfield 9, 3) := by decide +kernel
theorem dX2_findWorthiest_17 : decode cX2_findWorthiest 17 = .ok (.getfield 65, 3) := by decide +kernel
theorem dX2_findWorthiest_20 : decode cX2_findWorthiest 20 = .ok (.if_icmp .ge 88, 3) := by decide +kernel
theorem dX2_findWorthiest_23 : decode cX2_findWorthiest 23 = .ok (.aload_n 0, 1) := by decide +kernel
theorem dX2_findWorthiest_24 : decode cX2_findWorthiest 24 = .ok (.getfield 24, 3) := by decide +kernel
theorem dX2_findWorthiest_27 : decode cX2_findWorthiest 27 = .ok (.iload_n 1, 1) := by decide +kernel
theorem dX2_findWorthiest_28 : decode cX2_findWorthiest 28 = .ok (.invokevirtual 70, 3) := by decide +kernel
theorem dX2_findWorthiest_31 : decode cX2_findWorthiest 31 = .ok (.ifCond .eq 6, 3) := by decide +kernel
theorem dX2_findWorthiest_34 : decode cX2_findWorthiest 34 = .ok (.goto 68, 3) := by decide +kernel
theorem dX2_findWorthiest_37 : decode cX2_findWorthiest 37 = .ok (.iconst 0, 1) := by decide +kernel
theorem dX2_findWorthiest_38 : decode cX2_findWorthiest 38 = .ok (.istore_n 2, 1) := by decide +kernel
theorem dX2_findWorthiest_39 : decode cX2_findWorthiest 39 = .ok (.iload_n 2, 1) := by decide +kernel
theorem dX2_findWorthiest_40 : decode cX2_findWorthiest 40 = .ok (.aload_n 0, 1) := by decide +kernel
theorem dX2_findWorthiest_41 : decode cX2_findWorthiest 41 = .ok (.getfield 9, 3) := by decide +kernel
theorem dX2_findWorthiest_44 : decode cX2_findWorthiest 44 = .ok (.getfield 74, 3) := by decide +kernel
theorem dX2_findWorthiest_47 : decode cX2_findWorthiest 47 = .ok (.iload_n 1, 1) := by decide +kernel
theorem dX2_findWorthiest_48 : decode cX2_findWorthiest 48 = .ok (.aaload, 1) := by decide +kernel
theorem dX2_findWorthiest_49 : decode cX2_findWorthiest 49 = .ok (.getfield 78, 3) := by decide +kernel
theorem dX2_findWorthiest_52 : decode cX2_findWorthiest 52 = .ok (.if_icmp .ge 50, 3) := by decide +kernel
theorem dX2_findWorthiest_55 : decode cX2_findWorthiest 55 = .ok (.aload_n 0, 1) := by decide +kernel
theorem dX2_findWorthiest_56 : decode cX2_findWorthiest 56 = .ok (.getfield 35, 3) := by decide +kernel
theorem dX2_findWorthiest_59 : decode cX2_findWorthiest 59 = .ok (.aload_n 0, 1) := by decide +kernel
theorem dX2_findWorthiest_60 : decode cX2_findWorthiest 60 = .ok (.iload_n 1, 1) := by decide +kernel
theorem dX2_findWorthiest_61 : decode cX2_findWorthiest 61 = .ok (.iload_n 2, 1) := by decide +kernel
theorem dX2_findWorthiest_62 : decode cX2_findWorthiest 62 = .ok (.invokevirtual 61, 3) := by decide +kernel
theorem dX2_findWorthiest_65 : decode cX2_findWorthiest 65 = .ok (.iand, 1) := by decide +kernel
theorem dX2_findWorthiest_66 : decode cX2_findWorthiest 66 = .ok (.ifCond .ne 30, 3) := by decide +kernel
theorem dX2_findWorthiest_69 : decode cX2_findWorthiest 69 = .ok (.aload_n 0, 1) := by decide +kernel
theorem dX2_findWorthiest_70 : decode cX2_findWorthiest 70 = .ok (.getfield 9, 3) := by decide +kernel
theorem dX2_findWorthiest_73 : decode cX2_findWorthiest 73 = .ok (.getfield 74, 3) := by decide +kernel
theorem dX2_findWorthiest_76 : decode cX2_findWorthiest 76 = .ok (.iload_n 1, 1) := by decide +kernel
theorem dX2_findWorthiest_77 : decode cX2_findWorthiest 77 = .ok (.aaload, 1) := by decide +kernel
theorem dX2_findWorthiest_78 : decode cX2_findWorthiest 78 = .ok (.getfield 83, 3) := by decide +kernel
theorem dX2_findWorthiest_81 : decode cX2_findWorthiest 81 = .ok (.iload_n 2, 1) := by decide +kernel
theorem dX2_findWorthiest_82 : decode cX2_findWorthiest 82 = .ok (.iaload, 1) := by decide +kernel
theorem dX2_findWorthiest_83 : decode cX2_findWorthiest 83 = .ok (.aload_n 0, 1) := by decide +kernel
theorem dX2_findWorthiest_84 : decode cX2_findWorthiest 84 = .ok (.getfield 42, 3) := by decide +kernel
theorem dX2_findWorthiest_87 : decode cX2_findWorthiest 87 = .ok (.if_icmp .lt 9, 3) := by decide +kernel
theorem dX2_findWorthiest_90 : decode cX2_findWorthiest 90 = .ok (.aload_n 0, 1) := by decide +kernel
theorem dX2_findWorthiest_91 : decode cX2_findWorthiest 91 = .ok (.iload_n 1, 1) := by decide +kernel
theorem dX2_findWorthiest_92 : decode cX2_findWorthiest 92 = .ok (.iload_n 2, 1) := by decide +kernel
theorem dX2_findWorthiest_93 : decode cX2_findWorthiest 93 = .ok (.invokevirtual 87, 3) := by decide +kernel
theorem dX2_findWorthiest_96 : decode cX2_findWorthiest 96 = .ok (.iinc 2 1, 3) := by decide +kernel
theorem dX2_findWorthiest_99 : decode cX2_findWorthiest 99 = .ok (.goto (-60), 3) := by decide +kernel
theorem dX2_findWorthiest_102 : decode cX2_findWorthiest 102 = .ok (.iinc 1 1, 3) := by decide +kernel
theorem dX2_findWorthiest_105 : decode cX2_findWorthiest 105 = .ok (.goto (-93), 3) := by decide +kernel
theorem dX2_findWorthiest_108 : decode cX2_findWorthiest 108 = .ok (.return_, 1) := by decide +kernel
theorem flX2_65 : FL RX2 65 1 7 := ⟨_, _, _, rfl, by decide, uwX1, Or.inr ⟨"GapTellings", (nw_mem (t_in1 (List.mem_of_getElem? (i := 133) (by decide +kernel))) (by decide +kernel))⟩⟩
theorem ivX2_70 : IV RX2 70 yX4_has cX4_has 2 (some .boolean) 1 := ⟨(tb_mem (t_in4 (List.mem_of_getElem? (i := 72) (by decide +kernel))) (by decide +kernel)), (tb_mem (t_in3 (List.mem_of_getElem? (i := 54) (by decide +kernel))) (by decide +kernel)), (tb_mem (t_in3 (List.mem_of_getElem? (i := 55) (by decide +kernel))) (by decide +kernel)), (tb_mem (t_in1 (List.mem_of_getElem? (i := 6) (by decide +kernel))) (by decide +kernel)), (tb_mem (t_in3 (List.mem_of_getElem? (i := 56) (by decide +kernel))) (by decide +kernel)), ⟨by decide +kernel, by decide +kernel, by decide +kernel⟩⟩
theorem flX2_78 : FL RX2 78 3 4 := ⟨_, _, _, rfl, by decide, uwX3, Or.inr ⟨"GapTellings", (nw_mem (t_in1 (List.mem_of_getElem? (i := 80) (by decide +kernel))) (by decide +kernel))⟩⟩
theorem flX2_35 : FL RX2 35 2 4 := ⟨_, _, _, rfl, by decide, uwX2, Or.inl (tb_mem (t_in1 (List.mem_of_getElem? (i := 233) (by decide +kernel))) (by decide +kernel))⟩
theorem ivX2_61 : IV RX2 61 yX2_versionBit cX2_versionBit 3 (some .int) 2 := ⟨(tb_mem (t_in4 (List.mem_of_getElem? (i := 73) (by decide +kernel))) (by decide +kernel)), (tb_mem (t_in4 (List.mem_of_getElem? (i := 74) (by decide +kernel))) (by decide +kernel)), (tb_mem (t_in4 (List.mem_of_getElem? (i := 75) (by decide +kernel))) (by decide +kernel)), (tb_mem (t_in1 (List.mem_of_getElem? (i := 9) (by decide +kernel))) (by decide +kernel)), (tb_mem (t_in4 (List.mem_of_getElem? (i := 76) (by decide +kernel))) (by decide +kernel)), ⟨by decide +kernel, by decide +kernel, by decide +kernel⟩⟩
theorem ivX2_87 : IV RX2 87 yX2_lookAtTicks cX2_lookAtTicks 7 none 2 := ⟨(tb_mem (t_in4 (List.mem_of_getElem? (i := 77) (by decide +kernel))) (by decide +kernel)), (tb_mem (t_in4 (List.mem_of_getElem? (i := 78) (by decide +kernel))) (by decide +kernel)), (tb_mem (t_in4 (List.mem_of_getElem? (i := 79) (by decide +kernel))) (by decide +kernel)), (tb_mem (t_in1 (List.mem_of_getElem? (i := 9) (by decide +kernel))) (by decide +kernel)), (tb_mem (t_in4 (List.mem_of_getElem? (i := 80) (by decide +kernel))) (by decide +kernel)), ⟨by decide +kernel, by decide +kernel, by decide +kernel⟩⟩
set_option maxHeartbeats 4000000 in
set_option maxRecDepth 20000 in
theorem sgX2_findWorthiest_0 {κ : Kx} {K : Kont} {M : Mem} (C : Cx κ RX2 cX2_findWorthiest 3 none rmX2_findWorthiest domC) 
    (h :
    ∀ M2 : Mem, M2 = up3 M 23 0 8 0 →
    ∀ M7 : Mem, M7 = up3 M2 23 0 9 0 →
    V κ 3 M7 12 [some (.inr (23, 0)), some (.inl 0), none] [] K) : V κ 3 M 0 [some (.inr (23, 0)), none, none] [] K := by
  refine v_aload_n C dX2_findWorthiest_0 rfl ?_
  refine v_iconst C dX2_findWorthiest_1 (by decide) ?_
  refine v_put C dX2_findWorthiest_2 plX2_42 rfl (by decide) (by decide) rfl rfl rfl ?_
  refine v_nmM (fun M2 eM2 => ?_)
  replace h := h M2 eM2
  refine v_aload_n C dX2_findWorthiest_5 rfl ?_
  refine v_iconst C dX2_findWorthiest_6 (by decide) ?_
  refine v_put C dX2_findWorthiest_7 plX2_45 rfl (by decide) (by decide) rfl rfl rfl ?_
  refine v_nmM (fun M7 eM7 => ?_)
  replace h := h M7 eM7
  refine v_iconst C dX2_findWorthiest_10 (by decide) ?_
  refine v_istore_n C dX2_findWorthiest_11 (by decide) (Nat.le_of_ble_eq_true rfl) (lv' := [some (.inr (23, 0)), some (.inl 0), none]) rfl ?_
  refine v_weak [some (.inr (23, 0)), some (.inl 0), none] ⟨rfl, rfl, trivial⟩ ?_
  exact h
set_option maxHeartbeats 4000000 in
set_option maxRecDepth 20000 in
theorem sgX2_findWorthiest_12 {κ : Kx} {K : Kont} {M : Mem} (C : Cx κ RX2 cX2_findWorthiest 3 none rmX2_findWorthiest domC) (x1 : Int)
    (h :
    (((M 5 1 7) ≤ x1 →
      K none M) ∧
     (¬ ((M 5 1 7) ≤ x1) →
      spX4_has 2 x1 M (rI (fun r28 M28 =>
      ((r28 = 0 →
        V κ 3 M28 39 [some (.inr (23, 0)), some (.inl x1), some (.inl 0)] [] K) ∧
       (¬ (r28 = 0) →
        inR (x1 + 1) ∧
        V κ 3 M28 12 [some (.inr (23, 0)), some (.inl (x1 + 1)), none] [] K))))))) : V κ 3 M 12 [some (.inr (23, 0)), some (.inl x1), none] [] K := by
  refine v_iload_n C dX2_findWorthiest_12 rfl ?_
  refine v_aload_n C dX2_findWorthiest_13 rfl ?_
  refine v_get C dX2_findWorthiest_14 flX2_9 rfl (by decide) (by decide) (w := .inr (5, 1)) rfl ?_
  refine v_get C dX2_findWorthiest_17 flX2_65 rfl (by decide) (by decide) (w := .inl (M 5 1 7)) rfl ?_
  refine v_icmp C dX2_findWorthiest_20 (tgt := 108) (by decide) (P := (M 5 1 7) ≤ x1) rfl (fun c20 => ?_) (fun c20 => ?_)
  · replace h := h.1 c20
    exact v_vret C dX2_findWorthiest_108 h
  · replace h := h.2 c20
    refine v_aload_n C dX2_findWorthiest_23 rfl ?_
    refine v_get C dX2_findWorthiest_24 flX2_24 rfl (by decide) (by decide) (w := .inr (18, 2)) rfl ?_
    refine v_iload_n C dX2_findWorthiest_27 rfl ?_
    refine v_invV C ctX4_has dX2_findWorthiest_28 ivX2_70 ⟨by decide, by decide, rfl, rfl⟩ ((2, x1) : Int × Int) (As := [.inl x1]) rfl rfl rfl (by decide) rfl (st := []) rfl (Nat.le_of_ble_eq_true rfl) h (fun o M28 oM28 io28 h => ?_)
    obtain ⟨r28, rfl, h⟩ := rI_out h
    refine v_push ?_
    refine v_if C dX2_findWorthiest_31 (tgt := 37) (by decide) (P := r28 = 0) rfl (fun c31 => ?_) (fun c31 => ?_)
    · replace h := h.1 c31
      refine v_iconst C dX2_findWorthiest_37 (by decide) ?_
      refine v_istore_n C dX2_findWorthiest_38 (by decide) (Nat.le_of_ble_eq_true rfl) (lv' := [some (.inr (23, 0)), some (.inl x1), some (.inl 0)]) rfl ?_
      refine v_weak [some (.inr (23, 0)), some (.inl x1), some (.inl 0)] ⟨rfl, rfl, rfl, trivial⟩ ?_
      exact h
    · replace h := h.2 c31
      refine v_goto C dX2_findWorthiest_34 (tgt := 102) (by decide) ?_
      refine v_iinc C dX2_findWorthiest_102 (by decide) rfl h.1 (lv' := [some (.inr (23, 0)), some (.inl (x1 + 1)), none]) rfl ?_
      replace h := h.2
      refine v_goto C dX2_findWorthiest_105 (tgt := 12) (by decide) ?_
      refine v_weak [some (.inr (23, 0)), some (.inl (x1 + 1)), none] ⟨rfl, rfl, trivial⟩ ?_
      exact h
set_option maxHeartbeats 4000000 in
set_option maxRecDepth 20000 in
theorem sgX2_findWorthiest_39 {κ : Kx} {K : Kont} {M : Mem} (C : Cx κ RX2 cX2_findWorthiest 3 none rmX2_findWorthiest domC) (x1 : Int) (x2 : Int)
    (h :
    (0 ≤ x1 ∧ x1 < 7) ∧
    (((M 11 (7 * 1 + x1) 4) ≤ x2 →
      inR (x1 + 1) ∧
      V κ 3 M 12 [some (.inr (23, 0)), some (.inl (x1 + 1)), none] [] K) ∧
     (¬ ((M 11 (7 * 1 + x1) 4) ≤ x2) →
      spX2_versionBit x1 x2 M (rI (fun r62 M62 =>
      (((bAnd (M 23 0 4) r62) ≠ 0 →
        inR (x2 + 1) ∧
        V κ 3 M62 39 [some (.inr (23, 0)), some (.inl x1), some (.inl (x2 + 1))] [] K) ∧
       (¬ ((bAnd (M 23 0 4) r62) ≠ 0) →
        (0 ≤ x1 ∧ x1 < 7) ∧
        (0 ≤ x2 ∧ x2 < 3) ∧
        (((M62 13 (7 * 1 + x1) x2) < (M62 23 0 8) →
          inR (x2 + 1) ∧
          V κ 3 M62 39 [some (.inr (23, 0)), some (.inl x1), some (.inl (x2 + 1))] [] K) ∧
         (¬ ((M62 13 (7 * 1 + x1) x2) < (M62 23 0 8)) →
          spX2_lookAtTicks x1 x2 M62 (rV (fun M93 =>
          inR (x2 + 1) ∧
          V κ 3 M93 39 [some (.inr (23, 0)), some (.inl x1), some (.inl (x2 + 1))] [] K))))))))))) : V κ 3 M 39 [some (.inr (23, 0)), some (.inl x1), some (.inl x2)] [] K := by
  refine v_iload_n C dX2_findWorthiest_39 rfl ?_
  refine v_aload_n C dX2_findWorthiest_40 rfl ?_
  refine v_get C dX2_findWorthiest_41 flX2_9 rfl (by decide) (by decide) (w := .inr (5, 1)) rfl ?_
  refine v_get C dX2_findWorthiest_44 flX2_74 rfl (by decide) (by decide) (w := .inr (10, 1)) rfl ?_
  refine v_iload_n C dX2_findWorthiest_47 rfl ?_
  refine v_aald C dX2_findWorthiest_48 h.1.1 h.1.2 ?_
  replace h := h.2
  refine v_get C dX2_findWorthiest_49 flX2_78 rfl (by decide) (by decide) (w := .inl (M 11 (7 * 1 + x1) 4)) rfl ?_
  refine v_icmp C dX2_findWorthiest_52 (tgt := 102) (by decide) (P := (M 11 (7 * 1 + x1) 4) ≤ x2) rfl (fun c52 => ?_) (fun c52 => ?_)
  · replace h := h.1 c52
    refine v_iinc C dX2_findWorthiest_102 (by decide) rfl h.1 (lv' := [some (.inr (23, 0)), some (.inl (x1 + 1)), some (.inl x2)]) rfl ?_
    replace h := h.2
    refine v_goto C dX2_findWorthiest_105 (tgt := 12) (by decide) ?_
    refine v_weak [some (.inr (23, 0)), some (.inl (x1 + 1)), none] ⟨rfl, rfl, trivial⟩ ?_
    exact h
  · replace h := h.2 c52
    refine v_aload_n C dX2_findWorthiest_55 rfl ?_
    refine v_get C dX2_findWorthiest_56 flX2_35 rfl (by decide) (by decide) (w := .inl (M 23 0 4)) rfl ?_
    refine v_aload_n C dX2_findWorthiest_59 rfl ?_
    refine v_iload_n C dX2_findWorthiest_60 rfl ?_
    refine v_iload_n C dX2_findWorthiest_61 rfl ?_
    refine v_invV C ctX2_versionBit dX2_findWorthiest_62 ivX2_61 ⟨by decide, by decide, rfl, rfl⟩ ((x1, x2) : Int × Int) (As := [.inl x1, .inl x2]) rfl rfl rfl (by decide) rfl (st := [.inl (M 23 0 4)]) rfl (Nat.le_of_ble_eq_true rfl) h (fun o M62 oM62 io62 h => ?_)
    obtain ⟨r62, rfl, h⟩ := rI_out h
    refine v_push ?_
    refine v_iand C dX2_findWorthiest_65 ?_
    refine v_if C dX2_findWorthiest_66 (tgt := 96) (by decide) (P := (bAnd (M 23 0 4) r62) ≠ 0) rfl (fun c66 => ?_) (fun c66 => ?_)
    · replace h := h.1 c66
      refine v_iinc C dX2_findWorthiest_96 (by decide) rfl h.1 (lv' := [some (.inr (23, 0)), some (.inl x1), some (.inl (x2 + 1))]) rfl ?_
      replace h := h.2
      refine v_goto C dX2_findWorthiest_99 (tgt := 39) (by decide) ?_
      refine v_weak [some (.inr (23, 0)), some (.inl x1), some (.inl (x2 + 1))] ⟨rfl, rfl, rfl, trivial⟩ ?_
      exact h
    · replace h := h.2 c66
      refine v_aload_n C dX2_findWorthiest_69 rfl ?_
      refine v_get C dX2_findWorthiest_70 flX2_9 rfl (by decide) (by decide) (w := .inr (5, 1)) rfl ?_
      refine v_get C dX2_findWorthiest_73 flX2_74 rfl (by decide) (by decide) (w := .inr (10, 1)) rfl ?_
      refine v_iload_n C dX2_findWorthiest_76 rfl ?_
      refine v_aald C dX2_findWorthiest_77 h.1.1 h.1.2 ?_
      replace h := h.2
      refine v_get C dX2_findWorthiest_78 flX2_83 rfl (by decide) (by decide) (w := .inr (13, 7 * 1 + x1)) rfl ?_
      refine v_iload_n C dX2_findWorthiest_81 rfl ?_
      refine v_iald C dX2_findWorthiest_82 rfl h.1.1 h.1.2 ?_
      replace h := h.2
      refine v_aload_n C dX2_findWorthiest_83 rfl ?_
      refine v_get C dX2_findWorthiest_84 flX2_42 rfl (by decide) (by decide) (w := .inl (M62 23 0 8)) rfl ?_
      refine v_icmp C dX2_findWorthiest_87 (tgt := 96) (by decide) (P := (M62 13 (7 * 1 + x1) x2) < (M62 23 0 8)) rfl (fun c87 => ?_) (fun c87 => ?_)
      · replace h := h.1 c87
        refine v_iinc C dX2_findWorthiest_96 (by decide) rfl h.1 (lv' := [some (.inr (23, 0)), some (.inl x1), some (.inl (x2 + 1))]) rfl ?_
        replace h := h.2
        refine v_goto C dX2_findWorthiest_99 (tgt := 39) (by decide) ?_
        refine v_weak [some (.inr (23, 0)), some (.inl x1), some (.inl (x2 + 1))] ⟨rfl, rfl, rfl, trivial⟩ ?_
        exact h
      · replace h := h.2 c87
        refine v_aload_n C dX2_findWorthiest_90 rfl ?_
        refine v_iload_n C dX2_findWorthiest_91 rfl ?_
        refine v_iload_n C dX2_findWorthiest_92 rfl ?_
        refine v_invV C ctX2_lookAtTicks dX2_findWorthiest_93 ivX2_87 ⟨by decide, by decide, rfl, rfl⟩ ((x1, x2) : Int × Int) (As := [.inl x1, .inl x2]) rfl rfl rfl (by decide) rfl (st := []) rfl (Nat.le_of_ble_eq_true rfl) h (fun o M93 oM93 io93 h => ?_)
        obtain ⟨rfl, h⟩ := rV_out h
        refine v_push0 ?_
        refine v_iinc C dX2_findWorthiest_96 (by decide) rfl h.1 (lv' := [some (.inr (23, 0)), some (.inl x1), some (.inl (x2 + 1))]) rfl ?_
        replace h := h.2
        refine v_goto C dX2_findWorthiest_99 (tgt := 39) (by decide) ?_
        refine v_weak [some (.inr (23, 0)), some (.inl x1), some (.inl (x2 + 1))] ⟨rfl, rfl, rfl, trivial⟩ ?_
        exact h
def pzC (m : Int) : Int → Bool := fun k => bit m k
abbrev spX2_findWorthiest (M : Mem) (K : Kont) : Prop := (WFf (cFilm M 1) ∧ TrB M 0 ∧ PlK (cFilm M 1) (M 19 2) (M 20 2) ∧ (0 ≤ M 23 0 4 ∧ M 23 0 4 < 2147483648)) ∧
  ∀ M', AgF M M' → (M' 23 0 8 = (grP (cFilm M 1) (M 16 0) (M 17 0) (M 19 2) (M 20 2) (pzC (M 23 0 4)) (M 5 1 7).toNat).1 ∧ (M' 23 0 8 ≠ 0 → fnd M' = grP (cFilm M 1) (M 16 0) (M 17 0) (M 19 2) (M 20 2) (pzC (M 23 0 4)) (M 5 1 7).toNat)) → K none M'
/-- found things agree, as far as they count -/
def fEq (a b : gSt) : Prop := a.1 = b.1 ∧ a.2.1 = b.2.1 ∧ (a.1 ≠ 0 → a = b)
theorem fEq_off {F : Film} {Q : Int → Int} {p v t : Int} {a b : gSt} (hw : 1 ≤ F 14 p v) (h : fEq a b) : fEq (offS F Q p v t a) (offS F Q p v t b) := by
  obtain ⟨h1, h2, h3⟩ := h
  unfold offS
  rw [h1, h2]
  split
  · exact ⟨rfl, rfl, fun _ => rfl⟩
  · exact ⟨h1, h2, h3⟩
theorem fEq_T {F : Film} {S Q ver sta : Int → Int} {p v : Int} (hw : 1 ≤ F 14 p v) : ∀ (n : Nat) (a b : gSt), fEq a b → fEq (grT F S Q ver sta p v n a) (grT F S Q ver sta p v n b) := by
  intro n
  induction n with
  | zero => intro a b h; exact h
  | succ n ih =>
    intro a b h
    show fEq (grO F S Q ver sta p v n _) (grO F S Q ver sta p v n _)
    unfold grO
    split
    · exact fEq_off hw (ih a b h)
    · exact ih a b h
theorem ctX2_findWorthiest : CtX2_findWorthiest spX2_findWorthiest := by
  refine ct_of (by decide) dmC (fun _ => Nat.le_of_ble_eq_true rfl) ?_
  intro κ a M K C oM h
  dsimp only [spX2_findWorthiest] at h
  obtain ⟨⟨hf, hb, hP, hm⟩, hk⟩ := h
  have hnP := hf.2.2.2.1
  simp only [cFilm] at hnP
  generalize hF : cFilm M 1 = F at *
  have e37 : F 3 0 0 = M 5 1 7 := by rw [← hF]; rfl
  have outer : ∀ (n : Nat) (p : Int) (N : Mem), 0 ≤ p → p + n = M 5 1 7 → AgF M N → fEq (fnd N) (grP F (M 16 0) (M 17 0) (M 19 2) (M 20 2) (pzC (M 23 0 4)) p.toNat) →
      V κ 3 N 12 [some (.inr (23, 0)), some (.inl p), none] [] K := by
    intro n
    induction n with
    | zero =>
      intro p N h0 hn hA hfn
      have r5 := hA.reg (r := 5) (by decide)
      refine sgX2_findWorthiest_12 C p ⟨fun c => ?_, fun c => absurd (by rw [r5]; omega) c⟩
      have ep : p = M 5 1 7 := by omega
      rw [ep] at hfn
      exact hk N hA ⟨hfn.1, hfn.2.2⟩
    | succ n ih =>
      intro p N h0 hn hA hfn
      have r5 := hA.reg (r := 5) (by decide)
      have r19 := hA.reg (r := 19) (by decide)
      have w := wf_p hf h0 (by omega)
      have gs : grP F (M 16 0) (M 17 0) (M 19 2) (M 20 2) (pzC (M 23 0 4)) (p + 1).toNat = if M 19 2 p = -4 then grV F (M 16 0) (M 17 0) (M 19 2) (M 20 2) (pzC (M 23 0 4)) p (F 11 p 0).toNat (grP F (M 16 0) (M 17 0) (M 19 2) (M 20 2) (pzC (M 23 0 4)) p.toNat) else grP F (M 16 0) (M 17 0) (M 19 2) (M 20 2) (pzC (M 23 0 4)) p.toNat := by
        rw [toNat_s h0]
        show (if M 19 2 (p.toNat : Int) = -4 then grV F (M 16 0) (M 17 0) (M 19 2) (M 20 2) (pzC (M 23 0 4)) (p.toNat : Int) (F 11 (p.toNat : Int) 0).toNat _ else _) = _
        rw [oi_nat h0]
      refine sgX2_findWorthiest_12 C p ⟨fun c => absurd c (by rw [r5]; omega), fun c => ⟨⟨h0, by omega⟩, fun c2 => ?_, fun c2 => ⟨by omega, ?_⟩⟩⟩
      · have c3 := if01 c2
        rw [r19] at c3
        rw [if_pos c3] at gs
        have inner : ∀ (n2 : Nat) (v : Int) (N2 : Mem), 0 ≤ v → v + n2 = F 11 p 0 → AgF M N2 → fEq (fnd N2) (grV F (M 16 0) (M 17 0) (M 19 2) (M 20 2) (pzC (M 23 0 4)) p v.toNat (grP F (M 16 0) (M 17 0) (M 19 2) (M 20 2) (pzC (M 23 0 4)) p.toNat)) →
            V κ 3 N2 39 [some (.inr (23, 0)), some (.inl p), some (.inl v)] [] K := by
          intro n2
          induction n2 with
          | zero =>
            intro v N2 v0 vn hA2 hf2
            have r11 := hA2.reg (r := 11) (by decide)
            have e11 : F 11 p 0 = N2 11 (7 * 1 + p) 4 := by rw [r11, ← hF]; rfl
            refine sgX2_findWorthiest_39 C p v ⟨by omega, fun c4 => ⟨by omega, ?_⟩, fun c4 => absurd (by omega) c4⟩
            refine ih (p + 1) N2 (by omega) (by omega) hA2 ?_
            rw [gs]
            have ev : v = F 11 p 0 := by omega
            rw [ev] at hf2
            exact hf2
          | succ n2 ih2 =>
            intro v N2 v0 vn hA2 hf2
            have e1 := hA2.film 1
            rw [hF] at e1
            have r11 := hA2.reg (r := 11) (by decide)
            have r13 := hA2.reg (r := 13) (by decide)
            have q16 := hA2.reg (r := 16) (by decide)
            have q17 := hA2.reg (r := 17) (by decide)
            have q19 := hA2.reg (r := 19) (by decide)
            have q20 := hA2.reg (r := 20) (by decide)
            have q5 := hA2.reg (r := 5) (by decide)
            have q4 : N2 23 0 4 = M 23 0 4 := hA2 23 0 4 (by omega)
            have e11 : F 11 p 0 = N2 11 (7 * 1 + p) 4 := by rw [r11, ← hF]; rfl
            have e14 : F 14 p v = N2 13 (7 * 1 + p) v := by rw [r13, ← hF]; rfl
            have wv := wf_pv hf h0 (by omega) v0 (by omega)
            have vs : grV F (M 16 0) (M 17 0) (M 19 2) (M 20 2) (pzC (M 23 0 4)) p (v + 1).toNat (grP F (M 16 0) (M 17 0) (M 19 2) (M 20 2) (pzC (M 23 0 4)) p.toNat) = if bit (M 23 0 4) (p * 3 + v) then grV F (M 16 0) (M 17 0) (M 19 2) (M 20 2) (pzC (M 23 0 4)) p v.toNat (grP F (M 16 0) (M 17 0) (M 19 2) (M 20 2) (pzC (M 23 0 4)) p.toNat) else grT F (M 16 0) (M 17 0) (M 19 2) (M 20 2) p v (F 0 0 0).toNat (grV F (M 16 0) (M 17 0) (M 19 2) (M 20 2) (pzC (M 23 0 4)) p v.toNat (grP F (M 16 0) (M 17 0) (M 19 2) (M 20 2) (pzC (M 23 0 4)) p.toNat)) := by
              rw [toNat_s v0]
              show (if bit (M 23 0 4) (p * 3 + (v.toNat : Int)) then _ else grT F (M 16 0) (M 17 0) (M 19 2) (M 20 2) p (v.toNat : Int) (F 0 0 0).toNat _) = _
              rw [oi_nat v0]
            refine sgX2_findWorthiest_39 C p v ⟨by omega, fun c4 => absurd c4 (by omega), fun c4 => ⟨by omega, ?_, ?_⟩⟩
            · intro c5
              refine ⟨by omega, ih2 (v + 1) N2 (by omega) (by omega) hA2 ?_⟩
              rw [vs, if_pos]
              · exact hf2
              · rw [q4] at c5
                have := and_bit hm.1 hm.2 (k := p * 3 + v) (by omega) (by omega)
                cases hbt : bit (M 23 0 4) (p * 3 + v)
                · exact absurd (this.mpr hbt) c5
                · rfl
            · intro c5
              have hbit : bit (M 23 0 4) (p * 3 + v) = false := by
                rw [q4] at c5
                exact (and_bit hm.1 hm.2 (k := p * 3 + v) (by omega) (by omega)).mp (by omega)
              rw [hbit] at vs
              simp only [Bool.false_eq_true, if_false] at vs
              refine ⟨by omega, by omega, fun c6 => ⟨by omega, ?_⟩, fun c6 => ⟨⟨by rw [e1]; exact hf, fun u a b => by rw [q16, q17]; exact hb u a b, by rw [e1, q19, q20]; exact hP, by rw [q5]; omega, by omega⟩, ?_⟩⟩
              · refine ih2 (v + 1) N2 (by omega) (by omega) hA2 ?_
                rw [vs, grT_low]
                · exact hf2
                · rw [← hf2.1, e14]
                  exact c6
              · intro N3 hA3 hf3
                refine ⟨by omega, ih2 (v + 1) N3 (by omega) (by omega) (hA2.tr hA3) ?_⟩
                rw [vs, hf3, e1, q16, q17, q19, q20, q5]
                have e0 : (F 0 0 0).toNat = (M 5 1 0).toNat := by rw [← hF]; rfl
                rw [e0]
                exact fEq_T wv.2.2.2.2.2.2.2.1 _ _ _ hf2
        exact inner (F 11 p 0).toNat 0 N (by omega) (by omega) hA hfn
      · have c3 := if01n c2
        rw [r19] at c3
        rw [if_neg c3] at gs
        exact ih (p + 1) N (by omega) (by omega) hA (by rw [gs]; exact hfn)
  refine sgX2_findWorthiest_0 C (fun M2 e2 M7 e7 => ?_)
  refine outer (M 5 1 7).toNat 0 M7 (by omega) (by omega) ?_ ?_
  · rw [e7, e2]
    exact (AgF.rf.up (by decide) (by decide)).up (by decide) (by decide)
  · refine ⟨?_, ?_, ?_⟩
    · show M7 23 0 8 = 0
      rw [e7, e2]
      simp [up3]
    · show M7 23 0 9 = 0
      rw [e7, e2]
      simp [up3]
    · intro z
      exact absurd (by show M7 23 0 8 = 0; rw [e7, e2]; simp [up3]) z
