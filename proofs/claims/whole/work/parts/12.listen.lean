/-! ===== Track.listen ===== -/
/-! ===== GapTellings$Track.listen ===== -/
abbrev rmX6_listen : Room := { frames := 1, cells := 0, slots := 0, locals := 23 }
abbrev argX6_listen (a : Int × Int × Int) : List PV := [.inr (14, a.1), .inl a.2.1, .inl a.2.2]
abbrev CtX6_listen (sp : Int → Int → Int → Mem → Kont → Prop) : Prop := Ct yX6_listen cX6_listen 7 none rmX6_listen domC argX6_listen (fun a => sp a.1 a.2.1 a.2.2)
theorem dX6_listen_0 : decode cX6_listen 0 = .ok (.aload_n 0, 1) := by decide +kernel
theorem dX6_listen_1 : decode cX6_listen 1 = .ok (.getfield 9, 3) := by decide +kernel
theorem dX6_listen_4 : decode cX6_listen 4 = .ok (.iconst 0, 1) := by decide +kernel
theorem dX6_listen_5 : decode cX6_listen 5 = .ok (.invokestatic 25, 3) := by decide +kernel
theorem dX6_listen_8 : decode cX6_listen 8 = .ok (.iconst 0, 1) := by decide +kernel
theorem dX6_listen_9 : decode cX6_listen 9 = .ok (.istore_n 3, 1) := by decide +kernel
theorem dX6_listen_10 : decode cX6_listen 10 = .ok (.iload_n 3, 1) := by decide +kernel
theorem dX6_listen_11 : decode cX6_listen 11 = .ok (.aload_n 0, 1) := by decide +kernel
theorem dX6_listen_12 : decode cX6_listen 12 = .ok (.getfield 21, 3) := by decide +kernel
theorem dX6_listen_15 : decode cX6_listen 15 = .ok (.getfield 31, 3) := by decide +kernel
theorem dX6_listen_18 : decode cX6_listen 18 = .ok (.if_icmp .ge 80, 3) := by decide +kernel
theorem dX6_listen_21 : decode cX6_listen 21 = .ok (.aload_n 0, 1) := by decide +kernel
theorem dX6_listen_22 : decode cX6_listen 22 = .ok (.getfield 21, 3) := by decide +kernel
theorem dX6_listen_25 : decode cX6_listen 25 = .ok (.getfield 37, 3) := by decide +kernel
theorem dX6_listen_28 : decode cX6_listen 28 = .ok (.iload_n 3, 1) := by decide +kernel
theorem dX6_listen_29 : decode cX6_listen 29 = .ok (.iaload, 1) := by decide +kernel
theorem dX6_listen_30 : decode cX6_listen 30 = .ok (.iload_n 3, 1) := by decide +kernel
theorem dX6_listen_31 : decode cX6_listen 31 = .ok (.iload_n 1, 1) := by decide +kernel
theorem dX6_listen_32 : decode cX6_listen 32 = .ok (.if_icmp .ne 7, 3) := by decide +kernel
theorem dX6_listen_35 : decode cX6_listen 35 = .ok (.iload_n 2, 1) := by decide +kernel
theorem dX6_listen_36 : decode cX6_listen 36 = .ok (.goto 4, 3) := by decide +kernel
theorem dX6_listen_39 : decode cX6_listen 39 = .ok (.iconst 0, 1) := by decide +kernel
theorem dX6_listen_40 : decode cX6_listen 40 = .ok (.isub, 1) := by decide +kernel
theorem dX6_listen_41 : decode cX6_listen 41 = .ok (.istore 4, 2) := by decide +kernel
theorem dX6_listen_43 : decode cX6_listen 43 = .ok (.iconst 1, 1) := by decide +kernel
theorem dX6_listen_44 : decode cX6_listen 44 = .ok (.aload_n 0, 1) := by decide +kernel
theorem dX6_listen_45 : decode cX6_listen 45 = .ok (.getfield 21, 3) := by decide +kernel
theorem dX6_listen_48 : decode cX6_listen 48 = .ok (.getfield 40, 3) := by decide +kernel
theorem dX6_listen_51 : decode cX6_listen 51 = .ok (.iload_n 3, 1) := by decide +kernel
theorem dX6_listen_52 : decode cX6_listen 52 = .ok (.iaload, 1) := by decide +kernel
theorem dX6_listen_53 : decode cX6_listen 53 = .ok (.ishl, 1) := by decide +kernel
theorem dX6_listen_54 : decode cX6_listen 54 = .ok (.istore 5, 2) := by decide +kernel
theorem dX6_listen_56 : decode cX6_listen 56 = .ok (.aload_n 0, 1) := by decide +kernel
theorem dX6_listen_57 : decode cX6_listen 57 = .ok (.getfield 21, 3) := by decide +kernel
theorem dX6_listen_60 : decode cX6_listen 60 = .ok (.getfield 43, 3) := by decide +kernel
theorem dX6_listen_63 : decode cX6_listen 63 = .ok (.iload_n 3, 1) := by decide +kernel
theorem dX6_listen_64 : decode cX6_listen 64 = .ok (.iaload, 1) := by decide +kernel
theorem dX6_listen_65 : decode cX6_listen 65 = .ok (.istore 6, 2) := by decide +kernel
theorem dX6_listen_67 : decode cX6_listen 67 = .ok (.iload 6, 2) := by decide +kernel
theorem dX6_listen_69 : decode cX6_listen 69 = .ok (.iload 4, 2) := by decide +kernel
theorem dX6_listen_71 : decode cX6_listen 71 = .ok (.if_icmp .ge 21, 3) := by decide +kernel
theorem dX6_listen_74 : decode cX6_listen 74 = .ok (.aload_n 0, 1) := by decide +kernel
theorem dX6_listen_75 : decode cX6_listen 75 = .ok (.getfield 9, 3) := by decide +kernel
theorem dX6_listen_78 : decode cX6_listen 78 = .ok (.iload 6, 2) := by decide +kernel
theorem dX6_listen_80 : decode cX6_listen 80 = .ok (.dup2, 1) := by decide +kernel
theorem dX6_listen_81 : decode cX6_listen 81 = .ok (.iaload, 1) := by decide +kernel
theorem dX6_listen_82 : decode cX6_listen 82 = .ok (.iload 5, 2) := by decide +kernel
theorem dX6_listen_84 : decode cX6_listen 84 = .ok (.ior, 1) := by decide +kernel
theorem dX6_listen_85 : decode cX6_listen 85 = .ok (.iastore, 1) := by decide +kernel
theorem dX6_listen_86 : decode cX6_listen 86 = .ok (.iinc 6 1, 3) := by decide +kernel
theorem dX6_listen_89 : decode cX6_listen 89 = .ok (.goto (-22), 3) := by decide +kernel
theorem dX6_listen_92 : decode cX6_listen 92 = .ok (.iinc 3 1, 3) := by decide +kernel
theorem dX6_listen_95 : decode cX6_listen 95 = .ok (.goto (-85), 3) := by decide +kernel
theorem dX6_listen_98 : decode cX6_listen 98 = .ok (.iconst 0, 1) := by decide +kernel
theorem dX6_listen_99 : decode cX6_listen 99 = .ok (.istore_n 3, 1) := by decide +kernel
theorem dX6_listen_100 : decode cX6_listen 100 = .ok (.iload_n 3, 1) := by decide +kernel
theorem dX6_listen_101 : decode cX6_listen 101 = .ok (.aload_n 0, 1) := by decide +kernel
theorem dX6_listen_102 : decode cX6_listen 102 = .ok (.getfield 21, 3) := by decide +kernel
theorem dX6_listen_105 : decode cX6_listen 105 = .ok (.getfield 46, 3) := by decide +kernel
theorem dX6_listen_108 : decode cX6_listen 108 = .ok (.if_icmp .ge 62, 3) := by decide +kernel
theorem dX6_listen_111 : decode cX6_listen 111 = .ok (.aload_n 0, 1) := by decide +kernel
theorem dX6_listen_112 : decode cX6_listen 112 = .ok (.getfield 15, 3) := by decide +kernel
theorem dX6_listen_115 : decode cX6_listen 115 = .ok (.iload_n 3, 1) := by decide +kernel
theorem dX6_listen_116 : decode cX6_listen 116 = .ok (.iconst 1, 1) := by decide +kernel
theorem dX6_listen_117 : decode cX6_listen 117 = .ok (.iadd, 1) := by decide +kernel
theorem dX6_listen_118 : decode cX6_listen 118 = .ok (.aload_n 0, 1) := by decide +kernel
theorem dX6_listen_119 : decode cX6_listen 119 = .ok (.getfield 15, 3) := by decide +kernel
theorem dX6_listen_122 : decode cX6_listen 122 = .ok (.iload_n 3, 1) := by decide +kernel
theorem dX6_listen_123 : decode cX6_listen 123 = .ok (.iaload, 1) := by decide +kernel
theorem dX6_listen_124 : decode cX6_listen 124 = .ok (.aload_n 0, 1) := by decide +kernel
theorem dX6_listen_125 : decode cX6_listen 125 = .ok (.iload_n 3, 1) := by decide +kernel
theorem dX6_listen_126 : decode cX6_listen 126 = .ok (.invokevirtual 49, 3) := by decide +kernel
theorem dX6_listen_129 : decode cX6_listen 129 = .ok (.ifCond .eq 7, 3) := by decide +kernel
theorem dX6_listen_132 : decode cX6_listen 132 = .ok (.iconst 1, 1) := by decide +kernel
theorem dX6_listen_133 : decode cX6_listen 133 = .ok (.goto 4, 3) := by decide +kernel
theorem dX6_listen_136 : decode cX6_listen 136 = .ok (.iconst 0, 1) := by decide +kernel
theorem dX6_listen_137 : decode cX6_listen 137 = .ok (.iadd, 1) := by decide +kernel
theorem dX6_listen_138 : decode cX6_listen 138 = .ok (.iastore, 1) := by decide +kernel
theorem dX6_listen_139 : decode cX6_listen 139 = .ok (.aload_n 0, 1) := by decide +kernel
theorem dX6_listen_140 : decode cX6_listen 140 = .ok (.getfield 18, 3) := by decide +kernel
theorem dX6_listen_143 : decode cX6_listen 143 = .ok (.iload_n 3, 1) := by decide +kernel
theorem dX6_listen_144 : decode cX6_listen 144 = .ok (.iconst 1, 1) := by decide +kernel
theorem dX6_listen_145 : decode cX6_listen 145 = .ok (.iadd, 1) := by decide +kernel
theorem dX6_listen_146 : decode cX6_listen 146 = .ok (.aload_n 0, 1) := by decide +kernel
theorem dX6_listen_147 : decode cX6_listen 147 = .ok (.getfield 18, 3) := by decide +kernel
theorem dX6_listen_150 : decode cX6_listen 150 = .ok (.iload_n 3, 1) := by decide +kernel
theorem dX6_listen_151 : decode cX6_listen 151 = .ok (.iaload, 1) := by decide +kernel
theorem dX6_listen_152 : decode cX6_listen 152 = .ok (.aload_n 0, 1) := by decide +kernel
theorem dX6_listen_153 : decode cX6_listen 153 = .ok (.aload_n 0, 1) := by decide +kernel
theorem dX6_listen_154 : decode cX6_listen 154 = .ok (.getfield 9, 3) := by decide +kernel
theorem dX6_listen_157 : decode cX6_listen 157 = .ok (.iload_n 3, 1) := by decide +kernel
theorem dX6_listen_158 : decode cX6_listen 158 = .ok (.iaload, 1) := by decide +kernel
theorem dX6_listen_159 : decode cX6_listen 159 = .ok (.invokevirtual 53, 3) := by decide +kernel
theorem dX6_listen_162 : decode cX6_listen 162 = .ok (.iadd, 1) := by decide +kernel
theorem dX6_listen_163 : decode cX6_listen 163 = .ok (.iastore, 1) := by decide +kernel
theorem dX6_listen_164 : decode cX6_listen 164 = .ok (.iinc 3 1, 3) := by decide +kernel
theorem dX6_listen_167 : decode cX6_listen 167 = .ok (.goto (-67), 3) := by decide +kernel
theorem dX6_listen_170 : decode cX6_listen 170 = .ok (.return_, 1) := by decide +kernel
theorem ivX6_25 : IS RX6 25 yJ7_fill_53178 cJ7_fill_53178 4 none 2 := ⟨(tb_mem (t_in2 (List.mem_of_getElem? (i := 206) (by decide +kernel))) (by decide +kernel)), (tb_mem (t_in1 (List.mem_of_getElem? (i := 191) (by decide +kernel))) (by decide +kernel)), (tb_mem (t_in1 (List.mem_of_getElem? (i := 7) (by decide +kernel))) (by decide +kernel)), (tb_mem (t_in1 (List.mem_of_getElem? (i := 192) (by decide +kernel))) (by decide +kernel)), ⟨by decide +kernel, by decide +kernel, by decide +kernel⟩⟩
theorem flX6_31 : FL RX6 31 1 3 := ⟨_, _, _, rfl, by decide, uwX1, Or.inr ⟨"GapTellings", (nw_mem (t_in1 (List.mem_of_getElem? (i := 120) (by decide +kernel))) (by decide +kernel))⟩⟩
theorem flX6_37 : FL RX6 37 1 6 := ⟨_, _, _, rfl, by decide, uwX1, Or.inr ⟨"GapTellings", (nw_mem (t_in1 (List.mem_of_getElem? (i := 129) (by decide +kernel))) (by decide +kernel))⟩⟩
theorem flX6_40 : FL RX6 40 1 4 := ⟨_, _, _, rfl, by decide, uwX1, Or.inr ⟨"GapTellings", (nw_mem (t_in1 (List.mem_of_getElem? (i := 124) (by decide +kernel))) (by decide +kernel))⟩⟩
theorem flX6_43 : FL RX6 43 1 5 := ⟨_, _, _, rfl, by decide, uwX1, Or.inr ⟨"GapTellings", (nw_mem (t_in1 (List.mem_of_getElem? (i := 126) (by decide +kernel))) (by decide +kernel))⟩⟩
theorem ivX6_53 : IV RX6 53 yX6_soundCost cX6_soundCost 2 (some .int) 1 := ⟨(tb_mem (t_in2 (List.mem_of_getElem? (i := 211) (by decide +kernel))) (by decide +kernel)), (tb_mem (t_in2 (List.mem_of_getElem? (i := 212) (by decide +kernel))) (by decide +kernel)), (tb_mem (t_in2 (List.mem_of_getElem? (i := 213) (by decide +kernel))) (by decide +kernel)), (tb_mem (t_in1 (List.mem_of_getElem? (i := 5) (by decide +kernel))) (by decide +kernel)), (tb_mem (t_in2 (List.mem_of_getElem? (i := 214) (by decide +kernel))) (by decide +kernel)), ⟨by decide +kernel, by decide +kernel, by decide +kernel⟩⟩
set_option maxHeartbeats 4000000 in
set_option maxRecDepth 20000 in
theorem sgX6_listen_0 {κ : Kx} {K : Kont} {M : Mem} (C : Cx κ RX6 cX6_listen 7 none rmX6_listen domC) (i0 : Int) (x1 : Int) (x2 : Int)
    (h :
    ∀ M5 : Mem, M5 = filM M 15 i0 100 0 →
    V κ 7 M5 10 [some (.inr (14, i0)), some (.inl x1), some (.inl x2), some (.inl 0), none, none, none] [] K) : V κ 7 M 0 [some (.inr (14, i0)), some (.inl x1), some (.inl x2), none, none, none, none] [] K := by
  refine v_aload_n C dX6_listen_0 rfl ?_
  refine v_get C dX6_listen_1 flX6_9 rfl (by decide) (by decide) (w := .inr (15, i0)) rfl ?_
  refine v_iconst C dX6_listen_4 (by decide) ?_
  refine v_invS C (ctFill domC (Or.inl rfl)) dX6_listen_5 ivX6_25 ⟨by decide, by decide, rfl, rfl⟩ ((15, i0, 0) : Nat × Int × Int) rfl (st := []) rfl (Nat.le_of_ble_eq_true rfl) (K1 := rV (fun M' => M' = filM M 15 i0 100 0)) ⟨rfl, rfl⟩ (fun o M5 oM5 io h5 => ?_)
  obtain ⟨rfl, eM5⟩ := rV_out h5
  refine v_push0 ?_
  replace h := h M5 eM5
  refine v_iconst C dX6_listen_8 (by decide) ?_
  refine v_istore_n C dX6_listen_9 (by decide) (Nat.le_of_ble_eq_true rfl) (lv' := [some (.inr (14, i0)), some (.inl x1), some (.inl x2), some (.inl 0), none, none, none]) rfl ?_
  refine v_weak [some (.inr (14, i0)), some (.inl x1), some (.inl x2), some (.inl 0), none, none, none] ⟨rfl, rfl, rfl, rfl, trivial⟩ ?_
  exact h
set_option maxHeartbeats 4000000 in
set_option maxRecDepth 20000 in
theorem sgX6_listen_10 {κ : Kx} {K : Kont} {M : Mem} (C : Cx κ RX6 cX6_listen 7 none rmX6_listen domC) (i0 : Int) (x1 : Int) (x2 : Int) (x3 : Int)
    (h :
    (((M 5 1 3) ≤ x3 →
      V κ 7 M 100 [some (.inr (14, i0)), none, none, some (.inl 0), none, none, none] [] K) ∧
     (¬ ((M 5 1 3) ≤ x3) →
      (0 ≤ x3 ∧ x3 < 12) ∧
      ((x3 ≠ x1 →
        inR ((M 9 1 x3) - 0) ∧
        ∀ y4_41 : Int, y4_41 = (M 9 1 x3) - 0 →
        (0 ≤ x3 ∧ x3 < 12) ∧
        ∀ y5_54 : Int, y5_54 = bShl 1 (M 7 1 x3) →
        (0 ≤ x3 ∧ x3 < 12) ∧
        V κ 7 M 67 [some (.inr (14, i0)), some (.inl x1), some (.inl x2), some (.inl x3), some (.inl y4_41), some (.inl y5_54), some (.inl (M 8 1 x3))] [] K) ∧
       (¬ (x3 ≠ x1) →
        inR ((M 9 1 x3) - x2) ∧
        ∀ y4_41 : Int, y4_41 = (M 9 1 x3) - x2 →
        (0 ≤ x3 ∧ x3 < 12) ∧
        ∀ y5_54 : Int, y5_54 = bShl 1 (M 7 1 x3) →
        (0 ≤ x3 ∧ x3 < 12) ∧
        V κ 7 M 67 [some (.inr (14, i0)), some (.inl x1), some (.inl x2), some (.inl x3), some (.inl y4_41), some (.inl y5_54), some (.inl (M 8 1 x3))] [] K))))) : V κ 7 M 10 [some (.inr (14, i0)), some (.inl x1), some (.inl x2), some (.inl x3), none, none, none] [] K := by
  refine v_iload_n C dX6_listen_10 rfl ?_
  refine v_aload_n C dX6_listen_11 rfl ?_
  refine v_get C dX6_listen_12 flX6_21 rfl (by decide) (by decide) (w := .inr (5, 1)) rfl ?_
  refine v_get C dX6_listen_15 flX6_31 rfl (by decide) (by decide) (w := .inl (M 5 1 3)) rfl ?_
  refine v_icmp C dX6_listen_18 (tgt := 98) (by decide) (P := (M 5 1 3) ≤ x3) rfl (fun c18 => ?_) (fun c18 => ?_)
  · replace h := h.1 c18
    refine v_iconst C dX6_listen_98 (by decide) ?_
    refine v_istore_n C dX6_listen_99 (by decide) (Nat.le_of_ble_eq_true rfl) (lv' := [some (.inr (14, i0)), some (.inl x1), some (.inl x2), some (.inl 0), none, none, none]) rfl ?_
    refine v_weak [some (.inr (14, i0)), none, none, some (.inl 0), none, none, none] ⟨rfl, rfl, trivial⟩ ?_
    exact h
  · replace h := h.2 c18
    refine v_aload_n C dX6_listen_21 rfl ?_
    refine v_get C dX6_listen_22 flX6_21 rfl (by decide) (by decide) (w := .inr (5, 1)) rfl ?_
    refine v_get C dX6_listen_25 flX6_37 rfl (by decide) (by decide) (w := .inr (9, 1)) rfl ?_
    refine v_iload_n C dX6_listen_28 rfl ?_
    refine v_iald C dX6_listen_29 rfl h.1.1 h.1.2 ?_
    replace h := h.2
    refine v_iload_n C dX6_listen_30 rfl ?_
    refine v_iload_n C dX6_listen_31 rfl ?_
    refine v_icmp C dX6_listen_32 (tgt := 39) (by decide) (P := x3 ≠ x1) rfl (fun c32 => ?_) (fun c32 => ?_)
    · replace h := h.1 c32
      refine v_iconst C dX6_listen_39 (by decide) ?_
      refine v_isub C dX6_listen_40 h.1 ?_
      replace h := h.2
      refine v_nm (fun y4_41 ey4_41 => ?_)
      replace h := h y4_41 ey4_41
      refine v_istore C dX6_listen_41 (by decide) (Nat.le_of_ble_eq_true rfl) (lv' := [some (.inr (14, i0)), some (.inl x1), some (.inl x2), some (.inl x3), some (.inl y4_41), none, none]) rfl ?_
      refine v_iconst C dX6_listen_43 (by decide) ?_
      refine v_aload_n C dX6_listen_44 rfl ?_
      refine v_get C dX6_listen_45 flX6_21 rfl (by decide) (by decide) (w := .inr (5, 1)) rfl ?_
      refine v_get C dX6_listen_48 flX6_40 rfl (by decide) (by decide) (w := .inr (7, 1)) rfl ?_
      refine v_iload_n C dX6_listen_51 rfl ?_
      refine v_iald C dX6_listen_52 rfl h.1.1 h.1.2 ?_
      replace h := h.2
      refine v_ishl C dX6_listen_53 ?_
      refine v_nm (fun y5_54 ey5_54 => ?_)
      replace h := h y5_54 ey5_54
      refine v_istore C dX6_listen_54 (by decide) (Nat.le_of_ble_eq_true rfl) (lv' := [some (.inr (14, i0)), some (.inl x1), some (.inl x2), some (.inl x3), some (.inl y4_41), some (.inl y5_54), none]) rfl ?_
      refine v_aload_n C dX6_listen_56 rfl ?_
      refine v_get C dX6_listen_57 flX6_21 rfl (by decide) (by decide) (w := .inr (5, 1)) rfl ?_
      refine v_get C dX6_listen_60 flX6_43 rfl (by decide) (by decide) (w := .inr (8, 1)) rfl ?_
      refine v_iload_n C dX6_listen_63 rfl ?_
      refine v_iald C dX6_listen_64 rfl h.1.1 h.1.2 ?_
      replace h := h.2
      refine v_istore C dX6_listen_65 (by decide) (Nat.le_of_ble_eq_true rfl) (lv' := [some (.inr (14, i0)), some (.inl x1), some (.inl x2), some (.inl x3), some (.inl y4_41), some (.inl y5_54), some (.inl (M 8 1 x3))]) rfl ?_
      refine v_weak [some (.inr (14, i0)), some (.inl x1), some (.inl x2), some (.inl x3), some (.inl y4_41), some (.inl y5_54), some (.inl (M 8 1 x3))] ⟨rfl, rfl, rfl, rfl, rfl, rfl, rfl, trivial⟩ ?_
      exact h
    · replace h := h.2 c32
      refine v_iload_n C dX6_listen_35 rfl ?_
      refine v_goto C dX6_listen_36 (tgt := 40) (by decide) ?_
      refine v_isub C dX6_listen_40 h.1 ?_
      replace h := h.2
      refine v_nm (fun y4_41 ey4_41 => ?_)
      replace h := h y4_41 ey4_41
      refine v_istore C dX6_listen_41 (by decide) (Nat.le_of_ble_eq_true rfl) (lv' := [some (.inr (14, i0)), some (.inl x1), some (.inl x2), some (.inl x3), some (.inl y4_41), none, none]) rfl ?_
      refine v_iconst C dX6_listen_43 (by decide) ?_
      refine v_aload_n C dX6_listen_44 rfl ?_
      refine v_get C dX6_listen_45 flX6_21 rfl (by decide) (by decide) (w := .inr (5, 1)) rfl ?_
      refine v_get C dX6_listen_48 flX6_40 rfl (by decide) (by decide) (w := .inr (7, 1)) rfl ?_
      refine v_iload_n C dX6_listen_51 rfl ?_
      refine v_iald C dX6_listen_52 rfl h.1.1 h.1.2 ?_
      replace h := h.2
      refine v_ishl C dX6_listen_53 ?_
      refine v_nm (fun y5_54 ey5_54 => ?_)
      replace h := h y5_54 ey5_54
      refine v_istore C dX6_listen_54 (by decide) (Nat.le_of_ble_eq_true rfl) (lv' := [some (.inr (14, i0)), some (.inl x1), some (.inl x2), some (.inl x3), some (.inl y4_41), some (.inl y5_54), none]) rfl ?_
      refine v_aload_n C dX6_listen_56 rfl ?_
      refine v_get C dX6_listen_57 flX6_21 rfl (by decide) (by decide) (w := .inr (5, 1)) rfl ?_
      refine v_get C dX6_listen_60 flX6_43 rfl (by decide) (by decide) (w := .inr (8, 1)) rfl ?_
      refine v_iload_n C dX6_listen_63 rfl ?_
      refine v_iald C dX6_listen_64 rfl h.1.1 h.1.2 ?_
      replace h := h.2
      refine v_istore C dX6_listen_65 (by decide) (Nat.le_of_ble_eq_true rfl) (lv' := [some (.inr (14, i0)), some (.inl x1), some (.inl x2), some (.inl x3), some (.inl y4_41), some (.inl y5_54), some (.inl (M 8 1 x3))]) rfl ?_
      refine v_weak [some (.inr (14, i0)), some (.inl x1), some (.inl x2), some (.inl x3), some (.inl y4_41), some (.inl y5_54), some (.inl (M 8 1 x3))] ⟨rfl, rfl, rfl, rfl, rfl, rfl, rfl, trivial⟩ ?_
      exact h
set_option maxHeartbeats 4000000 in
set_option maxRecDepth 20000 in
theorem sgX6_listen_100 {κ : Kx} {K : Kont} {M : Mem} (C : Cx κ RX6 cX6_listen 7 none rmX6_listen domC) (i0 : Int) (x3 : Int)
    (h :
    (((M 5 1 0) ≤ x3 →
      K none M) ∧
     (¬ ((M 5 1 0) ≤ x3) →
      inR (x3 + 1) ∧
      (0 ≤ x3 ∧ x3 < 101) ∧
      spX6_hasSpeech i0 x3 M (rI (fun r126 M126 =>
      ((r126 = 0 →
        inR ((M 16 i0 x3) + 0) ∧
        (0 ≤ (x3 + 1) ∧ (x3 + 1) < 101) ∧
        ∀ M138 : Mem, M138 = up3 M126 16 i0 (x3 + 1) ((M 16 i0 x3) + 0) →
        inR (x3 + 1) ∧
        (0 ≤ x3 ∧ x3 < 101) ∧
        (0 ≤ x3 ∧ x3 < 100) ∧
        spX6_soundCost i0 (M138 15 i0 x3) M138 (rI (fun r159 M159 =>
        inR ((M138 17 i0 x3) + r159) ∧
        (0 ≤ (x3 + 1) ∧ (x3 + 1) < 101) ∧
        ∀ M163 : Mem, M163 = up3 M159 17 i0 (x3 + 1) ((M138 17 i0 x3) + r159) →
        inR (x3 + 1) ∧
        V κ 7 M163 100 [some (.inr (14, i0)), none, none, some (.inl (x3 + 1)), none, none, none] [] K))) ∧
       (¬ (r126 = 0) →
        inR ((M 16 i0 x3) + 1) ∧
        (0 ≤ (x3 + 1) ∧ (x3 + 1) < 101) ∧
        ∀ M138 : Mem, M138 = up3 M126 16 i0 (x3 + 1) ((M 16 i0 x3) + 1) →
        inR (x3 + 1) ∧
        (0 ≤ x3 ∧ x3 < 101) ∧
        (0 ≤ x3 ∧ x3 < 100) ∧
        spX6_soundCost i0 (M138 15 i0 x3) M138 (rI (fun r159 M159 =>
        inR ((M138 17 i0 x3) + r159) ∧
        (0 ≤ (x3 + 1) ∧ (x3 + 1) < 101) ∧
        ∀ M163 : Mem, M163 = up3 M159 17 i0 (x3 + 1) ((M138 17 i0 x3) + r159) →
        inR (x3 + 1) ∧
        V κ 7 M163 100 [some (.inr (14, i0)), none, none, some (.inl (x3 + 1)), none, none, none] [] K))))))))) : V κ 7 M 100 [some (.inr (14, i0)), none, none, some (.inl x3), none, none, none] [] K := by
  refine v_iload_n C dX6_listen_100 rfl ?_
  refine v_aload_n C dX6_listen_101 rfl ?_
  refine v_get C dX6_listen_102 flX6_21 rfl (by decide) (by decide) (w := .inr (5, 1)) rfl ?_
  refine v_get C dX6_listen_105 flX6_46 rfl (by decide) (by decide) (w := .inl (M 5 1 0)) rfl ?_
  refine v_icmp C dX6_listen_108 (tgt := 170) (by decide) (P := (M 5 1 0) ≤ x3) rfl (fun c108 => ?_) (fun c108 => ?_)
  · replace h := h.1 c108
    exact v_vret C dX6_listen_170 h
  · replace h := h.2 c108
    refine v_aload_n C dX6_listen_111 rfl ?_
    refine v_get C dX6_listen_112 flX6_15 rfl (by decide) (by decide) (w := .inr (16, i0)) rfl ?_
    refine v_iload_n C dX6_listen_115 rfl ?_
    refine v_iconst C dX6_listen_116 (by decide) ?_
    refine v_iadd C dX6_listen_117 h.1 ?_
    replace h := h.2
    refine v_aload_n C dX6_listen_118 rfl ?_
    refine v_get C dX6_listen_119 flX6_15 rfl (by decide) (by decide) (w := .inr (16, i0)) rfl ?_
    refine v_iload_n C dX6_listen_122 rfl ?_
    refine v_iald C dX6_listen_123 rfl h.1.1 h.1.2 ?_
    replace h := h.2
    refine v_aload_n C dX6_listen_124 rfl ?_
    refine v_iload_n C dX6_listen_125 rfl ?_
    refine v_invV C ctX6_hasSpeech dX6_listen_126 ivX6_49 ⟨by decide, by decide, rfl, rfl⟩ ((i0, x3) : Int × Int) (As := [.inl x3]) rfl rfl rfl (by decide) rfl (st := [.inl (M 16 i0 x3), .inl (x3 + 1), .inr (16, i0)]) rfl (Nat.le_of_ble_eq_true rfl) h (fun o M126 oM126 io126 h => ?_)
    obtain ⟨r126, rfl, h⟩ := rI_out h
    refine v_push ?_
    refine v_if C dX6_listen_129 (tgt := 136) (by decide) (P := r126 = 0) rfl (fun c129 => ?_) (fun c129 => ?_)
    · replace h := h.1 c129
      refine v_iconst C dX6_listen_136 (by decide) ?_
      refine v_iadd C dX6_listen_137 h.1 ?_
      replace h := h.2
      refine v_iast C dX6_listen_138 rfl h.1.1 h.1.2 ?_
      replace h := h.2
      refine v_nmM (fun M138 eM138 => ?_)
      replace h := h M138 eM138
      refine v_aload_n C dX6_listen_139 rfl ?_
      refine v_get C dX6_listen_140 flX6_18 rfl (by decide) (by decide) (w := .inr (17, i0)) rfl ?_
      refine v_iload_n C dX6_listen_143 rfl ?_
      refine v_iconst C dX6_listen_144 (by decide) ?_
      refine v_iadd C dX6_listen_145 h.1 ?_
      replace h := h.2
      refine v_aload_n C dX6_listen_146 rfl ?_
      refine v_get C dX6_listen_147 flX6_18 rfl (by decide) (by decide) (w := .inr (17, i0)) rfl ?_
      refine v_iload_n C dX6_listen_150 rfl ?_
      refine v_iald C dX6_listen_151 rfl h.1.1 h.1.2 ?_
      replace h := h.2
      refine v_aload_n C dX6_listen_152 rfl ?_
      refine v_aload_n C dX6_listen_153 rfl ?_
      refine v_get C dX6_listen_154 flX6_9 rfl (by decide) (by decide) (w := .inr (15, i0)) rfl ?_
      refine v_iload_n C dX6_listen_157 rfl ?_
      refine v_iald C dX6_listen_158 rfl h.1.1 h.1.2 ?_
      replace h := h.2
      refine v_invV C ctX6_soundCost dX6_listen_159 ivX6_53 ⟨by decide, by decide, rfl, rfl⟩ ((i0, M138 15 i0 x3) : Int × Int) (As := [.inl (M138 15 i0 x3)]) rfl rfl rfl (by decide) rfl (st := [.inl (M138 17 i0 x3), .inl (x3 + 1), .inr (17, i0)]) rfl (Nat.le_of_ble_eq_true rfl) h (fun o M159 oM159 io159 h => ?_)
      obtain ⟨r159, rfl, h⟩ := rI_out h
      refine v_push ?_
      refine v_iadd C dX6_listen_162 h.1 ?_
      replace h := h.2
      refine v_iast C dX6_listen_163 rfl h.1.1 h.1.2 ?_
      replace h := h.2
      refine v_nmM (fun M163 eM163 => ?_)
      replace h := h M163 eM163
      refine v_iinc C dX6_listen_164 (by decide) rfl h.1 (lv' := [some (.inr (14, i0)), none, none, some (.inl (x3 + 1)), none, none, none]) rfl ?_
      replace h := h.2
      refine v_goto C dX6_listen_167 (tgt := 100) (by decide) ?_
      refine v_weak [some (.inr (14, i0)), none, none, some (.inl (x3 + 1)), none, none, none] ⟨rfl, rfl, trivial⟩ ?_
      exact h
    · replace h := h.2 c129
      refine v_iconst C dX6_listen_132 (by decide) ?_
      refine v_goto C dX6_listen_133 (tgt := 137) (by decide) ?_
      refine v_iadd C dX6_listen_137 h.1 ?_
      replace h := h.2
      refine v_iast C dX6_listen_138 rfl h.1.1 h.1.2 ?_
      replace h := h.2
      refine v_nmM (fun M138 eM138 => ?_)
      replace h := h M138 eM138
      refine v_aload_n C dX6_listen_139 rfl ?_
      refine v_get C dX6_listen_140 flX6_18 rfl (by decide) (by decide) (w := .inr (17, i0)) rfl ?_
      refine v_iload_n C dX6_listen_143 rfl ?_
      refine v_iconst C dX6_listen_144 (by decide) ?_
      refine v_iadd C dX6_listen_145 h.1 ?_
      replace h := h.2
      refine v_aload_n C dX6_listen_146 rfl ?_
      refine v_get C dX6_listen_147 flX6_18 rfl (by decide) (by decide) (w := .inr (17, i0)) rfl ?_
      refine v_iload_n C dX6_listen_150 rfl ?_
      refine v_iald C dX6_listen_151 rfl h.1.1 h.1.2 ?_
      replace h := h.2
      refine v_aload_n C dX6_listen_152 rfl ?_
      refine v_aload_n C dX6_listen_153 rfl ?_
      refine v_get C dX6_listen_154 flX6_9 rfl (by decide) (by decide) (w := .inr (15, i0)) rfl ?_
      refine v_iload_n C dX6_listen_157 rfl ?_
      refine v_iald C dX6_listen_158 rfl h.1.1 h.1.2 ?_
      replace h := h.2
      refine v_invV C ctX6_soundCost dX6_listen_159 ivX6_53 ⟨by decide, by decide, rfl, rfl⟩ ((i0, M138 15 i0 x3) : Int × Int) (As := [.inl (M138 15 i0 x3)]) rfl rfl rfl (by decide) rfl (st := [.inl (M138 17 i0 x3), .inl (x3 + 1), .inr (17, i0)]) rfl (Nat.le_of_ble_eq_true rfl) h (fun o M159 oM159 io159 h => ?_)
      obtain ⟨r159, rfl, h⟩ := rI_out h
      refine v_push ?_
      refine v_iadd C dX6_listen_162 h.1 ?_
      replace h := h.2
      refine v_iast C dX6_listen_163 rfl h.1.1 h.1.2 ?_
      replace h := h.2
      refine v_nmM (fun M163 eM163 => ?_)
      replace h := h M163 eM163
      refine v_iinc C dX6_listen_164 (by decide) rfl h.1 (lv' := [some (.inr (14, i0)), none, none, some (.inl (x3 + 1)), none, none, none]) rfl ?_
      replace h := h.2
      refine v_goto C dX6_listen_167 (tgt := 100) (by decide) ?_
      refine v_weak [some (.inr (14, i0)), none, none, some (.inl (x3 + 1)), none, none, none] ⟨rfl, rfl, trivial⟩ ?_
      exact h
set_option maxHeartbeats 4000000 in
set_option maxRecDepth 20000 in
theorem sgX6_listen_67 {κ : Kx} {K : Kont} {M : Mem} (C : Cx κ RX6 cX6_listen 7 none rmX6_listen domC) (i0 : Int) (x1 : Int) (x2 : Int) (x3 : Int) (x4 : Int) (x5 : Int) (x6 : Int)
    (h :
    ((x4 ≤ x6 →
      inR (x3 + 1) ∧
      V κ 7 M 10 [some (.inr (14, i0)), some (.inl x1), some (.inl x2), some (.inl (x3 + 1)), none, none, none] [] K) ∧
     (¬ (x4 ≤ x6) →
      (0 ≤ x6 ∧ x6 < 100) ∧
      (0 ≤ x6 ∧ x6 < 100) ∧
      ∀ M85 : Mem, M85 = up3 M 15 i0 x6 (bOr (M 15 i0 x6) x5) →
      inR (x6 + 1) ∧
      V κ 7 M85 67 [some (.inr (14, i0)), some (.inl x1), some (.inl x2), some (.inl x3), some (.inl x4), some (.inl x5), some (.inl (x6 + 1))] [] K))) : V κ 7 M 67 [some (.inr (14, i0)), some (.inl x1), some (.inl x2), some (.inl x3), some (.inl x4), some (.inl x5), some (.inl x6)] [] K := by
  refine v_iload C dX6_listen_67 rfl ?_
  refine v_iload C dX6_listen_69 rfl ?_
  refine v_icmp C dX6_listen_71 (tgt := 92) (by decide) (P := x4 ≤ x6) rfl (fun c71 => ?_) (fun c71 => ?_)
  · replace h := h.1 c71
    refine v_iinc C dX6_listen_92 (by decide) rfl h.1 (lv' := [some (.inr (14, i0)), some (.inl x1), some (.inl x2), some (.inl (x3 + 1)), some (.inl x4), some (.inl x5), some (.inl x6)]) rfl ?_
    replace h := h.2
    refine v_goto C dX6_listen_95 (tgt := 10) (by decide) ?_
    refine v_weak [some (.inr (14, i0)), some (.inl x1), some (.inl x2), some (.inl (x3 + 1)), none, none, none] ⟨rfl, rfl, rfl, rfl, trivial⟩ ?_
    exact h
  · replace h := h.2 c71
    refine v_aload_n C dX6_listen_74 rfl ?_
    refine v_get C dX6_listen_75 flX6_9 rfl (by decide) (by decide) (w := .inr (15, i0)) rfl ?_
    refine v_iload C dX6_listen_78 rfl ?_
    refine v_dup2 C dX6_listen_80 ?_
    refine v_iald C dX6_listen_81 rfl h.1.1 h.1.2 ?_
    replace h := h.2
    refine v_iload C dX6_listen_82 rfl ?_
    refine v_ior C dX6_listen_84 ?_
    refine v_iast C dX6_listen_85 rfl h.1.1 h.1.2 ?_
    replace h := h.2
    refine v_nmM (fun M85 eM85 => ?_)
    replace h := h M85 eM85
    refine v_iinc C dX6_listen_86 (by decide) rfl h.1 (lv' := [some (.inr (14, i0)), some (.inl x1), some (.inl x2), some (.inl x3), some (.inl x4), some (.inl x5), some (.inl (x6 + 1))]) rfl ?_
    replace h := h.2
    refine v_goto C dX6_listen_89 (tgt := 67) (by decide) ?_
    refine v_weak [some (.inr (14, i0)), some (.inl x1), some (.inl x2), some (.inl x3), some (.inl x4), some (.inl x5), some (.inl (x6 + 1))] ⟨rfl, rfl, rfl, rfl, rfl, rfl, rfl, trivial⟩ ?_
    exact h
abbrev spX6_listen (tr s n : Int) (M : Mem) (K : Kont) : Prop := (WFf (cFilm M 1) ∧ TrB M tr ∧ M 16 tr 0 = 0 ∧ M 17 tr 0 = 0 ∧ (s = -1 ∨ (0 ≤ s ∧ s < M 5 1 3 ∧ 0 ≤ n ∧ n ≤ M 9 1 s - M 8 1 s))) ∧
  ∀ M', AgT M M' tr → TrB M' tr → TrK M' tr (shF (cFilm M 1) s n) → K none M'
theorem shF_7 (F : Film) (s n a b : Int) : shF F s n 7 a b = if a = s ∧ 0 ≤ s then F 7 s b - n else F 7 a b := by
  unfold shF
  by_cases h : a = s ∧ 0 ≤ s
  · rw [if_pos ⟨rfl, h⟩, if_pos h]
  · rw [if_neg (fun q => h q.2), if_neg h]
theorem shF_ne (F : Film) (s n : Int) {t : Nat} (h : t ≠ 7) (a b : Int) : shF F s n t a b = F t a b := by
  unfold shF
  rw [if_neg (fun q => h q.1)]
theorem wf_shF {F : Film} (hf : WFf F) {s n : Int} (hs : s = -1 ∨ (0 ≤ s ∧ s < F 2 0 0 ∧ 0 ≤ n ∧ n ≤ F 7 s 0 - F 6 s 0)) : WFf (shF F s n) := by
  obtain ⟨h1, h2, h3, h4, h5, h6, h7⟩ := hf
  have e : ∀ (t : Nat) (a b : Int), t ≠ 7 → shF F s n t a b = F t a b := fun t a b h => shF_ne F s n h a b
  refine ⟨by rw [e _ _ _ (by decide)]; exact h1, by rw [e _ _ _ (by decide)]; exact h2, by rw [e _ _ _ (by decide)]; exact h3, by rw [e _ _ _ (by decide)]; exact h4, fun w a b => by rw [e _ _ _ (by decide)]; exact h5 w a b, fun q a b => ?_, fun p a b => ?_⟩
  · rw [e _ _ _ (by decide)] at b
    have := h6 q a b
    unfold WFs at this ⊢
    rw [e 5 _ _ (by decide), e 6 _ _ (by decide), e 0 _ _ (by decide), shF_7]
    split
    · rename_i hc
      obtain ⟨hc1, hc2⟩ := hc
      subst hc1
      omega
    · omega
  · rw [e _ _ _ (by decide)] at b
    have := h7 p a b
    unfold WFp at this ⊢
    simp only [e 8 _ _ (by decide), e 9 _ _ (by decide), e 10 _ _ (by decide), e 11 _ _ (by decide), e 12 _ _ (by decide), e 13 _ _ (by decide), e 14 _ _ (by decide), e 0 _ _ (by decide)]
    exact this
theorem ctX6_listen : CtX6_listen spX6_listen := by
  refine ct_of (by decide) dmC (fun _ => Nat.le_of_ble_eq_true rfl) ?_
  intro κ a M K C oM h
  obtain ⟨tr, s, n⟩ := a
  refine sgX6_listen_0 C tr s n ?_
  dsimp only [spX6_listen] at h
  obtain ⟨⟨hf, hb, hz1, hz2, hs⟩, hk⟩ := h
  have hG : WFf (shF (cFilm M 1) s n) := wf_shF hf hs
  generalize hGe : shF (cFilm M 1) s n = G at hk hG
  have eG : ∀ (t : Nat) (a b : Int), t ≠ 7 → G t a b = cFilm M 1 t a b := fun t a b h => by rw [← hGe]; exact shF_ne _ s n h a b
  have hT := hf.1
  have hS := hf.2.2.1
  simp only [cFilm] at hT hS
  have g0 : G 0 0 0 = M 5 1 0 := eG 0 0 0 (by decide)
  have g2 : G 2 0 0 = M 5 1 3 := eG 2 0 0 (by decide)
  -- what stays: J
  have film : ∀ M', AgT M M' tr → ∀ r i, 5 ≤ r → r ≤ 13 → M' r i = M r i := fun M' h r i h1 h2 => h r i (by omega)
  -- the last loop
  have last : ∀ (k : Nat) (t : Int) (M' : Mem), 0 ≤ t → t + k = M 5 1 0 → AgT M M' tr → TrB M' tr → (∀ u, 0 ≤ u → u < 100 → M' 15 tr u = mkF G u) → (∀ u, 0 ≤ u → u ≤ t → M' 16 tr u = spb G u ∧ M' 17 tr u = csb G u) →
      V κ 7 M' 100 [some (.inr (14, tr)), none, none, some (.inl t), none, none, none] [] K := by
    intro k
    induction k with
    | zero =>
      intro t M' h0 hn hA hB hm hu
      have e := film M' hA 5 1 (by decide) (by decide)
      refine sgX6_listen_100 C tr t ⟨fun c => ?_, fun c => absurd (by rw [e]; omega) c⟩
      exact hk M' hA hB ⟨hm, fun u a b => hu u a (by omega)⟩
    | succ k ih =>
      intro t M' h0 hn hA hB hm hu
      have e := film M' hA 5 1 (by decide) (by decide)
      have e6 := film M' hA 6 1 (by decide) (by decide)
      have hut := hu t h0 (by omega)
      have hr1 := spb_rng G (t := t) h0 (by omega)
      have hr2 := csb_rng hG (t := t) h0 (by omega)
      have hr3 := spb_rng G (t := t + 1) (by omega) (by omega)
      have hr4 := csb_rng hG (t := t + 1) (by omega) (by omega)
      have hs1 := spb_s G h0
      have hs2 := csb_s G h0
      have hmt := hm t h0 (by omega)
      have tail : ∀ z, z = spc G t → inR (M' 16 tr t + z) ∧ (0 ≤ t + 1 ∧ t + 1 < 101) ∧ ∀ M138 : Mem, M138 = up3 M' 16 tr (t + 1) (M' 16 tr t + z) → inR (t + 1) ∧ (0 ≤ t ∧ t < 101) ∧ (0 ≤ t ∧ t < 100) ∧
          spX6_soundCost tr (M138 15 tr t) M138 (rI (fun r159 M159 => inR (M138 17 tr t + r159) ∧ (0 ≤ t + 1 ∧ t + 1 < 101) ∧ ∀ M163 : Mem, M163 = up3 M159 17 tr (t + 1) (M138 17 tr t + r159) → inR (t + 1) ∧
            V κ 7 M163 100 [some (.inr (14, tr)), none, none, some (.inl (t + 1)), none, none, none] [] K)) := by
        intro z ez
        refine ⟨by omega, by omega, fun N eN => ⟨by omega, by omega, by omega, ?_⟩⟩
        have n15 : N 15 tr t = mkF G t := by rw [eN, up3_r _ _ _ _ _ (by decide), hmt]
        have n17 : N 17 tr t = csb G t := by rw [eN, up3_r _ _ _ _ _ (by decide), hut.2]
        have n62 : N 6 1 2 = G 4 2 0 := by rw [eN, up3_r _ _ _ _ _ (by decide), e6, eG 4 2 0 (by decide)]; rfl
        have n63 : N 6 1 3 = G 4 3 0 := by rw [eN, up3_r _ _ _ _ _ (by decide), e6, eG 4 3 0 (by decide)]; rfl
        have ec : (if bAnd (N 15 tr t) 2 ≠ 0 then N 6 1 2 else if bAnd (N 15 tr t) 4 ≠ 0 then N 6 1 3 else 0) = cst G t := by rw [n15, n62, n63]; rfl
        show inR (N 17 tr t + (if bAnd (N 15 tr t) 2 ≠ 0 then N 6 1 2 else if bAnd (N 15 tr t) 4 ≠ 0 then N 6 1 3 else 0)) ∧ _
        rw [ec, n17]
        refine ⟨by omega, by omega, fun N2 eN2 => ⟨by omega, ?_⟩⟩
        have hA2 : AgT M N2 tr := by rw [eN2, eN]; exact (hA.up (by decide) _ _).up (by decide) _ _
        have v16 : ∀ u, N2 16 tr u = if u = t + 1 then M' 16 tr t + z else M' 16 tr u := by
          intro u
          rw [eN2, up3_r _ _ _ _ _ (by decide), eN]
          by_cases q : u = t + 1
          · rw [if_pos q, q, up3_s]
          · rw [if_neg q, up3_j _ _ _ _ _ q]
        have v17 : ∀ u, N2 17 tr u = if u = t + 1 then csb G t + cst G t else M' 17 tr u := by
          intro u
          rw [eN2]
          by_cases q : u = t + 1
          · rw [if_pos q, q, up3_s]
          · rw [if_neg q, up3_j _ _ _ _ _ q, eN, up3_r _ _ _ _ _ (by decide)]
        refine ih (t + 1) N2 (by omega) (by omega) hA2 ?_ ?_ ?_
        · intro u a b
          have := hB u a b
          rw [v16, v17]
          split <;> omega
        · intro u a b
          rw [eN2, up3_r _ _ _ _ _ (by decide), eN, up3_r _ _ _ _ _ (by decide)]
          exact hm u a b
        · intro u a b
          rw [v16, v17]
          by_cases q : u = t + 1
          · rw [if_pos q, if_pos q, q, hs1, hs2]
            omega
          · rw [if_neg q, if_neg q]
            exact hu u a (by omega)
      refine sgX6_listen_100 C tr t ⟨fun c => absurd c (by rw [e]; omega), fun c => ⟨by omega, by omega, ⟨h0, by omega⟩, fun c2 => ?_, fun c2 => ?_⟩⟩
      · refine tail 0 ?_
        unfold spc
        rw [← hmt]
        exact c2.symm
      · refine tail 1 ?_
        unfold spc
        rw [← hmt]
        split
        · rename_i q
          rw [if_pos q] at c2
          exact absurd rfl c2
        · rfl
  -- the sounds, one by one
  have outer : ∀ (k : Nat) (q : Int) (M' : Mem), 0 ≤ q → q + k = M 5 1 3 → AgT M M' tr → TrB M' tr → M' 16 tr 0 = 0 → M' 17 tr 0 = 0 → (∀ u, 0 ≤ u → u < 100 → M' 15 tr u = mkN G u q.toNat) →
      V κ 7 M' 10 [some (.inr (14, tr)), some (.inl s), some (.inl n), some (.inl q), none, none, none] [] K := by
    intro k
    induction k with
    | zero =>
      intro q M' h0 hn hA hB hz1 hz2 hm
      have e := film M' hA 5 1 (by decide) (by decide)
      refine sgX6_listen_10 C tr s n q ⟨fun c => ?_, fun c => absurd (by rw [e]; omega) c⟩
      refine last (M 5 1 0).toNat 0 M' (by omega) (by omega) hA hB ?_ ?_
      · intro u a b
        rw [hm u a b]
        have : q = G 2 0 0 := by omega
        rw [this]
        rfl
      · intro u a b
        have : u = 0 := by omega
        rw [this, hz1, hz2]
        exact ⟨rfl, rfl⟩
    | succ k ih =>
      intro q M' h0 hn hA hB hz1 hz2 hm
      have e := film M' hA 5 1 (by decide) (by decide)
      have e7 := film M' hA 7 1 (by decide) (by decide)
      have e8 := film M' hA 8 1 (by decide) (by decide)
      have e9 := film M' hA 9 1 (by decide) (by decide)
      have hw := hG.2.2.2.2.2.1 q h0 (by omega)
      unfold WFs at hw
      rw [g0] at hw
      have g5 : G 5 q 0 = M 7 1 q := eG 5 q 0 (by decide)
      have g6 : G 6 q 0 = M 8 1 q := eG 6 q 0 (by decide)
      have inner : ∀ (k2 : Nat) (t : Int) (N : Mem), G 6 q 0 ≤ t → t + k2 = G 7 q 0 → AgT M N tr → TrB N tr → N 16 tr 0 = 0 → N 17 tr 0 = 0 → (∀ u, 0 ≤ u → u < 100 → N 15 tr u = if G 6 q 0 ≤ u ∧ u < t then bOr (mkN G u q.toNat) (bShl 1 (G 5 q 0)) else mkN G u q.toNat) →
          V κ 7 N 67 [some (.inr (14, tr)), some (.inl s), some (.inl n), some (.inl q), some (.inl (G 7 q 0)), some (.inl (bShl 1 (G 5 q 0))), some (.inl t)] [] K := by
        intro k2
        induction k2 with
        | zero =>
          intro t N hb0 hn2 hA hB hz1 hz2 hm2
          refine sgX6_listen_67 C tr s n q _ _ t ⟨fun c => ⟨by omega, ?_⟩, fun c => absurd (by omega) c⟩
          refine ih (q + 1) N (by omega) (by omega) hA hB hz1 hz2 ?_
          intro u a b
          rw [hm2 u a b, toNat_s h0]
          show _ = if G 6 (q.toNat : Int) 0 ≤ u ∧ u < G 7 (q.toNat : Int) 0 then bOr (mkN G u q.toNat) (bShl 1 (G 5 (q.toNat : Int) 0)) else mkN G u q.toNat
          rw [oi_nat h0]
          have : t = G 7 q 0 := by omega
          rw [this]
        | succ k2 ih2 =>
          intro t N hb0 hn2 hA hB hz1 hz2 hm2
          refine sgX6_listen_67 C tr s n q _ _ t ⟨fun c => absurd c (by omega), fun c => ⟨by omega, by omega, fun N2 eN2 => ⟨by omega, ?_⟩⟩⟩
          have hA2 : AgT M N2 tr := by rw [eN2]; exact hA.up (by decide) _ _
          refine ih2 (t + 1) N2 (by omega) (by omega) hA2 ?_ ?_ ?_ ?_
          · intro u a b
            rw [eN2, up3_r _ _ _ _ _ (by decide), up3_r _ _ _ _ _ (by decide)]
            exact hB u a b
          · rw [eN2, up3_r _ _ _ _ _ (by decide)]
            exact hz1
          · rw [eN2, up3_r _ _ _ _ _ (by decide)]
            exact hz2
          · intro u a b
            rw [eN2]
            by_cases hut : u = t
            · rw [hut, up3_s, hm2 t (by omega) (by omega), if_neg (by omega), if_pos (by omega)]
            · rw [up3_j _ _ _ _ _ hut, hm2 u a b]
              by_cases hc : G 6 q 0 ≤ u ∧ u < t
              · rw [if_pos hc, if_pos (by omega)]
              · rw [if_neg hc, if_neg (by omega)]
      have start := inner (G 7 q 0 - G 6 q 0).toNat (G 6 q 0) M' (by omega) (by omega) hA hB hz1 hz2 (fun u a b => by rw [hm u a b, if_neg (by omega)])
      rw [g5, g6] at start
      refine sgX6_listen_10 C tr s n q ⟨fun c => absurd c (by rw [e]; omega), fun c => ⟨by omega, fun c2 => ?_, fun c2 => ?_⟩⟩
      · have g7 : G 7 q 0 = M 9 1 q - 0 := by
          rw [← hGe, shF_7, if_neg (fun z => c2 z.1)]
          show M 9 1 q = _
          omega
        rw [e7, e8, e9]
        refine ⟨by omega, fun y4 ey4 => ⟨by omega, fun y5 ey5 => ⟨by omega, ?_⟩⟩⟩
        rw [ey4, ey5, ← g7]
        exact start
      · have g7 : G 7 q 0 = M 9 1 q - n := by
          have c3 : q = s := by omega
          rw [← hGe, shF_7, if_pos ⟨c3, by omega⟩, ← c3]
          rfl
        rw [e7, e8, e9]
        refine ⟨by omega, fun y4 ey4 => ⟨by omega, fun y5 ey5 => ⟨by omega, ?_⟩⟩⟩
        rw [ey4, ey5, ← g7]
        exact start
  intro N eN
  have hA : AgT M N tr := by
    intro r i hn
    rw [eN]
    funext j
    unfold filM
    rw [if_neg (fun z => hn ⟨Or.inl z.1, z.2.1⟩)]
  have o16 : ∀ r j, r ≠ 15 → N r tr j = M r tr j := by
    intro r j hr
    rw [eN]
    unfold filM
    rw [if_neg (fun z => hr z.1)]
  refine outer (M 5 1 3).toNat 0 N (by omega) (by omega) hA ?_ (by rw [o16 16 0 (by decide)]; exact hz1) (by rw [o16 17 0 (by decide)]; exact hz2) ?_
  · intro u a b
    rw [o16 16 u (by decide), o16 17 u (by decide)]
    exact hb u a b
  · intro u a b
    rw [eN]
    unfold filM
    rw [if_pos ⟨rfl, rfl, a, b⟩]
    rfl
