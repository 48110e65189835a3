/-! ===== BestFinder.solve ===== -/
def SubA (F : Film) (set t told : Int) : Prop := (0 ≤ told ∧ told < bShl 1 (F 3 0 0)) ∧ ∀ k, 0 ≤ k → k < 7 → bit told k = true → (bit set k = true ∧ F 8 k 0 - F 9 k 0 < t)
theorem SubA.mono {F : Film} {set t u told : Int} (h : SubA F set t told) (hu : t ≤ u) : SubA F set u told := ⟨h.1, fun k a b c => ⟨(h.2 k a b c).1, by have := (h.2 k a b c).2; omega⟩⟩
theorem bV_id {F : Film} {S Q : Int → Int} {B : Int} {f : Int → Int → Int} {t set p : Int} : ∀ (n : Nat) (b : Int), (∀ v : Int, 0 ≤ v → v < n → ¬ begOk F S p v t set) → bV F S Q B f t set p n b = b := by
  intro n
  induction n with
  | zero => intro b _; rfl
  | succ n ih =>
    intro b h
    unfold bV
    rw [if_neg (h n (by omega) (by omega))]
    exact ih b (fun v a c => h v a (by omega))
theorem sub_or {F : Film} (hf : WFf F) {set t u told p : Int} (h : SubA F set t told) (hu : t < u) (hp : 0 ≤ p) (hp2 : p < F 3 0 0) (hb : bit set p = true) (hn : F 8 p 0 - F 9 p 0 ≤ t) : SubA F set u (bOr told (bShl 1 p)) := by
  have w := wf_p hf hp hp2
  have hn3 := hf.2.2.2.1
  have hw := shl_le7 (k := F 3 0 0) (by omega) (by omega)
  have ho := shl_lt128 (p := p) hp (by omega)
  obtain ⟨⟨a1, a2⟩, a3⟩ := h
  have hr := or_rng7 (x := told) (y := bShl 1 p) a1 (by omega) (by omega) ho.2
  refine ⟨⟨hr.1, lt_bit hr.1 hr.2 (by omega) (by omega) (fun k k0 k1 => ?_)⟩, fun k k0 k1 hk => ?_⟩
  · rw [bit_or2 a1 (by omega) (by omega) ho.2, bit_shl hp (by omega) (by omega), bit_lt a1 (by omega) (by omega) a2 k0]
    have : ¬ k = p := by omega
    simp [this]
  · rw [bit_or2 a1 (by omega) (by omega) ho.2, bit_shl hp (by omega) k0, Bool.or_eq_true, decide_eq_true_eq] at hk
    rcases hk with hk | hk
    · exact ⟨(a3 k k0 k1 hk).1, by have := (a3 k k0 k1 hk).2; omega⟩
    · rw [hk]
      exact ⟨hb, by omega⟩
theorem tp_bV {N : Mem} {F : Film} {S Q : Int → Int} {B w p t told x : Int} {f : Int → Int → Int} (h1 : bit told p = false) (h2 : F 12 p 0 = -4 ∨ bit told (F 12 p 0) = true) : ∀ n : Nat, (∀ v : Int, 0 ≤ v → v < n → ownW F S p v t = 0 → N 22 0 (min (t + F 13 p v + B) (F 0 0 0) * w + told + bShl 1 p) = f (min (t + F 13 p v + B) (F 0 0 0)) (bOr told (bShl 1 p))) →
    tpF N F S Q B w p t told n x = bV F S Q B f t told p n x := by
  intro n
  induction n with
  | zero => intro _; rfl
  | succ n ih =>
    intro h
    have h3 := ih (fun v a b c => h v a (by omega) c)
    unfold tpF bV
    by_cases c : ownW F S p n t = 0
    · rw [if_pos c, if_pos ⟨h1, h2, c⟩, h3, h n (by omega) (by omega) c]
      rfl
    · rw [if_neg c, if_neg (fun z => c z.2.2), h3]
/-! ===== GapTellings$BestFinder.solve ===== -/
abbrev rmX0_solve : Room := { frames := 3, cells := 0, slots := 0, locals := 81 }
abbrev argX0_solve (a : Int × Int × Int) : List PV := [.inr (21, 0), .inr (14, a.1), .inl a.2.1, .inl a.2.2]
abbrev CtX0_solve (sp : Int → Int → Int → Mem → Kont → Prop) : Prop := Ct yX0_solve cX0_solve 8 (some .int) rmX0_solve domC argX0_solve (fun a => sp a.1 a.2.1 a.2.2)
theorem dX0_solve_0 : decode cX0_solve 0 = .ok (.iconst 1, 1) := by decide +kernel
theorem dX0_solve_1 : decode cX0_solve 1 = .ok (.aload_n 0, 1) := by decide +kernel
theorem dX0_solve_2 : decode cX0_solve 2 = .ok (.getfield 15, 3) := by decide +kernel
theorem dX0_solve_5 : decode cX0_solve 5 = .ok (.getfield 19, 3) := by decide +kernel
theorem dX0_solve_8 : decode cX0_solve 8 = .ok (.ishl, 1) := by decide +kernel
theorem dX0_solve_9 : decode cX0_solve 9 = .ok (.istore 4, 2) := by decide +kernel
theorem dX0_solve_11 : decode cX0_solve 11 = .ok (.iconst 0, 1) := by decide +kernel
theorem dX0_solve_12 : decode cX0_solve 12 = .ok (.istore 5, 2) := by decide +kernel
theorem dX0_solve_14 : decode cX0_solve 14 = .ok (.iload 5, 2) := by decide +kernel
theorem dX0_solve_16 : decode cX0_solve 16 = .ok (.iload 4, 2) := by decide +kernel
theorem dX0_solve_18 : decode cX0_solve 18 = .ok (.if_icmp .ge 28, 3) := by decide +kernel
theorem dX0_solve_21 : decode cX0_solve 21 = .ok (.aload_n 0, 1) := by decide +kernel
theorem dX0_solve_22 : decode cX0_solve 22 = .ok (.getfield 9, 3) := by decide +kernel
theorem dX0_solve_25 : decode cX0_solve 25 = .ok (.aload_n 0, 1) := by decide +kernel
theorem dX0_solve_26 : decode cX0_solve 26 = .ok (.getfield 15, 3) := by decide +kernel
theorem dX0_solve_29 : decode cX0_solve 29 = .ok (.getfield 25, 3) := by decide +kernel
theorem dX0_solve_32 : decode cX0_solve 32 = .ok (.iload 4, 2) := by decide +kernel
theorem dX0_solve_34 : decode cX0_solve 34 = .ok (.imul, 1) := by decide +kernel
theorem dX0_solve_35 : decode cX0_solve 35 = .ok (.iload 5, 2) := by decide +kernel
theorem dX0_solve_37 : decode cX0_solve 37 = .ok (.iadd, 1) := by decide +kernel
theorem dX0_solve_38 : decode cX0_solve 38 = .ok (.iconst 0, 1) := by decide +kernel
theorem dX0_solve_39 : decode cX0_solve 39 = .ok (.iastore, 1) := by decide +kernel
theorem dX0_solve_40 : decode cX0_solve 40 = .ok (.iinc 5 1, 3) := by decide +kernel
theorem dX0_solve_43 : decode cX0_solve 43 = .ok (.goto (-29), 3) := by decide +kernel
theorem dX0_solve_46 : decode cX0_solve 46 = .ok (.aload_n 0, 1) := by decide +kernel
theorem dX0_solve_47 : decode cX0_solve 47 = .ok (.getfield 15, 3) := by decide +kernel
theorem dX0_solve_50 : decode cX0_solve 50 = .ok (.getfield 25, 3) := by decide +kernel
theorem dX0_solve_53 : decode cX0_solve 53 = .ok (.iconst 1, 1) := by decide +kernel
theorem dX0_solve_54 : decode cX0_solve 54 = .ok (.isub, 1) := by decide +kernel
theorem dX0_solve_55 : decode cX0_solve 55 = .ok (.istore 5, 2) := by decide +kernel
theorem dX0_solve_57 : decode cX0_solve 57 = .ok (.iload 5, 2) := by decide +kernel
theorem dX0_solve_59 : decode cX0_solve 59 = .ok (.ifCond .lt 117, 3) := by decide +kernel
theorem dX0_solve_62 : decode cX0_solve 62 = .ok (.aload_n 0, 1) := by decide +kernel
theorem dX0_solve_63 : decode cX0_solve 63 = .ok (.getfield 9, 3) := by decide +kernel
theorem dX0_solve_66 : decode cX0_solve 66 = .ok (.iload 5, 2) := by decide +kernel
theorem dX0_solve_68 : decode cX0_solve 68 = .ok (.iconst 1, 1) := by decide +kernel
theorem dX0_solve_69 : decode cX0_solve 69 = .ok (.iadd, 1) := by decide +kernel
theorem dX0_solve_70 : decode cX0_solve 70 = .ok (.iload 4, 2) := by decide +kernel
theorem dX0_solve_72 : decode cX0_solve 72 = .ok (.imul, 1) := by decide +kernel
theorem dX0_solve_73 : decode cX0_solve 73 = .ok (.aload_n 0, 1) := by decide +kernel
theorem dX0_solve_74 : decode cX0_solve 74 = .ok (.getfield 9, 3) := by decide +kernel
theorem dX0_solve_77 : decode cX0_solve 77 = .ok (.iload 5, 2) := by decide +kernel
theorem dX0_solve_79 : decode cX0_solve 79 = .ok (.iload 4, 2) := by decide +kernel
theorem dX0_solve_81 : decode cX0_solve 81 = .ok (.imul, 1) := by decide +kernel
theorem dX0_solve_82 : decode cX0_solve 82 = .ok (.iload 4, 2) := by decide +kernel
theorem dX0_solve_84 : decode cX0_solve 84 = .ok (.invokestatic 28, 3) := by decide +kernel
theorem dX0_solve_87 : decode cX0_solve 87 = .ok (.aload_n 0, 1) := by decide +kernel
theorem dX0_solve_88 : decode cX0_solve 88 = .ok (.iload_n 3, 1) := by decide +kernel
theorem dX0_solve_89 : decode cX0_solve 89 = .ok (.iload 5, 2) := by decide +kernel
theorem dX0_solve_91 : decode cX0_solve 91 = .ok (.invokevirtual 34, 3) := by decide +kernel
theorem dX0_solve_94 : decode cX0_solve 94 = .ok (.istore 6, 2) := by decide +kernel
theorem dX0_solve_96 : decode cX0_solve 96 = .ok (.iconst 0, 1) := by decide +kernel
theorem dX0_solve_97 : decode cX0_solve 97 = .ok (.istore 7, 2) := by decide +kernel
theorem dX0_solve_99 : decode cX0_solve 99 = .ok (.iload 7, 2) := by decide +kernel
theorem dX0_solve_101 : decode cX0_solve 101 = .ok (.aload_n 0, 1) := by decide +kernel
theorem dX0_solve_102 : decode cX0_solve 102 = .ok (.getfield 15, 3) := by decide +kernel
theorem dX0_solve_105 : decode cX0_solve 105 = .ok (.getfield 19, 3) := by decide +kernel
theorem dX0_solve_108 : decode cX0_solve 108 = .ok (.if_icmp .ge 62, 3) := by decide +kernel
theorem dX0_solve_111 : decode cX0_solve 111 = .ok (.iload_n 3, 1) := by decide +kernel
theorem dX0_solve_112 : decode cX0_solve 112 = .ok (.iconst 1, 1) := by decide +kernel
theorem dX0_solve_113 : decode cX0_solve 113 = .ok (.iload 7, 2) := by decide +kernel
theorem dX0_solve_115 : decode cX0_solve 115 = .ok (.ishl, 1) := by decide +kernel
theorem dX0_solve_116 : decode cX0_solve 116 = .ok (.iand, 1) := by decide +kernel
theorem dX0_solve_117 : decode cX0_solve 117 = .ok (.ifCond .eq 47, 3) := by decide +kernel
theorem dX0_solve_120 : decode cX0_solve 120 = .ok (.aload_n 0, 1) := by decide +kernel
theorem dX0_solve_121 : decode cX0_solve 121 = .ok (.getfield 15, 3) := by decide +kernel
theorem dX0_solve_124 : decode cX0_solve 124 = .ok (.getfield 38, 3) := by decide +kernel
theorem dX0_solve_127 : decode cX0_solve 127 = .ok (.iload 7, 2) := by decide +kernel
theorem dX0_solve_129 : decode cX0_solve 129 = .ok (.aaload, 1) := by decide +kernel
theorem dX0_solve_130 : decode cX0_solve 130 = .ok (.iload 5, 2) := by decide +kernel
theorem dX0_solve_132 : decode cX0_solve 132 = .ok (.invokevirtual 42, 3) := by decide +kernel
theorem dX0_solve_135 : decode cX0_solve 135 = .ok (.ifCond .eq 29, 3) := by decide +kernel
theorem dX0_solve_138 : decode cX0_solve 138 = .ok (.aload_n 0, 1) := by decide +kernel
theorem dX0_solve_139 : decode cX0_solve 139 = .ok (.iload 7, 2) := by decide +kernel
theorem dX0_solve_141 : decode cX0_solve 141 = .ok (.invokevirtual 48, 3) := by decide +kernel
theorem dX0_solve_144 : decode cX0_solve 144 = .ok (.iload 6, 2) := by decide +kernel
theorem dX0_solve_146 : decode cX0_solve 146 = .ok (.iconst (-1), 1) := by decide +kernel
theorem dX0_solve_147 : decode cX0_solve 147 = .ok (.ixor, 1) := by decide +kernel
theorem dX0_solve_148 : decode cX0_solve 148 = .ok (.iand, 1) := by decide +kernel
theorem dX0_solve_149 : decode cX0_solve 149 = .ok (.ifCond .ne 15, 3) := by decide +kernel
theorem dX0_solve_152 : decode cX0_solve 152 = .ok (.aload_n 0, 1) := by decide +kernel
theorem dX0_solve_153 : decode cX0_solve 153 = .ok (.aload_n 1, 1) := by decide +kernel
theorem dX0_solve_154 : decode cX0_solve 154 = .ok (.iload_n 2, 1) := by decide +kernel
theorem dX0_solve_155 : decode cX0_solve 155 = .ok (.iload 7, 2) := by decide +kernel
theorem dX0_solve_157 : decode cX0_solve 157 = .ok (.iload 5, 2) := by decide +kernel
theorem dX0_solve_159 : decode cX0_solve 159 = .ok (.iload 6, 2) := by decide +kernel
theorem dX0_solve_161 : decode cX0_solve 161 = .ok (.invokevirtual 52, 3) := by decide +kernel
theorem dX0_solve_164 : decode cX0_solve 164 = .ok (.iinc 7 1, 3) := by decide +kernel
theorem dX0_solve_167 : decode cX0_solve 167 = .ok (.goto (-68), 3) := by decide +kernel
theorem dX0_solve_170 : decode cX0_solve 170 = .ok (.iinc 5 (-1), 3) := by decide +kernel
theorem dX0_solve_173 : decode cX0_solve 173 = .ok (.goto (-116), 3) := by decide +kernel
theorem dX0_solve_176 : decode cX0_solve 176 = .ok (.aload_n 0, 1) := by decide +kernel
theorem dX0_solve_177 : decode cX0_solve 177 = .ok (.getfield 9, 3) := by decide +kernel
theorem dX0_solve_180 : decode cX0_solve 180 = .ok (.iconst 0, 1) := by decide +kernel
theorem dX0_solve_181 : decode cX0_solve 181 = .ok (.iaload, 1) := by decide +kernel
theorem dX0_solve_182 : decode cX0_solve 182 = .ok (.ireturn, 1) := by decide +kernel
theorem ivX0_28 : ICp RX0 28 := ⟨(tb_mem (t_in3 (List.mem_of_getElem? (i := 168) (by decide +kernel))) (by decide +kernel)), (tb_mem (t_in3 (List.mem_of_getElem? (i := 170) (by decide +kernel))) (by decide +kernel)), (tb_mem (t_in3 (List.mem_of_getElem? (i := 169) (by decide +kernel))) (by decide +kernel)), (tb_mem (t_in1 (List.mem_of_getElem? (i := 17) (by decide +kernel))) (by decide +kernel))⟩
theorem ivX0_34 : IV RX0 34 yX0_openAhead cX0_openAhead 5 (some .int) 2 := ⟨(tb_mem (t_in3 (List.mem_of_getElem? (i := 171) (by decide +kernel))) (by decide +kernel)), (tb_mem (t_in3 (List.mem_of_getElem? (i := 172) (by decide +kernel))) (by decide +kernel)), (tb_mem (t_in3 (List.mem_of_getElem? (i := 173) (by decide +kernel))) (by decide +kernel)), (tb_mem (t_in1 (List.mem_of_getElem? (i := 8) (by decide +kernel))) (by decide +kernel)), (tb_mem (t_in3 (List.mem_of_getElem? (i := 174) (by decide +kernel))) (by decide +kernel)), ⟨by decide +kernel, by decide +kernel, by decide +kernel⟩⟩
theorem ivX0_42 : IV RX0 42 yX3_isNear cX3_isNear 2 (some .boolean) 1 := ⟨(tb_mem (t_in3 (List.mem_of_getElem? (i := 175) (by decide +kernel))) (by decide +kernel)), (tb_mem (t_in3 (List.mem_of_getElem? (i := 66) (by decide +kernel))) (by decide +kernel)), (tb_mem (t_in3 (List.mem_of_getElem? (i := 67) (by decide +kernel))) (by decide +kernel)), (tb_mem (t_in1 (List.mem_of_getElem? (i := 4) (by decide +kernel))) (by decide +kernel)), (tb_mem (t_in3 (List.mem_of_getElem? (i := 68) (by decide +kernel))) (by decide +kernel)), ⟨by decide +kernel, by decide +kernel, by decide +kernel⟩⟩
theorem ivX0_52 : IV RX0 52 yX0_tryPicture cX0_tryPicture 8 none 5 := ⟨(tb_mem (t_in3 (List.mem_of_getElem? (i := 180) (by decide +kernel))) (by decide +kernel)), (tb_mem (t_in3 (List.mem_of_getElem? (i := 181) (by decide +kernel))) (by decide +kernel)), (tb_mem (t_in3 (List.mem_of_getElem? (i := 182) (by decide +kernel))) (by decide +kernel)), (tb_mem (t_in1 (List.mem_of_getElem? (i := 8) (by decide +kernel))) (by decide +kernel)), (tb_mem (t_in3 (List.mem_of_getElem? (i := 183) (by decide +kernel))) (by decide +kernel)), ⟨by decide +kernel, by decide +kernel, by decide +kernel⟩⟩
set_option maxHeartbeats 4000000 in
set_option maxRecDepth 20000 in
theorem sgX0_solve_0 {κ : Kx} {K : Kont} {M : Mem} (C : Cx κ RX0 cX0_solve 8 (some .int) rmX0_solve domC) (i1 : Int) (x2 : Int) (x3 : Int)
    (h :
    ∀ y4_9 : Int, y4_9 = bShl 1 (M 5 1 7) →
    V κ 8 M 14 [some (.inr (21, 0)), some (.inr (14, i1)), some (.inl x2), some (.inl x3), some (.inl y4_9), some (.inl 0), none, none] [] K) : V κ 8 M 0 [some (.inr (21, 0)), some (.inr (14, i1)), some (.inl x2), some (.inl x3), none, none, none, none] [] K := by
  refine v_iconst C dX0_solve_0 (by decide) ?_
  refine v_aload_n C dX0_solve_1 rfl ?_
  refine v_get C dX0_solve_2 flX0_15 rfl (by decide) (by decide) (w := .inr (5, 1)) rfl ?_
  refine v_get C dX0_solve_5 flX0_19 rfl (by decide) (by decide) (w := .inl (M 5 1 7)) rfl ?_
  refine v_ishl C dX0_solve_8 ?_
  refine v_nm (fun y4_9 ey4_9 => ?_)
  replace h := h y4_9 ey4_9
  refine v_istore C dX0_solve_9 (by decide) (Nat.le_of_ble_eq_true rfl) (lv' := [some (.inr (21, 0)), some (.inr (14, i1)), some (.inl x2), some (.inl x3), some (.inl y4_9), none, none, none]) rfl ?_
  refine v_iconst C dX0_solve_11 (by decide) ?_
  refine v_istore C dX0_solve_12 (by decide) (Nat.le_of_ble_eq_true rfl) (lv' := [some (.inr (21, 0)), some (.inr (14, i1)), some (.inl x2), some (.inl x3), some (.inl y4_9), some (.inl 0), none, none]) rfl ?_
  refine v_weak [some (.inr (21, 0)), some (.inr (14, i1)), some (.inl x2), some (.inl x3), some (.inl y4_9), some (.inl 0), none, none] ⟨rfl, rfl, rfl, rfl, rfl, rfl, trivial⟩ ?_
  exact h
set_option maxHeartbeats 4000000 in
set_option maxRecDepth 20000 in
theorem sgX0_solve_14 {κ : Kx} {K : Kont} {M : Mem} (C : Cx κ RX0 cX0_solve 8 (some .int) rmX0_solve domC) (i1 : Int) (x2 : Int) (x3 : Int) (x4 : Int) (x5 : Int)
    (h :
    ((x4 ≤ x5 →
      inR ((M 5 1 0) - 1) ∧
      ∀ y5_55 : Int, y5_55 = (M 5 1 0) - 1 →
      V κ 8 M 57 [some (.inr (21, 0)), some (.inr (14, i1)), some (.inl x2), some (.inl x3), some (.inl x4), some (.inl y5_55), none, none] [] K) ∧
     (¬ (x4 ≤ x5) →
      inR ((M 5 1 0) * x4) ∧
      inR (((M 5 1 0) * x4) + x5) ∧
      (0 ≤ (((M 5 1 0) * x4) + x5) ∧ (((M 5 1 0) * x4) + x5) < 12928) ∧
      ∀ M39 : Mem, M39 = up3 M 22 0 (((M 5 1 0) * x4) + x5) 0 →
      inR (x5 + 1) ∧
      V κ 8 M39 14 [some (.inr (21, 0)), some (.inr (14, i1)), some (.inl x2), some (.inl x3), some (.inl x4), some (.inl (x5 + 1)), none, none] [] K))) : V κ 8 M 14 [some (.inr (21, 0)), some (.inr (14, i1)), some (.inl x2), some (.inl x3), some (.inl x4), some (.inl x5), none, none] [] K := by
  refine v_iload C dX0_solve_14 rfl ?_
  refine v_iload C dX0_solve_16 rfl ?_
  refine v_icmp C dX0_solve_18 (tgt := 46) (by decide) (P := x4 ≤ x5) rfl (fun c18 => ?_) (fun c18 => ?_)
  · replace h := h.1 c18
    refine v_aload_n C dX0_solve_46 rfl ?_
    refine v_get C dX0_solve_47 flX0_15 rfl (by decide) (by decide) (w := .inr (5, 1)) rfl ?_
    refine v_get C dX0_solve_50 flX0_25 rfl (by decide) (by decide) (w := .inl (M 5 1 0)) rfl ?_
    refine v_iconst C dX0_solve_53 (by decide) ?_
    refine v_isub C dX0_solve_54 h.1 ?_
    replace h := h.2
    refine v_nm (fun y5_55 ey5_55 => ?_)
    replace h := h y5_55 ey5_55
    refine v_istore C dX0_solve_55 (by decide) (Nat.le_of_ble_eq_true rfl) (lv' := [some (.inr (21, 0)), some (.inr (14, i1)), some (.inl x2), some (.inl x3), some (.inl x4), some (.inl y5_55), none, none]) rfl ?_
    refine v_weak [some (.inr (21, 0)), some (.inr (14, i1)), some (.inl x2), some (.inl x3), some (.inl x4), some (.inl y5_55), none, none] ⟨rfl, rfl, rfl, rfl, rfl, rfl, trivial⟩ ?_
    exact h
  · replace h := h.2 c18
    refine v_aload_n C dX0_solve_21 rfl ?_
    refine v_get C dX0_solve_22 flX0_9 rfl (by decide) (by decide) (w := .inr (22, 0)) rfl ?_
    refine v_aload_n C dX0_solve_25 rfl ?_
    refine v_get C dX0_solve_26 flX0_15 rfl (by decide) (by decide) (w := .inr (5, 1)) rfl ?_
    refine v_get C dX0_solve_29 flX0_25 rfl (by decide) (by decide) (w := .inl (M 5 1 0)) rfl ?_
    refine v_iload C dX0_solve_32 rfl ?_
    refine v_imul C dX0_solve_34 h.1 ?_
    replace h := h.2
    refine v_iload C dX0_solve_35 rfl ?_
    refine v_iadd C dX0_solve_37 h.1 ?_
    replace h := h.2
    refine v_iconst C dX0_solve_38 (by decide) ?_
    refine v_iast C dX0_solve_39 rfl h.1.1 h.1.2 ?_
    replace h := h.2
    refine v_nmM (fun M39 eM39 => ?_)
    replace h := h M39 eM39
    refine v_iinc C dX0_solve_40 (by decide) rfl h.1 (lv' := [some (.inr (21, 0)), some (.inr (14, i1)), some (.inl x2), some (.inl x3), some (.inl x4), some (.inl (x5 + 1)), none, none]) rfl ?_
    replace h := h.2
    refine v_goto C dX0_solve_43 (tgt := 14) (by decide) ?_
    refine v_weak [some (.inr (21, 0)), some (.inr (14, i1)), some (.inl x2), some (.inl x3), some (.inl x4), some (.inl (x5 + 1)), none, none] ⟨rfl, rfl, rfl, rfl, rfl, rfl, trivial⟩ ?_
    exact h
set_option maxHeartbeats 4000000 in
set_option maxRecDepth 20000 in
theorem sgX0_solve_57 {κ : Kx} {K : Kont} {M : Mem} (C : Cx κ RX0 cX0_solve 8 (some .int) rmX0_solve domC) (i1 : Int) (x2 : Int) (x3 : Int) (x4 : Int) (x5 : Int)
    (h :
    ((x5 < 0 →
      K (some (M 22 0 0)) M) ∧
     (¬ (x5 < 0) →
      inR (x5 + 1) ∧
      inR ((x5 + 1) * x4) ∧
      inR (x5 * x4) ∧
      (0 ≤ ((x5 + 1) * x4) ∧ 0 ≤ (x5 * x4) ∧ 0 ≤ x4 ∧ ((x5 + 1) * x4) + x4 ≤ 12928 ∧ (x5 * x4) + x4 ≤ 12928) ∧
      ∀ M84 : Mem, M84 = cpyM M 22 0 ((x5 + 1) * x4) 22 0 (x5 * x4) x4 →
      spX0_openAhead x3 x5 M84 (rI (fun r91 M91 =>
      V κ 8 M91 99 [some (.inr (21, 0)), some (.inr (14, i1)), some (.inl x2), some (.inl x3), some (.inl x4), some (.inl x5), some (.inl r91), some (.inl 0)] [] K))))) : V κ 8 M 57 [some (.inr (21, 0)), some (.inr (14, i1)), some (.inl x2), some (.inl x3), some (.inl x4), some (.inl x5), none, none] [] K := by
  refine v_iload C dX0_solve_57 rfl ?_
  refine v_if C dX0_solve_59 (tgt := 176) (by decide) (P := x5 < 0) rfl (fun c59 => ?_) (fun c59 => ?_)
  · replace h := h.1 c59
    refine v_aload_n C dX0_solve_176 rfl ?_
    refine v_get C dX0_solve_177 flX0_9 rfl (by decide) (by decide) (w := .inr (22, 0)) rfl ?_
    refine v_iconst C dX0_solve_180 (by decide) ?_
    refine v_iald C dX0_solve_181 rfl (by decide) (by decide) ?_
    exact v_iret C dX0_solve_182 h
  · replace h := h.2 c59
    refine v_aload_n C dX0_solve_62 rfl ?_
    refine v_get C dX0_solve_63 flX0_9 rfl (by decide) (by decide) (w := .inr (22, 0)) rfl ?_
    refine v_iload C dX0_solve_66 rfl ?_
    refine v_iconst C dX0_solve_68 (by decide) ?_
    refine v_iadd C dX0_solve_69 h.1 ?_
    replace h := h.2
    refine v_iload C dX0_solve_70 rfl ?_
    refine v_imul C dX0_solve_72 h.1 ?_
    replace h := h.2
    refine v_aload_n C dX0_solve_73 rfl ?_
    refine v_get C dX0_solve_74 flX0_9 rfl (by decide) (by decide) (w := .inr (22, 0)) rfl ?_
    refine v_iload C dX0_solve_77 rfl ?_
    refine v_iload C dX0_solve_79 rfl ?_
    refine v_imul C dX0_solve_81 h.1 ?_
    replace h := h.2
    refine v_iload C dX0_solve_82 rfl ?_
    refine v_copy C dX0_solve_84 ivX0_28 rfl rfl h.1.1 h.1.2.1 h.1.2.2.1 h.1.2.2.2.1 h.1.2.2.2.2 (Nat.le_of_ble_eq_true rfl) ⟨by decide, by decide⟩ ?_
    replace h := h.2
    refine v_nmM (fun M84 eM84 => ?_)
    replace h := h M84 eM84
    refine v_aload_n C dX0_solve_87 rfl ?_
    refine v_iload_n C dX0_solve_88 rfl ?_
    refine v_iload C dX0_solve_89 rfl ?_
    refine v_invV C ctX0_openAhead dX0_solve_91 ivX0_34 ⟨by decide, by decide, rfl, rfl⟩ ((x3, x5) : Int × Int) (As := [.inl x3, .inl x5]) rfl rfl rfl (by decide) rfl (st := []) rfl (Nat.le_of_ble_eq_true rfl) h (fun o M91 oM91 io91 h => ?_)
    obtain ⟨r91, rfl, h⟩ := rI_out h
    refine v_push ?_
    refine v_istore C dX0_solve_94 (by decide) (Nat.le_of_ble_eq_true rfl) (lv' := [some (.inr (21, 0)), some (.inr (14, i1)), some (.inl x2), some (.inl x3), some (.inl x4), some (.inl x5), some (.inl r91), none]) rfl ?_
    refine v_iconst C dX0_solve_96 (by decide) ?_
    refine v_istore C dX0_solve_97 (by decide) (Nat.le_of_ble_eq_true rfl) (lv' := [some (.inr (21, 0)), some (.inr (14, i1)), some (.inl x2), some (.inl x3), some (.inl x4), some (.inl x5), some (.inl r91), some (.inl 0)]) rfl ?_
    refine v_weak [some (.inr (21, 0)), some (.inr (14, i1)), some (.inl x2), some (.inl x3), some (.inl x4), some (.inl x5), some (.inl r91), some (.inl 0)] ⟨rfl, rfl, rfl, rfl, rfl, rfl, rfl, rfl, trivial⟩ ?_
    exact h
set_option maxHeartbeats 4000000 in
set_option maxRecDepth 20000 in
theorem sgX0_solve_99 {κ : Kx} {K : Kont} {M : Mem} (C : Cx κ RX0 cX0_solve 8 (some .int) rmX0_solve domC) (i1 : Int) (x2 : Int) (x3 : Int) (x4 : Int) (x5 : Int) (x6 : Int) (x7 : Int)
    (h :
    (((M 5 1 7) ≤ x7 →
      inR (x5 + (-1)) ∧
      V κ 8 M 57 [some (.inr (21, 0)), some (.inr (14, i1)), some (.inl x2), some (.inl x3), some (.inl x4), some (.inl (x5 + (-1))), none, none] [] K) ∧
     (¬ ((M 5 1 7) ≤ x7) →
      (((bAnd x3 (bShl 1 x7)) = 0 →
        inR (x7 + 1) ∧
        V κ 8 M 99 [some (.inr (21, 0)), some (.inr (14, i1)), some (.inl x2), some (.inl x3), some (.inl x4), some (.inl x5), some (.inl x6), some (.inl (x7 + 1))] [] K) ∧
       (¬ ((bAnd x3 (bShl 1 x7)) = 0) →
        (0 ≤ x7 ∧ x7 < 7) ∧
        spX3_isNear (7 * 1 + x7) x5 M (rI (fun r132 M132 =>
        ((r132 = 0 →
          inR (x7 + 1) ∧
          V κ 8 M132 99 [some (.inr (21, 0)), some (.inr (14, i1)), some (.inl x2), some (.inl x3), some (.inl x4), some (.inl x5), some (.inl x6), some (.inl (x7 + 1))] [] K) ∧
         (¬ (r132 = 0) →
          spX0_neededSet x7 M132 (rI (fun r141 M141 =>
          (((bAnd r141 (bXor x6 (-1))) ≠ 0 →
            inR (x7 + 1) ∧
            V κ 8 M141 99 [some (.inr (21, 0)), some (.inr (14, i1)), some (.inl x2), some (.inl x3), some (.inl x4), some (.inl x5), some (.inl x6), some (.inl (x7 + 1))] [] K) ∧
           (¬ ((bAnd r141 (bXor x6 (-1))) ≠ 0) →
            spX0_tryPicture i1 x2 x7 x5 x6 M141 (rV (fun M161 =>
            inR (x7 + 1) ∧
            V κ 8 M161 99 [some (.inr (21, 0)), some (.inr (14, i1)), some (.inl x2), some (.inl x3), some (.inl x4), some (.inl x5), some (.inl x6), some (.inl (x7 + 1))] [] K))))))))))))))) : V κ 8 M 99 [some (.inr (21, 0)), some (.inr (14, i1)), some (.inl x2), some (.inl x3), some (.inl x4), some (.inl x5), some (.inl x6), some (.inl x7)] [] K := by
  refine v_iload C dX0_solve_99 rfl ?_
  refine v_aload_n C dX0_solve_101 rfl ?_
  refine v_get C dX0_solve_102 flX0_15 rfl (by decide) (by decide) (w := .inr (5, 1)) rfl ?_
  refine v_get C dX0_solve_105 flX0_19 rfl (by decide) (by decide) (w := .inl (M 5 1 7)) rfl ?_
  refine v_icmp C dX0_solve_108 (tgt := 170) (by decide) (P := (M 5 1 7) ≤ x7) rfl (fun c108 => ?_) (fun c108 => ?_)
  · replace h := h.1 c108
    refine v_iinc C dX0_solve_170 (by decide) rfl h.1 (lv' := [some (.inr (21, 0)), some (.inr (14, i1)), some (.inl x2), some (.inl x3), some (.inl x4), some (.inl (x5 + (-1))), some (.inl x6), some (.inl x7)]) rfl ?_
    replace h := h.2
    refine v_goto C dX0_solve_173 (tgt := 57) (by decide) ?_
    refine v_weak [some (.inr (21, 0)), some (.inr (14, i1)), some (.inl x2), some (.inl x3), some (.inl x4), some (.inl (x5 + (-1))), none, none] ⟨rfl, rfl, rfl, rfl, rfl, rfl, trivial⟩ ?_
    exact h
  · replace h := h.2 c108
    refine v_iload_n C dX0_solve_111 rfl ?_
    refine v_iconst C dX0_solve_112 (by decide) ?_
    refine v_iload C dX0_solve_113 rfl ?_
    refine v_ishl C dX0_solve_115 ?_
    refine v_iand C dX0_solve_116 ?_
    refine v_if C dX0_solve_117 (tgt := 164) (by decide) (P := (bAnd x3 (bShl 1 x7)) = 0) rfl (fun c117 => ?_) (fun c117 => ?_)
    · replace h := h.1 c117
      refine v_iinc C dX0_solve_164 (by decide) rfl h.1 (lv' := [some (.inr (21, 0)), some (.inr (14, i1)), some (.inl x2), some (.inl x3), some (.inl x4), some (.inl x5), some (.inl x6), some (.inl (x7 + 1))]) rfl ?_
      replace h := h.2
      refine v_goto C dX0_solve_167 (tgt := 99) (by decide) ?_
      refine v_weak [some (.inr (21, 0)), some (.inr (14, i1)), some (.inl x2), some (.inl x3), some (.inl x4), some (.inl x5), some (.inl x6), some (.inl (x7 + 1))] ⟨rfl, rfl, rfl, rfl, rfl, rfl, rfl, rfl, trivial⟩ ?_
      exact h
    · replace h := h.2 c117
      refine v_aload_n C dX0_solve_120 rfl ?_
      refine v_get C dX0_solve_121 flX0_15 rfl (by decide) (by decide) (w := .inr (5, 1)) rfl ?_
      refine v_get C dX0_solve_124 flX0_38 rfl (by decide) (by decide) (w := .inr (10, 1)) rfl ?_
      refine v_iload C dX0_solve_127 rfl ?_
      refine v_aald C dX0_solve_129 h.1.1 h.1.2 ?_
      replace h := h.2
      refine v_iload C dX0_solve_130 rfl ?_
      refine v_invV C ctX3_isNear dX0_solve_132 ivX0_42 ⟨by decide, by decide, rfl, rfl⟩ ((7 * 1 + x7, x5) : Int × Int) (As := [.inl x5]) rfl rfl rfl (by decide) rfl (st := []) rfl (Nat.le_of_ble_eq_true rfl) h (fun o M132 oM132 io132 h => ?_)
      obtain ⟨r132, rfl, h⟩ := rI_out h
      refine v_push ?_
      refine v_if C dX0_solve_135 (tgt := 164) (by decide) (P := r132 = 0) rfl (fun c135 => ?_) (fun c135 => ?_)
      · replace h := h.1 c135
        refine v_iinc C dX0_solve_164 (by decide) rfl h.1 (lv' := [some (.inr (21, 0)), some (.inr (14, i1)), some (.inl x2), some (.inl x3), some (.inl x4), some (.inl x5), some (.inl x6), some (.inl (x7 + 1))]) rfl ?_
        replace h := h.2
        refine v_goto C dX0_solve_167 (tgt := 99) (by decide) ?_
        refine v_weak [some (.inr (21, 0)), some (.inr (14, i1)), some (.inl x2), some (.inl x3), some (.inl x4), some (.inl x5), some (.inl x6), some (.inl (x7 + 1))] ⟨rfl, rfl, rfl, rfl, rfl, rfl, rfl, rfl, trivial⟩ ?_
        exact h
      · replace h := h.2 c135
        refine v_aload_n C dX0_solve_138 rfl ?_
        refine v_iload C dX0_solve_139 rfl ?_
        refine v_invV C ctX0_neededSet dX0_solve_141 ivX0_48 ⟨by decide, by decide, rfl, rfl⟩ (x7 : Int) (As := [.inl x7]) rfl rfl rfl (by decide) rfl (st := []) rfl (Nat.le_of_ble_eq_true rfl) h (fun o M141 oM141 io141 h => ?_)
        obtain ⟨r141, rfl, h⟩ := rI_out h
        refine v_push ?_
        refine v_iload C dX0_solve_144 rfl ?_
        refine v_iconst C dX0_solve_146 (by decide) ?_
        refine v_ixor C dX0_solve_147 ?_
        refine v_iand C dX0_solve_148 ?_
        refine v_if C dX0_solve_149 (tgt := 164) (by decide) (P := (bAnd r141 (bXor x6 (-1))) ≠ 0) rfl (fun c149 => ?_) (fun c149 => ?_)
        · replace h := h.1 c149
          refine v_iinc C dX0_solve_164 (by decide) rfl h.1 (lv' := [some (.inr (21, 0)), some (.inr (14, i1)), some (.inl x2), some (.inl x3), some (.inl x4), some (.inl x5), some (.inl x6), some (.inl (x7 + 1))]) rfl ?_
          replace h := h.2
          refine v_goto C dX0_solve_167 (tgt := 99) (by decide) ?_
          refine v_weak [some (.inr (21, 0)), some (.inr (14, i1)), some (.inl x2), some (.inl x3), some (.inl x4), some (.inl x5), some (.inl x6), some (.inl (x7 + 1))] ⟨rfl, rfl, rfl, rfl, rfl, rfl, rfl, rfl, trivial⟩ ?_
          exact h
        · replace h := h.2 c149
          refine v_aload_n C dX0_solve_152 rfl ?_
          refine v_aload_n C dX0_solve_153 rfl ?_
          refine v_iload_n C dX0_solve_154 rfl ?_
          refine v_iload C dX0_solve_155 rfl ?_
          refine v_iload C dX0_solve_157 rfl ?_
          refine v_iload C dX0_solve_159 rfl ?_
          refine v_invV C ctX0_tryPicture dX0_solve_161 ivX0_52 ⟨by decide, by decide, rfl, rfl⟩ ((i1, x2, x7, x5, x6) : Int × Int × Int × Int × Int) (As := [.inr (14, i1), .inl x2, .inl x7, .inl x5, .inl x6]) rfl rfl rfl (by decide) rfl (st := []) rfl (Nat.le_of_ble_eq_true rfl) h (fun o M161 oM161 io161 h => ?_)
          obtain ⟨rfl, h⟩ := rV_out h
          refine v_push0 ?_
          refine v_iinc C dX0_solve_164 (by decide) rfl h.1 (lv' := [some (.inr (21, 0)), some (.inr (14, i1)), some (.inl x2), some (.inl x3), some (.inl x4), some (.inl x5), some (.inl x6), some (.inl (x7 + 1))]) rfl ?_
          replace h := h.2
          refine v_goto C dX0_solve_167 (tgt := 99) (by decide) ?_
          refine v_weak [some (.inr (21, 0)), some (.inr (14, i1)), some (.inl x2), some (.inl x3), some (.inl x4), some (.inl x5), some (.inl x6), some (.inl (x7 + 1))] ⟨rfl, rfl, rfl, rfl, rfl, rfl, rfl, rfl, trivial⟩ ?_
          exact h
abbrev spX0_solve (tr b set : Int) (M : Mem) (K : Kont) : Prop := (WFf (cFilm M 1) ∧ TrB M tr ∧ (0 ≤ b ∧ b ≤ 9) ∧ (0 ≤ set ∧ set < bShl 1 (M 5 1 7))) ∧
  ∀ M', AgB M M' → (∀ t told, 0 ≤ t → t ≤ M 5 1 0 → SubA (cFilm M 1) set t told → M' 22 0 (t * bShl 1 (M 5 1 7) + told) = tabR (cFilm M 1) (M 16 tr) (M 17 tr) b set (M 5 1 0).toNat t told) → K (some (tabR (cFilm M 1) (M 16 tr) (M 17 tr) b set (M 5 1 0).toNat 0 0)) M'
theorem ctX0_solve : CtX0_solve spX0_solve := by
  refine ct_of (by decide) dmC (fun _ => Nat.le_of_ble_eq_true rfl) ?_
  intro κ a M K C oM h
  obtain ⟨tr, b, set⟩ := a
  dsimp only [spX0_solve] at h
  obtain ⟨⟨hf, hb, hbr, hset⟩, hk⟩ := h
  have hT := hf.1
  have hnP := hf.2.2.2.1
  simp only [cFilm] at hT hnP
  have hw := shl_le7 (k := M 5 1 7) (by omega) (by omega)
  generalize hF : cFilm M 1 = F at *
  have f0 : F 0 0 0 = M 5 1 0 := by rw [← hF]; rfl
  have f3 : F 3 0 0 = M 5 1 7 := by rw [← hF]; rfl
  have hQB : QB (M 17 tr) := fun t a b => (hb t a b).2
  generalize hW : bShl 1 (M 5 1 7) = w at *
  have hW3 : bShl 1 (F 3 0 0) = w := by rw [f3]; exact hW
  have mul : ∀ u, 0 ≤ u → u ≤ M 5 1 0 → 0 ≤ u * w ∧ u * w + w ≤ 12928 := by
    intro u a c
    have q1 := mul_rng (a := u) (b := w) (A := 100) (B := 128) a (by omega) (by omega) hw.2
    have q2 : (u + 1) * w ≤ 101 * 128 := Int.mul_le_mul (by omega) hw.2 (by omega) (by omega)
    rw [Int.add_mul, Int.one_mul] at q2
    omega
  have sep : ∀ u t, u < t → u * w + w ≤ t * w := by
    intro u t h
    have q1 : (u + 1) * w ≤ t * w := Int.mul_le_mul_of_nonneg_right (by omega) (by omega)
    rw [Int.add_mul, Int.one_mul] at q1
    exact q1
  -- rows from t on stand
  let Rows : Mem → Int → Prop := fun N t => ∀ u told, t ≤ u → u ≤ M 5 1 0 → 0 ≤ told → told < w → (0 ≤ N 22 0 (u * w + told) ∧ N 22 0 (u * w + told) ≤ 2000 * (M 5 1 0 - u)) ∧
      (SubA F set u told → N 22 0 (u * w + told) = tabR F (M 16 tr) (M 17 tr) b set (M 5 1 0).toNat u told)
  have down : ∀ (n : Nat) (t : Int) (N : Mem), t + 1 = n → t < M 5 1 0 → AgB M N → Rows N (t + 1) →
      V κ 8 N 57 [some (.inr (21, 0)), some (.inr (14, tr)), some (.inl b), some (.inl set), some (.inl w), some (.inl t), none, none] [] K := by
    intro n
    induction n with
    | zero =>
      intro t N hn ht hA hR
      refine sgX0_solve_57 C tr b set w t ⟨fun c => ?_, fun c => absurd (by omega) c⟩
      have et : t + 1 = 0 := by omega
      rw [et] at hR
      have z := (hR 0 0 (by omega) (by omega) (by omega) (by omega)).2 ⟨⟨by omega, by rw [hW3]; omega⟩, fun k _ _ hk => by rw [bit_0] at hk; cases hk⟩
      rw [Int.zero_mul, Int.zero_add] at z
      rw [z]
      refine hk N hA (fun u told a c d => ?_)
      have d1 := d.1
      rw [hW3] at d1
      exact (hR u told a c d1.1 d1.2).2 d
    | succ n ih =>
      intro t N hn ht hA hR
      have e5 : N 5 = M 5 := hA 5 (by decide)
      have t0 : 0 ≤ t := by omega
      have mt := mul t t0 (by omega)
      have mt1 := mul (t + 1) (by omega) (by omega)
      have e1w : (t + 1) * w = t * w + w := by rw [Int.add_mul, Int.one_mul]
      refine sgX0_solve_57 C tr b set w t ⟨fun c => absurd c (by omega), fun c => ⟨by omega, by omega, by omega, ⟨by omega, by omega, by omega, by omega, by omega⟩, fun N1 eN1 => ?_⟩⟩
      have hA1 : AgB M N1 := by
        refine hA.tr (fun r hr => ?_)
        rw [eN1]
        funext i j
        unfold cpyM
        rw [if_neg (fun z => hr z.1)]
      have row1 : ∀ told, 0 ≤ told → told < w → N1 22 0 (t * w + told) = N 22 0 ((t + 1) * w + told) := by
        intro told a c
        rw [eN1]
        unfold cpyM
        rw [if_pos ⟨rfl, rfl, by omega, by omega⟩]
        congr 1
        omega
      have oth1 : ∀ u told, t < u → 0 ≤ told → N1 22 0 (u * w + told) = N 22 0 (u * w + told) := by
        intro u told a c
        rw [eN1]
        unfold cpyM
        have := sep t u a
        rw [if_neg (fun z => by have := z.2.2.2; omega)]
      have eF1 : cFilm N1 1 = F := by rw [hA1.film 1]; exact hF
      have hnn : t = F 0 0 0 - ((M 5 1 0 - t - 1).toNat + 1 : Nat) := by omega
      let f := tabR F (M 16 tr) (M 17 tr) b set (M 5 1 0 - t - 1).toNat
      have frow : ∀ u told, t < u → u ≤ M 5 1 0 → tabR F (M 16 tr) (M 17 tr) b set (M 5 1 0).toNat u told = f u told := fun u told a c => tab_keep F _ _ _ _ _ _ u told (by omega) (by omega)
      have trow : ∀ told, tabR F (M 16 tr) (M 17 tr) b set (M 5 1 0).toNat t told = bP F (M 16 tr) (M 17 tr) b f t told set (F 3 0 0).toNat := by
        intro told
        rw [tab_keep F _ _ _ _ (M 5 1 0).toNat ((M 5 1 0 - t - 1).toNat + 1) t told (by omega) (by omega)]
        show (if t = F 0 0 0 - (((M 5 1 0 - t - 1).toNat : Int) + 1) then _ else _) = _
        rw [if_pos (by omega)]
      have frng : ∀ u s, t < u → u ≤ F 0 0 0 → 0 ≤ f u s ∧ f u s ≤ 2000 * (F 0 0 0 - (t + 1)) := by
        intro u s a c
        have := tab_rng (S := M 16 tr) (may := set) hf hQB hbr.1 (M 5 1 0 - t - 1).toNat u s (by omega) (by omega) c
        show 0 ≤ f u s ∧ _
        have e9 : f u s = tabR F (M 16 tr) (M 17 tr) b set (M 5 1 0 - t - 1).toNat u s := rfl
        rw [e9]
        omega
      refine ⟨⟨by rw [eF1]; exact hf, hset.1, by omega⟩, ?_⟩
      intro A hAh
      rw [eF1] at hAh
      -- the pictures, one by one
      have pics : ∀ (m : Nat) (p : Int) (N2 : Mem), 0 ≤ p → p + m = M 5 1 7 → AgB M N2 → Rows N2 (t + 1) → (∀ told, 0 ≤ told → told < w → 0 ≤ N2 22 0 (t * w + told) ∧ N2 22 0 (t * w + told) ≤ 2000 * (M 5 1 0 - t)) →
          (∀ told, SubA F set t told → N2 22 0 (t * w + told) = bP F (M 16 tr) (M 17 tr) b f t told set p.toNat) →
          V κ 8 N2 99 [some (.inr (21, 0)), some (.inr (14, tr)), some (.inl b), some (.inl set), some (.inl w), some (.inl t), some (.inl A), some (.inl p)] [] K := by
        intro m
        induction m with
        | zero =>
          intro p N2 p0 pn hA2 hR2 hbd hrow
          have q5 : N2 5 = M 5 := hA2 5 (by decide)
          refine sgX0_solve_99 C tr b set w t A p ⟨fun c => ⟨by omega, ?_⟩, fun c => absurd (by rw [q5]; omega) c⟩
          refine ih (t + (-1)) N2 (by omega) (by omega) hA2 ?_
          intro u told a c d e
          by_cases hu : u = t
          · rw [hu]
            refine ⟨hbd told d e, fun hs => ?_⟩
            rw [hrow told hs, trow told]
            have : p = F 3 0 0 := by omega
            rw [this]
          · exact hR2 u told (by omega) c d e
        | succ m ih2 =>
          intro p N2 p0 pn hA2 hR2 hbd hrow
          have q5 : N2 5 = M 5 := hA2 5 (by decide)
          have q11 : N2 11 = M 11 := hA2 11 (by decide)
          have q16 : N2 16 = M 16 := hA2 16 (by decide)
          have q17 : N2 17 = M 17 := hA2 17 (by decide)
          have eF2 : cFilm N2 1 = F := by rw [hA2.film 1]; exact hF
          have wp := wf_p hf p0 (show p < F 3 0 0 by omega)
          have ps : ∀ told, bP F (M 16 tr) (M 17 tr) b f t told set (p + 1).toNat = if bit set p then bV F (M 16 tr) (M 17 tr) b f t told p (F 11 p 0).toNat (bP F (M 16 tr) (M 17 tr) b f t told set p.toNat) else bP F (M 16 tr) (M 17 tr) b f t told set p.toNat := by
            intro told
            rw [toNat_s p0]
            show (if bit set (p.toNat : Int) then bV F _ _ b f t told (p.toNat : Int) (F 11 (p.toNat : Int) 0).toNat _ else _) = _
            rw [oi_nat p0]
          have skip : (∀ told, SubA F set t told → bP F (M 16 tr) (M 17 tr) b f t told set (p + 1).toNat = bP F (M 16 tr) (M 17 tr) b f t told set p.toNat) → inR (p + 1) ∧ V κ 8 N2 99 [some (.inr (21, 0)), some (.inr (14, tr)), some (.inl b), some (.inl set), some (.inl w), some (.inl t), some (.inl A), some (.inl (p + 1))] [] K := by
            intro hs
            exact ⟨by omega, ih2 (p + 1) N2 (by omega) (by omega) hA2 hR2 hbd (fun told h => by rw [hs told h]; exact hrow told h)⟩
          have e8 : N2 11 (7 * 1 + p) 0 = F 8 p 0 := by rw [q11, ← hF]; rfl
          have e9 : N2 11 (7 * 1 + p) 1 = F 9 p 0 := by rw [q11, ← hF]; rfl
          have e10 : N2 11 (7 * 1 + p) 2 = F 10 p 0 := by rw [q11, ← hF]; rfl
          have hab := and_bit (x := set) (k := p) hset.1 (by omega) p0 (by omega)
          refine sgX0_solve_99 C tr b set w t A p ⟨fun c => absurd c (by rw [q5]; omega), fun c => ⟨fun c2 => ?_, fun c2 => ⟨by omega, ⟨by rw [e8, e9, e10]; omega, ?_⟩⟩⟩⟩
          · refine skip (fun told hs => ?_)
            rw [ps, hab.mp c2]
            rfl
          · have hbp : bit set p = true := by
              cases z : bit set p
              · exact absurd (hab.mpr z) c2
              · rfl
            have psT : ∀ told, bP F (M 16 tr) (M 17 tr) b f t told set (p + 1).toNat = bV F (M 16 tr) (M 17 tr) b f t told p (F 11 p 0).toNat (bP F (M 16 tr) (M 17 tr) b f t told set p.toNat) := fun told => by rw [ps, hbp]; rfl
            show ((if t < N2 11 (7 * 1 + p) 0 - N2 11 (7 * 1 + p) 1 ∨ N2 11 (7 * 1 + p) 0 + N2 11 (7 * 1 + p) 2 < t then (0 : Int) else 1) = 0 → _) ∧ (¬ (if t < N2 11 (7 * 1 + p) 0 - N2 11 (7 * 1 + p) 1 ∨ N2 11 (7 * 1 + p) 0 + N2 11 (7 * 1 + p) 2 < t then (0 : Int) else 1) = 0 → _)
            rw [e8, e9, e10]
            refine ⟨fun c3 => ?_, fun c3 => ⟨⟨p0, by omega⟩, ?_⟩⟩
            · have c4 := if01 c3
              refine skip (fun told hs => ?_)
              rw [psT]
              refine bV_id _ _ (fun v a d z => ?_)
              have := own_end z.2.2
              omega
            · have c4 := if01n c3
              rw [eF2]
              have hndr := ndS_rng hf p0 (show p < F 3 0 0 by omega)
              have hA128 : 0 ≤ A ∧ A < 128 := by have := hAh.1; omega
              have hnb := bit_not (a := ndS F p) (x := A) (k := F 12 p 0) hndr.1 (by omega) hA128.1 hA128.2
              refine ⟨fun c5 => ?_, fun c5 => ?_⟩
              · -- what it needs is not among those
                have hneed : F 12 p 0 ≠ -4 ∧ bit A (F 12 p 0) = false := by
                  by_cases z : F 12 p 0 = -4
                  · have : ndS F p = 0 := by unfold ndS; rw [if_pos z]
                    rw [this] at c5
                    exact absurd (by rw [and_not (by decide) (by decide) hA128.1 hA128.2]; simp) c5
                  · refine ⟨z, ?_⟩
                    cases y : bit A (F 12 p 0)
                    · rfl
                    · exfalso
                      apply c5
                      have hr9 := not_rng (a := ndS F p) (x := A) hndr.1 (by omega) hA128.1 hA128.2
                      refine bit_ext hr9.1 hr9.2 (by decide) (by decide) (fun k k0 k1 => ?_)
                      rw [bit_not hndr.1 (by omega) hA128.1 hA128.2, bit_0, nd_bit hf p0 (by omega) k0]
                      by_cases q : k = F 12 p 0
                      · rw [q, y]; simp
                      · simp [q]
                refine skip (fun told hs => ?_)
                rw [psT]
                refine bV_id _ _ (fun v a d z => ?_)
                rcases z.2.1 with y | y
                · exact hneed.1 y
                · have hs2 := hs.2 (F 12 p 0) (by omega) (by omega) y
                  have := (hAh.2 (F 12 p 0) (by omega) (by omega)).mpr ⟨hs2.1, by omega, hs2.2⟩
                  rw [hneed.2] at this
                  cases this
              · have hneed : F 12 p 0 = -4 ∨ bit A (F 12 p 0) = true := by
                  by_cases z : F 12 p 0 = -4
                  · exact Or.inl z
                  · right
                    cases y : bit A (F 12 p 0)
                    · exfalso
                      have c6 : bAnd (ndS F p) (bXor A (-1)) = 0 := by omega
                      rw [c6, bit_0, nd_bit hf p0 (by omega) (by omega), y] at hnb
                      simp [z] at hnb
                    · rfl
                have hAw : A < w := by have := hAh.1; omega
                have e57 : bShl 1 (N2 5 1 7) = w := by rw [q5]; exact hW
                refine ⟨⟨by rw [eF2]; exact hf, fun u a d => by rw [q16, q17]; exact hb u a d, by rw [q5]; omega, by rw [q5]; omega, hbr, by rw [e57]; omega, by rw [eF2]; exact hneed, ?_⟩, ?_⟩
                · intro u s a d e g
                  rw [q5] at d
                  rw [e57] at g ⊢
                  have := (hR2 u s (by omega) d e g).1
                  omega
                · intro N3 hA3 g1 g2
                  rw [eF2, q16, q17, e57] at g1
                  rw [eF2, e57] at g2
                  have e4 : N2 11 (7 * 1 + p) 4 = F 11 p 0 := by rw [q11, ← hF]; rfl
                  rw [e4] at g1
                  have subOf : ∀ told, tcond F A p told → SubA F set t told := by
                    intro told tc
                    refine ⟨tc.1, fun k k0 k1 hk => ?_⟩
                    have := (hAh.2 k k0 k1).mp (tc.2.1 k k0 k1 hk)
                    exact ⟨this.1, this.2.2⟩
                  have keep : ∀ u told, t < u → 0 ≤ told → N3 22 0 (u * w + told) = N2 22 0 (u * w + told) := by
                    intro u told a d
                    refine g2 _ (fun td tc z => ?_)
                    have := tc.1.2
                    rw [hW3] at this
                    have := sep t u a
                    omega
                  have newrow : ∀ told, SubA F set t told → N3 22 0 (t * w + told) = bP F (M 16 tr) (M 17 tr) b f t told set (p + 1).toNat := by
                    intro told hs
                    rw [psT]
                    by_cases tc : tcond F A p told
                    · rw [g1 told tc, hrow told hs]
                      refine tp_bV tc.2.2.1 tc.2.2.2 _ (fun v a d e => ?_)
                      have wv := wf_pv hf p0 (show p < F 3 0 0 by omega) a (by omega)
                      have oe := own_end e
                      have hnx : t < min (t + F 13 p v + b) (F 0 0 0) := by omega
                      have hnx2 : min (t + F 13 p v + b) (F 0 0 0) ≤ M 5 1 0 := by omega
                      generalize min (t + F 13 p v + b) (F 0 0 0) = nx at *
                      have so := sub_or hf hs hnx p0 (by omega) hbp (by omega)
                      have s1 := so.1
                      rw [hW3] at s1
                      have had := add_bit (s := told) (q := p) tc.1.1 (by have := tc.1.2; rw [hW3] at this; omega) p0 (by omega) tc.2.2.1
                      have e77 : nx * w + told + bShl 1 p = nx * w + bOr told (bShl 1 p) := by omega
                      rw [e77, (hR2 nx _ (by omega) hnx2 s1.1 s1.2).2 so, frow nx _ hnx hnx2]
                    · have s1 := hs.1
                      rw [hW3] at s1
                      rw [g2 _ (fun td tc2 z => ?_), hrow told hs]
                      · symm
                        refine bV_id _ _ (fun v a d z => tc ?_)
                        refine ⟨hs.1, fun k k0 k1 hk => ?_, z.1, z.2.1⟩
                        have h9 := hs.2 k k0 k1 hk
                        refine (hAh.2 k k0 k1).mpr ⟨h9.1, ?_, h9.2⟩
                        rcases Int.lt_or_le k (F 3 0 0) with q | q
                        · exact q
                        · rw [bit_lt hs.1.1 (by omega) (by omega) hs.1.2 q] at hk
                          cases hk
                      · have : td = told := by omega
                        rw [this] at tc2
                        exact tc tc2
                  refine ⟨by omega, ih2 (p + 1) N3 (by omega) (by omega) (hA2.tr hA3) ?_ ?_ newrow⟩
                  · intro u told a d e g
                    rw [keep u told (by omega) e]
                    exact hR2 u told a d e g
                  · intro told d e
                    by_cases hs : SubA F set t told
                    · rw [newrow told hs]
                      have := bP_rng (S := M 16 tr) (set := told) (may := set) hf hQB hbr.1 (t := t) (f := f) (U := 2000 * (F 0 0 0 - (t + 1))) (by omega) t0 (by omega) frng (p + 1).toNat (by omega)
                      omega
                    · rw [g2 _ (fun td tc z => ?_)]
                      · exact hbd told d e
                      · have : td = told := by omega
                        rw [this] at tc
                        exact hs (subOf told tc)
      refine pics (M 5 1 7).toNat 0 N1 (by omega) (by omega) hA1 ?_ ?_ ?_
      · intro u told a c d e
        rw [oth1 u told (by omega) d]
        exact hR u told a c d e
      · intro told a c
        rw [row1 told a c]
        have := (hR (t + 1) told (by omega) (by omega) a c).1
        omega
      · intro told hs
        have s1 := hs.1
        rw [hW3] at s1
        rw [row1 told s1.1 s1.2, (hR (t + 1) told (by omega) (by omega) s1.1 s1.2).2 (hs.mono (by omega)), frow (t + 1) told (by omega) (by omega)]
        rfl
  -- the last row
  have zero : ∀ (m : Nat) (s : Int) (N : Mem), 0 ≤ s → s + m = w → AgB M N → (∀ k, 0 ≤ k → k < s → N 22 0 (M 5 1 0 * w + k) = 0) →
      V κ 8 N 14 [some (.inr (21, 0)), some (.inr (14, tr)), some (.inl b), some (.inl set), some (.inl w), some (.inl s), none, none] [] K := by
    have mT := mul (M 5 1 0) (by omega) (by omega)
    intro m
    induction m with
    | zero =>
      intro s N s0 sn hA hz
      have e5 : N 5 = M 5 := hA 5 (by decide)
      refine sgX0_solve_14 C tr b set w s ⟨fun c => ⟨by rw [e5]; omega, fun y ey => ?_⟩, fun c => absurd (by omega) c⟩
      rw [e5] at ey
      refine down (y + 1).toNat y N (by omega) (by omega) hA ?_
      intro u told a c d e
      have eu : u = M 5 1 0 := by omega
      rw [eu, hz told d (by omega)]
      refine ⟨by omega, fun hs => ?_⟩
      rw [tab_keep F _ _ _ _ (M 5 1 0).toNat 0 _ told (by omega) (by omega)]
      rfl
    | succ m ih =>
      intro s N s0 sn hA hz
      have e5 : N 5 = M 5 := hA 5 (by decide)
      refine sgX0_solve_14 C tr b set w s ⟨fun c => absurd c (by omega), fun c => ?_⟩
      rw [e5]
      refine ⟨by omega, by omega, by omega, fun N2 eN2 => ⟨by omega, ih (s + 1) N2 (by omega) (by omega) (by rw [eN2]; exact hA.tr (AgB.up _ _ _)) (fun k k0 k1 => ?_)⟩⟩
      rw [eN2]
      by_cases e : k = s
      · rw [e, up3_s]
      · rw [up3_j _ _ _ _ _ (by omega)]
        exact hz k k0 (by omega)
  refine sgX0_solve_0 C tr b set (fun y ey => ?_)
  rw [hW] at ey
  rw [ey]
  exact zero w.toNat 0 M (by omega) (by omega) AgB.rf (fun k a c => by omega)
