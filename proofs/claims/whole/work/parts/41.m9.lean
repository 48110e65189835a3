/-! ===== the Model: the worthiest first ===== -/
def cod (s : gSt) : Int := if s.1 = 0 then -4 else 300 * s.2.2.1 + 100 * s.2.2.2.1 + s.2.2.2.2
/-- what has been found, as the Model keeps it -/
def SR (s : gSt) (b w g : Int) : Prop := 0 ≤ s.1 ∧ s.1 ≤ 99 ∧ b = cod s ∧ (s.1 ≠ 0 → 0 ≤ s.2.2.1 ∧ 0 ≤ s.2.2.2.1 ∧ 0 ≤ s.2.2.2.2) ∧ w = s.1 ∧ (s.1 = 0 → g = 0) ∧ (s.1 ≠ 0 → g = s.2.1)
theorem SR.neg {s : gSt} {b w g : Int} (h : SR s b w g) : b < 0 ↔ s.1 = 0 := by
  obtain ⟨h0, h9, hb, hn, hw, hg0, hg⟩ := h
  unfold cod at hb
  by_cases c : s.1 = 0
  · rw [if_pos c] at hb
    omega
  · rw [if_neg c] at hb
    have := hn c
    omega
def pzM (M : Mem) : Int → Bool := fun k => decide (M 51 0 k ≠ 0)
/-! ===== GapTellingsModel.worthiest ===== -/
abbrev rmX8_worthiest : Room := { frames := 3, cells := 0, slots := 0, locals := 74 }
abbrev argX8_worthiest (a : Unit) : List PV := [.inr (30, 0)]
abbrev CtX8_worthiest (sp : Mem → Kont → Prop) : Prop := Ct yX8_worthiest cX8_worthiest 10 (some .int) rmX8_worthiest domM argX8_worthiest (fun _ => sp)
theorem dX8_worthiest_0 : decode cX8_worthiest 0 = .ok (.bipush (-4), 2) := by decide +kernel
theorem dX8_worthiest_2 : decode cX8_worthiest 2 = .ok (.istore_n 1, 1) := by decide +kernel
theorem dX8_worthiest_3 : decode cX8_worthiest 3 = .ok (.iconst 0, 1) := by decide +kernel
theorem dX8_worthiest_4 : decode cX8_worthiest 4 = .ok (.istore_n 2, 1) := by decide +kernel
theorem dX8_worthiest_5 : decode cX8_worthiest 5 = .ok (.iconst 0, 1) := by decide +kernel
theorem dX8_worthiest_6 : decode cX8_worthiest 6 = .ok (.istore_n 3, 1) := by decide +kernel
theorem dX8_worthiest_7 : decode cX8_worthiest 7 = .ok (.iconst 0, 1) := by decide +kernel
theorem dX8_worthiest_8 : decode cX8_worthiest 8 = .ok (.istore 4, 2) := by decide +kernel
theorem dX8_worthiest_10 : decode cX8_worthiest 10 = .ok (.iload 4, 2) := by decide +kernel
theorem dX8_worthiest_12 : decode cX8_worthiest 12 = .ok (.aload_n 0, 1) := by decide +kernel
theorem dX8_worthiest_13 : decode cX8_worthiest 13 = .ok (.getfield 74, 3) := by decide +kernel
theorem dX8_worthiest_16 : decode cX8_worthiest 16 = .ok (.if_icmp .ge 196, 3) := by decide +kernel
theorem dX8_worthiest_19 : decode cX8_worthiest 19 = .ok (.iconst 0, 1) := by decide +kernel
theorem dX8_worthiest_20 : decode cX8_worthiest 20 = .ok (.istore 5, 2) := by decide +kernel
theorem dX8_worthiest_22 : decode cX8_worthiest 22 = .ok (.iload 5, 2) := by decide +kernel
theorem dX8_worthiest_24 : decode cX8_worthiest 24 = .ok (.aload_n 0, 1) := by decide +kernel
theorem dX8_worthiest_25 : decode cX8_worthiest 25 = .ok (.getfield 16, 3) := by decide +kernel
theorem dX8_worthiest_28 : decode cX8_worthiest 28 = .ok (.bipush 11, 2) := by decide +kernel
theorem dX8_worthiest_30 : decode cX8_worthiest 30 = .ok (.iload 4, 2) := by decide +kernel
theorem dX8_worthiest_32 : decode cX8_worthiest 32 = .ok (.imul, 1) := by decide +kernel
theorem dX8_worthiest_33 : decode cX8_worthiest 33 = .ok (.iconst 3, 1) := by decide +kernel
theorem dX8_worthiest_34 : decode cX8_worthiest 34 = .ok (.iadd, 1) := by decide +kernel
theorem dX8_worthiest_35 : decode cX8_worthiest 35 = .ok (.iaload, 1) := by decide +kernel
theorem dX8_worthiest_36 : decode cX8_worthiest 36 = .ok (.if_icmp .ge 170, 3) := by decide +kernel
theorem dX8_worthiest_39 : decode cX8_worthiest 39 = .ok (.aload_n 0, 1) := by decide +kernel
theorem dX8_worthiest_40 : decode cX8_worthiest 40 = .ok (.getfield 31, 3) := by decide +kernel
theorem dX8_worthiest_43 : decode cX8_worthiest 43 = .ok (.iload 4, 2) := by decide +kernel
theorem dX8_worthiest_45 : decode cX8_worthiest 45 = .ok (.iaload, 1) := by decide +kernel
theorem dX8_worthiest_46 : decode cX8_worthiest 46 = .ok (.ifCond .ge 160, 3) := by decide +kernel
theorem dX8_worthiest_49 : decode cX8_worthiest 49 = .ok (.iconst 0, 1) := by decide +kernel
theorem dX8_worthiest_50 : decode cX8_worthiest 50 = .ok (.istore 6, 2) := by decide +kernel
theorem dX8_worthiest_52 : decode cX8_worthiest 52 = .ok (.iload 6, 2) := by decide +kernel
theorem dX8_worthiest_54 : decode cX8_worthiest 54 = .ok (.aload_n 0, 1) := by decide +kernel
theorem dX8_worthiest_55 : decode cX8_worthiest 55 = .ok (.getfield 64, 3) := by decide +kernel
theorem dX8_worthiest_58 : decode cX8_worthiest 58 = .ok (.if_icmp .ge 142, 3) := by decide +kernel
theorem dX8_worthiest_61 : decode cX8_worthiest 61 = .ok (.aload_n 0, 1) := by decide +kernel
theorem dX8_worthiest_62 : decode cX8_worthiest 62 = .ok (.getfield 46, 3) := by decide +kernel
theorem dX8_worthiest_65 : decode cX8_worthiest 65 = .ok (.iconst 3, 1) := by decide +kernel
theorem dX8_worthiest_66 : decode cX8_worthiest 66 = .ok (.iload 4, 2) := by decide +kernel
theorem dX8_worthiest_68 : decode cX8_worthiest 68 = .ok (.imul, 1) := by decide +kernel
theorem dX8_worthiest_69 : decode cX8_worthiest 69 = .ok (.iload 5, 2) := by decide +kernel
theorem dX8_worthiest_71 : decode cX8_worthiest 71 = .ok (.iadd, 1) := by decide +kernel
theorem dX8_worthiest_72 : decode cX8_worthiest 72 = .ok (.iaload, 1) := by decide +kernel
theorem dX8_worthiest_73 : decode cX8_worthiest 73 = .ok (.ifCond .ne 127, 3) := by decide +kernel
theorem dX8_worthiest_76 : decode cX8_worthiest 76 = .ok (.aload_n 0, 1) := by decide +kernel
theorem dX8_worthiest_77 : decode cX8_worthiest 77 = .ok (.getfield 16, 3) := by decide +kernel
theorem dX8_worthiest_80 : decode cX8_worthiest 80 = .ok (.bipush 11, 2) := by decide +kernel
theorem dX8_worthiest_82 : decode cX8_worthiest 82 = .ok (.iload 4, 2) := by decide +kernel
theorem dX8_worthiest_84 : decode cX8_worthiest 84 = .ok (.imul, 1) := by decide +kernel
theorem dX8_worthiest_85 : decode cX8_worthiest 85 = .ok (.bipush 6, 2) := by decide +kernel
theorem dX8_worthiest_87 : decode cX8_worthiest 87 = .ok (.iadd, 1) := by decide +kernel
theorem dX8_worthiest_88 : decode cX8_worthiest 88 = .ok (.iconst 2, 1) := by decide +kernel
theorem dX8_worthiest_89 : decode cX8_worthiest 89 = .ok (.iload 5, 2) := by decide +kernel
theorem dX8_worthiest_91 : decode cX8_worthiest 91 = .ok (.imul, 1) := by decide +kernel
theorem dX8_worthiest_92 : decode cX8_worthiest 92 = .ok (.iadd, 1) := by decide +kernel
theorem dX8_worthiest_93 : decode cX8_worthiest 93 = .ok (.iaload, 1) := by decide +kernel
theorem dX8_worthiest_94 : decode cX8_worthiest 94 = .ok (.istore 7, 2) := by decide +kernel
theorem dX8_worthiest_96 : decode cX8_worthiest 96 = .ok (.aload_n 0, 1) := by decide +kernel
theorem dX8_worthiest_97 : decode cX8_worthiest 97 = .ok (.iload 4, 2) := by decide +kernel
theorem dX8_worthiest_99 : decode cX8_worthiest 99 = .ok (.iload 5, 2) := by decide +kernel
theorem dX8_worthiest_101 : decode cX8_worthiest 101 = .ok (.iload 6, 2) := by decide +kernel
theorem dX8_worthiest_103 : decode cX8_worthiest 103 = .ok (.invokevirtual 140, 3) := by decide +kernel
theorem dX8_worthiest_106 : decode cX8_worthiest 106 = .ok (.ifCond .ne 16, 3) := by decide +kernel
theorem dX8_worthiest_109 : decode cX8_worthiest 109 = .ok (.aload_n 0, 1) := by decide +kernel
theorem dX8_worthiest_110 : decode cX8_worthiest 110 = .ok (.iload 4, 2) := by decide +kernel
theorem dX8_worthiest_112 : decode cX8_worthiest 112 = .ok (.iload 5, 2) := by decide +kernel
theorem dX8_worthiest_114 : decode cX8_worthiest 114 = .ok (.iload 6, 2) := by decide +kernel
theorem dX8_worthiest_116 : decode cX8_worthiest 116 = .ok (.invokevirtual 160, 3) := by decide +kernel
theorem dX8_worthiest_119 : decode cX8_worthiest 119 = .ok (.goto 4, 3) := by decide +kernel
theorem dX8_worthiest_122 : decode cX8_worthiest 122 = .ok (.iconst 0, 1) := by decide +kernel
theorem dX8_worthiest_123 : decode cX8_worthiest 123 = .ok (.istore 8, 2) := by decide +kernel
theorem dX8_worthiest_125 : decode cX8_worthiest 125 = .ok (.iload_n 1, 1) := by decide +kernel
theorem dX8_worthiest_126 : decode cX8_worthiest 126 = .ok (.ifCond .lt 21, 3) := by decide +kernel
theorem dX8_worthiest_129 : decode cX8_worthiest 129 = .ok (.iload 7, 2) := by decide +kernel
theorem dX8_worthiest_131 : decode cX8_worthiest 131 = .ok (.iload_n 2, 1) := by decide +kernel
theorem dX8_worthiest_132 : decode cX8_worthiest 132 = .ok (.if_icmp .gt 15, 3) := by decide +kernel
theorem dX8_worthiest_135 : decode cX8_worthiest 135 = .ok (.iload 7, 2) := by decide +kernel
theorem dX8_worthiest_137 : decode cX8_worthiest 137 = .ok (.iload_n 2, 1) := by decide +kernel
theorem dX8_worthiest_138 : decode cX8_worthiest 138 = .ok (.if_icmp .ne 13, 3) := by decide +kernel
theorem dX8_worthiest_141 : decode cX8_worthiest 141 = .ok (.iload 8, 2) := by decide +kernel
theorem dX8_worthiest_143 : decode cX8_worthiest 143 = .ok (.iload_n 3, 1) := by decide +kernel
theorem dX8_worthiest_144 : decode cX8_worthiest 144 = .ok (.if_icmp .le 7, 3) := by decide +kernel
theorem dX8_worthiest_147 : decode cX8_worthiest 147 = .ok (.iconst 1, 1) := by decide +kernel
theorem dX8_worthiest_148 : decode cX8_worthiest 148 = .ok (.goto 4, 3) := by decide +kernel
theorem dX8_worthiest_151 : decode cX8_worthiest 151 = .ok (.iconst 0, 1) := by decide +kernel
theorem dX8_worthiest_152 : decode cX8_worthiest 152 = .ok (.istore 9, 2) := by decide +kernel
theorem dX8_worthiest_154 : decode cX8_worthiest 154 = .ok (.iload 9, 2) := by decide +kernel
theorem dX8_worthiest_156 : decode cX8_worthiest 156 = .ok (.ifCond .eq 38, 3) := by decide +kernel
theorem dX8_worthiest_159 : decode cX8_worthiest 159 = .ok (.aload_n 0, 1) := by decide +kernel
theorem dX8_worthiest_160 : decode cX8_worthiest 160 = .ok (.iload 4, 2) := by decide +kernel
theorem dX8_worthiest_162 : decode cX8_worthiest 162 = .ok (.iload 5, 2) := by decide +kernel
theorem dX8_worthiest_164 : decode cX8_worthiest 164 = .ok (.iload 6, 2) := by decide +kernel
theorem dX8_worthiest_166 : decode cX8_worthiest 166 = .ok (.invokevirtual 140, 3) := by decide +kernel
theorem dX8_worthiest_169 : decode cX8_worthiest 169 = .ok (.ifCond .ne 25, 3) := by decide +kernel
theorem dX8_worthiest_172 : decode cX8_worthiest 172 = .ok (.sipush 300, 3) := by decide +kernel
theorem dX8_worthiest_175 : decode cX8_worthiest 175 = .ok (.iload 4, 2) := by decide +kernel
theorem dX8_worthiest_177 : decode cX8_worthiest 177 = .ok (.imul, 1) := by decide +kernel
theorem dX8_worthiest_178 : decode cX8_worthiest 178 = .ok (.bipush 100, 2) := by decide +kernel
theorem dX8_worthiest_180 : decode cX8_worthiest 180 = .ok (.iload 5, 2) := by decide +kernel
theorem dX8_worthiest_182 : decode cX8_worthiest 182 = .ok (.imul, 1) := by decide +kernel
theorem dX8_worthiest_183 : decode cX8_worthiest 183 = .ok (.iadd, 1) := by decide +kernel
theorem dX8_worthiest_184 : decode cX8_worthiest 184 = .ok (.iload 6, 2) := by decide +kernel
theorem dX8_worthiest_186 : decode cX8_worthiest 186 = .ok (.iadd, 1) := by decide +kernel
theorem dX8_worthiest_187 : decode cX8_worthiest 187 = .ok (.istore_n 1, 1) := by decide +kernel
theorem dX8_worthiest_188 : decode cX8_worthiest 188 = .ok (.iload 7, 2) := by decide +kernel
theorem dX8_worthiest_190 : decode cX8_worthiest 190 = .ok (.istore_n 2, 1) := by decide +kernel
theorem dX8_worthiest_191 : decode cX8_worthiest 191 = .ok (.iload 8, 2) := by decide +kernel
theorem dX8_worthiest_193 : decode cX8_worthiest 193 = .ok (.istore_n 3, 1) := by decide +kernel
theorem dX8_worthiest_194 : decode cX8_worthiest 194 = .ok (.iinc 6 1, 3) := by decide +kernel
theorem dX8_worthiest_197 : decode cX8_worthiest 197 = .ok (.goto (-145), 3) := by decide +kernel
theorem dX8_worthiest_200 : decode cX8_worthiest 200 = .ok (.iinc 5 1, 3) := by decide +kernel
theorem dX8_worthiest_203 : decode cX8_worthiest 203 = .ok (.goto (-181), 3) := by decide +kernel
theorem dX8_worthiest_206 : decode cX8_worthiest 206 = .ok (.iinc 4 1, 3) := by decide +kernel
theorem dX8_worthiest_209 : decode cX8_worthiest 209 = .ok (.goto (-199), 3) := by decide +kernel
theorem dX8_worthiest_212 : decode cX8_worthiest 212 = .ok (.iload_n 1, 1) := by decide +kernel
theorem dX8_worthiest_213 : decode cX8_worthiest 213 = .ok (.ireturn, 1) := by decide +kernel
theorem flX8_46 : FL RX8 46 8 21 := ⟨_, _, _, rfl, by decide, uwX8, Or.inl (tb_mem (t_in4 (List.mem_of_getElem? (i := 129) (by decide +kernel))) (by decide +kernel))⟩
set_option maxHeartbeats 4000000 in
set_option maxRecDepth 20000 in
theorem sgX8_worthiest_0 {κ : Kx} {K : Kont} {M : Mem} (C : Cx κ RX8 cX8_worthiest 10 (some .int) rmX8_worthiest domM) 
    (h :
    V κ 10 M 10 [some (.inr (30, 0)), some (.inl (-4)), some (.inl 0), some (.inl 0), some (.inl 0), none, none, none, none, none] [] K) : V κ 10 M 0 [some (.inr (30, 0)), none, none, none, none, none, none, none, none, none] [] K := by
  refine v_bipush C dX8_worthiest_0 (by decide) (by decide) ?_
  refine v_istore_n C dX8_worthiest_2 (by decide) (Nat.le_of_ble_eq_true rfl) (lv' := [some (.inr (30, 0)), some (.inl (-4)), none, none, none, none, none, none, none, none]) rfl ?_
  refine v_iconst C dX8_worthiest_3 (by decide) ?_
  refine v_istore_n C dX8_worthiest_4 (by decide) (Nat.le_of_ble_eq_true rfl) (lv' := [some (.inr (30, 0)), some (.inl (-4)), some (.inl 0), none, none, none, none, none, none, none]) rfl ?_
  refine v_iconst C dX8_worthiest_5 (by decide) ?_
  refine v_istore_n C dX8_worthiest_6 (by decide) (Nat.le_of_ble_eq_true rfl) (lv' := [some (.inr (30, 0)), some (.inl (-4)), some (.inl 0), some (.inl 0), none, none, none, none, none, none]) rfl ?_
  refine v_iconst C dX8_worthiest_7 (by decide) ?_
  refine v_istore C dX8_worthiest_8 (by decide) (Nat.le_of_ble_eq_true rfl) (lv' := [some (.inr (30, 0)), some (.inl (-4)), some (.inl 0), some (.inl 0), some (.inl 0), none, none, none, none, none]) rfl ?_
  refine v_weak [some (.inr (30, 0)), some (.inl (-4)), some (.inl 0), some (.inl 0), some (.inl 0), none, none, none, none, none] ⟨rfl, rfl, rfl, rfl, rfl, trivial⟩ ?_
  exact h
set_option maxHeartbeats 4000000 in
set_option maxRecDepth 20000 in
theorem sgX8_worthiest_10 {κ : Kx} {K : Kont} {M : Mem} (C : Cx κ RX8 cX8_worthiest 10 (some .int) rmX8_worthiest domM) (x1 : Int) (x2 : Int) (x3 : Int) (x4 : Int)
    (h :
    (((M 30 0 6) ≤ x4 →
      K (some x1) M) ∧
     (¬ ((M 30 0 6) ≤ x4) →
      V κ 10 M 22 [some (.inr (30, 0)), some (.inl x1), some (.inl x2), some (.inl x3), some (.inl x4), some (.inl 0), none, none, none, none] [] K))) : V κ 10 M 10 [some (.inr (30, 0)), some (.inl x1), some (.inl x2), some (.inl x3), some (.inl x4), none, none, none, none, none] [] K := by
  refine v_iload C dX8_worthiest_10 rfl ?_
  refine v_aload_n C dX8_worthiest_12 rfl ?_
  refine v_get C dX8_worthiest_13 flX8_74 rfl (by decide) (by decide) (w := .inl (M 30 0 6)) rfl ?_
  refine v_icmp C dX8_worthiest_16 (tgt := 212) (by decide) (P := (M 30 0 6) ≤ x4) rfl (fun c16 => ?_) (fun c16 => ?_)
  · replace h := h.1 c16
    refine v_iload_n C dX8_worthiest_212 rfl ?_
    exact v_iret C dX8_worthiest_213 h
  · replace h := h.2 c16
    refine v_iconst C dX8_worthiest_19 (by decide) ?_
    refine v_istore C dX8_worthiest_20 (by decide) (Nat.le_of_ble_eq_true rfl) (lv' := [some (.inr (30, 0)), some (.inl x1), some (.inl x2), some (.inl x3), some (.inl x4), some (.inl 0), none, none, none, none]) rfl ?_
    refine v_weak [some (.inr (30, 0)), some (.inl x1), some (.inl x2), some (.inl x3), some (.inl x4), some (.inl 0), none, none, none, none] ⟨rfl, rfl, rfl, rfl, rfl, rfl, trivial⟩ ?_
    exact h
set_option maxHeartbeats 4000000 in
set_option maxRecDepth 20000 in
theorem sgX8_worthiest_22 {κ : Kx} {K : Kont} {M : Mem} (C : Cx κ RX8 cX8_worthiest 10 (some .int) rmX8_worthiest domM) (x1 : Int) (x2 : Int) (x3 : Int) (x4 : Int) (x5 : Int)
    (h :
    inR (11 * x4) ∧
    inR ((11 * x4) + 3) ∧
    (0 ≤ ((11 * x4) + 3) ∧ ((11 * x4) + 3) < 77) ∧
    (((M 37 0 ((11 * x4) + 3)) ≤ x5 →
      inR (x4 + 1) ∧
      V κ 10 M 10 [some (.inr (30, 0)), some (.inl x1), some (.inl x2), some (.inl x3), some (.inl (x4 + 1)), none, none, none, none, none] [] K) ∧
     (¬ ((M 37 0 ((11 * x4) + 3)) ≤ x5) →
      (0 ≤ x4 ∧ x4 < 7) ∧
      ((0 ≤ (M 46 0 x4) →
        inR (x4 + 1) ∧
        V κ 10 M 10 [some (.inr (30, 0)), some (.inl x1), some (.inl x2), some (.inl x3), some (.inl (x4 + 1)), none, none, none, none, none] [] K) ∧
       (¬ (0 ≤ (M 46 0 x4)) →
        V κ 10 M 52 [some (.inr (30, 0)), some (.inl x1), some (.inl x2), some (.inl x3), some (.inl x4), some (.inl x5), some (.inl 0), none, none, none] [] K))))) : V κ 10 M 22 [some (.inr (30, 0)), some (.inl x1), some (.inl x2), some (.inl x3), some (.inl x4), some (.inl x5), none, none, none, none] [] K := by
  refine v_iload C dX8_worthiest_22 rfl ?_
  refine v_aload_n C dX8_worthiest_24 rfl ?_
  refine v_get C dX8_worthiest_25 flX8_16 rfl (by decide) (by decide) (w := .inr (37, 0)) rfl ?_
  refine v_bipush C dX8_worthiest_28 (by decide) (by decide) ?_
  refine v_iload C dX8_worthiest_30 rfl ?_
  refine v_imul C dX8_worthiest_32 h.1 ?_
  replace h := h.2
  refine v_iconst C dX8_worthiest_33 (by decide) ?_
  refine v_iadd C dX8_worthiest_34 h.1 ?_
  replace h := h.2
  refine v_iald C dX8_worthiest_35 rfl h.1.1 h.1.2 ?_
  replace h := h.2
  refine v_icmp C dX8_worthiest_36 (tgt := 206) (by decide) (P := (M 37 0 ((11 * x4) + 3)) ≤ x5) rfl (fun c36 => ?_) (fun c36 => ?_)
  · replace h := h.1 c36
    refine v_iinc C dX8_worthiest_206 (by decide) rfl h.1 (lv' := [some (.inr (30, 0)), some (.inl x1), some (.inl x2), some (.inl x3), some (.inl (x4 + 1)), some (.inl x5), none, none, none, none]) rfl ?_
    replace h := h.2
    refine v_goto C dX8_worthiest_209 (tgt := 10) (by decide) ?_
    refine v_weak [some (.inr (30, 0)), some (.inl x1), some (.inl x2), some (.inl x3), some (.inl (x4 + 1)), none, none, none, none, none] ⟨rfl, rfl, rfl, rfl, rfl, trivial⟩ ?_
    exact h
  · replace h := h.2 c36
    refine v_aload_n C dX8_worthiest_39 rfl ?_
    refine v_get C dX8_worthiest_40 flX8_31 rfl (by decide) (by decide) (w := .inr (46, 0)) rfl ?_
    refine v_iload C dX8_worthiest_43 rfl ?_
    refine v_iald C dX8_worthiest_45 rfl h.1.1 h.1.2 ?_
    replace h := h.2
    refine v_if C dX8_worthiest_46 (tgt := 206) (by decide) (P := 0 ≤ (M 46 0 x4)) rfl (fun c46 => ?_) (fun c46 => ?_)
    · replace h := h.1 c46
      refine v_iinc C dX8_worthiest_206 (by decide) rfl h.1 (lv' := [some (.inr (30, 0)), some (.inl x1), some (.inl x2), some (.inl x3), some (.inl (x4 + 1)), some (.inl x5), none, none, none, none]) rfl ?_
      replace h := h.2
      refine v_goto C dX8_worthiest_209 (tgt := 10) (by decide) ?_
      refine v_weak [some (.inr (30, 0)), some (.inl x1), some (.inl x2), some (.inl x3), some (.inl (x4 + 1)), none, none, none, none, none] ⟨rfl, rfl, rfl, rfl, rfl, trivial⟩ ?_
      exact h
    · replace h := h.2 c46
      refine v_iconst C dX8_worthiest_49 (by decide) ?_
      refine v_istore C dX8_worthiest_50 (by decide) (Nat.le_of_ble_eq_true rfl) (lv' := [some (.inr (30, 0)), some (.inl x1), some (.inl x2), some (.inl x3), some (.inl x4), some (.inl x5), some (.inl 0), none, none, none]) rfl ?_
      refine v_weak [some (.inr (30, 0)), some (.inl x1), some (.inl x2), some (.inl x3), some (.inl x4), some (.inl x5), some (.inl 0), none, none, none] ⟨rfl, rfl, rfl, rfl, rfl, rfl, rfl, trivial⟩ ?_
      exact h
set_option maxHeartbeats 4000000 in
set_option maxRecDepth 20000 in
theorem sgX8_worthiest_52 {κ : Kx} {K : Kont} {M : Mem} (C : Cx κ RX8 cX8_worthiest 10 (some .int) rmX8_worthiest domM) (x1 : Int) (x2 : Int) (x3 : Int) (x4 : Int) (x5 : Int) (x6 : Int)
    (h :
    (((M 30 0 2) ≤ x6 →
      inR (x5 + 1) ∧
      V κ 10 M 22 [some (.inr (30, 0)), some (.inl x1), some (.inl x2), some (.inl x3), some (.inl x4), some (.inl (x5 + 1)), none, none, none, none] [] K) ∧
     (¬ ((M 30 0 2) ≤ x6) →
      inR (3 * x4) ∧
      inR ((3 * x4) + x5) ∧
      (0 ≤ ((3 * x4) + x5) ∧ ((3 * x4) + x5) < 21) ∧
      (((M 51 0 ((3 * x4) + x5)) ≠ 0 →
        inR (x5 + 1) ∧
        V κ 10 M 22 [some (.inr (30, 0)), some (.inl x1), some (.inl x2), some (.inl x3), some (.inl x4), some (.inl (x5 + 1)), none, none, none, none] [] K) ∧
       (¬ ((M 51 0 ((3 * x4) + x5)) ≠ 0) →
        inR (11 * x4) ∧
        inR ((11 * x4) + 6) ∧
        inR (2 * x5) ∧
        inR (((11 * x4) + 6) + (2 * x5)) ∧
        (0 ≤ (((11 * x4) + 6) + (2 * x5)) ∧ (((11 * x4) + 6) + (2 * x5)) < 77) ∧
        ∀ y7_94 : Int, y7_94 = M 37 0 (((11 * x4) + 6) + (2 * x5)) →
        spX8_whyNot x4 x5 x6 M (rI (fun r103 M103 =>
        ((r103 ≠ 0 →
          ((x1 < 0 →
            spX8_whyNot x4 x5 x6 M103 (rI (fun r166 M166 =>
            ((r166 ≠ 0 →
              inR (x6 + 1) ∧
              V κ 10 M166 52 [some (.inr (30, 0)), some (.inl x1), some (.inl x2), some (.inl x3), some (.inl x4), some (.inl x5), some (.inl (x6 + 1)), none, none, none] [] K) ∧
             (¬ (r166 ≠ 0) →
              inR (300 * x4) ∧
              inR (100 * x5) ∧
              inR ((300 * x4) + (100 * x5)) ∧
              inR (((300 * x4) + (100 * x5)) + x6) ∧
              ∀ y1_187 : Int, y1_187 = ((300 * x4) + (100 * x5)) + x6 →
              inR (x6 + 1) ∧
              V κ 10 M166 52 [some (.inr (30, 0)), some (.inl y1_187), some (.inl y7_94), some (.inl 0), some (.inl x4), some (.inl x5), some (.inl (x6 + 1)), none, none, none] [] K))))) ∧
           (¬ (x1 < 0) →
            ((x2 < y7_94 →
              spX8_whyNot x4 x5 x6 M103 (rI (fun r166 M166 =>
              ((r166 ≠ 0 →
                inR (x6 + 1) ∧
                V κ 10 M166 52 [some (.inr (30, 0)), some (.inl x1), some (.inl x2), some (.inl x3), some (.inl x4), some (.inl x5), some (.inl (x6 + 1)), none, none, none] [] K) ∧
               (¬ (r166 ≠ 0) →
                inR (300 * x4) ∧
                inR (100 * x5) ∧
                inR ((300 * x4) + (100 * x5)) ∧
                inR (((300 * x4) + (100 * x5)) + x6) ∧
                ∀ y1_187 : Int, y1_187 = ((300 * x4) + (100 * x5)) + x6 →
                inR (x6 + 1) ∧
                V κ 10 M166 52 [some (.inr (30, 0)), some (.inl y1_187), some (.inl y7_94), some (.inl 0), some (.inl x4), some (.inl x5), some (.inl (x6 + 1)), none, none, none] [] K))))) ∧
             (¬ (x2 < y7_94) →
              ((y7_94 ≠ x2 →
                inR (x6 + 1) ∧
                V κ 10 M103 52 [some (.inr (30, 0)), some (.inl x1), some (.inl x2), some (.inl x3), some (.inl x4), some (.inl x5), some (.inl (x6 + 1)), none, none, none] [] K) ∧
               (¬ (y7_94 ≠ x2) →
                ((0 ≤ x3 →
                  inR (x6 + 1) ∧
                  V κ 10 M103 52 [some (.inr (30, 0)), some (.inl x1), some (.inl x2), some (.inl x3), some (.inl x4), some (.inl x5), some (.inl (x6 + 1)), none, none, none] [] K) ∧
                 (¬ (0 ≤ x3) →
                  spX8_whyNot x4 x5 x6 M103 (rI (fun r166 M166 =>
                  ((r166 ≠ 0 →
                    inR (x6 + 1) ∧
                    V κ 10 M166 52 [some (.inr (30, 0)), some (.inl x1), some (.inl x2), some (.inl x3), some (.inl x4), some (.inl x5), some (.inl (x6 + 1)), none, none, none] [] K) ∧
                   (¬ (r166 ≠ 0) →
                    inR (300 * x4) ∧
                    inR (100 * x5) ∧
                    inR ((300 * x4) + (100 * x5)) ∧
                    inR (((300 * x4) + (100 * x5)) + x6) ∧
                    ∀ y1_187 : Int, y1_187 = ((300 * x4) + (100 * x5)) + x6 →
                    inR (x6 + 1) ∧
                    V κ 10 M166 52 [some (.inr (30, 0)), some (.inl y1_187), some (.inl y7_94), some (.inl 0), some (.inl x4), some (.inl x5), some (.inl (x6 + 1)), none, none, none] [] K))))))))))))) ∧
         (¬ (r103 ≠ 0) →
          spX8_gainOf x4 x5 x6 M103 (rI (fun r116 M116 =>
          ((x1 < 0 →
            spX8_whyNot x4 x5 x6 M116 (rI (fun r166 M166 =>
            ((r166 ≠ 0 →
              inR (x6 + 1) ∧
              V κ 10 M166 52 [some (.inr (30, 0)), some (.inl x1), some (.inl x2), some (.inl x3), some (.inl x4), some (.inl x5), some (.inl (x6 + 1)), none, none, none] [] K) ∧
             (¬ (r166 ≠ 0) →
              inR (300 * x4) ∧
              inR (100 * x5) ∧
              inR ((300 * x4) + (100 * x5)) ∧
              inR (((300 * x4) + (100 * x5)) + x6) ∧
              ∀ y1_187 : Int, y1_187 = ((300 * x4) + (100 * x5)) + x6 →
              inR (x6 + 1) ∧
              V κ 10 M166 52 [some (.inr (30, 0)), some (.inl y1_187), some (.inl y7_94), some (.inl r116), some (.inl x4), some (.inl x5), some (.inl (x6 + 1)), none, none, none] [] K))))) ∧
           (¬ (x1 < 0) →
            ((x2 < y7_94 →
              spX8_whyNot x4 x5 x6 M116 (rI (fun r166 M166 =>
              ((r166 ≠ 0 →
                inR (x6 + 1) ∧
                V κ 10 M166 52 [some (.inr (30, 0)), some (.inl x1), some (.inl x2), some (.inl x3), some (.inl x4), some (.inl x5), some (.inl (x6 + 1)), none, none, none] [] K) ∧
               (¬ (r166 ≠ 0) →
                inR (300 * x4) ∧
                inR (100 * x5) ∧
                inR ((300 * x4) + (100 * x5)) ∧
                inR (((300 * x4) + (100 * x5)) + x6) ∧
                ∀ y1_187 : Int, y1_187 = ((300 * x4) + (100 * x5)) + x6 →
                inR (x6 + 1) ∧
                V κ 10 M166 52 [some (.inr (30, 0)), some (.inl y1_187), some (.inl y7_94), some (.inl r116), some (.inl x4), some (.inl x5), some (.inl (x6 + 1)), none, none, none] [] K))))) ∧
             (¬ (x2 < y7_94) →
              ((y7_94 ≠ x2 →
                inR (x6 + 1) ∧
                V κ 10 M116 52 [some (.inr (30, 0)), some (.inl x1), some (.inl x2), some (.inl x3), some (.inl x4), some (.inl x5), some (.inl (x6 + 1)), none, none, none] [] K) ∧
               (¬ (y7_94 ≠ x2) →
                ((r116 ≤ x3 →
                  inR (x6 + 1) ∧
                  V κ 10 M116 52 [some (.inr (30, 0)), some (.inl x1), some (.inl x2), some (.inl x3), some (.inl x4), some (.inl x5), some (.inl (x6 + 1)), none, none, none] [] K) ∧
                 (¬ (r116 ≤ x3) →
                  spX8_whyNot x4 x5 x6 M116 (rI (fun r166 M166 =>
                  ((r166 ≠ 0 →
                    inR (x6 + 1) ∧
                    V κ 10 M166 52 [some (.inr (30, 0)), some (.inl x1), some (.inl x2), some (.inl x3), some (.inl x4), some (.inl x5), some (.inl (x6 + 1)), none, none, none] [] K) ∧
                   (¬ (r166 ≠ 0) →
                    inR (300 * x4) ∧
                    inR (100 * x5) ∧
                    inR ((300 * x4) + (100 * x5)) ∧
                    inR (((300 * x4) + (100 * x5)) + x6) ∧
                    ∀ y1_187 : Int, y1_187 = ((300 * x4) + (100 * x5)) + x6 →
                    inR (x6 + 1) ∧
                    V κ 10 M166 52 [some (.inr (30, 0)), some (.inl y1_187), some (.inl y7_94), some (.inl r116), some (.inl x4), some (.inl x5), some (.inl (x6 + 1)), none, none, none] [] K))))))))))))))))))))))) : V κ 10 M 52 [some (.inr (30, 0)), some (.inl x1), some (.inl x2), some (.inl x3), some (.inl x4), some (.inl x5), some (.inl x6), none, none, none] [] K := by
  refine v_iload C dX8_worthiest_52 rfl ?_
  refine v_aload_n C dX8_worthiest_54 rfl ?_
  refine v_get C dX8_worthiest_55 flX8_64 rfl (by decide) (by decide) (w := .inl (M 30 0 2)) rfl ?_
  refine v_icmp C dX8_worthiest_58 (tgt := 200) (by decide) (P := (M 30 0 2) ≤ x6) rfl (fun c58 => ?_) (fun c58 => ?_)
  · replace h := h.1 c58
    refine v_iinc C dX8_worthiest_200 (by decide) rfl h.1 (lv' := [some (.inr (30, 0)), some (.inl x1), some (.inl x2), some (.inl x3), some (.inl x4), some (.inl (x5 + 1)), some (.inl x6), none, none, none]) rfl ?_
    replace h := h.2
    refine v_goto C dX8_worthiest_203 (tgt := 22) (by decide) ?_
    refine v_weak [some (.inr (30, 0)), some (.inl x1), some (.inl x2), some (.inl x3), some (.inl x4), some (.inl (x5 + 1)), none, none, none, none] ⟨rfl, rfl, rfl, rfl, rfl, rfl, trivial⟩ ?_
    exact h
  · replace h := h.2 c58
    refine v_aload_n C dX8_worthiest_61 rfl ?_
    refine v_get C dX8_worthiest_62 flX8_46 rfl (by decide) (by decide) (w := .inr (51, 0)) rfl ?_
    refine v_iconst C dX8_worthiest_65 (by decide) ?_
    refine v_iload C dX8_worthiest_66 rfl ?_
    refine v_imul C dX8_worthiest_68 h.1 ?_
    replace h := h.2
    refine v_iload C dX8_worthiest_69 rfl ?_
    refine v_iadd C dX8_worthiest_71 h.1 ?_
    replace h := h.2
    refine v_iald C dX8_worthiest_72 rfl h.1.1 h.1.2 ?_
    replace h := h.2
    refine v_if C dX8_worthiest_73 (tgt := 200) (by decide) (P := (M 51 0 ((3 * x4) + x5)) ≠ 0) rfl (fun c73 => ?_) (fun c73 => ?_)
    · replace h := h.1 c73
      refine v_iinc C dX8_worthiest_200 (by decide) rfl h.1 (lv' := [some (.inr (30, 0)), some (.inl x1), some (.inl x2), some (.inl x3), some (.inl x4), some (.inl (x5 + 1)), some (.inl x6), none, none, none]) rfl ?_
      replace h := h.2
      refine v_goto C dX8_worthiest_203 (tgt := 22) (by decide) ?_
      refine v_weak [some (.inr (30, 0)), some (.inl x1), some (.inl x2), some (.inl x3), some (.inl x4), some (.inl (x5 + 1)), none, none, none, none] ⟨rfl, rfl, rfl, rfl, rfl, rfl, trivial⟩ ?_
      exact h
    · replace h := h.2 c73
      refine v_aload_n C dX8_worthiest_76 rfl ?_
      refine v_get C dX8_worthiest_77 flX8_16 rfl (by decide) (by decide) (w := .inr (37, 0)) rfl ?_
      refine v_bipush C dX8_worthiest_80 (by decide) (by decide) ?_
      refine v_iload C dX8_worthiest_82 rfl ?_
      refine v_imul C dX8_worthiest_84 h.1 ?_
      replace h := h.2
      refine v_bipush C dX8_worthiest_85 (by decide) (by decide) ?_
      refine v_iadd C dX8_worthiest_87 h.1 ?_
      replace h := h.2
      refine v_iconst C dX8_worthiest_88 (by decide) ?_
      refine v_iload C dX8_worthiest_89 rfl ?_
      refine v_imul C dX8_worthiest_91 h.1 ?_
      replace h := h.2
      refine v_iadd C dX8_worthiest_92 h.1 ?_
      replace h := h.2
      refine v_iald C dX8_worthiest_93 rfl h.1.1 h.1.2 ?_
      replace h := h.2
      refine v_nm (fun y7_94 ey7_94 => ?_)
      replace h := h y7_94 ey7_94
      refine v_istore C dX8_worthiest_94 (by decide) (Nat.le_of_ble_eq_true rfl) (lv' := [some (.inr (30, 0)), some (.inl x1), some (.inl x2), some (.inl x3), some (.inl x4), some (.inl x5), some (.inl x6), some (.inl y7_94), none, none]) rfl ?_
      refine v_aload_n C dX8_worthiest_96 rfl ?_
      refine v_iload C dX8_worthiest_97 rfl ?_
      refine v_iload C dX8_worthiest_99 rfl ?_
      refine v_iload C dX8_worthiest_101 rfl ?_
      refine v_invV C ctX8_whyNot dX8_worthiest_103 ivX8_140 ⟨by decide, by decide, rfl, rfl⟩ ((x4, x5, x6) : Int × Int × Int) (As := [.inl x4, .inl x5, .inl x6]) rfl rfl rfl (by decide) rfl (st := []) rfl (Nat.le_of_ble_eq_true rfl) h (fun o M103 oM103 io103 g103 => ?_)
      replace h := rI_out g103
      clear g103
      obtain ⟨r103, rfl, h⟩ := h
      refine v_push ?_
      refine v_if C dX8_worthiest_106 (tgt := 122) (by decide) (P := r103 ≠ 0) rfl (fun c106 => ?_) (fun c106 => ?_)
      · replace h := h.1 c106
        refine v_iconst C dX8_worthiest_122 (by decide) ?_
        refine v_istore C dX8_worthiest_123 (by decide) (Nat.le_of_ble_eq_true rfl) (lv' := [some (.inr (30, 0)), some (.inl x1), some (.inl x2), some (.inl x3), some (.inl x4), some (.inl x5), some (.inl x6), some (.inl y7_94), some (.inl 0), none]) rfl ?_
        refine v_iload_n C dX8_worthiest_125 rfl ?_
        refine v_if C dX8_worthiest_126 (tgt := 147) (by decide) (P := x1 < 0) rfl (fun c126 => ?_) (fun c126 => ?_)
        · replace h := h.1 c126
          refine v_iconst C dX8_worthiest_147 (by decide) ?_
          refine v_goto C dX8_worthiest_148 (tgt := 152) (by decide) ?_
          refine v_istore C dX8_worthiest_152 (by decide) (Nat.le_of_ble_eq_true rfl) (lv' := [some (.inr (30, 0)), some (.inl x1), some (.inl x2), some (.inl x3), some (.inl x4), some (.inl x5), some (.inl x6), some (.inl y7_94), some (.inl 0), some (.inl 1)]) rfl ?_
          refine v_iload C dX8_worthiest_154 rfl ?_
          refine v_if C dX8_worthiest_156 (tgt := 194) (by decide) (P := (1 : Int) = 0) rfl (fun c156 => absurd c156 (by decide)) (fun _ => ?_)
          refine v_aload_n C dX8_worthiest_159 rfl ?_
          refine v_iload C dX8_worthiest_160 rfl ?_
          refine v_iload C dX8_worthiest_162 rfl ?_
          refine v_iload C dX8_worthiest_164 rfl ?_
          refine v_invV C ctX8_whyNot dX8_worthiest_166 ivX8_140 ⟨by decide, by decide, rfl, rfl⟩ ((x4, x5, x6) : Int × Int × Int) (As := [.inl x4, .inl x5, .inl x6]) rfl rfl rfl (by decide) rfl (st := []) rfl (Nat.le_of_ble_eq_true rfl) h (fun o M166 oM166 io166 g166 => ?_)
          replace h := rI_out g166
          clear g166
          obtain ⟨r166, rfl, h⟩ := h
          refine v_push ?_
          refine v_if C dX8_worthiest_169 (tgt := 194) (by decide) (P := r166 ≠ 0) rfl (fun c169 => ?_) (fun c169 => ?_)
          · replace h := h.1 c169
            refine v_iinc C dX8_worthiest_194 (by decide) rfl h.1 (lv' := [some (.inr (30, 0)), some (.inl x1), some (.inl x2), some (.inl x3), some (.inl x4), some (.inl x5), some (.inl (x6 + 1)), some (.inl y7_94), some (.inl 0), some (.inl 1)]) rfl ?_
            replace h := h.2
            refine v_goto C dX8_worthiest_197 (tgt := 52) (by decide) ?_
            refine v_weak [some (.inr (30, 0)), some (.inl x1), some (.inl x2), some (.inl x3), some (.inl x4), some (.inl x5), some (.inl (x6 + 1)), none, none, none] ⟨rfl, rfl, rfl, rfl, rfl, rfl, rfl, trivial⟩ ?_
            exact h
          · replace h := h.2 c169
            refine v_sipush C dX8_worthiest_172 (by decide) (by decide) ?_
            refine v_iload C dX8_worthiest_175 rfl ?_
            refine v_imul C dX8_worthiest_177 h.1 ?_
            replace h := h.2
            refine v_bipush C dX8_worthiest_178 (by decide) (by decide) ?_
            refine v_iload C dX8_worthiest_180 rfl ?_
            refine v_imul C dX8_worthiest_182 h.1 ?_
            replace h := h.2
            refine v_iadd C dX8_worthiest_183 h.1 ?_
            replace h := h.2
            refine v_iload C dX8_worthiest_184 rfl ?_
            refine v_iadd C dX8_worthiest_186 h.1 ?_
            replace h := h.2
            refine v_nm (fun y1_187 ey1_187 => ?_)
            replace h := h y1_187 ey1_187
            refine v_istore_n C dX8_worthiest_187 (by decide) (Nat.le_of_ble_eq_true rfl) (lv' := [some (.inr (30, 0)), some (.inl y1_187), some (.inl x2), some (.inl x3), some (.inl x4), some (.inl x5), some (.inl x6), some (.inl y7_94), some (.inl 0), some (.inl 1)]) rfl ?_
            refine v_iload C dX8_worthiest_188 rfl ?_
            refine v_istore_n C dX8_worthiest_190 (by decide) (Nat.le_of_ble_eq_true rfl) (lv' := [some (.inr (30, 0)), some (.inl y1_187), some (.inl y7_94), some (.inl x3), some (.inl x4), some (.inl x5), some (.inl x6), some (.inl y7_94), some (.inl 0), some (.inl 1)]) rfl ?_
            refine v_iload C dX8_worthiest_191 rfl ?_
            refine v_istore_n C dX8_worthiest_193 (by decide) (Nat.le_of_ble_eq_true rfl) (lv' := [some (.inr (30, 0)), some (.inl y1_187), some (.inl y7_94), some (.inl 0), some (.inl x4), some (.inl x5), some (.inl x6), some (.inl y7_94), some (.inl 0), some (.inl 1)]) rfl ?_
            refine v_iinc C dX8_worthiest_194 (by decide) rfl h.1 (lv' := [some (.inr (30, 0)), some (.inl y1_187), some (.inl y7_94), some (.inl 0), some (.inl x4), some (.inl x5), some (.inl (x6 + 1)), some (.inl y7_94), some (.inl 0), some (.inl 1)]) rfl ?_
            replace h := h.2
            refine v_goto C dX8_worthiest_197 (tgt := 52) (by decide) ?_
            refine v_weak [some (.inr (30, 0)), some (.inl y1_187), some (.inl y7_94), some (.inl 0), some (.inl x4), some (.inl x5), some (.inl (x6 + 1)), none, none, none] ⟨rfl, rfl, rfl, rfl, rfl, rfl, rfl, trivial⟩ ?_
            exact h
        · replace h := h.2 c126
          refine v_iload C dX8_worthiest_129 rfl ?_
          refine v_iload_n C dX8_worthiest_131 rfl ?_
          refine v_icmp C dX8_worthiest_132 (tgt := 147) (by decide) (P := x2 < y7_94) rfl (fun c132 => ?_) (fun c132 => ?_)
          · replace h := h.1 c132
            refine v_iconst C dX8_worthiest_147 (by decide) ?_
            refine v_goto C dX8_worthiest_148 (tgt := 152) (by decide) ?_
            refine v_istore C dX8_worthiest_152 (by decide) (Nat.le_of_ble_eq_true rfl) (lv' := [some (.inr (30, 0)), some (.inl x1), some (.inl x2), some (.inl x3), some (.inl x4), some (.inl x5), some (.inl x6), some (.inl y7_94), some (.inl 0), some (.inl 1)]) rfl ?_
            refine v_iload C dX8_worthiest_154 rfl ?_
            refine v_if C dX8_worthiest_156 (tgt := 194) (by decide) (P := (1 : Int) = 0) rfl (fun c156 => absurd c156 (by decide)) (fun _ => ?_)
            refine v_aload_n C dX8_worthiest_159 rfl ?_
            refine v_iload C dX8_worthiest_160 rfl ?_
            refine v_iload C dX8_worthiest_162 rfl ?_
            refine v_iload C dX8_worthiest_164 rfl ?_
            refine v_invV C ctX8_whyNot dX8_worthiest_166 ivX8_140 ⟨by decide, by decide, rfl, rfl⟩ ((x4, x5, x6) : Int × Int × Int) (As := [.inl x4, .inl x5, .inl x6]) rfl rfl rfl (by decide) rfl (st := []) rfl (Nat.le_of_ble_eq_true rfl) h (fun o M166 oM166 io166 g166 => ?_)
            replace h := rI_out g166
            clear g166
            obtain ⟨r166, rfl, h⟩ := h
            refine v_push ?_
            refine v_if C dX8_worthiest_169 (tgt := 194) (by decide) (P := r166 ≠ 0) rfl (fun c169 => ?_) (fun c169 => ?_)
            · replace h := h.1 c169
              refine v_iinc C dX8_worthiest_194 (by decide) rfl h.1 (lv' := [some (.inr (30, 0)), some (.inl x1), some (.inl x2), some (.inl x3), some (.inl x4), some (.inl x5), some (.inl (x6 + 1)), some (.inl y7_94), some (.inl 0), some (.inl 1)]) rfl ?_
              replace h := h.2
              refine v_goto C dX8_worthiest_197 (tgt := 52) (by decide) ?_
              refine v_weak [some (.inr (30, 0)), some (.inl x1), some (.inl x2), some (.inl x3), some (.inl x4), some (.inl x5), some (.inl (x6 + 1)), none, none, none] ⟨rfl, rfl, rfl, rfl, rfl, rfl, rfl, trivial⟩ ?_
              exact h
            · replace h := h.2 c169
              refine v_sipush C dX8_worthiest_172 (by decide) (by decide) ?_
              refine v_iload C dX8_worthiest_175 rfl ?_
              refine v_imul C dX8_worthiest_177 h.1 ?_
              replace h := h.2
              refine v_bipush C dX8_worthiest_178 (by decide) (by decide) ?_
              refine v_iload C dX8_worthiest_180 rfl ?_
              refine v_imul C dX8_worthiest_182 h.1 ?_
              replace h := h.2
              refine v_iadd C dX8_worthiest_183 h.1 ?_
              replace h := h.2
              refine v_iload C dX8_worthiest_184 rfl ?_
              refine v_iadd C dX8_worthiest_186 h.1 ?_
              replace h := h.2
              refine v_nm (fun y1_187 ey1_187 => ?_)
              replace h := h y1_187 ey1_187
              refine v_istore_n C dX8_worthiest_187 (by decide) (Nat.le_of_ble_eq_true rfl) (lv' := [some (.inr (30, 0)), some (.inl y1_187), some (.inl x2), some (.inl x3), some (.inl x4), some (.inl x5), some (.inl x6), some (.inl y7_94), some (.inl 0), some (.inl 1)]) rfl ?_
              refine v_iload C dX8_worthiest_188 rfl ?_
              refine v_istore_n C dX8_worthiest_190 (by decide) (Nat.le_of_ble_eq_true rfl) (lv' := [some (.inr (30, 0)), some (.inl y1_187), some (.inl y7_94), some (.inl x3), some (.inl x4), some (.inl x5), some (.inl x6), some (.inl y7_94), some (.inl 0), some (.inl 1)]) rfl ?_
              refine v_iload C dX8_worthiest_191 rfl ?_
              refine v_istore_n C dX8_worthiest_193 (by decide) (Nat.le_of_ble_eq_true rfl) (lv' := [some (.inr (30, 0)), some (.inl y1_187), some (.inl y7_94), some (.inl 0), some (.inl x4), some (.inl x5), some (.inl x6), some (.inl y7_94), some (.inl 0), some (.inl 1)]) rfl ?_
              refine v_iinc C dX8_worthiest_194 (by decide) rfl h.1 (lv' := [some (.inr (30, 0)), some (.inl y1_187), some (.inl y7_94), some (.inl 0), some (.inl x4), some (.inl x5), some (.inl (x6 + 1)), some (.inl y7_94), some (.inl 0), some (.inl 1)]) rfl ?_
              replace h := h.2
              refine v_goto C dX8_worthiest_197 (tgt := 52) (by decide) ?_
              refine v_weak [some (.inr (30, 0)), some (.inl y1_187), some (.inl y7_94), some (.inl 0), some (.inl x4), some (.inl x5), some (.inl (x6 + 1)), none, none, none] ⟨rfl, rfl, rfl, rfl, rfl, rfl, rfl, trivial⟩ ?_
              exact h
          · replace h := h.2 c132
            refine v_iload C dX8_worthiest_135 rfl ?_
            refine v_iload_n C dX8_worthiest_137 rfl ?_
            refine v_icmp C dX8_worthiest_138 (tgt := 151) (by decide) (P := y7_94 ≠ x2) rfl (fun c138 => ?_) (fun c138 => ?_)
            · replace h := h.1 c138
              refine v_iconst C dX8_worthiest_151 (by decide) ?_
              refine v_istore C dX8_worthiest_152 (by decide) (Nat.le_of_ble_eq_true rfl) (lv' := [some (.inr (30, 0)), some (.inl x1), some (.inl x2), some (.inl x3), some (.inl x4), some (.inl x5), some (.inl x6), some (.inl y7_94), some (.inl 0), some (.inl 0)]) rfl ?_
              refine v_iload C dX8_worthiest_154 rfl ?_
              refine v_if C dX8_worthiest_156 (tgt := 194) (by decide) (P := (0 : Int) = 0) rfl (fun _ => ?_) (fun c156 => absurd (by decide) c156)
              refine v_iinc C dX8_worthiest_194 (by decide) rfl h.1 (lv' := [some (.inr (30, 0)), some (.inl x1), some (.inl x2), some (.inl x3), some (.inl x4), some (.inl x5), some (.inl (x6 + 1)), some (.inl y7_94), some (.inl 0), some (.inl 0)]) rfl ?_
              replace h := h.2
              refine v_goto C dX8_worthiest_197 (tgt := 52) (by decide) ?_
              refine v_weak [some (.inr (30, 0)), some (.inl x1), some (.inl x2), some (.inl x3), some (.inl x4), some (.inl x5), some (.inl (x6 + 1)), none, none, none] ⟨rfl, rfl, rfl, rfl, rfl, rfl, rfl, trivial⟩ ?_
              exact h
            · replace h := h.2 c138
              refine v_iload C dX8_worthiest_141 rfl ?_
              refine v_iload_n C dX8_worthiest_143 rfl ?_
              refine v_icmp C dX8_worthiest_144 (tgt := 151) (by decide) (P := 0 ≤ x3) rfl (fun c144 => ?_) (fun c144 => ?_)
              · replace h := h.1 c144
                refine v_iconst C dX8_worthiest_151 (by decide) ?_
                refine v_istore C dX8_worthiest_152 (by decide) (Nat.le_of_ble_eq_true rfl) (lv' := [some (.inr (30, 0)), some (.inl x1), some (.inl x2), some (.inl x3), some (.inl x4), some (.inl x5), some (.inl x6), some (.inl y7_94), some (.inl 0), some (.inl 0)]) rfl ?_
                refine v_iload C dX8_worthiest_154 rfl ?_
                refine v_if C dX8_worthiest_156 (tgt := 194) (by decide) (P := (0 : Int) = 0) rfl (fun _ => ?_) (fun c156 => absurd (by decide) c156)
                refine v_iinc C dX8_worthiest_194 (by decide) rfl h.1 (lv' := [some (.inr (30, 0)), some (.inl x1), some (.inl x2), some (.inl x3), some (.inl x4), some (.inl x5), some (.inl (x6 + 1)), some (.inl y7_94), some (.inl 0), some (.inl 0)]) rfl ?_
                replace h := h.2
                refine v_goto C dX8_worthiest_197 (tgt := 52) (by decide) ?_
                refine v_weak [some (.inr (30, 0)), some (.inl x1), some (.inl x2), some (.inl x3), some (.inl x4), some (.inl x5), some (.inl (x6 + 1)), none, none, none] ⟨rfl, rfl, rfl, rfl, rfl, rfl, rfl, trivial⟩ ?_
                exact h
              · replace h := h.2 c144
                refine v_iconst C dX8_worthiest_147 (by decide) ?_
                refine v_goto C dX8_worthiest_148 (tgt := 152) (by decide) ?_
                refine v_istore C dX8_worthiest_152 (by decide) (Nat.le_of_ble_eq_true rfl) (lv' := [some (.inr (30, 0)), some (.inl x1), some (.inl x2), some (.inl x3), some (.inl x4), some (.inl x5), some (.inl x6), some (.inl y7_94), some (.inl 0), some (.inl 1)]) rfl ?_
                refine v_iload C dX8_worthiest_154 rfl ?_
                refine v_if C dX8_worthiest_156 (tgt := 194) (by decide) (P := (1 : Int) = 0) rfl (fun c156 => absurd c156 (by decide)) (fun _ => ?_)
                refine v_aload_n C dX8_worthiest_159 rfl ?_
                refine v_iload C dX8_worthiest_160 rfl ?_
                refine v_iload C dX8_worthiest_162 rfl ?_
                refine v_iload C dX8_worthiest_164 rfl ?_
                refine v_invV C ctX8_whyNot dX8_worthiest_166 ivX8_140 ⟨by decide, by decide, rfl, rfl⟩ ((x4, x5, x6) : Int × Int × Int) (As := [.inl x4, .inl x5, .inl x6]) rfl rfl rfl (by decide) rfl (st := []) rfl (Nat.le_of_ble_eq_true rfl) h (fun o M166 oM166 io166 g166 => ?_)
                replace h := rI_out g166
                clear g166
                obtain ⟨r166, rfl, h⟩ := h
                refine v_push ?_
                refine v_if C dX8_worthiest_169 (tgt := 194) (by decide) (P := r166 ≠ 0) rfl (fun c169 => ?_) (fun c169 => ?_)
                · replace h := h.1 c169
                  refine v_iinc C dX8_worthiest_194 (by decide) rfl h.1 (lv' := [some (.inr (30, 0)), some (.inl x1), some (.inl x2), some (.inl x3), some (.inl x4), some (.inl x5), some (.inl (x6 + 1)), some (.inl y7_94), some (.inl 0), some (.inl 1)]) rfl ?_
                  replace h := h.2
                  refine v_goto C dX8_worthiest_197 (tgt := 52) (by decide) ?_
                  refine v_weak [some (.inr (30, 0)), some (.inl x1), some (.inl x2), some (.inl x3), some (.inl x4), some (.inl x5), some (.inl (x6 + 1)), none, none, none] ⟨rfl, rfl, rfl, rfl, rfl, rfl, rfl, trivial⟩ ?_
                  exact h
                · replace h := h.2 c169
                  refine v_sipush C dX8_worthiest_172 (by decide) (by decide) ?_
                  refine v_iload C dX8_worthiest_175 rfl ?_
                  refine v_imul C dX8_worthiest_177 h.1 ?_
                  replace h := h.2
                  refine v_bipush C dX8_worthiest_178 (by decide) (by decide) ?_
                  refine v_iload C dX8_worthiest_180 rfl ?_
                  refine v_imul C dX8_worthiest_182 h.1 ?_
                  replace h := h.2
                  refine v_iadd C dX8_worthiest_183 h.1 ?_
                  replace h := h.2
                  refine v_iload C dX8_worthiest_184 rfl ?_
                  refine v_iadd C dX8_worthiest_186 h.1 ?_
                  replace h := h.2
                  refine v_nm (fun y1_187 ey1_187 => ?_)
                  replace h := h y1_187 ey1_187
                  refine v_istore_n C dX8_worthiest_187 (by decide) (Nat.le_of_ble_eq_true rfl) (lv' := [some (.inr (30, 0)), some (.inl y1_187), some (.inl x2), some (.inl x3), some (.inl x4), some (.inl x5), some (.inl x6), some (.inl y7_94), some (.inl 0), some (.inl 1)]) rfl ?_
                  refine v_iload C dX8_worthiest_188 rfl ?_
                  refine v_istore_n C dX8_worthiest_190 (by decide) (Nat.le_of_ble_eq_true rfl) (lv' := [some (.inr (30, 0)), some (.inl y1_187), some (.inl y7_94), some (.inl x3), some (.inl x4), some (.inl x5), some (.inl x6), some (.inl y7_94), some (.inl 0), some (.inl 1)]) rfl ?_
                  refine v_iload C dX8_worthiest_191 rfl ?_
                  refine v_istore_n C dX8_worthiest_193 (by decide) (Nat.le_of_ble_eq_true rfl) (lv' := [some (.inr (30, 0)), some (.inl y1_187), some (.inl y7_94), some (.inl 0), some (.inl x4), some (.inl x5), some (.inl x6), some (.inl y7_94), some (.inl 0), some (.inl 1)]) rfl ?_
                  refine v_iinc C dX8_worthiest_194 (by decide) rfl h.1 (lv' := [some (.inr (30, 0)), some (.inl y1_187), some (.inl y7_94), some (.inl 0), some (.inl x4), some (.inl x5), some (.inl (x6 + 1)), some (.inl y7_94), some (.inl 0), some (.inl 1)]) rfl ?_
                  replace h := h.2
                  refine v_goto C dX8_worthiest_197 (tgt := 52) (by decide) ?_
                  refine v_weak [some (.inr (30, 0)), some (.inl y1_187), some (.inl y7_94), some (.inl 0), some (.inl x4), some (.inl x5), some (.inl (x6 + 1)), none, none, none] ⟨rfl, rfl, rfl, rfl, rfl, rfl, rfl, trivial⟩ ?_
                  exact h
      · replace h := h.2 c106
        refine v_aload_n C dX8_worthiest_109 rfl ?_
        refine v_iload C dX8_worthiest_110 rfl ?_
        refine v_iload C dX8_worthiest_112 rfl ?_
        refine v_iload C dX8_worthiest_114 rfl ?_
        refine v_invV C ctX8_gainOf dX8_worthiest_116 ivX8_160 ⟨by decide, by decide, rfl, rfl⟩ ((x4, x5, x6) : Int × Int × Int) (As := [.inl x4, .inl x5, .inl x6]) rfl rfl rfl (by decide) rfl (st := []) rfl (Nat.le_of_ble_eq_true rfl) h (fun o M116 oM116 io116 g116 => ?_)
        replace h := rI_out g116
        clear g116
        obtain ⟨r116, rfl, h⟩ := h
        refine v_push ?_
        refine v_goto C dX8_worthiest_119 (tgt := 123) (by decide) ?_
        refine v_istore C dX8_worthiest_123 (by decide) (Nat.le_of_ble_eq_true rfl) (lv' := [some (.inr (30, 0)), some (.inl x1), some (.inl x2), some (.inl x3), some (.inl x4), some (.inl x5), some (.inl x6), some (.inl y7_94), some (.inl r116), none]) rfl ?_
        refine v_iload_n C dX8_worthiest_125 rfl ?_
        refine v_if C dX8_worthiest_126 (tgt := 147) (by decide) (P := x1 < 0) rfl (fun c126 => ?_) (fun c126 => ?_)
        · replace h := h.1 c126
          refine v_iconst C dX8_worthiest_147 (by decide) ?_
          refine v_goto C dX8_worthiest_148 (tgt := 152) (by decide) ?_
          refine v_istore C dX8_worthiest_152 (by decide) (Nat.le_of_ble_eq_true rfl) (lv' := [some (.inr (30, 0)), some (.inl x1), some (.inl x2), some (.inl x3), some (.inl x4), some (.inl x5), some (.inl x6), some (.inl y7_94), some (.inl r116), some (.inl 1)]) rfl ?_
          refine v_iload C dX8_worthiest_154 rfl ?_
          refine v_if C dX8_worthiest_156 (tgt := 194) (by decide) (P := (1 : Int) = 0) rfl (fun c156 => absurd c156 (by decide)) (fun _ => ?_)
          refine v_aload_n C dX8_worthiest_159 rfl ?_
          refine v_iload C dX8_worthiest_160 rfl ?_
          refine v_iload C dX8_worthiest_162 rfl ?_
          refine v_iload C dX8_worthiest_164 rfl ?_
          refine v_invV C ctX8_whyNot dX8_worthiest_166 ivX8_140 ⟨by decide, by decide, rfl, rfl⟩ ((x4, x5, x6) : Int × Int × Int) (As := [.inl x4, .inl x5, .inl x6]) rfl rfl rfl (by decide) rfl (st := []) rfl (Nat.le_of_ble_eq_true rfl) h (fun o M166 oM166 io166 g166 => ?_)
          replace h := rI_out g166
          clear g166
          obtain ⟨r166, rfl, h⟩ := h
          refine v_push ?_
          refine v_if C dX8_worthiest_169 (tgt := 194) (by decide) (P := r166 ≠ 0) rfl (fun c169 => ?_) (fun c169 => ?_)
          · replace h := h.1 c169
            refine v_iinc C dX8_worthiest_194 (by decide) rfl h.1 (lv' := [some (.inr (30, 0)), some (.inl x1), some (.inl x2), some (.inl x3), some (.inl x4), some (.inl x5), some (.inl (x6 + 1)), some (.inl y7_94), some (.inl r116), some (.inl 1)]) rfl ?_
            replace h := h.2
            refine v_goto C dX8_worthiest_197 (tgt := 52) (by decide) ?_
            refine v_weak [some (.inr (30, 0)), some (.inl x1), some (.inl x2), some (.inl x3), some (.inl x4), some (.inl x5), some (.inl (x6 + 1)), none, none, none] ⟨rfl, rfl, rfl, rfl, rfl, rfl, rfl, trivial⟩ ?_
            exact h
          · replace h := h.2 c169
            refine v_sipush C dX8_worthiest_172 (by decide) (by decide) ?_
            refine v_iload C dX8_worthiest_175 rfl ?_
            refine v_imul C dX8_worthiest_177 h.1 ?_
            replace h := h.2
            refine v_bipush C dX8_worthiest_178 (by decide) (by decide) ?_
            refine v_iload C dX8_worthiest_180 rfl ?_
            refine v_imul C dX8_worthiest_182 h.1 ?_
            replace h := h.2
            refine v_iadd C dX8_worthiest_183 h.1 ?_
            replace h := h.2
            refine v_iload C dX8_worthiest_184 rfl ?_
            refine v_iadd C dX8_worthiest_186 h.1 ?_
            replace h := h.2
            refine v_nm (fun y1_187 ey1_187 => ?_)
            replace h := h y1_187 ey1_187
            refine v_istore_n C dX8_worthiest_187 (by decide) (Nat.le_of_ble_eq_true rfl) (lv' := [some (.inr (30, 0)), some (.inl y1_187), some (.inl x2), some (.inl x3), some (.inl x4), some (.inl x5), some (.inl x6), some (.inl y7_94), some (.inl r116), some (.inl 1)]) rfl ?_
            refine v_iload C dX8_worthiest_188 rfl ?_
            refine v_istore_n C dX8_worthiest_190 (by decide) (Nat.le_of_ble_eq_true rfl) (lv' := [some (.inr (30, 0)), some (.inl y1_187), some (.inl y7_94), some (.inl x3), some (.inl x4), some (.inl x5), some (.inl x6), some (.inl y7_94), some (.inl r116), some (.inl 1)]) rfl ?_
            refine v_iload C dX8_worthiest_191 rfl ?_
            refine v_istore_n C dX8_worthiest_193 (by decide) (Nat.le_of_ble_eq_true rfl) (lv' := [some (.inr (30, 0)), some (.inl y1_187), some (.inl y7_94), some (.inl r116), some (.inl x4), some (.inl x5), some (.inl x6), some (.inl y7_94), some (.inl r116), some (.inl 1)]) rfl ?_
            refine v_iinc C dX8_worthiest_194 (by decide) rfl h.1 (lv' := [some (.inr (30, 0)), some (.inl y1_187), some (.inl y7_94), some (.inl r116), some (.inl x4), some (.inl x5), some (.inl (x6 + 1)), some (.inl y7_94), some (.inl r116), some (.inl 1)]) rfl ?_
            replace h := h.2
            refine v_goto C dX8_worthiest_197 (tgt := 52) (by decide) ?_
            refine v_weak [some (.inr (30, 0)), some (.inl y1_187), some (.inl y7_94), some (.inl r116), some (.inl x4), some (.inl x5), some (.inl (x6 + 1)), none, none, none] ⟨rfl, rfl, rfl, rfl, rfl, rfl, rfl, trivial⟩ ?_
            exact h
        · replace h := h.2 c126
          refine v_iload C dX8_worthiest_129 rfl ?_
          refine v_iload_n C dX8_worthiest_131 rfl ?_
          refine v_icmp C dX8_worthiest_132 (tgt := 147) (by decide) (P := x2 < y7_94) rfl (fun c132 => ?_) (fun c132 => ?_)
          · replace h := h.1 c132
            refine v_iconst C dX8_worthiest_147 (by decide) ?_
            refine v_goto C dX8_worthiest_148 (tgt := 152) (by decide) ?_
            refine v_istore C dX8_worthiest_152 (by decide) (Nat.le_of_ble_eq_true rfl) (lv' := [some (.inr (30, 0)), some (.inl x1), some (.inl x2), some (.inl x3), some (.inl x4), some (.inl x5), some (.inl x6), some (.inl y7_94), some (.inl r116), some (.inl 1)]) rfl ?_
            refine v_iload C dX8_worthiest_154 rfl ?_
            refine v_if C dX8_worthiest_156 (tgt := 194) (by decide) (P := (1 : Int) = 0) rfl (fun c156 => absurd c156 (by decide)) (fun _ => ?_)
            refine v_aload_n C dX8_worthiest_159 rfl ?_
            refine v_iload C dX8_worthiest_160 rfl ?_
            refine v_iload C dX8_worthiest_162 rfl ?_
            refine v_iload C dX8_worthiest_164 rfl ?_
            refine v_invV C ctX8_whyNot dX8_worthiest_166 ivX8_140 ⟨by decide, by decide, rfl, rfl⟩ ((x4, x5, x6) : Int × Int × Int) (As := [.inl x4, .inl x5, .inl x6]) rfl rfl rfl (by decide) rfl (st := []) rfl (Nat.le_of_ble_eq_true rfl) h (fun o M166 oM166 io166 g166 => ?_)
            replace h := rI_out g166
            clear g166
            obtain ⟨r166, rfl, h⟩ := h
            refine v_push ?_
            refine v_if C dX8_worthiest_169 (tgt := 194) (by decide) (P := r166 ≠ 0) rfl (fun c169 => ?_) (fun c169 => ?_)
            · replace h := h.1 c169
              refine v_iinc C dX8_worthiest_194 (by decide) rfl h.1 (lv' := [some (.inr (30, 0)), some (.inl x1), some (.inl x2), some (.inl x3), some (.inl x4), some (.inl x5), some (.inl (x6 + 1)), some (.inl y7_94), some (.inl r116), some (.inl 1)]) rfl ?_
              replace h := h.2
              refine v_goto C dX8_worthiest_197 (tgt := 52) (by decide) ?_
              refine v_weak [some (.inr (30, 0)), some (.inl x1), some (.inl x2), some (.inl x3), some (.inl x4), some (.inl x5), some (.inl (x6 + 1)), none, none, none] ⟨rfl, rfl, rfl, rfl, rfl, rfl, rfl, trivial⟩ ?_
              exact h
            · replace h := h.2 c169
              refine v_sipush C dX8_worthiest_172 (by decide) (by decide) ?_
              refine v_iload C dX8_worthiest_175 rfl ?_
              refine v_imul C dX8_worthiest_177 h.1 ?_
              replace h := h.2
              refine v_bipush C dX8_worthiest_178 (by decide) (by decide) ?_
              refine v_iload C dX8_worthiest_180 rfl ?_
              refine v_imul C dX8_worthiest_182 h.1 ?_
              replace h := h.2
              refine v_iadd C dX8_worthiest_183 h.1 ?_
              replace h := h.2
              refine v_iload C dX8_worthiest_184 rfl ?_
              refine v_iadd C dX8_worthiest_186 h.1 ?_
              replace h := h.2
              refine v_nm (fun y1_187 ey1_187 => ?_)
              replace h := h y1_187 ey1_187
              refine v_istore_n C dX8_worthiest_187 (by decide) (Nat.le_of_ble_eq_true rfl) (lv' := [some (.inr (30, 0)), some (.inl y1_187), some (.inl x2), some (.inl x3), some (.inl x4), some (.inl x5), some (.inl x6), some (.inl y7_94), some (.inl r116), some (.inl 1)]) rfl ?_
              refine v_iload C dX8_worthiest_188 rfl ?_
              refine v_istore_n C dX8_worthiest_190 (by decide) (Nat.le_of_ble_eq_true rfl) (lv' := [some (.inr (30, 0)), some (.inl y1_187), some (.inl y7_94), some (.inl x3), some (.inl x4), some (.inl x5), some (.inl x6), some (.inl y7_94), some (.inl r116), some (.inl 1)]) rfl ?_
              refine v_iload C dX8_worthiest_191 rfl ?_
              refine v_istore_n C dX8_worthiest_193 (by decide) (Nat.le_of_ble_eq_true rfl) (lv' := [some (.inr (30, 0)), some (.inl y1_187), some (.inl y7_94), some (.inl r116), some (.inl x4), some (.inl x5), some (.inl x6), some (.inl y7_94), some (.inl r116), some (.inl 1)]) rfl ?_
              refine v_iinc C dX8_worthiest_194 (by decide) rfl h.1 (lv' := [some (.inr (30, 0)), some (.inl y1_187), some (.inl y7_94), some (.inl r116), some (.inl x4), some (.inl x5), some (.inl (x6 + 1)), some (.inl y7_94), some (.inl r116), some (.inl 1)]) rfl ?_
              replace h := h.2
              refine v_goto C dX8_worthiest_197 (tgt := 52) (by decide) ?_
              refine v_weak [some (.inr (30, 0)), some (.inl y1_187), some (.inl y7_94), some (.inl r116), some (.inl x4), some (.inl x5), some (.inl (x6 + 1)), none, none, none] ⟨rfl, rfl, rfl, rfl, rfl, rfl, rfl, trivial⟩ ?_
              exact h
          · replace h := h.2 c132
            refine v_iload C dX8_worthiest_135 rfl ?_
            refine v_iload_n C dX8_worthiest_137 rfl ?_
            refine v_icmp C dX8_worthiest_138 (tgt := 151) (by decide) (P := y7_94 ≠ x2) rfl (fun c138 => ?_) (fun c138 => ?_)
            · replace h := h.1 c138
              refine v_iconst C dX8_worthiest_151 (by decide) ?_
              refine v_istore C dX8_worthiest_152 (by decide) (Nat.le_of_ble_eq_true rfl) (lv' := [some (.inr (30, 0)), some (.inl x1), some (.inl x2), some (.inl x3), some (.inl x4), some (.inl x5), some (.inl x6), some (.inl y7_94), some (.inl r116), some (.inl 0)]) rfl ?_
              refine v_iload C dX8_worthiest_154 rfl ?_
              refine v_if C dX8_worthiest_156 (tgt := 194) (by decide) (P := (0 : Int) = 0) rfl (fun _ => ?_) (fun c156 => absurd (by decide) c156)
              refine v_iinc C dX8_worthiest_194 (by decide) rfl h.1 (lv' := [some (.inr (30, 0)), some (.inl x1), some (.inl x2), some (.inl x3), some (.inl x4), some (.inl x5), some (.inl (x6 + 1)), some (.inl y7_94), some (.inl r116), some (.inl 0)]) rfl ?_
              replace h := h.2
              refine v_goto C dX8_worthiest_197 (tgt := 52) (by decide) ?_
              refine v_weak [some (.inr (30, 0)), some (.inl x1), some (.inl x2), some (.inl x3), some (.inl x4), some (.inl x5), some (.inl (x6 + 1)), none, none, none] ⟨rfl, rfl, rfl, rfl, rfl, rfl, rfl, trivial⟩ ?_
              exact h
            · replace h := h.2 c138
              refine v_iload C dX8_worthiest_141 rfl ?_
              refine v_iload_n C dX8_worthiest_143 rfl ?_
              refine v_icmp C dX8_worthiest_144 (tgt := 151) (by decide) (P := r116 ≤ x3) rfl (fun c144 => ?_) (fun c144 => ?_)
              · replace h := h.1 c144
                refine v_iconst C dX8_worthiest_151 (by decide) ?_
                refine v_istore C dX8_worthiest_152 (by decide) (Nat.le_of_ble_eq_true rfl) (lv' := [some (.inr (30, 0)), some (.inl x1), some (.inl x2), some (.inl x3), some (.inl x4), some (.inl x5), some (.inl x6), some (.inl y7_94), some (.inl r116), some (.inl 0)]) rfl ?_
                refine v_iload C dX8_worthiest_154 rfl ?_
                refine v_if C dX8_worthiest_156 (tgt := 194) (by decide) (P := (0 : Int) = 0) rfl (fun _ => ?_) (fun c156 => absurd (by decide) c156)
                refine v_iinc C dX8_worthiest_194 (by decide) rfl h.1 (lv' := [some (.inr (30, 0)), some (.inl x1), some (.inl x2), some (.inl x3), some (.inl x4), some (.inl x5), some (.inl (x6 + 1)), some (.inl y7_94), some (.inl r116), some (.inl 0)]) rfl ?_
                replace h := h.2
                refine v_goto C dX8_worthiest_197 (tgt := 52) (by decide) ?_
                refine v_weak [some (.inr (30, 0)), some (.inl x1), some (.inl x2), some (.inl x3), some (.inl x4), some (.inl x5), some (.inl (x6 + 1)), none, none, none] ⟨rfl, rfl, rfl, rfl, rfl, rfl, rfl, trivial⟩ ?_
                exact h
              · replace h := h.2 c144
                refine v_iconst C dX8_worthiest_147 (by decide) ?_
                refine v_goto C dX8_worthiest_148 (tgt := 152) (by decide) ?_
                refine v_istore C dX8_worthiest_152 (by decide) (Nat.le_of_ble_eq_true rfl) (lv' := [some (.inr (30, 0)), some (.inl x1), some (.inl x2), some (.inl x3), some (.inl x4), some (.inl x5), some (.inl x6), some (.inl y7_94), some (.inl r116), some (.inl 1)]) rfl ?_
                refine v_iload C dX8_worthiest_154 rfl ?_
                refine v_if C dX8_worthiest_156 (tgt := 194) (by decide) (P := (1 : Int) = 0) rfl (fun c156 => absurd c156 (by decide)) (fun _ => ?_)
                refine v_aload_n C dX8_worthiest_159 rfl ?_
                refine v_iload C dX8_worthiest_160 rfl ?_
                refine v_iload C dX8_worthiest_162 rfl ?_
                refine v_iload C dX8_worthiest_164 rfl ?_
                refine v_invV C ctX8_whyNot dX8_worthiest_166 ivX8_140 ⟨by decide, by decide, rfl, rfl⟩ ((x4, x5, x6) : Int × Int × Int) (As := [.inl x4, .inl x5, .inl x6]) rfl rfl rfl (by decide) rfl (st := []) rfl (Nat.le_of_ble_eq_true rfl) h (fun o M166 oM166 io166 g166 => ?_)
                replace h := rI_out g166
                clear g166
                obtain ⟨r166, rfl, h⟩ := h
                refine v_push ?_
                refine v_if C dX8_worthiest_169 (tgt := 194) (by decide) (P := r166 ≠ 0) rfl (fun c169 => ?_) (fun c169 => ?_)
                · replace h := h.1 c169
                  refine v_iinc C dX8_worthiest_194 (by decide) rfl h.1 (lv' := [some (.inr (30, 0)), some (.inl x1), some (.inl x2), some (.inl x3), some (.inl x4), some (.inl x5), some (.inl (x6 + 1)), some (.inl y7_94), some (.inl r116), some (.inl 1)]) rfl ?_
                  replace h := h.2
                  refine v_goto C dX8_worthiest_197 (tgt := 52) (by decide) ?_
                  refine v_weak [some (.inr (30, 0)), some (.inl x1), some (.inl x2), some (.inl x3), some (.inl x4), some (.inl x5), some (.inl (x6 + 1)), none, none, none] ⟨rfl, rfl, rfl, rfl, rfl, rfl, rfl, trivial⟩ ?_
                  exact h
                · replace h := h.2 c169
                  refine v_sipush C dX8_worthiest_172 (by decide) (by decide) ?_
                  refine v_iload C dX8_worthiest_175 rfl ?_
                  refine v_imul C dX8_worthiest_177 h.1 ?_
                  replace h := h.2
                  refine v_bipush C dX8_worthiest_178 (by decide) (by decide) ?_
                  refine v_iload C dX8_worthiest_180 rfl ?_
                  refine v_imul C dX8_worthiest_182 h.1 ?_
                  replace h := h.2
                  refine v_iadd C dX8_worthiest_183 h.1 ?_
                  replace h := h.2
                  refine v_iload C dX8_worthiest_184 rfl ?_
                  refine v_iadd C dX8_worthiest_186 h.1 ?_
                  replace h := h.2
                  refine v_nm (fun y1_187 ey1_187 => ?_)
                  replace h := h y1_187 ey1_187
                  refine v_istore_n C dX8_worthiest_187 (by decide) (Nat.le_of_ble_eq_true rfl) (lv' := [some (.inr (30, 0)), some (.inl y1_187), some (.inl x2), some (.inl x3), some (.inl x4), some (.inl x5), some (.inl x6), some (.inl y7_94), some (.inl r116), some (.inl 1)]) rfl ?_
                  refine v_iload C dX8_worthiest_188 rfl ?_
                  refine v_istore_n C dX8_worthiest_190 (by decide) (Nat.le_of_ble_eq_true rfl) (lv' := [some (.inr (30, 0)), some (.inl y1_187), some (.inl y7_94), some (.inl x3), some (.inl x4), some (.inl x5), some (.inl x6), some (.inl y7_94), some (.inl r116), some (.inl 1)]) rfl ?_
                  refine v_iload C dX8_worthiest_191 rfl ?_
                  refine v_istore_n C dX8_worthiest_193 (by decide) (Nat.le_of_ble_eq_true rfl) (lv' := [some (.inr (30, 0)), some (.inl y1_187), some (.inl y7_94), some (.inl r116), some (.inl x4), some (.inl x5), some (.inl x6), some (.inl y7_94), some (.inl r116), some (.inl 1)]) rfl ?_
                  refine v_iinc C dX8_worthiest_194 (by decide) rfl h.1 (lv' := [some (.inr (30, 0)), some (.inl y1_187), some (.inl y7_94), some (.inl r116), some (.inl x4), some (.inl x5), some (.inl (x6 + 1)), some (.inl y7_94), some (.inl r116), some (.inl 1)]) rfl ?_
                  replace h := h.2
                  refine v_goto C dX8_worthiest_197 (tgt := 52) (by decide) ?_
                  refine v_weak [some (.inr (30, 0)), some (.inl y1_187), some (.inl y7_94), some (.inl r116), some (.inl x4), some (.inl x5), some (.inl (x6 + 1)), none, none, none] ⟨rfl, rfl, rfl, rfl, rfl, rfl, rfl, trivial⟩ ?_
                  exact h
abbrev spX8_worthiest (M : Mem) (K : Kont) : Prop := (WFf (mFilm M) ∧ HrK M (mFilm M) ∧ PlK (mFilm M) (M 45 0) (M 46 0)) ∧ K (some (cod (grP (mFilm M) (spb (mFilm M)) (csb (mFilm M)) (M 45 0) (M 46 0) (pzM M) (mFilm M 3 0 0).toNat))) M
theorem ctX8_worthiest : CtX8_worthiest spX8_worthiest := by
  refine ct_of (by decide) dmM (fun _ => Nat.le_of_ble_eq_true rfl) ?_
  intro κ a M K C oM h
  obtain ⟨⟨hf, hH, hP⟩, hk⟩ := h
  have n3 := hf.2.2.2.1
  have T := hf.1
  have e3 : mFilm M 3 0 0 = M 30 0 6 := rfl
  have e0 : mFilm M 0 0 0 = M 30 0 2 := rfl
  have pics : ∀ (m : Nat) (p b w g : Int), 0 ≤ p → p + m = mFilm M 3 0 0 → SR (grP (mFilm M) (spb (mFilm M)) (csb (mFilm M)) (M 45 0) (M 46 0) (pzM M) p.toNat) b w g →
      V κ 10 M 10 [some (.inr (30, 0)), some (.inl b), some (.inl w), some (.inl g), some (.inl p), none, none, none, none, none] [] K := by
    intro m
    induction m with
    | zero =>
      intro p b w g p0 hp hs
      refine sgX8_worthiest_10 C b w g p ⟨fun _ => ?_, fun z => absurd (by omega) z⟩
      rw [hs.2.2.1, show p = mFilm M 3 0 0 by omega]
      exact hk
    | succ m ihm =>
      intro p b w g p0 hp hs
      have wp := wf_p hf p0 (by omega)
      have e11 : mFilm M 11 p 0 = M 37 0 (11 * p + 3) := rfl
      have st := hP.sta p0 (by omega)
      have ps : grP (mFilm M) (spb (mFilm M)) (csb (mFilm M)) (M 45 0) (M 46 0) (pzM M) (p + 1).toNat = if M 45 0 p = -4 then grV (mFilm M) (spb (mFilm M)) (csb (mFilm M)) (M 45 0) (M 46 0) (pzM M) p (mFilm M 11 p 0).toNat (grP (mFilm M) (spb (mFilm M)) (csb (mFilm M)) (M 45 0) (M 46 0) (pzM M) p.toNat) else grP (mFilm M) (spb (mFilm M)) (csb (mFilm M)) (M 45 0) (M 46 0) (pzM M) p.toNat := by
        rw [toNat_s p0]
        show (if M 45 0 (p.toNat : Int) = -4 then grV _ _ _ _ _ _ (p.toNat : Int) (mFilm M 11 (p.toNat : Int) 0).toNat _ else _) = _
        rw [oi_nat p0]
      refine sgX8_worthiest_10 C b w g p ⟨fun z => absurd z (by omega), fun _ => ?_⟩
      generalize hs0 : grP (mFilm M) (spb (mFilm M)) (csb (mFilm M)) (M 45 0) (M 46 0) (pzM M) p.toNat = s0 at *
      by_cases hv : M 45 0 p = -4
      · rw [if_pos hv] at ps
        have vers : ∀ (j : Nat) (v b w g : Int), 0 ≤ v → v + j = mFilm M 11 p 0 → SR (grV (mFilm M) (spb (mFilm M)) (csb (mFilm M)) (M 45 0) (M 46 0) (pzM M) p v.toNat s0) b w g →
            V κ 10 M 22 [some (.inr (30, 0)), some (.inl b), some (.inl w), some (.inl g), some (.inl p), some (.inl v), none, none, none, none] [] K := by
          intro j
          induction j with
          | zero =>
            intro v b w g v0 hv2 hs
            refine sgX8_worthiest_22 C b w g p v ⟨by omega, by omega, by omega, fun _ => ⟨by omega, ihm (p + 1) b w g (by omega) (by omega) ?_⟩, fun z => absurd (by omega) z⟩
            rw [ps, ← show v = mFilm M 11 p 0 by omega]
            exact hs
          | succ j ihj =>
            intro v b w g v0 hv2 hs
            have wv := wf_pv hf p0 (by omega) v0 (by omega : v < mFilm M 11 p 0)
            have vs : grV (mFilm M) (spb (mFilm M)) (csb (mFilm M)) (M 45 0) (M 46 0) (pzM M) p (v + 1).toNat s0 = if pzM M (p * 3 + v) then grV (mFilm M) (spb (mFilm M)) (csb (mFilm M)) (M 45 0) (M 46 0) (pzM M) p v.toNat s0 else grT (mFilm M) (spb (mFilm M)) (csb (mFilm M)) (M 45 0) (M 46 0) p v (mFilm M 0 0 0).toNat (grV (mFilm M) (spb (mFilm M)) (csb (mFilm M)) (M 45 0) (M 46 0) (pzM M) p v.toNat s0) := by
              rw [toNat_s v0]
              show (if pzM M (p * 3 + (v.toNat : Int)) then _ else grT _ _ _ _ _ p (v.toNat : Int) _ _) = _
              rw [oi_nat v0]
            refine sgX8_worthiest_22 C b w g p v ⟨by omega, by omega, by omega, fun z => absurd z (by omega), fun _ => ⟨by omega, fun z => absurd z (by omega), fun _ => ?_⟩⟩
            generalize hs1 : grV (mFilm M) (spb (mFilm M)) (csb (mFilm M)) (M 45 0) (M 46 0) (pzM M) p v.toNat s0 = s1 at *
            by_cases hz : pzM M (p * 3 + v) = true
            · rw [if_pos hz] at vs
              have nz : M 51 0 (3 * p + v) ≠ 0 := by
                have : M 51 0 (p * 3 + v) ≠ 0 := by simpa [pzM] using hz
                rw [show 3 * p + v = p * 3 + v by omega]
                exact this
              have next := ihj (v + 1) b w g (by omega) (by omega) (by rw [vs]; exact hs)
              exact sgX8_worthiest_52 C b w g p v 0 ⟨fun _ => ⟨by omega, next⟩, fun _ => ⟨by omega, by omega, by omega, fun _ => ⟨by omega, next⟩, fun z => absurd nz z⟩⟩
            · rw [if_neg hz] at vs
              have nz : ¬ M 51 0 (3 * p + v) ≠ 0 := by
                have : ¬ M 51 0 (p * 3 + v) ≠ 0 := by simpa [pzM] using hz
                rw [show 3 * p + v = p * 3 + v by omega]
                exact this
              have ticks : ∀ (n : Nat) (t b w g : Int), 0 ≤ t → t + n = mFilm M 0 0 0 → SR (grT (mFilm M) (spb (mFilm M)) (csb (mFilm M)) (M 45 0) (M 46 0) p v t.toNat s1) b w g →
                  V κ 10 M 52 [some (.inr (30, 0)), some (.inl b), some (.inl w), some (.inl g), some (.inl p), some (.inl v), some (.inl t), none, none, none] [] K := by
                intro n
                induction n with
                | zero =>
                  intro t b w g t0 hn hs
                  refine sgX8_worthiest_52 C b w g p v t ⟨fun _ => ⟨by omega, ihj (v + 1) b w g (by omega) (by omega) ?_⟩, fun z => absurd (by omega) z⟩
                  rw [vs, ← show t = mFilm M 0 0 0 by omega]
                  exact hs
                | succ n ihn =>
                  intro t b w g t0 hn hs
                  have tk : tellK (mFilm M) p v t := ⟨⟨⟨p0, by omega⟩, v0, by omega⟩, t0, by omega⟩
                  have e14 : mFilm M 14 p v = M 37 0 (11 * p + 6 + 2 * v) := rfl
                  have ts := grT_s (mFilm M) (spb (mFilm M)) (csb (mFilm M)) (M 45 0) (M 46 0) p v t0 s1
                  have neg := hs.neg
                  generalize hs2 : grT (mFilm M) (spb (mFilm M)) (csb (mFilm M)) (M 45 0) (M 46 0) p v t.toNat s1 = s2 at *
                  unfold grO at ts
                  have pre : (WFf (mFilm M) ∧ HrK M (mFilm M) ∧ PlK (mFilm M) (M 45 0) (M 46 0) ∧ tellK (mFilm M) p v t) := ⟨hf, hH, hP, tk⟩
                  obtain ⟨h0, h9, hb, hnn, hw, hg0, hg⟩ := hs
                  refine sgX8_worthiest_52 C b w g p v t ⟨fun z => absurd z (by omega), fun _ => ⟨by omega, by omega, by omega, fun z => absurd z nz, fun _ => ⟨by omega, by omega, by omega, by omega, by omega, fun y ey => ⟨pre, fun c2 => ?_, fun c2 => ?_⟩⟩⟩⟩
                  · -- it can not be
                    have same := ihn (t + 1) b w g (by omega) (by omega) (by rw [ts, if_neg c2]; exact ⟨h0, h9, hb, hnn, hw, hg0, hg⟩)
                    refine ⟨fun _ => ⟨pre, fun _ => ⟨by omega, same⟩, fun z => absurd c2 z⟩, fun _ => ⟨fun _ => ⟨pre, fun _ => ⟨by omega, same⟩, fun z => absurd c2 z⟩, fun _ => ⟨fun _ => ⟨by omega, same⟩, fun _ => ⟨fun _ => ⟨by omega, same⟩, fun _ => ⟨pre, fun _ => ⟨by omega, same⟩, fun z => absurd c2 z⟩⟩⟩⟩⟩
                  · -- it can be
                    have c3 : whyW (mFilm M) (spb (mFilm M)) (M 45 0) (M 46 0) p v t = 0 := Classical.byContradiction c2
                    have oe := own_end (why_own c3)
                    rw [if_pos c3] at ts
                    unfold offS at ts
                    have ey' : y = mFilm M 14 p v := by omega
                    -- taken, not taken
                    have take : (s2.1 < mFilm M 14 p v ∨ (mFilm M 14 p v = s2.1 ∧ s2.2.1 < gainW (mFilm M) (csb (mFilm M)) p v t)) → ∀ z, z = 300 * p + 100 * v + t → V κ 10 M 52 [some (.inr (30, 0)), some (.inl z), some (.inl y), some (.inl (gainW (mFilm M) (csb (mFilm M)) p v t)), some (.inl p), some (.inl v), some (.inl (t + 1)), none, none, none] [] K := by
                      intro hc z ez
                      refine ihn (t + 1) z y _ (by omega) (by omega) ?_
                      rw [ts, if_pos hc]
                      refine ⟨by show 0 ≤ mFilm M 14 p v; omega, by show mFilm M 14 p v ≤ 99; omega, ?_, fun _ => ⟨p0, v0, t0⟩, ey', fun q => ?_, fun _ => rfl⟩
                      · unfold cod
                        rw [if_neg (by show ¬ mFilm M 14 p v = 0; omega)]
                        exact ez
                      · have q : mFilm M 14 p v = 0 := q
                        omega
                    have leave : ¬ (s2.1 < mFilm M 14 p v ∨ (mFilm M 14 p v = s2.1 ∧ s2.2.1 < gainW (mFilm M) (csb (mFilm M)) p v t)) → V κ 10 M 52 [some (.inr (30, 0)), some (.inl b), some (.inl w), some (.inl g), some (.inl p), some (.inl v), some (.inl (t + 1)), none, none, none] [] K := by
                      intro hc
                      refine ihn (t + 1) b w g (by omega) (by omega) ?_
                      rw [ts, if_neg hc]
                      exact ⟨h0, h9, hb, hnn, hw, hg0, hg⟩
                    refine ⟨⟨hf, hH, tk, oe.1⟩, fun d => ⟨pre, fun z => absurd z c2, fun _ => ⟨by omega, by omega, by omega, by omega, fun z ez => ⟨by omega, take (Or.inl (by omega)) z ez⟩⟩⟩, fun d => ⟨fun d2 => ⟨pre, fun z => absurd z c2, fun _ => ⟨by omega, by omega, by omega, by omega, fun z ez => ⟨by omega, take (Or.inl (by omega)) z ez⟩⟩⟩, fun d2 => ⟨fun d3 => ⟨by omega, leave (by omega)⟩, fun d3 => ⟨fun d4 => ⟨by omega, leave ?_⟩, fun d4 => ⟨pre, fun z => absurd z c2, fun _ => ⟨by omega, by omega, by omega, by omega, fun z ez => ⟨by omega, take (Or.inr ?_) z ez⟩⟩⟩⟩⟩⟩⟩
                    · have := hg (by omega)
                      rintro (q | q)
                      · omega
                      · have q2 := q.2
                        have d4' : gainW (mFilm M) (csb (mFilm M)) p v t ≤ g := d4
                        omega
                    · have := hg (by omega)
                      have d4' : ¬ gainW (mFilm M) (csb (mFilm M)) p v t ≤ g := d4
                      exact ⟨by omega, by omega⟩
              exact ticks (mFilm M 0 0 0).toNat 0 b w g (by omega) (by omega) hs
        exact vers (mFilm M 11 p 0).toNat 0 b w g (by omega) (by omega) hs
      · rw [if_neg hv] at ps
        refine sgX8_worthiest_22 C b w g p 0 ⟨by omega, by omega, by omega, fun z => absurd z (by omega), fun _ => ⟨by omega, fun _ => ⟨by omega, ihm (p + 1) b w g (by omega) (by omega) (by rw [ps]; exact hs)⟩, fun z => absurd (by omega) z⟩⟩
  refine sgX8_worthiest_0 C (pics (mFilm M 3 0 0).toNat 0 (-4) 0 0 (by omega) (by omega) ?_)
  exact ⟨by show (0 : Int) ≤ 0; omega, by show (0 : Int) ≤ 99; omega, rfl, fun z => absurd rfl z, rfl, fun _ => rfl, fun z => absurd rfl z⟩
