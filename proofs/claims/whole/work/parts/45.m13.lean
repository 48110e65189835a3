/-! ===== the Model reads: items, texts; fault, lay ===== -/
theorem FEq.tr {F G H : Film} (h : FEq F G) (h2 : FEq G H) : FEq F H := by
  obtain ⟨a0, a1, a2, a3, a4, a5, a6⟩ := h
  obtain ⟨b0, b1, b2, b3, b4, b5, b6⟩ := h2
  refine ⟨a0.trans b0, a1.trans b1, a2.trans b2, a3.trans b3, fun w x y => (a4 w x y).trans (b4 w x y), fun s x y => ?_, fun p x y => ?_⟩
  · have p1 := a5 s x y
    have p2 := b5 s x (by rw [← a2]; exact y)
    exact ⟨p1.1.trans p2.1, p1.2.1.trans p2.2.1, p1.2.2.trans p2.2.2⟩
  · have p1 := a6 p x y
    have p2 := b6 p x (by rw [← a3]; exact y)
    refine ⟨p1.1.trans p2.1, p1.2.1.trans p2.2.1, p1.2.2.1.trans p2.2.2.1, p1.2.2.2.1.trans p2.2.2.2.1, p1.2.2.2.2.1.trans p2.2.2.2.2.1, fun v c d => ?_⟩
    have q1 := p1.2.2.2.2.2 v c d
    have q2 := p2.2.2.2.2.2 v c (by rw [← p1.2.2.2.1]; exact d)
    exact ⟨q1.1.trans q2.1, q1.2.trans q2.2⟩
theorem RdQ.z {M : Mem} {p : Int} {it : List (Int × Int) → Option Film} {K : Kont} (h : RdQ M p it K) : RdQ M p it (rI (fun r N => (r = 0 ∨ r = 1) ∧ K (some r) N)) :=
  fun x M' a b c d e => ⟨a, h x M' a b c d e⟩
theorem acc_one3 {X : Int → Int} {L p e : Int} {l : List (Int × Int)} (ht : Tk X L l p e) (h1 : l.length = 1) : 0 < dgc X L 3 p ∧ aN l 0 = dgv X L 3 p 0 ∧ lt X L (p + dgc X L 3 p) = 59 := by
  match l, h1, ht with
  | [q], _, ht =>
    obtain ⟨hq, h0, h⟩ := ht
    have a : aN [q] 0 = q.1 := rfl
    rw [a]
    rcases h with ⟨-, b, -⟩ | ⟨-, b⟩
    · rw [hq] at h0 b
      exact ⟨h0, by rw [hq], b⟩
    · exact b.elim
/-! ===== GapTellingsModel.readsItem ===== -/
abbrev rmX8_readsItem : Room := { frames := 5, cells := 0, slots := 0, locals := 114 }
abbrev argX8_readsItem (a : Int × Int) : List PV := [.inr (30, 0), .inl a.1, .inl a.2]
abbrev CtX8_readsItem (sp : Int → Int → Mem → Kont → Prop) : Prop := Ct yX8_readsItem cX8_readsItem 4 (some .boolean) rmX8_readsItem domM argX8_readsItem (fun a => sp a.1 a.2)
theorem dX8_readsItem_0 : decode cX8_readsItem 0 = .ok (.iload_n 1, 1) := by decide +kernel
theorem dX8_readsItem_1 : decode cX8_readsItem 1 = .ok (.bipush 102, 2) := by decide +kernel
theorem dX8_readsItem_3 : decode cX8_readsItem 3 = .ok (.if_icmp .ne 38, 3) := by decide +kernel
theorem dX8_readsItem_6 : decode cX8_readsItem 6 = .ok (.aload_n 0, 1) := by decide +kernel
theorem dX8_readsItem_7 : decode cX8_readsItem 7 = .ok (.getfield 108, 3) := by decide +kernel
theorem dX8_readsItem_10 : decode cX8_readsItem 10 = .ok (.ifCond .ne 19, 3) := by decide +kernel
theorem dX8_readsItem_13 : decode cX8_readsItem 13 = .ok (.aload_n 0, 1) := by decide +kernel
theorem dX8_readsItem_14 : decode cX8_readsItem 14 = .ok (.iload_n 2, 1) := by decide +kernel
theorem dX8_readsItem_15 : decode cX8_readsItem 15 = .ok (.iconst 3, 1) := by decide +kernel
theorem dX8_readsItem_16 : decode cX8_readsItem 16 = .ok (.iconst 1, 1) := by decide +kernel
theorem dX8_readsItem_17 : decode cX8_readsItem 17 = .ok (.bipush 100, 2) := by decide +kernel
theorem dX8_readsItem_19 : decode cX8_readsItem 19 = .ok (.invokevirtual 101, 3) := by decide +kernel
theorem dX8_readsItem_22 : decode cX8_readsItem 22 = .ok (.ifCond .eq 7, 3) := by decide +kernel
theorem dX8_readsItem_25 : decode cX8_readsItem 25 = .ok (.iconst 1, 1) := by decide +kernel
theorem dX8_readsItem_26 : decode cX8_readsItem 26 = .ok (.goto 4, 3) := by decide +kernel
theorem dX8_readsItem_29 : decode cX8_readsItem 29 = .ok (.iconst 0, 1) := by decide +kernel
theorem dX8_readsItem_30 : decode cX8_readsItem 30 = .ok (.istore_n 3, 1) := by decide +kernel
theorem dX8_readsItem_31 : decode cX8_readsItem 31 = .ok (.aload_n 0, 1) := by decide +kernel
theorem dX8_readsItem_32 : decode cX8_readsItem 32 = .ok (.aload_n 0, 1) := by decide +kernel
theorem dX8_readsItem_33 : decode cX8_readsItem 33 = .ok (.getfield 87, 3) := by decide +kernel
theorem dX8_readsItem_36 : decode cX8_readsItem 36 = .ok (.putfield 108, 3) := by decide +kernel
theorem dX8_readsItem_39 : decode cX8_readsItem 39 = .ok (.iload_n 3, 1) := by decide +kernel
theorem dX8_readsItem_40 : decode cX8_readsItem 40 = .ok (.ireturn, 1) := by decide +kernel
theorem dX8_readsItem_41 : decode cX8_readsItem 41 = .ok (.aload_n 0, 1) := by decide +kernel
theorem dX8_readsItem_42 : decode cX8_readsItem 42 = .ok (.getfield 108, 3) := by decide +kernel
theorem dX8_readsItem_45 : decode cX8_readsItem 45 = .ok (.ifCond .ne 5, 3) := by decide +kernel
theorem dX8_readsItem_48 : decode cX8_readsItem 48 = .ok (.iconst 0, 1) := by decide +kernel
theorem dX8_readsItem_49 : decode cX8_readsItem 49 = .ok (.ireturn, 1) := by decide +kernel
theorem dX8_readsItem_50 : decode cX8_readsItem 50 = .ok (.iload_n 1, 1) := by decide +kernel
theorem dX8_readsItem_51 : decode cX8_readsItem 51 = .ok (.bipush 115, 2) := by decide +kernel
theorem dX8_readsItem_53 : decode cX8_readsItem 53 = .ok (.if_icmp .eq 15, 3) := by decide +kernel
theorem dX8_readsItem_56 : decode cX8_readsItem 56 = .ok (.iload_n 1, 1) := by decide +kernel
theorem dX8_readsItem_57 : decode cX8_readsItem 57 = .ok (.bipush 103, 2) := by decide +kernel
theorem dX8_readsItem_59 : decode cX8_readsItem 59 = .ok (.if_icmp .eq 9, 3) := by decide +kernel
theorem dX8_readsItem_62 : decode cX8_readsItem 62 = .ok (.iload_n 1, 1) := by decide +kernel
theorem dX8_readsItem_63 : decode cX8_readsItem 63 = .ok (.bipush 110, 2) := by decide +kernel
theorem dX8_readsItem_65 : decode cX8_readsItem 65 = .ok (.if_icmp .ne 30, 3) := by decide +kernel
theorem dX8_readsItem_68 : decode cX8_readsItem 68 = .ok (.aload_n 0, 1) := by decide +kernel
theorem dX8_readsItem_69 : decode cX8_readsItem 69 = .ok (.iload_n 1, 1) := by decide +kernel
theorem dX8_readsItem_70 : decode cX8_readsItem 70 = .ok (.bipush 115, 2) := by decide +kernel
theorem dX8_readsItem_72 : decode cX8_readsItem 72 = .ok (.if_icmp .ne 7, 3) := by decide +kernel
theorem dX8_readsItem_75 : decode cX8_readsItem 75 = .ok (.iconst 0, 1) := by decide +kernel
theorem dX8_readsItem_76 : decode cX8_readsItem 76 = .ok (.goto 14, 3) := by decide +kernel
theorem dX8_readsItem_79 : decode cX8_readsItem 79 = .ok (.iload_n 1, 1) := by decide +kernel
theorem dX8_readsItem_80 : decode cX8_readsItem 80 = .ok (.bipush 103, 2) := by decide +kernel
theorem dX8_readsItem_82 : decode cX8_readsItem 82 = .ok (.if_icmp .ne 7, 3) := by decide +kernel
theorem dX8_readsItem_85 : decode cX8_readsItem 85 = .ok (.iconst 1, 1) := by decide +kernel
theorem dX8_readsItem_86 : decode cX8_readsItem 86 = .ok (.goto 4, 3) := by decide +kernel
theorem dX8_readsItem_89 : decode cX8_readsItem 89 = .ok (.iconst 2, 1) := by decide +kernel
theorem dX8_readsItem_90 : decode cX8_readsItem 90 = .ok (.iload_n 2, 1) := by decide +kernel
theorem dX8_readsItem_91 : decode cX8_readsItem 91 = .ok (.invokevirtual 117, 3) := by decide +kernel
theorem dX8_readsItem_94 : decode cX8_readsItem 94 = .ok (.ireturn, 1) := by decide +kernel
theorem dX8_readsItem_95 : decode cX8_readsItem 95 = .ok (.iload_n 1, 1) := by decide +kernel
theorem dX8_readsItem_96 : decode cX8_readsItem 96 = .ok (.bipush 112, 2) := by decide +kernel
theorem dX8_readsItem_98 : decode cX8_readsItem 98 = .ok (.if_icmp .ne 9, 3) := by decide +kernel
theorem dX8_readsItem_101 : decode cX8_readsItem 101 = .ok (.aload_n 0, 1) := by decide +kernel
theorem dX8_readsItem_102 : decode cX8_readsItem 102 = .ok (.iload_n 2, 1) := by decide +kernel
theorem dX8_readsItem_103 : decode cX8_readsItem 103 = .ok (.invokevirtual 121, 3) := by decide +kernel
theorem dX8_readsItem_106 : decode cX8_readsItem 106 = .ok (.ireturn, 1) := by decide +kernel
theorem dX8_readsItem_107 : decode cX8_readsItem 107 = .ok (.iload_n 1, 1) := by decide +kernel
theorem dX8_readsItem_108 : decode cX8_readsItem 108 = .ok (.bipush 99, 2) := by decide +kernel
theorem dX8_readsItem_110 : decode cX8_readsItem 110 = .ok (.if_icmp .ne 9, 3) := by decide +kernel
theorem dX8_readsItem_113 : decode cX8_readsItem 113 = .ok (.aload_n 0, 1) := by decide +kernel
theorem dX8_readsItem_114 : decode cX8_readsItem 114 = .ok (.iload_n 2, 1) := by decide +kernel
theorem dX8_readsItem_115 : decode cX8_readsItem 115 = .ok (.invokevirtual 124, 3) := by decide +kernel
theorem dX8_readsItem_118 : decode cX8_readsItem 118 = .ok (.ireturn, 1) := by decide +kernel
theorem dX8_readsItem_119 : decode cX8_readsItem 119 = .ok (.iload_n 1, 1) := by decide +kernel
theorem dX8_readsItem_120 : decode cX8_readsItem 120 = .ok (.bipush 98, 2) := by decide +kernel
theorem dX8_readsItem_122 : decode cX8_readsItem 122 = .ok (.if_icmp .ne 19, 3) := by decide +kernel
theorem dX8_readsItem_125 : decode cX8_readsItem 125 = .ok (.aload_n 0, 1) := by decide +kernel
theorem dX8_readsItem_126 : decode cX8_readsItem 126 = .ok (.iload_n 2, 1) := by decide +kernel
theorem dX8_readsItem_127 : decode cX8_readsItem 127 = .ok (.iconst 2, 1) := by decide +kernel
theorem dX8_readsItem_128 : decode cX8_readsItem 128 = .ok (.iconst 0, 1) := by decide +kernel
theorem dX8_readsItem_129 : decode cX8_readsItem 129 = .ok (.bipush 9, 2) := by decide +kernel
theorem dX8_readsItem_131 : decode cX8_readsItem 131 = .ok (.invokevirtual 101, 3) := by decide +kernel
theorem dX8_readsItem_134 : decode cX8_readsItem 134 = .ok (.ifCond .eq 7, 3) := by decide +kernel
theorem dX8_readsItem_137 : decode cX8_readsItem 137 = .ok (.iconst 1, 1) := by decide +kernel
theorem dX8_readsItem_138 : decode cX8_readsItem 138 = .ok (.goto 4, 3) := by decide +kernel
theorem dX8_readsItem_141 : decode cX8_readsItem 141 = .ok (.iconst 0, 1) := by decide +kernel
theorem dX8_readsItem_142 : decode cX8_readsItem 142 = .ok (.istore_n 3, 1) := by decide +kernel
theorem dX8_readsItem_143 : decode cX8_readsItem 143 = .ok (.aload_n 0, 1) := by decide +kernel
theorem dX8_readsItem_144 : decode cX8_readsItem 144 = .ok (.aload_n 0, 1) := by decide +kernel
theorem dX8_readsItem_145 : decode cX8_readsItem 145 = .ok (.getfield 87, 3) := by decide +kernel
theorem dX8_readsItem_148 : decode cX8_readsItem 148 = .ok (.putfield 127, 3) := by decide +kernel
theorem dX8_readsItem_151 : decode cX8_readsItem 151 = .ok (.iload_n 3, 1) := by decide +kernel
theorem dX8_readsItem_152 : decode cX8_readsItem 152 = .ok (.ireturn, 1) := by decide +kernel
theorem ivX8_117 : IV RX8 117 yX8_readsSound cX8_readsSound 4 (some .boolean) 2 := ⟨(tb_mem (t_in4 (List.mem_of_getElem? (i := 231) (by decide +kernel))) (by decide +kernel)), (tb_mem (t_in4 (List.mem_of_getElem? (i := 233) (by decide +kernel))) (by decide +kernel)), (tb_sel (q := (⟨"GapTellingsModel", "readsSound", "(II)Z"⟩, 29)) (List.mem_of_getElem? (i := 14) (by decide +kernel)) (by decide +kernel)), (tb_mem (t_in1 (List.mem_of_getElem? (i := 16) (by decide +kernel))) (by decide +kernel)), (tb_mem (t_in4 (List.mem_of_getElem? (i := 234) (by decide +kernel))) (by decide +kernel)), ⟨by decide +kernel, by decide +kernel, by decide +kernel⟩⟩
theorem plX8_127 : PL RX8 127 8 10 .int := ⟨_, _, _, rfl, by decide, uwX8, Or.inl (tb_mem (t_in4 (List.mem_of_getElem? (i := 118) (by decide +kernel))) (by decide +kernel)), rfl, by decide +kernel, tyX8, tyX8_ok, nmX8⟩
theorem ivX8_124 : IV RX8 124 yX8_readsNeed cX8_readsNeed 3 (some .boolean) 1 := ⟨(tb_mem (t_in5 (List.mem_of_getElem? (i := 3) (by decide +kernel))) (by decide +kernel)), (tb_mem (t_in5 (List.mem_of_getElem? (i := 5) (by decide +kernel))) (by decide +kernel)), (tb_sel (q := (⟨"GapTellingsModel", "readsNeed", "(I)Z"⟩, 29)) (List.mem_of_getElem? (i := 17) (by decide +kernel)) (by decide +kernel)), (tb_mem (t_in1 (List.mem_of_getElem? (i := 16) (by decide +kernel))) (by decide +kernel)), (tb_mem (t_in5 (List.mem_of_getElem? (i := 6) (by decide +kernel))) (by decide +kernel)), ⟨by decide +kernel, by decide +kernel, by decide +kernel⟩⟩
theorem ivX8_121 : IV RX8 121 yX8_readsPicture cX8_readsPicture 5 (some .boolean) 1 := ⟨(tb_mem (t_in4 (List.mem_of_getElem? (i := 239) (by decide +kernel))) (by decide +kernel)), (tb_mem (t_in5 (List.mem_of_getElem? (i := 1) (by decide +kernel))) (by decide +kernel)), (tb_sel (q := (⟨"GapTellingsModel", "readsPicture", "(I)Z"⟩, 29)) (List.mem_of_getElem? (i := 16) (by decide +kernel)) (by decide +kernel)), (tb_mem (t_in1 (List.mem_of_getElem? (i := 16) (by decide +kernel))) (by decide +kernel)), (tb_mem (t_in5 (List.mem_of_getElem? (i := 2) (by decide +kernel))) (by decide +kernel)), ⟨by decide +kernel, by decide +kernel, by decide +kernel⟩⟩
theorem plX8_108 : PL RX8 108 8 9 .int := ⟨_, _, _, rfl, by decide, uwX8, Or.inl (tb_mem (t_in4 (List.mem_of_getElem? (i := 117) (by decide +kernel))) (by decide +kernel)), rfl, by decide +kernel, tyX8, tyX8_ok, nmX8⟩
set_option maxHeartbeats 4000000 in
set_option maxRecDepth 20000 in
theorem sgX8_readsItem_0 {κ : Kx} {K : Kont} {M : Mem} (C : Cx κ RX8 cX8_readsItem 4 (some .boolean) rmX8_readsItem domM) (x1 : Int) (x2 : Int)
    (h :
    ((x1 ≠ 102 →
      (((M 30 0 9) ≠ 0 →
        ((x1 = 115 →
          ((x1 ≠ 115 →
            ((x1 ≠ 103 →
              spX8_readsSound 2 x2 M (rI (fun r91 M91 =>
              (r91 = 0 ∨ r91 = 1) ∧ K (some r91) M91))) ∧
             (¬ (x1 ≠ 103) →
              spX8_readsSound 1 x2 M (rI (fun r91 M91 =>
              (r91 = 0 ∨ r91 = 1) ∧ K (some r91) M91))))) ∧
           (¬ (x1 ≠ 115) →
            spX8_readsSound 0 x2 M (rI (fun r91 M91 =>
            (r91 = 0 ∨ r91 = 1) ∧ K (some r91) M91))))) ∧
         (¬ (x1 = 115) →
          ((x1 = 103 →
            ((x1 ≠ 115 →
              ((x1 ≠ 103 →
                spX8_readsSound 2 x2 M (rI (fun r91 M91 =>
                (r91 = 0 ∨ r91 = 1) ∧ K (some r91) M91))) ∧
               (¬ (x1 ≠ 103) →
                spX8_readsSound 1 x2 M (rI (fun r91 M91 =>
                (r91 = 0 ∨ r91 = 1) ∧ K (some r91) M91))))) ∧
             (¬ (x1 ≠ 115) →
              spX8_readsSound 0 x2 M (rI (fun r91 M91 =>
              (r91 = 0 ∨ r91 = 1) ∧ K (some r91) M91))))) ∧
           (¬ (x1 = 103) →
            ((x1 ≠ 110 →
              ((x1 ≠ 112 →
                ((x1 ≠ 99 →
                  ((x1 ≠ 98 →
                    ∀ M148 : Mem, M148 = up3 M 30 0 10 (M 30 0 27) →
                    K (some 0) M148) ∧
                   (¬ (x1 ≠ 98) →
                    spX8_number x2 2 0 9 M (rI (fun r131 M131 =>
                    ((r131 = 0 →
                      ∀ M148 : Mem, M148 = up3 M131 30 0 10 (M131 30 0 27) →
                      K (some 0) M148) ∧
                     (¬ (r131 = 0) →
                      ∀ M148 : Mem, M148 = up3 M131 30 0 10 (M131 30 0 27) →
                      K (some 1) M148))))))) ∧
                 (¬ (x1 ≠ 99) →
                  spX8_readsNeed x2 M (rI (fun r115 M115 =>
                  (r115 = 0 ∨ r115 = 1) ∧ K (some r115) M115))))) ∧
               (¬ (x1 ≠ 112) →
                spX8_readsPicture x2 M (rI (fun r103 M103 =>
                (r103 = 0 ∨ r103 = 1) ∧ K (some r103) M103))))) ∧
             (¬ (x1 ≠ 110) →
              ((x1 ≠ 115 →
                ((x1 ≠ 103 →
                  spX8_readsSound 2 x2 M (rI (fun r91 M91 =>
                  (r91 = 0 ∨ r91 = 1) ∧ K (some r91) M91))) ∧
                 (¬ (x1 ≠ 103) →
                  spX8_readsSound 1 x2 M (rI (fun r91 M91 =>
                  (r91 = 0 ∨ r91 = 1) ∧ K (some r91) M91))))) ∧
               (¬ (x1 ≠ 115) →
                spX8_readsSound 0 x2 M (rI (fun r91 M91 =>
                (r91 = 0 ∨ r91 = 1) ∧ K (some r91) M91))))))))))) ∧
       (¬ ((M 30 0 9) ≠ 0) →
        K (some 0) M))) ∧
     (¬ (x1 ≠ 102) →
      (((M 30 0 9) ≠ 0 →
        ∀ M36 : Mem, M36 = up3 M 30 0 9 (M 30 0 27) →
        K (some 0) M36) ∧
       (¬ ((M 30 0 9) ≠ 0) →
        spX8_number x2 3 1 100 M (rI (fun r19 M19 =>
        ((r19 = 0 →
          ∀ M36 : Mem, M36 = up3 M19 30 0 9 (M19 30 0 27) →
          K (some 0) M36) ∧
         (¬ (r19 = 0) →
          ∀ M36 : Mem, M36 = up3 M19 30 0 9 (M19 30 0 27) →
          K (some 1) M36))))))))) : V κ 4 M 0 [some (.inr (30, 0)), some (.inl x1), some (.inl x2), none] [] K := by
  refine v_iload_n C dX8_readsItem_0 rfl ?_
  refine v_bipush C dX8_readsItem_1 (by decide) (by decide) ?_
  refine v_icmp C dX8_readsItem_3 (tgt := 41) (by decide) (P := x1 ≠ 102) rfl (fun c3 => ?_) (fun c3 => ?_)
  · replace h := h.1 c3
    refine v_aload_n C dX8_readsItem_41 rfl ?_
    refine v_get C dX8_readsItem_42 flX8_108 rfl (by decide) (by decide) (w := .inl (M 30 0 9)) rfl ?_
    refine v_if C dX8_readsItem_45 (tgt := 50) (by decide) (P := (M 30 0 9) ≠ 0) rfl (fun c45 => ?_) (fun c45 => ?_)
    · replace h := h.1 c45
      refine v_iload_n C dX8_readsItem_50 rfl ?_
      refine v_bipush C dX8_readsItem_51 (by decide) (by decide) ?_
      refine v_icmp C dX8_readsItem_53 (tgt := 68) (by decide) (P := x1 = 115) rfl (fun c53 => ?_) (fun c53 => ?_)
      · replace h := h.1 c53
        refine v_aload_n C dX8_readsItem_68 rfl ?_
        refine v_iload_n C dX8_readsItem_69 rfl ?_
        refine v_bipush C dX8_readsItem_70 (by decide) (by decide) ?_
        refine v_icmp C dX8_readsItem_72 (tgt := 79) (by decide) (P := x1 ≠ 115) rfl (fun c72 => ?_) (fun c72 => ?_)
        · replace h := h.1 c72
          refine v_iload_n C dX8_readsItem_79 rfl ?_
          refine v_bipush C dX8_readsItem_80 (by decide) (by decide) ?_
          refine v_icmp C dX8_readsItem_82 (tgt := 89) (by decide) (P := x1 ≠ 103) rfl (fun c82 => ?_) (fun c82 => ?_)
          · replace h := h.1 c82
            refine v_iconst C dX8_readsItem_89 (by decide) ?_
            refine v_iload_n C dX8_readsItem_90 rfl ?_
            refine v_invV C ctX8_readsSound dX8_readsItem_91 ivX8_117 ⟨by decide, by decide, rfl, rfl⟩ ((2, x2) : Int × Int) (As := [.inl 2, .inl x2]) rfl rfl rfl (by decide) rfl (st := []) rfl (Nat.le_of_ble_eq_true rfl) h (fun o M91 oM91 io91 g91 => ?_)
            replace h := rI_out g91
            clear g91
            obtain ⟨r91, rfl, h⟩ := h
            refine v_push ?_
            exact v_zret C dX8_readsItem_94 h.1 h.2
          · replace h := h.2 c82
            refine v_iconst C dX8_readsItem_85 (by decide) ?_
            refine v_goto C dX8_readsItem_86 (tgt := 90) (by decide) ?_
            refine v_iload_n C dX8_readsItem_90 rfl ?_
            refine v_invV C ctX8_readsSound dX8_readsItem_91 ivX8_117 ⟨by decide, by decide, rfl, rfl⟩ ((1, x2) : Int × Int) (As := [.inl 1, .inl x2]) rfl rfl rfl (by decide) rfl (st := []) rfl (Nat.le_of_ble_eq_true rfl) h (fun o M91 oM91 io91 g91 => ?_)
            replace h := rI_out g91
            clear g91
            obtain ⟨r91, rfl, h⟩ := h
            refine v_push ?_
            exact v_zret C dX8_readsItem_94 h.1 h.2
        · replace h := h.2 c72
          refine v_iconst C dX8_readsItem_75 (by decide) ?_
          refine v_goto C dX8_readsItem_76 (tgt := 90) (by decide) ?_
          refine v_iload_n C dX8_readsItem_90 rfl ?_
          refine v_invV C ctX8_readsSound dX8_readsItem_91 ivX8_117 ⟨by decide, by decide, rfl, rfl⟩ ((0, x2) : Int × Int) (As := [.inl 0, .inl x2]) rfl rfl rfl (by decide) rfl (st := []) rfl (Nat.le_of_ble_eq_true rfl) h (fun o M91 oM91 io91 g91 => ?_)
          replace h := rI_out g91
          clear g91
          obtain ⟨r91, rfl, h⟩ := h
          refine v_push ?_
          exact v_zret C dX8_readsItem_94 h.1 h.2
      · replace h := h.2 c53
        refine v_iload_n C dX8_readsItem_56 rfl ?_
        refine v_bipush C dX8_readsItem_57 (by decide) (by decide) ?_
        refine v_icmp C dX8_readsItem_59 (tgt := 68) (by decide) (P := x1 = 103) rfl (fun c59 => ?_) (fun c59 => ?_)
        · replace h := h.1 c59
          refine v_aload_n C dX8_readsItem_68 rfl ?_
          refine v_iload_n C dX8_readsItem_69 rfl ?_
          refine v_bipush C dX8_readsItem_70 (by decide) (by decide) ?_
          refine v_icmp C dX8_readsItem_72 (tgt := 79) (by decide) (P := x1 ≠ 115) rfl (fun c72 => ?_) (fun c72 => ?_)
          · replace h := h.1 c72
            refine v_iload_n C dX8_readsItem_79 rfl ?_
            refine v_bipush C dX8_readsItem_80 (by decide) (by decide) ?_
            refine v_icmp C dX8_readsItem_82 (tgt := 89) (by decide) (P := x1 ≠ 103) rfl (fun c82 => ?_) (fun c82 => ?_)
            · replace h := h.1 c82
              refine v_iconst C dX8_readsItem_89 (by decide) ?_
              refine v_iload_n C dX8_readsItem_90 rfl ?_
              refine v_invV C ctX8_readsSound dX8_readsItem_91 ivX8_117 ⟨by decide, by decide, rfl, rfl⟩ ((2, x2) : Int × Int) (As := [.inl 2, .inl x2]) rfl rfl rfl (by decide) rfl (st := []) rfl (Nat.le_of_ble_eq_true rfl) h (fun o M91 oM91 io91 g91 => ?_)
              replace h := rI_out g91
              clear g91
              obtain ⟨r91, rfl, h⟩ := h
              refine v_push ?_
              exact v_zret C dX8_readsItem_94 h.1 h.2
            · replace h := h.2 c82
              refine v_iconst C dX8_readsItem_85 (by decide) ?_
              refine v_goto C dX8_readsItem_86 (tgt := 90) (by decide) ?_
              refine v_iload_n C dX8_readsItem_90 rfl ?_
              refine v_invV C ctX8_readsSound dX8_readsItem_91 ivX8_117 ⟨by decide, by decide, rfl, rfl⟩ ((1, x2) : Int × Int) (As := [.inl 1, .inl x2]) rfl rfl rfl (by decide) rfl (st := []) rfl (Nat.le_of_ble_eq_true rfl) h (fun o M91 oM91 io91 g91 => ?_)
              replace h := rI_out g91
              clear g91
              obtain ⟨r91, rfl, h⟩ := h
              refine v_push ?_
              exact v_zret C dX8_readsItem_94 h.1 h.2
          · replace h := h.2 c72
            refine v_iconst C dX8_readsItem_75 (by decide) ?_
            refine v_goto C dX8_readsItem_76 (tgt := 90) (by decide) ?_
            refine v_iload_n C dX8_readsItem_90 rfl ?_
            refine v_invV C ctX8_readsSound dX8_readsItem_91 ivX8_117 ⟨by decide, by decide, rfl, rfl⟩ ((0, x2) : Int × Int) (As := [.inl 0, .inl x2]) rfl rfl rfl (by decide) rfl (st := []) rfl (Nat.le_of_ble_eq_true rfl) h (fun o M91 oM91 io91 g91 => ?_)
            replace h := rI_out g91
            clear g91
            obtain ⟨r91, rfl, h⟩ := h
            refine v_push ?_
            exact v_zret C dX8_readsItem_94 h.1 h.2
        · replace h := h.2 c59
          refine v_iload_n C dX8_readsItem_62 rfl ?_
          refine v_bipush C dX8_readsItem_63 (by decide) (by decide) ?_
          refine v_icmp C dX8_readsItem_65 (tgt := 95) (by decide) (P := x1 ≠ 110) rfl (fun c65 => ?_) (fun c65 => ?_)
          · replace h := h.1 c65
            refine v_iload_n C dX8_readsItem_95 rfl ?_
            refine v_bipush C dX8_readsItem_96 (by decide) (by decide) ?_
            refine v_icmp C dX8_readsItem_98 (tgt := 107) (by decide) (P := x1 ≠ 112) rfl (fun c98 => ?_) (fun c98 => ?_)
            · replace h := h.1 c98
              refine v_iload_n C dX8_readsItem_107 rfl ?_
              refine v_bipush C dX8_readsItem_108 (by decide) (by decide) ?_
              refine v_icmp C dX8_readsItem_110 (tgt := 119) (by decide) (P := x1 ≠ 99) rfl (fun c110 => ?_) (fun c110 => ?_)
              · replace h := h.1 c110
                refine v_iload_n C dX8_readsItem_119 rfl ?_
                refine v_bipush C dX8_readsItem_120 (by decide) (by decide) ?_
                refine v_icmp C dX8_readsItem_122 (tgt := 141) (by decide) (P := x1 ≠ 98) rfl (fun c122 => ?_) (fun c122 => ?_)
                · replace h := h.1 c122
                  refine v_iconst C dX8_readsItem_141 (by decide) ?_
                  refine v_istore_n C dX8_readsItem_142 (by decide) (Nat.le_of_ble_eq_true rfl) (lv' := [some (.inr (30, 0)), some (.inl x1), some (.inl x2), some (.inl 0)]) rfl ?_
                  refine v_aload_n C dX8_readsItem_143 rfl ?_
                  refine v_aload_n C dX8_readsItem_144 rfl ?_
                  refine v_get C dX8_readsItem_145 flX8_87 rfl (by decide) (by decide) (w := .inl (M 30 0 27)) rfl ?_
                  refine v_put C dX8_readsItem_148 plX8_127 rfl (by decide) (by decide) rfl rfl rfl ?_
                  refine v_nmM (fun M148 eM148 => ?_)
                  replace h := h M148 eM148
                  refine v_iload_n C dX8_readsItem_151 rfl ?_
                  exact v_zret C dX8_readsItem_152 (by decide) h
                · replace h := h.2 c122
                  refine v_aload_n C dX8_readsItem_125 rfl ?_
                  refine v_iload_n C dX8_readsItem_126 rfl ?_
                  refine v_iconst C dX8_readsItem_127 (by decide) ?_
                  refine v_iconst C dX8_readsItem_128 (by decide) ?_
                  refine v_bipush C dX8_readsItem_129 (by decide) (by decide) ?_
                  refine v_invV C ctX8_number dX8_readsItem_131 ivX8_101 ⟨by decide, by decide, rfl, rfl⟩ ((x2, 2, 0, 9) : Int × Int × Int × Int) (As := [.inl x2, .inl 2, .inl 0, .inl 9]) rfl rfl rfl (by decide) rfl (st := []) rfl (Nat.le_of_ble_eq_true rfl) h (fun o M131 oM131 io131 g131 => ?_)
                  replace h := rI_out g131
                  clear g131
                  obtain ⟨r131, rfl, h⟩ := h
                  refine v_push ?_
                  refine v_if C dX8_readsItem_134 (tgt := 141) (by decide) (P := r131 = 0) rfl (fun c134 => ?_) (fun c134 => ?_)
                  · replace h := h.1 c134
                    refine v_iconst C dX8_readsItem_141 (by decide) ?_
                    refine v_istore_n C dX8_readsItem_142 (by decide) (Nat.le_of_ble_eq_true rfl) (lv' := [some (.inr (30, 0)), some (.inl x1), some (.inl x2), some (.inl 0)]) rfl ?_
                    refine v_aload_n C dX8_readsItem_143 rfl ?_
                    refine v_aload_n C dX8_readsItem_144 rfl ?_
                    refine v_get C dX8_readsItem_145 flX8_87 rfl (by decide) (by decide) (w := .inl (M131 30 0 27)) rfl ?_
                    refine v_put C dX8_readsItem_148 plX8_127 rfl (by decide) (by decide) rfl rfl rfl ?_
                    refine v_nmM (fun M148 eM148 => ?_)
                    replace h := h M148 eM148
                    refine v_iload_n C dX8_readsItem_151 rfl ?_
                    exact v_zret C dX8_readsItem_152 (by decide) h
                  · replace h := h.2 c134
                    refine v_iconst C dX8_readsItem_137 (by decide) ?_
                    refine v_goto C dX8_readsItem_138 (tgt := 142) (by decide) ?_
                    refine v_istore_n C dX8_readsItem_142 (by decide) (Nat.le_of_ble_eq_true rfl) (lv' := [some (.inr (30, 0)), some (.inl x1), some (.inl x2), some (.inl 1)]) rfl ?_
                    refine v_aload_n C dX8_readsItem_143 rfl ?_
                    refine v_aload_n C dX8_readsItem_144 rfl ?_
                    refine v_get C dX8_readsItem_145 flX8_87 rfl (by decide) (by decide) (w := .inl (M131 30 0 27)) rfl ?_
                    refine v_put C dX8_readsItem_148 plX8_127 rfl (by decide) (by decide) rfl rfl rfl ?_
                    refine v_nmM (fun M148 eM148 => ?_)
                    replace h := h M148 eM148
                    refine v_iload_n C dX8_readsItem_151 rfl ?_
                    exact v_zret C dX8_readsItem_152 (by decide) h
              · replace h := h.2 c110
                refine v_aload_n C dX8_readsItem_113 rfl ?_
                refine v_iload_n C dX8_readsItem_114 rfl ?_
                refine v_invV C ctX8_readsNeed dX8_readsItem_115 ivX8_124 ⟨by decide, by decide, rfl, rfl⟩ (x2 : Int) (As := [.inl x2]) rfl rfl rfl (by decide) rfl (st := []) rfl (Nat.le_of_ble_eq_true rfl) h (fun o M115 oM115 io115 g115 => ?_)
                replace h := rI_out g115
                clear g115
                obtain ⟨r115, rfl, h⟩ := h
                refine v_push ?_
                exact v_zret C dX8_readsItem_118 h.1 h.2
            · replace h := h.2 c98
              refine v_aload_n C dX8_readsItem_101 rfl ?_
              refine v_iload_n C dX8_readsItem_102 rfl ?_
              refine v_invV C ctX8_readsPicture dX8_readsItem_103 ivX8_121 ⟨by decide, by decide, rfl, rfl⟩ (x2 : Int) (As := [.inl x2]) rfl rfl rfl (by decide) rfl (st := []) rfl (Nat.le_of_ble_eq_true rfl) h (fun o M103 oM103 io103 g103 => ?_)
              replace h := rI_out g103
              clear g103
              obtain ⟨r103, rfl, h⟩ := h
              refine v_push ?_
              exact v_zret C dX8_readsItem_106 h.1 h.2
          · replace h := h.2 c65
            refine v_aload_n C dX8_readsItem_68 rfl ?_
            refine v_iload_n C dX8_readsItem_69 rfl ?_
            refine v_bipush C dX8_readsItem_70 (by decide) (by decide) ?_
            refine v_icmp C dX8_readsItem_72 (tgt := 79) (by decide) (P := x1 ≠ 115) rfl (fun c72 => ?_) (fun c72 => ?_)
            · replace h := h.1 c72
              refine v_iload_n C dX8_readsItem_79 rfl ?_
              refine v_bipush C dX8_readsItem_80 (by decide) (by decide) ?_
              refine v_icmp C dX8_readsItem_82 (tgt := 89) (by decide) (P := x1 ≠ 103) rfl (fun c82 => ?_) (fun c82 => ?_)
              · replace h := h.1 c82
                refine v_iconst C dX8_readsItem_89 (by decide) ?_
                refine v_iload_n C dX8_readsItem_90 rfl ?_
                refine v_invV C ctX8_readsSound dX8_readsItem_91 ivX8_117 ⟨by decide, by decide, rfl, rfl⟩ ((2, x2) : Int × Int) (As := [.inl 2, .inl x2]) rfl rfl rfl (by decide) rfl (st := []) rfl (Nat.le_of_ble_eq_true rfl) h (fun o M91 oM91 io91 g91 => ?_)
                replace h := rI_out g91
                clear g91
                obtain ⟨r91, rfl, h⟩ := h
                refine v_push ?_
                exact v_zret C dX8_readsItem_94 h.1 h.2
              · replace h := h.2 c82
                refine v_iconst C dX8_readsItem_85 (by decide) ?_
                refine v_goto C dX8_readsItem_86 (tgt := 90) (by decide) ?_
                refine v_iload_n C dX8_readsItem_90 rfl ?_
                refine v_invV C ctX8_readsSound dX8_readsItem_91 ivX8_117 ⟨by decide, by decide, rfl, rfl⟩ ((1, x2) : Int × Int) (As := [.inl 1, .inl x2]) rfl rfl rfl (by decide) rfl (st := []) rfl (Nat.le_of_ble_eq_true rfl) h (fun o M91 oM91 io91 g91 => ?_)
                replace h := rI_out g91
                clear g91
                obtain ⟨r91, rfl, h⟩ := h
                refine v_push ?_
                exact v_zret C dX8_readsItem_94 h.1 h.2
            · replace h := h.2 c72
              refine v_iconst C dX8_readsItem_75 (by decide) ?_
              refine v_goto C dX8_readsItem_76 (tgt := 90) (by decide) ?_
              refine v_iload_n C dX8_readsItem_90 rfl ?_
              refine v_invV C ctX8_readsSound dX8_readsItem_91 ivX8_117 ⟨by decide, by decide, rfl, rfl⟩ ((0, x2) : Int × Int) (As := [.inl 0, .inl x2]) rfl rfl rfl (by decide) rfl (st := []) rfl (Nat.le_of_ble_eq_true rfl) h (fun o M91 oM91 io91 g91 => ?_)
              replace h := rI_out g91
              clear g91
              obtain ⟨r91, rfl, h⟩ := h
              refine v_push ?_
              exact v_zret C dX8_readsItem_94 h.1 h.2
    · replace h := h.2 c45
      refine v_iconst C dX8_readsItem_48 (by decide) ?_
      exact v_zret C dX8_readsItem_49 (by decide) h
  · replace h := h.2 c3
    refine v_aload_n C dX8_readsItem_6 rfl ?_
    refine v_get C dX8_readsItem_7 flX8_108 rfl (by decide) (by decide) (w := .inl (M 30 0 9)) rfl ?_
    refine v_if C dX8_readsItem_10 (tgt := 29) (by decide) (P := (M 30 0 9) ≠ 0) rfl (fun c10 => ?_) (fun c10 => ?_)
    · replace h := h.1 c10
      refine v_iconst C dX8_readsItem_29 (by decide) ?_
      refine v_istore_n C dX8_readsItem_30 (by decide) (Nat.le_of_ble_eq_true rfl) (lv' := [some (.inr (30, 0)), some (.inl x1), some (.inl x2), some (.inl 0)]) rfl ?_
      refine v_aload_n C dX8_readsItem_31 rfl ?_
      refine v_aload_n C dX8_readsItem_32 rfl ?_
      refine v_get C dX8_readsItem_33 flX8_87 rfl (by decide) (by decide) (w := .inl (M 30 0 27)) rfl ?_
      refine v_put C dX8_readsItem_36 plX8_108 rfl (by decide) (by decide) rfl rfl rfl ?_
      refine v_nmM (fun M36 eM36 => ?_)
      replace h := h M36 eM36
      refine v_iload_n C dX8_readsItem_39 rfl ?_
      exact v_zret C dX8_readsItem_40 (by decide) h
    · replace h := h.2 c10
      refine v_aload_n C dX8_readsItem_13 rfl ?_
      refine v_iload_n C dX8_readsItem_14 rfl ?_
      refine v_iconst C dX8_readsItem_15 (by decide) ?_
      refine v_iconst C dX8_readsItem_16 (by decide) ?_
      refine v_bipush C dX8_readsItem_17 (by decide) (by decide) ?_
      refine v_invV C ctX8_number dX8_readsItem_19 ivX8_101 ⟨by decide, by decide, rfl, rfl⟩ ((x2, 3, 1, 100) : Int × Int × Int × Int) (As := [.inl x2, .inl 3, .inl 1, .inl 100]) rfl rfl rfl (by decide) rfl (st := []) rfl (Nat.le_of_ble_eq_true rfl) h (fun o M19 oM19 io19 g19 => ?_)
      replace h := rI_out g19
      clear g19
      obtain ⟨r19, rfl, h⟩ := h
      refine v_push ?_
      refine v_if C dX8_readsItem_22 (tgt := 29) (by decide) (P := r19 = 0) rfl (fun c22 => ?_) (fun c22 => ?_)
      · replace h := h.1 c22
        refine v_iconst C dX8_readsItem_29 (by decide) ?_
        refine v_istore_n C dX8_readsItem_30 (by decide) (Nat.le_of_ble_eq_true rfl) (lv' := [some (.inr (30, 0)), some (.inl x1), some (.inl x2), some (.inl 0)]) rfl ?_
        refine v_aload_n C dX8_readsItem_31 rfl ?_
        refine v_aload_n C dX8_readsItem_32 rfl ?_
        refine v_get C dX8_readsItem_33 flX8_87 rfl (by decide) (by decide) (w := .inl (M19 30 0 27)) rfl ?_
        refine v_put C dX8_readsItem_36 plX8_108 rfl (by decide) (by decide) rfl rfl rfl ?_
        refine v_nmM (fun M36 eM36 => ?_)
        replace h := h M36 eM36
        refine v_iload_n C dX8_readsItem_39 rfl ?_
        exact v_zret C dX8_readsItem_40 (by decide) h
      · replace h := h.2 c22
        refine v_iconst C dX8_readsItem_25 (by decide) ?_
        refine v_goto C dX8_readsItem_26 (tgt := 30) (by decide) ?_
        refine v_istore_n C dX8_readsItem_30 (by decide) (Nat.le_of_ble_eq_true rfl) (lv' := [some (.inr (30, 0)), some (.inl x1), some (.inl x2), some (.inl 1)]) rfl ?_
        refine v_aload_n C dX8_readsItem_31 rfl ?_
        refine v_aload_n C dX8_readsItem_32 rfl ?_
        refine v_get C dX8_readsItem_33 flX8_87 rfl (by decide) (by decide) (w := .inl (M19 30 0 27)) rfl ?_
        refine v_put C dX8_readsItem_36 plX8_108 rfl (by decide) (by decide) rfl rfl rfl ?_
        refine v_nmM (fun M36 eM36 => ?_)
        replace h := h M36 eM36
        refine v_iload_n C dX8_readsItem_39 rfl ?_
        exact v_zret C dX8_readsItem_40 (by decide) h
abbrev spX8_readsItem (x p : Int) (M : Mem) (K : Kont) : Prop := RdP M p ∧ RdQ M p (itS (rFilm M) x) K
theorem ctX8_readsItem : CtX8_readsItem spX8_readsItem := by
  refine ct_of (by decide) dmM (fun _ => Nat.le_of_ble_eq_true rfl) ?_
  intro κ a M K C oM h
  obtain ⟨x, p⟩ := a
  dsimp only [spX8_readsItem] at h
  obtain ⟨hP, hk⟩ := h
  obtain ⟨hp, hL, hf⟩ := id hP
  have e0 : rFilm M 0 0 0 = M 30 0 9 := rfl
  have iF : x = 102 → itS (rFilm M) x = itF (rFilm M) := fun z => by funext l; unfold itS; rw [if_pos z]
  have i0 : x ≠ 102 → M 30 0 9 = 0 → ∀ l, itS (rFilm M) x l = none := fun z z2 l => by unfold itS; rw [if_neg z, if_pos (by rw [e0]; exact z2)]
  have iO : x ≠ 102 → M 30 0 9 ≠ 0 → (x = 115 ∨ x = 103 ∨ x = 110) → itS (rFilm M) x = itO (rFilm M) (knd x) := fun z z2 z3 => by funext l; unfold itS; rw [if_neg z, if_neg (by rw [e0]; exact z2), if_pos z3]
  have iP : x ≠ 102 → M 30 0 9 ≠ 0 → x = 112 → itS (rFilm M) x = itP (rFilm M) := fun z z2 z3 => by funext l; unfold itS; rw [if_neg z, if_neg (by rw [e0]; exact z2), if_neg (by omega), if_pos z3]
  have iN : x ≠ 102 → M 30 0 9 ≠ 0 → x = 99 → itS (rFilm M) x = itN (rFilm M) := fun z z2 z3 => by funext l; unfold itS; rw [if_neg z, if_neg (by rw [e0]; exact z2), if_neg (by omega), if_neg (by omega), if_pos z3]
  have iB : x ≠ 102 → M 30 0 9 ≠ 0 → x = 98 → itS (rFilm M) x = itB (rFilm M) := fun z z2 z3 => by funext l; unfold itS; rw [if_neg z, if_neg (by rw [e0]; exact z2), if_neg (by omega), if_neg (by omega), if_neg (by omega), if_pos z3]
  have iX : x ≠ 102 → M 30 0 9 ≠ 0 → ¬ (x = 115 ∨ x = 103 ∨ x = 110) → x ≠ 112 → x ≠ 99 → x ≠ 98 → ∀ l, itS (rFilm M) x l = none := fun z z2 z3 z4 z5 z6 l => by unfold itS; rw [if_neg z, if_neg (by rw [e0]; exact z2), if_neg z3, if_neg z4, if_neg z5, if_neg z6]
  have uA : ∀ (N : Mem) (j v : Int), (j = 9 ∨ j = 10) → AgI M N → AgI M (up3 N 30 0 j v) := fun N j v hj hA => hA.tr (fun r i j' hn => if_neg (fun z => by omega))
  have S2 : x ≠ 102 → M 30 0 9 ≠ 0 → (x = 115 ∨ x = 103 ∨ x = 110) → ∀ k, k = knd x → spX8_readsSound k p M (rI (fun r91 M91 => (r91 = 0 ∨ r91 = 1) ∧ K (some r91) M91)) := by
    intro z z2 z3 k ek
    rw [iO z z2 z3] at hk
    rw [ek]
    exact ⟨hP, hk.z⟩
  have k0 : x = 115 → knd x = 0 := fun z => if_pos z
  have k1 : x = 103 → knd x = 1 := fun z => by unfold knd; rw [if_neg (by omega), if_pos z]
  have k2 : x = 110 → knd x = 2 := fun z => by unfold knd; rw [if_neg (by omega), if_neg (by omega)]
  have hc3 := dgc_rng (M 31 0) (M 30 0 0) 3 p
  have hc2 := dgc_rng (M 31 0) (M 30 0 0) 2 p
  have hv2 := dgv_rng (M 31 0) (M 30 0 0) 2 p 0 0 (by omega) (by omega)
  refine sgX8_readsItem_0 C x p ⟨fun c => ⟨fun c2 => ⟨fun c3 => ⟨fun z => absurd c3 z, fun _ => S2 c c2 (by omega) 0 (k0 c3).symm⟩, fun c3 => ⟨fun c4 => ⟨fun _ => ⟨fun z => absurd c4 z, fun _ => S2 c c2 (by omega) 1 (k1 c4).symm⟩, fun z => absurd c3 (fun _ => z c3)⟩, fun c4 => ⟨fun c5 => ⟨fun c6 => ⟨fun c7 => ⟨fun c8 N e => hk.no (by rw [e]; exact uA M 10 _ (Or.inr rfl) AgI.rf) (fun ⟨l, e, a, b, d⟩ => d (iX c c2 (by omega) c6 c7 c8 l)), fun c8 => ?_⟩, fun c7 => ?_⟩, fun c6 => ?_⟩, fun c5 => ⟨fun _ => ⟨fun _ => S2 c c2 (by omega) 2 (k2 (by omega)).symm, fun z => absurd c4 (fun _ => z c4)⟩, fun z => absurd c3 (fun _ => z c3)⟩⟩⟩⟩, fun c2 => hk.no AgI.rf (fun ⟨l, e, a, b, d⟩ => d (i0 c (by omega) l))⟩, fun c => ⟨fun c2 N e => hk.no (by rw [e]; exact uA M 9 _ (Or.inl rfl) AgI.rf) (fun ⟨l, e, a, b, d⟩ => ?_), fun c2 => ?_⟩⟩
  · -- b
    rw [iB c c2 (by omega)] at hk
    have itn : ∀ l, itB (rFilm M) l ≠ none → l.length = 1 ∧ shortB l = true ∧ aN l 0 ≤ 9 := by
      intro l hl
      unfold itB at hl
      split at hl
      · rename_i c; exact c
      · exact absurd rfl hl
    refine num_ok (M := M) (k := 2) AgI.rf hL (by omega) rfl hp (fun N hA hv he => ⟨fun c3 => ?_, fun c3 => ?_⟩)
    · refine ⟨fun z => absurd z (by decide), fun _ N1 e1 => ?_⟩
      have pt := PT_one (X := M 31 0) (L := M 30 0 0) (p := p) c3.1
      have v30 : ∀ j, N1 30 0 j = if j = 10 then dgv (M 31 0) (M 30 0 0) 2 p 0 else N 30 0 j := by
        intro j
        rw [e1]
        by_cases z : j = 10
        · rw [if_pos z, z, up3_s, hv]
        · rw [if_neg z, up3_j _ _ _ _ _ z]
      have v28 : N1 30 0 28 = p + dgc (M 31 0) (M 30 0 0) 2 p := by rw [v30, if_neg (by decide), he]
      refine hk 1 N1 (Or.inr rfl) (by rw [e1]; exact uA N 10 _ (Or.inr rfl) hA.b) (fun _ => by omega) (fun _ h59 => ?_) (fun ⟨l, e, ht, h9, hi⟩ => ⟨rfl, ?_⟩)
      · rw [v28] at h59 ⊢
        have tk := PT_tk _ _ _ pt h59
        refine ⟨_, sFB (rFilm M) (dgv (M 31 0) (M 30 0 0) 2 p 0), tk.1, by simp, ?_, ?_⟩
        · unfold itB
          rw [if_pos ⟨rfl, short_mem.mpr tk.2, c3.2.2⟩]
          rfl
        · have o30 : ∀ j, j ≠ 10 → j ≠ 27 → j ≠ 28 → N1 30 0 j = M 30 0 j := fun j a b d => by rw [v30, if_neg a]; exact hA 30 0 j (by omega)
          have o42 : ∀ r, r ≠ 30 → N1 r = M r := fun r hr => by funext i j; rw [e1, up3_r _ _ _ _ _ hr]; exact hA r i j (by omega)
          have g10 : N1 30 0 10 = dgv (M 31 0) (M 30 0 0) 2 p 0 := by rw [v30, if_pos rfl]
          refine ⟨by simp [sFB, rFilm, o30 9], by simp [sFB, rFilm, g10], by simp [sFB, rFilm, o30 11], by simp [sFB, rFilm, o30 13], fun w a b => by simp [sFB, rFilm], fun s a b => by simp [sFB, rFilm, o42 42], fun q a b => by simp [sFB, rFilm, o42 44]⟩
      · rw [v28]
        have c := itn l hi
        exact (acc_end ht (short_mem.mp c.2.1) pt (by rw [c.1]; rfl)).1
    · refine ⟨fun _ N1 e1 => hk.no (by rw [e1]; exact uA N 10 _ (Or.inr rfl) hA.b) (fun ⟨l, e, ht, h9, hi⟩ => ?_), fun z => absurd rfl z⟩
      have c := itn l hi
      have f := acc_first ht ((short_iff l).mp c.2.1 0 (by omega))
      exact c3 ⟨f.1, hv2.1, by omega⟩
  · -- c
    rw [iN c c2 (by omega)] at hk
    exact ⟨hP, hk.z⟩
  · -- p
    rw [iP c c2 (by omega)] at hk
    exact ⟨hP, hk.z⟩
  · -- f, but there is a film
    rw [iF (by omega)] at d
    unfold itF at d
    rw [if_neg (fun z => c2 z.1)] at d
    exact d rfl
  · -- f
    rw [iF (by omega)] at hk
    have itn : ∀ l, itF (rFilm M) l ≠ none → l.length = 1 ∧ 1 ≤ aN l 0 ∧ aN l 0 ≤ 100 := by
      intro l hl
      unfold itF at hl
      split at hl
      · rename_i c; exact c.2
      · exact absurd rfl hl
    refine num_ok (M := M) (k := 3) AgI.rf hL (by omega) rfl hp (fun N hA hv he => ⟨fun c3 => ?_, fun c3 => ?_⟩)
    · refine ⟨fun z => absurd z (by decide), fun _ N1 e1 => ?_⟩
      have v30 : ∀ j, N1 30 0 j = if j = 9 then dgv (M 31 0) (M 30 0 0) 3 p 0 else N 30 0 j := by
        intro j
        rw [e1]
        by_cases z : j = 9
        · rw [if_pos z, z, up3_s, hv]
        · rw [if_neg z, up3_j _ _ _ _ _ z]
      have v28 : N1 30 0 28 = p + dgc (M 31 0) (M 30 0 0) 3 p := by rw [v30, if_neg (by decide), he]
      refine hk 1 N1 (Or.inr rfl) (by rw [e1]; exact uA N 9 _ (Or.inl rfl) hA.b) (fun _ => by omega) (fun _ h59 => ?_) (fun ⟨l, e, ht, h9, hi⟩ => ⟨rfl, ?_⟩)
      · rw [v28] at h59 ⊢
        refine ⟨[(dgv (M 31 0) (M 30 0 0) 3 p 0, dgc (M 31 0) (M 30 0 0) 3 p)], sFT (rFilm M) (dgv (M 31 0) (M 30 0 0) 3 p 0), ⟨rfl, c3.1, Or.inl ⟨rfl, h59, rfl⟩⟩, by simp, ?_, ?_⟩
        · unfold itF
          rw [if_pos ⟨by rw [e0]; omega, rfl, c3.2.1, c3.2.2⟩]
          rfl
        · have o30 : ∀ j, j ≠ 9 → j ≠ 27 → j ≠ 28 → N1 30 0 j = M 30 0 j := fun j a b d => by rw [v30, if_neg a]; exact hA 30 0 j (by omega)
          have o42 : ∀ r, r ≠ 30 → N1 r = M r := fun r hr => by funext i j; rw [e1, up3_r _ _ _ _ _ hr]; exact hA r i j (by omega)
          have g9 : N1 30 0 9 = dgv (M 31 0) (M 30 0 0) 3 p 0 := by rw [v30, if_pos rfl]
          refine ⟨by simp [sFT, rFilm, g9], by simp [sFT, rFilm, o30 10], by simp [sFT, rFilm, o30 11], by simp [sFT, rFilm, o30 13], fun w a b => by simp [sFT, rFilm], fun s a b => by simp [sFT, rFilm, o42 42], fun q a b => by simp [sFT, rFilm, o42 44]⟩
      · rw [v28]
        exact (acc_one3 ht (itn l hi).1).2.2
    · refine ⟨fun _ N1 e1 => hk.no (by rw [e1]; exact uA N 9 _ (Or.inl rfl) hA.b) (fun ⟨l, e, ht, h9, hi⟩ => ?_), fun z => absurd rfl z⟩
      have c := itn l hi
      have f := acc_one3 ht c.1
      exact c3 ⟨f.1, by omega, by omega⟩
/-! ===== GapTellingsModel.reads ===== -/
abbrev rmX8_reads : Room := { frames := 6, cells := 0, slots := 0, locals := 137 }
abbrev argX8_reads (a : Unit) : List PV := [.inr (30, 0)]
abbrev CtX8_reads (sp : Mem → Kont → Prop) : Prop := Ct yX8_reads cX8_reads 2 (some .int) rmX8_reads domM argX8_reads (fun _ => sp)
theorem dX8_reads_0 : decode cX8_reads 0 = .ok (.aload_n 0, 1) := by decide +kernel
theorem dX8_reads_1 : decode cX8_reads 1 = .ok (.iconst 0, 1) := by decide +kernel
theorem dX8_reads_2 : decode cX8_reads 2 = .ok (.putfield 108, 3) := by decide +kernel
theorem dX8_reads_5 : decode cX8_reads 5 = .ok (.aload_n 0, 1) := by decide +kernel
theorem dX8_reads_6 : decode cX8_reads 6 = .ok (.iconst 1, 1) := by decide +kernel
theorem dX8_reads_7 : decode cX8_reads 7 = .ok (.putfield 127, 3) := by decide +kernel
theorem dX8_reads_10 : decode cX8_reads 10 = .ok (.aload_n 0, 1) := by decide +kernel
theorem dX8_reads_11 : decode cX8_reads 11 = .ok (.iconst 0, 1) := by decide +kernel
theorem dX8_reads_12 : decode cX8_reads 12 = .ok (.putfield 105, 3) := by decide +kernel
theorem dX8_reads_15 : decode cX8_reads 15 = .ok (.aload_n 0, 1) := by decide +kernel
theorem dX8_reads_16 : decode cX8_reads 16 = .ok (.iconst 0, 1) := by decide +kernel
theorem dX8_reads_17 : decode cX8_reads 17 = .ok (.putfield 114, 3) := by decide +kernel
theorem dX8_reads_20 : decode cX8_reads 20 = .ok (.iconst 0, 1) := by decide +kernel
theorem dX8_reads_21 : decode cX8_reads 21 = .ok (.istore_n 1, 1) := by decide +kernel
theorem dX8_reads_22 : decode cX8_reads 22 = .ok (.iload_n 1, 1) := by decide +kernel
theorem dX8_reads_23 : decode cX8_reads 23 = .ok (.aload_n 0, 1) := by decide +kernel
theorem dX8_reads_24 : decode cX8_reads 24 = .ok (.getfield 80, 3) := by decide +kernel
theorem dX8_reads_27 : decode cX8_reads 27 = .ok (.if_icmp .ge 44, 3) := by decide +kernel
theorem dX8_reads_30 : decode cX8_reads 30 = .ok (.aload_n 0, 1) := by decide +kernel
theorem dX8_reads_31 : decode cX8_reads 31 = .ok (.aload_n 0, 1) := by decide +kernel
theorem dX8_reads_32 : decode cX8_reads 32 = .ok (.getfield 7, 3) := by decide +kernel
theorem dX8_reads_35 : decode cX8_reads 35 = .ok (.iload_n 1, 1) := by decide +kernel
theorem dX8_reads_36 : decode cX8_reads 36 = .ok (.iaload, 1) := by decide +kernel
theorem dX8_reads_37 : decode cX8_reads 37 = .ok (.iload_n 1, 1) := by decide +kernel
theorem dX8_reads_38 : decode cX8_reads 38 = .ok (.iconst 1, 1) := by decide +kernel
theorem dX8_reads_39 : decode cX8_reads 39 = .ok (.iadd, 1) := by decide +kernel
theorem dX8_reads_40 : decode cX8_reads 40 = .ok (.invokevirtual 130, 3) := by decide +kernel
theorem dX8_reads_43 : decode cX8_reads 43 = .ok (.ifCond .eq 16, 3) := by decide +kernel
theorem dX8_reads_46 : decode cX8_reads 46 = .ok (.aload_n 0, 1) := by decide +kernel
theorem dX8_reads_47 : decode cX8_reads 47 = .ok (.aload_n 0, 1) := by decide +kernel
theorem dX8_reads_48 : decode cX8_reads 48 = .ok (.getfield 94, 3) := by decide +kernel
theorem dX8_reads_51 : decode cX8_reads 51 = .ok (.invokevirtual 83, 3) := by decide +kernel
theorem dX8_reads_54 : decode cX8_reads 54 = .ok (.bipush 59, 2) := by decide +kernel
theorem dX8_reads_56 : decode cX8_reads 56 = .ok (.if_icmp .eq 5, 3) := by decide +kernel
theorem dX8_reads_59 : decode cX8_reads 59 = .ok (.iload_n 1, 1) := by decide +kernel
theorem dX8_reads_60 : decode cX8_reads 60 = .ok (.ireturn, 1) := by decide +kernel
theorem dX8_reads_61 : decode cX8_reads 61 = .ok (.aload_n 0, 1) := by decide +kernel
theorem dX8_reads_62 : decode cX8_reads 62 = .ok (.getfield 94, 3) := by decide +kernel
theorem dX8_reads_65 : decode cX8_reads 65 = .ok (.iconst 1, 1) := by decide +kernel
theorem dX8_reads_66 : decode cX8_reads 66 = .ok (.iadd, 1) := by decide +kernel
theorem dX8_reads_67 : decode cX8_reads 67 = .ok (.istore_n 1, 1) := by decide +kernel
theorem dX8_reads_68 : decode cX8_reads 68 = .ok (.goto (-46), 3) := by decide +kernel
theorem dX8_reads_71 : decode cX8_reads 71 = .ok (.bipush (-4), 2) := by decide +kernel
theorem dX8_reads_73 : decode cX8_reads 73 = .ok (.ireturn, 1) := by decide +kernel
theorem ivX8_130 : IV RX8 130 yX8_readsItem cX8_readsItem 4 (some .boolean) 2 := ⟨(tb_mem (t_in4 (List.mem_of_getElem? (i := 212) (by decide +kernel))) (by decide +kernel)), (tb_mem (t_in4 (List.mem_of_getElem? (i := 214) (by decide +kernel))) (by decide +kernel)), (tb_sel (q := (⟨"GapTellingsModel", "readsItem", "(II)Z"⟩, 29)) (List.mem_of_getElem? (i := 10) (by decide +kernel)) (by decide +kernel)), (tb_mem (t_in1 (List.mem_of_getElem? (i := 16) (by decide +kernel))) (by decide +kernel)), (tb_mem (t_in4 (List.mem_of_getElem? (i := 215) (by decide +kernel))) (by decide +kernel)), ⟨by decide +kernel, by decide +kernel, by decide +kernel⟩⟩
set_option maxHeartbeats 4000000 in
set_option maxRecDepth 20000 in
theorem sgX8_reads_0 {κ : Kx} {K : Kont} {M : Mem} (C : Cx κ RX8 cX8_reads 2 (some .int) rmX8_reads domM) 
    (h :
    ∀ M2 : Mem, M2 = up3 M 30 0 9 0 →
    ∀ M7 : Mem, M7 = up3 M2 30 0 10 1 →
    ∀ M12 : Mem, M12 = up3 M7 30 0 11 0 →
    ∀ M17 : Mem, M17 = up3 M12 30 0 13 0 →
    V κ 2 M17 22 [some (.inr (30, 0)), some (.inl 0)] [] K) : V κ 2 M 0 [some (.inr (30, 0)), none] [] K := by
  refine v_aload_n C dX8_reads_0 rfl ?_
  refine v_iconst C dX8_reads_1 (by decide) ?_
  refine v_put C dX8_reads_2 plX8_108 rfl (by decide) (by decide) rfl rfl rfl ?_
  refine v_nmM (fun M2 eM2 => ?_)
  replace h := h M2 eM2
  refine v_aload_n C dX8_reads_5 rfl ?_
  refine v_iconst C dX8_reads_6 (by decide) ?_
  refine v_put C dX8_reads_7 plX8_127 rfl (by decide) (by decide) rfl rfl rfl ?_
  refine v_nmM (fun M7 eM7 => ?_)
  replace h := h M7 eM7
  refine v_aload_n C dX8_reads_10 rfl ?_
  refine v_iconst C dX8_reads_11 (by decide) ?_
  refine v_put C dX8_reads_12 plX8_105 rfl (by decide) (by decide) rfl rfl rfl ?_
  refine v_nmM (fun M12 eM12 => ?_)
  replace h := h M12 eM12
  refine v_aload_n C dX8_reads_15 rfl ?_
  refine v_iconst C dX8_reads_16 (by decide) ?_
  refine v_put C dX8_reads_17 plX8_114 rfl (by decide) (by decide) rfl rfl rfl ?_
  refine v_nmM (fun M17 eM17 => ?_)
  replace h := h M17 eM17
  refine v_iconst C dX8_reads_20 (by decide) ?_
  refine v_istore_n C dX8_reads_21 (by decide) (Nat.le_of_ble_eq_true rfl) (lv' := [some (.inr (30, 0)), some (.inl 0)]) rfl ?_
  refine v_weak [some (.inr (30, 0)), some (.inl 0)] ⟨rfl, rfl, trivial⟩ ?_
  exact h
set_option maxHeartbeats 4000000 in
set_option maxRecDepth 20000 in
theorem sgX8_reads_22 {κ : Kx} {K : Kont} {M : Mem} (C : Cx κ RX8 cX8_reads 2 (some .int) rmX8_reads domM) (x1 : Int)
    (h :
    (((M 30 0 0) ≤ x1 →
      K (some (-4)) M) ∧
     (¬ ((M 30 0 0) ≤ x1) →
      (0 ≤ x1 ∧ x1 < 200) ∧
      inR (x1 + 1) ∧
      spX8_readsItem (M 31 0 x1) (x1 + 1) M (rI (fun r40 M40 =>
      ((r40 = 0 →
        K (some x1) M40) ∧
       (¬ (r40 = 0) →
        spX8_letterAt (M40 30 0 28) M40 (rI (fun r51 M51 =>
        ((r51 = 59 →
          inR ((M51 30 0 28) + 1) ∧
          ∀ y1_67 : Int, y1_67 = (M51 30 0 28) + 1 →
          V κ 2 M51 22 [some (.inr (30, 0)), some (.inl y1_67)] [] K) ∧
         (¬ (r51 = 59) →
          K (some x1) M51))))))))))) : V κ 2 M 22 [some (.inr (30, 0)), some (.inl x1)] [] K := by
  refine v_iload_n C dX8_reads_22 rfl ?_
  refine v_aload_n C dX8_reads_23 rfl ?_
  refine v_get C dX8_reads_24 flX8_80 rfl (by decide) (by decide) (w := .inl (M 30 0 0)) rfl ?_
  refine v_icmp C dX8_reads_27 (tgt := 71) (by decide) (P := (M 30 0 0) ≤ x1) rfl (fun c27 => ?_) (fun c27 => ?_)
  · replace h := h.1 c27
    refine v_bipush C dX8_reads_71 (by decide) (by decide) ?_
    exact v_iret C dX8_reads_73 h
  · replace h := h.2 c27
    refine v_aload_n C dX8_reads_30 rfl ?_
    refine v_aload_n C dX8_reads_31 rfl ?_
    refine v_get C dX8_reads_32 flX8_7 rfl (by decide) (by decide) (w := .inr (31, 0)) rfl ?_
    refine v_iload_n C dX8_reads_35 rfl ?_
    refine v_iald C dX8_reads_36 rfl h.1.1 h.1.2 ?_
    replace h := h.2
    refine v_iload_n C dX8_reads_37 rfl ?_
    refine v_iconst C dX8_reads_38 (by decide) ?_
    refine v_iadd C dX8_reads_39 h.1 ?_
    replace h := h.2
    refine v_invV C ctX8_readsItem dX8_reads_40 ivX8_130 ⟨by decide, by decide, rfl, rfl⟩ ((M 31 0 x1, x1 + 1) : Int × Int) (As := [.inl (M 31 0 x1), .inl (x1 + 1)]) rfl rfl rfl (by decide) rfl (st := []) rfl (Nat.le_of_ble_eq_true rfl) h (fun o M40 oM40 io40 g40 => ?_)
    replace h := rI_out g40
    clear g40
    obtain ⟨r40, rfl, h⟩ := h
    refine v_push ?_
    refine v_if C dX8_reads_43 (tgt := 59) (by decide) (P := r40 = 0) rfl (fun c43 => ?_) (fun c43 => ?_)
    · replace h := h.1 c43
      refine v_iload_n C dX8_reads_59 rfl ?_
      exact v_iret C dX8_reads_60 h
    · replace h := h.2 c43
      refine v_aload_n C dX8_reads_46 rfl ?_
      refine v_aload_n C dX8_reads_47 rfl ?_
      refine v_get C dX8_reads_48 flX8_94 rfl (by decide) (by decide) (w := .inl (M40 30 0 28)) rfl ?_
      refine v_invV C ctX8_letterAt dX8_reads_51 ivX8_83 ⟨by decide, by decide, rfl, rfl⟩ (M40 30 0 28 : Int) (As := [.inl (M40 30 0 28)]) rfl rfl rfl (by decide) rfl (st := []) rfl (Nat.le_of_ble_eq_true rfl) h (fun o M51 oM51 io51 g51 => ?_)
      replace h := rI_out g51
      clear g51
      obtain ⟨r51, rfl, h⟩ := h
      refine v_push ?_
      refine v_bipush C dX8_reads_54 (by decide) (by decide) ?_
      refine v_icmp C dX8_reads_56 (tgt := 61) (by decide) (P := r51 = 59) rfl (fun c56 => ?_) (fun c56 => ?_)
      · replace h := h.1 c56
        refine v_aload_n C dX8_reads_61 rfl ?_
        refine v_get C dX8_reads_62 flX8_94 rfl (by decide) (by decide) (w := .inl (M51 30 0 28)) rfl ?_
        refine v_iconst C dX8_reads_65 (by decide) ?_
        refine v_iadd C dX8_reads_66 h.1 ?_
        replace h := h.2
        refine v_nm (fun y1_67 ey1_67 => ?_)
        replace h := h y1_67 ey1_67
        refine v_istore_n C dX8_reads_67 (by decide) (Nat.le_of_ble_eq_true rfl) (lv' := [some (.inr (30, 0)), some (.inl y1_67)]) rfl ?_
        refine v_goto C dX8_reads_68 (tgt := 22) (by decide) ?_
        refine v_weak [some (.inr (30, 0)), some (.inl y1_67)] ⟨rfl, rfl, trivial⟩ ?_
        exact h
      · replace h := h.2 c56
        refine v_iload_n C dX8_reads_59 rfl ?_
        exact v_iret C dX8_reads_60 h
abbrev spX8_reads (M : Mem) (K : Kont) : Prop := (0 ≤ M 30 0 0 ∧ M 30 0 0 ≤ 200) ∧ ∀ M', AgI M M' → ((psrV (M 31 0) (M 30 0 0)).1 = -4 → FEq (psrV (M 31 0) (M 30 0 0)).2 (rFilm M')) → K (some (psrV (M 31 0) (M 30 0 0)).1) M'
theorem ctX8_reads : CtX8_reads spX8_reads := by
  refine ct_of (by decide) dmM (fun _ => Nat.le_of_ble_eq_true rfl) ?_
  intro κ a M K C oM h
  obtain ⟨hL, hk⟩ := h
  have hk : ∀ M', AgI M M' → ((psrV (M 31 0) (M 30 0 0)).1 = -4 → FEq (psrV (M 31 0) (M 30 0 0)).2 (rFilm M')) → K (some (psrV (M 31 0) (M 30 0 0)).1) M' := hk
  generalize hR : psrV (M 31 0) (M 30 0 0) = R at hk
  have loop : ∀ (n : Nat) (x : Int) (N : Mem) (F : Film), AgI M N → 0 ≤ x → M 30 0 0 - x ≤ n → FEq F (rFilm N) → WFf F → psr (M 31 0) (M 30 0 0) n x F = R → V κ 2 N 22 [some (.inr (30, 0)), some (.inl x)] [] K := by
    intro n
    induction n with
    | zero =>
      intro x N F hA x0 hn hF hw hp
      have tx := hA.tx
      have hp' : ((-4 : Int), F) = R := hp
      refine sgX8_reads_22 C x ⟨fun _ => ?_, fun z => absurd (by omega) z⟩
      have := hk N hA (fun _ => by rw [← hp']; exact hF)
      rw [← hp'] at this
      exact this
    | succ n ih =>
      intro x N F hA x0 hn hF hw hp
      have tx := hA.tx
      unfold psr at hp
      refine sgX8_reads_22 C x ⟨fun c => ?_, fun c => ?_⟩
      · rw [if_pos (by omega)] at hp
        have := hk N hA (fun _ => by rw [← hp]; exact hF)
        rw [← hp] at this
        exact this
      · rw [if_neg (by omega)] at hp
        refine ⟨by omega, by omega, ?_⟩
        have hw2 := hF.wf hw
        -- not so: the answer is x
        have bad : (¬ ∃ l e, Tk (M 31 0) (M 30 0 0) l (x + 1) e ∧ l.length ≤ 9 ∧ itS (rFilm N) (M 31 0 x) l ≠ none) → ∀ N', AgI M N' → K (some x) N' := by
          intro no N' hA'
          have e : R.1 = x := by
            cases ht : tks (M 31 0) (M 30 0 0) 9 (x + 1) with
            | none => rw [ht] at hp; rw [← hp]
            | some q =>
              obtain ⟨l, e⟩ := q
              have tl := tks_len 9 _ l e ht
              have oe := itS_c hw hF (x := M 31 0 x) (l := l) ⟨by omega, tl.2.2.2.2⟩
              rw [ht] at hp
              simp only at hp
              cases hi : itS F (M 31 0 x) l with
              | none => rw [hi] at hp; rw [← hp]
              | some F' =>
                exfalso
                rw [hi] at oe
                refine no ⟨l, e, tks_tk 9 _ _ _ ht, by omega, fun z => ?_⟩
                rw [z] at oe
                exact oe
          have := hk N' hA' (fun z => by rw [e] at z; omega)
          rw [e] at this
          exact this
        have eX : N 31 0 x = M 31 0 x := by rw [tx.1]
        rw [eX]
        refine ⟨⟨by omega, by omega, hw2⟩, ?_⟩
        intro r N' hr hA1 hb hs hac
        rw [tx.1, tx.2] at hs hac
        have hA' := hA.tr hA1
        have tx' := hA'.tx
        have r01 : r ≠ 0 → r = 1 := fun c2 => hr.elim (fun z => absurd z c2) (fun z => z)
        have l200 : N' 30 0 0 ≤ 200 := by rw [tx'.2]; exact hL.2
        refine ⟨fun c2 => bad (fun z => absurd ((hac z).1.symm.trans c2) (by decide)) N' hA', fun c2 => ⟨⟨hb (r01 c2), l200⟩, ?_⟩⟩
        rw [tx'.1, tx'.2]
        refine ⟨fun c3 => ?_, fun c3 => bad (fun z => c3 (hac z).2) N' hA'⟩
        obtain ⟨l, F', ht, h9, hi, hF'⟩ := hs (r01 c2) c3
        clear hs hac bad
        have hts := tk_tks 9 _ _ _ ht h9
        have tl := tks_len 9 _ l _ hts
        have lo : lOk l := ⟨by omega, tl.2.2.2.2⟩
        have oe := itS_c hw hF (x := M 31 0 x) (l := l) lo
        rw [hi] at oe
        rw [hts] at hp
        simp only at hp
        refine ⟨by omega, fun y ey => ?_⟩
        cases hi2 : itS F (M 31 0 x) l with
        | none => rw [hi2] at oe; exact oe.elim
        | some F2 =>
          rw [hi2] at oe hp
          simp only at hp
          rw [ey]
          exact ih (N' 30 0 28 + 1) N' F2 hA' (by omega) (by omega) (FEq.tr oe hF') (itS_wf hw lo hi2) hp
  refine sgX8_reads_0 C (fun N1 e1 N2 e2 N3 e3 N4 e4 => ?_)
  have v30 : N4 30 0 9 = 0 ∧ N4 30 0 10 = 1 ∧ N4 30 0 11 = 0 ∧ N4 30 0 13 = 0 := by
    rw [e4, e3, e2, e1]
    simp [up3]
  have hA : AgI M N4 := by
    intro r i j hn
    rw [e4, e3, e2, e1]
    simp only [up3]
    rw [if_neg (by omega), if_neg (by omega), if_neg (by omega), if_neg (by omega)]
  refine loop (M 30 0 0).toNat 0 N4 (sF0 (fun _ _ _ => 0)) hA (by omega) (by omega) ?_ (sF0_wf _) hR
  refine ⟨v30.1.symm, v30.2.1.symm, v30.2.2.1.symm, v30.2.2.2.symm, fun w a b => ?_, fun s a b => ?_, fun p a b => ?_⟩
  · have : w = 0 ∨ w = 1 ∨ w = 2 ∨ w = 3 := by omega
    rcases this with e | e | e | e <;> subst e <;> simp [sF0, rFilm]
  · simp [sF0] at b
    omega
  · simp [sF0] at b
    omega
/-! ===== GapTellingsModel.fault ===== -/
abbrev rmX8_fault : Room := { frames := 7, cells := 0, slots := 0, locals := 158 }
abbrev argX8_fault (a : Unit) : List PV := [.inr (30, 0)]
abbrev CtX8_fault (sp : Mem → Kont → Prop) : Prop := Ct yX8_fault cX8_fault 1 (some .int) rmX8_fault domM argX8_fault (fun _ => sp)
theorem dX8_fault_0 : decode cX8_fault 0 = .ok (.aload_n 0, 1) := by decide +kernel
theorem dX8_fault_1 : decode cX8_fault 1 = .ok (.invokevirtual 133, 3) := by decide +kernel
theorem dX8_fault_4 : decode cX8_fault 4 = .ok (.ireturn, 1) := by decide +kernel
theorem ivX8_133 : IV RX8 133 yX8_reads cX8_reads 2 (some .int) 0 := ⟨(tb_mem (t_in4 (List.mem_of_getElem? (i := 208) (by decide +kernel))) (by decide +kernel)), (tb_mem (t_in4 (List.mem_of_getElem? (i := 210) (by decide +kernel))) (by decide +kernel)), (tb_sel (q := (⟨"GapTellingsModel", "reads", "()I"⟩, 29)) (List.mem_of_getElem? (i := 9) (by decide +kernel)) (by decide +kernel)), (tb_mem (t_in1 (List.mem_of_getElem? (i := 16) (by decide +kernel))) (by decide +kernel)), (tb_mem (t_in4 (List.mem_of_getElem? (i := 211) (by decide +kernel))) (by decide +kernel)), ⟨by decide +kernel, by decide +kernel, by decide +kernel⟩⟩
set_option maxHeartbeats 4000000 in
set_option maxRecDepth 20000 in
theorem sgX8_fault_0 {κ : Kx} {K : Kont} {M : Mem} (C : Cx κ RX8 cX8_fault 1 (some .int) rmX8_fault domM) 
    (h :
    spX8_reads M (rI (fun r1 M1 =>
    K (some r1) M1))) : V κ 1 M 0 [some (.inr (30, 0))] [] K := by
  refine v_aload_n C dX8_fault_0 rfl ?_
  refine v_invV C ctX8_reads dX8_fault_1 ivX8_133 ⟨by decide, by decide, rfl, rfl⟩ (() : Unit) (As := []) rfl rfl rfl (by decide) rfl (st := []) rfl (Nat.le_of_ble_eq_true rfl) h (fun o M1 oM1 io1 g1 => ?_)
  replace h := rI_out g1
  clear g1
  obtain ⟨r1, rfl, h⟩ := h
  refine v_push ?_
  exact v_iret C dX8_fault_4 h
abbrev spX8_fault (M : Mem) (K : Kont) : Prop := InvM M ∧ ∀ M', InvM M' → ChM M M' (mFilm M) (M 45 0) (M 46 0) → K (some (psrV (M 31 0) (M 30 0 0)).1) M'
theorem ctX8_fault : CtX8_fault spX8_fault := by
  refine ct_of (by decide) dmM (fun _ => Nat.le_of_ble_eq_true rfl) ?_
  intro κ a M K C oM h
  obtain ⟨hI, hk⟩ := h
  exact sgX8_fault_0 C ⟨hI.1, fun N hA hf => hk N (hA.s.inv hI) hA.s.ch⟩
/-! ===== GapTellingsModel.lay ===== -/
abbrev rmX8_lay : Room := { frames := 7, cells := 0, slots := 0, locals := 158 }
abbrev argX8_lay (a : Unit) : List PV := [.inr (30, 0)]
abbrev CtX8_lay (sp : Mem → Kont → Prop) : Prop := Ct yX8_lay cX8_lay 2 (some .int) rmX8_lay domM argX8_lay (fun _ => sp)
theorem dX8_lay_0 : decode cX8_lay 0 = .ok (.aload_n 0, 1) := by decide +kernel
theorem dX8_lay_1 : decode cX8_lay 1 = .ok (.getfield 80, 3) := by decide +kernel
theorem dX8_lay_4 : decode cX8_lay 4 = .ok (.ifCond .eq 12, 3) := by decide +kernel
theorem dX8_lay_7 : decode cX8_lay 7 = .ok (.aload_n 0, 1) := by decide +kernel
theorem dX8_lay_8 : decode cX8_lay 8 = .ok (.invokevirtual 133, 3) := by decide +kernel
theorem dX8_lay_11 : decode cX8_lay 11 = .ok (.bipush (-4), 2) := by decide +kernel
theorem dX8_lay_13 : decode cX8_lay 13 = .ok (.if_icmp .eq 6, 3) := by decide +kernel
theorem dX8_lay_16 : decode cX8_lay 16 = .ok (.bipush (-2), 2) := by decide +kernel
theorem dX8_lay_18 : decode cX8_lay 18 = .ok (.ireturn, 1) := by decide +kernel
theorem dX8_lay_19 : decode cX8_lay 19 = .ok (.aload_n 0, 1) := by decide +kernel
theorem dX8_lay_20 : decode cX8_lay 20 = .ok (.aload_n 0, 1) := by decide +kernel
theorem dX8_lay_21 : decode cX8_lay 21 = .ok (.getfield 108, 3) := by decide +kernel
theorem dX8_lay_24 : decode cX8_lay 24 = .ok (.putfield 64, 3) := by decide +kernel
theorem dX8_lay_27 : decode cX8_lay 27 = .ok (.aload_n 0, 1) := by decide +kernel
theorem dX8_lay_28 : decode cX8_lay 28 = .ok (.aload_n 0, 1) := by decide +kernel
theorem dX8_lay_29 : decode cX8_lay 29 = .ok (.getfield 127, 3) := by decide +kernel
theorem dX8_lay_32 : decode cX8_lay 32 = .ok (.putfield 68, 3) := by decide +kernel
theorem dX8_lay_35 : decode cX8_lay 35 = .ok (.aload_n 0, 1) := by decide +kernel
theorem dX8_lay_36 : decode cX8_lay 36 = .ok (.aload_n 0, 1) := by decide +kernel
theorem dX8_lay_37 : decode cX8_lay 37 = .ok (.getfield 105, 3) := by decide +kernel
theorem dX8_lay_40 : decode cX8_lay 40 = .ok (.putfield 71, 3) := by decide +kernel
theorem dX8_lay_43 : decode cX8_lay 43 = .ok (.aload_n 0, 1) := by decide +kernel
theorem dX8_lay_44 : decode cX8_lay 44 = .ok (.aload_n 0, 1) := by decide +kernel
theorem dX8_lay_45 : decode cX8_lay 45 = .ok (.getfield 114, 3) := by decide +kernel
theorem dX8_lay_48 : decode cX8_lay 48 = .ok (.putfield 74, 3) := by decide +kernel
theorem dX8_lay_51 : decode cX8_lay 51 = .ok (.iconst 0, 1) := by decide +kernel
theorem dX8_lay_52 : decode cX8_lay 52 = .ok (.istore_n 1, 1) := by decide +kernel
theorem dX8_lay_53 : decode cX8_lay 53 = .ok (.iload_n 1, 1) := by decide +kernel
theorem dX8_lay_54 : decode cX8_lay 54 = .ok (.bipush 36, 2) := by decide +kernel
theorem dX8_lay_56 : decode cX8_lay 56 = .ok (.if_icmp .ge 21, 3) := by decide +kernel
theorem dX8_lay_59 : decode cX8_lay 59 = .ok (.aload_n 0, 1) := by decide +kernel
theorem dX8_lay_60 : decode cX8_lay 60 = .ok (.getfield 13, 3) := by decide +kernel
theorem dX8_lay_63 : decode cX8_lay 63 = .ok (.iload_n 1, 1) := by decide +kernel
theorem dX8_lay_64 : decode cX8_lay 64 = .ok (.aload_n 0, 1) := by decide +kernel
theorem dX8_lay_65 : decode cX8_lay 65 = .ok (.getfield 22, 3) := by decide +kernel
theorem dX8_lay_68 : decode cX8_lay 68 = .ok (.iload_n 1, 1) := by decide +kernel
theorem dX8_lay_69 : decode cX8_lay 69 = .ok (.iaload, 1) := by decide +kernel
theorem dX8_lay_70 : decode cX8_lay 70 = .ok (.iastore, 1) := by decide +kernel
theorem dX8_lay_71 : decode cX8_lay 71 = .ok (.iinc 1 1, 3) := by decide +kernel
theorem dX8_lay_74 : decode cX8_lay 74 = .ok (.goto (-21), 3) := by decide +kernel
theorem dX8_lay_77 : decode cX8_lay 77 = .ok (.iconst 0, 1) := by decide +kernel
theorem dX8_lay_78 : decode cX8_lay 78 = .ok (.istore_n 1, 1) := by decide +kernel
theorem dX8_lay_79 : decode cX8_lay 79 = .ok (.iload_n 1, 1) := by decide +kernel
theorem dX8_lay_80 : decode cX8_lay 80 = .ok (.bipush 77, 2) := by decide +kernel
theorem dX8_lay_82 : decode cX8_lay 82 = .ok (.if_icmp .ge 21, 3) := by decide +kernel
theorem dX8_lay_85 : decode cX8_lay 85 = .ok (.aload_n 0, 1) := by decide +kernel
theorem dX8_lay_86 : decode cX8_lay 86 = .ok (.getfield 16, 3) := by decide +kernel
theorem dX8_lay_89 : decode cX8_lay 89 = .ok (.iload_n 1, 1) := by decide +kernel
theorem dX8_lay_90 : decode cX8_lay 90 = .ok (.aload_n 0, 1) := by decide +kernel
theorem dX8_lay_91 : decode cX8_lay 91 = .ok (.getfield 25, 3) := by decide +kernel
theorem dX8_lay_94 : decode cX8_lay 94 = .ok (.iload_n 1, 1) := by decide +kernel
theorem dX8_lay_95 : decode cX8_lay 95 = .ok (.iaload, 1) := by decide +kernel
theorem dX8_lay_96 : decode cX8_lay 96 = .ok (.iastore, 1) := by decide +kernel
theorem dX8_lay_97 : decode cX8_lay 97 = .ok (.iinc 1 1, 3) := by decide +kernel
theorem dX8_lay_100 : decode cX8_lay 100 = .ok (.goto (-21), 3) := by decide +kernel
theorem dX8_lay_103 : decode cX8_lay 103 = .ok (.aload_n 0, 1) := by decide +kernel
theorem dX8_lay_104 : decode cX8_lay 104 = .ok (.getfield 19, 3) := by decide +kernel
theorem dX8_lay_107 : decode cX8_lay 107 = .ok (.iconst 0, 1) := by decide +kernel
theorem dX8_lay_108 : decode cX8_lay 108 = .ok (.iconst 2, 1) := by decide +kernel
theorem dX8_lay_109 : decode cX8_lay 109 = .ok (.iastore, 1) := by decide +kernel
theorem dX8_lay_110 : decode cX8_lay 110 = .ok (.aload_n 0, 1) := by decide +kernel
theorem dX8_lay_111 : decode cX8_lay 111 = .ok (.getfield 19, 3) := by decide +kernel
theorem dX8_lay_114 : decode cX8_lay 114 = .ok (.iconst 1, 1) := by decide +kernel
theorem dX8_lay_115 : decode cX8_lay 115 = .ok (.iconst 1, 1) := by decide +kernel
theorem dX8_lay_116 : decode cX8_lay 116 = .ok (.iastore, 1) := by decide +kernel
theorem dX8_lay_117 : decode cX8_lay 117 = .ok (.aload_n 0, 1) := by decide +kernel
theorem dX8_lay_118 : decode cX8_lay 118 = .ok (.getfield 19, 3) := by decide +kernel
theorem dX8_lay_121 : decode cX8_lay 121 = .ok (.iconst 2, 1) := by decide +kernel
theorem dX8_lay_122 : decode cX8_lay 122 = .ok (.iconst 3, 1) := by decide +kernel
theorem dX8_lay_123 : decode cX8_lay 123 = .ok (.iastore, 1) := by decide +kernel
theorem dX8_lay_124 : decode cX8_lay 124 = .ok (.aload_n 0, 1) := by decide +kernel
theorem dX8_lay_125 : decode cX8_lay 125 = .ok (.getfield 19, 3) := by decide +kernel
theorem dX8_lay_128 : decode cX8_lay 128 = .ok (.iconst 3, 1) := by decide +kernel
theorem dX8_lay_129 : decode cX8_lay 129 = .ok (.iconst 1, 1) := by decide +kernel
theorem dX8_lay_130 : decode cX8_lay 130 = .ok (.iastore, 1) := by decide +kernel
theorem dX8_lay_131 : decode cX8_lay 131 = .ok (.aload_n 0, 1) := by decide +kernel
theorem dX8_lay_132 : decode cX8_lay 132 = .ok (.invokevirtual 77, 3) := by decide +kernel
theorem dX8_lay_135 : decode cX8_lay 135 = .ok (.aload_n 0, 1) := by decide +kernel
theorem dX8_lay_136 : decode cX8_lay 136 = .ok (.getfield 74, 3) := by decide +kernel
theorem dX8_lay_139 : decode cX8_lay 139 = .ok (.ireturn, 1) := by decide +kernel
theorem plX8_64 : PL RX8 64 8 2 .int := ⟨_, _, _, rfl, by decide, uwX8, Or.inl (tb_mem (t_in4 (List.mem_of_getElem? (i := 110) (by decide +kernel))) (by decide +kernel)), rfl, by decide +kernel, tyX8, tyX8_ok, nmX8⟩
theorem flX8_127 : FL RX8 127 8 10 := ⟨_, _, _, rfl, by decide, uwX8, Or.inl (tb_mem (t_in4 (List.mem_of_getElem? (i := 118) (by decide +kernel))) (by decide +kernel))⟩
theorem plX8_74 : PL RX8 74 8 6 .int := ⟨_, _, _, rfl, by decide, uwX8, Or.inl (tb_mem (t_in4 (List.mem_of_getElem? (i := 114) (by decide +kernel))) (by decide +kernel)), rfl, by decide +kernel, tyX8, tyX8_ok, nmX8⟩
set_option maxHeartbeats 4000000 in
set_option maxRecDepth 20000 in
theorem sgX8_lay_0 {κ : Kx} {K : Kont} {M : Mem} (C : Cx κ RX8 cX8_lay 2 (some .int) rmX8_lay domM) 
    (h :
    (((M 30 0 0) = 0 →
      K (some (-2)) M) ∧
     (¬ ((M 30 0 0) = 0) →
      spX8_reads M (rI (fun r8 M8 =>
      ((r8 = (-4) →
        ∀ M24 : Mem, M24 = up3 M8 30 0 2 (M8 30 0 9) →
        ∀ M32 : Mem, M32 = up3 M24 30 0 3 (M24 30 0 10) →
        ∀ M40 : Mem, M40 = up3 M32 30 0 4 (M32 30 0 11) →
        ∀ M48 : Mem, M48 = up3 M40 30 0 6 (M40 30 0 13) →
        V κ 2 M48 53 [some (.inr (30, 0)), some (.inl 0)] [] K) ∧
       (¬ (r8 = (-4)) →
        K (some (-2)) M8))))))) : V κ 2 M 0 [some (.inr (30, 0)), none] [] K := by
  refine v_aload_n C dX8_lay_0 rfl ?_
  refine v_get C dX8_lay_1 flX8_80 rfl (by decide) (by decide) (w := .inl (M 30 0 0)) rfl ?_
  refine v_if C dX8_lay_4 (tgt := 16) (by decide) (P := (M 30 0 0) = 0) rfl (fun c4 => ?_) (fun c4 => ?_)
  · replace h := h.1 c4
    refine v_bipush C dX8_lay_16 (by decide) (by decide) ?_
    exact v_iret C dX8_lay_18 h
  · replace h := h.2 c4
    refine v_aload_n C dX8_lay_7 rfl ?_
    refine v_invV C ctX8_reads dX8_lay_8 ivX8_133 ⟨by decide, by decide, rfl, rfl⟩ (() : Unit) (As := []) rfl rfl rfl (by decide) rfl (st := []) rfl (Nat.le_of_ble_eq_true rfl) h (fun o M8 oM8 io8 g8 => ?_)
    replace h := rI_out g8
    clear g8
    obtain ⟨r8, rfl, h⟩ := h
    refine v_push ?_
    refine v_bipush C dX8_lay_11 (by decide) (by decide) ?_
    refine v_icmp C dX8_lay_13 (tgt := 19) (by decide) (P := r8 = (-4)) rfl (fun c13 => ?_) (fun c13 => ?_)
    · replace h := h.1 c13
      refine v_aload_n C dX8_lay_19 rfl ?_
      refine v_aload_n C dX8_lay_20 rfl ?_
      refine v_get C dX8_lay_21 flX8_108 rfl (by decide) (by decide) (w := .inl (M8 30 0 9)) rfl ?_
      refine v_put C dX8_lay_24 plX8_64 rfl (by decide) (by decide) rfl rfl rfl ?_
      refine v_nmM (fun M24 eM24 => ?_)
      replace h := h M24 eM24
      refine v_aload_n C dX8_lay_27 rfl ?_
      refine v_aload_n C dX8_lay_28 rfl ?_
      refine v_get C dX8_lay_29 flX8_127 rfl (by decide) (by decide) (w := .inl (M24 30 0 10)) rfl ?_
      refine v_put C dX8_lay_32 plX8_68 rfl (by decide) (by decide) rfl rfl rfl ?_
      refine v_nmM (fun M32 eM32 => ?_)
      replace h := h M32 eM32
      refine v_aload_n C dX8_lay_35 rfl ?_
      refine v_aload_n C dX8_lay_36 rfl ?_
      refine v_get C dX8_lay_37 flX8_105 rfl (by decide) (by decide) (w := .inl (M32 30 0 11)) rfl ?_
      refine v_put C dX8_lay_40 plX8_71 rfl (by decide) (by decide) rfl rfl rfl ?_
      refine v_nmM (fun M40 eM40 => ?_)
      replace h := h M40 eM40
      refine v_aload_n C dX8_lay_43 rfl ?_
      refine v_aload_n C dX8_lay_44 rfl ?_
      refine v_get C dX8_lay_45 flX8_114 rfl (by decide) (by decide) (w := .inl (M40 30 0 13)) rfl ?_
      refine v_put C dX8_lay_48 plX8_74 rfl (by decide) (by decide) rfl rfl rfl ?_
      refine v_nmM (fun M48 eM48 => ?_)
      replace h := h M48 eM48
      refine v_iconst C dX8_lay_51 (by decide) ?_
      refine v_istore_n C dX8_lay_52 (by decide) (Nat.le_of_ble_eq_true rfl) (lv' := [some (.inr (30, 0)), some (.inl 0)]) rfl ?_
      refine v_weak [some (.inr (30, 0)), some (.inl 0)] ⟨rfl, rfl, trivial⟩ ?_
      exact h
    · replace h := h.2 c13
      refine v_bipush C dX8_lay_16 (by decide) (by decide) ?_
      exact v_iret C dX8_lay_18 h
set_option maxHeartbeats 4000000 in
set_option maxRecDepth 20000 in
theorem sgX8_lay_53 {κ : Kx} {K : Kont} {M : Mem} (C : Cx κ RX8 cX8_lay 2 (some .int) rmX8_lay domM) (x1 : Int)
    (h :
    ((36 ≤ x1 →
      V κ 2 M 79 [some (.inr (30, 0)), some (.inl 0)] [] K) ∧
     (¬ (36 ≤ x1) →
      (0 ≤ x1 ∧ x1 < 36) ∧
      (0 ≤ x1 ∧ x1 < 36) ∧
      ∀ M70 : Mem, M70 = up3 M 35 0 x1 (M 42 0 x1) →
      inR (x1 + 1) ∧
      V κ 2 M70 53 [some (.inr (30, 0)), some (.inl (x1 + 1))] [] K))) : V κ 2 M 53 [some (.inr (30, 0)), some (.inl x1)] [] K := by
  refine v_iload_n C dX8_lay_53 rfl ?_
  refine v_bipush C dX8_lay_54 (by decide) (by decide) ?_
  refine v_icmp C dX8_lay_56 (tgt := 77) (by decide) (P := 36 ≤ x1) rfl (fun c56 => ?_) (fun c56 => ?_)
  · replace h := h.1 c56
    refine v_iconst C dX8_lay_77 (by decide) ?_
    refine v_istore_n C dX8_lay_78 (by decide) (Nat.le_of_ble_eq_true rfl) (lv' := [some (.inr (30, 0)), some (.inl 0)]) rfl ?_
    refine v_weak [some (.inr (30, 0)), some (.inl 0)] ⟨rfl, rfl, trivial⟩ ?_
    exact h
  · replace h := h.2 c56
    refine v_aload_n C dX8_lay_59 rfl ?_
    refine v_get C dX8_lay_60 flX8_13 rfl (by decide) (by decide) (w := .inr (35, 0)) rfl ?_
    refine v_iload_n C dX8_lay_63 rfl ?_
    refine v_aload_n C dX8_lay_64 rfl ?_
    refine v_get C dX8_lay_65 flX8_22 rfl (by decide) (by decide) (w := .inr (42, 0)) rfl ?_
    refine v_iload_n C dX8_lay_68 rfl ?_
    refine v_iald C dX8_lay_69 rfl h.1.1 h.1.2 ?_
    replace h := h.2
    refine v_iast C dX8_lay_70 rfl h.1.1 h.1.2 ?_
    replace h := h.2
    refine v_nmM (fun M70 eM70 => ?_)
    replace h := h M70 eM70
    refine v_iinc C dX8_lay_71 (by decide) rfl h.1 (lv' := [some (.inr (30, 0)), some (.inl (x1 + 1))]) rfl ?_
    replace h := h.2
    refine v_goto C dX8_lay_74 (tgt := 53) (by decide) ?_
    refine v_weak [some (.inr (30, 0)), some (.inl (x1 + 1))] ⟨rfl, rfl, trivial⟩ ?_
    exact h
set_option maxHeartbeats 4000000 in
set_option maxRecDepth 20000 in
theorem sgX8_lay_79 {κ : Kx} {K : Kont} {M : Mem} (C : Cx κ RX8 cX8_lay 2 (some .int) rmX8_lay domM) (x1 : Int)
    (h :
    ((77 ≤ x1 →
      ∀ M109 : Mem, M109 = up3 M 38 0 0 2 →
      ∀ M116 : Mem, M116 = up3 M109 38 0 1 1 →
      ∀ M123 : Mem, M123 = up3 M116 38 0 2 3 →
      ∀ M130 : Mem, M130 = up3 M123 38 0 3 1 →
      spX8_clears M130 (rV (fun M132 =>
      K (some (M132 30 0 6)) M132))) ∧
     (¬ (77 ≤ x1) →
      (0 ≤ x1 ∧ x1 < 77) ∧
      (0 ≤ x1 ∧ x1 < 77) ∧
      ∀ M96 : Mem, M96 = up3 M 37 0 x1 (M 44 0 x1) →
      inR (x1 + 1) ∧
      V κ 2 M96 79 [some (.inr (30, 0)), some (.inl (x1 + 1))] [] K))) : V κ 2 M 79 [some (.inr (30, 0)), some (.inl x1)] [] K := by
  refine v_iload_n C dX8_lay_79 rfl ?_
  refine v_bipush C dX8_lay_80 (by decide) (by decide) ?_
  refine v_icmp C dX8_lay_82 (tgt := 103) (by decide) (P := 77 ≤ x1) rfl (fun c82 => ?_) (fun c82 => ?_)
  · replace h := h.1 c82
    refine v_aload_n C dX8_lay_103 rfl ?_
    refine v_get C dX8_lay_104 flX8_19 rfl (by decide) (by decide) (w := .inr (38, 0)) rfl ?_
    refine v_iconst C dX8_lay_107 (by decide) ?_
    refine v_iconst C dX8_lay_108 (by decide) ?_
    refine v_iast C dX8_lay_109 rfl (by decide) (by decide) ?_
    refine v_nmM (fun M109 eM109 => ?_)
    replace h := h M109 eM109
    refine v_aload_n C dX8_lay_110 rfl ?_
    refine v_get C dX8_lay_111 flX8_19 rfl (by decide) (by decide) (w := .inr (38, 0)) rfl ?_
    refine v_iconst C dX8_lay_114 (by decide) ?_
    refine v_iconst C dX8_lay_115 (by decide) ?_
    refine v_iast C dX8_lay_116 rfl (by decide) (by decide) ?_
    refine v_nmM (fun M116 eM116 => ?_)
    replace h := h M116 eM116
    refine v_aload_n C dX8_lay_117 rfl ?_
    refine v_get C dX8_lay_118 flX8_19 rfl (by decide) (by decide) (w := .inr (38, 0)) rfl ?_
    refine v_iconst C dX8_lay_121 (by decide) ?_
    refine v_iconst C dX8_lay_122 (by decide) ?_
    refine v_iast C dX8_lay_123 rfl (by decide) (by decide) ?_
    refine v_nmM (fun M123 eM123 => ?_)
    replace h := h M123 eM123
    refine v_aload_n C dX8_lay_124 rfl ?_
    refine v_get C dX8_lay_125 flX8_19 rfl (by decide) (by decide) (w := .inr (38, 0)) rfl ?_
    refine v_iconst C dX8_lay_128 (by decide) ?_
    refine v_iconst C dX8_lay_129 (by decide) ?_
    refine v_iast C dX8_lay_130 rfl (by decide) (by decide) ?_
    refine v_nmM (fun M130 eM130 => ?_)
    replace h := h M130 eM130
    refine v_aload_n C dX8_lay_131 rfl ?_
    refine v_invV C ctX8_clears dX8_lay_132 ivX8_77 ⟨by decide, by decide, rfl, rfl⟩ (() : Unit) (As := []) rfl rfl rfl (by decide) rfl (st := []) rfl (Nat.le_of_ble_eq_true rfl) h (fun o M132 oM132 io132 g132 => ?_)
    replace h := rV_out g132
    clear g132
    obtain ⟨rfl, h⟩ := h
    refine v_push0 ?_
    refine v_aload_n C dX8_lay_135 rfl ?_
    refine v_get C dX8_lay_136 flX8_74 rfl (by decide) (by decide) (w := .inl (M132 30 0 6)) rfl ?_
    exact v_iret C dX8_lay_139 h
  · replace h := h.2 c82
    refine v_aload_n C dX8_lay_85 rfl ?_
    refine v_get C dX8_lay_86 flX8_16 rfl (by decide) (by decide) (w := .inr (37, 0)) rfl ?_
    refine v_iload_n C dX8_lay_89 rfl ?_
    refine v_aload_n C dX8_lay_90 rfl ?_
    refine v_get C dX8_lay_91 flX8_25 rfl (by decide) (by decide) (w := .inr (44, 0)) rfl ?_
    refine v_iload_n C dX8_lay_94 rfl ?_
    refine v_iald C dX8_lay_95 rfl h.1.1 h.1.2 ?_
    replace h := h.2
    refine v_iast C dX8_lay_96 rfl h.1.1 h.1.2 ?_
    replace h := h.2
    refine v_nmM (fun M96 eM96 => ?_)
    replace h := h M96 eM96
    refine v_iinc C dX8_lay_97 (by decide) rfl h.1 (lv' := [some (.inr (30, 0)), some (.inl (x1 + 1))]) rfl ?_
    replace h := h.2
    refine v_goto C dX8_lay_100 (tgt := 79) (by decide) ?_
    refine v_weak [some (.inr (30, 0)), some (.inl (x1 + 1))] ⟨rfl, rfl, trivial⟩ ?_
    exact h
abbrev spX8_lay (M : Mem) (K : Kont) : Prop := InvM M ∧ (M 30 0 0 = 0 → K (some (-2)) M) ∧ (M 30 0 0 ≠ 0 → (psrV (M 31 0) (M 30 0 0)).1 ≠ -4 → ∀ M', InvM M' → ChM M M' (mFilm M) (M 45 0) (M 46 0) → K (some (-2)) M') ∧
  (M 30 0 0 ≠ 0 → (psrV (M 31 0) (M 30 0 0)).1 = -4 → ∀ M', InvM M' → ChM M M' (psrV (M 31 0) (M 30 0 0)).2 (fun _ => -4) (fun _ => -4) → K (some ((psrV (M 31 0) (M 30 0 0)).2 3 0 0)) M')
theorem ctX8_lay : CtX8_lay spX8_lay := by
  refine ct_of (by decide) dmM (fun _ => Nat.le_of_ble_eq_true rfl) ?_
  intro κ a M K C oM h
  obtain ⟨hI, k1, k2, k3⟩ := h
  have hwG : WFf (psrV (M 31 0) (M 30 0 0)).2 := (psr_c (M 31 0) (M 30 0 0) (M 30 0 0).toNat 0 (sF0 (fun _ _ _ => 0)) (sF0 (fun _ _ _ => 0)) (sF0_wf _) (sF0_c _ _)).2.2
  generalize hG : psrV (M 31 0) (M 30 0 0) = R at *
  refine sgX8_lay_0 C ⟨fun c => k1 c, fun c => ⟨hI.1, fun N hA hf => ?_⟩⟩
  rw [hG] at hf ⊢
  refine ⟨fun c2 N1 e1 N2 e2 N3 e3 N4 e4 => ?_, fun c2 => k2 c c2 N (hA.s.inv hI) hA.s.ch⟩
  have hF := hf c2
  have v30 : ∀ j, N4 30 0 j = if j = 6 then N 30 0 13 else if j = 4 then N 30 0 11 else if j = 3 then N 30 0 10 else if j = 2 then N 30 0 9 else N 30 0 j := by
    intro j
    rw [e4, e3, e2, e1]
    simp only [up3]
    by_cases z6 : j = 6
    · subst z6; simp
    · by_cases z4 : j = 4
      · subst z4; simp
      · by_cases z3 : j = 3
        · subst z3; simp
        · by_cases z2 : j = 2
          · subst z2; simp
          · simp [z6, z4, z3, z2]
  have o30 : ∀ r, r ≠ 30 → N4 r = N r := fun r hr => by
    funext i j
    rw [e4, e3, e2, e1, up3_r _ _ _ _ _ hr, up3_r _ _ _ _ _ hr, up3_r _ _ _ _ _ hr, up3_r _ _ _ _ _ hr]
  -- pictures, rates, plan
  have pics : ∀ (n : Nat) (x : Int) (Q : Mem), 0 ≤ x → x + n = 77 → (∀ r, r ≠ 35 → r ≠ 37 → Q r = N4 r) → (∀ j, 0 ≤ j → j < 36 → Q 35 0 j = N 42 0 j) → (∀ j, 0 ≤ j → j < x → Q 37 0 j = N 44 0 j) →
      V κ 2 Q 79 [some (.inr (30, 0)), some (.inl x)] [] K := by
    intro n
    induction n with
    | zero =>
      intro x Q x0 hx hr h35 h37
      refine sgX8_lay_79 C x ⟨fun _ Q1 d1 Q2 d2 Q3 d3 Q4 d4 Q5 cl => ?_, fun z => absurd (by omega) z⟩
      have q4 : ∀ r, r ≠ 38 → Q4 r = Q r := fun r hr => by
        funext i j
        rw [d4, d3, d2, d1, up3_r _ _ _ _ _ hr, up3_r _ _ _ _ _ hr, up3_r _ _ _ _ _ hr, up3_r _ _ _ _ _ hr]
      have q5 : ∀ r, r ≠ 38 → r ≠ 45 → r ≠ 46 → Q5 r = Q r := fun r a b d => by
        funext i
        rw [cl.1 r i (by omega), q4 r a]
      have w38 : Q5 38 0 0 = 2 ∧ Q5 38 0 1 = 1 ∧ Q5 38 0 2 = 3 ∧ Q5 38 0 3 = 1 := by
        rw [cl.1 38 0 (by omega), d4, d3, d2, d1]
        simp [up3]
      have r30 : Q5 30 0 = N4 30 0 := by rw [q5 30 (by decide) (by decide) (by decide), hr 30 (by decide) (by decide)]
      have hg : FEq R.2 (mFilm Q5) := by
        obtain ⟨a0, a1, a2, a3, a4, a5, a6⟩ := hF
        have n2 := hwG.2.2.1
        have n3 := hwG.2.2.2.1
        refine ⟨?_, ?_, ?_, ?_, fun w a b => ?_, fun s a b => ?_, fun p a b => ?_⟩
        · show _ = Q5 30 0 2
          rw [r30, v30, if_neg (by decide), if_neg (by decide), if_neg (by decide), if_pos rfl]; exact a0
        · show _ = Q5 30 0 3
          rw [r30, v30, if_neg (by decide), if_neg (by decide), if_pos rfl]; exact a1
        · show _ = Q5 30 0 4
          rw [r30, v30, if_neg (by decide), if_pos rfl]; exact a2
        · show _ = Q5 30 0 6
          rw [r30, v30, if_pos rfl]; exact a3
        · rw [a4 w a b]
          show _ = Q5 38 0 w
          have : w = 0 ∨ w = 1 ∨ w = 2 ∨ w = 3 := by omega
          rcases this with e | e | e | e <;> subst e <;> simp [rFilm, w38]
        · have := a5 s a b
          rw [this.1, this.2.1, this.2.2]
          have z : ∀ j, 0 ≤ j → j < 36 → Q5 35 0 j = N 42 0 j := fun j x y => by rw [q5 35 (by decide) (by decide) (by decide)]; exact h35 j x y
          exact ⟨(z (3 * s) (by omega) (by omega)).symm, (z (3 * s + 1) (by omega) (by omega)).symm, (z (3 * s + 2) (by omega) (by omega)).symm⟩
        · have := a6 p a b
          have wp := wf_p hwG a b
          rw [this.1, this.2.1, this.2.2.1, this.2.2.2.2.1]
          have z : ∀ j, 0 ≤ j → j < 77 → Q5 37 0 j = N 44 0 j := fun j x y => by rw [q5 37 (by decide) (by decide) (by decide)]; exact h37 j x (by omega)
          refine ⟨(z (11 * p) (by omega) (by omega)).symm, (z (11 * p + 1) (by omega) (by omega)).symm, (z (11 * p + 2) (by omega) (by omega)).symm, ?_, (z (11 * p + 4) (by omega) (by omega)).symm, fun v c d => ?_⟩
          · rw [this.2.2.2.1]
            exact (z (11 * p + 3) (by omega) (by omega)).symm
          · have q := this.2.2.2.2.2 v c d
            rw [q.1, q.2]
            exact ⟨(z (11 * p + 5 + 2 * v) (by omega) (by omega)).symm, (z (11 * p + 6 + 2 * v) (by omega) (by omega)).symm⟩
      have hpl : PlEq (fun _ => -4) (fun _ => -4) (Q5 45 0) (Q5 46 0) := fun q a b => ⟨(cl.2 q a b).1.symm, (cl.2 q a b).2.symm⟩
      have t30 : Q5 30 0 0 = M 30 0 0 := by rw [r30, v30, if_neg (by decide), if_neg (by decide), if_neg (by decide), if_neg (by decide), hA.tx.2]
      have e6 : R.2 3 0 0 = Q5 30 0 6 := hg.2.2.2.1
      show K (some (Q5 30 0 6)) Q5
      rw [← e6]
      refine k3 c c2 Q5 ⟨by rw [t30]; exact hI.1, hg.wf hwG, fun q a b => Or.inl ⟨(cl.2 q a b).1, (cl.2 q a b).2⟩⟩ ⟨fun r hr2 => ?_, t30, ?_, hg, hpl⟩
      · rw [q5 r (by omega) (by omega) (by omega), hr r (by omega) (by omega), o30 r (by omega)]
        funext i j
        exact hA r i j (by omega)
      · rw [q5 31 (by decide) (by decide) (by decide), hr 31 (by decide) (by decide), o30 31 (by decide)]
        exact hA.tx.1
    | succ n ih =>
      intro x Q x0 hx hr h35 h37
      refine sgX8_lay_79 C x ⟨fun z => absurd z (by omega), fun _ => ⟨by omega, by omega, fun Q1 d1 => ⟨by omega, ?_⟩⟩⟩
      have q1 : ∀ r, r ≠ 37 → Q1 r = Q r := fun r h => by funext i j; rw [d1, up3_r _ _ _ _ _ h]
      refine ih (x + 1) Q1 (by omega) (by omega) (fun r a b => by rw [q1 r b, hr r a b]) (fun j a b => by rw [q1 35 (by decide)]; exact h35 j a b) (fun j a b => ?_)
      rw [d1]
      by_cases z : j = x
      · rw [z, up3_s, hr 44 (by decide) (by decide), o30 44 (by decide)]
      · rw [up3_j _ _ _ _ _ z]
        exact h37 j a (by omega)
  have snds : ∀ (n : Nat) (x : Int) (Q : Mem), 0 ≤ x → x + n = 36 → (∀ r, r ≠ 35 → Q r = N4 r) → (∀ j, 0 ≤ j → j < x → Q 35 0 j = N 42 0 j) →
      V κ 2 Q 53 [some (.inr (30, 0)), some (.inl x)] [] K := by
    intro n
    induction n with
    | zero =>
      intro x Q x0 hx hr h35
      exact sgX8_lay_53 C x ⟨fun _ => pics 77 0 Q (by omega) (by omega) (fun r a _ => hr r a) (fun j a b => h35 j a (by omega)) (fun j a b => by omega), fun z => absurd (by omega) z⟩
    | succ n ih =>
      intro x Q x0 hx hr h35
      refine sgX8_lay_53 C x ⟨fun z => absurd z (by omega), fun _ => ⟨by omega, by omega, fun Q1 d1 => ⟨by omega, ?_⟩⟩⟩
      refine ih (x + 1) Q1 (by omega) (by omega) (fun r a => by rw [← hr r a]; funext i j; rw [d1, up3_r _ _ _ _ _ a]) (fun j a b => ?_)
      rw [d1]
      by_cases z : j = x
      · rw [z, up3_s, hr 42 (by decide), o30 42 (by decide)]
      · rw [up3_j _ _ _ _ _ z]
        exact h35 j a (by omega)
  exact snds 36 0 N4 (by omega) (by omega) (fun _ _ => rfl) (fun j a b => by omega)
