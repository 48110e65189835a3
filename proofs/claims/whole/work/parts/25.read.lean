/-! ===== TextReader.tellItem, read ===== -/
/-! ===== GapTellings$TextReader.tellItem ===== -/
abbrev rmX5_tellItem : Room := { frames := 7, cells := 0, slots := 0, locals := 159 }
abbrev argX5_tellItem (a : Int × Int) : List PV := [.inr (2, 0), .inl a.1, .inr (5, a.2)]
abbrev CtX5_tellItem (sp : Int → Int → Mem → Kont → Prop) : Prop := Ct yX5_tellItem cX5_tellItem 4 (some .boolean) rmX5_tellItem domC argX5_tellItem (fun a => sp a.1 a.2)
theorem dX5_tellItem_0 : decode cX5_tellItem 0 = .ok (.iload_n 1, 1) := by decide +kernel
theorem dX5_tellItem_1 : decode cX5_tellItem 1 = .ok (.bipush 102, 2) := by decide +kernel
theorem dX5_tellItem_3 : decode cX5_tellItem 3 = .ok (.if_icmp .ne 9, 3) := by decide +kernel
theorem dX5_tellItem_6 : decode cX5_tellItem 6 = .ok (.aload_n 0, 1) := by decide +kernel
theorem dX5_tellItem_7 : decode cX5_tellItem 7 = .ok (.aload_n 2, 1) := by decide +kernel
theorem dX5_tellItem_8 : decode cX5_tellItem 8 = .ok (.invokevirtual 42, 3) := by decide +kernel
theorem dX5_tellItem_11 : decode cX5_tellItem 11 = .ok (.ireturn, 1) := by decide +kernel
theorem dX5_tellItem_12 : decode cX5_tellItem 12 = .ok (.aload_n 2, 1) := by decide +kernel
theorem dX5_tellItem_13 : decode cX5_tellItem 13 = .ok (.getfield 46, 3) := by decide +kernel
theorem dX5_tellItem_16 : decode cX5_tellItem 16 = .ok (.ifCond .ne 5, 3) := by decide +kernel
theorem dX5_tellItem_19 : decode cX5_tellItem 19 = .ok (.iconst 0, 1) := by decide +kernel
theorem dX5_tellItem_20 : decode cX5_tellItem 20 = .ok (.ireturn, 1) := by decide +kernel
theorem dX5_tellItem_21 : decode cX5_tellItem 21 = .ok (.ldc 49, 2) := by decide +kernel
theorem dX5_tellItem_23 : decode cX5_tellItem 23 = .ok (.iload_n 1, 1) := by decide +kernel
theorem dX5_tellItem_24 : decode cX5_tellItem 24 = .ok (.invokevirtual 51, 3) := by decide +kernel
theorem dX5_tellItem_27 : decode cX5_tellItem 27 = .ok (.istore_n 3, 1) := by decide +kernel
theorem dX5_tellItem_28 : decode cX5_tellItem 28 = .ok (.iload_n 3, 1) := by decide +kernel
theorem dX5_tellItem_29 : decode cX5_tellItem 29 = .ok (.ifCond .lt 10, 3) := by decide +kernel
theorem dX5_tellItem_32 : decode cX5_tellItem 32 = .ok (.aload_n 0, 1) := by decide +kernel
theorem dX5_tellItem_33 : decode cX5_tellItem 33 = .ok (.aload_n 2, 1) := by decide +kernel
theorem dX5_tellItem_34 : decode cX5_tellItem 34 = .ok (.iload_n 3, 1) := by decide +kernel
theorem dX5_tellItem_35 : decode cX5_tellItem 35 = .ok (.invokevirtual 57, 3) := by decide +kernel
theorem dX5_tellItem_38 : decode cX5_tellItem 38 = .ok (.ireturn, 1) := by decide +kernel
theorem dX5_tellItem_39 : decode cX5_tellItem 39 = .ok (.iload_n 1, 1) := by decide +kernel
theorem dX5_tellItem_40 : decode cX5_tellItem 40 = .ok (.bipush 112, 2) := by decide +kernel
theorem dX5_tellItem_42 : decode cX5_tellItem 42 = .ok (.if_icmp .ne 9, 3) := by decide +kernel
theorem dX5_tellItem_45 : decode cX5_tellItem 45 = .ok (.aload_n 0, 1) := by decide +kernel
theorem dX5_tellItem_46 : decode cX5_tellItem 46 = .ok (.aload_n 2, 1) := by decide +kernel
theorem dX5_tellItem_47 : decode cX5_tellItem 47 = .ok (.invokevirtual 61, 3) := by decide +kernel
theorem dX5_tellItem_50 : decode cX5_tellItem 50 = .ok (.ireturn, 1) := by decide +kernel
theorem dX5_tellItem_51 : decode cX5_tellItem 51 = .ok (.iload_n 1, 1) := by decide +kernel
theorem dX5_tellItem_52 : decode cX5_tellItem 52 = .ok (.bipush 99, 2) := by decide +kernel
theorem dX5_tellItem_54 : decode cX5_tellItem 54 = .ok (.if_icmp .ne 9, 3) := by decide +kernel
theorem dX5_tellItem_57 : decode cX5_tellItem 57 = .ok (.aload_n 0, 1) := by decide +kernel
theorem dX5_tellItem_58 : decode cX5_tellItem 58 = .ok (.aload_n 2, 1) := by decide +kernel
theorem dX5_tellItem_59 : decode cX5_tellItem 59 = .ok (.invokevirtual 64, 3) := by decide +kernel
theorem dX5_tellItem_62 : decode cX5_tellItem 62 = .ok (.ireturn, 1) := by decide +kernel
theorem dX5_tellItem_63 : decode cX5_tellItem 63 = .ok (.iload_n 1, 1) := by decide +kernel
theorem dX5_tellItem_64 : decode cX5_tellItem 64 = .ok (.bipush 98, 2) := by decide +kernel
theorem dX5_tellItem_66 : decode cX5_tellItem 66 = .ok (.if_icmp .ne 15, 3) := by decide +kernel
theorem dX5_tellItem_69 : decode cX5_tellItem 69 = .ok (.aload_n 0, 1) := by decide +kernel
theorem dX5_tellItem_70 : decode cX5_tellItem 70 = .ok (.aload_n 2, 1) := by decide +kernel
theorem dX5_tellItem_71 : decode cX5_tellItem 71 = .ok (.invokevirtual 67, 3) := by decide +kernel
theorem dX5_tellItem_74 : decode cX5_tellItem 74 = .ok (.ifCond .eq 7, 3) := by decide +kernel
theorem dX5_tellItem_77 : decode cX5_tellItem 77 = .ok (.iconst 1, 1) := by decide +kernel
theorem dX5_tellItem_78 : decode cX5_tellItem 78 = .ok (.goto 4, 3) := by decide +kernel
theorem dX5_tellItem_81 : decode cX5_tellItem 81 = .ok (.iconst 0, 1) := by decide +kernel
theorem dX5_tellItem_82 : decode cX5_tellItem 82 = .ok (.ireturn, 1) := by decide +kernel
theorem ivX5_51 : IV RX5 51 yJ0_indexOf_0f7a4 cJ0_indexOf_0f7a4 2 (some .int) 1 := ⟨(tb_mem (t_in2 (List.mem_of_getElem? (i := 101) (by decide +kernel))) (by decide +kernel)), (tb_mem (t_in2 (List.mem_of_getElem? (i := 102) (by decide +kernel))) (by decide +kernel)), (tb_mem (t_in2 (List.mem_of_getElem? (i := 103) (by decide +kernel))) (by decide +kernel)), (tb_mem (t_in1 (List.mem_of_getElem? (i := 10) (by decide +kernel))) (by decide +kernel)), (tb_mem (t_in2 (List.mem_of_getElem? (i := 104) (by decide +kernel))) (by decide +kernel)), ⟨by decide +kernel, by decide +kernel, by decide +kernel⟩⟩
theorem ivX5_67 : IV RX5 67 yX5_tellBreath cX5_tellBreath 2 (some .boolean) 1 := ⟨(tb_mem (t_in2 (List.mem_of_getElem? (i := 190) (by decide +kernel))) (by decide +kernel)), (tb_mem (t_in2 (List.mem_of_getElem? (i := 191) (by decide +kernel))) (by decide +kernel)), (tb_mem (t_in2 (List.mem_of_getElem? (i := 192) (by decide +kernel))) (by decide +kernel)), (tb_mem (t_in1 (List.mem_of_getElem? (i := 2) (by decide +kernel))) (by decide +kernel)), (tb_mem (t_in2 (List.mem_of_getElem? (i := 193) (by decide +kernel))) (by decide +kernel)), ⟨by decide +kernel, by decide +kernel, by decide +kernel⟩⟩
theorem ivX5_64 : IV RX5 64 yX5_tellNeed cX5_tellNeed 2 (some .boolean) 1 := ⟨(tb_mem (t_in2 (List.mem_of_getElem? (i := 186) (by decide +kernel))) (by decide +kernel)), (tb_mem (t_in2 (List.mem_of_getElem? (i := 187) (by decide +kernel))) (by decide +kernel)), (tb_mem (t_in2 (List.mem_of_getElem? (i := 188) (by decide +kernel))) (by decide +kernel)), (tb_mem (t_in1 (List.mem_of_getElem? (i := 2) (by decide +kernel))) (by decide +kernel)), (tb_mem (t_in2 (List.mem_of_getElem? (i := 189) (by decide +kernel))) (by decide +kernel)), ⟨by decide +kernel, by decide +kernel, by decide +kernel⟩⟩
theorem ivX5_61 : IV RX5 61 yX5_tellPicture cX5_tellPicture 4 (some .boolean) 1 := ⟨(tb_mem (t_in2 (List.mem_of_getElem? (i := 166) (by decide +kernel))) (by decide +kernel)), (tb_mem (t_in2 (List.mem_of_getElem? (i := 167) (by decide +kernel))) (by decide +kernel)), (tb_mem (t_in2 (List.mem_of_getElem? (i := 168) (by decide +kernel))) (by decide +kernel)), (tb_mem (t_in1 (List.mem_of_getElem? (i := 2) (by decide +kernel))) (by decide +kernel)), (tb_mem (t_in2 (List.mem_of_getElem? (i := 169) (by decide +kernel))) (by decide +kernel)), ⟨by decide +kernel, by decide +kernel, by decide +kernel⟩⟩
theorem ivX5_57 : IV RX5 57 yX5_tellSound cX5_tellSound 3 (some .boolean) 2 := ⟨(tb_mem (t_in2 (List.mem_of_getElem? (i := 158) (by decide +kernel))) (by decide +kernel)), (tb_mem (t_in2 (List.mem_of_getElem? (i := 159) (by decide +kernel))) (by decide +kernel)), (tb_mem (t_in2 (List.mem_of_getElem? (i := 160) (by decide +kernel))) (by decide +kernel)), (tb_mem (t_in1 (List.mem_of_getElem? (i := 2) (by decide +kernel))) (by decide +kernel)), (tb_mem (t_in2 (List.mem_of_getElem? (i := 161) (by decide +kernel))) (by decide +kernel)), ⟨by decide +kernel, by decide +kernel, by decide +kernel⟩⟩
theorem ivX5_42 : IV RX5 42 yX5_tellFilm cX5_tellFilm 2 (some .boolean) 1 := ⟨(tb_mem (t_in2 (List.mem_of_getElem? (i := 96) (by decide +kernel))) (by decide +kernel)), (tb_mem (t_in2 (List.mem_of_getElem? (i := 97) (by decide +kernel))) (by decide +kernel)), (tb_mem (t_in2 (List.mem_of_getElem? (i := 98) (by decide +kernel))) (by decide +kernel)), (tb_mem (t_in1 (List.mem_of_getElem? (i := 2) (by decide +kernel))) (by decide +kernel)), (tb_mem (t_in2 (List.mem_of_getElem? (i := 99) (by decide +kernel))) (by decide +kernel)), ⟨by decide +kernel, by decide +kernel, by decide +kernel⟩⟩
set_option maxHeartbeats 4000000 in
set_option maxRecDepth 20000 in
theorem sgX5_tellItem_0 {κ : Kx} {K : Kont} {M : Mem} (C : Cx κ RX5 cX5_tellItem 4 (some .boolean) rmX5_tellItem domC) (x1 : Int) (i2 : Int)
    (h :
    ((x1 ≠ 102 →
      (((M 5 i2 0) ≠ 0 →
        (0 ≤ x1 ∧ x1 < 65536) ∧
        ∀ y3_27 : Int, y3_27 = ixP x1 →
        ((y3_27 < 0 →
          ((x1 ≠ 112 →
            ((x1 ≠ 99 →
              ((x1 ≠ 98 →
                K (some 0) M) ∧
               (¬ (x1 ≠ 98) →
                spX5_tellBreath i2 M (rI (fun r71 M71 =>
                ((r71 = 0 →
                  K (some 0) M71) ∧
                 (¬ (r71 = 0) →
                  K (some 1) M71))))))) ∧
             (¬ (x1 ≠ 99) →
              spX5_tellNeed i2 M (rI (fun r59 M59 =>
              (r59 = 0 ∨ r59 = 1) ∧ K (some r59) M59))))) ∧
           (¬ (x1 ≠ 112) →
            spX5_tellPicture i2 M (rI (fun r47 M47 =>
            (r47 = 0 ∨ r47 = 1) ∧ K (some r47) M47))))) ∧
         (¬ (y3_27 < 0) →
          spX5_tellSound i2 y3_27 M (rI (fun r35 M35 =>
          (r35 = 0 ∨ r35 = 1) ∧ K (some r35) M35))))) ∧
       (¬ ((M 5 i2 0) ≠ 0) →
        K (some 0) M))) ∧
     (¬ (x1 ≠ 102) →
      spX5_tellFilm i2 M (rI (fun r8 M8 =>
      (r8 = 0 ∨ r8 = 1) ∧ K (some r8) M8))))) : V κ 4 M 0 [some (.inr (2, 0)), some (.inl x1), some (.inr (5, i2)), none] [] K := by
  refine v_iload_n C dX5_tellItem_0 rfl ?_
  refine v_bipush C dX5_tellItem_1 (by decide) (by decide) ?_
  refine v_icmp C dX5_tellItem_3 (tgt := 12) (by decide) (P := x1 ≠ 102) rfl (fun c3 => ?_) (fun c3 => ?_)
  · replace h := h.1 c3
    refine v_aload_n C dX5_tellItem_12 rfl ?_
    refine v_get C dX5_tellItem_13 flX5_46 rfl (by decide) (by decide) (w := .inl (M 5 i2 0)) rfl ?_
    refine v_if C dX5_tellItem_16 (tgt := 21) (by decide) (P := (M 5 i2 0) ≠ 0) rfl (fun c16 => ?_) (fun c16 => ?_)
    · replace h := h.1 c16
      refine v_idx C dX5_tellItem_21 dX5_tellItem_23 dX5_tellItem_24 rfl h.1.1 h.1.2 ivX5_51 ⟨by decide, by decide, rfl, rfl⟩ (Nat.le_of_ble_eq_true rfl) ?_
      replace h := h.2
      refine v_nm (fun y3_27 ey3_27 => ?_)
      replace h := h y3_27 ey3_27
      refine v_istore_n C dX5_tellItem_27 (by decide) (Nat.le_of_ble_eq_true rfl) (lv' := [some (.inr (2, 0)), some (.inl x1), some (.inr (5, i2)), some (.inl y3_27)]) rfl ?_
      refine v_iload_n C dX5_tellItem_28 rfl ?_
      refine v_if C dX5_tellItem_29 (tgt := 39) (by decide) (P := y3_27 < 0) rfl (fun c29 => ?_) (fun c29 => ?_)
      · replace h := h.1 c29
        refine v_iload_n C dX5_tellItem_39 rfl ?_
        refine v_bipush C dX5_tellItem_40 (by decide) (by decide) ?_
        refine v_icmp C dX5_tellItem_42 (tgt := 51) (by decide) (P := x1 ≠ 112) rfl (fun c42 => ?_) (fun c42 => ?_)
        · replace h := h.1 c42
          refine v_iload_n C dX5_tellItem_51 rfl ?_
          refine v_bipush C dX5_tellItem_52 (by decide) (by decide) ?_
          refine v_icmp C dX5_tellItem_54 (tgt := 63) (by decide) (P := x1 ≠ 99) rfl (fun c54 => ?_) (fun c54 => ?_)
          · replace h := h.1 c54
            refine v_iload_n C dX5_tellItem_63 rfl ?_
            refine v_bipush C dX5_tellItem_64 (by decide) (by decide) ?_
            refine v_icmp C dX5_tellItem_66 (tgt := 81) (by decide) (P := x1 ≠ 98) rfl (fun c66 => ?_) (fun c66 => ?_)
            · replace h := h.1 c66
              refine v_iconst C dX5_tellItem_81 (by decide) ?_
              exact v_zret C dX5_tellItem_82 (by decide) h
            · replace h := h.2 c66
              refine v_aload_n C dX5_tellItem_69 rfl ?_
              refine v_aload_n C dX5_tellItem_70 rfl ?_
              refine v_invV C ctX5_tellBreath dX5_tellItem_71 ivX5_67 ⟨by decide, by decide, rfl, rfl⟩ (i2 : Int) (As := [.inr (5, i2)]) rfl rfl rfl (by decide) rfl (st := []) rfl (Nat.le_of_ble_eq_true rfl) h (fun o M71 oM71 io71 g71 => ?_)
              replace h := rI_out g71
              clear g71
              obtain ⟨r71, rfl, h⟩ := h
              refine v_push ?_
              refine v_if C dX5_tellItem_74 (tgt := 81) (by decide) (P := r71 = 0) rfl (fun c74 => ?_) (fun c74 => ?_)
              · replace h := h.1 c74
                refine v_iconst C dX5_tellItem_81 (by decide) ?_
                exact v_zret C dX5_tellItem_82 (by decide) h
              · replace h := h.2 c74
                refine v_iconst C dX5_tellItem_77 (by decide) ?_
                refine v_goto C dX5_tellItem_78 (tgt := 82) (by decide) ?_
                exact v_zret C dX5_tellItem_82 (by decide) h
          · replace h := h.2 c54
            refine v_aload_n C dX5_tellItem_57 rfl ?_
            refine v_aload_n C dX5_tellItem_58 rfl ?_
            refine v_invV C ctX5_tellNeed dX5_tellItem_59 ivX5_64 ⟨by decide, by decide, rfl, rfl⟩ (i2 : Int) (As := [.inr (5, i2)]) rfl rfl rfl (by decide) rfl (st := []) rfl (Nat.le_of_ble_eq_true rfl) h (fun o M59 oM59 io59 g59 => ?_)
            replace h := rI_out g59
            clear g59
            obtain ⟨r59, rfl, h⟩ := h
            refine v_push ?_
            exact v_zret C dX5_tellItem_62 h.1 h.2
        · replace h := h.2 c42
          refine v_aload_n C dX5_tellItem_45 rfl ?_
          refine v_aload_n C dX5_tellItem_46 rfl ?_
          refine v_invV C ctX5_tellPicture dX5_tellItem_47 ivX5_61 ⟨by decide, by decide, rfl, rfl⟩ (i2 : Int) (As := [.inr (5, i2)]) rfl rfl rfl (by decide) rfl (st := []) rfl (Nat.le_of_ble_eq_true rfl) h (fun o M47 oM47 io47 g47 => ?_)
          replace h := rI_out g47
          clear g47
          obtain ⟨r47, rfl, h⟩ := h
          refine v_push ?_
          exact v_zret C dX5_tellItem_50 h.1 h.2
      · replace h := h.2 c29
        refine v_aload_n C dX5_tellItem_32 rfl ?_
        refine v_aload_n C dX5_tellItem_33 rfl ?_
        refine v_iload_n C dX5_tellItem_34 rfl ?_
        refine v_invV C ctX5_tellSound dX5_tellItem_35 ivX5_57 ⟨by decide, by decide, rfl, rfl⟩ ((i2, y3_27) : Int × Int) (As := [.inr (5, i2), .inl y3_27]) rfl rfl rfl (by decide) rfl (st := []) rfl (Nat.le_of_ble_eq_true rfl) h (fun o M35 oM35 io35 g35 => ?_)
        replace h := rI_out g35
        clear g35
        obtain ⟨r35, rfl, h⟩ := h
        refine v_push ?_
        exact v_zret C dX5_tellItem_38 h.1 h.2
    · replace h := h.2 c16
      refine v_iconst C dX5_tellItem_19 (by decide) ?_
      exact v_zret C dX5_tellItem_20 (by decide) h
  · replace h := h.2 c3
    refine v_aload_n C dX5_tellItem_6 rfl ?_
    refine v_aload_n C dX5_tellItem_7 rfl ?_
    refine v_invV C ctX5_tellFilm dX5_tellItem_8 ivX5_42 ⟨by decide, by decide, rfl, rfl⟩ (i2 : Int) (As := [.inr (5, i2)]) rfl rfl rfl (by decide) rfl (st := []) rfl (Nat.le_of_ble_eq_true rfl) h (fun o M8 oM8 io8 g8 => ?_)
    replace h := rI_out g8
    clear g8
    obtain ⟨r8, rfl, h⟩ := h
    refine v_push ?_
    exact v_zret C dX5_tellItem_11 h.1 h.2
def knd (x : Int) : Int := if x = 115 then 0 else if x = 103 then 1 else 2
def itS (F : Film) (x : Int) (l : List (Int × Int)) : Option Film :=
  if x = 102 then itF F l else if F 0 0 0 = 0 then none else if x = 115 ∨ x = 103 ∨ x = 110 then itO F (knd x) l else if x = 112 then itP F l else if x = 99 then itN F l else if x = 98 then itB F l else none
abbrev spX5_tellItem (x f : Int) (M : Mem) (K : Kont) : Prop := ((0 ≤ x ∧ x < 65536) ∧ WFf (cFilm M f)) ∧ ∃ l, RdK M l ∧ resK M f K (itS (cFilm M f) x l)
theorem resK_mono {M : Mem} {f : Int} {K K' : Kont} (h0 : ∀ N, K (some 0) N → K' (some 0) N) (h1 : ∀ N, K (some 1) N → K' (some 1) N) : ∀ {o : Option Film}, resK M f K o → resK M f K' o
  | none, h => h0 _ h
  | some _, h => fun N a b => h1 _ (h N a b)
theorem ixP_neg {x : Int} : ixP x < 0 ↔ ¬ (x = 115 ∨ x = 103 ∨ x = 110) := by
  unfold ixP
  by_cases a : x = 115
  · rw [if_pos a]; omega
  by_cases b : x = 103
  · rw [if_neg a, if_pos b]; omega
  by_cases c : x = 110
  · rw [if_neg a, if_neg b, if_pos c]; omega
  rw [if_neg a, if_neg b, if_neg c]; omega
theorem ixP_knd {x : Int} (h : x = 115 ∨ x = 103 ∨ x = 110) : ixP x = knd x := by
  rcases h with rfl | rfl | rfl <;> rfl
theorem ctX5_tellItem : CtX5_tellItem spX5_tellItem := by
  refine ct_of (by decide) dmC (fun _ => Nat.le_of_ble_eq_true rfl) ?_
  intro κ a M K C oM h
  obtain ⟨x, f⟩ := a
  obtain ⟨⟨hx, hw⟩, l, hr, hk⟩ := h
  have hx : 0 ≤ x ∧ x < 65536 := hx
  have mono : ∀ {o : Option Film}, resK M f K o → resK M f (rI (fun r N => (r = 0 ∨ r = 1) ∧ K (some r) N)) o := fun {o} h => resK_mono (fun N h => ⟨Or.inl rfl, h⟩) (fun N h => ⟨Or.inr rfl, h⟩) h
  have hk : resK M f K (itS (cFilm M f) x l) := hk
  have hw : WFf (cFilm M f) := hw
  unfold itS at hk
  have eT : cFilm M f 0 0 0 = M 5 f 0 := rfl
  rw [eT] at hk
  refine sgX5_tellItem_0 C x f ⟨fun c => ⟨fun c2 => ⟨hx, fun y ey => ⟨fun c3 => ⟨fun c4 => ⟨fun c5 => ⟨fun c6 => ?_, fun c6 => ?_⟩, fun c5 => ?_⟩, fun c4 => ?_⟩, fun c3 => ?_⟩⟩, fun c2 => ?_⟩, fun c => ?_⟩
  · rw [ey] at c3
    rw [if_neg c, if_neg c2, if_neg (ixP_neg.mp c3), if_neg c4, if_neg c5, if_neg c6] at hk
    exact hk
  · rw [ey] at c3
    rw [if_neg c, if_neg c2, if_neg (ixP_neg.mp c3), if_neg c4, if_neg c5, if_pos (by omega)] at hk
    exact ⟨l, hr, resK_mono (fun N h => ⟨fun _ => h, fun z => absurd rfl z⟩) (fun N h => ⟨fun z => absurd z (by decide), fun _ => h⟩) hk⟩
  · rw [ey] at c3
    rw [if_neg c, if_neg c2, if_neg (ixP_neg.mp c3), if_neg c4, if_pos (by omega)] at hk
    exact ⟨hw.2.2.2.1.2, l, hr, mono hk⟩
  · rw [ey] at c3
    rw [if_neg c, if_neg c2, if_neg (ixP_neg.mp c3), if_pos (by omega)] at hk
    exact ⟨hw.2.2.2.1.1, l, hr, mono hk⟩
  · have hq : x = 115 ∨ x = 103 ∨ x = 110 := by
      rcases Classical.em (x = 115 ∨ x = 103 ∨ x = 110) with z | z
      · exact z
      · exact absurd (by rw [ey]; exact ixP_neg.mpr z) c3
    rw [if_neg c, if_neg c2, if_pos hq] at hk
    rw [ey, ixP_knd hq]
    exact ⟨hw.2.2.1.1, l, hr, mono hk⟩
  · rw [if_neg c, if_pos (by omega)] at hk
    exact hk
  · rw [if_pos (by omega)] at hk
    exact ⟨l, hr, mono hk⟩
/-- all the films that the readings go through are well made -/
theorem vok_at {l : List (Int × Int)} : ∀ (n i : Nat), vok l n i = true → ∀ j, j < n → i + 2 * j + 1 < l.length → 1 ≤ aN l (i + 2 * j) ∧ aN l (i + 2 * j) ≤ 30 ∧ 1 ≤ aN l (i + 2 * j + 1) ∧ aN l (i + 2 * j + 1) ≤ 99 := by
  intro n
  induction n with
  | zero => intro i _ j hj; omega
  | succ n ih =>
    intro i h j hj hl
    unfold vok at h
    rw [if_pos (by omega), Bool.and_eq_true, decide_eq_true_eq] at h
    cases j with
    | zero => simpa using h.1
    | succ j =>
      have := ih (i + 2) h.2 j (by omega) (by omega)
      have e : i + 2 * (j + 1) = i + 2 + 2 * j := by omega
      rw [e]
      exact this
/-- the versions that are added -/
theorem avs_spec {p : Int} {l : List (Int × Int)} : ∀ (n i : Nat) (F : Film), (∀ t a b, ¬ (t = 11 ∧ a = p) → ¬ ((t = 13 ∨ t = 14) ∧ a = p) → avs F p l n i t a b = F t a b) := by
  intro n
  induction n with
  | zero => intro i F t a b _ _; rfl
  | succ n ih =>
    intro i F t a b h1 h2
    unfold avs
    split
    · rw [ih (i + 2) _ t a b h1 h2]
      unfold sFV
      rw [if_neg (fun z => h2 ⟨Or.inl z.1, z.2.1⟩), if_neg (fun z => h2 ⟨Or.inr z.1, z.2.1⟩), if_neg h1]
    · rfl
theorem avs_ver {p : Int} {l : List (Int × Int)} : ∀ (n i : Nat) (F : Film), i + 2 * n = 11 → i ≤ l.length → (l.length - i) % 2 = 0 → l.length ≤ 9 → 0 ≤ F 11 p 0 →
    avs F p l n i 11 p 0 = F 11 p 0 + ((l.length - i) / 2 : Nat) ∧ (∀ v, v < F 11 p 0 → avs F p l n i 13 p v = F 13 p v ∧ avs F p l n i 14 p v = F 14 p v) ∧
    ∀ j : Nat, i + 2 * j + 1 < l.length → avs F p l n i 13 p (F 11 p 0 + j) = aN l (i + 2 * j) ∧ avs F p l n i 14 p (F 11 p 0 + j) = aN l (i + 2 * j + 1) := by
  intro n
  induction n with
  | zero => intro i F hn hi _ hl _; omega
  | succ n ih =>
    intro i F hn hi hp hl h0
    unfold avs
    by_cases c : i + 1 < l.length
    · rw [if_pos c]
      have f11 : sFV F p (aN l i) (aN l (i + 1)) 11 p 0 = F 11 p 0 + 1 := by unfold sFV; simp
      have ihh := ih (i + 2) (sFV F p (aN l i) (aN l (i + 1))) (by omega) (by omega) (by omega) hl (by rw [f11]; omega)
      rw [f11] at ihh
      obtain ⟨a1, a2, a3⟩ := ihh
      refine ⟨by rw [a1]; omega, fun v hv => ?_, fun j hj => ?_⟩
      · have := a2 v (by omega)
        rw [this.1, this.2]
        unfold sFV
        have hne : ¬ v = F 11 p 0 := by omega
        simp [hne]
      · cases j with
        | zero =>
          have := a2 (F 11 p 0) (by omega)
          have e : F 11 p 0 + ((0 : Nat) : Int) = F 11 p 0 := by omega
          rw [e, this.1, this.2]
          unfold sFV
          simp
        | succ j =>
          have := a3 j (by omega)
          have e : F 11 p 0 + ((j + 1 : Nat) : Int) = F 11 p 0 + 1 + j := by omega
          have e2 : i + 2 * (j + 1) = i + 2 + 2 * j := by omega
          rw [e, e2]
          exact this
    · rw [if_neg c]
      refine ⟨by have : (l.length - i) / 2 = 0 := by omega
                 rw [this]; simp, fun v _ => ⟨rfl, rfl⟩, fun j hj => by omega⟩
def lOk (l : List (Int × Int)) : Prop := (1 ≤ l.length ∧ l.length ≤ 9) ∧ ∀ q ∈ l, (0 ≤ q.1 ∧ q.1 ≤ 999) ∧ (1 ≤ q.2 ∧ q.2 ≤ 3)
theorem lOk.at {l : List (Int × Int)} (h : lOk l) (k : Nat) : 0 ≤ aN l k ∧ aN l k ≤ 999 := by
  unfold aN
  by_cases hk : k < l.length
  · have e : l.getD k (0, 0) = l[k] := by rw [List.getD_eq_getElem?_getD, List.getElem?_eq_getElem hk]; rfl
    rw [e]
    exact (h.2 _ (List.getElem_mem hk)).1
  · have e : l.getD k (0, 0) = (0, 0) := by rw [List.getD_eq_getElem?_getD, List.getElem?_eq_none (by omega)]; rfl
    rw [e]
    decide
theorem itS_wf {F F' : Film} (hf : WFf F) {x : Int} {l : List (Int × Int)} (hl : lOk l) (h : itS F x l = some F') : WFf F' := by
  obtain ⟨h1, h2, h3, h4, h5, h6, h7⟩ := hf
  have a0 := hl.at 0
  have a1 := hl.at 1
  have a2 := hl.at 2
  unfold itS at h
  by_cases x1 : x = 102
  · rw [if_pos x1] at h
    unfold itF at h
    by_cases c : F 0 0 0 = 0 ∧ l.length = 1 ∧ 1 ≤ aN l 0 ∧ aN l 0 ≤ 100
    · rw [if_pos c] at h
      cases h
      -- with no ticks there is no sound and no picture that is checked against them
      refine ⟨by unfold sFT; simp; omega, by unfold sFT; simpa using h2, by unfold sFT; simpa using h3, by unfold sFT; simpa using h4, fun w a b => by unfold sFT; simpa using h5 w a b, fun s a b => ?_, fun p a b => ?_⟩
      · have b' : s < F 2 0 0 := by simpa [sFT] using b
        have := h6 s a b'
        unfold WFs at this ⊢
        simp only [sFT] at *
        simp
        omega
      · have b' : p < F 3 0 0 := by simpa [sFT] using b
        have := h7 p a b'
        unfold WFp at this
        omega
    · rw [if_neg c] at h
      cases h
  · rw [if_neg x1] at h
    by_cases xt : F 0 0 0 = 0
    · rw [if_pos xt] at h
      cases h
    · rw [if_neg xt] at h
      by_cases x2 : x = 115 ∨ x = 103 ∨ x = 110
      · rw [if_pos x2] at h
        have hk : 0 ≤ knd x ∧ knd x ≤ 2 := by
          unfold knd
          split
          · omega
          · split <;> omega
        unfold itO at h
        by_cases c : l.length = 2 ∧ cN l 0 ≤ 2 ∧ aN l 0 < aN l 1 ∧ aN l 1 ≤ F 0 0 0 ∧ F 2 0 0 < 12
        · rw [if_pos c] at h
          cases h
          refine ⟨by unfold sFS; simpa using h1, by unfold sFS; simpa using h2, by unfold sFS; simp; omega, by unfold sFS; simpa using h4, fun w a b => by unfold sFS; simpa using h5 w a b, fun s a b => ?_, fun p a b => ?_⟩
          · have b' : s < F 2 0 0 + 1 := by simpa [sFS] using b
            unfold WFs sFS
            by_cases e : s = F 2 0 0
            · simp [e]
              omega
            · have := h6 s a (by omega)
              unfold WFs at this
              simp [e]
              omega
          · have b' : p < F 3 0 0 := by simpa [sFS] using b
            have := h7 p a b'
            unfold WFp at this ⊢
            simpa [sFS] using this
        · rw [if_neg c] at h
          cases h
      · rw [if_neg x2] at h
        by_cases x3 : x = 112
        · rw [if_pos x3] at h
          unfold itP at h
          by_cases c : F 3 0 0 < 7 ∧ picOk (F 0 0 0) l
          · rw [if_pos c] at h
            cases h
            obtain ⟨c1, c2, c3, c4, c5, c6, c7, c8⟩ := c
            have ll := hl.1
            have sp := avs_spec (p := F 3 0 0) (l := l) 4 3 (sFP F (F 3 0 0) (aN l 0) (aN l 1) (aN l 2))
            have f11 : sFP F (F 3 0 0) (aN l 0) (aN l 1) (aN l 2) 11 (F 3 0 0) 0 = 0 := by unfold sFP; simp
            have av := avs_ver (p := F 3 0 0) (l := l) 4 3 (sFP F (F 3 0 0) (aN l 0) (aN l 1) (aN l 2)) (by omega) (by omega) (by omega) (by omega) (by rw [f11]; omega)
            rw [f11] at av
            have g : ∀ t a b, t ≠ 3 → sFC (avs (sFP F (F 3 0 0) (aN l 0) (aN l 1) (aN l 2)) (F 3 0 0) l 4 3) (F 3 0 0 + 1) t a b = avs (sFP F (F 3 0 0) (aN l 0) (aN l 1) (aN l 2)) (F 3 0 0) l 4 3 t a b := by
              intro t a b ht
              unfold sFC
              rw [if_neg ht]
            have g3 : sFC (avs (sFP F (F 3 0 0) (aN l 0) (aN l 1) (aN l 2)) (F 3 0 0) l 4 3) (F 3 0 0 + 1) 3 0 0 = F 3 0 0 + 1 := by unfold sFC; simp
            have low : ∀ t a b, t < 8 → t ≠ 3 → sFC (avs (sFP F (F 3 0 0) (aN l 0) (aN l 1) (aN l 2)) (F 3 0 0) l 4 3) (F 3 0 0 + 1) t a b = F t a b := by
              intro t a b ht h3
              rw [g t a b h3, sp t a b (by omega) (by omega)]
              unfold sFP
              rw [if_neg (by omega), if_neg (by omega), if_neg (by omega), if_neg (by omega), if_neg (by omega)]
            have oth : ∀ t a b, t ≠ 3 → a ≠ F 3 0 0 → sFC (avs (sFP F (F 3 0 0) (aN l 0) (aN l 1) (aN l 2)) (F 3 0 0) l 4 3) (F 3 0 0 + 1) t a b = F t a b := by
              intro t a b h3 ha
              rw [g t a b h3, sp t a b (fun z => ha z.2) (fun z => ha z.2)]
              unfold sFP
              rw [if_neg (fun z => ha z.2), if_neg (fun z => ha z.2), if_neg (fun z => ha z.2), if_neg (fun z => ha z.2), if_neg (fun z => ha z.2)]
            refine ⟨by rw [low 0 _ _ (by decide) (by decide)]; exact h1, by rw [low 1 _ _ (by decide) (by decide)]; exact h2, by rw [low 2 _ _ (by decide) (by decide)]; exact h3, by rw [g3]; omega, fun w a b => by rw [low 4 _ _ (by decide) (by decide)]; exact h5 w a b, fun s a b => ?_, fun p a b => ?_⟩
            · rw [low 2 _ _ (by decide) (by decide)] at b
              have := h6 s a b
              unfold WFs at this ⊢
              rw [low 5 _ _ (by decide) (by decide), low 6 _ _ (by decide) (by decide), low 7 _ _ (by decide) (by decide), low 0 _ _ (by decide) (by decide)]
              exact this
            · rw [g3] at b
              unfold WFp
              rw [low 0 _ _ (by decide) (by decide)]
              by_cases e : p = F 3 0 0
              · subst e
                have q8 : sFC (avs (sFP F (F 3 0 0) (aN l 0) (aN l 1) (aN l 2)) (F 3 0 0) l 4 3) (F 3 0 0 + 1) 8 (F 3 0 0) 0 = aN l 0 := by rw [g 8 _ _ (by decide), sp 8 _ _ (by omega) (by omega)]; unfold sFP; simp
                have q9 : sFC (avs (sFP F (F 3 0 0) (aN l 0) (aN l 1) (aN l 2)) (F 3 0 0) l 4 3) (F 3 0 0 + 1) 9 (F 3 0 0) 0 = aN l 1 := by rw [g 9 _ _ (by decide), sp 9 _ _ (by omega) (by omega)]; unfold sFP; simp
                have q10 : sFC (avs (sFP F (F 3 0 0) (aN l 0) (aN l 1) (aN l 2)) (F 3 0 0) l 4 3) (F 3 0 0 + 1) 10 (F 3 0 0) 0 = aN l 2 := by rw [g 10 _ _ (by decide), sp 10 _ _ (by omega) (by omega)]; unfold sFP; simp
                have q12 : sFC (avs (sFP F (F 3 0 0) (aN l 0) (aN l 1) (aN l 2)) (F 3 0 0) l 4 3) (F 3 0 0 + 1) 12 (F 3 0 0) 0 = -4 := by rw [g 12 _ _ (by decide), sp 12 _ _ (by omega) (by omega)]; unfold sFP; simp
                have q11 : sFC (avs (sFP F (F 3 0 0) (aN l 0) (aN l 1) (aN l 2)) (F 3 0 0) l 4 3) (F 3 0 0 + 1) 11 (F 3 0 0) 0 = ((l.length - 3) / 2 : Nat) := by rw [g 11 _ _ (by decide), av.1]; omega
                rw [q8, q9, q10, q11, q12]
                refine ⟨by omega, by omega, by omega, by omega, Or.inl rfl, fun v v0 v1 => ?_⟩
                rw [g 13 _ _ (by decide), g 14 _ _ (by decide)]
                have q := av.2.2 v.toNat (by omega)
                have ev : (0 : Int) + (v.toNat : Int) = v := by omega
                rw [ev] at q
                rw [q.1, q.2]
                have := vok_at 4 3 c8 v.toNat (by omega) (by omega)
                omega
              · have := h7 p a (by omega)
                unfold WFp at this
                simp only [oth 8 p _ (by decide) e, oth 9 p _ (by decide) e, oth 10 p _ (by decide) e, oth 11 p _ (by decide) e, oth 12 p _ (by decide) e, oth 13 p _ (by decide) e, oth 14 p _ (by decide) e]
                exact this
          · rw [if_neg c] at h
            cases h
        · rw [if_neg x3] at h
          by_cases x4 : x = 99
          · rw [if_pos x4] at h
            unfold itN at h
            by_cases c : l.length = 2 ∧ shortB l = true ∧ aN l 1 < F 3 0 0 ∧ aN l 0 < aN l 1 ∧ F 12 (aN l 1) 0 = -4
            · rw [if_pos c] at h
              cases h
              refine ⟨by unfold sFN; simpa using h1, by unfold sFN; simpa using h2, by unfold sFN; simpa using h3, by unfold sFN; simpa using h4, fun w a b => by unfold sFN; simpa using h5 w a b, fun s a b => ?_, fun p a b => ?_⟩
              · have b' : s < F 2 0 0 := by simpa [sFN] using b
                have := h6 s a b'
                unfold WFs at this ⊢
                simpa [sFN] using this
              · have b' : p < F 3 0 0 := by simpa [sFN] using b
                have := h7 p a b'
                unfold WFp at this ⊢
                by_cases e : p = aN l 1
                · subst e
                  unfold sFN
                  exact ⟨by simpa using this.1, by simpa using this.2.1, by simpa using this.2.2.1, by simpa using this.2.2.2.1, Or.inr (by simp; omega), fun v v0 v1 => by simpa using this.2.2.2.2.2 v v0 (by simpa using v1)⟩
                · simpa [sFN, e] using this
            · rw [if_neg c] at h
              cases h
          · rw [if_neg x4] at h
            by_cases x5 : x = 98
            · rw [if_pos x5] at h
              unfold itB at h
              by_cases c : l.length = 1 ∧ shortB l = true ∧ aN l 0 ≤ 9
              · rw [if_pos c] at h
                cases h
                refine ⟨by unfold sFB; simpa using h1, by unfold sFB; simp; omega, by unfold sFB; simpa using h3, by unfold sFB; simpa using h4, fun w a b => by unfold sFB; simpa using h5 w a b, fun s a b => ?_, fun p a b => ?_⟩
                · have b' : s < F 2 0 0 := by simpa [sFB] using b
                  have := h6 s a b'
                  unfold WFs at this ⊢
                  simpa [sFB] using this
                · have b' : p < F 3 0 0 := by simpa [sFB] using b
                  have := h7 p a b'
                  unfold WFp at this ⊢
                  simpa [sFB] using this
              · rw [if_neg c] at h
                cases h
            · rw [if_neg x5] at h
              cases h
theorem sF0_wf (F : Film) : WFf (sF0 F) := by
  refine ⟨by simp [sF0], by simp [sF0], by simp [sF0], by simp [sF0], fun w a b => ?_, fun s a b => ?_, fun p a b => ?_⟩
  · have : w = 0 ∨ w = 1 ∨ w = 2 ∨ w = 3 := by omega
    rcases this with e | e | e | e <;> subst e <;> simp [sF0]
  · simp [sF0] at b
    omega
  · simp [sF0] at b
    omega
/-- a text read: the place of the first item that is not so, or -4; the film then -/
def psr (X : Int → Int) (L : Int) : Nat → Int → Film → Int × Film
  | 0, _, F => (-4, F)
  | n + 1, p, F => if L ≤ p then (-4, F) else match tks X L 9 (p + 1) with
    | none => (p, F)
    | some q => match itS F (X p) q.1 with
      | none => (p, F)
      | some F' => psr X L n q.2 F'
/-- nothing but the reader and a film has changed -/
def AgD (M M' : Mem) (f : Int) : Prop := ∀ r i j, ¬ ((2 ≤ r ∧ r ≤ 4) ∨ ((5 ≤ r ∧ r ≤ 9) ∧ i = f) ∨ ((11 ≤ r ∧ r ≤ 13) ∧ 7 * f ≤ i ∧ i < 7 * f + 7)) → M' r i j = M r i j
theorem AgD.rf {M : Mem} {f : Int} : AgD M M f := fun _ _ _ _ => rfl
theorem AgD.tr {M M' M2 : Mem} {f : Int} (h : AgD M M' f) (h2 : AgD M' M2 f) : AgD M M2 f := fun r i j hn => (h2 r i j hn).trans (h r i j hn)
theorem AgR.toD {M M' : Mem} (h : AgR M M') (f : Int) : AgD M M' f := fun r i j hn => by rw [h r (fun z => hn (Or.inl z))]
theorem AgM.toD {M M' : Mem} {f : Int} (h : AgM M M' f) : AgD M M' f := fun r i j hn => h r i j (fun z => hn (Or.inr z))
theorem AgD.reg {M M' : Mem} {f : Int} (h : AgD M M' f) {r : Nat} (hr : r < 2 ∨ 13 < r ∨ r = 10) : M' r = M r := by
  funext i j
  exact h r i j (by omega)
/-! ===== GapTellings$TextReader.read ===== -/
abbrev rmX5_read : Room := { frames := 8, cells := 0, slots := 0, locals := 182 }
abbrev argX5_read (a : Int × Int) : List PV := [.inr (2, 0), .inr (1, 0), .inl a.1, .inr (5, a.2)]
abbrev CtX5_read (sp : Int → Int → Mem → Kont → Prop) : Prop := Ct yX5_read cX5_read 6 (some .int) rmX5_read domC argX5_read (fun a => sp a.1 a.2)
theorem dX5_read_0 : decode cX5_read 0 = .ok (.aload_n 3, 1) := by decide +kernel
theorem dX5_read_1 : decode cX5_read 1 = .ok (.invokevirtual 18, 3) := by decide +kernel
theorem dX5_read_4 : decode cX5_read 4 = .ok (.aload_n 0, 1) := by decide +kernel
theorem dX5_read_5 : decode cX5_read 5 = .ok (.iconst 0, 1) := by decide +kernel
theorem dX5_read_6 : decode cX5_read 6 = .ok (.putfield 23, 3) := by decide +kernel
theorem dX5_read_9 : decode cX5_read 9 = .ok (.iconst 0, 1) := by decide +kernel
theorem dX5_read_10 : decode cX5_read 10 = .ok (.istore 4, 2) := by decide +kernel
theorem dX5_read_12 : decode cX5_read 12 = .ok (.iload 4, 2) := by decide +kernel
theorem dX5_read_14 : decode cX5_read 14 = .ok (.iload_n 2, 1) := by decide +kernel
theorem dX5_read_15 : decode cX5_read 15 = .ok (.if_icmp .ge 47, 3) := by decide +kernel
theorem dX5_read_18 : decode cX5_read 18 = .ok (.aload_n 0, 1) := by decide +kernel
theorem dX5_read_19 : decode cX5_read 19 = .ok (.getfield 23, 3) := by decide +kernel
theorem dX5_read_22 : decode cX5_read 22 = .ok (.iload_n 2, 1) := by decide +kernel
theorem dX5_read_23 : decode cX5_read 23 = .ok (.if_icmp .ge 39, 3) := by decide +kernel
theorem dX5_read_26 : decode cX5_read 26 = .ok (.aload_n 0, 1) := by decide +kernel
theorem dX5_read_27 : decode cX5_read 27 = .ok (.getfield 23, 3) := by decide +kernel
theorem dX5_read_30 : decode cX5_read 30 = .ok (.istore 5, 2) := by decide +kernel
theorem dX5_read_32 : decode cX5_read 32 = .ok (.aload_n 0, 1) := by decide +kernel
theorem dX5_read_33 : decode cX5_read 33 = .ok (.aload_n 1, 1) := by decide +kernel
theorem dX5_read_34 : decode cX5_read 34 = .ok (.iload_n 2, 1) := by decide +kernel
theorem dX5_read_35 : decode cX5_read 35 = .ok (.invokevirtual 27, 3) := by decide +kernel
theorem dX5_read_38 : decode cX5_read 38 = .ok (.ifCond .eq 15, 3) := by decide +kernel
theorem dX5_read_41 : decode cX5_read 41 = .ok (.aload_n 0, 1) := by decide +kernel
theorem dX5_read_42 : decode cX5_read 42 = .ok (.aload_n 1, 1) := by decide +kernel
theorem dX5_read_43 : decode cX5_read 43 = .ok (.iload 5, 2) := by decide +kernel
theorem dX5_read_45 : decode cX5_read 45 = .ok (.caload, 1) := by decide +kernel
theorem dX5_read_46 : decode cX5_read 46 = .ok (.aload_n 3, 1) := by decide +kernel
theorem dX5_read_47 : decode cX5_read 47 = .ok (.invokevirtual 31, 3) := by decide +kernel
theorem dX5_read_50 : decode cX5_read 50 = .ok (.ifCond .ne 6, 3) := by decide +kernel
theorem dX5_read_53 : decode cX5_read 53 = .ok (.iload 5, 2) := by decide +kernel
theorem dX5_read_55 : decode cX5_read 55 = .ok (.ireturn, 1) := by decide +kernel
theorem dX5_read_56 : decode cX5_read 56 = .ok (.iinc 4 1, 3) := by decide +kernel
theorem dX5_read_59 : decode cX5_read 59 = .ok (.goto (-47), 3) := by decide +kernel
theorem dX5_read_62 : decode cX5_read 62 = .ok (.bipush (-4), 2) := by decide +kernel
theorem dX5_read_64 : decode cX5_read 64 = .ok (.ireturn, 1) := by decide +kernel
theorem ivX5_18 : IV RX5 18 yX1_startAnew cX1_startAnew 1 none 0 := ⟨(tb_mem (t_in2 (List.mem_of_getElem? (i := 80) (by decide +kernel))) (by decide +kernel)), (tb_mem (t_in2 (List.mem_of_getElem? (i := 81) (by decide +kernel))) (by decide +kernel)), (tb_mem (t_in2 (List.mem_of_getElem? (i := 82) (by decide +kernel))) (by decide +kernel)), (tb_mem (t_in1 (List.mem_of_getElem? (i := 3) (by decide +kernel))) (by decide +kernel)), (tb_mem (t_in2 (List.mem_of_getElem? (i := 83) (by decide +kernel))) (by decide +kernel)), ⟨by decide +kernel, by decide +kernel, by decide +kernel⟩⟩
theorem ivX5_27 : IV RX5 27 yX5_readNumbers cX5_readNumbers 5 (some .boolean) 2 := ⟨(tb_mem (t_in2 (List.mem_of_getElem? (i := 84) (by decide +kernel))) (by decide +kernel)), (tb_mem (t_in2 (List.mem_of_getElem? (i := 85) (by decide +kernel))) (by decide +kernel)), (tb_mem (t_in2 (List.mem_of_getElem? (i := 86) (by decide +kernel))) (by decide +kernel)), (tb_mem (t_in1 (List.mem_of_getElem? (i := 2) (by decide +kernel))) (by decide +kernel)), (tb_mem (t_in2 (List.mem_of_getElem? (i := 87) (by decide +kernel))) (by decide +kernel)), ⟨by decide +kernel, by decide +kernel, by decide +kernel⟩⟩
theorem ivX5_31 : IV RX5 31 yX5_tellItem cX5_tellItem 4 (some .boolean) 2 := ⟨(tb_mem (t_in2 (List.mem_of_getElem? (i := 92) (by decide +kernel))) (by decide +kernel)), (tb_mem (t_in2 (List.mem_of_getElem? (i := 93) (by decide +kernel))) (by decide +kernel)), (tb_mem (t_in2 (List.mem_of_getElem? (i := 94) (by decide +kernel))) (by decide +kernel)), (tb_mem (t_in1 (List.mem_of_getElem? (i := 2) (by decide +kernel))) (by decide +kernel)), (tb_mem (t_in2 (List.mem_of_getElem? (i := 95) (by decide +kernel))) (by decide +kernel)), ⟨by decide +kernel, by decide +kernel, by decide +kernel⟩⟩
set_option maxHeartbeats 4000000 in
set_option maxRecDepth 20000 in
theorem sgX5_read_0 {κ : Kx} {K : Kont} {M : Mem} (C : Cx κ RX5 cX5_read 6 (some .int) rmX5_read domC) (x2 : Int) (i3 : Int)
    (h :
    spX1_startAnew i3 M (rV (fun M1 =>
    ∀ M6 : Mem, M6 = up3 M1 2 0 3 0 →
    V κ 6 M6 12 [some (.inr (2, 0)), some (.inr (1, 0)), some (.inl x2), some (.inr (5, i3)), some (.inl 0), none] [] K))) : V κ 6 M 0 [some (.inr (2, 0)), some (.inr (1, 0)), some (.inl x2), some (.inr (5, i3)), none, none] [] K := by
  refine v_aload_n C dX5_read_0 rfl ?_
  refine v_invV C ctX1_startAnew dX5_read_1 ivX5_18 ⟨by decide, by decide, rfl, rfl⟩ (i3 : Int) (As := []) rfl rfl rfl (by decide) rfl (st := []) rfl (Nat.le_of_ble_eq_true rfl) h (fun o M1 oM1 io1 g1 => ?_)
  replace h := rV_out g1
  clear g1
  obtain ⟨rfl, h⟩ := h
  refine v_push0 ?_
  refine v_aload_n C dX5_read_4 rfl ?_
  refine v_iconst C dX5_read_5 (by decide) ?_
  refine v_put C dX5_read_6 plX5_23 rfl (by decide) (by decide) rfl rfl rfl ?_
  refine v_nmM (fun M6 eM6 => ?_)
  replace h := h M6 eM6
  refine v_iconst C dX5_read_9 (by decide) ?_
  refine v_istore C dX5_read_10 (by decide) (Nat.le_of_ble_eq_true rfl) (lv' := [some (.inr (2, 0)), some (.inr (1, 0)), some (.inl x2), some (.inr (5, i3)), some (.inl 0), none]) rfl ?_
  refine v_weak [some (.inr (2, 0)), some (.inr (1, 0)), some (.inl x2), some (.inr (5, i3)), some (.inl 0), none] ⟨rfl, rfl, rfl, rfl, rfl, trivial⟩ ?_
  exact h
set_option maxHeartbeats 4000000 in
set_option maxRecDepth 20000 in
theorem sgX5_read_12 {κ : Kx} {K : Kont} {M : Mem} (C : Cx κ RX5 cX5_read 6 (some .int) rmX5_read domC) (x2 : Int) (i3 : Int) (x4 : Int)
    (h :
    ((x2 ≤ x4 →
      K (some (-4)) M) ∧
     (¬ (x2 ≤ x4) →
      ((x2 ≤ (M 2 0 3) →
        K (some (-4)) M) ∧
       (¬ (x2 ≤ (M 2 0 3)) →
        spX5_readNumbers x2 M (rI (fun r35 M35 =>
        ((r35 = 0 →
          K (some (M 2 0 3)) M35) ∧
         (¬ (r35 = 0) →
          (0 ≤ (M 2 0 3) ∧ (M 2 0 3) < 200) ∧
          spX5_tellItem (M35 1 0 (M 2 0 3)) i3 M35 (rI (fun r47 M47 =>
          ((r47 ≠ 0 →
            inR (x4 + 1) ∧
            V κ 6 M47 12 [some (.inr (2, 0)), some (.inr (1, 0)), some (.inl x2), some (.inr (5, i3)), some (.inl (x4 + 1)), none] [] K) ∧
           (¬ (r47 ≠ 0) →
            K (some (M 2 0 3)) M47))))))))))))) : V κ 6 M 12 [some (.inr (2, 0)), some (.inr (1, 0)), some (.inl x2), some (.inr (5, i3)), some (.inl x4), none] [] K := by
  refine v_iload C dX5_read_12 rfl ?_
  refine v_iload_n C dX5_read_14 rfl ?_
  refine v_icmp C dX5_read_15 (tgt := 62) (by decide) (P := x2 ≤ x4) rfl (fun c15 => ?_) (fun c15 => ?_)
  · replace h := h.1 c15
    refine v_bipush C dX5_read_62 (by decide) (by decide) ?_
    exact v_iret C dX5_read_64 h
  · replace h := h.2 c15
    refine v_aload_n C dX5_read_18 rfl ?_
    refine v_get C dX5_read_19 flX5_23 rfl (by decide) (by decide) (w := .inl (M 2 0 3)) rfl ?_
    refine v_iload_n C dX5_read_22 rfl ?_
    refine v_icmp C dX5_read_23 (tgt := 62) (by decide) (P := x2 ≤ (M 2 0 3)) rfl (fun c23 => ?_) (fun c23 => ?_)
    · replace h := h.1 c23
      refine v_bipush C dX5_read_62 (by decide) (by decide) ?_
      exact v_iret C dX5_read_64 h
    · replace h := h.2 c23
      refine v_aload_n C dX5_read_26 rfl ?_
      refine v_get C dX5_read_27 flX5_23 rfl (by decide) (by decide) (w := .inl (M 2 0 3)) rfl ?_
      refine v_istore C dX5_read_30 (by decide) (Nat.le_of_ble_eq_true rfl) (lv' := [some (.inr (2, 0)), some (.inr (1, 0)), some (.inl x2), some (.inr (5, i3)), some (.inl x4), some (.inl (M 2 0 3))]) rfl ?_
      refine v_aload_n C dX5_read_32 rfl ?_
      refine v_aload_n C dX5_read_33 rfl ?_
      refine v_iload_n C dX5_read_34 rfl ?_
      refine v_invV C ctX5_readNumbers dX5_read_35 ivX5_27 ⟨by decide, by decide, rfl, rfl⟩ (x2 : Int) (As := [.inr (1, 0), .inl x2]) rfl rfl rfl (by decide) rfl (st := []) rfl (Nat.le_of_ble_eq_true rfl) h (fun o M35 oM35 io35 g35 => ?_)
      replace h := rI_out g35
      clear g35
      obtain ⟨r35, rfl, h⟩ := h
      refine v_push ?_
      refine v_if C dX5_read_38 (tgt := 53) (by decide) (P := r35 = 0) rfl (fun c38 => ?_) (fun c38 => ?_)
      · replace h := h.1 c38
        refine v_iload C dX5_read_53 rfl ?_
        exact v_iret C dX5_read_55 h
      · replace h := h.2 c38
        refine v_aload_n C dX5_read_41 rfl ?_
        refine v_aload_n C dX5_read_42 rfl ?_
        refine v_iload C dX5_read_43 rfl ?_
        refine v_cald C dX5_read_45 rfl h.1.1 h.1.2 ?_
        replace h := h.2
        refine v_aload_n C dX5_read_46 rfl ?_
        refine v_invV C ctX5_tellItem dX5_read_47 ivX5_31 ⟨by decide, by decide, rfl, rfl⟩ ((M35 1 0 (M 2 0 3), i3) : Int × Int) (As := [.inl (M35 1 0 (M 2 0 3)), .inr (5, i3)]) rfl rfl rfl (by decide) rfl (st := []) rfl (Nat.le_of_ble_eq_true rfl) h (fun o M47 oM47 io47 g47 => ?_)
        replace h := rI_out g47
        clear g47
        obtain ⟨r47, rfl, h⟩ := h
        refine v_push ?_
        refine v_if C dX5_read_50 (tgt := 56) (by decide) (P := r47 ≠ 0) rfl (fun c50 => ?_) (fun c50 => ?_)
        · replace h := h.1 c50
          refine v_iinc C dX5_read_56 (by decide) rfl h.1 (lv' := [some (.inr (2, 0)), some (.inr (1, 0)), some (.inl x2), some (.inr (5, i3)), some (.inl (x4 + 1)), some (.inl (M 2 0 3))]) rfl ?_
          replace h := h.2
          refine v_goto C dX5_read_59 (tgt := 12) (by decide) ?_
          refine v_weak [some (.inr (2, 0)), some (.inr (1, 0)), some (.inl x2), some (.inr (5, i3)), some (.inl (x4 + 1)), none] ⟨rfl, rfl, rfl, rfl, rfl, trivial⟩ ?_
          exact h
        · replace h := h.2 c50
          refine v_iload C dX5_read_53 rfl ?_
          exact v_iret C dX5_read_55 h
abbrev spX5_read (L f : Int) (M : Mem) (K : Kont) : Prop := ((0 ≤ L ∧ L ≤ 200) ∧ (∀ p, 0 ≤ p → p < 200 → 0 ≤ M 1 0 p ∧ M 1 0 p < 65536)) ∧ ∀ M', AgD M M' f → cFilm M' f = (psr (M 1 0) L L.toNat 0 (sF0 (cFilm M f))).2 → WFf (cFilm M' f) → K (some (psr (M 1 0) L L.toNat 0 (sF0 (cFilm M f))).1) M'
theorem ctX5_read : CtX5_read spX5_read := by
  refine ct_of (by decide) dmC (fun _ => Nat.le_of_ble_eq_true rfl) ?_
  intro κ a M K C oM h
  obtain ⟨L, f⟩ := a
  dsimp only [spX5_read] at h
  obtain ⟨⟨hL, hX⟩, hk⟩ := h
  generalize hR : psr (M 1 0) L L.toNat 0 (sF0 (cFilm M f)) = R at hk
  have loop : ∀ (n : Nat) (x : Int) (N : Mem), x + n = L → 0 ≤ x → AgD M N f → 0 ≤ N 2 0 3 → WFf (cFilm N f) → psr (M 1 0) L n (N 2 0 3) (cFilm N f) = R →
      V κ 6 N 12 [some (.inr (2, 0)), some (.inr (1, 0)), some (.inl L), some (.inr (5, f)), some (.inl x), none] [] K := by
    intro n
    induction n with
    | zero =>
      intro x N hn h0 hA hat hw hp
      have hp' : ((-4 : Int), cFilm N f) = R := hp
      refine sgX5_read_12 C L f x ⟨fun c => ?_, fun c => absurd (by omega) c⟩
      have := hk N hA (by rw [← hp']) hw
      rw [← hp'] at this
      exact this
    | succ n ih =>
      intro x N hn h0 hA hat hw hp
      have e1 : N 1 = M 1 := hA.reg (by decide)
      unfold psr at hp
      refine sgX5_read_12 C L f x ⟨fun c => absurd c (by omega), fun c => ⟨fun c2 => ?_, fun c2 => ?_⟩⟩
      · rw [if_pos c2] at hp
        have := hk N hA (by rw [← hp]) hw
        rw [← hp] at this
        exact this
      · rw [if_neg c2] at hp
        refine ⟨⟨hat, by omega, hL.2⟩, ?_, ?_⟩
        · intro N1 hA1 ht
          rw [e1] at ht
          rw [ht] at hp
          have hA2 := hA.tr (hA1.toD f)
          have ef := hA1.film f
          refine ⟨fun _ => ?_, fun z => absurd rfl z⟩
          have := hk N1 hA2 (by rw [ef, ← hp]) (by rw [ef]; exact hw)
          rw [← hp] at this
          exact this
        · intro N1 l e hA1 ht hlen hend hnum
          rw [e1] at ht
          rw [ht] at hp
          have tl := tks_len 9 _ l e ht
          have hA2 := hA.tr (hA1.toD f)
          have ef := hA1.film f
          have e11 : N1 1 = M 1 := hA2.reg (by decide)
          have hx := hX (N 2 0 3) hat (by omega)
          refine ⟨fun z => absurd z (by decide), fun _ => ⟨by omega, ?_⟩⟩
          rw [e11]
          refine ⟨⟨hx, by rw [ef]; exact hw⟩, l, ⟨hlen, by omega, tl.2.2.2.2, hnum⟩, ?_⟩
          rw [ef]
          cases hi : itS (cFilm N f) (M 1 0 (N 2 0 3)) l with
          | none =>
            simp only [hi] at hp
            refine ⟨fun z => absurd rfl z, fun _ => ?_⟩
            have := hk N1 hA2 (by rw [ef, ← hp]) (by rw [ef]; exact hw)
            rw [← hp] at this
            exact this
          | some F' =>
            simp only [hi] at hp
            intro N2 hA3 hc
            have wf2 : WFf F' := itS_wf hw ⟨by omega, tl.2.2.2.2⟩ hi
            have at2 : N2 2 0 3 = e := by rw [hA3.reg (r := 2) (by decide)]; exact hend
            refine ⟨fun _ => ⟨by omega, ih (x + 1) N2 (by omega) (by omega) (hA2.tr hA3.toD) (by rw [at2]; omega) (by rw [hc]; exact wf2) (by rw [at2, hc]; exact hp)⟩, fun z => absurd (by decide) z⟩
  refine sgX5_read_0 C L f ?_
  intro N1 hA1 hc1 N2 e2
  have ef : cFilm N2 f = sF0 (cFilm M f) := by
    rw [← hc1]
    refine cFilm_eq (fun r a b => ?_) f
    funext i j
    rw [e2, up3_r _ _ _ _ _ (by omega)]
  have at2 : N2 2 0 3 = 0 := by rw [e2, up3_s]
  have hA2 : AgD M N2 f := hA1.toD.tr (by
    intro r i j hn
    rw [e2]
    exact if_neg (fun z => hn (Or.inl (by omega))))
  exact loop L.toNat 0 N2 (by omega) (by omega) hA2 (by omega) (by rw [ef]; exact sF0_wf _) (by rw [at2, ef]; exact hR)
