/-! ===== the small constructors ===== -/
abbrev iA (cs : CS) (n : Nat) : va_E := .inl (cs.1, n, .inl (fun _ => 0))
abbrev cA (cs : CS) (n : Nat) : va_E := .inl (cs.2.1, n, .inl (fun _ => 0))
abbrev pA (cs : CS) (n : Nat) (f : Nat → Option Nat) : va_E := .inl (cs.2.2, n, .inr (.inr (.inr (.inr f))))
abbrev fA (cs : CS) (n : Nat) (f : Nat → Int32) : va_E := .inl (cs.1, n, .inl f)
abbrev fil7 : Nat → Int32 := (upd (upd (upd (upd (upd (upd (upd (fun _ => 0) (0 : Int32).toNatClampNeg (-4)) (1 : Int32).toNatClampNeg (-4)) (2 : Int32).toNatClampNeg (-4)) (3 : Int32).toNatClampNeg (-4)) (4 : Int32).toNatClampNeg (-4)) (5 : Int32).toNatClampNeg (-4)) (6 : Int32).toNatClampNeg (-4))
theorem g_fillL {κ : Kg} {own : String} {cc : ByteArray} {nL : Nat} {ret : Option FieldType} {rm : Room} {n z : Nat} {pc : Nat} {lv : List (Nat × Value)} {st : List Value} (C : Cg κ own cc nL ret rm) {y : MethodName} {b : ByteArray} {mL : Nat} {rm' : Room} {a : Nat} {As st0 : List Value} {e0 e1 : CS → va_E} (hM : CtI y b mL rm' As (fun cs => (a, e0 cs)) (LB (fun cs (_ : Unit) => [(a, e1 cs)]))) {idx n0 : Nat} (hd : decode cc pc = .ok (.invokestatic idx, 3)) (hw : IS own idx y b mL none n0) (hR : RmI rm' rm mL n z) (hn : As.length = n0) (h8 : (st.map fun v => v.category).sum ≤ 8) (hst : st0 = As.reverse ++ st)
    {ws ws' : va_W} (q0 : Nat) (he : ws[q0]? = some (a, e0 κ.2.2.2.1)) (hs : ws.set q0 (a, e1 κ.2.2.2.1) = ws') (kk : G κ nL (n + rm'.cells) (z + rm'.slots) (LW κ ws') (pc + 3) lv st) : G κ nL n z (LW κ ws) pc lv st0 := by
  refine ⟨fun H locs ls hP hS hl => ?_, trivial⟩
  subst hs
  subst hst
  obtain ⟨c1, c2, c3, c4, c5, c6, c7, c8, c9, c10, c11⟩ := id C
  obtain ⟨w1, w2, w4, w5, w6⟩ := hw
  obtain ⟨r1, r2, r3, r4⟩ := hR
  have hAw : ∀ q, va_A [(a, e0 κ.2.2.2.1)] H.size q → κ.2.2.2.2.1 q := va_free (ws := ws) (wc := [(a, e0 κ.2.2.2.1)]) hP.2 hS c8 [q0] (by simp [he])
  have hpre : PreS κ.1.2.2.2.2 H (PcI κ.2.2.1 κ.2.2.2.1 As [(a, e0 κ.2.2.2.1)] H.size) As := by
    refine ⟨PcI_blind, fun U hU hW => ⟨rfl, by rw [hU], va_K.moved hW.alike c7, ⟨NWX.warm hW c6.1, SX.narrow hAw (SX.warm hW (fun q a b => by rw [hU]; exact hS.2.1 q a b) c6.2.1), va_AO.moved hW.alike c6.2.2⟩, by rw [hU]; exact P_one (hP.1 q0 _ he)⟩⟩
  refine w_ranI (va_runS (bytes := b) (maxL := mL) (ret := none) (As := As) (rest := st) (n := n0) ⟨c1, c2, c3, c4, c5⟩ (hM κ.1.2.1 κ.2.2.1 κ.2.2.2.1 H.size) ⟨callB_of n0 c5 (good_tb (fun w h => h) w5) rfl rfl rfl (c5 _ w4) (c5 _ w1) w6 ⟨by rw [c11]; exact r1, by rw [c11]; exact r2⟩, c5 _ w2⟩ hpre rfl hn hl.1 rfl (lv_room h8) hd ⟨by rw [c11]; exact r3, by rw [c11]; exact r4⟩) hS hAw (fun H1 locs1 hB hz hk hS1 => ?_)
  obtain ⟨_, hP1, hD1⟩ := hB
  have hnew := hP1 0 _ rfl
  refine kk.1 H1 locs1 ls ⟨fun k q hq => ?_, hP.2.set he⟩ hS1 hl
  rw [List.getElem?_set] at hq
  by_cases hk0 : q0 = k
  · subst hk0
    have hlt := (List.getElem?_eq_some_iff.mp he).1
    rw [if_pos rfl, if_pos hlt] at hq
    cases hq
    exact hnew
  · rw [if_neg hk0] at hq
    have hlt := (hP.1 k q hq).lt
    refine (hP.1 k q hq).kept (hk q.1 hlt ?_)
    rintro (⟨k2, e2, h2⟩ | h2)
    · have hz2 : k2 < 1 := (List.getElem?_eq_some_iff.mp h2).1
      rw [show k2 = 0 by omega] at h2
      cases h2
      exact hk0 (hP.2.1 q0 k _ _ he hq rfl)
    · omega
set_option maxHeartbeats 4000000 in
set_option maxRecDepth 100000 in
theorem ciJ7_fill (a : Nat) : CtI yJ7_fill_53178 cJ7_fill_53178 4 rmJ7_fill [.ref a, .int (-4)] (fun cs => (a, iA cs 7)) (LB (fun cs (_ : Unit) => [(a, fA cs 7 fil7)])) := by
  refine ci_of (by decide) (Nat.le_of_ble_eq_true rfl) ?_
  intro κ C hin hq
  have C : Cg κ RJ7 cJ7_fill_53178 4 none rmJ7_fill := C
  refine g_iconst C dJ7_fill_53178_0 (v := 0) (by decide) ?_
  refine g_istore_n C dJ7_fill_53178_1 (by decide) (lv' := [(2, .int (0)), (0, .ref a), (1, .int (-4))]) rfl ?_
  refine g_aload_n C dJ7_fill_53178_2 1 rfl ?_
  refine g_alen C 0 dJ7_fill_53178_3 rfl (v := 7) (by decide) ?_
  refine g_istore_n C dJ7_fill_53178_4 (by decide) (lv' := [(3, .int (7)), (2, .int (0)), (0, .ref a), (1, .int (-4))]) rfl ?_
  refine g_iload_n C dJ7_fill_53178_5 1 rfl ?_
  refine g_iload_n C dJ7_fill_53178_6 0 rfl ?_
  refine g_icmp_ge C dJ7_fill_53178_7 (tgt := 20) (by decide) (fun h => absurd h (by decide)) (fun _ => ?_)
  refine g_aload_n C dJ7_fill_53178_10 2 rfl ?_
  refine g_iload_n C dJ7_fill_53178_11 1 rfl ?_
  refine g_iload_n C dJ7_fill_53178_12 3 rfl ?_
  refine g_iastL C 0 dJ7_fill_53178_13 rfl (vp_in_iff.mpr ⟨by decide +kernel, by decide +kernel⟩) (ws' := [(a, fA κ.2.2.2.1 7 (upd (fun _ => 0) (0 : Int32).toNatClampNeg (-4)))]) rfl ?_
  refine g_iinc C dJ7_fill_53178_14 1 rfl (v := 1) (by decide) (by decide) (lv' := [(2, .int (1)), (3, .int (7)), (0, .ref a), (1, .int (-4))]) rfl ?_
  refine g_goto C dJ7_fill_53178_17 (tgt := 5) (by decide) ?_
  refine g_iload_n C dJ7_fill_53178_5 0 rfl ?_
  refine g_iload_n C dJ7_fill_53178_6 1 rfl ?_
  refine g_icmp_ge C dJ7_fill_53178_7 (tgt := 20) (by decide) (fun h => absurd h (by decide)) (fun _ => ?_)
  refine g_aload_n C dJ7_fill_53178_10 2 rfl ?_
  refine g_iload_n C dJ7_fill_53178_11 0 rfl ?_
  refine g_iload_n C dJ7_fill_53178_12 3 rfl ?_
  refine g_iastL C 0 dJ7_fill_53178_13 rfl (vp_in_iff.mpr ⟨by decide +kernel, by decide +kernel⟩) (ws' := [(a, fA κ.2.2.2.1 7 (upd (upd (fun _ => 0) (0 : Int32).toNatClampNeg (-4)) (1 : Int32).toNatClampNeg (-4)))]) rfl ?_
  refine g_iinc C dJ7_fill_53178_14 0 rfl (v := 2) (by decide) (by decide) (lv' := [(2, .int (2)), (3, .int (7)), (0, .ref a), (1, .int (-4))]) rfl ?_
  refine g_goto C dJ7_fill_53178_17 (tgt := 5) (by decide) ?_
  refine g_iload_n C dJ7_fill_53178_5 0 rfl ?_
  refine g_iload_n C dJ7_fill_53178_6 1 rfl ?_
  refine g_icmp_ge C dJ7_fill_53178_7 (tgt := 20) (by decide) (fun h => absurd h (by decide)) (fun _ => ?_)
  refine g_aload_n C dJ7_fill_53178_10 2 rfl ?_
  refine g_iload_n C dJ7_fill_53178_11 0 rfl ?_
  refine g_iload_n C dJ7_fill_53178_12 3 rfl ?_
  refine g_iastL C 0 dJ7_fill_53178_13 rfl (vp_in_iff.mpr ⟨by decide +kernel, by decide +kernel⟩) (ws' := [(a, fA κ.2.2.2.1 7 (upd (upd (upd (fun _ => 0) (0 : Int32).toNatClampNeg (-4)) (1 : Int32).toNatClampNeg (-4)) (2 : Int32).toNatClampNeg (-4)))]) rfl ?_
  refine g_iinc C dJ7_fill_53178_14 0 rfl (v := 3) (by decide) (by decide) (lv' := [(2, .int (3)), (3, .int (7)), (0, .ref a), (1, .int (-4))]) rfl ?_
  refine g_goto C dJ7_fill_53178_17 (tgt := 5) (by decide) ?_
  refine g_iload_n C dJ7_fill_53178_5 0 rfl ?_
  refine g_iload_n C dJ7_fill_53178_6 1 rfl ?_
  refine g_icmp_ge C dJ7_fill_53178_7 (tgt := 20) (by decide) (fun h => absurd h (by decide)) (fun _ => ?_)
  refine g_aload_n C dJ7_fill_53178_10 2 rfl ?_
  refine g_iload_n C dJ7_fill_53178_11 0 rfl ?_
  refine g_iload_n C dJ7_fill_53178_12 3 rfl ?_
  refine g_iastL C 0 dJ7_fill_53178_13 rfl (vp_in_iff.mpr ⟨by decide +kernel, by decide +kernel⟩) (ws' := [(a, fA κ.2.2.2.1 7 (upd (upd (upd (upd (fun _ => 0) (0 : Int32).toNatClampNeg (-4)) (1 : Int32).toNatClampNeg (-4)) (2 : Int32).toNatClampNeg (-4)) (3 : Int32).toNatClampNeg (-4)))]) rfl ?_
  refine g_iinc C dJ7_fill_53178_14 0 rfl (v := 4) (by decide) (by decide) (lv' := [(2, .int (4)), (3, .int (7)), (0, .ref a), (1, .int (-4))]) rfl ?_
  refine g_goto C dJ7_fill_53178_17 (tgt := 5) (by decide) ?_
  refine g_iload_n C dJ7_fill_53178_5 0 rfl ?_
  refine g_iload_n C dJ7_fill_53178_6 1 rfl ?_
  refine g_icmp_ge C dJ7_fill_53178_7 (tgt := 20) (by decide) (fun h => absurd h (by decide)) (fun _ => ?_)
  refine g_aload_n C dJ7_fill_53178_10 2 rfl ?_
  refine g_iload_n C dJ7_fill_53178_11 0 rfl ?_
  refine g_iload_n C dJ7_fill_53178_12 3 rfl ?_
  refine g_iastL C 0 dJ7_fill_53178_13 rfl (vp_in_iff.mpr ⟨by decide +kernel, by decide +kernel⟩) (ws' := [(a, fA κ.2.2.2.1 7 (upd (upd (upd (upd (upd (fun _ => 0) (0 : Int32).toNatClampNeg (-4)) (1 : Int32).toNatClampNeg (-4)) (2 : Int32).toNatClampNeg (-4)) (3 : Int32).toNatClampNeg (-4)) (4 : Int32).toNatClampNeg (-4)))]) rfl ?_
  refine g_iinc C dJ7_fill_53178_14 0 rfl (v := 5) (by decide) (by decide) (lv' := [(2, .int (5)), (3, .int (7)), (0, .ref a), (1, .int (-4))]) rfl ?_
  refine g_goto C dJ7_fill_53178_17 (tgt := 5) (by decide) ?_
  refine g_iload_n C dJ7_fill_53178_5 0 rfl ?_
  refine g_iload_n C dJ7_fill_53178_6 1 rfl ?_
  refine g_icmp_ge C dJ7_fill_53178_7 (tgt := 20) (by decide) (fun h => absurd h (by decide)) (fun _ => ?_)
  refine g_aload_n C dJ7_fill_53178_10 2 rfl ?_
  refine g_iload_n C dJ7_fill_53178_11 0 rfl ?_
  refine g_iload_n C dJ7_fill_53178_12 3 rfl ?_
  refine g_iastL C 0 dJ7_fill_53178_13 rfl (vp_in_iff.mpr ⟨by decide +kernel, by decide +kernel⟩) (ws' := [(a, fA κ.2.2.2.1 7 (upd (upd (upd (upd (upd (upd (fun _ => 0) (0 : Int32).toNatClampNeg (-4)) (1 : Int32).toNatClampNeg (-4)) (2 : Int32).toNatClampNeg (-4)) (3 : Int32).toNatClampNeg (-4)) (4 : Int32).toNatClampNeg (-4)) (5 : Int32).toNatClampNeg (-4)))]) rfl ?_
  refine g_iinc C dJ7_fill_53178_14 0 rfl (v := 6) (by decide) (by decide) (lv' := [(2, .int (6)), (3, .int (7)), (0, .ref a), (1, .int (-4))]) rfl ?_
  refine g_goto C dJ7_fill_53178_17 (tgt := 5) (by decide) ?_
  refine g_iload_n C dJ7_fill_53178_5 0 rfl ?_
  refine g_iload_n C dJ7_fill_53178_6 1 rfl ?_
  refine g_icmp_ge C dJ7_fill_53178_7 (tgt := 20) (by decide) (fun h => absurd h (by decide)) (fun _ => ?_)
  refine g_aload_n C dJ7_fill_53178_10 2 rfl ?_
  refine g_iload_n C dJ7_fill_53178_11 0 rfl ?_
  refine g_iload_n C dJ7_fill_53178_12 3 rfl ?_
  refine g_iastL C 0 dJ7_fill_53178_13 rfl (vp_in_iff.mpr ⟨by decide +kernel, by decide +kernel⟩) (ws' := [(a, fA κ.2.2.2.1 7 (upd (upd (upd (upd (upd (upd (upd (fun _ => 0) (0 : Int32).toNatClampNeg (-4)) (1 : Int32).toNatClampNeg (-4)) (2 : Int32).toNatClampNeg (-4)) (3 : Int32).toNatClampNeg (-4)) (4 : Int32).toNatClampNeg (-4)) (5 : Int32).toNatClampNeg (-4)) (6 : Int32).toNatClampNeg (-4)))]) rfl ?_
  refine g_iinc C dJ7_fill_53178_14 0 rfl (v := 7) (by decide) (by decide) (lv' := [(2, .int (7)), (3, .int (7)), (0, .ref a), (1, .int (-4))]) rfl ?_
  refine g_goto C dJ7_fill_53178_17 (tgt := 5) (by decide) ?_
  refine g_iload_n C dJ7_fill_53178_5 0 rfl ?_
  refine g_iload_n C dJ7_fill_53178_6 1 rfl ?_
  refine g_icmp_ge C dJ7_fill_53178_7 (tgt := 20) (by decide) (fun _ => ?_) (fun h => absurd (by decide) h)
  exact g_vret C hq dJ7_fill_53178_20 (fun H h => ⟨(), h⟩)
theorem dX3_init_0 : decode cX3_init 0 = .ok (.aload_n 0, 1) := by decide +kernel
theorem dX3_init_1 : decode cX3_init 1 = .ok (.invokespecial 3, 3) := by decide +kernel
theorem dX3_init_4 : decode cX3_init 4 = .ok (.aload_n 0, 1) := by decide +kernel
theorem dX3_init_5 : decode cX3_init 5 = .ok (.iconst 3, 1) := by decide +kernel
theorem dX3_init_6 : decode cX3_init 6 = .ok (.newarray .int, 2) := by decide +kernel
theorem dX3_init_8 : decode cX3_init 8 = .ok (.putfield 9, 3) := by decide +kernel
theorem dX3_init_11 : decode cX3_init 11 = .ok (.aload_n 0, 1) := by decide +kernel
theorem dX3_init_12 : decode cX3_init 12 = .ok (.iconst 3, 1) := by decide +kernel
theorem dX3_init_13 : decode cX3_init 13 = .ok (.newarray .int, 2) := by decide +kernel
theorem dX3_init_15 : decode cX3_init 15 = .ok (.putfield 15, 3) := by decide +kernel
theorem dX3_init_18 : decode cX3_init 18 = .ok (.return_, 1) := by decide +kernel
theorem oiX3_3 : Cond.methodLink RX3 3 Lib.objectInit ∈ tb := (tb_mem (t_in1 (List.mem_of_getElem? (i := 60) (by decide +kernel))) (by decide +kernel))
theorem pfX3_9 : PF RX3 9 3 5 (tyX3 5) := ⟨_, _, _, tyX3, rfl, by decide, uwX3, (tb_mem (t_in1 (List.mem_of_getElem? (i := 82) (by decide +kernel))) (by decide +kernel)), rfl, rfl, tyX3_ok 5 (by decide), tyX3_ok, nmX3⟩
theorem pfX3_15 : PF RX3 15 3 6 (tyX3 6) := ⟨_, _, _, tyX3, rfl, by decide, uwX3, (tb_mem (t_in1 (List.mem_of_getElem? (i := 87) (by decide +kernel))) (by decide +kernel)), rfl, rfl, tyX3_ok 6 (by decide), tyX3_ok, nmX3⟩
abbrev rmX3_init : Room := { frames := 1, cells := 2, slots := 6, locals := 20 }
abbrev blX3_init (a  : Nat) (cs : CS) (u : Nat → Nat) : va_W := [(a, .inr (3, [.int 0, .int 0, .int 0, .int 0, .int 0, .ref (u 0), .ref (u 1)])), ((u 0), iA cs 3), ((u 1), iA cs 3)]
set_option maxHeartbeats 4000000 in
set_option maxRecDepth 100000 in
theorem ciX3_init (a  : Nat) : CtI yX3_init cX3_init 1 rmX3_init [.ref a] (fun _ => (a, .inr (3, [.int 0, .int 0, .int 0, .int 0, .int 0, .null, .null]))) (LB (blX3_init a )) := by
  refine ci_of (by decide) (Nat.le_of_ble_eq_true rfl) ?_
  intro κ C hin hq
  have C : Cg κ RX3 cX3_init 1 none rmX3_init := C
  have hin : κ.2.1.2.2.2.1.name = "<init>" := hin
  refine g_aload_n C dX3_init_0 0 rfl ?_
  refine g_obj C dX3_init_1 oiX3_3 (Nat.le_of_ble_eq_true rfl) ⟨by decide, by decide⟩ ?_
  refine g_aload_n C dX3_init_4 0 rfl ?_
  refine g_iconst C dX3_init_5 (v := 3) (by decide) ?_
  refine g_newi C dX3_init_6 (by decide) (N := 3) (by decide) (Nat.le_of_ble_eq_true rfl) ⟨Nat.le_of_ble_eq_true rfl, Nat.le_of_ble_eq_true rfl⟩ (fun q0 => ?_)
  refine g_putF C hin 0 dX3_init_8 pfX3_9 rfl (Nat.le_of_ble_eq_true rfl) rfl rfl (ws' := [(a, .inr (3, [.int 0, .int 0, .int 0, .int 0, .int 0, .ref q0, .null])), (q0, iA κ.2.2.2.1 3)]) rfl ?_
  refine g_aload_n C dX3_init_11 0 rfl ?_
  refine g_iconst C dX3_init_12 (v := 3) (by decide) ?_
  refine g_newi C dX3_init_13 (by decide) (N := 3) (by decide) (Nat.le_of_ble_eq_true rfl) ⟨Nat.le_of_ble_eq_true rfl, Nat.le_of_ble_eq_true rfl⟩ (fun q1 => ?_)
  refine g_putF C hin 0 dX3_init_15 pfX3_15 rfl (Nat.le_of_ble_eq_true rfl) rfl rfl (ws' := [(a, .inr (3, [.int 0, .int 0, .int 0, .int 0, .int 0, .ref q0, .ref q1])), (q0, iA κ.2.2.2.1 3), (q1, iA κ.2.2.2.1 3)]) rfl ?_
  exact g_vret C hq dX3_init_18 (fun H h => ⟨fun k => match k with | 0 => q0 | 1 => q1 | _ => 0, h⟩)
theorem dX1_init_0 : decode cX1_init 0 = .ok (.aload_n 0, 1) := by decide +kernel
theorem dX1_init_1 : decode cX1_init 1 = .ok (.invokespecial 3, 3) := by decide +kernel
theorem dX1_init_4 : decode cX1_init 4 = .ok (.aload_n 0, 1) := by decide +kernel
theorem dX1_init_5 : decode cX1_init 5 = .ok (.iconst 4, 1) := by decide +kernel
theorem dX1_init_6 : decode cX1_init 6 = .ok (.newarray .int, 2) := by decide +kernel
theorem dX1_init_8 : decode cX1_init 8 = .ok (.putfield 9, 3) := by decide +kernel
theorem dX1_init_11 : decode cX1_init 11 = .ok (.aload_n 0, 1) := by decide +kernel
theorem dX1_init_12 : decode cX1_init 12 = .ok (.bipush 12, 2) := by decide +kernel
theorem dX1_init_14 : decode cX1_init 14 = .ok (.newarray .int, 2) := by decide +kernel
theorem dX1_init_16 : decode cX1_init 16 = .ok (.putfield 15, 3) := by decide +kernel
theorem dX1_init_19 : decode cX1_init 19 = .ok (.aload_n 0, 1) := by decide +kernel
theorem dX1_init_20 : decode cX1_init 20 = .ok (.bipush 12, 2) := by decide +kernel
theorem dX1_init_22 : decode cX1_init 22 = .ok (.newarray .int, 2) := by decide +kernel
theorem dX1_init_24 : decode cX1_init 24 = .ok (.putfield 18, 3) := by decide +kernel
theorem dX1_init_27 : decode cX1_init 27 = .ok (.aload_n 0, 1) := by decide +kernel
theorem dX1_init_28 : decode cX1_init 28 = .ok (.bipush 12, 2) := by decide +kernel
theorem dX1_init_30 : decode cX1_init 30 = .ok (.newarray .int, 2) := by decide +kernel
theorem dX1_init_32 : decode cX1_init 32 = .ok (.putfield 21, 3) := by decide +kernel
theorem dX1_init_35 : decode cX1_init 35 = .ok (.aload_n 0, 1) := by decide +kernel
theorem dX1_init_36 : decode cX1_init 36 = .ok (.bipush 7, 2) := by decide +kernel
theorem dX1_init_38 : decode cX1_init 38 = .ok (.anewarray 24, 3) := by decide +kernel
theorem dX1_init_41 : decode cX1_init 41 = .ok (.putfield 26, 3) := by decide +kernel
theorem dX1_init_44 : decode cX1_init 44 = .ok (.iconst 0, 1) := by decide +kernel
theorem dX1_init_45 : decode cX1_init 45 = .ok (.istore_n 1, 1) := by decide +kernel
theorem dX1_init_46 : decode cX1_init 46 = .ok (.iload_n 1, 1) := by decide +kernel
theorem dX1_init_47 : decode cX1_init 47 = .ok (.bipush 7, 2) := by decide +kernel
theorem dX1_init_49 : decode cX1_init 49 = .ok (.if_icmp .ge 22, 3) := by decide +kernel
theorem dX1_init_52 : decode cX1_init 52 = .ok (.aload_n 0, 1) := by decide +kernel
theorem dX1_init_53 : decode cX1_init 53 = .ok (.getfield 26, 3) := by decide +kernel
theorem dX1_init_56 : decode cX1_init 56 = .ok (.iload_n 1, 1) := by decide +kernel
theorem dX1_init_57 : decode cX1_init 57 = .ok (.new 24, 3) := by decide +kernel
theorem dX1_init_60 : decode cX1_init 60 = .ok (.dup, 1) := by decide +kernel
theorem dX1_init_61 : decode cX1_init 61 = .ok (.invokespecial 30, 3) := by decide +kernel
theorem dX1_init_64 : decode cX1_init 64 = .ok (.aastore, 1) := by decide +kernel
theorem dX1_init_65 : decode cX1_init 65 = .ok (.iinc 1 1, 3) := by decide +kernel
theorem dX1_init_68 : decode cX1_init 68 = .ok (.goto (-22), 3) := by decide +kernel
theorem dX1_init_71 : decode cX1_init 71 = .ok (.return_, 1) := by decide +kernel
theorem oiX1_3 : Cond.methodLink RX1 3 Lib.objectInit ∈ tb := (tb_mem (t_in1 (List.mem_of_getElem? (i := 53) (by decide +kernel))) (by decide +kernel))
theorem pfX1_9 : PF RX1 9 1 2 (tyX1 2) := ⟨_, _, _, tyX1, rfl, by decide, uwX1, (tb_mem (t_in1 (List.mem_of_getElem? (i := 116) (by decide +kernel))) (by decide +kernel)), rfl, rfl, tyX1_ok 2 (by decide), tyX1_ok, nmX1⟩
theorem pfX1_15 : PF RX1 15 1 4 (tyX1 4) := ⟨_, _, _, tyX1, rfl, by decide, uwX1, (tb_mem (t_in1 (List.mem_of_getElem? (i := 123) (by decide +kernel))) (by decide +kernel)), rfl, rfl, tyX1_ok 4 (by decide), tyX1_ok, nmX1⟩
theorem pfX1_18 : PF RX1 18 1 5 (tyX1 5) := ⟨_, _, _, tyX1, rfl, by decide, uwX1, (tb_mem (t_in1 (List.mem_of_getElem? (i := 125) (by decide +kernel))) (by decide +kernel)), rfl, rfl, tyX1_ok 5 (by decide), tyX1_ok, nmX1⟩
theorem pfX1_21 : PF RX1 21 1 6 (tyX1 6) := ⟨_, _, _, tyX1, rfl, by decide, uwX1, (tb_mem (t_in1 (List.mem_of_getElem? (i := 128) (by decide +kernel))) (by decide +kernel)), rfl, rfl, tyX1_ok 6 (by decide), tyX1_ok, nmX1⟩
theorem clX1_24 : Cond.classLink RX1 24 RX3 ∈ tb := (tb_mem (t_in1 (List.mem_of_getElem? (i := 54) (by decide +kernel))) (by decide +kernel))
theorem pfX1_26 : PF RX1 26 1 8 (tyX1 8) := ⟨_, _, _, tyX1, rfl, by decide, uwX1, (tb_mem (t_in1 (List.mem_of_getElem? (i := 137) (by decide +kernel))) (by decide +kernel)), rfl, rfl, tyX1_ok 8 (by decide), tyX1_ok, nmX1⟩
theorem flX1_26 : FL RX1 26 1 8 := ⟨_, _, _, rfl, by decide, uwX1, Or.inl (tb_mem (t_in1 (List.mem_of_getElem? (i := 137) (by decide +kernel))) (by decide +kernel))⟩
theorem nwX1_24 : NWd RX1 24 3 7 [.int 0, .int 0, .int 0, .int 0, .int 0, .null, .null] := ⟨_, _, tyX3, rfl, uwX3, tyX3_ok, (tb_mem (t_in1 (List.mem_of_getElem? (i := 54) (by decide +kernel))) (by decide +kernel)), (tb_mem (t_in1 (List.mem_of_getElem? (i := 56) (by decide +kernel))) (by decide +kernel)), (tb_mem (t_in1 (List.mem_of_getElem? (i := 4) (by decide +kernel))) (by decide +kernel)), fun j hj => by
  have h2 : j = 0 ∨ j = 1 ∨ j = 2 ∨ j = 3 ∨ j = 4 ∨ j = 5 ∨ j = 6 := by omega
  rcases h2 with rfl | rfl | rfl | rfl | rfl | rfl | rfl <;> rfl⟩
theorem iiX1_30 : IIw RX1 30 yX3_init cX3_init 1 0 := ⟨Or.inr ⟨"GapTellings", (nw_mem (t_in1 (List.mem_of_getElem? (i := 57) (by decide +kernel))) (by decide +kernel))⟩, (tb_mem (t_in1 (List.mem_of_getElem? (i := 58) (by decide +kernel))) (by decide +kernel)), (tb_mem (t_in1 (List.mem_of_getElem? (i := 4) (by decide +kernel))) (by decide +kernel)), (tb_mem (t_in1 (List.mem_of_getElem? (i := 59) (by decide +kernel))) (by decide +kernel)), rfl, ⟨by decide +kernel, by decide +kernel, by decide +kernel⟩⟩
abbrev rmX1_init : Room := { frames := 2, cells := 26, slots := 138, locals := 40 }
abbrev blX1_init (a  : Nat) (cs : CS) (u : Nat → Nat) : va_W := [(a, .inr (1, [.int 0, .int 0, .ref (u 0), .int 0, .ref (u 1), .ref (u 2), .ref (u 3), .int 0, .ref (u 4)])), ((u 0), iA cs 4), ((u 1), iA cs 12), ((u 2), iA cs 12), ((u 3), iA cs 12), ((u 4), pA cs 7 (va_up (va_up (va_up (va_up (va_up (va_up (va_up (fun _ => none) (0 : Int32).toNatClampNeg (some (u 5))) (1 : Int32).toNatClampNeg (some (u 8))) (2 : Int32).toNatClampNeg (some (u 11))) (3 : Int32).toNatClampNeg (some (u 14))) (4 : Int32).toNatClampNeg (some (u 17))) (5 : Int32).toNatClampNeg (some (u 20))) (6 : Int32).toNatClampNeg (some (u 23)))), ((u 5), .inr (3, [.int 0, .int 0, .int 0, .int 0, .int 0, .ref (u 6), .ref (u 7)])), ((u 6), iA cs 3), ((u 7), iA cs 3), ((u 8), .inr (3, [.int 0, .int 0, .int 0, .int 0, .int 0, .ref (u 9), .ref (u 10)])), ((u 9), iA cs 3), ((u 10), iA cs 3), ((u 11), .inr (3, [.int 0, .int 0, .int 0, .int 0, .int 0, .ref (u 12), .ref (u 13)])), ((u 12), iA cs 3), ((u 13), iA cs 3), ((u 14), .inr (3, [.int 0, .int 0, .int 0, .int 0, .int 0, .ref (u 15), .ref (u 16)])), ((u 15), iA cs 3), ((u 16), iA cs 3), ((u 17), .inr (3, [.int 0, .int 0, .int 0, .int 0, .int 0, .ref (u 18), .ref (u 19)])), ((u 18), iA cs 3), ((u 19), iA cs 3), ((u 20), .inr (3, [.int 0, .int 0, .int 0, .int 0, .int 0, .ref (u 21), .ref (u 22)])), ((u 21), iA cs 3), ((u 22), iA cs 3), ((u 23), .inr (3, [.int 0, .int 0, .int 0, .int 0, .int 0, .ref (u 24), .ref (u 25)])), ((u 24), iA cs 3), ((u 25), iA cs 3)]
set_option maxHeartbeats 4000000 in
set_option maxRecDepth 100000 in
theorem ciX1_init (a  : Nat) : CtI yX1_init cX1_init 2 rmX1_init [.ref a] (fun _ => (a, .inr (1, [.int 0, .int 0, .null, .int 0, .null, .null, .null, .int 0, .null]))) (LB (blX1_init a )) := by
  refine ci_of (by decide) (Nat.le_of_ble_eq_true rfl) ?_
  intro κ C hin hq
  have C : Cg κ RX1 cX1_init 2 none rmX1_init := C
  have hin : κ.2.1.2.2.2.1.name = "<init>" := hin
  refine g_aload_n C dX1_init_0 0 rfl ?_
  refine g_obj C dX1_init_1 oiX1_3 (Nat.le_of_ble_eq_true rfl) ⟨by decide, by decide⟩ ?_
  refine g_aload_n C dX1_init_4 0 rfl ?_
  refine g_iconst C dX1_init_5 (v := 4) (by decide) ?_
  refine g_newi C dX1_init_6 (by decide) (N := 4) (by decide) (Nat.le_of_ble_eq_true rfl) ⟨Nat.le_of_ble_eq_true rfl, Nat.le_of_ble_eq_true rfl⟩ (fun q0 => ?_)
  refine g_putF C hin 0 dX1_init_8 pfX1_9 rfl (Nat.le_of_ble_eq_true rfl) rfl rfl (ws' := [(a, .inr (1, [.int 0, .int 0, .ref q0, .int 0, .null, .null, .null, .int 0, .null])), (q0, iA κ.2.2.2.1 4)]) rfl ?_
  refine g_aload_n C dX1_init_11 0 rfl ?_
  refine g_bipush C dX1_init_12 (v := 12) (by decide) ?_
  refine g_newi C dX1_init_14 (by decide) (N := 12) (by decide) (Nat.le_of_ble_eq_true rfl) ⟨Nat.le_of_ble_eq_true rfl, Nat.le_of_ble_eq_true rfl⟩ (fun q1 => ?_)
  refine g_putF C hin 0 dX1_init_16 pfX1_15 rfl (Nat.le_of_ble_eq_true rfl) rfl rfl (ws' := [(a, .inr (1, [.int 0, .int 0, .ref q0, .int 0, .ref q1, .null, .null, .int 0, .null])), (q0, iA κ.2.2.2.1 4), (q1, iA κ.2.2.2.1 12)]) rfl ?_
  refine g_aload_n C dX1_init_19 0 rfl ?_
  refine g_bipush C dX1_init_20 (v := 12) (by decide) ?_
  refine g_newi C dX1_init_22 (by decide) (N := 12) (by decide) (Nat.le_of_ble_eq_true rfl) ⟨Nat.le_of_ble_eq_true rfl, Nat.le_of_ble_eq_true rfl⟩ (fun q2 => ?_)
  refine g_putF C hin 0 dX1_init_24 pfX1_18 rfl (Nat.le_of_ble_eq_true rfl) rfl rfl (ws' := [(a, .inr (1, [.int 0, .int 0, .ref q0, .int 0, .ref q1, .ref q2, .null, .int 0, .null])), (q0, iA κ.2.2.2.1 4), (q1, iA κ.2.2.2.1 12), (q2, iA κ.2.2.2.1 12)]) rfl ?_
  refine g_aload_n C dX1_init_27 0 rfl ?_
  refine g_bipush C dX1_init_28 (v := 12) (by decide) ?_
  refine g_newi C dX1_init_30 (by decide) (N := 12) (by decide) (Nat.le_of_ble_eq_true rfl) ⟨Nat.le_of_ble_eq_true rfl, Nat.le_of_ble_eq_true rfl⟩ (fun q3 => ?_)
  refine g_putF C hin 0 dX1_init_32 pfX1_21 rfl (Nat.le_of_ble_eq_true rfl) rfl rfl (ws' := [(a, .inr (1, [.int 0, .int 0, .ref q0, .int 0, .ref q1, .ref q2, .ref q3, .int 0, .null])), (q0, iA κ.2.2.2.1 4), (q1, iA κ.2.2.2.1 12), (q2, iA κ.2.2.2.1 12), (q3, iA κ.2.2.2.1 12)]) rfl ?_
  refine g_aload_n C dX1_init_35 0 rfl ?_
  refine g_bipush C dX1_init_36 (v := 7) (by decide) ?_
  refine g_newp C dX1_init_38 clX1_24 (by decide) (N := 7) (by decide) (Nat.le_of_ble_eq_true rfl) ⟨Nat.le_of_ble_eq_true rfl, Nat.le_of_ble_eq_true rfl⟩ (fun q4 => ?_)
  refine g_putF C hin 0 dX1_init_41 pfX1_26 rfl (Nat.le_of_ble_eq_true rfl) rfl rfl (ws' := [(a, .inr (1, [.int 0, .int 0, .ref q0, .int 0, .ref q1, .ref q2, .ref q3, .int 0, .ref q4])), (q0, iA κ.2.2.2.1 4), (q1, iA κ.2.2.2.1 12), (q2, iA κ.2.2.2.1 12), (q3, iA κ.2.2.2.1 12), (q4, pA κ.2.2.2.1 7 (fun _ => none))]) rfl ?_
  refine g_iconst C dX1_init_44 (v := 0) (by decide) ?_
  refine g_istore_n C dX1_init_45 (by decide) (lv' := [(1, .int (0)), (0, .ref a)]) rfl ?_
  refine g_iload_n C dX1_init_46 0 rfl ?_
  refine g_bipush C dX1_init_47 (v := 7) (by decide) ?_
  refine g_icmp_ge C dX1_init_49 (tgt := 71) (by decide) (fun h => absurd h (by decide)) (fun _ => ?_)
  refine g_aload_n C dX1_init_52 1 rfl ?_
  refine g_getL C 0 dX1_init_53 flX1_26 rfl rfl ?_
  refine g_iload_n C dX1_init_56 0 rfl ?_
  refine g_new C dX1_init_57 nwX1_24 ⟨Nat.le_of_ble_eq_true rfl, Nat.le_of_ble_eq_true rfl⟩ (fun q5 => ?_)
  refine g_dup C rfl dX1_init_60 ?_
  refine g_initL C (ciX3_init q5) dX1_init_61 iiX1_30 ⟨by decide, by decide, Nat.le_of_ble_eq_true rfl, Nat.le_of_ble_eq_true rfl⟩ rfl (Nat.le_of_ble_eq_true rfl) (st := [.ref q5, .int (0), .ref q4]) rfl (wr := [(a, .inr (1, [.int 0, .int 0, .ref q0, .int 0, .ref q1, .ref q2, .ref q3, .int 0, .ref q4])), (q0, iA κ.2.2.2.1 4), (q1, iA κ.2.2.2.1 12), (q2, iA κ.2.2.2.1 12), (q3, iA κ.2.2.2.1 12), (q4, pA κ.2.2.2.1 7 (fun _ => none))]) rfl (fun u6 => ?_)
  refine g_aast C 5 6 dX1_init_64 rfl rfl (vp_in_iff.mpr ⟨by decide +kernel, by decide +kernel⟩) (ws' := [(a, .inr (1, [.int 0, .int 0, .ref q0, .int 0, .ref q1, .ref q2, .ref q3, .int 0, .ref q4])), (q0, iA κ.2.2.2.1 4), (q1, iA κ.2.2.2.1 12), (q2, iA κ.2.2.2.1 12), (q3, iA κ.2.2.2.1 12), (q4, pA κ.2.2.2.1 7 (va_up (fun _ => none) (0 : Int32).toNatClampNeg (some q5))), (q5, .inr (3, [.int 0, .int 0, .int 0, .int 0, .int 0, .ref (u6 0), .ref (u6 1)])), ((u6 0), iA κ.2.2.2.1 3), ((u6 1), iA κ.2.2.2.1 3)]) rfl ?_
  refine g_iinc C dX1_init_65 0 rfl (v := 1) (by decide) (by decide) (lv' := [(1, .int (1)), (0, .ref a)]) rfl ?_
  refine g_goto C dX1_init_68 (tgt := 46) (by decide) ?_
  refine g_iload_n C dX1_init_46 0 rfl ?_
  refine g_bipush C dX1_init_47 (v := 7) (by decide) ?_
  refine g_icmp_ge C dX1_init_49 (tgt := 71) (by decide) (fun h => absurd h (by decide)) (fun _ => ?_)
  refine g_aload_n C dX1_init_52 1 rfl ?_
  refine g_getL C 0 dX1_init_53 flX1_26 rfl rfl ?_
  refine g_iload_n C dX1_init_56 0 rfl ?_
  refine g_new C dX1_init_57 nwX1_24 ⟨Nat.le_of_ble_eq_true rfl, Nat.le_of_ble_eq_true rfl⟩ (fun q7 => ?_)
  refine g_dup C rfl dX1_init_60 ?_
  refine g_initL C (ciX3_init q7) dX1_init_61 iiX1_30 ⟨by decide, by decide, Nat.le_of_ble_eq_true rfl, Nat.le_of_ble_eq_true rfl⟩ rfl (Nat.le_of_ble_eq_true rfl) (st := [.ref q7, .int (1), .ref q4]) rfl (wr := [(a, .inr (1, [.int 0, .int 0, .ref q0, .int 0, .ref q1, .ref q2, .ref q3, .int 0, .ref q4])), (q0, iA κ.2.2.2.1 4), (q1, iA κ.2.2.2.1 12), (q2, iA κ.2.2.2.1 12), (q3, iA κ.2.2.2.1 12), (q4, pA κ.2.2.2.1 7 (va_up (fun _ => none) (0 : Int32).toNatClampNeg (some q5))), (q5, .inr (3, [.int 0, .int 0, .int 0, .int 0, .int 0, .ref (u6 0), .ref (u6 1)])), ((u6 0), iA κ.2.2.2.1 3), ((u6 1), iA κ.2.2.2.1 3)]) rfl (fun u8 => ?_)
  refine g_aast C 5 9 dX1_init_64 rfl rfl (vp_in_iff.mpr ⟨by decide +kernel, by decide +kernel⟩) (ws' := [(a, .inr (1, [.int 0, .int 0, .ref q0, .int 0, .ref q1, .ref q2, .ref q3, .int 0, .ref q4])), (q0, iA κ.2.2.2.1 4), (q1, iA κ.2.2.2.1 12), (q2, iA κ.2.2.2.1 12), (q3, iA κ.2.2.2.1 12), (q4, pA κ.2.2.2.1 7 (va_up (va_up (fun _ => none) (0 : Int32).toNatClampNeg (some q5)) (1 : Int32).toNatClampNeg (some q7))), (q5, .inr (3, [.int 0, .int 0, .int 0, .int 0, .int 0, .ref (u6 0), .ref (u6 1)])), ((u6 0), iA κ.2.2.2.1 3), ((u6 1), iA κ.2.2.2.1 3), (q7, .inr (3, [.int 0, .int 0, .int 0, .int 0, .int 0, .ref (u8 0), .ref (u8 1)])), ((u8 0), iA κ.2.2.2.1 3), ((u8 1), iA κ.2.2.2.1 3)]) rfl ?_
  refine g_iinc C dX1_init_65 0 rfl (v := 2) (by decide) (by decide) (lv' := [(1, .int (2)), (0, .ref a)]) rfl ?_
  refine g_goto C dX1_init_68 (tgt := 46) (by decide) ?_
  refine g_iload_n C dX1_init_46 0 rfl ?_
  refine g_bipush C dX1_init_47 (v := 7) (by decide) ?_
  refine g_icmp_ge C dX1_init_49 (tgt := 71) (by decide) (fun h => absurd h (by decide)) (fun _ => ?_)
  refine g_aload_n C dX1_init_52 1 rfl ?_
  refine g_getL C 0 dX1_init_53 flX1_26 rfl rfl ?_
  refine g_iload_n C dX1_init_56 0 rfl ?_
  refine g_new C dX1_init_57 nwX1_24 ⟨Nat.le_of_ble_eq_true rfl, Nat.le_of_ble_eq_true rfl⟩ (fun q9 => ?_)
  refine g_dup C rfl dX1_init_60 ?_
  refine g_initL C (ciX3_init q9) dX1_init_61 iiX1_30 ⟨by decide, by decide, Nat.le_of_ble_eq_true rfl, Nat.le_of_ble_eq_true rfl⟩ rfl (Nat.le_of_ble_eq_true rfl) (st := [.ref q9, .int (2), .ref q4]) rfl (wr := [(a, .inr (1, [.int 0, .int 0, .ref q0, .int 0, .ref q1, .ref q2, .ref q3, .int 0, .ref q4])), (q0, iA κ.2.2.2.1 4), (q1, iA κ.2.2.2.1 12), (q2, iA κ.2.2.2.1 12), (q3, iA κ.2.2.2.1 12), (q4, pA κ.2.2.2.1 7 (va_up (va_up (fun _ => none) (0 : Int32).toNatClampNeg (some q5)) (1 : Int32).toNatClampNeg (some q7))), (q5, .inr (3, [.int 0, .int 0, .int 0, .int 0, .int 0, .ref (u6 0), .ref (u6 1)])), ((u6 0), iA κ.2.2.2.1 3), ((u6 1), iA κ.2.2.2.1 3), (q7, .inr (3, [.int 0, .int 0, .int 0, .int 0, .int 0, .ref (u8 0), .ref (u8 1)])), ((u8 0), iA κ.2.2.2.1 3), ((u8 1), iA κ.2.2.2.1 3)]) rfl (fun u10 => ?_)
  refine g_aast C 5 12 dX1_init_64 rfl rfl (vp_in_iff.mpr ⟨by decide +kernel, by decide +kernel⟩) (ws' := [(a, .inr (1, [.int 0, .int 0, .ref q0, .int 0, .ref q1, .ref q2, .ref q3, .int 0, .ref q4])), (q0, iA κ.2.2.2.1 4), (q1, iA κ.2.2.2.1 12), (q2, iA κ.2.2.2.1 12), (q3, iA κ.2.2.2.1 12), (q4, pA κ.2.2.2.1 7 (va_up (va_up (va_up (fun _ => none) (0 : Int32).toNatClampNeg (some q5)) (1 : Int32).toNatClampNeg (some q7)) (2 : Int32).toNatClampNeg (some q9))), (q5, .inr (3, [.int 0, .int 0, .int 0, .int 0, .int 0, .ref (u6 0), .ref (u6 1)])), ((u6 0), iA κ.2.2.2.1 3), ((u6 1), iA κ.2.2.2.1 3), (q7, .inr (3, [.int 0, .int 0, .int 0, .int 0, .int 0, .ref (u8 0), .ref (u8 1)])), ((u8 0), iA κ.2.2.2.1 3), ((u8 1), iA κ.2.2.2.1 3), (q9, .inr (3, [.int 0, .int 0, .int 0, .int 0, .int 0, .ref (u10 0), .ref (u10 1)])), ((u10 0), iA κ.2.2.2.1 3), ((u10 1), iA κ.2.2.2.1 3)]) rfl ?_
  refine g_iinc C dX1_init_65 0 rfl (v := 3) (by decide) (by decide) (lv' := [(1, .int (3)), (0, .ref a)]) rfl ?_
  refine g_goto C dX1_init_68 (tgt := 46) (by decide) ?_
  refine g_iload_n C dX1_init_46 0 rfl ?_
  refine g_bipush C dX1_init_47 (v := 7) (by decide) ?_
  refine g_icmp_ge C dX1_init_49 (tgt := 71) (by decide) (fun h => absurd h (by decide)) (fun _ => ?_)
  refine g_aload_n C dX1_init_52 1 rfl ?_
  refine g_getL C 0 dX1_init_53 flX1_26 rfl rfl ?_
  refine g_iload_n C dX1_init_56 0 rfl ?_
  refine g_new C dX1_init_57 nwX1_24 ⟨Nat.le_of_ble_eq_true rfl, Nat.le_of_ble_eq_true rfl⟩ (fun q11 => ?_)
  refine g_dup C rfl dX1_init_60 ?_
  refine g_initL C (ciX3_init q11) dX1_init_61 iiX1_30 ⟨by decide, by decide, Nat.le_of_ble_eq_true rfl, Nat.le_of_ble_eq_true rfl⟩ rfl (Nat.le_of_ble_eq_true rfl) (st := [.ref q11, .int (3), .ref q4]) rfl (wr := [(a, .inr (1, [.int 0, .int 0, .ref q0, .int 0, .ref q1, .ref q2, .ref q3, .int 0, .ref q4])), (q0, iA κ.2.2.2.1 4), (q1, iA κ.2.2.2.1 12), (q2, iA κ.2.2.2.1 12), (q3, iA κ.2.2.2.1 12), (q4, pA κ.2.2.2.1 7 (va_up (va_up (va_up (fun _ => none) (0 : Int32).toNatClampNeg (some q5)) (1 : Int32).toNatClampNeg (some q7)) (2 : Int32).toNatClampNeg (some q9))), (q5, .inr (3, [.int 0, .int 0, .int 0, .int 0, .int 0, .ref (u6 0), .ref (u6 1)])), ((u6 0), iA κ.2.2.2.1 3), ((u6 1), iA κ.2.2.2.1 3), (q7, .inr (3, [.int 0, .int 0, .int 0, .int 0, .int 0, .ref (u8 0), .ref (u8 1)])), ((u8 0), iA κ.2.2.2.1 3), ((u8 1), iA κ.2.2.2.1 3), (q9, .inr (3, [.int 0, .int 0, .int 0, .int 0, .int 0, .ref (u10 0), .ref (u10 1)])), ((u10 0), iA κ.2.2.2.1 3), ((u10 1), iA κ.2.2.2.1 3)]) rfl (fun u12 => ?_)
  refine g_aast C 5 15 dX1_init_64 rfl rfl (vp_in_iff.mpr ⟨by decide +kernel, by decide +kernel⟩) (ws' := [(a, .inr (1, [.int 0, .int 0, .ref q0, .int 0, .ref q1, .ref q2, .ref q3, .int 0, .ref q4])), (q0, iA κ.2.2.2.1 4), (q1, iA κ.2.2.2.1 12), (q2, iA κ.2.2.2.1 12), (q3, iA κ.2.2.2.1 12), (q4, pA κ.2.2.2.1 7 (va_up (va_up (va_up (va_up (fun _ => none) (0 : Int32).toNatClampNeg (some q5)) (1 : Int32).toNatClampNeg (some q7)) (2 : Int32).toNatClampNeg (some q9)) (3 : Int32).toNatClampNeg (some q11))), (q5, .inr (3, [.int 0, .int 0, .int 0, .int 0, .int 0, .ref (u6 0), .ref (u6 1)])), ((u6 0), iA κ.2.2.2.1 3), ((u6 1), iA κ.2.2.2.1 3), (q7, .inr (3, [.int 0, .int 0, .int 0, .int 0, .int 0, .ref (u8 0), .ref (u8 1)])), ((u8 0), iA κ.2.2.2.1 3), ((u8 1), iA κ.2.2.2.1 3), (q9, .inr (3, [.int 0, .int 0, .int 0, .int 0, .int 0, .ref (u10 0), .ref (u10 1)])), ((u10 0), iA κ.2.2.2.1 3), ((u10 1), iA κ.2.2.2.1 3), (q11, .inr (3, [.int 0, .int 0, .int 0, .int 0, .int 0, .ref (u12 0), .ref (u12 1)])), ((u12 0), iA κ.2.2.2.1 3), ((u12 1), iA κ.2.2.2.1 3)]) rfl ?_
  refine g_iinc C dX1_init_65 0 rfl (v := 4) (by decide) (by decide) (lv' := [(1, .int (4)), (0, .ref a)]) rfl ?_
  refine g_goto C dX1_init_68 (tgt := 46) (by decide) ?_
  refine g_iload_n C dX1_init_46 0 rfl ?_
  refine g_bipush C dX1_init_47 (v := 7) (by decide) ?_
  refine g_icmp_ge C dX1_init_49 (tgt := 71) (by decide) (fun h => absurd h (by decide)) (fun _ => ?_)
  refine g_aload_n C dX1_init_52 1 rfl ?_
  refine g_getL C 0 dX1_init_53 flX1_26 rfl rfl ?_
  refine g_iload_n C dX1_init_56 0 rfl ?_
  refine g_new C dX1_init_57 nwX1_24 ⟨Nat.le_of_ble_eq_true rfl, Nat.le_of_ble_eq_true rfl⟩ (fun q13 => ?_)
  refine g_dup C rfl dX1_init_60 ?_
  refine g_initL C (ciX3_init q13) dX1_init_61 iiX1_30 ⟨by decide, by decide, Nat.le_of_ble_eq_true rfl, Nat.le_of_ble_eq_true rfl⟩ rfl (Nat.le_of_ble_eq_true rfl) (st := [.ref q13, .int (4), .ref q4]) rfl (wr := [(a, .inr (1, [.int 0, .int 0, .ref q0, .int 0, .ref q1, .ref q2, .ref q3, .int 0, .ref q4])), (q0, iA κ.2.2.2.1 4), (q1, iA κ.2.2.2.1 12), (q2, iA κ.2.2.2.1 12), (q3, iA κ.2.2.2.1 12), (q4, pA κ.2.2.2.1 7 (va_up (va_up (va_up (va_up (fun _ => none) (0 : Int32).toNatClampNeg (some q5)) (1 : Int32).toNatClampNeg (some q7)) (2 : Int32).toNatClampNeg (some q9)) (3 : Int32).toNatClampNeg (some q11))), (q5, .inr (3, [.int 0, .int 0, .int 0, .int 0, .int 0, .ref (u6 0), .ref (u6 1)])), ((u6 0), iA κ.2.2.2.1 3), ((u6 1), iA κ.2.2.2.1 3), (q7, .inr (3, [.int 0, .int 0, .int 0, .int 0, .int 0, .ref (u8 0), .ref (u8 1)])), ((u8 0), iA κ.2.2.2.1 3), ((u8 1), iA κ.2.2.2.1 3), (q9, .inr (3, [.int 0, .int 0, .int 0, .int 0, .int 0, .ref (u10 0), .ref (u10 1)])), ((u10 0), iA κ.2.2.2.1 3), ((u10 1), iA κ.2.2.2.1 3), (q11, .inr (3, [.int 0, .int 0, .int 0, .int 0, .int 0, .ref (u12 0), .ref (u12 1)])), ((u12 0), iA κ.2.2.2.1 3), ((u12 1), iA κ.2.2.2.1 3)]) rfl (fun u14 => ?_)
  refine g_aast C 5 18 dX1_init_64 rfl rfl (vp_in_iff.mpr ⟨by decide +kernel, by decide +kernel⟩) (ws' := [(a, .inr (1, [.int 0, .int 0, .ref q0, .int 0, .ref q1, .ref q2, .ref q3, .int 0, .ref q4])), (q0, iA κ.2.2.2.1 4), (q1, iA κ.2.2.2.1 12), (q2, iA κ.2.2.2.1 12), (q3, iA κ.2.2.2.1 12), (q4, pA κ.2.2.2.1 7 (va_up (va_up (va_up (va_up (va_up (fun _ => none) (0 : Int32).toNatClampNeg (some q5)) (1 : Int32).toNatClampNeg (some q7)) (2 : Int32).toNatClampNeg (some q9)) (3 : Int32).toNatClampNeg (some q11)) (4 : Int32).toNatClampNeg (some q13))), (q5, .inr (3, [.int 0, .int 0, .int 0, .int 0, .int 0, .ref (u6 0), .ref (u6 1)])), ((u6 0), iA κ.2.2.2.1 3), ((u6 1), iA κ.2.2.2.1 3), (q7, .inr (3, [.int 0, .int 0, .int 0, .int 0, .int 0, .ref (u8 0), .ref (u8 1)])), ((u8 0), iA κ.2.2.2.1 3), ((u8 1), iA κ.2.2.2.1 3), (q9, .inr (3, [.int 0, .int 0, .int 0, .int 0, .int 0, .ref (u10 0), .ref (u10 1)])), ((u10 0), iA κ.2.2.2.1 3), ((u10 1), iA κ.2.2.2.1 3), (q11, .inr (3, [.int 0, .int 0, .int 0, .int 0, .int 0, .ref (u12 0), .ref (u12 1)])), ((u12 0), iA κ.2.2.2.1 3), ((u12 1), iA κ.2.2.2.1 3), (q13, .inr (3, [.int 0, .int 0, .int 0, .int 0, .int 0, .ref (u14 0), .ref (u14 1)])), ((u14 0), iA κ.2.2.2.1 3), ((u14 1), iA κ.2.2.2.1 3)]) rfl ?_
  refine g_iinc C dX1_init_65 0 rfl (v := 5) (by decide) (by decide) (lv' := [(1, .int (5)), (0, .ref a)]) rfl ?_
  refine g_goto C dX1_init_68 (tgt := 46) (by decide) ?_
  refine g_iload_n C dX1_init_46 0 rfl ?_
  refine g_bipush C dX1_init_47 (v := 7) (by decide) ?_
  refine g_icmp_ge C dX1_init_49 (tgt := 71) (by decide) (fun h => absurd h (by decide)) (fun _ => ?_)
  refine g_aload_n C dX1_init_52 1 rfl ?_
  refine g_getL C 0 dX1_init_53 flX1_26 rfl rfl ?_
  refine g_iload_n C dX1_init_56 0 rfl ?_
  refine g_new C dX1_init_57 nwX1_24 ⟨Nat.le_of_ble_eq_true rfl, Nat.le_of_ble_eq_true rfl⟩ (fun q15 => ?_)
  refine g_dup C rfl dX1_init_60 ?_
  refine g_initL C (ciX3_init q15) dX1_init_61 iiX1_30 ⟨by decide, by decide, Nat.le_of_ble_eq_true rfl, Nat.le_of_ble_eq_true rfl⟩ rfl (Nat.le_of_ble_eq_true rfl) (st := [.ref q15, .int (5), .ref q4]) rfl (wr := [(a, .inr (1, [.int 0, .int 0, .ref q0, .int 0, .ref q1, .ref q2, .ref q3, .int 0, .ref q4])), (q0, iA κ.2.2.2.1 4), (q1, iA κ.2.2.2.1 12), (q2, iA κ.2.2.2.1 12), (q3, iA κ.2.2.2.1 12), (q4, pA κ.2.2.2.1 7 (va_up (va_up (va_up (va_up (va_up (fun _ => none) (0 : Int32).toNatClampNeg (some q5)) (1 : Int32).toNatClampNeg (some q7)) (2 : Int32).toNatClampNeg (some q9)) (3 : Int32).toNatClampNeg (some q11)) (4 : Int32).toNatClampNeg (some q13))), (q5, .inr (3, [.int 0, .int 0, .int 0, .int 0, .int 0, .ref (u6 0), .ref (u6 1)])), ((u6 0), iA κ.2.2.2.1 3), ((u6 1), iA κ.2.2.2.1 3), (q7, .inr (3, [.int 0, .int 0, .int 0, .int 0, .int 0, .ref (u8 0), .ref (u8 1)])), ((u8 0), iA κ.2.2.2.1 3), ((u8 1), iA κ.2.2.2.1 3), (q9, .inr (3, [.int 0, .int 0, .int 0, .int 0, .int 0, .ref (u10 0), .ref (u10 1)])), ((u10 0), iA κ.2.2.2.1 3), ((u10 1), iA κ.2.2.2.1 3), (q11, .inr (3, [.int 0, .int 0, .int 0, .int 0, .int 0, .ref (u12 0), .ref (u12 1)])), ((u12 0), iA κ.2.2.2.1 3), ((u12 1), iA κ.2.2.2.1 3), (q13, .inr (3, [.int 0, .int 0, .int 0, .int 0, .int 0, .ref (u14 0), .ref (u14 1)])), ((u14 0), iA κ.2.2.2.1 3), ((u14 1), iA κ.2.2.2.1 3)]) rfl (fun u16 => ?_)
  refine g_aast C 5 21 dX1_init_64 rfl rfl (vp_in_iff.mpr ⟨by decide +kernel, by decide +kernel⟩) (ws' := [(a, .inr (1, [.int 0, .int 0, .ref q0, .int 0, .ref q1, .ref q2, .ref q3, .int 0, .ref q4])), (q0, iA κ.2.2.2.1 4), (q1, iA κ.2.2.2.1 12), (q2, iA κ.2.2.2.1 12), (q3, iA κ.2.2.2.1 12), (q4, pA κ.2.2.2.1 7 (va_up (va_up (va_up (va_up (va_up (va_up (fun _ => none) (0 : Int32).toNatClampNeg (some q5)) (1 : Int32).toNatClampNeg (some q7)) (2 : Int32).toNatClampNeg (some q9)) (3 : Int32).toNatClampNeg (some q11)) (4 : Int32).toNatClampNeg (some q13)) (5 : Int32).toNatClampNeg (some q15))), (q5, .inr (3, [.int 0, .int 0, .int 0, .int 0, .int 0, .ref (u6 0), .ref (u6 1)])), ((u6 0), iA κ.2.2.2.1 3), ((u6 1), iA κ.2.2.2.1 3), (q7, .inr (3, [.int 0, .int 0, .int 0, .int 0, .int 0, .ref (u8 0), .ref (u8 1)])), ((u8 0), iA κ.2.2.2.1 3), ((u8 1), iA κ.2.2.2.1 3), (q9, .inr (3, [.int 0, .int 0, .int 0, .int 0, .int 0, .ref (u10 0), .ref (u10 1)])), ((u10 0), iA κ.2.2.2.1 3), ((u10 1), iA κ.2.2.2.1 3), (q11, .inr (3, [.int 0, .int 0, .int 0, .int 0, .int 0, .ref (u12 0), .ref (u12 1)])), ((u12 0), iA κ.2.2.2.1 3), ((u12 1), iA κ.2.2.2.1 3), (q13, .inr (3, [.int 0, .int 0, .int 0, .int 0, .int 0, .ref (u14 0), .ref (u14 1)])), ((u14 0), iA κ.2.2.2.1 3), ((u14 1), iA κ.2.2.2.1 3), (q15, .inr (3, [.int 0, .int 0, .int 0, .int 0, .int 0, .ref (u16 0), .ref (u16 1)])), ((u16 0), iA κ.2.2.2.1 3), ((u16 1), iA κ.2.2.2.1 3)]) rfl ?_
  refine g_iinc C dX1_init_65 0 rfl (v := 6) (by decide) (by decide) (lv' := [(1, .int (6)), (0, .ref a)]) rfl ?_
  refine g_goto C dX1_init_68 (tgt := 46) (by decide) ?_
  refine g_iload_n C dX1_init_46 0 rfl ?_
  refine g_bipush C dX1_init_47 (v := 7) (by decide) ?_
  refine g_icmp_ge C dX1_init_49 (tgt := 71) (by decide) (fun h => absurd h (by decide)) (fun _ => ?_)
  refine g_aload_n C dX1_init_52 1 rfl ?_
  refine g_getL C 0 dX1_init_53 flX1_26 rfl rfl ?_
  refine g_iload_n C dX1_init_56 0 rfl ?_
  refine g_new C dX1_init_57 nwX1_24 ⟨Nat.le_of_ble_eq_true rfl, Nat.le_of_ble_eq_true rfl⟩ (fun q17 => ?_)
  refine g_dup C rfl dX1_init_60 ?_
  refine g_initL C (ciX3_init q17) dX1_init_61 iiX1_30 ⟨by decide, by decide, Nat.le_of_ble_eq_true rfl, Nat.le_of_ble_eq_true rfl⟩ rfl (Nat.le_of_ble_eq_true rfl) (st := [.ref q17, .int (6), .ref q4]) rfl (wr := [(a, .inr (1, [.int 0, .int 0, .ref q0, .int 0, .ref q1, .ref q2, .ref q3, .int 0, .ref q4])), (q0, iA κ.2.2.2.1 4), (q1, iA κ.2.2.2.1 12), (q2, iA κ.2.2.2.1 12), (q3, iA κ.2.2.2.1 12), (q4, pA κ.2.2.2.1 7 (va_up (va_up (va_up (va_up (va_up (va_up (fun _ => none) (0 : Int32).toNatClampNeg (some q5)) (1 : Int32).toNatClampNeg (some q7)) (2 : Int32).toNatClampNeg (some q9)) (3 : Int32).toNatClampNeg (some q11)) (4 : Int32).toNatClampNeg (some q13)) (5 : Int32).toNatClampNeg (some q15))), (q5, .inr (3, [.int 0, .int 0, .int 0, .int 0, .int 0, .ref (u6 0), .ref (u6 1)])), ((u6 0), iA κ.2.2.2.1 3), ((u6 1), iA κ.2.2.2.1 3), (q7, .inr (3, [.int 0, .int 0, .int 0, .int 0, .int 0, .ref (u8 0), .ref (u8 1)])), ((u8 0), iA κ.2.2.2.1 3), ((u8 1), iA κ.2.2.2.1 3), (q9, .inr (3, [.int 0, .int 0, .int 0, .int 0, .int 0, .ref (u10 0), .ref (u10 1)])), ((u10 0), iA κ.2.2.2.1 3), ((u10 1), iA κ.2.2.2.1 3), (q11, .inr (3, [.int 0, .int 0, .int 0, .int 0, .int 0, .ref (u12 0), .ref (u12 1)])), ((u12 0), iA κ.2.2.2.1 3), ((u12 1), iA κ.2.2.2.1 3), (q13, .inr (3, [.int 0, .int 0, .int 0, .int 0, .int 0, .ref (u14 0), .ref (u14 1)])), ((u14 0), iA κ.2.2.2.1 3), ((u14 1), iA κ.2.2.2.1 3), (q15, .inr (3, [.int 0, .int 0, .int 0, .int 0, .int 0, .ref (u16 0), .ref (u16 1)])), ((u16 0), iA κ.2.2.2.1 3), ((u16 1), iA κ.2.2.2.1 3)]) rfl (fun u18 => ?_)
  refine g_aast C 5 24 dX1_init_64 rfl rfl (vp_in_iff.mpr ⟨by decide +kernel, by decide +kernel⟩) (ws' := [(a, .inr (1, [.int 0, .int 0, .ref q0, .int 0, .ref q1, .ref q2, .ref q3, .int 0, .ref q4])), (q0, iA κ.2.2.2.1 4), (q1, iA κ.2.2.2.1 12), (q2, iA κ.2.2.2.1 12), (q3, iA κ.2.2.2.1 12), (q4, pA κ.2.2.2.1 7 (va_up (va_up (va_up (va_up (va_up (va_up (va_up (fun _ => none) (0 : Int32).toNatClampNeg (some q5)) (1 : Int32).toNatClampNeg (some q7)) (2 : Int32).toNatClampNeg (some q9)) (3 : Int32).toNatClampNeg (some q11)) (4 : Int32).toNatClampNeg (some q13)) (5 : Int32).toNatClampNeg (some q15)) (6 : Int32).toNatClampNeg (some q17))), (q5, .inr (3, [.int 0, .int 0, .int 0, .int 0, .int 0, .ref (u6 0), .ref (u6 1)])), ((u6 0), iA κ.2.2.2.1 3), ((u6 1), iA κ.2.2.2.1 3), (q7, .inr (3, [.int 0, .int 0, .int 0, .int 0, .int 0, .ref (u8 0), .ref (u8 1)])), ((u8 0), iA κ.2.2.2.1 3), ((u8 1), iA κ.2.2.2.1 3), (q9, .inr (3, [.int 0, .int 0, .int 0, .int 0, .int 0, .ref (u10 0), .ref (u10 1)])), ((u10 0), iA κ.2.2.2.1 3), ((u10 1), iA κ.2.2.2.1 3), (q11, .inr (3, [.int 0, .int 0, .int 0, .int 0, .int 0, .ref (u12 0), .ref (u12 1)])), ((u12 0), iA κ.2.2.2.1 3), ((u12 1), iA κ.2.2.2.1 3), (q13, .inr (3, [.int 0, .int 0, .int 0, .int 0, .int 0, .ref (u14 0), .ref (u14 1)])), ((u14 0), iA κ.2.2.2.1 3), ((u14 1), iA κ.2.2.2.1 3), (q15, .inr (3, [.int 0, .int 0, .int 0, .int 0, .int 0, .ref (u16 0), .ref (u16 1)])), ((u16 0), iA κ.2.2.2.1 3), ((u16 1), iA κ.2.2.2.1 3), (q17, .inr (3, [.int 0, .int 0, .int 0, .int 0, .int 0, .ref (u18 0), .ref (u18 1)])), ((u18 0), iA κ.2.2.2.1 3), ((u18 1), iA κ.2.2.2.1 3)]) rfl ?_
  refine g_iinc C dX1_init_65 0 rfl (v := 7) (by decide) (by decide) (lv' := [(1, .int (7)), (0, .ref a)]) rfl ?_
  refine g_goto C dX1_init_68 (tgt := 46) (by decide) ?_
  refine g_iload_n C dX1_init_46 0 rfl ?_
  refine g_bipush C dX1_init_47 (v := 7) (by decide) ?_
  refine g_icmp_ge C dX1_init_49 (tgt := 71) (by decide) (fun _ => ?_) (fun h => absurd (by decide) h)
  exact g_vret C hq dX1_init_71 (fun H h => ⟨fun k => match k with | 0 => q0 | 1 => q1 | 2 => q2 | 3 => q3 | 4 => q4 | 5 => q5 | 6 => (u6 0) | 7 => (u6 1) | 8 => q7 | 9 => (u8 0) | 10 => (u8 1) | 11 => q9 | 12 => (u10 0) | 13 => (u10 1) | 14 => q11 | 15 => (u12 0) | 16 => (u12 1) | 17 => q13 | 18 => (u14 0) | 19 => (u14 1) | 20 => q15 | 21 => (u16 0) | 22 => (u16 1) | 23 => q17 | 24 => (u18 0) | 25 => (u18 1) | _ => 0, h⟩)
theorem dX5_init_0 : decode cX5_init 0 = .ok (.aload_n 0, 1) := by decide +kernel
theorem dX5_init_1 : decode cX5_init 1 = .ok (.invokespecial 3, 3) := by decide +kernel
theorem dX5_init_4 : decode cX5_init 4 = .ok (.aload_n 0, 1) := by decide +kernel
theorem dX5_init_5 : decode cX5_init 5 = .ok (.bipush 9, 2) := by decide +kernel
theorem dX5_init_7 : decode cX5_init 7 = .ok (.newarray .int, 2) := by decide +kernel
theorem dX5_init_9 : decode cX5_init 9 = .ok (.putfield 9, 3) := by decide +kernel
theorem dX5_init_12 : decode cX5_init 12 = .ok (.aload_n 0, 1) := by decide +kernel
theorem dX5_init_13 : decode cX5_init 13 = .ok (.bipush 9, 2) := by decide +kernel
theorem dX5_init_15 : decode cX5_init 15 = .ok (.newarray .int, 2) := by decide +kernel
theorem dX5_init_17 : decode cX5_init 17 = .ok (.putfield 15, 3) := by decide +kernel
theorem dX5_init_20 : decode cX5_init 20 = .ok (.return_, 1) := by decide +kernel
theorem oiX5_3 : Cond.methodLink RX5 3 Lib.objectInit ∈ tb := (tb_mem (t_in1 (List.mem_of_getElem? (i := 32) (by decide +kernel))) (by decide +kernel))
theorem pfX5_9 : PF RX5 9 5 0 (tyX5 0) := ⟨_, _, _, tyX5, rfl, by decide, uwX5, (tb_mem (t_in1 (List.mem_of_getElem? (i := 33) (by decide +kernel))) (by decide +kernel)), rfl, rfl, tyX5_ok 0 (by decide), tyX5_ok, nmX5⟩
theorem pfX5_15 : PF RX5 15 5 1 (tyX5 1) := ⟨_, _, _, tyX5, rfl, by decide, uwX5, (tb_mem (t_in1 (List.mem_of_getElem? (i := 34) (by decide +kernel))) (by decide +kernel)), rfl, rfl, tyX5_ok 1 (by decide), tyX5_ok, nmX5⟩
abbrev rmX5_init : Room := { frames := 1, cells := 2, slots := 18, locals := 20 }
abbrev blX5_init (a  : Nat) (cs : CS) (u : Nat → Nat) : va_W := [(a, .inr (5, [.ref (u 0), .ref (u 1), .int 0, .int 0])), ((u 0), iA cs 9), ((u 1), iA cs 9)]
set_option maxHeartbeats 4000000 in
set_option maxRecDepth 100000 in
theorem ciX5_init (a  : Nat) : CtI yX5_init cX5_init 1 rmX5_init [.ref a] (fun _ => (a, .inr (5, [.null, .null, .int 0, .int 0]))) (LB (blX5_init a )) := by
  refine ci_of (by decide) (Nat.le_of_ble_eq_true rfl) ?_
  intro κ C hin hq
  have C : Cg κ RX5 cX5_init 1 none rmX5_init := C
  have hin : κ.2.1.2.2.2.1.name = "<init>" := hin
  refine g_aload_n C dX5_init_0 0 rfl ?_
  refine g_obj C dX5_init_1 oiX5_3 (Nat.le_of_ble_eq_true rfl) ⟨by decide, by decide⟩ ?_
  refine g_aload_n C dX5_init_4 0 rfl ?_
  refine g_bipush C dX5_init_5 (v := 9) (by decide) ?_
  refine g_newi C dX5_init_7 (by decide) (N := 9) (by decide) (Nat.le_of_ble_eq_true rfl) ⟨Nat.le_of_ble_eq_true rfl, Nat.le_of_ble_eq_true rfl⟩ (fun q0 => ?_)
  refine g_putF C hin 0 dX5_init_9 pfX5_9 rfl (Nat.le_of_ble_eq_true rfl) rfl rfl (ws' := [(a, .inr (5, [.ref q0, .null, .int 0, .int 0])), (q0, iA κ.2.2.2.1 9)]) rfl ?_
  refine g_aload_n C dX5_init_12 0 rfl ?_
  refine g_bipush C dX5_init_13 (v := 9) (by decide) ?_
  refine g_newi C dX5_init_15 (by decide) (N := 9) (by decide) (Nat.le_of_ble_eq_true rfl) ⟨Nat.le_of_ble_eq_true rfl, Nat.le_of_ble_eq_true rfl⟩ (fun q1 => ?_)
  refine g_putF C hin 0 dX5_init_17 pfX5_15 rfl (Nat.le_of_ble_eq_true rfl) rfl rfl (ws' := [(a, .inr (5, [.ref q0, .ref q1, .int 0, .int 0])), (q0, iA κ.2.2.2.1 9), (q1, iA κ.2.2.2.1 9)]) rfl ?_
  exact g_vret C hq dX5_init_20 (fun H h => ⟨fun k => match k with | 0 => q0 | 1 => q1 | _ => 0, h⟩)
theorem dX6_init_0 : decode cX6_init 0 = .ok (.aload_n 0, 1) := by decide +kernel
theorem dX6_init_1 : decode cX6_init 1 = .ok (.invokespecial 3, 3) := by decide +kernel
theorem dX6_init_4 : decode cX6_init 4 = .ok (.aload_n 0, 1) := by decide +kernel
theorem dX6_init_5 : decode cX6_init 5 = .ok (.bipush 100, 2) := by decide +kernel
theorem dX6_init_7 : decode cX6_init 7 = .ok (.newarray .int, 2) := by decide +kernel
theorem dX6_init_9 : decode cX6_init 9 = .ok (.putfield 9, 3) := by decide +kernel
theorem dX6_init_12 : decode cX6_init 12 = .ok (.aload_n 0, 1) := by decide +kernel
theorem dX6_init_13 : decode cX6_init 13 = .ok (.bipush 101, 2) := by decide +kernel
theorem dX6_init_15 : decode cX6_init 15 = .ok (.newarray .int, 2) := by decide +kernel
theorem dX6_init_17 : decode cX6_init 17 = .ok (.putfield 15, 3) := by decide +kernel
theorem dX6_init_20 : decode cX6_init 20 = .ok (.aload_n 0, 1) := by decide +kernel
theorem dX6_init_21 : decode cX6_init 21 = .ok (.bipush 101, 2) := by decide +kernel
theorem dX6_init_23 : decode cX6_init 23 = .ok (.newarray .int, 2) := by decide +kernel
theorem dX6_init_25 : decode cX6_init 25 = .ok (.putfield 18, 3) := by decide +kernel
theorem dX6_init_28 : decode cX6_init 28 = .ok (.aload_n 0, 1) := by decide +kernel
theorem dX6_init_29 : decode cX6_init 29 = .ok (.aload_n 1, 1) := by decide +kernel
theorem dX6_init_30 : decode cX6_init 30 = .ok (.putfield 21, 3) := by decide +kernel
theorem dX6_init_33 : decode cX6_init 33 = .ok (.return_, 1) := by decide +kernel
theorem oiX6_3 : Cond.methodLink RX6 3 Lib.objectInit ∈ tb := (tb_mem (t_in1 (List.mem_of_getElem? (i := 168) (by decide +kernel))) (by decide +kernel))
theorem pfX6_9 : PF RX6 9 6 1 (tyX6 1) := ⟨_, _, _, tyX6, rfl, by decide, uwX6, (tb_mem (t_in1 (List.mem_of_getElem? (i := 170) (by decide +kernel))) (by decide +kernel)), rfl, rfl, tyX6_ok 1 (by decide), tyX6_ok, nmX6⟩
theorem pfX6_15 : PF RX6 15 6 2 (tyX6 2) := ⟨_, _, _, tyX6, rfl, by decide, uwX6, (tb_mem (t_in1 (List.mem_of_getElem? (i := 172) (by decide +kernel))) (by decide +kernel)), rfl, rfl, tyX6_ok 2 (by decide), tyX6_ok, nmX6⟩
theorem pfX6_18 : PF RX6 18 6 3 (tyX6 3) := ⟨_, _, _, tyX6, rfl, by decide, uwX6, (tb_mem (t_in1 (List.mem_of_getElem? (i := 174) (by decide +kernel))) (by decide +kernel)), rfl, rfl, tyX6_ok 3 (by decide), tyX6_ok, nmX6⟩
theorem pfX6_21 : PF RX6 21 6 0 (tyX6 0) := ⟨_, _, _, tyX6, rfl, by decide, uwX6, (tb_mem (t_in1 (List.mem_of_getElem? (i := 169) (by decide +kernel))) (by decide +kernel)), rfl, rfl, tyX6_ok 0 (by decide), tyX6_ok, nmX6⟩
abbrev rmX6_init : Room := { frames := 1, cells := 3, slots := 302, locals := 20 }
abbrev blX6_init (a f : Nat) (cs : CS) (u : Nat → Nat) : va_W := [(a, .inr (6, [.ref f, .ref (u 0), .ref (u 1), .ref (u 2)])), ((u 0), iA cs 100), ((u 1), iA cs 101), ((u 2), iA cs 101)]
set_option maxHeartbeats 4000000 in
set_option maxRecDepth 100000 in
theorem ciX6_init (a f : Nat) : CtI yX6_init cX6_init 2 rmX6_init [.ref a, .ref f] (fun _ => (a, .inr (6, [.null, .null, .null, .null]))) (LB (blX6_init a f)) := by
  refine ci_of (by decide) (Nat.le_of_ble_eq_true rfl) ?_
  intro κ C hin hq
  have C : Cg κ RX6 cX6_init 2 none rmX6_init := C
  have hin : κ.2.1.2.2.2.1.name = "<init>" := hin
  refine g_aload_n C dX6_init_0 0 rfl ?_
  refine g_obj C dX6_init_1 oiX6_3 (Nat.le_of_ble_eq_true rfl) ⟨by decide, by decide⟩ ?_
  refine g_aload_n C dX6_init_4 0 rfl ?_
  refine g_bipush C dX6_init_5 (v := 100) (by decide) ?_
  refine g_newi C dX6_init_7 (by decide) (N := 100) (by decide) (Nat.le_of_ble_eq_true rfl) ⟨Nat.le_of_ble_eq_true rfl, Nat.le_of_ble_eq_true rfl⟩ (fun q0 => ?_)
  refine g_putF C hin 0 dX6_init_9 pfX6_9 rfl (Nat.le_of_ble_eq_true rfl) rfl rfl (ws' := [(a, .inr (6, [.null, .ref q0, .null, .null])), (q0, iA κ.2.2.2.1 100)]) rfl ?_
  refine g_aload_n C dX6_init_12 0 rfl ?_
  refine g_bipush C dX6_init_13 (v := 101) (by decide) ?_
  refine g_newi C dX6_init_15 (by decide) (N := 101) (by decide) (Nat.le_of_ble_eq_true rfl) ⟨Nat.le_of_ble_eq_true rfl, Nat.le_of_ble_eq_true rfl⟩ (fun q1 => ?_)
  refine g_putF C hin 0 dX6_init_17 pfX6_15 rfl (Nat.le_of_ble_eq_true rfl) rfl rfl (ws' := [(a, .inr (6, [.null, .ref q0, .ref q1, .null])), (q0, iA κ.2.2.2.1 100), (q1, iA κ.2.2.2.1 101)]) rfl ?_
  refine g_aload_n C dX6_init_20 0 rfl ?_
  refine g_bipush C dX6_init_21 (v := 101) (by decide) ?_
  refine g_newi C dX6_init_23 (by decide) (N := 101) (by decide) (Nat.le_of_ble_eq_true rfl) ⟨Nat.le_of_ble_eq_true rfl, Nat.le_of_ble_eq_true rfl⟩ (fun q2 => ?_)
  refine g_putF C hin 0 dX6_init_25 pfX6_18 rfl (Nat.le_of_ble_eq_true rfl) rfl rfl (ws' := [(a, .inr (6, [.null, .ref q0, .ref q1, .ref q2])), (q0, iA κ.2.2.2.1 100), (q1, iA κ.2.2.2.1 101), (q2, iA κ.2.2.2.1 101)]) rfl ?_
  refine g_aload_n C dX6_init_28 0 rfl ?_
  refine g_aload_n C dX6_init_29 1 rfl ?_
  refine g_putF C hin 0 dX6_init_30 pfX6_21 rfl (Nat.le_of_ble_eq_true rfl) rfl rfl (ws' := [(a, .inr (6, [.ref f, .ref q0, .ref q1, .ref q2])), (q0, iA κ.2.2.2.1 100), (q1, iA κ.2.2.2.1 101), (q2, iA κ.2.2.2.1 101)]) rfl ?_
  exact g_vret C hq dX6_init_33 (fun H h => ⟨fun k => match k with | 0 => q0 | 1 => q1 | 2 => q2 | _ => 0, h⟩)
theorem dX4_init_0 : decode cX4_init 0 = .ok (.aload_n 0, 1) := by decide +kernel
theorem dX4_init_1 : decode cX4_init 1 = .ok (.invokespecial 3, 3) := by decide +kernel
theorem dX4_init_4 : decode cX4_init 4 = .ok (.aload_n 0, 1) := by decide +kernel
theorem dX4_init_5 : decode cX4_init 5 = .ok (.bipush 7, 2) := by decide +kernel
theorem dX4_init_7 : decode cX4_init 7 = .ok (.newarray .int, 2) := by decide +kernel
theorem dX4_init_9 : decode cX4_init 9 = .ok (.putfield 9, 3) := by decide +kernel
theorem dX4_init_12 : decode cX4_init 12 = .ok (.aload_n 0, 1) := by decide +kernel
theorem dX4_init_13 : decode cX4_init 13 = .ok (.bipush 7, 2) := by decide +kernel
theorem dX4_init_15 : decode cX4_init 15 = .ok (.newarray .int, 2) := by decide +kernel
theorem dX4_init_17 : decode cX4_init 17 = .ok (.putfield 15, 3) := by decide +kernel
theorem dX4_init_20 : decode cX4_init 20 = .ok (.aload_n 0, 1) := by decide +kernel
theorem dX4_init_21 : decode cX4_init 21 = .ok (.aload_n 1, 1) := by decide +kernel
theorem dX4_init_22 : decode cX4_init 22 = .ok (.putfield 18, 3) := by decide +kernel
theorem dX4_init_25 : decode cX4_init 25 = .ok (.aload_n 0, 1) := by decide +kernel
theorem dX4_init_26 : decode cX4_init 26 = .ok (.getfield 9, 3) := by decide +kernel
theorem dX4_init_29 : decode cX4_init 29 = .ok (.bipush (-4), 2) := by decide +kernel
theorem dX4_init_31 : decode cX4_init 31 = .ok (.invokestatic 22, 3) := by decide +kernel
theorem dX4_init_34 : decode cX4_init 34 = .ok (.aload_n 0, 1) := by decide +kernel
theorem dX4_init_35 : decode cX4_init 35 = .ok (.getfield 15, 3) := by decide +kernel
theorem dX4_init_38 : decode cX4_init 38 = .ok (.bipush (-4), 2) := by decide +kernel
theorem dX4_init_40 : decode cX4_init 40 = .ok (.invokestatic 22, 3) := by decide +kernel
theorem dX4_init_43 : decode cX4_init 43 = .ok (.return_, 1) := by decide +kernel
theorem oiX4_3 : Cond.methodLink RX4 3 Lib.objectInit ∈ tb := (tb_mem (t_in1 (List.mem_of_getElem? (i := 189) (by decide +kernel))) (by decide +kernel))
theorem pfX4_9 : PF RX4 9 4 1 (tyX4 1) := ⟨_, _, _, tyX4, rfl, by decide, uwX4, (tb_mem (t_in1 (List.mem_of_getElem? (i := 194) (by decide +kernel))) (by decide +kernel)), rfl, rfl, tyX4_ok 1 (by decide), tyX4_ok, nmX4⟩
theorem pfX4_15 : PF RX4 15 4 2 (tyX4 2) := ⟨_, _, _, tyX4, rfl, by decide, uwX4, (tb_mem (t_in1 (List.mem_of_getElem? (i := 197) (by decide +kernel))) (by decide +kernel)), rfl, rfl, tyX4_ok 2 (by decide), tyX4_ok, nmX4⟩
theorem pfX4_18 : PF RX4 18 4 0 (tyX4 0) := ⟨_, _, _, tyX4, rfl, by decide, uwX4, (tb_mem (t_in1 (List.mem_of_getElem? (i := 193) (by decide +kernel))) (by decide +kernel)), rfl, rfl, tyX4_ok 0 (by decide), tyX4_ok, nmX4⟩
abbrev rmX4_init : Room := { frames := 1, cells := 2, slots := 14, locals := 23 }
abbrev blX4_init (a f : Nat) (cs : CS) (u : Nat → Nat) : va_W := [(a, .inr (4, [.ref f, .ref (u 0), .ref (u 1)])), ((u 0), fA cs 7 fil7), ((u 1), fA cs 7 fil7)]
set_option maxHeartbeats 4000000 in
set_option maxRecDepth 100000 in
theorem ciX4_init (a f : Nat) : CtI yX4_init cX4_init 2 rmX4_init [.ref a, .ref f] (fun _ => (a, .inr (4, [.null, .null, .null]))) (LB (blX4_init a f)) := by
  refine ci_of (by decide) (Nat.le_of_ble_eq_true rfl) ?_
  intro κ C hin hq
  have C : Cg κ RX4 cX4_init 2 none rmX4_init := C
  have hin : κ.2.1.2.2.2.1.name = "<init>" := hin
  refine g_aload_n C dX4_init_0 0 rfl ?_
  refine g_obj C dX4_init_1 oiX4_3 (Nat.le_of_ble_eq_true rfl) ⟨by decide, by decide⟩ ?_
  refine g_aload_n C dX4_init_4 0 rfl ?_
  refine g_bipush C dX4_init_5 (v := 7) (by decide) ?_
  refine g_newi C dX4_init_7 (by decide) (N := 7) (by decide) (Nat.le_of_ble_eq_true rfl) ⟨Nat.le_of_ble_eq_true rfl, Nat.le_of_ble_eq_true rfl⟩ (fun q0 => ?_)
  refine g_putF C hin 0 dX4_init_9 pfX4_9 rfl (Nat.le_of_ble_eq_true rfl) rfl rfl (ws' := [(a, .inr (4, [.null, .ref q0, .null])), (q0, iA κ.2.2.2.1 7)]) rfl ?_
  refine g_aload_n C dX4_init_12 0 rfl ?_
  refine g_bipush C dX4_init_13 (v := 7) (by decide) ?_
  refine g_newi C dX4_init_15 (by decide) (N := 7) (by decide) (Nat.le_of_ble_eq_true rfl) ⟨Nat.le_of_ble_eq_true rfl, Nat.le_of_ble_eq_true rfl⟩ (fun q1 => ?_)
  refine g_putF C hin 0 dX4_init_17 pfX4_15 rfl (Nat.le_of_ble_eq_true rfl) rfl rfl (ws' := [(a, .inr (4, [.null, .ref q0, .ref q1])), (q0, iA κ.2.2.2.1 7), (q1, iA κ.2.2.2.1 7)]) rfl ?_
  refine g_aload_n C dX4_init_20 0 rfl ?_
  refine g_aload_n C dX4_init_21 1 rfl ?_
  refine g_putF C hin 0 dX4_init_22 pfX4_18 rfl (Nat.le_of_ble_eq_true rfl) rfl rfl (ws' := [(a, .inr (4, [.ref f, .ref q0, .ref q1])), (q0, iA κ.2.2.2.1 7), (q1, iA κ.2.2.2.1 7)]) rfl ?_
  refine g_aload_n C dX4_init_25 0 rfl ?_
  refine g_getL C 0 dX4_init_26 flX4_9 rfl rfl ?_
  refine g_bipush C dX4_init_29 (v := -4) (by decide) ?_
  refine g_fillL C (ciJ7_fill q0) dX4_init_31 ivX4_22 ⟨by decide, by decide, Nat.le_of_ble_eq_true rfl, Nat.le_of_ble_eq_true rfl⟩ rfl (Nat.le_of_ble_eq_true rfl) (st := []) rfl 1 rfl (ws' := [(a, .inr (4, [.ref f, .ref q0, .ref q1])), (q0, fA κ.2.2.2.1 7 fil7), (q1, iA κ.2.2.2.1 7)]) rfl ?_
  refine g_aload_n C dX4_init_34 0 rfl ?_
  refine g_getL C 0 dX4_init_35 flX4_15 rfl rfl ?_
  refine g_bipush C dX4_init_38 (v := -4) (by decide) ?_
  refine g_fillL C (ciJ7_fill q1) dX4_init_40 ivX4_22 ⟨by decide, by decide, Nat.le_of_ble_eq_true rfl, Nat.le_of_ble_eq_true rfl⟩ rfl (Nat.le_of_ble_eq_true rfl) (st := []) rfl 2 rfl (ws' := [(a, .inr (4, [.ref f, .ref q0, .ref q1])), (q0, fA κ.2.2.2.1 7 fil7), (q1, fA κ.2.2.2.1 7 fil7)]) rfl ?_
  exact g_vret C hq dX4_init_43 (fun H h => ⟨fun k => match k with | 0 => q0 | 1 => q1 | _ => 0, h⟩)
theorem dX0_init_0 : decode cX0_init 0 = .ok (.aload_n 0, 1) := by decide +kernel
theorem dX0_init_1 : decode cX0_init 1 = .ok (.invokespecial 3, 3) := by decide +kernel
theorem dX0_init_4 : decode cX0_init 4 = .ok (.aload_n 0, 1) := by decide +kernel
theorem dX0_init_5 : decode cX0_init 5 = .ok (.sipush 12928, 3) := by decide +kernel
theorem dX0_init_8 : decode cX0_init 8 = .ok (.newarray .int, 2) := by decide +kernel
theorem dX0_init_10 : decode cX0_init 10 = .ok (.putfield 9, 3) := by decide +kernel
theorem dX0_init_13 : decode cX0_init 13 = .ok (.aload_n 0, 1) := by decide +kernel
theorem dX0_init_14 : decode cX0_init 14 = .ok (.aload_n 1, 1) := by decide +kernel
theorem dX0_init_15 : decode cX0_init 15 = .ok (.putfield 15, 3) := by decide +kernel
theorem dX0_init_18 : decode cX0_init 18 = .ok (.return_, 1) := by decide +kernel
theorem oiX0_3 : Cond.methodLink RX0 3 Lib.objectInit ∈ tb := (tb_mem (t_in1 (List.mem_of_getElem? (i := 211) (by decide +kernel))) (by decide +kernel))
theorem pfX0_9 : PF RX0 9 0 1 (tyX0 1) := ⟨_, _, _, tyX0, rfl, by decide, uwX0, (tb_mem (t_in1 (List.mem_of_getElem? (i := 213) (by decide +kernel))) (by decide +kernel)), rfl, rfl, tyX0_ok 1 (by decide), tyX0_ok, nmX0⟩
theorem pfX0_15 : PF RX0 15 0 0 (tyX0 0) := ⟨_, _, _, tyX0, rfl, by decide, uwX0, (tb_mem (t_in1 (List.mem_of_getElem? (i := 212) (by decide +kernel))) (by decide +kernel)), rfl, rfl, tyX0_ok 0 (by decide), tyX0_ok, nmX0⟩
abbrev rmX0_init : Room := { frames := 1, cells := 1, slots := 12928, locals := 20 }
abbrev blX0_init (a f : Nat) (cs : CS) (u : Nat → Nat) : va_W := [(a, .inr (0, [.ref f, .ref (u 0)])), ((u 0), iA cs 12928)]
set_option maxHeartbeats 4000000 in
set_option maxRecDepth 100000 in
theorem ciX0_init (a f : Nat) : CtI yX0_init cX0_init 2 rmX0_init [.ref a, .ref f] (fun _ => (a, .inr (0, [.null, .null]))) (LB (blX0_init a f)) := by
  refine ci_of (by decide) (Nat.le_of_ble_eq_true rfl) ?_
  intro κ C hin hq
  have C : Cg κ RX0 cX0_init 2 none rmX0_init := C
  have hin : κ.2.1.2.2.2.1.name = "<init>" := hin
  refine g_aload_n C dX0_init_0 0 rfl ?_
  refine g_obj C dX0_init_1 oiX0_3 (Nat.le_of_ble_eq_true rfl) ⟨by decide, by decide⟩ ?_
  refine g_aload_n C dX0_init_4 0 rfl ?_
  refine g_sipush C dX0_init_5 (v := 12928) (by decide) ?_
  refine g_newi C dX0_init_8 (by decide) (N := 12928) (by decide) (Nat.le_of_ble_eq_true rfl) ⟨Nat.le_of_ble_eq_true rfl, Nat.le_of_ble_eq_true rfl⟩ (fun q0 => ?_)
  refine g_putF C hin 0 dX0_init_10 pfX0_9 rfl (Nat.le_of_ble_eq_true rfl) rfl rfl (ws' := [(a, .inr (0, [.null, .ref q0])), (q0, iA κ.2.2.2.1 12928)]) rfl ?_
  refine g_aload_n C dX0_init_13 0 rfl ?_
  refine g_aload_n C dX0_init_14 1 rfl ?_
  refine g_putF C hin 0 dX0_init_15 pfX0_15 rfl (Nat.le_of_ble_eq_true rfl) rfl rfl (ws' := [(a, .inr (0, [.ref f, .ref q0])), (q0, iA κ.2.2.2.1 12928)]) rfl ?_
  exact g_vret C hq dX0_init_18 (fun H h => ⟨fun k => match k with | 0 => q0 | _ => 0, h⟩)
theorem dX2_init_0 : decode cX2_init 0 = .ok (.aload_n 0, 1) := by decide +kernel
theorem dX2_init_1 : decode cX2_init 1 = .ok (.invokespecial 3, 3) := by decide +kernel
theorem dX2_init_4 : decode cX2_init 4 = .ok (.aload_n 0, 1) := by decide +kernel
theorem dX2_init_5 : decode cX2_init 5 = .ok (.aload_n 1, 1) := by decide +kernel
theorem dX2_init_6 : decode cX2_init 6 = .ok (.putfield 9, 3) := by decide +kernel
theorem dX2_init_9 : decode cX2_init 9 = .ok (.aload_n 0, 1) := by decide +kernel
theorem dX2_init_10 : decode cX2_init 10 = .ok (.aload_n 2, 1) := by decide +kernel
theorem dX2_init_11 : decode cX2_init 11 = .ok (.putfield 15, 3) := by decide +kernel
theorem dX2_init_14 : decode cX2_init 14 = .ok (.aload_n 0, 1) := by decide +kernel
theorem dX2_init_15 : decode cX2_init 15 = .ok (.new 19, 3) := by decide +kernel
theorem dX2_init_18 : decode cX2_init 18 = .ok (.dup, 1) := by decide +kernel
theorem dX2_init_19 : decode cX2_init 19 = .ok (.aload_n 1, 1) := by decide +kernel
theorem dX2_init_20 : decode cX2_init 20 = .ok (.invokespecial 21, 3) := by decide +kernel
theorem dX2_init_23 : decode cX2_init 23 = .ok (.putfield 24, 3) := by decide +kernel
theorem dX2_init_26 : decode cX2_init 26 = .ok (.return_, 1) := by decide +kernel
theorem oiX2_3 : Cond.methodLink RX2 3 Lib.objectInit ∈ tb := (tb_mem (t_in1 (List.mem_of_getElem? (i := 224) (by decide +kernel))) (by decide +kernel))
theorem pfX2_9 : PF RX2 9 2 0 (tyX2 0) := ⟨_, _, _, tyX2, rfl, by decide, uwX2, (tb_mem (t_in1 (List.mem_of_getElem? (i := 227) (by decide +kernel))) (by decide +kernel)), rfl, rfl, tyX2_ok 0 (by decide), tyX2_ok, nmX2⟩
theorem pfX2_15 : PF RX2 15 2 1 (tyX2 1) := ⟨_, _, _, tyX2, rfl, by decide, uwX2, (tb_mem (t_in1 (List.mem_of_getElem? (i := 228) (by decide +kernel))) (by decide +kernel)), rfl, rfl, tyX2_ok 1 (by decide), tyX2_ok, nmX2⟩
theorem nwX2_19 : NWd RX2 19 4 3 [.null, .null, .null] := ⟨_, _, tyX4, rfl, uwX4, tyX4_ok, (tb_mem (t_in1 (List.mem_of_getElem? (i := 225) (by decide +kernel))) (by decide +kernel)), (tb_mem (t_in1 (List.mem_of_getElem? (i := 185) (by decide +kernel))) (by decide +kernel)), (tb_mem (t_in1 (List.mem_of_getElem? (i := 6) (by decide +kernel))) (by decide +kernel)), fun j hj => by
  have h2 : j = 0 ∨ j = 1 ∨ j = 2 := by omega
  rcases h2 with rfl | rfl | rfl <;> rfl⟩
theorem iiX2_21 : IIw RX2 21 yX4_init cX4_init 2 1 := ⟨Or.inl (tb_mem (t_in1 (List.mem_of_getElem? (i := 226) (by decide +kernel))) (by decide +kernel)), (tb_mem (t_in1 (List.mem_of_getElem? (i := 187) (by decide +kernel))) (by decide +kernel)), (tb_mem (t_in1 (List.mem_of_getElem? (i := 6) (by decide +kernel))) (by decide +kernel)), (tb_mem (t_in1 (List.mem_of_getElem? (i := 188) (by decide +kernel))) (by decide +kernel)), rfl, ⟨by decide +kernel, by decide +kernel, by decide +kernel⟩⟩
theorem pfX2_24 : PF RX2 24 2 2 (tyX2 2) := ⟨_, _, _, tyX2, rfl, by decide, uwX2, (tb_mem (t_in1 (List.mem_of_getElem? (i := 229) (by decide +kernel))) (by decide +kernel)), rfl, rfl, tyX2_ok 2 (by decide), tyX2_ok, nmX2⟩
abbrev rmX2_init : Room := { frames := 2, cells := 3, slots := 17, locals := 44 }
abbrev blX2_init (a f t : Nat) (cs : CS) (u : Nat → Nat) : va_W := [(a, .inr (2, [.ref f, .ref t, .ref (u 0), .int 0, .int 0, .int 0, .int 0, .int 0, .int 0, .int 0])), ((u 0), .inr (4, [.ref f, .ref (u 1), .ref (u 2)])), ((u 1), fA cs 7 fil7), ((u 2), fA cs 7 fil7)]
set_option maxHeartbeats 4000000 in
set_option maxRecDepth 100000 in
theorem ciX2_init (a f t : Nat) : CtI yX2_init cX2_init 3 rmX2_init [.ref a, .ref f, .ref t] (fun _ => (a, .inr (2, [.null, .null, .null, .int 0, .int 0, .int 0, .int 0, .int 0, .int 0, .int 0]))) (LB (blX2_init a f t)) := by
  refine ci_of (by decide) (Nat.le_of_ble_eq_true rfl) ?_
  intro κ C hin hq
  have C : Cg κ RX2 cX2_init 3 none rmX2_init := C
  have hin : κ.2.1.2.2.2.1.name = "<init>" := hin
  refine g_aload_n C dX2_init_0 0 rfl ?_
  refine g_obj C dX2_init_1 oiX2_3 (Nat.le_of_ble_eq_true rfl) ⟨by decide, by decide⟩ ?_
  refine g_aload_n C dX2_init_4 0 rfl ?_
  refine g_aload_n C dX2_init_5 1 rfl ?_
  refine g_putF C hin 0 dX2_init_6 pfX2_9 rfl (Nat.le_of_ble_eq_true rfl) rfl rfl (ws' := [(a, .inr (2, [.ref f, .null, .null, .int 0, .int 0, .int 0, .int 0, .int 0, .int 0, .int 0]))]) rfl ?_
  refine g_aload_n C dX2_init_9 0 rfl ?_
  refine g_aload_n C dX2_init_10 2 rfl ?_
  refine g_putF C hin 0 dX2_init_11 pfX2_15 rfl (Nat.le_of_ble_eq_true rfl) rfl rfl (ws' := [(a, .inr (2, [.ref f, .ref t, .null, .int 0, .int 0, .int 0, .int 0, .int 0, .int 0, .int 0]))]) rfl ?_
  refine g_aload_n C dX2_init_14 0 rfl ?_
  refine g_new C dX2_init_15 nwX2_19 ⟨Nat.le_of_ble_eq_true rfl, Nat.le_of_ble_eq_true rfl⟩ (fun q0 => ?_)
  refine g_dup C rfl dX2_init_18 ?_
  refine g_aload_n C dX2_init_19 1 rfl ?_
  refine g_initL C (ciX4_init q0 f) dX2_init_20 iiX2_21 ⟨by decide, by decide, Nat.le_of_ble_eq_true rfl, Nat.le_of_ble_eq_true rfl⟩ rfl (Nat.le_of_ble_eq_true rfl) (st := [.ref q0, .ref a]) rfl (wr := [(a, .inr (2, [.ref f, .ref t, .null, .int 0, .int 0, .int 0, .int 0, .int 0, .int 0, .int 0]))]) rfl (fun u1 => ?_)
  refine g_putF C hin 0 dX2_init_23 pfX2_24 rfl (Nat.le_of_ble_eq_true rfl) rfl rfl (ws' := [(a, .inr (2, [.ref f, .ref t, .ref q0, .int 0, .int 0, .int 0, .int 0, .int 0, .int 0, .int 0])), (q0, .inr (4, [.ref f, .ref (u1 0), .ref (u1 1)])), ((u1 0), fA κ.2.2.2.1 7 fil7), ((u1 1), fA κ.2.2.2.1 7 fil7)]) rfl ?_
  exact g_vret C hq dX2_init_26 (fun H h => ⟨fun k => match k with | 0 => q0 | 1 => (u1 0) | 2 => (u1 1) | _ => 0, h⟩)
