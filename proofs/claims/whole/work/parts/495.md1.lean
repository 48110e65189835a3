/-! ===== GapTellingsModel(): the first film ===== -/
theorem md_pos {r : Nat} {i : Int} (hd : domM r = true) (h0 : 0 ≤ i) (h1 : i < cn r) : mdI (mdP r i) = (r, i) ∧ mdP r i < 19 := by
  have hd : 30 ≤ r := Nat.le_of_ble_eq_true hd
  have hr : r < 57 := by
    rcases Nat.lt_or_ge r 57 with h | h
    · exact h
    · have e : cn r = 0 := by unfold cn; rw [List.getD_eq_getElem?_getD, List.getElem?_eq_none (by exact h)]; rfl
      omega
  have h := md_ok ⟨r, hr⟩ hd (by show 0 < cn r; omega)
  have h2 : cn r = 1 := h.1
  have hi : i = 0 := by omega
  subst hi
  exact h.2
theorem md_Inj {A : Nat → Prop} {cs : CS} {v : Nat → Nat} (hD : va_D A (mdW cs v)) : Inj (mdA v) domM := by
  intro r i r' i' d0 a0 b0 d1 a1 b1 e
  obtain ⟨p1, p2⟩ := md_pos d0 a0 b0
  obtain ⟨p3, p4⟩ := md_pos d1 a1 b1
  obtain ⟨e1, w1⟩ := list_at (md_fst cs v) p2
  obtain ⟨e2, w2⟩ := list_at (md_fst cs v) p4
  have h := hD.1 _ _ _ _ w1 w2 e
  rw [← h, p1] at p3
  exact ⟨congrArg Prod.fst p3, congrArg Prod.snd p3⟩
theorem md_fr {A : Nat → Prop} {cs : CS} {v : Nat → Nat} (hD : va_D A (mdW cs v)) : ∀ q, frA (mdA v) domM q → A q := by
  rintro q ⟨r, i, d0, a0, b0, rfl⟩
  obtain ⟨p1, p2⟩ := md_pos d0 a0 b0
  obtain ⟨e1, w1⟩ := list_at (md_fst cs v) p2
  exact hD.2 _ _ w1
theorem MM0_ok : okM MM0 := by
  intro r i j
  unfold MM0
  split
  · exact toInt_inR _
  split
  · exact toInt_inR _
  split
  · exact toInt_inR _
  split
  · exact toInt_inR _
  · decide
/-- a row is copied: k numbers, to off on -/
def cpK (M : Mem) (rd : Nat) (off : Int) (rs : Nat) (k : Int) : Mem := fun r i j => if r = rd ∧ i = 0 ∧ off ≤ j ∧ j < off + k then M rs 0 (j - off) else M r i j
theorem cpK_0 (M : Mem) (rd : Nat) (off : Int) (rs : Nat) : cpK M rd off rs 0 = M := by
  funext r i j
  unfold cpK
  rw [if_neg (by omega)]
theorem cpK_rs {M : Mem} {rd : Nat} {off : Int} {rs : Nat} {k : Int} (h : rs ≠ rd) (j : Int) : cpK M rd off rs k rs 0 j = M rs 0 j := if_neg (fun z => h z.1)
theorem cpK_step {M : Mem} {rd : Nat} {off : Int} {rs : Nat} {k : Int} (h : rs ≠ rd) (hk : 0 ≤ k) : up3 (cpK M rd off rs k) rd 0 (off + k) (cpK M rd off rs k rs 0 k) = cpK M rd off rs (k + 1) := by
  rw [cpK_rs h]
  funext r i j
  unfold up3 cpK
  by_cases e : r = rd ∧ i = 0 ∧ j = off + k
  · rw [if_pos e, if_pos ⟨e.1, e.2.1, by omega, by omega⟩]
    have : j - off = k := by omega
    rw [this]
  · rw [if_neg e]
    by_cases e2 : r = rd ∧ i = 0 ∧ off ≤ j ∧ j < off + k
    · rw [if_pos e2, if_pos ⟨e2.1, e2.2.1, e2.2.2.1, by omega⟩]
    · rw [if_neg e2, if_neg (fun z => by
        by_cases e3 : j = off + k
        · exact e ⟨z.1, z.2.1, e3⟩
        · exact e2 ⟨z.1, z.2.1, z.2.2.1, by omega⟩)]
theorem cpK_ok {M : Mem} (h : okM M) (rd : Nat) (off : Int) (rs : Nat) (k : Int) : okM (cpK M rd off rs k) := by
  intro r i j
  unfold cpK
  split
  · exact h _ _ _
  · exact h _ _ _
def MM1 : Mem := up3 (up3 (up3 (up3 MM0 30 0 2 60) 30 0 3 1) 30 0 4 5) 30 0 6 5
def MM2 : Mem := cpK MM1 35 0 54 15
def MM3 : Mem := cpK MM2 37 0 55 22
def MM4 : Mem := cpK MM3 37 22 56 33
theorem MM4_ok : okM MM4 := cpK_ok (cpK_ok (cpK_ok (okM_upd (okM_upd (okM_upd (okM_upd MM0_ok (by decide)) (by decide)) (by decide)) (by decide)) _ _ _ _) _ _ _ _) _ _ _ _
def StM (M : Mem) : Prop := clM MM4 M
def GM (a : Nat) : va_G → CS → (Nat → Prop) → Heap → Prop := fun D cs A H => ∃ (ad : AD) (M : Mem), ad 30 0 = a ∧ Inj ad domM ∧ (∀ q, frA ad domM q → A q) ∧ okM M ∧ HI D ad cs domM M H ∧ StM M
theorem flX8_55 : FL RX8 55 8 24 := ⟨_, _, _, rfl, by decide, uwX8, Or.inl (tb_mem (t_in4 (List.mem_of_getElem? (i := 132) (by decide +kernel))) (by decide +kernel))⟩
theorem flX8_58 : FL RX8 58 8 25 := ⟨_, _, _, rfl, by decide, uwX8, Or.inl (tb_mem (t_in4 (List.mem_of_getElem? (i := 133) (by decide +kernel))) (by decide +kernel))⟩
theorem flX8_61 : FL RX8 61 8 26 := ⟨_, _, _, rfl, by decide, uwX8, Or.inl (tb_mem (t_in4 (List.mem_of_getElem? (i := 134) (by decide +kernel))) (by decide +kernel))⟩

set_option maxHeartbeats 4000000 in
set_option maxRecDepth 100000 in
theorem md_tail {κ : Kg} {ad : AD} {a : Nat} (C : Cg κ RX8 cX8_init 2 none rmX8_init) (hq : κ.2.2.2.2.2 = MQ κ.2.1.2.2.1 (QcI κ.2.2.2.2.1 (GM a κ.2.2.1 κ.2.2.2.1 κ.2.2.2.2.1)) κ.2.1.2.1 κ.1.2.2.2.2 rmX8_init.cells rmX8_init.slots κ.2.2.2.2.1) (hW : HWd κ ad domM) (had : ad 30 0 = a) : G κ 2 rmX8_init.cells rmX8_init.slots (HP κ ad domM MM0) 531 [(0, .ref (ad 30 0))] [] := by
  refine g_aload_n C dX8_init_531 0 rfl ?_
  refine g_bipush C dX8_init_532 (v := 60) (by decide) ?_
  refine h_put C hW (x := 60) dX8_init_534 plX8_64 rfl (by decide) (by decide) rfl ⟨rfl, by decide, by decide⟩ rfl rfl ?_
  refine g_aload_n C dX8_init_537 0 rfl ?_
  refine g_iconst C dX8_init_538 (v := 1) (by decide) ?_
  refine h_put C hW (x := 1) dX8_init_539 plX8_68 rfl (by decide) (by decide) rfl ⟨rfl, by decide, by decide⟩ rfl rfl ?_
  refine g_aload_n C dX8_init_542 0 rfl ?_
  refine g_iconst C dX8_init_543 (v := 5) (by decide) ?_
  refine h_put C hW (x := 5) dX8_init_544 plX8_71 rfl (by decide) (by decide) rfl ⟨rfl, by decide, by decide⟩ rfl rfl ?_
  refine g_aload_n C dX8_init_547 0 rfl ?_
  refine g_iconst C dX8_init_548 (v := 5) (by decide) ?_
  refine h_put C hW (x := 5) dX8_init_549 plX8_74 rfl (by decide) (by decide) rfl ⟨rfl, by decide, by decide⟩ rfl rfl ?_
  refine g_cons (P' := HP κ ad domM MM1) (fun H h => h) ?_
  have end0 : G κ 2 rmX8_init.cells rmX8_init.slots (HP κ ad domM MM4) 633 [(1, .int (Int32.ofInt 33)), (0, .ref (ad 30 0))] [] := by
    refine g_aload_n C dX8_init_633 1 rfl ?_
    refine g_cons (P' := fun H => HI κ.2.2.1 ad κ.2.2.2.1 domM MM4 H ∧ True) (fun H h => ⟨h, trivial⟩) ?_
    refine h_call C hW ctX8_clears dX8_init_634 ivX8_77 ⟨by decide, by decide, rfl, rfl⟩ ⟨Nat.le_of_ble_eq_true rfl, Nat.le_of_ble_eq_true rfl⟩ () (As := []) rfl rfl rfl (by decide) rfl MM4_ok ⟨⟨rfl, by decide, by decide⟩, trivial⟩ (X := fun _ => True) (fun _ _ _ _ _ => trivial) (st := []) rfl (Nat.le_of_ble_eq_true rfl) (K1 := rV (fun M' => clM MM4 M')) (fun M' a => a) (fun x M' oM' _ hk => ?_)
    obtain ⟨rfl, hcl⟩ := rV_out hk
    exact g_vret C hq dX8_init_637 (fun H h => ⟨ad, M', had, hW.1, hW.2.2, oM', h.1, hcl⟩)
  have loop3 : ∀ (m : Nat) (k : Int), k + m = 33 → 0 ≤ k → G κ 2 rmX8_init.cells rmX8_init.slots (HP κ ad domM (cpK MM3 37 22 56 k)) 606 [(1, .int (Int32.ofInt k)), (0, .ref (ad 30 0))] [] := by
    intro m
    induction m with
    | zero =>
      intro k hk h0
      have hk : k = 33 := by omega
      subst hk
      refine g_iload_n C dX8_init_606 0 rfl ?_
      refine g_bipush C dX8_init_607 (v := 33) (by decide) ?_
      refine g_icmp_ge C dX8_init_609 (tgt := 633) (by decide) (fun _ => ?_) (fun h => absurd (by decide) h)
      exact end0
    | succ m ih =>
      intro k hk h0
      refine g_iload_n C dX8_init_606 0 rfl ?_
      refine g_bipush C dX8_init_607 (v := 33) (by decide) ?_
      refine g_icmp_ge C dX8_init_609 (tgt := 633) (by decide) (fun h => ?_) (fun _ => ?_)
      · have := (oi_le (x := 33) (by decide) ⟨by omega, by omega⟩).mp h
        omega
      refine g_aload_n C dX8_init_612 1 rfl ?_
      refine h_getr C dX8_init_613 flX8_16 rfl (by decide) (by decide) (q := (37, 0)) rfl ⟨rfl, by decide, by decide⟩ ?_
      refine g_bipush C dX8_init_616 (v := 22) (by decide) ?_
      refine g_iload_n C dX8_init_618 0 rfl ?_
      refine g_iadd C dX8_init_619 (v := Int32.ofInt (22 + k)) (by rw [Int32.ofInt_add]; rfl) ?_
      refine g_aload_n C dX8_init_620 1 rfl ?_
      refine h_getr C dX8_init_621 flX8_61 rfl (by decide) (by decide) (q := (56, 0)) rfl ⟨rfl, by decide, by decide⟩ ?_
      refine g_iload_n C dX8_init_624 0 rfl ?_
      refine h_iald C dX8_init_625 rfl ⟨rfl, by decide, by decide⟩ ⟨by omega, by omega⟩ h0 (by show k < 33; omega) ?_
      refine h_iast C hW dX8_init_626 rfl ⟨rfl, by decide, by decide⟩ ⟨by omega, by omega⟩ (by omega) (by show 22 + k < 77; omega) ?_
      rw [cpK_step (by decide) h0]
      refine g_iinc C dX8_init_627 0 rfl (v := Int32.ofInt (k + 1)) (by rw [Int32.ofInt_add]) (by decide) (lv' := [(1, .int (Int32.ofInt (k + 1))), (0, .ref (ad 30 0))]) rfl ?_
      refine g_goto C dX8_init_630 (tgt := 606) (by decide) ?_
      exact ih (k + 1) (by omega) (by omega)
  have loop2 : ∀ (m : Nat) (k : Int), k + m = 22 → 0 ≤ k → G κ 2 rmX8_init.cells rmX8_init.slots (HP κ ad domM (cpK MM2 37 0 55 k)) 580 [(1, .int (Int32.ofInt k)), (0, .ref (ad 30 0))] [] := by
    intro m
    induction m with
    | zero =>
      intro k hk h0
      have hk : k = 22 := by omega
      subst hk
      refine g_iload_n C dX8_init_580 0 rfl ?_
      refine g_bipush C dX8_init_581 (v := 22) (by decide) ?_
      refine g_icmp_ge C dX8_init_583 (tgt := 604) (by decide) (fun _ => ?_) (fun h => absurd (by decide) h)
      refine g_iconst C dX8_init_604 (v := 0) (by decide) ?_
      refine g_istore_n C dX8_init_605 (by decide) (lv' := [(1, .int 0), (0, .ref (ad 30 0))]) rfl ?_
      have h := loop3 33 0 (by decide) (by decide)
      rw [cpK_0] at h
      exact h
    | succ m ih =>
      intro k hk h0
      refine g_iload_n C dX8_init_580 0 rfl ?_
      refine g_bipush C dX8_init_581 (v := 22) (by decide) ?_
      refine g_icmp_ge C dX8_init_583 (tgt := 604) (by decide) (fun h => ?_) (fun _ => ?_)
      · have := (oi_le (x := 22) (by decide) ⟨by omega, by omega⟩).mp h
        omega
      refine g_aload_n C dX8_init_586 1 rfl ?_
      refine h_getr C dX8_init_587 flX8_16 rfl (by decide) (by decide) (q := (37, 0)) rfl ⟨rfl, by decide, by decide⟩ ?_
      refine g_iload_n C dX8_init_590 0 rfl ?_
      refine g_aload_n C dX8_init_591 1 rfl ?_
      refine h_getr C dX8_init_592 flX8_58 rfl (by decide) (by decide) (q := (55, 0)) rfl ⟨rfl, by decide, by decide⟩ ?_
      refine g_iload_n C dX8_init_595 0 rfl ?_
      refine h_iald C dX8_init_596 rfl ⟨rfl, by decide, by decide⟩ ⟨by omega, by omega⟩ h0 (by show k < 22; omega) ?_
      refine h_iast C hW dX8_init_597 rfl ⟨rfl, by decide, by decide⟩ ⟨by omega, by omega⟩ (by omega) (by show k < 77; omega) ?_
      have e := cpK_step (M := MM2) (rd := 37) (off := 0) (rs := 55) (k := k) (by decide) h0
      rw [Int.zero_add] at e
      rw [e]
      refine g_iinc C dX8_init_598 0 rfl (v := Int32.ofInt (k + 1)) (by rw [Int32.ofInt_add]) (by decide) (lv' := [(1, .int (Int32.ofInt (k + 1))), (0, .ref (ad 30 0))]) rfl ?_
      refine g_goto C dX8_init_601 (tgt := 580) (by decide) ?_
      exact ih (k + 1) (by omega) (by omega)
  have loop1 : ∀ (m : Nat) (k : Int), k + m = 15 → 0 ≤ k → G κ 2 rmX8_init.cells rmX8_init.slots (HP κ ad domM (cpK MM1 35 0 54 k)) 554 [(1, .int (Int32.ofInt k)), (0, .ref (ad 30 0))] [] := by
    intro m
    induction m with
    | zero =>
      intro k hk h0
      have hk : k = 15 := by omega
      subst hk
      refine g_iload_n C dX8_init_554 0 rfl ?_
      refine g_bipush C dX8_init_555 (v := 15) (by decide) ?_
      refine g_icmp_ge C dX8_init_557 (tgt := 578) (by decide) (fun _ => ?_) (fun h => absurd (by decide) h)
      refine g_iconst C dX8_init_578 (v := 0) (by decide) ?_
      refine g_istore_n C dX8_init_579 (by decide) (lv' := [(1, .int 0), (0, .ref (ad 30 0))]) rfl ?_
      have h := loop2 22 0 (by decide) (by decide)
      rw [cpK_0] at h
      exact h
    | succ m ih =>
      intro k hk h0
      refine g_iload_n C dX8_init_554 0 rfl ?_
      refine g_bipush C dX8_init_555 (v := 15) (by decide) ?_
      refine g_icmp_ge C dX8_init_557 (tgt := 578) (by decide) (fun h => ?_) (fun _ => ?_)
      · have := (oi_le (x := 15) (by decide) ⟨by omega, by omega⟩).mp h
        omega
      refine g_aload_n C dX8_init_560 1 rfl ?_
      refine h_getr C dX8_init_561 flX8_13 rfl (by decide) (by decide) (q := (35, 0)) rfl ⟨rfl, by decide, by decide⟩ ?_
      refine g_iload_n C dX8_init_564 0 rfl ?_
      refine g_aload_n C dX8_init_565 1 rfl ?_
      refine h_getr C dX8_init_566 flX8_55 rfl (by decide) (by decide) (q := (54, 0)) rfl ⟨rfl, by decide, by decide⟩ ?_
      refine g_iload_n C dX8_init_569 0 rfl ?_
      refine h_iald C dX8_init_570 rfl ⟨rfl, by decide, by decide⟩ ⟨by omega, by omega⟩ h0 (by show k < 15; omega) ?_
      refine h_iast C hW dX8_init_571 rfl ⟨rfl, by decide, by decide⟩ ⟨by omega, by omega⟩ (by omega) (by show k < 36; omega) ?_
      have e := cpK_step (M := MM1) (rd := 35) (off := 0) (rs := 54) (k := k) (by decide) h0
      rw [Int.zero_add] at e
      rw [e]
      refine g_iinc C dX8_init_572 0 rfl (v := Int32.ofInt (k + 1)) (by rw [Int32.ofInt_add]) (by decide) (lv' := [(1, .int (Int32.ofInt (k + 1))), (0, .ref (ad 30 0))]) rfl ?_
      refine g_goto C dX8_init_575 (tgt := 554) (by decide) ?_
      exact ih (k + 1) (by omega) (by omega)
  refine g_iconst C dX8_init_552 (v := 0) (by decide) ?_
  refine g_istore_n C dX8_init_553 (by decide) (lv' := [(1, .int 0), (0, .ref (ad 30 0))]) rfl ?_
  have h := loop1 15 0 (by decide) (by decide)
  rw [cpK_0] at h
  exact h
set_option maxRecDepth 100000 in
theorem ciX8_init (a : Nat) : CtI yX8_init cX8_init 2 rmX8_init [.ref a] (fun _ => (a, .inr (8, [.int 0, .null, .int 0, .int 0, .int 0, .null, .int 0, .null, .null, .int 0, .int 0, .int 0, .null, .int 0, .null, .null, .null, .null, .null, .null, .null, .null, .null, .null, .null, .null, .null, .int 0, .int 0]))) (GM a) := by
  refine ci_of (by decide) (Nat.le_of_ble_eq_true rfl) ?_
  intro κ C hin hq
  have C : Cg κ RX8 cX8_init 2 none rmX8_init := C
  have hin : κ.2.1.2.2.2.1.name = "<init>" := hin
  refine md_a C hin (fun v hv => ?_)
  refine g_pure (φ := va_D κ.2.2.2.2.1 (mdW κ.2.2.2.1 v)) (fun H h => h.2) (fun hD => ?_)
  refine g_cons (P' := HP κ (mdA v) domM MM0) (fun H h => md_HI h.1) ?_
  exact md_tail C hq ⟨md_Inj hD, dmM, md_fr hD⟩ hv
