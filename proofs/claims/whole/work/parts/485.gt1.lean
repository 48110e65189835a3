/-! ===== GapTellings(): the first film is laid ===== -/
theorem list_at {W : va_W} {v : Nat → Nat} {n : Nat} (h : W.map Prod.fst = (List.range n).map v) {p : Nat} (hp : p < n) : ∃ e, W[p]? = some (v p, e) := by
  have h2 := congrArg (fun l => l[p]?) h
  rw [List.getElem?_map, List.getElem?_map, List.getElem?_range hp] at h2
  cases hq : W[p]? with
  | none => rw [hq] at h2; cases h2
  | some x =>
    rw [hq] at h2
    have h3 : x.1 = v p := Option.some.inj h2
    exact ⟨x.2, by rw [← h3]⟩
theorem gt_pos {r : Nat} {i : Int} (hd : domC r = true) (h0 : 0 ≤ i) (h1 : i < cn r) : gtI (gtP r i) = (r, i) ∧ gtP r i < 79 := by
  have hr : r < 24 := Nat.le_of_ble_eq_true hd
  have hc : cn r ≤ 14 := gt_cn ⟨r, hr⟩
  have e : ((i.toNat : Nat) : Int) = i := by omega
  have h := gt_ok ⟨r, hr⟩ ⟨i.toNat, by omega⟩ (by show ((i.toNat : Nat) : Int) < cn r; omega)
  dsimp only at h
  rw [e] at h
  exact h
theorem gt_Inj {A : Nat → Prop} {cs : CS} {v : Nat → Nat} (hD : va_D A (gtW cs v)) : Inj (gtA v) domC := by
  intro r i r' i' d0 a0 b0 d1 a1 b1 e
  obtain ⟨p1, p2⟩ := gt_pos d0 a0 b0
  obtain ⟨p3, p4⟩ := gt_pos d1 a1 b1
  obtain ⟨e1, w1⟩ := list_at (gt_fst cs v) p2
  obtain ⟨e2, w2⟩ := list_at (gt_fst cs v) p4
  have h := hD.1 _ _ _ _ w1 w2 e
  rw [← h, p1] at p3
  exact ⟨congrArg Prod.fst p3, congrArg Prod.snd p3⟩
theorem gt_fr {A : Nat → Prop} {cs : CS} {v : Nat → Nat} (hD : va_D A (gtW cs v)) : ∀ q, frA (gtA v) domC q → A q := by
  rintro q ⟨r, i, d0, a0, b0, rfl⟩
  obtain ⟨p1, p2⟩ := gt_pos d0 a0 b0
  obtain ⟨e1, w1⟩ := list_at (gt_fst cs v) p2
  exact hD.2 _ _ w1
/-- the first film's text -/
def tX : Int → Int := fun j => if 0 ≤ j ∧ j < 127 then tL j else 0
def txM (k : Int) : Mem := fun r i j => if r = 1 ∧ i = 0 ∧ 0 ≤ j ∧ j < k then tL j else M00 r i j
theorem txM_step {k : Int} (h : 0 ≤ k) : up3 (txM k) 1 0 k (tL k) = txM (k + 1) := by
  funext r i j
  unfold up3 txM
  by_cases e : r = 1 ∧ i = 0 ∧ j = k
  · rw [if_pos e, if_pos ⟨e.1, e.2.1, by omega, by omega⟩, e.2.2]
  · rw [if_neg e]
    by_cases e2 : r = 1 ∧ i = 0 ∧ 0 ≤ j ∧ j < k
    · rw [if_pos e2, if_pos ⟨e2.1, e2.2.1, e2.2.2.1, by omega⟩]
    · rw [if_neg e2, if_neg (fun z => by
        by_cases e3 : j = k
        · exact e ⟨z.1, z.2.1, e3⟩
        · exact e2 ⟨z.1, z.2.1, z.2.2.1, by omega⟩)]
theorem txM_0 : txM 0 = M00 := by
  funext r i j
  unfold txM
  rw [if_neg (by omega)]
theorem tL_in {k : Int} (h0 : 0 ≤ k) (h1 : k < 127) : 0 ≤ tL k ∧ tL k < 65536 := by
  have h := tL_all ⟨k.toNat, by omega⟩
  dsimp only at h
  have e : ((k.toNat : Nat) : Int) = k := by omega
  rw [e] at h
  exact h.2.2.2.2
def M01 : Mem := up3 (txM 127) 0 0 1 127
theorem M01_z {r : Nat} {i j : Int} (h0 : r ≠ 0) (h1 : r ≠ 1) (h2 : r ≠ 19) (h3 : r ≠ 20) : M01 r i j = 0 := by
  unfold M01 up3 txM M00
  rw [if_neg (fun z => h0 z.1), if_neg (fun z => h1 z.1), if_neg (by omega)]
theorem M01_p {r : Nat} {i j : Int} (h : r = 19 ∨ r = 20) : M01 r i j = -4 := by
  unfold M01 up3 txM M00
  rw [if_neg (fun z => by omega), if_neg (fun z => by omega), if_pos h]
theorem M01_t : M01 1 0 = tX := by
  funext j
  unfold M01 up3 txM M00 tX
  rw [if_neg (by omega)]
  by_cases e : 0 ≤ j ∧ j < 127
  · rw [if_pos ⟨rfl, rfl, e⟩, if_pos e]
  · rw [if_neg (fun z => e z.2.2), if_neg e, if_neg (by omega)]
theorem M01_l : M01 0 0 1 = 127 := rfl
theorem M01_ok : okM M01 := by
  intro r i j
  unfold M01 up3 txM
  split
  · decide
  · split
    · rename_i h
      have := tL_in h.2.2.1 h.2.2.2
      constructor <;> omega
    · exact M00_ok r i j
theorem M01_inv : InvP M01 := by
  have f0 : ∀ t a b, cFilm M01 1 t a b = 0 := by
    intro t a b
    unfold cFilm
    split <;> first
      | exact M01_z (by decide) (by decide) (by decide) (by decide)
      | rfl
  refine ⟨⟨by rw [M01_l]; omega, fun p h0 h1 => ?_⟩, ⟨by rw [f0]; omega, by rw [f0]; omega, by rw [f0]; omega, by rw [f0]; omega, fun w _ _ => by rw [f0]; omega, fun s _ h1 => by rw [f0] at h1; omega, fun s _ h1 => by rw [f0] at h1; omega⟩, ⟨fun t _ _ => ?_, fun t _ _ => ?_⟩, ⟨M01_z (by decide) (by decide) (by decide) (by decide), M01_z (by decide) (by decide) (by decide) (by decide), M01_z (by decide) (by decide) (by decide) (by decide), M01_z (by decide) (by decide) (by decide) (by decide)⟩, PlV_none _ (fun q _ _ => ⟨M01_p (by omega), M01_p (by omega)⟩)⟩
  · rw [M01_t]
    unfold tX
    split
    · rename_i h
      exact tL_in h.1 h.2
    · omega
  · rw [M01_z (by decide) (by decide) (by decide) (by decide), M01_z (by decide) (by decide) (by decide) (by decide)]
    omega
  · rw [M01_z (by decide) (by decide) (by decide) (by decide), M01_z (by decide) (by decide) (by decide) (by decide)]
    omega
def StC (M : Mem) : Prop := InvC M ∧ M 0 0 1 = 0 ∧ FEq (psrV tX 127).2 (cFilm M 1) ∧ PlEq (fun _ => -4) (fun _ => -4) (M 19 0) (M 20 0)
def GB (a : Nat) : va_G → CS → (Nat → Prop) → Heap → Prop := fun D cs A H => ∃ (ad : AD) (M : Mem), ad 0 0 = a ∧ Inj ad domC ∧ (∀ q, frA ad domC q → A q) ∧ okM M ∧ HI D ad cs domC M H ∧ StC M
theorem stc_of {M : Mem} (hI : InvC M) (hC : Ch M01 M (psrV (M01 1 0) (M01 0 0 1)).2 (fun _ => -4) (fun _ => -4)) : StC (up3 M 0 0 1 0) := by
  have t1 : up3 M 0 0 1 0 1 0 = M 1 0 := by funext j; exact if_neg (by omega)
  have n1 : up3 M 0 0 1 0 0 0 1 = 0 := if_pos ⟨rfl, rfl, rfl⟩
  have h := InvC_txt (M' := up3 M 0 0 1 0) hI (fun r i j q1 q2 => if_neg (fun z => q2 ⟨z.1, z.2.2⟩)) (by omega) (fun p a b => by rw [t1]; exact hI.1.1.2 p a b)
  refine ⟨h.1, n1, ?_, ?_⟩
  · rw [h.2.1]
    have := hC.2.2.2.1
    rw [M01_t, M01_l] at this
    exact this
  · rw [h.2.2.2.1, h.2.2.2.2]
    exact hC.2.2.2.2
theorem ivX7_70 : IV RX7 70 yJ0_length_8abf5 cJ0_length_8abf5 1 (some .int) 0 := ⟨(tb_mem (t_in2 (List.mem_of_getElem? (i := 21) (by decide +kernel))) (by decide +kernel)), (tb_mem (t_in2 (List.mem_of_getElem? (i := 22) (by decide +kernel))) (by decide +kernel)), (tb_mem (t_in2 (List.mem_of_getElem? (i := 23) (by decide +kernel))) (by decide +kernel)), (tb_mem (t_in1 (List.mem_of_getElem? (i := 10) (by decide +kernel))) (by decide +kernel)), (tb_mem (t_in2 (List.mem_of_getElem? (i := 24) (by decide +kernel))) (by decide +kernel)), ⟨by decide +kernel, by decide +kernel, by decide +kernel⟩⟩
theorem ivX7_76 : IMin RX7 76 := ⟨(tb_mem (t_in2 (List.mem_of_getElem? (i := 31) (by decide +kernel))) (by decide +kernel)), (tb_mem (t_in2 (List.mem_of_getElem? (i := 32) (by decide +kernel))) (by decide +kernel)), (tb_mem (t_in1 (List.mem_of_getElem? (i := 11) (by decide +kernel))) (by decide +kernel)), (tb_mem (t_in2 (List.mem_of_getElem? (i := 33) (by decide +kernel))) (by decide +kernel))⟩
theorem ivX7_82 : IV RX7 82 yJ0_charAt_5068e cJ0_charAt_5068e 2 (some .char) 1 := ⟨(tb_mem (t_in2 (List.mem_of_getElem? (i := 34) (by decide +kernel))) (by decide +kernel)), (tb_mem (t_in2 (List.mem_of_getElem? (i := 35) (by decide +kernel))) (by decide +kernel)), (tb_mem (t_in2 (List.mem_of_getElem? (i := 36) (by decide +kernel))) (by decide +kernel)), (tb_mem (t_in1 (List.mem_of_getElem? (i := 10) (by decide +kernel))) (by decide +kernel)), (tb_mem (t_in2 (List.mem_of_getElem? (i := 37) (by decide +kernel))) (by decide +kernel)), ⟨by decide +kernel, by decide +kernel, by decide +kernel⟩⟩
set_option maxHeartbeats 4000000 in
set_option maxRecDepth 100000 in
theorem gt_tail {κ : Kg} {ad : AD} {a : Nat} (C : Cg κ RX7 cX7_init 3 none rmX7_init) (hq : κ.2.2.2.2.2 = MQ κ.2.1.2.2.1 (QcI κ.2.2.2.2.1 (GB a κ.2.2.1 κ.2.2.2.1 κ.2.2.2.2.1)) κ.2.1.2.1 κ.1.2.2.2.2 rmX7_init.cells rmX7_init.slots κ.2.2.2.2.1) (hW : HWd κ ad domC) (had : ad 0 0 = a) : G κ 3 78 14119 (HP κ ad domC M00) 140 [(0, .ref (ad 0 0))] [] := by
  refine g_slen C dX7_init_140 dX7_init_142 ivX7_70 ⟨by decide, by decide, rfl, rfl⟩ (Nat.le_of_ble_eq_true rfl) ⟨Nat.le_of_ble_eq_true rfl, Nat.le_of_ble_eq_true rfl⟩ ?_
  refine g_sipush C dX7_init_145 (v := 200) (by decide) ?_
  refine g_min C dX7_init_148 ivX7_76 (Nat.le_of_ble_eq_true rfl) ⟨by decide, by decide⟩ ⟨Nat.le_of_ble_eq_true rfl, Nat.le_of_ble_eq_true rfl⟩ (v := 127) (by decide) ?_
  refine g_istore_n C dX7_init_151 (by decide) (lv' := [(1, .int 127), (0, .ref (ad 0 0))]) rfl ?_
  refine g_iconst C dX7_init_152 (v := 0) (by decide) ?_
  refine g_istore_n C dX7_init_153 (by decide) (lv' := [(2, .int 0), (1, .int 127), (0, .ref (ad 0 0))]) rfl ?_
  have loop : ∀ (m : Nat) (k : Int), k + m = 127 → 0 ≤ k → G κ 3 78 14119 (HP κ ad domC (txM k)) 154 [(2, .int (Int32.ofInt k)), (1, .int 127), (0, .ref (ad 0 0))] [] := by
    intro m
    induction m with
    | zero =>
      intro k hk h0
      have hk : k = 127 := by omega
      subst hk
      refine g_iload_n C dX7_init_154 0 rfl ?_
      refine g_iload_n C dX7_init_155 1 rfl ?_
      refine g_icmp_ge C dX7_init_156 (tgt := 177) (by decide) (fun _ => ?_) (fun h => absurd (by decide) h)
      refine g_aload_n C dX7_init_177 2 rfl ?_
      refine g_iload_n C dX7_init_178 1 rfl ?_
      refine h_put C hW (x := 127) dX7_init_179 plX7_86 rfl (by decide) (by decide) rfl ⟨rfl, by decide, by decide⟩ rfl rfl ?_
      refine g_cons (P' := fun H => HI κ.2.2.1 ad κ.2.2.2.1 domC M01 H ∧ True) (fun H h => ⟨h, trivial⟩) ?_
      refine g_aload_n C dX7_init_182 2 rfl ?_
      refine h_call C hW ctX7_layText dX7_init_183 ivX7_90 ⟨by decide, by decide, rfl, rfl⟩ ⟨Nat.le_of_ble_eq_true rfl, Nat.le_of_ble_eq_true rfl⟩ () (As := []) rfl rfl rfl (by decide) rfl M01_ok ⟨⟨rfl, by decide, by decide⟩, trivial⟩ (X := fun _ => True) (fun _ _ _ _ _ => trivial) (st := []) rfl (Nat.le_of_ble_eq_true rfl) (K1 := rV (fun M' => InvC M' ∧ Ch M01 M' (psrV (M01 1 0) (M01 0 0 1)).2 (fun _ => -4) (fun _ => -4))) ⟨M01_inv, fun M' a b => ⟨a, b⟩⟩ (fun x M' oM' _ hk => ?_)
      obtain ⟨rfl, hIC, hCh⟩ := rV_out hk
      refine g_cons (P' := HP κ ad domC M') (fun H h => h.1) ?_
      refine g_aload_n C dX7_init_186 2 rfl ?_
      refine g_iconst C dX7_init_187 (v := 0) (by decide) ?_
      refine h_put C hW (x := 0) dX7_init_188 plX7_86 rfl (by decide) (by decide) rfl ⟨rfl, by decide, by decide⟩ rfl rfl ?_
      exact g_vret C hq dX7_init_191 (fun H h => ⟨ad, up3 M' 0 0 1 0, had, hW.1, hW.2.2, okM_upd oM' (by decide), h, stc_of hIC hCh⟩)
    | succ m ih =>
      intro k hk h0
      have hb := tL_in h0 (by omega)
      refine g_iload_n C dX7_init_154 0 rfl ?_
      refine g_iload_n C dX7_init_155 1 rfl ?_
      refine g_icmp_ge C dX7_init_156 (tgt := 177) (by decide) (fun h => ?_) (fun _ => ?_)
      · have := (oi_le (x := 127) (by decide) ⟨by omega, by omega⟩).mp h
        omega
      refine g_aload_n C dX7_init_159 2 rfl ?_
      refine h_getr C dX7_init_160 flX7_9 rfl (by decide) (by decide) (q := (1, 0)) rfl ⟨rfl, by decide, by decide⟩ ?_
      refine g_iload_n C dX7_init_163 0 rfl ?_
      refine g_schr C dX7_init_164 dX7_init_166 dX7_init_167 0 rfl h0 (by omega) ivX7_82 ⟨by decide, by decide, rfl, rfl⟩ (Nat.le_of_ble_eq_true rfl) ⟨Nat.le_of_ble_eq_true rfl, Nat.le_of_ble_eq_true rfl⟩ ?_
      refine h_cast C hW dX7_init_170 rfl ⟨rfl, by decide, by decide⟩ ⟨by omega, by omega⟩ h0 (by show k < 200; omega) hb.1 hb.2 ?_
      rw [txM_step h0]
      refine g_iinc C dX7_init_171 0 rfl (v := Int32.ofInt (k + 1)) (by rw [Int32.ofInt_add]) (by decide) (lv' := [(2, .int (Int32.ofInt (k + 1))), (1, .int 127), (0, .ref (ad 0 0))]) rfl ?_
      refine g_goto C dX7_init_174 (tgt := 154) (by decide) ?_
      exact ih (k + 1) (by omega) (by omega)
  have h := loop 127 0 (by decide) (by decide)
  rw [txM_0] at h
  exact h
set_option maxRecDepth 100000 in
theorem ciX7_init (a : Nat) : CtI yX7_init cX7_init 3 rmX7_init [.ref a] (fun _ => (a, .inr (7, [.null, .int 0, .null, .null, .null, .null, .null, .null, .null, .null, .int 0, .int 0, .null]))) (GB a) := by
  refine ci_of (by decide) (Nat.le_of_ble_eq_true rfl) ?_
  intro κ C hin hq
  have C : Cg κ RX7 cX7_init 3 none rmX7_init := C
  have hin : κ.2.1.2.2.2.1.name = "<init>" := hin
  refine gt_a C hin (fun v hv => ?_)
  refine g_pure (φ := va_D κ.2.2.2.2.1 (gtW κ.2.2.2.1 v)) (fun H h => h.2) (fun hD => ?_)
  refine g_cons (P' := HP κ (gtA v) domC M00) (fun H h => gt_HI h.1) ?_
  exact gt_tail C hq ⟨gt_Inj hD, dmC, gt_fr hD⟩ hv
