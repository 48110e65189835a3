/-! ===== the law's loop ===== -/
abbrev LPw (κ : Kg) (adC adM : AD) (Mc Mm : Mem) : Heap → Prop := fun H => HI κ.2.2.1 adC κ.2.2.2.1 domC Mc H ∧ HI κ.2.2.1 adM κ.2.2.2.1 domM Mm H
abbrev LV (adC adM : AD) (b : Nat) (k : Int) : List (Nat × Value) := [(3, .int (Int32.ofInt k)), (2, .ref (adM 30 0)), (1, .ref (adC 0 0)), (0, .ref b)]
def Sep (adC adM : AD) : Prop := ∀ r i r' i', domC r = true → 0 ≤ i → i < cn r → domM r' = true → 0 ≤ i' → i' < cn r' → adC r i ≠ adM r' i'
def LY (κ : Kg) (n z : Nat) (adC adM : AD) (b L : Nat) (xs : Nat → Int32) : Prop := Cg κ RL cL_law 4 ret room_1 ∧ HWd κ adC domC ∧ HWd κ adM domM ∧ Sep adC adM ∧ (n ≤ room_1.cells ∧ z ≤ room_1.slots) ∧ (va_X b L xs κ.1.2.2.2.2 κ.1.2.2.2.2.heap ∧ b < κ.1.2.2.2.2.heap.size ∧ ¬ κ.2.2.2.2.1 b) ∧ L ≤ 2048
/-- a number of the script -/
def sc (xs : Nat → Int32) (k c : Int) : Int := (xs (k + c).toNat).toInt
theorem sc_in (xs : Nat → Int32) (k c : Int) : inR (sc xs k c) := toInt_inR _
section LR
variable {κ : Kg} {n z b L : Nat} {adC adM : AD} {xs : Nat → Int32} {P : Heap → Prop} {pc : Nat} {lv : List (Nat × Value)} {st : List Value} {Mc Mm : Mem}
theorem l_arg (Y : LY κ n z adC adM b L xs) {i0 i3 : Fin 4} {k c : Int} (hd1 : decode cL_law pc = .ok (.aload_n i0, 1)) (hd2 : decode cL_law (pc + 1) = .ok (.iload_n i3, 1)) (hd3 : decode cL_law (pc + 2) = .ok (.iconst c, 1)) (hd4 : decode cL_law (pc + 3) = .ok (.iadd, 1)) (hd5 : decode cL_law (pc + 4) = .ok (.iaload, 1)) (q0 : Nat) (h0 : lv[q0]? = some (i0.val, .ref b)) (q3 : Nat) (h3 : lv[q3]? = some (i3.val, .int (Int32.ofInt k))) (hc0 : 0 ≤ c) (hc1 : c < 4) (hk0 : 0 ≤ k) (hk1 : k + 4 ≤ L) (kk : G κ 4 n z P (pc + 5) lv (.int (Int32.ofInt (sc xs k c)) :: st)) : G κ 4 n z P pc lv st := by
  obtain ⟨C, -, -, -, -, ⟨hX, hbl, hbA⟩, hL⟩ := Y
  refine g_aload_n C hd1 q0 h0 ?_
  refine g_iload_n C hd2 q3 h3 ?_
  refine g_iconst C hd3 rfl ?_
  refine g_iadd C hd4 (v := Int32.ofInt (k + c)) (by rw [Int32.ofInt_add]) ?_
  refine ⟨fun H locs ls hP hS hl => ?_, trivial⟩
  have hr : inR (k + c) := ⟨by omega, by omega⟩
  have hin : vp_in (Int32.ofInt (k + c)) L := oi_in hr (by omega) (by omega)
  refine va_sld C.1 C.2.1 hX hbl hbA hS hin hd5 ?_
  have h := kk.1 H locs ls hP hS hl
  unfold sc at h
  rw [Int32.ofInt_toInt] at h
  rw [oi_clamp hr]
  exact h
theorem l_arg0 (Y : LY κ n z adC adM b L xs) {i0 i3 : Fin 4} {k : Int} (hd1 : decode cL_law pc = .ok (.aload_n i0, 1)) (hd2 : decode cL_law (pc + 1) = .ok (.iload_n i3, 1)) (hd5 : decode cL_law (pc + 2) = .ok (.iaload, 1)) (q0 : Nat) (h0 : lv[q0]? = some (i0.val, .ref b)) (q3 : Nat) (h3 : lv[q3]? = some (i3.val, .int (Int32.ofInt k))) (hk0 : 0 ≤ k) (hk1 : k + 4 ≤ L) (kk : ∀ x : Int32, G κ 4 n z P (pc + 3) lv (.int x :: st)) : G κ 4 n z P pc lv st := by
  obtain ⟨C, -, -, -, -, ⟨hX, hbl, hbA⟩, hL⟩ := Y
  refine g_aload_n C hd1 q0 h0 ?_
  refine g_iload_n C hd2 q3 h3 ?_
  refine ⟨fun H locs ls hP hS hl => ?_, trivial⟩
  have hr : inR k := ⟨by omega, by omega⟩
  exact va_sld C.1 C.2.1 hX hbl hbA hS (oi_in hr (by omega) (by omega)) hd5 ((kk _).1 H locs ls hP hS hl)
theorem l_len (Y : LY κ n z adC adM b L xs) (hd : decode cL_law pc = .ok (.arraylength, 1)) (kk : G κ 4 n z P (pc + 1) lv (.int (Int32.ofInt L) :: st)) : G κ 4 n z P pc lv (.ref b :: st) := by
  obtain ⟨C, -, -, -, -, ⟨hX, hbl, hbA⟩, hL⟩ := Y
  exact ⟨fun H locs ls hP hS hl => va_slen C.1 C.2.1 hX hbl hbA hS hd (kk.1 H locs ls hP hS hl), trivial⟩
theorem g_tsw {own : String} {cc : ByteArray} {nL : Nat} {ret : Option FieldType} {rm : Room} (C : Cg κ own cc nL ret rm) {dflt lo hi : Int} {offs : Array Int} {len : Nat} {x : Int32} {dt : Nat} (hd : decode cc pc = .ok (.tableswitch dflt lo hi offs, len)) (ht : (pc : Int) + dflt = (dt : Int))
    (hin : ∀ j : Nat, lo + j = x.toInt → x.toInt ≤ hi → ∃ (off : Int) (tgt : Nat), offs[j]? = some off ∧ (pc : Int) + off = (tgt : Int) ∧ G κ nL n z P tgt lv st) (hout : G κ nL n z P dt lv st) : G κ nL n z P pc lv (.int x :: st) := by
  refine ⟨fun H locs ls hP hS hl => ?_, trivial⟩
  by_cases h : x.toInt < lo ∨ hi < x.toInt
  · exact lv_tableOut C.1 C.2.1 hd h ht (hout.1 H locs ls hP hS hl)
  · obtain ⟨off, tgt, h1, h2, h3⟩ := hin (x.toInt - lo).toNat (by omega) (by omega)
    exact lv_tableIn C.1 C.2.1 hd (by omega) (by omega) h1 h2 (h3.1 H locs ls hP hS hl)
theorem HI_kept {D : va_G} {ad : AD} {cs : CS} {dom : Nat → Bool} {M : Mem} {H H1 : Heap} {F : Nat → Prop} (h : HI D ad cs dom M H) (hs : ∀ r i, dom r = true → 0 ≤ i → i < cn r → ¬ F (ad r i)) (hk : ∀ q, q < H.size → ¬ F q → H1[q]? = H[q]?) : HI D ad cs dom M H1 :=
  fun r i a b c => (h r i a b c).kept (hk _ (h r i a b c).lt (hs r i a b c))
theorem l_callC {α : Type} {y : MethodName} {b' : ByteArray} {mL : Nat} {rt : Option FieldType} {rm' : Room} {arg : α → List PV} {sp : α → Mem → Kont → Prop} (Y : LY κ n z adC adM b L xs) (hM : Ct y b' mL rt rm' domC arg sp) {idx n0 : Nat} (hd : decode cL_law pc = .ok (.invokevirtual idx, 3)) (hw : IV RL idx y b' mL rt n0) (hR : RmOk rm' room_1 mL)
    (a : α) {As : List PV} {T : u_T} {N : Nat} {st0 : List Value} (ha : arg a = .inr (0, 0) :: As) (hn : As.length = n0) (hcl : classes[7]? = some (y.cls, T, N)) (oM : okM Mc) (oA : okS domC As) (hst : st0 = (As.map (emb adC)).reverse ++ .ref (adC 0 0) :: st) (h8 : (st.map fun v => v.category).sum ≤ 8)
    {F : Int → Mem → Prop} (k : sp a Mc (rI F)) (kk : ∀ (r : Int) (M' : Mem), okM M' → F r M' → G κ 4 n z (LPw κ adC adM M' Mm) (pc + 3) lv (.int (Int32.ofInt r) :: st)) : G κ 4 n z (LPw κ adC adM Mc Mm) pc lv st0 := by
  obtain ⟨C, hC, hMw, hS, hc, -, -⟩ := Y
  refine h_call C hC hM hd hw hR hc a ha hn (ci := 7) rfl (by decide) hcl oM (by rw [ha]; exact ⟨⟨rfl, by decide, by decide⟩, oA⟩) (X := fun H => HI κ.2.2.1 adM κ.2.2.2.1 domM Mm H) (fun H H1 hX _ hk => HI_kept hX (fun r i a b c hf => ?_) hk) hst h8 k (fun x M' oM' _ hx => ?_)
  · obtain ⟨r', i', d0, d1, d2, e⟩ := hf
    exact hS r' i' r i d0 d1 d2 a b c e.symm
  · obtain ⟨r, rfl, hx⟩ := rI_out hx
    exact kk r M' oM' hx
theorem l_callM {α : Type} {y : MethodName} {b' : ByteArray} {mL : Nat} {rt : Option FieldType} {rm' : Room} {arg : α → List PV} {sp : α → Mem → Kont → Prop} (Y : LY κ n z adC adM b L xs) (hM : Ct y b' mL rt rm' domM arg sp) {idx n0 : Nat} (hd : decode cL_law pc = .ok (.invokevirtual idx, 3)) (hw : IV RL idx y b' mL rt n0) (hR : RmOk rm' room_1 mL)
    (a : α) {As : List PV} {T : u_T} {N : Nat} {st0 : List Value} (ha : arg a = .inr (30, 0) :: As) (hn : As.length = n0) (hcl : classes[8]? = some (y.cls, T, N)) (oM : okM Mm) (oA : okS domM As) (hst : st0 = (As.map (emb adM)).reverse ++ .ref (adM 30 0) :: st) (h8 : (st.map fun v => v.category).sum ≤ 8)
    {F : Int → Mem → Prop} (k : sp a Mm (rI F)) (kk : ∀ (r : Int) (M' : Mem), okM M' → F r M' → G κ 4 n z (LPw κ adC adM Mc M') (pc + 3) lv (.int (Int32.ofInt r) :: st)) : G κ 4 n z (LPw κ adC adM Mc Mm) pc lv st0 := by
  obtain ⟨C, hC, hMw, hS, hc, -, -⟩ := Y
  refine g_cons (P' := fun H => HI κ.2.2.1 adM κ.2.2.2.1 domM Mm H ∧ HI κ.2.2.1 adC κ.2.2.2.1 domC Mc H) (fun H h => ⟨h.2, h.1⟩) ?_
  refine h_call C hMw hM hd hw hR hc a ha hn (ci := 8) rfl (by decide) hcl oM (by rw [ha]; exact ⟨⟨rfl, by decide, by decide⟩, oA⟩) (X := fun H => HI κ.2.2.1 adC κ.2.2.2.1 domC Mc H) (fun H H1 hX _ hk => HI_kept hX (fun r i a b c hf => ?_) hk) hst h8 k (fun x M' oM' _ hx => ?_)
  · obtain ⟨r', i', d0, d1, d2, e⟩ := hf
    exact hS r i r' i' a b c d0 d1 d2 e
  · obtain ⟨r, rfl, hx⟩ := rI_out hx
    exact g_cons (P' := LPw κ adC adM Mc M') (fun H h => ⟨h.2, h.1⟩) (kk r M' oM' hx)
end LR
theorem ivL_13 : IV RL 13 yX7_write cX7_write 2 (some .int) 1 := ⟨(tb_mem (t_in3 (List.mem_of_getElem? (i := 16) (by decide +kernel))) (by decide +kernel)), (tb_mem (t_in3 (List.mem_of_getElem? (i := 17) (by decide +kernel))) (by decide +kernel)), (tb_mem (t_in3 (List.mem_of_getElem? (i := 18) (by decide +kernel))) (by decide +kernel)), (tb_mem (t_in1 (List.mem_of_getElem? (i := 1) (by decide +kernel))) (by decide +kernel)), (tb_mem (t_in3 (List.mem_of_getElem? (i := 19) (by decide +kernel))) (by decide +kernel)), ⟨by decide +kernel, by decide +kernel, by decide +kernel⟩⟩
theorem ivL_17 : IV RL 17 yX8_write cX8_write 2 (some .int) 1 := ⟨(tb_mem (t_in4 (List.mem_of_getElem? (i := 196) (by decide +kernel))) (by decide +kernel)), (tb_mem (t_in4 (List.mem_of_getElem? (i := 197) (by decide +kernel))) (by decide +kernel)), (tb_mem (t_in4 (List.mem_of_getElem? (i := 198) (by decide +kernel))) (by decide +kernel)), (tb_mem (t_in1 (List.mem_of_getElem? (i := 16) (by decide +kernel))) (by decide +kernel)), (tb_mem (t_in4 (List.mem_of_getElem? (i := 199) (by decide +kernel))) (by decide +kernel)), ⟨by decide +kernel, by decide +kernel, by decide +kernel⟩⟩
set_option maxHeartbeats 4000000 in
set_option maxRecDepth 100000 in
theorem lc_write {κ : Kg} {n z b L : Nat} {adC adM : AD} {xs : Nat → Int32} {Mc Mm : Mem} {k : Int} (Y : LY κ n z adC adM b L xs) (hk : 0 ≤ k ∧ k + 4 ≤ L) (hR : Rel Mc Mm) (oc : okM Mc) (om : okM Mm) (kk : ∀ Mc' Mm', Rel Mc' Mm' → okM Mc' → okM Mm' → G κ 4 n z (LPw κ adC adM Mc' Mm') 887 (LV adC adM b k) []) : G κ 4 n z (LPw κ adC adM Mc Mm) 156 (LV adC adM b k) [] := by
  refine g_aload_n Y.1 dL_law_156 2 rfl ?_
  refine l_arg Y (c := 1) dL_law_157 dL_law_158 dL_law_159 dL_law_160 dL_law_161 3 rfl 0 rfl (by decide) (by decide) hk.1 hk.2 ?_
  refine l_callC Y ctX7_write dL_law_162 ivL_13 ⟨by decide, by decide, rfl, rfl⟩ ((sc xs k 1) : Int) (As := [.inl (sc xs k 1)]) rfl rfl rfl oc ⟨sc_in xs k _, trivial⟩ (st := []) rfl (Nat.le_of_ble_eq_true rfl) (lw_write hR (sc xs k 1)) (fun r Mc' oc' h1 => ?_)
  refine g_aload_n Y.1 dL_law_165 1 rfl ?_
  refine l_arg Y (c := 1) dL_law_166 dL_law_167 dL_law_168 dL_law_169 dL_law_170 3 rfl 0 rfl (by decide) (by decide) hk.1 hk.2 ?_
  refine l_callM Y ctX8_write dL_law_171 ivL_17 ⟨by decide, by decide, rfl, rfl⟩ ((sc xs k 1) : Int) (As := [.inl (sc xs k 1)]) rfl rfl rfl om ⟨sc_in xs k _, trivial⟩ (st := [.int (Int32.ofInt r)]) rfl (Nat.le_of_ble_eq_true rfl) h1 (fun r' Mm' om' h2 => ?_)
  obtain ⟨e, hR'⟩ := h2
  subst e
  exact g_icmp_eq Y.1 dL_law_174 (tgt := 887) (by decide) (fun _ => kk _ _ hR' oc' om') (fun h => absurd rfl h)
theorem ivL_18 : IV RL 18 yX7_wipe cX7_wipe 2 (some .int) 0 := ⟨(tb_mem (t_in3 (List.mem_of_getElem? (i := 20) (by decide +kernel))) (by decide +kernel)), (tb_mem (t_in3 (List.mem_of_getElem? (i := 21) (by decide +kernel))) (by decide +kernel)), (tb_mem (t_in3 (List.mem_of_getElem? (i := 22) (by decide +kernel))) (by decide +kernel)), (tb_mem (t_in1 (List.mem_of_getElem? (i := 1) (by decide +kernel))) (by decide +kernel)), (tb_mem (t_in3 (List.mem_of_getElem? (i := 23) (by decide +kernel))) (by decide +kernel)), ⟨by decide +kernel, by decide +kernel, by decide +kernel⟩⟩
theorem ivL_22 : IV RL 22 yX8_wipe cX8_wipe 2 (some .int) 0 := ⟨(tb_mem (t_in4 (List.mem_of_getElem? (i := 200) (by decide +kernel))) (by decide +kernel)), (tb_mem (t_in4 (List.mem_of_getElem? (i := 201) (by decide +kernel))) (by decide +kernel)), (tb_mem (t_in4 (List.mem_of_getElem? (i := 202) (by decide +kernel))) (by decide +kernel)), (tb_mem (t_in1 (List.mem_of_getElem? (i := 16) (by decide +kernel))) (by decide +kernel)), (tb_mem (t_in4 (List.mem_of_getElem? (i := 203) (by decide +kernel))) (by decide +kernel)), ⟨by decide +kernel, by decide +kernel, by decide +kernel⟩⟩
set_option maxHeartbeats 4000000 in
set_option maxRecDepth 100000 in
theorem lc_wipe {κ : Kg} {n z b L : Nat} {adC adM : AD} {xs : Nat → Int32} {Mc Mm : Mem} {k : Int} (Y : LY κ n z adC adM b L xs) (hk : 0 ≤ k ∧ k + 4 ≤ L) (hR : Rel Mc Mm) (oc : okM Mc) (om : okM Mm) (kk : ∀ Mc' Mm', Rel Mc' Mm' → okM Mc' → okM Mm' → G κ 4 n z (LPw κ adC adM Mc' Mm') 887 (LV adC adM b k) []) : G κ 4 n z (LPw κ adC adM Mc Mm) 179 (LV adC adM b k) [] := by
  refine g_aload_n Y.1 dL_law_179 2 rfl ?_
  refine l_callC Y ctX7_wipe dL_law_180 ivL_18 ⟨by decide, by decide, rfl, rfl⟩ (() : Unit) (As := []) rfl rfl rfl oc trivial (st := []) rfl (Nat.le_of_ble_eq_true rfl) (lw_wipe hR) (fun r Mc' oc' h1 => ?_)
  refine g_aload_n Y.1 dL_law_183 1 rfl ?_
  refine l_callM Y ctX8_wipe dL_law_184 ivL_22 ⟨by decide, by decide, rfl, rfl⟩ (() : Unit) (As := []) rfl rfl rfl om trivial (st := [.int (Int32.ofInt r)]) rfl (Nat.le_of_ble_eq_true rfl) h1 (fun r' Mm' om' h2 => ?_)
  obtain ⟨e, hR'⟩ := h2
  subst e
  exact g_icmp_eq Y.1 dL_law_187 (tgt := 887) (by decide) (fun _ => kk _ _ hR' oc' om') (fun h => absurd rfl h)
theorem ivL_23 : IV RL 23 yX7_fault cX7_fault 1 (some .int) 0 := ⟨(tb_mem (t_in3 (List.mem_of_getElem? (i := 24) (by decide +kernel))) (by decide +kernel)), (tb_mem (t_in3 (List.mem_of_getElem? (i := 25) (by decide +kernel))) (by decide +kernel)), (tb_mem (t_in3 (List.mem_of_getElem? (i := 26) (by decide +kernel))) (by decide +kernel)), (tb_mem (t_in1 (List.mem_of_getElem? (i := 1) (by decide +kernel))) (by decide +kernel)), (tb_mem (t_in3 (List.mem_of_getElem? (i := 27) (by decide +kernel))) (by decide +kernel)), ⟨by decide +kernel, by decide +kernel, by decide +kernel⟩⟩
theorem ivL_26 : IV RL 26 yX8_fault cX8_fault 1 (some .int) 0 := ⟨(tb_mem (t_in4 (List.mem_of_getElem? (i := 204) (by decide +kernel))) (by decide +kernel)), (tb_mem (t_in4 (List.mem_of_getElem? (i := 205) (by decide +kernel))) (by decide +kernel)), (tb_mem (t_in4 (List.mem_of_getElem? (i := 206) (by decide +kernel))) (by decide +kernel)), (tb_mem (t_in1 (List.mem_of_getElem? (i := 16) (by decide +kernel))) (by decide +kernel)), (tb_mem (t_in4 (List.mem_of_getElem? (i := 207) (by decide +kernel))) (by decide +kernel)), ⟨by decide +kernel, by decide +kernel, by decide +kernel⟩⟩
set_option maxHeartbeats 4000000 in
set_option maxRecDepth 100000 in
theorem lc_fault {κ : Kg} {n z b L : Nat} {adC adM : AD} {xs : Nat → Int32} {Mc Mm : Mem} {k : Int} (Y : LY κ n z adC adM b L xs) (hk : 0 ≤ k ∧ k + 4 ≤ L) (hR : Rel Mc Mm) (oc : okM Mc) (om : okM Mm) (kk : ∀ Mc' Mm', Rel Mc' Mm' → okM Mc' → okM Mm' → G κ 4 n z (LPw κ adC adM Mc' Mm') 887 (LV adC adM b k) []) : G κ 4 n z (LPw κ adC adM Mc Mm) 192 (LV adC adM b k) [] := by
  refine g_aload_n Y.1 dL_law_192 2 rfl ?_
  refine l_callC Y ctX7_fault dL_law_193 ivL_23 ⟨by decide, by decide, rfl, rfl⟩ (() : Unit) (As := []) rfl rfl rfl oc trivial (st := []) rfl (Nat.le_of_ble_eq_true rfl) (lw_fault hR) (fun r Mc' oc' h1 => ?_)
  refine g_aload_n Y.1 dL_law_196 1 rfl ?_
  refine l_callM Y ctX8_fault dL_law_197 ivL_26 ⟨by decide, by decide, rfl, rfl⟩ (() : Unit) (As := []) rfl rfl rfl om trivial (st := [.int (Int32.ofInt r)]) rfl (Nat.le_of_ble_eq_true rfl) h1 (fun r' Mm' om' h2 => ?_)
  obtain ⟨e, hR'⟩ := h2
  subst e
  exact g_icmp_eq Y.1 dL_law_200 (tgt := 887) (by decide) (fun _ => kk _ _ hR' oc' om') (fun h => absurd rfl h)
theorem ivL_27 : IV RL 27 yX7_lay cX7_lay 1 (some .int) 0 := ⟨(tb_mem (t_in3 (List.mem_of_getElem? (i := 28) (by decide +kernel))) (by decide +kernel)), (tb_mem (t_in3 (List.mem_of_getElem? (i := 29) (by decide +kernel))) (by decide +kernel)), (tb_mem (t_in3 (List.mem_of_getElem? (i := 30) (by decide +kernel))) (by decide +kernel)), (tb_mem (t_in1 (List.mem_of_getElem? (i := 1) (by decide +kernel))) (by decide +kernel)), (tb_mem (t_in3 (List.mem_of_getElem? (i := 31) (by decide +kernel))) (by decide +kernel)), ⟨by decide +kernel, by decide +kernel, by decide +kernel⟩⟩
theorem ivL_30 : IV RL 30 yX8_lay cX8_lay 2 (some .int) 0 := ⟨(tb_mem (t_in5 (List.mem_of_getElem? (i := 7) (by decide +kernel))) (by decide +kernel)), (tb_mem (t_in5 (List.mem_of_getElem? (i := 8) (by decide +kernel))) (by decide +kernel)), (tb_mem (t_in5 (List.mem_of_getElem? (i := 9) (by decide +kernel))) (by decide +kernel)), (tb_mem (t_in1 (List.mem_of_getElem? (i := 16) (by decide +kernel))) (by decide +kernel)), (tb_mem (t_in5 (List.mem_of_getElem? (i := 10) (by decide +kernel))) (by decide +kernel)), ⟨by decide +kernel, by decide +kernel, by decide +kernel⟩⟩
set_option maxHeartbeats 4000000 in
set_option maxRecDepth 100000 in
theorem lc_lay {κ : Kg} {n z b L : Nat} {adC adM : AD} {xs : Nat → Int32} {Mc Mm : Mem} {k : Int} (Y : LY κ n z adC adM b L xs) (hk : 0 ≤ k ∧ k + 4 ≤ L) (hR : Rel Mc Mm) (oc : okM Mc) (om : okM Mm) (kk : ∀ Mc' Mm', Rel Mc' Mm' → okM Mc' → okM Mm' → G κ 4 n z (LPw κ adC adM Mc' Mm') 887 (LV adC adM b k) []) : G κ 4 n z (LPw κ adC adM Mc Mm) 205 (LV adC adM b k) [] := by
  refine g_aload_n Y.1 dL_law_205 2 rfl ?_
  refine l_callC Y ctX7_lay dL_law_206 ivL_27 ⟨by decide, by decide, rfl, rfl⟩ (() : Unit) (As := []) rfl rfl rfl oc trivial (st := []) rfl (Nat.le_of_ble_eq_true rfl) (lw_lay hR) (fun r Mc' oc' h1 => ?_)
  refine g_aload_n Y.1 dL_law_209 1 rfl ?_
  refine l_callM Y ctX8_lay dL_law_210 ivL_30 ⟨by decide, by decide, rfl, rfl⟩ (() : Unit) (As := []) rfl rfl rfl om trivial (st := [.int (Int32.ofInt r)]) rfl (Nat.le_of_ble_eq_true rfl) h1 (fun r' Mm' om' h2 => ?_)
  obtain ⟨e, hR'⟩ := h2
  subst e
  exact g_icmp_eq Y.1 dL_law_213 (tgt := 887) (by decide) (fun _ => kk _ _ hR' oc' om') (fun h => absurd rfl h)
theorem ivL_31 : IV RL 31 yX7_rate cX7_rate 4 (some .int) 2 := ⟨(tb_mem (t_in3 (List.mem_of_getElem? (i := 32) (by decide +kernel))) (by decide +kernel)), (tb_mem (t_in3 (List.mem_of_getElem? (i := 33) (by decide +kernel))) (by decide +kernel)), (tb_mem (t_in3 (List.mem_of_getElem? (i := 34) (by decide +kernel))) (by decide +kernel)), (tb_mem (t_in1 (List.mem_of_getElem? (i := 1) (by decide +kernel))) (by decide +kernel)), (tb_mem (t_in3 (List.mem_of_getElem? (i := 35) (by decide +kernel))) (by decide +kernel)), ⟨by decide +kernel, by decide +kernel, by decide +kernel⟩⟩
theorem ivL_35 : IV RL 35 yX8_rate cX8_rate 4 (some .int) 2 := ⟨(tb_mem (t_in5 (List.mem_of_getElem? (i := 11) (by decide +kernel))) (by decide +kernel)), (tb_mem (t_in5 (List.mem_of_getElem? (i := 12) (by decide +kernel))) (by decide +kernel)), (tb_mem (t_in5 (List.mem_of_getElem? (i := 13) (by decide +kernel))) (by decide +kernel)), (tb_mem (t_in1 (List.mem_of_getElem? (i := 16) (by decide +kernel))) (by decide +kernel)), (tb_mem (t_in5 (List.mem_of_getElem? (i := 14) (by decide +kernel))) (by decide +kernel)), ⟨by decide +kernel, by decide +kernel, by decide +kernel⟩⟩
set_option maxHeartbeats 4000000 in
set_option maxRecDepth 100000 in
theorem lc_rate {κ : Kg} {n z b L : Nat} {adC adM : AD} {xs : Nat → Int32} {Mc Mm : Mem} {k : Int} (Y : LY κ n z adC adM b L xs) (hk : 0 ≤ k ∧ k + 4 ≤ L) (hR : Rel Mc Mm) (oc : okM Mc) (om : okM Mm) (kk : ∀ Mc' Mm', Rel Mc' Mm' → okM Mc' → okM Mm' → G κ 4 n z (LPw κ adC adM Mc' Mm') 887 (LV adC adM b k) []) : G κ 4 n z (LPw κ adC adM Mc Mm) 218 (LV adC adM b k) [] := by
  refine g_aload_n Y.1 dL_law_218 2 rfl ?_
  refine l_arg Y (c := 1) dL_law_219 dL_law_220 dL_law_221 dL_law_222 dL_law_223 3 rfl 0 rfl (by decide) (by decide) hk.1 hk.2 ?_
  refine l_arg Y (c := 2) dL_law_224 dL_law_225 dL_law_226 dL_law_227 dL_law_228 3 rfl 0 rfl (by decide) (by decide) hk.1 hk.2 ?_
  refine l_callC Y ctX7_rate dL_law_229 ivL_31 ⟨by decide, by decide, rfl, rfl⟩ (((sc xs k 1), (sc xs k 2)) : Int × Int) (As := [.inl (sc xs k 1), .inl (sc xs k 2)]) rfl rfl rfl oc ⟨sc_in xs k _, sc_in xs k _, trivial⟩ (st := []) rfl (Nat.le_of_ble_eq_true rfl) (lw_rate hR (sc xs k 1) (sc xs k 2)) (fun r Mc' oc' h1 => ?_)
  refine g_aload_n Y.1 dL_law_232 1 rfl ?_
  refine l_arg Y (c := 1) dL_law_233 dL_law_234 dL_law_235 dL_law_236 dL_law_237 3 rfl 0 rfl (by decide) (by decide) hk.1 hk.2 ?_
  refine l_arg Y (c := 2) dL_law_238 dL_law_239 dL_law_240 dL_law_241 dL_law_242 3 rfl 0 rfl (by decide) (by decide) hk.1 hk.2 ?_
  refine l_callM Y ctX8_rate dL_law_243 ivL_35 ⟨by decide, by decide, rfl, rfl⟩ (((sc xs k 1), (sc xs k 2)) : Int × Int) (As := [.inl (sc xs k 1), .inl (sc xs k 2)]) rfl rfl rfl om ⟨sc_in xs k _, sc_in xs k _, trivial⟩ (st := [.int (Int32.ofInt r)]) rfl (Nat.le_of_ble_eq_true rfl) h1 (fun r' Mm' om' h2 => ?_)
  obtain ⟨e, hR'⟩ := h2
  subst e
  exact g_icmp_eq Y.1 dL_law_246 (tgt := 887) (by decide) (fun _ => kk _ _ hR' oc' om') (fun h => absurd rfl h)
theorem ivL_36 : IV RL 36 yX7_breath cX7_breath 3 (some .int) 1 := ⟨(tb_mem (t_in3 (List.mem_of_getElem? (i := 36) (by decide +kernel))) (by decide +kernel)), (tb_mem (t_in3 (List.mem_of_getElem? (i := 37) (by decide +kernel))) (by decide +kernel)), (tb_mem (t_in3 (List.mem_of_getElem? (i := 38) (by decide +kernel))) (by decide +kernel)), (tb_mem (t_in1 (List.mem_of_getElem? (i := 1) (by decide +kernel))) (by decide +kernel)), (tb_mem (t_in3 (List.mem_of_getElem? (i := 39) (by decide +kernel))) (by decide +kernel)), ⟨by decide +kernel, by decide +kernel, by decide +kernel⟩⟩
theorem ivL_39 : IV RL 39 yX8_breath cX8_breath 3 (some .int) 1 := ⟨(tb_mem (t_in5 (List.mem_of_getElem? (i := 15) (by decide +kernel))) (by decide +kernel)), (tb_mem (t_in5 (List.mem_of_getElem? (i := 16) (by decide +kernel))) (by decide +kernel)), (tb_mem (t_in5 (List.mem_of_getElem? (i := 17) (by decide +kernel))) (by decide +kernel)), (tb_mem (t_in1 (List.mem_of_getElem? (i := 16) (by decide +kernel))) (by decide +kernel)), (tb_mem (t_in5 (List.mem_of_getElem? (i := 18) (by decide +kernel))) (by decide +kernel)), ⟨by decide +kernel, by decide +kernel, by decide +kernel⟩⟩
set_option maxHeartbeats 4000000 in
set_option maxRecDepth 100000 in
theorem lc_breath {κ : Kg} {n z b L : Nat} {adC adM : AD} {xs : Nat → Int32} {Mc Mm : Mem} {k : Int} (Y : LY κ n z adC adM b L xs) (hk : 0 ≤ k ∧ k + 4 ≤ L) (hR : Rel Mc Mm) (oc : okM Mc) (om : okM Mm) (kk : ∀ Mc' Mm', Rel Mc' Mm' → okM Mc' → okM Mm' → G κ 4 n z (LPw κ adC adM Mc' Mm') 887 (LV adC adM b k) []) : G κ 4 n z (LPw κ adC adM Mc Mm) 251 (LV adC adM b k) [] := by
  refine g_aload_n Y.1 dL_law_251 2 rfl ?_
  refine l_arg Y (c := 1) dL_law_252 dL_law_253 dL_law_254 dL_law_255 dL_law_256 3 rfl 0 rfl (by decide) (by decide) hk.1 hk.2 ?_
  refine l_callC Y ctX7_breath dL_law_257 ivL_36 ⟨by decide, by decide, rfl, rfl⟩ ((sc xs k 1) : Int) (As := [.inl (sc xs k 1)]) rfl rfl rfl oc ⟨sc_in xs k _, trivial⟩ (st := []) rfl (Nat.le_of_ble_eq_true rfl) (lw_breath hR (sc xs k 1)) (fun r Mc' oc' h1 => ?_)
  refine g_aload_n Y.1 dL_law_260 1 rfl ?_
  refine l_arg Y (c := 1) dL_law_261 dL_law_262 dL_law_263 dL_law_264 dL_law_265 3 rfl 0 rfl (by decide) (by decide) hk.1 hk.2 ?_
  refine l_callM Y ctX8_breath dL_law_266 ivL_39 ⟨by decide, by decide, rfl, rfl⟩ ((sc xs k 1) : Int) (As := [.inl (sc xs k 1)]) rfl rfl rfl om ⟨sc_in xs k _, trivial⟩ (st := [.int (Int32.ofInt r)]) rfl (Nat.le_of_ble_eq_true rfl) h1 (fun r' Mm' om' h2 => ?_)
  obtain ⟨e, hR'⟩ := h2
  subst e
  exact g_icmp_eq Y.1 dL_law_269 (tgt := 887) (by decide) (fun _ => kk _ _ hR' oc' om') (fun h => absurd rfl h)
theorem ivL_40 : IV RL 40 yX7_sound cX7_sound 4 (some .int) 3 := ⟨(tb_mem (t_in3 (List.mem_of_getElem? (i := 40) (by decide +kernel))) (by decide +kernel)), (tb_mem (t_in3 (List.mem_of_getElem? (i := 41) (by decide +kernel))) (by decide +kernel)), (tb_mem (t_in3 (List.mem_of_getElem? (i := 42) (by decide +kernel))) (by decide +kernel)), (tb_mem (t_in1 (List.mem_of_getElem? (i := 1) (by decide +kernel))) (by decide +kernel)), (tb_mem (t_in3 (List.mem_of_getElem? (i := 43) (by decide +kernel))) (by decide +kernel)), ⟨by decide +kernel, by decide +kernel, by decide +kernel⟩⟩
theorem ivL_44 : IV RL 44 yX8_sound cX8_sound 5 (some .int) 3 := ⟨(tb_mem (t_in5 (List.mem_of_getElem? (i := 19) (by decide +kernel))) (by decide +kernel)), (tb_mem (t_in5 (List.mem_of_getElem? (i := 20) (by decide +kernel))) (by decide +kernel)), (tb_mem (t_in5 (List.mem_of_getElem? (i := 21) (by decide +kernel))) (by decide +kernel)), (tb_mem (t_in1 (List.mem_of_getElem? (i := 16) (by decide +kernel))) (by decide +kernel)), (tb_mem (t_in5 (List.mem_of_getElem? (i := 22) (by decide +kernel))) (by decide +kernel)), ⟨by decide +kernel, by decide +kernel, by decide +kernel⟩⟩
set_option maxHeartbeats 4000000 in
set_option maxRecDepth 100000 in
theorem lc_sound {κ : Kg} {n z b L : Nat} {adC adM : AD} {xs : Nat → Int32} {Mc Mm : Mem} {k : Int} (Y : LY κ n z adC adM b L xs) (hk : 0 ≤ k ∧ k + 4 ≤ L) (hR : Rel Mc Mm) (oc : okM Mc) (om : okM Mm) (kk : ∀ Mc' Mm', Rel Mc' Mm' → okM Mc' → okM Mm' → G κ 4 n z (LPw κ adC adM Mc' Mm') 887 (LV adC adM b k) []) : G κ 4 n z (LPw κ adC adM Mc Mm) 274 (LV adC adM b k) [] := by
  refine g_aload_n Y.1 dL_law_274 2 rfl ?_
  refine l_arg Y (c := 1) dL_law_275 dL_law_276 dL_law_277 dL_law_278 dL_law_279 3 rfl 0 rfl (by decide) (by decide) hk.1 hk.2 ?_
  refine l_arg Y (c := 2) dL_law_280 dL_law_281 dL_law_282 dL_law_283 dL_law_284 3 rfl 0 rfl (by decide) (by decide) hk.1 hk.2 ?_
  refine l_arg Y (c := 3) dL_law_285 dL_law_286 dL_law_287 dL_law_288 dL_law_289 3 rfl 0 rfl (by decide) (by decide) hk.1 hk.2 ?_
  refine l_callC Y ctX7_sound dL_law_290 ivL_40 ⟨by decide, by decide, rfl, rfl⟩ (((sc xs k 1), (sc xs k 2), (sc xs k 3)) : Int × Int × Int) (As := [.inl (sc xs k 1), .inl (sc xs k 2), .inl (sc xs k 3)]) rfl rfl rfl oc ⟨sc_in xs k _, sc_in xs k _, sc_in xs k _, trivial⟩ (st := []) rfl (Nat.le_of_ble_eq_true rfl) (lw_sound hR (sc xs k 1) (sc xs k 2) (sc xs k 3)) (fun r Mc' oc' h1 => ?_)
  refine g_aload_n Y.1 dL_law_293 1 rfl ?_
  refine l_arg Y (c := 1) dL_law_294 dL_law_295 dL_law_296 dL_law_297 dL_law_298 3 rfl 0 rfl (by decide) (by decide) hk.1 hk.2 ?_
  refine l_arg Y (c := 2) dL_law_299 dL_law_300 dL_law_301 dL_law_302 dL_law_303 3 rfl 0 rfl (by decide) (by decide) hk.1 hk.2 ?_
  refine l_arg Y (c := 3) dL_law_304 dL_law_305 dL_law_306 dL_law_307 dL_law_308 3 rfl 0 rfl (by decide) (by decide) hk.1 hk.2 ?_
  refine l_callM Y ctX8_sound dL_law_309 ivL_44 ⟨by decide, by decide, rfl, rfl⟩ (((sc xs k 1), (sc xs k 2), (sc xs k 3)) : Int × Int × Int) (As := [.inl (sc xs k 1), .inl (sc xs k 2), .inl (sc xs k 3)]) rfl rfl rfl om ⟨sc_in xs k _, sc_in xs k _, sc_in xs k _, trivial⟩ (st := [.int (Int32.ofInt r)]) rfl (Nat.le_of_ble_eq_true rfl) h1 (fun r' Mm' om' h2 => ?_)
  obtain ⟨e, hR'⟩ := h2
  subst e
  exact g_icmp_eq Y.1 dL_law_312 (tgt := 887) (by decide) (fun _ => kk _ _ hR' oc' om') (fun h => absurd rfl h)
theorem ivL_45 : IV RL 45 yX7_hush cX7_hush 2 (some .int) 1 := ⟨(tb_mem (t_in3 (List.mem_of_getElem? (i := 81) (by decide +kernel))) (by decide +kernel)), (tb_mem (t_in3 (List.mem_of_getElem? (i := 82) (by decide +kernel))) (by decide +kernel)), (tb_mem (t_in3 (List.mem_of_getElem? (i := 83) (by decide +kernel))) (by decide +kernel)), (tb_mem (t_in1 (List.mem_of_getElem? (i := 1) (by decide +kernel))) (by decide +kernel)), (tb_mem (t_in3 (List.mem_of_getElem? (i := 84) (by decide +kernel))) (by decide +kernel)), ⟨by decide +kernel, by decide +kernel, by decide +kernel⟩⟩
theorem ivL_48 : IV RL 48 yX8_hush cX8_hush 3 (some .int) 1 := ⟨(tb_mem (t_in5 (List.mem_of_getElem? (i := 43) (by decide +kernel))) (by decide +kernel)), (tb_mem (t_in5 (List.mem_of_getElem? (i := 44) (by decide +kernel))) (by decide +kernel)), (tb_mem (t_in5 (List.mem_of_getElem? (i := 45) (by decide +kernel))) (by decide +kernel)), (tb_mem (t_in1 (List.mem_of_getElem? (i := 16) (by decide +kernel))) (by decide +kernel)), (tb_mem (t_in5 (List.mem_of_getElem? (i := 46) (by decide +kernel))) (by decide +kernel)), ⟨by decide +kernel, by decide +kernel, by decide +kernel⟩⟩
set_option maxHeartbeats 4000000 in
set_option maxRecDepth 100000 in
theorem lc_hush {κ : Kg} {n z b L : Nat} {adC adM : AD} {xs : Nat → Int32} {Mc Mm : Mem} {k : Int} (Y : LY κ n z adC adM b L xs) (hk : 0 ≤ k ∧ k + 4 ≤ L) (hR : Rel Mc Mm) (oc : okM Mc) (om : okM Mm) (kk : ∀ Mc' Mm', Rel Mc' Mm' → okM Mc' → okM Mm' → G κ 4 n z (LPw κ adC adM Mc' Mm') 887 (LV adC adM b k) []) : G κ 4 n z (LPw κ adC adM Mc Mm) 317 (LV adC adM b k) [] := by
  refine g_aload_n Y.1 dL_law_317 2 rfl ?_
  refine l_arg Y (c := 1) dL_law_318 dL_law_319 dL_law_320 dL_law_321 dL_law_322 3 rfl 0 rfl (by decide) (by decide) hk.1 hk.2 ?_
  refine l_callC Y ctX7_hush dL_law_323 ivL_45 ⟨by decide, by decide, rfl, rfl⟩ ((sc xs k 1) : Int) (As := [.inl (sc xs k 1)]) rfl rfl rfl oc ⟨sc_in xs k _, trivial⟩ (st := []) rfl (Nat.le_of_ble_eq_true rfl) (lw_hush hR (sc xs k 1)) (fun r Mc' oc' h1 => ?_)
  refine g_aload_n Y.1 dL_law_326 1 rfl ?_
  refine l_arg Y (c := 1) dL_law_327 dL_law_328 dL_law_329 dL_law_330 dL_law_331 3 rfl 0 rfl (by decide) (by decide) hk.1 hk.2 ?_
  refine l_callM Y ctX8_hush dL_law_332 ivL_48 ⟨by decide, by decide, rfl, rfl⟩ ((sc xs k 1) : Int) (As := [.inl (sc xs k 1)]) rfl rfl rfl om ⟨sc_in xs k _, trivial⟩ (st := [.int (Int32.ofInt r)]) rfl (Nat.le_of_ble_eq_true rfl) h1 (fun r' Mm' om' h2 => ?_)
  obtain ⟨e, hR'⟩ := h2
  subst e
  exact g_icmp_eq Y.1 dL_law_335 (tgt := 887) (by decide) (fun _ => kk _ _ hR' oc' om') (fun h => absurd rfl h)
theorem ivL_49 : IV RL 49 yX7_version cX7_version 5 (some .int) 3 := ⟨(tb_mem (t_in3 (List.mem_of_getElem? (i := 93) (by decide +kernel))) (by decide +kernel)), (tb_mem (t_in3 (List.mem_of_getElem? (i := 94) (by decide +kernel))) (by decide +kernel)), (tb_mem (t_in3 (List.mem_of_getElem? (i := 95) (by decide +kernel))) (by decide +kernel)), (tb_mem (t_in1 (List.mem_of_getElem? (i := 1) (by decide +kernel))) (by decide +kernel)), (tb_mem (t_in3 (List.mem_of_getElem? (i := 96) (by decide +kernel))) (by decide +kernel)), ⟨by decide +kernel, by decide +kernel, by decide +kernel⟩⟩
theorem ivL_52 : IV RL 52 yX8_version cX8_version 5 (some .int) 3 := ⟨(tb_mem (t_in5 (List.mem_of_getElem? (i := 47) (by decide +kernel))) (by decide +kernel)), (tb_mem (t_in5 (List.mem_of_getElem? (i := 48) (by decide +kernel))) (by decide +kernel)), (tb_mem (t_in5 (List.mem_of_getElem? (i := 49) (by decide +kernel))) (by decide +kernel)), (tb_mem (t_in1 (List.mem_of_getElem? (i := 16) (by decide +kernel))) (by decide +kernel)), (tb_mem (t_in5 (List.mem_of_getElem? (i := 50) (by decide +kernel))) (by decide +kernel)), ⟨by decide +kernel, by decide +kernel, by decide +kernel⟩⟩
set_option maxHeartbeats 4000000 in
set_option maxRecDepth 100000 in
theorem lc_version {κ : Kg} {n z b L : Nat} {adC adM : AD} {xs : Nat → Int32} {Mc Mm : Mem} {k : Int} (Y : LY κ n z adC adM b L xs) (hk : 0 ≤ k ∧ k + 4 ≤ L) (hR : Rel Mc Mm) (oc : okM Mc) (om : okM Mm) (kk : ∀ Mc' Mm', Rel Mc' Mm' → okM Mc' → okM Mm' → G κ 4 n z (LPw κ adC adM Mc' Mm') 887 (LV adC adM b k) []) : G κ 4 n z (LPw κ adC adM Mc Mm) 340 (LV adC adM b k) [] := by
  refine g_aload_n Y.1 dL_law_340 2 rfl ?_
  refine l_arg Y (c := 1) dL_law_341 dL_law_342 dL_law_343 dL_law_344 dL_law_345 3 rfl 0 rfl (by decide) (by decide) hk.1 hk.2 ?_
  refine l_arg Y (c := 2) dL_law_346 dL_law_347 dL_law_348 dL_law_349 dL_law_350 3 rfl 0 rfl (by decide) (by decide) hk.1 hk.2 ?_
  refine l_arg Y (c := 3) dL_law_351 dL_law_352 dL_law_353 dL_law_354 dL_law_355 3 rfl 0 rfl (by decide) (by decide) hk.1 hk.2 ?_
  refine l_callC Y ctX7_version dL_law_356 ivL_49 ⟨by decide, by decide, rfl, rfl⟩ (((sc xs k 1), (sc xs k 2), (sc xs k 3)) : Int × Int × Int) (As := [.inl (sc xs k 1), .inl (sc xs k 2), .inl (sc xs k 3)]) rfl rfl rfl oc ⟨sc_in xs k _, sc_in xs k _, sc_in xs k _, trivial⟩ (st := []) rfl (Nat.le_of_ble_eq_true rfl) (lw_version hR (sc xs k 1) (sc xs k 2) (sc xs k 3)) (fun r Mc' oc' h1 => ?_)
  refine g_aload_n Y.1 dL_law_359 1 rfl ?_
  refine l_arg Y (c := 1) dL_law_360 dL_law_361 dL_law_362 dL_law_363 dL_law_364 3 rfl 0 rfl (by decide) (by decide) hk.1 hk.2 ?_
  refine l_arg Y (c := 2) dL_law_365 dL_law_366 dL_law_367 dL_law_368 dL_law_369 3 rfl 0 rfl (by decide) (by decide) hk.1 hk.2 ?_
  refine l_arg Y (c := 3) dL_law_370 dL_law_371 dL_law_372 dL_law_373 dL_law_374 3 rfl 0 rfl (by decide) (by decide) hk.1 hk.2 ?_
  refine l_callM Y ctX8_version dL_law_375 ivL_52 ⟨by decide, by decide, rfl, rfl⟩ (((sc xs k 1), (sc xs k 2), (sc xs k 3)) : Int × Int × Int) (As := [.inl (sc xs k 1), .inl (sc xs k 2), .inl (sc xs k 3)]) rfl rfl rfl om ⟨sc_in xs k _, sc_in xs k _, sc_in xs k _, trivial⟩ (st := [.int (Int32.ofInt r)]) rfl (Nat.le_of_ble_eq_true rfl) h1 (fun r' Mm' om' h2 => ?_)
  obtain ⟨e, hR'⟩ := h2
  subst e
  exact g_icmp_eq Y.1 dL_law_378 (tgt := 887) (by decide) (fun _ => kk _ _ hR' oc' om') (fun h => absurd rfl h)
theorem ivL_53 : IV RL 53 yX7_place cX7_place 4 (some .int) 3 := ⟨(tb_mem (t_in3 (List.mem_of_getElem? (i := 102) (by decide +kernel))) (by decide +kernel)), (tb_mem (t_in3 (List.mem_of_getElem? (i := 103) (by decide +kernel))) (by decide +kernel)), (tb_mem (t_in3 (List.mem_of_getElem? (i := 104) (by decide +kernel))) (by decide +kernel)), (tb_mem (t_in1 (List.mem_of_getElem? (i := 1) (by decide +kernel))) (by decide +kernel)), (tb_mem (t_in3 (List.mem_of_getElem? (i := 105) (by decide +kernel))) (by decide +kernel)), ⟨by decide +kernel, by decide +kernel, by decide +kernel⟩⟩
theorem ivL_56 : IV RL 56 yX8_place cX8_place 4 (some .int) 3 := ⟨(tb_mem (t_in5 (List.mem_of_getElem? (i := 55) (by decide +kernel))) (by decide +kernel)), (tb_mem (t_in5 (List.mem_of_getElem? (i := 56) (by decide +kernel))) (by decide +kernel)), (tb_mem (t_in5 (List.mem_of_getElem? (i := 57) (by decide +kernel))) (by decide +kernel)), (tb_mem (t_in1 (List.mem_of_getElem? (i := 16) (by decide +kernel))) (by decide +kernel)), (tb_mem (t_in5 (List.mem_of_getElem? (i := 58) (by decide +kernel))) (by decide +kernel)), ⟨by decide +kernel, by decide +kernel, by decide +kernel⟩⟩
set_option maxHeartbeats 4000000 in
set_option maxRecDepth 100000 in
theorem lc_place {κ : Kg} {n z b L : Nat} {adC adM : AD} {xs : Nat → Int32} {Mc Mm : Mem} {k : Int} (Y : LY κ n z adC adM b L xs) (hk : 0 ≤ k ∧ k + 4 ≤ L) (hR : Rel Mc Mm) (oc : okM Mc) (om : okM Mm) (kk : ∀ Mc' Mm', Rel Mc' Mm' → okM Mc' → okM Mm' → G κ 4 n z (LPw κ adC adM Mc' Mm') 887 (LV adC adM b k) []) : G κ 4 n z (LPw κ adC adM Mc Mm) 383 (LV adC adM b k) [] := by
  refine g_aload_n Y.1 dL_law_383 2 rfl ?_
  refine l_arg Y (c := 1) dL_law_384 dL_law_385 dL_law_386 dL_law_387 dL_law_388 3 rfl 0 rfl (by decide) (by decide) hk.1 hk.2 ?_
  refine l_arg Y (c := 2) dL_law_389 dL_law_390 dL_law_391 dL_law_392 dL_law_393 3 rfl 0 rfl (by decide) (by decide) hk.1 hk.2 ?_
  refine l_arg Y (c := 3) dL_law_394 dL_law_395 dL_law_396 dL_law_397 dL_law_398 3 rfl 0 rfl (by decide) (by decide) hk.1 hk.2 ?_
  refine l_callC Y ctX7_place dL_law_399 ivL_53 ⟨by decide, by decide, rfl, rfl⟩ (((sc xs k 1), (sc xs k 2), (sc xs k 3)) : Int × Int × Int) (As := [.inl (sc xs k 1), .inl (sc xs k 2), .inl (sc xs k 3)]) rfl rfl rfl oc ⟨sc_in xs k _, sc_in xs k _, sc_in xs k _, trivial⟩ (st := []) rfl (Nat.le_of_ble_eq_true rfl) (lw_place hR (sc xs k 1) (sc xs k 2) (sc xs k 3)) (fun r Mc' oc' h1 => ?_)
  refine g_aload_n Y.1 dL_law_402 1 rfl ?_
  refine l_arg Y (c := 1) dL_law_403 dL_law_404 dL_law_405 dL_law_406 dL_law_407 3 rfl 0 rfl (by decide) (by decide) hk.1 hk.2 ?_
  refine l_arg Y (c := 2) dL_law_408 dL_law_409 dL_law_410 dL_law_411 dL_law_412 3 rfl 0 rfl (by decide) (by decide) hk.1 hk.2 ?_
  refine l_arg Y (c := 3) dL_law_413 dL_law_414 dL_law_415 dL_law_416 dL_law_417 3 rfl 0 rfl (by decide) (by decide) hk.1 hk.2 ?_
  refine l_callM Y ctX8_place dL_law_418 ivL_56 ⟨by decide, by decide, rfl, rfl⟩ (((sc xs k 1), (sc xs k 2), (sc xs k 3)) : Int × Int × Int) (As := [.inl (sc xs k 1), .inl (sc xs k 2), .inl (sc xs k 3)]) rfl rfl rfl om ⟨sc_in xs k _, sc_in xs k _, sc_in xs k _, trivial⟩ (st := [.int (Int32.ofInt r)]) rfl (Nat.le_of_ble_eq_true rfl) h1 (fun r' Mm' om' h2 => ?_)
  obtain ⟨e, hR'⟩ := h2
  subst e
  exact g_icmp_eq Y.1 dL_law_421 (tgt := 887) (by decide) (fun _ => kk _ _ hR' oc' om') (fun h => absurd rfl h)
theorem ivL_57 : IV RL 57 yX7_off cX7_off 2 (some .int) 1 := ⟨(tb_mem (t_in3 (List.mem_of_getElem? (i := 125) (by decide +kernel))) (by decide +kernel)), (tb_mem (t_in3 (List.mem_of_getElem? (i := 126) (by decide +kernel))) (by decide +kernel)), (tb_mem (t_in3 (List.mem_of_getElem? (i := 127) (by decide +kernel))) (by decide +kernel)), (tb_mem (t_in1 (List.mem_of_getElem? (i := 1) (by decide +kernel))) (by decide +kernel)), (tb_mem (t_in3 (List.mem_of_getElem? (i := 128) (by decide +kernel))) (by decide +kernel)), ⟨by decide +kernel, by decide +kernel, by decide +kernel⟩⟩
theorem ivL_60 : IV RL 60 yX8_off cX8_off 6 (some .int) 1 := ⟨(tb_mem (t_in5 (List.mem_of_getElem? (i := 68) (by decide +kernel))) (by decide +kernel)), (tb_mem (t_in5 (List.mem_of_getElem? (i := 69) (by decide +kernel))) (by decide +kernel)), (tb_mem (t_in5 (List.mem_of_getElem? (i := 70) (by decide +kernel))) (by decide +kernel)), (tb_mem (t_in1 (List.mem_of_getElem? (i := 16) (by decide +kernel))) (by decide +kernel)), (tb_mem (t_in5 (List.mem_of_getElem? (i := 71) (by decide +kernel))) (by decide +kernel)), ⟨by decide +kernel, by decide +kernel, by decide +kernel⟩⟩
set_option maxHeartbeats 4000000 in
set_option maxRecDepth 100000 in
theorem lc_off {κ : Kg} {n z b L : Nat} {adC adM : AD} {xs : Nat → Int32} {Mc Mm : Mem} {k : Int} (Y : LY κ n z adC adM b L xs) (hk : 0 ≤ k ∧ k + 4 ≤ L) (hR : Rel Mc Mm) (oc : okM Mc) (om : okM Mm) (kk : ∀ Mc' Mm', Rel Mc' Mm' → okM Mc' → okM Mm' → G κ 4 n z (LPw κ adC adM Mc' Mm') 887 (LV adC adM b k) []) : G κ 4 n z (LPw κ adC adM Mc Mm) 426 (LV adC adM b k) [] := by
  refine g_aload_n Y.1 dL_law_426 2 rfl ?_
  refine l_arg Y (c := 1) dL_law_427 dL_law_428 dL_law_429 dL_law_430 dL_law_431 3 rfl 0 rfl (by decide) (by decide) hk.1 hk.2 ?_
  refine l_callC Y ctX7_off dL_law_432 ivL_57 ⟨by decide, by decide, rfl, rfl⟩ ((sc xs k 1) : Int) (As := [.inl (sc xs k 1)]) rfl rfl rfl oc ⟨sc_in xs k _, trivial⟩ (st := []) rfl (Nat.le_of_ble_eq_true rfl) (lw_off hR (sc xs k 1)) (fun r Mc' oc' h1 => ?_)
  refine g_aload_n Y.1 dL_law_435 1 rfl ?_
  refine l_arg Y (c := 1) dL_law_436 dL_law_437 dL_law_438 dL_law_439 dL_law_440 3 rfl 0 rfl (by decide) (by decide) hk.1 hk.2 ?_
  refine l_callM Y ctX8_off dL_law_441 ivL_60 ⟨by decide, by decide, rfl, rfl⟩ ((sc xs k 1) : Int) (As := [.inl (sc xs k 1)]) rfl rfl rfl om ⟨sc_in xs k _, trivial⟩ (st := [.int (Int32.ofInt r)]) rfl (Nat.le_of_ble_eq_true rfl) h1 (fun r' Mm' om' h2 => ?_)
  obtain ⟨e, hR'⟩ := h2
  subst e
  exact g_icmp_eq Y.1 dL_law_444 (tgt := 887) (by decide) (fun _ => kk _ _ hR' oc' om') (fun h => absurd rfl h)
theorem ivL_61 : IV RL 61 yX7_why cX7_why 4 (some .int) 3 := ⟨(tb_mem (t_in3 (List.mem_of_getElem? (i := 134) (by decide +kernel))) (by decide +kernel)), (tb_mem (t_in3 (List.mem_of_getElem? (i := 135) (by decide +kernel))) (by decide +kernel)), (tb_mem (t_in3 (List.mem_of_getElem? (i := 136) (by decide +kernel))) (by decide +kernel)), (tb_mem (t_in1 (List.mem_of_getElem? (i := 1) (by decide +kernel))) (by decide +kernel)), (tb_mem (t_in3 (List.mem_of_getElem? (i := 137) (by decide +kernel))) (by decide +kernel)), ⟨by decide +kernel, by decide +kernel, by decide +kernel⟩⟩
theorem ivL_64 : IV RL 64 yX8_why cX8_why 4 (some .int) 3 := ⟨(tb_mem (t_in5 (List.mem_of_getElem? (i := 72) (by decide +kernel))) (by decide +kernel)), (tb_mem (t_in5 (List.mem_of_getElem? (i := 73) (by decide +kernel))) (by decide +kernel)), (tb_mem (t_in5 (List.mem_of_getElem? (i := 74) (by decide +kernel))) (by decide +kernel)), (tb_mem (t_in1 (List.mem_of_getElem? (i := 16) (by decide +kernel))) (by decide +kernel)), (tb_mem (t_in5 (List.mem_of_getElem? (i := 75) (by decide +kernel))) (by decide +kernel)), ⟨by decide +kernel, by decide +kernel, by decide +kernel⟩⟩
set_option maxHeartbeats 4000000 in
set_option maxRecDepth 100000 in
theorem lc_why {κ : Kg} {n z b L : Nat} {adC adM : AD} {xs : Nat → Int32} {Mc Mm : Mem} {k : Int} (Y : LY κ n z adC adM b L xs) (hk : 0 ≤ k ∧ k + 4 ≤ L) (hR : Rel Mc Mm) (oc : okM Mc) (om : okM Mm) (kk : ∀ Mc' Mm', Rel Mc' Mm' → okM Mc' → okM Mm' → G κ 4 n z (LPw κ adC adM Mc' Mm') 887 (LV adC adM b k) []) : G κ 4 n z (LPw κ adC adM Mc Mm) 449 (LV adC adM b k) [] := by
  refine g_aload_n Y.1 dL_law_449 2 rfl ?_
  refine l_arg Y (c := 1) dL_law_450 dL_law_451 dL_law_452 dL_law_453 dL_law_454 3 rfl 0 rfl (by decide) (by decide) hk.1 hk.2 ?_
  refine l_arg Y (c := 2) dL_law_455 dL_law_456 dL_law_457 dL_law_458 dL_law_459 3 rfl 0 rfl (by decide) (by decide) hk.1 hk.2 ?_
  refine l_arg Y (c := 3) dL_law_460 dL_law_461 dL_law_462 dL_law_463 dL_law_464 3 rfl 0 rfl (by decide) (by decide) hk.1 hk.2 ?_
  refine l_callC Y ctX7_why dL_law_465 ivL_61 ⟨by decide, by decide, rfl, rfl⟩ (((sc xs k 1), (sc xs k 2), (sc xs k 3)) : Int × Int × Int) (As := [.inl (sc xs k 1), .inl (sc xs k 2), .inl (sc xs k 3)]) rfl rfl rfl oc ⟨sc_in xs k _, sc_in xs k _, sc_in xs k _, trivial⟩ (st := []) rfl (Nat.le_of_ble_eq_true rfl) (lw_why hR (sc xs k 1) (sc xs k 2) (sc xs k 3)) (fun r Mc' oc' h1 => ?_)
  refine g_aload_n Y.1 dL_law_468 1 rfl ?_
  refine l_arg Y (c := 1) dL_law_469 dL_law_470 dL_law_471 dL_law_472 dL_law_473 3 rfl 0 rfl (by decide) (by decide) hk.1 hk.2 ?_
  refine l_arg Y (c := 2) dL_law_474 dL_law_475 dL_law_476 dL_law_477 dL_law_478 3 rfl 0 rfl (by decide) (by decide) hk.1 hk.2 ?_
  refine l_arg Y (c := 3) dL_law_479 dL_law_480 dL_law_481 dL_law_482 dL_law_483 3 rfl 0 rfl (by decide) (by decide) hk.1 hk.2 ?_
  refine l_callM Y ctX8_why dL_law_484 ivL_64 ⟨by decide, by decide, rfl, rfl⟩ (((sc xs k 1), (sc xs k 2), (sc xs k 3)) : Int × Int × Int) (As := [.inl (sc xs k 1), .inl (sc xs k 2), .inl (sc xs k 3)]) rfl rfl rfl om ⟨sc_in xs k _, sc_in xs k _, sc_in xs k _, trivial⟩ (st := [.int (Int32.ofInt r)]) rfl (Nat.le_of_ble_eq_true rfl) h1 (fun r' Mm' om' h2 => ?_)
  obtain ⟨e, hR'⟩ := h2
  subst e
  exact g_icmp_eq Y.1 dL_law_487 (tgt := 887) (by decide) (fun _ => kk _ _ hR' oc' om') (fun h => absurd rfl h)
theorem ivL_65 : IV RL 65 yX7_gain cX7_gain 4 (some .int) 3 := ⟨(tb_mem (t_in3 (List.mem_of_getElem? (i := 138) (by decide +kernel))) (by decide +kernel)), (tb_mem (t_in3 (List.mem_of_getElem? (i := 139) (by decide +kernel))) (by decide +kernel)), (tb_mem (t_in3 (List.mem_of_getElem? (i := 140) (by decide +kernel))) (by decide +kernel)), (tb_mem (t_in1 (List.mem_of_getElem? (i := 1) (by decide +kernel))) (by decide +kernel)), (tb_mem (t_in3 (List.mem_of_getElem? (i := 141) (by decide +kernel))) (by decide +kernel)), ⟨by decide +kernel, by decide +kernel, by decide +kernel⟩⟩
theorem ivL_68 : IV RL 68 yX8_gain cX8_gain 4 (some .int) 3 := ⟨(tb_mem (t_in5 (List.mem_of_getElem? (i := 76) (by decide +kernel))) (by decide +kernel)), (tb_mem (t_in5 (List.mem_of_getElem? (i := 77) (by decide +kernel))) (by decide +kernel)), (tb_mem (t_in5 (List.mem_of_getElem? (i := 78) (by decide +kernel))) (by decide +kernel)), (tb_mem (t_in1 (List.mem_of_getElem? (i := 16) (by decide +kernel))) (by decide +kernel)), (tb_mem (t_in5 (List.mem_of_getElem? (i := 79) (by decide +kernel))) (by decide +kernel)), ⟨by decide +kernel, by decide +kernel, by decide +kernel⟩⟩
set_option maxHeartbeats 4000000 in
set_option maxRecDepth 100000 in
theorem lc_gain {κ : Kg} {n z b L : Nat} {adC adM : AD} {xs : Nat → Int32} {Mc Mm : Mem} {k : Int} (Y : LY κ n z adC adM b L xs) (hk : 0 ≤ k ∧ k + 4 ≤ L) (hR : Rel Mc Mm) (oc : okM Mc) (om : okM Mm) (kk : ∀ Mc' Mm', Rel Mc' Mm' → okM Mc' → okM Mm' → G κ 4 n z (LPw κ adC adM Mc' Mm') 887 (LV adC adM b k) []) : G κ 4 n z (LPw κ adC adM Mc Mm) 492 (LV adC adM b k) [] := by
  refine g_aload_n Y.1 dL_law_492 2 rfl ?_
  refine l_arg Y (c := 1) dL_law_493 dL_law_494 dL_law_495 dL_law_496 dL_law_497 3 rfl 0 rfl (by decide) (by decide) hk.1 hk.2 ?_
  refine l_arg Y (c := 2) dL_law_498 dL_law_499 dL_law_500 dL_law_501 dL_law_502 3 rfl 0 rfl (by decide) (by decide) hk.1 hk.2 ?_
  refine l_arg Y (c := 3) dL_law_503 dL_law_504 dL_law_505 dL_law_506 dL_law_507 3 rfl 0 rfl (by decide) (by decide) hk.1 hk.2 ?_
  refine l_callC Y ctX7_gain dL_law_508 ivL_65 ⟨by decide, by decide, rfl, rfl⟩ (((sc xs k 1), (sc xs k 2), (sc xs k 3)) : Int × Int × Int) (As := [.inl (sc xs k 1), .inl (sc xs k 2), .inl (sc xs k 3)]) rfl rfl rfl oc ⟨sc_in xs k _, sc_in xs k _, sc_in xs k _, trivial⟩ (st := []) rfl (Nat.le_of_ble_eq_true rfl) (lw_gain hR (sc xs k 1) (sc xs k 2) (sc xs k 3)) (fun r Mc' oc' h1 => ?_)
  refine g_aload_n Y.1 dL_law_511 1 rfl ?_
  refine l_arg Y (c := 1) dL_law_512 dL_law_513 dL_law_514 dL_law_515 dL_law_516 3 rfl 0 rfl (by decide) (by decide) hk.1 hk.2 ?_
  refine l_arg Y (c := 2) dL_law_517 dL_law_518 dL_law_519 dL_law_520 dL_law_521 3 rfl 0 rfl (by decide) (by decide) hk.1 hk.2 ?_
  refine l_arg Y (c := 3) dL_law_522 dL_law_523 dL_law_524 dL_law_525 dL_law_526 3 rfl 0 rfl (by decide) (by decide) hk.1 hk.2 ?_
  refine l_callM Y ctX8_gain dL_law_527 ivL_68 ⟨by decide, by decide, rfl, rfl⟩ (((sc xs k 1), (sc xs k 2), (sc xs k 3)) : Int × Int × Int) (As := [.inl (sc xs k 1), .inl (sc xs k 2), .inl (sc xs k 3)]) rfl rfl rfl om ⟨sc_in xs k _, sc_in xs k _, sc_in xs k _, trivial⟩ (st := [.int (Int32.ofInt r)]) rfl (Nat.le_of_ble_eq_true rfl) h1 (fun r' Mm' om' h2 => ?_)
  obtain ⟨e, hR'⟩ := h2
  subst e
  exact g_icmp_eq Y.1 dL_law_530 (tgt := 887) (by decide) (fun _ => kk _ _ hR' oc' om') (fun h => absurd rfl h)
theorem ivL_69 : IV RL 69 yX7_value cX7_value 1 (some .int) 0 := ⟨(tb_mem (t_in3 (List.mem_of_getElem? (i := 143) (by decide +kernel))) (by decide +kernel)), (tb_mem (t_in3 (List.mem_of_getElem? (i := 144) (by decide +kernel))) (by decide +kernel)), (tb_mem (t_in3 (List.mem_of_getElem? (i := 145) (by decide +kernel))) (by decide +kernel)), (tb_mem (t_in1 (List.mem_of_getElem? (i := 1) (by decide +kernel))) (by decide +kernel)), (tb_mem (t_in3 (List.mem_of_getElem? (i := 146) (by decide +kernel))) (by decide +kernel)), ⟨by decide +kernel, by decide +kernel, by decide +kernel⟩⟩
theorem ivL_72 : IV RL 72 yX8_value cX8_value 1 (some .int) 0 := ⟨(tb_mem (t_in5 (List.mem_of_getElem? (i := 80) (by decide +kernel))) (by decide +kernel)), (tb_mem (t_in5 (List.mem_of_getElem? (i := 81) (by decide +kernel))) (by decide +kernel)), (tb_mem (t_in5 (List.mem_of_getElem? (i := 82) (by decide +kernel))) (by decide +kernel)), (tb_mem (t_in1 (List.mem_of_getElem? (i := 16) (by decide +kernel))) (by decide +kernel)), (tb_mem (t_in5 (List.mem_of_getElem? (i := 83) (by decide +kernel))) (by decide +kernel)), ⟨by decide +kernel, by decide +kernel, by decide +kernel⟩⟩
set_option maxHeartbeats 4000000 in
set_option maxRecDepth 100000 in
theorem lc_value {κ : Kg} {n z b L : Nat} {adC adM : AD} {xs : Nat → Int32} {Mc Mm : Mem} {k : Int} (Y : LY κ n z adC adM b L xs) (hk : 0 ≤ k ∧ k + 4 ≤ L) (hR : Rel Mc Mm) (oc : okM Mc) (om : okM Mm) (kk : ∀ Mc' Mm', Rel Mc' Mm' → okM Mc' → okM Mm' → G κ 4 n z (LPw κ adC adM Mc' Mm') 887 (LV adC adM b k) []) : G κ 4 n z (LPw κ adC adM Mc Mm) 535 (LV adC adM b k) [] := by
  refine g_aload_n Y.1 dL_law_535 2 rfl ?_
  refine l_callC Y ctX7_value dL_law_536 ivL_69 ⟨by decide, by decide, rfl, rfl⟩ (() : Unit) (As := []) rfl rfl rfl oc trivial (st := []) rfl (Nat.le_of_ble_eq_true rfl) (lw_value hR) (fun r Mc' oc' h1 => ?_)
  refine g_aload_n Y.1 dL_law_539 1 rfl ?_
  refine l_callM Y ctX8_value dL_law_540 ivL_72 ⟨by decide, by decide, rfl, rfl⟩ (() : Unit) (As := []) rfl rfl rfl om trivial (st := [.int (Int32.ofInt r)]) rfl (Nat.le_of_ble_eq_true rfl) h1 (fun r' Mm' om' h2 => ?_)
  obtain ⟨e, hR'⟩ := h2
  subst e
  exact g_icmp_eq Y.1 dL_law_543 (tgt := 887) (by decide) (fun _ => kk _ _ hR' oc' om') (fun h => absurd rfl h)
theorem ivL_73 : IV RL 73 yX7_adopt cX7_adopt 1 (some .int) 0 := ⟨(tb_mem (t_in3 (List.mem_of_getElem? (i := 152) (by decide +kernel))) (by decide +kernel)), (tb_mem (t_in3 (List.mem_of_getElem? (i := 153) (by decide +kernel))) (by decide +kernel)), (tb_mem (t_in3 (List.mem_of_getElem? (i := 154) (by decide +kernel))) (by decide +kernel)), (tb_mem (t_in1 (List.mem_of_getElem? (i := 1) (by decide +kernel))) (by decide +kernel)), (tb_mem (t_in3 (List.mem_of_getElem? (i := 155) (by decide +kernel))) (by decide +kernel)), ⟨by decide +kernel, by decide +kernel, by decide +kernel⟩⟩
theorem ivL_76 : IV RL 76 yX8_adopt cX8_adopt 3 (some .int) 0 := ⟨(tb_mem (t_in5 (List.mem_of_getElem? (i := 88) (by decide +kernel))) (by decide +kernel)), (tb_mem (t_in5 (List.mem_of_getElem? (i := 89) (by decide +kernel))) (by decide +kernel)), (tb_mem (t_in5 (List.mem_of_getElem? (i := 90) (by decide +kernel))) (by decide +kernel)), (tb_mem (t_in1 (List.mem_of_getElem? (i := 16) (by decide +kernel))) (by decide +kernel)), (tb_mem (t_in5 (List.mem_of_getElem? (i := 91) (by decide +kernel))) (by decide +kernel)), ⟨by decide +kernel, by decide +kernel, by decide +kernel⟩⟩
set_option maxHeartbeats 4000000 in
set_option maxRecDepth 100000 in
theorem lc_adopt {κ : Kg} {n z b L : Nat} {adC adM : AD} {xs : Nat → Int32} {Mc Mm : Mem} {k : Int} (Y : LY κ n z adC adM b L xs) (hk : 0 ≤ k ∧ k + 4 ≤ L) (hR : Rel Mc Mm) (oc : okM Mc) (om : okM Mm) (kk : ∀ Mc' Mm', Rel Mc' Mm' → okM Mc' → okM Mm' → G κ 4 n z (LPw κ adC adM Mc' Mm') 887 (LV adC adM b k) []) : G κ 4 n z (LPw κ adC adM Mc Mm) 548 (LV adC adM b k) [] := by
  refine g_aload_n Y.1 dL_law_548 2 rfl ?_
  refine l_callC Y ctX7_adopt dL_law_549 ivL_73 ⟨by decide, by decide, rfl, rfl⟩ (() : Unit) (As := []) rfl rfl rfl oc trivial (st := []) rfl (Nat.le_of_ble_eq_true rfl) (lw_adopt hR) (fun r Mc' oc' h1 => ?_)
  refine g_aload_n Y.1 dL_law_552 1 rfl ?_
  refine l_callM Y ctX8_adopt dL_law_553 ivL_76 ⟨by decide, by decide, rfl, rfl⟩ (() : Unit) (As := []) rfl rfl rfl om trivial (st := [.int (Int32.ofInt r)]) rfl (Nat.le_of_ble_eq_true rfl) h1 (fun r' Mm' om' h2 => ?_)
  obtain ⟨e, hR'⟩ := h2
  subst e
  exact g_icmp_eq Y.1 dL_law_556 (tgt := 887) (by decide) (fun _ => kk _ _ hR' oc' om') (fun h => absurd rfl h)
theorem ivL_77 : IV RL 77 yX7_picture cX7_picture 4 (some .int) 2 := ⟨(tb_mem (t_in3 (List.mem_of_getElem? (i := 220) (by decide +kernel))) (by decide +kernel)), (tb_mem (t_in3 (List.mem_of_getElem? (i := 221) (by decide +kernel))) (by decide +kernel)), (tb_mem (t_in3 (List.mem_of_getElem? (i := 222) (by decide +kernel))) (by decide +kernel)), (tb_mem (t_in1 (List.mem_of_getElem? (i := 1) (by decide +kernel))) (by decide +kernel)), (tb_mem (t_in3 (List.mem_of_getElem? (i := 223) (by decide +kernel))) (by decide +kernel)), ⟨by decide +kernel, by decide +kernel, by decide +kernel⟩⟩
theorem ivL_80 : IV RL 80 yX8_picture cX8_picture 3 (some .int) 2 := ⟨(tb_mem (t_in5 (List.mem_of_getElem? (i := 109) (by decide +kernel))) (by decide +kernel)), (tb_mem (t_in5 (List.mem_of_getElem? (i := 110) (by decide +kernel))) (by decide +kernel)), (tb_mem (t_in5 (List.mem_of_getElem? (i := 111) (by decide +kernel))) (by decide +kernel)), (tb_mem (t_in1 (List.mem_of_getElem? (i := 16) (by decide +kernel))) (by decide +kernel)), (tb_mem (t_in5 (List.mem_of_getElem? (i := 112) (by decide +kernel))) (by decide +kernel)), ⟨by decide +kernel, by decide +kernel, by decide +kernel⟩⟩
set_option maxHeartbeats 4000000 in
set_option maxRecDepth 100000 in
theorem lc_picture {κ : Kg} {n z b L : Nat} {adC adM : AD} {xs : Nat → Int32} {Mc Mm : Mem} {k : Int} (Y : LY κ n z adC adM b L xs) (hk : 0 ≤ k ∧ k + 4 ≤ L) (hR : Rel Mc Mm) (oc : okM Mc) (om : okM Mm) (kk : ∀ Mc' Mm', Rel Mc' Mm' → okM Mc' → okM Mm' → G κ 4 n z (LPw κ adC adM Mc' Mm') 887 (LV adC adM b k) []) : G κ 4 n z (LPw κ adC adM Mc Mm) 561 (LV adC adM b k) [] := by
  refine g_aload_n Y.1 dL_law_561 2 rfl ?_
  refine l_arg Y (c := 1) dL_law_562 dL_law_563 dL_law_564 dL_law_565 dL_law_566 3 rfl 0 rfl (by decide) (by decide) hk.1 hk.2 ?_
  refine l_arg Y (c := 2) dL_law_567 dL_law_568 dL_law_569 dL_law_570 dL_law_571 3 rfl 0 rfl (by decide) (by decide) hk.1 hk.2 ?_
  refine l_callC Y ctX7_picture dL_law_572 ivL_77 ⟨by decide, by decide, rfl, rfl⟩ (((sc xs k 1), (sc xs k 2)) : Int × Int) (As := [.inl (sc xs k 1), .inl (sc xs k 2)]) rfl rfl rfl oc ⟨sc_in xs k _, sc_in xs k _, trivial⟩ (st := []) rfl (Nat.le_of_ble_eq_true rfl) (lw_picture hR (sc xs k 1) (sc xs k 2)) (fun r Mc' oc' h1 => ?_)
  refine g_aload_n Y.1 dL_law_575 1 rfl ?_
  refine l_arg Y (c := 1) dL_law_576 dL_law_577 dL_law_578 dL_law_579 dL_law_580 3 rfl 0 rfl (by decide) (by decide) hk.1 hk.2 ?_
  refine l_arg Y (c := 2) dL_law_581 dL_law_582 dL_law_583 dL_law_584 dL_law_585 3 rfl 0 rfl (by decide) (by decide) hk.1 hk.2 ?_
  refine l_callM Y ctX8_picture dL_law_586 ivL_80 ⟨by decide, by decide, rfl, rfl⟩ (((sc xs k 1), (sc xs k 2)) : Int × Int) (As := [.inl (sc xs k 1), .inl (sc xs k 2)]) rfl rfl rfl om ⟨sc_in xs k _, sc_in xs k _, trivial⟩ (st := [.int (Int32.ofInt r)]) rfl (Nat.le_of_ble_eq_true rfl) h1 (fun r' Mm' om' h2 => ?_)
  obtain ⟨e, hR'⟩ := h2
  subst e
  exact g_icmp_eq Y.1 dL_law_589 (tgt := 887) (by decide) (fun _ => kk _ _ hR' oc' om') (fun h => absurd rfl h)
theorem ivL_81 : IV RL 81 yX7_told cX7_told 4 (some .int) 3 := ⟨(tb_mem (t_in3 (List.mem_of_getElem? (i := 224) (by decide +kernel))) (by decide +kernel)), (tb_mem (t_in3 (List.mem_of_getElem? (i := 225) (by decide +kernel))) (by decide +kernel)), (tb_mem (t_in3 (List.mem_of_getElem? (i := 226) (by decide +kernel))) (by decide +kernel)), (tb_mem (t_in1 (List.mem_of_getElem? (i := 1) (by decide +kernel))) (by decide +kernel)), (tb_mem (t_in3 (List.mem_of_getElem? (i := 227) (by decide +kernel))) (by decide +kernel)), ⟨by decide +kernel, by decide +kernel, by decide +kernel⟩⟩
theorem ivL_84 : IV RL 84 yX8_told cX8_told 9 (some .int) 3 := ⟨(tb_mem (t_in5 (List.mem_of_getElem? (i := 113) (by decide +kernel))) (by decide +kernel)), (tb_mem (t_in5 (List.mem_of_getElem? (i := 114) (by decide +kernel))) (by decide +kernel)), (tb_mem (t_in5 (List.mem_of_getElem? (i := 115) (by decide +kernel))) (by decide +kernel)), (tb_mem (t_in1 (List.mem_of_getElem? (i := 16) (by decide +kernel))) (by decide +kernel)), (tb_mem (t_in5 (List.mem_of_getElem? (i := 116) (by decide +kernel))) (by decide +kernel)), ⟨by decide +kernel, by decide +kernel, by decide +kernel⟩⟩
set_option maxHeartbeats 4000000 in
set_option maxRecDepth 100000 in
theorem lc_told {κ : Kg} {n z b L : Nat} {adC adM : AD} {xs : Nat → Int32} {Mc Mm : Mem} {k : Int} (Y : LY κ n z adC adM b L xs) (hk : 0 ≤ k ∧ k + 4 ≤ L) (hR : Rel Mc Mm) (oc : okM Mc) (om : okM Mm) (kk : ∀ Mc' Mm', Rel Mc' Mm' → okM Mc' → okM Mm' → G κ 4 n z (LPw κ adC adM Mc' Mm') 887 (LV adC adM b k) []) : G κ 4 n z (LPw κ adC adM Mc Mm) 594 (LV adC adM b k) [] := by
  refine g_aload_n Y.1 dL_law_594 2 rfl ?_
  refine l_arg Y (c := 1) dL_law_595 dL_law_596 dL_law_597 dL_law_598 dL_law_599 3 rfl 0 rfl (by decide) (by decide) hk.1 hk.2 ?_
  refine l_arg Y (c := 2) dL_law_600 dL_law_601 dL_law_602 dL_law_603 dL_law_604 3 rfl 0 rfl (by decide) (by decide) hk.1 hk.2 ?_
  refine l_arg Y (c := 3) dL_law_605 dL_law_606 dL_law_607 dL_law_608 dL_law_609 3 rfl 0 rfl (by decide) (by decide) hk.1 hk.2 ?_
  refine l_callC Y ctX7_told dL_law_610 ivL_81 ⟨by decide, by decide, rfl, rfl⟩ (((sc xs k 1), (sc xs k 2), (sc xs k 3)) : Int × Int × Int) (As := [.inl (sc xs k 1), .inl (sc xs k 2), .inl (sc xs k 3)]) rfl rfl rfl oc ⟨sc_in xs k _, sc_in xs k _, sc_in xs k _, trivial⟩ (st := []) rfl (Nat.le_of_ble_eq_true rfl) (lw_told hR (sc xs k 1) (sc xs k 2) (sc xs k 3)) (fun r Mc' oc' h1 => ?_)
  refine g_aload_n Y.1 dL_law_613 1 rfl ?_
  refine l_arg Y (c := 1) dL_law_614 dL_law_615 dL_law_616 dL_law_617 dL_law_618 3 rfl 0 rfl (by decide) (by decide) hk.1 hk.2 ?_
  refine l_arg Y (c := 2) dL_law_619 dL_law_620 dL_law_621 dL_law_622 dL_law_623 3 rfl 0 rfl (by decide) (by decide) hk.1 hk.2 ?_
  refine l_arg Y (c := 3) dL_law_624 dL_law_625 dL_law_626 dL_law_627 dL_law_628 3 rfl 0 rfl (by decide) (by decide) hk.1 hk.2 ?_
  refine l_callM Y ctX8_told dL_law_629 ivL_84 ⟨by decide, by decide, rfl, rfl⟩ (((sc xs k 1), (sc xs k 2), (sc xs k 3)) : Int × Int × Int) (As := [.inl (sc xs k 1), .inl (sc xs k 2), .inl (sc xs k 3)]) rfl rfl rfl om ⟨sc_in xs k _, sc_in xs k _, sc_in xs k _, trivial⟩ (st := [.int (Int32.ofInt r)]) rfl (Nat.le_of_ble_eq_true rfl) h1 (fun r' Mm' om' h2 => ?_)
  obtain ⟨e, hR'⟩ := h2
  subst e
  exact g_icmp_eq Y.1 dL_law_632 (tgt := 887) (by decide) (fun _ => kk _ _ hR' oc' om') (fun h => absurd rfl h)
theorem ivL_85 : IV RL 85 yX7_tick cX7_tick 2 (some .int) 1 := ⟨(tb_mem (t_in4 (List.mem_of_getElem? (i := 4) (by decide +kernel))) (by decide +kernel)), (tb_mem (t_in4 (List.mem_of_getElem? (i := 5) (by decide +kernel))) (by decide +kernel)), (tb_mem (t_in4 (List.mem_of_getElem? (i := 6) (by decide +kernel))) (by decide +kernel)), (tb_mem (t_in1 (List.mem_of_getElem? (i := 1) (by decide +kernel))) (by decide +kernel)), (tb_mem (t_in4 (List.mem_of_getElem? (i := 7) (by decide +kernel))) (by decide +kernel)), ⟨by decide +kernel, by decide +kernel, by decide +kernel⟩⟩
theorem ivL_88 : IV RL 88 yX8_tick cX8_tick 2 (some .int) 1 := ⟨(tb_mem (t_in5 (List.mem_of_getElem? (i := 117) (by decide +kernel))) (by decide +kernel)), (tb_mem (t_in5 (List.mem_of_getElem? (i := 118) (by decide +kernel))) (by decide +kernel)), (tb_mem (t_in5 (List.mem_of_getElem? (i := 119) (by decide +kernel))) (by decide +kernel)), (tb_mem (t_in1 (List.mem_of_getElem? (i := 16) (by decide +kernel))) (by decide +kernel)), (tb_mem (t_in5 (List.mem_of_getElem? (i := 120) (by decide +kernel))) (by decide +kernel)), ⟨by decide +kernel, by decide +kernel, by decide +kernel⟩⟩
set_option maxHeartbeats 4000000 in
set_option maxRecDepth 100000 in
theorem lc_tick {κ : Kg} {n z b L : Nat} {adC adM : AD} {xs : Nat → Int32} {Mc Mm : Mem} {k : Int} (Y : LY κ n z adC adM b L xs) (hk : 0 ≤ k ∧ k + 4 ≤ L) (hR : Rel Mc Mm) (oc : okM Mc) (om : okM Mm) (kk : ∀ Mc' Mm', Rel Mc' Mm' → okM Mc' → okM Mm' → G κ 4 n z (LPw κ adC adM Mc' Mm') 887 (LV adC adM b k) []) : G κ 4 n z (LPw κ adC adM Mc Mm) 637 (LV adC adM b k) [] := by
  refine g_aload_n Y.1 dL_law_637 2 rfl ?_
  refine l_arg Y (c := 1) dL_law_638 dL_law_639 dL_law_640 dL_law_641 dL_law_642 3 rfl 0 rfl (by decide) (by decide) hk.1 hk.2 ?_
  refine l_callC Y ctX7_tick dL_law_643 ivL_85 ⟨by decide, by decide, rfl, rfl⟩ ((sc xs k 1) : Int) (As := [.inl (sc xs k 1)]) rfl rfl rfl oc ⟨sc_in xs k _, trivial⟩ (st := []) rfl (Nat.le_of_ble_eq_true rfl) (lw_tick hR (sc xs k 1)) (fun r Mc' oc' h1 => ?_)
  refine g_aload_n Y.1 dL_law_646 1 rfl ?_
  refine l_arg Y (c := 1) dL_law_647 dL_law_648 dL_law_649 dL_law_650 dL_law_651 3 rfl 0 rfl (by decide) (by decide) hk.1 hk.2 ?_
  refine l_callM Y ctX8_tick dL_law_652 ivL_88 ⟨by decide, by decide, rfl, rfl⟩ ((sc xs k 1) : Int) (As := [.inl (sc xs k 1)]) rfl rfl rfl om ⟨sc_in xs k _, trivial⟩ (st := [.int (Int32.ofInt r)]) rfl (Nat.le_of_ble_eq_true rfl) h1 (fun r' Mm' om' h2 => ?_)
  obtain ⟨e, hR'⟩ := h2
  subst e
  exact g_icmp_eq Y.1 dL_law_655 (tgt := 887) (by decide) (fun _ => kk _ _ hR' oc' om') (fun h => absurd rfl h)
theorem ivL_89 : IV RL 89 yX7_silence cX7_silence 5 (some .int) 2 := ⟨(tb_mem (t_in4 (List.mem_of_getElem? (i := 18) (by decide +kernel))) (by decide +kernel)), (tb_mem (t_in4 (List.mem_of_getElem? (i := 19) (by decide +kernel))) (by decide +kernel)), (tb_mem (t_in4 (List.mem_of_getElem? (i := 20) (by decide +kernel))) (by decide +kernel)), (tb_mem (t_in1 (List.mem_of_getElem? (i := 1) (by decide +kernel))) (by decide +kernel)), (tb_mem (t_in4 (List.mem_of_getElem? (i := 21) (by decide +kernel))) (by decide +kernel)), ⟨by decide +kernel, by decide +kernel, by decide +kernel⟩⟩
theorem ivL_92 : IV RL 92 yX8_silence cX8_silence 7 (some .int) 2 := ⟨(tb_mem (t_in5 (List.mem_of_getElem? (i := 125) (by decide +kernel))) (by decide +kernel)), (tb_mem (t_in5 (List.mem_of_getElem? (i := 126) (by decide +kernel))) (by decide +kernel)), (tb_mem (t_in5 (List.mem_of_getElem? (i := 127) (by decide +kernel))) (by decide +kernel)), (tb_mem (t_in1 (List.mem_of_getElem? (i := 16) (by decide +kernel))) (by decide +kernel)), (tb_mem (t_in5 (List.mem_of_getElem? (i := 128) (by decide +kernel))) (by decide +kernel)), ⟨by decide +kernel, by decide +kernel, by decide +kernel⟩⟩
set_option maxHeartbeats 4000000 in
set_option maxRecDepth 100000 in
theorem lc_silence {κ : Kg} {n z b L : Nat} {adC adM : AD} {xs : Nat → Int32} {Mc Mm : Mem} {k : Int} (Y : LY κ n z adC adM b L xs) (hk : 0 ≤ k ∧ k + 4 ≤ L) (hR : Rel Mc Mm) (oc : okM Mc) (om : okM Mm) (kk : ∀ Mc' Mm', Rel Mc' Mm' → okM Mc' → okM Mm' → G κ 4 n z (LPw κ adC adM Mc' Mm') 887 (LV adC adM b k) []) : G κ 4 n z (LPw κ adC adM Mc Mm) 660 (LV adC adM b k) [] := by
  refine g_aload_n Y.1 dL_law_660 2 rfl ?_
  refine l_arg Y (c := 1) dL_law_661 dL_law_662 dL_law_663 dL_law_664 dL_law_665 3 rfl 0 rfl (by decide) (by decide) hk.1 hk.2 ?_
  refine l_arg Y (c := 2) dL_law_666 dL_law_667 dL_law_668 dL_law_669 dL_law_670 3 rfl 0 rfl (by decide) (by decide) hk.1 hk.2 ?_
  refine l_callC Y ctX7_silence dL_law_671 ivL_89 ⟨by decide, by decide, rfl, rfl⟩ (((sc xs k 1), (sc xs k 2)) : Int × Int) (As := [.inl (sc xs k 1), .inl (sc xs k 2)]) rfl rfl rfl oc ⟨sc_in xs k _, sc_in xs k _, trivial⟩ (st := []) rfl (Nat.le_of_ble_eq_true rfl) (lw_silence hR (sc xs k 1) (sc xs k 2)) (fun r Mc' oc' h1 => ?_)
  refine g_aload_n Y.1 dL_law_674 1 rfl ?_
  refine l_arg Y (c := 1) dL_law_675 dL_law_676 dL_law_677 dL_law_678 dL_law_679 3 rfl 0 rfl (by decide) (by decide) hk.1 hk.2 ?_
  refine l_arg Y (c := 2) dL_law_680 dL_law_681 dL_law_682 dL_law_683 dL_law_684 3 rfl 0 rfl (by decide) (by decide) hk.1 hk.2 ?_
  refine l_callM Y ctX8_silence dL_law_685 ivL_92 ⟨by decide, by decide, rfl, rfl⟩ (((sc xs k 1), (sc xs k 2)) : Int × Int) (As := [.inl (sc xs k 1), .inl (sc xs k 2)]) rfl rfl rfl om ⟨sc_in xs k _, sc_in xs k _, trivial⟩ (st := [.int (Int32.ofInt r)]) rfl (Nat.le_of_ble_eq_true rfl) h1 (fun r' Mm' om' h2 => ?_)
  obtain ⟨e, hR'⟩ := h2
  subst e
  exact g_icmp_eq Y.1 dL_law_688 (tgt := 887) (by decide) (fun _ => kk _ _ hR' oc' om') (fun h => absurd rfl h)
theorem ivL_93 : IV RL 93 yX7_best cX7_best 1 (some .int) 0 := ⟨(tb_mem (t_in4 (List.mem_of_getElem? (i := 39) (by decide +kernel))) (by decide +kernel)), (tb_mem (t_in4 (List.mem_of_getElem? (i := 40) (by decide +kernel))) (by decide +kernel)), (tb_mem (t_in4 (List.mem_of_getElem? (i := 41) (by decide +kernel))) (by decide +kernel)), (tb_mem (t_in1 (List.mem_of_getElem? (i := 1) (by decide +kernel))) (by decide +kernel)), (tb_mem (t_in4 (List.mem_of_getElem? (i := 42) (by decide +kernel))) (by decide +kernel)), ⟨by decide +kernel, by decide +kernel, by decide +kernel⟩⟩
theorem ivL_96 : IV RL 96 yX8_best cX8_best 1 (some .int) 0 := ⟨(tb_mem (t_in5 (List.mem_of_getElem? (i := 129) (by decide +kernel))) (by decide +kernel)), (tb_mem (t_in5 (List.mem_of_getElem? (i := 130) (by decide +kernel))) (by decide +kernel)), (tb_mem (t_in5 (List.mem_of_getElem? (i := 131) (by decide +kernel))) (by decide +kernel)), (tb_mem (t_in1 (List.mem_of_getElem? (i := 16) (by decide +kernel))) (by decide +kernel)), (tb_mem (t_in5 (List.mem_of_getElem? (i := 132) (by decide +kernel))) (by decide +kernel)), ⟨by decide +kernel, by decide +kernel, by decide +kernel⟩⟩
set_option maxHeartbeats 4000000 in
set_option maxRecDepth 100000 in
theorem lc_best {κ : Kg} {n z b L : Nat} {adC adM : AD} {xs : Nat → Int32} {Mc Mm : Mem} {k : Int} (Y : LY κ n z adC adM b L xs) (hk : 0 ≤ k ∧ k + 4 ≤ L) (hR : Rel Mc Mm) (oc : okM Mc) (om : okM Mm) (kk : ∀ Mc' Mm', Rel Mc' Mm' → okM Mc' → okM Mm' → G κ 4 n z (LPw κ adC adM Mc' Mm') 887 (LV adC adM b k) []) : G κ 4 n z (LPw κ adC adM Mc Mm) 693 (LV adC adM b k) [] := by
  refine g_aload_n Y.1 dL_law_693 2 rfl ?_
  refine l_callC Y ctX7_best dL_law_694 ivL_93 ⟨by decide, by decide, rfl, rfl⟩ (() : Unit) (As := []) rfl rfl rfl oc trivial (st := []) rfl (Nat.le_of_ble_eq_true rfl) (lw_best hR) (fun r Mc' oc' h1 => ?_)
  refine g_aload_n Y.1 dL_law_697 1 rfl ?_
  refine l_callM Y ctX8_best dL_law_698 ivL_96 ⟨by decide, by decide, rfl, rfl⟩ (() : Unit) (As := []) rfl rfl rfl om trivial (st := [.int (Int32.ofInt r)]) rfl (Nat.le_of_ble_eq_true rfl) h1 (fun r' Mm' om' h2 => ?_)
  obtain ⟨e, hR'⟩ := h2
  subst e
  exact g_icmp_eq Y.1 dL_law_701 (tgt := 887) (by decide) (fun _ => kk _ _ hR' oc' om') (fun h => absurd rfl h)
theorem ivL_97 : IV RL 97 yX7_bestOf cX7_bestOf 3 (some .int) 2 := ⟨(tb_mem (t_in4 (List.mem_of_getElem? (i := 43) (by decide +kernel))) (by decide +kernel)), (tb_mem (t_in4 (List.mem_of_getElem? (i := 44) (by decide +kernel))) (by decide +kernel)), (tb_mem (t_in4 (List.mem_of_getElem? (i := 45) (by decide +kernel))) (by decide +kernel)), (tb_mem (t_in1 (List.mem_of_getElem? (i := 1) (by decide +kernel))) (by decide +kernel)), (tb_mem (t_in4 (List.mem_of_getElem? (i := 46) (by decide +kernel))) (by decide +kernel)), ⟨by decide +kernel, by decide +kernel, by decide +kernel⟩⟩
theorem ivL_100 : IV RL 100 yX8_bestOf cX8_bestOf 3 (some .int) 2 := ⟨(tb_mem (t_in5 (List.mem_of_getElem? (i := 133) (by decide +kernel))) (by decide +kernel)), (tb_mem (t_in5 (List.mem_of_getElem? (i := 134) (by decide +kernel))) (by decide +kernel)), (tb_mem (t_in5 (List.mem_of_getElem? (i := 135) (by decide +kernel))) (by decide +kernel)), (tb_mem (t_in1 (List.mem_of_getElem? (i := 16) (by decide +kernel))) (by decide +kernel)), (tb_mem (t_in5 (List.mem_of_getElem? (i := 136) (by decide +kernel))) (by decide +kernel)), ⟨by decide +kernel, by decide +kernel, by decide +kernel⟩⟩
set_option maxHeartbeats 4000000 in
set_option maxRecDepth 100000 in
theorem lc_bestOf {κ : Kg} {n z b L : Nat} {adC adM : AD} {xs : Nat → Int32} {Mc Mm : Mem} {k : Int} (Y : LY κ n z adC adM b L xs) (hk : 0 ≤ k ∧ k + 4 ≤ L) (hR : Rel Mc Mm) (oc : okM Mc) (om : okM Mm) (kk : ∀ Mc' Mm', Rel Mc' Mm' → okM Mc' → okM Mm' → G κ 4 n z (LPw κ adC adM Mc' Mm') 887 (LV adC adM b k) []) : G κ 4 n z (LPw κ adC adM Mc Mm) 706 (LV adC adM b k) [] := by
  refine g_aload_n Y.1 dL_law_706 2 rfl ?_
  refine l_arg Y (c := 1) dL_law_707 dL_law_708 dL_law_709 dL_law_710 dL_law_711 3 rfl 0 rfl (by decide) (by decide) hk.1 hk.2 ?_
  refine l_arg Y (c := 2) dL_law_712 dL_law_713 dL_law_714 dL_law_715 dL_law_716 3 rfl 0 rfl (by decide) (by decide) hk.1 hk.2 ?_
  refine l_callC Y ctX7_bestOf dL_law_717 ivL_97 ⟨by decide, by decide, rfl, rfl⟩ (((sc xs k 1), (sc xs k 2)) : Int × Int) (As := [.inl (sc xs k 1), .inl (sc xs k 2)]) rfl rfl rfl oc ⟨sc_in xs k _, sc_in xs k _, trivial⟩ (st := []) rfl (Nat.le_of_ble_eq_true rfl) (lw_bestOf hR (sc xs k 1) (sc xs k 2)) (fun r Mc' oc' h1 => ?_)
  refine g_aload_n Y.1 dL_law_720 1 rfl ?_
  refine l_arg Y (c := 1) dL_law_721 dL_law_722 dL_law_723 dL_law_724 dL_law_725 3 rfl 0 rfl (by decide) (by decide) hk.1 hk.2 ?_
  refine l_arg Y (c := 2) dL_law_726 dL_law_727 dL_law_728 dL_law_729 dL_law_730 3 rfl 0 rfl (by decide) (by decide) hk.1 hk.2 ?_
  refine l_callM Y ctX8_bestOf dL_law_731 ivL_100 ⟨by decide, by decide, rfl, rfl⟩ (((sc xs k 1), (sc xs k 2)) : Int × Int) (As := [.inl (sc xs k 1), .inl (sc xs k 2)]) rfl rfl rfl om ⟨sc_in xs k _, sc_in xs k _, trivial⟩ (st := [.int (Int32.ofInt r)]) rfl (Nat.le_of_ble_eq_true rfl) h1 (fun r' Mm' om' h2 => ?_)
  obtain ⟨e, hR'⟩ := h2
  subst e
  exact g_icmp_eq Y.1 dL_law_734 (tgt := 887) (by decide) (fun _ => kk _ _ hR' oc' om') (fun h => absurd rfl h)
theorem ivL_101 : IV RL 101 yX7_bestBy cX7_bestBy 2 (some .int) 1 := ⟨(tb_mem (t_in4 (List.mem_of_getElem? (i := 47) (by decide +kernel))) (by decide +kernel)), (tb_mem (t_in4 (List.mem_of_getElem? (i := 48) (by decide +kernel))) (by decide +kernel)), (tb_mem (t_in4 (List.mem_of_getElem? (i := 49) (by decide +kernel))) (by decide +kernel)), (tb_mem (t_in1 (List.mem_of_getElem? (i := 1) (by decide +kernel))) (by decide +kernel)), (tb_mem (t_in4 (List.mem_of_getElem? (i := 50) (by decide +kernel))) (by decide +kernel)), ⟨by decide +kernel, by decide +kernel, by decide +kernel⟩⟩
theorem ivL_104 : IV RL 104 yX8_bestBy cX8_bestBy 2 (some .int) 1 := ⟨(tb_mem (t_in5 (List.mem_of_getElem? (i := 137) (by decide +kernel))) (by decide +kernel)), (tb_mem (t_in5 (List.mem_of_getElem? (i := 138) (by decide +kernel))) (by decide +kernel)), (tb_mem (t_in5 (List.mem_of_getElem? (i := 139) (by decide +kernel))) (by decide +kernel)), (tb_mem (t_in1 (List.mem_of_getElem? (i := 16) (by decide +kernel))) (by decide +kernel)), (tb_mem (t_in5 (List.mem_of_getElem? (i := 140) (by decide +kernel))) (by decide +kernel)), ⟨by decide +kernel, by decide +kernel, by decide +kernel⟩⟩
set_option maxHeartbeats 4000000 in
set_option maxRecDepth 100000 in
theorem lc_bestBy {κ : Kg} {n z b L : Nat} {adC adM : AD} {xs : Nat → Int32} {Mc Mm : Mem} {k : Int} (Y : LY κ n z adC adM b L xs) (hk : 0 ≤ k ∧ k + 4 ≤ L) (hR : Rel Mc Mm) (oc : okM Mc) (om : okM Mm) (kk : ∀ Mc' Mm', Rel Mc' Mm' → okM Mc' → okM Mm' → G κ 4 n z (LPw κ adC adM Mc' Mm') 887 (LV adC adM b k) []) : G κ 4 n z (LPw κ adC adM Mc Mm) 739 (LV adC adM b k) [] := by
  refine g_aload_n Y.1 dL_law_739 2 rfl ?_
  refine l_arg Y (c := 1) dL_law_740 dL_law_741 dL_law_742 dL_law_743 dL_law_744 3 rfl 0 rfl (by decide) (by decide) hk.1 hk.2 ?_
  refine l_callC Y ctX7_bestBy dL_law_745 ivL_101 ⟨by decide, by decide, rfl, rfl⟩ ((sc xs k 1) : Int) (As := [.inl (sc xs k 1)]) rfl rfl rfl oc ⟨sc_in xs k _, trivial⟩ (st := []) rfl (Nat.le_of_ble_eq_true rfl) (lw_bestBy hR (sc xs k 1)) (fun r Mc' oc' h1 => ?_)
  refine g_aload_n Y.1 dL_law_748 1 rfl ?_
  refine l_arg Y (c := 1) dL_law_749 dL_law_750 dL_law_751 dL_law_752 dL_law_753 3 rfl 0 rfl (by decide) (by decide) hk.1 hk.2 ?_
  refine l_callM Y ctX8_bestBy dL_law_754 ivL_104 ⟨by decide, by decide, rfl, rfl⟩ ((sc xs k 1) : Int) (As := [.inl (sc xs k 1)]) rfl rfl rfl om ⟨sc_in xs k _, trivial⟩ (st := [.int (Int32.ofInt r)]) rfl (Nat.le_of_ble_eq_true rfl) h1 (fun r' Mm' om' h2 => ?_)
  obtain ⟨e, hR'⟩ := h2
  subst e
  exact g_icmp_eq Y.1 dL_law_757 (tgt := 887) (by decide) (fun _ => kk _ _ hR' oc' om') (fun h => absurd rfl h)
theorem ivL_105 : IV RL 105 yX7_bestIf cX7_bestIf 3 (some .int) 2 := ⟨(tb_mem (t_in4 (List.mem_of_getElem? (i := 51) (by decide +kernel))) (by decide +kernel)), (tb_mem (t_in4 (List.mem_of_getElem? (i := 52) (by decide +kernel))) (by decide +kernel)), (tb_mem (t_in4 (List.mem_of_getElem? (i := 53) (by decide +kernel))) (by decide +kernel)), (tb_mem (t_in1 (List.mem_of_getElem? (i := 1) (by decide +kernel))) (by decide +kernel)), (tb_mem (t_in4 (List.mem_of_getElem? (i := 54) (by decide +kernel))) (by decide +kernel)), ⟨by decide +kernel, by decide +kernel, by decide +kernel⟩⟩
theorem ivL_108 : IV RL 108 yX8_bestIf cX8_bestIf 4 (some .int) 2 := ⟨(tb_mem (t_in5 (List.mem_of_getElem? (i := 141) (by decide +kernel))) (by decide +kernel)), (tb_mem (t_in5 (List.mem_of_getElem? (i := 142) (by decide +kernel))) (by decide +kernel)), (tb_mem (t_in5 (List.mem_of_getElem? (i := 143) (by decide +kernel))) (by decide +kernel)), (tb_mem (t_in1 (List.mem_of_getElem? (i := 16) (by decide +kernel))) (by decide +kernel)), (tb_mem (t_in5 (List.mem_of_getElem? (i := 144) (by decide +kernel))) (by decide +kernel)), ⟨by decide +kernel, by decide +kernel, by decide +kernel⟩⟩
set_option maxHeartbeats 4000000 in
set_option maxRecDepth 100000 in
theorem lc_bestIf {κ : Kg} {n z b L : Nat} {adC adM : AD} {xs : Nat → Int32} {Mc Mm : Mem} {k : Int} (Y : LY κ n z adC adM b L xs) (hk : 0 ≤ k ∧ k + 4 ≤ L) (hR : Rel Mc Mm) (oc : okM Mc) (om : okM Mm) (kk : ∀ Mc' Mm', Rel Mc' Mm' → okM Mc' → okM Mm' → G κ 4 n z (LPw κ adC adM Mc' Mm') 887 (LV adC adM b k) []) : G κ 4 n z (LPw κ adC adM Mc Mm) 762 (LV adC adM b k) [] := by
  refine g_aload_n Y.1 dL_law_762 2 rfl ?_
  refine l_arg Y (c := 1) dL_law_763 dL_law_764 dL_law_765 dL_law_766 dL_law_767 3 rfl 0 rfl (by decide) (by decide) hk.1 hk.2 ?_
  refine l_arg Y (c := 2) dL_law_768 dL_law_769 dL_law_770 dL_law_771 dL_law_772 3 rfl 0 rfl (by decide) (by decide) hk.1 hk.2 ?_
  refine l_callC Y ctX7_bestIf dL_law_773 ivL_105 ⟨by decide, by decide, rfl, rfl⟩ (((sc xs k 1), (sc xs k 2)) : Int × Int) (As := [.inl (sc xs k 1), .inl (sc xs k 2)]) rfl rfl rfl oc ⟨sc_in xs k _, sc_in xs k _, trivial⟩ (st := []) rfl (Nat.le_of_ble_eq_true rfl) (lw_bestIf hR (sc xs k 1) (sc xs k 2)) (fun r Mc' oc' h1 => ?_)
  refine g_aload_n Y.1 dL_law_776 1 rfl ?_
  refine l_arg Y (c := 1) dL_law_777 dL_law_778 dL_law_779 dL_law_780 dL_law_781 3 rfl 0 rfl (by decide) (by decide) hk.1 hk.2 ?_
  refine l_arg Y (c := 2) dL_law_782 dL_law_783 dL_law_784 dL_law_785 dL_law_786 3 rfl 0 rfl (by decide) (by decide) hk.1 hk.2 ?_
  refine l_callM Y ctX8_bestIf dL_law_787 ivL_108 ⟨by decide, by decide, rfl, rfl⟩ (((sc xs k 1), (sc xs k 2)) : Int × Int) (As := [.inl (sc xs k 1), .inl (sc xs k 2)]) rfl rfl rfl om ⟨sc_in xs k _, sc_in xs k _, trivial⟩ (st := [.int (Int32.ofInt r)]) rfl (Nat.le_of_ble_eq_true rfl) h1 (fun r' Mm' om' h2 => ?_)
  obtain ⟨e, hR'⟩ := h2
  subst e
  exact g_icmp_eq Y.1 dL_law_790 (tgt := 887) (by decide) (fun _ => kk _ _ hR' oc' om') (fun h => absurd rfl h)
theorem ivL_109 : IV RL 109 yX7_bestBreath cX7_bestBreath 2 (some .int) 1 := ⟨(tb_mem (t_in4 (List.mem_of_getElem? (i := 55) (by decide +kernel))) (by decide +kernel)), (tb_mem (t_in4 (List.mem_of_getElem? (i := 56) (by decide +kernel))) (by decide +kernel)), (tb_mem (t_in4 (List.mem_of_getElem? (i := 57) (by decide +kernel))) (by decide +kernel)), (tb_mem (t_in1 (List.mem_of_getElem? (i := 1) (by decide +kernel))) (by decide +kernel)), (tb_mem (t_in4 (List.mem_of_getElem? (i := 58) (by decide +kernel))) (by decide +kernel)), ⟨by decide +kernel, by decide +kernel, by decide +kernel⟩⟩
theorem ivL_112 : IV RL 112 yX8_bestBreath cX8_bestBreath 4 (some .int) 1 := ⟨(tb_mem (t_in5 (List.mem_of_getElem? (i := 145) (by decide +kernel))) (by decide +kernel)), (tb_mem (t_in5 (List.mem_of_getElem? (i := 146) (by decide +kernel))) (by decide +kernel)), (tb_mem (t_in5 (List.mem_of_getElem? (i := 147) (by decide +kernel))) (by decide +kernel)), (tb_mem (t_in1 (List.mem_of_getElem? (i := 16) (by decide +kernel))) (by decide +kernel)), (tb_mem (t_in5 (List.mem_of_getElem? (i := 148) (by decide +kernel))) (by decide +kernel)), ⟨by decide +kernel, by decide +kernel, by decide +kernel⟩⟩
set_option maxHeartbeats 4000000 in
set_option maxRecDepth 100000 in
theorem lc_bestBreath {κ : Kg} {n z b L : Nat} {adC adM : AD} {xs : Nat → Int32} {Mc Mm : Mem} {k : Int} (Y : LY κ n z adC adM b L xs) (hk : 0 ≤ k ∧ k + 4 ≤ L) (hR : Rel Mc Mm) (oc : okM Mc) (om : okM Mm) (kk : ∀ Mc' Mm', Rel Mc' Mm' → okM Mc' → okM Mm' → G κ 4 n z (LPw κ adC adM Mc' Mm') 887 (LV adC adM b k) []) : G κ 4 n z (LPw κ adC adM Mc Mm) 795 (LV adC adM b k) [] := by
  refine g_aload_n Y.1 dL_law_795 2 rfl ?_
  refine l_arg Y (c := 1) dL_law_796 dL_law_797 dL_law_798 dL_law_799 dL_law_800 3 rfl 0 rfl (by decide) (by decide) hk.1 hk.2 ?_
  refine l_callC Y ctX7_bestBreath dL_law_801 ivL_109 ⟨by decide, by decide, rfl, rfl⟩ ((sc xs k 1) : Int) (As := [.inl (sc xs k 1)]) rfl rfl rfl oc ⟨sc_in xs k _, trivial⟩ (st := []) rfl (Nat.le_of_ble_eq_true rfl) (lw_bestBreath hR (sc xs k 1)) (fun r Mc' oc' h1 => ?_)
  refine g_aload_n Y.1 dL_law_804 1 rfl ?_
  refine l_arg Y (c := 1) dL_law_805 dL_law_806 dL_law_807 dL_law_808 dL_law_809 3 rfl 0 rfl (by decide) (by decide) hk.1 hk.2 ?_
  refine l_callM Y ctX8_bestBreath dL_law_810 ivL_112 ⟨by decide, by decide, rfl, rfl⟩ ((sc xs k 1) : Int) (As := [.inl (sc xs k 1)]) rfl rfl rfl om ⟨sc_in xs k _, trivial⟩ (st := [.int (Int32.ofInt r)]) rfl (Nat.le_of_ble_eq_true rfl) h1 (fun r' Mm' om' h2 => ?_)
  obtain ⟨e, hR'⟩ := h2
  subst e
  exact g_icmp_eq Y.1 dL_law_813 (tgt := 887) (by decide) (fun _ => kk _ _ hR' oc' om') (fun h => absurd rfl h)
theorem ivL_113 : IV RL 113 yX7_greedy cX7_greedy 1 (some .int) 0 := ⟨(tb_mem (t_in4 (List.mem_of_getElem? (i := 59) (by decide +kernel))) (by decide +kernel)), (tb_mem (t_in4 (List.mem_of_getElem? (i := 60) (by decide +kernel))) (by decide +kernel)), (tb_mem (t_in4 (List.mem_of_getElem? (i := 61) (by decide +kernel))) (by decide +kernel)), (tb_mem (t_in1 (List.mem_of_getElem? (i := 1) (by decide +kernel))) (by decide +kernel)), (tb_mem (t_in4 (List.mem_of_getElem? (i := 62) (by decide +kernel))) (by decide +kernel)), ⟨by decide +kernel, by decide +kernel, by decide +kernel⟩⟩
theorem ivL_116 : IV RL 116 yX8_greedy cX8_greedy 1 (some .int) 0 := ⟨(tb_mem (t_in5 (List.mem_of_getElem? (i := 149) (by decide +kernel))) (by decide +kernel)), (tb_mem (t_in5 (List.mem_of_getElem? (i := 150) (by decide +kernel))) (by decide +kernel)), (tb_mem (t_in5 (List.mem_of_getElem? (i := 151) (by decide +kernel))) (by decide +kernel)), (tb_mem (t_in1 (List.mem_of_getElem? (i := 16) (by decide +kernel))) (by decide +kernel)), (tb_mem (t_in5 (List.mem_of_getElem? (i := 152) (by decide +kernel))) (by decide +kernel)), ⟨by decide +kernel, by decide +kernel, by decide +kernel⟩⟩
set_option maxHeartbeats 4000000 in
set_option maxRecDepth 100000 in
theorem lc_greedy {κ : Kg} {n z b L : Nat} {adC adM : AD} {xs : Nat → Int32} {Mc Mm : Mem} {k : Int} (Y : LY κ n z adC adM b L xs) (hk : 0 ≤ k ∧ k + 4 ≤ L) (hR : Rel Mc Mm) (oc : okM Mc) (om : okM Mm) (kk : ∀ Mc' Mm', Rel Mc' Mm' → okM Mc' → okM Mm' → G κ 4 n z (LPw κ adC adM Mc' Mm') 887 (LV adC adM b k) []) : G κ 4 n z (LPw κ adC adM Mc Mm) 818 (LV adC adM b k) [] := by
  refine g_aload_n Y.1 dL_law_818 2 rfl ?_
  refine l_callC Y ctX7_greedy dL_law_819 ivL_113 ⟨by decide, by decide, rfl, rfl⟩ (() : Unit) (As := []) rfl rfl rfl oc trivial (st := []) rfl (Nat.le_of_ble_eq_true rfl) (lw_greedy hR) (fun r Mc' oc' h1 => ?_)
  refine g_aload_n Y.1 dL_law_822 1 rfl ?_
  refine l_callM Y ctX8_greedy dL_law_823 ivL_116 ⟨by decide, by decide, rfl, rfl⟩ (() : Unit) (As := []) rfl rfl rfl om trivial (st := [.int (Int32.ofInt r)]) rfl (Nat.le_of_ble_eq_true rfl) h1 (fun r' Mm' om' h2 => ?_)
  obtain ⟨e, hR'⟩ := h2
  subst e
  exact g_icmp_eq Y.1 dL_law_826 (tgt := 887) (by decide) (fun _ => kk _ _ hR' oc' om') (fun h => absurd rfl h)
theorem ivL_117 : IV RL 117 yX7_greedyOf cX7_greedyOf 3 (some .int) 2 := ⟨(tb_mem (t_in4 (List.mem_of_getElem? (i := 90) (by decide +kernel))) (by decide +kernel)), (tb_mem (t_in4 (List.mem_of_getElem? (i := 91) (by decide +kernel))) (by decide +kernel)), (tb_mem (t_in4 (List.mem_of_getElem? (i := 92) (by decide +kernel))) (by decide +kernel)), (tb_mem (t_in1 (List.mem_of_getElem? (i := 1) (by decide +kernel))) (by decide +kernel)), (tb_mem (t_in4 (List.mem_of_getElem? (i := 93) (by decide +kernel))) (by decide +kernel)), ⟨by decide +kernel, by decide +kernel, by decide +kernel⟩⟩
theorem ivL_120 : IV RL 120 yX8_greedyOf cX8_greedyOf 3 (some .int) 2 := ⟨(tb_mem (t_in5 (List.mem_of_getElem? (i := 161) (by decide +kernel))) (by decide +kernel)), (tb_mem (t_in5 (List.mem_of_getElem? (i := 162) (by decide +kernel))) (by decide +kernel)), (tb_mem (t_in5 (List.mem_of_getElem? (i := 163) (by decide +kernel))) (by decide +kernel)), (tb_mem (t_in1 (List.mem_of_getElem? (i := 16) (by decide +kernel))) (by decide +kernel)), (tb_mem (t_in5 (List.mem_of_getElem? (i := 164) (by decide +kernel))) (by decide +kernel)), ⟨by decide +kernel, by decide +kernel, by decide +kernel⟩⟩
set_option maxHeartbeats 4000000 in
set_option maxRecDepth 100000 in
theorem lc_greedyOf {κ : Kg} {n z b L : Nat} {adC adM : AD} {xs : Nat → Int32} {Mc Mm : Mem} {k : Int} (Y : LY κ n z adC adM b L xs) (hk : 0 ≤ k ∧ k + 4 ≤ L) (hR : Rel Mc Mm) (oc : okM Mc) (om : okM Mm) (kk : ∀ Mc' Mm', Rel Mc' Mm' → okM Mc' → okM Mm' → G κ 4 n z (LPw κ adC adM Mc' Mm') 887 (LV adC adM b k) []) : G κ 4 n z (LPw κ adC adM Mc Mm) 831 (LV adC adM b k) [] := by
  refine g_aload_n Y.1 dL_law_831 2 rfl ?_
  refine l_arg Y (c := 1) dL_law_832 dL_law_833 dL_law_834 dL_law_835 dL_law_836 3 rfl 0 rfl (by decide) (by decide) hk.1 hk.2 ?_
  refine l_arg Y (c := 2) dL_law_837 dL_law_838 dL_law_839 dL_law_840 dL_law_841 3 rfl 0 rfl (by decide) (by decide) hk.1 hk.2 ?_
  refine l_callC Y ctX7_greedyOf dL_law_842 ivL_117 ⟨by decide, by decide, rfl, rfl⟩ (((sc xs k 1), (sc xs k 2)) : Int × Int) (As := [.inl (sc xs k 1), .inl (sc xs k 2)]) rfl rfl rfl oc ⟨sc_in xs k _, sc_in xs k _, trivial⟩ (st := []) rfl (Nat.le_of_ble_eq_true rfl) (lw_greedyOf hR (sc xs k 1) (sc xs k 2)) (fun r Mc' oc' h1 => ?_)
  refine g_aload_n Y.1 dL_law_845 1 rfl ?_
  refine l_arg Y (c := 1) dL_law_846 dL_law_847 dL_law_848 dL_law_849 dL_law_850 3 rfl 0 rfl (by decide) (by decide) hk.1 hk.2 ?_
  refine l_arg Y (c := 2) dL_law_851 dL_law_852 dL_law_853 dL_law_854 dL_law_855 3 rfl 0 rfl (by decide) (by decide) hk.1 hk.2 ?_
  refine l_callM Y ctX8_greedyOf dL_law_856 ivL_120 ⟨by decide, by decide, rfl, rfl⟩ (((sc xs k 1), (sc xs k 2)) : Int × Int) (As := [.inl (sc xs k 1), .inl (sc xs k 2)]) rfl rfl rfl om ⟨sc_in xs k _, sc_in xs k _, trivial⟩ (st := [.int (Int32.ofInt r)]) rfl (Nat.le_of_ble_eq_true rfl) h1 (fun r' Mm' om' h2 => ?_)
  obtain ⟨e, hR'⟩ := h2
  subst e
  exact g_icmp_eq Y.1 dL_law_859 (tgt := 887) (by decide) (fun _ => kk _ _ hR' oc' om') (fun h => absurd rfl h)
theorem ivL_121 : IV RL 121 yX7_count cX7_count 2 (some .int) 1 := ⟨(tb_mem (t_in4 (List.mem_of_getElem? (i := 94) (by decide +kernel))) (by decide +kernel)), (tb_mem (t_in4 (List.mem_of_getElem? (i := 95) (by decide +kernel))) (by decide +kernel)), (tb_mem (t_in4 (List.mem_of_getElem? (i := 96) (by decide +kernel))) (by decide +kernel)), (tb_mem (t_in1 (List.mem_of_getElem? (i := 1) (by decide +kernel))) (by decide +kernel)), (tb_mem (t_in4 (List.mem_of_getElem? (i := 97) (by decide +kernel))) (by decide +kernel)), ⟨by decide +kernel, by decide +kernel, by decide +kernel⟩⟩
theorem ivL_124 : IV RL 124 yX8_count cX8_count 4 (some .int) 1 := ⟨(tb_mem (t_in5 (List.mem_of_getElem? (i := 165) (by decide +kernel))) (by decide +kernel)), (tb_mem (t_in5 (List.mem_of_getElem? (i := 166) (by decide +kernel))) (by decide +kernel)), (tb_mem (t_in5 (List.mem_of_getElem? (i := 167) (by decide +kernel))) (by decide +kernel)), (tb_mem (t_in1 (List.mem_of_getElem? (i := 16) (by decide +kernel))) (by decide +kernel)), (tb_mem (t_in5 (List.mem_of_getElem? (i := 168) (by decide +kernel))) (by decide +kernel)), ⟨by decide +kernel, by decide +kernel, by decide +kernel⟩⟩
set_option maxHeartbeats 4000000 in
set_option maxRecDepth 100000 in
theorem lc_count {κ : Kg} {n z b L : Nat} {adC adM : AD} {xs : Nat → Int32} {Mc Mm : Mem} {k : Int} (Y : LY κ n z adC adM b L xs) (hk : 0 ≤ k ∧ k + 4 ≤ L) (hR : Rel Mc Mm) (oc : okM Mc) (om : okM Mm) (kk : ∀ Mc' Mm', Rel Mc' Mm' → okM Mc' → okM Mm' → G κ 4 n z (LPw κ adC adM Mc' Mm') 887 (LV adC adM b k) []) : G κ 4 n z (LPw κ adC adM Mc Mm) 864 (LV adC adM b k) [] := by
  refine g_aload_n Y.1 dL_law_864 2 rfl ?_
  refine l_arg Y (c := 1) dL_law_865 dL_law_866 dL_law_867 dL_law_868 dL_law_869 3 rfl 0 rfl (by decide) (by decide) hk.1 hk.2 ?_
  refine l_callC Y ctX7_count dL_law_870 ivL_121 ⟨by decide, by decide, rfl, rfl⟩ ((sc xs k 1) : Int) (As := [.inl (sc xs k 1)]) rfl rfl rfl oc ⟨sc_in xs k _, trivial⟩ (st := []) rfl (Nat.le_of_ble_eq_true rfl) (lw_count hR (sc xs k 1)) (fun r Mc' oc' h1 => ?_)
  refine g_aload_n Y.1 dL_law_873 1 rfl ?_
  refine l_arg Y (c := 1) dL_law_874 dL_law_875 dL_law_876 dL_law_877 dL_law_878 3 rfl 0 rfl (by decide) (by decide) hk.1 hk.2 ?_
  refine l_callM Y ctX8_count dL_law_879 ivL_124 ⟨by decide, by decide, rfl, rfl⟩ ((sc xs k 1) : Int) (As := [.inl (sc xs k 1)]) rfl rfl rfl om ⟨sc_in xs k _, trivial⟩ (st := [.int (Int32.ofInt r)]) rfl (Nat.le_of_ble_eq_true rfl) h1 (fun r' Mm' om' h2 => ?_)
  obtain ⟨e, hR'⟩ := h2
  subst e
  exact g_icmp_eq Y.1 dL_law_882 (tgt := 887) (by decide) (fun _ => kk _ _ hR' oc' om') (fun h => absurd rfl h)
set_option maxHeartbeats 4000000 in
set_option maxRecDepth 100000 in
theorem l_switch {κ : Kg} {n z b L : Nat} {adC adM : AD} {xs : Nat → Int32} {Mc Mm : Mem} {k : Int} {x : Int32} (Y : LY κ n z adC adM b L xs) (hk : 0 ≤ k ∧ k + 4 ≤ L) (hR : Rel Mc Mm) (oc : okM Mc) (om : okM Mm) (kk : ∀ Mc' Mm', Rel Mc' Mm' → okM Mc' → okM Mm' → G κ 4 n z (LPw κ adC adM Mc' Mm') 887 (LV adC adM b k) []) : G κ 4 n z (LPw κ adC adM Mc Mm) 32 (LV adC adM b k) [.int x] := by
  refine g_tsw Y.1 dL_law_32 (dt := 887) (by decide) (fun j hj hh => ?_) (kk _ _ hR oc om)
  have hjj : j = 0 ∨ j = 1 ∨ j = 2 ∨ j = 3 ∨ j = 4 ∨ j = 5 ∨ j = 6 ∨ j = 7 ∨ j = 8 ∨ j = 9 ∨ j = 10 ∨ j = 11 ∨ j = 12 ∨ j = 13 ∨ j = 14 ∨ j = 15 ∨ j = 16 ∨ j = 17 ∨ j = 18 ∨ j = 19 ∨ j = 20 ∨ j = 21 ∨ j = 22 ∨ j = 23 ∨ j = 24 ∨ j = 25 ∨ j = 26 := by omega
  rcases hjj with rfl | rfl | rfl | rfl | rfl | rfl | rfl | rfl | rfl | rfl | rfl | rfl | rfl | rfl | rfl | rfl | rfl | rfl | rfl | rfl | rfl | rfl | rfl | rfl | rfl | rfl | rfl
  · exact ⟨124, 156, rfl, by decide, lc_write Y hk hR oc om kk⟩
  · exact ⟨147, 179, rfl, by decide, lc_wipe Y hk hR oc om kk⟩
  · exact ⟨160, 192, rfl, by decide, lc_fault Y hk hR oc om kk⟩
  · exact ⟨173, 205, rfl, by decide, lc_lay Y hk hR oc om kk⟩
  · exact ⟨186, 218, rfl, by decide, lc_rate Y hk hR oc om kk⟩
  · exact ⟨219, 251, rfl, by decide, lc_breath Y hk hR oc om kk⟩
  · exact ⟨242, 274, rfl, by decide, lc_sound Y hk hR oc om kk⟩
  · exact ⟨285, 317, rfl, by decide, lc_hush Y hk hR oc om kk⟩
  · exact ⟨308, 340, rfl, by decide, lc_version Y hk hR oc om kk⟩
  · exact ⟨351, 383, rfl, by decide, lc_place Y hk hR oc om kk⟩
  · exact ⟨394, 426, rfl, by decide, lc_off Y hk hR oc om kk⟩
  · exact ⟨417, 449, rfl, by decide, lc_why Y hk hR oc om kk⟩
  · exact ⟨460, 492, rfl, by decide, lc_gain Y hk hR oc om kk⟩
  · exact ⟨503, 535, rfl, by decide, lc_value Y hk hR oc om kk⟩
  · exact ⟨516, 548, rfl, by decide, lc_adopt Y hk hR oc om kk⟩
  · exact ⟨529, 561, rfl, by decide, lc_picture Y hk hR oc om kk⟩
  · exact ⟨562, 594, rfl, by decide, lc_told Y hk hR oc om kk⟩
  · exact ⟨605, 637, rfl, by decide, lc_tick Y hk hR oc om kk⟩
  · exact ⟨628, 660, rfl, by decide, lc_silence Y hk hR oc om kk⟩
  · exact ⟨661, 693, rfl, by decide, lc_best Y hk hR oc om kk⟩
  · exact ⟨674, 706, rfl, by decide, lc_bestOf Y hk hR oc om kk⟩
  · exact ⟨707, 739, rfl, by decide, lc_bestBy Y hk hR oc om kk⟩
  · exact ⟨730, 762, rfl, by decide, lc_bestIf Y hk hR oc om kk⟩
  · exact ⟨763, 795, rfl, by decide, lc_bestBreath Y hk hR oc om kk⟩
  · exact ⟨786, 818, rfl, by decide, lc_greedy Y hk hR oc om kk⟩
  · exact ⟨799, 831, rfl, by decide, lc_greedyOf Y hk hR oc om kk⟩
  · exact ⟨832, 864, rfl, by decide, lc_count Y hk hR oc om kk⟩
set_option maxHeartbeats 4000000 in
set_option maxRecDepth 100000 in
theorem l_loop {κ : Kg} {n z b L : Nat} {adC adM : AD} {xs : Nat → Int32} (Y : LY κ n z adC adM b L xs) (hend : ∀ (P : Heap → Prop) (lv : List (Nat × Value)), G κ 4 n z P 893 lv []) : ∀ (m : Nat) (k : Int) (Mc Mm : Mem), (L : Int) ≤ k + m → 0 ≤ k → k ≤ 4096 → Rel Mc Mm → okM Mc → okM Mm → G κ 4 n z (LPw κ adC adM Mc Mm) 18 (LV adC adM b k) [] := by
  have hL : L ≤ 2048 := Y.2.2.2.2.2.2
  intro m
  induction m with
  | zero =>
    intro k Mc Mm hm h0 h1 hR oc om
    refine g_iload_n Y.1 dL_law_18 0 rfl ?_
    refine g_aload_n Y.1 dL_law_19 3 rfl ?_
    refine l_len Y dL_law_20 ?_
    refine g_iconst Y.1 dL_law_21 (v := Int32.ofInt 4) rfl ?_
    refine g_isub Y.1 dL_law_22 (v := Int32.ofInt (L - 4)) (by rw [Int32.ofInt_sub]) ?_
    refine g_icmp_gt Y.1 dL_law_23 (tgt := 893) (by decide) (fun _ => hend _ _) (fun h => absurd ((oi_lt ⟨by omega, by omega⟩ ⟨by omega, by omega⟩).mpr (by omega)) h)
  | succ m ih =>
    intro k Mc Mm hm h0 h1 hR oc om
    refine g_iload_n Y.1 dL_law_18 0 rfl ?_
    refine g_aload_n Y.1 dL_law_19 3 rfl ?_
    refine l_len Y dL_law_20 ?_
    refine g_iconst Y.1 dL_law_21 (v := Int32.ofInt 4) rfl ?_
    refine g_isub Y.1 dL_law_22 (v := Int32.ofInt (L - 4)) (by rw [Int32.ofInt_sub]) ?_
    refine g_icmp_gt Y.1 dL_law_23 (tgt := 893) (by decide) (fun _ => hend _ _) (fun h => ?_)
    have hk : k + 4 ≤ L := by
      rcases Int.lt_or_le ((L : Int) - 4) k with z | z
      · exact absurd ((oi_lt ⟨by omega, by omega⟩ ⟨by omega, by omega⟩).mpr z) h
      · omega
    refine l_arg0 Y dL_law_26 dL_law_27 dL_law_28 3 rfl 0 rfl h0 hk (fun x => ?_)
    refine g_bipush Y.1 dL_law_29 (v := 31) (by decide) ?_
    refine g_iand Y.1 dL_law_31 ?_
    refine l_switch Y ⟨h0, hk⟩ hR oc om (fun Mc' Mm' hR' oc' om' => ?_)
    refine g_iinc Y.1 dL_law_887 0 rfl (v := Int32.ofInt (k + 4)) (by rw [Int32.ofInt_add]) (by decide) (lv' := LV adC adM b (k + 4)) rfl ?_
    refine g_goto Y.1 dL_law_890 (tgt := 18) (by decide) ?_
    exact ih (k + 4) Mc' Mm' (by omega) (by omega) (by omega) hR' oc' om'
