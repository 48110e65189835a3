/-! ===== System.arraycopy over rows of ints ===== -/
def cpyM (M : Mem) (r0 : Nat) (i0 sp : Int) (r1 : Nat) (i1 dp n : Int) : Mem := fun r' i' j => if r' = r1 ∧ i' = i1 ∧ dp ≤ j ∧ j < dp + n then M r0 i0 (sp + (j - dp)) else M r' i' j
theorem okM_cpy {M : Mem} (h : okM M) (r0 : Nat) (i0 sp : Int) (r1 : Nat) (i1 dp n : Int) : okM (cpyM M r0 i0 sp r1 i1 dp n) := by
  intro r i j
  unfold cpyM
  split
  · exact h _ _ _
  · exact h _ _ _
def ICp (own : String) (idx : Nat) : Prop := Cond.methodLink own idx arraycopyName ∈ tb ∧ Cond.native arraycopyName ∈ tb ∧ Cond.static arraycopyName ∈ tb ∧ Cond.initialized "java/lang/System" ∈ tb
set_option maxHeartbeats 4000000 in
theorem v_copy {κ : Kx} {own : String} {cc : ByteArray} {nL : Nat} {ret : Option FieldType} {rm : Room} {dom : Nat → Bool} {M : Mem} {pc : Nat} {lv : List (Option PV)} {st : List PV} {K : Kont} (C : Cx κ own cc nL ret rm dom) {idx : Nat} {r0 r1 : Nat} {i0 i1 sp dp n : Int} (hd : decode cc pc = .ok (.invokestatic idx, 3)) (hw : ICp own idx) (hk0 : kd r0 = 20) (hk1 : kd r1 = 20)
    (h0 : 0 ≤ sp) (h1 : 0 ≤ dp) (h2 : 0 ≤ n) (h3 : sp + n ≤ sz r0) (h4 : dp + n ≤ sz r1) (h8 : st.length ≤ 8) (hR : 1 ≤ rm.frames ∧ 26 ≤ rm.locals) (k : V κ nL (cpyM M r0 i0 sp r1 i1 dp n) (pc + 3) lv st K) : V κ nL M pc lv (.inl n :: .inl dp :: .inr (r1, i1) :: .inl sp :: .inr (r0, i0) :: st) K := by
  refine ⟨?_, trivial⟩
  intro oM oL oS H locs ls hH hS hl
  obtain ⟨on, odp, ov1, osp, ov0, oS⟩ := oS
  have on : inR n := on
  have odp : inR dp := odp
  have osp : inR sp := osp
  obtain ⟨c1, c2, c3, c4, c5, c6, c7, c8, c9, c10, c11, c12, c13⟩ := id C
  have hc0 := hH r0 i0 ov0.1 ov0.2.1 ov0.2.2
  have hc1 := hH r1 i1 ov1.1 ov1.2.1 ov1.2.2
  rw [ent_int hk0] at hc0
  rw [ent_int hk1] at hc1
  have hc0 : H[κ.2.2.2.1 r0 i0]? = some (vp_cell κ.2.2.2.2.1.1 (sz r0, .inl (fun j => Int32.ofInt (M r0 i0 j)))) := hc0
  have hc1 : H[κ.2.2.2.1 r1 i1]? = some (vp_cell κ.2.2.2.2.1.1 (sz r1, .inl (fun j => Int32.ofInt (M r1 i1 j)))) := hc1
  have tp : (tysX κ.2.2.2.2.1)[0]? = some (κ.2.2.2.2.1.1, .int) := rfl
  have g1 : ¬ Int32.ofInt sp < 0 := fun q => by have := (oi_lt osp (y := 0) (by decide)).mp q; omega
  have g2 : ¬ Int32.ofInt dp < 0 := fun q => by have := (oi_lt odp (y := 0) (by decide)).mp q; omega
  have g3 : ¬ Int32.ofInt n < 0 := fun q => by have := (oi_lt on (y := 0) (by decide)).mp q; omega
  have hrr := rest_room (ad := κ.2.2.2.1) st h8
  intro T hT X
  obtain ⟨-, k0, hk0', cm0, hkk0⟩ := (c7.2 0 _ tp).1 (sz r0) (fun j => .int (Int32.ofInt (M r0 i0 j)))
  obtain ⟨-, k1, hk1', cm1, hkk1⟩ := (c7.2 0 _ tp).1 (sz r1) (fun j => .int (Int32.ofInt (M r1 i1 j)))
  obtain ⟨vm', X', step⟩ := X.arraycopy c1 c4 (c5 _ hw.1) (c5 _ hw.2.1) (c5 _ hw.2.2.1) (c5 _ hw.2.2.2) (src := κ.2.2.2.1 r0 i0) (dst := κ.2.2.2.1 r1 i1) (cs := vp_cell κ.2.2.2.2.1.1 (sz r0, .inl (fun j => Int32.ofInt (M r0 i0 j)))) (cd := vp_cell κ.2.2.2.2.1.1 (sz r1, .inl (fun j => Int32.ofInt (M r1 i1 j)))) (srcPos := Int32.ofInt sp) (destPos := Int32.ofInt dp) (n := Int32.ofInt n) (by rw [hT]; exact hc0) (by rw [hT]; exact hc1)
    (fun _ h => by cases h) (fun _ h => by cases h) (fun h => by cases h) (fun h => by cases h) hk0' hk1' hkk0 hkk1 (by simp [refKind]) g1 g2 g3
    (by rw [oi_toInt osp, oi_toInt on]; show ¬ _ > ((arrV _ (sz r0) (fun j => .int (Int32.ofInt (M r0 i0 j)))).slots.size : Int); rw [arrV_size]; omega)
    (by rw [oi_toInt odp, oi_toInt on]; show ¬ _ > ((arrV _ (sz r1) (fun j => .int (Int32.ofInt (M r1 i1 j)))).slots.size : Int); rw [arrV_size]; omega)
    (fun vm₁ _ i hi => by
      rw [oi_clamp on] at hi
      have e : (vp_cell κ.2.2.2.2.1.1 (sz r0, .inl (fun j => Int32.ofInt (M r0 i0 j)))).slots.getD ((Int32.ofInt sp).toNatClampNeg + i) .null = .int (Int32.ofInt (M r0 i0 (((Int32.ofInt sp).toNatClampNeg + i : Nat) : Int))) := by
        show (arrV _ (sz r0) (fun j => .int (Int32.ofInt (M r0 i0 j)))).slots.getD _ _ = _
        rw [Array.getD_eq_getD_getElem?, arrV_read _ _ (by rw [oi_clamp osp]; omega)]
        rfl
      refine ⟨?_, ?_⟩
      · rw [e]
        rfl
      · rw [e]
        exact trivial)
    (g := F0 κ.2.1.1 pc ls (.int (Int32.ofInt n) :: .int (Int32.ofInt dp) :: .ref (κ.2.2.2.1 r1 i1) :: .int (Int32.ofInt sp) :: .ref (κ.2.2.2.1 r0 i0) :: st.map (emb κ.2.2.2.1))) rfl (by rw [c3]; exact hl.1) (rest := st.map (emb κ.2.2.2.1)) rfl (by rw [c2]; exact hd) (by rw [c11]; exact hR.1) (by show 2 * 0 + _ + (7 + 11) ≤ _; rw [c11]; have := hR.2; omega)
  have e1 : copied (vp_cell κ.2.2.2.2.1.1 (sz r0, .inl (fun j => Int32.ofInt (M r0 i0 j)))) (vp_cell κ.2.2.2.2.1.1 (sz r1, .inl (fun j => Int32.ofInt (M r1 i1 j)))) (Int32.ofInt sp) (Int32.ofInt dp) (Int32.ofInt n) = vp_cell κ.2.2.2.2.1.1 (sz r1, .inl (fun j => Int32.ofInt (cpyM M r0 i0 sp r1 i1 dp n r1 i1 j))) := by
    have hb4 : (Int32.ofInt sp).toNatClampNeg + (Int32.ofInt n).toNatClampNeg ≤ sz r0 := by rw [oi_clamp osp, oi_clamp on]; omega
    refine (va_copied (fun z => .int z) _ _ (fun j : Nat => Int32.ofInt (M r0 i0 j)) (fun j : Nat => Int32.ofInt (M r1 i1 j)) hb4).trans ?_
    rw [vp_cell_i]
    dsimp only
    congr 1
    funext j
    congr 1
    unfold va_cpy cpyM
    rw [oi_clamp osp, oi_clamp odp, oi_clamp on]
    by_cases hj : dp.toNat ≤ j ∧ j < dp.toNat + n.toNat
    · rw [if_pos hj, if_pos ⟨rfl, rfl, by omega, by omega⟩]
      have e9 : ((sp.toNat + (j - dp.toNat) : Nat) : Int) = sp + ((j : Int) - dp) := by omega
      show Int32.ofInt (M r0 i0 ((sp.toNat + (j - dp.toNat) : Nat) : Int)) = _
      rw [e9]
    · rw [if_neg hj, if_neg (fun z => hj ⟨by have := z.2.2; omega, by have := z.2.2; omega⟩)]
  rw [e1] at X' step
  have hl1 : κ.2.2.2.1 r1 i1 < H.size := (Array.getElem?_eq_some_iff.mp hc1).1
  have hheap : ((T.setVm vm').setCell (κ.2.2.2.1 r1 i1) (vp_cell κ.2.2.2.2.1.1 (sz r1, .inl (fun j => Int32.ofInt (cpyM M r0 i0 sp r1 i1 dp n r1 i1 j))))).heap = H.setIfInBounds (κ.2.2.2.1 r1 i1) (vp_cell κ.2.2.2.2.1.1 (sz r1, .inl (fun j => Int32.ofInt (cpyM M r0 i0 sp r1 i1 dp n r1 i1 j)))) := by rw [← hT]; rfl
  have oq : ∀ q : Nat, q ≠ κ.2.2.2.1 r1 i1 → (H.setIfInBounds (κ.2.2.2.1 r1 i1) (vp_cell κ.2.2.2.2.1.1 (sz r1, .inl (fun j => Int32.ofInt (cpyM M r0 i0 sp r1 i1 dp n r1 i1 j)))))[q]? = H[q]? := fun q hq => by simp [Array.getElem?_setIfInBounds, Ne.symm hq]
  have hn1 : HI κ.2.2.1 κ.2.2.2.1 κ.2.2.2.2.1 κ.2.2.2.2.2 (cpyM M r0 i0 sp r1 i1 dp n) (H.setIfInBounds (κ.2.2.2.1 r1 i1) (vp_cell κ.2.2.2.2.1.1 (sz r1, .inl (fun j => Int32.ofInt (cpyM M r0 i0 sp r1 i1 dp n r1 i1 j))))) := by
    refine HI_put c8 ov1 hH ?_ ?_ oq
    · intro r' i' hne
      funext j'
      unfold cpyM
      rw [if_neg (fun z => hne ⟨z.1, z.2.1⟩)]
    · rw [ent_int hk1]
      show (H.setIfInBounds _ _)[_]? = some _
      simp [Array.getElem?_setIfInBounds, hl1]
  obtain ⟨t, a1, b1⟩ := k.1 (okM_cpy oM _ _ _ _ _ _ _) oL oS _ _ ls hn1 ⟨by simp; exact hS.1, fun q g1 g2 => by
      rw [oq q (fun e => g2 (by rw [e]; exact frA_in ov1))]
      exact hS.2.1 q g1 g2, fun q hq => by
      rcases List.mem_append.mp hq with h | h
      · exact hS.2.2 q h
      · obtain ⟨z, -, hz⟩ := List.mem_map.mp h
        rw [← hz]
        exact frA_in ov1⟩ hl _ hheap X'
  exact ⟨t, step t a1, b1⟩
