/-! ===== branches, fields, arrays, ends ===== -/
theorem rf_ok {dom : Nat → Bool} {r : Nat} {i : Int} {j : Nat} {q : Nat × Int} (hdom : Dm dom) (hi : dom r = true ∧ 0 ≤ i ∧ i < cn r) (h : rf r i j = some q) : okV dom (.inr q) := by
  obtain ⟨h1, h2, h3⟩ := hi
  unfold rf at h
  split at h
  all_goals first
    | (cases h; done)
    | (cases h
       rcases hdom with e | e <;> subst e <;> simp [okV, cn, rgT, Nat.blt, Nat.ble] at h1 h2 h3 ⊢ <;> omega)
def gv (M : Mem) (r : Nat) (i : Int) (j : Nat) : PV := match rf r i j with
  | some q => .inr q
  | none => .inl (M r i j)
/-- the word of a field at an index of a class's pool: class number, slot -/
def FL (own : String) (idx ci j : Nat) : Prop := ∃ (Cn : String) (T : u_T) (N : Nat), classes[ci]? = some (Cn, T, N) ∧ j < N ∧ (∀ w ∈ u_ws Cn T N, w ∈ tb) ∧
  (Cond.fieldLink own idx (T j).1 (T j).2.1 (T j).2.2.1 ∈ tb ∨ ∃ host : String, Cond.fieldLinkNest own idx (T j).1 (T j).2.1 (T j).2.2.1 host ∈ nw)
/-- may be written: an int, or a boolean -/
def PL (own : String) (idx ci j : Nat) (ty : FieldType) : Prop := ∃ (Cn : String) (T : u_T) (N : Nat), classes[ci]? = some (Cn, T, N) ∧ j < N ∧ (∀ w ∈ u_ws Cn T N, w ∈ tb) ∧
  (Cond.fieldLink own idx (T j).1 (T j).2.1 (T j).2.2.1 ∈ tb ∨ ∃ host : String, Cond.fieldLinkNest own idx (T j).1 (T j).2.1 (T j).2.2.1 host ∈ nw) ∧
  (T j).2.2.2 = false ∧ parseFieldDescriptor (T j).2.2.1 = some ty ∧ ∃ ty0 : Nat → FieldType, (∀ k, k < N → parseFieldDescriptor (T k).2.2.1 = some (ty0 k)) ∧ (∀ a, a < N → ∀ b, b < N → a ≠ b → (T a).2.1 ≠ (T b).2.1)
theorem Cx_dm {κ : Kx} {own : String} {cc : ByteArray} {nL : Nat} {ret : Option FieldType} {rm : Room} {dom : Nat → Bool} (C : Cx κ own cc nL ret rm dom) : Dm κ.2.2.2.2.2 := by
  rw [C.2.2.2.2.2.2.2.2.2.2.2.1]
  exact C.2.2.2.2.2.2.2.2.2.2.2.2
section VR2
variable {κ : Kx} {own : String} {cc : ByteArray} {nL : Nat} {ret : Option FieldType} {rm : Room} {dom : Nat → Bool} {M : Mem} {pc : Nat} {lv : List (Option PV)} {st : List PV} {K : Kont}
theorem v_icmp (C : Cx κ own cc nL ret rm dom) {cd : Jvm.ClassFile.Cond} {x y : Int} {off : Int} {tgt : Nat} {P : Prop} (hd : decode cc pc = .ok (.if_icmp cd off, 3)) (ht : (pc : Int) + off = (tgt : Int))
    (hP : match cd with | .eq => (x = y) = P | .ne => (x ≠ y) = P | .lt => (x < y) = P | .ge => (y ≤ x) = P | .gt => (y < x) = P | .le => (x ≤ y) = P)
    (kt : P → V κ nL M tgt lv st K) (kf : ¬ P → V κ nL M (pc + 3) lv st K) : V κ nL M pc lv (.inl y :: .inl x :: st) K := by
  refine ⟨?_, trivial⟩
  intro oM oL oS H locs ls hH hS hl
  obtain ⟨hy, hx, oS⟩ := oS
  have hx : inR x := hx
  have hy : inR y := hy
  have a := fun h : P => (kt h).1 oM oL oS H locs ls hH hS hl
  have b := fun h : ¬ P => (kf h).1 oM oL oS H locs ls hH hS hl
  cases cd <;> dsimp only at hP <;> subst hP
  · exact lv_icmp_eq C.1 C.2.1 hd ht (fun h => a ((oi_eq hx hy).mp h)) (fun h => b (fun q => h ((oi_eq hx hy).mpr q)))
  · exact lv_icmp_ne C.1 C.2.1 hd ht (fun h => a (fun q => h ((oi_eq hx hy).mpr q))) (fun h => b (fun q => q ((oi_eq hx hy).mp h)))
  · exact lv_icmp_lt C.1 C.2.1 hd ht (fun h => a ((oi_lt hx hy).mp h)) (fun h => b (fun q => h ((oi_lt hx hy).mpr q)))
  · exact lv_icmp_ge C.1 C.2.1 hd ht (fun h => a ((oi_le hy hx).mp h)) (fun h => b (fun q => h ((oi_le hy hx).mpr q)))
  · exact lv_icmp_gt C.1 C.2.1 hd ht (fun h => a ((oi_lt hy hx).mp h)) (fun h => b (fun q => h ((oi_lt hy hx).mpr q)))
  · exact lv_icmp_le C.1 C.2.1 hd ht (fun h => a ((oi_le hx hy).mp h)) (fun h => b (fun q => h ((oi_le hx hy).mpr q)))
theorem v_if (C : Cx κ own cc nL ret rm dom) {cd : Jvm.ClassFile.Cond} {x : Int} {off : Int} {tgt : Nat} {P : Prop} (hd : decode cc pc = .ok (.ifCond cd off, 3)) (ht : (pc : Int) + off = (tgt : Int))
    (hP : match cd with | .eq => (x = 0) = P | .ne => (x ≠ 0) = P | .lt => (x < 0) = P | .ge => (0 ≤ x) = P | .gt => (0 < x) = P | .le => (x ≤ 0) = P)
    (kt : P → V κ nL M tgt lv st K) (kf : ¬ P → V κ nL M (pc + 3) lv st K) : V κ nL M pc lv (.inl x :: st) K := by
  refine ⟨?_, trivial⟩
  intro oM oL oS H locs ls hH hS hl
  obtain ⟨hx, oS⟩ := oS
  have hx : inR x := hx
  have hy : inR 0 := by decide
  have a := fun h : P => (kt h).1 oM oL oS H locs ls hH hS hl
  have b := fun h : ¬ P => (kf h).1 oM oL oS H locs ls hH hS hl
  cases cd <;> dsimp only at hP <;> subst hP
  · exact lv_if_eq C.1 C.2.1 hd ht (fun h => a ((oi_eq hx hy).mp h)) (fun h => b (fun q => h ((oi_eq hx hy).mpr q)))
  · exact lv_if_ne C.1 C.2.1 hd ht (fun h => a (fun q => h ((oi_eq hx hy).mpr q))) (fun h => b (fun q => q ((oi_eq hx hy).mp h)))
  · exact lv_if_lt C.1 C.2.1 hd ht (fun h => a ((oi_lt hx hy).mp h)) (fun h => b (fun q => h ((oi_lt hx hy).mpr q)))
  · exact lv_if_ge C.1 C.2.1 hd ht (fun h => a ((oi_le hy hx).mp h)) (fun h => b (fun q => h ((oi_le hy hx).mpr q)))
  · exact lv_if_gt C.1 C.2.1 hd ht (fun h => a ((oi_lt hy hx).mp h)) (fun h => b (fun q => h ((oi_lt hy hx).mpr q)))
  · exact lv_if_le C.1 C.2.1 hd ht (fun h => a ((oi_le hx hy).mp h)) (fun h => b (fun q => h ((oi_le hx hy).mpr q)))
theorem v_tsw (C : Cx κ own cc nL ret rm dom) {dflt lo hi : Int} {offs : Array Int} {len : Nat} {x : Int} {dt : Nat} (hd : decode cc pc = .ok (.tableswitch dflt lo hi offs, len)) (ht : (pc : Int) + dflt = (dt : Int))
    (hin : ∀ j : Nat, lo + j = x → x ≤ hi → ∃ (off : Int) (tgt : Nat), offs[j]? = some off ∧ (pc : Int) + off = (tgt : Int) ∧ V κ nL M tgt lv st K) (hout : x < lo ∨ hi < x → V κ nL M dt lv st K) : V κ nL M pc lv (.inl x :: st) K := by
  refine ⟨?_, trivial⟩
  intro oM oL oS H locs ls hH hS hl
  obtain ⟨hx, oS⟩ := oS
  have hx : inR x := hx
  by_cases h : x < lo ∨ hi < x
  · exact lv_tableOut C.1 C.2.1 hd (by rw [oi_toInt hx]; exact h) ht ((hout h).1 oM oL oS H locs ls hH hS hl)
  · obtain ⟨off, tgt, h1, h2, h3⟩ := hin (x - lo).toNat (by omega) (by omega)
    exact lv_tableIn C.1 C.2.1 hd (by rw [oi_toInt hx]; omega) (by rw [oi_toInt hx]; omega) (by rw [oi_toInt hx]; exact h1) h2 (h3.1 oM oL oS H locs ls hH hS hl)
theorem ent_obj {ad : AD} {cs : CS} {r : Nat} {i : Int} {f : Int → Int} (h : kd r < 20) : ent ad cs r i f = .inr (kd r, (List.range (sz r)).map (fvl ad r i f)) := by
  unfold ent
  rw [if_neg (by omega), if_neg (by omega), if_neg (by omega)]
theorem v_get (C : Cx κ own cc nL ret rm dom) {r : Nat} {i : Int} {idx j ci : Nat} {w : PV} (hd : decode cc pc = .ok (.getfield idx, 3)) (hf : FL own idx ci j) (hk : kd r = ci) (hci : ci < 20) (hs : j < sz r) (hw : gv M r i j = w)
    (k : V κ nL M (pc + 3) lv (w :: st) K) : V κ nL M pc lv (.inr (r, i) :: st) K := by
  refine ⟨?_, trivial⟩
  intro oM oL oS H locs ls hH hS hl
  obtain ⟨hv, oS⟩ := oS
  subst hw
  have ow : okV κ.2.2.2.2.2 (gv M r i j) := by
    unfold gv
    split
    · rename_i q hq
      exact rf_ok (Cx_dm C) hv hq
    · exact oM _ _ _
  have h := k.1 oM oL ⟨ow, oS⟩ H locs ls hH hS hl
  have hat := hH r i hv.1 hv.2.1 hv.2.2
  rw [ent_obj (by omega)] at hat
  have hP : va_P κ.2.2.1 classes [(κ.2.2.2.1 r i, .inr (ci, (List.range (sz r)).map (fvl κ.2.2.2.1 r i (M r i))))] H := by
    intro k0 q hq
    cases k0 with
    | zero =>
      simp at hq
      subst hq
      rw [← hk]
      exact hat
    | succ n => simp at hq
  have hval : ((List.range (sz r)).map (fvl κ.2.2.2.1 r i (M r i)))[j]? = some (emb κ.2.2.2.1 (gv M r i j)) := by
    rw [List.getElem?_map, List.getElem?_range hs]
    cases hrf : rf r i j <;> simp [fvl, gv, hrf, emb]
  obtain ⟨Cn, T, N, h1, h2, h3, h4⟩ := hf
  rcases h4 with h4 | ⟨host, h4⟩
  · exact va_get C.1 C.2.1 C.2.2.2.2.1 h3 C.2.2.2.1 C.2.2.2.2.2.2.1 hP 0 rfl h1 j h2 (C.2.2.2.2.1 _ h4) (fun _ h9 => h9) hval hd h
  · exact va_getN C.1 C.2.1 C.2.2.2.2.1 h3 C.2.2.2.1 C.2.2.2.2.2.2.1 hP 0 rfl h1 j h2 (va_Nw.use rfl (C.2.2.2.2.2.1.1 _ h4)) (fun _ h9 => h9) hval hd h
/-- a cell is written anew: the heap holds the new memory -/
theorem HI_put {D : va_G} {ad : AD} {cs : CS} {dom : Nat → Bool} {M M' : Mem} {H H1 : Heap} {r : Nat} {i : Int} (hI : Inj ad dom) (hv : dom r = true ∧ 0 ≤ i ∧ i < cn r) (h : HI D ad cs dom M H) (hM : ∀ r' i', ¬ (r' = r ∧ i' = i) → M' r' i' = M r' i')
    (hn : va_at D classes (ad r i, ent ad cs r i (M' r i)) H1) (ho : ∀ q, q ≠ ad r i → H1[q]? = H[q]?) : HI D ad cs dom M' H1 := by
  intro r' i' h1 h2 h3
  by_cases e : r' = r ∧ i' = i
  · obtain ⟨e1, e2⟩ := e
    subst e1; subst e2
    exact hn
  · rw [hM r' i' e]
    refine (h r' i' h1 h2 h3).kept (ho _ ?_)
    intro q
    exact e (hI r' i' r i h1 h2 h3 hv.1 hv.2.1 hv.2.2 q)
theorem fvl_set {ad : AD} {r : Nat} {i : Int} {M : Mem} {j n : Nat} {x : Int} (hr : rf r i j = none) (hj : j < n) : (List.range n).map (fvl ad r i (up3 M r i j x r i)) = ((List.range n).map (fvl ad r i (M r i))).set j (.int (Int32.ofInt x)) := by
  apply List.ext_getElem?
  intro a
  rw [List.getElem?_set]
  by_cases h : j = a
  · subst h
    rw [if_pos rfl, if_pos (by simpa using hj), List.getElem?_map, List.getElem?_range hj]
    simp [fvl, hr, up3]
  · rw [if_neg h, List.getElem?_map, List.getElem?_map]
    by_cases ha : a < n
    · rw [List.getElem?_range ha]
      have h' : ¬ ((a : Int) = (j : Int)) := by omega
      simp [fvl, up3, h']
    · have e : (List.range n)[a]? = none := List.getElem?_eq_none (by simpa using Nat.le_of_not_lt ha)
      rw [e]
      rfl
theorem frA_in {ad : AD} {dom : Nat → Bool} {r : Nat} {i : Int} (hv : dom r = true ∧ 0 ≤ i ∧ i < cn r) : frA ad dom (ad r i) := ⟨r, i, hv.1, hv.2.1, hv.2.2, rfl⟩
theorem v_put (C : Cx κ own cc nL ret rm dom) {r : Nat} {i x : Int} {idx j ci : Nat} {ty : FieldType} (hd : decode cc pc = .ok (.putfield idx, 3)) (hf : PL own idx ci j ty) (hk : kd r = ci) (hci : ci < 20) (hs : j < sz r) (hr : rf r i j = none)
    (hn : narrow ty (.int (Int32.ofInt x)) = .int (Int32.ofInt x)) (hfit : fits ty (.int (Int32.ofInt x)) = true)
    (k : V κ nL (up3 M r i j x) (pc + 3) lv st K) : V κ nL M pc lv (.inl x :: .inr (r, i) :: st) K := by
  refine ⟨?_, trivial⟩
  intro oM oL oS H locs ls hH hS hl
  obtain ⟨hx, hv, oS⟩ := oS
  have hat := hH r i hv.1 hv.2.1 hv.2.2
  rw [ent_obj (by omega)] at hat
  obtain ⟨Cn, T, N, h1, h2, h3, h4, hfin, hpd, ty0, hty, hnm⟩ := hf
  obtain ⟨rr, h1', cell, q1, q2, q3, q4⟩ := hat
  dsimp only at h1' q1 q2 q3 q4
  rw [hk] at h1' q2 q4
  have hr' : rr = (Cn, T, N) := Option.some.inj (h1'.symm.trans h1)
  subst hr'
  have hK := C.2.2.2.2.2.2.1
  have hap := va_apart (own := own) C.2.2.2.2.1 h3 ty0 hty hnm hK h1
  obtain ⟨hSl, hfc, kC, hkC, hkind⟩ := hK.1 ci _ h1
  obtain ⟨cf, kf, fi, f, hi, hsl⟩ := hSl j h2
  have hlay := C.2.2.2.2.1 _ (h3 _ (u_in_lay h2))
  unfold u_lay at hlay
  rw [if_neg (by rw [hfin]; decide)] at hlay
  have hst := (u_facts hfc hkC (u_lays C.2.2.2.2.1 h3 h2) hi).1
  have h6 := u_store hfc hkC hkind hlay hi hpd hn hfit
  have hmid : ∀ H' : Heap, H'[κ.2.2.2.1 r i]? = some (cell.setSlot f.slot (.int (Int32.ofInt x))) → H'.size = H.size → (∀ q, q ≠ κ.2.2.2.1 r i → H'[q]? = H[q]?) →
      HI κ.2.2.1 κ.2.2.2.1 κ.2.2.2.2.1 κ.2.2.2.2.2 (up3 M r i j x) H' ∧ ∀ lc : Loc, lc.base = κ.2.2.2.1 r i → va_S (frA κ.2.2.2.1 κ.2.2.2.2.2) κ.1.2.2.2.2.heap H' (locs ++ [lc]) := by
    intro H' e1 e2 e3
    refine ⟨HI_put C.2.2.2.2.2.2.2.1 hv hH ?_ ?_ e3, fun lc hlc => ⟨by rw [e2]; exact hS.1, fun q hq hn => ?_, fun l9 hl9 => ?_⟩⟩
    · intro r' i' hne
      funext j'
      unfold up3
      rw [if_neg (fun h => hne ⟨h.1, h.2.1⟩)]
    · rw [ent_obj (r := r) (show kd r < 20 by rw [hk]; exact hci), fvl_set hr hs]
      refine ⟨(Cn, T, N), by rw [hk]; exact h1, ?_⟩
      dsimp only
      rw [hk]
      rw [hsl] at e1
      exact t_OB.to (V := updV (vp_V ((List.range (sz r)).map (fvl κ.2.2.2.1 r i (M r i)))) j (.int (Int32.ofInt x))) ⟨_, e1, q2, q3, t_set q4 hap h2 _⟩ (fun j' _ => vp_updV_set (by simpa using hs) _ j')
    · rw [e3 q (fun e => hn (by rw [e]; exact frA_in hv))]
      exact hS.2.1 q hq hn
    · rcases List.mem_append.mp hl9 with h' | h'
      · exact hS.2.2 l9 h'
      · rw [List.mem_singleton.mp h', hlc]
        exact frA_in hv
  rcases h4 with h4 | ⟨host, h4⟩
  · refine W.putK C.1 C.2.1 (f := f) ⟨C.2.2.2.1, C.2.2.2.2.1 _ h4, ⟨_, _, _, hi⟩, hst⟩ (by rw [q2]; exact h6) q1 q3 (by rw [hsl]; exact k2_hasslot (q4 j h2)) rfl rfl hd fun H' e1 e2 e3 => ?_
    have hh := hmid H' e1 e2 e3
    exact k.1 (okM_upd oM hx) oL oS H' _ ls hh.1 (hh.2 ⟨_, _⟩ rfl) hl
  · refine va_WputK C.1 C.2.1 (f := f) C.2.2.2.1 (va_Nw.use rfl (C.2.2.2.2.2.1.1 _ h4)) hi hst (by rw [q2]; exact h6) q1 q3 (by rw [hsl]; exact k2_hasslot (q4 j h2)) rfl rfl hd fun H' e1 e2 e3 => ?_
    have hh := hmid H' e1 e2 e3
    exact k.1 (okM_upd oM hx) oL oS H' _ ls hh.1 (hh.2 ⟨_, _⟩ rfl) hl
theorem ent_int {ad : AD} {cs : CS} {r : Nat} {i : Int} {f : Int → Int} (h : kd r = 20) : ent ad cs r i f = .inl (cs.1, sz r, .inl (fun j => Int32.ofInt (f j))) := by
  unfold ent
  rw [if_pos h]
theorem ent_chr {ad : AD} {cs : CS} {r : Nat} {i : Int} {f : Int → Int} (h : kd r = 21) : ent ad cs r i f = .inl (cs.2.1, sz r, .inl (fun j => Int32.ofInt (f j))) := by
  unfold ent
  rw [if_neg (by omega), if_pos h]
theorem ent_pic {ad : AD} {cs : CS} {r : Nat} {i : Int} {f : Int → Int} (h : kd r = 22) : ent ad cs r i f = .inl (cs.2.2, sz r, .inr (.inr (.inr (.inr (fun j => some (ad 11 (7 * i + j))))))) := by
  unfold ent
  rw [if_neg (by omega), if_neg (by omega), if_pos h]
theorem P_one {D : va_G} {a : Nat} {e : va_E} {H : Heap} (h : va_at D classes (a, e) H) : va_P D classes [(a, e)] H := by
  intro k0 q hq
  cases k0 with
  | zero =>
    simp at hq
    subst hq
    exact h
  | succ n => simp at hq
theorem v_iald (C : Cx κ own cc nL ret rm dom) {r : Nat} {i x : Int} (hd : decode cc pc = .ok (.iaload, 1)) (hk : kd r = 20) (h0 : 0 ≤ x) (h1 : x < sz r) (k : V κ nL M (pc + 1) lv (.inl (M r i x) :: st) K) : V κ nL M pc lv (.inl x :: .inr (r, i) :: st) K := by
  refine ⟨?_, trivial⟩
  intro oM oL oS H locs ls hH hS hl
  obtain ⟨hx, hv, oS⟩ := oS
  have h := k.1 oM oL ⟨oM _ _ _, oS⟩ H locs ls hH hS hl
  have hat := hH r i hv.1 hv.2.1 hv.2.2
  rw [ent_int hk] at hat
  refine va_iald C.1 C.2.1 C.2.2.2.2.2.2.1 (P_one hat) 0 0 rfl rfl (oi_in hx h0 h1) hd ?_
  rw [oi_clamp hx, oi_nat h0]
  exact h
theorem v_cald (C : Cx κ own cc nL ret rm dom) {r : Nat} {i x : Int} (hd : decode cc pc = .ok (.caload, 1)) (hk : kd r = 21) (h0 : 0 ≤ x) (h1 : x < sz r) (k : V κ nL M (pc + 1) lv (.inl (M r i x) :: st) K) : V κ nL M pc lv (.inl x :: .inr (r, i) :: st) K := by
  refine ⟨?_, trivial⟩
  intro oM oL oS H locs ls hH hS hl
  obtain ⟨hx, hv, oS⟩ := oS
  have h := k.1 oM oL ⟨oM _ _ _, oS⟩ H locs ls hH hS hl
  have hat := hH r i hv.1 hv.2.1 hv.2.2
  rw [ent_chr hk] at hat
  refine va_cald C.1 C.2.1 C.2.2.2.2.2.2.1 (P_one hat) 0 1 rfl rfl (oi_in hx h0 h1) hd ?_
  rw [oi_clamp hx, oi_nat h0]
  exact h
theorem v_aald (C : Cx κ own cc nL ret rm dom) {i x : Int} (hd : decode cc pc = .ok (.aaload, 1)) (h0 : 0 ≤ x) (h1 : x < 7) (k : V κ nL M (pc + 1) lv (.inr (11, 7 * i + x) :: st) K) : V κ nL M pc lv (.inl x :: .inr (10, i) :: st) K := by
  refine ⟨?_, trivial⟩
  intro oM oL oS H locs ls hH hS hl
  obtain ⟨hx, hv, oS⟩ := oS
  have hv1 : κ.2.2.2.2.2 10 = true := hv.1
  have hv2 : 0 ≤ i := hv.2.1
  have hv3 : i < 2 := hv.2.2
  have hv' : okV κ.2.2.2.2.2 (.inr (11, 7 * i + x)) := by
    refine ⟨?_, by show 0 ≤ 7 * i + x; omega, by show 7 * i + x < 14; omega⟩
    rcases Cx_dm C with e | e <;> rw [e] at hv1 ⊢ <;> simp_all [Nat.blt, Nat.ble]
  have h := k.1 oM oL ⟨hv', oS⟩ H locs ls hH hS hl
  have hat := hH 10 i hv.1 hv.2.1 hv.2.2
  rw [ent_pic rfl] at hat
  refine va_aldq C.1 C.2.1 C.2.2.2.2.2.2.1 (P_one hat) 0 2 rfl rfl (oi_in (n := sz 10) hx h0 h1) hd ?_
  rw [oi_clamp hx, oi_nat h0]
  exact h
theorem HI_arr {D : va_G} {ad : AD} {cs : CS} {dom : Nat → Bool} {M : Mem} {H H1 : Heap} {r : Nat} {i x v : Int} {cA : ClassId} (hI : Inj ad dom) (hv : dom r = true ∧ 0 ≤ i ∧ i < cn r) (h : HI D ad cs dom M H) (h0 : 0 ≤ x)
    (he : ∀ f, ent ad cs r i f = .inl (cA, sz r, .inl (fun j => Int32.ofInt (f j)))) (hn : H1[ad r i]? = some ((vp_cell cA (sz r, .inl (fun j => Int32.ofInt (M r i j)))).setSlot x.toNat (.int (Int32.ofInt v)))) (ho : ∀ q, q ≠ ad r i → H1[q]? = H[q]?) : HI D ad cs dom (up3 M r i x v) H1 := by
  refine HI_put hI hv h ?_ ?_ ho
  · intro r' i' hne
    funext j'
    unfold up3
    rw [if_neg (fun h => hne ⟨h.1, h.2.1⟩)]
  · rw [he]
    show H1[ad r i]? = some (vp_cell _ _)
    rw [hn, vp_cell_i, vp_cell_i, arrV_store]
    congr 2
    funext q
    by_cases hq : q = x.toNat
    · subst hq
      simp [updV, up3, oi_nat h0]
    · have : ¬ ((q : Int) = x) := by omega
      simp [updV, up3, hq, this]
theorem v_iast (C : Cx κ own cc nL ret rm dom) {r : Nat} {i x v : Int} (hd : decode cc pc = .ok (.iastore, 1)) (hk : kd r = 20) (h0 : 0 ≤ x) (h1 : x < sz r) (k : V κ nL (up3 M r i x v) (pc + 1) lv st K) : V κ nL M pc lv (.inl v :: .inl x :: .inr (r, i) :: st) K := by
  refine ⟨?_, trivial⟩
  intro oM oL oS H locs ls hH hS hl
  obtain ⟨hw, hx, hv, oS⟩ := oS
  have hat := hH r i hv.1 hv.2.1 hv.2.2
  rw [ent_int hk] at hat
  have hin := oi_in hx h0 h1
  refine W.iast C.1 C.2.1 (j := Int32.ofInt x) (x := Int32.ofInt v) hat ((C.2.2.2.2.2.2.1.2 0 _ rfl).1 (sz r) (fun j => .int (Int32.ofInt (M r i j)))) (fun q => by cases q) (by show ¬ (_ < 0 ∨ (arrV _ _ _).slots.size ≤ _); rw [arrV_size]; exact hin) rfl rfl hd fun H1 e z oq => ?_
  rw [oi_clamp hx] at e ⊢
  refine k.1 (okM_upd oM hw) oL oS H1 _ ls (HI_arr C.2.2.2.2.2.2.2.1 hv hH h0 (fun f => ent_int hk) e oq) ?_ hl
  refine ⟨by rw [z]; exact hS.1, fun q hq hn => ?_, fun l9 hl9 => ?_⟩
  · rw [oq q (fun e => hn (by rw [e]; exact frA_in hv))]
    exact hS.2.1 q hq hn
  · rcases List.mem_append.mp hl9 with h' | h'
    · exact hS.2.2 l9 h'
    · rw [List.mem_singleton.mp h']
      exact frA_in hv
theorem v_cast (C : Cx κ own cc nL ret rm dom) {r : Nat} {i x v : Int} (hd : decode cc pc = .ok (.castore, 1)) (hk : kd r = 21) (h0 : 0 ≤ x) (h1 : x < sz r) (hv0 : 0 ≤ v) (hv1 : v < 65536) (k : V κ nL (up3 M r i x v) (pc + 1) lv st K) : V κ nL M pc lv (.inl v :: .inl x :: .inr (r, i) :: st) K := by
  refine ⟨?_, trivial⟩
  intro oM oL oS H locs ls hH hS hl
  obtain ⟨hw, hx, hv, oS⟩ := oS
  have hat := hH r i hv.1 hv.2.1 hv.2.2
  rw [ent_chr hk] at hat
  have hin := oi_in hx h0 h1
  refine W.cast C.1 C.2.1 (j := Int32.ofInt x) (x := Int32.ofInt v) hat ((C.2.2.2.2.2.2.1.2 1 _ rfl).1 (sz r) (fun j => .int (Int32.ofInt (M r i j)))) (fun q => by cases q) (by show ¬ (_ < 0 ∨ (arrV _ _ _).slots.size ≤ _); rw [arrV_size]; exact hin) rfl rfl hd fun H1 e z oq => ?_
  have hnar : narrow .char (.int (Int32.ofInt v)) = .int (Int32.ofInt v) := by
    have e1 : Int32.ofInt v = nI v.toNat := by
      show Int32.ofInt v = Int32.ofNat v.toNat
      rw [← Int32.ofInt_eq_ofNat, oi_nat hv0]
    rw [e1]
    exact (pk_charN (by omega)).1
  rw [oi_clamp hx, hnar] at e
  rw [oi_clamp hx]
  refine k.1 (okM_upd oM hw) oL oS H1 _ ls (HI_arr C.2.2.2.2.2.2.2.1 hv hH h0 (fun f => ent_chr hk) e oq) ?_ hl
  refine ⟨by rw [z]; exact hS.1, fun q hq hn => ?_, fun l9 hl9 => ?_⟩
  · rw [oq q (fun e => hn (by rw [e]; exact frA_in hv))]
    exact hS.2.1 q hq hn
  · rcases List.mem_append.mp hl9 with h' | h'
    · exact hS.2.2 l9 h'
    · rw [List.mem_singleton.mp h']
      exact frA_in hv
theorem v_i2c (C : Cx κ own cc nL ret rm dom) {x : Int} (hd : decode cc pc = .ok (.i2c, 1)) (h0 : 0 ≤ x) (h1 : x < 65536) (k : V κ nL M (pc + 1) lv (.inl x :: st) K) : V κ nL M pc lv (.inl x :: st) K := by
  refine ⟨?_, trivial⟩
  intro oM oL oS H locs ls hH hS hl
  refine lv_i2c C.1 C.2.1 hd (v := Int32.ofInt x) ?_ (k.1 oM oL oS H locs ls hH hS hl)
  have e1 : Int32.ofInt x = nI x.toNat := by
    show Int32.ofInt x = Int32.ofNat x.toNat
    rw [← Int32.ofInt_eq_ofNat, oi_nat h0]
  rw [pk_char, e1, pk_tn (by omega), Nat.mod_eq_of_lt (by omega)]
theorem v_iret (C : Cx κ own cc nL (some .int) rm dom) {x : Int} (hd : decode cc pc = .ok (.ireturn, 1)) (k : K (some x) M) : V κ nL M pc lv [.inl x] K := by
  refine ⟨?_, trivial⟩
  intro oM oL oS H locs ls hH hS hl
  exact W.iret C.1 C.2.1 C.2.2.2.2.2.2.2.2.2.1 (fun t ht hW => ⟨⟨some x, M, rfl, fun y hy => by cases hy; exact oS.1, oM, k, by rw [ht]; exact hH⟩, hS.F ht⟩) hS.2.2 hd C.2.2.2.2.2.2.2.2.1
theorem v_zret (C : Cx κ own cc nL (some .boolean) rm dom) {x : Int} (hd : decode cc pc = .ok (.ireturn, 1)) (hx : x = 0 ∨ x = 1) (k : K (some x) M) : V κ nL M pc lv [.inl x] K := by
  refine ⟨?_, trivial⟩
  intro oM oL oS H locs ls hH hS hl
  exact W.zret C.1 C.2.1 C.2.2.2.2.2.2.2.2.2.1 (by rcases hx with e | e <;> subst e <;> rfl) (fun t ht hW => ⟨⟨some x, M, rfl, fun y hy => by cases hy; exact oS.1, oM, k, by rw [ht]; exact hH⟩, hS.F ht⟩) hS.2.2 hd C.2.2.2.2.2.2.2.2.1
theorem v_vret (C : Cx κ own cc nL none rm dom) (hd : decode cc pc = .ok (.return_, 1)) (k : K none M) : V κ nL M pc lv [] K := by
  refine ⟨?_, trivial⟩
  intro oM oL oS H locs ls hH hS hl
  exact W.vret C.1 C.2.1 C.2.2.2.2.2.2.2.2.2.1 (fun t ht hW => ⟨⟨none, M, rfl, fun y hy => (by cases hy), oM, k, by rw [ht]; exact hH⟩, hS.F ht⟩) hS.2.2 hd C.2.2.2.2.2.2.2.2.1
end VR2
