/-! ===== G over memories: the world is HI ===== -/
abbrev HP (κ : Kg) (ad : AD) (dom : Nat → Bool) (M : Mem) : Heap → Prop := fun H => HI κ.2.2.1 ad κ.2.2.2.1 dom M H
def HWd (κ : Kg) (ad : AD) (dom : Nat → Bool) : Prop := Inj ad dom ∧ Dm dom ∧ ∀ q, frA ad dom q → κ.2.2.2.2.1 q
section HR
variable {κ : Kg} {own : String} {cc : ByteArray} {nL : Nat} {ret : Option FieldType} {rm : Room} {n z : Nat} {P : Heap → Prop} {pc : Nat} {lv : List (Nat × Value)} {st : List Value} {ad : AD} {dom : Nat → Bool} {M : Mem}
theorem h_getr (C : Cg κ own cc nL ret rm) {r : Nat} {i : Int} {idx j ci : Nat} {q : Nat × Int} (hd : decode cc pc = .ok (.getfield idx, 3)) (hf : FL own idx ci j) (hk : kd r = ci) (hci : ci < 20) (hs : j < sz r) (hrf : rf r i j = some q) (hv : dom r = true ∧ 0 ≤ i ∧ i < cn r)
    (k : G κ nL n z (HP κ ad dom M) (pc + 3) lv (.ref (ad q.1 q.2) :: st)) : G κ nL n z (HP κ ad dom M) pc lv (.ref (ad r i) :: st) := by
  refine ⟨fun H locs ls hH hS hl => ?_, trivial⟩
  have h := k.1 H locs ls hH hS hl
  have hat := hH r i hv.1 hv.2.1 hv.2.2
  rw [ent_obj (by omega)] at hat
  have hP : va_P κ.2.2.1 classes [(ad r i, .inr (ci, (List.range (sz r)).map (fvl ad r i (M r i))))] H := by
    rw [← hk]
    exact P_one hat
  have hval : ((List.range (sz r)).map (fvl ad r i (M r i)))[j]? = some (.ref (ad q.1 q.2)) := by
    rw [List.getElem?_map, List.getElem?_range hs]
    simp [fvl, hrf]
  obtain ⟨Cn, T, N, h1, h2, h3, h4⟩ := hf
  rcases h4 with h4 | ⟨host, h4⟩
  · exact va_get C.1 C.2.1 C.2.2.2.2.1 h3 C.2.2.2.1 C.2.2.2.2.2.2.1 hP 0 rfl h1 j h2 (C.2.2.2.2.1 _ h4) (fun _ h9 => h9) hval hd h
  · exact va_getN C.1 C.2.1 C.2.2.2.2.1 h3 C.2.2.2.1 C.2.2.2.2.2.2.1 hP 0 rfl h1 j h2 (va_Nw.use rfl (C.2.2.2.2.2.1.1 _ h4)) (fun _ h9 => h9) hval hd h
theorem h_put (C : Cg κ own cc nL ret rm) (hW : HWd κ ad dom) {r : Nat} {i x : Int} {idx j ci : Nat} {ty : FieldType} (hd : decode cc pc = .ok (.putfield idx, 3)) (hf : PL own idx ci j ty) (hk : kd r = ci) (hci : ci < 20) (hs : j < sz r) (hr : rf r i j = none) (hv : dom r = true ∧ 0 ≤ i ∧ i < cn r)
    (hn : narrow ty (.int (Int32.ofInt x)) = .int (Int32.ofInt x)) (hfit : fits ty (.int (Int32.ofInt x)) = true)
    (k : G κ nL n z (HP κ ad dom (up3 M r i j x)) (pc + 3) lv st) : G κ nL n z (HP κ ad dom M) pc lv (.int (Int32.ofInt x) :: .ref (ad r i) :: st) := by
  refine ⟨fun H locs ls hH hS hl => ?_, trivial⟩
  have hat := hH r i hv.1 hv.2.1 hv.2.2
  rw [ent_obj (by omega)] at hat
  obtain ⟨Cn, T, N, h1, h2, h3, h4, hfin, hpd, ty0, hty, hnm⟩ := hf
  obtain ⟨rr, h1', cell, q1, q2, q3, q4⟩ := hat
  dsimp only at h1' q1 q2 q3 q4
  rw [hk] at h1' q2 q4
  have hr' : rr = (Cn, T, N) := Option.some.inj (h1'.symm.trans h1)
  subst hr'
  have hK := C.2.2.2.2.2.2.1
  have hap := va_apart (own := own) C.2.2.2.2.1 h3 ty0 hty hnm hK h1
  obtain ⟨hSl, hfc, kC, hkC, hkind⟩ := hK.1 ci _ h1
  obtain ⟨cf, kf, fi, f, hi, hsl⟩ := hSl j h2
  have hlay := C.2.2.2.2.1 _ (h3 _ (u_in_lay h2))
  unfold u_lay at hlay
  rw [if_neg (by rw [hfin]; decide)] at hlay
  have hst := (u_facts hfc hkC (u_lays C.2.2.2.2.1 h3 h2) hi).1
  have h6 := u_store hfc hkC hkind hlay hi hpd hn hfit
  have hmid : ∀ H' : Heap, H'[ad r i]? = some (cell.setSlot f.slot (.int (Int32.ofInt x))) → H'.size = H.size → (∀ q, q ≠ ad r i → H'[q]? = H[q]?) →
      HI κ.2.2.1 ad κ.2.2.2.1 dom (up3 M r i j x) H' ∧ ∀ lc : Loc, lc.base = ad r i → va_S κ.2.2.2.2.1 κ.1.2.2.2.2.heap H' (locs ++ [lc]) := by
    intro H' e1 e2 e3
    refine ⟨HI_put hW.1 hv hH ?_ ?_ e3, fun lc hlc => ⟨by rw [e2]; exact hS.1, fun q hq hn => ?_, fun l9 hl9 => ?_⟩⟩
    · intro r' i' hne
      funext j'
      unfold up3
      rw [if_neg (fun h => hne ⟨h.1, h.2.1⟩)]
    · rw [ent_obj (r := r) (show kd r < 20 by rw [hk]; exact hci), fvl_set hr hs]
      refine ⟨(Cn, T, N), by rw [hk]; exact h1, ?_⟩
      dsimp only
      rw [hk]
      rw [hsl] at e1
      exact t_OB.to (V := updV (vp_V ((List.range (sz r)).map (fvl ad r i (M r i)))) j (.int (Int32.ofInt x))) ⟨_, e1, q2, q3, t_set q4 hap h2 _⟩ (fun j' _ => vp_updV_set (by simpa using hs) _ j')
    · rw [e3 q (fun e => hn (by rw [e]; exact hW.2.2 _ (frA_in hv)))]
      exact hS.2.1 q hq hn
    · rcases List.mem_append.mp hl9 with h' | h'
      · exact hS.2.2 l9 h'
      · rw [List.mem_singleton.mp h', hlc]
        exact hW.2.2 _ (frA_in hv)
  rcases h4 with h4 | ⟨host, h4⟩
  · refine W.putK C.1 C.2.1 (f := f) ⟨C.2.2.2.1, C.2.2.2.2.1 _ h4, ⟨_, _, _, hi⟩, hst⟩ (by rw [q2]; exact h6) q1 q3 (by rw [hsl]; exact k2_hasslot (q4 j h2)) rfl rfl hd fun H' e1 e2 e3 => ?_
    have hh := hmid H' e1 e2 e3
    exact k.1 H' _ ls hh.1 (hh.2 ⟨_, _⟩ rfl) hl
  · refine va_WputK C.1 C.2.1 (f := f) C.2.2.2.1 (va_Nw.use rfl (C.2.2.2.2.2.1.1 _ h4)) hi hst (by rw [q2]; exact h6) q1 q3 (by rw [hsl]; exact k2_hasslot (q4 j h2)) rfl rfl hd fun H' e1 e2 e3 => ?_
    have hh := hmid H' e1 e2 e3
    exact k.1 H' _ ls hh.1 (hh.2 ⟨_, _⟩ rfl) hl
theorem h_iald (C : Cg κ own cc nL ret rm) {r : Nat} {i x : Int} (hd : decode cc pc = .ok (.iaload, 1)) (hk : kd r = 20) (hv : dom r = true ∧ 0 ≤ i ∧ i < cn r) (hx : inR x) (h0 : 0 ≤ x) (h1 : x < sz r) (k : G κ nL n z (HP κ ad dom M) (pc + 1) lv (.int (Int32.ofInt (M r i x)) :: st)) : G κ nL n z (HP κ ad dom M) pc lv (.int (Int32.ofInt x) :: .ref (ad r i) :: st) := by
  refine ⟨fun H locs ls hH hS hl => ?_, trivial⟩
  have h := k.1 H locs ls hH hS hl
  have hat := hH r i hv.1 hv.2.1 hv.2.2
  rw [ent_int hk] at hat
  refine va_iald C.1 C.2.1 C.2.2.2.2.2.2.1 (P_one hat) 0 0 rfl rfl (oi_in hx h0 h1) hd ?_
  rw [oi_clamp hx, oi_nat h0]
  exact h
theorem h_iast (C : Cg κ own cc nL ret rm) (hW : HWd κ ad dom) {r : Nat} {i x v : Int} (hd : decode cc pc = .ok (.iastore, 1)) (hk : kd r = 20) (hv : dom r = true ∧ 0 ≤ i ∧ i < cn r) (hx : inR x) (h0 : 0 ≤ x) (h1 : x < sz r) (k : G κ nL n z (HP κ ad dom (up3 M r i x v)) (pc + 1) lv st) : G κ nL n z (HP κ ad dom M) pc lv (.int (Int32.ofInt v) :: .int (Int32.ofInt x) :: .ref (ad r i) :: st) := by
  refine ⟨fun H locs ls hH hS hl => ?_, trivial⟩
  have hat := hH r i hv.1 hv.2.1 hv.2.2
  rw [ent_int hk] at hat
  have hin := oi_in hx h0 h1
  refine W.iast C.1 C.2.1 (j := Int32.ofInt x) (x := Int32.ofInt v) hat ((C.2.2.2.2.2.2.1.2 0 _ rfl).1 (sz r) (fun j => .int (Int32.ofInt (M r i j)))) (fun q => by cases q) (by show ¬ (_ < 0 ∨ (arrV _ _ _).slots.size ≤ _); rw [arrV_size]; exact hin) rfl rfl hd fun H1 e z oq => ?_
  rw [oi_clamp hx] at e ⊢
  refine k.1 H1 _ ls (HI_arr hW.1 hv hH h0 (fun f => ent_int hk) e oq) ?_ hl
  refine ⟨by rw [z]; exact hS.1, fun q hq hn => ?_, fun l9 hl9 => ?_⟩
  · rw [oq q (fun e => hn (by rw [e]; exact hW.2.2 _ (frA_in hv)))]
    exact hS.2.1 q hq hn
  · rcases List.mem_append.mp hl9 with h' | h'
    · exact hS.2.2 l9 h'
    · rw [List.mem_singleton.mp h']
      exact hW.2.2 _ (frA_in hv)
theorem h_cast (C : Cg κ own cc nL ret rm) (hW : HWd κ ad dom) {r : Nat} {i x v : Int} (hd : decode cc pc = .ok (.castore, 1)) (hk : kd r = 21) (hv : dom r = true ∧ 0 ≤ i ∧ i < cn r) (hx : inR x) (h0 : 0 ≤ x) (h1 : x < sz r) (hv0 : 0 ≤ v) (hv1 : v < 65536) (k : G κ nL n z (HP κ ad dom (up3 M r i x v)) (pc + 1) lv st) : G κ nL n z (HP κ ad dom M) pc lv (.int (Int32.ofInt v) :: .int (Int32.ofInt x) :: .ref (ad r i) :: st) := by
  refine ⟨fun H locs ls hH hS hl => ?_, trivial⟩
  have hat := hH r i hv.1 hv.2.1 hv.2.2
  rw [ent_chr hk] at hat
  have hin := oi_in hx h0 h1
  refine W.cast C.1 C.2.1 (j := Int32.ofInt x) (x := Int32.ofInt v) hat ((C.2.2.2.2.2.2.1.2 1 _ rfl).1 (sz r) (fun j => .int (Int32.ofInt (M r i j)))) (fun q => by cases q) (by show ¬ (_ < 0 ∨ (arrV _ _ _).slots.size ≤ _); rw [arrV_size]; exact hin) rfl rfl hd fun H1 e z oq => ?_
  have hnar : narrow .char (.int (Int32.ofInt v)) = .int (Int32.ofInt v) := by
    have e1 : Int32.ofInt v = nI v.toNat := by
      show Int32.ofInt v = Int32.ofNat v.toNat
      rw [← Int32.ofInt_eq_ofNat, oi_nat hv0]
    rw [e1]
    exact (pk_charN (by omega)).1
  rw [oi_clamp hx, hnar] at e
  rw [oi_clamp hx]
  refine k.1 H1 _ ls (HI_arr hW.1 hv hH h0 (fun f => ent_chr hk) e oq) ?_ hl
  refine ⟨by rw [z]; exact hS.1, fun q hq hn => ?_, fun l9 hl9 => ?_⟩
  · rw [oq q (fun e => hn (by rw [e]; exact hW.2.2 _ (frA_in hv)))]
    exact hS.2.1 q hq hn
  · rcases List.mem_append.mp hl9 with h' | h'
    · exact hS.2.2 l9 h'
    · rw [List.mem_singleton.mp h']
      exact hW.2.2 _ (frA_in hv)
def pushV : Option Int → List Value → List Value
  | some x, st => .int (Int32.ofInt x) :: st
  | none, st => st
/-- a call by contract; X: what lies beside -/
theorem h_call {α : Type} {y : MethodName} {b : ByteArray} {mL : Nat} {rt : Option FieldType} {rm' : Room} {arg : α → List PV} {sp : α → Mem → Kont → Prop} (C : Cg κ own cc nL ret rm) (hW : HWd κ ad dom) (hM : Ct y b mL rt rm' dom arg sp) {idx n0 : Nat} (hd : decode cc pc = .ok (.invokevirtual idx, 3)) (hw : IV own idx y b mL rt n0) (hR : RmOk rm' rm mL) (hc : n ≤ rm.cells ∧ z ≤ rm.slots)
    (a : α) {r : Nat} {i : Int} {As : List PV} {ci : Nat} {T : u_T} {N : Nat} {st0 : List Value} (ha : arg a = .inr (r, i) :: As) (hn : As.length = n0) (hk : kd r = ci) (hci : ci < 20) (hcl : classes[ci]? = some (y.cls, T, N)) (oM : okM M) (oA : okS dom (arg a)) {X : Heap → Prop} (hX : ∀ H H1 : Heap, X H → H.size ≤ H1.size → (∀ q, q < H.size → ¬ frA ad dom q → H1[q]? = H[q]?) → X H1)
    (hst : st0 = (As.map (emb ad)).reverse ++ .ref (ad r i) :: st) (h8 : (st.map fun v => v.category).sum ≤ 8)
    {K1 : Kont} (k : sp a M K1) (kk : ∀ (x : Option Int) (M' : Mem), okM M' → (∀ z, x = some z → inR z) → K1 x M' → G κ nL n z (fun H => HI κ.2.2.1 ad κ.2.2.2.1 dom M' H ∧ X H) (pc + 3) lv (pushV x st)) : G κ nL n z (fun H => HI κ.2.2.1 ad κ.2.2.2.1 dom M H ∧ X H) pc lv st0 := by
  refine ⟨fun H locs ls hP hS hl => ?_, trivial⟩
  subst hst
  obtain ⟨hH, hXH⟩ := hP
  obtain ⟨c1, c2, c3, c4, c5, c6, c7, c8, c9, c10, c11⟩ := id C
  obtain ⟨hI, hDm, hFA⟩ := hW
  have oArg := oA
  rw [ha] at oArg
  have o2 := oArg.1
  have hMet := hM κ.1.2.1 κ.2.2.1 ad κ.2.2.2.1 a M _ hI oM oA k
  have hat := hH r i o2.1 o2.2.1 o2.2.2
  rw [ent_obj (by omega)] at hat
  obtain ⟨w1, w2, w3, w4, w5, w6⟩ := hw
  have hrun := va_runV (bytes := b) (maxL := mL) (ret := rt) (C := y.cls) (As := As.map (emb ad)) (b := ad r i) (rest := st) (n := n0) (H := H) (locs := locs) (cells := n) (slots := z) (R := κ.1.2.2.2.1) (e := κ.1.2.2.1) (below := κ.2.1.2.2.1) (meth := κ.2.1.2.2.2.1) (g := F0 κ.2.1.1 pc ls ((As.map (emb ad)).reverse ++ .ref (ad r i) :: st)) ⟨c1, c2, c3, c4, c5⟩ hMet (by
      rw [c11]
      refine cwV n0 c5 ?_ rfl hR.2.2.1 hR.2.2.2 ⟨rfl, w6⟩ ⟨hR.1, hR.2.1⟩
      intro w hw'
      rcases List.mem_append.mp hw' with h | h
      · have : w ∈ tb := by
          simp only [List.mem_cons, List.not_mem_nil, or_false] at h
          rcases h with h | h | h | h <;> subst h <;> assumption
        exact ⟨this, good_of_word (List.mem_filter.mp this).2⟩
      · exact good_tb (fun w h => h) w5 w h) ⟨PcX_blind, (by
      obtain ⟨rr, h1', cell, q1, q2, q3, q4⟩ := hat
      dsimp only at h1' q1 q2 q3 q4
      rw [hk] at h1' q2
      exact ⟨cell, q1, by rw [q3]; rfl, by rw [q2]; exact (c7.1 ci _ hcl).2.1⟩), (by
      intro U hU hW
      refine ⟨?_, va_K.moved hW.alike c7, ⟨NWX.warm hW c6.1, SX.narrow hFA (SX.warm hW (fun q a b => by rw [hU]; exact hS.2.1 q a b) c6.2.1)⟩, by rw [hU]; exact hH⟩
      rw [ha]
      rfl)⟩ rfl (by rw [List.length_map]; exact hn) hl.1 rfl (lv_room h8) hd ⟨by rw [c11]; exact hc.1, by rw [c11]; exact hc.2⟩
  intro T hT XX
  obtain ⟨v, st₀, t, T', L, h0, X', hL, e1, e2, ⟨⟨rr, M', hv, hin, oM', hk', hH'⟩, hz, hkp⟩, stp⟩ := hrun T hT XX
  rw [h0] at hz hkp
  have hS' : va_S κ.2.2.2.2.1 κ.1.2.2.2.2.heap T'.heap (locs ++ L) := by
    refine ⟨Nat.le_trans hS.1 (by rw [e1]; exact hz), fun q h1 h2 => ?_, fun q hq => ?_⟩
    · rw [e1, hkp q (Nat.lt_of_lt_of_le h1 hS.1) (fun z => h2 (hFA q z))]
      exact hS.2.1 q h1 h2
    · rcases List.mem_append.mp hq with h | h
      · exact hS.2.2 q h
      · exact hFA _ (hL q h)
  obtain ⟨t2, a1, b1⟩ := (kk rr M' oM' hin hk').1 T'.heap (locs ++ L) ls ⟨by rw [e1]; exact hH', hX H T'.heap hXH (by rw [e1]; exact hz) (fun q h1 h2 => by rw [e1]; exact hkp q h1 h2)⟩ hS' hl T' rfl X'
  refine ⟨t2, stp t2 ?_, b1⟩
  have ev : v = rr.map fun x => .int (Int32.ofInt x) := by injection hv
  subst ev
  cases rr with
  | none => exact a1
  | some x => exact a1
theorem g_min (C : Cg κ own cc nL ret rm) {idx : Nat} {x y v : Int32} (hd : decode cc pc = .ok (.invokestatic idx, 3)) (hw : IMin own idx) (h8 : (st.map fun v => v.category).sum ≤ 8) (hR : 1 ≤ rm.frames ∧ 21 ≤ rm.locals) (hc : n ≤ rm.cells ∧ z ≤ rm.slots) (hv : (if y < x then y else x) = v) (k : G κ nL n z P (pc + 3) lv (.int v :: st)) : G κ nL n z P pc lv (.int y :: .int x :: st) := by
  refine ⟨fun H locs ls hP hS hl => ?_, trivial⟩
  obtain ⟨c1, c2, c3, c4, c5, c6, c7, c8, c9, c10, c11⟩ := id C
  refine va_mmin c1 c2 (by rw [c3]; exact hl.1.symm) c4 (c5 _ hw.1) (c5 _ hw.2.1) (c5 _ hw.2.2.1) (c5 _ hw.2.2.2) (by rw [c11]; exact hR.1) (by rw [c11]; have := hR.2; omega) (by rw [c11]; exact hc.1) (by rw [c11]; exact hc.2) hd ?_
  rw [hv]
  exact k.1 H locs ls hP hS hl
/-- the first film's text: its length -/
theorem g_slen (C : Cg κ RX7 cc nL ret rm) (hd1 : decode cc pc = .ok (.ldc 68, 2)) (hd3 : decode cc (pc + 2) = .ok (.invokevirtual 70, 3)) (hw : IV RX7 70 yJ0_length_8abf5 cJ0_length_8abf5 1 (some .int) 0) (hR : RmOk (rmS 1 20) rm 1) (h8 : (st.map fun v => v.category).sum ≤ 8) (hc : n ≤ rm.cells ∧ z ≤ rm.slots) (k : G κ nL n z P (pc + 5) lv (.int 127 :: st)) : G κ nL n z P pc lv st := by
  refine ⟨fun H locs ls hP hS hl => ?_, trivial⟩
  obtain ⟨c1, c2, c3, c4, c5, c6, c7, c8, c9, c10, c11⟩ := id C
  obtain ⟨adK, adV, hY⟩ := c6.2.1
  refine va_ldcS c1 c2 c4 hY.2.2.2.1 hd1 ?_
  have hR' : RmOk (rmS 1 20) κ.1.2.2.2.1 1 := by rw [c11]; exact hR
  exact w_invVS (As := []) c1 c2 c3 c4 c5 hY hS (i := 0) (by decide) rfl (ctJ0_length (by decide)) hd3 hw hR' rfl hl.1 h8 ⟨by rw [c11]; exact hc.1, by rw [c11]; exact hc.2⟩ (k.1 H locs ls hP hS hl)
def tL (k : Int) : Int := ((sByt.getD 0 []).getD k.toNat 0).toInt
theorem tL_all : ∀ m : Fin 127, (¬ (Int32.ofNat m.val < 0) ∧ Int32.ofNat m.val < Int32.ofNat (sLen.getD 0 0) ∧ ((sCh 0 (Int32.ofNat m.val) &&& 255).toUInt32 % 65536).toInt32 = Int32.ofInt (tL m.val) ∧ narrow .char (.int (Int32.ofInt (tL m.val))) = .int (Int32.ofInt (tL m.val)) ∧ 0 ≤ tL m.val ∧ tL m.val < 65536) := by decide +kernel
/-- a letter of it -/
theorem g_schr (C : Cg κ RX7 cc nL ret rm) {i : Fin 4} {j : Int} (hd1 : decode cc pc = .ok (.ldc 68, 2)) (hd2 : decode cc (pc + 2) = .ok (.iload_n i, 1)) (hd3 : decode cc (pc + 3) = .ok (.invokevirtual 82, 3)) (q : Nat) (hv : lv[q]? = some (i.val, .int (Int32.ofInt j))) (h0 : 0 ≤ j) (h1 : j < 127) (hw : IV RX7 82 yJ0_charAt_5068e cJ0_charAt_5068e 2 (some .char) 1) (hR : RmOk (rmS 3 64) rm 2) (h8 : (st.map fun v => v.category).sum ≤ 8) (hc : n ≤ rm.cells ∧ z ≤ rm.slots) (k : G κ nL n z P (pc + 6) lv (.int (Int32.ofInt (tL j)) :: st)) : G κ nL n z P pc lv st := by
  refine ⟨fun H locs ls hP hS hl => ?_, trivial⟩
  obtain ⟨c1, c2, c3, c4, c5, c6, c7, c8, c9, c10, c11⟩ := id C
  obtain ⟨adK, adV, hY⟩ := c6.2.1
  refine va_ldcS c1 c2 c4 hY.2.2.2.1 hd1 ?_
  refine lv_iload_n c1 c2 hd2 rfl (lv_at hl q hv) ?_
  have hR' : RmOk (rmS 3 64) κ.1.2.2.2.1 2 := by rw [c11]; exact hR
  obtain ⟨m, hm⟩ : ∃ m : Nat, j = (m : Int) := ⟨j.toNat, by omega⟩
  subst hm
  have hj := tL_all ⟨m, by omega⟩
  dsimp only at hj
  have ej : Int32.ofInt (m : Int) = Int32.ofNat m := rfl
  have hin : vp_in (Int32.ofNat m) (sLen.getD 0 0) := by
    rw [← ej]
    exact oi_in ⟨by omega, by omega⟩ h0 (by show (m : Int) < 127; exact h1)
  exact w_invVS (As := [.int (Int32.ofNat m)]) c1 c2 c3 c4 c5 hY hS (i := 0) (by decide) rfl (ctJ0_charAt (by decide) hj.1 hj.2.1 hin hj.2.2.1 hj.2.2.2.1) hd3 hw hR' rfl hl.1 h8 ⟨by rw [c11]; exact hc.1, by rw [c11]; exact hc.2⟩ (k.1 H locs ls hP hS hl)
end HR
