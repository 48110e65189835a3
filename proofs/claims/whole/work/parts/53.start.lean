/-! ===== what the law begins with: the tables, the two texts, new objects ===== -/
theorem nwL_7 : NWd RL 7 7 13 [.null, .int 0, .null, .null, .null, .null, .null, .null, .null, .null, .int 0, .int 0, .null] := ⟨_, _, tyX7, rfl, uwX7, tyX7_ok, (tb_mem (t_in1 (List.mem_of_getElem? (i := 19) (by decide +kernel))) (by decide +kernel)), (tb_mem (t_in1 (List.mem_of_getElem? (i := 20) (by decide +kernel))) (by decide +kernel)), (tb_mem (t_in1 (List.mem_of_getElem? (i := 1) (by decide +kernel))) (by decide +kernel)), fun j hj => by
  have h2 : j = 0 ∨ j = 1 ∨ j = 2 ∨ j = 3 ∨ j = 4 ∨ j = 5 ∨ j = 6 ∨ j = 7 ∨ j = 8 ∨ j = 9 ∨ j = 10 ∨ j = 11 ∨ j = 12 := by omega
  rcases h2 with rfl | rfl | rfl | rfl | rfl | rfl | rfl | rfl | rfl | rfl | rfl | rfl | rfl <;> rfl⟩
theorem nwL_10 : NWd RL 10 8 29 [.int 0, .null, .int 0, .int 0, .int 0, .null, .int 0, .null, .null, .int 0, .int 0, .int 0, .null, .int 0, .null, .null, .null, .null, .null, .null, .null, .null, .null, .null, .null, .null, .null, .int 0, .int 0] := ⟨_, _, tyX8, rfl, uwX8, tyX8_ok, (tb_mem (t_in4 (List.mem_of_getElem? (i := 98) (by decide +kernel))) (by decide +kernel)), (tb_mem (t_in4 (List.mem_of_getElem? (i := 99) (by decide +kernel))) (by decide +kernel)), (tb_mem (t_in1 (List.mem_of_getElem? (i := 16) (by decide +kernel))) (by decide +kernel)), fun j hj => by
  have h2 : j = 0 ∨ j = 1 ∨ j = 2 ∨ j = 3 ∨ j = 4 ∨ j = 5 ∨ j = 6 ∨ j = 7 ∨ j = 8 ∨ j = 9 ∨ j = 10 ∨ j = 11 ∨ j = 12 ∨ j = 13 ∨ j = 14 ∨ j = 15 ∨ j = 16 ∨ j = 17 ∨ j = 18 ∨ j = 19 ∨ j = 20 ∨ j = 21 ∨ j = 22 ∨ j = 23 ∨ j = 24 ∨ j = 25 ∨ j = 26 ∨ j = 27 ∨ j = 28 := by omega
  rcases h2 with rfl | rfl | rfl | rfl | rfl | rfl | rfl | rfl | rfl | rfl | rfl | rfl | rfl | rfl | rfl | rfl | rfl | rfl | rfl | rfl | rfl | rfl | rfl | rfl | rfl | rfl | rfl | rfl | rfl <;> rfl⟩
theorem iiL_9 : IIw RL 9 yX7_init cX7_init 3 0 := ⟨Or.inl (tb_mem (t_in1 (List.mem_of_getElem? (i := 21) (by decide +kernel))) (by decide +kernel)), (tb_mem (t_in1 (List.mem_of_getElem? (i := 22) (by decide +kernel))) (by decide +kernel)), (tb_mem (t_in1 (List.mem_of_getElem? (i := 1) (by decide +kernel))) (by decide +kernel)), (tb_mem (t_in1 (List.mem_of_getElem? (i := 23) rfl)) (by decide +kernel)), rfl, ⟨by decide +kernel, by decide +kernel, by decide +kernel⟩⟩
theorem iiL_12 : IIw RL 12 yX8_init cX8_init 2 0 := ⟨Or.inl (tb_mem (t_in4 (List.mem_of_getElem? (i := 100) (by decide +kernel))) (by decide +kernel)), (tb_mem (t_in4 (List.mem_of_getElem? (i := 101) (by decide +kernel))) (by decide +kernel)), (tb_mem (t_in1 (List.mem_of_getElem? (i := 16) (by decide +kernel))) (by decide +kernel)), (tb_mem (t_in4 (List.mem_of_getElem? (i := 102) rfl)) (by decide +kernel)), rfl, ⟨by decide +kernel, by decide +kernel, by decide +kernel⟩⟩
theorem inX0 : Cond.instantiable RX0 2 ∈ tb := (tb_mem (t_in1 (List.mem_of_getElem? (i := 207) (by decide +kernel))) (by decide +kernel))
theorem inX1 : Cond.instantiable RX1 9 ∈ tb := (tb_mem (t_in1 (List.mem_of_getElem? (i := 49) (by decide +kernel))) (by decide +kernel))
theorem inX2 : Cond.instantiable RX2 10 ∈ tb := (tb_mem (t_in1 (List.mem_of_getElem? (i := 220) (by decide +kernel))) (by decide +kernel))
theorem inX3 : Cond.instantiable RX3 7 ∈ tb := (tb_mem (t_in1 (List.mem_of_getElem? (i := 56) (by decide +kernel))) (by decide +kernel))
theorem inX4 : Cond.instantiable RX4 3 ∈ tb := (tb_mem (t_in1 (List.mem_of_getElem? (i := 185) (by decide +kernel))) (by decide +kernel))
theorem inX5 : Cond.instantiable RX5 4 ∈ tb := (tb_mem (t_in1 (List.mem_of_getElem? (i := 28) (by decide +kernel))) (by decide +kernel))
theorem inX6 : Cond.instantiable RX6 4 ∈ tb := (tb_mem (t_in1 (List.mem_of_getElem? (i := 164) (by decide +kernel))) (by decide +kernel))
theorem inX7 : Cond.instantiable RX7 13 ∈ tb := (tb_mem (t_in1 (List.mem_of_getElem? (i := 20) (by decide +kernel))) (by decide +kernel))
theorem inX8 : Cond.instantiable RX8 29 ∈ tb := (tb_mem (t_in4 (List.mem_of_getElem? (i := 99) (by decide +kernel))) (by decide +kernel))
theorem known {s : State} {args : Array Value} (htb : ∀ w ∈ tb, w.before args s = true) : ∃ D : va_G, ∀ (k : Nat) (q : vw_C), classes[k]? = some q → u_Kn s q.1 q.2.1 q.2.2 (D.1 k) (D.2 k) := by
  obtain ⟨c0, i0, h0⟩ := u_known (C := RX0) (T := TX0) (N := 2) (n := 2) htb uwX0 (htb _ inX0)
  obtain ⟨c1, i1, h1⟩ := u_known (C := RX1) (T := TX1) (N := 9) (n := 9) htb uwX1 (htb _ inX1)
  obtain ⟨c2, i2, h2⟩ := u_known (C := RX2) (T := TX2) (N := 10) (n := 10) htb uwX2 (htb _ inX2)
  obtain ⟨c3, i3, h3⟩ := u_known (C := RX3) (T := TX3) (N := 7) (n := 7) htb uwX3 (htb _ inX3)
  obtain ⟨c4, i4, h4⟩ := u_known (C := RX4) (T := TX4) (N := 3) (n := 3) htb uwX4 (htb _ inX4)
  obtain ⟨c5, i5, h5⟩ := u_known (C := RX5) (T := TX5) (N := 4) (n := 4) htb uwX5 (htb _ inX5)
  obtain ⟨c6, i6, h6⟩ := u_known (C := RX6) (T := TX6) (N := 4) (n := 4) htb uwX6 (htb _ inX6)
  obtain ⟨c7, i7, h7⟩ := u_known (C := RX7) (T := TX7) (N := 13) (n := 13) htb uwX7 (htb _ inX7)
  obtain ⟨c8, i8, h8⟩ := u_known (C := RX8) (T := TX8) (N := 29) (n := 29) htb uwX8 (htb _ inX8)
  refine ⟨(fun k => [c0, c1, c2, c3, c4, c5, c6, c7, c8].getD k c0, fun k => [i0, i1, i2, i3, i4, i5, i6, i7, i8].getD k i0), ?_⟩
  intro k q hq
  match k, hq with
  | 0, hq => cases hq; exact h0
  | 1, hq => cases hq; exact h1
  | 2, hq => cases hq; exact h2
  | 3, hq => cases hq; exact h3
  | 4, hq => cases hq; exact h4
  | 5, hq => cases hq; exact h5
  | 6, hq => cases hq; exact h6
  | 7, hq => cases hq; exact h7
  | 8, hq => cases hq; exact h8
  | k + 9, hq => simp [classes] at hq
def gvL : List Cond := flatC (Jvm.Cond.and given_1 narrow_1)
def stm (i : Nat) : Term := if i = 0 then .string "GapTellings" 68 else .string "GapTellings$TextReader" 49
def sBs (i : Nat) : Nat := if i = 0 then 9 else 140
abbrev sVal (i : Nat) : Term := .field (stm i) "java/lang/String" "value" "[B"
theorem gv_0 : ∀ i : Fin 2, (sLen.getD i.val 0 < 2 ^ 31 ∧ gvL[sBs i.val]? = some (Cond.exactly (stm i.val) "java/lang/String") ∧ gvL[sBs i.val + 1]? = some (Cond.eq (.field (stm i.val) "java/lang/String" "coder" "B") (.int 0)) ∧ gvL[sBs i.val + 2]? = some (Cond.arrayOf (sVal i.val) .byte) ∧ gvL[sBs i.val + 3]? = some (Cond.eq (.length (sVal i.val)) (.int (Int32.ofNat (sLen.getD i.val 0))))) := by decide +kernel
theorem gv_e : ∀ i : Fin 2, ∀ j : Fin 127, j.val < sLen.getD i.val 0 → gvL[sBs i.val + 4 + j.val]? = some (Cond.eq (.elem (sVal i.val) (.int (Int32.ofNat j.val))) (.int ((sByt.getD i.val []).getD j.val 0))) := by decide +kernel
theorem gv_c : gvL[4]? = some (Cond.eq (.static "java/lang/String" "COMPACT_STRINGS" "Z") (.int 1)) ∧ gvL[5]? = some (Cond.isRef (.static "jdk/internal/util/Preconditions" "SIOOBE_FORMATTER" "Ljava/util/function/BiFunction;")) ∧ gvL[147]? = some (Cond.not (Cond.eq (stm 0) (stm 1))) := by decide +kernel
theorem sLen_le : ∀ i : Fin 2, sLen.getD i.val 0 ≤ 127 := by decide +kernel
theorem SX_of {args : Array Value} {s : State} {A : Nat → Prop} (hgv : (Jvm.Cond.and given_1 narrow_1).before args s = true) (hts : ∀ w ∈ tables_1, w.before args s = true) (hA : ∀ a : Nat, a < s.heap.size → ¬ A a) : SX A s := by
  have hs := flat_of_before _ hgv
  have hat : ∀ (k : Nat) (c : Cond), gvL[k]? = some c → c.before args s = true := fun k c h => hs c (List.mem_of_getElem? h)
  have hne : ∀ i j : Nat, i < 2 → j < 2 → i ≠ j → (Cond.not (Cond.eq (stm i) (stm j))).before args s = true ∨ (Cond.not (Cond.eq (stm j) (stm i))).before args s = true := by
    intro i j hi hj hij
    have h := hat 147 _ gv_c.2.2
    have hc : (i = 0 ∧ j = 1) ∨ (i = 1 ∧ j = 0) := by omega
    rcases hc with ⟨rfl, rfl⟩ | ⟨rfl, rfl⟩
    · exact Or.inl h
    · exact Or.inr h
  obtain ⟨adK, adV, hS, ht⟩ := vk_Sof (args := args) (s := s) (N := 2) (tm := stm) (len := sLen) (byt := sByt) (A := A) (fun i hi => (gv_0 ⟨i, hi⟩).1) (fun i hi => hat _ _ (gv_0 ⟨i, hi⟩).2.1) (fun i hi => hat _ _ (gv_0 ⟨i, hi⟩).2.2.1) (fun i hi => hat _ _ (gv_0 ⟨i, hi⟩).2.2.2.1) (fun i hi => hat _ _ (gv_0 ⟨i, hi⟩).2.2.2.2)
    (fun i hi j hj => hat _ _ (gv_e ⟨i, hi⟩ ⟨j, Nat.lt_of_lt_of_le hj (sLen_le ⟨i, hi⟩)⟩ hj)) hne hA
  refine ⟨adK, adV, hS, ?_, ?_, ?_, ?_⟩
  · exact va_Zof (hts _ (t_in2 (List.mem_of_getElem? (i := 30) (by decide +kernel)))) (hts _ (t_in1 (List.mem_of_getElem? (i := 10) (by decide +kernel)))) (va_eqt (hat 4 _ gv_c.1)) hA
  · exact va_Zqof (hts _ (t_in2 (List.mem_of_getElem? (i := 49) (by decide +kernel)))) (hts _ (t_in1 (List.mem_of_getElem? (i := 13) (by decide +kernel)))) (hat 5 _ gv_c.2.1) hA
  · exact vk_R.of (A := args) (hts _ (t_in2 (List.mem_of_getElem? (i := 20) (by decide +kernel)))) (ht 0 (by decide))
  · exact vk_R.of (A := args) (hts _ (t_in2 (List.mem_of_getElem? (i := 100) (by decide +kernel)))) (ht 1 (by decide))
theorem NWX_of {args : Array Value} {s : State} (hts : ∀ w ∈ tables_1, w.before args s = true) : NWX s := by
  intro w hw
  obtain ⟨h1, h2⟩ := List.mem_filter.mp hw
  have h := hts w h1
  cases w with
  | fieldLinkNest a i b n d k => exact va_Nw.of rfl h
  | methodLinkNest a i x k => exact va_Nw.of rfl h
  | _ => exact absurd h2 (by simp [isNest])
theorem arr_p {args : Array Value} {s : State} {t : FieldType} (h : (Cond.arrayClass t).before args s = true) : ∃ c : ClassId, ArrOfT s c t ∧ s.vm.findClass ("[" ++ t.toString) = some c := by
  obtain ⟨c, k, comp, h1, h2, h3⟩ := Cond.arrayClass_spec (args := args) (first := s) (o := none) (s := s) (idx := []) h
  exact ⟨c, fun n z => ⟨fun k h => (by cases h), k, h2, comp, h3⟩, h1⟩
theorem K_of {args : Array Value} {s : State} (hts : ∀ w ∈ tables_1, w.before args s = true) (htb : ∀ w ∈ tb, w.before args s = true) : ∃ (D : va_G) (cs : CS), va_K D classes (tysX cs) s := by
  obtain ⟨D, hD⟩ := known htb
  obtain ⟨cI, i1, i2⟩ := arr_p (t := .int) (htb _ wdAI)
  obtain ⟨cC, j1, j2⟩ := arr_p (t := .char) (htb _ wdAC)
  have hov : (Cond.arrayOver (.object "GapTellings$Picture")).before args s = true := hts _ (t_in1 (List.mem_of_getElem? (i := 55) (by decide +kernel)))
  obtain ⟨comp, c, k, g1, -, g3, g4, g5⟩ := Cond.arrayOver_spec (args := args) (first := s) (o := none) (s := s) (idx := []) hov
  refine ⟨D, (cI, cC, c), hD, fun m q hm => ?_⟩
  match m, hm with
  | 0, hm => cases hm; exact ⟨i1, i2⟩
  | 1, hm => cases hm; exact ⟨j1, j2⟩
  | 2, hm => cases hm; exact ⟨fun n z => ⟨fun k h => (by cases h), k, g3, comp, g4⟩, ⟨k, comp, g3, g4, g1, g5⟩⟩
  | m + 3, hm => simp at hm
section ST
variable {κ : Kg} {own : String} {cc : ByteArray} {nL : Nat} {ret : Option FieldType} {rm : Room} {n z : Nat} {pc : Nat} {lv : List (Nat × Value)} {st : List Value}
theorem g_newX (C : Cg κ own cc nL ret rm) {idx ci N : Nat} {fs : List Value} {X : Heap → Prop} {φ : Nat → Prop} (hd : decode cc pc = .ok (.new idx, 3)) (hw : NWd own idx ci N fs) (hc : n + 1 ≤ rm.cells ∧ z + N ≤ rm.slots) (hX : ∀ H H1 : Heap, X H → (∀ q, q < H.size → H1[q]? = H[q]?) → X H1) (hφ : ∀ H, X H → φ H.size)
    (k : ∀ q : Nat, φ q → κ.2.2.2.2.1 q → G κ nL (n + 1) (z + N) (fun H => va_at κ.2.2.1 classes (q, .inr (ci, fs)) H ∧ X H) (pc + 3) lv (.ref q :: st)) : G κ nL n z X pc lv st := by
  refine ⟨fun H locs ls hP hS hl => ?_, trivial⟩
  obtain ⟨c1, c2, c3, c4, c5, c6, c7, c8, c9, c10, c11⟩ := id C
  obtain ⟨Cn, T, ty, w1, w2, w3, w4, w5, w6, w7⟩ := hw
  have hKn := c7.1 ci _ w1
  refine W.newcK c1 c2 c4 (c5 _ w4) (c5 _ w5) (c5 _ w6) rfl hd (by rw [c11]; exact hc.1) (by rw [c11]; exact hc.2) hKn.2.1 rfl fun H1 kC hkC e1 z1 o1 => ?_
  refine (k H.size (hφ H hP) (c8 _ hS.1)).1 H1 locs ls ⟨⟨_, w1, (u_born ty c5 w2 hKn hkC e1 w3).to w7⟩, hX H H1 hP o1⟩ ⟨Nat.le_trans hS.1 (by omega), fun x h1 h2 => (o1 x (Nat.lt_of_lt_of_le h1 hS.1)).trans (hS.2.1 x h1 h2), hS.2.2⟩ hl
theorem g_initX (C : Cg κ own cc nL ret rm) {y : MethodName} {b : ByteArray} {mL : Nat} {rm' : Room} {a : Nat} {e0 : va_E} {st0 : List Value} {B : va_G → CS → (Nat → Prop) → Heap → Prop} (hM : CtI y b mL rm' [.ref a] (fun _ => (a, e0)) B) {idx : Nat} (hd : decode cc pc = .ok (.invokespecial idx, 3)) (hw : IIw own idx y b mL 0) (hR : RmI rm' rm mL n z) (h8 : (st.map fun v => v.category).sum ≤ 8) (hst : st0 = .ref a :: st) (hAa : κ.2.2.2.2.1 a)
    {X : Heap → Prop} {ψ : Nat → Prop} (hX : ∀ H H1 : Heap, X H → (∀ q, q < H.size → q ≠ a → H1[q]? = H[q]?) → X H1) (hψ : ∀ H, X H → ψ H.size) (kk : ∀ sz : Nat, (∀ q, va_A [(a, e0)] sz q → κ.2.2.2.2.1 q) → ψ sz → G κ nL (n + rm'.cells) (z + rm'.slots) (fun H => B κ.2.2.1 κ.2.2.2.1 (va_A [(a, e0)] sz) H ∧ X H) (pc + 3) lv st) : G κ nL n z (fun H => va_at κ.2.2.1 classes (a, e0) H ∧ X H) pc lv st0 := by
  refine ⟨fun H locs ls hP hS hl => ?_, trivial⟩
  have one : ∀ (j : Nat) (q : Nat) (e : va_E), [(a, e0)][j]? = some (q, e) → q = a := by
    intro j q e h
    have hz : j < 1 := (List.getElem?_eq_some_iff.mp h).1
    rw [show j = 0 by omega] at h
    cases h
    rfl
  have hAw : ∀ q, va_A [(a, e0)] H.size q → κ.2.2.2.2.1 q := by
    rintro q (⟨j, e, h⟩ | h)
    · rw [one j q e h]; exact hAa
    · exact C.2.2.2.2.2.2.2.1 q (Nat.le_trans hS.1 h)
  refine w_ranI (g_runI C hM hd hw hR rfl h8 hst hP.1 hAw hS hl) hS hAw (fun H1 locs1 hB hz hk hS1 => ?_)
  refine (kk H.size hAw (hψ H hP.2)).1 H1 locs1 ls ⟨hB, hX H H1 hP.2 (fun q h1 h2 => hk q h1 ?_)⟩ hS1 hl
  rintro (⟨j, e, h⟩ | h)
  · exact h2 (one j q e h)
  · omega
end ST
