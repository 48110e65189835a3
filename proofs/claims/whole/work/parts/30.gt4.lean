/-! ===== GapTellings: what changes the film ===== -/
/-- what a call has done: text as it was, and so the film, the plan -/
def Ch (M M' : Mem) (F : Film) (ver sta : Int → Int) : Prop := M' 0 0 1 = M 0 0 1 ∧ M' 1 0 = M 1 0 ∧ Up M M' ∧ FEq F (cFilm M' 1) ∧ PlEq ver sta (M' 19 0) (M' 20 0)
theorem SimC.ch {M M' : Mem} (h : SimC M M') : Ch M M' (cFilm M 1) (M 19 0) (M 20 0) := ⟨h.1, h.2.1, h.2.2.2.2.2, h.2.2.1, fun q _ _ => ⟨by rw [h.2.2.2.1], by rw [h.2.2.2.2.1]⟩⟩
theorem PlEq.rfl' {ver sta : Int → Int} : PlEq ver sta ver sta := fun _ _ _ => ⟨rfl, rfl⟩
def sFR (F : Film) (w r : Int) : Film := fun t a b => if t = 4 ∧ a = w then r else F t a b
theorem wf_R {F : Film} (hf : WFf F) {w r : Int} (hr : 0 ≤ r ∧ r ≤ 9) : WFf (sFR F w r) := by
  obtain ⟨h0, h1, h2, h3, h4, h5, h6⟩ := hf
  refine ⟨by simpa [sFR] using h0, by simpa [sFR] using h1, by simpa [sFR] using h2, by simpa [sFR] using h3, fun x a b => ?_, fun s a b => by simpa [sFR, WFs] using h5 s a (by simpa [sFR] using b), fun p a b => by simpa [sFR, WFp] using h6 p a (by simpa [sFR] using b)⟩
  by_cases e : x = w
  · simp [sFR, e]; exact hr
  · simp [sFR, e]; exact h4 x a b
theorem wf_B {F : Film} (hf : WFf F) {x : Int} (hr : 0 ≤ x ∧ x ≤ 9) : WFf (sFB F x) := by
  obtain ⟨h0, h1, h2, h3, h4, h5, h6⟩ := hf
  exact ⟨by simpa [sFB] using h0, by simpa [sFB] using hr, by simpa [sFB] using h2, by simpa [sFB] using h3, fun x a b => by simpa [sFB] using h4 x a b, fun s a b => by simpa [sFB, WFs] using h5 s a (by simpa [sFB] using b), fun p a b => by simpa [sFB, WFp] using h6 p a (by simpa [sFB] using b)⟩
theorem wf_S {F : Film} (hf : WFf F) {k x y : Int} (hk : 0 ≤ k ∧ k ≤ 2) (hx : 0 ≤ x) (hy : x ≤ y) (hy2 : y ≤ F 0 0 0) (hn : F 2 0 0 < 12) : WFf (sFS F k x y) := by
  obtain ⟨h0, h1, h2, h3, h4, h5, h6⟩ := hf
  refine ⟨by simpa [sFS] using h0, by simpa [sFS] using h1, by simp [sFS]; omega, by simpa [sFS] using h3, fun x a b => by simpa [sFS] using h4 x a b, fun s a b => ?_, fun p a b => by simpa [sFS, WFp] using h6 p a (by simpa [sFS] using b)⟩
  have b' : s < F 2 0 0 + 1 := by simpa [sFS] using b
  by_cases c : s = F 2 0 0
  · unfold WFs
    have e5 : sFS F k x y 5 s 0 = k := by unfold sFS; rw [if_neg (by decide), if_pos ⟨rfl, c⟩]
    have e6 : sFS F k x y 6 s 0 = x := by unfold sFS; rw [if_neg (by decide), if_neg (by omega), if_pos ⟨rfl, c⟩]
    have e7 : sFS F k x y 7 s 0 = y := by unfold sFS; rw [if_neg (by decide), if_neg (by omega), if_neg (by omega), if_pos ⟨rfl, c⟩]
    have e0 : sFS F k x y 0 0 0 = F 0 0 0 := by simp [sFS]
    rw [e5, e6, e7, e0]
    omega
  · have := h5 s a (by omega)
    simpa [sFS, WFs, c] using this
theorem wf_D {F : Film} (hf : WFf F) {s : Int} (hs : 0 ≤ s ∧ s < F 2 0 0) : WFf (dpF F s) := by
  obtain ⟨h0, h1, h2, h3, h4, h5, h6⟩ := hf
  refine ⟨by simpa [dpF] using h0, by simpa [dpF] using h1, by simp [dpF]; omega, by simpa [dpF] using h3, fun x a b => by simpa [dpF] using h4 x a b, fun x a b => ?_, fun p a b => by simpa [dpF, WFp] using h6 p a (by simpa [dpF] using b)⟩
  have b' : x < F 2 0 0 - 1 := by simpa [dpF] using b
  by_cases c : s ≤ x
  · have := h5 (x + 1) (by omega) (by omega)
    simpa [dpF, WFs, c, b'] using this
  · have := h5 x a (by omega)
    simpa [dpF, WFs, c] using this
theorem wf_V {F : Film} (hf : WFf F) {p l w : Int} (hp : F 11 p 0 < 3) (hl : 1 ≤ l ∧ l ≤ 30) (hw : 1 ≤ w ∧ w ≤ 99) : WFf (sFV F p l w) := by
  obtain ⟨h0, h1, h2, h3, h4, h5, h6⟩ := hf
  refine ⟨by simpa [sFV] using h0, by simpa [sFV] using h1, by simpa [sFV] using h2, by simpa [sFV] using h3, fun x a b => by simpa [sFV] using h4 x a b, fun s a b => by simpa [sFV, WFs] using h5 s a (by simpa [sFV] using b), fun q a b => ?_⟩
  have hq := h6 q a (by simpa [sFV] using b)
  by_cases e : q = p
  · subst e
    obtain ⟨q1, q2, q3, q4, q5, q6⟩ := hq
    refine ⟨by simpa [sFV] using q1, by simpa [sFV] using q2, by simpa [sFV] using q3, by simp [sFV]; omega, by simpa [sFV] using q5, fun v c d => ?_⟩
    have d' : v < F 11 q 0 + 1 := by simpa [sFV] using d
    by_cases ev : v = F 11 q 0
    · have e13 : sFV F q l w 13 q v = l := by unfold sFV; rw [if_pos ⟨rfl, rfl, ev⟩]
      have e14 : sFV F q l w 14 q v = w := by unfold sFV; rw [if_neg (by omega), if_pos ⟨rfl, rfl, ev⟩]
      rw [e13, e14]
      exact ⟨hl, hw⟩
    · have := q6 v c (by omega)
      simpa [sFV, ev] using this
  · simpa [sFV, WFp, e] using hq
/-- as long as the versions that are there stay as they are, a plan stays one -/
theorem PlV_mono {F G : Film} {ver sta : Int → Int} (e0 : G 0 0 0 = F 0 0 0) (e3 : G 3 0 0 = F 3 0 0) (hp : ∀ p, 0 ≤ p → p < F 3 0 0 → F 11 p 0 ≤ G 11 p 0 ∧ G 12 p 0 = F 12 p 0 ∧ ∀ v, 0 ≤ v → v < F 11 p 0 → G 13 p v = F 13 p v) (h : PlV F ver sta) : PlV G ver sta := by
  have len : ∀ p, 0 ≤ p → p < 7 → ver p ≠ -4 → G 13 p (ver p) = F 13 p (ver p) := by
    intro p a b c
    have k := h.1.at a b c
    exact (hp p a k.1).2.2 _ k.2.1.1 k.2.1.2
  refine ⟨fun q a b => ?_, fun p q a b c d e f g => ?_, fun p a b c d => ?_⟩
  · rcases h.1 q a b with z | ⟨z1, z2, z3, z4⟩
    · exact Or.inl z
    · have k := hp q a z1
      exact Or.inr ⟨by omega, by omega, z3, by rw [k.2.2 _ z2.1 z2.2, e0]; exact z4⟩
  · rw [len p a b f, len q c d g]
    exact h.2.1 p q a b c d e f g
  · have k := h.1.at a b c
    rw [(hp p a k.1).2.1] at d ⊢
    exact h.2.2 p a b c d
theorem InvP_film {M M' : Mem} (h : InvP M) (g : ∀ r i, (r = 0 ∨ r = 1 ∨ r = 16 ∨ r = 17) → M' r i = M r i) (hf : WFf (cFilm M' 1)) (hp : PlV (cFilm M' 1) (M' 19 0) (M' 20 0)) : InvP M' := by
  obtain ⟨a1, a2, a3, a4, a5⟩ := h
  exact ⟨⟨by rw [g 0 0 (by omega)]; exact a1.1, by rw [g 1 0 (by omega)]; exact a1.2⟩, hf, ⟨fun u x y => by rw [g 16 0 (by omega), g 17 0 (by omega)]; exact a3.1 u x y, fun u x y => by rw [g 16 1 (by omega), g 17 1 (by omega)]; exact a3.2 u x y⟩, ⟨by rw [g 16 0 (by omega)]; exact a4.1, by rw [g 17 0 (by omega)]; exact a4.2.1, by rw [g 16 1 (by omega)]; exact a4.2.2.1, by rw [g 17 1 (by omega)]; exact a4.2.2.2⟩, hp⟩
theorem InvC_plan {M M' : Mem} (h : InvC M) (g : AgP M M' 0) (hP : PlV (cFilm M 1) (M' 19 0) (M' 20 0)) : InvC M' := by
  have hf := g.film 1
  have g : ∀ r i, ¬ ((r = 19 ∨ r = 20) ∧ i = 0) → M' r i = M r i := g
  obtain ⟨⟨a1, a2, a3, a4, a5⟩, b1, b2, b3⟩ := h
  refine ⟨⟨⟨by rw [g 0 0 (by omega)]; exact a1.1, by rw [g 1 0 (by omega)]; exact a1.2⟩, by rw [hf]; exact a2, ⟨fun u x y => by rw [g 16 0 (by omega), g 17 0 (by omega)]; exact a3.1 u x y, fun u x y => by rw [g 16 1 (by omega), g 17 1 (by omega)]; exact a3.2 u x y⟩, ⟨by rw [g 16 0 (by omega)]; exact a4.1, by rw [g 17 0 (by omega)]; exact a4.2.1, by rw [g 16 1 (by omega)]; exact a4.2.2.1, by rw [g 17 1 (by omega)]; exact a4.2.2.2⟩, by rw [hf]; exact hP⟩, ?_, ?_, ?_⟩
  · rw [hf]
    exact ⟨fun u x y => by rw [g 15 0 (by omega)]; exact b1.1 u x y, fun u x y => by rw [g 16 0 (by omega), g 17 0 (by omega)]; exact b1.2 u x y⟩
  · rw [hf, g 0 0 (by omega), g 19 1 (by omega), g 20 1 (by omega)]
    exact b2
  · rw [hf, g 23 0 (by omega), g 19 2 (by omega), g 20 2 (by omega)]
    exact b3
/-! ===== GapTellings.fault ===== -/
abbrev rmX7_fault : Room := { frames := 9, cells := 0, slots := 0, locals := 207 }
abbrev argX7_fault (a : Unit) : List PV := [.inr (0, 0)]
abbrev CtX7_fault (sp : Mem → Kont → Prop) : Prop := Ct yX7_fault cX7_fault 1 (some .int) rmX7_fault domC argX7_fault (fun _ => sp)
theorem dX7_fault_0 : decode cX7_fault 0 = .ok (.aload_n 0, 1) := by decide +kernel
theorem dX7_fault_1 : decode cX7_fault 1 = .ok (.getfield 16, 3) := by decide +kernel
theorem dX7_fault_4 : decode cX7_fault 4 = .ok (.aload_n 0, 1) := by decide +kernel
theorem dX7_fault_5 : decode cX7_fault 5 = .ok (.getfield 9, 3) := by decide +kernel
theorem dX7_fault_8 : decode cX7_fault 8 = .ok (.aload_n 0, 1) := by decide +kernel
theorem dX7_fault_9 : decode cX7_fault 9 = .ok (.getfield 86, 3) := by decide +kernel
theorem dX7_fault_12 : decode cX7_fault 12 = .ok (.aload_n 0, 1) := by decide +kernel
theorem dX7_fault_13 : decode cX7_fault 13 = .ok (.getfield 23, 3) := by decide +kernel
theorem dX7_fault_16 : decode cX7_fault 16 = .ok (.invokevirtual 93, 3) := by decide +kernel
theorem dX7_fault_19 : decode cX7_fault 19 = .ok (.ireturn, 1) := by decide +kernel
theorem flX7_16 : FL RX7 16 7 2 := ⟨_, _, _, rfl, by decide, uwX7, Or.inl (tb_mem (t_in2 (List.mem_of_getElem? (i := 217) (by decide +kernel))) (by decide +kernel))⟩
theorem flX7_23 : FL RX7 23 7 3 := ⟨_, _, _, rfl, by decide, uwX7, Or.inl (tb_mem (t_in2 (List.mem_of_getElem? (i := 218) (by decide +kernel))) (by decide +kernel))⟩
theorem ivX7_93 : IV RX7 93 yX5_read cX5_read 6 (some .int) 3 := ⟨(tb_mem (t_in2 (List.mem_of_getElem? (i := 76) (by decide +kernel))) (by decide +kernel)), (tb_mem (t_in2 (List.mem_of_getElem? (i := 77) (by decide +kernel))) (by decide +kernel)), (tb_mem (t_in2 (List.mem_of_getElem? (i := 78) (by decide +kernel))) (by decide +kernel)), (tb_mem (t_in1 (List.mem_of_getElem? (i := 2) (by decide +kernel))) (by decide +kernel)), (tb_mem (t_in2 (List.mem_of_getElem? (i := 79) (by decide +kernel))) (by decide +kernel)), ⟨by decide +kernel, by decide +kernel, by decide +kernel⟩⟩
set_option maxHeartbeats 4000000 in
set_option maxRecDepth 20000 in
theorem sgX7_fault_0 {κ : Kx} {K : Kont} {M : Mem} (C : Cx κ RX7 cX7_fault 1 (some .int) rmX7_fault domC) 
    (h :
    spX5_read (M 0 0 1) 0 M (rI (fun r16 M16 =>
    K (some r16) M16))) : V κ 1 M 0 [some (.inr (0, 0))] [] K := by
  refine v_aload_n C dX7_fault_0 rfl ?_
  refine v_get C dX7_fault_1 flX7_16 rfl (by decide) (by decide) (w := .inr (2, 0)) rfl ?_
  refine v_aload_n C dX7_fault_4 rfl ?_
  refine v_get C dX7_fault_5 flX7_9 rfl (by decide) (by decide) (w := .inr (1, 0)) rfl ?_
  refine v_aload_n C dX7_fault_8 rfl ?_
  refine v_get C dX7_fault_9 flX7_86 rfl (by decide) (by decide) (w := .inl (M 0 0 1)) rfl ?_
  refine v_aload_n C dX7_fault_12 rfl ?_
  refine v_get C dX7_fault_13 flX7_23 rfl (by decide) (by decide) (w := .inr (5, 0)) rfl ?_
  refine v_invV C ctX5_read dX7_fault_16 ivX7_93 ⟨by decide, by decide, rfl, rfl⟩ ((M 0 0 1, 0) : Int × Int) (As := [.inr (1, 0), .inl (M 0 0 1), .inr (5, 0)]) rfl rfl rfl (by decide) rfl (st := []) rfl (Nat.le_of_ble_eq_true rfl) h (fun o M16 oM16 io16 g16 => ?_)
  replace h := rI_out g16
  clear g16
  obtain ⟨r16, rfl, h⟩ := h
  refine v_push ?_
  exact v_iret C dX7_fault_19 h
abbrev spX7_fault (M : Mem) (K : Kont) : Prop := InvC M ∧ ∀ M', InvC M' → Ch M M' (cFilm M 1) (M 19 0) (M 20 0) → K (some (psrV (M 1 0) (M 0 0 1)).1) M'
theorem psrV_c (X : Int → Int) (L : Int) (F : Film) : (psr X L L.toNat 0 (sF0 F)).1 = (psrV X L).1 ∧ FEq (psr X L L.toNat 0 (sF0 F)).2 (psrV X L).2 := by
  have := psr_c X L L.toNat 0 (sF0 F) (sF0 (fun _ _ _ => 0)) (sF0_wf F) (sF0_c F _)
  exact ⟨this.1, this.2.1⟩
theorem ctX7_fault : CtX7_fault spX7_fault := by
  refine ct_of (by decide) dmC (fun _ => Nat.le_of_ble_eq_true rfl) ?_
  intro κ a M K C oM h
  obtain ⟨hI, hk⟩ := h
  refine sgX7_fault_0 C ⟨⟨hI.1.1.1, hI.1.1.2⟩, fun N hA hf hw => ?_⟩
  have := InvC_draft hI hA
  rw [(psrV_c _ _ _).1]
  exact hk N this.1 this.2.ch
/-! ===== GapTellings.layText ===== -/
abbrev rmX7_layText : Room := { frames := 9, cells := 0, slots := 0, locals := 207 }
abbrev argX7_layText (a : Unit) : List PV := [.inr (0, 0)]
abbrev CtX7_layText (sp : Mem → Kont → Prop) : Prop := Ct yX7_layText cX7_layText 1 none rmX7_layText domC argX7_layText (fun _ => sp)
theorem dX7_layText_0 : decode cX7_layText 0 = .ok (.aload_n 0, 1) := by decide +kernel
theorem dX7_layText_1 : decode cX7_layText 1 = .ok (.getfield 16, 3) := by decide +kernel
theorem dX7_layText_4 : decode cX7_layText 4 = .ok (.aload_n 0, 1) := by decide +kernel
theorem dX7_layText_5 : decode cX7_layText 5 = .ok (.getfield 9, 3) := by decide +kernel
theorem dX7_layText_8 : decode cX7_layText 8 = .ok (.aload_n 0, 1) := by decide +kernel
theorem dX7_layText_9 : decode cX7_layText 9 = .ok (.getfield 86, 3) := by decide +kernel
theorem dX7_layText_12 : decode cX7_layText 12 = .ok (.aload_n 0, 1) := by decide +kernel
theorem dX7_layText_13 : decode cX7_layText 13 = .ok (.getfield 27, 3) := by decide +kernel
theorem dX7_layText_16 : decode cX7_layText 16 = .ok (.invokevirtual 93, 3) := by decide +kernel
theorem dX7_layText_19 : decode cX7_layText 19 = .ok (.pop, 1) := by decide +kernel
theorem dX7_layText_20 : decode cX7_layText 20 = .ok (.aload_n 0, 1) := by decide +kernel
theorem dX7_layText_21 : decode cX7_layText 21 = .ok (.getfield 45, 3) := by decide +kernel
theorem dX7_layText_24 : decode cX7_layText 24 = .ok (.invokevirtual 110, 3) := by decide +kernel
theorem dX7_layText_27 : decode cX7_layText 27 = .ok (.aload_n 0, 1) := by decide +kernel
theorem dX7_layText_28 : decode cX7_layText 28 = .ok (.invokevirtual 104, 3) := by decide +kernel
theorem dX7_layText_31 : decode cX7_layText 31 = .ok (.return_, 1) := by decide +kernel
theorem ivX7_110 : IV RX7 110 yX4_clear cX4_clear 1 none 0 := ⟨(tb_mem (t_in2 (List.mem_of_getElem? (i := 194) (by decide +kernel))) (by decide +kernel)), (tb_mem (t_in2 (List.mem_of_getElem? (i := 195) (by decide +kernel))) (by decide +kernel)), (tb_mem (t_in2 (List.mem_of_getElem? (i := 196) (by decide +kernel))) (by decide +kernel)), (tb_mem (t_in1 (List.mem_of_getElem? (i := 6) (by decide +kernel))) (by decide +kernel)), (tb_mem (t_in2 (List.mem_of_getElem? (i := 197) (by decide +kernel))) (by decide +kernel)), ⟨by decide +kernel, by decide +kernel, by decide +kernel⟩⟩
theorem ivX7_104 : IV RX7 104 yX7_filmChanged cX7_filmChanged 1 none 0 := ⟨(tb_mem (t_in2 (List.mem_of_getElem? (i := 198) (by decide +kernel))) (by decide +kernel)), (tb_mem (t_in2 (List.mem_of_getElem? (i := 200) (by decide +kernel))) (by decide +kernel)), (tb_sel (q := (⟨"GapTellings", "filmChanged", "()V"⟩, 13)) (List.mem_of_getElem? (i := 1) (by decide +kernel)) (by decide +kernel)), (tb_mem (t_in1 (List.mem_of_getElem? (i := 1) (by decide +kernel))) (by decide +kernel)), (tb_mem (t_in2 (List.mem_of_getElem? (i := 201) (by decide +kernel))) (by decide +kernel)), ⟨by decide +kernel, by decide +kernel, by decide +kernel⟩⟩
set_option maxHeartbeats 4000000 in
set_option maxRecDepth 20000 in
theorem sgX7_layText_0 {κ : Kx} {K : Kont} {M : Mem} (C : Cx κ RX7 cX7_layText 1 none rmX7_layText domC) 
    (h :
    spX5_read (M 0 0 1) 1 M (rI (fun r16 M16 =>
    spX4_clear 0 M16 (rV (fun M24 =>
    spX7_filmChanged M24 (rV (fun M28 =>
    K none M28))))))) : V κ 1 M 0 [some (.inr (0, 0))] [] K := by
  refine v_aload_n C dX7_layText_0 rfl ?_
  refine v_get C dX7_layText_1 flX7_16 rfl (by decide) (by decide) (w := .inr (2, 0)) rfl ?_
  refine v_aload_n C dX7_layText_4 rfl ?_
  refine v_get C dX7_layText_5 flX7_9 rfl (by decide) (by decide) (w := .inr (1, 0)) rfl ?_
  refine v_aload_n C dX7_layText_8 rfl ?_
  refine v_get C dX7_layText_9 flX7_86 rfl (by decide) (by decide) (w := .inl (M 0 0 1)) rfl ?_
  refine v_aload_n C dX7_layText_12 rfl ?_
  refine v_get C dX7_layText_13 flX7_27 rfl (by decide) (by decide) (w := .inr (5, 1)) rfl ?_
  refine v_invV C ctX5_read dX7_layText_16 ivX7_93 ⟨by decide, by decide, rfl, rfl⟩ ((M 0 0 1, 1) : Int × Int) (As := [.inr (1, 0), .inl (M 0 0 1), .inr (5, 1)]) rfl rfl rfl (by decide) rfl (st := []) rfl (Nat.le_of_ble_eq_true rfl) h (fun o M16 oM16 io16 g16 => ?_)
  replace h := rI_out g16
  clear g16
  obtain ⟨r16, rfl, h⟩ := h
  refine v_push ?_
  refine v_pop C dX7_layText_19 ?_
  refine v_aload_n C dX7_layText_20 rfl ?_
  refine v_get C dX7_layText_21 flX7_45 rfl (by decide) (by decide) (w := .inr (18, 0)) rfl ?_
  refine v_invV C ctX4_clear dX7_layText_24 ivX7_110 ⟨by decide, by decide, rfl, rfl⟩ (0 : Int) (As := []) rfl rfl rfl (by decide) rfl (st := []) rfl (Nat.le_of_ble_eq_true rfl) h (fun o M24 oM24 io24 g24 => ?_)
  replace h := rV_out g24
  clear g24
  obtain ⟨rfl, h⟩ := h
  refine v_push0 ?_
  refine v_aload_n C dX7_layText_27 rfl ?_
  refine v_invV C ctX7_filmChanged dX7_layText_28 ivX7_104 ⟨by decide, by decide, rfl, rfl⟩ (() : Unit) (As := []) rfl rfl rfl (by decide) rfl (st := []) rfl (Nat.le_of_ble_eq_true rfl) h (fun o M28 oM28 io28 g28 => ?_)
  replace h := rV_out g28
  clear g28
  obtain ⟨rfl, h⟩ := h
  refine v_push0 ?_
  exact v_vret C dX7_layText_31 h
theorem clr0 (M : Mem) (q : Int) (h0 : 0 ≤ q) (h1 : q < 7) : filM (filM M 19 0 7 (-4)) 20 0 7 (-4) 19 0 q = -4 ∧ filM (filM M 19 0 7 (-4)) 20 0 7 (-4) 20 0 q = -4 := by
  unfold filM
  refine ⟨?_, ?_⟩
  · rw [if_neg (by omega), if_pos (by omega)]
  · rw [if_pos (by omega)]
theorem clr_o (M : Mem) {r : Nat} {i : Int} (h : ¬ ((r = 19 ∨ r = 20) ∧ i = 0)) : filM (filM M 19 0 7 (-4)) 20 0 7 (-4) r i = M r i := by
  funext j
  unfold filM
  rw [if_neg (by omega), if_neg (by omega)]
abbrev spX7_layText (M : Mem) (K : Kont) : Prop := (InvP M) ∧ ∀ M', InvC M' → Ch M M' (psrV (M 1 0) (M 0 0 1)).2 (fun _ => -4) (fun _ => -4) → K none M'
theorem ctX7_layText : CtX7_layText spX7_layText := by
  refine ct_of (by decide) dmC (fun _ => Nat.le_of_ble_eq_true rfl) ?_
  intro κ a M K C oM h
  obtain ⟨hI, hk⟩ := h
  refine sgX7_layText_0 C ⟨⟨hI.1.1, hI.1.2⟩, fun N hA hf hw => ?_⟩
  have o : ∀ r i, (r = 0 ∨ r = 1 ∨ 14 ≤ r) → N r i = M r i := fun r i q => by funext j; exact hA r i j (by omega)
  have f2 : cFilm (filM (filM N 19 0 7 (-4)) 20 0 7 (-4)) 1 = cFilm N 1 := cFilm_eq (fun r x y => by funext i; exact clr_o N (by omega)) 1
  refine ⟨InvP_film hI (fun r i q => by rw [clr_o N (by omega)]; exact o r i (by omega)) (by rw [f2]; exact hw) (PlV_none _ (fun q a b => clr0 N q a b)), fun N2 hI2 hs => ?_⟩
  refine hk N2 hI2 ⟨?_, ?_, ?_, ?_, ?_⟩
  · rw [hs.1, clr_o N (by omega), o 0 0 (by omega)]
  · rw [hs.2.1, clr_o N (by omega), o 1 0 (by omega)]
  · exact fun r x => (hs.2.2.2.2.2 r x).trans (by funext i; rw [clr_o N (by omega), o r i (by omega)])
  · rw [hs.2.2.1, f2, hf]
    have := psr_c (M 1 0) (M 0 0 1) (M 0 0 1).toNat 0 (sF0 (fun _ _ _ => 0)) (sF0 (cFilm M 1)) (sF0_wf _) (sF0_c _ _)
    exact this.2.1
  · intro q a b
    rw [hs.2.2.2.1, hs.2.2.2.2.1, (clr0 N q a b).1, (clr0 N q a b).2]
    exact ⟨rfl, rfl⟩
/-! ===== GapTellings.lay ===== -/
abbrev rmX7_lay : Room := { frames := 10, cells := 0, slots := 0, locals := 227 }
abbrev argX7_lay (a : Unit) : List PV := [.inr (0, 0)]
abbrev CtX7_lay (sp : Mem → Kont → Prop) : Prop := Ct yX7_lay cX7_lay 1 (some .int) rmX7_lay domC argX7_lay (fun _ => sp)
theorem dX7_lay_0 : decode cX7_lay 0 = .ok (.aload_n 0, 1) := by decide +kernel
theorem dX7_lay_1 : decode cX7_lay 1 = .ok (.getfield 86, 3) := by decide +kernel
theorem dX7_lay_4 : decode cX7_lay 4 = .ok (.ifCond .eq 27, 3) := by decide +kernel
theorem dX7_lay_7 : decode cX7_lay 7 = .ok (.aload_n 0, 1) := by decide +kernel
theorem dX7_lay_8 : decode cX7_lay 8 = .ok (.getfield 16, 3) := by decide +kernel
theorem dX7_lay_11 : decode cX7_lay 11 = .ok (.aload_n 0, 1) := by decide +kernel
theorem dX7_lay_12 : decode cX7_lay 12 = .ok (.getfield 9, 3) := by decide +kernel
theorem dX7_lay_15 : decode cX7_lay 15 = .ok (.aload_n 0, 1) := by decide +kernel
theorem dX7_lay_16 : decode cX7_lay 16 = .ok (.getfield 86, 3) := by decide +kernel
theorem dX7_lay_19 : decode cX7_lay 19 = .ok (.aload_n 0, 1) := by decide +kernel
theorem dX7_lay_20 : decode cX7_lay 20 = .ok (.getfield 23, 3) := by decide +kernel
theorem dX7_lay_23 : decode cX7_lay 23 = .ok (.invokevirtual 93, 3) := by decide +kernel
theorem dX7_lay_26 : decode cX7_lay 26 = .ok (.bipush (-4), 2) := by decide +kernel
theorem dX7_lay_28 : decode cX7_lay 28 = .ok (.if_icmp .eq 6, 3) := by decide +kernel
theorem dX7_lay_31 : decode cX7_lay 31 = .ok (.bipush (-2), 2) := by decide +kernel
theorem dX7_lay_33 : decode cX7_lay 33 = .ok (.ireturn, 1) := by decide +kernel
theorem dX7_lay_34 : decode cX7_lay 34 = .ok (.aload_n 0, 1) := by decide +kernel
theorem dX7_lay_35 : decode cX7_lay 35 = .ok (.invokevirtual 90, 3) := by decide +kernel
theorem dX7_lay_38 : decode cX7_lay 38 = .ok (.aload_n 0, 1) := by decide +kernel
theorem dX7_lay_39 : decode cX7_lay 39 = .ok (.getfield 27, 3) := by decide +kernel
theorem dX7_lay_42 : decode cX7_lay 42 = .ok (.getfield 97, 3) := by decide +kernel
theorem dX7_lay_45 : decode cX7_lay 45 = .ok (.ireturn, 1) := by decide +kernel
theorem ivX7_90 : IV RX7 90 yX7_layText cX7_layText 1 none 0 := ⟨(tb_mem (t_in2 (List.mem_of_getElem? (i := 72) (by decide +kernel))) (by decide +kernel)), (tb_mem (t_in2 (List.mem_of_getElem? (i := 74) (by decide +kernel))) (by decide +kernel)), (tb_sel (q := (⟨"GapTellings", "layText", "()V"⟩, 13)) (List.mem_of_getElem? (i := 0) (by decide +kernel)) (by decide +kernel)), (tb_mem (t_in1 (List.mem_of_getElem? (i := 1) (by decide +kernel))) (by decide +kernel)), (tb_mem (t_in2 (List.mem_of_getElem? (i := 75) (by decide +kernel))) (by decide +kernel)), ⟨by decide +kernel, by decide +kernel, by decide +kernel⟩⟩
set_option maxHeartbeats 4000000 in
set_option maxRecDepth 20000 in
theorem sgX7_lay_0 {κ : Kx} {K : Kont} {M : Mem} (C : Cx κ RX7 cX7_lay 1 (some .int) rmX7_lay domC) 
    (h :
    (((M 0 0 1) = 0 →
      K (some (-2)) M) ∧
     (¬ ((M 0 0 1) = 0) →
      spX5_read (M 0 0 1) 0 M (rI (fun r23 M23 =>
      ((r23 = (-4) →
        spX7_layText M23 (rV (fun M35 =>
        K (some (M35 5 1 7)) M35))) ∧
       (¬ (r23 = (-4)) →
        K (some (-2)) M23))))))) : V κ 1 M 0 [some (.inr (0, 0))] [] K := by
  refine v_aload_n C dX7_lay_0 rfl ?_
  refine v_get C dX7_lay_1 flX7_86 rfl (by decide) (by decide) (w := .inl (M 0 0 1)) rfl ?_
  refine v_if C dX7_lay_4 (tgt := 31) (by decide) (P := (M 0 0 1) = 0) rfl (fun c4 => ?_) (fun c4 => ?_)
  · replace h := h.1 c4
    refine v_bipush C dX7_lay_31 (by decide) (by decide) ?_
    exact v_iret C dX7_lay_33 h
  · replace h := h.2 c4
    refine v_aload_n C dX7_lay_7 rfl ?_
    refine v_get C dX7_lay_8 flX7_16 rfl (by decide) (by decide) (w := .inr (2, 0)) rfl ?_
    refine v_aload_n C dX7_lay_11 rfl ?_
    refine v_get C dX7_lay_12 flX7_9 rfl (by decide) (by decide) (w := .inr (1, 0)) rfl ?_
    refine v_aload_n C dX7_lay_15 rfl ?_
    refine v_get C dX7_lay_16 flX7_86 rfl (by decide) (by decide) (w := .inl (M 0 0 1)) rfl ?_
    refine v_aload_n C dX7_lay_19 rfl ?_
    refine v_get C dX7_lay_20 flX7_23 rfl (by decide) (by decide) (w := .inr (5, 0)) rfl ?_
    refine v_invV C ctX5_read dX7_lay_23 ivX7_93 ⟨by decide, by decide, rfl, rfl⟩ ((M 0 0 1, 0) : Int × Int) (As := [.inr (1, 0), .inl (M 0 0 1), .inr (5, 0)]) rfl rfl rfl (by decide) rfl (st := []) rfl (Nat.le_of_ble_eq_true rfl) h (fun o M23 oM23 io23 g23 => ?_)
    replace h := rI_out g23
    clear g23
    obtain ⟨r23, rfl, h⟩ := h
    refine v_push ?_
    refine v_bipush C dX7_lay_26 (by decide) (by decide) ?_
    refine v_icmp C dX7_lay_28 (tgt := 34) (by decide) (P := r23 = (-4)) rfl (fun c28 => ?_) (fun c28 => ?_)
    · replace h := h.1 c28
      refine v_aload_n C dX7_lay_34 rfl ?_
      refine v_invV C ctX7_layText dX7_lay_35 ivX7_90 ⟨by decide, by decide, rfl, rfl⟩ (() : Unit) (As := []) rfl rfl rfl (by decide) rfl (st := []) rfl (Nat.le_of_ble_eq_true rfl) h (fun o M35 oM35 io35 g35 => ?_)
      replace h := rV_out g35
      clear g35
      obtain ⟨rfl, h⟩ := h
      refine v_push0 ?_
      refine v_aload_n C dX7_lay_38 rfl ?_
      refine v_get C dX7_lay_39 flX7_27 rfl (by decide) (by decide) (w := .inr (5, 1)) rfl ?_
      refine v_get C dX7_lay_42 flX7_97 rfl (by decide) (by decide) (w := .inl (M35 5 1 7)) rfl ?_
      exact v_iret C dX7_lay_45 h
    · replace h := h.2 c28
      refine v_bipush C dX7_lay_31 (by decide) (by decide) ?_
      exact v_iret C dX7_lay_33 h
theorem Ch.tr {M M' M2 : Mem} {F G : Film} {v s v2 s2 : Int → Int} (h : Ch M M' F v s) (h2 : Ch M' M2 G v2 s2) : Ch M M2 G v2 s2 := ⟨h2.1.trans h.1, h2.2.1.trans h.2.1, h.2.2.1.tr h2.2.2.1, h2.2.2.2⟩
abbrev spX7_lay (M : Mem) (K : Kont) : Prop := InvC M ∧ (M 0 0 1 = 0 → K (some (-2)) M) ∧ (M 0 0 1 ≠ 0 → (psrV (M 1 0) (M 0 0 1)).1 ≠ -4 → ∀ M', InvC M' → Ch M M' (cFilm M 1) (M 19 0) (M 20 0) → K (some (-2)) M') ∧
  (M 0 0 1 ≠ 0 → (psrV (M 1 0) (M 0 0 1)).1 = -4 → ∀ M', InvC M' → Ch M M' (psrV (M 1 0) (M 0 0 1)).2 (fun _ => -4) (fun _ => -4) → K (some ((psrV (M 1 0) (M 0 0 1)).2 3 0 0)) M')
theorem ctX7_lay : CtX7_lay spX7_lay := by
  refine ct_of (by decide) dmC (fun _ => Nat.le_of_ble_eq_true rfl) ?_
  intro κ a M K C oM h
  obtain ⟨hI, k1, k2, k3⟩ := h
  refine sgX7_lay_0 C ⟨fun c => k1 c, fun c => ⟨⟨hI.1.1.1, hI.1.1.2⟩, fun N hA hf hw => ?_⟩⟩
  have hd := InvC_draft hI hA
  rw [(psrV_c _ _ _).1]
  refine ⟨fun c2 => ⟨hd.1.1, fun N2 hI2 hs => ?_⟩, fun c2 => k2 c c2 N hd.1 hd.2.ch⟩
  rw [hd.2.1, hd.2.2.1] at hs
  have e : (psrV (M 1 0) (M 0 0 1)).2 3 0 0 = N2 5 1 7 := hs.2.2.2.1.2.2.2.1
  show K (some (N2 5 1 7)) N2
  rw [← e]
  exact k3 c c2 N2 hI2 (hd.2.ch.tr hs)
/-! ===== GapTellings.rate ===== -/
abbrev rmX7_rate : Room := { frames := 3, cells := 0, slots := 0, locals := 69 }
abbrev argX7_rate (a : Int × Int) : List PV := [.inr (0, 0), .inl a.1, .inl a.2]
abbrev CtX7_rate (sp : Int → Int → Mem → Kont → Prop) : Prop := Ct yX7_rate cX7_rate 4 (some .int) rmX7_rate domC argX7_rate (fun a => sp a.1 a.2)
theorem dX7_rate_0 : decode cX7_rate 0 = .ok (.iload_n 1, 1) := by decide +kernel
theorem dX7_rate_1 : decode cX7_rate 1 = .ok (.ifCond .lt 18, 3) := by decide +kernel
theorem dX7_rate_4 : decode cX7_rate 4 = .ok (.iload_n 1, 1) := by decide +kernel
theorem dX7_rate_5 : decode cX7_rate 5 = .ok (.iconst 4, 1) := by decide +kernel
theorem dX7_rate_6 : decode cX7_rate 6 = .ok (.if_icmp .ge 13, 3) := by decide +kernel
theorem dX7_rate_9 : decode cX7_rate 9 = .ok (.iload_n 2, 1) := by decide +kernel
theorem dX7_rate_10 : decode cX7_rate 10 = .ok (.ifCond .lt 9, 3) := by decide +kernel
theorem dX7_rate_13 : decode cX7_rate 13 = .ok (.iload_n 2, 1) := by decide +kernel
theorem dX7_rate_14 : decode cX7_rate 14 = .ok (.bipush 9, 2) := by decide +kernel
theorem dX7_rate_16 : decode cX7_rate 16 = .ok (.if_icmp .le 5, 3) := by decide +kernel
theorem dX7_rate_19 : decode cX7_rate 19 = .ok (.iconst (-1), 1) := by decide +kernel
theorem dX7_rate_20 : decode cX7_rate 20 = .ok (.ireturn, 1) := by decide +kernel
theorem dX7_rate_21 : decode cX7_rate 21 = .ok (.aload_n 0, 1) := by decide +kernel
theorem dX7_rate_22 : decode cX7_rate 22 = .ok (.getfield 27, 3) := by decide +kernel
theorem dX7_rate_25 : decode cX7_rate 25 = .ok (.getfield 100, 3) := by decide +kernel
theorem dX7_rate_28 : decode cX7_rate 28 = .ok (.iload_n 1, 1) := by decide +kernel
theorem dX7_rate_29 : decode cX7_rate 29 = .ok (.iaload, 1) := by decide +kernel
theorem dX7_rate_30 : decode cX7_rate 30 = .ok (.istore_n 3, 1) := by decide +kernel
theorem dX7_rate_31 : decode cX7_rate 31 = .ok (.iload_n 3, 1) := by decide +kernel
theorem dX7_rate_32 : decode cX7_rate 32 = .ok (.iload_n 2, 1) := by decide +kernel
theorem dX7_rate_33 : decode cX7_rate 33 = .ok (.if_icmp .ne 6, 3) := by decide +kernel
theorem dX7_rate_36 : decode cX7_rate 36 = .ok (.bipush (-2), 2) := by decide +kernel
theorem dX7_rate_38 : decode cX7_rate 38 = .ok (.ireturn, 1) := by decide +kernel
theorem dX7_rate_39 : decode cX7_rate 39 = .ok (.aload_n 0, 1) := by decide +kernel
theorem dX7_rate_40 : decode cX7_rate 40 = .ok (.getfield 27, 3) := by decide +kernel
theorem dX7_rate_43 : decode cX7_rate 43 = .ok (.getfield 100, 3) := by decide +kernel
theorem dX7_rate_46 : decode cX7_rate 46 = .ok (.iload_n 1, 1) := by decide +kernel
theorem dX7_rate_47 : decode cX7_rate 47 = .ok (.iload_n 2, 1) := by decide +kernel
theorem dX7_rate_48 : decode cX7_rate 48 = .ok (.iastore, 1) := by decide +kernel
theorem dX7_rate_49 : decode cX7_rate 49 = .ok (.aload_n 0, 1) := by decide +kernel
theorem dX7_rate_50 : decode cX7_rate 50 = .ok (.invokevirtual 104, 3) := by decide +kernel
theorem dX7_rate_53 : decode cX7_rate 53 = .ok (.iload_n 3, 1) := by decide +kernel
theorem dX7_rate_54 : decode cX7_rate 54 = .ok (.ireturn, 1) := by decide +kernel
theorem flX7_100 : FL RX7 100 1 2 := ⟨_, _, _, rfl, by decide, uwX1, Or.inr ⟨"GapTellings", (nw_mem (t_in1 (List.mem_of_getElem? (i := 118) (by decide +kernel))) (by decide +kernel))⟩⟩
set_option maxHeartbeats 4000000 in
set_option maxRecDepth 20000 in
theorem sgX7_rate_0 {κ : Kx} {K : Kont} {M : Mem} (C : Cx κ RX7 cX7_rate 4 (some .int) rmX7_rate domC) (x1 : Int) (x2 : Int)
    (h :
    ((x1 < 0 →
      K (some (-1)) M) ∧
     (¬ (x1 < 0) →
      ((4 ≤ x1 →
        K (some (-1)) M) ∧
       (¬ (4 ≤ x1) →
        ((x2 < 0 →
          K (some (-1)) M) ∧
         (¬ (x2 < 0) →
          ((x2 ≤ 9 →
            (0 ≤ x1 ∧ x1 < 4) ∧
            (((M 6 1 x1) ≠ x2 →
              (0 ≤ x1 ∧ x1 < 4) ∧
              ∀ M48 : Mem, M48 = up3 M 6 1 x1 x2 →
              spX7_filmChanged M48 (rV (fun M50 =>
              K (some (M 6 1 x1)) M50))) ∧
             (¬ ((M 6 1 x1) ≠ x2) →
              K (some (-2)) M))) ∧
           (¬ (x2 ≤ 9) →
            K (some (-1)) M))))))))) : V κ 4 M 0 [some (.inr (0, 0)), some (.inl x1), some (.inl x2), none] [] K := by
  refine v_iload_n C dX7_rate_0 rfl ?_
  refine v_if C dX7_rate_1 (tgt := 19) (by decide) (P := x1 < 0) rfl (fun c1 => ?_) (fun c1 => ?_)
  · replace h := h.1 c1
    refine v_iconst C dX7_rate_19 (by decide) ?_
    exact v_iret C dX7_rate_20 h
  · replace h := h.2 c1
    refine v_iload_n C dX7_rate_4 rfl ?_
    refine v_iconst C dX7_rate_5 (by decide) ?_
    refine v_icmp C dX7_rate_6 (tgt := 19) (by decide) (P := 4 ≤ x1) rfl (fun c6 => ?_) (fun c6 => ?_)
    · replace h := h.1 c6
      refine v_iconst C dX7_rate_19 (by decide) ?_
      exact v_iret C dX7_rate_20 h
    · replace h := h.2 c6
      refine v_iload_n C dX7_rate_9 rfl ?_
      refine v_if C dX7_rate_10 (tgt := 19) (by decide) (P := x2 < 0) rfl (fun c10 => ?_) (fun c10 => ?_)
      · replace h := h.1 c10
        refine v_iconst C dX7_rate_19 (by decide) ?_
        exact v_iret C dX7_rate_20 h
      · replace h := h.2 c10
        refine v_iload_n C dX7_rate_13 rfl ?_
        refine v_bipush C dX7_rate_14 (by decide) (by decide) ?_
        refine v_icmp C dX7_rate_16 (tgt := 21) (by decide) (P := x2 ≤ 9) rfl (fun c16 => ?_) (fun c16 => ?_)
        · replace h := h.1 c16
          refine v_aload_n C dX7_rate_21 rfl ?_
          refine v_get C dX7_rate_22 flX7_27 rfl (by decide) (by decide) (w := .inr (5, 1)) rfl ?_
          refine v_get C dX7_rate_25 flX7_100 rfl (by decide) (by decide) (w := .inr (6, 1)) rfl ?_
          refine v_iload_n C dX7_rate_28 rfl ?_
          refine v_iald C dX7_rate_29 rfl h.1.1 h.1.2 ?_
          replace h := h.2
          refine v_istore_n C dX7_rate_30 (by decide) (Nat.le_of_ble_eq_true rfl) (lv' := [some (.inr (0, 0)), some (.inl x1), some (.inl x2), some (.inl (M 6 1 x1))]) rfl ?_
          refine v_iload_n C dX7_rate_31 rfl ?_
          refine v_iload_n C dX7_rate_32 rfl ?_
          refine v_icmp C dX7_rate_33 (tgt := 39) (by decide) (P := (M 6 1 x1) ≠ x2) rfl (fun c33 => ?_) (fun c33 => ?_)
          · replace h := h.1 c33
            refine v_aload_n C dX7_rate_39 rfl ?_
            refine v_get C dX7_rate_40 flX7_27 rfl (by decide) (by decide) (w := .inr (5, 1)) rfl ?_
            refine v_get C dX7_rate_43 flX7_100 rfl (by decide) (by decide) (w := .inr (6, 1)) rfl ?_
            refine v_iload_n C dX7_rate_46 rfl ?_
            refine v_iload_n C dX7_rate_47 rfl ?_
            refine v_iast C dX7_rate_48 rfl h.1.1 h.1.2 ?_
            replace h := h.2
            refine v_nmM (fun M48 eM48 => ?_)
            replace h := h M48 eM48
            refine v_aload_n C dX7_rate_49 rfl ?_
            refine v_invV C ctX7_filmChanged dX7_rate_50 ivX7_104 ⟨by decide, by decide, rfl, rfl⟩ (() : Unit) (As := []) rfl rfl rfl (by decide) rfl (st := []) rfl (Nat.le_of_ble_eq_true rfl) h (fun o M50 oM50 io50 g50 => ?_)
            replace h := rV_out g50
            clear g50
            obtain ⟨rfl, h⟩ := h
            refine v_push0 ?_
            refine v_iload_n C dX7_rate_53 rfl ?_
            exact v_iret C dX7_rate_54 h
          · replace h := h.2 c33
            refine v_bipush C dX7_rate_36 (by decide) (by decide) ?_
            exact v_iret C dX7_rate_38 h
        · replace h := h.2 c16
          refine v_iconst C dX7_rate_19 (by decide) ?_
          exact v_iret C dX7_rate_20 h
abbrev spX7_rate (w r : Int) (M : Mem) (K : Kont) : Prop := InvC M ∧ (¬ ((0 ≤ w ∧ w < 4) ∧ 0 ≤ r ∧ r ≤ 9) → K (some (-1)) M) ∧ (((0 ≤ w ∧ w < 4) ∧ 0 ≤ r ∧ r ≤ 9) → cFilm M 1 4 w 0 = r → K (some (-2)) M) ∧
  (((0 ≤ w ∧ w < 4) ∧ 0 ≤ r ∧ r ≤ 9) → cFilm M 1 4 w 0 ≠ r → ∀ M', InvC M' → Ch M M' (sFR (cFilm M 1) w r) (M 19 0) (M 20 0) → K (some (cFilm M 1 4 w 0)) M')
theorem ctX7_rate : CtX7_rate spX7_rate := by
  refine ct_of (by decide) dmC (fun _ => Nat.le_of_ble_eq_true rfl) ?_
  intro κ a M K C oM h
  obtain ⟨w, r⟩ := a
  dsimp only [spX7_rate] at h
  obtain ⟨hI, k1, k2, k3⟩ := h
  refine sgX7_rate_0 C w r ⟨fun c => k1 (by omega), fun c => ⟨fun c2 => k1 (by omega), fun c2 => ⟨fun c3 => k1 (by omega), fun c3 => ⟨fun c4 => ⟨by omega, fun c5 => ⟨by omega, fun N e => ?_⟩, fun c5 => k2 (by omega) (by exact Classical.byContradiction c5)⟩, fun c4 => k1 (by omega)⟩⟩⟩⟩
  have hf : cFilm N 1 = sFR (cFilm M 1) w r := by
    rw [e]
    funext t a b
    unfold cFilm sFR
    split <;> simp [up3]
    simp_all
  have o : ∀ r i, r ≠ 6 → N r i = M r i := fun r i q => by funext j; rw [e, up3_r _ _ _ _ _ q]
  have hP : PlV (cFilm N 1) (N 19 0) (N 20 0) := by
    rw [hf, o 19 0 (by decide), o 20 0 (by decide)]
    exact PlV_mono (by simp [sFR]) (by simp [sFR]) (fun p _ _ => by simp [sFR]) hI.1.2.2.2.2
  refine ⟨InvP_film hI.1 (fun r i q => o r i (by omega)) (by rw [hf]; exact wf_R hI.1.2.1 ⟨by omega, c4⟩) hP, fun N2 hI2 hs => ?_⟩
  refine k3 (by omega) c5 N2 hI2 ⟨?_, ?_, ?_, ?_, ?_⟩
  · rw [hs.1, o 0 0 (by decide)]
  · rw [hs.2.1, o 1 0 (by decide)]
  · exact fun r x => (hs.2.2.2.2.2 r x).trans (by funext i; exact o r i (by omega))
  · rw [hs.2.2.1, hf]; exact FEq.rf
  · rw [hs.2.2.2.1, hs.2.2.2.2.1, o 19 0 (by decide), o 20 0 (by decide)]; exact PlEq.rfl'
/-! ===== GapTellings.breath ===== -/
abbrev rmX7_breath : Room := { frames := 3, cells := 0, slots := 0, locals := 69 }
abbrev argX7_breath (a : Int) : List PV := [.inr (0, 0), .inl a]
abbrev CtX7_breath (sp : Int → Mem → Kont → Prop) : Prop := Ct yX7_breath cX7_breath 3 (some .int) rmX7_breath domC argX7_breath (fun a => sp a)
theorem dX7_breath_0 : decode cX7_breath 0 = .ok (.iload_n 1, 1) := by decide +kernel
theorem dX7_breath_1 : decode cX7_breath 1 = .ok (.ifCond .lt 9, 3) := by decide +kernel
theorem dX7_breath_4 : decode cX7_breath 4 = .ok (.iload_n 1, 1) := by decide +kernel
theorem dX7_breath_5 : decode cX7_breath 5 = .ok (.bipush 9, 2) := by decide +kernel
theorem dX7_breath_7 : decode cX7_breath 7 = .ok (.if_icmp .le 5, 3) := by decide +kernel
theorem dX7_breath_10 : decode cX7_breath 10 = .ok (.iconst (-1), 1) := by decide +kernel
theorem dX7_breath_11 : decode cX7_breath 11 = .ok (.ireturn, 1) := by decide +kernel
theorem dX7_breath_12 : decode cX7_breath 12 = .ok (.aload_n 0, 1) := by decide +kernel
theorem dX7_breath_13 : decode cX7_breath 13 = .ok (.getfield 27, 3) := by decide +kernel
theorem dX7_breath_16 : decode cX7_breath 16 = .ok (.getfield 107, 3) := by decide +kernel
theorem dX7_breath_19 : decode cX7_breath 19 = .ok (.istore_n 2, 1) := by decide +kernel
theorem dX7_breath_20 : decode cX7_breath 20 = .ok (.iload_n 2, 1) := by decide +kernel
theorem dX7_breath_21 : decode cX7_breath 21 = .ok (.iload_n 1, 1) := by decide +kernel
theorem dX7_breath_22 : decode cX7_breath 22 = .ok (.if_icmp .ne 6, 3) := by decide +kernel
theorem dX7_breath_25 : decode cX7_breath 25 = .ok (.bipush (-2), 2) := by decide +kernel
theorem dX7_breath_27 : decode cX7_breath 27 = .ok (.ireturn, 1) := by decide +kernel
theorem dX7_breath_28 : decode cX7_breath 28 = .ok (.aload_n 0, 1) := by decide +kernel
theorem dX7_breath_29 : decode cX7_breath 29 = .ok (.getfield 27, 3) := by decide +kernel
theorem dX7_breath_32 : decode cX7_breath 32 = .ok (.iload_n 1, 1) := by decide +kernel
theorem dX7_breath_33 : decode cX7_breath 33 = .ok (.putfield 107, 3) := by decide +kernel
theorem dX7_breath_36 : decode cX7_breath 36 = .ok (.aload_n 0, 1) := by decide +kernel
theorem dX7_breath_37 : decode cX7_breath 37 = .ok (.getfield 45, 3) := by decide +kernel
theorem dX7_breath_40 : decode cX7_breath 40 = .ok (.invokevirtual 110, 3) := by decide +kernel
theorem dX7_breath_43 : decode cX7_breath 43 = .ok (.aload_n 0, 1) := by decide +kernel
theorem dX7_breath_44 : decode cX7_breath 44 = .ok (.invokevirtual 104, 3) := by decide +kernel
theorem dX7_breath_47 : decode cX7_breath 47 = .ok (.iload_n 2, 1) := by decide +kernel
theorem dX7_breath_48 : decode cX7_breath 48 = .ok (.ireturn, 1) := by decide +kernel
theorem plX7_107 : PL RX7 107 1 1 .int := ⟨_, _, _, rfl, by decide, uwX1, Or.inr ⟨"GapTellings", (nw_mem (t_in1 (List.mem_of_getElem? (i := 113) (by decide +kernel))) (by decide +kernel))⟩, rfl, by decide +kernel, tyX1, tyX1_ok, nmX1⟩
set_option maxHeartbeats 4000000 in
set_option maxRecDepth 20000 in
theorem sgX7_breath_0 {κ : Kx} {K : Kont} {M : Mem} (C : Cx κ RX7 cX7_breath 3 (some .int) rmX7_breath domC) (x1 : Int)
    (h :
    ((x1 < 0 →
      K (some (-1)) M) ∧
     (¬ (x1 < 0) →
      ((x1 ≤ 9 →
        (((M 5 1 1) ≠ x1 →
          ∀ M33 : Mem, M33 = up3 M 5 1 1 x1 →
          spX4_clear 0 M33 (rV (fun M40 =>
          spX7_filmChanged M40 (rV (fun M44 =>
          K (some (M 5 1 1)) M44))))) ∧
         (¬ ((M 5 1 1) ≠ x1) →
          K (some (-2)) M))) ∧
       (¬ (x1 ≤ 9) →
        K (some (-1)) M))))) : V κ 3 M 0 [some (.inr (0, 0)), some (.inl x1), none] [] K := by
  refine v_iload_n C dX7_breath_0 rfl ?_
  refine v_if C dX7_breath_1 (tgt := 10) (by decide) (P := x1 < 0) rfl (fun c1 => ?_) (fun c1 => ?_)
  · replace h := h.1 c1
    refine v_iconst C dX7_breath_10 (by decide) ?_
    exact v_iret C dX7_breath_11 h
  · replace h := h.2 c1
    refine v_iload_n C dX7_breath_4 rfl ?_
    refine v_bipush C dX7_breath_5 (by decide) (by decide) ?_
    refine v_icmp C dX7_breath_7 (tgt := 12) (by decide) (P := x1 ≤ 9) rfl (fun c7 => ?_) (fun c7 => ?_)
    · replace h := h.1 c7
      refine v_aload_n C dX7_breath_12 rfl ?_
      refine v_get C dX7_breath_13 flX7_27 rfl (by decide) (by decide) (w := .inr (5, 1)) rfl ?_
      refine v_get C dX7_breath_16 flX7_107 rfl (by decide) (by decide) (w := .inl (M 5 1 1)) rfl ?_
      refine v_istore_n C dX7_breath_19 (by decide) (Nat.le_of_ble_eq_true rfl) (lv' := [some (.inr (0, 0)), some (.inl x1), some (.inl (M 5 1 1))]) rfl ?_
      refine v_iload_n C dX7_breath_20 rfl ?_
      refine v_iload_n C dX7_breath_21 rfl ?_
      refine v_icmp C dX7_breath_22 (tgt := 28) (by decide) (P := (M 5 1 1) ≠ x1) rfl (fun c22 => ?_) (fun c22 => ?_)
      · replace h := h.1 c22
        refine v_aload_n C dX7_breath_28 rfl ?_
        refine v_get C dX7_breath_29 flX7_27 rfl (by decide) (by decide) (w := .inr (5, 1)) rfl ?_
        refine v_iload_n C dX7_breath_32 rfl ?_
        refine v_put C dX7_breath_33 plX7_107 rfl (by decide) (by decide) rfl rfl rfl ?_
        refine v_nmM (fun M33 eM33 => ?_)
        replace h := h M33 eM33
        refine v_aload_n C dX7_breath_36 rfl ?_
        refine v_get C dX7_breath_37 flX7_45 rfl (by decide) (by decide) (w := .inr (18, 0)) rfl ?_
        refine v_invV C ctX4_clear dX7_breath_40 ivX7_110 ⟨by decide, by decide, rfl, rfl⟩ (0 : Int) (As := []) rfl rfl rfl (by decide) rfl (st := []) rfl (Nat.le_of_ble_eq_true rfl) h (fun o M40 oM40 io40 g40 => ?_)
        replace h := rV_out g40
        clear g40
        obtain ⟨rfl, h⟩ := h
        refine v_push0 ?_
        refine v_aload_n C dX7_breath_43 rfl ?_
        refine v_invV C ctX7_filmChanged dX7_breath_44 ivX7_104 ⟨by decide, by decide, rfl, rfl⟩ (() : Unit) (As := []) rfl rfl rfl (by decide) rfl (st := []) rfl (Nat.le_of_ble_eq_true rfl) h (fun o M44 oM44 io44 g44 => ?_)
        replace h := rV_out g44
        clear g44
        obtain ⟨rfl, h⟩ := h
        refine v_push0 ?_
        refine v_iload_n C dX7_breath_47 rfl ?_
        exact v_iret C dX7_breath_48 h
      · replace h := h.2 c22
        refine v_bipush C dX7_breath_25 (by decide) (by decide) ?_
        exact v_iret C dX7_breath_27 h
    · replace h := h.2 c7
      refine v_iconst C dX7_breath_10 (by decide) ?_
      exact v_iret C dX7_breath_11 h
abbrev spX7_breath (b : Int) (M : Mem) (K : Kont) : Prop := InvC M ∧ (¬ (0 ≤ b ∧ b ≤ 9) → K (some (-1)) M) ∧ ((0 ≤ b ∧ b ≤ 9) → cFilm M 1 1 0 0 = b → K (some (-2)) M) ∧
  ((0 ≤ b ∧ b ≤ 9) → cFilm M 1 1 0 0 ≠ b → ∀ M', InvC M' → Ch M M' (sFB (cFilm M 1) b) (fun _ => -4) (fun _ => -4) → K (some (cFilm M 1 1 0 0)) M')
theorem ctX7_breath : CtX7_breath spX7_breath := by
  refine ct_of (by decide) dmC (fun _ => Nat.le_of_ble_eq_true rfl) ?_
  intro κ b M K C oM h
  dsimp only [spX7_breath] at h
  obtain ⟨hI, k1, k2, k3⟩ := h
  refine sgX7_breath_0 C b ⟨fun c => k1 (by omega), fun c => ⟨fun c2 => ⟨fun c5 N e => ?_, fun c5 => k2 (by omega) (by exact Classical.byContradiction c5)⟩, fun c2 => k1 (by omega)⟩⟩
  have hf : cFilm N 1 = sFB (cFilm M 1) b := by
    rw [e]
    funext t a b
    unfold cFilm sFB
    split <;> simp [up3]
    simp_all
  have o : ∀ r i, r ≠ 5 → N r i = M r i := fun r i q => by funext j; rw [e, up3_r _ _ _ _ _ q]
  have f2 : cFilm (filM (filM N 19 0 7 (-4)) 20 0 7 (-4)) 1 = cFilm N 1 := cFilm_eq (fun r x y => by funext i; exact clr_o N (by omega)) 1
  refine ⟨InvP_film hI.1 (fun r i q => by rw [clr_o N (by omega)]; exact o r i (by omega)) (by rw [f2, hf]; exact wf_B hI.1.2.1 ⟨by omega, c2⟩) (PlV_none _ (fun q a b => clr0 N q a b)), fun N2 hI2 hs => ?_⟩
  refine k3 (by omega) c5 N2 hI2 ⟨?_, ?_, ?_, ?_, ?_⟩
  · rw [hs.1, clr_o N (by omega), o 0 0 (by decide)]
  · rw [hs.2.1, clr_o N (by omega), o 1 0 (by decide)]
  · exact fun r x => (hs.2.2.2.2.2 r x).trans (by funext i; rw [clr_o N (by omega)]; exact o r i (by omega))
  · rw [hs.2.2.1, f2, hf]; exact FEq.rf
  · intro q a b
    rw [hs.2.2.2.1, hs.2.2.2.2.1, (clr0 N q a b).1, (clr0 N q a b).2]
    exact ⟨rfl, rfl⟩
/-! ===== GapTellings.hush ===== -/
abbrev rmX7_hush : Room := { frames := 3, cells := 0, slots := 0, locals := 69 }
abbrev argX7_hush (a : Int) : List PV := [.inr (0, 0), .inl a]
abbrev CtX7_hush (sp : Int → Mem → Kont → Prop) : Prop := Ct yX7_hush cX7_hush 2 (some .int) rmX7_hush domC argX7_hush (fun a => sp a)
theorem dX7_hush_0 : decode cX7_hush 0 = .ok (.aload_n 0, 1) := by decide +kernel
theorem dX7_hush_1 : decode cX7_hush 1 = .ok (.iload_n 1, 1) := by decide +kernel
theorem dX7_hush_2 : decode cX7_hush 2 = .ok (.invokevirtual 127, 3) := by decide +kernel
theorem dX7_hush_5 : decode cX7_hush 5 = .ok (.ifCond .ne 5, 3) := by decide +kernel
theorem dX7_hush_8 : decode cX7_hush 8 = .ok (.iconst (-1), 1) := by decide +kernel
theorem dX7_hush_9 : decode cX7_hush 9 = .ok (.ireturn, 1) := by decide +kernel
theorem dX7_hush_10 : decode cX7_hush 10 = .ok (.aload_n 0, 1) := by decide +kernel
theorem dX7_hush_11 : decode cX7_hush 11 = .ok (.getfield 27, 3) := by decide +kernel
theorem dX7_hush_14 : decode cX7_hush 14 = .ok (.iload_n 1, 1) := by decide +kernel
theorem dX7_hush_15 : decode cX7_hush 15 = .ok (.invokevirtual 131, 3) := by decide +kernel
theorem dX7_hush_18 : decode cX7_hush 18 = .ok (.aload_n 0, 1) := by decide +kernel
theorem dX7_hush_19 : decode cX7_hush 19 = .ok (.invokevirtual 104, 3) := by decide +kernel
theorem dX7_hush_22 : decode cX7_hush 22 = .ok (.aload_n 0, 1) := by decide +kernel
theorem dX7_hush_23 : decode cX7_hush 23 = .ok (.getfield 27, 3) := by decide +kernel
theorem dX7_hush_26 : decode cX7_hush 26 = .ok (.getfield 116, 3) := by decide +kernel
theorem dX7_hush_29 : decode cX7_hush 29 = .ok (.ireturn, 1) := by decide +kernel
theorem ivX7_127 : IV RX7 127 yX7_hasSound cX7_hasSound 2 (some .boolean) 1 := ⟨(tb_mem (t_in3 (List.mem_of_getElem? (i := 85) (by decide +kernel))) (by decide +kernel)), (tb_mem (t_in3 (List.mem_of_getElem? (i := 87) (by decide +kernel))) (by decide +kernel)), (tb_sel (q := (⟨"GapTellings", "hasSound", "(I)Z"⟩, 13)) (List.mem_of_getElem? (i := 2) (by decide +kernel)) (by decide +kernel)), (tb_mem (t_in1 (List.mem_of_getElem? (i := 1) (by decide +kernel))) (by decide +kernel)), (tb_mem (t_in3 (List.mem_of_getElem? (i := 88) (by decide +kernel))) (by decide +kernel)), ⟨by decide +kernel, by decide +kernel, by decide +kernel⟩⟩
theorem ivX7_131 : IV RX7 131 yX1_dropSound cX1_dropSound 3 none 1 := ⟨(tb_mem (t_in3 (List.mem_of_getElem? (i := 89) (by decide +kernel))) (by decide +kernel)), (tb_mem (t_in3 (List.mem_of_getElem? (i := 90) (by decide +kernel))) (by decide +kernel)), (tb_mem (t_in3 (List.mem_of_getElem? (i := 91) (by decide +kernel))) (by decide +kernel)), (tb_mem (t_in1 (List.mem_of_getElem? (i := 3) (by decide +kernel))) (by decide +kernel)), (tb_mem (t_in3 (List.mem_of_getElem? (i := 92) (by decide +kernel))) (by decide +kernel)), ⟨by decide +kernel, by decide +kernel, by decide +kernel⟩⟩
set_option maxHeartbeats 4000000 in
set_option maxRecDepth 20000 in
theorem sgX7_hush_0 {κ : Kx} {K : Kont} {M : Mem} (C : Cx κ RX7 cX7_hush 2 (some .int) rmX7_hush domC) (x1 : Int)
    (h :
    spX7_hasSound x1 M (rI (fun r2 M2 =>
    ((r2 ≠ 0 →
      spX1_dropSound 1 x1 M2 (rV (fun M15 =>
      spX7_filmChanged M15 (rV (fun M19 =>
      K (some (M19 5 1 3)) M19))))) ∧
     (¬ (r2 ≠ 0) →
      K (some (-1)) M2))))) : V κ 2 M 0 [some (.inr (0, 0)), some (.inl x1)] [] K := by
  refine v_aload_n C dX7_hush_0 rfl ?_
  refine v_iload_n C dX7_hush_1 rfl ?_
  refine v_invV C ctX7_hasSound dX7_hush_2 ivX7_127 ⟨by decide, by decide, rfl, rfl⟩ (x1 : Int) (As := [.inl x1]) rfl rfl rfl (by decide) rfl (st := []) rfl (Nat.le_of_ble_eq_true rfl) h (fun o M2 oM2 io2 g2 => ?_)
  replace h := rI_out g2
  clear g2
  obtain ⟨r2, rfl, h⟩ := h
  refine v_push ?_
  refine v_if C dX7_hush_5 (tgt := 10) (by decide) (P := r2 ≠ 0) rfl (fun c5 => ?_) (fun c5 => ?_)
  · replace h := h.1 c5
    refine v_aload_n C dX7_hush_10 rfl ?_
    refine v_get C dX7_hush_11 flX7_27 rfl (by decide) (by decide) (w := .inr (5, 1)) rfl ?_
    refine v_iload_n C dX7_hush_14 rfl ?_
    refine v_invV C ctX1_dropSound dX7_hush_15 ivX7_131 ⟨by decide, by decide, rfl, rfl⟩ ((1, x1) : Int × Int) (As := [.inl x1]) rfl rfl rfl (by decide) rfl (st := []) rfl (Nat.le_of_ble_eq_true rfl) h (fun o M15 oM15 io15 g15 => ?_)
    replace h := rV_out g15
    clear g15
    obtain ⟨rfl, h⟩ := h
    refine v_push0 ?_
    refine v_aload_n C dX7_hush_18 rfl ?_
    refine v_invV C ctX7_filmChanged dX7_hush_19 ivX7_104 ⟨by decide, by decide, rfl, rfl⟩ (() : Unit) (As := []) rfl rfl rfl (by decide) rfl (st := []) rfl (Nat.le_of_ble_eq_true rfl) h (fun o M19 oM19 io19 g19 => ?_)
    replace h := rV_out g19
    clear g19
    obtain ⟨rfl, h⟩ := h
    refine v_push0 ?_
    refine v_aload_n C dX7_hush_22 rfl ?_
    refine v_get C dX7_hush_23 flX7_27 rfl (by decide) (by decide) (w := .inr (5, 1)) rfl ?_
    refine v_get C dX7_hush_26 flX7_116 rfl (by decide) (by decide) (w := .inl (M19 5 1 3)) rfl ?_
    exact v_iret C dX7_hush_29 h
  · replace h := h.2 c5
    refine v_iconst C dX7_hush_8 (by decide) ?_
    exact v_iret C dX7_hush_9 h
abbrev spX7_hush (s : Int) (M : Mem) (K : Kont) : Prop := InvC M ∧ (¬ (0 ≤ s ∧ s < cFilm M 1 2 0 0) → K (some (-1)) M) ∧
  ((0 ≤ s ∧ s < cFilm M 1 2 0 0) → ∀ M', InvC M' → Ch M M' (dpF (cFilm M 1) s) (M 19 0) (M 20 0) → K (some (cFilm M 1 2 0 0 - 1)) M')
theorem AgM.o {M M' : Mem} (h : AgM M M' 1) {r : Nat} (i : Int) (hr : r < 5 ∨ 13 < r) : M' r i = M r i := by rw [h.reg (by omega)]
theorem ctX7_hush : CtX7_hush spX7_hush := by
  refine ct_of (by decide) dmC (fun _ => Nat.le_of_ble_eq_true rfl) ?_
  intro κ s M K C oM h
  dsimp only [spX7_hush] at h
  obtain ⟨hI, k1, k2⟩ := h
  have n2 := hI.1.2.1.2.2.1
  have e2 : cFilm M 1 2 0 0 = M 5 1 3 := rfl
  refine sgX7_hush_0 C s ⟨fun c => ?_, fun c => k1 (fun z => if10n (by omega) z)⟩
  have c1 := if10 c
  refine ⟨⟨c1.1, c1.2, by omega⟩, fun N hA hf => ?_⟩
  have hP : PlV (cFilm N 1) (N 19 0) (N 20 0) := by
    rw [hf, hA.o 0 (by omega), hA.o 0 (by omega)]
    exact PlV_mono (by simp [dpF]) (by simp [dpF]) (fun p _ _ => by simp [dpF]) hI.1.2.2.2.2
  refine ⟨InvP_film hI.1 (fun r i q => hA.o i (by omega)) (by rw [hf]; exact wf_D hI.1.2.1 c1) hP, fun N2 hI2 hs => ?_⟩
  have e : N2 5 1 3 = cFilm M 1 2 0 0 - 1 := by
    have : cFilm N2 1 2 0 0 = N2 5 1 3 := rfl
    rw [← this, hs.2.2.1, hf]
    simp [dpF]
  show K (some (N2 5 1 3)) N2
  rw [e]
  refine k2 c1 N2 hI2 ⟨?_, ?_, ?_, ?_, ?_⟩
  · rw [hs.1, hA.o 0 (by omega)]
  · rw [hs.2.1, hA.o 0 (by omega)]
  · exact fun r x => (hs.2.2.2.2.2 r x).trans (by funext i; exact hA.o i (by omega))
  · rw [hs.2.2.1, hf]; exact FEq.rf
  · rw [hs.2.2.2.1, hs.2.2.2.2.1, hA.o 0 (by omega), hA.o 0 (by omega)]; exact PlEq.rfl'
/-! ===== GapTellings.version ===== -/
abbrev rmX7_version : Room := { frames := 3, cells := 0, slots := 0, locals := 69 }
abbrev argX7_version (a : Int × Int × Int) : List PV := [.inr (0, 0), .inl a.1, .inl a.2.1, .inl a.2.2]
abbrev CtX7_version (sp : Int → Int → Int → Mem → Kont → Prop) : Prop := Ct yX7_version cX7_version 5 (some .int) rmX7_version domC argX7_version (fun a => sp a.1 a.2.1 a.2.2)
theorem dX7_version_0 : decode cX7_version 0 = .ok (.aload_n 0, 1) := by decide +kernel
theorem dX7_version_1 : decode cX7_version 1 = .ok (.iload_n 1, 1) := by decide +kernel
theorem dX7_version_2 : decode cX7_version 2 = .ok (.invokevirtual 135, 3) := by decide +kernel
theorem dX7_version_5 : decode cX7_version 5 = .ok (.ifCond .eq 25, 3) := by decide +kernel
theorem dX7_version_8 : decode cX7_version 8 = .ok (.iload_n 2, 1) := by decide +kernel
theorem dX7_version_9 : decode cX7_version 9 = .ok (.iconst 1, 1) := by decide +kernel
theorem dX7_version_10 : decode cX7_version 10 = .ok (.if_icmp .lt 20, 3) := by decide +kernel
theorem dX7_version_13 : decode cX7_version 13 = .ok (.iload_n 2, 1) := by decide +kernel
theorem dX7_version_14 : decode cX7_version 14 = .ok (.bipush 30, 2) := by decide +kernel
theorem dX7_version_16 : decode cX7_version 16 = .ok (.if_icmp .gt 14, 3) := by decide +kernel
theorem dX7_version_19 : decode cX7_version 19 = .ok (.iload_n 3, 1) := by decide +kernel
theorem dX7_version_20 : decode cX7_version 20 = .ok (.iconst 1, 1) := by decide +kernel
theorem dX7_version_21 : decode cX7_version 21 = .ok (.if_icmp .lt 9, 3) := by decide +kernel
theorem dX7_version_24 : decode cX7_version 24 = .ok (.iload_n 3, 1) := by decide +kernel
theorem dX7_version_25 : decode cX7_version 25 = .ok (.bipush 99, 2) := by decide +kernel
theorem dX7_version_27 : decode cX7_version 27 = .ok (.if_icmp .le 5, 3) := by decide +kernel
theorem dX7_version_30 : decode cX7_version 30 = .ok (.iconst (-1), 1) := by decide +kernel
theorem dX7_version_31 : decode cX7_version 31 = .ok (.ireturn, 1) := by decide +kernel
theorem dX7_version_32 : decode cX7_version 32 = .ok (.aload_n 0, 1) := by decide +kernel
theorem dX7_version_33 : decode cX7_version 33 = .ok (.getfield 27, 3) := by decide +kernel
theorem dX7_version_36 : decode cX7_version 36 = .ok (.getfield 138, 3) := by decide +kernel
theorem dX7_version_39 : decode cX7_version 39 = .ok (.iload_n 1, 1) := by decide +kernel
theorem dX7_version_40 : decode cX7_version 40 = .ok (.aaload, 1) := by decide +kernel
theorem dX7_version_41 : decode cX7_version 41 = .ok (.astore 4, 2) := by decide +kernel
theorem dX7_version_43 : decode cX7_version 43 = .ok (.aload 4, 2) := by decide +kernel
theorem dX7_version_45 : decode cX7_version 45 = .ok (.getfield 142, 3) := by decide +kernel
theorem dX7_version_48 : decode cX7_version 48 = .ok (.iconst 3, 1) := by decide +kernel
theorem dX7_version_49 : decode cX7_version 49 = .ok (.if_icmp .lt 6, 3) := by decide +kernel
theorem dX7_version_52 : decode cX7_version 52 = .ok (.bipush (-3), 2) := by decide +kernel
theorem dX7_version_54 : decode cX7_version 54 = .ok (.ireturn, 1) := by decide +kernel
theorem dX7_version_55 : decode cX7_version 55 = .ok (.aload 4, 2) := by decide +kernel
theorem dX7_version_57 : decode cX7_version 57 = .ok (.iload_n 2, 1) := by decide +kernel
theorem dX7_version_58 : decode cX7_version 58 = .ok (.iload_n 3, 1) := by decide +kernel
theorem dX7_version_59 : decode cX7_version 59 = .ok (.invokevirtual 147, 3) := by decide +kernel
theorem dX7_version_62 : decode cX7_version 62 = .ok (.aload_n 0, 1) := by decide +kernel
theorem dX7_version_63 : decode cX7_version 63 = .ok (.invokevirtual 104, 3) := by decide +kernel
theorem dX7_version_66 : decode cX7_version 66 = .ok (.aload 4, 2) := by decide +kernel
theorem dX7_version_68 : decode cX7_version 68 = .ok (.getfield 142, 3) := by decide +kernel
theorem dX7_version_71 : decode cX7_version 71 = .ok (.ireturn, 1) := by decide +kernel
theorem ivX7_147 : IV RX7 147 yX3_addVersion cX3_addVersion 3 none 2 := ⟨(tb_mem (t_in3 (List.mem_of_getElem? (i := 101) (by decide +kernel))) (by decide +kernel)), (tb_mem (t_in2 (List.mem_of_getElem? (i := 183) (by decide +kernel))) (by decide +kernel)), (tb_mem (t_in2 (List.mem_of_getElem? (i := 184) (by decide +kernel))) (by decide +kernel)), (tb_mem (t_in1 (List.mem_of_getElem? (i := 4) (by decide +kernel))) (by decide +kernel)), (tb_mem (t_in2 (List.mem_of_getElem? (i := 185) (by decide +kernel))) (by decide +kernel)), ⟨by decide +kernel, by decide +kernel, by decide +kernel⟩⟩
set_option maxHeartbeats 4000000 in
set_option maxRecDepth 20000 in
theorem sgX7_version_0 {κ : Kx} {K : Kont} {M : Mem} (C : Cx κ RX7 cX7_version 5 (some .int) rmX7_version domC) (x1 : Int) (x2 : Int) (x3 : Int)
    (h :
    spX7_hasPicture x1 M (rI (fun r2 M2 =>
    ((r2 = 0 →
      K (some (-1)) M2) ∧
     (¬ (r2 = 0) →
      ((x2 < 1 →
        K (some (-1)) M2) ∧
       (¬ (x2 < 1) →
        ((30 < x2 →
          K (some (-1)) M2) ∧
         (¬ (30 < x2) →
          ((x3 < 1 →
            K (some (-1)) M2) ∧
           (¬ (x3 < 1) →
            ((x3 ≤ 99 →
              (0 ≤ x1 ∧ x1 < 7) ∧
              (((M2 11 (7 * 1 + x1) 4) < 3 →
                spX3_addVersion (7 * 1 + x1) x2 x3 M2 (rV (fun M59 =>
                spX7_filmChanged M59 (rV (fun M63 =>
                K (some (M63 11 (7 * 1 + x1) 4)) M63))))) ∧
               (¬ ((M2 11 (7 * 1 + x1) 4) < 3) →
                K (some (-3)) M2))) ∧
             (¬ (x3 ≤ 99) →
              K (some (-1)) M2))))))))))))) : V κ 5 M 0 [some (.inr (0, 0)), some (.inl x1), some (.inl x2), some (.inl x3), none] [] K := by
  refine v_aload_n C dX7_version_0 rfl ?_
  refine v_iload_n C dX7_version_1 rfl ?_
  refine v_invV C ctX7_hasPicture dX7_version_2 ivX7_135 ⟨by decide, by decide, rfl, rfl⟩ (x1 : Int) (As := [.inl x1]) rfl rfl rfl (by decide) rfl (st := []) rfl (Nat.le_of_ble_eq_true rfl) h (fun o M2 oM2 io2 g2 => ?_)
  replace h := rI_out g2
  clear g2
  obtain ⟨r2, rfl, h⟩ := h
  refine v_push ?_
  refine v_if C dX7_version_5 (tgt := 30) (by decide) (P := r2 = 0) rfl (fun c5 => ?_) (fun c5 => ?_)
  · replace h := h.1 c5
    refine v_iconst C dX7_version_30 (by decide) ?_
    exact v_iret C dX7_version_31 h
  · replace h := h.2 c5
    refine v_iload_n C dX7_version_8 rfl ?_
    refine v_iconst C dX7_version_9 (by decide) ?_
    refine v_icmp C dX7_version_10 (tgt := 30) (by decide) (P := x2 < 1) rfl (fun c10 => ?_) (fun c10 => ?_)
    · replace h := h.1 c10
      refine v_iconst C dX7_version_30 (by decide) ?_
      exact v_iret C dX7_version_31 h
    · replace h := h.2 c10
      refine v_iload_n C dX7_version_13 rfl ?_
      refine v_bipush C dX7_version_14 (by decide) (by decide) ?_
      refine v_icmp C dX7_version_16 (tgt := 30) (by decide) (P := 30 < x2) rfl (fun c16 => ?_) (fun c16 => ?_)
      · replace h := h.1 c16
        refine v_iconst C dX7_version_30 (by decide) ?_
        exact v_iret C dX7_version_31 h
      · replace h := h.2 c16
        refine v_iload_n C dX7_version_19 rfl ?_
        refine v_iconst C dX7_version_20 (by decide) ?_
        refine v_icmp C dX7_version_21 (tgt := 30) (by decide) (P := x3 < 1) rfl (fun c21 => ?_) (fun c21 => ?_)
        · replace h := h.1 c21
          refine v_iconst C dX7_version_30 (by decide) ?_
          exact v_iret C dX7_version_31 h
        · replace h := h.2 c21
          refine v_iload_n C dX7_version_24 rfl ?_
          refine v_bipush C dX7_version_25 (by decide) (by decide) ?_
          refine v_icmp C dX7_version_27 (tgt := 32) (by decide) (P := x3 ≤ 99) rfl (fun c27 => ?_) (fun c27 => ?_)
          · replace h := h.1 c27
            refine v_aload_n C dX7_version_32 rfl ?_
            refine v_get C dX7_version_33 flX7_27 rfl (by decide) (by decide) (w := .inr (5, 1)) rfl ?_
            refine v_get C dX7_version_36 flX7_138 rfl (by decide) (by decide) (w := .inr (10, 1)) rfl ?_
            refine v_iload_n C dX7_version_39 rfl ?_
            refine v_aald C dX7_version_40 h.1.1 h.1.2 ?_
            replace h := h.2
            refine v_astore C dX7_version_41 (by decide) (Nat.le_of_ble_eq_true rfl) (lv' := [some (.inr (0, 0)), some (.inl x1), some (.inl x2), some (.inl x3), some (.inr (11, 7 * 1 + x1))]) rfl ?_
            refine v_aload C dX7_version_43 rfl ?_
            refine v_get C dX7_version_45 flX7_142 rfl (by decide) (by decide) (w := .inl (M2 11 (7 * 1 + x1) 4)) rfl ?_
            refine v_iconst C dX7_version_48 (by decide) ?_
            refine v_icmp C dX7_version_49 (tgt := 55) (by decide) (P := (M2 11 (7 * 1 + x1) 4) < 3) rfl (fun c49 => ?_) (fun c49 => ?_)
            · replace h := h.1 c49
              refine v_aload C dX7_version_55 rfl ?_
              refine v_iload_n C dX7_version_57 rfl ?_
              refine v_iload_n C dX7_version_58 rfl ?_
              refine v_invV C ctX3_addVersion dX7_version_59 ivX7_147 ⟨by decide, by decide, rfl, rfl⟩ ((7 * 1 + x1, x2, x3) : Int × Int × Int) (As := [.inl x2, .inl x3]) rfl rfl rfl (by decide) rfl (st := []) rfl (Nat.le_of_ble_eq_true rfl) h (fun o M59 oM59 io59 g59 => ?_)
              replace h := rV_out g59
              clear g59
              obtain ⟨rfl, h⟩ := h
              refine v_push0 ?_
              refine v_aload_n C dX7_version_62 rfl ?_
              refine v_invV C ctX7_filmChanged dX7_version_63 ivX7_104 ⟨by decide, by decide, rfl, rfl⟩ (() : Unit) (As := []) rfl rfl rfl (by decide) rfl (st := []) rfl (Nat.le_of_ble_eq_true rfl) h (fun o M63 oM63 io63 g63 => ?_)
              replace h := rV_out g63
              clear g63
              obtain ⟨rfl, h⟩ := h
              refine v_push0 ?_
              refine v_aload C dX7_version_66 rfl ?_
              refine v_get C dX7_version_68 flX7_142 rfl (by decide) (by decide) (w := .inl (M63 11 (7 * 1 + x1) 4)) rfl ?_
              exact v_iret C dX7_version_71 h
            · replace h := h.2 c49
              refine v_bipush C dX7_version_52 (by decide) (by decide) ?_
              exact v_iret C dX7_version_54 h
          · replace h := h.2 c27
            refine v_iconst C dX7_version_30 (by decide) ?_
            exact v_iret C dX7_version_31 h
abbrev verK (F : Film) (p l w : Int) : Prop := (0 ≤ p ∧ p < F 3 0 0) ∧ (1 ≤ l ∧ l ≤ 30) ∧ 1 ≤ w ∧ w ≤ 99
abbrev spX7_version (p l w : Int) (M : Mem) (K : Kont) : Prop := InvC M ∧ (¬ verK (cFilm M 1) p l w → K (some (-1)) M) ∧ (verK (cFilm M 1) p l w → 3 ≤ cFilm M 1 11 p 0 → K (some (-3)) M) ∧
  (verK (cFilm M 1) p l w → cFilm M 1 11 p 0 < 3 → ∀ M', InvC M' → Ch M M' (sFV (cFilm M 1) p l w) (M 19 0) (M 20 0) → K (some (cFilm M 1 11 p 0 + 1)) M')
theorem ctX7_version : CtX7_version spX7_version := by
  refine ct_of (by decide) dmC (fun _ => Nat.le_of_ble_eq_true rfl) ?_
  intro κ a M K C oM h
  obtain ⟨p, l, w⟩ := a
  dsimp only [spX7_version] at h
  obtain ⟨hI, k1, k2, k3⟩ := h
  have hf0 := hI.1.2.1
  have n3 := hf0.2.2.2.1
  have e3 : cFilm M 1 3 0 0 = M 5 1 7 := rfl
  have e11 : cFilm M 1 11 p 0 = M 11 (7 * 1 + p) 4 := rfl
  refine sgX7_version_0 C p l w ⟨fun c => k1 (fun z => if10n c z.1), fun c => ?_⟩
  have c1 := if10 c
  refine ⟨fun c2 => k1 (by omega), fun c2 => ⟨fun c3 => k1 (by omega), fun c3 => ⟨fun c4 => k1 (by omega), fun c4 => ⟨fun c5 => ⟨by omega, fun c6 => ?_, fun c6 => k2 (by omega) (by omega)⟩, fun c5 => k1 (by omega)⟩⟩⟩⟩
  have w1 := wf_p hf0 c1.1 c1.2
  refine ⟨by omega, fun N e => ?_⟩
  have hf : cFilm N 1 = sFV (cFilm M 1) p l w := by rw [e]; exact cF_ver
  have o : ∀ r i, r < 5 ∨ 13 < r → N r i = M r i := fun r i q => by funext j; rw [e, up3_r _ _ _ _ _ (by omega), up3_r _ _ _ _ _ (by omega), up3_r _ _ _ _ _ (by omega)]
  have hP : PlV (cFilm N 1) (N 19 0) (N 20 0) := by
    rw [hf, o 19 0 (by omega), o 20 0 (by omega)]
    refine PlV_mono (by simp [sFV]) (by simp [sFV]) (fun q x y => ?_) hI.1.2.2.2.2
    by_cases eq : q = p
    · subst eq
      refine ⟨by simp [sFV]; omega, by simp [sFV], fun v v0 v1 => ?_⟩
      have : v ≠ cFilm M 1 11 q 0 := by omega
      simp [sFV, this]
    · simp [sFV, eq]
  refine ⟨InvP_film hI.1 (fun r i q => o r i (by omega)) (by rw [hf]; exact wf_V hf0 c6 ⟨by omega, by omega⟩ ⟨by omega, c5⟩) hP, fun N2 hI2 hs => ?_⟩
  have e : N2 11 (7 * 1 + p) 4 = cFilm M 1 11 p 0 + 1 := by
    have : cFilm N2 1 11 p 0 = N2 11 (7 * 1 + p) 4 := rfl
    rw [← this, hs.2.2.1, hf]
    simp [sFV]
  show K (some (N2 11 (7 * 1 + p) 4)) N2
  rw [e]
  refine k3 (by omega) c6 N2 hI2 ⟨?_, ?_, ?_, ?_, ?_⟩
  · rw [hs.1, o 0 0 (by omega)]
  · rw [hs.2.1, o 1 0 (by omega)]
  · exact fun r x => (hs.2.2.2.2.2 r x).trans (by funext i; exact o r i (by omega))
  · rw [hs.2.2.1, hf]; exact FEq.rf
  · rw [hs.2.2.2.1, hs.2.2.2.2.1, o 19 0 (by omega), o 20 0 (by omega)]; exact PlEq.rfl'
/-! ===== GapTellings.sound ===== -/
abbrev rmX7_sound : Room := { frames := 5, cells := 0, slots := 0, locals := 117 }
abbrev argX7_sound (a : Int × Int × Int) : List PV := [.inr (0, 0), .inl a.1, .inl a.2.1, .inl a.2.2]
abbrev CtX7_sound (sp : Int → Int → Int → Mem → Kont → Prop) : Prop := Ct yX7_sound cX7_sound 4 (some .int) rmX7_sound domC argX7_sound (fun a => sp a.1 a.2.1 a.2.2)
theorem dX7_sound_0 : decode cX7_sound 0 = .ok (.iload_n 1, 1) := by decide +kernel
theorem dX7_sound_1 : decode cX7_sound 1 = .ok (.ifCond .lt 28, 3) := by decide +kernel
theorem dX7_sound_4 : decode cX7_sound 4 = .ok (.iload_n 1, 1) := by decide +kernel
theorem dX7_sound_5 : decode cX7_sound 5 = .ok (.iconst 3, 1) := by decide +kernel
theorem dX7_sound_6 : decode cX7_sound 6 = .ok (.if_icmp .ge 23, 3) := by decide +kernel
theorem dX7_sound_9 : decode cX7_sound 9 = .ok (.iload_n 2, 1) := by decide +kernel
theorem dX7_sound_10 : decode cX7_sound 10 = .ok (.ifCond .lt 19, 3) := by decide +kernel
theorem dX7_sound_13 : decode cX7_sound 13 = .ok (.iload_n 3, 1) := by decide +kernel
theorem dX7_sound_14 : decode cX7_sound 14 = .ok (.iload_n 2, 1) := by decide +kernel
theorem dX7_sound_15 : decode cX7_sound 15 = .ok (.if_icmp .le 14, 3) := by decide +kernel
theorem dX7_sound_18 : decode cX7_sound 18 = .ok (.iload_n 3, 1) := by decide +kernel
theorem dX7_sound_19 : decode cX7_sound 19 = .ok (.aload_n 0, 1) := by decide +kernel
theorem dX7_sound_20 : decode cX7_sound 20 = .ok (.getfield 27, 3) := by decide +kernel
theorem dX7_sound_23 : decode cX7_sound 23 = .ok (.getfield 113, 3) := by decide +kernel
theorem dX7_sound_26 : decode cX7_sound 26 = .ok (.if_icmp .le 5, 3) := by decide +kernel
theorem dX7_sound_29 : decode cX7_sound 29 = .ok (.iconst (-1), 1) := by decide +kernel
theorem dX7_sound_30 : decode cX7_sound 30 = .ok (.ireturn, 1) := by decide +kernel
theorem dX7_sound_31 : decode cX7_sound 31 = .ok (.aload_n 0, 1) := by decide +kernel
theorem dX7_sound_32 : decode cX7_sound 32 = .ok (.getfield 27, 3) := by decide +kernel
theorem dX7_sound_35 : decode cX7_sound 35 = .ok (.getfield 116, 3) := by decide +kernel
theorem dX7_sound_38 : decode cX7_sound 38 = .ok (.bipush 12, 2) := by decide +kernel
theorem dX7_sound_40 : decode cX7_sound 40 = .ok (.if_icmp .lt 6, 3) := by decide +kernel
theorem dX7_sound_43 : decode cX7_sound 43 = .ok (.bipush (-3), 2) := by decide +kernel
theorem dX7_sound_45 : decode cX7_sound 45 = .ok (.ireturn, 1) := by decide +kernel
theorem dX7_sound_46 : decode cX7_sound 46 = .ok (.aload_n 0, 1) := by decide +kernel
theorem dX7_sound_47 : decode cX7_sound 47 = .ok (.getfield 27, 3) := by decide +kernel
theorem dX7_sound_50 : decode cX7_sound 50 = .ok (.iload_n 1, 1) := by decide +kernel
theorem dX7_sound_51 : decode cX7_sound 51 = .ok (.iload_n 2, 1) := by decide +kernel
theorem dX7_sound_52 : decode cX7_sound 52 = .ok (.iload_n 3, 1) := by decide +kernel
theorem dX7_sound_53 : decode cX7_sound 53 = .ok (.invokevirtual 119, 3) := by decide +kernel
theorem dX7_sound_56 : decode cX7_sound 56 = .ok (.aload_n 0, 1) := by decide +kernel
theorem dX7_sound_57 : decode cX7_sound 57 = .ok (.invokevirtual 104, 3) := by decide +kernel
theorem dX7_sound_60 : decode cX7_sound 60 = .ok (.aload_n 0, 1) := by decide +kernel
theorem dX7_sound_61 : decode cX7_sound 61 = .ok (.getfield 45, 3) := by decide +kernel
theorem dX7_sound_64 : decode cX7_sound 64 = .ok (.aload_n 0, 1) := by decide +kernel
theorem dX7_sound_65 : decode cX7_sound 65 = .ok (.getfield 35, 3) := by decide +kernel
theorem dX7_sound_68 : decode cX7_sound 68 = .ok (.invokevirtual 123, 3) := by decide +kernel
theorem dX7_sound_71 : decode cX7_sound 71 = .ok (.aload_n 0, 1) := by decide +kernel
theorem dX7_sound_72 : decode cX7_sound 72 = .ok (.getfield 27, 3) := by decide +kernel
theorem dX7_sound_75 : decode cX7_sound 75 = .ok (.getfield 116, 3) := by decide +kernel
theorem dX7_sound_78 : decode cX7_sound 78 = .ok (.ireturn, 1) := by decide +kernel
theorem ivX7_119 : IV RX7 119 yX1_addSound cX1_addSound 4 none 3 := ⟨(tb_mem (t_in3 (List.mem_of_getElem? (i := 44) (by decide +kernel))) (by decide +kernel)), (tb_mem (t_in2 (List.mem_of_getElem? (i := 163) (by decide +kernel))) (by decide +kernel)), (tb_mem (t_in2 (List.mem_of_getElem? (i := 164) (by decide +kernel))) (by decide +kernel)), (tb_mem (t_in1 (List.mem_of_getElem? (i := 3) (by decide +kernel))) (by decide +kernel)), (tb_mem (t_in2 (List.mem_of_getElem? (i := 165) (by decide +kernel))) (by decide +kernel)), ⟨by decide +kernel, by decide +kernel, by decide +kernel⟩⟩
theorem ivX7_123 : IV RX7 123 yX4_dropFaulty cX4_dropFaulty 4 none 1 := ⟨(tb_mem (t_in3 (List.mem_of_getElem? (i := 45) (by decide +kernel))) (by decide +kernel)), (tb_mem (t_in3 (List.mem_of_getElem? (i := 46) (by decide +kernel))) (by decide +kernel)), (tb_mem (t_in3 (List.mem_of_getElem? (i := 47) (by decide +kernel))) (by decide +kernel)), (tb_mem (t_in1 (List.mem_of_getElem? (i := 6) (by decide +kernel))) (by decide +kernel)), (tb_mem (t_in3 (List.mem_of_getElem? (i := 48) (by decide +kernel))) (by decide +kernel)), ⟨by decide +kernel, by decide +kernel, by decide +kernel⟩⟩
set_option maxHeartbeats 4000000 in
set_option maxRecDepth 20000 in
theorem sgX7_sound_0 {κ : Kx} {K : Kont} {M : Mem} (C : Cx κ RX7 cX7_sound 4 (some .int) rmX7_sound domC) (x1 : Int) (x2 : Int) (x3 : Int)
    (h :
    ((x1 < 0 →
      K (some (-1)) M) ∧
     (¬ (x1 < 0) →
      ((3 ≤ x1 →
        K (some (-1)) M) ∧
       (¬ (3 ≤ x1) →
        ((x2 < 0 →
          K (some (-1)) M) ∧
         (¬ (x2 < 0) →
          ((x3 ≤ x2 →
            K (some (-1)) M) ∧
           (¬ (x3 ≤ x2) →
            ((x3 ≤ (M 5 1 0) →
              (((M 5 1 3) < 12 →
                spX1_addSound 1 x1 x2 x3 M (rV (fun M53 =>
                spX7_filmChanged M53 (rV (fun M57 =>
                spX4_dropFaulty 0 0 M57 (rV (fun M68 =>
                K (some (M68 5 1 3)) M68))))))) ∧
               (¬ ((M 5 1 3) < 12) →
                K (some (-3)) M))) ∧
             (¬ (x3 ≤ (M 5 1 0)) →
              K (some (-1)) M))))))))))) : V κ 4 M 0 [some (.inr (0, 0)), some (.inl x1), some (.inl x2), some (.inl x3)] [] K := by
  refine v_iload_n C dX7_sound_0 rfl ?_
  refine v_if C dX7_sound_1 (tgt := 29) (by decide) (P := x1 < 0) rfl (fun c1 => ?_) (fun c1 => ?_)
  · replace h := h.1 c1
    refine v_iconst C dX7_sound_29 (by decide) ?_
    exact v_iret C dX7_sound_30 h
  · replace h := h.2 c1
    refine v_iload_n C dX7_sound_4 rfl ?_
    refine v_iconst C dX7_sound_5 (by decide) ?_
    refine v_icmp C dX7_sound_6 (tgt := 29) (by decide) (P := 3 ≤ x1) rfl (fun c6 => ?_) (fun c6 => ?_)
    · replace h := h.1 c6
      refine v_iconst C dX7_sound_29 (by decide) ?_
      exact v_iret C dX7_sound_30 h
    · replace h := h.2 c6
      refine v_iload_n C dX7_sound_9 rfl ?_
      refine v_if C dX7_sound_10 (tgt := 29) (by decide) (P := x2 < 0) rfl (fun c10 => ?_) (fun c10 => ?_)
      · replace h := h.1 c10
        refine v_iconst C dX7_sound_29 (by decide) ?_
        exact v_iret C dX7_sound_30 h
      · replace h := h.2 c10
        refine v_iload_n C dX7_sound_13 rfl ?_
        refine v_iload_n C dX7_sound_14 rfl ?_
        refine v_icmp C dX7_sound_15 (tgt := 29) (by decide) (P := x3 ≤ x2) rfl (fun c15 => ?_) (fun c15 => ?_)
        · replace h := h.1 c15
          refine v_iconst C dX7_sound_29 (by decide) ?_
          exact v_iret C dX7_sound_30 h
        · replace h := h.2 c15
          refine v_iload_n C dX7_sound_18 rfl ?_
          refine v_aload_n C dX7_sound_19 rfl ?_
          refine v_get C dX7_sound_20 flX7_27 rfl (by decide) (by decide) (w := .inr (5, 1)) rfl ?_
          refine v_get C dX7_sound_23 flX7_113 rfl (by decide) (by decide) (w := .inl (M 5 1 0)) rfl ?_
          refine v_icmp C dX7_sound_26 (tgt := 31) (by decide) (P := x3 ≤ (M 5 1 0)) rfl (fun c26 => ?_) (fun c26 => ?_)
          · replace h := h.1 c26
            refine v_aload_n C dX7_sound_31 rfl ?_
            refine v_get C dX7_sound_32 flX7_27 rfl (by decide) (by decide) (w := .inr (5, 1)) rfl ?_
            refine v_get C dX7_sound_35 flX7_116 rfl (by decide) (by decide) (w := .inl (M 5 1 3)) rfl ?_
            refine v_bipush C dX7_sound_38 (by decide) (by decide) ?_
            refine v_icmp C dX7_sound_40 (tgt := 46) (by decide) (P := (M 5 1 3) < 12) rfl (fun c40 => ?_) (fun c40 => ?_)
            · replace h := h.1 c40
              refine v_aload_n C dX7_sound_46 rfl ?_
              refine v_get C dX7_sound_47 flX7_27 rfl (by decide) (by decide) (w := .inr (5, 1)) rfl ?_
              refine v_iload_n C dX7_sound_50 rfl ?_
              refine v_iload_n C dX7_sound_51 rfl ?_
              refine v_iload_n C dX7_sound_52 rfl ?_
              refine v_invV C ctX1_addSound dX7_sound_53 ivX7_119 ⟨by decide, by decide, rfl, rfl⟩ ((1, x1, x2, x3) : Int × Int × Int × Int) (As := [.inl x1, .inl x2, .inl x3]) rfl rfl rfl (by decide) rfl (st := []) rfl (Nat.le_of_ble_eq_true rfl) h (fun o M53 oM53 io53 g53 => ?_)
              replace h := rV_out g53
              clear g53
              obtain ⟨rfl, h⟩ := h
              refine v_push0 ?_
              refine v_aload_n C dX7_sound_56 rfl ?_
              refine v_invV C ctX7_filmChanged dX7_sound_57 ivX7_104 ⟨by decide, by decide, rfl, rfl⟩ (() : Unit) (As := []) rfl rfl rfl (by decide) rfl (st := []) rfl (Nat.le_of_ble_eq_true rfl) h (fun o M57 oM57 io57 g57 => ?_)
              replace h := rV_out g57
              clear g57
              obtain ⟨rfl, h⟩ := h
              refine v_push0 ?_
              refine v_aload_n C dX7_sound_60 rfl ?_
              refine v_get C dX7_sound_61 flX7_45 rfl (by decide) (by decide) (w := .inr (18, 0)) rfl ?_
              refine v_aload_n C dX7_sound_64 rfl ?_
              refine v_get C dX7_sound_65 flX7_35 rfl (by decide) (by decide) (w := .inr (14, 0)) rfl ?_
              refine v_invV C ctX4_dropFaulty dX7_sound_68 ivX7_123 ⟨by decide, by decide, rfl, rfl⟩ ((0, 0) : Int × Int) (As := [.inr (14, 0)]) rfl rfl rfl (by decide) rfl (st := []) rfl (Nat.le_of_ble_eq_true rfl) h (fun o M68 oM68 io68 g68 => ?_)
              replace h := rV_out g68
              clear g68
              obtain ⟨rfl, h⟩ := h
              refine v_push0 ?_
              refine v_aload_n C dX7_sound_71 rfl ?_
              refine v_get C dX7_sound_72 flX7_27 rfl (by decide) (by decide) (w := .inr (5, 1)) rfl ?_
              refine v_get C dX7_sound_75 flX7_116 rfl (by decide) (by decide) (w := .inl (M68 5 1 3)) rfl ?_
              exact v_iret C dX7_sound_78 h
            · replace h := h.2 c40
              refine v_bipush C dX7_sound_43 (by decide) (by decide) ?_
              exact v_iret C dX7_sound_45 h
          · replace h := h.2 c26
            refine v_iconst C dX7_sound_29 (by decide) ?_
            exact v_iret C dX7_sound_30 h
abbrev sndK (F : Film) (k x y : Int) : Prop := (0 ≤ k ∧ k < 3) ∧ 0 ≤ x ∧ x < y ∧ y ≤ F 0 0 0
noncomputable def sndP (F : Film) (k x y : Int) (ver sta : Int → Int) : (Int → Int) × (Int → Int) := dfN (sFS F k x y) (spb (sFS F k x y)) 7 ver sta
abbrev spX7_sound (k x y : Int) (M : Mem) (K : Kont) : Prop := InvC M ∧ (¬ sndK (cFilm M 1) k x y → K (some (-1)) M) ∧ (sndK (cFilm M 1) k x y → 12 ≤ cFilm M 1 2 0 0 → K (some (-3)) M) ∧
  (sndK (cFilm M 1) k x y → cFilm M 1 2 0 0 < 12 → ∀ M', InvC M' → Ch M M' (sFS (cFilm M 1) k x y) (sndP (cFilm M 1) k x y (M 19 0) (M 20 0)).1 (sndP (cFilm M 1) k x y (M 19 0) (M 20 0)).2 → K (some (cFilm M 1 2 0 0 + 1)) M')
theorem ctX7_sound : CtX7_sound spX7_sound := by
  refine ct_of (by decide) dmC (fun _ => Nat.le_of_ble_eq_true rfl) ?_
  intro κ a M K C oM h
  obtain ⟨k, x, y⟩ := a
  dsimp only [spX7_sound] at h
  obtain ⟨hI, k1, k2, k3⟩ := h
  have n2 := hI.1.2.1.2.2.1
  have e2 : cFilm M 1 2 0 0 = M 5 1 3 := rfl
  have e0 : cFilm M 1 0 0 0 = M 5 1 0 := rfl
  refine sgX7_sound_0 C k x y ⟨fun c => k1 (by omega), fun c => ⟨fun c2 => k1 (by omega), fun c2 => ⟨fun c3 => k1 (by omega), fun c3 => ⟨fun c4 => k1 (by omega), fun c4 => ⟨fun c5 => ⟨fun c6 => ?_, fun c6 => k2 (by omega) (by omega)⟩, fun c5 => k1 (by omega)⟩⟩⟩⟩⟩
  refine ⟨⟨by omega, c6⟩, fun N hA hf => ?_⟩
  have hw : WFf (cFilm N 1) := by rw [hf]; exact wf_S hI.1.2.1 (by omega) (by omega) (by omega) c5 c6
  have hP : PlV (cFilm N 1) (N 19 0) (N 20 0) := by
    rw [hf, hA.o 0 (by omega), hA.o 0 (by omega)]
    exact PlV_mono (by simp [sFS]) (by simp [sFS]) (fun p _ _ => by simp [sFS]) hI.1.2.2.2.2
  refine ⟨InvP_film hI.1 (fun r i q => hA.o i (by omega)) hw hP, fun N2 hI2 hs => ?_⟩
  have hw2 := hI2.1.2.1
  have hP2 := hI2.1.2.2.2.2
  refine ⟨⟨hw2, hP2.1⟩, fun N3 hA3 v3 s3 => ?_⟩
  have hf3 := hA3.film 1
  have dc := dfN_c hw2 FEq.rf hI2.S 7 (N2 19 0) (N2 20 0) (N2 19 0) (N2 20 0) hP2.1 PlEq.rfl'
  have p19 : N2 19 0 = M 19 0 := by rw [hs.2.2.2.1, hA.o 0 (by omega)]
  have p20 : N2 20 0 = M 20 0 := by rw [hs.2.2.2.2.1, hA.o 0 (by omega)]
  have fe : cFilm N2 1 = sFS (cFilm M 1) k x y := by rw [hs.2.2.1, hf]
  have hI3 : InvC N3 := by
    refine InvC_plan hI2 hA3 ?_
    rw [v3, s3]
    exact ⟨dc.2, VP_df hw2 hP2.1 hP2.2.1⟩
  have e : N3 5 1 3 = cFilm M 1 2 0 0 + 1 := by
    have : cFilm N3 1 2 0 0 = N3 5 1 3 := rfl
    rw [← this, hf3, fe]
    simp [sFS]
  show K (some (N3 5 1 3)) N3
  rw [e]
  refine k3 (by omega) c6 N3 hI3 ⟨?_, ?_, ?_, ?_, ?_⟩
  · rw [hA3 0 0 (by omega), hs.1, hA.o 0 (by omega)]
  · rw [hA3 1 0 (by omega), hs.2.1, hA.o 0 (by omega)]
  · exact fun r z => by funext i; rw [hA3 r i (by omega), hs.2.2.2.2.2 r z]; exact hA.o i (by omega)
  · rw [hf3, fe]; exact FEq.rf
  · rw [v3, s3]
    have := dc.1.sy
    rw [fe, p19, p20] at this
    unfold sndP
    rw [fe, p19, p20]
    exact this
