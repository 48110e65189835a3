/-! ===== GapTellings: what holds between its calls ===== -/
def allS (F : Film) : Int := bShl 1 (F 3 0 0) - 1
def bV0 (F : Film) (b may : Int) : Int := tabR F (spb F) (csb F) b may (F 0 0 0).toNat 0 0
def bP0 (F : Film) : (Int → Int) × (Int → Int) := bstP F (spb F) (csb F) (F 1 0 0)
noncomputable def gr0 (F : Film) : (Int → Int) × (Int → Int) := gre F (spb F) (csb F)
/-- but for the track and what is kept of plans -/
def InvP (M : Mem) : Prop := ((0 ≤ M 0 0 1 ∧ M 0 0 1 ≤ 200) ∧ ∀ p, 0 ≤ p → p < 200 → 0 ≤ M 1 0 p ∧ M 1 0 p < 65536) ∧ WFf (cFilm M 1) ∧ (TrB M 0 ∧ TrB M 1) ∧ (M 16 0 0 = 0 ∧ M 17 0 0 = 0 ∧ M 16 1 0 = 0 ∧ M 17 1 0 = 0) ∧ PlV (cFilm M 1) (M 19 0) (M 20 0)
/-- what lies beside the object has not changed -/
def Up (M M' : Mem) : Prop := ∀ r, 24 ≤ r → M' r = M r
theorem Up.tr {M M' M2 : Mem} (h : Up M M') (h2 : Up M' M2) : Up M M2 := fun r a => (h2 r a).trans (h r a)
def InvC (M : Mem) : Prop := InvP M ∧ TrK M 0 (cFilm M 1) ∧ (M 0 0 11 ≠ 0 → M 0 0 10 = bV0 (cFilm M 1) (cFilm M 1 1 0 0) (allS (cFilm M 1)) ∧ PlK (cFilm M 1) (M 19 1) (M 20 1) ∧ PlEq (M 19 1) (M 20 1) (bP0 (cFilm M 1)).1 (bP0 (cFilm M 1)).2) ∧
  (M 23 0 3 ≠ 0 → PlK (cFilm M 1) (M 19 2) (M 20 2) ∧ PlEq (M 19 2) (M 20 2) (gr0 (cFilm M 1)).1 (gr0 (cFilm M 1)).2)
/-- text, film and what is placed are the same -/
def SameC (M M' : Mem) : Prop := M' 0 0 1 = M 0 0 1 ∧ M' 1 0 = M 1 0 ∧ cFilm M' 1 = cFilm M 1 ∧ M' 19 0 = M 19 0 ∧ M' 20 0 = M 20 0 ∧ Up M M'
theorem SameC.rf {M : Mem} : SameC M M := ⟨rfl, rfl, rfl, rfl, rfl, fun _ _ => rfl⟩
theorem SameC.tr {M M' M2 : Mem} (h : SameC M M') (h2 : SameC M' M2) : SameC M M2 := ⟨h2.1.trans h.1, h2.2.1.trans h.2.1, h2.2.2.1.trans h.2.2.1, h2.2.2.2.1.trans h.2.2.2.1, h2.2.2.2.2.1.trans h.2.2.2.2.1, h.2.2.2.2.2.tr h2.2.2.2.2.2⟩
theorem InvC.S {M : Mem} (h : InvC M) : SEq (cFilm M 1 0 0 0) (M 16 0) (spb (cFilm M 1)) := fun t a b => (h.2.1.2 t a b).1
theorem InvC.Q {M : Mem} (h : InvC M) : SEq (cFilm M 1 0 0 0) (M 17 0) (csb (cFilm M 1)) := fun t a b => (h.2.1.2 t a b).2
theorem QB_csb {F : Film} (h : WFf F) : QB (csb F) := fun t a b => csb_rng h a b
/-- only things that are made anew before they are looked at have changed -/
theorem InvC_keep {M M' : Mem} (h : InvC M) (h0 : ∀ j, j = 1 ∨ j = 10 ∨ j = 11 → M' 0 0 j = M 0 0 j) (h1 : M' 1 0 = M 1 0) (hf : cFilm M' 1 = cFilm M 1) (h15 : M' 15 0 = M 15 0) (h16 : M' 16 0 = M 16 0) (h17 : M' 17 0 = M 17 0) (hb : TrB M' 1) (hz : M' 16 1 0 = 0 ∧ M' 17 1 0 = 0) (hp : ∀ i, 0 ≤ i → i ≤ 2 → M' 19 i = M 19 i ∧ M' 20 i = M 20 i) (h23 : M' 23 0 3 = M 23 0 3) : InvC M' := by
  obtain ⟨⟨a1, a2, a3, a4, a5⟩, b1, b2, b3⟩ := h
  have p0 := hp 0 (by omega) (by omega)
  have p1 := hp 1 (by omega) (by omega)
  have p2 := hp 2 (by omega) (by omega)
  refine ⟨⟨⟨by rw [h0 1 (by decide)]; exact a1.1, by rw [h1]; exact a1.2⟩, by rw [hf]; exact a2, ⟨fun t x y => by rw [h16, h17]; exact a3.1 t x y, hb⟩, ⟨by rw [h16]; exact a4.1, by rw [h17]; exact a4.2.1, hz⟩, by rw [hf, p0.1, p0.2]; exact a5⟩, ?_, ?_, ?_⟩
  · rw [hf]
    exact ⟨fun t x y => by rw [h15]; exact b1.1 t x y, fun t x y => by rw [h16, h17]; exact b1.2 t x y⟩
  · rw [hf, h0 10 (by decide), h0 11 (by decide), p1.1, p1.2]
    exact b2
  · rw [hf, h23, p2.1, p2.2]
    exact b3
theorem InvC_B {M M' : Mem} (h : InvC M) (hA : AgB M M') : InvC M' ∧ SameC M M' := by
  have e := fun r (hr : r ≠ 22) => hA r hr
  refine ⟨InvC_keep h (fun j _ => by rw [e 0 (by decide)]) (by rw [e 1 (by decide)]) (hA.film 1) (by rw [e 15 (by decide)]) (by rw [e 16 (by decide)]) (by rw [e 17 (by decide)]) ?_ ?_ (fun i _ _ => ⟨by rw [e 19 (by decide)], by rw [e 20 (by decide)]⟩) (by rw [e 23 (by decide)]), by rw [e 0 (by decide)], by rw [e 1 (by decide)], hA.film 1, by rw [e 19 (by decide)], by rw [e 20 (by decide)], fun r a => hA r (by omega)⟩
  · intro t a b
    rw [e 16 (by decide), e 17 (by decide)]
    exact h.1.2.2.1.2 t a b
  · rw [e 16 (by decide), e 17 (by decide)]
    exact ⟨h.1.2.2.2.1.2.2.1, h.1.2.2.2.1.2.2.2⟩
/-! ===== GapTellings.hasPicture ===== -/
abbrev rmX7_hasPicture : Room := { frames := 0, cells := 0, slots := 0, locals := 0 }
abbrev argX7_hasPicture (a : Int) : List PV := [.inr (0, 0), .inl a]
abbrev CtX7_hasPicture (sp : Int → Mem → Kont → Prop) : Prop := Ct yX7_hasPicture cX7_hasPicture 2 (some .boolean) rmX7_hasPicture domC argX7_hasPicture (fun a => sp a)
theorem dX7_hasPicture_0 : decode cX7_hasPicture 0 = .ok (.iload_n 1, 1) := by decide +kernel
theorem dX7_hasPicture_1 : decode cX7_hasPicture 1 = .ok (.ifCond .lt 18, 3) := by decide +kernel
theorem dX7_hasPicture_4 : decode cX7_hasPicture 4 = .ok (.iload_n 1, 1) := by decide +kernel
theorem dX7_hasPicture_5 : decode cX7_hasPicture 5 = .ok (.aload_n 0, 1) := by decide +kernel
theorem dX7_hasPicture_6 : decode cX7_hasPicture 6 = .ok (.getfield 27, 3) := by decide +kernel
theorem dX7_hasPicture_9 : decode cX7_hasPicture 9 = .ok (.getfield 97, 3) := by decide +kernel
theorem dX7_hasPicture_12 : decode cX7_hasPicture 12 = .ok (.if_icmp .ge 7, 3) := by decide +kernel
theorem dX7_hasPicture_15 : decode cX7_hasPicture 15 = .ok (.iconst 1, 1) := by decide +kernel
theorem dX7_hasPicture_16 : decode cX7_hasPicture 16 = .ok (.goto 4, 3) := by decide +kernel
theorem dX7_hasPicture_19 : decode cX7_hasPicture 19 = .ok (.iconst 0, 1) := by decide +kernel
theorem dX7_hasPicture_20 : decode cX7_hasPicture 20 = .ok (.ireturn, 1) := by decide +kernel
theorem flX7_27 : FL RX7 27 7 4 := ⟨_, _, _, rfl, by decide, uwX7, Or.inl (tb_mem (t_in2 (List.mem_of_getElem? (i := 219) (by decide +kernel))) (by decide +kernel))⟩
theorem flX7_97 : FL RX7 97 1 7 := ⟨_, _, _, rfl, by decide, uwX1, Or.inr ⟨"GapTellings", (nw_mem (t_in1 (List.mem_of_getElem? (i := 134) (by decide +kernel))) (by decide +kernel))⟩⟩
set_option maxHeartbeats 4000000 in
set_option maxRecDepth 20000 in
theorem sgX7_hasPicture_0 {κ : Kx} {K : Kont} {M : Mem} (C : Cx κ RX7 cX7_hasPicture 2 (some .boolean) rmX7_hasPicture domC) (x1 : Int)
    (h :
    ((x1 < 0 →
      K (some 0) M) ∧
     (¬ (x1 < 0) →
      (((M 5 1 7) ≤ x1 →
        K (some 0) M) ∧
       (¬ ((M 5 1 7) ≤ x1) →
        K (some 1) M))))) : V κ 2 M 0 [some (.inr (0, 0)), some (.inl x1)] [] K := by
  refine v_iload_n C dX7_hasPicture_0 rfl ?_
  refine v_if C dX7_hasPicture_1 (tgt := 19) (by decide) (P := x1 < 0) rfl (fun c1 => ?_) (fun c1 => ?_)
  · replace h := h.1 c1
    refine v_iconst C dX7_hasPicture_19 (by decide) ?_
    exact v_zret C dX7_hasPicture_20 (by decide) h
  · replace h := h.2 c1
    refine v_iload_n C dX7_hasPicture_4 rfl ?_
    refine v_aload_n C dX7_hasPicture_5 rfl ?_
    refine v_get C dX7_hasPicture_6 flX7_27 rfl (by decide) (by decide) (w := .inr (5, 1)) rfl ?_
    refine v_get C dX7_hasPicture_9 flX7_97 rfl (by decide) (by decide) (w := .inl (M 5 1 7)) rfl ?_
    refine v_icmp C dX7_hasPicture_12 (tgt := 19) (by decide) (P := (M 5 1 7) ≤ x1) rfl (fun c12 => ?_) (fun c12 => ?_)
    · replace h := h.1 c12
      refine v_iconst C dX7_hasPicture_19 (by decide) ?_
      exact v_zret C dX7_hasPicture_20 (by decide) h
    · replace h := h.2 c12
      refine v_iconst C dX7_hasPicture_15 (by decide) ?_
      refine v_goto C dX7_hasPicture_16 (tgt := 20) (by decide) ?_
      exact v_zret C dX7_hasPicture_20 (by decide) h
abbrev spX7_hasPicture (p : Int) (M : Mem) (K : Kont) : Prop := K (some (if 0 ≤ p ∧ p < M 5 1 7 then 1 else 0)) M
theorem ctX7_hasPicture : CtX7_hasPicture spX7_hasPicture := by
  refine ct_of (by decide) dmC (fun _ => Nat.le_of_ble_eq_true rfl) ?_
  intro κ p M K C oM h
  dsimp only [spX7_hasPicture] at h
  refine sgX7_hasPicture_0 C p ⟨fun c => ?_, fun c => ⟨fun c2 => ?_, fun c2 => ?_⟩⟩
  · rw [if_neg (by omega)] at h; exact h
  · rw [if_neg (by omega)] at h; exact h
  · rw [if_pos (by omega)] at h; exact h
/-! ===== GapTellings.hasTick ===== -/
abbrev rmX7_hasTick : Room := { frames := 0, cells := 0, slots := 0, locals := 0 }
abbrev argX7_hasTick (a : Int) : List PV := [.inr (0, 0), .inl a]
abbrev CtX7_hasTick (sp : Int → Mem → Kont → Prop) : Prop := Ct yX7_hasTick cX7_hasTick 2 (some .boolean) rmX7_hasTick domC argX7_hasTick (fun a => sp a)
theorem dX7_hasTick_0 : decode cX7_hasTick 0 = .ok (.iload_n 1, 1) := by decide +kernel
theorem dX7_hasTick_1 : decode cX7_hasTick 1 = .ok (.ifCond .lt 18, 3) := by decide +kernel
theorem dX7_hasTick_4 : decode cX7_hasTick 4 = .ok (.iload_n 1, 1) := by decide +kernel
theorem dX7_hasTick_5 : decode cX7_hasTick 5 = .ok (.aload_n 0, 1) := by decide +kernel
theorem dX7_hasTick_6 : decode cX7_hasTick 6 = .ok (.getfield 27, 3) := by decide +kernel
theorem dX7_hasTick_9 : decode cX7_hasTick 9 = .ok (.getfield 113, 3) := by decide +kernel
theorem dX7_hasTick_12 : decode cX7_hasTick 12 = .ok (.if_icmp .ge 7, 3) := by decide +kernel
theorem dX7_hasTick_15 : decode cX7_hasTick 15 = .ok (.iconst 1, 1) := by decide +kernel
theorem dX7_hasTick_16 : decode cX7_hasTick 16 = .ok (.goto 4, 3) := by decide +kernel
theorem dX7_hasTick_19 : decode cX7_hasTick 19 = .ok (.iconst 0, 1) := by decide +kernel
theorem dX7_hasTick_20 : decode cX7_hasTick 20 = .ok (.ireturn, 1) := by decide +kernel
theorem flX7_113 : FL RX7 113 1 0 := ⟨_, _, _, rfl, by decide, uwX1, Or.inr ⟨"GapTellings", (nw_mem (t_in1 (List.mem_of_getElem? (i := 111) (by decide +kernel))) (by decide +kernel))⟩⟩
set_option maxHeartbeats 4000000 in
set_option maxRecDepth 20000 in
theorem sgX7_hasTick_0 {κ : Kx} {K : Kont} {M : Mem} (C : Cx κ RX7 cX7_hasTick 2 (some .boolean) rmX7_hasTick domC) (x1 : Int)
    (h :
    ((x1 < 0 →
      K (some 0) M) ∧
     (¬ (x1 < 0) →
      (((M 5 1 0) ≤ x1 →
        K (some 0) M) ∧
       (¬ ((M 5 1 0) ≤ x1) →
        K (some 1) M))))) : V κ 2 M 0 [some (.inr (0, 0)), some (.inl x1)] [] K := by
  refine v_iload_n C dX7_hasTick_0 rfl ?_
  refine v_if C dX7_hasTick_1 (tgt := 19) (by decide) (P := x1 < 0) rfl (fun c1 => ?_) (fun c1 => ?_)
  · replace h := h.1 c1
    refine v_iconst C dX7_hasTick_19 (by decide) ?_
    exact v_zret C dX7_hasTick_20 (by decide) h
  · replace h := h.2 c1
    refine v_iload_n C dX7_hasTick_4 rfl ?_
    refine v_aload_n C dX7_hasTick_5 rfl ?_
    refine v_get C dX7_hasTick_6 flX7_27 rfl (by decide) (by decide) (w := .inr (5, 1)) rfl ?_
    refine v_get C dX7_hasTick_9 flX7_113 rfl (by decide) (by decide) (w := .inl (M 5 1 0)) rfl ?_
    refine v_icmp C dX7_hasTick_12 (tgt := 19) (by decide) (P := (M 5 1 0) ≤ x1) rfl (fun c12 => ?_) (fun c12 => ?_)
    · replace h := h.1 c12
      refine v_iconst C dX7_hasTick_19 (by decide) ?_
      exact v_zret C dX7_hasTick_20 (by decide) h
    · replace h := h.2 c12
      refine v_iconst C dX7_hasTick_15 (by decide) ?_
      refine v_goto C dX7_hasTick_16 (tgt := 20) (by decide) ?_
      exact v_zret C dX7_hasTick_20 (by decide) h
abbrev spX7_hasTick (t : Int) (M : Mem) (K : Kont) : Prop := K (some (if 0 ≤ t ∧ t < M 5 1 0 then 1 else 0)) M
theorem ctX7_hasTick : CtX7_hasTick spX7_hasTick := by
  refine ct_of (by decide) dmC (fun _ => Nat.le_of_ble_eq_true rfl) ?_
  intro κ p M K C oM h
  dsimp only [spX7_hasTick] at h
  refine sgX7_hasTick_0 C p ⟨fun c => ?_, fun c => ⟨fun c2 => ?_, fun c2 => ?_⟩⟩
  · rw [if_neg (by omega)] at h; exact h
  · rw [if_neg (by omega)] at h; exact h
  · rw [if_pos (by omega)] at h; exact h
/-! ===== GapTellings.hasSound ===== -/
abbrev rmX7_hasSound : Room := { frames := 0, cells := 0, slots := 0, locals := 0 }
abbrev argX7_hasSound (a : Int) : List PV := [.inr (0, 0), .inl a]
abbrev CtX7_hasSound (sp : Int → Mem → Kont → Prop) : Prop := Ct yX7_hasSound cX7_hasSound 2 (some .boolean) rmX7_hasSound domC argX7_hasSound (fun a => sp a)
theorem dX7_hasSound_0 : decode cX7_hasSound 0 = .ok (.iload_n 1, 1) := by decide +kernel
theorem dX7_hasSound_1 : decode cX7_hasSound 1 = .ok (.ifCond .lt 18, 3) := by decide +kernel
theorem dX7_hasSound_4 : decode cX7_hasSound 4 = .ok (.iload_n 1, 1) := by decide +kernel
theorem dX7_hasSound_5 : decode cX7_hasSound 5 = .ok (.aload_n 0, 1) := by decide +kernel
theorem dX7_hasSound_6 : decode cX7_hasSound 6 = .ok (.getfield 27, 3) := by decide +kernel
theorem dX7_hasSound_9 : decode cX7_hasSound 9 = .ok (.getfield 116, 3) := by decide +kernel
theorem dX7_hasSound_12 : decode cX7_hasSound 12 = .ok (.if_icmp .ge 7, 3) := by decide +kernel
theorem dX7_hasSound_15 : decode cX7_hasSound 15 = .ok (.iconst 1, 1) := by decide +kernel
theorem dX7_hasSound_16 : decode cX7_hasSound 16 = .ok (.goto 4, 3) := by decide +kernel
theorem dX7_hasSound_19 : decode cX7_hasSound 19 = .ok (.iconst 0, 1) := by decide +kernel
theorem dX7_hasSound_20 : decode cX7_hasSound 20 = .ok (.ireturn, 1) := by decide +kernel
theorem flX7_116 : FL RX7 116 1 3 := ⟨_, _, _, rfl, by decide, uwX1, Or.inr ⟨"GapTellings", (nw_mem (t_in1 (List.mem_of_getElem? (i := 122) (by decide +kernel))) (by decide +kernel))⟩⟩
set_option maxHeartbeats 4000000 in
set_option maxRecDepth 20000 in
theorem sgX7_hasSound_0 {κ : Kx} {K : Kont} {M : Mem} (C : Cx κ RX7 cX7_hasSound 2 (some .boolean) rmX7_hasSound domC) (x1 : Int)
    (h :
    ((x1 < 0 →
      K (some 0) M) ∧
     (¬ (x1 < 0) →
      (((M 5 1 3) ≤ x1 →
        K (some 0) M) ∧
       (¬ ((M 5 1 3) ≤ x1) →
        K (some 1) M))))) : V κ 2 M 0 [some (.inr (0, 0)), some (.inl x1)] [] K := by
  refine v_iload_n C dX7_hasSound_0 rfl ?_
  refine v_if C dX7_hasSound_1 (tgt := 19) (by decide) (P := x1 < 0) rfl (fun c1 => ?_) (fun c1 => ?_)
  · replace h := h.1 c1
    refine v_iconst C dX7_hasSound_19 (by decide) ?_
    exact v_zret C dX7_hasSound_20 (by decide) h
  · replace h := h.2 c1
    refine v_iload_n C dX7_hasSound_4 rfl ?_
    refine v_aload_n C dX7_hasSound_5 rfl ?_
    refine v_get C dX7_hasSound_6 flX7_27 rfl (by decide) (by decide) (w := .inr (5, 1)) rfl ?_
    refine v_get C dX7_hasSound_9 flX7_116 rfl (by decide) (by decide) (w := .inl (M 5 1 3)) rfl ?_
    refine v_icmp C dX7_hasSound_12 (tgt := 19) (by decide) (P := (M 5 1 3) ≤ x1) rfl (fun c12 => ?_) (fun c12 => ?_)
    · replace h := h.1 c12
      refine v_iconst C dX7_hasSound_19 (by decide) ?_
      exact v_zret C dX7_hasSound_20 (by decide) h
    · replace h := h.2 c12
      refine v_iconst C dX7_hasSound_15 (by decide) ?_
      refine v_goto C dX7_hasSound_16 (tgt := 20) (by decide) ?_
      exact v_zret C dX7_hasSound_20 (by decide) h
abbrev spX7_hasSound (s : Int) (M : Mem) (K : Kont) : Prop := K (some (if 0 ≤ s ∧ s < M 5 1 3 then 1 else 0)) M
theorem ctX7_hasSound : CtX7_hasSound spX7_hasSound := by
  refine ct_of (by decide) dmC (fun _ => Nat.le_of_ble_eq_true rfl) ?_
  intro κ p M K C oM h
  dsimp only [spX7_hasSound] at h
  refine sgX7_hasSound_0 C p ⟨fun c => ?_, fun c => ⟨fun c2 => ?_, fun c2 => ?_⟩⟩
  · rw [if_neg (by omega)] at h; exact h
  · rw [if_neg (by omega)] at h; exact h
  · rw [if_pos (by omega)] at h; exact h
/-! ===== GapTellings.hasVersion ===== -/
abbrev rmX7_hasVersion : Room := { frames := 1, cells := 0, slots := 0, locals := 21 }
abbrev argX7_hasVersion (a : Int × Int) : List PV := [.inr (0, 0), .inl a.1, .inl a.2]
abbrev CtX7_hasVersion (sp : Int → Int → Mem → Kont → Prop) : Prop := Ct yX7_hasVersion cX7_hasVersion 3 (some .boolean) rmX7_hasVersion domC argX7_hasVersion (fun a => sp a.1 a.2)
theorem dX7_hasVersion_0 : decode cX7_hasVersion 0 = .ok (.aload_n 0, 1) := by decide +kernel
theorem dX7_hasVersion_1 : decode cX7_hasVersion 1 = .ok (.iload_n 1, 1) := by decide +kernel
theorem dX7_hasVersion_2 : decode cX7_hasVersion 2 = .ok (.invokevirtual 135, 3) := by decide +kernel
theorem dX7_hasVersion_5 : decode cX7_hasVersion 5 = .ok (.ifCond .eq 27, 3) := by decide +kernel
theorem dX7_hasVersion_8 : decode cX7_hasVersion 8 = .ok (.iload_n 2, 1) := by decide +kernel
theorem dX7_hasVersion_9 : decode cX7_hasVersion 9 = .ok (.ifCond .lt 23, 3) := by decide +kernel
theorem dX7_hasVersion_12 : decode cX7_hasVersion 12 = .ok (.iload_n 2, 1) := by decide +kernel
theorem dX7_hasVersion_13 : decode cX7_hasVersion 13 = .ok (.aload_n 0, 1) := by decide +kernel
theorem dX7_hasVersion_14 : decode cX7_hasVersion 14 = .ok (.getfield 27, 3) := by decide +kernel
theorem dX7_hasVersion_17 : decode cX7_hasVersion 17 = .ok (.getfield 138, 3) := by decide +kernel
theorem dX7_hasVersion_20 : decode cX7_hasVersion 20 = .ok (.iload_n 1, 1) := by decide +kernel
theorem dX7_hasVersion_21 : decode cX7_hasVersion 21 = .ok (.aaload, 1) := by decide +kernel
theorem dX7_hasVersion_22 : decode cX7_hasVersion 22 = .ok (.getfield 142, 3) := by decide +kernel
theorem dX7_hasVersion_25 : decode cX7_hasVersion 25 = .ok (.if_icmp .ge 7, 3) := by decide +kernel
theorem dX7_hasVersion_28 : decode cX7_hasVersion 28 = .ok (.iconst 1, 1) := by decide +kernel
theorem dX7_hasVersion_29 : decode cX7_hasVersion 29 = .ok (.goto 4, 3) := by decide +kernel
theorem dX7_hasVersion_32 : decode cX7_hasVersion 32 = .ok (.iconst 0, 1) := by decide +kernel
theorem dX7_hasVersion_33 : decode cX7_hasVersion 33 = .ok (.ireturn, 1) := by decide +kernel
theorem ivX7_135 : IV RX7 135 yX7_hasPicture cX7_hasPicture 2 (some .boolean) 1 := ⟨(tb_mem (t_in3 (List.mem_of_getElem? (i := 97) (by decide +kernel))) (by decide +kernel)), (tb_mem (t_in3 (List.mem_of_getElem? (i := 99) (by decide +kernel))) (by decide +kernel)), (tb_sel (q := (⟨"GapTellings", "hasPicture", "(I)Z"⟩, 13)) (List.mem_of_getElem? (i := 3) (by decide +kernel)) (by decide +kernel)), (tb_mem (t_in1 (List.mem_of_getElem? (i := 1) (by decide +kernel))) (by decide +kernel)), (tb_mem (t_in3 (List.mem_of_getElem? (i := 100) (by decide +kernel))) (by decide +kernel)), ⟨by decide +kernel, by decide +kernel, by decide +kernel⟩⟩
theorem flX7_138 : FL RX7 138 1 8 := ⟨_, _, _, rfl, by decide, uwX1, Or.inr ⟨"GapTellings", (nw_mem (t_in1 (List.mem_of_getElem? (i := 143) (by decide +kernel))) (by decide +kernel))⟩⟩
theorem flX7_142 : FL RX7 142 3 4 := ⟨_, _, _, rfl, by decide, uwX3, Or.inr ⟨"GapTellings", (nw_mem (t_in1 (List.mem_of_getElem? (i := 81) (by decide +kernel))) (by decide +kernel))⟩⟩
set_option maxHeartbeats 4000000 in
set_option maxRecDepth 20000 in
theorem sgX7_hasVersion_0 {κ : Kx} {K : Kont} {M : Mem} (C : Cx κ RX7 cX7_hasVersion 3 (some .boolean) rmX7_hasVersion domC) (x1 : Int) (x2 : Int)
    (h :
    spX7_hasPicture x1 M (rI (fun r2 M2 =>
    ((r2 = 0 →
      K (some 0) M2) ∧
     (¬ (r2 = 0) →
      ((x2 < 0 →
        K (some 0) M2) ∧
       (¬ (x2 < 0) →
        (0 ≤ x1 ∧ x1 < 7) ∧
        (((M2 11 (7 * 1 + x1) 4) ≤ x2 →
          K (some 0) M2) ∧
         (¬ ((M2 11 (7 * 1 + x1) 4) ≤ x2) →
          K (some 1) M2))))))))) : V κ 3 M 0 [some (.inr (0, 0)), some (.inl x1), some (.inl x2)] [] K := by
  refine v_aload_n C dX7_hasVersion_0 rfl ?_
  refine v_iload_n C dX7_hasVersion_1 rfl ?_
  refine v_invV C ctX7_hasPicture dX7_hasVersion_2 ivX7_135 ⟨by decide, by decide, rfl, rfl⟩ (x1 : Int) (As := [.inl x1]) rfl rfl rfl (by decide) rfl (st := []) rfl (Nat.le_of_ble_eq_true rfl) h (fun o M2 oM2 io2 g2 => ?_)
  replace h := rI_out g2
  clear g2
  obtain ⟨r2, rfl, h⟩ := h
  refine v_push ?_
  refine v_if C dX7_hasVersion_5 (tgt := 32) (by decide) (P := r2 = 0) rfl (fun c5 => ?_) (fun c5 => ?_)
  · replace h := h.1 c5
    refine v_iconst C dX7_hasVersion_32 (by decide) ?_
    exact v_zret C dX7_hasVersion_33 (by decide) h
  · replace h := h.2 c5
    refine v_iload_n C dX7_hasVersion_8 rfl ?_
    refine v_if C dX7_hasVersion_9 (tgt := 32) (by decide) (P := x2 < 0) rfl (fun c9 => ?_) (fun c9 => ?_)
    · replace h := h.1 c9
      refine v_iconst C dX7_hasVersion_32 (by decide) ?_
      exact v_zret C dX7_hasVersion_33 (by decide) h
    · replace h := h.2 c9
      refine v_iload_n C dX7_hasVersion_12 rfl ?_
      refine v_aload_n C dX7_hasVersion_13 rfl ?_
      refine v_get C dX7_hasVersion_14 flX7_27 rfl (by decide) (by decide) (w := .inr (5, 1)) rfl ?_
      refine v_get C dX7_hasVersion_17 flX7_138 rfl (by decide) (by decide) (w := .inr (10, 1)) rfl ?_
      refine v_iload_n C dX7_hasVersion_20 rfl ?_
      refine v_aald C dX7_hasVersion_21 h.1.1 h.1.2 ?_
      replace h := h.2
      refine v_get C dX7_hasVersion_22 flX7_142 rfl (by decide) (by decide) (w := .inl (M2 11 (7 * 1 + x1) 4)) rfl ?_
      refine v_icmp C dX7_hasVersion_25 (tgt := 32) (by decide) (P := (M2 11 (7 * 1 + x1) 4) ≤ x2) rfl (fun c25 => ?_) (fun c25 => ?_)
      · replace h := h.1 c25
        refine v_iconst C dX7_hasVersion_32 (by decide) ?_
        exact v_zret C dX7_hasVersion_33 (by decide) h
      · replace h := h.2 c25
        refine v_iconst C dX7_hasVersion_28 (by decide) ?_
        refine v_goto C dX7_hasVersion_29 (tgt := 33) (by decide) ?_
        exact v_zret C dX7_hasVersion_33 (by decide) h
abbrev hasV (F : Film) (p v : Int) : Prop := (0 ≤ p ∧ p < F 3 0 0) ∧ 0 ≤ v ∧ v < F 11 p 0
abbrev spX7_hasVersion (p v : Int) (M : Mem) (K : Kont) : Prop := (M 5 1 7 ≤ 7) ∧ K (some (if hasV (cFilm M 1) p v then 1 else 0)) M
theorem if10 {P : Prop} [Decidable P] (h : (if P then (1 : Int) else 0) ≠ 0) : P := by
  by_cases q : P
  · exact q
  · rw [if_neg q] at h; exact absurd rfl h
theorem if10n {P : Prop} [Decidable P] (h : (if P then (1 : Int) else 0) = 0) : ¬ P := by
  intro q
  rw [if_pos q] at h
  exact absurd h (by decide)
theorem ctX7_hasVersion : CtX7_hasVersion spX7_hasVersion := by
  refine ct_of (by decide) dmC (fun _ => Nat.le_of_ble_eq_true rfl) ?_
  intro κ a M K C oM h
  obtain ⟨p, v⟩ := a
  obtain ⟨h7, h⟩ := h
  have h : K (some (if hasV (cFilm M 1) p v then 1 else 0)) M := h
  have e3 : cFilm M 1 3 0 0 = M 5 1 7 := rfl
  have e11 : cFilm M 1 11 p 0 = M 11 (7 * 1 + p) 4 := rfl
  have h7 : M 5 1 7 ≤ 7 := h7
  have no : ¬ hasV (cFilm M 1) p v → K (some 0) M := fun z => by rw [if_neg z] at h; exact h
  refine sgX7_hasVersion_0 C p v ⟨fun c => no (fun z => if10n c (by omega)), fun c => ?_⟩
  have c' := if10 c
  refine ⟨fun c2 => no (by omega), fun c2 => ⟨by omega, fun c3 => no (by omega), fun c3 => ?_⟩⟩
  rw [if_pos (by omega)] at h
  exact h
/-! ===== GapTellings.filmChanged ===== -/
abbrev rmX7_filmChanged : Room := { frames := 2, cells := 0, slots := 0, locals := 49 }
abbrev argX7_filmChanged (a : Unit) : List PV := [.inr (0, 0)]
abbrev CtX7_filmChanged (sp : Mem → Kont → Prop) : Prop := Ct yX7_filmChanged cX7_filmChanged 1 none rmX7_filmChanged domC argX7_filmChanged (fun _ => sp)
theorem dX7_filmChanged_0 : decode cX7_filmChanged 0 = .ok (.aload_n 0, 1) := by decide +kernel
theorem dX7_filmChanged_1 : decode cX7_filmChanged 1 = .ok (.getfield 35, 3) := by decide +kernel
theorem dX7_filmChanged_4 : decode cX7_filmChanged 4 = .ok (.iconst (-1), 1) := by decide +kernel
theorem dX7_filmChanged_5 : decode cX7_filmChanged 5 = .ok (.iconst 0, 1) := by decide +kernel
theorem dX7_filmChanged_6 : decode cX7_filmChanged 6 = .ok (.invokevirtual 261, 3) := by decide +kernel
theorem dX7_filmChanged_9 : decode cX7_filmChanged 9 = .ok (.aload_n 0, 1) := by decide +kernel
theorem dX7_filmChanged_10 : decode cX7_filmChanged 10 = .ok (.iconst 0, 1) := by decide +kernel
theorem dX7_filmChanged_11 : decode cX7_filmChanged 11 = .ok (.putfield 273, 3) := by decide +kernel
theorem dX7_filmChanged_14 : decode cX7_filmChanged 14 = .ok (.aload_n 0, 1) := by decide +kernel
theorem dX7_filmChanged_15 : decode cX7_filmChanged 15 = .ok (.getfield 64, 3) := by decide +kernel
theorem dX7_filmChanged_18 : decode cX7_filmChanged 18 = .ok (.iconst 0, 1) := by decide +kernel
theorem dX7_filmChanged_19 : decode cX7_filmChanged 19 = .ok (.putfield 277, 3) := by decide +kernel
theorem dX7_filmChanged_22 : decode cX7_filmChanged 22 = .ok (.return_, 1) := by decide +kernel
theorem flX7_35 : FL RX7 35 7 5 := ⟨_, _, _, rfl, by decide, uwX7, Or.inl (tb_mem (t_in2 (List.mem_of_getElem? (i := 220) (by decide +kernel))) (by decide +kernel))⟩
theorem ivX7_261 : IV RX7 261 yX6_listen cX6_listen 7 none 2 := ⟨(tb_mem (t_in2 (List.mem_of_getElem? (i := 202) (by decide +kernel))) (by decide +kernel)), (tb_mem (t_in2 (List.mem_of_getElem? (i := 203) (by decide +kernel))) (by decide +kernel)), (tb_mem (t_in2 (List.mem_of_getElem? (i := 204) (by decide +kernel))) (by decide +kernel)), (tb_mem (t_in1 (List.mem_of_getElem? (i := 5) (by decide +kernel))) (by decide +kernel)), (tb_mem (t_in2 (List.mem_of_getElem? (i := 205) (by decide +kernel))) (by decide +kernel)), ⟨by decide +kernel, by decide +kernel, by decide +kernel⟩⟩
theorem plX7_273 : PL RX7 273 7 11 .boolean := ⟨_, _, _, rfl, by decide, uwX7, Or.inl (tb_mem (t_in2 (List.mem_of_getElem? (i := 226) (by decide +kernel))) (by decide +kernel)), rfl, by decide +kernel, tyX7, tyX7_ok, nmX7⟩
theorem flX7_64 : FL RX7 64 7 12 := ⟨_, _, _, rfl, by decide, uwX7, Or.inl (tb_mem (t_in2 (List.mem_of_getElem? (i := 227) (by decide +kernel))) (by decide +kernel))⟩
theorem plX7_277 : PL RX7 277 2 3 .boolean := ⟨_, _, _, rfl, by decide, uwX2, Or.inr ⟨"GapTellings", (nw_mem (t_in1 (List.mem_of_getElem? (i := 232) (by decide +kernel))) (by decide +kernel))⟩, rfl, by decide +kernel, tyX2, tyX2_ok, nmX2⟩
set_option maxHeartbeats 4000000 in
set_option maxRecDepth 20000 in
theorem sgX7_filmChanged_0 {κ : Kx} {K : Kont} {M : Mem} (C : Cx κ RX7 cX7_filmChanged 1 none rmX7_filmChanged domC) 
    (h :
    spX6_listen 0 (-1) 0 M (rV (fun M6 =>
    ∀ M11 : Mem, M11 = up3 M6 0 0 11 0 →
    ∀ M19 : Mem, M19 = up3 M11 23 0 3 0 →
    K none M19))) : V κ 1 M 0 [some (.inr (0, 0))] [] K := by
  refine v_aload_n C dX7_filmChanged_0 rfl ?_
  refine v_get C dX7_filmChanged_1 flX7_35 rfl (by decide) (by decide) (w := .inr (14, 0)) rfl ?_
  refine v_iconst C dX7_filmChanged_4 (by decide) ?_
  refine v_iconst C dX7_filmChanged_5 (by decide) ?_
  refine v_invV C ctX6_listen dX7_filmChanged_6 ivX7_261 ⟨by decide, by decide, rfl, rfl⟩ ((0, (-1), 0) : Int × Int × Int) (As := [.inl (-1), .inl 0]) rfl rfl rfl (by decide) rfl (st := []) rfl (Nat.le_of_ble_eq_true rfl) h (fun o M6 oM6 io6 g6 => ?_)
  replace h := rV_out g6
  clear g6
  obtain ⟨rfl, h⟩ := h
  refine v_push0 ?_
  refine v_aload_n C dX7_filmChanged_9 rfl ?_
  refine v_iconst C dX7_filmChanged_10 (by decide) ?_
  refine v_put C dX7_filmChanged_11 plX7_273 rfl (by decide) (by decide) rfl rfl rfl ?_
  refine v_nmM (fun M11 eM11 => ?_)
  replace h := h M11 eM11
  refine v_aload_n C dX7_filmChanged_14 rfl ?_
  refine v_get C dX7_filmChanged_15 flX7_64 rfl (by decide) (by decide) (w := .inr (23, 0)) rfl ?_
  refine v_iconst C dX7_filmChanged_18 (by decide) ?_
  refine v_put C dX7_filmChanged_19 plX7_277 rfl (by decide) (by decide) rfl rfl rfl ?_
  refine v_nmM (fun M19 eM19 => ?_)
  replace h := h M19 eM19
  exact v_vret C dX7_filmChanged_22 h
abbrev spX7_filmChanged (M : Mem) (K : Kont) : Prop := InvP M ∧ ∀ M', InvC M' → SameC M M' → K none M'
theorem ctX7_filmChanged : CtX7_filmChanged spX7_filmChanged := by
  refine ct_of (by decide) dmC (fun _ => Nat.le_of_ble_eq_true rfl) ?_
  intro κ a M K C oM h
  obtain ⟨⟨a1, a2, a3, a4, a5⟩, hk⟩ := h
  refine sgX7_filmChanged_0 C ⟨⟨a2, a3.1, a4.1, a4.2.1, Or.inl rfl⟩, ?_⟩
  intro N hA hB hT N1 e1 N2 e2
  rw [shF_no] at hT
  have o : ∀ r i j, ¬ ((r = 15 ∨ r = 16 ∨ r = 17) ∧ i = 0) → ¬ (r = 0 ∧ j = 11) → ¬ (r = 23 ∧ j = 3) → N2 r i j = M r i j := by
    intro r i j q1 q2 q3
    rw [e2, show up3 N1 23 0 3 0 r i j = N1 r i j from if_neg (fun z => q3 ⟨z.1, z.2.2⟩), e1, show up3 N 0 0 11 0 r i j = N r i j from if_neg (fun z => q2 ⟨z.1, z.2.2⟩), hA r i q1]
  have t : ∀ r i j, r ≠ 0 → r ≠ 23 → N2 r i j = N r i j := by
    intro r i j q1 q2
    rw [e2, up3_r _ _ _ _ _ q2, e1, up3_r _ _ _ _ _ q1]
  have hf : cFilm N2 1 = cFilm M 1 := by
    refine cFilm_eq (fun r x y => ?_) 1
    funext i j
    exact o r i j (by omega) (by omega) (by omega)
  have g : ∀ r, r = 1 ∨ r = 19 ∨ r = 20 → ∀ i, N2 r i = M r i := by
    intro r hr i
    funext j
    exact o r i j (by omega) (by omega) (by omega)
  refine hk N2 ⟨⟨⟨by rw [o 0 0 1 (by omega) (by omega) (by omega)]; exact a1.1, by rw [g 1 (by decide)]; exact a1.2⟩, by rw [hf]; exact a2, ⟨fun u x y => by rw [t 16 0 u (by decide) (by decide), t 17 0 u (by decide) (by decide)]; exact hB u x y, fun u x y => by rw [o 16 1 u (by omega) (by omega) (by omega), o 17 1 u (by omega) (by omega) (by omega)]; exact a3.2 u x y⟩, ⟨?_, ?_, ?_, ?_⟩, by rw [hf, g 19 (by decide), g 20 (by decide)]; exact a5⟩, ?_, ?_, ?_⟩ ⟨o 0 0 1 (by omega) (by omega) (by omega), g 1 (by decide) 0, hf, g 19 (by decide) 0, g 20 (by decide) 0, fun r a => by funext i j; exact o r i j (by omega) (by omega) (by omega)⟩
  · rw [t 16 0 0 (by decide) (by decide), (hT.2 0 (by omega) a2.1.1).1]; rfl
  · rw [t 17 0 0 (by decide) (by decide), (hT.2 0 (by omega) a2.1.1).2]; rfl
  · rw [o 16 1 0 (by omega) (by omega) (by omega)]; exact a4.2.2.1
  · rw [o 17 1 0 (by omega) (by omega) (by omega)]; exact a4.2.2.2
  · rw [hf]
    refine ⟨fun u x y => by rw [t 15 0 u (by decide) (by decide)]; exact hT.1 u x y, fun u x y => by rw [t 16 0 u (by decide) (by decide), t 17 0 u (by decide) (by decide)]; exact hT.2 u x y⟩
  · intro z
    exact absurd (by rw [e2, up3_r _ _ _ _ _ (by decide), e1, up3_s]) z
  · intro z
    exact absurd (by rw [e2, up3_s]) z
/-! ===== GapTellings.findBest ===== -/
abbrev rmX7_findBest : Room := { frames := 4, cells := 0, slots := 0, locals := 108 }
abbrev argX7_findBest (a : Unit) : List PV := [.inr (0, 0)]
abbrev CtX7_findBest (sp : Mem → Kont → Prop) : Prop := Ct yX7_findBest cX7_findBest 1 none rmX7_findBest domC argX7_findBest (fun _ => sp)
theorem dX7_findBest_0 : decode cX7_findBest 0 = .ok (.aload_n 0, 1) := by decide +kernel
theorem dX7_findBest_1 : decode cX7_findBest 1 = .ok (.getfield 273, 3) := by decide +kernel
theorem dX7_findBest_4 : decode cX7_findBest 4 = .ok (.ifCond .eq 4, 3) := by decide +kernel
theorem dX7_findBest_7 : decode cX7_findBest 7 = .ok (.return_, 1) := by decide +kernel
theorem dX7_findBest_8 : decode cX7_findBest 8 = .ok (.aload_n 0, 1) := by decide +kernel
theorem dX7_findBest_9 : decode cX7_findBest 9 = .ok (.aload_n 0, 1) := by decide +kernel
theorem dX7_findBest_10 : decode cX7_findBest 10 = .ok (.getfield 52, 3) := by decide +kernel
theorem dX7_findBest_13 : decode cX7_findBest 13 = .ok (.aload_n 0, 1) := by decide +kernel
theorem dX7_findBest_14 : decode cX7_findBest 14 = .ok (.getfield 35, 3) := by decide +kernel
theorem dX7_findBest_17 : decode cX7_findBest 17 = .ok (.aload_n 0, 1) := by decide +kernel
theorem dX7_findBest_18 : decode cX7_findBest 18 = .ok (.getfield 27, 3) := by decide +kernel
theorem dX7_findBest_21 : decode cX7_findBest 21 = .ok (.getfield 107, 3) := by decide +kernel
theorem dX7_findBest_24 : decode cX7_findBest 24 = .ok (.aload_n 0, 1) := by decide +kernel
theorem dX7_findBest_25 : decode cX7_findBest 25 = .ok (.getfield 27, 3) := by decide +kernel
theorem dX7_findBest_28 : decode cX7_findBest 28 = .ok (.invokevirtual 248, 3) := by decide +kernel
theorem dX7_findBest_31 : decode cX7_findBest 31 = .ok (.invokevirtual 251, 3) := by decide +kernel
theorem dX7_findBest_34 : decode cX7_findBest 34 = .ok (.putfield 245, 3) := by decide +kernel
theorem dX7_findBest_37 : decode cX7_findBest 37 = .ok (.aload_n 0, 1) := by decide +kernel
theorem dX7_findBest_38 : decode cX7_findBest 38 = .ok (.getfield 52, 3) := by decide +kernel
theorem dX7_findBest_41 : decode cX7_findBest 41 = .ok (.aload_n 0, 1) := by decide +kernel
theorem dX7_findBest_42 : decode cX7_findBest 42 = .ok (.getfield 35, 3) := by decide +kernel
theorem dX7_findBest_45 : decode cX7_findBest 45 = .ok (.aload_n 0, 1) := by decide +kernel
theorem dX7_findBest_46 : decode cX7_findBest 46 = .ok (.getfield 27, 3) := by decide +kernel
theorem dX7_findBest_49 : decode cX7_findBest 49 = .ok (.getfield 107, 3) := by decide +kernel
theorem dX7_findBest_52 : decode cX7_findBest 52 = .ok (.aload_n 0, 1) := by decide +kernel
theorem dX7_findBest_53 : decode cX7_findBest 53 = .ok (.getfield 56, 3) := by decide +kernel
theorem dX7_findBest_56 : decode cX7_findBest 56 = .ok (.invokevirtual 280, 3) := by decide +kernel
theorem dX7_findBest_59 : decode cX7_findBest 59 = .ok (.aload_n 0, 1) := by decide +kernel
theorem dX7_findBest_60 : decode cX7_findBest 60 = .ok (.iconst 1, 1) := by decide +kernel
theorem dX7_findBest_61 : decode cX7_findBest 61 = .ok (.putfield 273, 3) := by decide +kernel
theorem dX7_findBest_64 : decode cX7_findBest 64 = .ok (.return_, 1) := by decide +kernel
theorem flX7_273 : FL RX7 273 7 11 := ⟨_, _, _, rfl, by decide, uwX7, Or.inl (tb_mem (t_in2 (List.mem_of_getElem? (i := 226) (by decide +kernel))) (by decide +kernel))⟩
theorem flX7_52 : FL RX7 52 7 8 := ⟨_, _, _, rfl, by decide, uwX7, Or.inl (tb_mem (t_in2 (List.mem_of_getElem? (i := 223) (by decide +kernel))) (by decide +kernel))⟩
theorem flX7_107 : FL RX7 107 1 1 := ⟨_, _, _, rfl, by decide, uwX1, Or.inr ⟨"GapTellings", (nw_mem (t_in1 (List.mem_of_getElem? (i := 113) (by decide +kernel))) (by decide +kernel))⟩⟩
theorem ivX7_248 : IV RX7 248 yX1_allPictures cX1_allPictures 1 (some .int) 0 := ⟨(tb_mem (t_in3 (List.mem_of_getElem? (i := 160) (by decide +kernel))) (by decide +kernel)), (tb_mem (t_in3 (List.mem_of_getElem? (i := 161) (by decide +kernel))) (by decide +kernel)), (tb_mem (t_in3 (List.mem_of_getElem? (i := 162) (by decide +kernel))) (by decide +kernel)), (tb_mem (t_in1 (List.mem_of_getElem? (i := 3) (by decide +kernel))) (by decide +kernel)), (tb_mem (t_in3 (List.mem_of_getElem? (i := 163) (by decide +kernel))) (by decide +kernel)), ⟨by decide +kernel, by decide +kernel, by decide +kernel⟩⟩
theorem ivX7_251 : IV RX7 251 yX0_solve cX0_solve 8 (some .int) 3 := ⟨(tb_mem (t_in3 (List.mem_of_getElem? (i := 164) (by decide +kernel))) (by decide +kernel)), (tb_mem (t_in3 (List.mem_of_getElem? (i := 165) (by decide +kernel))) (by decide +kernel)), (tb_mem (t_in3 (List.mem_of_getElem? (i := 166) (by decide +kernel))) (by decide +kernel)), (tb_mem (t_in1 (List.mem_of_getElem? (i := 8) (by decide +kernel))) (by decide +kernel)), (tb_mem (t_in3 (List.mem_of_getElem? (i := 167) (by decide +kernel))) (by decide +kernel)), ⟨by decide +kernel, by decide +kernel, by decide +kernel⟩⟩
theorem plX7_245 : PL RX7 245 7 10 .int := ⟨_, _, _, rfl, by decide, uwX7, Or.inl (tb_mem (t_in2 (List.mem_of_getElem? (i := 225) (by decide +kernel))) (by decide +kernel)), rfl, by decide +kernel, tyX7, tyX7_ok, nmX7⟩
theorem flX7_56 : FL RX7 56 7 9 := ⟨_, _, _, rfl, by decide, uwX7, Or.inl (tb_mem (t_in2 (List.mem_of_getElem? (i := 224) (by decide +kernel))) (by decide +kernel))⟩
theorem ivX7_280 : IV RX7 280 yX0_trace cX0_trace 8 none 3 := ⟨(tb_mem (t_in3 (List.mem_of_getElem? (i := 201) (by decide +kernel))) (by decide +kernel)), (tb_mem (t_in3 (List.mem_of_getElem? (i := 202) (by decide +kernel))) (by decide +kernel)), (tb_mem (t_in3 (List.mem_of_getElem? (i := 203) (by decide +kernel))) (by decide +kernel)), (tb_mem (t_in1 (List.mem_of_getElem? (i := 8) (by decide +kernel))) (by decide +kernel)), (tb_mem (t_in3 (List.mem_of_getElem? (i := 204) (by decide +kernel))) (by decide +kernel)), ⟨by decide +kernel, by decide +kernel, by decide +kernel⟩⟩
set_option maxHeartbeats 4000000 in
set_option maxRecDepth 20000 in
theorem sgX7_findBest_0 {κ : Kx} {K : Kont} {M : Mem} (C : Cx κ RX7 cX7_findBest 1 none rmX7_findBest domC) 
    (h :
    (((M 0 0 11) = 0 →
      spX1_allPictures 1 M (rI (fun r28 M28 =>
      spX0_solve 0 (M 5 1 1) r28 M28 (rI (fun r31 M31 =>
      ∀ M34 : Mem, M34 = up3 M31 0 0 10 r31 →
      spX0_trace 0 (M34 5 1 1) 1 M34 (rV (fun M56 =>
      ∀ M61 : Mem, M61 = up3 M56 0 0 11 1 →
      K none M61))))))) ∧
     (¬ ((M 0 0 11) = 0) →
      K none M))) : V κ 1 M 0 [some (.inr (0, 0))] [] K := by
  refine v_aload_n C dX7_findBest_0 rfl ?_
  refine v_get C dX7_findBest_1 flX7_273 rfl (by decide) (by decide) (w := .inl (M 0 0 11)) rfl ?_
  refine v_if C dX7_findBest_4 (tgt := 8) (by decide) (P := (M 0 0 11) = 0) rfl (fun c4 => ?_) (fun c4 => ?_)
  · replace h := h.1 c4
    refine v_aload_n C dX7_findBest_8 rfl ?_
    refine v_aload_n C dX7_findBest_9 rfl ?_
    refine v_get C dX7_findBest_10 flX7_52 rfl (by decide) (by decide) (w := .inr (21, 0)) rfl ?_
    refine v_aload_n C dX7_findBest_13 rfl ?_
    refine v_get C dX7_findBest_14 flX7_35 rfl (by decide) (by decide) (w := .inr (14, 0)) rfl ?_
    refine v_aload_n C dX7_findBest_17 rfl ?_
    refine v_get C dX7_findBest_18 flX7_27 rfl (by decide) (by decide) (w := .inr (5, 1)) rfl ?_
    refine v_get C dX7_findBest_21 flX7_107 rfl (by decide) (by decide) (w := .inl (M 5 1 1)) rfl ?_
    refine v_aload_n C dX7_findBest_24 rfl ?_
    refine v_get C dX7_findBest_25 flX7_27 rfl (by decide) (by decide) (w := .inr (5, 1)) rfl ?_
    refine v_invV C ctX1_allPictures dX7_findBest_28 ivX7_248 ⟨by decide, by decide, rfl, rfl⟩ (1 : Int) (As := []) rfl rfl rfl (by decide) rfl (st := [.inl (M 5 1 1), .inr (14, 0), .inr (21, 0), .inr (0, 0)]) rfl (Nat.le_of_ble_eq_true rfl) h (fun o M28 oM28 io28 g28 => ?_)
    replace h := rI_out g28
    clear g28
    obtain ⟨r28, rfl, h⟩ := h
    refine v_push ?_
    refine v_invV C ctX0_solve dX7_findBest_31 ivX7_251 ⟨by decide, by decide, rfl, rfl⟩ ((0, M 5 1 1, r28) : Int × Int × Int) (As := [.inr (14, 0), .inl (M 5 1 1), .inl r28]) rfl rfl rfl (by decide) rfl (st := [.inr (0, 0)]) rfl (Nat.le_of_ble_eq_true rfl) h (fun o M31 oM31 io31 g31 => ?_)
    replace h := rI_out g31
    clear g31
    obtain ⟨r31, rfl, h⟩ := h
    refine v_push ?_
    refine v_put C dX7_findBest_34 plX7_245 rfl (by decide) (by decide) rfl rfl rfl ?_
    refine v_nmM (fun M34 eM34 => ?_)
    replace h := h M34 eM34
    refine v_aload_n C dX7_findBest_37 rfl ?_
    refine v_get C dX7_findBest_38 flX7_52 rfl (by decide) (by decide) (w := .inr (21, 0)) rfl ?_
    refine v_aload_n C dX7_findBest_41 rfl ?_
    refine v_get C dX7_findBest_42 flX7_35 rfl (by decide) (by decide) (w := .inr (14, 0)) rfl ?_
    refine v_aload_n C dX7_findBest_45 rfl ?_
    refine v_get C dX7_findBest_46 flX7_27 rfl (by decide) (by decide) (w := .inr (5, 1)) rfl ?_
    refine v_get C dX7_findBest_49 flX7_107 rfl (by decide) (by decide) (w := .inl (M34 5 1 1)) rfl ?_
    refine v_aload_n C dX7_findBest_52 rfl ?_
    refine v_get C dX7_findBest_53 flX7_56 rfl (by decide) (by decide) (w := .inr (18, 1)) rfl ?_
    refine v_invV C ctX0_trace dX7_findBest_56 ivX7_280 ⟨by decide, by decide, rfl, rfl⟩ ((0, M34 5 1 1, 1) : Int × Int × Int) (As := [.inr (14, 0), .inl (M34 5 1 1), .inr (18, 1)]) rfl rfl rfl (by decide) rfl (st := []) rfl (Nat.le_of_ble_eq_true rfl) h (fun o M56 oM56 io56 g56 => ?_)
    replace h := rV_out g56
    clear g56
    obtain ⟨rfl, h⟩ := h
    refine v_push0 ?_
    refine v_aload_n C dX7_findBest_59 rfl ?_
    refine v_iconst C dX7_findBest_60 (by decide) ?_
    refine v_put C dX7_findBest_61 plX7_273 rfl (by decide) (by decide) rfl rfl rfl ?_
    refine v_nmM (fun M61 eM61 => ?_)
    replace h := h M61 eM61
    exact v_vret C dX7_findBest_64 h
  · replace h := h.2 c4
    exact v_vret C dX7_findBest_7 h
theorem TabK_c {M : Mem} {F : Film} {S Q S' Q' : Int → Int} {b : Int} (hf : WFf F) (hb : 0 ≤ b) (hS : SEq (F 0 0 0) S S') (hQ : SEq (F 0 0 0) Q Q') (h : TabK M F S Q b) : TabK M F S' Q' b := by
  intro u told a c d
  have h0 := hf.1
  rw [h u told a c d, tab_c hf FEq.rf hS hQ hb (fun _ _ _ => rfl) _ u told (by omega) (by omega) c]
theorem bst_wf {F : Film} (hf : WFf F) {S Q : Int → Int} {B : Int} {f : Int → Int → Int} : ∀ (n : Nat) (t free set : Int) (ver sta : Int → Int), 0 ≤ t → t + n ≤ F 0 0 0 → PlK F ver sta → PlK F (trC F S Q B f n t free set ver sta).1 (trC F S Q B f n t free set ver sta).2 := by
  have n3 := hf.2.2.2.1
  intro n
  induction n with
  | zero => intro t free set ver sta _ _ h; exact h
  | succ n ih =>
    intro t free set ver sta t0 t1 h
    have sp := fiP_spec hf (S := S) (Q := Q) (B := B) (f := f) (t := t) (set := set) (F 3 0 0).toNat 0 (by omega) (by omega)
    unfold trC
    split
    · exact ih _ _ _ _ _ (by omega) (by omega) h
    · split
      · exact ih _ _ _ _ _ (by omega) (by omega) h
      · rename_i d
        rcases sp with z | ⟨q, k, z1, z2, z3, z4, z5, z6, -⟩
        · omega
        · have w := wf_p hf z1 z2
          rw [z5]
          have d1 : (3 * q + k) / 3 = q := by omega
          have d2 : (3 * q + k) % 3 = k := by omega
          rw [d1, d2]
          exact ih _ _ _ _ _ (by omega) (by omega) (PlK_put h z2 ⟨z3, z4⟩ t0 (own_end z6.2.2).1)
abbrev spX7_findBest (M : Mem) (K : Kont) : Prop := InvC M ∧ ∀ M', InvC M' → SameC M M' → M' 0 0 10 = bV0 (cFilm M 1) (cFilm M 1 1 0 0) (allS (cFilm M 1)) → PlK (cFilm M 1) (M' 19 1) (M' 20 1) → PlEq (M' 19 1) (M' 20 1) (bP0 (cFilm M 1)).1 (bP0 (cFilm M 1)).2 → K none M'
theorem ctX7_findBest : CtX7_findBest spX7_findBest := by
  refine ct_of (by decide) dmC (fun _ => Nat.le_of_ble_eq_true rfl) ?_
  intro κ a M K C oM h
  obtain ⟨hI, hk⟩ := h
  have hf := hI.1.2.1
  have hb := hI.1.2.2.1.1
  have hnP := hf.2.2.2.1
  have hB := hf.2.1
  have hT := hf.1
  have e3 : cFilm M 1 3 0 0 = M 5 1 7 := rfl
  have e1 : cFilm M 1 1 0 0 = M 5 1 1 := rfl
  have e0 : cFilm M 1 0 0 0 = M 5 1 0 := rfl
  have hw := shl_le7 (k := M 5 1 7) (by omega) (by omega)
  refine sgX7_findBest_0 C ⟨fun c => ⟨by omega, ?_⟩, fun c => ?_⟩
  · refine ⟨⟨hf, hb, by omega, by omega, by omega⟩, ?_⟩
    intro N hA hTab N1 eN1
    have hAG : AgB M N := hA
    -- the table for all pictures
    have hTab' : TabK N (cFilm M 1) (M 16 0) (M 17 0) (M 5 1 1) := hTab
    have n1 : ∀ r i j, r ≠ 22 → ¬ (r = 0 ∧ j = 10) → N1 r i j = M r i j := by
      intro r i j q1 q2
      rw [eN1, show up3 N 0 0 10 _ r i j = N r i j from if_neg (fun z => q2 ⟨z.1, z.2.2⟩), hA r q1]
    have hf1 : cFilm N1 1 = cFilm M 1 := by
      refine cFilm_eq (fun r x y => ?_) 1
      funext i j
      exact n1 r i j (by omega) (by omega)
    have g16 : N1 16 = M 16 := by funext i j; exact n1 16 i j (by decide) (by omega)
    have g17 : N1 17 = M 17 := by funext i j; exact n1 17 i j (by decide) (by omega)
    have g22 : N1 22 = N 22 := by funext i j; rw [eN1, up3_r _ _ _ _ _ (by decide)]
    have g51 : N1 5 1 1 = M 5 1 1 := n1 5 1 1 (by decide) (by omega)
    rw [g51]
    refine ⟨⟨by rw [hf1]; exact hf, fun u x y => by rw [g16, g17]; exact hb u x y, by omega, ?_⟩, ?_⟩
    · rw [hf1, g16, g17]
      intro u told x y z
      rw [g22]
      exact hTab' u told x y z
    · intro N2 hA2 hP2 hE2 N3 eN3
      rw [hf1, g16, g17] at hE2
      rw [hf1] at hP2
      have hbst : bstP (cFilm M 1) (M 16 0) (M 17 0) (M 5 1 1) = bP0 (cFilm M 1) := bstP_c hf FEq.rf hI.S hI.Q (by omega)
      rw [hbst] at hE2
      have hval : tabR (cFilm M 1) (M 16 0) (M 17 0) (M 5 1 1) (bShl 1 (M 5 1 7) - 1) (M 5 1 0).toNat 0 0 = bV0 (cFilm M 1) (cFilm M 1 1 0 0) (allS (cFilm M 1)) := tab_c hf FEq.rf hI.S hI.Q (by omega) (fun _ _ _ => rfl) _ 0 0 (by omega) (by omega) (by omega)
      rw [hval] at eN1
      have n3 : ∀ r i j, r ≠ 22 → ¬ (r = 0 ∧ (j = 10 ∨ j = 11)) → ¬ ((r = 19 ∨ r = 20) ∧ i = 1) → N3 r i j = M r i j := by
        intro r i j q1 q2 q3
        rw [eN3, show up3 N2 0 0 11 1 r i j = N2 r i j from if_neg (fun z => q2 ⟨z.1, Or.inr z.2.2⟩), hA2 r i q3]
        exact n1 r i j q1 (by omega)
      have hf3 : cFilm N3 1 = cFilm M 1 := by
        refine cFilm_eq (fun r x y => ?_) 1
        funext i j
        exact n3 r i j (by omega) (by omega) (by omega)
      have p1 : N3 19 1 = N2 19 1 := by funext j; rw [eN3, up3_r _ _ _ _ _ (by decide)]
      have p2 : N3 20 1 = N2 20 1 := by funext j; rw [eN3, up3_r _ _ _ _ _ (by decide)]
      have v10 : N3 0 0 10 = bV0 (cFilm M 1) (cFilm M 1 1 0 0) (allS (cFilm M 1)) := by
        rw [eN3, up3_j _ _ _ _ _ (by decide), hA2 0 0 (by omega), eN1, up3_s]
      have g : ∀ r i, r ≠ 22 → r ≠ 0 → ¬ ((r = 19 ∨ r = 20) ∧ i = 1) → N3 r i = M r i := by
        intro r i q1 q2 q3
        funext j
        exact n3 r i j q1 (by omega) q3
      have hsame : SameC M N3 := ⟨n3 0 0 1 (by decide) (by omega) (by omega), g 1 0 (by decide) (by decide) (by omega), hf3, g 19 0 (by decide) (by decide) (by omega), g 20 0 (by decide) (by decide) (by omega), fun r a => by funext i; exact g r i (by omega) (by omega) (by omega)⟩
      have hP3 : PlK (cFilm M 1) (N3 19 1) (N3 20 1) := by rw [p1, p2]; exact hP2
      have hE3 : PlEq (N3 19 1) (N3 20 1) (bP0 (cFilm M 1)).1 (bP0 (cFilm M 1)).2 := by rw [p1, p2]; exact hE2
      refine hk N3 ?_ hsame v10 hP3 hE3
      obtain ⟨⟨a1, a2, a3, a4, a5⟩, b1, b2, b3⟩ := hI
      refine ⟨⟨⟨by rw [hsame.1]; exact a1.1, by rw [hsame.2.1]; exact a1.2⟩, by rw [hf3]; exact a2, ⟨fun u x y => by rw [g 16 0 (by decide) (by decide) (by omega), g 17 0 (by decide) (by decide) (by omega)]; exact a3.1 u x y, fun u x y => by rw [g 16 1 (by decide) (by decide) (by omega), g 17 1 (by decide) (by decide) (by omega)]; exact a3.2 u x y⟩, ⟨by rw [g 16 0 (by decide) (by decide) (by omega)]; exact a4.1, by rw [g 17 0 (by decide) (by decide) (by omega)]; exact a4.2.1, by rw [g 16 1 (by decide) (by decide) (by omega)]; exact a4.2.2.1, by rw [g 17 1 (by decide) (by decide) (by omega)]; exact a4.2.2.2⟩, by rw [hf3, hsame.2.2.2.1, hsame.2.2.2.2.1]; exact a5⟩, ?_, ?_, ?_⟩
      · rw [hf3]
        exact ⟨fun u x y => by rw [g 15 0 (by decide) (by decide) (by omega)]; exact b1.1 u x y, fun u x y => by rw [g 16 0 (by decide) (by decide) (by omega), g 17 0 (by decide) (by decide) (by omega)]; exact b1.2 u x y⟩
      · intro _
        rw [hf3]
        exact ⟨v10, hP3, hE3⟩
      · rw [hf3, g 23 0 (by decide) (by decide) (by omega), g 19 2 (by decide) (by decide) (by omega), g 20 2 (by decide) (by decide) (by omega)]
        exact b3
  · have b2 := hI.2.2.1 c
    exact hk M hI SameC.rf b2.1 b2.2.1 b2.2.2
