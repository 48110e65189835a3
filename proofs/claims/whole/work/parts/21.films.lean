/-! ===== Film, Picture: what their methods do to a film ===== -/
def sF0 (F : Film) : Film := fun t a b => match t with
  | 0 => 0
  | 1 => 1
  | 2 => 0
  | 3 => 0
  | 4 => if a = 0 then 2 else if a = 1 then 1 else if a = 2 then 3 else if a = 3 then 1 else F 4 a b
  | t => F t a b
def sFT (F : Film) (x : Int) : Film := fun t a b => if t = 0 then x else F t a b
def sFB (F : Film) (x : Int) : Film := fun t a b => if t = 1 then x else F t a b
def sFS (F : Film) (k x y : Int) : Film := fun t a b => if t = 2 then F 2 0 0 + 1 else if t = 5 ∧ a = F 2 0 0 then k else if t = 6 ∧ a = F 2 0 0 then x else if t = 7 ∧ a = F 2 0 0 then y else F t a b
def sFN (F : Film) (j i : Int) : Film := fun t a b => if t = 12 ∧ a = j then i else F t a b
/-- one version more of a picture -/
def sFV (F : Film) (p l w : Int) : Film := fun t a b => if t = 13 ∧ a = p ∧ b = F 11 p 0 then l else if t = 14 ∧ a = p ∧ b = F 11 p 0 then w else if t = 11 ∧ a = p then F 11 p 0 + 1 else F t a b
/-- a picture begun anew, without versions -/
def sFP (F : Film) (p x y z : Int) : Film := fun t a b => if t = 8 ∧ a = p then x else if t = 9 ∧ a = p then y else if t = 10 ∧ a = p then z else if t = 12 ∧ a = p then -4 else if t = 11 ∧ a = p then 0 else F t a b
def sFC (F : Film) (n : Int) : Film := fun t a b => if t = 3 then n else F t a b
/-- nothing but a film has changed -/
def AgM (M M' : Mem) (f : Int) : Prop := ∀ r i j, ¬ (((5 ≤ r ∧ r ≤ 9) ∧ i = f) ∨ ((11 ≤ r ∧ r ≤ 13) ∧ 7 * f ≤ i ∧ i < 7 * f + 7)) → M' r i j = M r i j
theorem AgM.rf {M : Mem} {f : Int} : AgM M M f := fun _ _ _ _ => rfl
theorem AgM.tr {M M' M2 : Mem} {f : Int} (h : AgM M M' f) (h2 : AgM M' M2 f) : AgM M M2 f := fun r i j hn => (h2 r i j hn).trans (h r i j hn)
theorem AgM.up1 {M M' : Mem} {f : Int} (h : AgM M M' f) {r : Nat} (hr : 5 ≤ r ∧ r ≤ 9) (j v : Int) : AgM M (up3 M' r f j v) f := by
  intro r' i' j' hn
  rw [← h r' i' j' hn]
  exact if_neg (fun q => hn (Or.inl ⟨by rw [q.1]; exact hr, q.2.1⟩))
theorem AgM.up2 {M M' : Mem} {f : Int} (h : AgM M M' f) {r : Nat} (hr : 11 ≤ r ∧ r ≤ 13) {i : Int} (hi : 7 * f ≤ i ∧ i < 7 * f + 7) (j v : Int) : AgM M (up3 M' r i j v) f := by
  intro r' i' j' hn
  rw [← h r' i' j' hn]
  exact if_neg (fun q => hn (Or.inr ⟨by rw [q.1]; exact hr, by rw [q.2.1]; exact hi⟩))
theorem AgM.reg {M M' : Mem} {f : Int} (h : AgM M M' f) {r : Nat} (hr : r < 5 ∨ 13 < r ∨ r = 10) : M' r = M r := by
  funext i j
  exact h r i j (by omega)
/-- the other film stays -/
theorem AgM.other {M M' : Mem} {f : Int} (h : AgM M M' f) {g : Int} (hg : g ≠ f) : ∀ t a b, (0 ≤ a ∧ a < 7) ∨ t < 8 → cFilm M' g t a b = cFilm M g t a b := by
  intro t a b hab
  unfold cFilm
  split <;> first | rfl | exact h _ _ _ (by omega)
/-! ===== GapTellings$Film.startAnew ===== -/
abbrev rmX1_startAnew : Room := { frames := 0, cells := 0, slots := 0, locals := 0 }
abbrev argX1_startAnew (a : Int) : List PV := [.inr (5, a)]
abbrev CtX1_startAnew (sp : Int → Mem → Kont → Prop) : Prop := Ct yX1_startAnew cX1_startAnew 1 none rmX1_startAnew domC argX1_startAnew (fun a => sp a)
theorem dX1_startAnew_0 : decode cX1_startAnew 0 = .ok (.aload_n 0, 1) := by decide +kernel
theorem dX1_startAnew_1 : decode cX1_startAnew 1 = .ok (.iconst 0, 1) := by decide +kernel
theorem dX1_startAnew_2 : decode cX1_startAnew 2 = .ok (.putfield 31, 3) := by decide +kernel
theorem dX1_startAnew_5 : decode cX1_startAnew 5 = .ok (.aload_n 0, 1) := by decide +kernel
theorem dX1_startAnew_6 : decode cX1_startAnew 6 = .ok (.iconst 1, 1) := by decide +kernel
theorem dX1_startAnew_7 : decode cX1_startAnew 7 = .ok (.putfield 35, 3) := by decide +kernel
theorem dX1_startAnew_10 : decode cX1_startAnew 10 = .ok (.aload_n 0, 1) := by decide +kernel
theorem dX1_startAnew_11 : decode cX1_startAnew 11 = .ok (.iconst 0, 1) := by decide +kernel
theorem dX1_startAnew_12 : decode cX1_startAnew 12 = .ok (.putfield 38, 3) := by decide +kernel
theorem dX1_startAnew_15 : decode cX1_startAnew 15 = .ok (.aload_n 0, 1) := by decide +kernel
theorem dX1_startAnew_16 : decode cX1_startAnew 16 = .ok (.iconst 0, 1) := by decide +kernel
theorem dX1_startAnew_17 : decode cX1_startAnew 17 = .ok (.putfield 41, 3) := by decide +kernel
theorem dX1_startAnew_20 : decode cX1_startAnew 20 = .ok (.aload_n 0, 1) := by decide +kernel
theorem dX1_startAnew_21 : decode cX1_startAnew 21 = .ok (.getfield 9, 3) := by decide +kernel
theorem dX1_startAnew_24 : decode cX1_startAnew 24 = .ok (.iconst 0, 1) := by decide +kernel
theorem dX1_startAnew_25 : decode cX1_startAnew 25 = .ok (.iconst 2, 1) := by decide +kernel
theorem dX1_startAnew_26 : decode cX1_startAnew 26 = .ok (.iastore, 1) := by decide +kernel
theorem dX1_startAnew_27 : decode cX1_startAnew 27 = .ok (.aload_n 0, 1) := by decide +kernel
theorem dX1_startAnew_28 : decode cX1_startAnew 28 = .ok (.getfield 9, 3) := by decide +kernel
theorem dX1_startAnew_31 : decode cX1_startAnew 31 = .ok (.iconst 1, 1) := by decide +kernel
theorem dX1_startAnew_32 : decode cX1_startAnew 32 = .ok (.iconst 1, 1) := by decide +kernel
theorem dX1_startAnew_33 : decode cX1_startAnew 33 = .ok (.iastore, 1) := by decide +kernel
theorem dX1_startAnew_34 : decode cX1_startAnew 34 = .ok (.aload_n 0, 1) := by decide +kernel
theorem dX1_startAnew_35 : decode cX1_startAnew 35 = .ok (.getfield 9, 3) := by decide +kernel
theorem dX1_startAnew_38 : decode cX1_startAnew 38 = .ok (.iconst 2, 1) := by decide +kernel
theorem dX1_startAnew_39 : decode cX1_startAnew 39 = .ok (.iconst 3, 1) := by decide +kernel
theorem dX1_startAnew_40 : decode cX1_startAnew 40 = .ok (.iastore, 1) := by decide +kernel
theorem dX1_startAnew_41 : decode cX1_startAnew 41 = .ok (.aload_n 0, 1) := by decide +kernel
theorem dX1_startAnew_42 : decode cX1_startAnew 42 = .ok (.getfield 9, 3) := by decide +kernel
theorem dX1_startAnew_45 : decode cX1_startAnew 45 = .ok (.iconst 3, 1) := by decide +kernel
theorem dX1_startAnew_46 : decode cX1_startAnew 46 = .ok (.iconst 1, 1) := by decide +kernel
theorem dX1_startAnew_47 : decode cX1_startAnew 47 = .ok (.iastore, 1) := by decide +kernel
theorem dX1_startAnew_48 : decode cX1_startAnew 48 = .ok (.return_, 1) := by decide +kernel
theorem plX1_31 : PL RX1 31 1 0 .int := ⟨_, _, _, rfl, by decide, uwX1, Or.inl (tb_mem (t_in1 (List.mem_of_getElem? (i := 106) (by decide +kernel))) (by decide +kernel)), rfl, by decide +kernel, tyX1, tyX1_ok, nmX1⟩
theorem plX1_35 : PL RX1 35 1 1 .int := ⟨_, _, _, rfl, by decide, uwX1, Or.inl (tb_mem (t_in1 (List.mem_of_getElem? (i := 112) (by decide +kernel))) (by decide +kernel)), rfl, by decide +kernel, tyX1, tyX1_ok, nmX1⟩
theorem plX1_38 : PL RX1 38 1 3 .int := ⟨_, _, _, rfl, by decide, uwX1, Or.inl (tb_mem (t_in1 (List.mem_of_getElem? (i := 119) (by decide +kernel))) (by decide +kernel)), rfl, by decide +kernel, tyX1, tyX1_ok, nmX1⟩
theorem plX1_41 : PL RX1 41 1 7 .int := ⟨_, _, _, rfl, by decide, uwX1, Or.inl (tb_mem (t_in1 (List.mem_of_getElem? (i := 132) (by decide +kernel))) (by decide +kernel)), rfl, by decide +kernel, tyX1, tyX1_ok, nmX1⟩
theorem flX1_9 : FL RX1 9 1 2 := ⟨_, _, _, rfl, by decide, uwX1, Or.inl (tb_mem (t_in1 (List.mem_of_getElem? (i := 116) (by decide +kernel))) (by decide +kernel))⟩
set_option maxHeartbeats 4000000 in
set_option maxRecDepth 20000 in
theorem sgX1_startAnew_0 {κ : Kx} {K : Kont} {M : Mem} (C : Cx κ RX1 cX1_startAnew 1 none rmX1_startAnew domC) (i0 : Int)
    (h :
    ∀ M2 : Mem, M2 = up3 M 5 i0 0 0 →
    ∀ M7 : Mem, M7 = up3 M2 5 i0 1 1 →
    ∀ M12 : Mem, M12 = up3 M7 5 i0 3 0 →
    ∀ M17 : Mem, M17 = up3 M12 5 i0 7 0 →
    ∀ M26 : Mem, M26 = up3 M17 6 i0 0 2 →
    ∀ M33 : Mem, M33 = up3 M26 6 i0 1 1 →
    ∀ M40 : Mem, M40 = up3 M33 6 i0 2 3 →
    ∀ M47 : Mem, M47 = up3 M40 6 i0 3 1 →
    K none M47) : V κ 1 M 0 [some (.inr (5, i0))] [] K := by
  refine v_aload_n C dX1_startAnew_0 rfl ?_
  refine v_iconst C dX1_startAnew_1 (by decide) ?_
  refine v_put C dX1_startAnew_2 plX1_31 rfl (by decide) (by decide) rfl rfl rfl ?_
  refine v_nmM (fun M2 eM2 => ?_)
  replace h := h M2 eM2
  refine v_aload_n C dX1_startAnew_5 rfl ?_
  refine v_iconst C dX1_startAnew_6 (by decide) ?_
  refine v_put C dX1_startAnew_7 plX1_35 rfl (by decide) (by decide) rfl rfl rfl ?_
  refine v_nmM (fun M7 eM7 => ?_)
  replace h := h M7 eM7
  refine v_aload_n C dX1_startAnew_10 rfl ?_
  refine v_iconst C dX1_startAnew_11 (by decide) ?_
  refine v_put C dX1_startAnew_12 plX1_38 rfl (by decide) (by decide) rfl rfl rfl ?_
  refine v_nmM (fun M12 eM12 => ?_)
  replace h := h M12 eM12
  refine v_aload_n C dX1_startAnew_15 rfl ?_
  refine v_iconst C dX1_startAnew_16 (by decide) ?_
  refine v_put C dX1_startAnew_17 plX1_41 rfl (by decide) (by decide) rfl rfl rfl ?_
  refine v_nmM (fun M17 eM17 => ?_)
  replace h := h M17 eM17
  refine v_aload_n C dX1_startAnew_20 rfl ?_
  refine v_get C dX1_startAnew_21 flX1_9 rfl (by decide) (by decide) (w := .inr (6, i0)) rfl ?_
  refine v_iconst C dX1_startAnew_24 (by decide) ?_
  refine v_iconst C dX1_startAnew_25 (by decide) ?_
  refine v_iast C dX1_startAnew_26 rfl (by decide) (by decide) ?_
  refine v_nmM (fun M26 eM26 => ?_)
  replace h := h M26 eM26
  refine v_aload_n C dX1_startAnew_27 rfl ?_
  refine v_get C dX1_startAnew_28 flX1_9 rfl (by decide) (by decide) (w := .inr (6, i0)) rfl ?_
  refine v_iconst C dX1_startAnew_31 (by decide) ?_
  refine v_iconst C dX1_startAnew_32 (by decide) ?_
  refine v_iast C dX1_startAnew_33 rfl (by decide) (by decide) ?_
  refine v_nmM (fun M33 eM33 => ?_)
  replace h := h M33 eM33
  refine v_aload_n C dX1_startAnew_34 rfl ?_
  refine v_get C dX1_startAnew_35 flX1_9 rfl (by decide) (by decide) (w := .inr (6, i0)) rfl ?_
  refine v_iconst C dX1_startAnew_38 (by decide) ?_
  refine v_iconst C dX1_startAnew_39 (by decide) ?_
  refine v_iast C dX1_startAnew_40 rfl (by decide) (by decide) ?_
  refine v_nmM (fun M40 eM40 => ?_)
  replace h := h M40 eM40
  refine v_aload_n C dX1_startAnew_41 rfl ?_
  refine v_get C dX1_startAnew_42 flX1_9 rfl (by decide) (by decide) (w := .inr (6, i0)) rfl ?_
  refine v_iconst C dX1_startAnew_45 (by decide) ?_
  refine v_iconst C dX1_startAnew_46 (by decide) ?_
  refine v_iast C dX1_startAnew_47 rfl (by decide) (by decide) ?_
  refine v_nmM (fun M47 eM47 => ?_)
  replace h := h M47 eM47
  exact v_vret C dX1_startAnew_48 h
abbrev spX1_startAnew (f : Int) (M : Mem) (K : Kont) : Prop := ∀ M', AgM M M' f → cFilm M' f = sF0 (cFilm M f) → K none M'
theorem ctX1_startAnew : CtX1_startAnew spX1_startAnew := by
  refine ct_of (by decide) dmC (fun _ => Nat.le_of_ble_eq_true rfl) ?_
  intro κ f M K C oM h
  refine sgX1_startAnew_0 C f (fun M1 e1 M2 e2 M3 e3 M4 e4 M5 e5 M6 e6 M7 e7 M8 e8 => h M8 ?_ ?_)
  · rw [e8, e7, e6, e5, e4, e3, e2, e1]
    exact (((((((AgM.rf.up1 (by decide) _ _).up1 (by decide) _ _).up1 (by decide) _ _).up1 (by decide) _ _).up1 (by decide) _ _).up1 (by decide) _ _).up1 (by decide) _ _).up1 (by decide) _ _
  · funext t a b
    rw [e8, e7, e6, e5, e4, e3, e2, e1]
    unfold cFilm sF0
    split <;> simp [up3]
    by_cases h3 : a = 3
    · subst h3; simp
    · by_cases h2 : a = 2
      · subst h2; simp
      · by_cases h1 : a = 1
        · subst h1; simp
        · simp [h1, h2, h3]
/-! ===== GapTellings$Film.addSound ===== -/
abbrev rmX1_addSound : Room := { frames := 0, cells := 0, slots := 0, locals := 0 }
abbrev argX1_addSound (a : Int × Int × Int × Int) : List PV := [.inr (5, a.1), .inl a.2.1, .inl a.2.2.1, .inl a.2.2.2]
abbrev CtX1_addSound (sp : Int → Int → Int → Int → Mem → Kont → Prop) : Prop := Ct yX1_addSound cX1_addSound 4 none rmX1_addSound domC argX1_addSound (fun a => sp a.1 a.2.1 a.2.2.1 a.2.2.2)
theorem dX1_addSound_0 : decode cX1_addSound 0 = .ok (.aload_n 0, 1) := by decide +kernel
theorem dX1_addSound_1 : decode cX1_addSound 1 = .ok (.getfield 38, 3) := by decide +kernel
theorem dX1_addSound_4 : decode cX1_addSound 4 = .ok (.bipush 12, 2) := by decide +kernel
theorem dX1_addSound_6 : decode cX1_addSound 6 = .ok (.if_icmp .ge 43, 3) := by decide +kernel
theorem dX1_addSound_9 : decode cX1_addSound 9 = .ok (.aload_n 0, 1) := by decide +kernel
theorem dX1_addSound_10 : decode cX1_addSound 10 = .ok (.getfield 15, 3) := by decide +kernel
theorem dX1_addSound_13 : decode cX1_addSound 13 = .ok (.aload_n 0, 1) := by decide +kernel
theorem dX1_addSound_14 : decode cX1_addSound 14 = .ok (.getfield 38, 3) := by decide +kernel
theorem dX1_addSound_17 : decode cX1_addSound 17 = .ok (.iload_n 1, 1) := by decide +kernel
theorem dX1_addSound_18 : decode cX1_addSound 18 = .ok (.iastore, 1) := by decide +kernel
theorem dX1_addSound_19 : decode cX1_addSound 19 = .ok (.aload_n 0, 1) := by decide +kernel
theorem dX1_addSound_20 : decode cX1_addSound 20 = .ok (.getfield 18, 3) := by decide +kernel
theorem dX1_addSound_23 : decode cX1_addSound 23 = .ok (.aload_n 0, 1) := by decide +kernel
theorem dX1_addSound_24 : decode cX1_addSound 24 = .ok (.getfield 38, 3) := by decide +kernel
theorem dX1_addSound_27 : decode cX1_addSound 27 = .ok (.iload_n 2, 1) := by decide +kernel
theorem dX1_addSound_28 : decode cX1_addSound 28 = .ok (.iastore, 1) := by decide +kernel
theorem dX1_addSound_29 : decode cX1_addSound 29 = .ok (.aload_n 0, 1) := by decide +kernel
theorem dX1_addSound_30 : decode cX1_addSound 30 = .ok (.getfield 21, 3) := by decide +kernel
theorem dX1_addSound_33 : decode cX1_addSound 33 = .ok (.aload_n 0, 1) := by decide +kernel
theorem dX1_addSound_34 : decode cX1_addSound 34 = .ok (.getfield 38, 3) := by decide +kernel
theorem dX1_addSound_37 : decode cX1_addSound 37 = .ok (.iload_n 3, 1) := by decide +kernel
theorem dX1_addSound_38 : decode cX1_addSound 38 = .ok (.iastore, 1) := by decide +kernel
theorem dX1_addSound_39 : decode cX1_addSound 39 = .ok (.aload_n 0, 1) := by decide +kernel
theorem dX1_addSound_40 : decode cX1_addSound 40 = .ok (.dup, 1) := by decide +kernel
theorem dX1_addSound_41 : decode cX1_addSound 41 = .ok (.getfield 38, 3) := by decide +kernel
theorem dX1_addSound_44 : decode cX1_addSound 44 = .ok (.iconst 1, 1) := by decide +kernel
theorem dX1_addSound_45 : decode cX1_addSound 45 = .ok (.iadd, 1) := by decide +kernel
theorem dX1_addSound_46 : decode cX1_addSound 46 = .ok (.putfield 38, 3) := by decide +kernel
theorem dX1_addSound_49 : decode cX1_addSound 49 = .ok (.return_, 1) := by decide +kernel
theorem flX1_38 : FL RX1 38 1 3 := ⟨_, _, _, rfl, by decide, uwX1, Or.inl (tb_mem (t_in1 (List.mem_of_getElem? (i := 119) (by decide +kernel))) (by decide +kernel))⟩
theorem flX1_15 : FL RX1 15 1 4 := ⟨_, _, _, rfl, by decide, uwX1, Or.inl (tb_mem (t_in1 (List.mem_of_getElem? (i := 123) (by decide +kernel))) (by decide +kernel))⟩
theorem flX1_18 : FL RX1 18 1 5 := ⟨_, _, _, rfl, by decide, uwX1, Or.inl (tb_mem (t_in1 (List.mem_of_getElem? (i := 125) (by decide +kernel))) (by decide +kernel))⟩
theorem flX1_21 : FL RX1 21 1 6 := ⟨_, _, _, rfl, by decide, uwX1, Or.inl (tb_mem (t_in1 (List.mem_of_getElem? (i := 128) (by decide +kernel))) (by decide +kernel))⟩
set_option maxHeartbeats 4000000 in
set_option maxRecDepth 20000 in
theorem sgX1_addSound_0 {κ : Kx} {K : Kont} {M : Mem} (C : Cx κ RX1 cX1_addSound 4 none rmX1_addSound domC) (i0 : Int) (x1 : Int) (x2 : Int) (x3 : Int)
    (h :
    ((12 ≤ (M 5 i0 3) →
      K none M) ∧
     (¬ (12 ≤ (M 5 i0 3)) →
      (0 ≤ (M 5 i0 3) ∧ (M 5 i0 3) < 12) ∧
      ∀ M18 : Mem, M18 = up3 M 7 i0 (M 5 i0 3) x1 →
      (0 ≤ (M18 5 i0 3) ∧ (M18 5 i0 3) < 12) ∧
      ∀ M28 : Mem, M28 = up3 M18 8 i0 (M18 5 i0 3) x2 →
      (0 ≤ (M28 5 i0 3) ∧ (M28 5 i0 3) < 12) ∧
      ∀ M38 : Mem, M38 = up3 M28 9 i0 (M28 5 i0 3) x3 →
      inR ((M38 5 i0 3) + 1) ∧
      ∀ M46 : Mem, M46 = up3 M38 5 i0 3 ((M38 5 i0 3) + 1) →
      K none M46))) : V κ 4 M 0 [some (.inr (5, i0)), some (.inl x1), some (.inl x2), some (.inl x3)] [] K := by
  refine v_aload_n C dX1_addSound_0 rfl ?_
  refine v_get C dX1_addSound_1 flX1_38 rfl (by decide) (by decide) (w := .inl (M 5 i0 3)) rfl ?_
  refine v_bipush C dX1_addSound_4 (by decide) (by decide) ?_
  refine v_icmp C dX1_addSound_6 (tgt := 49) (by decide) (P := 12 ≤ (M 5 i0 3)) rfl (fun c6 => ?_) (fun c6 => ?_)
  · replace h := h.1 c6
    exact v_vret C dX1_addSound_49 h
  · replace h := h.2 c6
    refine v_aload_n C dX1_addSound_9 rfl ?_
    refine v_get C dX1_addSound_10 flX1_15 rfl (by decide) (by decide) (w := .inr (7, i0)) rfl ?_
    refine v_aload_n C dX1_addSound_13 rfl ?_
    refine v_get C dX1_addSound_14 flX1_38 rfl (by decide) (by decide) (w := .inl (M 5 i0 3)) rfl ?_
    refine v_iload_n C dX1_addSound_17 rfl ?_
    refine v_iast C dX1_addSound_18 rfl h.1.1 h.1.2 ?_
    replace h := h.2
    refine v_nmM (fun M18 eM18 => ?_)
    replace h := h M18 eM18
    refine v_aload_n C dX1_addSound_19 rfl ?_
    refine v_get C dX1_addSound_20 flX1_18 rfl (by decide) (by decide) (w := .inr (8, i0)) rfl ?_
    refine v_aload_n C dX1_addSound_23 rfl ?_
    refine v_get C dX1_addSound_24 flX1_38 rfl (by decide) (by decide) (w := .inl (M18 5 i0 3)) rfl ?_
    refine v_iload_n C dX1_addSound_27 rfl ?_
    refine v_iast C dX1_addSound_28 rfl h.1.1 h.1.2 ?_
    replace h := h.2
    refine v_nmM (fun M28 eM28 => ?_)
    replace h := h M28 eM28
    refine v_aload_n C dX1_addSound_29 rfl ?_
    refine v_get C dX1_addSound_30 flX1_21 rfl (by decide) (by decide) (w := .inr (9, i0)) rfl ?_
    refine v_aload_n C dX1_addSound_33 rfl ?_
    refine v_get C dX1_addSound_34 flX1_38 rfl (by decide) (by decide) (w := .inl (M28 5 i0 3)) rfl ?_
    refine v_iload_n C dX1_addSound_37 rfl ?_
    refine v_iast C dX1_addSound_38 rfl h.1.1 h.1.2 ?_
    replace h := h.2
    refine v_nmM (fun M38 eM38 => ?_)
    replace h := h M38 eM38
    refine v_aload_n C dX1_addSound_39 rfl ?_
    refine v_dup C dX1_addSound_40 ?_
    refine v_get C dX1_addSound_41 flX1_38 rfl (by decide) (by decide) (w := .inl (M38 5 i0 3)) rfl ?_
    refine v_iconst C dX1_addSound_44 (by decide) ?_
    refine v_iadd C dX1_addSound_45 h.1 ?_
    replace h := h.2
    refine v_put C dX1_addSound_46 plX1_38 rfl (by decide) (by decide) rfl rfl rfl ?_
    refine v_nmM (fun M46 eM46 => ?_)
    replace h := h M46 eM46
    exact v_vret C dX1_addSound_49 h
abbrev spX1_addSound (f k x y : Int) (M : Mem) (K : Kont) : Prop := (0 ≤ M 5 f 3 ∧ M 5 f 3 < 12) ∧ ∀ M', AgM M M' f → cFilm M' f = sFS (cFilm M f) k x y → K none M'
theorem ctX1_addSound : CtX1_addSound spX1_addSound := by
  refine ct_of (by decide) dmC (fun _ => Nat.le_of_ble_eq_true rfl) ?_
  intro κ a M K C oM h
  obtain ⟨f, k, x, y⟩ := a
  dsimp only [spX1_addSound] at h
  obtain ⟨hn, hk⟩ := h
  refine sgX1_addSound_0 C f k x y ⟨fun c => absurd c (by omega), fun c => ⟨by omega, fun M1 e1 => ?_⟩⟩
  have n1 : M1 5 f 3 = M 5 f 3 := by rw [e1, up3_r _ _ _ _ _ (by decide)]
  refine ⟨by omega, fun M2 e2 => ?_⟩
  have n2 : M2 5 f 3 = M 5 f 3 := by rw [e2, up3_r _ _ _ _ _ (by decide), n1]
  refine ⟨by omega, fun M3 e3 => ?_⟩
  have n3 : M3 5 f 3 = M 5 f 3 := by rw [e3, up3_r _ _ _ _ _ (by decide), n2]
  refine ⟨by omega, fun M4 e4 => hk M4 ?_ ?_⟩
  · rw [e4, e3, e2, e1]
    exact (((AgM.rf.up1 (by decide) _ _).up1 (by decide) _ _).up1 (by decide) _ _).up1 (by decide) _ _
  · funext t a b
    rw [e4, n3, e3, n2, e2, n1, e1]
    unfold cFilm sFS
    split <;> simp [up3]
    simp_all
/-! ===== GapTellings$Film.dropSound ===== -/
abbrev rmX1_dropSound : Room := { frames := 0, cells := 0, slots := 0, locals := 0 }
abbrev argX1_dropSound (a : Int × Int) : List PV := [.inr (5, a.1), .inl a.2]
abbrev CtX1_dropSound (sp : Int → Int → Mem → Kont → Prop) : Prop := Ct yX1_dropSound cX1_dropSound 3 none rmX1_dropSound domC argX1_dropSound (fun a => sp a.1 a.2)
theorem dX1_dropSound_0 : decode cX1_dropSound 0 = .ok (.aload_n 0, 1) := by decide +kernel
theorem dX1_dropSound_1 : decode cX1_dropSound 1 = .ok (.dup, 1) := by decide +kernel
theorem dX1_dropSound_2 : decode cX1_dropSound 2 = .ok (.getfield 38, 3) := by decide +kernel
theorem dX1_dropSound_5 : decode cX1_dropSound 5 = .ok (.iconst 1, 1) := by decide +kernel
theorem dX1_dropSound_6 : decode cX1_dropSound 6 = .ok (.isub, 1) := by decide +kernel
theorem dX1_dropSound_7 : decode cX1_dropSound 7 = .ok (.putfield 38, 3) := by decide +kernel
theorem dX1_dropSound_10 : decode cX1_dropSound 10 = .ok (.iload_n 1, 1) := by decide +kernel
theorem dX1_dropSound_11 : decode cX1_dropSound 11 = .ok (.istore_n 2, 1) := by decide +kernel
theorem dX1_dropSound_12 : decode cX1_dropSound 12 = .ok (.iload_n 2, 1) := by decide +kernel
theorem dX1_dropSound_13 : decode cX1_dropSound 13 = .ok (.aload_n 0, 1) := by decide +kernel
theorem dX1_dropSound_14 : decode cX1_dropSound 14 = .ok (.getfield 38, 3) := by decide +kernel
theorem dX1_dropSound_17 : decode cX1_dropSound 17 = .ok (.if_icmp .ge 51, 3) := by decide +kernel
theorem dX1_dropSound_20 : decode cX1_dropSound 20 = .ok (.aload_n 0, 1) := by decide +kernel
theorem dX1_dropSound_21 : decode cX1_dropSound 21 = .ok (.getfield 15, 3) := by decide +kernel
theorem dX1_dropSound_24 : decode cX1_dropSound 24 = .ok (.iload_n 2, 1) := by decide +kernel
theorem dX1_dropSound_25 : decode cX1_dropSound 25 = .ok (.aload_n 0, 1) := by decide +kernel
theorem dX1_dropSound_26 : decode cX1_dropSound 26 = .ok (.getfield 15, 3) := by decide +kernel
theorem dX1_dropSound_29 : decode cX1_dropSound 29 = .ok (.iload_n 2, 1) := by decide +kernel
theorem dX1_dropSound_30 : decode cX1_dropSound 30 = .ok (.iconst 1, 1) := by decide +kernel
theorem dX1_dropSound_31 : decode cX1_dropSound 31 = .ok (.iadd, 1) := by decide +kernel
theorem dX1_dropSound_32 : decode cX1_dropSound 32 = .ok (.iaload, 1) := by decide +kernel
theorem dX1_dropSound_33 : decode cX1_dropSound 33 = .ok (.iastore, 1) := by decide +kernel
theorem dX1_dropSound_34 : decode cX1_dropSound 34 = .ok (.aload_n 0, 1) := by decide +kernel
theorem dX1_dropSound_35 : decode cX1_dropSound 35 = .ok (.getfield 18, 3) := by decide +kernel
theorem dX1_dropSound_38 : decode cX1_dropSound 38 = .ok (.iload_n 2, 1) := by decide +kernel
theorem dX1_dropSound_39 : decode cX1_dropSound 39 = .ok (.aload_n 0, 1) := by decide +kernel
theorem dX1_dropSound_40 : decode cX1_dropSound 40 = .ok (.getfield 18, 3) := by decide +kernel
theorem dX1_dropSound_43 : decode cX1_dropSound 43 = .ok (.iload_n 2, 1) := by decide +kernel
theorem dX1_dropSound_44 : decode cX1_dropSound 44 = .ok (.iconst 1, 1) := by decide +kernel
theorem dX1_dropSound_45 : decode cX1_dropSound 45 = .ok (.iadd, 1) := by decide +kernel
theorem dX1_dropSound_46 : decode cX1_dropSound 46 = .ok (.iaload, 1) := by decide +kernel
theorem dX1_dropSound_47 : decode cX1_dropSound 47 = .ok (.iastore, 1) := by decide +kernel
theorem dX1_dropSound_48 : decode cX1_dropSound 48 = .ok (.aload_n 0, 1) := by decide +kernel
theorem dX1_dropSound_49 : decode cX1_dropSound 49 = .ok (.getfield 21, 3) := by decide +kernel
theorem dX1_dropSound_52 : decode cX1_dropSound 52 = .ok (.iload_n 2, 1) := by decide +kernel
theorem dX1_dropSound_53 : decode cX1_dropSound 53 = .ok (.aload_n 0, 1) := by decide +kernel
theorem dX1_dropSound_54 : decode cX1_dropSound 54 = .ok (.getfield 21, 3) := by decide +kernel
theorem dX1_dropSound_57 : decode cX1_dropSound 57 = .ok (.iload_n 2, 1) := by decide +kernel
theorem dX1_dropSound_58 : decode cX1_dropSound 58 = .ok (.iconst 1, 1) := by decide +kernel
theorem dX1_dropSound_59 : decode cX1_dropSound 59 = .ok (.iadd, 1) := by decide +kernel
theorem dX1_dropSound_60 : decode cX1_dropSound 60 = .ok (.iaload, 1) := by decide +kernel
theorem dX1_dropSound_61 : decode cX1_dropSound 61 = .ok (.iastore, 1) := by decide +kernel
theorem dX1_dropSound_62 : decode cX1_dropSound 62 = .ok (.iinc 2 1, 3) := by decide +kernel
theorem dX1_dropSound_65 : decode cX1_dropSound 65 = .ok (.goto (-53), 3) := by decide +kernel
theorem dX1_dropSound_68 : decode cX1_dropSound 68 = .ok (.return_, 1) := by decide +kernel
set_option maxHeartbeats 4000000 in
set_option maxRecDepth 20000 in
theorem sgX1_dropSound_0 {κ : Kx} {K : Kont} {M : Mem} (C : Cx κ RX1 cX1_dropSound 3 none rmX1_dropSound domC) (i0 : Int) (x1 : Int)
    (h :
    inR ((M 5 i0 3) - 1) ∧
    ∀ M7 : Mem, M7 = up3 M 5 i0 3 ((M 5 i0 3) - 1) →
    V κ 3 M7 12 [some (.inr (5, i0)), none, some (.inl x1)] [] K) : V κ 3 M 0 [some (.inr (5, i0)), some (.inl x1), none] [] K := by
  refine v_aload_n C dX1_dropSound_0 rfl ?_
  refine v_dup C dX1_dropSound_1 ?_
  refine v_get C dX1_dropSound_2 flX1_38 rfl (by decide) (by decide) (w := .inl (M 5 i0 3)) rfl ?_
  refine v_iconst C dX1_dropSound_5 (by decide) ?_
  refine v_isub C dX1_dropSound_6 h.1 ?_
  replace h := h.2
  refine v_put C dX1_dropSound_7 plX1_38 rfl (by decide) (by decide) rfl rfl rfl ?_
  refine v_nmM (fun M7 eM7 => ?_)
  replace h := h M7 eM7
  refine v_iload_n C dX1_dropSound_10 rfl ?_
  refine v_istore_n C dX1_dropSound_11 (by decide) (Nat.le_of_ble_eq_true rfl) (lv' := [some (.inr (5, i0)), some (.inl x1), some (.inl x1)]) rfl ?_
  refine v_weak [some (.inr (5, i0)), none, some (.inl x1)] ⟨rfl, rfl, trivial⟩ ?_
  exact h
set_option maxHeartbeats 4000000 in
set_option maxRecDepth 20000 in
theorem sgX1_dropSound_12 {κ : Kx} {K : Kont} {M : Mem} (C : Cx κ RX1 cX1_dropSound 3 none rmX1_dropSound domC) (i0 : Int) (x2 : Int)
    (h :
    (((M 5 i0 3) ≤ x2 →
      K none M) ∧
     (¬ ((M 5 i0 3) ≤ x2) →
      inR (x2 + 1) ∧
      (0 ≤ (x2 + 1) ∧ (x2 + 1) < 12) ∧
      (0 ≤ x2 ∧ x2 < 12) ∧
      ∀ M33 : Mem, M33 = up3 M 7 i0 x2 (M 7 i0 (x2 + 1)) →
      inR (x2 + 1) ∧
      (0 ≤ (x2 + 1) ∧ (x2 + 1) < 12) ∧
      (0 ≤ x2 ∧ x2 < 12) ∧
      ∀ M47 : Mem, M47 = up3 M33 8 i0 x2 (M33 8 i0 (x2 + 1)) →
      inR (x2 + 1) ∧
      (0 ≤ (x2 + 1) ∧ (x2 + 1) < 12) ∧
      (0 ≤ x2 ∧ x2 < 12) ∧
      ∀ M61 : Mem, M61 = up3 M47 9 i0 x2 (M47 9 i0 (x2 + 1)) →
      inR (x2 + 1) ∧
      V κ 3 M61 12 [some (.inr (5, i0)), none, some (.inl (x2 + 1))] [] K))) : V κ 3 M 12 [some (.inr (5, i0)), none, some (.inl x2)] [] K := by
  refine v_iload_n C dX1_dropSound_12 rfl ?_
  refine v_aload_n C dX1_dropSound_13 rfl ?_
  refine v_get C dX1_dropSound_14 flX1_38 rfl (by decide) (by decide) (w := .inl (M 5 i0 3)) rfl ?_
  refine v_icmp C dX1_dropSound_17 (tgt := 68) (by decide) (P := (M 5 i0 3) ≤ x2) rfl (fun c17 => ?_) (fun c17 => ?_)
  · replace h := h.1 c17
    exact v_vret C dX1_dropSound_68 h
  · replace h := h.2 c17
    refine v_aload_n C dX1_dropSound_20 rfl ?_
    refine v_get C dX1_dropSound_21 flX1_15 rfl (by decide) (by decide) (w := .inr (7, i0)) rfl ?_
    refine v_iload_n C dX1_dropSound_24 rfl ?_
    refine v_aload_n C dX1_dropSound_25 rfl ?_
    refine v_get C dX1_dropSound_26 flX1_15 rfl (by decide) (by decide) (w := .inr (7, i0)) rfl ?_
    refine v_iload_n C dX1_dropSound_29 rfl ?_
    refine v_iconst C dX1_dropSound_30 (by decide) ?_
    refine v_iadd C dX1_dropSound_31 h.1 ?_
    replace h := h.2
    refine v_iald C dX1_dropSound_32 rfl h.1.1 h.1.2 ?_
    replace h := h.2
    refine v_iast C dX1_dropSound_33 rfl h.1.1 h.1.2 ?_
    replace h := h.2
    refine v_nmM (fun M33 eM33 => ?_)
    replace h := h M33 eM33
    refine v_aload_n C dX1_dropSound_34 rfl ?_
    refine v_get C dX1_dropSound_35 flX1_18 rfl (by decide) (by decide) (w := .inr (8, i0)) rfl ?_
    refine v_iload_n C dX1_dropSound_38 rfl ?_
    refine v_aload_n C dX1_dropSound_39 rfl ?_
    refine v_get C dX1_dropSound_40 flX1_18 rfl (by decide) (by decide) (w := .inr (8, i0)) rfl ?_
    refine v_iload_n C dX1_dropSound_43 rfl ?_
    refine v_iconst C dX1_dropSound_44 (by decide) ?_
    refine v_iadd C dX1_dropSound_45 h.1 ?_
    replace h := h.2
    refine v_iald C dX1_dropSound_46 rfl h.1.1 h.1.2 ?_
    replace h := h.2
    refine v_iast C dX1_dropSound_47 rfl h.1.1 h.1.2 ?_
    replace h := h.2
    refine v_nmM (fun M47 eM47 => ?_)
    replace h := h M47 eM47
    refine v_aload_n C dX1_dropSound_48 rfl ?_
    refine v_get C dX1_dropSound_49 flX1_21 rfl (by decide) (by decide) (w := .inr (9, i0)) rfl ?_
    refine v_iload_n C dX1_dropSound_52 rfl ?_
    refine v_aload_n C dX1_dropSound_53 rfl ?_
    refine v_get C dX1_dropSound_54 flX1_21 rfl (by decide) (by decide) (w := .inr (9, i0)) rfl ?_
    refine v_iload_n C dX1_dropSound_57 rfl ?_
    refine v_iconst C dX1_dropSound_58 (by decide) ?_
    refine v_iadd C dX1_dropSound_59 h.1 ?_
    replace h := h.2
    refine v_iald C dX1_dropSound_60 rfl h.1.1 h.1.2 ?_
    replace h := h.2
    refine v_iast C dX1_dropSound_61 rfl h.1.1 h.1.2 ?_
    replace h := h.2
    refine v_nmM (fun M61 eM61 => ?_)
    replace h := h M61 eM61
    refine v_iinc C dX1_dropSound_62 (by decide) rfl h.1 (lv' := [some (.inr (5, i0)), none, some (.inl (x2 + 1))]) rfl ?_
    replace h := h.2
    refine v_goto C dX1_dropSound_65 (tgt := 12) (by decide) ?_
    refine v_weak [some (.inr (5, i0)), none, some (.inl (x2 + 1))] ⟨rfl, rfl, trivial⟩ ?_
    exact h
def dpF (F : Film) (s : Int) : Film := fun t a b => if t = 2 then F 2 0 0 - 1 else if (t = 5 ∨ t = 6 ∨ t = 7) ∧ s ≤ a ∧ a < F 2 0 0 - 1 then F t (a + 1) b else F t a b
abbrev spX1_dropSound (f s : Int) (M : Mem) (K : Kont) : Prop := (0 ≤ s ∧ s < M 5 f 3 ∧ M 5 f 3 ≤ 12) ∧ ∀ M', AgM M M' f → cFilm M' f = dpF (cFilm M f) s → K none M'
theorem ctX1_dropSound : CtX1_dropSound spX1_dropSound := by
  refine ct_of (by decide) dmC (fun _ => Nat.le_of_ble_eq_true rfl) ?_
  intro κ a M K C oM h
  obtain ⟨f, s⟩ := a
  dsimp only [spX1_dropSound] at h
  obtain ⟨hn, hk⟩ := h
  have loop : ∀ (n : Nat) (x : Int) (N : Mem), s ≤ x → x + n = M 5 f 3 - 1 → AgM M N f → N 5 f 3 = M 5 f 3 - 1 → (∀ r j, r ≠ 7 → r ≠ 8 → r ≠ 9 → ¬ (r = 5 ∧ j = 3) → N r f j = M r f j) → (∀ i, ∀ r, 11 ≤ r → N r i = M r i) → (∀ r a, r = 7 ∨ r = 8 ∨ r = 9 → N r f a = if s ≤ a ∧ a < x then M r f (a + 1) else M r f a) →
      V κ 3 N 12 [some (.inr (5, f)), none, some (.inl x)] [] K := by
    intro n
    induction n with
    | zero =>
      intro x N hx hn2 hA h5 ho h11 hr
      refine sgX1_dropSound_12 C f x ⟨fun c => hk N hA ?_, fun c => absurd (by omega) c⟩
      have ex : x = M 5 f 3 - 1 := by omega
      subst ex
      funext t a b
      unfold cFilm dpF
      split
      · simp [ho 5 0 (by decide) (by decide) (by decide) (by decide)]
      · simp [ho 5 1 (by decide) (by decide) (by decide) (by decide)]
      · simp [h5]
      · simp [ho 5 7 (by decide) (by decide) (by decide) (by decide)]
      · simp [ho 6 a (by decide) (by decide) (by decide) (fun z => absurd z.1 (by decide))]
      · simp [hr 7 a (by decide)]
      · simp [hr 8 a (by decide)]
      · simp [hr 9 a (by decide)]
      all_goals first | (simp [h11]; done) | simp_all
    | succ n ih =>
      intro x N hx hn2 hA h5 ho h11 hr
      refine sgX1_dropSound_12 C f x ⟨fun c => absurd c (by omega), fun c => ⟨by omega, by omega, by omega, fun N1 e1 => ⟨by omega, by omega, by omega, fun N2 e2 => ⟨by omega, by omega, by omega, fun N3 e3 => ⟨by omega, ?_⟩⟩⟩⟩⟩
      have a8 : N1 8 f (x + 1) = N 8 f (x + 1) := by rw [e1, up3_r _ _ _ _ _ (by decide)]
      have a9 : N2 9 f (x + 1) = N 9 f (x + 1) := by rw [e2, up3_r _ _ _ _ _ (by decide), e1, up3_r _ _ _ _ _ (by decide)]
      rw [a8] at e2
      rw [a9] at e3
      have old : ∀ r, r ≠ 7 → r ≠ 8 → r ≠ 9 → ∀ i j, N3 r i j = N r i j := by
        intro r q7 q8 q9 i j
        rw [e3, up3_r _ _ _ _ _ q9, e2, up3_r _ _ _ _ _ q8, e1, up3_r _ _ _ _ _ q7]
      have v7 : ∀ j, N3 7 f j = if j = x then N 7 f (x + 1) else N 7 f j := by
        intro j
        rw [e3, up3_r _ _ _ _ _ (by decide), e2, up3_r _ _ _ _ _ (by decide), e1]
        by_cases e : j = x
        · rw [if_pos e, e, up3_s]
        · rw [if_neg e, up3_j _ _ _ _ _ e]
      have v8 : ∀ j, N3 8 f j = if j = x then N 8 f (x + 1) else N 8 f j := by
        intro j
        rw [e3, up3_r _ _ _ _ _ (by decide), e2]
        by_cases e : j = x
        · rw [if_pos e, e, up3_s]
        · rw [if_neg e, up3_j _ _ _ _ _ e, e1, up3_r _ _ _ _ _ (by decide)]
      have v9 : ∀ j, N3 9 f j = if j = x then N 9 f (x + 1) else N 9 f j := by
        intro j
        rw [e3]
        by_cases e : j = x
        · rw [if_pos e, e, up3_s]
        · rw [if_neg e, up3_j _ _ _ _ _ e, e2, up3_r _ _ _ _ _ (by decide), e1, up3_r _ _ _ _ _ (by decide)]
      refine ih (x + 1) N3 (by omega) (by omega) (by rw [e3, e2, e1]; exact ((hA.up1 (by decide) _ _).up1 (by decide) _ _).up1 (by decide) _ _) ?_ ?_ ?_ ?_
      · rw [old 5 (by decide) (by decide) (by decide)]
        exact h5
      · intro r j q7 q8 q9 q5
        rw [old r q7 q8 q9]
        exact ho r j q7 q8 q9 q5
      · intro i r q
        funext j
        rw [old r (by omega) (by omega) (by omega), h11 i r q]
      · intro r a q
        have fin : ∀ z, (z = if a = x then N r f (x + 1) else N r f a) → z = if s ≤ a ∧ a < x + 1 then M r f (a + 1) else M r f a := by
          intro z ez
          rw [ez, hr r (x + 1) q, hr r a q, if_neg (show ¬ (s ≤ x + 1 ∧ x + 1 < x) by omega)]
          by_cases e : a = x
          · rw [if_pos e, if_pos (by omega), e]
          · rw [if_neg e]
            by_cases e2 : s ≤ a ∧ a < x
            · rw [if_pos e2, if_pos (by omega)]
            · rw [if_neg e2, if_neg (by omega)]
        rcases q with q | q | q
        · subst q; exact fin _ (v7 a)
        · subst q; exact fin _ (v8 a)
        · subst q; exact fin _ (v9 a)
  refine sgX1_dropSound_0 C f s ⟨by omega, fun N eN => ?_⟩
  refine loop (M 5 f 3 - 1 - s).toNat s N (by omega) (by omega) (by rw [eN]; exact AgM.rf.up1 (by decide) _ _) (by rw [eN, up3_s]) ?_ ?_ ?_
  · intro r j q7 q8 q9 q5
    rw [eN]
    by_cases e : r = 5
    · subst e
      rw [up3_j _ _ _ _ _ (fun z => q5 ⟨rfl, z⟩)]
    · rw [up3_r _ _ _ _ _ e]
  · intro i r q
    funext j
    rw [eN, up3_r _ _ _ _ _ (by omega)]
  · intro r a q
    rw [if_neg (by omega), eN, up3_r _ _ _ _ _ (by omega)]
/-! ===== GapTellings$Film.allPictures ===== -/
abbrev rmX1_allPictures : Room := { frames := 0, cells := 0, slots := 0, locals := 0 }
abbrev argX1_allPictures (a : Int) : List PV := [.inr (5, a)]
abbrev CtX1_allPictures (sp : Int → Mem → Kont → Prop) : Prop := Ct yX1_allPictures cX1_allPictures 1 (some .int) rmX1_allPictures domC argX1_allPictures (fun a => sp a)
theorem dX1_allPictures_0 : decode cX1_allPictures 0 = .ok (.iconst 1, 1) := by decide +kernel
theorem dX1_allPictures_1 : decode cX1_allPictures 1 = .ok (.aload_n 0, 1) := by decide +kernel
theorem dX1_allPictures_2 : decode cX1_allPictures 2 = .ok (.getfield 41, 3) := by decide +kernel
theorem dX1_allPictures_5 : decode cX1_allPictures 5 = .ok (.ishl, 1) := by decide +kernel
theorem dX1_allPictures_6 : decode cX1_allPictures 6 = .ok (.iconst 1, 1) := by decide +kernel
theorem dX1_allPictures_7 : decode cX1_allPictures 7 = .ok (.isub, 1) := by decide +kernel
theorem dX1_allPictures_8 : decode cX1_allPictures 8 = .ok (.ireturn, 1) := by decide +kernel
theorem flX1_41 : FL RX1 41 1 7 := ⟨_, _, _, rfl, by decide, uwX1, Or.inl (tb_mem (t_in1 (List.mem_of_getElem? (i := 132) (by decide +kernel))) (by decide +kernel))⟩
set_option maxHeartbeats 4000000 in
set_option maxRecDepth 20000 in
theorem sgX1_allPictures_0 {κ : Kx} {K : Kont} {M : Mem} (C : Cx κ RX1 cX1_allPictures 1 (some .int) rmX1_allPictures domC) (i0 : Int)
    (h :
    inR ((bShl 1 (M 5 i0 7)) - 1) ∧
    K (some ((bShl 1 (M 5 i0 7)) - 1)) M) : V κ 1 M 0 [some (.inr (5, i0))] [] K := by
  refine v_iconst C dX1_allPictures_0 (by decide) ?_
  refine v_aload_n C dX1_allPictures_1 rfl ?_
  refine v_get C dX1_allPictures_2 flX1_41 rfl (by decide) (by decide) (w := .inl (M 5 i0 7)) rfl ?_
  refine v_ishl C dX1_allPictures_5 ?_
  refine v_iconst C dX1_allPictures_6 (by decide) ?_
  refine v_isub C dX1_allPictures_7 h.1 ?_
  replace h := h.2
  exact v_iret C dX1_allPictures_8 h
abbrev spX1_allPictures (f : Int) (M : Mem) (K : Kont) : Prop := (0 ≤ M 5 f 7 ∧ M 5 f 7 ≤ 7) ∧ K (some (bShl 1 (M 5 f 7) - 1)) M
theorem ctX1_allPictures : CtX1_allPictures spX1_allPictures := by
  refine ct_of (by decide) dmC (fun _ => Nat.le_of_ble_eq_true rfl) ?_
  intro κ f M K C oM h
  dsimp only [spX1_allPictures] at h
  have hw := shl_le7 (k := M 5 f 7) (by omega) (by omega)
  exact sgX1_allPictures_0 C f ⟨by omega, h.2⟩
/-! ===== GapTellings$Picture.start ===== -/
abbrev rmX3_start : Room := { frames := 0, cells := 0, slots := 0, locals := 0 }
abbrev argX3_start (a : Int × Int × Int × Int) : List PV := [.inr (11, a.1), .inl a.2.1, .inl a.2.2.1, .inl a.2.2.2]
abbrev CtX3_start (sp : Int → Int → Int → Int → Mem → Kont → Prop) : Prop := Ct yX3_start cX3_start 4 none rmX3_start domC argX3_start (fun a => sp a.1 a.2.1 a.2.2.1 a.2.2.2)
theorem dX3_start_0 : decode cX3_start 0 = .ok (.aload_n 0, 1) := by decide +kernel
theorem dX3_start_1 : decode cX3_start 1 = .ok (.iload_n 1, 1) := by decide +kernel
theorem dX3_start_2 : decode cX3_start 2 = .ok (.putfield 18, 3) := by decide +kernel
theorem dX3_start_5 : decode cX3_start 5 = .ok (.aload_n 0, 1) := by decide +kernel
theorem dX3_start_6 : decode cX3_start 6 = .ok (.iload_n 2, 1) := by decide +kernel
theorem dX3_start_7 : decode cX3_start 7 = .ok (.putfield 22, 3) := by decide +kernel
theorem dX3_start_10 : decode cX3_start 10 = .ok (.aload_n 0, 1) := by decide +kernel
theorem dX3_start_11 : decode cX3_start 11 = .ok (.iload_n 3, 1) := by decide +kernel
theorem dX3_start_12 : decode cX3_start 12 = .ok (.putfield 25, 3) := by decide +kernel
theorem dX3_start_15 : decode cX3_start 15 = .ok (.aload_n 0, 1) := by decide +kernel
theorem dX3_start_16 : decode cX3_start 16 = .ok (.bipush (-4), 2) := by decide +kernel
theorem dX3_start_18 : decode cX3_start 18 = .ok (.putfield 28, 3) := by decide +kernel
theorem dX3_start_21 : decode cX3_start 21 = .ok (.aload_n 0, 1) := by decide +kernel
theorem dX3_start_22 : decode cX3_start 22 = .ok (.iconst 0, 1) := by decide +kernel
theorem dX3_start_23 : decode cX3_start 23 = .ok (.putfield 31, 3) := by decide +kernel
theorem dX3_start_26 : decode cX3_start 26 = .ok (.return_, 1) := by decide +kernel
theorem plX3_18 : PL RX3 18 3 0 .int := ⟨_, _, _, rfl, by decide, uwX3, Or.inl (tb_mem (t_in1 (List.mem_of_getElem? (i := 61) (by decide +kernel))) (by decide +kernel)), rfl, by decide +kernel, tyX3, tyX3_ok, nmX3⟩
theorem plX3_22 : PL RX3 22 3 1 .int := ⟨_, _, _, rfl, by decide, uwX3, Or.inl (tb_mem (t_in1 (List.mem_of_getElem? (i := 66) (by decide +kernel))) (by decide +kernel)), rfl, by decide +kernel, tyX3, tyX3_ok, nmX3⟩
theorem plX3_25 : PL RX3 25 3 2 .int := ⟨_, _, _, rfl, by decide, uwX3, Or.inl (tb_mem (t_in1 (List.mem_of_getElem? (i := 70) (by decide +kernel))) (by decide +kernel)), rfl, by decide +kernel, tyX3, tyX3_ok, nmX3⟩
theorem plX3_28 : PL RX3 28 3 3 .int := ⟨_, _, _, rfl, by decide, uwX3, Or.inl (tb_mem (t_in1 (List.mem_of_getElem? (i := 73) (by decide +kernel))) (by decide +kernel)), rfl, by decide +kernel, tyX3, tyX3_ok, nmX3⟩
theorem plX3_31 : PL RX3 31 3 4 .int := ⟨_, _, _, rfl, by decide, uwX3, Or.inl (tb_mem (t_in1 (List.mem_of_getElem? (i := 78) (by decide +kernel))) (by decide +kernel)), rfl, by decide +kernel, tyX3, tyX3_ok, nmX3⟩
set_option maxHeartbeats 4000000 in
set_option maxRecDepth 20000 in
theorem sgX3_start_0 {κ : Kx} {K : Kont} {M : Mem} (C : Cx κ RX3 cX3_start 4 none rmX3_start domC) (i0 : Int) (x1 : Int) (x2 : Int) (x3 : Int)
    (h :
    ∀ M2 : Mem, M2 = up3 M 11 i0 0 x1 →
    ∀ M7 : Mem, M7 = up3 M2 11 i0 1 x2 →
    ∀ M12 : Mem, M12 = up3 M7 11 i0 2 x3 →
    ∀ M18 : Mem, M18 = up3 M12 11 i0 3 (-4) →
    ∀ M23 : Mem, M23 = up3 M18 11 i0 4 0 →
    K none M23) : V κ 4 M 0 [some (.inr (11, i0)), some (.inl x1), some (.inl x2), some (.inl x3)] [] K := by
  refine v_aload_n C dX3_start_0 rfl ?_
  refine v_iload_n C dX3_start_1 rfl ?_
  refine v_put C dX3_start_2 plX3_18 rfl (by decide) (by decide) rfl rfl rfl ?_
  refine v_nmM (fun M2 eM2 => ?_)
  replace h := h M2 eM2
  refine v_aload_n C dX3_start_5 rfl ?_
  refine v_iload_n C dX3_start_6 rfl ?_
  refine v_put C dX3_start_7 plX3_22 rfl (by decide) (by decide) rfl rfl rfl ?_
  refine v_nmM (fun M7 eM7 => ?_)
  replace h := h M7 eM7
  refine v_aload_n C dX3_start_10 rfl ?_
  refine v_iload_n C dX3_start_11 rfl ?_
  refine v_put C dX3_start_12 plX3_25 rfl (by decide) (by decide) rfl rfl rfl ?_
  refine v_nmM (fun M12 eM12 => ?_)
  replace h := h M12 eM12
  refine v_aload_n C dX3_start_15 rfl ?_
  refine v_bipush C dX3_start_16 (by decide) (by decide) ?_
  refine v_put C dX3_start_18 plX3_28 rfl (by decide) (by decide) rfl rfl rfl ?_
  refine v_nmM (fun M18 eM18 => ?_)
  replace h := h M18 eM18
  refine v_aload_n C dX3_start_21 rfl ?_
  refine v_iconst C dX3_start_22 (by decide) ?_
  refine v_put C dX3_start_23 plX3_31 rfl (by decide) (by decide) rfl rfl rfl ?_
  refine v_nmM (fun M23 eM23 => ?_)
  replace h := h M23 eM23
  exact v_vret C dX3_start_26 h
abbrev spX3_start (i x y z : Int) (M : Mem) (K : Kont) : Prop := ∀ M', M' = up3 (up3 (up3 (up3 (up3 M 11 i 0 x) 11 i 1 y) 11 i 2 z) 11 i 3 (-4)) 11 i 4 0 → K none M'
theorem ctX3_start : CtX3_start spX3_start := by
  refine ct_of (by decide) dmC (fun _ => Nat.le_of_ble_eq_true rfl) ?_
  intro κ a M K C oM h
  obtain ⟨i, x, y, z⟩ := a
  exact sgX3_start_0 C i x y z (fun M1 e1 M2 e2 M3 e3 M4 e4 M5 e5 => h M5 (by rw [e5, e4, e3, e2, e1]))
/-! ===== GapTellings$Picture.addVersion ===== -/
abbrev rmX3_addVersion : Room := { frames := 0, cells := 0, slots := 0, locals := 0 }
abbrev argX3_addVersion (a : Int × Int × Int) : List PV := [.inr (11, a.1), .inl a.2.1, .inl a.2.2]
abbrev CtX3_addVersion (sp : Int → Int → Int → Mem → Kont → Prop) : Prop := Ct yX3_addVersion cX3_addVersion 3 none rmX3_addVersion domC argX3_addVersion (fun a => sp a.1 a.2.1 a.2.2)
theorem dX3_addVersion_0 : decode cX3_addVersion 0 = .ok (.aload_n 0, 1) := by decide +kernel
theorem dX3_addVersion_1 : decode cX3_addVersion 1 = .ok (.getfield 31, 3) := by decide +kernel
theorem dX3_addVersion_4 : decode cX3_addVersion 4 = .ok (.iconst 3, 1) := by decide +kernel
theorem dX3_addVersion_5 : decode cX3_addVersion 5 = .ok (.if_icmp .ge 33, 3) := by decide +kernel
theorem dX3_addVersion_8 : decode cX3_addVersion 8 = .ok (.aload_n 0, 1) := by decide +kernel
theorem dX3_addVersion_9 : decode cX3_addVersion 9 = .ok (.getfield 9, 3) := by decide +kernel
theorem dX3_addVersion_12 : decode cX3_addVersion 12 = .ok (.aload_n 0, 1) := by decide +kernel
theorem dX3_addVersion_13 : decode cX3_addVersion 13 = .ok (.getfield 31, 3) := by decide +kernel
theorem dX3_addVersion_16 : decode cX3_addVersion 16 = .ok (.iload_n 1, 1) := by decide +kernel
theorem dX3_addVersion_17 : decode cX3_addVersion 17 = .ok (.iastore, 1) := by decide +kernel
theorem dX3_addVersion_18 : decode cX3_addVersion 18 = .ok (.aload_n 0, 1) := by decide +kernel
theorem dX3_addVersion_19 : decode cX3_addVersion 19 = .ok (.getfield 15, 3) := by decide +kernel
theorem dX3_addVersion_22 : decode cX3_addVersion 22 = .ok (.aload_n 0, 1) := by decide +kernel
theorem dX3_addVersion_23 : decode cX3_addVersion 23 = .ok (.getfield 31, 3) := by decide +kernel
theorem dX3_addVersion_26 : decode cX3_addVersion 26 = .ok (.iload_n 2, 1) := by decide +kernel
theorem dX3_addVersion_27 : decode cX3_addVersion 27 = .ok (.iastore, 1) := by decide +kernel
theorem dX3_addVersion_28 : decode cX3_addVersion 28 = .ok (.aload_n 0, 1) := by decide +kernel
theorem dX3_addVersion_29 : decode cX3_addVersion 29 = .ok (.dup, 1) := by decide +kernel
theorem dX3_addVersion_30 : decode cX3_addVersion 30 = .ok (.getfield 31, 3) := by decide +kernel
theorem dX3_addVersion_33 : decode cX3_addVersion 33 = .ok (.iconst 1, 1) := by decide +kernel
theorem dX3_addVersion_34 : decode cX3_addVersion 34 = .ok (.iadd, 1) := by decide +kernel
theorem dX3_addVersion_35 : decode cX3_addVersion 35 = .ok (.putfield 31, 3) := by decide +kernel
theorem dX3_addVersion_38 : decode cX3_addVersion 38 = .ok (.return_, 1) := by decide +kernel
theorem flX3_31 : FL RX3 31 3 4 := ⟨_, _, _, rfl, by decide, uwX3, Or.inl (tb_mem (t_in1 (List.mem_of_getElem? (i := 78) (by decide +kernel))) (by decide +kernel))⟩
theorem flX3_9 : FL RX3 9 3 5 := ⟨_, _, _, rfl, by decide, uwX3, Or.inl (tb_mem (t_in1 (List.mem_of_getElem? (i := 82) (by decide +kernel))) (by decide +kernel))⟩
theorem flX3_15 : FL RX3 15 3 6 := ⟨_, _, _, rfl, by decide, uwX3, Or.inl (tb_mem (t_in1 (List.mem_of_getElem? (i := 87) (by decide +kernel))) (by decide +kernel))⟩
set_option maxHeartbeats 4000000 in
set_option maxRecDepth 20000 in
theorem sgX3_addVersion_0 {κ : Kx} {K : Kont} {M : Mem} (C : Cx κ RX3 cX3_addVersion 3 none rmX3_addVersion domC) (i0 : Int) (x1 : Int) (x2 : Int)
    (h :
    ((3 ≤ (M 11 i0 4) →
      K none M) ∧
     (¬ (3 ≤ (M 11 i0 4)) →
      (0 ≤ (M 11 i0 4) ∧ (M 11 i0 4) < 3) ∧
      ∀ M17 : Mem, M17 = up3 M 12 i0 (M 11 i0 4) x1 →
      (0 ≤ (M17 11 i0 4) ∧ (M17 11 i0 4) < 3) ∧
      ∀ M27 : Mem, M27 = up3 M17 13 i0 (M17 11 i0 4) x2 →
      inR ((M27 11 i0 4) + 1) ∧
      ∀ M35 : Mem, M35 = up3 M27 11 i0 4 ((M27 11 i0 4) + 1) →
      K none M35))) : V κ 3 M 0 [some (.inr (11, i0)), some (.inl x1), some (.inl x2)] [] K := by
  refine v_aload_n C dX3_addVersion_0 rfl ?_
  refine v_get C dX3_addVersion_1 flX3_31 rfl (by decide) (by decide) (w := .inl (M 11 i0 4)) rfl ?_
  refine v_iconst C dX3_addVersion_4 (by decide) ?_
  refine v_icmp C dX3_addVersion_5 (tgt := 38) (by decide) (P := 3 ≤ (M 11 i0 4)) rfl (fun c5 => ?_) (fun c5 => ?_)
  · replace h := h.1 c5
    exact v_vret C dX3_addVersion_38 h
  · replace h := h.2 c5
    refine v_aload_n C dX3_addVersion_8 rfl ?_
    refine v_get C dX3_addVersion_9 flX3_9 rfl (by decide) (by decide) (w := .inr (12, i0)) rfl ?_
    refine v_aload_n C dX3_addVersion_12 rfl ?_
    refine v_get C dX3_addVersion_13 flX3_31 rfl (by decide) (by decide) (w := .inl (M 11 i0 4)) rfl ?_
    refine v_iload_n C dX3_addVersion_16 rfl ?_
    refine v_iast C dX3_addVersion_17 rfl h.1.1 h.1.2 ?_
    replace h := h.2
    refine v_nmM (fun M17 eM17 => ?_)
    replace h := h M17 eM17
    refine v_aload_n C dX3_addVersion_18 rfl ?_
    refine v_get C dX3_addVersion_19 flX3_15 rfl (by decide) (by decide) (w := .inr (13, i0)) rfl ?_
    refine v_aload_n C dX3_addVersion_22 rfl ?_
    refine v_get C dX3_addVersion_23 flX3_31 rfl (by decide) (by decide) (w := .inl (M17 11 i0 4)) rfl ?_
    refine v_iload_n C dX3_addVersion_26 rfl ?_
    refine v_iast C dX3_addVersion_27 rfl h.1.1 h.1.2 ?_
    replace h := h.2
    refine v_nmM (fun M27 eM27 => ?_)
    replace h := h M27 eM27
    refine v_aload_n C dX3_addVersion_28 rfl ?_
    refine v_dup C dX3_addVersion_29 ?_
    refine v_get C dX3_addVersion_30 flX3_31 rfl (by decide) (by decide) (w := .inl (M27 11 i0 4)) rfl ?_
    refine v_iconst C dX3_addVersion_33 (by decide) ?_
    refine v_iadd C dX3_addVersion_34 h.1 ?_
    replace h := h.2
    refine v_put C dX3_addVersion_35 plX3_31 rfl (by decide) (by decide) rfl rfl rfl ?_
    refine v_nmM (fun M35 eM35 => ?_)
    replace h := h M35 eM35
    exact v_vret C dX3_addVersion_38 h
abbrev spX3_addVersion (i l w : Int) (M : Mem) (K : Kont) : Prop := (0 ≤ M 11 i 4 ∧ M 11 i 4 < 3) ∧ ∀ M', M' = up3 (up3 (up3 M 12 i (M 11 i 4) l) 13 i (M 11 i 4) w) 11 i 4 (M 11 i 4 + 1) → K none M'
theorem ctX3_addVersion : CtX3_addVersion spX3_addVersion := by
  refine ct_of (by decide) dmC (fun _ => Nat.le_of_ble_eq_true rfl) ?_
  intro κ a M K C oM h
  obtain ⟨i, l, w⟩ := a
  dsimp only [spX3_addVersion] at h
  obtain ⟨hn, hk⟩ := h
  refine sgX3_addVersion_0 C i l w ⟨fun c => absurd c (by omega), fun c => ⟨by omega, fun M1 e1 => ?_⟩⟩
  have n1 : M1 11 i 4 = M 11 i 4 := by rw [e1, up3_r _ _ _ _ _ (by decide)]
  refine ⟨by omega, fun M2 e2 => ?_⟩
  have n2 : M2 11 i 4 = M 11 i 4 := by rw [e2, up3_r _ _ _ _ _ (by decide), n1]
  refine ⟨by omega, fun M3 e3 => hk M3 ?_⟩
  rw [e3, n2, e2, n1, e1]
theorem cF_ver {M : Mem} {f p l w : Int} : cFilm (up3 (up3 (up3 M 12 (7 * f + p) (M 11 (7 * f + p) 4) l) 13 (7 * f + p) (M 11 (7 * f + p) 4) w) 11 (7 * f + p) 4 (M 11 (7 * f + p) 4 + 1)) f = sFV (cFilm M f) p l w := by
  funext t a b
  have e : ∀ a : Int, (7 * f + a = 7 * f + p) = (a = p) := fun a => by apply propext; omega
  unfold cFilm sFV
  split <;> simp [up3, e]
  simp_all
theorem cF_pic {M : Mem} {f p x y z : Int} : cFilm (up3 (up3 (up3 (up3 (up3 M 11 (7 * f + p) 0 x) 11 (7 * f + p) 1 y) 11 (7 * f + p) 2 z) 11 (7 * f + p) 3 (-4)) 11 (7 * f + p) 4 0) f = sFP (cFilm M f) p x y z := by
  funext t a b
  have e : ∀ a : Int, (7 * f + a = 7 * f + p) = (a = p) := fun a => by apply propext; omega
  unfold cFilm sFP
  split <;> simp [up3, e]
  all_goals simp_all
