/-! ===== the Model: what holds between its calls ===== -/
def InvM (M : Mem) : Prop := (0 ≤ M 30 0 0 ∧ M 30 0 0 ≤ 200) ∧ WFf (mFilm M) ∧ PlK (mFilm M) (M 45 0) (M 46 0)
def Lo (M M' : Mem) : Prop := ∀ r, r < 24 → M' r = M r
theorem Lo.tr {M M' M2 : Mem} (h : Lo M M') (h2 : Lo M' M2) : Lo M M2 := fun r a => (h2 r a).trans (h r a)
/-- what a call has done: text as it was, and so the film, the plan -/
def ChM (M M' : Mem) (F : Film) (ver sta : Int → Int) : Prop := Lo M M' ∧ M' 30 0 0 = M 30 0 0 ∧ M' 31 0 = M 31 0 ∧ FEq F (mFilm M') ∧ PlEq ver sta (M' 45 0) (M' 46 0)
/-- nothing but what is made anew has changed -/
def AgS (M M' : Mem) : Prop := ∀ r i j, ¬ (r = 42 ∨ r = 44 ∨ (47 ≤ r ∧ r ≤ 53) ∨ (r = 30 ∧ (j = 9 ∨ j = 10 ∨ j = 11 ∨ j = 13 ∨ j = 27 ∨ j = 28))) → M' r i j = M r i j
theorem AgS.rf {M : Mem} : AgS M M := fun _ _ _ _ => rfl
theorem AgS.tr {M M' M2 : Mem} (h : AgS M M') (h2 : AgS M' M2) : AgS M M2 := fun r i j hn => (h2 r i j hn).trans (h r i j hn)
theorem AgH.s {M M' : Mem} (h : AgH M M') : AgS M M' := fun r i j hn => by rw [h r (by omega)]
theorem AgV.s {M M' : Mem} (h : AgV M M') : AgS M M' := fun r i j hn => h r i j (by omega)
theorem AgS.film {M M' : Mem} (h : AgS M M') : mFilm M' = mFilm M := mFilm_eq (fun j hj => h 30 0 j (by omega)) (fun r hr => by funext j; exact h r 0 j (by omega))
theorem AgS.row {M M' : Mem} (h : AgS M M') {r : Nat} (i : Int) (hr : r < 30 ∨ r = 31 ∨ r = 45 ∨ r = 46) : M' r i = M r i := by funext j; exact h r i j (by omega)
theorem AgS.inv {M M' : Mem} (h : AgS M M') (hI : InvM M) : InvM M' := by
  refine ⟨by rw [h 30 0 0 (by omega)]; exact hI.1, by rw [h.film]; exact hI.2.1, by rw [h.film, h.row 0 (by omega), h.row 0 (by omega)]; exact hI.2.2⟩
theorem AgS.lo {M M' : Mem} (h : AgS M M') : Lo M M' := fun r hr => by funext i; exact h.row i (by omega)
theorem AgS.ch {M M' : Mem} (h : AgS M M') : ChM M M' (mFilm M) (M 45 0) (M 46 0) := ⟨h.lo, h 30 0 0 (by omega), h.row 0 (by omega), by rw [h.film]; exact FEq.rf, by rw [h.row 0 (by omega), h.row 0 (by omega)]; exact PlEq.rfl'⟩
theorem PlK_mono {F G : Film} {ver sta : Int → Int} (e0 : G 0 0 0 = F 0 0 0) (e3 : G 3 0 0 = F 3 0 0) (hp : ∀ p, 0 ≤ p → p < F 3 0 0 → F 11 p 0 ≤ G 11 p 0 ∧ ∀ v, 0 ≤ v → v < F 11 p 0 → G 13 p v = F 13 p v) (h : PlK F ver sta) : PlK G ver sta := by
  intro q a b
  rcases h q a b with z | ⟨z1, z2, z3, z4⟩
  · exact Or.inl z
  · have k := hp q a z1
    exact Or.inr ⟨by omega, by omega, z3, by rw [k.2 _ z2.1 z2.2, e0]; exact z4⟩
/-! ===== GapTellingsModel.write ===== -/
abbrev rmX8_write : Room := { frames := 0, cells := 0, slots := 0, locals := 0 }
abbrev argX8_write (a : Int) : List PV := [.inr (30, 0), .inl a]
abbrev CtX8_write (sp : Int → Mem → Kont → Prop) : Prop := Ct yX8_write cX8_write 2 (some .int) rmX8_write domM argX8_write (fun a => sp a)
theorem dX8_write_0 : decode cX8_write 0 = .ok (.iload_n 1, 1) := by decide +kernel
theorem dX8_write_1 : decode cX8_write 1 = .ok (.bipush 32, 2) := by decide +kernel
theorem dX8_write_3 : decode cX8_write 3 = .ok (.if_icmp .lt 9, 3) := by decide +kernel
theorem dX8_write_6 : decode cX8_write 6 = .ok (.iload_n 1, 1) := by decide +kernel
theorem dX8_write_7 : decode cX8_write 7 = .ok (.bipush 126, 2) := by decide +kernel
theorem dX8_write_9 : decode cX8_write 9 = .ok (.if_icmp .le 5, 3) := by decide +kernel
theorem dX8_write_12 : decode cX8_write 12 = .ok (.iconst (-1), 1) := by decide +kernel
theorem dX8_write_13 : decode cX8_write 13 = .ok (.ireturn, 1) := by decide +kernel
theorem dX8_write_14 : decode cX8_write 14 = .ok (.aload_n 0, 1) := by decide +kernel
theorem dX8_write_15 : decode cX8_write 15 = .ok (.getfield 80, 3) := by decide +kernel
theorem dX8_write_18 : decode cX8_write 18 = .ok (.sipush 200, 3) := by decide +kernel
theorem dX8_write_21 : decode cX8_write 21 = .ok (.if_icmp .ne 6, 3) := by decide +kernel
theorem dX8_write_24 : decode cX8_write 24 = .ok (.bipush (-3), 2) := by decide +kernel
theorem dX8_write_26 : decode cX8_write 26 = .ok (.ireturn, 1) := by decide +kernel
theorem dX8_write_27 : decode cX8_write 27 = .ok (.aload_n 0, 1) := by decide +kernel
theorem dX8_write_28 : decode cX8_write 28 = .ok (.getfield 7, 3) := by decide +kernel
theorem dX8_write_31 : decode cX8_write 31 = .ok (.aload_n 0, 1) := by decide +kernel
theorem dX8_write_32 : decode cX8_write 32 = .ok (.getfield 80, 3) := by decide +kernel
theorem dX8_write_35 : decode cX8_write 35 = .ok (.iload_n 1, 1) := by decide +kernel
theorem dX8_write_36 : decode cX8_write 36 = .ok (.iastore, 1) := by decide +kernel
theorem dX8_write_37 : decode cX8_write 37 = .ok (.aload_n 0, 1) := by decide +kernel
theorem dX8_write_38 : decode cX8_write 38 = .ok (.dup, 1) := by decide +kernel
theorem dX8_write_39 : decode cX8_write 39 = .ok (.getfield 80, 3) := by decide +kernel
theorem dX8_write_42 : decode cX8_write 42 = .ok (.iconst 1, 1) := by decide +kernel
theorem dX8_write_43 : decode cX8_write 43 = .ok (.iadd, 1) := by decide +kernel
theorem dX8_write_44 : decode cX8_write 44 = .ok (.putfield 80, 3) := by decide +kernel
theorem dX8_write_47 : decode cX8_write 47 = .ok (.aload_n 0, 1) := by decide +kernel
theorem dX8_write_48 : decode cX8_write 48 = .ok (.getfield 80, 3) := by decide +kernel
theorem dX8_write_51 : decode cX8_write 51 = .ok (.ireturn, 1) := by decide +kernel
theorem plX8_80 : PL RX8 80 8 0 .int := ⟨_, _, _, rfl, by decide, uwX8, Or.inl (tb_mem (t_in4 (List.mem_of_getElem? (i := 108) (by decide +kernel))) (by decide +kernel)), rfl, by decide +kernel, tyX8, tyX8_ok, nmX8⟩
set_option maxHeartbeats 4000000 in
set_option maxRecDepth 20000 in
theorem sgX8_write_0 {κ : Kx} {K : Kont} {M : Mem} (C : Cx κ RX8 cX8_write 2 (some .int) rmX8_write domM) (x1 : Int)
    (h :
    ((x1 < 32 →
      K (some (-1)) M) ∧
     (¬ (x1 < 32) →
      ((x1 ≤ 126 →
        (((M 30 0 0) ≠ 200 →
          (0 ≤ (M 30 0 0) ∧ (M 30 0 0) < 200) ∧
          ∀ M36 : Mem, M36 = up3 M 31 0 (M 30 0 0) x1 →
          inR ((M36 30 0 0) + 1) ∧
          ∀ M44 : Mem, M44 = up3 M36 30 0 0 ((M36 30 0 0) + 1) →
          K (some (M44 30 0 0)) M44) ∧
         (¬ ((M 30 0 0) ≠ 200) →
          K (some (-3)) M))) ∧
       (¬ (x1 ≤ 126) →
        K (some (-1)) M))))) : V κ 2 M 0 [some (.inr (30, 0)), some (.inl x1)] [] K := by
  refine v_iload_n C dX8_write_0 rfl ?_
  refine v_bipush C dX8_write_1 (by decide) (by decide) ?_
  refine v_icmp C dX8_write_3 (tgt := 12) (by decide) (P := x1 < 32) rfl (fun c3 => ?_) (fun c3 => ?_)
  · replace h := h.1 c3
    refine v_iconst C dX8_write_12 (by decide) ?_
    exact v_iret C dX8_write_13 h
  · replace h := h.2 c3
    refine v_iload_n C dX8_write_6 rfl ?_
    refine v_bipush C dX8_write_7 (by decide) (by decide) ?_
    refine v_icmp C dX8_write_9 (tgt := 14) (by decide) (P := x1 ≤ 126) rfl (fun c9 => ?_) (fun c9 => ?_)
    · replace h := h.1 c9
      refine v_aload_n C dX8_write_14 rfl ?_
      refine v_get C dX8_write_15 flX8_80 rfl (by decide) (by decide) (w := .inl (M 30 0 0)) rfl ?_
      refine v_sipush C dX8_write_18 (by decide) (by decide) ?_
      refine v_icmp C dX8_write_21 (tgt := 27) (by decide) (P := (M 30 0 0) ≠ 200) rfl (fun c21 => ?_) (fun c21 => ?_)
      · replace h := h.1 c21
        refine v_aload_n C dX8_write_27 rfl ?_
        refine v_get C dX8_write_28 flX8_7 rfl (by decide) (by decide) (w := .inr (31, 0)) rfl ?_
        refine v_aload_n C dX8_write_31 rfl ?_
        refine v_get C dX8_write_32 flX8_80 rfl (by decide) (by decide) (w := .inl (M 30 0 0)) rfl ?_
        refine v_iload_n C dX8_write_35 rfl ?_
        refine v_iast C dX8_write_36 rfl h.1.1 h.1.2 ?_
        replace h := h.2
        refine v_nmM (fun M36 eM36 => ?_)
        replace h := h M36 eM36
        refine v_aload_n C dX8_write_37 rfl ?_
        refine v_dup C dX8_write_38 ?_
        refine v_get C dX8_write_39 flX8_80 rfl (by decide) (by decide) (w := .inl (M36 30 0 0)) rfl ?_
        refine v_iconst C dX8_write_42 (by decide) ?_
        refine v_iadd C dX8_write_43 h.1 ?_
        replace h := h.2
        refine v_put C dX8_write_44 plX8_80 rfl (by decide) (by decide) rfl rfl rfl ?_
        refine v_nmM (fun M44 eM44 => ?_)
        replace h := h M44 eM44
        refine v_aload_n C dX8_write_47 rfl ?_
        refine v_get C dX8_write_48 flX8_80 rfl (by decide) (by decide) (w := .inl (M44 30 0 0)) rfl ?_
        exact v_iret C dX8_write_51 h
      · replace h := h.2 c21
        refine v_bipush C dX8_write_24 (by decide) (by decide) ?_
        exact v_iret C dX8_write_26 h
    · replace h := h.2 c9
      refine v_iconst C dX8_write_12 (by decide) ?_
      exact v_iret C dX8_write_13 h
abbrev spX8_write (x : Int) (M : Mem) (K : Kont) : Prop := InvM M ∧ (x < 32 ∨ 126 < x → K (some (-1)) M) ∧ (32 ≤ x → x ≤ 126 → M 30 0 0 = 200 → K (some (-3)) M) ∧
  (32 ≤ x → x ≤ 126 → M 30 0 0 < 200 → ∀ M', InvM M' → Lo M M' → mFilm M' = mFilm M → M' 45 0 = M 45 0 → M' 46 0 = M 46 0 → M' 30 0 0 = M 30 0 0 + 1 → (∀ p, M' 31 0 p = if p = M 30 0 0 then x else M 31 0 p) → K (some (M 30 0 0 + 1)) M')
theorem InvM_txt {M M' : Mem} (h : InvM M) (hA : ∀ r i j, r ≠ 31 → ¬ (r = 30 ∧ j = 0) → M' r i j = M r i j) (h1 : 0 ≤ M' 30 0 0 ∧ M' 30 0 0 ≤ 200) : InvM M' ∧ Lo M M' ∧ mFilm M' = mFilm M ∧ M' 45 0 = M 45 0 ∧ M' 46 0 = M 46 0 := by
  have hf : mFilm M' = mFilm M := mFilm_eq (fun j hj => hA 30 0 j (by omega) (by omega)) (fun r hr => by funext j; exact hA r 0 j (by omega) (by omega))
  have p1 : M' 45 0 = M 45 0 := by funext j; exact hA 45 0 j (by omega) (by omega)
  have p2 : M' 46 0 = M 46 0 := by funext j; exact hA 46 0 j (by omega) (by omega)
  exact ⟨⟨h1, by rw [hf]; exact h.2.1, by rw [hf, p1, p2]; exact h.2.2⟩, fun r a => by funext i j; exact hA r i j (by omega) (by omega), hf, p1, p2⟩
theorem ctX8_write : CtX8_write spX8_write := by
  refine ct_of (by decide) dmM (fun _ => Nat.le_of_ble_eq_true rfl) ?_
  intro κ x M K C oM h
  dsimp only [spX8_write] at h
  obtain ⟨hI, k1, k2, k3⟩ := h
  have hl := hI.1
  refine sgX8_write_0 C x ⟨fun c => k1 (by omega), fun c => ⟨fun c2 => ⟨fun c3 => ⟨by omega, fun N1 e1 => ?_⟩, fun c3 => k2 (by omega) (by omega) (by omega)⟩, fun c2 => k1 (by omega)⟩⟩
  have n1 : N1 30 0 0 = M 30 0 0 := by rw [e1, up3_r _ _ _ _ _ (by decide)]
  refine ⟨by omega, fun N2 e2 => ?_⟩
  have n2 : N2 30 0 0 = M 30 0 0 + 1 := by rw [e2, up3_s, n1]
  have t2 : ∀ p, N2 31 0 p = if p = M 30 0 0 then x else M 31 0 p := by
    intro p
    rw [e2, up3_r _ _ _ _ _ (by decide), e1]
    by_cases e : p = M 30 0 0
    · rw [if_pos e, e, up3_s]
    · rw [if_neg e, up3_j _ _ _ _ _ e]
  have := InvM_txt (M' := N2) hI (fun r i j q1 q2 => by rw [e2, show up3 N1 30 0 0 _ r i j = N1 r i j from if_neg (fun z => q2 ⟨z.1, z.2.2⟩), e1, up3_r _ _ _ _ _ q1]) (by omega)
  rw [n2]
  exact k3 (by omega) (by omega) (by omega) N2 this.1 this.2.1 this.2.2.1 this.2.2.2.1 this.2.2.2.2 n2 t2
/-! ===== GapTellingsModel.wipe ===== -/
abbrev rmX8_wipe : Room := { frames := 0, cells := 0, slots := 0, locals := 0 }
abbrev argX8_wipe (a : Unit) : List PV := [.inr (30, 0)]
abbrev CtX8_wipe (sp : Mem → Kont → Prop) : Prop := Ct yX8_wipe cX8_wipe 2 (some .int) rmX8_wipe domM argX8_wipe (fun _ => sp)
theorem dX8_wipe_0 : decode cX8_wipe 0 = .ok (.aload_n 0, 1) := by decide +kernel
theorem dX8_wipe_1 : decode cX8_wipe 1 = .ok (.getfield 80, 3) := by decide +kernel
theorem dX8_wipe_4 : decode cX8_wipe 4 = .ok (.istore_n 1, 1) := by decide +kernel
theorem dX8_wipe_5 : decode cX8_wipe 5 = .ok (.aload_n 0, 1) := by decide +kernel
theorem dX8_wipe_6 : decode cX8_wipe 6 = .ok (.iconst 0, 1) := by decide +kernel
theorem dX8_wipe_7 : decode cX8_wipe 7 = .ok (.putfield 80, 3) := by decide +kernel
theorem dX8_wipe_10 : decode cX8_wipe 10 = .ok (.iload_n 1, 1) := by decide +kernel
theorem dX8_wipe_11 : decode cX8_wipe 11 = .ok (.ireturn, 1) := by decide +kernel
set_option maxHeartbeats 4000000 in
set_option maxRecDepth 20000 in
theorem sgX8_wipe_0 {κ : Kx} {K : Kont} {M : Mem} (C : Cx κ RX8 cX8_wipe 2 (some .int) rmX8_wipe domM) 
    (h :
    ∀ M7 : Mem, M7 = up3 M 30 0 0 0 →
    K (some (M 30 0 0)) M7) : V κ 2 M 0 [some (.inr (30, 0)), none] [] K := by
  refine v_aload_n C dX8_wipe_0 rfl ?_
  refine v_get C dX8_wipe_1 flX8_80 rfl (by decide) (by decide) (w := .inl (M 30 0 0)) rfl ?_
  refine v_istore_n C dX8_wipe_4 (by decide) (Nat.le_of_ble_eq_true rfl) (lv' := [some (.inr (30, 0)), some (.inl (M 30 0 0))]) rfl ?_
  refine v_aload_n C dX8_wipe_5 rfl ?_
  refine v_iconst C dX8_wipe_6 (by decide) ?_
  refine v_put C dX8_wipe_7 plX8_80 rfl (by decide) (by decide) rfl rfl rfl ?_
  refine v_nmM (fun M7 eM7 => ?_)
  replace h := h M7 eM7
  refine v_iload_n C dX8_wipe_10 rfl ?_
  exact v_iret C dX8_wipe_11 h
abbrev spX8_wipe (M : Mem) (K : Kont) : Prop := InvM M ∧ ∀ M', InvM M' → Lo M M' → mFilm M' = mFilm M → M' 45 0 = M 45 0 → M' 46 0 = M 46 0 → M' 30 0 0 = 0 → K (some (M 30 0 0)) M'
theorem ctX8_wipe : CtX8_wipe spX8_wipe := by
  refine ct_of (by decide) dmM (fun _ => Nat.le_of_ble_eq_true rfl) ?_
  intro κ a M K C oM h
  obtain ⟨hI, hk⟩ := h
  refine sgX8_wipe_0 C (fun N e => ?_)
  have n1 : N 30 0 0 = 0 := by rw [e, up3_s]
  have := InvM_txt (M' := N) hI (fun r i j q1 q2 => by rw [e]; exact if_neg (fun z => q2 ⟨z.1, z.2.2⟩)) (by omega)
  exact hk N this.1 this.2.1 this.2.2.1 this.2.2.2.1 this.2.2.2.2 n1
/-! ===== GapTellingsModel.rate ===== -/
abbrev rmX8_rate : Room := { frames := 1, cells := 0, slots := 0, locals := 22 }
abbrev argX8_rate (a : Int × Int) : List PV := [.inr (30, 0), .inl a.1, .inl a.2]
abbrev CtX8_rate (sp : Int → Int → Mem → Kont → Prop) : Prop := Ct yX8_rate cX8_rate 4 (some .int) rmX8_rate domM argX8_rate (fun a => sp a.1 a.2)
theorem dX8_rate_0 : decode cX8_rate 0 = .ok (.iload_n 1, 1) := by decide +kernel
theorem dX8_rate_1 : decode cX8_rate 1 = .ok (.iconst 0, 1) := by decide +kernel
theorem dX8_rate_2 : decode cX8_rate 2 = .ok (.iconst 3, 1) := by decide +kernel
theorem dX8_rate_3 : decode cX8_rate 3 = .ok (.invokestatic 97, 3) := by decide +kernel
theorem dX8_rate_6 : decode cX8_rate 6 = .ok (.ifCond .eq 13, 3) := by decide +kernel
theorem dX8_rate_9 : decode cX8_rate 9 = .ok (.iload_n 2, 1) := by decide +kernel
theorem dX8_rate_10 : decode cX8_rate 10 = .ok (.iconst 0, 1) := by decide +kernel
theorem dX8_rate_11 : decode cX8_rate 11 = .ok (.bipush 9, 2) := by decide +kernel
theorem dX8_rate_13 : decode cX8_rate 13 = .ok (.invokestatic 97, 3) := by decide +kernel
theorem dX8_rate_16 : decode cX8_rate 16 = .ok (.ifCond .ne 5, 3) := by decide +kernel
theorem dX8_rate_19 : decode cX8_rate 19 = .ok (.iconst (-1), 1) := by decide +kernel
theorem dX8_rate_20 : decode cX8_rate 20 = .ok (.ireturn, 1) := by decide +kernel
theorem dX8_rate_21 : decode cX8_rate 21 = .ok (.aload_n 0, 1) := by decide +kernel
theorem dX8_rate_22 : decode cX8_rate 22 = .ok (.getfield 19, 3) := by decide +kernel
theorem dX8_rate_25 : decode cX8_rate 25 = .ok (.iload_n 1, 1) := by decide +kernel
theorem dX8_rate_26 : decode cX8_rate 26 = .ok (.iaload, 1) := by decide +kernel
theorem dX8_rate_27 : decode cX8_rate 27 = .ok (.istore_n 3, 1) := by decide +kernel
theorem dX8_rate_28 : decode cX8_rate 28 = .ok (.iload_n 3, 1) := by decide +kernel
theorem dX8_rate_29 : decode cX8_rate 29 = .ok (.iload_n 2, 1) := by decide +kernel
theorem dX8_rate_30 : decode cX8_rate 30 = .ok (.if_icmp .ne 6, 3) := by decide +kernel
theorem dX8_rate_33 : decode cX8_rate 33 = .ok (.bipush (-2), 2) := by decide +kernel
theorem dX8_rate_35 : decode cX8_rate 35 = .ok (.ireturn, 1) := by decide +kernel
theorem dX8_rate_36 : decode cX8_rate 36 = .ok (.aload_n 0, 1) := by decide +kernel
theorem dX8_rate_37 : decode cX8_rate 37 = .ok (.getfield 19, 3) := by decide +kernel
theorem dX8_rate_40 : decode cX8_rate 40 = .ok (.iload_n 1, 1) := by decide +kernel
theorem dX8_rate_41 : decode cX8_rate 41 = .ok (.iload_n 2, 1) := by decide +kernel
theorem dX8_rate_42 : decode cX8_rate 42 = .ok (.iastore, 1) := by decide +kernel
theorem dX8_rate_43 : decode cX8_rate 43 = .ok (.iload_n 3, 1) := by decide +kernel
theorem dX8_rate_44 : decode cX8_rate 44 = .ok (.ireturn, 1) := by decide +kernel
set_option maxHeartbeats 4000000 in
set_option maxRecDepth 20000 in
theorem sgX8_rate_0 {κ : Kx} {K : Kont} {M : Mem} (C : Cx κ RX8 cX8_rate 4 (some .int) rmX8_rate domM) (x1 : Int) (x2 : Int)
    (h :
    spX8_isIn x1 0 3 M (rI (fun r3 M3 =>
    ((r3 = 0 →
      K (some (-1)) M3) ∧
     (¬ (r3 = 0) →
      spX8_isIn x2 0 9 M3 (rI (fun r13 M13 =>
      ((r13 ≠ 0 →
        (0 ≤ x1 ∧ x1 < 4) ∧
        (((M13 38 0 x1) ≠ x2 →
          (0 ≤ x1 ∧ x1 < 4) ∧
          ∀ M42 : Mem, M42 = up3 M13 38 0 x1 x2 →
          K (some (M13 38 0 x1)) M42) ∧
         (¬ ((M13 38 0 x1) ≠ x2) →
          K (some (-2)) M13))) ∧
       (¬ (r13 ≠ 0) →
        K (some (-1)) M13))))))))) : V κ 4 M 0 [some (.inr (30, 0)), some (.inl x1), some (.inl x2), none] [] K := by
  refine v_iload_n C dX8_rate_0 rfl ?_
  refine v_iconst C dX8_rate_1 (by decide) ?_
  refine v_iconst C dX8_rate_2 (by decide) ?_
  refine v_invS C ctX8_isIn dX8_rate_3 ivX8_97 ⟨by decide, by decide, rfl, rfl⟩ ((x1, 0, 3) : Int × Int × Int) rfl (st := []) rfl (Nat.le_of_ble_eq_true rfl) h (fun o M3 oM3 io3 g3 => ?_)
  replace h := rI_out g3
  clear g3
  obtain ⟨r3, rfl, h⟩ := h
  refine v_push ?_
  refine v_if C dX8_rate_6 (tgt := 19) (by decide) (P := r3 = 0) rfl (fun c6 => ?_) (fun c6 => ?_)
  · replace h := h.1 c6
    refine v_iconst C dX8_rate_19 (by decide) ?_
    exact v_iret C dX8_rate_20 h
  · replace h := h.2 c6
    refine v_iload_n C dX8_rate_9 rfl ?_
    refine v_iconst C dX8_rate_10 (by decide) ?_
    refine v_bipush C dX8_rate_11 (by decide) (by decide) ?_
    refine v_invS C ctX8_isIn dX8_rate_13 ivX8_97 ⟨by decide, by decide, rfl, rfl⟩ ((x2, 0, 9) : Int × Int × Int) rfl (st := []) rfl (Nat.le_of_ble_eq_true rfl) h (fun o M13 oM13 io13 g13 => ?_)
    replace h := rI_out g13
    clear g13
    obtain ⟨r13, rfl, h⟩ := h
    refine v_push ?_
    refine v_if C dX8_rate_16 (tgt := 21) (by decide) (P := r13 ≠ 0) rfl (fun c16 => ?_) (fun c16 => ?_)
    · replace h := h.1 c16
      refine v_aload_n C dX8_rate_21 rfl ?_
      refine v_get C dX8_rate_22 flX8_19 rfl (by decide) (by decide) (w := .inr (38, 0)) rfl ?_
      refine v_iload_n C dX8_rate_25 rfl ?_
      refine v_iald C dX8_rate_26 rfl h.1.1 h.1.2 ?_
      replace h := h.2
      refine v_istore_n C dX8_rate_27 (by decide) (Nat.le_of_ble_eq_true rfl) (lv' := [some (.inr (30, 0)), some (.inl x1), some (.inl x2), some (.inl (M13 38 0 x1))]) rfl ?_
      refine v_iload_n C dX8_rate_28 rfl ?_
      refine v_iload_n C dX8_rate_29 rfl ?_
      refine v_icmp C dX8_rate_30 (tgt := 36) (by decide) (P := (M13 38 0 x1) ≠ x2) rfl (fun c30 => ?_) (fun c30 => ?_)
      · replace h := h.1 c30
        refine v_aload_n C dX8_rate_36 rfl ?_
        refine v_get C dX8_rate_37 flX8_19 rfl (by decide) (by decide) (w := .inr (38, 0)) rfl ?_
        refine v_iload_n C dX8_rate_40 rfl ?_
        refine v_iload_n C dX8_rate_41 rfl ?_
        refine v_iast C dX8_rate_42 rfl h.1.1 h.1.2 ?_
        replace h := h.2
        refine v_nmM (fun M42 eM42 => ?_)
        replace h := h M42 eM42
        refine v_iload_n C dX8_rate_43 rfl ?_
        exact v_iret C dX8_rate_44 h
      · replace h := h.2 c30
        refine v_bipush C dX8_rate_33 (by decide) (by decide) ?_
        exact v_iret C dX8_rate_35 h
    · replace h := h.2 c16
      refine v_iconst C dX8_rate_19 (by decide) ?_
      exact v_iret C dX8_rate_20 h
abbrev spX8_rate (w r : Int) (M : Mem) (K : Kont) : Prop := InvM M ∧ (¬ ((0 ≤ w ∧ w < 4) ∧ 0 ≤ r ∧ r ≤ 9) → K (some (-1)) M) ∧ (((0 ≤ w ∧ w < 4) ∧ 0 ≤ r ∧ r ≤ 9) → mFilm M 4 w 0 = r → K (some (-2)) M) ∧
  (((0 ≤ w ∧ w < 4) ∧ 0 ≤ r ∧ r ≤ 9) → mFilm M 4 w 0 ≠ r → ∀ M', InvM M' → ChM M M' (sFR (mFilm M) w r) (M 45 0) (M 46 0) → K (some (mFilm M 4 w 0)) M')
theorem ctX8_rate : CtX8_rate spX8_rate := by
  refine ct_of (by decide) dmM (fun _ => Nat.le_of_ble_eq_true rfl) ?_
  intro κ a M K C oM h
  obtain ⟨w, r⟩ := a
  dsimp only [spX8_rate] at h
  obtain ⟨hI, k1, k2, k3⟩ := h
  refine sgX8_rate_0 C w r ⟨fun c => k1 (fun z => if10n c (by omega)), fun c => ?_⟩
  have c1 := if10 c
  refine ⟨fun c2 => ?_, fun c2 => k1 (fun z => if10n (by omega) z.2)⟩
  have c3 := if10 c2
  refine ⟨by omega, fun c5 => ⟨by omega, fun N e => ?_⟩, fun c5 => k2 (by omega) (by exact Classical.byContradiction c5)⟩
  have hf : mFilm N = sFR (mFilm M) w r := by
    rw [e]
    funext t a b
    unfold mFilm sFR
    split <;> simp [up3]
    simp_all
  have o : ∀ r i, r ≠ 38 → N r i = M r i := fun r i q => by funext j; rw [e, up3_r _ _ _ _ _ q]
  have hP : PlK (mFilm N) (N 45 0) (N 46 0) := by
    rw [hf, o 45 0 (by decide), o 46 0 (by decide)]
    exact PlK_mono (by simp [sFR]) (by simp [sFR]) (fun p _ _ => by simp [sFR]) hI.2.2
  refine k3 (by omega) c5 N ⟨by rw [o 30 0 (by decide)]; exact hI.1, by rw [hf]; exact wf_R hI.2.1 c3, hP⟩ ⟨fun r x => by funext i; exact o r i (by omega), by rw [o 30 0 (by decide)], o 31 0 (by decide), by rw [hf]; exact FEq.rf, ?_⟩
  rw [o 45 0 (by decide), o 46 0 (by decide)]; exact PlEq.rfl'
/-! ===== GapTellingsModel.breath ===== -/
abbrev rmX8_breath : Room := { frames := 1, cells := 0, slots := 0, locals := 22 }
abbrev argX8_breath (a : Int) : List PV := [.inr (30, 0), .inl a]
abbrev CtX8_breath (sp : Int → Mem → Kont → Prop) : Prop := Ct yX8_breath cX8_breath 3 (some .int) rmX8_breath domM argX8_breath (fun a => sp a)
theorem dX8_breath_0 : decode cX8_breath 0 = .ok (.iload_n 1, 1) := by decide +kernel
theorem dX8_breath_1 : decode cX8_breath 1 = .ok (.iconst 0, 1) := by decide +kernel
theorem dX8_breath_2 : decode cX8_breath 2 = .ok (.bipush 9, 2) := by decide +kernel
theorem dX8_breath_4 : decode cX8_breath 4 = .ok (.invokestatic 97, 3) := by decide +kernel
theorem dX8_breath_7 : decode cX8_breath 7 = .ok (.ifCond .ne 5, 3) := by decide +kernel
theorem dX8_breath_10 : decode cX8_breath 10 = .ok (.iconst (-1), 1) := by decide +kernel
theorem dX8_breath_11 : decode cX8_breath 11 = .ok (.ireturn, 1) := by decide +kernel
theorem dX8_breath_12 : decode cX8_breath 12 = .ok (.aload_n 0, 1) := by decide +kernel
theorem dX8_breath_13 : decode cX8_breath 13 = .ok (.getfield 68, 3) := by decide +kernel
theorem dX8_breath_16 : decode cX8_breath 16 = .ok (.istore_n 2, 1) := by decide +kernel
theorem dX8_breath_17 : decode cX8_breath 17 = .ok (.iload_n 2, 1) := by decide +kernel
theorem dX8_breath_18 : decode cX8_breath 18 = .ok (.iload_n 1, 1) := by decide +kernel
theorem dX8_breath_19 : decode cX8_breath 19 = .ok (.if_icmp .ne 6, 3) := by decide +kernel
theorem dX8_breath_22 : decode cX8_breath 22 = .ok (.bipush (-2), 2) := by decide +kernel
theorem dX8_breath_24 : decode cX8_breath 24 = .ok (.ireturn, 1) := by decide +kernel
theorem dX8_breath_25 : decode cX8_breath 25 = .ok (.aload_n 0, 1) := by decide +kernel
theorem dX8_breath_26 : decode cX8_breath 26 = .ok (.iload_n 1, 1) := by decide +kernel
theorem dX8_breath_27 : decode cX8_breath 27 = .ok (.putfield 68, 3) := by decide +kernel
theorem dX8_breath_30 : decode cX8_breath 30 = .ok (.aload_n 0, 1) := by decide +kernel
theorem dX8_breath_31 : decode cX8_breath 31 = .ok (.invokevirtual 77, 3) := by decide +kernel
theorem dX8_breath_34 : decode cX8_breath 34 = .ok (.iload_n 2, 1) := by decide +kernel
theorem dX8_breath_35 : decode cX8_breath 35 = .ok (.ireturn, 1) := by decide +kernel
theorem plX8_68 : PL RX8 68 8 3 .int := ⟨_, _, _, rfl, by decide, uwX8, Or.inl (tb_mem (t_in4 (List.mem_of_getElem? (i := 111) (by decide +kernel))) (by decide +kernel)), rfl, by decide +kernel, tyX8, tyX8_ok, nmX8⟩
theorem ivX8_77 : IV RX8 77 yX8_clears cX8_clears 2 none 0 := ⟨(tb_mem (t_in4 (List.mem_of_getElem? (i := 104) (by decide +kernel))) (by decide +kernel)), (tb_mem (t_in4 (List.mem_of_getElem? (i := 106) (by decide +kernel))) (by decide +kernel)), (tb_sel (q := (⟨"GapTellingsModel", "clears", "()V"⟩, 29)) (List.mem_of_getElem? (i := 8) (by decide +kernel)) (by decide +kernel)), (tb_mem (t_in1 (List.mem_of_getElem? (i := 16) (by decide +kernel))) (by decide +kernel)), (tb_mem (t_in4 (List.mem_of_getElem? (i := 107) (by decide +kernel))) (by decide +kernel)), ⟨by decide +kernel, by decide +kernel, by decide +kernel⟩⟩
set_option maxHeartbeats 4000000 in
set_option maxRecDepth 20000 in
theorem sgX8_breath_0 {κ : Kx} {K : Kont} {M : Mem} (C : Cx κ RX8 cX8_breath 3 (some .int) rmX8_breath domM) (x1 : Int)
    (h :
    spX8_isIn x1 0 9 M (rI (fun r4 M4 =>
    ((r4 ≠ 0 →
      (((M4 30 0 3) ≠ x1 →
        ∀ M27 : Mem, M27 = up3 M4 30 0 3 x1 →
        spX8_clears M27 (rV (fun M31 =>
        K (some (M4 30 0 3)) M31))) ∧
       (¬ ((M4 30 0 3) ≠ x1) →
        K (some (-2)) M4))) ∧
     (¬ (r4 ≠ 0) →
      K (some (-1)) M4))))) : V κ 3 M 0 [some (.inr (30, 0)), some (.inl x1), none] [] K := by
  refine v_iload_n C dX8_breath_0 rfl ?_
  refine v_iconst C dX8_breath_1 (by decide) ?_
  refine v_bipush C dX8_breath_2 (by decide) (by decide) ?_
  refine v_invS C ctX8_isIn dX8_breath_4 ivX8_97 ⟨by decide, by decide, rfl, rfl⟩ ((x1, 0, 9) : Int × Int × Int) rfl (st := []) rfl (Nat.le_of_ble_eq_true rfl) h (fun o M4 oM4 io4 g4 => ?_)
  replace h := rI_out g4
  clear g4
  obtain ⟨r4, rfl, h⟩ := h
  refine v_push ?_
  refine v_if C dX8_breath_7 (tgt := 12) (by decide) (P := r4 ≠ 0) rfl (fun c7 => ?_) (fun c7 => ?_)
  · replace h := h.1 c7
    refine v_aload_n C dX8_breath_12 rfl ?_
    refine v_get C dX8_breath_13 flX8_68 rfl (by decide) (by decide) (w := .inl (M4 30 0 3)) rfl ?_
    refine v_istore_n C dX8_breath_16 (by decide) (Nat.le_of_ble_eq_true rfl) (lv' := [some (.inr (30, 0)), some (.inl x1), some (.inl (M4 30 0 3))]) rfl ?_
    refine v_iload_n C dX8_breath_17 rfl ?_
    refine v_iload_n C dX8_breath_18 rfl ?_
    refine v_icmp C dX8_breath_19 (tgt := 25) (by decide) (P := (M4 30 0 3) ≠ x1) rfl (fun c19 => ?_) (fun c19 => ?_)
    · replace h := h.1 c19
      refine v_aload_n C dX8_breath_25 rfl ?_
      refine v_iload_n C dX8_breath_26 rfl ?_
      refine v_put C dX8_breath_27 plX8_68 rfl (by decide) (by decide) rfl rfl rfl ?_
      refine v_nmM (fun M27 eM27 => ?_)
      replace h := h M27 eM27
      refine v_aload_n C dX8_breath_30 rfl ?_
      refine v_invV C ctX8_clears dX8_breath_31 ivX8_77 ⟨by decide, by decide, rfl, rfl⟩ (() : Unit) (As := []) rfl rfl rfl (by decide) rfl (st := []) rfl (Nat.le_of_ble_eq_true rfl) h (fun o M31 oM31 io31 g31 => ?_)
      replace h := rV_out g31
      clear g31
      obtain ⟨rfl, h⟩ := h
      refine v_push0 ?_
      refine v_iload_n C dX8_breath_34 rfl ?_
      exact v_iret C dX8_breath_35 h
    · replace h := h.2 c19
      refine v_bipush C dX8_breath_22 (by decide) (by decide) ?_
      exact v_iret C dX8_breath_24 h
  · replace h := h.2 c7
    refine v_iconst C dX8_breath_10 (by decide) ?_
    exact v_iret C dX8_breath_11 h
abbrev spX8_breath (b : Int) (M : Mem) (K : Kont) : Prop := InvM M ∧ (¬ (0 ≤ b ∧ b ≤ 9) → K (some (-1)) M) ∧ ((0 ≤ b ∧ b ≤ 9) → mFilm M 1 0 0 = b → K (some (-2)) M) ∧
  ((0 ≤ b ∧ b ≤ 9) → mFilm M 1 0 0 ≠ b → ∀ M', InvM M' → ChM M M' (sFB (mFilm M) b) (fun _ => -4) (fun _ => -4) → K (some (mFilm M 1 0 0)) M')
theorem ctX8_breath : CtX8_breath spX8_breath := by
  refine ct_of (by decide) dmM (fun _ => Nat.le_of_ble_eq_true rfl) ?_
  intro κ b M K C oM h
  dsimp only [spX8_breath] at h
  obtain ⟨hI, k1, k2, k3⟩ := h
  refine sgX8_breath_0 C b ⟨fun c => ?_, fun c => k1 (fun z => if10n (by omega) z)⟩
  have c1 := if10 c
  refine ⟨fun c5 N e N2 hc => ?_, fun c5 => k2 (by omega) (by exact Classical.byContradiction c5)⟩
  have hf : mFilm N = sFB (mFilm M) b := by
    rw [e]
    funext t a b
    unfold mFilm sFB
    split <;> simp [up3]
    simp_all
  have o : ∀ r i j, ¬ (r = 30 ∧ j = 3) → N r i j = M r i j := fun r i j q => by rw [e]; exact if_neg (fun z => q ⟨z.1, z.2.2⟩)
  have hc1 : ∀ r i, ¬ ((r = 45 ∨ r = 46) ∧ i = 0) → N2 r i = N r i := hc.1
  have f2 : mFilm N2 = mFilm N := mFilm_eq (fun j hj => by rw [hc1 30 0 (by omega)]) (fun r hr => hc1 r 0 (by omega))
  refine k3 c1 c5 N2 ⟨by rw [hc1 30 0 (by omega), o 30 0 0 (by omega)]; exact hI.1, by rw [f2, hf]; exact wf_B hI.2.1 c1, fun q a b => Or.inl (hc.2 q a b)⟩ ⟨fun r x => by funext i j; rw [hc1 r i (by omega), o r i j (by omega)], by rw [hc1 30 0 (by omega), o 30 0 0 (by omega)], by funext j; rw [hc1 31 0 (by omega), o 31 0 j (by omega)], by rw [f2, hf]; exact FEq.rf, fun q a b => ⟨(hc.2 q a b).1.symm, (hc.2 q a b).2.symm⟩⟩
/-! ===== GapTellingsModel.hush ===== -/
abbrev rmX8_hush : Room := { frames := 1, cells := 0, slots := 0, locals := 22 }
abbrev argX8_hush (a : Int) : List PV := [.inr (30, 0), .inl a]
abbrev CtX8_hush (sp : Int → Mem → Kont → Prop) : Prop := Ct yX8_hush cX8_hush 3 (some .int) rmX8_hush domM argX8_hush (fun a => sp a)
theorem dX8_hush_0 : decode cX8_hush 0 = .ok (.iload_n 1, 1) := by decide +kernel
theorem dX8_hush_1 : decode cX8_hush 1 = .ok (.iconst 0, 1) := by decide +kernel
theorem dX8_hush_2 : decode cX8_hush 2 = .ok (.aload_n 0, 1) := by decide +kernel
theorem dX8_hush_3 : decode cX8_hush 3 = .ok (.getfield 71, 3) := by decide +kernel
theorem dX8_hush_6 : decode cX8_hush 6 = .ok (.iconst 1, 1) := by decide +kernel
theorem dX8_hush_7 : decode cX8_hush 7 = .ok (.isub, 1) := by decide +kernel
theorem dX8_hush_8 : decode cX8_hush 8 = .ok (.invokestatic 97, 3) := by decide +kernel
theorem dX8_hush_11 : decode cX8_hush 11 = .ok (.ifCond .ne 5, 3) := by decide +kernel
theorem dX8_hush_14 : decode cX8_hush 14 = .ok (.iconst (-1), 1) := by decide +kernel
theorem dX8_hush_15 : decode cX8_hush 15 = .ok (.ireturn, 1) := by decide +kernel
theorem dX8_hush_16 : decode cX8_hush 16 = .ok (.aload_n 0, 1) := by decide +kernel
theorem dX8_hush_17 : decode cX8_hush 17 = .ok (.dup, 1) := by decide +kernel
theorem dX8_hush_18 : decode cX8_hush 18 = .ok (.getfield 71, 3) := by decide +kernel
theorem dX8_hush_21 : decode cX8_hush 21 = .ok (.iconst 1, 1) := by decide +kernel
theorem dX8_hush_22 : decode cX8_hush 22 = .ok (.isub, 1) := by decide +kernel
theorem dX8_hush_23 : decode cX8_hush 23 = .ok (.putfield 71, 3) := by decide +kernel
theorem dX8_hush_26 : decode cX8_hush 26 = .ok (.iconst 3, 1) := by decide +kernel
theorem dX8_hush_27 : decode cX8_hush 27 = .ok (.iload_n 1, 1) := by decide +kernel
theorem dX8_hush_28 : decode cX8_hush 28 = .ok (.imul, 1) := by decide +kernel
theorem dX8_hush_29 : decode cX8_hush 29 = .ok (.istore_n 2, 1) := by decide +kernel
theorem dX8_hush_30 : decode cX8_hush 30 = .ok (.iload_n 2, 1) := by decide +kernel
theorem dX8_hush_31 : decode cX8_hush 31 = .ok (.iconst 3, 1) := by decide +kernel
theorem dX8_hush_32 : decode cX8_hush 32 = .ok (.aload_n 0, 1) := by decide +kernel
theorem dX8_hush_33 : decode cX8_hush 33 = .ok (.getfield 71, 3) := by decide +kernel
theorem dX8_hush_36 : decode cX8_hush 36 = .ok (.imul, 1) := by decide +kernel
theorem dX8_hush_37 : decode cX8_hush 37 = .ok (.if_icmp .ge 23, 3) := by decide +kernel
theorem dX8_hush_40 : decode cX8_hush 40 = .ok (.aload_n 0, 1) := by decide +kernel
theorem dX8_hush_41 : decode cX8_hush 41 = .ok (.getfield 13, 3) := by decide +kernel
theorem dX8_hush_44 : decode cX8_hush 44 = .ok (.iload_n 2, 1) := by decide +kernel
theorem dX8_hush_45 : decode cX8_hush 45 = .ok (.aload_n 0, 1) := by decide +kernel
theorem dX8_hush_46 : decode cX8_hush 46 = .ok (.getfield 13, 3) := by decide +kernel
theorem dX8_hush_49 : decode cX8_hush 49 = .ok (.iload_n 2, 1) := by decide +kernel
theorem dX8_hush_50 : decode cX8_hush 50 = .ok (.iconst 3, 1) := by decide +kernel
theorem dX8_hush_51 : decode cX8_hush 51 = .ok (.iadd, 1) := by decide +kernel
theorem dX8_hush_52 : decode cX8_hush 52 = .ok (.iaload, 1) := by decide +kernel
theorem dX8_hush_53 : decode cX8_hush 53 = .ok (.iastore, 1) := by decide +kernel
theorem dX8_hush_54 : decode cX8_hush 54 = .ok (.iinc 2 1, 3) := by decide +kernel
theorem dX8_hush_57 : decode cX8_hush 57 = .ok (.goto (-27), 3) := by decide +kernel
theorem dX8_hush_60 : decode cX8_hush 60 = .ok (.aload_n 0, 1) := by decide +kernel
theorem dX8_hush_61 : decode cX8_hush 61 = .ok (.getfield 71, 3) := by decide +kernel
theorem dX8_hush_64 : decode cX8_hush 64 = .ok (.ireturn, 1) := by decide +kernel
theorem plX8_71 : PL RX8 71 8 4 .int := ⟨_, _, _, rfl, by decide, uwX8, Or.inl (tb_mem (t_in4 (List.mem_of_getElem? (i := 112) (by decide +kernel))) (by decide +kernel)), rfl, by decide +kernel, tyX8, tyX8_ok, nmX8⟩
set_option maxHeartbeats 4000000 in
set_option maxRecDepth 20000 in
theorem sgX8_hush_0 {κ : Kx} {K : Kont} {M : Mem} (C : Cx κ RX8 cX8_hush 3 (some .int) rmX8_hush domM) (x1 : Int)
    (h :
    inR ((M 30 0 4) - 1) ∧
    spX8_isIn x1 0 ((M 30 0 4) - 1) M (rI (fun r8 M8 =>
    ((r8 ≠ 0 →
      inR ((M8 30 0 4) - 1) ∧
      ∀ M23 : Mem, M23 = up3 M8 30 0 4 ((M8 30 0 4) - 1) →
      inR (3 * x1) ∧
      ∀ y2_29 : Int, y2_29 = 3 * x1 →
      V κ 3 M23 30 [some (.inr (30, 0)), none, some (.inl y2_29)] [] K) ∧
     (¬ (r8 ≠ 0) →
      K (some (-1)) M8))))) : V κ 3 M 0 [some (.inr (30, 0)), some (.inl x1), none] [] K := by
  refine v_iload_n C dX8_hush_0 rfl ?_
  refine v_iconst C dX8_hush_1 (by decide) ?_
  refine v_aload_n C dX8_hush_2 rfl ?_
  refine v_get C dX8_hush_3 flX8_71 rfl (by decide) (by decide) (w := .inl (M 30 0 4)) rfl ?_
  refine v_iconst C dX8_hush_6 (by decide) ?_
  refine v_isub C dX8_hush_7 h.1 ?_
  replace h := h.2
  refine v_invS C ctX8_isIn dX8_hush_8 ivX8_97 ⟨by decide, by decide, rfl, rfl⟩ ((x1, 0, (M 30 0 4) - 1) : Int × Int × Int) rfl (st := []) rfl (Nat.le_of_ble_eq_true rfl) h (fun o M8 oM8 io8 g8 => ?_)
  replace h := rI_out g8
  clear g8
  obtain ⟨r8, rfl, h⟩ := h
  refine v_push ?_
  refine v_if C dX8_hush_11 (tgt := 16) (by decide) (P := r8 ≠ 0) rfl (fun c11 => ?_) (fun c11 => ?_)
  · replace h := h.1 c11
    refine v_aload_n C dX8_hush_16 rfl ?_
    refine v_dup C dX8_hush_17 ?_
    refine v_get C dX8_hush_18 flX8_71 rfl (by decide) (by decide) (w := .inl (M8 30 0 4)) rfl ?_
    refine v_iconst C dX8_hush_21 (by decide) ?_
    refine v_isub C dX8_hush_22 h.1 ?_
    replace h := h.2
    refine v_put C dX8_hush_23 plX8_71 rfl (by decide) (by decide) rfl rfl rfl ?_
    refine v_nmM (fun M23 eM23 => ?_)
    replace h := h M23 eM23
    refine v_iconst C dX8_hush_26 (by decide) ?_
    refine v_iload_n C dX8_hush_27 rfl ?_
    refine v_imul C dX8_hush_28 h.1 ?_
    replace h := h.2
    refine v_nm (fun y2_29 ey2_29 => ?_)
    replace h := h y2_29 ey2_29
    refine v_istore_n C dX8_hush_29 (by decide) (Nat.le_of_ble_eq_true rfl) (lv' := [some (.inr (30, 0)), some (.inl x1), some (.inl y2_29)]) rfl ?_
    refine v_weak [some (.inr (30, 0)), none, some (.inl y2_29)] ⟨rfl, rfl, trivial⟩ ?_
    exact h
  · replace h := h.2 c11
    refine v_iconst C dX8_hush_14 (by decide) ?_
    exact v_iret C dX8_hush_15 h
set_option maxHeartbeats 4000000 in
set_option maxRecDepth 20000 in
theorem sgX8_hush_30 {κ : Kx} {K : Kont} {M : Mem} (C : Cx κ RX8 cX8_hush 3 (some .int) rmX8_hush domM) (x2 : Int)
    (h :
    inR (3 * (M 30 0 4)) ∧
    (((3 * (M 30 0 4)) ≤ x2 →
      K (some (M 30 0 4)) M) ∧
     (¬ ((3 * (M 30 0 4)) ≤ x2) →
      inR (x2 + 3) ∧
      (0 ≤ (x2 + 3) ∧ (x2 + 3) < 36) ∧
      (0 ≤ x2 ∧ x2 < 36) ∧
      ∀ M53 : Mem, M53 = up3 M 35 0 x2 (M 35 0 (x2 + 3)) →
      inR (x2 + 1) ∧
      V κ 3 M53 30 [some (.inr (30, 0)), none, some (.inl (x2 + 1))] [] K))) : V κ 3 M 30 [some (.inr (30, 0)), none, some (.inl x2)] [] K := by
  refine v_iload_n C dX8_hush_30 rfl ?_
  refine v_iconst C dX8_hush_31 (by decide) ?_
  refine v_aload_n C dX8_hush_32 rfl ?_
  refine v_get C dX8_hush_33 flX8_71 rfl (by decide) (by decide) (w := .inl (M 30 0 4)) rfl ?_
  refine v_imul C dX8_hush_36 h.1 ?_
  replace h := h.2
  refine v_icmp C dX8_hush_37 (tgt := 60) (by decide) (P := (3 * (M 30 0 4)) ≤ x2) rfl (fun c37 => ?_) (fun c37 => ?_)
  · replace h := h.1 c37
    refine v_aload_n C dX8_hush_60 rfl ?_
    refine v_get C dX8_hush_61 flX8_71 rfl (by decide) (by decide) (w := .inl (M 30 0 4)) rfl ?_
    exact v_iret C dX8_hush_64 h
  · replace h := h.2 c37
    refine v_aload_n C dX8_hush_40 rfl ?_
    refine v_get C dX8_hush_41 flX8_13 rfl (by decide) (by decide) (w := .inr (35, 0)) rfl ?_
    refine v_iload_n C dX8_hush_44 rfl ?_
    refine v_aload_n C dX8_hush_45 rfl ?_
    refine v_get C dX8_hush_46 flX8_13 rfl (by decide) (by decide) (w := .inr (35, 0)) rfl ?_
    refine v_iload_n C dX8_hush_49 rfl ?_
    refine v_iconst C dX8_hush_50 (by decide) ?_
    refine v_iadd C dX8_hush_51 h.1 ?_
    replace h := h.2
    refine v_iald C dX8_hush_52 rfl h.1.1 h.1.2 ?_
    replace h := h.2
    refine v_iast C dX8_hush_53 rfl h.1.1 h.1.2 ?_
    replace h := h.2
    refine v_nmM (fun M53 eM53 => ?_)
    replace h := h M53 eM53
    refine v_iinc C dX8_hush_54 (by decide) rfl h.1 (lv' := [some (.inr (30, 0)), none, some (.inl (x2 + 1))]) rfl ?_
    replace h := h.2
    refine v_goto C dX8_hush_57 (tgt := 30) (by decide) ?_
    refine v_weak [some (.inr (30, 0)), none, some (.inl (x2 + 1))] ⟨rfl, rfl, trivial⟩ ?_
    exact h
abbrev spX8_hush (s : Int) (M : Mem) (K : Kont) : Prop := InvM M ∧ (¬ (0 ≤ s ∧ s < mFilm M 2 0 0) → K (some (-1)) M) ∧
  ((0 ≤ s ∧ s < mFilm M 2 0 0) → ∀ M', InvM M' → ChM M M' (dpF (mFilm M) s) (M 45 0) (M 46 0) → K (some (mFilm M 2 0 0 - 1)) M')
theorem ctX8_hush : CtX8_hush spX8_hush := by
  refine ct_of (by decide) dmM (fun _ => Nat.le_of_ble_eq_true rfl) ?_
  intro κ s M K C oM h
  dsimp only [spX8_hush] at h
  obtain ⟨hI, k1, k2⟩ := h
  have n2 : (0 ≤ M 30 0 4 ∧ M 30 0 4 ≤ 12) := hI.2.1.2.2.1
  have e2 : mFilm M 2 0 0 = M 30 0 4 := rfl
  refine sgX8_hush_0 C s ⟨by omega, fun c => ?_, fun c => k1 (fun z => if10n (by omega) (by omega))⟩
  have c1 := if10 c
  refine ⟨by omega, fun N0 e0 => ⟨by omega, fun y ey => ?_⟩⟩
  have loop : ∀ (n : Nat) (k : Int) (N : Mem), 3 * s ≤ k → k + n = 3 * (M 30 0 4 - 1) → (∀ r i j, ¬ (r = 30 ∧ j = 4) → r ≠ 35 → N r i j = M r i j) → N 30 0 4 = M 30 0 4 - 1 → (∀ j, N 35 0 j = if 3 * s ≤ j ∧ j < k then M 35 0 (j + 3) else M 35 0 j) →
      V κ 3 N 30 [some (.inr (30, 0)), none, some (.inl k)] [] K := by
    intro n
    induction n with
    | zero =>
      intro k N k0 hn hA h4 h35
      refine sgX8_hush_30 C k ⟨by omega, fun _ => ?_, fun c => absurd (by omega) c⟩
      have hk : k = 3 * (M 30 0 4 - 1) := by omega
      have p1 : N 45 0 = M 45 0 := by funext j; exact hA 45 0 j (by omega) (by omega)
      have p2 : N 46 0 = M 46 0 := by funext j; exact hA 46 0 j (by omega) (by omega)
      have o : ∀ r, r = 37 ∨ r = 38 → N r 0 = M r 0 := fun r hr => by funext j; exact hA r 0 j (by omega) (by omega)
      have hg : FEq (dpF (mFilm M) s) (mFilm N) := by
        have d2 : dpF (mFilm M) s 2 0 0 = M 30 0 4 - 1 := by simp [dpF, e2]
        have o37 := o 37 (by decide)
        have o38 := o 38 (by decide)
        refine ⟨?_, ?_, ?_, ?_, fun w a b => ?_, fun x a b => ?_, fun p a b => ?_⟩
        · simp [dpF, mFilm, hA 30 0 2 (by omega) (by omega)]
        · simp [dpF, mFilm, hA 30 0 3 (by omega) (by omega)]
        · rw [d2]; exact h4.symm
        · simp [dpF, mFilm, hA 30 0 6 (by omega) (by omega)]
        · simp [dpF, mFilm, o38]
        · rw [d2] at b
          have f5 : ∀ t, t = 5 ∨ t = 6 ∨ t = 7 → dpF (mFilm M) s t x 0 = if s ≤ x then mFilm M t (x + 1) 0 else mFilm M t x 0 := by
            intro t ht
            unfold dpF
            rw [if_neg (by omega)]
            by_cases c : s ≤ x
            · rw [if_pos ⟨ht, c, by omega⟩, if_pos c]
            · rw [if_neg (fun z => c z.2.1), if_neg c]
          rw [f5 5 (by decide), f5 6 (by decide), f5 7 (by decide)]
          show _ = N 35 0 (3 * x) ∧ _ = N 35 0 (3 * x + 1) ∧ _ = N 35 0 (3 * x + 2)
          rw [h35, h35, h35]
          by_cases c : s ≤ x
          · rw [if_pos c, if_pos c, if_pos c, if_pos (by omega), if_pos (by omega), if_pos (by omega)]
            show M 35 0 (3 * (x + 1)) = _ ∧ M 35 0 (3 * (x + 1) + 1) = _ ∧ M 35 0 (3 * (x + 1) + 2) = _
            refine ⟨?_, ?_, ?_⟩ <;> (congr 1; omega)
          · rw [if_neg c, if_neg c, if_neg c, if_neg (by omega), if_neg (by omega), if_neg (by omega)]
            exact ⟨rfl, rfl, rfl⟩
        · simp [dpF, mFilm, o37]
      have hw := hg.wf (wf_D hI.2.1 (by omega))
      have e : N 30 0 4 = mFilm M 2 0 0 - 1 := by omega
      rw [e]
      have hP : PlK (mFilm N) (N 45 0) (N 46 0) := by
        rw [p1, p2]
        refine PlK_mono (by simp [mFilm, hA 30 0 2 (by omega) (by omega)]) (by simp [mFilm, hA 30 0 6 (by omega) (by omega)]) (fun p _ _ => by simp [mFilm, o 37 (by decide)]) hI.2.2
      refine k2 (by omega) N ⟨by rw [hA 30 0 0 (by omega) (by omega)]; exact hI.1, hw, hP⟩ ⟨fun r x => by funext i j; exact hA r i j (by omega) (by omega), hA 30 0 0 (by omega) (by omega), by funext j; exact hA 31 0 j (by omega) (by omega), hg, by rw [p1, p2]; exact PlEq.rfl'⟩
    | succ n ih =>
      intro k N k0 hn hA h4 h35
      refine sgX8_hush_30 C k ⟨by omega, fun c => absurd c (by omega), fun c => ⟨by omega, by omega, by omega, fun N1 e1 => ⟨by omega, ?_⟩⟩⟩
      refine ih (k + 1) N1 (by omega) (by omega) (fun r i j a b => by rw [e1, up3_r _ _ _ _ _ b]; exact hA r i j a b) (by rw [e1, up3_r _ _ _ _ _ (by decide)]; exact h4) (fun j => ?_)
      rw [e1]
      by_cases ej : j = k
      · rw [ej, up3_s, if_pos (by omega), h35, if_neg (by omega)]
      · rw [up3_j _ _ _ _ _ ej, h35]
        by_cases c2 : 3 * s ≤ j ∧ j < k
        · rw [if_pos c2, if_pos (by omega)]
        · rw [if_neg c2, if_neg (by omega)]
  rw [ey]
  refine loop (3 * (M 30 0 4 - 1) - 3 * s).toNat (3 * s) N0 (by omega) (by omega) (fun r i j a b => by rw [e0]; exact if_neg (fun z => a ⟨z.1, z.2.2⟩)) (by rw [e0, up3_s]) (fun j => by rw [e0, up3_r _ _ _ _ _ (by decide), if_neg (by omega)])
/-! ===== GapTellingsModel.version ===== -/
abbrev rmX8_version : Room := { frames := 2, cells := 0, slots := 0, locals := 43 }
abbrev argX8_version (a : Int × Int × Int) : List PV := [.inr (30, 0), .inl a.1, .inl a.2.1, .inl a.2.2]
abbrev CtX8_version (sp : Int → Int → Int → Mem → Kont → Prop) : Prop := Ct yX8_version cX8_version 5 (some .int) rmX8_version domM argX8_version (fun a => sp a.1 a.2.1 a.2.2)
theorem dX8_version_0 : decode cX8_version 0 = .ok (.aload_n 0, 1) := by decide +kernel
theorem dX8_version_1 : decode cX8_version 1 = .ok (.iload_n 1, 1) := by decide +kernel
theorem dX8_version_2 : decode cX8_version 2 = .ok (.invokevirtual 144, 3) := by decide +kernel
theorem dX8_version_5 : decode cX8_version 5 = .ok (.ifCond .eq 23, 3) := by decide +kernel
theorem dX8_version_8 : decode cX8_version 8 = .ok (.iload_n 2, 1) := by decide +kernel
theorem dX8_version_9 : decode cX8_version 9 = .ok (.iconst 1, 1) := by decide +kernel
theorem dX8_version_10 : decode cX8_version 10 = .ok (.bipush 30, 2) := by decide +kernel
theorem dX8_version_12 : decode cX8_version 12 = .ok (.invokestatic 97, 3) := by decide +kernel
theorem dX8_version_15 : decode cX8_version 15 = .ok (.ifCond .eq 13, 3) := by decide +kernel
theorem dX8_version_18 : decode cX8_version 18 = .ok (.iload_n 3, 1) := by decide +kernel
theorem dX8_version_19 : decode cX8_version 19 = .ok (.iconst 1, 1) := by decide +kernel
theorem dX8_version_20 : decode cX8_version 20 = .ok (.bipush 99, 2) := by decide +kernel
theorem dX8_version_22 : decode cX8_version 22 = .ok (.invokestatic 97, 3) := by decide +kernel
theorem dX8_version_25 : decode cX8_version 25 = .ok (.ifCond .ne 5, 3) := by decide +kernel
theorem dX8_version_28 : decode cX8_version 28 = .ok (.iconst (-1), 1) := by decide +kernel
theorem dX8_version_29 : decode cX8_version 29 = .ok (.ireturn, 1) := by decide +kernel
theorem dX8_version_30 : decode cX8_version 30 = .ok (.aload_n 0, 1) := by decide +kernel
theorem dX8_version_31 : decode cX8_version 31 = .ok (.getfield 16, 3) := by decide +kernel
theorem dX8_version_34 : decode cX8_version 34 = .ok (.bipush 11, 2) := by decide +kernel
theorem dX8_version_36 : decode cX8_version 36 = .ok (.iload_n 1, 1) := by decide +kernel
theorem dX8_version_37 : decode cX8_version 37 = .ok (.imul, 1) := by decide +kernel
theorem dX8_version_38 : decode cX8_version 38 = .ok (.iconst 3, 1) := by decide +kernel
theorem dX8_version_39 : decode cX8_version 39 = .ok (.iadd, 1) := by decide +kernel
theorem dX8_version_40 : decode cX8_version 40 = .ok (.iaload, 1) := by decide +kernel
theorem dX8_version_41 : decode cX8_version 41 = .ok (.istore 4, 2) := by decide +kernel
theorem dX8_version_43 : decode cX8_version 43 = .ok (.iload 4, 2) := by decide +kernel
theorem dX8_version_45 : decode cX8_version 45 = .ok (.iconst 3, 1) := by decide +kernel
theorem dX8_version_46 : decode cX8_version 46 = .ok (.if_icmp .ne 6, 3) := by decide +kernel
theorem dX8_version_49 : decode cX8_version 49 = .ok (.bipush (-3), 2) := by decide +kernel
theorem dX8_version_51 : decode cX8_version 51 = .ok (.ireturn, 1) := by decide +kernel
theorem dX8_version_52 : decode cX8_version 52 = .ok (.aload_n 0, 1) := by decide +kernel
theorem dX8_version_53 : decode cX8_version 53 = .ok (.getfield 16, 3) := by decide +kernel
theorem dX8_version_56 : decode cX8_version 56 = .ok (.bipush 11, 2) := by decide +kernel
theorem dX8_version_58 : decode cX8_version 58 = .ok (.iload_n 1, 1) := by decide +kernel
theorem dX8_version_59 : decode cX8_version 59 = .ok (.imul, 1) := by decide +kernel
theorem dX8_version_60 : decode cX8_version 60 = .ok (.iconst 5, 1) := by decide +kernel
theorem dX8_version_61 : decode cX8_version 61 = .ok (.iadd, 1) := by decide +kernel
theorem dX8_version_62 : decode cX8_version 62 = .ok (.iconst 2, 1) := by decide +kernel
theorem dX8_version_63 : decode cX8_version 63 = .ok (.iload 4, 2) := by decide +kernel
theorem dX8_version_65 : decode cX8_version 65 = .ok (.imul, 1) := by decide +kernel
theorem dX8_version_66 : decode cX8_version 66 = .ok (.iadd, 1) := by decide +kernel
theorem dX8_version_67 : decode cX8_version 67 = .ok (.iload_n 2, 1) := by decide +kernel
theorem dX8_version_68 : decode cX8_version 68 = .ok (.iastore, 1) := by decide +kernel
theorem dX8_version_69 : decode cX8_version 69 = .ok (.aload_n 0, 1) := by decide +kernel
theorem dX8_version_70 : decode cX8_version 70 = .ok (.getfield 16, 3) := by decide +kernel
theorem dX8_version_73 : decode cX8_version 73 = .ok (.bipush 11, 2) := by decide +kernel
theorem dX8_version_75 : decode cX8_version 75 = .ok (.iload_n 1, 1) := by decide +kernel
theorem dX8_version_76 : decode cX8_version 76 = .ok (.imul, 1) := by decide +kernel
theorem dX8_version_77 : decode cX8_version 77 = .ok (.bipush 6, 2) := by decide +kernel
theorem dX8_version_79 : decode cX8_version 79 = .ok (.iadd, 1) := by decide +kernel
theorem dX8_version_80 : decode cX8_version 80 = .ok (.iconst 2, 1) := by decide +kernel
theorem dX8_version_81 : decode cX8_version 81 = .ok (.iload 4, 2) := by decide +kernel
theorem dX8_version_83 : decode cX8_version 83 = .ok (.imul, 1) := by decide +kernel
theorem dX8_version_84 : decode cX8_version 84 = .ok (.iadd, 1) := by decide +kernel
theorem dX8_version_85 : decode cX8_version 85 = .ok (.iload_n 3, 1) := by decide +kernel
theorem dX8_version_86 : decode cX8_version 86 = .ok (.iastore, 1) := by decide +kernel
theorem dX8_version_87 : decode cX8_version 87 = .ok (.aload_n 0, 1) := by decide +kernel
theorem dX8_version_88 : decode cX8_version 88 = .ok (.getfield 16, 3) := by decide +kernel
theorem dX8_version_91 : decode cX8_version 91 = .ok (.bipush 11, 2) := by decide +kernel
theorem dX8_version_93 : decode cX8_version 93 = .ok (.iload_n 1, 1) := by decide +kernel
theorem dX8_version_94 : decode cX8_version 94 = .ok (.imul, 1) := by decide +kernel
theorem dX8_version_95 : decode cX8_version 95 = .ok (.iconst 3, 1) := by decide +kernel
theorem dX8_version_96 : decode cX8_version 96 = .ok (.iadd, 1) := by decide +kernel
theorem dX8_version_97 : decode cX8_version 97 = .ok (.iload 4, 2) := by decide +kernel
theorem dX8_version_99 : decode cX8_version 99 = .ok (.iconst 1, 1) := by decide +kernel
theorem dX8_version_100 : decode cX8_version 100 = .ok (.iadd, 1) := by decide +kernel
theorem dX8_version_101 : decode cX8_version 101 = .ok (.iastore, 1) := by decide +kernel
theorem dX8_version_102 : decode cX8_version 102 = .ok (.iload 4, 2) := by decide +kernel
theorem dX8_version_104 : decode cX8_version 104 = .ok (.iconst 1, 1) := by decide +kernel
theorem dX8_version_105 : decode cX8_version 105 = .ok (.iadd, 1) := by decide +kernel
theorem dX8_version_106 : decode cX8_version 106 = .ok (.ireturn, 1) := by decide +kernel
set_option maxHeartbeats 4000000 in
set_option maxRecDepth 20000 in
theorem sgX8_version_0 {κ : Kx} {K : Kont} {M : Mem} (C : Cx κ RX8 cX8_version 5 (some .int) rmX8_version domM) (x1 : Int) (x2 : Int) (x3 : Int)
    (h :
    spX8_isPicture x1 M (rI (fun r2 M2 =>
    ((r2 = 0 →
      K (some (-1)) M2) ∧
     (¬ (r2 = 0) →
      spX8_isIn x2 1 30 M2 (rI (fun r12 M12 =>
      ((r12 = 0 →
        K (some (-1)) M12) ∧
       (¬ (r12 = 0) →
        spX8_isIn x3 1 99 M12 (rI (fun r22 M22 =>
        ((r22 ≠ 0 →
          inR (11 * x1) ∧
          inR ((11 * x1) + 3) ∧
          (0 ≤ ((11 * x1) + 3) ∧ ((11 * x1) + 3) < 77) ∧
          ∀ y4_41 : Int, y4_41 = M22 37 0 ((11 * x1) + 3) →
          ((y4_41 ≠ 3 →
            inR (11 * x1) ∧
            inR ((11 * x1) + 5) ∧
            inR (2 * y4_41) ∧
            inR (((11 * x1) + 5) + (2 * y4_41)) ∧
            (0 ≤ (((11 * x1) + 5) + (2 * y4_41)) ∧ (((11 * x1) + 5) + (2 * y4_41)) < 77) ∧
            ∀ M68 : Mem, M68 = up3 M22 37 0 (((11 * x1) + 5) + (2 * y4_41)) x2 →
            inR (11 * x1) ∧
            inR ((11 * x1) + 6) ∧
            inR (2 * y4_41) ∧
            inR (((11 * x1) + 6) + (2 * y4_41)) ∧
            (0 ≤ (((11 * x1) + 6) + (2 * y4_41)) ∧ (((11 * x1) + 6) + (2 * y4_41)) < 77) ∧
            ∀ M86 : Mem, M86 = up3 M68 37 0 (((11 * x1) + 6) + (2 * y4_41)) x3 →
            inR (11 * x1) ∧
            inR ((11 * x1) + 3) ∧
            inR (y4_41 + 1) ∧
            (0 ≤ ((11 * x1) + 3) ∧ ((11 * x1) + 3) < 77) ∧
            ∀ M101 : Mem, M101 = up3 M86 37 0 ((11 * x1) + 3) (y4_41 + 1) →
            inR (y4_41 + 1) ∧
            K (some (y4_41 + 1)) M101) ∧
           (¬ (y4_41 ≠ 3) →
            K (some (-3)) M22))) ∧
         (¬ (r22 ≠ 0) →
          K (some (-1)) M22))))))))))))) : V κ 5 M 0 [some (.inr (30, 0)), some (.inl x1), some (.inl x2), some (.inl x3), none] [] K := by
  refine v_aload_n C dX8_version_0 rfl ?_
  refine v_iload_n C dX8_version_1 rfl ?_
  refine v_invV C ctX8_isPicture dX8_version_2 ivX8_144 ⟨by decide, by decide, rfl, rfl⟩ (x1 : Int) (As := [.inl x1]) rfl rfl rfl (by decide) rfl (st := []) rfl (Nat.le_of_ble_eq_true rfl) h (fun o M2 oM2 io2 g2 => ?_)
  replace h := rI_out g2
  clear g2
  obtain ⟨r2, rfl, h⟩ := h
  refine v_push ?_
  refine v_if C dX8_version_5 (tgt := 28) (by decide) (P := r2 = 0) rfl (fun c5 => ?_) (fun c5 => ?_)
  · replace h := h.1 c5
    refine v_iconst C dX8_version_28 (by decide) ?_
    exact v_iret C dX8_version_29 h
  · replace h := h.2 c5
    refine v_iload_n C dX8_version_8 rfl ?_
    refine v_iconst C dX8_version_9 (by decide) ?_
    refine v_bipush C dX8_version_10 (by decide) (by decide) ?_
    refine v_invS C ctX8_isIn dX8_version_12 ivX8_97 ⟨by decide, by decide, rfl, rfl⟩ ((x2, 1, 30) : Int × Int × Int) rfl (st := []) rfl (Nat.le_of_ble_eq_true rfl) h (fun o M12 oM12 io12 g12 => ?_)
    replace h := rI_out g12
    clear g12
    obtain ⟨r12, rfl, h⟩ := h
    refine v_push ?_
    refine v_if C dX8_version_15 (tgt := 28) (by decide) (P := r12 = 0) rfl (fun c15 => ?_) (fun c15 => ?_)
    · replace h := h.1 c15
      refine v_iconst C dX8_version_28 (by decide) ?_
      exact v_iret C dX8_version_29 h
    · replace h := h.2 c15
      refine v_iload_n C dX8_version_18 rfl ?_
      refine v_iconst C dX8_version_19 (by decide) ?_
      refine v_bipush C dX8_version_20 (by decide) (by decide) ?_
      refine v_invS C ctX8_isIn dX8_version_22 ivX8_97 ⟨by decide, by decide, rfl, rfl⟩ ((x3, 1, 99) : Int × Int × Int) rfl (st := []) rfl (Nat.le_of_ble_eq_true rfl) h (fun o M22 oM22 io22 g22 => ?_)
      replace h := rI_out g22
      clear g22
      obtain ⟨r22, rfl, h⟩ := h
      refine v_push ?_
      refine v_if C dX8_version_25 (tgt := 30) (by decide) (P := r22 ≠ 0) rfl (fun c25 => ?_) (fun c25 => ?_)
      · replace h := h.1 c25
        refine v_aload_n C dX8_version_30 rfl ?_
        refine v_get C dX8_version_31 flX8_16 rfl (by decide) (by decide) (w := .inr (37, 0)) rfl ?_
        refine v_bipush C dX8_version_34 (by decide) (by decide) ?_
        refine v_iload_n C dX8_version_36 rfl ?_
        refine v_imul C dX8_version_37 h.1 ?_
        replace h := h.2
        refine v_iconst C dX8_version_38 (by decide) ?_
        refine v_iadd C dX8_version_39 h.1 ?_
        replace h := h.2
        refine v_iald C dX8_version_40 rfl h.1.1 h.1.2 ?_
        replace h := h.2
        refine v_nm (fun y4_41 ey4_41 => ?_)
        replace h := h y4_41 ey4_41
        refine v_istore C dX8_version_41 (by decide) (Nat.le_of_ble_eq_true rfl) (lv' := [some (.inr (30, 0)), some (.inl x1), some (.inl x2), some (.inl x3), some (.inl y4_41)]) rfl ?_
        refine v_iload C dX8_version_43 rfl ?_
        refine v_iconst C dX8_version_45 (by decide) ?_
        refine v_icmp C dX8_version_46 (tgt := 52) (by decide) (P := y4_41 ≠ 3) rfl (fun c46 => ?_) (fun c46 => ?_)
        · replace h := h.1 c46
          refine v_aload_n C dX8_version_52 rfl ?_
          refine v_get C dX8_version_53 flX8_16 rfl (by decide) (by decide) (w := .inr (37, 0)) rfl ?_
          refine v_bipush C dX8_version_56 (by decide) (by decide) ?_
          refine v_iload_n C dX8_version_58 rfl ?_
          refine v_imul C dX8_version_59 h.1 ?_
          replace h := h.2
          refine v_iconst C dX8_version_60 (by decide) ?_
          refine v_iadd C dX8_version_61 h.1 ?_
          replace h := h.2
          refine v_iconst C dX8_version_62 (by decide) ?_
          refine v_iload C dX8_version_63 rfl ?_
          refine v_imul C dX8_version_65 h.1 ?_
          replace h := h.2
          refine v_iadd C dX8_version_66 h.1 ?_
          replace h := h.2
          refine v_iload_n C dX8_version_67 rfl ?_
          refine v_iast C dX8_version_68 rfl h.1.1 h.1.2 ?_
          replace h := h.2
          refine v_nmM (fun M68 eM68 => ?_)
          replace h := h M68 eM68
          refine v_aload_n C dX8_version_69 rfl ?_
          refine v_get C dX8_version_70 flX8_16 rfl (by decide) (by decide) (w := .inr (37, 0)) rfl ?_
          refine v_bipush C dX8_version_73 (by decide) (by decide) ?_
          refine v_iload_n C dX8_version_75 rfl ?_
          refine v_imul C dX8_version_76 h.1 ?_
          replace h := h.2
          refine v_bipush C dX8_version_77 (by decide) (by decide) ?_
          refine v_iadd C dX8_version_79 h.1 ?_
          replace h := h.2
          refine v_iconst C dX8_version_80 (by decide) ?_
          refine v_iload C dX8_version_81 rfl ?_
          refine v_imul C dX8_version_83 h.1 ?_
          replace h := h.2
          refine v_iadd C dX8_version_84 h.1 ?_
          replace h := h.2
          refine v_iload_n C dX8_version_85 rfl ?_
          refine v_iast C dX8_version_86 rfl h.1.1 h.1.2 ?_
          replace h := h.2
          refine v_nmM (fun M86 eM86 => ?_)
          replace h := h M86 eM86
          refine v_aload_n C dX8_version_87 rfl ?_
          refine v_get C dX8_version_88 flX8_16 rfl (by decide) (by decide) (w := .inr (37, 0)) rfl ?_
          refine v_bipush C dX8_version_91 (by decide) (by decide) ?_
          refine v_iload_n C dX8_version_93 rfl ?_
          refine v_imul C dX8_version_94 h.1 ?_
          replace h := h.2
          refine v_iconst C dX8_version_95 (by decide) ?_
          refine v_iadd C dX8_version_96 h.1 ?_
          replace h := h.2
          refine v_iload C dX8_version_97 rfl ?_
          refine v_iconst C dX8_version_99 (by decide) ?_
          refine v_iadd C dX8_version_100 h.1 ?_
          replace h := h.2
          refine v_iast C dX8_version_101 rfl h.1.1 h.1.2 ?_
          replace h := h.2
          refine v_nmM (fun M101 eM101 => ?_)
          replace h := h M101 eM101
          refine v_iload C dX8_version_102 rfl ?_
          refine v_iconst C dX8_version_104 (by decide) ?_
          refine v_iadd C dX8_version_105 h.1 ?_
          replace h := h.2
          exact v_iret C dX8_version_106 h
        · replace h := h.2 c46
          refine v_bipush C dX8_version_49 (by decide) (by decide) ?_
          exact v_iret C dX8_version_51 h
      · replace h := h.2 c25
        refine v_iconst C dX8_version_28 (by decide) ?_
        exact v_iret C dX8_version_29 h
abbrev spX8_version (p l w : Int) (M : Mem) (K : Kont) : Prop := InvM M ∧ (¬ verK (mFilm M) p l w → K (some (-1)) M) ∧ (verK (mFilm M) p l w → 3 ≤ mFilm M 11 p 0 → K (some (-3)) M) ∧
  (verK (mFilm M) p l w → mFilm M 11 p 0 < 3 → ∀ M', InvM M' → ChM M M' (sFV (mFilm M) p l w) (M 45 0) (M 46 0) → K (some (mFilm M 11 p 0 + 1)) M')
theorem ctX8_version : CtX8_version spX8_version := by
  refine ct_of (by decide) dmM (fun _ => Nat.le_of_ble_eq_true rfl) ?_
  intro κ a M K C oM h
  obtain ⟨p, l, w⟩ := a
  dsimp only [spX8_version] at h
  obtain ⟨hI, k1, k2, k3⟩ := h
  have hf0 := hI.2.1
  have n3 := hf0.2.2.2.1
  have e3 : mFilm M 3 0 0 = M 30 0 6 := rfl
  refine sgX8_version_0 C p l w ⟨n3, fun c => k1 (fun z => if10n c z.1), fun c => ?_⟩
  have c1 : 0 ≤ p ∧ p < mFilm M 3 0 0 := if10 c
  refine ⟨fun c2 => k1 (fun z => if10n c2 z.2.1), fun c2 => ?_⟩
  have c3 := if10 c2
  refine ⟨fun c4 => ?_, fun c4 => k1 (fun z => if10n (by omega) z.2.2)⟩
  have c5 := if10 c4
  have w1 := wf_p hf0 c1.1 c1.2
  have e11 : mFilm M 11 p 0 = M 37 0 (11 * p + 3) := rfl
  have vk : verK (mFilm M) p l w := ⟨c1, c3, c5⟩
  refine ⟨by omega, by omega, by omega, fun y ey => ⟨fun c6 => ?_, fun c6 => k2 vk (by omega)⟩⟩
  rw [← e11] at ey
  refine ⟨by omega, by omega, by omega, by omega, by omega, fun N1 e1 => ⟨by omega, by omega, by omega, by omega, by omega, fun N2 e2 => ⟨by omega, by omega, by omega, by omega, fun N3 e3' => ⟨by omega, ?_⟩⟩⟩⟩
  have v : ∀ j, N3 37 0 j = if j = 11 * p + 3 then y + 1 else if j = 11 * p + 6 + 2 * y then w else if j = 11 * p + 5 + 2 * y then l else M 37 0 j := by
    intro j
    rw [e3']
    by_cases a : j = 11 * p + 3
    · rw [if_pos a, a, up3_s]
    · rw [if_neg a, up3_j _ _ _ _ _ a, e2]
      by_cases b : j = 11 * p + 6 + 2 * y
      · rw [if_pos b, b, up3_s]
      · rw [if_neg b, up3_j _ _ _ _ _ b, e1]
        by_cases d : j = 11 * p + 5 + 2 * y
        · rw [if_pos d, d, up3_s]
        · rw [if_neg d, up3_j _ _ _ _ _ d]
  have o : ∀ r i, r ≠ 37 → N3 r i = M r i := fun r i q => by funext j; rw [e3', up3_r _ _ _ _ _ q, e2, up3_r _ _ _ _ _ q, e1, up3_r _ _ _ _ _ q]
  have hg : FEq (sFV (mFilm M) p l w) (mFilm N3) := by
    have o30 := o 30 0 (by decide)
    have o35 := o 35 0 (by decide)
    have o38 := o 38 0 (by decide)
    refine ⟨by simp [sFV, mFilm, o30], by simp [sFV, mFilm, o30], by simp [sFV, mFilm, o30], by simp [sFV, mFilm, o30], fun w a b => by simp [sFV, mFilm, o38], fun s a b => by simp [sFV, mFilm, o35], fun q a b => ?_⟩
    have b' : q < M 30 0 6 := by simpa [sFV, mFilm] using b
    have g8 : mFilm N3 8 q 0 = mFilm M 8 q 0 := by show N3 37 0 (11 * q) = _; rw [v, if_neg (by omega), if_neg (by omega), if_neg (by omega)]; rfl
    have g9 : mFilm N3 9 q 0 = mFilm M 9 q 0 := by show N3 37 0 (11 * q + 1) = _; rw [v, if_neg (by omega), if_neg (by omega), if_neg (by omega)]; rfl
    have g10 : mFilm N3 10 q 0 = mFilm M 10 q 0 := by show N3 37 0 (11 * q + 2) = _; rw [v, if_neg (by omega), if_neg (by omega), if_neg (by omega)]; rfl
    have g12 : mFilm N3 12 q 0 = mFilm M 12 q 0 := by show N3 37 0 (11 * q + 4) = _; rw [v, if_neg (by omega), if_neg (by omega), if_neg (by omega)]; rfl
    have wq := wf_p hf0 a b'
    rw [g8, g9, g10, g12]
    refine ⟨by simp [sFV], by simp [sFV], by simp [sFV], ?_, by simp [sFV], fun u u0 u1 => ?_⟩
    · show _ = N3 37 0 (11 * q + 3)
      by_cases eq : q = p
      · subst eq
        rw [v, if_pos rfl, ey]
        simp [sFV]
      · rw [v, if_neg (by omega), if_neg (by omega), if_neg (by omega)]
        simp [sFV, eq]
        rfl
    · show _ = N3 37 0 (11 * q + 5 + 2 * u) ∧ _ = N3 37 0 (11 * q + 6 + 2 * u)
      by_cases eq : q = p
      · subst eq
        have u2 : u < mFilm M 11 q 0 + 1 := by simpa [sFV] using u1
        by_cases eu : u = mFilm M 11 q 0
        · rw [v, v, if_neg (by omega), if_neg (by omega), if_pos (by omega), if_neg (by omega), if_pos (by omega)]
          unfold sFV
          rw [if_pos ⟨rfl, rfl, eu⟩, if_neg (by omega), if_pos ⟨rfl, rfl, eu⟩]
          exact ⟨rfl, rfl⟩
        · rw [v, v, if_neg (by omega), if_neg (by omega), if_neg (by omega), if_neg (by omega), if_neg (by omega), if_neg (by omega)]
          simp [sFV, eu]
          exact ⟨rfl, rfl⟩
      · have u2 : u < mFilm M 11 q 0 := by simpa [sFV, eq] using u1
        rw [v, v, if_neg (by omega), if_neg (by omega), if_neg (by omega), if_neg (by omega), if_neg (by omega), if_neg (by omega)]
        simp [sFV, eq]
        exact ⟨rfl, rfl⟩
  have hw := hg.wf (wf_V hf0 (by omega) c3 c5)
  have hP : PlK (mFilm N3) (N3 45 0) (N3 46 0) := by
    rw [o 45 0 (by decide), o 46 0 (by decide)]
    refine PlK_c (wf_V hf0 (by omega) c3 c5) hg PlEq.rfl' (PlK_mono (by simp [sFV]) (by simp [sFV]) (fun q x y' => ?_) hI.2.2)
    by_cases eq : q = p
    · subst eq
      refine ⟨by simp [sFV]; omega, fun v v0 v1 => ?_⟩
      have : v ≠ mFilm M 11 q 0 := by omega
      simp [sFV, this]
    · simp [sFV, eq]
  have ev : y + 1 = mFilm M 11 p 0 + 1 := by omega
  rw [ev]
  exact k3 vk (by omega) N3 ⟨by rw [o 30 0 (by decide)]; exact hI.1, hw, hP⟩ ⟨fun r x => by funext i; exact o r i (by omega), by rw [o 30 0 (by decide)], o 31 0 (by decide), hg, by rw [o 45 0 (by decide), o 46 0 (by decide)]; exact PlEq.rfl'⟩
