/-! ===== texts: figures, numbers, items ===== -/
abbrev isF (X : Int → Int) (L p : Int) : Prop := p < L ∧ 48 ≤ X p ∧ X p ≤ 57
def dgc (X : Int → Int) (L : Int) : Nat → Int → Int
  | 0, _ => 0
  | m + 1, p => if isF X L p then 1 + dgc X L m (p + 1) else 0
def dgv (X : Int → Int) (L : Int) : Nat → Int → Int → Int
  | 0, _, acc => acc
  | m + 1, p, acc => if isF X L p then dgv X L m (p + 1) (acc * 10 + (X p - 48)) else acc
theorem dgc_rng (X : Int → Int) (L : Int) : ∀ (m : Nat) (p : Int), 0 ≤ dgc X L m p ∧ dgc X L m p ≤ m ∧ (p ≤ L → p + dgc X L m p ≤ L) := by
  intro m
  induction m with
  | zero => intro p; simp [dgc]
  | succ m ih =>
    intro p
    unfold dgc
    have := ih (p + 1)
    split
    · rename_i h
      omega
    · omega
theorem ten_pow_ge (m : Nat) : (1 : Int) ≤ 10 ^ m := by
  have : (0 : Int) < 10 ^ m := Int.pow_pos (by decide)
  omega
theorem dgv_rng (X : Int → Int) (L : Int) : ∀ (m : Nat) (p acc A : Int), 0 ≤ acc → acc ≤ A → 0 ≤ dgv X L m p acc ∧ dgv X L m p acc ≤ (A + 1) * 10 ^ m - 1 := by
  intro m
  induction m with
  | zero => intro p acc A h0 h1; simp [dgv]; omega
  | succ m ih =>
    intro p acc A h0 h1
    unfold dgv
    have e : (A + 1) * 10 ^ (m + 1) = (10 * A + 9 + 1) * 10 ^ m := by
      rw [Int.pow_succ, Int.mul_comm (10 ^ m) 10, ← Int.mul_assoc]
      congr 1
      omega
    split
    · rename_i h
      have := ih (p + 1) (acc * 10 + (X p - 48)) (10 * A + 9) (by omega) (by omega)
      rw [e]
      exact this
    · have := ih p acc A h0 h1
      have hp : (1 : Int) ≤ 10 ^ m := ten_pow_ge m
      have h2 : A + 1 ≤ (A + 1) * 10 ^ (m + 1) := by
        have q : (1 : Int) ≤ 10 ^ (m + 1) := ten_pow_ge (m + 1)
        have := Int.mul_le_mul_of_nonneg_left q (show 0 ≤ A + 1 by omega)
        omega
      omega
/-- numbers one behind the other, each with how many figures, to behind a ; -/
def tks (X : Int → Int) (L : Int) : Nat → Int → Option (List (Int × Int) × Int)
  | 0, _ => none
  | n + 1, p => if dgc X L 3 p = 0 ∨ L ≤ p + dgc X L 3 p then none
    else if X (p + dgc X L 3 p) = 59 then some ([(dgv X L 3 p 0, dgc X L 3 p)], p + dgc X L 3 p + 1)
    else if X (p + dgc X L 3 p) = 44 then (tks X L n (p + dgc X L 3 p + 1)).map (fun q => ((dgv X L 3 p 0, dgc X L 3 p) :: q.1, q.2))
    else none
theorem tks_len {X : Int → Int} {L : Int} : ∀ (n : Nat) (p : Int) (l : List (Int × Int)) (e : Int), tks X L n p = some (l, e) → 1 ≤ l.length ∧ l.length ≤ n ∧ p + 2 ≤ e ∧ e ≤ L ∧ ∀ q ∈ l, (0 ≤ q.1 ∧ q.1 ≤ 999) ∧ (1 ≤ q.2 ∧ q.2 ≤ 3) := by
  intro n
  induction n with
  | zero => intro p l e h; simp [tks] at h
  | succ n ih =>
    intro p l e h
    have hc := dgc_rng X L 3 p
    have hv := dgv_rng X L 3 p 0 0 (by omega) (by omega)
    have hv2 : dgv X L 3 p 0 ≤ 999 := by have := hv.2; omega
    unfold tks at h
    split at h
    · cases h
    · rename_i h1
      split at h
      · simp at h
        obtain ⟨rfl, rfl⟩ := h
        refine ⟨by simp, by simp, by omega, by omega, fun q hq => ?_⟩
        simp at hq
        subst hq
        exact ⟨⟨hv.1, hv2⟩, by show 1 ≤ dgc X L 3 p ∧ dgc X L 3 p ≤ 3; omega⟩
      · split at h
        · cases hr : tks X L n (p + dgc X L 3 p + 1) with
          | none => rw [hr] at h; cases h
          | some r =>
            obtain ⟨l', e'⟩ := r
            rw [hr] at h
            simp at h
            obtain ⟨rfl, rfl⟩ := h
            have := ih _ l' e' hr
            refine ⟨by simp, by simp; omega, by omega, by omega, fun q hq => ?_⟩
            rcases List.mem_cons.mp hq with z | z
            · subst z
              exact ⟨⟨hv.1, hv2⟩, by show 1 ≤ dgc X L 3 p ∧ dgc X L 3 p ≤ 3; omega⟩
            · exact this.2.2.2.2 q z
        · cases h
/-- nothing but the reader has changed -/
def AgR (M M' : Mem) : Prop := ∀ r, ¬ (2 ≤ r ∧ r ≤ 4) → M' r = M r
theorem AgR.rf {M : Mem} : AgR M M := fun _ _ => rfl
theorem AgR.tr {M M' M2 : Mem} (h : AgR M M') (h2 : AgR M' M2) : AgR M M2 := fun r hr => (h2 r hr).trans (h r hr)
theorem AgR.up {M M' : Mem} (h : AgR M M') {r : Nat} (hr : 2 ≤ r ∧ r ≤ 4) (i j v : Int) : AgR M (up3 M' r i j v) := by
  intro r' hn
  rw [← h r' hn]
  funext i' j'
  exact if_neg (fun q => hn (by rw [q.1]; exact hr))
theorem AgR.film {M M' : Mem} (h : AgR M M') (f : Int) : cFilm M' f = cFilm M f := cFilm_eq (fun r h1 h2 => h r (by omega)) f
/-! ===== GapTellings$TextReader.readNumber ===== -/
abbrev rmX5_readNumber : Room := { frames := 0, cells := 0, slots := 0, locals := 0 }
abbrev argX5_readNumber (a : Int × Int) : List PV := [.inr (2, 0), .inr (1, 0), .inl a.1, .inl a.2]
abbrev CtX5_readNumber (sp : Int → Int → Mem → Kont → Prop) : Prop := Ct yX5_readNumber cX5_readNumber 6 none rmX5_readNumber domC argX5_readNumber (fun a => sp a.1 a.2)
theorem dX5_readNumber_0 : decode cX5_readNumber 0 = .ok (.iconst 0, 1) := by decide +kernel
theorem dX5_readNumber_1 : decode cX5_readNumber 1 = .ok (.istore 4, 2) := by decide +kernel
theorem dX5_readNumber_3 : decode cX5_readNumber 3 = .ok (.iconst 0, 1) := by decide +kernel
theorem dX5_readNumber_4 : decode cX5_readNumber 4 = .ok (.istore 5, 2) := by decide +kernel
theorem dX5_readNumber_6 : decode cX5_readNumber 6 = .ok (.iload 5, 2) := by decide +kernel
theorem dX5_readNumber_8 : decode cX5_readNumber 8 = .ok (.iconst 3, 1) := by decide +kernel
theorem dX5_readNumber_9 : decode cX5_readNumber 9 = .ok (.if_icmp .ge 66, 3) := by decide +kernel
theorem dX5_readNumber_12 : decode cX5_readNumber 12 = .ok (.aload_n 0, 1) := by decide +kernel
theorem dX5_readNumber_13 : decode cX5_readNumber 13 = .ok (.getfield 23, 3) := by decide +kernel
theorem dX5_readNumber_16 : decode cX5_readNumber 16 = .ok (.iload_n 2, 1) := by decide +kernel
theorem dX5_readNumber_17 : decode cX5_readNumber 17 = .ok (.if_icmp .ge 58, 3) := by decide +kernel
theorem dX5_readNumber_20 : decode cX5_readNumber 20 = .ok (.aload_n 1, 1) := by decide +kernel
theorem dX5_readNumber_21 : decode cX5_readNumber 21 = .ok (.aload_n 0, 1) := by decide +kernel
theorem dX5_readNumber_22 : decode cX5_readNumber 22 = .ok (.getfield 23, 3) := by decide +kernel
theorem dX5_readNumber_25 : decode cX5_readNumber 25 = .ok (.caload, 1) := by decide +kernel
theorem dX5_readNumber_26 : decode cX5_readNumber 26 = .ok (.bipush 48, 2) := by decide +kernel
theorem dX5_readNumber_28 : decode cX5_readNumber 28 = .ok (.if_icmp .lt 47, 3) := by decide +kernel
theorem dX5_readNumber_31 : decode cX5_readNumber 31 = .ok (.aload_n 1, 1) := by decide +kernel
theorem dX5_readNumber_32 : decode cX5_readNumber 32 = .ok (.aload_n 0, 1) := by decide +kernel
theorem dX5_readNumber_33 : decode cX5_readNumber 33 = .ok (.getfield 23, 3) := by decide +kernel
theorem dX5_readNumber_36 : decode cX5_readNumber 36 = .ok (.caload, 1) := by decide +kernel
theorem dX5_readNumber_37 : decode cX5_readNumber 37 = .ok (.bipush 57, 2) := by decide +kernel
theorem dX5_readNumber_39 : decode cX5_readNumber 39 = .ok (.if_icmp .gt 36, 3) := by decide +kernel
theorem dX5_readNumber_42 : decode cX5_readNumber 42 = .ok (.iload 4, 2) := by decide +kernel
theorem dX5_readNumber_44 : decode cX5_readNumber 44 = .ok (.bipush 10, 2) := by decide +kernel
theorem dX5_readNumber_46 : decode cX5_readNumber 46 = .ok (.imul, 1) := by decide +kernel
theorem dX5_readNumber_47 : decode cX5_readNumber 47 = .ok (.aload_n 1, 1) := by decide +kernel
theorem dX5_readNumber_48 : decode cX5_readNumber 48 = .ok (.aload_n 0, 1) := by decide +kernel
theorem dX5_readNumber_49 : decode cX5_readNumber 49 = .ok (.getfield 23, 3) := by decide +kernel
theorem dX5_readNumber_52 : decode cX5_readNumber 52 = .ok (.caload, 1) := by decide +kernel
theorem dX5_readNumber_53 : decode cX5_readNumber 53 = .ok (.bipush 48, 2) := by decide +kernel
theorem dX5_readNumber_55 : decode cX5_readNumber 55 = .ok (.isub, 1) := by decide +kernel
theorem dX5_readNumber_56 : decode cX5_readNumber 56 = .ok (.iadd, 1) := by decide +kernel
theorem dX5_readNumber_57 : decode cX5_readNumber 57 = .ok (.istore 4, 2) := by decide +kernel
theorem dX5_readNumber_59 : decode cX5_readNumber 59 = .ok (.iinc 5 1, 3) := by decide +kernel
theorem dX5_readNumber_62 : decode cX5_readNumber 62 = .ok (.aload_n 0, 1) := by decide +kernel
theorem dX5_readNumber_63 : decode cX5_readNumber 63 = .ok (.dup, 1) := by decide +kernel
theorem dX5_readNumber_64 : decode cX5_readNumber 64 = .ok (.getfield 23, 3) := by decide +kernel
theorem dX5_readNumber_67 : decode cX5_readNumber 67 = .ok (.iconst 1, 1) := by decide +kernel
theorem dX5_readNumber_68 : decode cX5_readNumber 68 = .ok (.iadd, 1) := by decide +kernel
theorem dX5_readNumber_69 : decode cX5_readNumber 69 = .ok (.putfield 23, 3) := by decide +kernel
theorem dX5_readNumber_72 : decode cX5_readNumber 72 = .ok (.goto (-66), 3) := by decide +kernel
theorem dX5_readNumber_75 : decode cX5_readNumber 75 = .ok (.aload_n 0, 1) := by decide +kernel
theorem dX5_readNumber_76 : decode cX5_readNumber 76 = .ok (.getfield 9, 3) := by decide +kernel
theorem dX5_readNumber_79 : decode cX5_readNumber 79 = .ok (.iload_n 3, 1) := by decide +kernel
theorem dX5_readNumber_80 : decode cX5_readNumber 80 = .ok (.iload 4, 2) := by decide +kernel
theorem dX5_readNumber_82 : decode cX5_readNumber 82 = .ok (.iastore, 1) := by decide +kernel
theorem dX5_readNumber_83 : decode cX5_readNumber 83 = .ok (.aload_n 0, 1) := by decide +kernel
theorem dX5_readNumber_84 : decode cX5_readNumber 84 = .ok (.getfield 15, 3) := by decide +kernel
theorem dX5_readNumber_87 : decode cX5_readNumber 87 = .ok (.iload_n 3, 1) := by decide +kernel
theorem dX5_readNumber_88 : decode cX5_readNumber 88 = .ok (.iload 5, 2) := by decide +kernel
theorem dX5_readNumber_90 : decode cX5_readNumber 90 = .ok (.iastore, 1) := by decide +kernel
theorem dX5_readNumber_91 : decode cX5_readNumber 91 = .ok (.return_, 1) := by decide +kernel
theorem flX5_9 : FL RX5 9 5 0 := ⟨_, _, _, rfl, by decide, uwX5, Or.inl (tb_mem (t_in1 (List.mem_of_getElem? (i := 33) (by decide +kernel))) (by decide +kernel))⟩
theorem flX5_15 : FL RX5 15 5 1 := ⟨_, _, _, rfl, by decide, uwX5, Or.inl (tb_mem (t_in1 (List.mem_of_getElem? (i := 34) (by decide +kernel))) (by decide +kernel))⟩
theorem flX5_23 : FL RX5 23 5 3 := ⟨_, _, _, rfl, by decide, uwX5, Or.inl (tb_mem (t_in1 (List.mem_of_getElem? (i := 36) (by decide +kernel))) (by decide +kernel))⟩
theorem plX5_23 : PL RX5 23 5 3 .int := ⟨_, _, _, rfl, by decide, uwX5, Or.inl (tb_mem (t_in1 (List.mem_of_getElem? (i := 36) (by decide +kernel))) (by decide +kernel)), rfl, by decide +kernel, tyX5, tyX5_ok, nmX5⟩
set_option maxHeartbeats 4000000 in
set_option maxRecDepth 20000 in
theorem sgX5_readNumber_0 {κ : Kx} {K : Kont} {M : Mem} (C : Cx κ RX5 cX5_readNumber 6 none rmX5_readNumber domC) (x2 : Int) (x3 : Int)
    (h :
    V κ 6 M 6 [some (.inr (2, 0)), some (.inr (1, 0)), some (.inl x2), some (.inl x3), some (.inl 0), some (.inl 0)] [] K) : V κ 6 M 0 [some (.inr (2, 0)), some (.inr (1, 0)), some (.inl x2), some (.inl x3), none, none] [] K := by
  refine v_iconst C dX5_readNumber_0 (by decide) ?_
  refine v_istore C dX5_readNumber_1 (by decide) (Nat.le_of_ble_eq_true rfl) (lv' := [some (.inr (2, 0)), some (.inr (1, 0)), some (.inl x2), some (.inl x3), some (.inl 0), none]) rfl ?_
  refine v_iconst C dX5_readNumber_3 (by decide) ?_
  refine v_istore C dX5_readNumber_4 (by decide) (Nat.le_of_ble_eq_true rfl) (lv' := [some (.inr (2, 0)), some (.inr (1, 0)), some (.inl x2), some (.inl x3), some (.inl 0), some (.inl 0)]) rfl ?_
  refine v_weak [some (.inr (2, 0)), some (.inr (1, 0)), some (.inl x2), some (.inl x3), some (.inl 0), some (.inl 0)] ⟨rfl, rfl, rfl, rfl, rfl, rfl, trivial⟩ ?_
  exact h
set_option maxHeartbeats 4000000 in
set_option maxRecDepth 20000 in
theorem sgX5_readNumber_6 {κ : Kx} {K : Kont} {M : Mem} (C : Cx κ RX5 cX5_readNumber 6 none rmX5_readNumber domC) (x2 : Int) (x3 : Int) (x4 : Int) (x5 : Int)
    (h :
    ((3 ≤ x5 →
      (0 ≤ x3 ∧ x3 < 9) ∧
      ∀ M82 : Mem, M82 = up3 M 3 0 x3 x4 →
      (0 ≤ x3 ∧ x3 < 9) ∧
      ∀ M90 : Mem, M90 = up3 M82 4 0 x3 x5 →
      K none M90) ∧
     (¬ (3 ≤ x5) →
      ((x2 ≤ (M 2 0 3) →
        (0 ≤ x3 ∧ x3 < 9) ∧
        ∀ M82 : Mem, M82 = up3 M 3 0 x3 x4 →
        (0 ≤ x3 ∧ x3 < 9) ∧
        ∀ M90 : Mem, M90 = up3 M82 4 0 x3 x5 →
        K none M90) ∧
       (¬ (x2 ≤ (M 2 0 3)) →
        (0 ≤ (M 2 0 3) ∧ (M 2 0 3) < 200) ∧
        (((M 1 0 (M 2 0 3)) < 48 →
          (0 ≤ x3 ∧ x3 < 9) ∧
          ∀ M82 : Mem, M82 = up3 M 3 0 x3 x4 →
          (0 ≤ x3 ∧ x3 < 9) ∧
          ∀ M90 : Mem, M90 = up3 M82 4 0 x3 x5 →
          K none M90) ∧
         (¬ ((M 1 0 (M 2 0 3)) < 48) →
          (0 ≤ (M 2 0 3) ∧ (M 2 0 3) < 200) ∧
          ((57 < (M 1 0 (M 2 0 3)) →
            (0 ≤ x3 ∧ x3 < 9) ∧
            ∀ M82 : Mem, M82 = up3 M 3 0 x3 x4 →
            (0 ≤ x3 ∧ x3 < 9) ∧
            ∀ M90 : Mem, M90 = up3 M82 4 0 x3 x5 →
            K none M90) ∧
           (¬ (57 < (M 1 0 (M 2 0 3))) →
            inR (x4 * 10) ∧
            (0 ≤ (M 2 0 3) ∧ (M 2 0 3) < 200) ∧
            inR ((M 1 0 (M 2 0 3)) - 48) ∧
            inR ((x4 * 10) + ((M 1 0 (M 2 0 3)) - 48)) ∧
            ∀ y4_57 : Int, y4_57 = (x4 * 10) + ((M 1 0 (M 2 0 3)) - 48) →
            inR (x5 + 1) ∧
            inR ((M 2 0 3) + 1) ∧
            ∀ M69 : Mem, M69 = up3 M 2 0 3 ((M 2 0 3) + 1) →
            V κ 6 M69 6 [some (.inr (2, 0)), some (.inr (1, 0)), some (.inl x2), some (.inl x3), some (.inl y4_57), some (.inl (x5 + 1))] [] K))))))))) : V κ 6 M 6 [some (.inr (2, 0)), some (.inr (1, 0)), some (.inl x2), some (.inl x3), some (.inl x4), some (.inl x5)] [] K := by
  refine v_iload C dX5_readNumber_6 rfl ?_
  refine v_iconst C dX5_readNumber_8 (by decide) ?_
  refine v_icmp C dX5_readNumber_9 (tgt := 75) (by decide) (P := 3 ≤ x5) rfl (fun c9 => ?_) (fun c9 => ?_)
  · replace h := h.1 c9
    refine v_aload_n C dX5_readNumber_75 rfl ?_
    refine v_get C dX5_readNumber_76 flX5_9 rfl (by decide) (by decide) (w := .inr (3, 0)) rfl ?_
    refine v_iload_n C dX5_readNumber_79 rfl ?_
    refine v_iload C dX5_readNumber_80 rfl ?_
    refine v_iast C dX5_readNumber_82 rfl h.1.1 h.1.2 ?_
    replace h := h.2
    refine v_nmM (fun M82 eM82 => ?_)
    replace h := h M82 eM82
    refine v_aload_n C dX5_readNumber_83 rfl ?_
    refine v_get C dX5_readNumber_84 flX5_15 rfl (by decide) (by decide) (w := .inr (4, 0)) rfl ?_
    refine v_iload_n C dX5_readNumber_87 rfl ?_
    refine v_iload C dX5_readNumber_88 rfl ?_
    refine v_iast C dX5_readNumber_90 rfl h.1.1 h.1.2 ?_
    replace h := h.2
    refine v_nmM (fun M90 eM90 => ?_)
    replace h := h M90 eM90
    exact v_vret C dX5_readNumber_91 h
  · replace h := h.2 c9
    refine v_aload_n C dX5_readNumber_12 rfl ?_
    refine v_get C dX5_readNumber_13 flX5_23 rfl (by decide) (by decide) (w := .inl (M 2 0 3)) rfl ?_
    refine v_iload_n C dX5_readNumber_16 rfl ?_
    refine v_icmp C dX5_readNumber_17 (tgt := 75) (by decide) (P := x2 ≤ (M 2 0 3)) rfl (fun c17 => ?_) (fun c17 => ?_)
    · replace h := h.1 c17
      refine v_aload_n C dX5_readNumber_75 rfl ?_
      refine v_get C dX5_readNumber_76 flX5_9 rfl (by decide) (by decide) (w := .inr (3, 0)) rfl ?_
      refine v_iload_n C dX5_readNumber_79 rfl ?_
      refine v_iload C dX5_readNumber_80 rfl ?_
      refine v_iast C dX5_readNumber_82 rfl h.1.1 h.1.2 ?_
      replace h := h.2
      refine v_nmM (fun M82 eM82 => ?_)
      replace h := h M82 eM82
      refine v_aload_n C dX5_readNumber_83 rfl ?_
      refine v_get C dX5_readNumber_84 flX5_15 rfl (by decide) (by decide) (w := .inr (4, 0)) rfl ?_
      refine v_iload_n C dX5_readNumber_87 rfl ?_
      refine v_iload C dX5_readNumber_88 rfl ?_
      refine v_iast C dX5_readNumber_90 rfl h.1.1 h.1.2 ?_
      replace h := h.2
      refine v_nmM (fun M90 eM90 => ?_)
      replace h := h M90 eM90
      exact v_vret C dX5_readNumber_91 h
    · replace h := h.2 c17
      refine v_aload_n C dX5_readNumber_20 rfl ?_
      refine v_aload_n C dX5_readNumber_21 rfl ?_
      refine v_get C dX5_readNumber_22 flX5_23 rfl (by decide) (by decide) (w := .inl (M 2 0 3)) rfl ?_
      refine v_cald C dX5_readNumber_25 rfl h.1.1 h.1.2 ?_
      replace h := h.2
      refine v_bipush C dX5_readNumber_26 (by decide) (by decide) ?_
      refine v_icmp C dX5_readNumber_28 (tgt := 75) (by decide) (P := (M 1 0 (M 2 0 3)) < 48) rfl (fun c28 => ?_) (fun c28 => ?_)
      · replace h := h.1 c28
        refine v_aload_n C dX5_readNumber_75 rfl ?_
        refine v_get C dX5_readNumber_76 flX5_9 rfl (by decide) (by decide) (w := .inr (3, 0)) rfl ?_
        refine v_iload_n C dX5_readNumber_79 rfl ?_
        refine v_iload C dX5_readNumber_80 rfl ?_
        refine v_iast C dX5_readNumber_82 rfl h.1.1 h.1.2 ?_
        replace h := h.2
        refine v_nmM (fun M82 eM82 => ?_)
        replace h := h M82 eM82
        refine v_aload_n C dX5_readNumber_83 rfl ?_
        refine v_get C dX5_readNumber_84 flX5_15 rfl (by decide) (by decide) (w := .inr (4, 0)) rfl ?_
        refine v_iload_n C dX5_readNumber_87 rfl ?_
        refine v_iload C dX5_readNumber_88 rfl ?_
        refine v_iast C dX5_readNumber_90 rfl h.1.1 h.1.2 ?_
        replace h := h.2
        refine v_nmM (fun M90 eM90 => ?_)
        replace h := h M90 eM90
        exact v_vret C dX5_readNumber_91 h
      · replace h := h.2 c28
        refine v_aload_n C dX5_readNumber_31 rfl ?_
        refine v_aload_n C dX5_readNumber_32 rfl ?_
        refine v_get C dX5_readNumber_33 flX5_23 rfl (by decide) (by decide) (w := .inl (M 2 0 3)) rfl ?_
        refine v_cald C dX5_readNumber_36 rfl h.1.1 h.1.2 ?_
        replace h := h.2
        refine v_bipush C dX5_readNumber_37 (by decide) (by decide) ?_
        refine v_icmp C dX5_readNumber_39 (tgt := 75) (by decide) (P := 57 < (M 1 0 (M 2 0 3))) rfl (fun c39 => ?_) (fun c39 => ?_)
        · replace h := h.1 c39
          refine v_aload_n C dX5_readNumber_75 rfl ?_
          refine v_get C dX5_readNumber_76 flX5_9 rfl (by decide) (by decide) (w := .inr (3, 0)) rfl ?_
          refine v_iload_n C dX5_readNumber_79 rfl ?_
          refine v_iload C dX5_readNumber_80 rfl ?_
          refine v_iast C dX5_readNumber_82 rfl h.1.1 h.1.2 ?_
          replace h := h.2
          refine v_nmM (fun M82 eM82 => ?_)
          replace h := h M82 eM82
          refine v_aload_n C dX5_readNumber_83 rfl ?_
          refine v_get C dX5_readNumber_84 flX5_15 rfl (by decide) (by decide) (w := .inr (4, 0)) rfl ?_
          refine v_iload_n C dX5_readNumber_87 rfl ?_
          refine v_iload C dX5_readNumber_88 rfl ?_
          refine v_iast C dX5_readNumber_90 rfl h.1.1 h.1.2 ?_
          replace h := h.2
          refine v_nmM (fun M90 eM90 => ?_)
          replace h := h M90 eM90
          exact v_vret C dX5_readNumber_91 h
        · replace h := h.2 c39
          refine v_iload C dX5_readNumber_42 rfl ?_
          refine v_bipush C dX5_readNumber_44 (by decide) (by decide) ?_
          refine v_imul C dX5_readNumber_46 h.1 ?_
          replace h := h.2
          refine v_aload_n C dX5_readNumber_47 rfl ?_
          refine v_aload_n C dX5_readNumber_48 rfl ?_
          refine v_get C dX5_readNumber_49 flX5_23 rfl (by decide) (by decide) (w := .inl (M 2 0 3)) rfl ?_
          refine v_cald C dX5_readNumber_52 rfl h.1.1 h.1.2 ?_
          replace h := h.2
          refine v_bipush C dX5_readNumber_53 (by decide) (by decide) ?_
          refine v_isub C dX5_readNumber_55 h.1 ?_
          replace h := h.2
          refine v_iadd C dX5_readNumber_56 h.1 ?_
          replace h := h.2
          refine v_nm (fun y4_57 ey4_57 => ?_)
          replace h := h y4_57 ey4_57
          refine v_istore C dX5_readNumber_57 (by decide) (Nat.le_of_ble_eq_true rfl) (lv' := [some (.inr (2, 0)), some (.inr (1, 0)), some (.inl x2), some (.inl x3), some (.inl y4_57), some (.inl x5)]) rfl ?_
          refine v_iinc C dX5_readNumber_59 (by decide) rfl h.1 (lv' := [some (.inr (2, 0)), some (.inr (1, 0)), some (.inl x2), some (.inl x3), some (.inl y4_57), some (.inl (x5 + 1))]) rfl ?_
          replace h := h.2
          refine v_aload_n C dX5_readNumber_62 rfl ?_
          refine v_dup C dX5_readNumber_63 ?_
          refine v_get C dX5_readNumber_64 flX5_23 rfl (by decide) (by decide) (w := .inl (M 2 0 3)) rfl ?_
          refine v_iconst C dX5_readNumber_67 (by decide) ?_
          refine v_iadd C dX5_readNumber_68 h.1 ?_
          replace h := h.2
          refine v_put C dX5_readNumber_69 plX5_23 rfl (by decide) (by decide) rfl rfl rfl ?_
          refine v_nmM (fun M69 eM69 => ?_)
          replace h := h M69 eM69
          refine v_goto C dX5_readNumber_72 (tgt := 6) (by decide) ?_
          refine v_weak [some (.inr (2, 0)), some (.inr (1, 0)), some (.inl x2), some (.inl x3), some (.inl y4_57), some (.inl (x5 + 1))] ⟨rfl, rfl, rfl, rfl, rfl, rfl, trivial⟩ ?_
          exact h
abbrev spX5_readNumber (L i : Int) (M : Mem) (K : Kont) : Prop := ((0 ≤ M 2 0 3 ∧ M 2 0 3 ≤ L ∧ L ≤ 200) ∧ (0 ≤ i ∧ i < 9)) ∧
  ∀ M', AgR M M' → M' 2 0 2 = M 2 0 2 → M' 2 0 3 = M 2 0 3 + dgc (M 1 0) L 3 (M 2 0 3) → M' 3 0 i = dgv (M 1 0) L 3 (M 2 0 3) 0 → M' 4 0 i = dgc (M 1 0) L 3 (M 2 0 3) → (∀ j, j ≠ i → M' 3 0 j = M 3 0 j ∧ M' 4 0 j = M 4 0 j) → K none M'
theorem ctX5_readNumber : CtX5_readNumber spX5_readNumber := by
  refine ct_of (by decide) dmC (fun _ => Nat.le_of_ble_eq_true rfl) ?_
  intro κ a M K C oM h
  obtain ⟨L, i⟩ := a
  dsimp only [spX5_readNumber] at h
  obtain ⟨⟨hL, hi⟩, hk⟩ := h
  refine sgX5_readNumber_0 C L i ?_
  have loop : ∀ (n : Nat) (v c : Int) (N : Mem), c + n = 3 → 0 ≤ c → (0 ≤ v ∧ v ≤ 999 ∧ (1 ≤ n → v ≤ 99)  ∧ (2 ≤ n → v ≤ 9) ∧ (3 ≤ n → v ≤ 0)) → AgR M N → N 2 0 2 = M 2 0 2 → (N 3 = M 3 ∧ N 4 = M 4) → N 2 0 3 = M 2 0 3 + c → N 2 0 3 ≤ L → dgc (M 1 0) L 3 (M 2 0 3) = c + dgc (M 1 0) L n (M 2 0 3 + c) → dgv (M 1 0) L 3 (M 2 0 3) 0 = dgv (M 1 0) L n (M 2 0 3 + c) v →
      V κ 6 N 6 [some (.inr (2, 0)), some (.inr (1, 0)), some (.inl L), some (.inl i), some (.inl v), some (.inl c)] [] K := by
    intro n
    induction n with
    | zero =>
      intro v c N hn hc hv hA h2 h34 hat haL hcc hvv
      have fin : (0 ≤ i ∧ i < 9) ∧ ∀ M82 : Mem, M82 = up3 N 3 0 i v → (0 ≤ i ∧ i < 9) ∧ ∀ M90 : Mem, M90 = up3 M82 4 0 i c → K none M90 := by
        refine ⟨hi, fun N1 e1 => ⟨hi, fun N2 e2 => ?_⟩⟩
        refine hk N2 (by rw [e2, e1]; exact (hA.up (by decide) _ _ _).up (by decide) _ _ _) ?_ ?_ ?_ ?_ ?_
        · rw [e2, up3_r _ _ _ _ _ (by decide), e1, up3_r _ _ _ _ _ (by decide)]; exact h2
        · rw [e2, up3_r _ _ _ _ _ (by decide), e1, up3_r _ _ _ _ _ (by decide), hat, hcc]; simp [dgc]
        · rw [e2, up3_r _ _ _ _ _ (by decide), e1, up3_s, hvv]; rfl
        · rw [e2, up3_s, hcc]; simp [dgc]
        · intro j hj
          rw [e2, up3_r _ _ _ _ _ (by decide), up3_j _ _ _ _ _ hj, e1, up3_j _ _ _ _ _ hj, up3_r _ _ _ _ _ (by decide), h34.1, h34.2]
          exact ⟨rfl, rfl⟩
      exact sgX5_readNumber_6 C L i v c ⟨fun _ => fin, fun z => absurd (by omega) z⟩
    | succ n ih =>
      intro v c N hn hc hv hA h2 h34 hat haL hcc hvv
      have hX : N 1 = M 1 := hA 1 (by omega)
      have fin : ¬ isF (M 1 0) L (M 2 0 3 + c) → (0 ≤ i ∧ i < 9) ∧ ∀ M82 : Mem, M82 = up3 N 3 0 i v → (0 ≤ i ∧ i < 9) ∧ ∀ M90 : Mem, M90 = up3 M82 4 0 i c → K none M90 := by
        intro hno
        have q1 : dgc (M 1 0) L (n + 1) (M 2 0 3 + c) = 0 := if_neg hno
        have q2 : dgv (M 1 0) L (n + 1) (M 2 0 3 + c) v = v := if_neg hno
        rw [q1] at hcc
        rw [q2] at hvv
        refine ⟨hi, fun N1 e1 => ⟨hi, fun N2 e2 => ?_⟩⟩
        have c3 : dgc (M 1 0) L 3 (M 2 0 3) = c := by omega
        have v3 : dgv (M 1 0) L 3 (M 2 0 3) 0 = v := hvv
        refine hk N2 (by rw [e2, e1]; exact (hA.up (by decide) _ _ _).up (by decide) _ _ _) ?_ ?_ ?_ ?_ ?_
        · rw [e2, up3_r _ _ _ _ _ (by decide), e1, up3_r _ _ _ _ _ (by decide)]; exact h2
        · rw [e2, up3_r _ _ _ _ _ (by decide), e1, up3_r _ _ _ _ _ (by decide), hat, c3]
        · rw [e2, up3_r _ _ _ _ _ (by decide), e1, up3_s, v3]
        · rw [e2, up3_s, c3]
        · intro j hj
          rw [e2, up3_r _ _ _ _ _ (by decide), up3_j _ _ _ _ _ hj, e1, up3_j _ _ _ _ _ hj, up3_r _ _ _ _ _ (by decide), h34.1, h34.2]
          exact ⟨rfl, rfl⟩
      have v9 : n ≤ 2 := by omega
      refine sgX5_readNumber_6 C L i v c ⟨fun z => absurd z (by omega), fun _ => ⟨fun z => fin (by rw [hat] at z; omega), fun c2 => ⟨by omega, fun c3 => fin (by rw [hX, hat] at c3; omega), fun c3 => ⟨by omega, fun c4 => fin (by rw [hX, hat] at c4; omega), fun c4 => ?_⟩⟩⟩⟩
      rw [hX, hat] at c3 c4 ⊢
      rw [hat] at c2
      have hyes : isF (M 1 0) L (M 2 0 3 + c) := ⟨by omega, by omega, by omega⟩
      refine ⟨by omega, by omega, by omega, by omega, fun y ey => ⟨by omega, by omega, fun N1 e1 => ?_⟩⟩
      have q1 : dgc (M 1 0) L (n + 1) (M 2 0 3 + c) = 1 + dgc (M 1 0) L n (M 2 0 3 + c + 1) := if_pos hyes
      have q2 : dgv (M 1 0) L (n + 1) (M 2 0 3 + c) v = dgv (M 1 0) L n (M 2 0 3 + c + 1) (v * 10 + (M 1 0 (M 2 0 3 + c) - 48)) := if_pos hyes
      rw [q1] at hcc
      rw [q2] at hvv
      have o34 : N1 3 = M 3 ∧ N1 4 = M 4 := by
        rw [← h34.1, ← h34.2]
        constructor
        · funext a b; rw [e1, up3_r _ _ _ _ _ (by decide)]
        · funext a b; rw [e1, up3_r _ _ _ _ _ (by decide)]
      refine ih y (c + 1) N1 (by omega) (by omega) ?_ (by rw [e1]; exact hA.up (by decide) _ _ _) ?_ o34 ?_ ?_ ?_ ?_
      · rcases (show n = 0 ∨ n = 1 ∨ n = 2 by omega) with q | q | q <;> subst q <;> omega
      · rw [e1, up3_j _ _ _ _ _ (by decide)]; exact h2
      · rw [e1, up3_s]; omega
      · rw [e1, up3_s]; omega
      · have e9 : M 2 0 3 + (c + 1) = M 2 0 3 + c + 1 := by omega
        rw [e9]
        omega
      · have e9 : M 2 0 3 + (c + 1) = M 2 0 3 + c + 1 := by omega
        rw [e9, ey]
        exact hvv
  exact loop 3 0 0 M (by omega) (by omega) (by omega) AgR.rf rfl ⟨rfl, rfl⟩ (by omega) (by omega) (by rw [Int.zero_add, Int.add_zero]) (by rw [Int.add_zero])
