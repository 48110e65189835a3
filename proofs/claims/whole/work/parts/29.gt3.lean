/-! ===== a text read into films that agree ===== -/
section TC
variable {F G : Film}
theorem FEq_T (h : FEq F G) (x : Int) : FEq (sFT F x) (sFT G x) := by
  obtain ⟨e0, e1, e2, e3, e4, e5, e6⟩ := h
  exact ⟨rfl, by simpa [sFT] using e1, by simpa [sFT] using e2, by simpa [sFT] using e3, fun w a b => by simpa [sFT] using e4 w a b, fun s a b => by simpa [sFT] using e5 s a (by simpa [sFT] using b), fun p a b => by simpa [sFT] using e6 p a (by simpa [sFT] using b)⟩
theorem FEq_B (h : FEq F G) (x : Int) : FEq (sFB F x) (sFB G x) := by
  obtain ⟨e0, e1, e2, e3, e4, e5, e6⟩ := h
  exact ⟨by simpa [sFB] using e0, rfl, by simpa [sFB] using e2, by simpa [sFB] using e3, fun w a b => by simpa [sFB] using e4 w a b, fun s a b => by simpa [sFB] using e5 s a (by simpa [sFB] using b), fun p a b => by simpa [sFB] using e6 p a (by simpa [sFB] using b)⟩
theorem FEq_N (h : FEq F G) (j i : Int) : FEq (sFN F j i) (sFN G j i) := by
  obtain ⟨e0, e1, e2, e3, e4, e5, e6⟩ := h
  refine ⟨by simpa [sFN] using e0, by simpa [sFN] using e1, by simpa [sFN] using e2, by simpa [sFN] using e3, fun w a b => by simpa [sFN] using e4 w a b, fun s a b => by simpa [sFN] using e5 s a (by simpa [sFN] using b), fun p a b => ?_⟩
  have q := e6 p a (by simpa [sFN] using b)
  by_cases c : p = j
  · subst c
    simp [sFN]
    exact ⟨q.1, q.2.1, q.2.2.1, q.2.2.2.1, q.2.2.2.2.2⟩
  · simpa [sFN, c] using q
theorem FEq_S (h : FEq F G) (k x y : Int) : FEq (sFS F k x y) (sFS G k x y) := by
  obtain ⟨e0, e1, e2, e3, e4, e5, e6⟩ := h
  refine ⟨by simpa [sFS] using e0, by simpa [sFS] using e1, by simp [sFS, e2], by simpa [sFS] using e3, fun w a b => by simpa [sFS] using e4 w a b, fun s a b => ?_, fun p a b => by simpa [sFS] using e6 p a (by simpa [sFS] using b)⟩
  have b' : s < F 2 0 0 + 1 := by simpa [sFS] using b
  by_cases c : s = F 2 0 0
  · have c' : s = G 2 0 0 := by rw [← e2]; exact c
    unfold sFS
    rw [← c, ← c']
    simp
  · have c' : ¬ s = G 2 0 0 := by rw [← e2]; exact c
    have q := e5 s a (by omega)
    simp [sFS, c, c']
    exact q
theorem FEq_P (hf : WFf F) (h : FEq F G) {l : List (Int × Int)} (hl : 5 ≤ l.length ∧ l.length % 2 = 1 ∧ l.length ≤ 9) : FEq (sFC (avs (sFP F (F 3 0 0) (aN l 0) (aN l 1) (aN l 2)) (F 3 0 0) l 4 3) (F 3 0 0 + 1)) (sFC (avs (sFP G (F 3 0 0) (aN l 0) (aN l 1) (aN l 2)) (F 3 0 0) l 4 3) (F 3 0 0 + 1)) := by
  have key : ∀ H : Film, (∀ t a b, t ≠ 3 → (t < 8 ∨ a ≠ F 3 0 0) → sFC (avs (sFP H (F 3 0 0) (aN l 0) (aN l 1) (aN l 2)) (F 3 0 0) l 4 3) (F 3 0 0 + 1) t a b = H t a b) := by
    intro H t a b h3 hc
    unfold sFC
    rw [if_neg h3, avs_spec 4 3 _ t a b (by omega) (by omega)]
    unfold sFP
    rw [if_neg (by omega), if_neg (by omega), if_neg (by omega), if_neg (by omega), if_neg (by omega)]
  have new : ∀ H : Film, ∀ t, t ≠ 3 → t ≠ 11 → t ≠ 13 → t ≠ 14 → ∀ b, sFC (avs (sFP H (F 3 0 0) (aN l 0) (aN l 1) (aN l 2)) (F 3 0 0) l 4 3) (F 3 0 0 + 1) t (F 3 0 0) b = sFP H (F 3 0 0) (aN l 0) (aN l 1) (aN l 2) t (F 3 0 0) b := by
    intro H t h3 h11 h13 h14 b
    unfold sFC
    rw [if_neg h3, avs_spec 4 3 _ t _ b (fun z => h11 z.1) (fun z => by rcases z.1 with y | y; exact h13 y; exact h14 y)]
  have ver : ∀ H : Film, sFC (avs (sFP H (F 3 0 0) (aN l 0) (aN l 1) (aN l 2)) (F 3 0 0) l 4 3) (F 3 0 0 + 1) 11 (F 3 0 0) 0 = ((l.length - 3) / 2 : Nat) ∧ ∀ v : Int, 0 ≤ v → v < (((l.length - 3) / 2 : Nat) : Int) → sFC (avs (sFP H (F 3 0 0) (aN l 0) (aN l 1) (aN l 2)) (F 3 0 0) l 4 3) (F 3 0 0 + 1) 13 (F 3 0 0) v = aN l (3 + 2 * v.toNat) ∧ sFC (avs (sFP H (F 3 0 0) (aN l 0) (aN l 1) (aN l 2)) (F 3 0 0) l 4 3) (F 3 0 0 + 1) 14 (F 3 0 0) v = aN l (3 + 2 * v.toNat + 1) := by
    intro H
    have f11 : sFP H (F 3 0 0) (aN l 0) (aN l 1) (aN l 2) 11 (F 3 0 0) 0 = 0 := by unfold sFP; simp
    have av := avs_ver (p := F 3 0 0) (l := l) 4 3 (sFP H (F 3 0 0) (aN l 0) (aN l 1) (aN l 2)) (by omega) (by omega) (by omega) (by omega) (by rw [f11]; omega)
    rw [f11] at av
    have nf : ∀ t a b, t ≠ 3 → sFC (avs (sFP H (F 3 0 0) (aN l 0) (aN l 1) (aN l 2)) (F 3 0 0) l 4 3) (F 3 0 0 + 1) t a b = avs (sFP H (F 3 0 0) (aN l 0) (aN l 1) (aN l 2)) (F 3 0 0) l 4 3 t a b := fun t a b h3 => by unfold sFC; rw [if_neg h3]
    refine ⟨by rw [nf _ _ _ (by decide), av.1]; omega, fun v v0 v1 => ?_⟩
    rw [nf _ _ _ (by decide), nf _ _ _ (by decide)]
    have q := av.2.2 v.toNat (by omega)
    have ev : (0 : Int) + (v.toNat : Int) = v := by omega
    rw [ev] at q
    exact q
  obtain ⟨e0, e1, e2, e3, e4, e5, e6⟩ := h
  refine ⟨by rw [key F 0 0 0 (by decide) (by omega), key G 0 0 0 (by decide) (by omega)]; exact e0, by rw [key F 1 0 0 (by decide) (by omega), key G 1 0 0 (by decide) (by omega)]; exact e1, by rw [key F 2 0 0 (by decide) (by omega), key G 2 0 0 (by decide) (by omega)]; exact e2, by simp [sFC], fun w a b => by rw [key F 4 w 0 (by decide) (by omega), key G 4 w 0 (by decide) (by omega)]; exact e4 w a b, fun s a b => ?_, fun p a b => ?_⟩
  · rw [key F 2 0 0 (by decide) (by omega)] at b
    rw [key F 5 s 0 (by decide) (by omega), key G 5 s 0 (by decide) (by omega), key F 6 s 0 (by decide) (by omega), key G 6 s 0 (by decide) (by omega), key F 7 s 0 (by decide) (by omega), key G 7 s 0 (by decide) (by omega)]
    exact e5 s a b
  · have b' : p < F 3 0 0 + 1 := by simpa [sFC] using b
    by_cases c : p = F 3 0 0
    · subst c
      have vF := ver F
      have vG := ver G
      rw [vF.1, vG.1]
      refine ⟨?_, ?_, ?_, rfl, ?_, fun v v0 v1 => ?_⟩
      · rw [new F 8 (by decide) (by decide) (by decide) (by decide), new G 8 (by decide) (by decide) (by decide) (by decide)]; simp [sFP]
      · rw [new F 9 (by decide) (by decide) (by decide) (by decide), new G 9 (by decide) (by decide) (by decide) (by decide)]; simp [sFP]
      · rw [new F 10 (by decide) (by decide) (by decide) (by decide), new G 10 (by decide) (by decide) (by decide) (by decide)]; simp [sFP]
      · rw [new F 12 (by decide) (by decide) (by decide) (by decide), new G 12 (by decide) (by decide) (by decide) (by decide)]; simp [sFP]
      · have q1 := vF.2 v v0 v1
        have q2 := vG.2 v v0 v1
        rw [q1.1, q1.2, q2.1, q2.2]
        exact ⟨rfl, rfl⟩
    · have q := e6 p a (by omega)
      simp only [key F 8 p _ (by decide) (Or.inr c), key F 9 p _ (by decide) (Or.inr c), key F 10 p _ (by decide) (Or.inr c), key F 11 p _ (by decide) (Or.inr c), key F 12 p _ (by decide) (Or.inr c), key F 13 p _ (by decide) (Or.inr c), key F 14 p _ (by decide) (Or.inr c), key G 8 p _ (by decide) (Or.inr c), key G 9 p _ (by decide) (Or.inr c), key G 10 p _ (by decide) (Or.inr c), key G 11 p _ (by decide) (Or.inr c), key G 12 p _ (by decide) (Or.inr c), key G 13 p _ (by decide) (Or.inr c), key G 14 p _ (by decide) (Or.inr c)]
      exact q
/-- both are not so, or both are and agree then -/
def oEq : Option Film → Option Film → Prop
  | none, none => True
  | some F', some G' => FEq F' G'
  | _, _ => False
theorem itS_c (hf : WFf F) (h : FEq F G) {x : Int} {l : List (Int × Int)} (hl : lOk l) : oEq (itS F x l) (itS G x l) := by
  have e0 := h.1
  have e2 := h.2.2.1
  have e3 := h.2.2.2.1
  have a0 := hl.at 0
  have a1 := hl.at 1
  unfold itS
  rw [← e0]
  by_cases x1 : x = 102
  · rw [if_pos x1, if_pos x1]
    unfold itF
    rw [← e0]
    split
    · exact FEq_T h _
    · trivial
  · rw [if_neg x1, if_neg x1]
    by_cases xt : F 0 0 0 = 0
    · rw [if_pos xt, if_pos xt]
      trivial
    · rw [if_neg xt, if_neg xt]
      by_cases x2 : x = 115 ∨ x = 103 ∨ x = 110
      · rw [if_pos x2, if_pos x2]
        unfold itO
        rw [← e0, ← e2]
        split
        · exact FEq_S h _ _ _
        · trivial
      · rw [if_neg x2, if_neg x2]
        by_cases x3 : x = 112
        · rw [if_pos x3, if_pos x3]
          unfold itP
          rw [← e0, ← e3]
          split
          · rename_i c
            exact FEq_P hf h ⟨c.2.1, c.2.2.1, hl.1.2⟩
          · trivial
        · rw [if_neg x3, if_neg x3]
          by_cases x4 : x = 99
          · rw [if_pos x4, if_pos x4]
            unfold itN
            rw [← e3]
            by_cases c : l.length = 2 ∧ shortB l = true ∧ aN l 1 < F 3 0 0 ∧ aN l 0 < aN l 1 ∧ F 12 (aN l 1) 0 = -4
            · have q := (h.2.2.2.2.2.2 (aN l 1) a1.1 c.2.2.1).2.2.2.2.1
              rw [if_pos c, if_pos (by rw [← q]; exact c)]
              exact FEq_N h _ _
            · rw [if_neg c, if_neg]
              · trivial
              · intro z
                have q := (h.2.2.2.2.2.2 (aN l 1) a1.1 z.2.2.1).2.2.2.2.1
                rw [← q] at z
                exact c z
          · rw [if_neg x4, if_neg x4]
            by_cases x5 : x = 98
            · rw [if_pos x5, if_pos x5]
              unfold itB
              split
              · exact FEq_B h _
              · trivial
            · rw [if_neg x5, if_neg x5]
              trivial
theorem psr_c (X : Int → Int) (L : Int) : ∀ (n : Nat) (p : Int) (F G : Film), WFf F → FEq F G → (psr X L n p F).1 = (psr X L n p G).1 ∧ FEq (psr X L n p F).2 (psr X L n p G).2 ∧ WFf (psr X L n p F).2 := by
  intro n
  induction n with
  | zero => intro p F G hf h; exact ⟨rfl, h, hf⟩
  | succ n ih =>
    intro p F G hf h
    unfold psr
    split
    · exact ⟨rfl, h, hf⟩
    · cases ht : tks X L 9 (p + 1) with
      | none => exact ⟨rfl, h, hf⟩
      | some q =>
        obtain ⟨l, e⟩ := q
        have tl := tks_len 9 _ l e ht
        have lo : lOk l := ⟨by omega, tl.2.2.2.2⟩
        have hc := itS_c hf h (x := X p) lo
        dsimp only
        cases hi : itS F (X p) l with
        | none =>
          cases hj : itS G (X p) l with
          | none => exact ⟨rfl, h, hf⟩
          | some G' => rw [hi, hj] at hc; exact hc.elim
        | some F' =>
          cases hj : itS G (X p) l with
          | none => rw [hi, hj] at hc; exact hc.elim
          | some G' =>
            rw [hi, hj] at hc
            exact ih e F' G' (itS_wf hf lo hi) hc
theorem sF0_c (F G : Film) : FEq (sF0 F) (sF0 G) := by
  refine ⟨rfl, rfl, rfl, rfl, fun w a b => ?_, fun s a b => ?_, fun p a b => ?_⟩
  · have : w = 0 ∨ w = 1 ∨ w = 2 ∨ w = 3 := by omega
    rcases this with e | e | e | e <;> subst e <;> simp [sF0]
  · simp [sF0] at b
    omega
  · simp [sF0] at b
    omega
end TC
/-- a text read: fault, film -/
def psrV (X : Int → Int) (L : Int) : Int × Film := psr X L L.toNat 0 (sF0 (fun _ _ _ => 0))
/-! ===== GapTellings: told ===== -/
/-! ===== GapTellings.write ===== -/
abbrev rmX7_write : Room := { frames := 0, cells := 0, slots := 0, locals := 0 }
abbrev argX7_write (a : Int) : List PV := [.inr (0, 0), .inl a]
abbrev CtX7_write (sp : Int → Mem → Kont → Prop) : Prop := Ct yX7_write cX7_write 2 (some .int) rmX7_write domC argX7_write (fun a => sp a)
theorem dX7_write_0 : decode cX7_write 0 = .ok (.iload_n 1, 1) := by decide +kernel
theorem dX7_write_1 : decode cX7_write 1 = .ok (.bipush 32, 2) := by decide +kernel
theorem dX7_write_3 : decode cX7_write 3 = .ok (.if_icmp .lt 9, 3) := by decide +kernel
theorem dX7_write_6 : decode cX7_write 6 = .ok (.iload_n 1, 1) := by decide +kernel
theorem dX7_write_7 : decode cX7_write 7 = .ok (.bipush 126, 2) := by decide +kernel
theorem dX7_write_9 : decode cX7_write 9 = .ok (.if_icmp .le 5, 3) := by decide +kernel
theorem dX7_write_12 : decode cX7_write 12 = .ok (.iconst (-1), 1) := by decide +kernel
theorem dX7_write_13 : decode cX7_write 13 = .ok (.ireturn, 1) := by decide +kernel
theorem dX7_write_14 : decode cX7_write 14 = .ok (.aload_n 0, 1) := by decide +kernel
theorem dX7_write_15 : decode cX7_write 15 = .ok (.getfield 86, 3) := by decide +kernel
theorem dX7_write_18 : decode cX7_write 18 = .ok (.sipush 200, 3) := by decide +kernel
theorem dX7_write_21 : decode cX7_write 21 = .ok (.if_icmp .lt 6, 3) := by decide +kernel
theorem dX7_write_24 : decode cX7_write 24 = .ok (.bipush (-3), 2) := by decide +kernel
theorem dX7_write_26 : decode cX7_write 26 = .ok (.ireturn, 1) := by decide +kernel
theorem dX7_write_27 : decode cX7_write 27 = .ok (.aload_n 0, 1) := by decide +kernel
theorem dX7_write_28 : decode cX7_write 28 = .ok (.getfield 9, 3) := by decide +kernel
theorem dX7_write_31 : decode cX7_write 31 = .ok (.aload_n 0, 1) := by decide +kernel
theorem dX7_write_32 : decode cX7_write 32 = .ok (.getfield 86, 3) := by decide +kernel
theorem dX7_write_35 : decode cX7_write 35 = .ok (.iload_n 1, 1) := by decide +kernel
theorem dX7_write_36 : decode cX7_write 36 = .ok (.i2c, 1) := by decide +kernel
theorem dX7_write_37 : decode cX7_write 37 = .ok (.castore, 1) := by decide +kernel
theorem dX7_write_38 : decode cX7_write 38 = .ok (.aload_n 0, 1) := by decide +kernel
theorem dX7_write_39 : decode cX7_write 39 = .ok (.dup, 1) := by decide +kernel
theorem dX7_write_40 : decode cX7_write 40 = .ok (.getfield 86, 3) := by decide +kernel
theorem dX7_write_43 : decode cX7_write 43 = .ok (.iconst 1, 1) := by decide +kernel
theorem dX7_write_44 : decode cX7_write 44 = .ok (.iadd, 1) := by decide +kernel
theorem dX7_write_45 : decode cX7_write 45 = .ok (.putfield 86, 3) := by decide +kernel
theorem dX7_write_48 : decode cX7_write 48 = .ok (.aload_n 0, 1) := by decide +kernel
theorem dX7_write_49 : decode cX7_write 49 = .ok (.getfield 86, 3) := by decide +kernel
theorem dX7_write_52 : decode cX7_write 52 = .ok (.ireturn, 1) := by decide +kernel
theorem flX7_86 : FL RX7 86 7 1 := ⟨_, _, _, rfl, by decide, uwX7, Or.inl (tb_mem (t_in2 (List.mem_of_getElem? (i := 216) (by decide +kernel))) (by decide +kernel))⟩
theorem flX7_9 : FL RX7 9 7 0 := ⟨_, _, _, rfl, by decide, uwX7, Or.inl (tb_mem (t_in2 (List.mem_of_getElem? (i := 215) (by decide +kernel))) (by decide +kernel))⟩
theorem plX7_86 : PL RX7 86 7 1 .int := ⟨_, _, _, rfl, by decide, uwX7, Or.inl (tb_mem (t_in2 (List.mem_of_getElem? (i := 216) (by decide +kernel))) (by decide +kernel)), rfl, by decide +kernel, tyX7, tyX7_ok, nmX7⟩
set_option maxHeartbeats 4000000 in
set_option maxRecDepth 20000 in
theorem sgX7_write_0 {κ : Kx} {K : Kont} {M : Mem} (C : Cx κ RX7 cX7_write 2 (some .int) rmX7_write domC) (x1 : Int)
    (h :
    ((x1 < 32 →
      K (some (-1)) M) ∧
     (¬ (x1 < 32) →
      ((x1 ≤ 126 →
        (((M 0 0 1) < 200 →
          (0 ≤ x1 ∧ x1 < 65536) ∧
          (0 ≤ (M 0 0 1) ∧ (M 0 0 1) < 200 ∧ 0 ≤ x1 ∧ x1 < 65536) ∧
          ∀ M37 : Mem, M37 = up3 M 1 0 (M 0 0 1) x1 →
          inR ((M37 0 0 1) + 1) ∧
          ∀ M45 : Mem, M45 = up3 M37 0 0 1 ((M37 0 0 1) + 1) →
          K (some (M45 0 0 1)) M45) ∧
         (¬ ((M 0 0 1) < 200) →
          K (some (-3)) M))) ∧
       (¬ (x1 ≤ 126) →
        K (some (-1)) M))))) : V κ 2 M 0 [some (.inr (0, 0)), some (.inl x1)] [] K := by
  refine v_iload_n C dX7_write_0 rfl ?_
  refine v_bipush C dX7_write_1 (by decide) (by decide) ?_
  refine v_icmp C dX7_write_3 (tgt := 12) (by decide) (P := x1 < 32) rfl (fun c3 => ?_) (fun c3 => ?_)
  · replace h := h.1 c3
    refine v_iconst C dX7_write_12 (by decide) ?_
    exact v_iret C dX7_write_13 h
  · replace h := h.2 c3
    refine v_iload_n C dX7_write_6 rfl ?_
    refine v_bipush C dX7_write_7 (by decide) (by decide) ?_
    refine v_icmp C dX7_write_9 (tgt := 14) (by decide) (P := x1 ≤ 126) rfl (fun c9 => ?_) (fun c9 => ?_)
    · replace h := h.1 c9
      refine v_aload_n C dX7_write_14 rfl ?_
      refine v_get C dX7_write_15 flX7_86 rfl (by decide) (by decide) (w := .inl (M 0 0 1)) rfl ?_
      refine v_sipush C dX7_write_18 (by decide) (by decide) ?_
      refine v_icmp C dX7_write_21 (tgt := 27) (by decide) (P := (M 0 0 1) < 200) rfl (fun c21 => ?_) (fun c21 => ?_)
      · replace h := h.1 c21
        refine v_aload_n C dX7_write_27 rfl ?_
        refine v_get C dX7_write_28 flX7_9 rfl (by decide) (by decide) (w := .inr (1, 0)) rfl ?_
        refine v_aload_n C dX7_write_31 rfl ?_
        refine v_get C dX7_write_32 flX7_86 rfl (by decide) (by decide) (w := .inl (M 0 0 1)) rfl ?_
        refine v_iload_n C dX7_write_35 rfl ?_
        refine v_i2c C dX7_write_36 h.1.1 h.1.2 ?_
        replace h := h.2
        refine v_cast C dX7_write_37 rfl h.1.1 h.1.2.1 h.1.2.2.1 h.1.2.2.2 ?_
        replace h := h.2
        refine v_nmM (fun M37 eM37 => ?_)
        replace h := h M37 eM37
        refine v_aload_n C dX7_write_38 rfl ?_
        refine v_dup C dX7_write_39 ?_
        refine v_get C dX7_write_40 flX7_86 rfl (by decide) (by decide) (w := .inl (M37 0 0 1)) rfl ?_
        refine v_iconst C dX7_write_43 (by decide) ?_
        refine v_iadd C dX7_write_44 h.1 ?_
        replace h := h.2
        refine v_put C dX7_write_45 plX7_86 rfl (by decide) (by decide) rfl rfl rfl ?_
        refine v_nmM (fun M45 eM45 => ?_)
        replace h := h M45 eM45
        refine v_aload_n C dX7_write_48 rfl ?_
        refine v_get C dX7_write_49 flX7_86 rfl (by decide) (by decide) (w := .inl (M45 0 0 1)) rfl ?_
        exact v_iret C dX7_write_52 h
      · replace h := h.2 c21
        refine v_bipush C dX7_write_24 (by decide) (by decide) ?_
        exact v_iret C dX7_write_26 h
    · replace h := h.2 c9
      refine v_iconst C dX7_write_12 (by decide) ?_
      exact v_iret C dX7_write_13 h
abbrev spX7_write (x : Int) (M : Mem) (K : Kont) : Prop := InvC M ∧ (x < 32 ∨ 126 < x → K (some (-1)) M) ∧ (32 ≤ x → x ≤ 126 → M 0 0 1 = 200 → K (some (-3)) M) ∧
  (32 ≤ x → x ≤ 126 → M 0 0 1 < 200 → ∀ M', InvC M' → cFilm M' 1 = cFilm M 1 → Up M M' → M' 19 0 = M 19 0 → M' 20 0 = M 20 0 → M' 0 0 1 = M 0 0 1 + 1 → (∀ p, M' 1 0 p = if p = M 0 0 1 then x else M 1 0 p) → K (some (M 0 0 1 + 1)) M')
theorem InvC_txt {M M' : Mem} (h : InvC M) (hA : ∀ r i j, r ≠ 1 → ¬ (r = 0 ∧ j = 1) → M' r i j = M r i j) (h1 : 0 ≤ M' 0 0 1 ∧ M' 0 0 1 ≤ 200) (h2 : ∀ p, 0 ≤ p → p < 200 → 0 ≤ M' 1 0 p ∧ M' 1 0 p < 65536) : InvC M' ∧ cFilm M' 1 = cFilm M 1 ∧ Up M M' ∧ M' 19 0 = M 19 0 ∧ M' 20 0 = M 20 0 := by
  have g : ∀ r i, r ≠ 1 → r ≠ 0 → M' r i = M r i := fun r i q1 q2 => by funext j; exact hA r i j q1 (by omega)
  have hf : cFilm M' 1 = cFilm M 1 := by
    refine cFilm_eq (fun r x y => ?_) 1
    funext i
    exact g r i (by omega) (by omega)
  obtain ⟨⟨a1, a2, a3, a4, a5⟩, b1, b2, b3⟩ := h
  refine ⟨⟨⟨⟨h1, h2⟩, by rw [hf]; exact a2, ⟨fun u x y => by rw [g 16 0 (by decide) (by decide), g 17 0 (by decide) (by decide)]; exact a3.1 u x y, fun u x y => by rw [g 16 1 (by decide) (by decide), g 17 1 (by decide) (by decide)]; exact a3.2 u x y⟩, ⟨by rw [g 16 0 (by decide) (by decide)]; exact a4.1, by rw [g 17 0 (by decide) (by decide)]; exact a4.2.1, by rw [g 16 1 (by decide) (by decide)]; exact a4.2.2.1, by rw [g 17 1 (by decide) (by decide)]; exact a4.2.2.2⟩, by rw [hf, g 19 0 (by decide) (by decide), g 20 0 (by decide) (by decide)]; exact a5⟩, ?_, ?_, ?_⟩, hf, fun r a => by funext i; exact g r i (by omega) (by omega), g 19 0 (by decide) (by decide), g 20 0 (by decide) (by decide)⟩
  · rw [hf]
    exact ⟨fun u x y => by rw [g 15 0 (by decide) (by decide)]; exact b1.1 u x y, fun u x y => by rw [g 16 0 (by decide) (by decide), g 17 0 (by decide) (by decide)]; exact b1.2 u x y⟩
  · rw [hf, hA 0 0 10 (by decide) (by omega), hA 0 0 11 (by decide) (by omega), g 19 1 (by decide) (by decide), g 20 1 (by decide) (by decide)]
    exact b2
  · rw [hf, g 23 0 (by decide) (by decide), g 19 2 (by decide) (by decide), g 20 2 (by decide) (by decide)]
    exact b3
theorem ctX7_write : CtX7_write spX7_write := by
  refine ct_of (by decide) dmC (fun _ => Nat.le_of_ble_eq_true rfl) ?_
  intro κ x M K C oM h
  dsimp only [spX7_write] at h
  obtain ⟨hI, k1, k2, k3⟩ := h
  have hl := hI.1.1.1
  have hx := hI.1.1.2
  refine sgX7_write_0 C x ⟨fun c => k1 (by omega), fun c => ⟨fun c2 => ⟨fun c3 => ⟨by omega, by omega, fun N1 e1 => ?_⟩, fun c3 => k2 (by omega) (by omega) (by omega)⟩, fun c2 => k1 (by omega)⟩⟩
  have n1 : N1 0 0 1 = M 0 0 1 := by rw [e1, up3_r _ _ _ _ _ (by decide)]
  refine ⟨by omega, fun N2 e2 => ?_⟩
  have n2 : N2 0 0 1 = M 0 0 1 + 1 := by rw [e2, up3_s, n1]
  have t2 : ∀ p, N2 1 0 p = if p = M 0 0 1 then x else M 1 0 p := by
    intro p
    rw [e2, up3_r _ _ _ _ _ (by decide), e1]
    by_cases e : p = M 0 0 1
    · rw [if_pos e, e, up3_s]
    · rw [if_neg e, up3_j _ _ _ _ _ e]
  have := InvC_txt (M' := N2) hI (fun r i j q1 q2 => by rw [e2, show up3 N1 0 0 1 _ r i j = N1 r i j from if_neg (fun z => q2 ⟨z.1, z.2.2⟩), e1, up3_r _ _ _ _ _ q1]) (by omega) (fun p a b => by rw [t2]; split; omega; exact hx p a b)
  rw [n2]
  exact k3 (by omega) (by omega) c3 N2 this.1 this.2.1 this.2.2.1 this.2.2.2.1 this.2.2.2.2 n2 t2
/-! ===== GapTellings.wipe ===== -/
abbrev rmX7_wipe : Room := { frames := 0, cells := 0, slots := 0, locals := 0 }
abbrev argX7_wipe (a : Unit) : List PV := [.inr (0, 0)]
abbrev CtX7_wipe (sp : Mem → Kont → Prop) : Prop := Ct yX7_wipe cX7_wipe 2 (some .int) rmX7_wipe domC argX7_wipe (fun _ => sp)
theorem dX7_wipe_0 : decode cX7_wipe 0 = .ok (.aload_n 0, 1) := by decide +kernel
theorem dX7_wipe_1 : decode cX7_wipe 1 = .ok (.getfield 86, 3) := by decide +kernel
theorem dX7_wipe_4 : decode cX7_wipe 4 = .ok (.istore_n 1, 1) := by decide +kernel
theorem dX7_wipe_5 : decode cX7_wipe 5 = .ok (.aload_n 0, 1) := by decide +kernel
theorem dX7_wipe_6 : decode cX7_wipe 6 = .ok (.iconst 0, 1) := by decide +kernel
theorem dX7_wipe_7 : decode cX7_wipe 7 = .ok (.putfield 86, 3) := by decide +kernel
theorem dX7_wipe_10 : decode cX7_wipe 10 = .ok (.iload_n 1, 1) := by decide +kernel
theorem dX7_wipe_11 : decode cX7_wipe 11 = .ok (.ireturn, 1) := by decide +kernel
set_option maxHeartbeats 4000000 in
set_option maxRecDepth 20000 in
theorem sgX7_wipe_0 {κ : Kx} {K : Kont} {M : Mem} (C : Cx κ RX7 cX7_wipe 2 (some .int) rmX7_wipe domC) 
    (h :
    ∀ M7 : Mem, M7 = up3 M 0 0 1 0 →
    K (some (M 0 0 1)) M7) : V κ 2 M 0 [some (.inr (0, 0)), none] [] K := by
  refine v_aload_n C dX7_wipe_0 rfl ?_
  refine v_get C dX7_wipe_1 flX7_86 rfl (by decide) (by decide) (w := .inl (M 0 0 1)) rfl ?_
  refine v_istore_n C dX7_wipe_4 (by decide) (Nat.le_of_ble_eq_true rfl) (lv' := [some (.inr (0, 0)), some (.inl (M 0 0 1))]) rfl ?_
  refine v_aload_n C dX7_wipe_5 rfl ?_
  refine v_iconst C dX7_wipe_6 (by decide) ?_
  refine v_put C dX7_wipe_7 plX7_86 rfl (by decide) (by decide) rfl rfl rfl ?_
  refine v_nmM (fun M7 eM7 => ?_)
  replace h := h M7 eM7
  refine v_iload_n C dX7_wipe_10 rfl ?_
  exact v_iret C dX7_wipe_11 h
abbrev spX7_wipe (M : Mem) (K : Kont) : Prop := InvC M ∧ ∀ M', InvC M' → cFilm M' 1 = cFilm M 1 → Up M M' → M' 19 0 = M 19 0 → M' 20 0 = M 20 0 → M' 0 0 1 = 0 → K (some (M 0 0 1)) M'
theorem ctX7_wipe : CtX7_wipe spX7_wipe := by
  refine ct_of (by decide) dmC (fun _ => Nat.le_of_ble_eq_true rfl) ?_
  intro κ a M K C oM h
  obtain ⟨hI, hk⟩ := h
  refine sgX7_wipe_0 C (fun N e => ?_)
  have t1 : N 1 0 = M 1 0 := by funext j; rw [e, up3_r _ _ _ _ _ (by decide)]
  have n1 : N 0 0 1 = 0 := by rw [e, up3_s]
  have := InvC_txt (M' := N) hI (fun r i j q1 q2 => by rw [e]; exact if_neg (fun z => q2 ⟨z.1, z.2.2⟩)) (by omega) (fun p a b => by rw [t1]; exact hI.1.1.2 p a b)
  exact hk N this.1 this.2.1 this.2.2.1 this.2.2.2.1 this.2.2.2.2 n1
/-- reading into the draft changes nothing that counts -/
def SimC (M M' : Mem) : Prop := M' 0 0 1 = M 0 0 1 ∧ M' 1 0 = M 1 0 ∧ FEq (cFilm M 1) (cFilm M' 1) ∧ M' 19 0 = M 19 0 ∧ M' 20 0 = M 20 0 ∧ Up M M'
theorem SameC.sim {M M' : Mem} (h : SameC M M') : SimC M M' := ⟨h.1, h.2.1, by rw [h.2.2.1]; exact FEq.rf, h.2.2.2⟩
theorem bV0_c {F G : Film} (hf : WFf F) (hg : FEq F G) {b b' may may' : Int} (hb : 0 ≤ b) (eb : b = b') (hm : ∀ k, 0 ≤ k → k < F 3 0 0 → bit may k = bit may' k) : bV0 F b may = bV0 G b' may' := by
  have h0 := hf.1
  unfold bV0
  rw [← eb, ← hg.1]
  exact tab_c hf hg (fun t _ _ => spb_c hf hg t) (fun t _ _ => csb_c hf hg t) hb hm _ _ _ (by omega) (by omega) (by omega)
theorem allS_c {F G : Film} (hg : FEq F G) : allS F = allS G := by unfold allS; rw [hg.2.2.2.1]
theorem bP0_c {F G : Film} (hf : WFf F) (hg : FEq F G) : bP0 F = bP0 G := by
  unfold bP0
  rw [← hg.2.1]
  exact bstP_c hf hg (fun t _ _ => spb_c hf hg t) (fun t _ _ => csb_c hf hg t) hf.2.1.1
theorem gr0_c {F G : Film} (hf : WFf F) (hg : FEq F G) : PlEq (gr0 F).1 (gr0 F).2 (gr0 G).1 (gr0 G).2 ∧ PlK F (gr0 F).1 (gr0 F).2 := gre_c hf hg (fun t _ _ => spb_c hf hg t) (fun t _ _ => csb_c hf hg t)
theorem InvC_feq {M M' : Mem} (h : InvC M) (hg : FEq (cFilm M 1) (cFilm M' 1)) (g : ∀ r i, (r = 0 ∨ r = 1 ∨ (14 ≤ r ∧ r ≤ 23)) → M' r i = M r i) : InvC M' := by
  obtain ⟨⟨a1, a2, a3, a4, a5⟩, b1, b2, b3⟩ := h
  refine ⟨⟨⟨by rw [g 0 0 (by omega)]; exact a1.1, by rw [g 1 0 (by omega)]; exact a1.2⟩, hg.wf a2, ⟨fun u x y => by rw [g 16 0 (by omega), g 17 0 (by omega)]; exact a3.1 u x y, fun u x y => by rw [g 16 1 (by omega), g 17 1 (by omega)]; exact a3.2 u x y⟩, ⟨by rw [g 16 0 (by omega)]; exact a4.1, by rw [g 17 0 (by omega)]; exact a4.2.1, by rw [g 16 1 (by omega)]; exact a4.2.2.1, by rw [g 17 1 (by omega)]; exact a4.2.2.2⟩, by rw [g 19 0 (by omega), g 20 0 (by omega)]; exact PlV_c a2 hg (fun _ _ _ => ⟨rfl, rfl⟩) a5⟩, ?_, ?_, ?_⟩
  · refine ⟨fun u x y => by rw [g 15 0 (by omega), ← mkF_c a2 hg]; exact b1.1 u x y, fun u x y => ?_⟩
    rw [g 16 0 (by omega), g 17 0 (by omega), ← spb_c a2 hg, ← csb_c a2 hg]
    exact b1.2 u x (by rw [hg.1]; exact y)
  · rw [g 0 0 (by omega), g 19 1 (by omega), g 20 1 (by omega)]
    intro z
    have b := b2 z
    rw [← bP0_c a2 hg, ← bV0_c (may := allS (cFilm M 1)) a2 hg a2.2.1.1 hg.2.1 (fun k _ _ => by rw [allS_c hg])]
    exact ⟨b.1, PlK_c a2 hg (fun _ _ _ => ⟨rfl, rfl⟩) b.2.1, b.2.2⟩
  · rw [g 23 0 (by omega), g 19 2 (by omega), g 20 2 (by omega)]
    intro z
    have b := b3 z
    exact ⟨PlK_c a2 hg (fun _ _ _ => ⟨rfl, rfl⟩) b.1, b.2.tr (gr0_c a2 hg).1⟩
theorem InvC_draft {M M' : Mem} (h : InvC M) (hA : AgD M M' 0) : InvC M' ∧ SimC M M' := by
  have o : ∀ r i j, ¬ ((2 ≤ r ∧ r ≤ 4) ∨ ((5 ≤ r ∧ r ≤ 9) ∧ i = 0) ∨ ((11 ≤ r ∧ r ≤ 13) ∧ 0 ≤ i ∧ i < 7)) → M' r i j = M r i j := fun r i j hn => hA r i j (by omega)
  have g : ∀ r i, (r = 0 ∨ r = 1 ∨ 14 ≤ r) → M' r i = M r i := fun r i q => by funext j; exact o r i j (by omega)
  have hf : ∀ t a b, 0 ≤ a → cFilm M' 1 t a b = cFilm M 1 t a b := by
    intro t a b hab
    unfold cFilm
    split <;> first | rfl | exact o _ _ _ (by omega)
  have hg : FEq (cFilm M 1) (cFilm M' 1) := ⟨(hf _ _ _ (by omega)).symm, (hf _ _ _ (by omega)).symm, (hf _ _ _ (by omega)).symm, (hf _ _ _ (by omega)).symm, fun w a b => (hf _ _ _ a).symm, fun s a b => ⟨(hf _ _ _ a).symm, (hf _ _ _ a).symm, (hf _ _ _ a).symm⟩, fun p a b => ⟨(hf _ _ _ a).symm, (hf _ _ _ a).symm, (hf _ _ _ a).symm, (hf _ _ _ a).symm, (hf _ _ _ a).symm, fun v c d => ⟨(hf _ _ _ a).symm, (hf _ _ _ a).symm⟩⟩⟩
  exact ⟨InvC_feq h hg (fun r i q => g r i (by omega)), congrFun (g 0 0 (by omega)) 1, g 1 0 (by omega), hg, g 19 0 (by omega), g 20 0 (by omega), fun r a => by funext i; exact g r i (by omega)⟩
