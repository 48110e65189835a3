/-! ===== plans in which no two share a tick, and what is needed is placed ===== -/
def VP (F : Film) (ver sta : Int → Int) : Prop := (∀ p q, 0 ≤ p → p < 7 → 0 ≤ q → q < 7 → p ≠ q → ver p ≠ -4 → ver q ≠ -4 → sta p + F 13 p (ver p) ≤ sta q ∨ sta q + F 13 q (ver q) ≤ sta p) ∧ (∀ p, 0 ≤ p → p < 7 → ver p ≠ -4 → F 12 p 0 ≠ -4 → ver (F 12 p 0) ≠ -4)
def PlV (F : Film) (ver sta : Int → Int) : Prop := PlK F ver sta ∧ VP F ver sta
theorem VP_c {F G : Film} {ver sta ver' sta' : Int → Int} (hf : WFf F) (hg : FEq F G) (hP : PlK F ver sta) (he : PlEq ver sta ver' sta') (h : VP F ver sta) : VP G ver' sta' := by
  have n3 := hf.2.2.2.1
  have len : ∀ p, 0 ≤ p → p < 7 → ver p ≠ -4 → F 13 p (ver p) = G 13 p (ver' p) := by
    intro p a b c
    have k := hP.at a b c
    rw [((hg.2.2.2.2.2.2 p a k.1).2.2.2.2.2 (ver p) k.2.1.1 k.2.1.2).1, (he p a b).1]
  refine ⟨fun p q a b c d e f g => ?_, fun p a b c d => ?_⟩
  · rw [← (he p a b).1] at f
    rw [← (he q c d).1] at g
    rw [← len p a b f, ← len q c d g, ← (he p a b).2, ← (he q c d).2]
    exact h.1 p q a b c d e f g
  · rw [← (he p a b).1] at c
    have k := hP.at a b c
    have w := wf_p hf a k.1
    rw [← (hg.2.2.2.2.2.2 p a k.1).2.2.2.2.1] at d ⊢
    rw [← (he _ (by omega) (by omega)).1]
    exact h.2 p a b c d
theorem PlK_c {F G : Film} {ver sta ver' sta' : Int → Int} (hf : WFf F) (hg : FEq F G) (he : PlEq ver sta ver' sta') (hP : PlK F ver sta) : PlK G ver' sta' := by
  intro q a b
  have e := he q a b
  rcases hP q a b with z | ⟨z1, z2, z3, z4⟩
  · exact Or.inl ⟨by rw [← e.1]; exact z.1, by rw [← e.2]; exact z.2⟩
  · have k := hg.2.2.2.2.2.2 q a z1
    have l := k.2.2.2.2.2 (ver q) z2.1 z2.2
    refine Or.inr ⟨by rw [← hg.2.2.2.1]; exact z1, ?_, by rw [← e.2]; exact z3, ?_⟩
    · rw [← e.1, ← k.2.2.2.1]; exact z2
    · rw [← e.1, ← e.2, ← l.1, ← hg.1]; exact z4
theorem PlV_c {F G : Film} {ver sta ver' sta' : Int → Int} (hf : WFf F) (hg : FEq F G) (he : PlEq ver sta ver' sta') (h : PlV F ver sta) : PlV G ver' sta' := ⟨PlK_c hf hg he h.1, VP_c hf hg h.1 he h.2⟩
theorem VP_none (F : Film) {ver sta : Int → Int} (h : ∀ q, 0 ≤ q → q < 7 → ver q = -4) : VP F ver sta := ⟨fun p q a b _ _ _ f _ => absurd (h p a b) f, fun p a b c _ => absurd (h p a b) c⟩
theorem PlV_none (F : Film) {ver sta : Int → Int} (h : ∀ q, 0 ≤ q → q < 7 → ver q = -4 ∧ sta q = -4) : PlV F ver sta := ⟨fun q a b => Or.inl (h q a b), VP_none F (fun q a b => (h q a b).1)⟩
theorem why_no {F : Film} {S ver sta : Int → Int} {p v t : Int} (h : whyW F S ver sta p v t = 0) : ¬ C4 F ver sta p v t ∧ ¬ C5 F ver sta p t ∧ ¬ C6 F ver sta p v t := by
  have o := why_own h
  unfold whyW at h
  rw [if_pos o] at h
  by_cases c4 : C4 F ver sta p v t
  · rw [whyB_4 c4] at h; exact absurd h (by decide)
  · by_cases c5 : C5 F ver sta p t
    · rw [whyB_5 c4 c5] at h; exact absurd h (by decide)
    · by_cases c6 : C6 F ver sta p v t
      · rw [whyB_6 c4 c5 c6] at h; exact absurd h (by decide)
      · exact ⟨c4, c5, c6⟩
theorem setP_s (f : Int → Int) (p v : Int) : setP f p v p = v := if_pos rfl
theorem setP_n (f : Int → Int) (p v : Int) {q : Int} (h : q ≠ p) : setP f p v q = f q := if_neg h
theorem VP_put {F : Film} {S ver sta : Int → Int} {p v t : Int} (hf : WFf F) (hP : PlK F ver sta) (h : VP F ver sta) (hp : 0 ≤ p) (hp2 : p < F 3 0 0) (hv : 0 ≤ v) (hw : whyW F S ver sta p v t = 0) : VP F (setP ver p v) (setP sta p t) := by
  obtain ⟨n4, n5, -⟩ := why_no hw
  have b0 := hf.2.1.1
  have key : ∀ q, 0 ≤ q → q < 7 → q ≠ p → ver q ≠ -4 → t + F 13 p v ≤ sta q ∨ sta q + F 13 q (ver q) ≤ t := by
    intro q a b c d
    have k := hP.at a b d
    rcases Int.lt_or_le (sta q) (t + F 13 p v) with e | e
    · right
      rcases Int.lt_or_le t (sta q + F 13 q (ver q)) with f | f
      · exact absurd ⟨q, a, k.1, c, d, by omega, by omega⟩ n4
      · exact f
    · exact Or.inl e
  refine ⟨fun x y a b c d e f g => ?_, fun x a b c d => ?_⟩
  · by_cases ex : x = p
    · subst ex
      rw [setP_n _ _ _ (fun z => e z.symm)] at g
      rw [setP_s, setP_s, setP_n _ _ _ (fun z => e z.symm), setP_n _ _ _ (fun z => e z.symm)]
      exact key y c d (fun z => e z.symm) g
    · rw [setP_n _ _ _ ex] at f
      rw [setP_n _ _ _ ex, setP_n _ _ _ ex]
      by_cases ey : y = p
      · subst ey
        rw [setP_s, setP_s]
        exact (key x a b e f).symm
      · rw [setP_n _ _ _ ey] at g
        rw [setP_n _ _ _ ey, setP_n _ _ _ ey]
        exact h.1 x y a b c d e f g
  · by_cases e2 : F 12 x 0 = p
    · rw [e2, setP_s]; omega
    · rw [setP_n _ _ _ e2]
      by_cases ex : x = p
      · subst ex
        intro z
        exact n5 ⟨d, Or.inl z⟩
      · rw [setP_n _ _ _ ex] at c
        exact h.2 x a b c d
theorem VP_tr {F : Film} (hf : WFf F) {S Q : Int → Int} {B : Int} (hB : 0 ≤ B) {f : Int → Int → Int} : ∀ (n : Nat) (t free set : Int) (ver sta : Int → Int), 0 ≤ t → t + n ≤ F 0 0 0 → (0 ≤ set ∧ set < 128) → VP F ver sta → (∀ q, 0 ≤ q → q < 7 → ((bit set q = true → ver q ≠ -4) ∧ (ver q ≠ -4 → bit set q = true ∧ sta q + F 13 q (ver q) ≤ free))) → VP F (trC F S Q B f n t free set ver sta).1 (trC F S Q B f n t free set ver sta).2 := by
  have n3 := hf.2.2.2.1
  intro n
  induction n with
  | zero => intro t free set ver sta _ _ _ h _; exact h
  | succ n ih =>
    intro t free set ver sta t0 t1 hs h hj
    have sp := fiP_spec hf (S := S) (Q := Q) (B := B) (f := f) (t := t) (set := set) (F 3 0 0).toNat 0 (by omega) (by omega)
    unfold trC
    split
    · exact ih _ _ _ _ _ (by omega) (by omega) hs h hj
    · split
      · exact ih _ _ _ _ _ (by omega) (by omega) hs h hj
      · rename_i c d
        rcases sp with z | ⟨p, k, z1, z2, z3, z4, z5, z6, -⟩
        · omega
        · have w := wf_pv hf z1 z2 z3 z4
          have wp := wf_p hf z1 z2
          rw [z5]
          have d1 : (3 * p + k) / 3 = p := by omega
          have d2 : (3 * p + k) % 3 = k := by omega
          rw [d1, d2]
          have oe := own_end z6.2.2
          have s2 := shl_lt128 (p := p) z1 w.2.1
          have bb : ∀ q, 0 ≤ q → bit (bOr set (bShl 1 p)) q = (bit set q || decide (q = p)) := fun q a => by rw [bit_or2 hs.1 hs.2 (by omega) s2.2, bit_shl z1 (by omega) a]
          refine ih _ _ _ _ _ (by omega) (by omega) (or_rng7 hs.1 hs.2 (by omega) s2.2) ?_ ?_
          · refine ⟨fun x y a b c' d' e f' g => ?_, fun x a b c' d' => ?_⟩
            · by_cases ex : x = p
              · subst ex
                rw [setP_n _ _ _ (fun z => e z.symm)] at g
                rw [setP_s, setP_s, setP_n _ _ _ (fun z => e z.symm), setP_n _ _ _ (fun z => e z.symm)]
                have := ((hj y c' d').2 g).2
                omega
              · rw [setP_n _ _ _ ex] at f'
                rw [setP_n _ _ _ ex, setP_n _ _ _ ex]
                by_cases ey : y = p
                · subst ey
                  rw [setP_s, setP_s]
                  have := ((hj x a b).2 f').2
                  omega
                · rw [setP_n _ _ _ ey] at g
                  rw [setP_n _ _ _ ey, setP_n _ _ _ ey]
                  exact h.1 x y a b c' d' e f' g
            · by_cases e2 : F 12 x 0 = p
              · rw [e2, setP_s]; omega
              · rw [setP_n _ _ _ e2]
                by_cases ex : x = p
                · subst ex
                  rcases z6.2.1 with y | y
                  · exact absurd y d'
                  · exact (hj _ (by omega) (by omega)).1 y
                · rw [setP_n _ _ _ ex] at c'
                  exact h.2 x a b c' d'
          · intro q a b
            rw [bb q a]
            by_cases e : q = p
            · subst e
              rw [setP_s, setP_s]
              refine ⟨fun _ => by omega, fun _ => ⟨by simp, by omega⟩⟩
            · rw [setP_n _ _ _ e, setP_n _ _ _ e]
              have := hj q a b
              simp only [e, decide_false, Bool.or_false]
              refine ⟨this.1, fun y => ⟨(this.2 y).1, ?_⟩⟩
              have := (this.2 y).2
              omega
theorem VP_best {F : Film} (hf : WFf F) {S Q : Int → Int} {B : Int} (hB : 0 ≤ B) : VP F (bstP F S Q B).1 (bstP F S Q B).2 := by
  unfold bstP
  have h0 := hf.1
  refine VP_tr hf hB _ _ _ _ _ _ (by omega) (by omega) (by omega) (VP_none F (fun _ _ _ => rfl)) (fun q a b => ⟨fun z => ?_, fun z => absurd rfl z⟩)
  rw [bit_0] at z
  exact absurd z (by decide)
/-! ===== what sound takes off ===== -/
theorem lowF_none {F : Film} {S ver sta : Int → Int} : ∀ (n : Nat) (p : Int), 0 ≤ p → lowF F S ver sta n p = -4 → ∀ q, p ≤ q → q < p + n → ver q = -4 ∨ whyW F S ver sta q (ver q) (sta q) = 0 := by
  intro n
  induction n with
  | zero => intro p _ _ q a b; omega
  | succ n ih =>
    intro p h0 h q a b
    unfold lowF at h
    split at h
    · omega
    · rename_i c
      by_cases e : q = p
      · subst e
        by_cases z : ver q = -4
        · exact Or.inl z
        · right
          exact Classical.byContradiction (fun y => c ⟨z, y⟩)
      · exact ih (p + 1) (by omega) h q (by omega) (by omega)
theorem sumN_up {f g : Int → Int} {p : Int} (h0 : 0 ≤ p) (h : ∀ q, q ≠ p → g q = f q) : ∀ n : Nat, p < n → sumN g n = sumN f n + (g p - f p) := by
  intro n
  induction n with
  | zero => intro h; omega
  | succ n ih =>
    intro hp
    show sumN g n + g n = sumN f n + f n + _
    by_cases e : p = n
    · rw [← e, sumN_c n (fun t a b => h t (by omega))]
      omega
    · rw [ih (by omega), h n (by omega)]
      omega
theorem szN_off {ver : Int → Int} {p : Int} (h0 : 0 ≤ p) (hv : ver p ≠ -4) {n : Nat} (hn : p < n) : szN (offP ver p) n = szN ver n - 1 := by
  unfold szN
  rw [sumN_up (f := fun p => if ver p = -4 then 0 else 1) h0 (fun q e => by unfold offP; rw [if_neg e]) n hn]
  have : offP ver p p = -4 := if_pos rfl
  rw [if_pos this, if_neg hv]
  omega
theorem szN_0 {ver : Int → Int} : ∀ n : Nat, szN ver n ≤ 0 → ∀ q : Int, 0 ≤ q → q < n → ver q = -4 := by
  intro n
  induction n with
  | zero => intro _ q a b; omega
  | succ n ih =>
    intro h q a b
    have h1 : szN ver n + (if ver n = -4 then 0 else 1) ≤ 0 := h
    have h2 := szN_rng ver n
    by_cases e : q = n
    · rw [e]
      split at h1
      · assumption
      · omega
    · refine ih ?_ q a (by omega)
      split at h1 <;> omega
theorem lowF_all {F : Film} {S ver sta : Int → Int} : ∀ (n : Nat) (p : Int), (∀ q, p ≤ q → q < p + n → ver q = -4) → lowF F S ver sta n p = -4 := by
  intro n
  induction n with
  | zero => intro p _; rfl
  | succ n ih =>
    intro p h
    unfold lowF
    rw [if_neg (fun z => z.1 (h p (by omega) (by omega)))]
    exact ih (p + 1) (fun q a b => h q (by omega) (by omega))
theorem df_end {F : Film} {S : Int → Int} (hn : 0 ≤ F 3 0 0) : ∀ (n : Nat) (ver sta : Int → Int), szN ver (F 3 0 0).toNat ≤ n → lowF F S (dfN F S n ver sta).1 (dfN F S n ver sta).2 (F 3 0 0).toNat 0 = -4 := by
  intro n
  induction n with
  | zero =>
    intro ver sta h
    exact lowF_all _ _ (fun q a b => szN_0 _ h q a (by omega))
  | succ n ih =>
    intro ver sta h
    unfold dfN
    split
    · assumption
    · rename_i c
      rcases lowF_spec F S ver sta (F 3 0 0).toNat 0 with z | ⟨z1, z2, z3⟩
      · exact absurd z c
      · refine ih _ _ ?_
        rw [szN_off z1 z3 (by omega)]
        omega
theorem df_sub {F : Film} {S : Int → Int} : ∀ (n : Nat) (ver sta : Int → Int) (q : Int), (dfN F S n ver sta).1 q = -4 ∨ ((dfN F S n ver sta).1 q = ver q ∧ (dfN F S n ver sta).2 q = sta q) := by
  intro n
  induction n with
  | zero => intro ver sta q; exact Or.inr ⟨rfl, rfl⟩
  | succ n ih =>
    intro ver sta q
    unfold dfN
    split
    · exact Or.inr ⟨rfl, rfl⟩
    · rcases ih (offP ver (lowF F S ver sta (F 3 0 0).toNat 0)) (offP sta (lowF F S ver sta (F 3 0 0).toNat 0)) q with z | z
      · exact Or.inl z
      · by_cases e : q = lowF F S ver sta (F 3 0 0).toNat 0
        · left
          rw [z.1]
          exact if_pos e
        · right
          refine ⟨z.1.trans (if_neg e), z.2.trans (if_neg e)⟩
theorem szN_le7 {F : Film} (hf : WFf F) (ver : Int → Int) : szN ver (F 3 0 0).toNat ≤ 7 := by
  have := szN_rng ver (F 3 0 0).toNat
  have := hf.2.2.2.1
  omega
theorem VP_df {F : Film} {S ver sta : Int → Int} (hf : WFf F) (hP : PlK F ver sta) (h : ∀ p q, 0 ≤ p → p < 7 → 0 ≤ q → q < 7 → p ≠ q → ver p ≠ -4 → ver q ≠ -4 → sta p + F 13 p (ver p) ≤ sta q ∨ sta q + F 13 q (ver q) ≤ sta p) : VP F (dfN F S 7 ver sta).1 (dfN F S 7 ver sta).2 := by
  have n3 := hf.2.2.2.1
  have en := df_end (S := S) n3.1 7 ver sta (szN_le7 hf ver)
  refine ⟨fun p q a b c d e f g => ?_, fun p a b c d => ?_⟩
  · rcases df_sub (F := F) (S := S) 7 ver sta p with z | z
    · exact absurd z f
    · rcases df_sub (F := F) (S := S) 7 ver sta q with y | y
      · exact absurd y g
      · rw [z.1] at f ⊢
        rw [y.1] at g ⊢
        rw [z.2, y.2]
        exact h p q a b c d e f g
  · have k : p < F 3 0 0 := by
      rcases df_sub (F := F) (S := S) 7 ver sta p with z | z
      · exact absurd z c
      · rw [z.1] at c
        exact (hP.at a b c).1
    rcases lowF_none _ _ (by omega) en p a (by omega) with z | z
    · exact absurd z c
    · intro y
      exact (why_no z).2.1 ⟨d, Or.inl y⟩
