/-! ===== the best plan: a table of (tick, set of pictures told ahead) ===== -/
abbrev begOk (F : Film) (S : Int → Int) (p v t set : Int) : Prop := bit set p = false ∧ (F 12 p 0 = -4 ∨ bit set (F 12 p 0) = true) ∧ ownW F S p v t = 0
def begW (F : Film) (Q : Int → Int) (B : Int) (f : Int → Int → Int) (p v t set : Int) : Int := gainW F Q p v t + f (min (t + F 13 p v + B) (F 0 0 0)) (bOr set (bShl 1 p))
def bV (F : Film) (S Q : Int → Int) (B : Int) (f : Int → Int → Int) (t set p : Int) : Nat → Int → Int
  | 0, b => b
  | k + 1, b => if begOk F S p k t set then max (bV F S Q B f t set p k b) (begW F Q B f p k t set) else bV F S Q B f t set p k b
def bP (F : Film) (S Q : Int → Int) (B : Int) (f : Int → Int → Int) (t set may : Int) : Nat → Int
  | 0 => f (t + 1) set
  | n + 1 => if bit may n then bV F S Q B f t set n (F 11 n 0).toNat (bP F S Q B f t set may n) else bP F S Q B f t set may n
def tabR (F : Film) (S Q : Int → Int) (B may : Int) : Nat → Int → Int → Int
  | 0 => fun _ _ => 0
  | n + 1 => fun t set => if t = F 0 0 0 - (n + 1) then bP F S Q B (tabR F S Q B may n) t set may (F 3 0 0).toNat else tabR F S Q B may n t set
/-- sums that are small -/
def QB (Q : Int → Int) : Prop := ∀ t, 0 ≤ t → t ≤ 100 → 0 ≤ Q t ∧ Q t ≤ 900
theorem gainQ_rng {F : Film} {Q : Int → Int} (hf : WFf F) (hb : QB Q) {p v t : Int} (hp : 0 ≤ p) (hp2 : p < F 3 0 0) (hv : 0 ≤ v) (hv2 : v < F 11 p 0) (ht : 0 ≤ t) (ht2 : t < F 0 0 0) : -2000 ≤ gainW F Q p v t ∧ gainW F Q p v t ≤ 2000 := by
  have hw := wf_pv hf hp hp2 hv hv2
  have hs := shift_rng hf hp hp2 ht ht2
  unfold gainW
  have hb1 := hb t (by omega) (by omega)
  have hb2 := hb (min (t + F 13 p v) (F 0 0 0)) (by omega) (by omega)
  omega
theorem bV_rng {F : Film} {S Q : Int → Int} (hf : WFf F) (hb : QB Q) {B : Int} (hB : 0 ≤ B) {f : Int → Int → Int} {t set p U : Int} (hp : 0 ≤ p) (hp2 : p < F 3 0 0) (ht : 0 ≤ t) (ht2 : t < F 0 0 0) (hff : ∀ u s, t < u → u ≤ F 0 0 0 → f u s ≤ U) : ∀ (k : Nat) (b : Int), (k : Int) ≤ F 11 p 0 → 0 ≤ b → b ≤ 2000 + U → 0 ≤ bV F S Q B f t set p k b ∧ bV F S Q B f t set p k b ≤ 2000 + U := by
  intro k
  induction k with
  | zero => intro b _ h0 h1; exact ⟨h0, h1⟩
  | succ k ih =>
    intro b hk h0 h1
    have h2 := ih b (by omega) h0 h1
    unfold bV
    split
    · have w := wf_pv hf hp hp2 (v := k) (by omega) (by omega)
      have g := gainQ_rng hf hb hp hp2 (v := k) (by omega) (by omega) ht ht2
      have h3 := hff (min (t + F 13 p k + B) (F 0 0 0)) (bOr set (bShl 1 p)) (by omega) (by omega)
      unfold begW
      omega
    · exact h2
theorem bP_rng {F : Film} {S Q : Int → Int} (hf : WFf F) (hb : QB Q) {B : Int} (hB : 0 ≤ B) {f : Int → Int → Int} {t set may U : Int} (hU : 0 ≤ U) (ht : 0 ≤ t) (ht2 : t < F 0 0 0) (hff : ∀ u s, t < u → u ≤ F 0 0 0 → 0 ≤ f u s ∧ f u s ≤ U) : ∀ (n : Nat), (n : Int) ≤ F 3 0 0 → 0 ≤ bP F S Q B f t set may n ∧ bP F S Q B f t set may n ≤ 2000 + U := by
  intro n
  induction n with
  | zero =>
    intro _
    have := hff (t + 1) set (by omega) (by omega)
    show 0 ≤ f (t + 1) set ∧ f (t + 1) set ≤ _
    omega
  | succ n ih =>
    intro hn
    have h1 := ih (by omega)
    have w := wf_p hf (p := n) (by omega) (by omega)
    unfold bP
    split
    · exact bV_rng hf hb hB (by omega) (by omega) ht ht2 (fun u s a b => (hff u s a b).2) _ _ (by omega) h1.1 h1.2
    · exact h1
theorem tab_rng {F : Film} {S Q : Int → Int} (hf : WFf F) (hb : QB Q) {B may : Int} (hB : 0 ≤ B) : ∀ (n : Nat) (t set : Int), (n : Int) ≤ F 0 0 0 → F 0 0 0 - n ≤ t → t ≤ F 0 0 0 → 0 ≤ tabR F S Q B may n t set ∧ tabR F S Q B may n t set ≤ 2000 * (F 0 0 0 - t) := by
  intro n
  induction n with
  | zero =>
    intro t set _ h1 h2
    show (0 : Int) ≤ 0 ∧ (0 : Int) ≤ _
    omega
  | succ n ih =>
    intro t set hn h1 h2
    have hn3 := hf.2.2.2.1
    unfold tabR
    split
    · rename_i e
      have := bP_rng (S := S) (set := set) (may := may) hf hb hB (t := t) (f := tabR F S Q B may n) (U := 2000 * (F 0 0 0 - (t + 1))) (by omega) (by omega) (by omega) (fun u s a b => by have := ih u s (by omega) (by omega) b; omega) (F 3 0 0).toNat (by omega)
      omega
    · rename_i e
      exact ih t set (by omega) (by omega) h2
/-- rows that stand are not changed by later ones -/
theorem tab_keep (F : Film) (S Q : Int → Int) (B may : Int) : ∀ (m n : Nat) (t set : Int), n ≤ m → F 0 0 0 - n ≤ t → tabR F S Q B may m t set = tabR F S Q B may n t set := by
  intro m
  induction m with
  | zero =>
    intro n t set h _
    have : n = 0 := by omega
    rw [this]
  | succ m ih =>
    intro n t set h h1
    by_cases e : n = m + 1
    · rw [e]
    · show (if t = F 0 0 0 - (m + 1) then _ else _) = _
      rw [if_neg (by omega)]
      exact ih n t set (by omega) h1
/-- which picture, in which version (3 each), begins at a tick by the table: the lowest; less than none -/
def fiV (F : Film) (S Q : Int → Int) (B : Int) (f : Int → Int → Int) (t set p : Int) : Nat → Int → Int
  | 0, _ => -1
  | n + 1, v => if begOk F S p v t set ∧ begW F Q B f p v t set = f t set then 3 * p + v else fiV F S Q B f t set p n (v + 1)
def fiP (F : Film) (S Q : Int → Int) (B : Int) (f : Int → Int → Int) (t set : Int) : Nat → Int → Int
  | 0, _ => -1
  | n + 1, p => if fiV F S Q B f t set p (F 11 p 0).toNat 0 < 0 then fiP F S Q B f t set n (p + 1) else fiV F S Q B f t set p (F 11 p 0).toNat 0
/-- the plan read out of the table -/
def trC (F : Film) (S Q : Int → Int) (B : Int) (f : Int → Int → Int) : Nat → Int → Int → Int → (Int → Int) → (Int → Int) → (Int → Int) × (Int → Int)
  | 0, _, _, _, ver, sta => (ver, sta)
  | n + 1, t, free, set, ver, sta =>
    if t < free then trC F S Q B f n (t + 1) free set ver sta
    else if fiP F S Q B f t set (F 3 0 0).toNat 0 < 0 then trC F S Q B f n (t + 1) free set ver sta
    else trC F S Q B f n (t + 1) (min (t + F 13 (fiP F S Q B f t set (F 3 0 0).toNat 0 / 3) (fiP F S Q B f t set (F 3 0 0).toNat 0 % 3) + B) (F 0 0 0)) (bOr set (bShl 1 (fiP F S Q B f t set (F 3 0 0).toNat 0 / 3))) (setP ver (fiP F S Q B f t set (F 3 0 0).toNat 0 / 3) (fiP F S Q B f t set (F 3 0 0).toNat 0 % 3)) (setP sta (fiP F S Q B f t set (F 3 0 0).toNat 0 / 3) t)
theorem fiV_spec {F : Film} {S Q : Int → Int} {B : Int} {f : Int → Int → Int} {t set p : Int} : ∀ (n : Nat) (v : Int), fiV F S Q B f t set p n v = -1 ∨ ∃ k, v ≤ k ∧ k < v + n ∧ fiV F S Q B f t set p n v = 3 * p + k ∧ begOk F S p k t set ∧ begW F Q B f p k t set = f t set := by
  intro n
  induction n with
  | zero => intro v; exact Or.inl rfl
  | succ n ih =>
    intro v
    unfold fiV
    split
    · rename_i h
      exact Or.inr ⟨v, by omega, by omega, rfl, h.1, h.2⟩
    · rcases ih (v + 1) with h | ⟨k, a, b, c⟩
      · exact Or.inl h
      · exact Or.inr ⟨k, by omega, by omega, c⟩
theorem fiP_spec {F : Film} (hf : WFf F) {S Q : Int → Int} {B : Int} {f : Int → Int → Int} {t set : Int} : ∀ (n : Nat) (p : Int), 0 ≤ p → p + n = F 3 0 0 → fiP F S Q B f t set n p = -1 ∨ ∃ q k, p ≤ q ∧ q < F 3 0 0 ∧ 0 ≤ k ∧ k < F 11 q 0 ∧ fiP F S Q B f t set n p = 3 * q + k ∧ begOk F S q k t set ∧ begW F Q B f q k t set = f t set := by
  intro n
  induction n with
  | zero => intro p _ _; exact Or.inl rfl
  | succ n ih =>
    intro p h0 hn
    have w := wf_p hf h0 (by omega)
    unfold fiP
    split
    · rcases ih (p + 1) (by omega) (by omega) with h | ⟨q, k, a, b⟩
      · exact Or.inl h
      · exact Or.inr ⟨q, k, by omega, b⟩
    · rename_i h
      rcases fiV_spec (F := F) (S := S) (Q := Q) (B := B) (f := f) (t := t) (set := set) (p := p) (F 11 p 0).toNat 0 with h' | ⟨k, a, b, c⟩
      · exact absurd (by omega) h
      · exact Or.inr ⟨p, k, by omega, by omega, a, by omega, c⟩
