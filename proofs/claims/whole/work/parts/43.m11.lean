/-! ===== the Model reads: numbers as it takes them, one by one, against the numbers of an item ===== -/
theorem lt_in {X : Int → Int} {L p c : Int} (h : lt X L p = c) (h0 : c ≠ 0) : p < L ∧ X p = c := by
  unfold lt at h
  by_cases z : p < L
  · rw [if_pos z] at h; exact ⟨z, h⟩
  · rw [if_neg z] at h; exact absurd h.symm h0
theorem dg_cut {X : Int → Int} {L p : Int} {m : Nat} (hm : m = 2 ∨ m = 3) : ((lt X L (p + dgc X L m p) = 44 ∨ lt X L (p + dgc X L m p) = 59) → dgc X L 3 p = dgc X L m p ∧ dgv X L 3 p 0 = dgv X L m p 0) ∧ (dgc X L 3 p ≤ m → dgc X L m p = dgc X L 3 p ∧ dgv X L m p 0 = dgv X L 3 p 0) := by
  rcases hm with e | e
  · subst e
    by_cases h0 : isF X L p
    · by_cases h1 : isF X L (p + 1)
      · by_cases h2 : isF X L (p + 1 + 1)
        · have c3 : dgc X L 3 p = 3 := by rw [dgc_p h0, dgc_p h1, dgc_p h2]; rfl
          have c2 : dgc X L 2 p = 2 := by rw [dgc_p h0, dgc_p h1]; rfl
          refine ⟨fun z => ?_, fun z => ?_⟩
          · have e2 : lt X L (p + dgc X L 2 p) = X (p + 1 + 1) := by
              rw [c2, show p + 2 = p + 1 + 1 by omega]
              exact if_pos h2.1
            rw [e2] at z
            omega
          · rw [c3] at z
            omega
        · have c3 : dgc X L 3 p = 2 := by rw [dgc_p h0, dgc_p h1, dgc_n h2]; rfl
          have c2 : dgc X L 2 p = 2 := by rw [dgc_p h0, dgc_p h1]; rfl
          have v3 : dgv X L 3 p 0 = dgv X L 2 p 0 := by rw [dgv_p h0, dgv_p h1, dgv_n h2, dgv_p h0, dgv_p h1]; rfl
          exact ⟨fun _ => ⟨by omega, v3⟩, fun _ => ⟨by omega, v3.symm⟩⟩
      · have c3 : dgc X L 3 p = dgc X L 2 p := by rw [dgc_p h0, dgc_n h1, dgc_p h0, dgc_n h1]
        have v3 : dgv X L 3 p 0 = dgv X L 2 p 0 := by rw [dgv_p h0, dgv_n h1, dgv_p h0, dgv_n h1]
        exact ⟨fun _ => ⟨c3, v3⟩, fun _ => ⟨c3.symm, v3.symm⟩⟩
    · have c3 : dgc X L 3 p = dgc X L 2 p := by rw [dgc_n h0, dgc_n h0]
      have v3 : dgv X L 3 p 0 = dgv X L 2 p 0 := by rw [dgv_n h0, dgv_n h0]
      exact ⟨fun _ => ⟨c3, v3⟩, fun _ => ⟨c3.symm, v3.symm⟩⟩
  · subst e
    exact ⟨fun _ => ⟨rfl, rfl⟩, fun _ => ⟨rfl, rfl⟩⟩
/-- the numbers of an item, from p to behind its ; -/
def Tk (X : Int → Int) (L : Int) : List (Int × Int) → Int → Int → Prop
  | [], _, _ => False
  | q :: l, p, e => q = (dgv X L 3 p 0, dgc X L 3 p) ∧ 0 < q.2 ∧ ((l = [] ∧ lt X L (p + q.2) = 59 ∧ e = p + q.2 + 1) ∨ (lt X L (p + q.2) = 44 ∧ Tk X L l (p + q.2 + 1) e))
theorem tks_tk {X : Int → Int} {L : Int} : ∀ (n : Nat) (p : Int) (l : List (Int × Int)) (e : Int), tks X L n p = some (l, e) → Tk X L l p e := by
  intro n
  induction n with
  | zero => intro p l e h; simp [tks] at h
  | succ n ih =>
    intro p l e h
    have hc := dgc_rng X L 3 p
    unfold tks at h
    split at h
    · cases h
    · rename_i h1
      have el : lt X L (p + dgc X L 3 p) = X (p + dgc X L 3 p) := if_pos (by omega)
      split at h
      · rename_i h2
        simp at h
        obtain ⟨rfl, rfl⟩ := h
        exact ⟨rfl, by show 0 < dgc X L 3 p; omega, Or.inl ⟨rfl, by show lt X L (p + dgc X L 3 p) = 59; rw [el]; exact h2, rfl⟩⟩
      · split at h
        · rename_i h2 h3
          cases hr : tks X L n (p + dgc X L 3 p + 1) with
          | none => rw [hr] at h; cases h
          | some r =>
            obtain ⟨l', e'⟩ := r
            rw [hr] at h
            simp at h
            obtain ⟨rfl, rfl⟩ := h
            exact ⟨rfl, by show 0 < dgc X L 3 p; omega, Or.inr ⟨by show lt X L (p + dgc X L 3 p) = 44; rw [el]; exact h3, ih _ _ _ hr⟩⟩
        · cases h
theorem tk_tks {X : Int → Int} {L : Int} : ∀ (n : Nat) (p : Int) (l : List (Int × Int)) (e : Int), Tk X L l p e → l.length ≤ n → tks X L n p = some (l, e) := by
  intro n
  induction n with
  | zero =>
    intro p l e h hl
    cases l with
    | nil => exact h.elim
    | cons q l => simp at hl
  | succ n ih =>
    intro p l e h hl
    cases l with
    | nil => exact h.elim
    | cons q l =>
      obtain ⟨hq, h0, h⟩ := h
      have q2 : q.2 = dgc X L 3 p := by rw [hq]
      rw [q2] at h0 h
      unfold tks
      rcases h with ⟨e1, e2, e3⟩ | ⟨e2, e3⟩
      · have a := lt_in e2 (by decide)
        rw [if_neg (by omega), if_pos a.2, e1, hq, e3]
      · have a := lt_in e2 (by decide)
        have t := ih _ l e e3 (by simp at hl; omega)
        rw [if_neg (by omega), if_neg (by omega), if_pos a.2, t, hq]
        rfl
/-- numbers of two figures at most, a , behind each but the last; e: where the last one ends -/
def PT (X : Int → Int) (L : Int) : List (Int × Int) → Int → Int → Prop
  | [], _, _ => False
  | q :: l, p, e => q = (dgv X L 2 p 0, dgc X L 2 p) ∧ 0 < q.2 ∧ ((l = [] ∧ e = p + q.2) ∨ (lt X L (p + q.2) = 44 ∧ PT X L l (p + q.2 + 1) e))
theorem PT_one {X : Int → Int} {L p : Int} (h : 0 < dgc X L 2 p) : PT X L [(dgv X L 2 p 0, dgc X L 2 p)] p (p + dgc X L 2 p) := ⟨rfl, h, Or.inl ⟨rfl, rfl⟩⟩
theorem PT_snoc {X : Int → Int} {L : Int} : ∀ (l : List (Int × Int)) (p e : Int), PT X L l p e → lt X L e = 44 → 0 < dgc X L 2 (e + 1) → PT X L (l ++ [(dgv X L 2 (e + 1) 0, dgc X L 2 (e + 1))]) p (e + 1 + dgc X L 2 (e + 1)) := by
  intro l
  induction l with
  | nil => intro p e h; exact h.elim
  | cons q l ih =>
    intro p e h he hd
    obtain ⟨hq, h0, h⟩ := h
    refine ⟨hq, h0, Or.inr ?_⟩
    rcases h with ⟨e1, e2⟩ | ⟨e1, e2⟩
    · subst e1
      rw [← e2]
      exact ⟨he, PT_one hd⟩
    · exact ⟨e1, ih _ _ e2 he hd⟩
theorem PT_tk {X : Int → Int} {L : Int} : ∀ (l : List (Int × Int)) (p e : Int), PT X L l p e → lt X L e = 59 → Tk X L l p (e + 1) ∧ ∀ q ∈ l, q.2 ≤ 2 := by
  intro l
  induction l with
  | nil => intro p e h; exact h.elim
  | cons q l ih =>
    intro p e h he
    obtain ⟨hq, h0, h⟩ := h
    have q2 : q.2 = dgc X L 2 p := by rw [hq]
    have hr := dgc_rng X L 2 p
    rcases h with ⟨e1, e2⟩ | ⟨e1, e2⟩
    · have c := (dg_cut (X := X) (L := L) (p := p) (m := 2) (Or.inl rfl)).1 (Or.inr (by rw [← q2, ← e2]; exact he))
      subst e1
      refine ⟨⟨by rw [c.1, c.2]; exact hq, h0, Or.inl ⟨rfl, by rw [← e2]; exact he, by rw [← e2]⟩⟩, fun z hz => ?_⟩
      simp at hz
      subst hz
      omega
    · have c := (dg_cut (X := X) (L := L) (p := p) (m := 2) (Or.inl rfl)).1 (Or.inl (by rw [← q2]; exact e1))
      have i := ih _ _ e2 he
      refine ⟨⟨by rw [c.1, c.2]; exact hq, h0, Or.inr ⟨e1, i.1⟩⟩, fun z hz => ?_⟩
      rcases List.mem_cons.mp hz with y | y
      · subst y
        omega
      · exact i.2 z y
theorem PT_split {X : Int → Int} {L : Int} : ∀ (pre l : List (Int × Int)) (p e e0 : Int), Tk X L l p e → (∀ q ∈ l, q.2 ≤ 2) → PT X L pre p e0 → ∃ rest, l = pre ++ rest ∧ ((rest = [] ∧ lt X L e0 = 59 ∧ e = e0 + 1) ∨ (lt X L e0 = 44 ∧ Tk X L rest (e0 + 1) e)) := by
  intro pre
  induction pre with
  | nil => intro l p e e0 _ _ h; exact h.elim
  | cons q pre ih =>
    intro l p e e0 ht hs hp
    cases l with
    | nil => exact ht.elim
    | cons q' l =>
      obtain ⟨hq', h0', ht⟩ := ht
      obtain ⟨hq, h0, hp⟩ := hp
      have s' := hs q' List.mem_cons_self
      have c := (dg_cut (X := X) (L := L) (p := p) (m := 2) (Or.inl rfl)).2 (by rw [hq'] at s'; exact s')
      have eq : q = q' := by rw [hq, hq', c.1, c.2]
      subst eq
      rcases hp with ⟨e1, e2⟩ | ⟨e1, e2⟩
      · subst e1
        rw [← e2] at ht
        refine ⟨l, rfl, ?_⟩
        rcases ht with ⟨a, b, d⟩ | ⟨a, b⟩
        · exact Or.inl ⟨a, b, d⟩
        · exact Or.inr ⟨a, b⟩
      · rcases ht with ⟨a, b, d⟩ | ⟨a, b⟩
        · rw [e1] at b
          exact absurd b (by decide)
        · obtain ⟨rest, r1, r2⟩ := ih l _ e e0 b (fun z hz => hs z (List.mem_cons_of_mem _ hz)) e2
          exact ⟨rest, by rw [r1]; rfl, r2⟩
theorem aN_app {a b : List (Int × Int)} {k : Nat} (h : k < a.length) : aN (a ++ b) k = aN a k ∧ cN (a ++ b) k = cN a k := by
  unfold aN cN
  rw [List.getD_eq_getElem?_getD, List.getD_eq_getElem?_getD, List.getElem?_append_left h]
  exact ⟨rfl, rfl⟩
theorem aN_mid {a b : List (Int × Int)} {q : Int × Int} : aN (a ++ q :: b) a.length = q.1 ∧ cN (a ++ q :: b) a.length = q.2 := by
  unfold aN cN
  rw [List.getD_eq_getElem?_getD, List.getElem?_append_right (Nat.le_refl _)]
  simp
/-- an item that is so goes on behind the numbers taken, as the Model looks for it -/
theorem acc_next {X : Int → Int} {L p e e0 : Int} {l pre : List (Int × Int)} (ht : Tk X L l p e) (hs : ∀ q ∈ l, q.2 ≤ 2) (hp : PT X L pre p e0) (hn : pre.length ≠ l.length) : lt X L e0 = 44 ∧ 0 < dgc X L 2 (e0 + 1) ∧ dgv X L 2 (e0 + 1) 0 = aN l pre.length ∧ pre.length < l.length := by
  obtain ⟨rest, r1, r2⟩ := PT_split pre l p e e0 ht hs hp
  rcases r2 with ⟨a, -, -⟩ | ⟨a, b⟩
  · subst a
    rw [r1] at hn
    simp at hn
  · cases rest with
    | nil => exact b.elim
    | cons q rest =>
      obtain ⟨hq, h0, -⟩ := b
      have s' := hs q (by rw [r1]; simp)
      have c := (dg_cut (X := X) (L := L) (p := e0 + 1) (m := 2) (Or.inl rfl)).2 (by rw [hq] at s'; exact s')
      refine ⟨a, ?_, ?_, ?_⟩
      · rw [c.1]
        rw [hq] at h0
        exact h0
      · rw [c.2, r1, (aN_mid (a := pre) (b := rest) (q := q)).1, hq]
      · rw [r1]
        simp
theorem acc_end {X : Int → Int} {L p e e0 : Int} {l pre : List (Int × Int)} (ht : Tk X L l p e) (hs : ∀ q ∈ l, q.2 ≤ 2) (hp : PT X L pre p e0) (hn : pre.length = l.length) : lt X L e0 = 59 ∧ e = e0 + 1 ∧ l = pre := by
  obtain ⟨rest, r1, r2⟩ := PT_split pre l p e e0 ht hs hp
  rcases r2 with ⟨a, b, d⟩ | ⟨a, b⟩
  · subst a
    exact ⟨b, d, by simpa using r1⟩
  · cases rest with
    | nil => exact b.elim
    | cons q rest =>
      rw [r1] at hn
      simp at hn
theorem acc_first {X : Int → Int} {L p e : Int} {l : List (Int × Int)} (ht : Tk X L l p e) (hs : cN l 0 ≤ 2) : 0 < dgc X L 2 p ∧ dgv X L 2 p 0 = aN l 0 ∧ dgc X L 2 p = cN l 0 := by
  cases l with
  | nil => exact ht.elim
  | cons q l =>
    obtain ⟨hq, h0, -⟩ := ht
    have s' : q.2 ≤ 2 := hs
    have c := (dg_cut (X := X) (L := L) (p := p) (m := 2) (Or.inl rfl)).2 (by rw [hq] at s'; exact s')
    have a1 : aN (q :: l) 0 = q.1 := rfl
    have a2 : cN (q :: l) 0 = q.2 := rfl
    rw [hq] at h0
    rw [a1, a2, hq]
    exact ⟨by rw [c.1]; exact h0, c.2, c.1⟩
theorem short_mem {l : List (Int × Int)} : shortB l = true ↔ ∀ q ∈ l, q.2 ≤ 2 := by
  unfold shortB
  rw [List.all_eq_true]
  exact ⟨fun h q hq => of_decide_eq_true (h q hq), fun h q hq => decide_eq_true (h q hq)⟩
/-! ===== the film that is being read ===== -/
def rFilm (M : Mem) : Film := fun t a b => match t with
  | 0 => M 30 0 9
  | 1 => M 30 0 10
  | 2 => M 30 0 11
  | 3 => M 30 0 13
  | 4 => if a = 0 then 2 else if a = 2 then 3 else 1
  | 5 => M 42 0 (3 * a)
  | 6 => M 42 0 (3 * a + 1)
  | 7 => M 42 0 (3 * a + 2)
  | 8 => M 44 0 (11 * a)
  | 9 => M 44 0 (11 * a + 1)
  | 10 => M 44 0 (11 * a + 2)
  | 11 => M 44 0 (11 * a + 3)
  | 12 => M 44 0 (11 * a + 4)
  | 13 => M 44 0 (11 * a + 5 + 2 * b)
  | 14 => M 44 0 (11 * a + 6 + 2 * b)
  | _ => 0
/-- nothing but what is read has changed -/
def AgI (M M' : Mem) : Prop := ∀ r i j, ¬ (r = 42 ∨ r = 44 ∨ (r = 30 ∧ (j = 9 ∨ j = 10 ∨ j = 11 ∨ j = 13 ∨ j = 27 ∨ j = 28))) → M' r i j = M r i j
theorem AgI.rf {M : Mem} : AgI M M := fun _ _ _ _ => rfl
theorem AgI.tr {M M' M2 : Mem} (h : AgI M M') (h2 : AgI M' M2) : AgI M M2 := fun r i j hn => (h2 r i j hn).trans (h r i j hn)
theorem AgV.b {M M' : Mem} (h : AgV M M') : AgI M M' := fun r i j hn => h r i j (by omega)
theorem AgI.s {M M' : Mem} (h : AgI M M') : AgS M M' := fun r i j hn => h r i j (by omega)
theorem AgI.tx {M M' : Mem} (h : AgI M M') : M' 31 0 = M 31 0 ∧ M' 30 0 0 = M 30 0 0 := ⟨by funext j; exact h 31 0 j (by omega), h 30 0 0 (by omega)⟩
theorem num_ok {M N : Mem} {K : Kont} {p m lo hi : Int} {k : Nat} (hA : AgI M N) (hL : 0 ≤ M 30 0 0 ∧ M 30 0 0 ≤ 200) (hm : 0 ≤ m ∧ m ≤ 3) (hk : m.toNat = k) (hp : 0 ≤ p ∧ p ≤ M 30 0 0)
    (h : ∀ N', AgV N N' → N' 30 0 27 = dgv (M 31 0) (M 30 0 0) k p 0 → N' 30 0 28 = p + dgc (M 31 0) (M 30 0 0) k p → ((0 < dgc (M 31 0) (M 30 0 0) k p ∧ lo ≤ dgv (M 31 0) (M 30 0 0) k p 0 ∧ dgv (M 31 0) (M 30 0 0) k p 0 ≤ hi) → K (some 1) N') ∧ (¬ (0 < dgc (M 31 0) (M 30 0 0) k p ∧ lo ≤ dgv (M 31 0) (M 30 0 0) k p 0 ∧ dgv (M 31 0) (M 30 0 0) k p 0 ≤ hi) → K (some 0) N')) : spX8_number p m lo hi N K := by
  obtain ⟨e1, e2⟩ := hA.tx
  refine ⟨⟨by omega, by omega, hm⟩, ?_⟩
  rw [e1, e2, hk]
  intro N' a1 a2 a3
  have := h N' a1 a2 a3
  split
  · rename_i c; exact this.1 c
  · rename_i c; exact this.2 c
theorem more_ok {M N : Mem} {K : Kont} {e m lo hi : Int} {k : Nat} (hA : AgI M N) (hL : 0 ≤ M 30 0 0 ∧ M 30 0 0 ≤ 200) (hm : 0 ≤ m ∧ m ≤ 3) (hk : m.toNat = k) (he : N 30 0 28 = e) (hp : 0 ≤ e ∧ e ≤ M 30 0 0)
    (h0 : lt (M 31 0) (M 30 0 0) e ≠ 44 → K (some 0) N)
    (h : lt (M 31 0) (M 30 0 0) e = 44 → ∀ N', AgV N N' → N' 30 0 27 = dgv (M 31 0) (M 30 0 0) k (e + 1) 0 → N' 30 0 28 = e + 1 + dgc (M 31 0) (M 30 0 0) k (e + 1) → ((0 < dgc (M 31 0) (M 30 0 0) k (e + 1) ∧ lo ≤ dgv (M 31 0) (M 30 0 0) k (e + 1) 0 ∧ dgv (M 31 0) (M 30 0 0) k (e + 1) 0 ≤ hi) → K (some 1) N') ∧ (¬ (0 < dgc (M 31 0) (M 30 0 0) k (e + 1) ∧ lo ≤ dgv (M 31 0) (M 30 0 0) k (e + 1) 0 ∧ dgv (M 31 0) (M 30 0 0) k (e + 1) 0 ≤ hi) → K (some 0) N')) : spX8_more m lo hi N K := by
  obtain ⟨e1, e2⟩ := hA.tx
  refine ⟨⟨by omega, by omega, hm⟩, ?_, ?_⟩
  · rw [e1, e2, he]
    exact h0
  · rw [e1, e2, he, hk]
    intro c N' a1 a2 a3
    have := h c N' a1 a2 a3
    split
    · rename_i c; exact this.1 c
    · rename_i c; exact this.2 c
def RdP (M : Mem) (p : Int) : Prop := (0 ≤ p ∧ p ≤ M 30 0 0) ∧ (0 ≤ M 30 0 0 ∧ M 30 0 0 ≤ 200) ∧ WFf (rFilm M)
/-- what an item's reading answers: by 'it' whether its numbers are so, and the film then -/
def RdQ (M : Mem) (p : Int) (it : List (Int × Int) → Option Film) (K : Kont) : Prop := ∀ (x : Int) (M' : Mem), (x = 0 ∨ x = 1) → AgI M M' → (x = 1 → 0 ≤ M' 30 0 28) →
  (x = 1 → lt (M 31 0) (M 30 0 0) (M' 30 0 28) = 59 → ∃ l F', Tk (M 31 0) (M 30 0 0) l p (M' 30 0 28 + 1) ∧ l.length ≤ 9 ∧ it l = some F' ∧ FEq F' (rFilm M')) →
  ((∃ l e, Tk (M 31 0) (M 30 0 0) l p e ∧ l.length ≤ 9 ∧ it l ≠ none) → x = 1 ∧ lt (M 31 0) (M 30 0 0) (M' 30 0 28) = 59) → K (some x) M'
theorem RdQ.no {M M' : Mem} {p : Int} {it : List (Int × Int) → Option Film} {K : Kont} (h : RdQ M p it K) (hA : AgI M M') (hn : ¬ ∃ l e, Tk (M 31 0) (M 30 0 0) l p e ∧ l.length ≤ 9 ∧ it l ≠ none) : K (some 0) M' :=
  h 0 M' (Or.inl rfl) hA (fun z => absurd z (by decide)) (fun z => absurd z (by decide)) (fun z => absurd z hn)
/-! ===== GapTellingsModel.readsSound ===== -/
abbrev rmX8_readsSound : Room := { frames := 4, cells := 0, slots := 0, locals := 90 }
abbrev argX8_readsSound (a : Int × Int) : List PV := [.inr (30, 0), .inl a.1, .inl a.2]
abbrev CtX8_readsSound (sp : Int → Int → Mem → Kont → Prop) : Prop := Ct yX8_readsSound cX8_readsSound 4 (some .boolean) rmX8_readsSound domM argX8_readsSound (fun a => sp a.1 a.2)
theorem dX8_readsSound_0 : decode cX8_readsSound 0 = .ok (.aload_n 0, 1) := by decide +kernel
theorem dX8_readsSound_1 : decode cX8_readsSound 1 = .ok (.getfield 105, 3) := by decide +kernel
theorem dX8_readsSound_4 : decode cX8_readsSound 4 = .ok (.bipush 12, 2) := by decide +kernel
theorem dX8_readsSound_6 : decode cX8_readsSound 6 = .ok (.if_icmp .eq 19, 3) := by decide +kernel
theorem dX8_readsSound_9 : decode cX8_readsSound 9 = .ok (.aload_n 0, 1) := by decide +kernel
theorem dX8_readsSound_10 : decode cX8_readsSound 10 = .ok (.iload_n 2, 1) := by decide +kernel
theorem dX8_readsSound_11 : decode cX8_readsSound 11 = .ok (.iconst 2, 1) := by decide +kernel
theorem dX8_readsSound_12 : decode cX8_readsSound 12 = .ok (.iconst 0, 1) := by decide +kernel
theorem dX8_readsSound_13 : decode cX8_readsSound 13 = .ok (.aload_n 0, 1) := by decide +kernel
theorem dX8_readsSound_14 : decode cX8_readsSound 14 = .ok (.getfield 108, 3) := by decide +kernel
theorem dX8_readsSound_17 : decode cX8_readsSound 17 = .ok (.iconst 1, 1) := by decide +kernel
theorem dX8_readsSound_18 : decode cX8_readsSound 18 = .ok (.isub, 1) := by decide +kernel
theorem dX8_readsSound_19 : decode cX8_readsSound 19 = .ok (.invokevirtual 101, 3) := by decide +kernel
theorem dX8_readsSound_22 : decode cX8_readsSound 22 = .ok (.ifCond .ne 5, 3) := by decide +kernel
theorem dX8_readsSound_25 : decode cX8_readsSound 25 = .ok (.iconst 0, 1) := by decide +kernel
theorem dX8_readsSound_26 : decode cX8_readsSound 26 = .ok (.ireturn, 1) := by decide +kernel
theorem dX8_readsSound_27 : decode cX8_readsSound 27 = .ok (.aload_n 0, 1) := by decide +kernel
theorem dX8_readsSound_28 : decode cX8_readsSound 28 = .ok (.getfield 87, 3) := by decide +kernel
theorem dX8_readsSound_31 : decode cX8_readsSound 31 = .ok (.istore_n 3, 1) := by decide +kernel
theorem dX8_readsSound_32 : decode cX8_readsSound 32 = .ok (.aload_n 0, 1) := by decide +kernel
theorem dX8_readsSound_33 : decode cX8_readsSound 33 = .ok (.iconst 3, 1) := by decide +kernel
theorem dX8_readsSound_34 : decode cX8_readsSound 34 = .ok (.iload_n 3, 1) := by decide +kernel
theorem dX8_readsSound_35 : decode cX8_readsSound 35 = .ok (.iconst 1, 1) := by decide +kernel
theorem dX8_readsSound_36 : decode cX8_readsSound 36 = .ok (.iadd, 1) := by decide +kernel
theorem dX8_readsSound_37 : decode cX8_readsSound 37 = .ok (.aload_n 0, 1) := by decide +kernel
theorem dX8_readsSound_38 : decode cX8_readsSound 38 = .ok (.getfield 108, 3) := by decide +kernel
theorem dX8_readsSound_41 : decode cX8_readsSound 41 = .ok (.invokevirtual 111, 3) := by decide +kernel
theorem dX8_readsSound_44 : decode cX8_readsSound 44 = .ok (.ifCond .ne 5, 3) := by decide +kernel
theorem dX8_readsSound_47 : decode cX8_readsSound 47 = .ok (.iconst 0, 1) := by decide +kernel
theorem dX8_readsSound_48 : decode cX8_readsSound 48 = .ok (.ireturn, 1) := by decide +kernel
theorem dX8_readsSound_49 : decode cX8_readsSound 49 = .ok (.aload_n 0, 1) := by decide +kernel
theorem dX8_readsSound_50 : decode cX8_readsSound 50 = .ok (.getfield 22, 3) := by decide +kernel
theorem dX8_readsSound_53 : decode cX8_readsSound 53 = .ok (.iconst 3, 1) := by decide +kernel
theorem dX8_readsSound_54 : decode cX8_readsSound 54 = .ok (.aload_n 0, 1) := by decide +kernel
theorem dX8_readsSound_55 : decode cX8_readsSound 55 = .ok (.getfield 105, 3) := by decide +kernel
theorem dX8_readsSound_58 : decode cX8_readsSound 58 = .ok (.imul, 1) := by decide +kernel
theorem dX8_readsSound_59 : decode cX8_readsSound 59 = .ok (.iload_n 1, 1) := by decide +kernel
theorem dX8_readsSound_60 : decode cX8_readsSound 60 = .ok (.iastore, 1) := by decide +kernel
theorem dX8_readsSound_61 : decode cX8_readsSound 61 = .ok (.aload_n 0, 1) := by decide +kernel
theorem dX8_readsSound_62 : decode cX8_readsSound 62 = .ok (.getfield 22, 3) := by decide +kernel
theorem dX8_readsSound_65 : decode cX8_readsSound 65 = .ok (.iconst 3, 1) := by decide +kernel
theorem dX8_readsSound_66 : decode cX8_readsSound 66 = .ok (.aload_n 0, 1) := by decide +kernel
theorem dX8_readsSound_67 : decode cX8_readsSound 67 = .ok (.getfield 105, 3) := by decide +kernel
theorem dX8_readsSound_70 : decode cX8_readsSound 70 = .ok (.imul, 1) := by decide +kernel
theorem dX8_readsSound_71 : decode cX8_readsSound 71 = .ok (.iconst 1, 1) := by decide +kernel
theorem dX8_readsSound_72 : decode cX8_readsSound 72 = .ok (.iadd, 1) := by decide +kernel
theorem dX8_readsSound_73 : decode cX8_readsSound 73 = .ok (.iload_n 3, 1) := by decide +kernel
theorem dX8_readsSound_74 : decode cX8_readsSound 74 = .ok (.iastore, 1) := by decide +kernel
theorem dX8_readsSound_75 : decode cX8_readsSound 75 = .ok (.aload_n 0, 1) := by decide +kernel
theorem dX8_readsSound_76 : decode cX8_readsSound 76 = .ok (.getfield 22, 3) := by decide +kernel
theorem dX8_readsSound_79 : decode cX8_readsSound 79 = .ok (.iconst 3, 1) := by decide +kernel
theorem dX8_readsSound_80 : decode cX8_readsSound 80 = .ok (.aload_n 0, 1) := by decide +kernel
theorem dX8_readsSound_81 : decode cX8_readsSound 81 = .ok (.getfield 105, 3) := by decide +kernel
theorem dX8_readsSound_84 : decode cX8_readsSound 84 = .ok (.imul, 1) := by decide +kernel
theorem dX8_readsSound_85 : decode cX8_readsSound 85 = .ok (.iconst 2, 1) := by decide +kernel
theorem dX8_readsSound_86 : decode cX8_readsSound 86 = .ok (.iadd, 1) := by decide +kernel
theorem dX8_readsSound_87 : decode cX8_readsSound 87 = .ok (.aload_n 0, 1) := by decide +kernel
theorem dX8_readsSound_88 : decode cX8_readsSound 88 = .ok (.getfield 87, 3) := by decide +kernel
theorem dX8_readsSound_91 : decode cX8_readsSound 91 = .ok (.iastore, 1) := by decide +kernel
theorem dX8_readsSound_92 : decode cX8_readsSound 92 = .ok (.aload_n 0, 1) := by decide +kernel
theorem dX8_readsSound_93 : decode cX8_readsSound 93 = .ok (.dup, 1) := by decide +kernel
theorem dX8_readsSound_94 : decode cX8_readsSound 94 = .ok (.getfield 105, 3) := by decide +kernel
theorem dX8_readsSound_97 : decode cX8_readsSound 97 = .ok (.iconst 1, 1) := by decide +kernel
theorem dX8_readsSound_98 : decode cX8_readsSound 98 = .ok (.iadd, 1) := by decide +kernel
theorem dX8_readsSound_99 : decode cX8_readsSound 99 = .ok (.putfield 105, 3) := by decide +kernel
theorem dX8_readsSound_102 : decode cX8_readsSound 102 = .ok (.iconst 1, 1) := by decide +kernel
theorem dX8_readsSound_103 : decode cX8_readsSound 103 = .ok (.ireturn, 1) := by decide +kernel
theorem flX8_105 : FL RX8 105 8 11 := ⟨_, _, _, rfl, by decide, uwX8, Or.inl (tb_mem (t_in4 (List.mem_of_getElem? (i := 119) (by decide +kernel))) (by decide +kernel))⟩
theorem flX8_108 : FL RX8 108 8 9 := ⟨_, _, _, rfl, by decide, uwX8, Or.inl (tb_mem (t_in4 (List.mem_of_getElem? (i := 117) (by decide +kernel))) (by decide +kernel))⟩
theorem ivX8_111 : IV RX8 111 yX8_more cX8_more 4 (some .boolean) 3 := ⟨(tb_mem (t_in4 (List.mem_of_getElem? (i := 235) (by decide +kernel))) (by decide +kernel)), (tb_mem (t_in4 (List.mem_of_getElem? (i := 237) (by decide +kernel))) (by decide +kernel)), (tb_sel (q := (⟨"GapTellingsModel", "more", "(III)Z"⟩, 29)) (List.mem_of_getElem? (i := 15) (by decide +kernel)) (by decide +kernel)), (tb_mem (t_in1 (List.mem_of_getElem? (i := 16) (by decide +kernel))) (by decide +kernel)), (tb_mem (t_in4 (List.mem_of_getElem? (i := 238) (by decide +kernel))) (by decide +kernel)), ⟨by decide +kernel, by decide +kernel, by decide +kernel⟩⟩
theorem flX8_22 : FL RX8 22 8 12 := ⟨_, _, _, rfl, by decide, uwX8, Or.inl (tb_mem (t_in4 (List.mem_of_getElem? (i := 120) (by decide +kernel))) (by decide +kernel))⟩
theorem plX8_105 : PL RX8 105 8 11 .int := ⟨_, _, _, rfl, by decide, uwX8, Or.inl (tb_mem (t_in4 (List.mem_of_getElem? (i := 119) (by decide +kernel))) (by decide +kernel)), rfl, by decide +kernel, tyX8, tyX8_ok, nmX8⟩
set_option maxHeartbeats 4000000 in
set_option maxRecDepth 20000 in
theorem sgX8_readsSound_0 {κ : Kx} {K : Kont} {M : Mem} (C : Cx κ RX8 cX8_readsSound 4 (some .boolean) rmX8_readsSound domM) (x1 : Int) (x2 : Int)
    (h :
    (((M 30 0 11) = 12 →
      K (some 0) M) ∧
     (¬ ((M 30 0 11) = 12) →
      inR ((M 30 0 9) - 1) ∧
      spX8_number x2 2 0 ((M 30 0 9) - 1) M (rI (fun r19 M19 =>
      ((r19 ≠ 0 →
        inR ((M19 30 0 27) + 1) ∧
        spX8_more 3 ((M19 30 0 27) + 1) (M19 30 0 9) M19 (rI (fun r41 M41 =>
        ((r41 ≠ 0 →
          inR (3 * (M41 30 0 11)) ∧
          (0 ≤ (3 * (M41 30 0 11)) ∧ (3 * (M41 30 0 11)) < 36) ∧
          ∀ M60 : Mem, M60 = up3 M41 42 0 (3 * (M41 30 0 11)) x1 →
          inR (3 * (M60 30 0 11)) ∧
          inR ((3 * (M60 30 0 11)) + 1) ∧
          (0 ≤ ((3 * (M60 30 0 11)) + 1) ∧ ((3 * (M60 30 0 11)) + 1) < 36) ∧
          ∀ M74 : Mem, M74 = up3 M60 42 0 ((3 * (M60 30 0 11)) + 1) (M19 30 0 27) →
          inR (3 * (M74 30 0 11)) ∧
          inR ((3 * (M74 30 0 11)) + 2) ∧
          (0 ≤ ((3 * (M74 30 0 11)) + 2) ∧ ((3 * (M74 30 0 11)) + 2) < 36) ∧
          ∀ M91 : Mem, M91 = up3 M74 42 0 ((3 * (M74 30 0 11)) + 2) (M74 30 0 27) →
          inR ((M91 30 0 11) + 1) ∧
          ∀ M99 : Mem, M99 = up3 M91 30 0 11 ((M91 30 0 11) + 1) →
          K (some 1) M99) ∧
         (¬ (r41 ≠ 0) →
          K (some 0) M41))))) ∧
       (¬ (r19 ≠ 0) →
        K (some 0) M19))))))) : V κ 4 M 0 [some (.inr (30, 0)), some (.inl x1), some (.inl x2), none] [] K := by
  refine v_aload_n C dX8_readsSound_0 rfl ?_
  refine v_get C dX8_readsSound_1 flX8_105 rfl (by decide) (by decide) (w := .inl (M 30 0 11)) rfl ?_
  refine v_bipush C dX8_readsSound_4 (by decide) (by decide) ?_
  refine v_icmp C dX8_readsSound_6 (tgt := 25) (by decide) (P := (M 30 0 11) = 12) rfl (fun c6 => ?_) (fun c6 => ?_)
  · replace h := h.1 c6
    refine v_iconst C dX8_readsSound_25 (by decide) ?_
    exact v_zret C dX8_readsSound_26 (by decide) h
  · replace h := h.2 c6
    refine v_aload_n C dX8_readsSound_9 rfl ?_
    refine v_iload_n C dX8_readsSound_10 rfl ?_
    refine v_iconst C dX8_readsSound_11 (by decide) ?_
    refine v_iconst C dX8_readsSound_12 (by decide) ?_
    refine v_aload_n C dX8_readsSound_13 rfl ?_
    refine v_get C dX8_readsSound_14 flX8_108 rfl (by decide) (by decide) (w := .inl (M 30 0 9)) rfl ?_
    refine v_iconst C dX8_readsSound_17 (by decide) ?_
    refine v_isub C dX8_readsSound_18 h.1 ?_
    replace h := h.2
    refine v_invV C ctX8_number dX8_readsSound_19 ivX8_101 ⟨by decide, by decide, rfl, rfl⟩ ((x2, 2, 0, (M 30 0 9) - 1) : Int × Int × Int × Int) (As := [.inl x2, .inl 2, .inl 0, .inl ((M 30 0 9) - 1)]) rfl rfl rfl (by decide) rfl (st := []) rfl (Nat.le_of_ble_eq_true rfl) h (fun o M19 oM19 io19 g19 => ?_)
    replace h := rI_out g19
    clear g19
    obtain ⟨r19, rfl, h⟩ := h
    refine v_push ?_
    refine v_if C dX8_readsSound_22 (tgt := 27) (by decide) (P := r19 ≠ 0) rfl (fun c22 => ?_) (fun c22 => ?_)
    · replace h := h.1 c22
      refine v_aload_n C dX8_readsSound_27 rfl ?_
      refine v_get C dX8_readsSound_28 flX8_87 rfl (by decide) (by decide) (w := .inl (M19 30 0 27)) rfl ?_
      refine v_istore_n C dX8_readsSound_31 (by decide) (Nat.le_of_ble_eq_true rfl) (lv' := [some (.inr (30, 0)), some (.inl x1), some (.inl x2), some (.inl (M19 30 0 27))]) rfl ?_
      refine v_aload_n C dX8_readsSound_32 rfl ?_
      refine v_iconst C dX8_readsSound_33 (by decide) ?_
      refine v_iload_n C dX8_readsSound_34 rfl ?_
      refine v_iconst C dX8_readsSound_35 (by decide) ?_
      refine v_iadd C dX8_readsSound_36 h.1 ?_
      replace h := h.2
      refine v_aload_n C dX8_readsSound_37 rfl ?_
      refine v_get C dX8_readsSound_38 flX8_108 rfl (by decide) (by decide) (w := .inl (M19 30 0 9)) rfl ?_
      refine v_invV C ctX8_more dX8_readsSound_41 ivX8_111 ⟨by decide, by decide, rfl, rfl⟩ ((3, (M19 30 0 27) + 1, M19 30 0 9) : Int × Int × Int) (As := [.inl 3, .inl ((M19 30 0 27) + 1), .inl (M19 30 0 9)]) rfl rfl rfl (by decide) rfl (st := []) rfl (Nat.le_of_ble_eq_true rfl) h (fun o M41 oM41 io41 g41 => ?_)
      replace h := rI_out g41
      clear g41
      obtain ⟨r41, rfl, h⟩ := h
      refine v_push ?_
      refine v_if C dX8_readsSound_44 (tgt := 49) (by decide) (P := r41 ≠ 0) rfl (fun c44 => ?_) (fun c44 => ?_)
      · replace h := h.1 c44
        refine v_aload_n C dX8_readsSound_49 rfl ?_
        refine v_get C dX8_readsSound_50 flX8_22 rfl (by decide) (by decide) (w := .inr (42, 0)) rfl ?_
        refine v_iconst C dX8_readsSound_53 (by decide) ?_
        refine v_aload_n C dX8_readsSound_54 rfl ?_
        refine v_get C dX8_readsSound_55 flX8_105 rfl (by decide) (by decide) (w := .inl (M41 30 0 11)) rfl ?_
        refine v_imul C dX8_readsSound_58 h.1 ?_
        replace h := h.2
        refine v_iload_n C dX8_readsSound_59 rfl ?_
        refine v_iast C dX8_readsSound_60 rfl h.1.1 h.1.2 ?_
        replace h := h.2
        refine v_nmM (fun M60 eM60 => ?_)
        replace h := h M60 eM60
        refine v_aload_n C dX8_readsSound_61 rfl ?_
        refine v_get C dX8_readsSound_62 flX8_22 rfl (by decide) (by decide) (w := .inr (42, 0)) rfl ?_
        refine v_iconst C dX8_readsSound_65 (by decide) ?_
        refine v_aload_n C dX8_readsSound_66 rfl ?_
        refine v_get C dX8_readsSound_67 flX8_105 rfl (by decide) (by decide) (w := .inl (M60 30 0 11)) rfl ?_
        refine v_imul C dX8_readsSound_70 h.1 ?_
        replace h := h.2
        refine v_iconst C dX8_readsSound_71 (by decide) ?_
        refine v_iadd C dX8_readsSound_72 h.1 ?_
        replace h := h.2
        refine v_iload_n C dX8_readsSound_73 rfl ?_
        refine v_iast C dX8_readsSound_74 rfl h.1.1 h.1.2 ?_
        replace h := h.2
        refine v_nmM (fun M74 eM74 => ?_)
        replace h := h M74 eM74
        refine v_aload_n C dX8_readsSound_75 rfl ?_
        refine v_get C dX8_readsSound_76 flX8_22 rfl (by decide) (by decide) (w := .inr (42, 0)) rfl ?_
        refine v_iconst C dX8_readsSound_79 (by decide) ?_
        refine v_aload_n C dX8_readsSound_80 rfl ?_
        refine v_get C dX8_readsSound_81 flX8_105 rfl (by decide) (by decide) (w := .inl (M74 30 0 11)) rfl ?_
        refine v_imul C dX8_readsSound_84 h.1 ?_
        replace h := h.2
        refine v_iconst C dX8_readsSound_85 (by decide) ?_
        refine v_iadd C dX8_readsSound_86 h.1 ?_
        replace h := h.2
        refine v_aload_n C dX8_readsSound_87 rfl ?_
        refine v_get C dX8_readsSound_88 flX8_87 rfl (by decide) (by decide) (w := .inl (M74 30 0 27)) rfl ?_
        refine v_iast C dX8_readsSound_91 rfl h.1.1 h.1.2 ?_
        replace h := h.2
        refine v_nmM (fun M91 eM91 => ?_)
        replace h := h M91 eM91
        refine v_aload_n C dX8_readsSound_92 rfl ?_
        refine v_dup C dX8_readsSound_93 ?_
        refine v_get C dX8_readsSound_94 flX8_105 rfl (by decide) (by decide) (w := .inl (M91 30 0 11)) rfl ?_
        refine v_iconst C dX8_readsSound_97 (by decide) ?_
        refine v_iadd C dX8_readsSound_98 h.1 ?_
        replace h := h.2
        refine v_put C dX8_readsSound_99 plX8_105 rfl (by decide) (by decide) rfl rfl rfl ?_
        refine v_nmM (fun M99 eM99 => ?_)
        replace h := h M99 eM99
        refine v_iconst C dX8_readsSound_102 (by decide) ?_
        exact v_zret C dX8_readsSound_103 (by decide) h
      · replace h := h.2 c44
        refine v_iconst C dX8_readsSound_47 (by decide) ?_
        exact v_zret C dX8_readsSound_48 (by decide) h
    · replace h := h.2 c22
      refine v_iconst C dX8_readsSound_25 (by decide) ?_
      exact v_zret C dX8_readsSound_26 (by decide) h
abbrev spX8_readsSound (k p : Int) (M : Mem) (K : Kont) : Prop := RdP M p ∧ RdQ M p (itO (rFilm M) k) K
theorem ctX8_readsSound : CtX8_readsSound spX8_readsSound := by
  refine ct_of (by decide) dmM (fun _ => Nat.le_of_ble_eq_true rfl) ?_
  intro κ a M K C oM h
  obtain ⟨k, p⟩ := a
  dsimp only [spX8_readsSound] at h
  obtain ⟨⟨hp, hL, hf⟩, hk⟩ := h
  have n2 := hf.2.2.1
  have T := hf.1
  have e0 : rFilm M 0 0 0 = M 30 0 9 := rfl
  have e2 : rFilm M 2 0 0 = M 30 0 11 := rfl
  have itn : ∀ l, itO (rFilm M) k l ≠ none → l.length = 2 ∧ cN l 0 ≤ 2 ∧ aN l 0 < aN l 1 ∧ aN l 1 ≤ M 30 0 9 ∧ M 30 0 11 < 12 := by
    intro l hl
    unfold itO at hl
    split at hl
    · rename_i c; exact c
    · exact absurd rfl hl
  have two : ∀ l e, Tk (M 31 0) (M 30 0 0) l p e → itO (rFilm M) k l ≠ none → lt (M 31 0) (M 30 0 0) (p + dgc (M 31 0) (M 30 0 0) 2 p) = 44 ∧ 0 < dgc (M 31 0) (M 30 0 0) 3 (p + dgc (M 31 0) (M 30 0 0) 2 p + 1) ∧ lt (M 31 0) (M 30 0 0) (p + dgc (M 31 0) (M 30 0 0) 2 p + 1 + dgc (M 31 0) (M 30 0 0) 3 (p + dgc (M 31 0) (M 30 0 0) 2 p + 1)) = 59 ∧ 0 < dgc (M 31 0) (M 30 0 0) 2 p ∧ dgv (M 31 0) (M 30 0 0) 2 p 0 < dgv (M 31 0) (M 30 0 0) 3 (p + dgc (M 31 0) (M 30 0 0) 2 p + 1) 0 ∧ dgv (M 31 0) (M 30 0 0) 3 (p + dgc (M 31 0) (M 30 0 0) 2 p + 1) 0 ≤ M 30 0 9 ∧ M 30 0 11 < 12 := by
    intro l e ht hi
    have c := itn l hi
    have f := acc_first ht c.2.1
    match l, c.1, ht, c, f with
    | [q0, q1], _, ht, c, f =>
      obtain ⟨h1, h2, h3⟩ := ht
      have a0 : aN [q0, q1] 0 = q0.1 := rfl
      have a1 : aN [q0, q1] 1 = q1.1 := rfl
      have b0 : cN [q0, q1] 0 = q0.2 := rfl
      rw [b0] at f
      rw [a0] at f c
      rw [a1] at c
      rcases h3 with ⟨z, -, -⟩ | ⟨h3, h4, h5, h6⟩
      · cases z
      · rw [← f.2.2] at h3 h4 h6
        rcases h6 with ⟨-, h6, h7⟩ | ⟨-, z⟩
        · have g1 : q1.1 = dgv (M 31 0) (M 30 0 0) 3 (p + dgc (M 31 0) (M 30 0 0) 2 p + 1) 0 := by rw [h4]
          have g2 : q1.2 = dgc (M 31 0) (M 30 0 0) 3 (p + dgc (M 31 0) (M 30 0 0) 2 p + 1) := by rw [h4]
          rw [g2] at h5 h6
          exact ⟨h3, h5, h6, f.1, by omega, by omega, c.2.2.2.2⟩
        · exact z.elim
  have hv0 := dgv_rng (M 31 0) (M 30 0 0) 2 p 0 0 (by omega) (by omega)
  have hc0 := dgc_rng (M 31 0) (M 30 0 0) 2 p
  refine sgX8_readsSound_0 C k p ⟨fun c => hk.no AgI.rf (fun ⟨l, e, ht, h9, hi⟩ => by have := two l e ht hi; omega), fun c => ⟨by omega, num_ok (k := 2) AgI.rf hL (by omega) rfl hp (fun N hA hv he => ⟨fun c2 => ?_, fun c2 => ?_⟩)⟩⟩
  · have n11 : N 30 0 11 = M 30 0 11 := hA 30 0 11 (by omega)
    have n9 : N 30 0 9 = M 30 0 9 := hA 30 0 9 (by omega)
    refine ⟨fun _ => ⟨by omega, more_ok (M := M) (k := 3) hA.b hL (by omega) rfl he (by omega) (fun c3 => ?_) (fun c3 N2 hA2 hv2 he2 => ⟨fun c4 => ?_, fun c4 => ?_⟩)⟩, fun z => absurd (by decide) z⟩
    · exact ⟨fun z => absurd rfl z, fun _ => hk.no hA.b (fun ⟨l, e, ht, h9, hi⟩ => by have := two l e ht hi; omega)⟩
    · have hA' := hA.tr hA2
      have m11 : N2 30 0 11 = M 30 0 11 := hA' 30 0 11 (by omega)
      have lin := lt_in c3 (by decide)
      have hc1 := dgc_rng (M 31 0) (M 30 0 0) 3 (p + dgc (M 31 0) (M 30 0 0) 2 p + 1)
      refine ⟨fun _ => ⟨by omega, by omega, fun N3 e3 => ?_⟩, fun z => absurd (by decide) z⟩
      have m3 : ∀ j, N3 30 0 j = N2 30 0 j := fun j => by rw [e3, up3_r _ _ _ _ _ (by decide)]
      have q3 := m3 11
      refine ⟨by omega, by omega, by omega, fun N4 e4 => ?_⟩
      have m4 : ∀ j, N4 30 0 j = N2 30 0 j := fun j => by rw [e4, up3_r _ _ _ _ _ (by decide), m3]
      have q4 := m4 11
      refine ⟨by omega, by omega, by omega, fun N5 e5 => ?_⟩
      have m5 : ∀ j, N5 30 0 j = N2 30 0 j := fun j => by rw [e5, up3_r _ _ _ _ _ (by decide), m4]
      have q5 := m5 11
      refine ⟨by omega, fun N6 e6 => ?_⟩
      have m6 : ∀ j, N6 30 0 j = if j = 11 then M 30 0 11 + 1 else N2 30 0 j := by
        intro j
        rw [e6]
        by_cases z : j = 11
        · rw [z, up3_s, if_pos rfl, m5, m11]
        · rw [up3_j _ _ _ _ _ z, if_neg z, m5]
      have o6 : ∀ r, r ≠ 30 → r ≠ 42 → N6 r = M r := by
        intro r h1 h2
        funext i j
        rw [e6, up3_r _ _ _ _ _ h1, e5, up3_r _ _ _ _ _ h2, e4, up3_r _ _ _ _ _ h2, e3, up3_r _ _ _ _ _ h2]
        exact hA' r i j (by omega)
      have i6 : ∀ i j, i ≠ 0 → N6 30 i j = M 30 i j ∨ j = 27 ∨ j = 28 := by
        intro i j hi
        by_cases z : j = 27 ∨ j = 28
        · exact Or.inr z
        · refine Or.inl ?_
          rw [e6, up3_i _ _ _ _ _ hi, e5, up3_r _ _ _ _ _ (by decide), e4, up3_r _ _ _ _ _ (by decide), e3, up3_r _ _ _ _ _ (by decide)]
          exact hA' 30 i j (by omega)
      have hB : AgI M N6 := by
        intro r i j hn
        by_cases z : r = 30
        · subst z
          by_cases zi : i = 0
          · subst zi
            rw [m6, if_neg (by omega)]
            exact hA' 30 0 j (by omega)
          · rcases i6 i j zi with y | y
            · exact y
            · omega
        · rw [o6 r z (by omega)]
      have v42 : ∀ j, N6 42 0 j = if j = 3 * M 30 0 11 + 2 then dgv (M 31 0) (M 30 0 0) 3 (p + dgc (M 31 0) (M 30 0 0) 2 p + 1) 0 else if j = 3 * M 30 0 11 + 1 then dgv (M 31 0) (M 30 0 0) 2 p 0 else if j = 3 * M 30 0 11 then k else M 42 0 j := by
        intro j
        rw [e6, up3_r _ _ _ _ _ (by decide), e5, m4 11, m4 27, m11, hv2]
        by_cases z2 : j = 3 * M 30 0 11 + 2
        · rw [if_pos z2, z2, up3_s]
        · rw [if_neg z2, up3_j _ _ _ _ _ z2, e4, m3 11, m11, hv]
          by_cases z1 : j = 3 * M 30 0 11 + 1
          · rw [if_pos z1, z1, up3_s]
          · rw [if_neg z1, up3_j _ _ _ _ _ z1, e3, m11]
            by_cases z0 : j = 3 * M 30 0 11
            · rw [if_pos z0, z0, up3_s]
            · rw [if_neg z0, up3_j _ _ _ _ _ z0]
              exact hA' 42 0 j (by omega)
      have v28 : N6 30 0 28 = p + dgc (M 31 0) (M 30 0 0) 2 p + 1 + dgc (M 31 0) (M 30 0 0) 3 (p + dgc (M 31 0) (M 30 0 0) 2 p + 1) := by rw [m6, if_neg (by decide), he2]
      refine hk 1 N6 (Or.inr rfl) hB (fun _ => by omega) (fun _ h59 => ?_) (fun ⟨l, e, ht, h9, hi⟩ => ⟨rfl, by rw [v28]; exact (two l e ht hi).2.2.1⟩)
      rw [v28] at h59
      have cut := (dg_cut (X := M 31 0) (L := M 30 0 0) (p := p) (m := 2) (Or.inl rfl)).1 (Or.inl c3)
      refine ⟨[(dgv (M 31 0) (M 30 0 0) 2 p 0, dgc (M 31 0) (M 30 0 0) 2 p), (dgv (M 31 0) (M 30 0 0) 3 (p + dgc (M 31 0) (M 30 0 0) 2 p + 1) 0, dgc (M 31 0) (M 30 0 0) 3 (p + dgc (M 31 0) (M 30 0 0) 2 p + 1))], sFS (rFilm M) k (dgv (M 31 0) (M 30 0 0) 2 p 0) (dgv (M 31 0) (M 30 0 0) 3 (p + dgc (M 31 0) (M 30 0 0) 2 p + 1) 0), ⟨by rw [cut.1, cut.2], c2.1, Or.inr ⟨c3, rfl, c4.1, Or.inl ⟨rfl, h59, by rw [v28]⟩⟩⟩, by simp, ?_, ?_⟩
      · unfold itO
        rw [if_pos ⟨rfl, by show dgc (M 31 0) (M 30 0 0) 2 p ≤ 2; omega, by show dgv (M 31 0) (M 30 0 0) 2 p 0 < dgv (M 31 0) (M 30 0 0) 3 (p + dgc (M 31 0) (M 30 0 0) 2 p + 1) 0; omega, by show dgv (M 31 0) (M 30 0 0) 3 (p + dgc (M 31 0) (M 30 0 0) 2 p + 1) 0 ≤ M 30 0 9; omega, by omega⟩]
        rfl
      · have g9 : N6 30 0 9 = M 30 0 9 := by rw [m6, if_neg (by decide)]; exact hA' 30 0 9 (by omega)
        have g10 : N6 30 0 10 = M 30 0 10 := by rw [m6, if_neg (by decide)]; exact hA' 30 0 10 (by omega)
        have g11 : N6 30 0 11 = M 30 0 11 + 1 := by rw [m6, if_pos rfl]
        have g13 : N6 30 0 13 = M 30 0 13 := by rw [m6, if_neg (by decide)]; exact hA' 30 0 13 (by omega)
        have g44 := o6 44 (by decide) (by decide)
        refine ⟨by simp [sFS, rFilm, g9], by simp [sFS, rFilm, g10], by simp [sFS, rFilm, g11], by simp [sFS, rFilm, g13], fun w a b => by simp [sFS, rFilm], fun s a b => ?_, fun q a b => by simp [sFS, rFilm, g44]⟩
        have b' : s < M 30 0 11 + 1 := b
        by_cases z : s = M 30 0 11
        · subst z
          refine ⟨?_, ?_, ?_⟩
          · show _ = N6 42 0 (3 * M 30 0 11)
            rw [v42, if_neg (by omega), if_neg (by omega), if_pos rfl]
            simp [sFS, rFilm]
          · show _ = N6 42 0 (3 * M 30 0 11 + 1)
            rw [v42, if_neg (by omega), if_pos rfl]
            simp [sFS, rFilm]
          · show _ = N6 42 0 (3 * M 30 0 11 + 2)
            rw [v42, if_pos rfl]
            simp [sFS, rFilm]
        · refine ⟨?_, ?_, ?_⟩
          · show _ = N6 42 0 (3 * s)
            rw [v42, if_neg (by omega), if_neg (by omega), if_neg (by omega)]
            simp [sFS, rFilm, z]
          · show _ = N6 42 0 (3 * s + 1)
            rw [v42, if_neg (by omega), if_neg (by omega), if_neg (by omega)]
            simp [sFS, rFilm, z]
          · show _ = N6 42 0 (3 * s + 2)
            rw [v42, if_neg (by omega), if_neg (by omega), if_neg (by omega)]
            simp [sFS, rFilm, z]
    · exact ⟨fun z => absurd rfl z, fun _ => hk.no (hA.tr hA2).b (fun ⟨l, e, ht, h9, hi⟩ => by have := two l e ht hi; omega)⟩
  · exact ⟨fun z => absurd rfl z, fun _ => hk.no hA.b (fun ⟨l, e, ht, h9, hi⟩ => by have := two l e ht hi; omega)⟩
/-! ===== GapTellingsModel.readsNeed ===== -/
abbrev rmX8_readsNeed : Room := { frames := 4, cells := 0, slots := 0, locals := 90 }
abbrev argX8_readsNeed (a : Int) : List PV := [.inr (30, 0), .inl a]
abbrev CtX8_readsNeed (sp : Int → Mem → Kont → Prop) : Prop := Ct yX8_readsNeed cX8_readsNeed 3 (some .boolean) rmX8_readsNeed domM argX8_readsNeed (fun a => sp a)
theorem dX8_readsNeed_0 : decode cX8_readsNeed 0 = .ok (.aload_n 0, 1) := by decide +kernel
theorem dX8_readsNeed_1 : decode cX8_readsNeed 1 = .ok (.iload_n 1, 1) := by decide +kernel
theorem dX8_readsNeed_2 : decode cX8_readsNeed 2 = .ok (.iconst 2, 1) := by decide +kernel
theorem dX8_readsNeed_3 : decode cX8_readsNeed 3 = .ok (.iconst 0, 1) := by decide +kernel
theorem dX8_readsNeed_4 : decode cX8_readsNeed 4 = .ok (.aload_n 0, 1) := by decide +kernel
theorem dX8_readsNeed_5 : decode cX8_readsNeed 5 = .ok (.getfield 114, 3) := by decide +kernel
theorem dX8_readsNeed_8 : decode cX8_readsNeed 8 = .ok (.iconst 1, 1) := by decide +kernel
theorem dX8_readsNeed_9 : decode cX8_readsNeed 9 = .ok (.isub, 1) := by decide +kernel
theorem dX8_readsNeed_10 : decode cX8_readsNeed 10 = .ok (.invokevirtual 101, 3) := by decide +kernel
theorem dX8_readsNeed_13 : decode cX8_readsNeed 13 = .ok (.ifCond .ne 5, 3) := by decide +kernel
theorem dX8_readsNeed_16 : decode cX8_readsNeed 16 = .ok (.iconst 0, 1) := by decide +kernel
theorem dX8_readsNeed_17 : decode cX8_readsNeed 17 = .ok (.ireturn, 1) := by decide +kernel
theorem dX8_readsNeed_18 : decode cX8_readsNeed 18 = .ok (.aload_n 0, 1) := by decide +kernel
theorem dX8_readsNeed_19 : decode cX8_readsNeed 19 = .ok (.getfield 87, 3) := by decide +kernel
theorem dX8_readsNeed_22 : decode cX8_readsNeed 22 = .ok (.istore_n 2, 1) := by decide +kernel
theorem dX8_readsNeed_23 : decode cX8_readsNeed 23 = .ok (.aload_n 0, 1) := by decide +kernel
theorem dX8_readsNeed_24 : decode cX8_readsNeed 24 = .ok (.iconst 2, 1) := by decide +kernel
theorem dX8_readsNeed_25 : decode cX8_readsNeed 25 = .ok (.iload_n 2, 1) := by decide +kernel
theorem dX8_readsNeed_26 : decode cX8_readsNeed 26 = .ok (.iconst 1, 1) := by decide +kernel
theorem dX8_readsNeed_27 : decode cX8_readsNeed 27 = .ok (.iadd, 1) := by decide +kernel
theorem dX8_readsNeed_28 : decode cX8_readsNeed 28 = .ok (.aload_n 0, 1) := by decide +kernel
theorem dX8_readsNeed_29 : decode cX8_readsNeed 29 = .ok (.getfield 114, 3) := by decide +kernel
theorem dX8_readsNeed_32 : decode cX8_readsNeed 32 = .ok (.iconst 1, 1) := by decide +kernel
theorem dX8_readsNeed_33 : decode cX8_readsNeed 33 = .ok (.isub, 1) := by decide +kernel
theorem dX8_readsNeed_34 : decode cX8_readsNeed 34 = .ok (.invokevirtual 111, 3) := by decide +kernel
theorem dX8_readsNeed_37 : decode cX8_readsNeed 37 = .ok (.ifCond .eq 22, 3) := by decide +kernel
theorem dX8_readsNeed_40 : decode cX8_readsNeed 40 = .ok (.aload_n 0, 1) := by decide +kernel
theorem dX8_readsNeed_41 : decode cX8_readsNeed 41 = .ok (.getfield 25, 3) := by decide +kernel
theorem dX8_readsNeed_44 : decode cX8_readsNeed 44 = .ok (.bipush 11, 2) := by decide +kernel
theorem dX8_readsNeed_46 : decode cX8_readsNeed 46 = .ok (.aload_n 0, 1) := by decide +kernel
theorem dX8_readsNeed_47 : decode cX8_readsNeed 47 = .ok (.getfield 87, 3) := by decide +kernel
theorem dX8_readsNeed_50 : decode cX8_readsNeed 50 = .ok (.imul, 1) := by decide +kernel
theorem dX8_readsNeed_51 : decode cX8_readsNeed 51 = .ok (.iconst 4, 1) := by decide +kernel
theorem dX8_readsNeed_52 : decode cX8_readsNeed 52 = .ok (.iadd, 1) := by decide +kernel
theorem dX8_readsNeed_53 : decode cX8_readsNeed 53 = .ok (.iaload, 1) := by decide +kernel
theorem dX8_readsNeed_54 : decode cX8_readsNeed 54 = .ok (.bipush (-4), 2) := by decide +kernel
theorem dX8_readsNeed_56 : decode cX8_readsNeed 56 = .ok (.if_icmp .eq 5, 3) := by decide +kernel
theorem dX8_readsNeed_59 : decode cX8_readsNeed 59 = .ok (.iconst 0, 1) := by decide +kernel
theorem dX8_readsNeed_60 : decode cX8_readsNeed 60 = .ok (.ireturn, 1) := by decide +kernel
theorem dX8_readsNeed_61 : decode cX8_readsNeed 61 = .ok (.aload_n 0, 1) := by decide +kernel
theorem dX8_readsNeed_62 : decode cX8_readsNeed 62 = .ok (.getfield 25, 3) := by decide +kernel
theorem dX8_readsNeed_65 : decode cX8_readsNeed 65 = .ok (.bipush 11, 2) := by decide +kernel
theorem dX8_readsNeed_67 : decode cX8_readsNeed 67 = .ok (.aload_n 0, 1) := by decide +kernel
theorem dX8_readsNeed_68 : decode cX8_readsNeed 68 = .ok (.getfield 87, 3) := by decide +kernel
theorem dX8_readsNeed_71 : decode cX8_readsNeed 71 = .ok (.imul, 1) := by decide +kernel
theorem dX8_readsNeed_72 : decode cX8_readsNeed 72 = .ok (.iconst 4, 1) := by decide +kernel
theorem dX8_readsNeed_73 : decode cX8_readsNeed 73 = .ok (.iadd, 1) := by decide +kernel
theorem dX8_readsNeed_74 : decode cX8_readsNeed 74 = .ok (.iload_n 2, 1) := by decide +kernel
theorem dX8_readsNeed_75 : decode cX8_readsNeed 75 = .ok (.iastore, 1) := by decide +kernel
theorem dX8_readsNeed_76 : decode cX8_readsNeed 76 = .ok (.iconst 1, 1) := by decide +kernel
theorem dX8_readsNeed_77 : decode cX8_readsNeed 77 = .ok (.ireturn, 1) := by decide +kernel
theorem flX8_114 : FL RX8 114 8 13 := ⟨_, _, _, rfl, by decide, uwX8, Or.inl (tb_mem (t_in4 (List.mem_of_getElem? (i := 121) (by decide +kernel))) (by decide +kernel))⟩
theorem flX8_25 : FL RX8 25 8 14 := ⟨_, _, _, rfl, by decide, uwX8, Or.inl (tb_mem (t_in4 (List.mem_of_getElem? (i := 122) (by decide +kernel))) (by decide +kernel))⟩
set_option maxHeartbeats 4000000 in
set_option maxRecDepth 20000 in
theorem sgX8_readsNeed_0 {κ : Kx} {K : Kont} {M : Mem} (C : Cx κ RX8 cX8_readsNeed 3 (some .boolean) rmX8_readsNeed domM) (x1 : Int)
    (h :
    inR ((M 30 0 13) - 1) ∧
    spX8_number x1 2 0 ((M 30 0 13) - 1) M (rI (fun r10 M10 =>
    ((r10 ≠ 0 →
      inR ((M10 30 0 27) + 1) ∧
      inR ((M10 30 0 13) - 1) ∧
      spX8_more 2 ((M10 30 0 27) + 1) ((M10 30 0 13) - 1) M10 (rI (fun r34 M34 =>
      ((r34 = 0 →
        K (some 0) M34) ∧
       (¬ (r34 = 0) →
        inR (11 * (M34 30 0 27)) ∧
        inR ((11 * (M34 30 0 27)) + 4) ∧
        (0 ≤ ((11 * (M34 30 0 27)) + 4) ∧ ((11 * (M34 30 0 27)) + 4) < 77) ∧
        (((M34 44 0 ((11 * (M34 30 0 27)) + 4)) = (-4) →
          inR (11 * (M34 30 0 27)) ∧
          inR ((11 * (M34 30 0 27)) + 4) ∧
          (0 ≤ ((11 * (M34 30 0 27)) + 4) ∧ ((11 * (M34 30 0 27)) + 4) < 77) ∧
          ∀ M75 : Mem, M75 = up3 M34 44 0 ((11 * (M34 30 0 27)) + 4) (M10 30 0 27) →
          K (some 1) M75) ∧
         (¬ ((M34 44 0 ((11 * (M34 30 0 27)) + 4)) = (-4)) →
          K (some 0) M34))))))) ∧
     (¬ (r10 ≠ 0) →
      K (some 0) M10))))) : V κ 3 M 0 [some (.inr (30, 0)), some (.inl x1), none] [] K := by
  refine v_aload_n C dX8_readsNeed_0 rfl ?_
  refine v_iload_n C dX8_readsNeed_1 rfl ?_
  refine v_iconst C dX8_readsNeed_2 (by decide) ?_
  refine v_iconst C dX8_readsNeed_3 (by decide) ?_
  refine v_aload_n C dX8_readsNeed_4 rfl ?_
  refine v_get C dX8_readsNeed_5 flX8_114 rfl (by decide) (by decide) (w := .inl (M 30 0 13)) rfl ?_
  refine v_iconst C dX8_readsNeed_8 (by decide) ?_
  refine v_isub C dX8_readsNeed_9 h.1 ?_
  replace h := h.2
  refine v_invV C ctX8_number dX8_readsNeed_10 ivX8_101 ⟨by decide, by decide, rfl, rfl⟩ ((x1, 2, 0, (M 30 0 13) - 1) : Int × Int × Int × Int) (As := [.inl x1, .inl 2, .inl 0, .inl ((M 30 0 13) - 1)]) rfl rfl rfl (by decide) rfl (st := []) rfl (Nat.le_of_ble_eq_true rfl) h (fun o M10 oM10 io10 g10 => ?_)
  replace h := rI_out g10
  clear g10
  obtain ⟨r10, rfl, h⟩ := h
  refine v_push ?_
  refine v_if C dX8_readsNeed_13 (tgt := 18) (by decide) (P := r10 ≠ 0) rfl (fun c13 => ?_) (fun c13 => ?_)
  · replace h := h.1 c13
    refine v_aload_n C dX8_readsNeed_18 rfl ?_
    refine v_get C dX8_readsNeed_19 flX8_87 rfl (by decide) (by decide) (w := .inl (M10 30 0 27)) rfl ?_
    refine v_istore_n C dX8_readsNeed_22 (by decide) (Nat.le_of_ble_eq_true rfl) (lv' := [some (.inr (30, 0)), some (.inl x1), some (.inl (M10 30 0 27))]) rfl ?_
    refine v_aload_n C dX8_readsNeed_23 rfl ?_
    refine v_iconst C dX8_readsNeed_24 (by decide) ?_
    refine v_iload_n C dX8_readsNeed_25 rfl ?_
    refine v_iconst C dX8_readsNeed_26 (by decide) ?_
    refine v_iadd C dX8_readsNeed_27 h.1 ?_
    replace h := h.2
    refine v_aload_n C dX8_readsNeed_28 rfl ?_
    refine v_get C dX8_readsNeed_29 flX8_114 rfl (by decide) (by decide) (w := .inl (M10 30 0 13)) rfl ?_
    refine v_iconst C dX8_readsNeed_32 (by decide) ?_
    refine v_isub C dX8_readsNeed_33 h.1 ?_
    replace h := h.2
    refine v_invV C ctX8_more dX8_readsNeed_34 ivX8_111 ⟨by decide, by decide, rfl, rfl⟩ ((2, (M10 30 0 27) + 1, (M10 30 0 13) - 1) : Int × Int × Int) (As := [.inl 2, .inl ((M10 30 0 27) + 1), .inl ((M10 30 0 13) - 1)]) rfl rfl rfl (by decide) rfl (st := []) rfl (Nat.le_of_ble_eq_true rfl) h (fun o M34 oM34 io34 g34 => ?_)
    replace h := rI_out g34
    clear g34
    obtain ⟨r34, rfl, h⟩ := h
    refine v_push ?_
    refine v_if C dX8_readsNeed_37 (tgt := 59) (by decide) (P := r34 = 0) rfl (fun c37 => ?_) (fun c37 => ?_)
    · replace h := h.1 c37
      refine v_iconst C dX8_readsNeed_59 (by decide) ?_
      exact v_zret C dX8_readsNeed_60 (by decide) h
    · replace h := h.2 c37
      refine v_aload_n C dX8_readsNeed_40 rfl ?_
      refine v_get C dX8_readsNeed_41 flX8_25 rfl (by decide) (by decide) (w := .inr (44, 0)) rfl ?_
      refine v_bipush C dX8_readsNeed_44 (by decide) (by decide) ?_
      refine v_aload_n C dX8_readsNeed_46 rfl ?_
      refine v_get C dX8_readsNeed_47 flX8_87 rfl (by decide) (by decide) (w := .inl (M34 30 0 27)) rfl ?_
      refine v_imul C dX8_readsNeed_50 h.1 ?_
      replace h := h.2
      refine v_iconst C dX8_readsNeed_51 (by decide) ?_
      refine v_iadd C dX8_readsNeed_52 h.1 ?_
      replace h := h.2
      refine v_iald C dX8_readsNeed_53 rfl h.1.1 h.1.2 ?_
      replace h := h.2
      refine v_bipush C dX8_readsNeed_54 (by decide) (by decide) ?_
      refine v_icmp C dX8_readsNeed_56 (tgt := 61) (by decide) (P := (M34 44 0 ((11 * (M34 30 0 27)) + 4)) = (-4)) rfl (fun c56 => ?_) (fun c56 => ?_)
      · replace h := h.1 c56
        refine v_aload_n C dX8_readsNeed_61 rfl ?_
        refine v_get C dX8_readsNeed_62 flX8_25 rfl (by decide) (by decide) (w := .inr (44, 0)) rfl ?_
        refine v_bipush C dX8_readsNeed_65 (by decide) (by decide) ?_
        refine v_aload_n C dX8_readsNeed_67 rfl ?_
        refine v_get C dX8_readsNeed_68 flX8_87 rfl (by decide) (by decide) (w := .inl (M34 30 0 27)) rfl ?_
        refine v_imul C dX8_readsNeed_71 h.1 ?_
        replace h := h.2
        refine v_iconst C dX8_readsNeed_72 (by decide) ?_
        refine v_iadd C dX8_readsNeed_73 h.1 ?_
        replace h := h.2
        refine v_iload_n C dX8_readsNeed_74 rfl ?_
        refine v_iast C dX8_readsNeed_75 rfl h.1.1 h.1.2 ?_
        replace h := h.2
        refine v_nmM (fun M75 eM75 => ?_)
        replace h := h M75 eM75
        refine v_iconst C dX8_readsNeed_76 (by decide) ?_
        exact v_zret C dX8_readsNeed_77 (by decide) h
      · replace h := h.2 c56
        refine v_iconst C dX8_readsNeed_59 (by decide) ?_
        exact v_zret C dX8_readsNeed_60 (by decide) h
  · replace h := h.2 c13
    refine v_iconst C dX8_readsNeed_16 (by decide) ?_
    exact v_zret C dX8_readsNeed_17 (by decide) h
abbrev spX8_readsNeed (p : Int) (M : Mem) (K : Kont) : Prop := RdP M p ∧ RdQ M p (itN (rFilm M)) K
theorem ctX8_readsNeed : CtX8_readsNeed spX8_readsNeed := by
  refine ct_of (by decide) dmM (fun _ => Nat.le_of_ble_eq_true rfl) ?_
  intro κ p M K C oM h
  dsimp only [spX8_readsNeed] at h
  obtain ⟨⟨hp, hL, hf⟩, hk⟩ := h
  have n3 := hf.2.2.2.1
  have e3 : rFilm M 3 0 0 = M 30 0 13 := rfl
  have itn : ∀ l, itN (rFilm M) l ≠ none → l.length = 2 ∧ shortB l = true ∧ aN l 1 < M 30 0 13 ∧ aN l 0 < aN l 1 ∧ M 44 0 (11 * aN l 1 + 4) = -4 := by
    intro l hl
    unfold itN at hl
    split at hl
    · rename_i c; exact c
    · exact absurd rfl hl
  have hv0 := dgv_rng (M 31 0) (M 30 0 0) 2 p 0 0 (by omega) (by omega)
  have hc0 := dgc_rng (M 31 0) (M 30 0 0) 2 p
  -- what an item that is so must have
  have one : ∀ l e, Tk (M 31 0) (M 30 0 0) l p e → itN (rFilm M) l ≠ none → 0 < dgc (M 31 0) (M 30 0 0) 2 p ∧ dgv (M 31 0) (M 30 0 0) 2 p 0 = aN l 0 := by
    intro l e ht hi
    have c := itn l hi
    have f := acc_first ht ((short_iff l).mp c.2.1 0 (by omega))
    exact ⟨f.1, f.2.1⟩
  have two : ∀ l e, Tk (M 31 0) (M 30 0 0) l p e → itN (rFilm M) l ≠ none → 0 < dgc (M 31 0) (M 30 0 0) 2 p → lt (M 31 0) (M 30 0 0) (p + dgc (M 31 0) (M 30 0 0) 2 p) = 44 ∧ 0 < dgc (M 31 0) (M 30 0 0) 2 (p + dgc (M 31 0) (M 30 0 0) 2 p + 1) ∧ dgv (M 31 0) (M 30 0 0) 2 (p + dgc (M 31 0) (M 30 0 0) 2 p + 1) 0 = aN l 1 := by
    intro l e ht hi h0
    have c := itn l hi
    have f := acc_next ht (short_mem.mp c.2.1) (PT_one h0) (by rw [c.1]; simp)
    exact ⟨f.1, f.2.1, f.2.2.1⟩
  refine sgX8_readsNeed_0 C p ⟨by omega, num_ok (k := 2) AgI.rf hL (by omega) rfl hp (fun N hA hv he => ⟨fun c2 => ?_, fun c2 => ?_⟩)⟩
  · have n13 : N 30 0 13 = M 30 0 13 := hA 30 0 13 (by omega)
    refine ⟨fun _ => ⟨by omega, by omega, more_ok (M := M) (k := 2) hA.b hL (by omega) rfl he (by omega) (fun c3 => ?_) (fun c3 N2 hA2 hv2 he2 => ⟨fun c4 => ?_, fun c4 => ?_⟩)⟩, fun z => absurd (by decide) z⟩
    · exact ⟨fun _ => hk.no hA.b (fun ⟨l, e, ht, h9, hi⟩ => c3 (two l e ht hi c2.1).1), fun z => absurd rfl z⟩
    · have hA' := hA.tr hA2
      have lin := lt_in c3 (by decide)
      have hc1 := dgc_rng (M 31 0) (M 30 0 0) 2 (p + dgc (M 31 0) (M 30 0 0) 2 p + 1)
      have m44 : N2 44 0 = M 44 0 := by funext j; exact hA' 44 0 j (by omega)
      have pt := PT_snoc _ _ _ (PT_one c2.1) c3 c4.1
      refine ⟨fun z => absurd z (by decide), fun _ => ?_⟩
      rw [hv2, m44]
      refine ⟨by omega, by omega, by omega, fun c5 => ⟨by omega, by omega, by omega, fun N3 e3 => ?_⟩, fun c5 => hk.no hA'.b (fun ⟨l, e, ht, h9, hi⟩ => ?_)⟩
      · have m3 : ∀ j, N3 30 0 j = N2 30 0 j := fun j => by rw [e3, up3_r _ _ _ _ _ (by decide)]
        have o3 : ∀ r, r ≠ 44 → N3 r = N2 r := fun r hr => by funext i j; rw [e3, up3_r _ _ _ _ _ hr]
        have hB : AgI M N3 := hA'.b.tr (fun r i j hn => by rw [o3 r (by omega)])
        have v44 : ∀ j, N3 44 0 j = if j = 11 * dgv (M 31 0) (M 30 0 0) 2 (p + dgc (M 31 0) (M 30 0 0) 2 p + 1) 0 + 4 then dgv (M 31 0) (M 30 0 0) 2 p 0 else M 44 0 j := by
          intro j
          rw [e3]
          by_cases z : j = 11 * dgv (M 31 0) (M 30 0 0) 2 (p + dgc (M 31 0) (M 30 0 0) 2 p + 1) 0 + 4
          · rw [if_pos z, z, up3_s, hv]
          · rw [if_neg z, up3_j _ _ _ _ _ z, m44]
        have v28 : N3 30 0 28 = p + dgc (M 31 0) (M 30 0 0) 2 p + 1 + dgc (M 31 0) (M 30 0 0) 2 (p + dgc (M 31 0) (M 30 0 0) 2 p + 1) := by rw [m3, he2]
        refine hk 1 N3 (Or.inr rfl) hB (fun _ => by omega) (fun _ h59 => ?_) (fun ⟨l, e, ht, h9, hi⟩ => ⟨rfl, ?_⟩)
        · rw [v28] at h59
          have tk := PT_tk _ _ _ pt h59
          refine ⟨_, sFN (rFilm M) (dgv (M 31 0) (M 30 0 0) 2 (p + dgc (M 31 0) (M 30 0 0) 2 p + 1) 0) (dgv (M 31 0) (M 30 0 0) 2 p 0), by rw [v28]; exact tk.1, by simp, ?_, ?_⟩
          · unfold itN
            rw [if_pos ⟨rfl, short_mem.mpr tk.2, by show dgv (M 31 0) (M 30 0 0) 2 (p + dgc (M 31 0) (M 30 0 0) 2 p + 1) 0 < M 30 0 13; omega, by show dgv (M 31 0) (M 30 0 0) 2 p 0 < dgv (M 31 0) (M 30 0 0) 2 (p + dgc (M 31 0) (M 30 0 0) 2 p + 1) 0; omega, c5⟩]
            rfl
          · have g9 : N3 30 0 9 = M 30 0 9 := by rw [m3]; exact hA' 30 0 9 (by omega)
            have g10 : N3 30 0 10 = M 30 0 10 := by rw [m3]; exact hA' 30 0 10 (by omega)
            have g11 : N3 30 0 11 = M 30 0 11 := by rw [m3]; exact hA' 30 0 11 (by omega)
            have g13 : N3 30 0 13 = M 30 0 13 := by rw [m3]; exact hA' 30 0 13 (by omega)
            have g42 : N3 42 0 = M 42 0 := by rw [o3 42 (by decide)]; funext j; exact hA' 42 0 j (by omega)
            refine ⟨by simp [sFN, rFilm, g9], by simp [sFN, rFilm, g10], by simp [sFN, rFilm, g11], by simp [sFN, rFilm, g13], fun w a b => by simp [sFN, rFilm], fun s a b => by simp [sFN, rFilm, g42], fun q a b => ?_⟩
            have b' : q < M 30 0 13 := b
            have wq := wf_p hf a b'
            have e11 : rFilm M 11 q 0 = M 44 0 (11 * q + 3) := rfl
            refine ⟨?_, ?_, ?_, ?_, ?_, fun v v0 v1 => ?_⟩
            · show _ = N3 44 0 (11 * q)
              rw [v44, if_neg (by omega)]
              simp [sFN, rFilm]
            · show _ = N3 44 0 (11 * q + 1)
              rw [v44, if_neg (by omega)]
              simp [sFN, rFilm]
            · show _ = N3 44 0 (11 * q + 2)
              rw [v44, if_neg (by omega)]
              simp [sFN, rFilm]
            · show _ = N3 44 0 (11 * q + 3)
              rw [v44, if_neg (by omega)]
              simp [sFN, rFilm]
            · show _ = N3 44 0 (11 * q + 4)
              rw [v44]
              by_cases z : q = dgv (M 31 0) (M 30 0 0) 2 (p + dgc (M 31 0) (M 30 0 0) 2 p + 1) 0
              · rw [if_pos (by omega)]
                simp [sFN, z]
              · rw [if_neg (by omega)]
                simp [sFN, rFilm, z]
            · have v1' : v < rFilm M 11 q 0 := by simpa [sFN] using v1
              refine ⟨?_, ?_⟩
              · show _ = N3 44 0 (11 * q + 5 + 2 * v)
                rw [v44, if_neg (by omega)]
                simp [sFN, rFilm]
              · show _ = N3 44 0 (11 * q + 6 + 2 * v)
                rw [v44, if_neg (by omega)]
                simp [sFN, rFilm]
        · rw [v28]
          have c := itn l hi
          exact (acc_end ht (short_mem.mp c.2.1) pt (by rw [c.1]; simp)).1
      · have c := itn l hi
        have t := two l e ht hi c2.1
        rw [t.2.2] at c5
        exact c5 c.2.2.2.2
    · refine ⟨fun _ => hk.no (hA.tr hA2).b (fun ⟨l, e, ht, h9, hi⟩ => ?_), fun z => absurd rfl z⟩
      have c := itn l hi
      have f := one l e ht hi
      have t := two l e ht hi c2.1
      exact c4 ⟨t.2.1, by omega, by omega⟩
  · refine ⟨fun z => absurd rfl z, fun _ => hk.no hA.b (fun ⟨l, e, ht, h9, hi⟩ => ?_)⟩
    have c := itn l hi
    have f := one l e ht hi
    exact c2 ⟨f.1, by omega, by omega⟩
