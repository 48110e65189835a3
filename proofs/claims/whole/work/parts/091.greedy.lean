/-! ===== plans that are the same on the seven pictures ===== -/
def PlEq (ver sta ver' sta' : Int → Int) : Prop := ∀ q, 0 ≤ q → q < 7 → ver q = ver' q ∧ sta q = sta' q
theorem PlEq.rf {ver sta : Int → Int} : PlEq ver sta ver sta := fun _ _ _ => ⟨rfl, rfl⟩
theorem PlEq.sy {ver sta ver' sta' : Int → Int} (h : PlEq ver sta ver' sta') : PlEq ver' sta' ver sta := fun q a b => ⟨(h q a b).1.symm, (h q a b).2.symm⟩
theorem PlEq.tr {ver sta ver' sta' v2 s2 : Int → Int} (h : PlEq ver sta ver' sta') (h2 : PlEq ver' sta' v2 s2) : PlEq ver sta v2 s2 := fun q a b => ⟨(h q a b).1.trans (h2 q a b).1, (h q a b).2.trans (h2 q a b).2⟩
theorem PlK_eq {F : Film} {ver sta ver' sta' : Int → Int} (h : PlEq ver sta ver' sta') (hk : PlK F ver sta) : PlK F ver' sta' := by
  intro q a b
  have := hk q a b
  rw [(h q a b).1, (h q a b).2] at this
  exact this
theorem C4_imp {F : Film} (hf : WFf F) {ver sta ver' sta' : Int → Int} (h : PlEq ver sta ver' sta') {p v t : Int} (hc : C4 F ver sta p v t) : C4 F ver' sta' p v t := by
  obtain ⟨q, a, b, c⟩ := hc
  have := hf.2.2.2.1
  have e := h q a (by omega)
  rw [e.1, e.2] at c
  exact ⟨q, a, b, c⟩
theorem C6_imp {F : Film} (hf : WFf F) {ver sta ver' sta' : Int → Int} (h : PlEq ver sta ver' sta') {p v t : Int} (hc : C6 F ver sta p v t) : C6 F ver' sta' p v t := by
  obtain ⟨q, a, b, c⟩ := hc
  have := hf.2.2.2.1
  have e := h q a (by omega)
  rw [e.1, e.2] at c
  exact ⟨q, a, b, c⟩
theorem C5_imp {F : Film} (hf : WFf F) {ver sta ver' sta' : Int → Int} (h : PlEq ver sta ver' sta') {p t : Int} (hp : 0 ≤ p) (hp2 : p < F 3 0 0) (hc : C5 F ver sta p t) : C5 F ver' sta' p t := by
  obtain ⟨a, b⟩ := hc
  have w := wf_p hf hp hp2
  have e := h (F 12 p 0) (by omega) (by omega)
  rw [e.1, e.2] at b
  exact ⟨a, b⟩
theorem whyB_eq {F : Film} (hf : WFf F) {ver sta ver' sta' : Int → Int} (h : PlEq ver sta ver' sta') {p v t : Int} (hp : 0 ≤ p) (hp2 : p < F 3 0 0) : whyB F ver sta p v t = whyB F ver' sta' p v t := by
  by_cases h4 : C4 F ver sta p v t
  · rw [whyB_4 h4, whyB_4 (C4_imp hf h h4)]
  · have h4' : ¬ C4 F ver' sta' p v t := fun z => h4 (C4_imp hf h.sy z)
    by_cases h5 : C5 F ver sta p t
    · rw [whyB_5 h4 h5, whyB_5 h4' (C5_imp hf h hp hp2 h5)]
    · have h5' : ¬ C5 F ver' sta' p t := fun z => h5 (C5_imp hf h.sy hp hp2 z)
      by_cases h6 : C6 F ver sta p v t
      · rw [whyB_6 h4 h5 h6, whyB_6 h4' h5' (C6_imp hf h h6)]
      · rw [whyB_0 h4 h5 h6, whyB_0 h4' h5' (fun z => h6 (C6_imp hf h.sy z))]
theorem whyW_eq {F : Film} (hf : WFf F) (S : Int → Int) {ver sta ver' sta' : Int → Int} (h : PlEq ver sta ver' sta') {p v t : Int} (hp : 0 ≤ p) (hp2 : p < F 3 0 0) : whyW F S ver sta p v t = whyW F S ver' sta' p v t := by
  unfold whyW
  rw [whyB_eq hf h hp hp2]
/-! ===== the plan that takes the worthiest first: what is found: worth, gain, picture, version, tick ===== -/
abbrev gSt : Type := Int × Int × Int × Int × Int
def offS (F : Film) (Q : Int → Int) (p v t : Int) (s : gSt) : gSt := if s.1 < F 14 p v ∨ (F 14 p v = s.1 ∧ s.2.1 < gainW F Q p v t) then (F 14 p v, gainW F Q p v t, p, v, t) else s
noncomputable def grO (F : Film) (S Q ver sta : Int → Int) (p v t : Int) (s : gSt) : gSt := if whyW F S ver sta p v t = 0 then offS F Q p v t s else s
noncomputable def grT (F : Film) (S Q ver sta : Int → Int) (p v : Int) : Nat → gSt → gSt
  | 0, s => s
  | n + 1, s => grO F S Q ver sta p v n (grT F S Q ver sta p v n s)
noncomputable def grV (F : Film) (S Q ver sta : Int → Int) (pz : Int → Bool) (p : Int) : Nat → gSt → gSt
  | 0, s => s
  | n + 1, s => if pz (p * 3 + n) then grV F S Q ver sta pz p n s else grT F S Q ver sta p n (F 0 0 0).toNat (grV F S Q ver sta pz p n s)
noncomputable def grP (F : Film) (S Q ver sta : Int → Int) (pz : Int → Bool) : Nat → gSt
  | 0 => (0, 0, 0, 0, 0)
  | n + 1 => if ver n = -4 then grV F S Q ver sta pz n (F 11 n 0).toNat (grP F S Q ver sta pz n) else grP F S Q ver sta pz n
def setP (f : Int → Int) (p v : Int) : Int → Int := fun q => if q = p then v else f q
def setB (f : Int → Bool) (p : Int) : Int → Bool := fun q => f q || decide (q = p)
noncomputable def grG (F : Film) (S Q : Int → Int) : Nat → (Int → Int) → (Int → Int) → (Int → Bool) → (Int → Int) × (Int → Int)
  | 0, ver, sta, _ => (ver, sta)
  | n + 1, ver, sta, pz =>
    if (grP F S Q ver sta pz (F 3 0 0).toNat).1 = 0 then (ver, sta)
    else if (grP F S Q ver sta pz (F 3 0 0).toNat).2.1 ≤ 0 then grG F S Q n ver sta (setB pz ((grP F S Q ver sta pz (F 3 0 0).toNat).2.2.1 * 3 + (grP F S Q ver sta pz (F 3 0 0).toNat).2.2.2.1))
    else grG F S Q n (setP ver (grP F S Q ver sta pz (F 3 0 0).toNat).2.2.1 (grP F S Q ver sta pz (F 3 0 0).toNat).2.2.2.1) (setP sta (grP F S Q ver sta pz (F 3 0 0).toNat).2.2.1 (grP F S Q ver sta pz (F 3 0 0).toNat).2.2.2.2) pz
theorem grT_s (F : Film) (S Q ver sta : Int → Int) (p v : Int) {t : Int} (h : 0 ≤ t) (s : gSt) : grT F S Q ver sta p v (t + 1).toNat s = grO F S Q ver sta p v t (grT F S Q ver sta p v t.toNat s) := by
  rw [toNat_s h]
  show grO F S Q ver sta p v (t.toNat : Int) _ = _
  rw [oi_nat h]
theorem why_out {F : Film} {S ver sta : Int → Int} {p v t : Int} (h : t < F 8 p 0 - F 9 p 0 ∨ F 8 p 0 + F 10 p 0 < t) : whyW F S ver sta p v t ≠ 0 := by
  have : ownW F S p v t ≠ 0 := by
    unfold ownW
    by_cases c : F 0 0 0 < t + F 13 p v
    · rw [if_pos c]
      decide
    · rw [if_neg c, if_pos h]
      decide
  unfold whyW
  rw [if_neg this]
  exact this
theorem grT_same {F : Film} {S Q ver sta : Int → Int} {p v : Int} : ∀ (n m : Nat) (s : gSt), (∀ t : Int, n ≤ t → t < m → whyW F S ver sta p v t ≠ 0) → n ≤ m → grT F S Q ver sta p v m s = grT F S Q ver sta p v n s := by
  intro n m
  induction m with
  | zero =>
    intro s _ h
    have : n = 0 := by omega
    rw [this]
  | succ m ih =>
    intro s h hn
    by_cases e : n = m + 1
    · rw [e]
    · show grO F S Q ver sta p v m (grT F S Q ver sta p v m s) = _
      unfold grO
      rw [if_neg (h m (by omega) (by omega))]
      exact ih s (fun t a b => h t a (by omega)) (by omega)
theorem grT_low {F : Film} {S Q ver sta : Int → Int} {p v : Int} : ∀ (n : Nat) (s : gSt), F 14 p v < s.1 → grT F S Q ver sta p v n s = s := by
  intro n
  induction n with
  | zero => intro s _; rfl
  | succ n ih =>
    intro s h
    show grO F S Q ver sta p v n (grT F S Q ver sta p v n s) = _
    rw [ih s h]
    unfold grO
    split
    · unfold offS
      rw [if_neg (by omega)]
    · rfl
/-- what is found is open, and of this worth and gain -/
def grOk (F : Film) (S Q ver sta : Int → Int) (pz : Int → Bool) (s : gSt) : Prop := s = (0, 0, 0, 0, 0) ∨
  ((0 ≤ s.2.2.1 ∧ s.2.2.1 < F 3 0 0) ∧ ver s.2.2.1 = -4 ∧ (0 ≤ s.2.2.2.1 ∧ s.2.2.2.1 < F 11 s.2.2.1 0) ∧ pz (s.2.2.1 * 3 + s.2.2.2.1) = false ∧ (0 ≤ s.2.2.2.2 ∧ s.2.2.2.2 < F 0 0 0) ∧ whyW F S ver sta s.2.2.1 s.2.2.2.1 s.2.2.2.2 = 0 ∧ s.1 = F 14 s.2.2.1 s.2.2.2.1 ∧ s.2.1 = gainW F Q s.2.2.1 s.2.2.2.1 s.2.2.2.2)
theorem grT_ok {F : Film} {S Q ver sta : Int → Int} {pz : Int → Bool} {p v : Int} (hp : 0 ≤ p) (hp2 : p < F 3 0 0) (hver : ver p = -4) (hv : 0 ≤ v) (hv2 : v < F 11 p 0) (hz : pz (p * 3 + v) = false) : ∀ (n : Nat) (s : gSt), (n : Int) ≤ F 0 0 0 → grOk F S Q ver sta pz s → grOk F S Q ver sta pz (grT F S Q ver sta p v n s) := by
  intro n
  induction n with
  | zero => intro s _ h; exact h
  | succ n ih =>
    intro s hn h
    have h1 := ih s (by omega) h
    show grOk F S Q ver sta pz (grO F S Q ver sta p v n (grT F S Q ver sta p v n s))
    unfold grO offS
    split
    · rename_i hw
      split
      · exact Or.inr ⟨⟨hp, hp2⟩, hver, ⟨hv, hv2⟩, hz, ⟨by show (0 : Int) ≤ n; omega, by show (n : Int) < _; omega⟩, hw, rfl, rfl⟩
      · exact h1
    · exact h1
theorem grV_ok {F : Film} {S Q ver sta : Int → Int} {pz : Int → Bool} {p : Int} (hT : 0 ≤ F 0 0 0) (hp : 0 ≤ p) (hp2 : p < F 3 0 0) (hver : ver p = -4) : ∀ (n : Nat) (s : gSt), (n : Int) ≤ F 11 p 0 → grOk F S Q ver sta pz s → grOk F S Q ver sta pz (grV F S Q ver sta pz p n s) := by
  intro n
  induction n with
  | zero => intro s _ h; exact h
  | succ n ih =>
    intro s hn h
    have h1 := ih s (by omega) h
    unfold grV
    split
    · exact h1
    · rename_i hz
      exact grT_ok hp hp2 hver (by omega) (by omega) (by simpa using hz) _ _ (by omega) h1
theorem grP_ok {F : Film} (hf : WFf F) {S Q ver sta : Int → Int} {pz : Int → Bool} : ∀ (n : Nat), (n : Int) ≤ F 3 0 0 → grOk F S Q ver sta pz (grP F S Q ver sta pz n) := by
  intro n
  induction n with
  | zero => intro _; exact Or.inl rfl
  | succ n ih =>
    intro hn
    have h1 := ih (by omega)
    unfold grP
    have w := wf_p hf (p := n) (by omega) (by omega)
    split
    · rename_i hv
      exact grV_ok w.1.1 (by omega) (by omega) hv _ _ (by omega) h1
    · exact h1
theorem why_own {F : Film} {S ver sta : Int → Int} {p v t : Int} (h : whyW F S ver sta p v t = 0) : ownW F S p v t = 0 := by
  unfold whyW at h
  by_cases c : ownW F S p v t = 0
  · exact c
  · rw [if_neg c] at h
    exact absurd h c
theorem own_end {F : Film} {S : Int → Int} {p v t : Int} (h : ownW F S p v t = 0) : t + F 13 p v ≤ F 0 0 0 ∧ F 8 p 0 - F 9 p 0 ≤ t ∧ t ≤ F 8 p 0 + F 10 p 0 ∧ ¬ S t < S (t + F 13 p v) := by
  unfold ownW at h
  by_cases c : F 0 0 0 < t + F 13 p v
  · rw [if_pos c] at h
    exact absurd h (by decide)
  · rw [if_neg c] at h
    by_cases d : t < F 8 p 0 - F 9 p 0 ∨ F 8 p 0 + F 10 p 0 < t
    · rw [if_pos d] at h
      exact absurd h (by decide)
    · rw [if_neg d] at h
      by_cases e : S t < S (t + F 13 p v)
      · rw [if_pos e] at h
        exact absurd h (by decide)
      · exact ⟨by omega, by omega, by omega, e⟩
theorem PlK_put {F : Film} {ver sta : Int → Int} (h : PlK F ver sta) {p v t : Int} (hp2 : p < F 3 0 0) (hv : 0 ≤ v ∧ v < F 11 p 0) (ht : 0 ≤ t) (he : t + F 13 p v ≤ F 0 0 0) : PlK F (setP ver p v) (setP sta p t) := by
  intro q a b
  unfold setP
  by_cases e : q = p
  · rw [if_pos e, if_pos e, e]
    exact Or.inr ⟨hp2, hv, ht, he⟩
  · rw [if_neg e, if_neg e]
    exact h q a b
theorem grT_eq {F : Film} (hf : WFf F) (S Q : Int → Int) {ver sta ver' sta' : Int → Int} (h : PlEq ver sta ver' sta') {p v : Int} (hp : 0 ≤ p) (hp2 : p < F 3 0 0) : ∀ (n : Nat) (s : gSt), grT F S Q ver sta p v n s = grT F S Q ver' sta' p v n s := by
  intro n
  induction n with
  | zero => intro s; rfl
  | succ n ih =>
    intro s
    show grO F S Q ver sta p v n _ = grO F S Q ver' sta' p v n _
    unfold grO
    rw [ih s, whyW_eq hf S h hp hp2]
theorem grV_eq {F : Film} (hf : WFf F) (S Q : Int → Int) {ver sta ver' sta' : Int → Int} (h : PlEq ver sta ver' sta') {pz pz' : Int → Bool} (hz : ∀ k, 0 ≤ k → k < 21 → pz k = pz' k) {p : Int} (hp : 0 ≤ p) (hp2 : p < F 3 0 0) : ∀ (n : Nat) (s : gSt), (n : Int) ≤ F 11 p 0 → grV F S Q ver sta pz p n s = grV F S Q ver' sta' pz' p n s := by
  intro n
  have w := wf_p hf hp hp2
  induction n with
  | zero => intro s _; rfl
  | succ n ih =>
    intro s hn
    unfold grV
    rw [ih s (by omega), hz (p * 3 + n) (by omega) (by omega), grT_eq hf S Q h hp hp2]
theorem grP_eq {F : Film} (hf : WFf F) (S Q : Int → Int) {ver sta ver' sta' : Int → Int} (h : PlEq ver sta ver' sta') {pz pz' : Int → Bool} (hz : ∀ k, 0 ≤ k → k < 21 → pz k = pz' k) : ∀ (n : Nat), (n : Int) ≤ F 3 0 0 → grP F S Q ver sta pz n = grP F S Q ver' sta' pz' n := by
  intro n
  have w := hf.2.2.2.1
  induction n with
  | zero => intro _; rfl
  | succ n ih =>
    intro hn
    have w2 := wf_p hf (p := n) (by omega) (by omega)
    unfold grP
    rw [ih (by omega), (h n (by omega) (by omega)).1, grV_eq hf S Q h hz (by omega) (by omega) _ _ (by omega)]
theorem PlEq.put {ver sta ver' sta' : Int → Int} (h : PlEq ver sta ver' sta') (p v t : Int) : PlEq (setP ver p v) (setP sta p t) (setP ver' p v) (setP sta' p t) := by
  intro q a b
  unfold setP
  by_cases e : q = p
  · simp [e]
  · rw [if_neg e, if_neg e, if_neg e, if_neg e]
    exact h q a b
theorem grG_eq {F : Film} (hf : WFf F) (S Q : Int → Int) : ∀ (n : Nat) (ver sta ver' sta' : Int → Int) (pz pz' : Int → Bool), PlEq ver sta ver' sta' → (∀ k, 0 ≤ k → k < 21 → pz k = pz' k) →
    PlEq (grG F S Q n ver sta pz).1 (grG F S Q n ver sta pz).2 (grG F S Q n ver' sta' pz').1 (grG F S Q n ver' sta' pz').2 := by
  intro n
  have w := hf.2.2.2.1
  induction n with
  | zero => intro ver sta ver' sta' pz pz' h _; exact h
  | succ n ih =>
    intro ver sta ver' sta' pz pz' h hz
    unfold grG
    rw [grP_eq hf S Q h hz _ (by omega)]
    split
    · exact h
    · split
      · refine ih _ _ _ _ _ _ h (fun k a b => ?_)
        unfold setB
        rw [hz k a b]
      · exact ih _ _ _ _ _ _ (h.put _ _ _) hz
/-- the greedy plan -/
noncomputable def gre (F : Film) (S Q : Int → Int) : (Int → Int) × (Int → Int) := grG F S Q 22 (fun _ => -4) (fun _ => -4) (fun _ => false)
