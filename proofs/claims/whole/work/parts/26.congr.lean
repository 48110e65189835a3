/-! ===== films that agree where it counts give the same ===== -/
def SEq (T : Int) (S S' : Int → Int) : Prop := ∀ t, 0 ≤ t → t ≤ T → S t = S' t
def FEq (F G : Film) : Prop := F 0 0 0 = G 0 0 0 ∧ F 1 0 0 = G 1 0 0 ∧ F 2 0 0 = G 2 0 0 ∧ F 3 0 0 = G 3 0 0 ∧ (∀ w, 0 ≤ w → w < 4 → F 4 w 0 = G 4 w 0) ∧
  (∀ s, 0 ≤ s → s < F 2 0 0 → F 5 s 0 = G 5 s 0 ∧ F 6 s 0 = G 6 s 0 ∧ F 7 s 0 = G 7 s 0) ∧
  (∀ p, 0 ≤ p → p < F 3 0 0 → F 8 p 0 = G 8 p 0 ∧ F 9 p 0 = G 9 p 0 ∧ F 10 p 0 = G 10 p 0 ∧ F 11 p 0 = G 11 p 0 ∧ F 12 p 0 = G 12 p 0 ∧ ∀ v, 0 ≤ v → v < F 11 p 0 → F 13 p v = G 13 p v ∧ F 14 p v = G 14 p v)
theorem FEq.rf {F : Film} : FEq F F := ⟨rfl, rfl, rfl, rfl, fun _ _ _ => rfl, fun _ _ _ => ⟨rfl, rfl, rfl⟩, fun _ _ _ => ⟨rfl, rfl, rfl, rfl, rfl, fun _ _ _ => ⟨rfl, rfl⟩⟩⟩
theorem SEq.rf {T : Int} {S : Int → Int} : SEq T S S := fun _ _ _ => rfl
theorem FEq.wf {F G : Film} (h : FEq F G) (hf : WFf F) : WFf G := by
  obtain ⟨e0, e1, e2, e3, e4, e5, e6⟩ := h
  obtain ⟨h0, h1, h2, h3, h4, h5, h6⟩ := hf
  refine ⟨by rw [← e0]; exact h0, by rw [← e1]; exact h1, by rw [← e2]; exact h2, by rw [← e3]; exact h3, fun w a b => by rw [← e4 w a b]; exact h4 w a b, fun s a b => ?_, fun p a b => ?_⟩
  · rw [← e2] at b
    have q := e5 s a b
    have := h5 s a b
    unfold WFs at this ⊢
    rw [← q.1, ← q.2.1, ← q.2.2, ← e0]
    exact this
  · rw [← e3] at b
    have q := e6 p a b
    have := h6 p a b
    unfold WFp at this ⊢
    rw [← q.1, ← q.2.1, ← q.2.2.1, ← q.2.2.2.1, ← q.2.2.2.2.1, ← e0]
    refine ⟨this.1, this.2.1, this.2.2.1, this.2.2.2.1, this.2.2.2.2.1, fun v c d => ?_⟩
    have r := q.2.2.2.2.2 v c d
    rw [← r.1, ← r.2]
    exact this.2.2.2.2.2 v c d
section CG
variable {F G : Film} {S S' Q Q' : Int → Int}
theorem ownW_c (hf : WFf F) (hg : FEq F G) (hS : SEq (F 0 0 0) S S') {p v t : Int} (hp : 0 ≤ p) (hp2 : p < F 3 0 0) (hv : 0 ≤ v) (hv2 : v < F 11 p 0) (ht : 0 ≤ t) : ownW F S p v t = ownW G S' p v t := by
  have q := hg.2.2.2.2.2.2 p hp hp2
  have r := q.2.2.2.2.2 v hv hv2
  have w := wf_pv hf hp hp2 hv hv2
  unfold ownW
  rw [← hg.1, ← q.1, ← q.2.1, ← q.2.2.1, ← r.1]
  by_cases c : F 0 0 0 < t + F 13 p v
  · rw [if_pos c, if_pos c]
  · rw [if_neg c, if_neg c, hS t ht (by omega), hS (t + F 13 p v) (by omega) (by omega)]
theorem gainW_c (hf : WFf F) (hg : FEq F G) (hQ : SEq (F 0 0 0) Q Q') {p v t : Int} (hp : 0 ≤ p) (hp2 : p < F 3 0 0) (hv : 0 ≤ v) (hv2 : v < F 11 p 0) (ht : 0 ≤ t) (ht2 : t < F 0 0 0) : gainW F Q p v t = gainW G Q' p v t := by
  have q := hg.2.2.2.2.2.2 p hp hp2
  have r := q.2.2.2.2.2 v hv hv2
  have w := wf_pv hf hp hp2 hv hv2
  unfold gainW shiftW
  rw [← hg.1, ← q.1, ← r.1, ← r.2, ← hg.2.2.2.2.1 0 (by decide) (by decide), ← hg.2.2.2.2.1 1 (by decide) (by decide), hQ t ht (by omega), hQ (min (t + F 13 p v) (F 0 0 0)) (by omega) (by omega)]
variable {ver sta ver' sta' : Int → Int}
theorem C4_c (hf : WFf F) (hg : FEq F G) (hP : PlK F ver sta) (he : PlEq ver sta ver' sta') {p v t : Int} (hp : 0 ≤ p) (hp2 : p < F 3 0 0) (hv : 0 ≤ v) (hv2 : v < F 11 p 0) : C4 F ver sta p v t ↔ C4 G ver' sta' p v t := by
  have q := hg.2.2.2.2.2.2 p hp hp2
  have r := q.2.2.2.2.2 v hv hv2
  have n3 := hf.2.2.2.1
  constructor
  · rintro ⟨k, a, b, c, d, e, f⟩
    have ek := he k a (by omega)
    have pk := hP.at a (by omega) d
    have qk := (hg.2.2.2.2.2.2 k a b).2.2.2.2.2 (ver k) pk.2.1.1 pk.2.1.2
    refine ⟨k, a, by rw [← hg.2.2.2.1]; exact b, c, by rw [← ek.1]; exact d, ?_, ?_⟩
    · rw [← ek.2, ← r.1, ← hg.2.1]; exact e
    · rw [← ek.2, ← ek.1, ← qk.1, ← hg.2.1]; exact f
  · rintro ⟨k, a, b, c, d, e, f⟩
    rw [← hg.2.2.2.1] at b
    have ek := he k a (by omega)
    rw [← ek.1] at d
    have pk := hP.at a (by omega) d
    have qk := (hg.2.2.2.2.2.2 k a b).2.2.2.2.2 (ver k) pk.2.1.1 pk.2.1.2
    refine ⟨k, a, b, c, d, ?_, ?_⟩
    · rw [← ek.2, ← r.1, ← hg.2.1] at e; exact e
    · rw [← ek.2, ← ek.1, ← qk.1, ← hg.2.1] at f; exact f
theorem C6_c (hf : WFf F) (hg : FEq F G) (he : PlEq ver sta ver' sta') {p v t : Int} (hp : 0 ≤ p) (hp2 : p < F 3 0 0) (hv : 0 ≤ v) (hv2 : v < F 11 p 0) : C6 F ver sta p v t ↔ C6 G ver' sta' p v t := by
  have q := hg.2.2.2.2.2.2 p hp hp2
  have r := q.2.2.2.2.2 v hv hv2
  have n3 := hf.2.2.2.1
  constructor
  · rintro ⟨k, a, b, c, d, e⟩
    have ek := he k a (by omega)
    have qk := hg.2.2.2.2.2.2 k a b
    exact ⟨k, a, by rw [← hg.2.2.2.1]; exact b, by rw [← qk.2.2.2.2.1]; exact c, by rw [← ek.1]; exact d, by rw [← ek.2, ← r.1]; exact e⟩
  · rintro ⟨k, a, b, c, d, e⟩
    rw [← hg.2.2.2.1] at b
    have ek := he k a (by omega)
    have qk := hg.2.2.2.2.2.2 k a b
    exact ⟨k, a, b, by rw [qk.2.2.2.2.1]; exact c, by rw [ek.1]; exact d, by rw [ek.2, r.1]; exact e⟩
theorem C5_c (hf : WFf F) (hg : FEq F G) (hP : PlK F ver sta) (he : PlEq ver sta ver' sta') {p t : Int} (hp : 0 ≤ p) (hp2 : p < F 3 0 0) : C5 F ver sta p t ↔ C5 G ver' sta' p t := by
  have q := hg.2.2.2.2.2.2 p hp hp2
  have w := wf_p hf hp hp2
  unfold C5
  rw [← q.2.2.2.2.1]
  by_cases e : F 12 p 0 = -4
  · constructor
    · intro z; exact absurd e z.1
    · intro z; exact absurd e z.1
  · have ek := he (F 12 p 0) (by omega) (by omega)
    by_cases d : ver (F 12 p 0) = -4
    · have d' : ver' (F 12 p 0) = -4 := by rw [← ek.1]; exact d
      constructor
      · intro _; exact ⟨e, Or.inl d'⟩
      · intro _; exact ⟨e, Or.inl d⟩
    · have pk := hP.at (q := F 12 p 0) (by omega) (by omega) d
      have qk := (hg.2.2.2.2.2.2 (F 12 p 0) (by omega) pk.1).2.2.2.2.2 _ pk.2.1.1 pk.2.1.2
      rw [← ek.1, ← ek.2, ← qk.1]
theorem whyB_c (hf : WFf F) (hg : FEq F G) (hP : PlK F ver sta) (he : PlEq ver sta ver' sta') {p v t : Int} (hp : 0 ≤ p) (hp2 : p < F 3 0 0) (hv : 0 ≤ v) (hv2 : v < F 11 p 0) : whyB F ver sta p v t = whyB G ver' sta' p v t := by
  have c4 := C4_c (t := t) hf hg hP he hp hp2 hv hv2
  have c5 := C5_c (t := t) hf hg hP he hp hp2
  have c6 := C6_c (t := t) hf hg he hp hp2 hv hv2
  by_cases h4 : C4 F ver sta p v t
  · rw [whyB_4 h4, whyB_4 (c4.mp h4)]
  · have h4' := fun z => h4 (c4.mpr z)
    by_cases h5 : C5 F ver sta p t
    · rw [whyB_5 h4 h5, whyB_5 h4' (c5.mp h5)]
    · have h5' := fun z => h5 (c5.mpr z)
      by_cases h6 : C6 F ver sta p v t
      · rw [whyB_6 h4 h5 h6, whyB_6 h4' h5' (c6.mp h6)]
      · rw [whyB_0 h4 h5 h6, whyB_0 h4' h5' (fun z => h6 (c6.mpr z))]
theorem whyW_c (hf : WFf F) (hg : FEq F G) (hS : SEq (F 0 0 0) S S') (hP : PlK F ver sta) (he : PlEq ver sta ver' sta') {p v t : Int} (hp : 0 ≤ p) (hp2 : p < F 3 0 0) (hv : 0 ≤ v) (hv2 : v < F 11 p 0) (ht : 0 ≤ t) : whyW F S ver sta p v t = whyW G S' ver' sta' p v t := by
  unfold whyW
  rw [ownW_c hf hg hS hp hp2 hv hv2 ht, whyB_c hf hg hP he hp hp2 hv hv2]
theorem sumN_c {f g : Int → Int} : ∀ n : Nat, (∀ t : Int, 0 ≤ t → t < n → f t = g t) → sumN f n = sumN g n := by
  intro n
  induction n with
  | zero => intro _; rfl
  | succ n ih =>
    intro h
    show sumN f n + f n = sumN g n + g n
    rw [ih (fun t a b => h t a (by omega)), h n (by omega) (by omega)]
theorem opN_c (hf : WFf F) (hg : FEq F G) (hS : SEq (F 0 0 0) S S') {p v : Int} (hp : 0 ≤ p) (hp2 : p < F 3 0 0) (hv : 0 ≤ v) (hv2 : v < F 11 p 0) (n : Nat) : opN F S p v n = opN G S' p v n :=
  sumN_c n (fun t a _ => by rw [ownW_c hf hg hS hp hp2 hv hv2 a])
theorem ggN_c (hf : WFf F) (hg : FEq F G) (hS : SEq (F 0 0 0) S S') (hQ : SEq (F 0 0 0) Q Q') {p v : Int} (hp : 0 ≤ p) (hp2 : p < F 3 0 0) (hv : 0 ≤ v) (hv2 : v < F 11 p 0) : ∀ n : Nat, (n : Int) ≤ F 0 0 0 → ggN F S Q p v n = ggN G S' Q' p v n := by
  intro n
  induction n with
  | zero => intro _; rfl
  | succ n ih =>
    intro hn
    unfold ggN
    rw [ih (by omega), ownW_c hf hg hS hp hp2 hv hv2 (by omega), gainW_c hf hg hQ hp hp2 hv hv2 (by omega) (by omega)]
theorem szN_c (he : PlEq ver sta ver' sta') (n : Nat) (hn : n ≤ 7) : szN ver n = szN ver' n := sumN_c n (fun t a b => by rw [(he t a (by omega)).1])
theorem vaN_c (hf : WFf F) (hg : FEq F G) (hQ : SEq (F 0 0 0) Q Q') (hP : PlK F ver sta) (he : PlEq ver sta ver' sta') (n : Nat) (hn : (n : Int) ≤ F 3 0 0) : vaN F Q ver sta n = vaN G Q' ver' sta' n := by
  have n3 := hf.2.2.2.1
  refine sumN_c n (fun t a b => ?_)
  have ek := he t a (by omega)
  rw [← ek.1, ← ek.2]
  by_cases c : ver t = -4
  · rw [if_pos c, if_pos c]
  · have pk := hP.at a (by omega) c
    have w := wf_pv hf a pk.1 pk.2.1.1 pk.2.1.2
    rw [if_neg c, if_neg c, gainW_c hf hg hQ a pk.1 pk.2.1.1 pk.2.1.2 pk.2.2.1 (by omega)]
theorem tkN_c (hf : WFf F) (hg : FEq F G) (hP : PlK F ver sta) (he : PlEq ver sta ver' sta') (x y : Int) (n : Nat) (hn : (n : Int) ≤ F 3 0 0) : tkN F ver sta x y n = tkN G ver' sta' x y n := by
  have n3 := hf.2.2.2.1
  refine sumN_c n (fun t a b => ?_)
  have ek := he t a (by omega)
  rw [← ek.1, ← ek.2]
  by_cases c : ver t = -4
  · rw [if_pos c, if_pos c]
  · have pk := hP.at a (by omega) c
    have qk := (hg.2.2.2.2.2.2 t a pk.1).2.2.2.2.2 _ pk.2.1.1 pk.2.1.2
    rw [if_neg c, if_neg c, ← qk.1]
theorem lowF_c (hf : WFf F) (hg : FEq F G) (hS : SEq (F 0 0 0) S S') (hP : PlK F ver sta) (he : PlEq ver sta ver' sta') : ∀ (n : Nat) (p : Int), 0 ≤ p → p + n ≤ F 3 0 0 → lowF F S ver sta n p = lowF G S' ver' sta' n p := by
  have n3 := hf.2.2.2.1
  intro n
  induction n with
  | zero => intro p _ _; rfl
  | succ n ih =>
    intro p a b
    have ek := he p a (by omega)
    unfold lowF
    rw [ih (p + 1) (by omega) (by omega), ← ek.1, ← ek.2]
    by_cases c : ver p = -4
    · rw [if_neg (fun z => z.1 c), if_neg (fun z => z.1 c)]
    · have pk := hP.at a (by omega) c
      rw [whyW_c hf hg hS hP he a pk.1 pk.2.1.1 pk.2.1.2 pk.2.2.1]
theorem dfN_c (hf : WFf F) (hg : FEq F G) (hS : SEq (F 0 0 0) S S') : ∀ (n : Nat) (ver sta ver' sta' : Int → Int), PlK F ver sta → PlEq ver sta ver' sta' → PlEq (dfN F S n ver sta).1 (dfN F S n ver sta).2 (dfN G S' n ver' sta').1 (dfN G S' n ver' sta').2 ∧ PlK F (dfN F S n ver sta).1 (dfN F S n ver sta).2 := by
  have n3 := hf.2.2.2.1
  intro n
  induction n with
  | zero => intro ver sta ver' sta' hP he; exact ⟨he, hP⟩
  | succ n ih =>
    intro ver sta ver' sta' hP he
    have hl := lowF_c hf hg hS hP he (F 3 0 0).toNat 0 (by omega) (by omega)
    unfold dfN
    rw [← hg.2.2.2.1, ← hl]
    split
    · exact ⟨he, hP⟩
    · refine ih _ _ _ _ (PlK_off hP _) (fun q a b => ?_)
      have ek := he q a b
      unfold offP
      rw [ek.1, ek.2]
      exact ⟨rfl, rfl⟩
theorem mkN_c (hg : FEq F G) (t : Int) : ∀ n : Nat, (n : Int) ≤ F 2 0 0 → mkN F t n = mkN G t n := by
  intro n
  induction n with
  | zero => intro _; rfl
  | succ n ih =>
    intro hn
    have q := hg.2.2.2.2.2.1 n (by omega) (by omega)
    unfold mkN
    rw [ih (by omega), q.1, q.2.1, q.2.2]
theorem mkF_c (hf : WFf F) (hg : FEq F G) (t : Int) : mkF F t = mkF G t := by
  have := hf.2.2.1
  unfold mkF
  rw [← hg.2.2.1]
  exact mkN_c hg t _ (by omega)
theorem spb_c (hf : WFf F) (hg : FEq F G) (t : Int) : spb F t = spb G t := sumN_c _ (fun u _ _ => by unfold spc; rw [mkF_c hf hg])
theorem csb_c (hf : WFf F) (hg : FEq F G) (t : Int) : csb F t = csb G t := sumN_c _ (fun u _ _ => by unfold cst; rw [mkF_c hf hg, hg.2.2.2.2.1 2 (by decide) (by decide), hg.2.2.2.2.1 3 (by decide) (by decide)])
/-- the table -/
theorem bV_c (hf : WFf F) (hg : FEq F G) (hS : SEq (F 0 0 0) S S') (hQ : SEq (F 0 0 0) Q Q') {B : Int} (hB : 0 ≤ B) {f f' : Int → Int → Int} {t set p : Int} (hp : 0 ≤ p) (hp2 : p < F 3 0 0) (ht : 0 ≤ t) (ht2 : t < F 0 0 0) (hff : ∀ u s, t < u → u ≤ F 0 0 0 → f u s = f' u s) : ∀ (k : Nat) (b : Int), (k : Int) ≤ F 11 p 0 → bV F S Q B f t set p k b = bV G S' Q' B f' t set p k b := by
  have q := hg.2.2.2.2.2.2 p hp hp2
  intro k
  induction k with
  | zero => intro b _; rfl
  | succ k ih =>
    intro b hk
    have w := wf_pv hf hp hp2 (v := k) (by omega) (by omega)
    have r := q.2.2.2.2.2 k (by omega) (by omega)
    unfold bV begOk begW
    rw [ih b (by omega), ownW_c hf hg hS hp hp2 (by omega) (by omega) ht, gainW_c hf hg hQ hp hp2 (by omega) (by omega) ht ht2, ← r.1, ← hg.1, ← q.2.2.2.2.1, hff _ _ (by omega) (by omega)]
theorem bP_c (hf : WFf F) (hg : FEq F G) (hS : SEq (F 0 0 0) S S') (hQ : SEq (F 0 0 0) Q Q') {B : Int} (hB : 0 ≤ B) {f f' : Int → Int → Int} {t set may may' : Int} (hm : ∀ k, 0 ≤ k → k < F 3 0 0 → bit may k = bit may' k) (ht : 0 ≤ t) (ht2 : t < F 0 0 0) (hff : ∀ u s, t < u → u ≤ F 0 0 0 → f u s = f' u s) : ∀ (n : Nat), (n : Int) ≤ F 3 0 0 → bP F S Q B f t set may n = bP G S' Q' B f' t set may' n := by
  intro n
  induction n with
  | zero => intro _; exact hff (t + 1) set (by omega) (by omega)
  | succ n ih =>
    intro hn
    have q := hg.2.2.2.2.2.2 n (by omega) (by omega)
    have w := wf_p hf (p := n) (by omega) (by omega)
    unfold bP
    rw [ih (by omega), hm n (by omega) (by omega), ← q.2.2.2.1, bV_c hf hg hS hQ hB (by omega) (by omega) ht ht2 hff _ _ (by omega)]
theorem tab_c (hf : WFf F) (hg : FEq F G) (hS : SEq (F 0 0 0) S S') (hQ : SEq (F 0 0 0) Q Q') {B : Int} (hB : 0 ≤ B) {may may' : Int} (hm : ∀ k, 0 ≤ k → k < F 3 0 0 → bit may k = bit may' k) : ∀ (n : Nat) (t set : Int), (n : Int) ≤ F 0 0 0 → F 0 0 0 - n ≤ t → t ≤ F 0 0 0 → tabR F S Q B may n t set = tabR G S' Q' B may' n t set := by
  have n3 := hf.2.2.2.1
  intro n
  induction n with
  | zero => intro t set _ _ _; rfl
  | succ n ih =>
    intro t set hn h1 h2
    show (if t = F 0 0 0 - (n + 1) then _ else _) = (if t = G 0 0 0 - (n + 1) then _ else _)
    rw [← hg.1, ← hg.2.2.2.1]
    by_cases e : t = F 0 0 0 - (n + 1)
    · rw [if_pos e, if_pos e]
      exact bP_c hf hg hS hQ hB hm (by omega) (by omega) (fun u s a b => ih u s (by omega) (by omega) b) _ (by omega)
    · rw [if_neg e, if_neg e]
      exact ih t set (by omega) (by omega) h2
theorem fiV_c (hf : WFf F) (hg : FEq F G) (hS : SEq (F 0 0 0) S S') (hQ : SEq (F 0 0 0) Q Q') {B : Int} (hB : 0 ≤ B) {f f' : Int → Int → Int} (hff : ∀ u s, 0 ≤ u → u ≤ F 0 0 0 → f u s = f' u s) {t set p : Int} (hp : 0 ≤ p) (hp2 : p < F 3 0 0) (ht : 0 ≤ t) (ht2 : t < F 0 0 0) : ∀ (n : Nat) (v : Int), 0 ≤ v → v + n ≤ F 11 p 0 → fiV F S Q B f t set p n v = fiV G S' Q' B f' t set p n v := by
  have q := hg.2.2.2.2.2.2 p hp hp2
  intro n
  induction n with
  | zero => intro v _ _; rfl
  | succ n ih =>
    intro v v0 v1
    have w := wf_pv hf hp hp2 v0 (by omega)
    have r := q.2.2.2.2.2 v v0 (by omega)
    unfold fiV begOk begW
    rw [ih (v + 1) (by omega) (by omega), ownW_c hf hg hS hp hp2 v0 (by omega) ht, gainW_c hf hg hQ hp hp2 v0 (by omega) ht ht2, ← r.1, ← hg.1, ← q.2.2.2.2.1, hff _ _ (by omega) (by omega), hff t set ht (by omega)]
theorem fiP_c (hf : WFf F) (hg : FEq F G) (hS : SEq (F 0 0 0) S S') (hQ : SEq (F 0 0 0) Q Q') {B : Int} (hB : 0 ≤ B) {f f' : Int → Int → Int} (hff : ∀ u s, 0 ≤ u → u ≤ F 0 0 0 → f u s = f' u s) {t set : Int} (ht : 0 ≤ t) (ht2 : t < F 0 0 0) : ∀ (n : Nat) (p : Int), 0 ≤ p → p + n ≤ F 3 0 0 → fiP F S Q B f t set n p = fiP G S' Q' B f' t set n p := by
  intro n
  induction n with
  | zero => intro p _ _; rfl
  | succ n ih =>
    intro p p0 p1
    have q := hg.2.2.2.2.2.2 p p0 (by omega)
    have w := wf_p hf p0 (by omega)
    unfold fiP
    rw [ih (p + 1) (by omega) (by omega), ← q.2.2.2.1, fiV_c hf hg hS hQ hB hff p0 (by omega) ht ht2 _ 0 (by omega) (by omega)]
theorem trC_c (hf : WFf F) (hg : FEq F G) (hS : SEq (F 0 0 0) S S') (hQ : SEq (F 0 0 0) Q Q') {B : Int} (hB : 0 ≤ B) {f f' : Int → Int → Int} (hff : ∀ u s, 0 ≤ u → u ≤ F 0 0 0 → f u s = f' u s) : ∀ (n : Nat) (t free set : Int) (ver sta : Int → Int), 0 ≤ t → t + n ≤ F 0 0 0 → trC F S Q B f n t free set ver sta = trC G S' Q' B f' n t free set ver sta := by
  have n3 := hf.2.2.2.1
  intro n
  induction n with
  | zero => intro t free set ver sta _ _; rfl
  | succ n ih =>
    intro t free set ver sta t0 t1
    have hfi := fiP_c hf hg hS hQ hB hff (t := t) (set := set) t0 (by omega) (F 3 0 0).toNat 0 (by omega) (by omega)
    have sp := fiP_spec hf (S := S) (Q := Q) (B := B) (f := f) (t := t) (set := set) (F 3 0 0).toNat 0 (by omega) (by omega)
    unfold trC
    rw [← hg.2.2.2.1, ← hfi]
    by_cases c : t < free
    · rw [if_pos c, if_pos c]
      exact ih _ _ _ _ _ (by omega) (by omega)
    · rw [if_neg c, if_neg c]
      by_cases d : fiP F S Q B f t set (F 3 0 0).toNat 0 < 0
      · rw [if_pos d, if_pos d]
        exact ih _ _ _ _ _ (by omega) (by omega)
      · rw [if_neg d, if_neg d]
        rcases sp with z | ⟨q, k, z1, z2, z3, z4, z5, -⟩
        · omega
        · have w := wf_p hf z1 z2
          have r := (hg.2.2.2.2.2.2 q z1 z2).2.2.2.2.2 k z3 z4
          rw [z5]
          have d1 : (3 * q + k) / 3 = q := by omega
          have d2 : (3 * q + k) % 3 = k := by omega
          rw [d1, d2, ← hg.1, ← r.1]
          exact ih _ _ _ _ _ (by omega) (by omega)
theorem bstP_c (hf : WFf F) (hg : FEq F G) (hS : SEq (F 0 0 0) S S') (hQ : SEq (F 0 0 0) Q Q') {B : Int} (hB : 0 ≤ B) : bstP F S Q B = bstP G S' Q' B := by
  have h0 := hf.1
  unfold bstP
  rw [← hg.1, ← hg.2.2.2.1]
  exact trC_c hf hg hS hQ hB (fun u s a b => tab_c hf hg hS hQ hB (fun _ _ _ => rfl) _ u s (by omega) (by omega) b) _ _ _ _ _ _ (by omega) (by omega)
/-- greedy -/
theorem grT_c (hf : WFf F) (hg : FEq F G) (hS : SEq (F 0 0 0) S S') (hQ : SEq (F 0 0 0) Q Q') (hP : PlK F ver sta) (he : PlEq ver sta ver' sta') {p v : Int} (hp : 0 ≤ p) (hp2 : p < F 3 0 0) (hv : 0 ≤ v) (hv2 : v < F 11 p 0) : ∀ (n : Nat) (s : gSt), (n : Int) ≤ F 0 0 0 → grT F S Q ver sta p v n s = grT G S' Q' ver' sta' p v n s := by
  have r := (hg.2.2.2.2.2.2 p hp hp2).2.2.2.2.2 v hv hv2
  intro n
  induction n with
  | zero => intro s _; rfl
  | succ n ih =>
    intro s hn
    show grO F S Q ver sta p v n _ = grO G S' Q' ver' sta' p v n _
    unfold grO offS
    rw [ih s (by omega), whyW_c hf hg hS hP he hp hp2 hv hv2 (by omega), gainW_c hf hg hQ hp hp2 hv hv2 (by omega) (by omega), ← r.2]
theorem grV_c (hf : WFf F) (hg : FEq F G) (hS : SEq (F 0 0 0) S S') (hQ : SEq (F 0 0 0) Q Q') (hP : PlK F ver sta) (he : PlEq ver sta ver' sta') {pz pz' : Int → Bool} (hz : ∀ k, 0 ≤ k → k < 21 → pz k = pz' k) {p : Int} (hp : 0 ≤ p) (hp2 : p < F 3 0 0) : ∀ (n : Nat) (s : gSt), (n : Int) ≤ F 11 p 0 → grV F S Q ver sta pz p n s = grV G S' Q' ver' sta' pz' p n s := by
  have w := wf_p hf hp hp2
  intro n
  induction n with
  | zero => intro s _; rfl
  | succ n ih =>
    intro s hn
    unfold grV
    rw [ih s (by omega), hz (p * 3 + n) (by omega) (by omega), ← hg.1, grT_c hf hg hS hQ hP he hp hp2 (by omega) (by omega) _ _ (by omega)]
theorem grP_c (hf : WFf F) (hg : FEq F G) (hS : SEq (F 0 0 0) S S') (hQ : SEq (F 0 0 0) Q Q') (hP : PlK F ver sta) (he : PlEq ver sta ver' sta') {pz pz' : Int → Bool} (hz : ∀ k, 0 ≤ k → k < 21 → pz k = pz' k) : ∀ (n : Nat), (n : Int) ≤ F 3 0 0 → grP F S Q ver sta pz n = grP G S' Q' ver' sta' pz' n := by
  have n3 := hf.2.2.2.1
  intro n
  induction n with
  | zero => intro _; rfl
  | succ n ih =>
    intro hn
    have q := hg.2.2.2.2.2.2 n (by omega) (by omega)
    have w := wf_p hf (p := n) (by omega) (by omega)
    unfold grP
    rw [ih (by omega), (he n (by omega) (by omega)).1, ← q.2.2.2.1, grV_c hf hg hS hQ hP he hz (by omega) (by omega) _ _ (by omega)]
theorem grG_c (hf : WFf F) (hg : FEq F G) (hS : SEq (F 0 0 0) S S') (hQ : SEq (F 0 0 0) Q Q') : ∀ (n : Nat) (ver sta ver' sta' : Int → Int) (pz pz' : Int → Bool), PlK F ver sta → PlEq ver sta ver' sta' → (∀ k, 0 ≤ k → k < 21 → pz k = pz' k) →
    PlEq (grG F S Q n ver sta pz).1 (grG F S Q n ver sta pz).2 (grG G S' Q' n ver' sta' pz').1 (grG G S' Q' n ver' sta' pz').2 ∧ PlK F (grG F S Q n ver sta pz).1 (grG F S Q n ver sta pz).2 := by
  have n3 := hf.2.2.2.1
  intro n
  induction n with
  | zero => intro ver sta ver' sta' pz pz' hP he _; exact ⟨he, hP⟩
  | succ n ih =>
    intro ver sta ver' sta' pz pz' hP he hz
    have ok := grP_ok hf (S := S) (Q := Q) (ver := ver) (sta := sta) (pz := pz) (F 3 0 0).toNat (by omega)
    unfold grG
    rw [← hg.2.2.2.1, ← grP_c hf hg hS hQ hP he hz _ (by omega)]
    split
    · exact ⟨he, hP⟩
    · rename_i c
      split
      · refine ih _ _ _ _ _ _ hP he (fun k a b => ?_)
        unfold setB
        rw [hz k a b]
      · rcases ok with z | ⟨o1, o2, o3, o4, o5, o6, -⟩
        · exact absurd (by rw [z]) c
        · exact ih _ _ _ _ _ _ (PlK_put hP o1.2 o3 o5.1 (own_end (why_own o6)).1) (he.put _ _ _) hz
theorem gre_c (hf : WFf F) (hg : FEq F G) (hS : SEq (F 0 0 0) S S') (hQ : SEq (F 0 0 0) Q Q') : PlEq (gre F S Q).1 (gre F S Q).2 (gre G S' Q').1 (gre G S' Q').2 ∧ PlK F (gre F S Q).1 (gre F S Q).2 :=
  grG_c hf hg hS hQ 22 _ _ _ _ _ _ (fun q _ _ => Or.inl ⟨rfl, rfl⟩) PlEq.rf (fun _ _ _ => rfl)
end CG
