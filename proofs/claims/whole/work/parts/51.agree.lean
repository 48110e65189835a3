/-! ===== what holds between class and Model; each call keeps it, and the answers are the same ===== -/
theorem FEq.sy {F G : Film} (h : FEq F G) : FEq G F := by
  obtain ⟨e0, e1, e2, e3, e4, e5, e6⟩ := h
  refine ⟨e0.symm, e1.symm, e2.symm, e3.symm, fun w a b => (e4 w a b).symm, fun s a b => ?_, fun p a b => ?_⟩
  · have q := e5 s a (by rw [e2]; exact b)
    exact ⟨q.1.symm, q.2.1.symm, q.2.2.symm⟩
  · have q := e6 p a (by rw [e3]; exact b)
    refine ⟨q.1.symm, q.2.1.symm, q.2.2.1.symm, q.2.2.2.1.symm, q.2.2.2.2.1.symm, fun v c d => ?_⟩
    have r := q.2.2.2.2.2 v c (by rw [q.2.2.2.1]; exact d)
    exact ⟨r.1.symm, r.2.symm⟩
section AG
variable {F G : Film} {ver sta ver' sta' : Int → Int}
theorem FEq_R (h : FEq F G) (w r : Int) : FEq (sFR F w r) (sFR G w r) := by
  obtain ⟨e0, e1, e2, e3, e4, e5, e6⟩ := h
  refine ⟨by simpa [sFR] using e0, by simpa [sFR] using e1, by simpa [sFR] using e2, by simpa [sFR] using e3, fun u a b => ?_, fun s a b => by simpa [sFR] using e5 s a (by simpa [sFR] using b), fun p a b => by simpa [sFR] using e6 p a (by simpa [sFR] using b)⟩
  by_cases c : u = w
  · simp [sFR, c]
  · simp [sFR, c, e4 u a b]
theorem FEq_V (h : FEq F G) {p : Int} (l w : Int) (hp : 0 ≤ p) (hp2 : p < F 3 0 0) : FEq (sFV F p l w) (sFV G p l w) := by
  obtain ⟨e0, e1, e2, e3, e4, e5, e6⟩ := h
  have e11 := (e6 p hp hp2).2.2.2.1
  refine ⟨by simpa [sFV] using e0, by simpa [sFV] using e1, by simpa [sFV] using e2, by simpa [sFV] using e3, fun u a b => by simpa [sFV] using e4 u a b, fun s a b => by simpa [sFV] using e5 s a (by simpa [sFV] using b), fun q a b => ?_⟩
  have b' : q < F 3 0 0 := by simpa [sFV] using b
  have k := e6 q a b'
  by_cases c : q = p
  · subst c
    have n11 : sFV F q l w 11 q 0 = F 11 q 0 + 1 := by simp [sFV]
    refine ⟨by simpa [sFV] using k.1, by simpa [sFV] using k.2.1, by simpa [sFV] using k.2.2.1, by simp [sFV, e11], by simpa [sFV] using k.2.2.2.2.1, fun v c d => ?_⟩
    rw [n11] at d
    by_cases cv : v = F 11 q 0
    · have cv' : v = G 11 q 0 := by rw [← e11]; exact cv
      constructor
      · show (if (13 : Nat) = 13 ∧ q = q ∧ v = F 11 q 0 then l else _) = (if (13 : Nat) = 13 ∧ q = q ∧ v = G 11 q 0 then l else _)
        rw [if_pos ⟨rfl, rfl, cv⟩, if_pos ⟨rfl, rfl, cv'⟩]
      · simp [sFV, ← cv, ← cv']
    · have cv' : ¬ v = G 11 q 0 := by rw [← e11]; exact cv
      have r := k.2.2.2.2.2 v c (by omega)
      simp [sFV, cv, cv', r.1, r.2]
  · have n11 : sFV F p l w 11 q 0 = F 11 q 0 := by simp [sFV, c]
    refine ⟨by simpa [sFV, c] using k.1, by simpa [sFV, c] using k.2.1, by simpa [sFV, c] using k.2.2.1, by simpa [sFV, c] using k.2.2.2.1, by simpa [sFV, c] using k.2.2.2.2.1, fun v d f => ?_⟩
    rw [n11] at f
    have r := k.2.2.2.2.2 v d f
    simp [sFV, c, r.1, r.2]
theorem FEq_D (h : FEq F G) {s : Int} (hs : 0 ≤ s) : FEq (dpF F s) (dpF G s) := by
  obtain ⟨e0, e1, e2, e3, e4, e5, e6⟩ := h
  refine ⟨by simpa [dpF] using e0, by simpa [dpF] using e1, by simp [dpF, e2], by simpa [dpF] using e3, fun u a b => by simpa [dpF] using e4 u a b, fun u a b => ?_, fun p a b => by simpa [dpF] using e6 p a (by simpa [dpF] using b)⟩
  have b' : u < F 2 0 0 - 1 := by simpa [dpF] using b
  have b2 : u < G 2 0 0 - 1 := by rw [← e2]; exact b'
  by_cases c : s ≤ u
  · have q := e5 (u + 1) (by omega) (by omega)
    simp [dpF, c, b', b2]
    exact q
  · have q := e5 u a (by omega)
    simp [dpF, c]
    exact q
theorem FEq_sh (h : FEq F G) {s n : Int} (hs : 0 ≤ s) : FEq (shF F s n) (shF G s n) := by
  obtain ⟨e0, e1, e2, e3, e4, e5, e6⟩ := h
  refine ⟨by simpa [shF] using e0, by simpa [shF] using e1, by simpa [shF] using e2, by simpa [shF] using e3, fun u a b => by simpa [shF] using e4 u a b, fun u a b => ?_, fun p a b => by simpa [shF] using e6 p a (by simpa [shF] using b)⟩
  have q := e5 u a (by simpa [shF] using b)
  by_cases c : u = s
  · subst c
    simp [shF, hs, q.1, q.2.1, q.2.2]
  · simp [shF, c]
    exact q
theorem hasV_c (hg : FEq F G) {p v : Int} : hasV F p v ↔ hasV G p v := by
  have e3 := hg.2.2.2.1
  by_cases hp : 0 ≤ p ∧ p < F 3 0 0
  · have e11 := (hg.2.2.2.2.2.2 p hp.1 hp.2).2.2.2.1
    constructor <;> intro h <;> omega
  · constructor <;> intro h <;> omega
theorem tellK_c (hg : FEq F G) {p v t : Int} : tellK F p v t ↔ tellK G p v t := by
  have e := hasV_c hg (p := p) (v := v)
  have e0 := hg.1
  constructor
  · intro h
    exact ⟨e.mp h.1, h.2.1, by rw [← e0]; exact h.2.2⟩
  · intro h
    exact ⟨e.mpr h.1, h.2.1, by rw [e0]; exact h.2.2⟩
theorem n3 (hf : WFf F) : ((F 3 0 0).toNat : Int) ≤ F 3 0 0 := by
  have := hf.2.2.2.1
  omega
theorem n0 (hf : WFf F) : ((F 0 0 0).toNat : Int) ≤ F 0 0 0 := by
  have := hf.1
  omega
theorem whyW_e (hf : WFf F) (hg : FEq F G) (hP : PlK F ver sta) (he : PlEq ver sta ver' sta') {p v t : Int} (c : tellK F p v t) : whyW F (spb F) ver sta p v t = whyW G (spb G) ver' sta' p v t :=
  whyW_c hf hg (fun t _ _ => spb_c hf hg t) hP he c.1.1.1 c.1.1.2 c.1.2.1 c.1.2.2 c.2.1
theorem whyA_c (hf : WFf F) (hg : FEq F G) (hP : PlK F ver sta) (he : PlEq ver sta ver' sta') (p v t : Int) : whyA F ver sta p v t = whyA G ver' sta' p v t := by
  unfold whyA
  by_cases c : tellK F p v t
  · rw [if_pos c, if_pos ((tellK_c hg).mp c)]
    exact whyW_e hf hg hP he c
  · rw [if_neg c, if_neg (fun z => c ((tellK_c hg).mpr z))]
theorem gainA_c (hf : WFf F) (hg : FEq F G) (p v t : Int) : gainA F p v t = gainA G p v t := by
  unfold gainA
  by_cases c : tellK F p v t
  · have r := ((hg.2.2.2.2.2.2 p c.1.1.1 c.1.1.2).2.2.2.2.2 v c.1.2.1 c.1.2.2).1
    by_cases d : t + F 13 p v ≤ F 0 0 0
    · rw [if_pos ⟨c, d⟩, if_pos ⟨(tellK_c hg).mp c, by rw [← r, ← hg.1]; exact d⟩, gainW_c hf hg (fun t _ _ => csb_c hf hg t) c.1.1.1 c.1.1.2 c.1.2.1 c.1.2.2 c.2.1 c.2.2]
    · rw [if_neg (fun z => d z.2), if_neg (fun z => d (by rw [r, hg.1]; exact z.2))]
  · rw [if_neg (fun z => c z.1), if_neg (fun z => c ((tellK_c hg).mpr z.1))]
theorem valA_c (hf : WFf F) (hg : FEq F G) (hP : PlK F ver sta) (he : PlEq ver sta ver' sta') : valA F ver sta = valA G ver' sta' := by
  unfold valA
  rw [vaN_c hf hg (fun t _ _ => csb_c hf hg t) hP he _ (n3 hf), hg.2.2.2.1]
theorem picA_c (hf : WFf F) (hg : FEq F G) (he : PlEq ver sta ver' sta') (p w : Int) : picA F ver sta p w = picA G ver' sta' p w := by
  unfold picA
  by_cases c : 0 ≤ p ∧ p < F 3 0 0
  · have q := hg.2.2.2.2.2.2 p c.1 c.2
    have z := he p c.1 (by have := hf.2.2.2.1; omega)
    have nc : ¬ ¬ (0 ≤ p ∧ p < F 3 0 0) := fun z => z c
    rw [← hg.2.2.2.1, if_neg nc, if_neg nc, q.1, q.2.1, q.2.2.1, q.2.2.2.1, q.2.2.2.2.1, z.1, z.2]
  · rw [← hg.2.2.2.1, if_pos c, if_pos c]
theorem tldA_c (hf : WFf F) (hg : FEq F G) (hP : PlK F ver sta) (he : PlEq ver sta ver' sta') (p v w : Int) : tldA F ver sta p v w = tldA G ver' sta' p v w := by
  unfold tldA
  by_cases c : hasV F p v
  · have r := (hg.2.2.2.2.2.2 p c.1.1 c.1.2).2.2.2.2.2 v c.2.1 c.2.2
    have hS : SEq (F 0 0 0) (spb F) (spb G) := fun t _ _ => spb_c hf hg t
    have hQ : SEq (F 0 0 0) (csb F) (csb G) := fun t _ _ => csb_c hf hg t
    have nc : ¬ ¬ hasV F p v := fun z => z c
    have nc2 : ¬ ¬ hasV G p v := fun z => z ((hasV_c hg).mp c)
    rw [if_neg nc, if_neg nc2, r.1, r.2, onN_c hf hg hS hP he c.1.1 c.1.2 c.2.1 c.2.2, opN_c hf hg hS c.1.1 c.1.2 c.2.1 c.2.2, ggN_c hf hg hS hQ c.1.1 c.1.2 c.2.1 c.2.2 _ (n0 hf), hg.1]
  · rw [if_pos c, if_pos (fun z => c ((hasV_c hg).mpr z))]
theorem tckA_c (hf : WFf F) (hg : FEq F G) (hP : PlK F ver sta) (he : PlEq ver sta ver' sta') (t : Int) : tckA F ver sta t = tckA G ver' sta' t := by
  unfold tckA
  rw [mkF_c hf hg t, tkN_c hf hg hP he t (t + 1) _ (n3 hf), hg.1, hg.2.2.2.1]
theorem silA_c (hf : WFf F) (hg : FEq F G) (hP : PlK F ver sta) (he : PlEq ver sta ver' sta') (i w : Int) : silA F ver sta i w = silA G ver' sta' i w := by
  unfold silA
  rw [show mkF F = mkF G from funext (mkF_c hf hg), tkN_c hf hg hP he _ _ _ (n3 hf), hg.1, hg.2.2.2.1]
theorem grdA_c (hf : WFf F) (hg : FEq F G) : grdA F = grdA G := by
  have k := gr0_c hf hg
  unfold grdA
  rw [vaN_c hf hg (fun t _ _ => csb_c hf hg t) k.2 k.1 _ (n3 hf), hg.2.2.2.1]
theorem n7 (hf : WFf F) : (F 3 0 0).toNat ≤ 7 := by
  have := hf.2.2.2.1
  omega
theorem cntA_c (hf : WFf F) (hg : FEq F G) (hP : PlK F ver sta) (he : PlEq ver sta ver' sta') {L L' : Int} (hL : L = L') (w : Int) : cntA F L ver sta w = cntA G L' ver' sta' w := by
  unfold cntA
  subst hL
  rw [szN_c he _ (n7 hf), bP0_c hf hg, spb_c hf hg, tkN_c hf hg hP he _ _ _ (n3 hf), hg.1, hg.2.1, hg.2.2.1, hg.2.2.2.1]
  by_cases c : 9 ≤ w ∧ w ≤ 12
  · rw [hg.2.2.2.2.1 (w - 9) (by omega) (by omega)]
  · rw [if_neg c, if_neg c]
theorem dgc_x {X Y : Int → Int} {L : Int} (h : ∀ p, 0 ≤ p → p < L → X p = Y p) : ∀ (m : Nat) (p : Int), 0 ≤ p → dgc X L m p = dgc Y L m p := by
  intro m
  induction m with
  | zero => intro p _; rfl
  | succ m ih =>
    intro p hp
    have e : isF X L p ↔ isF Y L p := by
      by_cases c : p < L
      · have := h p hp c
        constructor <;> intro z <;> omega
      · constructor <;> intro z <;> omega
    unfold dgc
    by_cases c : isF X L p
    · rw [if_pos c, if_pos (e.mp c), ih (p + 1) (by omega)]
    · rw [if_neg c, if_neg (fun z => c (e.mpr z))]
theorem dgv_x {X Y : Int → Int} {L : Int} (h : ∀ p, 0 ≤ p → p < L → X p = Y p) : ∀ (m : Nat) (p acc : Int), 0 ≤ p → dgv X L m p acc = dgv Y L m p acc := by
  intro m
  induction m with
  | zero => intro p acc _; rfl
  | succ m ih =>
    intro p acc hp
    have e : isF X L p ↔ isF Y L p := by
      by_cases c : p < L
      · have := h p hp c
        constructor <;> intro z <;> omega
      · constructor <;> intro z <;> omega
    unfold dgv
    by_cases c : isF X L p
    · rw [if_pos c, if_pos (e.mp c), ih (p + 1) _ (by omega), h p hp c.1]
    · rw [if_neg c, if_neg (fun z => c (e.mpr z))]
theorem tks_x {X Y : Int → Int} {L : Int} (h : ∀ p, 0 ≤ p → p < L → X p = Y p) : ∀ (n : Nat) (p : Int), 0 ≤ p → tks X L n p = tks Y L n p := by
  intro n
  induction n with
  | zero => intro p _; rfl
  | succ n ih =>
    intro p hp
    have hr := dgc_rng Y L 3 p
    unfold tks
    rw [dgc_x h 3 p hp, dgv_x h 3 p 0 hp]
    by_cases c : dgc Y L 3 p = 0 ∨ L ≤ p + dgc Y L 3 p
    · rw [if_pos c, if_pos c]
    · rw [if_neg c, if_neg c, h (p + dgc Y L 3 p) (by omega) (by omega), ih (p + dgc Y L 3 p + 1) (by omega)]
theorem psr_x {X Y : Int → Int} {L : Int} (h : ∀ p, 0 ≤ p → p < L → X p = Y p) : ∀ (n : Nat) (p : Int) (F : Film), 0 ≤ p → psr X L n p F = psr Y L n p F := by
  intro n
  induction n with
  | zero => intro p F _; rfl
  | succ n ih =>
    intro p F hp
    unfold psr
    by_cases c : L ≤ p
    · rw [if_pos c, if_pos c]
    · rw [if_neg c, if_neg c, tks_x h 9 (p + 1) (by omega), h p hp (by omega)]
      cases ht : tks Y L 9 (p + 1) with
      | none => rfl
      | some q =>
        have hl := tks_len 9 (p + 1) q.1 q.2 ht
        dsimp only
        cases hi : itS F (Y p) q.1 with
        | none => rfl
        | some F' => exact ih q.2 F' (by omega)
theorem psrV_x {X Y : Int → Int} {L L' : Int} (e : L = L') (h : ∀ p, 0 ≤ p → p < L → X p = Y p) : psrV X L = psrV Y L' := by
  subst e
  exact psr_x h _ _ _ (by decide)
theorem sndP_c (hf : WFf F) (hg : FEq F G) (hP : PlK F ver sta) (he : PlEq ver sta ver' sta') {k x y : Int} (c : sndK F k x y) (hn : F 2 0 0 < 12) : PlEq (sndP F k x y ver sta).1 (sndP F k x y ver sta).2 (sndP G k x y ver' sta').1 (sndP G k x y ver' sta').2 := by
  have hw : WFf (sFS F k x y) := wf_S hf (by omega) (by omega) (by omega) (by omega) hn
  have hs := FEq_S hg k x y
  have hk : PlK (sFS F k x y) ver sta := PlK_mono (F := F) (by simp [sFS]) (by simp [sFS]) (fun p _ _ => ⟨by simp [sFS], fun v _ _ => by simp [sFS]⟩) hP
  exact (dfN_c hw hs (fun t _ _ => spb_c hw hs t) 7 ver sta ver' sta' hk he).1
end AG
def Rel (Mc Mm : Mem) : Prop := InvC Mc ∧ InvM Mm ∧ Mc 0 0 1 = Mm 30 0 0 ∧ (∀ p, 0 ≤ p → p < Mc 0 0 1 → Mc 1 0 p = Mm 31 0 p) ∧ FEq (cFilm Mc 1) (mFilm Mm) ∧ PlEq (Mc 19 0) (Mc 20 0) (Mm 45 0) (Mm 46 0)
theorem rIi {F : Int → Mem → Prop} {x : Int} {M : Mem} (h : F x M) : rI F (some x) M := h
theorem Ch.rf {M : Mem} : Ch M M (cFilm M 1) (M 19 0) (M 20 0) := ⟨rfl, rfl, fun _ _ => rfl, FEq.rf, PlEq.rf⟩
theorem ChM.rf {M : Mem} : ChM M M (mFilm M) (M 45 0) (M 46 0) := ⟨fun _ _ => rfl, rfl, rfl, FEq.rf, PlEq.rf⟩
theorem Rel.ch {Mc Mm Mc' Mm' : Mem} {Fc Fm : Film} {v s v' s' : Int → Int} (h : Rel Mc Mm) (hI : InvC Mc') (hc : Ch Mc Mc' Fc v s) (hM : InvM Mm') (hm : ChM Mm Mm' Fm v' s') (hF : FEq Fc Fm) (hp : PlEq v s v' s') : Rel Mc' Mm' := by
  obtain ⟨-, -, e0, e1, -, -⟩ := h
  obtain ⟨c1, c2, -, c4, c5⟩ := hc
  obtain ⟨-, m1, m2, m4, m5⟩ := hm
  exact ⟨hI, hM, by rw [c1, m1]; exact e0, by rw [c1, c2, m2]; exact e1, c4.sy.tr (hF.tr m4), c5.sy.tr (hp.tr m5)⟩
theorem Rel.c {Mc Mm Mc' : Mem} (h : Rel Mc Mm) (hI : InvC Mc') (hc : Ch Mc Mc' (cFilm Mc 1) (Mc 19 0) (Mc 20 0)) : Rel Mc' Mm := h.ch hI hc h.2.1 ChM.rf h.2.2.2.2.1 h.2.2.2.2.2
theorem Rel.m {Mc Mm Mm' : Mem} (h : Rel Mc Mm) (hM : InvM Mm') (hm : ChM Mm Mm' (mFilm Mm) (Mm 45 0) (Mm 46 0)) : Rel Mc Mm' := h.ch h.1 Ch.rf hM hm h.2.2.2.2.1 h.2.2.2.2.2
theorem Rel.b {Mc Mm Mc' Mm' : Mem} (h : Rel Mc Mm) (hI : InvC Mc') (hc : Ch Mc Mc' (cFilm Mc 1) (Mc 19 0) (Mc 20 0)) (hM : InvM Mm') (hm : ChM Mm Mm' (mFilm Mm) (Mm 45 0) (Mm 46 0)) : Rel Mc' Mm' := h.ch hI hc hM hm h.2.2.2.2.1 h.2.2.2.2.2
theorem Rel.wf {Mc Mm : Mem} (h : Rel Mc Mm) : WFf (cFilm Mc 1) := h.1.1.2.1
theorem Rel.pl {Mc Mm : Mem} (h : Rel Mc Mm) : PlK (cFilm Mc 1) (Mc 19 0) (Mc 20 0) := h.1.1.2.2.2.2.1
theorem Rel.vp {Mc Mm : Mem} (h : Rel Mc Mm) : VP (mFilm Mm) (Mm 45 0) (Mm 46 0) := VP_c h.wf h.2.2.2.2.1 h.pl h.2.2.2.2.2 h.1.1.2.2.2.2.2
section LA
variable {Mc Mm : Mem}
theorem lw_write (h : Rel Mc Mm) (x : Int) : spX7_write x Mc (rI fun r Mc' => spX8_write x Mm (rI fun r' Mm' => r = r' ∧ Rel Mc' Mm')) := by
  obtain ⟨hI, hM, e0, e1, hg, hp⟩ := id h
  refine ⟨hI, fun c => rIi ⟨hM, fun _ => rIi ⟨rfl, h⟩, fun a b _ => absurd c (by omega), fun a b _ => absurd c (by omega)⟩, fun c1 c2 c3 => rIi ⟨hM, fun z => absurd z (by omega), fun _ _ _ => rIi ⟨rfl, h⟩, fun _ _ z => absurd z (by omega)⟩, fun c1 c2 c3 Mc' hI' f' _ v' s' n' t' => rIi ⟨hM, fun z => absurd z (by omega), fun _ _ z => absurd z (by omega), fun _ _ _ Mm' hM' _ g' w' u' m' y' => rIi ⟨by rw [e0], hI', hM', by rw [n', m', e0], fun p a b => ?_, by rw [f', g']; exact hg, by rw [v', s', w', u']; exact hp⟩⟩⟩
  rw [t', y', ← e0]
  split
  · rfl
  · exact e1 p a (by rw [n'] at b; omega)
theorem lw_wipe (h : Rel Mc Mm) : spX7_wipe Mc (rI fun r Mc' => spX8_wipe Mm (rI fun r' Mm' => r = r' ∧ Rel Mc' Mm')) := by
  obtain ⟨hI, hM, e0, e1, hg, hp⟩ := id h
  exact ⟨hI, fun Mc' hI' f' _ v' s' n' => rIi ⟨hM, fun Mm' hM' _ g' w' u' m' => rIi ⟨e0, hI', hM', by rw [n', m'], fun p a b => absurd b (by omega), by rw [f', g']; exact hg, by rw [v', s', w', u']; exact hp⟩⟩⟩
theorem lw_psr (h : Rel Mc Mm) : psrV (Mc 1 0) (Mc 0 0 1) = psrV (Mm 31 0) (Mm 30 0 0) := psrV_x h.2.2.1 h.2.2.2.1
theorem lw_fault (h : Rel Mc Mm) : spX7_fault Mc (rI fun r Mc' => spX8_fault Mm (rI fun r' Mm' => r = r' ∧ Rel Mc' Mm')) :=
  ⟨h.1, fun Mc' hI' hc => rIi ⟨h.2.1, fun Mm' hM' hm => rIi ⟨by rw [lw_psr h], h.b hI' hc hM' hm⟩⟩⟩
theorem lw_lay (h : Rel Mc Mm) : spX7_lay Mc (rI fun r Mc' => spX8_lay Mm (rI fun r' Mm' => r = r' ∧ Rel Mc' Mm')) := by
  obtain ⟨hI, hM, e0, e1, hg, hp⟩ := id h
  have eP := lw_psr h
  refine ⟨hI, fun c => rIi ⟨hM, fun _ => rIi ⟨rfl, h⟩, fun z => absurd (by omega) z, fun z => absurd (by omega) z⟩, fun c c2 Mc' hI' hc => rIi ⟨hM, fun z => absurd (by omega) c, fun _ _ Mm' hM' hm => rIi ⟨rfl, h.b hI' hc hM' hm⟩, fun _ z => absurd (by rw [eP]; exact z) c2⟩, fun c c2 Mc' hI' hc => rIi ⟨hM, fun z => absurd (by omega) c, fun _ z => absurd (by rw [← eP]; exact c2) z, fun _ _ Mm' hM' hm => rIi ⟨by rw [eP], h.ch hI' hc hM' hm (by rw [eP]; exact FEq.rf) PlEq.rf⟩⟩⟩
theorem lw_rate (h : Rel Mc Mm) (w r : Int) : spX7_rate w r Mc (rI fun r0 Mc' => spX8_rate w r Mm (rI fun r' Mm' => r0 = r' ∧ Rel Mc' Mm')) := by
  obtain ⟨hI, hM, e0, e1, hg, hp⟩ := id h
  refine ⟨hI, fun c => rIi ⟨hM, fun _ => rIi ⟨rfl, h⟩, fun z => absurd z c, fun z => absurd z c⟩, fun c c2 => ?_, fun c c2 Mc' hI' hc => ?_⟩
  · have e := hg.2.2.2.2.1 w c.1.1 c.1.2
    exact rIi ⟨hM, fun z => absurd c z, fun _ _ => rIi ⟨rfl, h⟩, fun _ z => absurd (by rw [← e]; exact c2) z⟩
  · have e := hg.2.2.2.2.1 w c.1.1 c.1.2
    exact rIi ⟨hM, fun z => absurd c z, fun _ z => absurd (by rw [e]; exact z) c2, fun _ _ Mm' hM' hm => rIi ⟨e, h.ch hI' hc hM' hm (FEq_R hg w r) hp⟩⟩
theorem lw_breath (h : Rel Mc Mm) (b : Int) : spX7_breath b Mc (rI fun r Mc' => spX8_breath b Mm (rI fun r' Mm' => r = r' ∧ Rel Mc' Mm')) := by
  obtain ⟨hI, hM, e0, e1, hg, hp⟩ := id h
  have e := hg.2.1
  refine ⟨hI, fun c => rIi ⟨hM, fun _ => rIi ⟨rfl, h⟩, fun z => absurd z c, fun z => absurd z c⟩, fun c c2 => rIi ⟨hM, fun z => absurd c z, fun _ _ => rIi ⟨rfl, h⟩, fun _ z => absurd (by rw [← e]; exact c2) z⟩, fun c c2 Mc' hI' hc => rIi ⟨hM, fun z => absurd c z, fun _ z => absurd (by rw [e]; exact z) c2, fun _ _ Mm' hM' hm => rIi ⟨e, h.ch hI' hc hM' hm (FEq_B hg b) PlEq.rf⟩⟩⟩
theorem lw_sound (h : Rel Mc Mm) (k x y : Int) : spX7_sound k x y Mc (rI fun r Mc' => spX8_sound k x y Mm (rI fun r' Mm' => r = r' ∧ Rel Mc' Mm')) := by
  obtain ⟨hI, hM, e0, e1, hg, hp⟩ := id h
  have e := hg.1
  have e2 := hg.2.2.1
  refine ⟨hI, fun c => rIi ⟨hM, fun _ => rIi ⟨rfl, h⟩, fun z => absurd (by omega) c, fun z => absurd (by omega) c⟩, fun c c2 => rIi ⟨hM, fun z => absurd (by omega) z, fun _ _ => rIi ⟨rfl, h⟩, fun _ z => absurd z (by omega)⟩, fun c c2 Mc' hI' hc => rIi ⟨hM, fun z => absurd (by omega) z, fun _ z => absurd z (by omega), fun _ _ Mm' hM' hm => rIi ⟨by rw [e2], h.ch hI' hc hM' hm (FEq_S hg k x y) (sndP_c h.wf hg h.pl hp c c2)⟩⟩⟩
theorem lw_hush (h : Rel Mc Mm) (s : Int) : spX7_hush s Mc (rI fun r Mc' => spX8_hush s Mm (rI fun r' Mm' => r = r' ∧ Rel Mc' Mm')) := by
  obtain ⟨hI, hM, e0, e1, hg, hp⟩ := id h
  have e2 := hg.2.2.1
  refine ⟨hI, fun c => rIi ⟨hM, fun _ => rIi ⟨rfl, h⟩, fun z => absurd (by omega) c⟩, fun c Mc' hI' hc => rIi ⟨hM, fun z => absurd (by omega) z, fun _ Mm' hM' hm => rIi ⟨by rw [e2], h.ch hI' hc hM' hm (FEq_D hg c.1) hp⟩⟩⟩
theorem lw_version (h : Rel Mc Mm) (p l w : Int) : spX7_version p l w Mc (rI fun r Mc' => spX8_version p l w Mm (rI fun r' Mm' => r = r' ∧ Rel Mc' Mm')) := by
  obtain ⟨hI, hM, e0, e1, hg, hp⟩ := id h
  have e3 := hg.2.2.2.1
  refine ⟨hI, fun c => rIi ⟨hM, fun _ => rIi ⟨rfl, h⟩, fun z => absurd (by omega) c, fun z => absurd (by omega) c⟩, fun c c2 => ?_, fun c c2 Mc' hI' hc => ?_⟩
  · have e11 := (hg.2.2.2.2.2.2 p c.1.1 c.1.2).2.2.2.1
    exact rIi ⟨hM, fun z => absurd (by omega) z, fun _ _ => rIi ⟨rfl, h⟩, fun _ z => absurd z (by omega)⟩
  · have e11 := (hg.2.2.2.2.2.2 p c.1.1 c.1.2).2.2.2.1
    exact rIi ⟨hM, fun z => absurd (by omega) z, fun _ z => absurd z (by omega), fun _ _ Mm' hM' hm => rIi ⟨by rw [e11], h.ch hI' hc hM' hm (FEq_V hg l w c.1.1 c.1.2) hp⟩⟩
theorem lw_place (h : Rel Mc Mm) (p v t : Int) : spX7_place p v t Mc (rI fun r Mc' => spX8_place p v t Mm (rI fun r' Mm' => r = r' ∧ Rel Mc' Mm')) := by
  obtain ⟨hI, hM, e0, e1, hg, hp⟩ := id h
  have eK := tellK_c hg (p := p) (v := v) (t := t)
  refine ⟨hI, fun c => rIi ⟨hM, fun _ => rIi ⟨rfl, h⟩, fun z => absurd (eK.mpr z) c, fun z => absurd (eK.mpr z) c⟩, fun c c2 => ?_, fun c c2 Mc' hI' n' t' f' u' v' s' => ?_⟩
  · have e := whyW_e h.wf hg h.pl hp c
    exact rIi ⟨hM, fun z => absurd (eK.mp c) z, fun _ _ Mm' hM' hm => rIi ⟨rfl, h.m hM' hm⟩, fun _ z => absurd (by rw [e]; exact z) c2⟩
  · have e := whyW_e h.wf hg h.pl hp c
    refine rIi ⟨hM, fun z => absurd (eK.mp c) z, fun _ z => absurd (by rw [← e]; exact c2) z, fun _ _ Mm' hM' hm => rIi ⟨?_, h.ch (Fc := cFilm Mc 1) (v := setP (Mc 19 0) p v) (s := setP (Mc 20 0) p t) hI' ⟨n', t', u', by rw [f']; exact FEq.rf, by rw [v', s']; exact PlEq.rf⟩ hM' hm hg (PlEq.put hp p v t)⟩⟩
    rw [gainW_c h.wf hg (fun t _ _ => csb_c h.wf hg t) c.1.1.1 c.1.1.2 c.1.2.1 c.1.2.2 c.2.1 c.2.2]
theorem lw_off (h : Rel Mc Mm) (p : Int) : spX7_off p Mc (rI fun r Mc' => spX8_off p Mm (rI fun r' Mm' => r = r' ∧ Rel Mc' Mm')) := by
  obtain ⟨hI, hM, e0, e1, hg, hp⟩ := id h
  have e3 := hg.2.2.2.1
  have h7 := h.wf.2.2.2.1
  refine ⟨hI, fun c => rIi ⟨hM, fun _ => rIi ⟨rfl, h⟩, fun z => absurd (by omega) c, fun z => absurd (by omega) c⟩, fun c c2 => ?_, fun c c2 Mc' hI' hc => ?_⟩
  · have e := (hp p c.1 (by omega)).1
    exact rIi ⟨hM, fun z => absurd (by omega) z, fun _ _ => rIi ⟨rfl, h⟩, fun _ z => absurd (by omega) z⟩
  · have e := (hp p c.1 (by omega)).1
    refine rIi ⟨hM, fun z => absurd (by omega) z, fun _ z => absurd (by omega) c2, fun _ _ Mm' hM' hm => rIi ⟨?_, h.ch hI' hc hM' hm hg (offD_c h.wf hg h.pl hp)⟩⟩
    rw [dpN_c h.wf hg hp _ (n3 h.wf), e3]
theorem lw_why (h : Rel Mc Mm) (p v t : Int) : spX7_why p v t Mc (rI fun r Mc' => spX8_why p v t Mm (rI fun r' Mm' => r = r' ∧ Rel Mc' Mm')) :=
  ⟨h.1, rIi ⟨h.2.1, fun Mm' hM' hm => rIi ⟨whyA_c h.wf h.2.2.2.2.1 h.pl h.2.2.2.2.2 p v t, h.m hM' hm⟩⟩⟩
theorem lw_gain (h : Rel Mc Mm) (p v t : Int) : spX7_gain p v t Mc (rI fun r Mc' => spX8_gain p v t Mm (rI fun r' Mm' => r = r' ∧ Rel Mc' Mm')) :=
  ⟨h.1, rIi ⟨h.2.1, fun Mm' hM' hm => rIi ⟨gainA_c h.wf h.2.2.2.2.1 p v t, h.m hM' hm⟩⟩⟩
theorem lw_value (h : Rel Mc Mm) : spX7_value Mc (rI fun r Mc' => spX8_value Mm (rI fun r' Mm' => r = r' ∧ Rel Mc' Mm')) :=
  ⟨h.1, rIi ⟨h.2.1, fun Mm' hM' hm => rIi ⟨valA_c h.wf h.2.2.2.2.1 h.pl h.2.2.2.2.2, h.m hM' hm⟩⟩⟩
theorem lw_adopt (h : Rel Mc Mm) : spX7_adopt Mc (rI fun r Mc' => spX8_adopt Mm (rI fun r' Mm' => r = r' ∧ Rel Mc' Mm')) := by
  have hg := h.2.2.2.2.1
  have e := bP0_c h.wf hg
  exact ⟨h.1, fun Mc' hI' n' t' f' u' p' => rIi ⟨h.2.1, fun Mm' hM' hm => rIi ⟨by rw [e, hg.2.2.2.1], h.ch (Fc := cFilm Mc 1) hI' ⟨n', t', u', by rw [f']; exact FEq.rf, p'.sy⟩ hM' hm hg (by rw [e]; exact PlEq.rf)⟩⟩⟩
theorem lw_picture (h : Rel Mc Mm) (p w : Int) : spX7_picture p w Mc (rI fun r Mc' => spX8_picture p w Mm (rI fun r' Mm' => r = r' ∧ Rel Mc' Mm')) :=
  ⟨h.1, rIi ⟨h.2.1, rIi ⟨picA_c h.wf h.2.2.2.2.1 h.2.2.2.2.2 p w, h⟩⟩⟩
theorem lw_told (h : Rel Mc Mm) (p v w : Int) : spX7_told p v w Mc (rI fun r Mc' => spX8_told p v w Mm (rI fun r' Mm' => r = r' ∧ Rel Mc' Mm')) :=
  ⟨h.1, rIi ⟨h.2.1, fun Mm' hM' hm => rIi ⟨tldA_c h.wf h.2.2.2.2.1 h.pl h.2.2.2.2.2 p v w, h.m hM' hm⟩⟩⟩
theorem lw_tick (h : Rel Mc Mm) (t : Int) : spX7_tick t Mc (rI fun r Mc' => spX8_tick t Mm (rI fun r' Mm' => r = r' ∧ Rel Mc' Mm')) :=
  ⟨h.1, rIi ⟨h.2.1, fun Mm' hM' hm => rIi ⟨tckA_c h.wf h.2.2.2.2.1 h.pl h.2.2.2.2.2 t, h.m hM' hm⟩⟩⟩
theorem lw_silence (h : Rel Mc Mm) (i w : Int) : spX7_silence i w Mc (rI fun r Mc' => spX8_silence i w Mm (rI fun r' Mm' => r = r' ∧ Rel Mc' Mm')) :=
  ⟨h.1, rIi ⟨⟨h.2.1, h.vp⟩, fun Mm' hM' hm => rIi ⟨silA_c h.wf h.2.2.2.2.1 h.pl h.2.2.2.2.2 i w, h.m hM' hm⟩⟩⟩
theorem bV_e (h : Rel Mc Mm) (b : Int) (hb : 0 ≤ b) (x : Int) : bV0 (cFilm Mc 1) b x = bV0 (mFilm Mm) b x := bV0_c h.wf h.2.2.2.2.1 hb rfl (fun _ _ _ => rfl)
theorem lw_best (h : Rel Mc Mm) : spX7_best Mc (rI fun r Mc' => spX8_best Mm (rI fun r' Mm' => r = r' ∧ Rel Mc' Mm')) :=
  ⟨h.1, fun Mc' hI' hc => rIi ⟨h.2.1, fun Mm' hM' hm => rIi ⟨by rw [bV_e h _ h.wf.2.1.1, allS_c h.2.2.2.2.1, h.2.2.2.2.1.2.1], h.b hI' hc hM' hm⟩⟩⟩
theorem ofK_c (h : Rel Mc Mm) {p w : Int} : ofK (cFilm Mc 1) p w ↔ ofK (mFilm Mm) p w := by
  have e3 := h.2.2.2.2.1.2.2.2.1
  constructor <;> intro z <;> omega
theorem lw_bestOf (h : Rel Mc Mm) (p w : Int) : spX7_bestOf p w Mc (rI fun r Mc' => spX8_bestOf p w Mm (rI fun r' Mm' => r = r' ∧ Rel Mc' Mm')) := by
  have eK := ofK_c h (p := p) (w := w)
  exact ⟨h.1, fun c => rIi ⟨h.2.1, fun _ => rIi ⟨rfl, h⟩, fun z => absurd (eK.mpr z) c⟩, fun c Mc' hI' hc => rIi ⟨h.2.1, fun z => absurd (eK.mp c) z, fun _ Mm' hM' hm => rIi ⟨by rw [bP0_c h.wf h.2.2.2.2.1], h.b hI' hc hM' hm⟩⟩⟩
theorem lw_bestBy (h : Rel Mc Mm) (x : Int) : spX7_bestBy x Mc (rI fun r Mc' => spX8_bestBy x Mm (rI fun r' Mm' => r = r' ∧ Rel Mc' Mm')) := by
  have eA := allS_c h.2.2.2.2.1
  exact ⟨h.1, fun c => rIi ⟨h.2.1, fun _ => rIi ⟨rfl, h⟩, fun z => absurd (by rw [eA]; exact z) c⟩, fun c Mc' hI' hc => rIi ⟨h.2.1, fun z => absurd (by rw [← eA]; exact c) z, fun _ Mm' hM' hm => rIi ⟨by rw [bV_e h _ h.wf.2.1.1, h.2.2.2.2.1.2.1], h.b hI' hc hM' hm⟩⟩⟩
theorem ifK_c (h : Rel Mc Mm) {s n : Int} : ifK (cFilm Mc 1) s n ↔ ifK (mFilm Mm) s n := by
  have hg := h.2.2.2.2.1
  have e2 := hg.2.2.1
  by_cases c : 0 ≤ s ∧ s < cFilm Mc 1 2 0 0
  · have q := hg.2.2.2.2.2.1 s c.1 c.2
    constructor <;> intro z <;> omega
  · constructor <;> intro z <;> omega
theorem lw_bestIf (h : Rel Mc Mm) (s n : Int) : spX7_bestIf s n Mc (rI fun r Mc' => spX8_bestIf s n Mm (rI fun r' Mm' => r = r' ∧ Rel Mc' Mm')) := by
  have hg := h.2.2.2.2.1
  have eK := ifK_c h (s := s) (n := n)
  refine ⟨h.1, fun c => rIi ⟨h.2.1, fun _ => rIi ⟨rfl, h⟩, fun z => absurd (eK.mpr z) c⟩, fun c Mc' hI' hc => rIi ⟨h.2.1, fun z => absurd (eK.mp c) z, fun _ Mm' hM' hm => rIi ⟨?_, h.b hI' hc hM' hm⟩⟩⟩
  rw [allS_c hg]
  exact bV0_c (wf_shF h.wf (Or.inr ⟨c.1.1, c.1.2, c.2.1, c.2.2⟩)) (FEq_sh hg c.1.1) h.wf.2.1.1 hg.2.1 (fun _ _ _ => rfl)
theorem lw_bestBreath (h : Rel Mc Mm) (b : Int) : spX7_bestBreath b Mc (rI fun r Mc' => spX8_bestBreath b Mm (rI fun r' Mm' => r = r' ∧ Rel Mc' Mm')) :=
  ⟨h.1, fun c => rIi ⟨h.2.1, fun _ => rIi ⟨rfl, h⟩, fun z => absurd z c⟩, fun c Mc' hI' hc => rIi ⟨h.2.1, fun z => absurd c z, fun _ Mm' hM' hm => rIi ⟨by rw [bV_e h _ c.1, allS_c h.2.2.2.2.1], h.b hI' hc hM' hm⟩⟩⟩
theorem lw_greedy (h : Rel Mc Mm) : spX7_greedy Mc (rI fun r Mc' => spX8_greedy Mm (rI fun r' Mm' => r = r' ∧ Rel Mc' Mm')) :=
  ⟨h.1, fun Mc' hI' hc => rIi ⟨h.2.1, fun Mm' hM' hm => rIi ⟨grdA_c h.wf h.2.2.2.2.1, h.b hI' hc hM' hm⟩⟩⟩
theorem lw_greedyOf (h : Rel Mc Mm) (p w : Int) : spX7_greedyOf p w Mc (rI fun r Mc' => spX8_greedyOf p w Mm (rI fun r' Mm' => r = r' ∧ Rel Mc' Mm')) := by
  have eK := ofK_c h (p := p) (w := w)
  have k := (gr0_c h.wf h.2.2.2.2.1).1
  have h7 := h.wf.2.2.2.1
  refine ⟨h.1, fun c => rIi ⟨h.2.1, fun _ => rIi ⟨rfl, h⟩, fun z => absurd (eK.mpr z) c⟩, fun c Mc' hI' hc => rIi ⟨h.2.1, fun z => absurd (eK.mp c) z, fun _ Mm' hM' hm => rIi ⟨?_, h.b hI' hc hM' hm⟩⟩⟩
  have q := k p c.1.1 (by omega)
  rw [q.1, q.2]
theorem lw_count (h : Rel Mc Mm) (w : Int) : spX7_count w Mc (rI fun r Mc' => spX8_count w Mm (rI fun r' Mm' => r = r' ∧ Rel Mc' Mm')) :=
  ⟨h.1, fun Mc' hI' hc => rIi ⟨⟨h.2.1, h.vp⟩, fun Mm' hM' hm => rIi ⟨cntA_c h.wf h.2.2.2.2.1 h.pl h.2.2.2.2.2 h.2.2.1 w, h.b hI' hc hM' hm⟩⟩⟩
end LA
/-- at the start -/
theorem rel0 {Mc Mm : Mem} (hc : StC Mc) (hm : StM Mm) : Rel Mc Mm := by
  obtain ⟨hI, c0, cf, cp⟩ := hc
  obtain ⟨m0, m1⟩ := hm
  have r : ∀ q i, q ≠ 45 → q ≠ 46 → Mm q i = MM4 q i := fun q i a b => m0 q i (by omega)
  have ef : mFilm Mm = mFilm MM4 := mFilm_eq (fun j _ => by rw [r 30 0 (by decide) (by decide)]) (fun q hq => r q 0 (by omega) (by omega))
  have hg : FEq (cFilm Mc 1) (mFilm Mm) := by
    rw [ef]
    exact cf.sy.tr (chkF_s chk0)
  have l0 : Mm 30 0 0 = 0 := by rw [r 30 0 (by decide) (by decide)]; rfl
  exact ⟨hI, ⟨by rw [l0]; omega, hg.wf hI.1.2.1, fun q a b => Or.inl (m1 q a b)⟩, by rw [c0, l0], fun p a b => absurd b (by rw [c0]; omega), hg, fun q a b => ⟨(cp q a b).1.symm.trans (m1 q a b).1.symm, (cp q a b).2.symm.trans (m1 q a b).2.symm⟩⟩
