/-! ===== what sounds at each tick ===== -/
def mkN (F : Film) (t : Int) : Nat → Int
  | 0 => 0
  | n + 1 => if F 6 n 0 ≤ t ∧ t < F 7 n 0 then bOr (mkN F t n) (bShl 1 (F 5 n 0)) else mkN F t n
def mkF (F : Film) (t : Int) : Int := mkN F t (F 2 0 0).toNat
def spc (F : Film) (t : Int) : Int := if bAnd (mkF F t) 1 = 0 then 0 else 1
def cst (F : Film) (t : Int) : Int := if bAnd (mkF F t) 2 ≠ 0 then F 4 2 0 else if bAnd (mkF F t) 4 ≠ 0 then F 4 3 0 else 0
def sumN (f : Int → Int) : Nat → Int
  | 0 => 0
  | n + 1 => sumN f n + f n
def spb (F : Film) (t : Int) : Int := sumN (spc F) t.toNat
def csb (F : Film) (t : Int) : Int := sumN (cst F) t.toNat
/-- the film with a sound ended earlier -/
def shF (F : Film) (s n : Int) : Film := fun t a b => if t = 7 ∧ a = s ∧ 0 ≤ s then F 7 s b - n else F t a b
theorem shF_no (F : Film) (n : Int) : shF F (-1) n = F := by
  funext t a b
  unfold shF
  rw [if_neg (by omega)]
theorem toNat_s {t : Int} (h : 0 ≤ t) : (t + 1).toNat = t.toNat + 1 := by omega
theorem spb_s (F : Film) {t : Int} (h : 0 ≤ t) : spb F (t + 1) = spb F t + spc F t := by
  unfold spb
  rw [toNat_s h]
  show sumN _ t.toNat + spc F (t.toNat : Int) = _
  rw [oi_nat h]
theorem csb_s (F : Film) {t : Int} (h : 0 ≤ t) : csb F (t + 1) = csb F t + cst F t := by
  unfold csb
  rw [toNat_s h]
  show sumN _ t.toNat + cst F (t.toNat : Int) = _
  rw [oi_nat h]
theorem spb_0 (F : Film) : spb F 0 = 0 := rfl
theorem csb_0 (F : Film) : csb F 0 = 0 := rfl
theorem sum_rng {f : Int → Int} {B : Int} (h : ∀ t, 0 ≤ f t ∧ f t ≤ B) : ∀ n : Nat, 0 ≤ sumN f n ∧ sumN f n ≤ B * n := by
  intro n
  induction n with
  | zero => simp [sumN]
  | succ n ih =>
    have := h n
    simp only [sumN]
    have e : B * ((n + 1 : Nat) : Int) = B * n + B := by rw [Int.natCast_succ, Int.mul_add, Int.mul_one]
    rw [e]
    omega
theorem spc_rng (F : Film) (t : Int) : 0 ≤ spc F t ∧ spc F t ≤ 1 := by
  unfold spc
  split <;> omega
theorem cst_rng {F : Film} (h : WFf F) (t : Int) : 0 ≤ cst F t ∧ cst F t ≤ 9 := by
  have r2 := h.2.2.2.2.1 2 (by decide) (by decide)
  have r3 := h.2.2.2.2.1 3 (by decide) (by decide)
  unfold cst
  split
  · omega
  · split <;> omega
theorem spb_rng (F : Film) {t : Int} (h0 : 0 ≤ t) (h1 : t ≤ 100) : 0 ≤ spb F t ∧ spb F t ≤ 100 := by
  have := sum_rng (spc_rng F) t.toNat
  unfold spb
  omega
theorem csb_rng {F : Film} (h : WFf F) {t : Int} (h0 : 0 ≤ t) (h1 : t ≤ 100) : 0 ≤ csb F t ∧ csb F t ≤ 900 := by
  have := sum_rng (cst_rng h) t.toNat
  unfold csb
  omega
/-- a track has what the film's sounds say -/
def TrK (M : Mem) (tr : Int) (F : Film) : Prop := (∀ t, 0 ≤ t → t < 100 → M 15 tr t = mkF F t) ∧ (∀ t, 0 ≤ t → t ≤ F 0 0 0 → M 16 tr t = spb F t ∧ M 17 tr t = csb F t)
/-- nothing but a track has changed -/
def AgT (M M' : Mem) (tr : Int) : Prop := ∀ r i, ¬ ((r = 15 ∨ r = 16 ∨ r = 17) ∧ i = tr) → M' r i = M r i
theorem AgT.rf {M : Mem} {tr : Int} : AgT M M tr := fun _ _ _ => rfl
theorem AgT.up {M M' : Mem} {tr : Int} (h : AgT M M' tr) {r : Nat} (hr : r = 15 ∨ r = 16 ∨ r = 17) (j v : Int) : AgT M (up3 M' r tr j v) tr := by
  intro r' i' hn
  rw [← h r' i' hn]
  funext j'
  exact if_neg (fun q => hn ⟨by rw [q.1]; exact hr, q.2.1⟩)
theorem cFilm_eq {M M' : Mem} (h : ∀ r, 5 ≤ r → r ≤ 13 → M' r = M r) (f : Int) : cFilm M' f = cFilm M f := by
  funext t a b
  unfold cFilm
  split <;> first | rfl | (rw [h _ (by decide) (by decide)])
theorem AgT.film {M M' : Mem} {tr : Int} (h : AgT M M' tr) (f : Int) : cFilm M' f = cFilm M f := by
  refine cFilm_eq (fun r h1 h2 => ?_) f
  funext i
  exact h r i (by omega)
