/-! ===== plans: ver p the version in which p is placed (-4: it is not), sta p at which tick ===== -/
def C4 (F : Film) (ver sta : Int → Int) (p v t : Int) : Prop := ∃ q, 0 ≤ q ∧ q < F 3 0 0 ∧ q ≠ p ∧ ver q ≠ -4 ∧ sta q - (t + F 13 p v) < F 1 0 0 ∧ t - (sta q + F 13 q (ver q)) < F 1 0 0
def C5 (F : Film) (ver sta : Int → Int) (p t : Int) : Prop := F 12 p 0 ≠ -4 ∧ (ver (F 12 p 0) = -4 ∨ t < sta (F 12 p 0) + F 13 (F 12 p 0) (ver (F 12 p 0)))
def C6 (F : Film) (ver sta : Int → Int) (p v t : Int) : Prop := ∃ q, 0 ≤ q ∧ q < F 3 0 0 ∧ F 12 q 0 = p ∧ ver q ≠ -4 ∧ sta q < t + F 13 p v
noncomputable def whyB (F : Film) (ver sta : Int → Int) (p v t : Int) : Int :=
  @ite Int (C4 F ver sta p v t) (Classical.propDecidable _) 4 (@ite Int (C5 F ver sta p t) (Classical.propDecidable _) 5 (@ite Int (C6 F ver sta p v t) (Classical.propDecidable _) 6 0))
noncomputable def whyW (F : Film) (S ver sta : Int → Int) (p v t : Int) : Int := if ownW F S p v t = 0 then whyB F ver sta p v t else ownW F S p v t
theorem whyB_4 {F : Film} {ver sta : Int → Int} {p v t : Int} (h : C4 F ver sta p v t) : whyB F ver sta p v t = 4 := if_pos h
theorem whyB_5 {F : Film} {ver sta : Int → Int} {p v t : Int} (h4 : ¬ C4 F ver sta p v t) (h : C5 F ver sta p t) : whyB F ver sta p v t = 5 := (if_neg h4).trans (if_pos h)
theorem whyB_6 {F : Film} {ver sta : Int → Int} {p v t : Int} (h4 : ¬ C4 F ver sta p v t) (h5 : ¬ C5 F ver sta p t) (h : C6 F ver sta p v t) : whyB F ver sta p v t = 6 := (if_neg h4).trans ((if_neg h5).trans (if_pos h))
theorem whyB_0 {F : Film} {ver sta : Int → Int} {p v t : Int} (h4 : ¬ C4 F ver sta p v t) (h5 : ¬ C5 F ver sta p t) (h : ¬ C6 F ver sta p v t) : whyB F ver sta p v t = 0 := (if_neg h4).trans ((if_neg h5).trans (if_neg h))
/-- each picture is placed in a version that it has, within the film, or not at all -/
def PlK (F : Film) (ver sta : Int → Int) : Prop := ∀ q, 0 ≤ q → q < 7 → (ver q = -4 ∧ sta q = -4) ∨ (q < F 3 0 0 ∧ (0 ≤ ver q ∧ ver q < F 11 q 0) ∧ 0 ≤ sta q ∧ sta q + F 13 q (ver q) ≤ F 0 0 0)
theorem PlK.at {F : Film} {ver sta : Int → Int} (h : PlK F ver sta) {q : Int} (h0 : 0 ≤ q) (h1 : q < 7) (hv : ver q ≠ -4) : q < F 3 0 0 ∧ (0 ≤ ver q ∧ ver q < F 11 q 0) ∧ 0 ≤ sta q ∧ sta q + F 13 q (ver q) ≤ F 0 0 0 := by
  rcases h q h0 h1 with a | a
  · exact absurd a.1 hv
  · exact a
def szN (ver : Int → Int) : Nat → Int := sumN (fun p => if ver p = -4 then 0 else 1)
def vaN (F : Film) (Q ver sta : Int → Int) : Nat → Int := sumN (fun p => if ver p = -4 then 0 else gainW F Q p (ver p) (sta p))
def tkN (F : Film) (ver sta : Int → Int) (a b : Int) : Nat → Int := sumN (fun p => if ver p = -4 then 0 else max 0 (min (sta p + F 13 p (ver p)) b - max (sta p) a))
theorem sumN_s (f : Int → Int) {t : Int} (h : 0 ≤ t) : sumN f (t + 1).toNat = sumN f t.toNat + f t := by
  rw [toNat_s h]
  show _ + f (t.toNat : Int) = _
  rw [oi_nat h]
theorem sum_abs {f : Int → Int} {B : Int} : ∀ n : Nat, (∀ t : Int, 0 ≤ t → t < n → -B ≤ f t ∧ f t ≤ B) → -B * n ≤ sumN f n ∧ sumN f n ≤ B * n := by
  intro n
  induction n with
  | zero => intro _; simp [sumN]
  | succ n ih =>
    intro h
    have h1 := ih (fun t a b => h t a (by omega))
    have h2 := h n (by omega) (by omega)
    simp only [sumN]
    have e : B * ((n + 1 : Nat) : Int) = B * n + B := by rw [Int.natCast_succ, Int.mul_add, Int.mul_one]
    have e2 : -B * ((n + 1 : Nat) : Int) = -B * n + -B := by rw [Int.natCast_succ, Int.mul_add, Int.mul_one]
    rw [e, e2]
    omega
/-- the lowest placed picture that has a reason why not, from p on; -4: none -/
noncomputable def lowF (F : Film) (S ver sta : Int → Int) : Nat → Int → Int
  | 0, _ => -4
  | n + 1, p => if ver p ≠ -4 ∧ whyW F S ver sta p (ver p) (sta p) ≠ 0 then p else lowF F S ver sta n (p + 1)
