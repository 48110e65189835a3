/-! ===== a film, as a table of numbers: 0 ticks, 1 breath, 2 sounds, 3 pictures, 4 rates, 5 kind, 6 begin, 7 end of a sound, 8 tick, 9 early, 10 late, 11 versions, 12 need of a picture, 13 length, 14 worth of a version ===== -/
abbrev Film : Type := Nat → Int → Int → Int
def cFilm (M : Mem) (f : Int) : Film := fun t a b => match t with
  | 0 => M 5 f 0
  | 1 => M 5 f 1
  | 2 => M 5 f 3
  | 3 => M 5 f 7
  | 4 => M 6 f a
  | 5 => M 7 f a
  | 6 => M 8 f a
  | 7 => M 9 f a
  | 8 => M 11 (7 * f + a) 0
  | 9 => M 11 (7 * f + a) 1
  | 10 => M 11 (7 * f + a) 2
  | 11 => M 11 (7 * f + a) 4
  | 12 => M 11 (7 * f + a) 3
  | 13 => M 12 (7 * f + a) b
  | 14 => M 13 (7 * f + a) b
  | _ => 0
def WFp (F : Film) (p : Int) : Prop := (0 ≤ F 8 p 0 ∧ F 8 p 0 < F 0 0 0) ∧ (0 ≤ F 9 p 0 ∧ F 9 p 0 ≤ 20) ∧ (0 ≤ F 10 p 0 ∧ F 10 p 0 ≤ 20) ∧ (1 ≤ F 11 p 0 ∧ F 11 p 0 ≤ 3) ∧ (F 12 p 0 = -4 ∨ (0 ≤ F 12 p 0 ∧ F 12 p 0 < p)) ∧
  ∀ v, 0 ≤ v → v < F 11 p 0 → (1 ≤ F 13 p v ∧ F 13 p v ≤ 30) ∧ (1 ≤ F 14 p v ∧ F 14 p v ≤ 99)
def WFs (F : Film) (s : Int) : Prop := (0 ≤ F 5 s 0 ∧ F 5 s 0 ≤ 2) ∧ 0 ≤ F 6 s 0 ∧ F 6 s 0 ≤ F 7 s 0 ∧ F 7 s 0 ≤ F 0 0 0
def WFf (F : Film) : Prop := (0 ≤ F 0 0 0 ∧ F 0 0 0 ≤ 100) ∧ (0 ≤ F 1 0 0 ∧ F 1 0 0 ≤ 9) ∧ (0 ≤ F 2 0 0 ∧ F 2 0 0 ≤ 12) ∧ (0 ≤ F 3 0 0 ∧ F 3 0 0 ≤ 7) ∧ (∀ w, 0 ≤ w → w < 4 → 0 ≤ F 4 w 0 ∧ F 4 w 0 ≤ 9) ∧
  (∀ s, 0 ≤ s → s < F 2 0 0 → WFs F s) ∧ (∀ p, 0 ≤ p → p < F 3 0 0 → WFp F p)
/-- the reason why not by the film alone; S: how many ticks ahead of each have speech -/
def ownW (F : Film) (S : Int → Int) (p v t : Int) : Int :=
  if F 0 0 0 < t + F 13 p v then 1 else if t < F 8 p 0 - F 9 p 0 ∨ F 8 p 0 + F 10 p 0 < t then 2 else if S t < S (t + F 13 p v) then 3 else 0
def shiftW (F : Film) (p t : Int) : Int := if t - F 8 p 0 < 0 then -(t - F 8 p 0) * F 4 0 0 else (t - F 8 p 0) * F 4 1 0
/-- the gain; Q: what the ticks ahead of each cost together -/
def gainW (F : Film) (Q : Int → Int) (p v t : Int) : Int := F 14 p v - shiftW F p t - (Q (min (t + F 13 p v) (F 0 0 0)) - Q t)
/-- the sums of a track are small -/
def TrB (M : Mem) (tr : Int) : Prop := ∀ t, 0 ≤ t → t ≤ 100 → (0 ≤ M 16 tr t ∧ M 16 tr t ≤ 100) ∧ (0 ≤ M 17 tr t ∧ M 17 tr t ≤ 900)
theorem mul_rng {a b A B : Int} (h1 : 0 ≤ a) (h2 : a ≤ A) (h3 : 0 ≤ b) (h4 : b ≤ B) : 0 ≤ a * b ∧ a * b ≤ A * B :=
  ⟨Int.mul_nonneg h1 h3, Int.mul_le_mul h2 h4 h3 (Int.le_trans h1 h2)⟩
theorem shift_rng {F : Film} (h : WFf F) {p t : Int} (hp : 0 ≤ p) (hp2 : p < F 3 0 0) (ht : 0 ≤ t) (ht2 : t < F 0 0 0) : 0 ≤ shiftW F p t ∧ shiftW F p t ≤ 900 := by
  have hw := h.2.2.2.2.2.2 p hp hp2
  have h0 := h.1
  have r0 := h.2.2.2.2.1 0 (by decide) (by decide)
  have r1 := h.2.2.2.2.1 1 (by decide) (by decide)
  have h1 := hw.1
  unfold shiftW
  split
  · have := mul_rng (a := -(t - F 8 p 0)) (b := F 4 0 0) (A := 100) (B := 9) (by omega) (by omega) r0.1 r0.2
    omega
  · have := mul_rng (a := t - F 8 p 0) (b := F 4 1 0) (A := 100) (B := 9) (by omega) (by omega) r1.1 r1.2
    omega
theorem wf_p {F : Film} (h : WFf F) {p : Int} (hp : 0 ≤ p) (hp2 : p < F 3 0 0) : (0 ≤ F 0 0 0 ∧ F 0 0 0 ≤ 100) ∧ p < 7 ∧ (0 ≤ F 8 p 0 ∧ F 8 p 0 < F 0 0 0) ∧ (0 ≤ F 9 p 0 ∧ F 9 p 0 ≤ 20) ∧ (0 ≤ F 10 p 0 ∧ F 10 p 0 ≤ 20) ∧ (1 ≤ F 11 p 0 ∧ F 11 p 0 ≤ 3) ∧ (F 12 p 0 = -4 ∨ (0 ≤ F 12 p 0 ∧ F 12 p 0 < p)) := by
  have hw := h.2.2.2.2.2.2 p hp hp2
  have h2 := h.2.2.2.1
  exact ⟨h.1, by omega, hw.1, hw.2.1, hw.2.2.1, hw.2.2.2.1, hw.2.2.2.2.1⟩
theorem wf_pv {F : Film} (h : WFf F) {p v : Int} (hp : 0 ≤ p) (hp2 : p < F 3 0 0) (hv : 0 ≤ v) (hv2 : v < F 11 p 0) : (0 ≤ F 0 0 0 ∧ F 0 0 0 ≤ 100) ∧ p < 7 ∧ v < 3 ∧ (0 ≤ F 8 p 0 ∧ F 8 p 0 < F 0 0 0) ∧ (0 ≤ F 9 p 0 ∧ F 9 p 0 ≤ 20) ∧ (0 ≤ F 10 p 0 ∧ F 10 p 0 ≤ 20) ∧ (1 ≤ F 13 p v ∧ F 13 p v ≤ 30) ∧ (1 ≤ F 14 p v ∧ F 14 p v ≤ 99) := by
  have hw := h.2.2.2.2.2.2 p hp hp2
  have h2 := h.2.2.2.1
  have h3 := hw.2.2.2.1
  have h4 := hw.2.2.2.2.2 v hv hv2
  exact ⟨h.1, by omega, by omega, hw.1, hw.2.1, hw.2.2.1, h4.1, h4.2⟩
