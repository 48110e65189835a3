/-! ===== the first film: the class's and the Model's agree ===== -/
def chkF (F G : Film) : Bool := decide (F 0 0 0 = G 0 0 0) && decide (F 1 0 0 = G 1 0 0) && decide (F 2 0 0 = G 2 0 0) && decide (F 3 0 0 = G 3 0 0) && decide (F 2 0 0 = 5) && decide (F 3 0 0 = 5) &&
  (List.range 4).all (fun w => decide (F 4 w 0 = G 4 w 0)) &&
  (List.range 5).all (fun s => decide (F 5 s 0 = G 5 s 0) && decide (F 6 s 0 = G 6 s 0) && decide (F 7 s 0 = G 7 s 0)) &&
  (List.range 5).all (fun p => decide (F 8 p 0 = G 8 p 0) && decide (F 9 p 0 = G 9 p 0) && decide (F 10 p 0 = G 10 p 0) && decide (F 11 p 0 = G 11 p 0) && decide (F 12 p 0 = G 12 p 0) && decide (F 11 p 0 ≤ 3) &&
    (List.range 3).all (fun v => !decide ((v : Int) < F 11 p 0) || (decide (F 13 p v = G 13 p v) && decide (F 14 p v = G 14 p v))))
theorem chkF_s {F G : Film} (h : chkF F G = true) : FEq F G := by
  unfold chkF at h
  simp only [Bool.and_eq_true, decide_eq_true_eq, List.all_eq_true, List.mem_range, Bool.or_eq_true, Bool.not_eq_true', decide_eq_false_iff_not] at h
  obtain ⟨⟨⟨⟨⟨⟨⟨⟨h0, h1⟩, h2⟩, h3⟩, h25⟩, h35⟩, h4⟩, h5⟩, h6⟩ := h
  refine ⟨h0, h1, h2, h3, fun w a b => ?_, fun s a b => ?_, fun p a b => ?_⟩
  · have := h4 w.toNat (by omega)
    rw [Int.toNat_of_nonneg a] at this
    exact this
  · have := h5 s.toNat (by omega)
    rw [Int.toNat_of_nonneg a] at this
    exact ⟨this.1.1, this.1.2, this.2⟩
  · have := h6 p.toNat (by omega)
    rw [Int.toNat_of_nonneg a] at this
    obtain ⟨⟨⟨⟨⟨⟨g8, g9⟩, g10⟩, g11⟩, g12⟩, g13⟩, gv⟩ := this
    refine ⟨g8, g9, g10, g11, g12, fun v c d => ?_⟩
    have := gv v.toNat (by omega)
    rw [Int.toNat_of_nonneg c] at this
    rcases this with z | z
    · omega
    · exact z
set_option maxRecDepth 1000000 in
theorem chk0 : chkF (psrV tX 127).2 (mFilm MM4) = true := by decide +kernel
