theorem uwX0 : ∀ w ∈ u_ws RX0 TX0 2, w ∈ tb := by
  have h : ∀ k, k < 2 → u_lay RX0 TX0 k ∈ tb := by
    intro k hk
    have hk2 : k = 0 ∨ k = 1 := by omega
    rcases hk2 with rfl | rfl
    · exact (tb_mem (t_in1 (List.mem_of_getElem? (i := 214) (by decide +kernel))) (by decide +kernel))
    · exact (tb_mem (t_in1 (List.mem_of_getElem? (i := 216) (by decide +kernel))) (by decide +kernel))
  intro w hw
  obtain ⟨k, hk, e⟩ := List.mem_map.mp hw
  rw [← e]
  exact h k (List.mem_range.mp hk)
theorem uwX1 : ∀ w ∈ u_ws RX1 TX1 9, w ∈ tb := by
  have h : ∀ k, k < 9 → u_lay RX1 TX1 k ∈ tb := by
    intro k hk
    have hk2 : k = 0 ∨ k = 1 ∨ k = 2 ∨ k = 3 ∨ k = 4 ∨ k = 5 ∨ k = 6 ∨ k = 7 ∨ k = 8 := by omega
    rcases hk2 with rfl | rfl | rfl | rfl | rfl | rfl | rfl | rfl | rfl
    · exact (tb_mem (t_in1 (List.mem_of_getElem? (i := 144) (by decide +kernel))) (by decide +kernel))
    · exact (tb_mem (t_in1 (List.mem_of_getElem? (i := 146) (by decide +kernel))) (by decide +kernel))
    · exact (tb_mem (t_in1 (List.mem_of_getElem? (i := 148) (by decide +kernel))) (by decide +kernel))
    · exact (tb_mem (t_in1 (List.mem_of_getElem? (i := 150) (by decide +kernel))) (by decide +kernel))
    · exact (tb_mem (t_in1 (List.mem_of_getElem? (i := 152) (by decide +kernel))) (by decide +kernel))
    · exact (tb_mem (t_in1 (List.mem_of_getElem? (i := 154) (by decide +kernel))) (by decide +kernel))
    · exact (tb_mem (t_in1 (List.mem_of_getElem? (i := 156) (by decide +kernel))) (by decide +kernel))
    · exact (tb_mem (t_in1 (List.mem_of_getElem? (i := 158) (by decide +kernel))) (by decide +kernel))
    · exact (tb_mem (t_in1 (List.mem_of_getElem? (i := 160) (by decide +kernel))) (by decide +kernel))
  intro w hw
  obtain ⟨k, hk, e⟩ := List.mem_map.mp hw
  rw [← e]
  exact h k (List.mem_range.mp hk)
theorem uwX2 : ∀ w ∈ u_ws RX2 TX2 10, w ∈ tb := by
  have h : ∀ k, k < 10 → u_lay RX2 TX2 k ∈ tb := by
    intro k hk
    have hk2 : k = 0 ∨ k = 1 ∨ k = 2 ∨ k = 3 ∨ k = 4 ∨ k = 5 ∨ k = 6 ∨ k = 7 ∨ k = 8 ∨ k = 9 := by omega
    rcases hk2 with rfl | rfl | rfl | rfl | rfl | rfl | rfl | rfl | rfl | rfl
    · exact (tb_mem (t_in1 (List.mem_of_getElem? (i := 239) (by decide +kernel))) (by decide +kernel))
    · exact (tb_mem (t_in2 (List.mem_of_getElem? (i := 1) (by decide +kernel))) (by decide +kernel))
    · exact (tb_mem (t_in2 (List.mem_of_getElem? (i := 3) (by decide +kernel))) (by decide +kernel))
    · exact (tb_mem (t_in2 (List.mem_of_getElem? (i := 5) (by decide +kernel))) (by decide +kernel))
    · exact (tb_mem (t_in2 (List.mem_of_getElem? (i := 7) (by decide +kernel))) (by decide +kernel))
    · exact (tb_mem (t_in2 (List.mem_of_getElem? (i := 9) (by decide +kernel))) (by decide +kernel))
    · exact (tb_mem (t_in2 (List.mem_of_getElem? (i := 11) (by decide +kernel))) (by decide +kernel))
    · exact (tb_mem (t_in2 (List.mem_of_getElem? (i := 13) (by decide +kernel))) (by decide +kernel))
    · exact (tb_mem (t_in2 (List.mem_of_getElem? (i := 15) (by decide +kernel))) (by decide +kernel))
    · exact (tb_mem (t_in2 (List.mem_of_getElem? (i := 17) (by decide +kernel))) (by decide +kernel))
  intro w hw
  obtain ⟨k, hk, e⟩ := List.mem_map.mp hw
  rw [← e]
  exact h k (List.mem_range.mp hk)
theorem uwX3 : ∀ w ∈ u_ws RX3 TX3 7, w ∈ tb := by
  have h : ∀ k, k < 7 → u_lay RX3 TX3 k ∈ tb := by
    intro k hk
    have hk2 : k = 0 ∨ k = 1 ∨ k = 2 ∨ k = 3 ∨ k = 4 ∨ k = 5 ∨ k = 6 := by omega
    rcases hk2 with rfl | rfl | rfl | rfl | rfl | rfl | rfl
    · exact (tb_mem (t_in1 (List.mem_of_getElem? (i := 91) (by decide +kernel))) (by decide +kernel))
    · exact (tb_mem (t_in1 (List.mem_of_getElem? (i := 93) (by decide +kernel))) (by decide +kernel))
    · exact (tb_mem (t_in1 (List.mem_of_getElem? (i := 95) (by decide +kernel))) (by decide +kernel))
    · exact (tb_mem (t_in1 (List.mem_of_getElem? (i := 97) (by decide +kernel))) (by decide +kernel))
    · exact (tb_mem (t_in1 (List.mem_of_getElem? (i := 99) (by decide +kernel))) (by decide +kernel))
    · exact (tb_mem (t_in1 (List.mem_of_getElem? (i := 101) (by decide +kernel))) (by decide +kernel))
    · exact (tb_mem (t_in1 (List.mem_of_getElem? (i := 103) (by decide +kernel))) (by decide +kernel))
  intro w hw
  obtain ⟨k, hk, e⟩ := List.mem_map.mp hw
  rw [← e]
  exact h k (List.mem_range.mp hk)
theorem uwX4 : ∀ w ∈ u_ws RX4 TX4 3, w ∈ tb := by
  have h : ∀ k, k < 3 → u_lay RX4 TX4 k ∈ tb := by
    intro k hk
    have hk2 : k = 0 ∨ k = 1 ∨ k = 2 := by omega
    rcases hk2 with rfl | rfl | rfl
    · exact (tb_mem (t_in1 (List.mem_of_getElem? (i := 199) (by decide +kernel))) (by decide +kernel))
    · exact (tb_mem (t_in1 (List.mem_of_getElem? (i := 201) (by decide +kernel))) (by decide +kernel))
    · exact (tb_mem (t_in1 (List.mem_of_getElem? (i := 203) (by decide +kernel))) (by decide +kernel))
  intro w hw
  obtain ⟨k, hk, e⟩ := List.mem_map.mp hw
  rw [← e]
  exact h k (List.mem_range.mp hk)
theorem uwX5 : ∀ w ∈ u_ws RX5 TX5 4, w ∈ tb := by
  have h : ∀ k, k < 4 → u_lay RX5 TX5 k ∈ tb := by
    intro k hk
    have hk2 : k = 0 ∨ k = 1 ∨ k = 2 ∨ k = 3 := by omega
    rcases hk2 with rfl | rfl | rfl | rfl
    · exact (tb_mem (t_in1 (List.mem_of_getElem? (i := 37) (by decide +kernel))) (by decide +kernel))
    · exact (tb_mem (t_in1 (List.mem_of_getElem? (i := 39) (by decide +kernel))) (by decide +kernel))
    · exact (tb_mem (t_in1 (List.mem_of_getElem? (i := 41) (by decide +kernel))) (by decide +kernel))
    · exact (tb_mem (t_in1 (List.mem_of_getElem? (i := 43) (by decide +kernel))) (by decide +kernel))
  intro w hw
  obtain ⟨k, hk, e⟩ := List.mem_map.mp hw
  rw [← e]
  exact h k (List.mem_range.mp hk)
theorem uwX6 : ∀ w ∈ u_ws RX6 TX6 4, w ∈ tb := by
  have h : ∀ k, k < 4 → u_lay RX6 TX6 k ∈ tb := by
    intro k hk
    have hk2 : k = 0 ∨ k = 1 ∨ k = 2 ∨ k = 3 := by omega
    rcases hk2 with rfl | rfl | rfl | rfl
    · exact (tb_mem (t_in1 (List.mem_of_getElem? (i := 175) (by decide +kernel))) (by decide +kernel))
    · exact (tb_mem (t_in1 (List.mem_of_getElem? (i := 177) (by decide +kernel))) (by decide +kernel))
    · exact (tb_mem (t_in1 (List.mem_of_getElem? (i := 179) (by decide +kernel))) (by decide +kernel))
    · exact (tb_mem (t_in1 (List.mem_of_getElem? (i := 181) (by decide +kernel))) (by decide +kernel))
  intro w hw
  obtain ⟨k, hk, e⟩ := List.mem_map.mp hw
  rw [← e]
  exact h k (List.mem_range.mp hk)
theorem uwX7 : ∀ w ∈ u_ws RX7 TX7 13, w ∈ tb := by
  have h : ∀ k, k < 13 → u_lay RX7 TX7 k ∈ tb := by
    intro k hk
    have hk2 : k = 0 ∨ k = 1 ∨ k = 2 ∨ k = 3 ∨ k = 4 ∨ k = 5 ∨ k = 6 ∨ k = 7 ∨ k = 8 ∨ k = 9 ∨ k = 10 ∨ k = 11 ∨ k = 12 := by omega
    rcases hk2 with rfl | rfl | rfl | rfl | rfl | rfl | rfl | rfl | rfl | rfl | rfl | rfl | rfl
    · exact (tb_mem (t_in2 (List.mem_of_getElem? (i := 228) (by decide +kernel))) (by decide +kernel))
    · exact (tb_mem (t_in2 (List.mem_of_getElem? (i := 230) (by decide +kernel))) (by decide +kernel))
    · exact (tb_mem (t_in2 (List.mem_of_getElem? (i := 232) (by decide +kernel))) (by decide +kernel))
    · exact (tb_mem (t_in2 (List.mem_of_getElem? (i := 234) (by decide +kernel))) (by decide +kernel))
    · exact (tb_mem (t_in2 (List.mem_of_getElem? (i := 236) (by decide +kernel))) (by decide +kernel))
    · exact (tb_mem (t_in2 (List.mem_of_getElem? (i := 238) (by decide +kernel))) (by decide +kernel))
    · exact (tb_mem (t_in3 (List.mem_of_getElem? (i := 0) (by decide +kernel))) (by decide +kernel))
    · exact (tb_mem (t_in3 (List.mem_of_getElem? (i := 2) (by decide +kernel))) (by decide +kernel))
    · exact (tb_mem (t_in3 (List.mem_of_getElem? (i := 4) (by decide +kernel))) (by decide +kernel))
    · exact (tb_mem (t_in3 (List.mem_of_getElem? (i := 6) (by decide +kernel))) (by decide +kernel))
    · exact (tb_mem (t_in3 (List.mem_of_getElem? (i := 8) (by decide +kernel))) (by decide +kernel))
    · exact (tb_mem (t_in3 (List.mem_of_getElem? (i := 10) (by decide +kernel))) (by decide +kernel))
    · exact (tb_mem (t_in3 (List.mem_of_getElem? (i := 12) (by decide +kernel))) (by decide +kernel))
  intro w hw
  obtain ⟨k, hk, e⟩ := List.mem_map.mp hw
  rw [← e]
  exact h k (List.mem_range.mp hk)
theorem uwX8 : ∀ w ∈ u_ws RX8 TX8 29, w ∈ tb := by
  have h : ∀ k, k < 29 → u_lay RX8 TX8 k ∈ tb := by
    intro k hk
    have hk2 : k = 0 ∨ k = 1 ∨ k = 2 ∨ k = 3 ∨ k = 4 ∨ k = 5 ∨ k = 6 ∨ k = 7 ∨ k = 8 ∨ k = 9 ∨ k = 10 ∨ k = 11 ∨ k = 12 ∨ k = 13 ∨ k = 14 ∨ k = 15 ∨ k = 16 ∨ k = 17 ∨ k = 18 ∨ k = 19 ∨ k = 20 ∨ k = 21 ∨ k = 22 ∨ k = 23 ∨ k = 24 ∨ k = 25 ∨ k = 26 ∨ k = 27 ∨ k = 28 := by omega
    rcases hk2 with rfl | rfl | rfl | rfl | rfl | rfl | rfl | rfl | rfl | rfl | rfl | rfl | rfl | rfl | rfl | rfl | rfl | rfl | rfl | rfl | rfl | rfl | rfl | rfl | rfl | rfl | rfl | rfl | rfl
    · exact (tb_mem (t_in4 (List.mem_of_getElem? (i := 137) (by decide +kernel))) (by decide +kernel))
    · exact (tb_mem (t_in4 (List.mem_of_getElem? (i := 139) (by decide +kernel))) (by decide +kernel))
    · exact (tb_mem (t_in4 (List.mem_of_getElem? (i := 141) (by decide +kernel))) (by decide +kernel))
    · exact (tb_mem (t_in4 (List.mem_of_getElem? (i := 143) (by decide +kernel))) (by decide +kernel))
    · exact (tb_mem (t_in4 (List.mem_of_getElem? (i := 145) (by decide +kernel))) (by decide +kernel))
    · exact (tb_mem (t_in4 (List.mem_of_getElem? (i := 147) (by decide +kernel))) (by decide +kernel))
    · exact (tb_mem (t_in4 (List.mem_of_getElem? (i := 149) (by decide +kernel))) (by decide +kernel))
    · exact (tb_mem (t_in4 (List.mem_of_getElem? (i := 151) (by decide +kernel))) (by decide +kernel))
    · exact (tb_mem (t_in4 (List.mem_of_getElem? (i := 153) (by decide +kernel))) (by decide +kernel))
    · exact (tb_mem (t_in4 (List.mem_of_getElem? (i := 155) (by decide +kernel))) (by decide +kernel))
    · exact (tb_mem (t_in4 (List.mem_of_getElem? (i := 157) (by decide +kernel))) (by decide +kernel))
    · exact (tb_mem (t_in4 (List.mem_of_getElem? (i := 159) (by decide +kernel))) (by decide +kernel))
    · exact (tb_mem (t_in4 (List.mem_of_getElem? (i := 161) (by decide +kernel))) (by decide +kernel))
    · exact (tb_mem (t_in4 (List.mem_of_getElem? (i := 163) (by decide +kernel))) (by decide +kernel))
    · exact (tb_mem (t_in4 (List.mem_of_getElem? (i := 165) (by decide +kernel))) (by decide +kernel))
    · exact (tb_mem (t_in4 (List.mem_of_getElem? (i := 167) (by decide +kernel))) (by decide +kernel))
    · exact (tb_mem (t_in4 (List.mem_of_getElem? (i := 169) (by decide +kernel))) (by decide +kernel))
    · exact (tb_mem (t_in4 (List.mem_of_getElem? (i := 171) (by decide +kernel))) (by decide +kernel))
    · exact (tb_mem (t_in4 (List.mem_of_getElem? (i := 173) (by decide +kernel))) (by decide +kernel))
    · exact (tb_mem (t_in4 (List.mem_of_getElem? (i := 175) (by decide +kernel))) (by decide +kernel))
    · exact (tb_mem (t_in4 (List.mem_of_getElem? (i := 177) (by decide +kernel))) (by decide +kernel))
    · exact (tb_mem (t_in4 (List.mem_of_getElem? (i := 179) (by decide +kernel))) (by decide +kernel))
    · exact (tb_mem (t_in4 (List.mem_of_getElem? (i := 181) (by decide +kernel))) (by decide +kernel))
    · exact (tb_mem (t_in4 (List.mem_of_getElem? (i := 183) (by decide +kernel))) (by decide +kernel))
    · exact (tb_mem (t_in4 (List.mem_of_getElem? (i := 185) (by decide +kernel))) (by decide +kernel))
    · exact (tb_mem (t_in4 (List.mem_of_getElem? (i := 187) (by decide +kernel))) (by decide +kernel))
    · exact (tb_mem (t_in4 (List.mem_of_getElem? (i := 189) (by decide +kernel))) (by decide +kernel))
    · exact (tb_mem (t_in4 (List.mem_of_getElem? (i := 191) (by decide +kernel))) (by decide +kernel))
    · exact (tb_mem (t_in4 (List.mem_of_getElem? (i := 193) (by decide +kernel))) (by decide +kernel))
  intro w hw
  obtain ⟨k, hk, e⟩ := List.mem_map.mp hw
  rw [← e]
  exact h k (List.mem_range.mp hk)
/-- every place of a row gets one value -/
def filM (M : Mem) (r : Nat) (i n v : Int) : Mem := fun r' i' j => if r' = r ∧ i' = i ∧ 0 ≤ j ∧ j < n then v else M r' i' j
