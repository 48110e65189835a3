theorem uwX0 : ∀ w ∈ u_ws RX0 TX0 2, w ∈ tb := by
  have h : ∀ k, k < 2 → u_lay RX0 TX0 k ∈ tb := by
    intro k hk
    have hk2 : k = 0 ∨ k = 1 := by omega
    rcases hk2 with rfl | rfl
    · exact (tb_mem (t_in1 (List.mem_of_getElem? (i := 214) (by decide +kernel))) (by decide +kernel))
    · exact (tb_mem (t_in1 (List.mem_of_getElem? (i := 216) (by decide +kernel))) (by decide +kernel))
  intro w hw
  obtain ⟨k, hk, e⟩ := List.mem_map.mp hw
  rw [← e]
  exact h k (List.mem_range.mp hk)
theorem uwX1 : ∀ w ∈ u_ws RX1 TX1 9, w ∈ tb := by
  have h : ∀ k, k < 9 → u_lay RX1 TX1 k ∈ tb := by
    intro k hk
    have hk2 : k = 0 ∨ k = 1 ∨ k = 2 ∨ k = 3 ∨ k = 4 ∨ k = 5 ∨ k = 6 ∨ k = 7 ∨ k = 8 := by omega
    rcases hk2 with rfl | rfl | rfl | rfl | rfl | rfl | rfl | rfl | rfl
    · exact (tb_mem (t_in1 (List.mem_of_getElem? (i := 144) (by decide +kernel))) (by decide +kernel))
    · exact (tb_mem (t_in1 (List.mem_of_getElem? (i := 146) (by decide +kernel))) (by decide +kernel))
    · exact (tb_mem (t_in1 (List.mem_of_getElem? (i := 148) (by decide +kernel))) (by decide +kernel))
    · exact (tb_mem (t_in1 (List.mem_of_getElem? (i := 150) (by decide +kernel))) (by decide +kernel))
    · exact (tb_mem (t_in1 (List.mem_of_getElem? (i := 152) (by decide +kernel))) (by decide +kernel))
    · exact (tb_mem (t_in1 (List.mem_of_getElem? (i := 154) (by decide +kernel))) (by decide +kernel))
    · exact (tb_mem (t_in1 (List.mem_of_getElem? (i := 156) (by decide +kernel))) (by decide +kernel))
    · exact (tb_mem (t_in1 (List.mem_of_getElem? (i := 158) (by decide +kernel))) (by decide +kernel))
    · exact (tb_mem (t_in1 (List.mem_of_getElem? (i := 160) (by decide +kernel))) (by decide +kernel))
  intro w hw
  obtain ⟨k, hk, e⟩ := List.mem_map.mp hw
  rw [← e]
  exact h k (List.mem_range.mp hk)
theorem uwX2 : ∀ w ∈ u_ws RX2 TX2 10, w ∈ tb := by
  have h : ∀ k, k < 10 → u_lay RX2 TX2 k ∈ tb := by
    intro k hk
    have hk2 : k = 0 ∨ k = 1 ∨ k = 2 ∨ k = 3 ∨ k = 4 ∨ k = 5 ∨ k = 6 ∨ k = 7 ∨ k = 8 ∨ k = 9 := by omega
    rcases hk2 with rfl | rfl | rfl | rfl | rfl | rfl | rfl | rfl | rfl | rfl
    · exact (tb_mem (t_in1 (List.mem_of_getElem? (i := 239) (by decide +kernel))) (by decide +kernel))
    · exact (tb_mem (t_in2 (List.mem_of_getElem? (i := 1) (by decide +kernel))) (by decide +kernel))
    · exact (tb_mem (t_in2 (List.mem_of_getElem? (i := 3) (by decide +kernel))) (by decide +kernel))
    · exact (tb_mem (t_in2 (List.mem_of_getElem? (i := 5) (by decide +kernel))) (by decide +kernel))
    · exact (tb_mem (t_in2 (List.mem_of_getElem? (i := 7) (by decide +kernel))) (by decide +kernel))
    · exact (tb_mem (t_in2 (List.mem_of_getElem? (i := 9) (by decide +kernel))) (by decide +kernel))
    · exact (tb_mem (t_in2 (List.mem_of_getElem? (i := 11) (by decide +kernel))) (by decide +kernel))
    · exact (tb_mem (t_in2 (List.mem_of_getElem? (i := 13) (by decide +kernel))) (by decide +kernel))
    · exact (tb_mem (t_in2 (List.mem_of_getElem? (i := 15) (by decide +kernel))) (by decide +kernel))
    · exact (tb_mem (t_in2 (List.mem_of_getElem? (i := 17) (by decide +kernel))) (by decide +kernel))
  intro w hw
  obtain ⟨k, hk, e⟩ := List.mem_map.mp hw
  rw [← e]
  exact h k (List.mem_range.mp hk)
theorem uwX3 : ∀ w ∈ u_ws RX3 TX3 7, w ∈ tb := by
  have h : ∀ k, k < 7 → u_lay RX3 TX3 k ∈ tb := by
    intro k hk
    have hk2 : k = 0 ∨ k = 1 ∨ k = 2 ∨ k = 3 ∨ k = 4 ∨ k = 5 ∨ k = 6 := by omega
    rcases hk2 with rfl | rfl | rfl | rfl | rfl | rfl | rfl
    · exact (tb_mem (t_in1 (List.mem_of_getElem? (i := 91) (by decide +kernel))) (by decide +kernel))
    · exact (tb_mem (t_in1 (List.mem_of_getElem? (i := 93) (by decide +kernel))) (by decide +kernel))
    · exact (tb_mem (t_in1 (List.mem_of_getElem? (i := 95) (by decide +kernel))) (by decide +kernel))
    · exact (tb_mem (t_in1 (List.mem_of_getElem? (i := 97) (by decide +kernel))) (by decide +kernel))
    · exact (tb_mem (t_in1 (List.mem_of_getElem? (i := 99) (by decide +kernel))) (by decide +kernel))
    · exact (tb_mem (t_in1 (List.mem_of_getElem? (i := 101) (by decide +kernel))) (by decide +kernel))
    · exact (tb_mem (t_in1 (List.mem_of_getElem? (i := 103) (by decide +kernel))) (by decide +kernel))
  intro w hw
  obtain ⟨k, hk, e⟩ := List.mem_map.mp hw
  rw [← e]
  exact h k (List.mem_range.mp hk)
theorem uwX4 : ∀ w ∈ u_ws RX4 TX4 3, w ∈ tb := by
  have h : ∀ k, k < 3 → u_lay RX4 TX4 k ∈ tb := by
    intro k hk
    have hk2 : k = 0 ∨ k = 1 ∨ k = 2 := by omega
    rcases hk2 with rfl | rfl | rfl
    · exact (tb_mem (t_in1 (List.mem_of_getElem? (i := 199) (by decide +kernel))) (by decide +kernel))
    · exact (tb_mem (t_in1 (List.mem_of_getElem? (i := 201) (by decide +kernel))) (by decide +kernel))
    · exact (tb_mem (t_in1 (List.mem_of_getElem? (i := 203) (by decide +kernel))) (by decide +kernel))
  intro w hw
  obtain ⟨k, hk, e⟩ := List.mem_map.mp hw
  rw [← e]
  exact h k (List.mem_range.mp hk)
theorem uwX5 : ∀ w ∈ u_ws RX5 TX5 4, w ∈ tb := by
  have h : ∀ k, k < 4 → u_lay RX5 TX5 k ∈ tb := by
    intro k hk
    have hk2 : k = 0 ∨ k = 1 ∨ k = 2 ∨ k = 3 := by omega
    rcases hk2 with rfl | rfl | rfl | rfl
    · exact (tb_mem (t_in1 (List.mem_of_getElem? (i := 37) (by decide +kernel))) (by decide +kernel))
    · exact (tb_mem (t_in1 (List.mem_of_getElem? (i := 39) (by decide +kernel))) (by decide +kernel))
    · exact (tb_mem (t_in1 (List.mem_of_getElem? (i := 41) (by decide +kernel))) (by decide +kernel))
    · exact (tb_mem (t_in1 (List.mem_of_getElem? (i := 43) (by decide +kernel))) (by decide +kernel))
  intro w hw
  obtain ⟨k, hk, e⟩ := List.mem_map.mp hw
  rw [← e]
  exact h k (List.mem_range.mp hk)
theorem uwX6 : ∀ w ∈ u_ws RX6 TX6 4, w ∈ tb := by
  have h : ∀ k, k < 4 → u_lay RX6 TX6 k ∈ tb := by
    intro k hk
    have hk2 : k = 0 ∨ k = 1 ∨ k = 2 ∨ k = 3 := by omega
    rcases hk2 with rfl | rfl | rfl | rfl
    · exact (tb_mem (t_in1 (List.mem_of_getElem? (i := 175) (by decide +kernel))) (by decide +kernel))
    · exact (tb_mem (t_in1 (List.mem_of_getElem? (i := 177) (by decide +kernel))) (by decide +kernel))
    · exact (tb_mem (t_in1 (List.mem_of_getElem? (i := 179) (by decide +kernel))) (by decide +kernel))
    · exact (tb_mem (t_in1 (List.mem_of_getElem? (i := 181) (by decide +kernel))) (by decide +kernel))
  intro w hw
  obtain ⟨k, hk, e⟩ := List.mem_map.mp hw
  rw [← e]
  exact h k (List.mem_range.mp hk)
theorem uwX7 : ∀ w ∈ u_ws RX7 TX7 13, w ∈ tb := by
  have h : ∀ k, k < 13 → u_lay RX7 TX7 k ∈ tb := by
    intro k hk
    have hk2 : k = 0 ∨ k = 1 ∨ k = 2 ∨ k = 3 ∨ k = 4 ∨ k = 5 ∨ k = 6 ∨ k = 7 ∨ k = 8 ∨ k = 9 ∨ k = 10 ∨ k = 11 ∨ k = 12 := by omega
    rcases hk2 with rfl | rfl | rfl | rfl | rfl | rfl | rfl | rfl | rfl | rfl | rfl | rfl | rfl
    · exact (tb_mem (t_in2 (List.mem_of_getElem? (i := 228) (by decide +kernel))) (by decide +kernel))
    · exact (tb_mem (t_in2 (List.mem_of_getElem? (i := 230) (by decide +kernel))) (by decide +kernel))
    · exact (tb_mem (t_in2 (List.mem_of_getElem? (i := 232) (by decide +kernel))) (by decide +kernel))
    · exact (tb_mem (t_in2 (List.mem_of_getElem? (i := 234) (by decide +kernel))) (by decide +kernel))
    · exact (tb_mem (t_in2 (List.mem_of_getElem? (i := 236) (by decide +kernel))) (by decide +kernel))
    · exact (tb_mem (t_in2 (List.mem_of_getElem? (i := 238) (by decide +kernel))) (by decide +kernel))
    · exact (tb_mem (t_in3 (List.mem_of_getElem? (i := 0) (by decide +kernel))) (by decide +kernel))
    · exact (tb_mem (t_in3 (List.mem_of_getElem? (i := 2) (by decide +kernel))) (by decide +kernel))
    · exact (tb_mem (t_in3 (List.mem_of_getElem? (i := 4) (by decide +kernel))) (by decide +kernel))
    · exact (tb_mem (t_in3 (List.mem_of_getElem? (i := 6) (by decide +kernel))) (by decide +kernel))
    · exact (tb_mem (t_in3 (List.mem_of_getElem? (i := 8) (by decide +kernel))) (by decide +kernel))
    · exact (tb_mem (t_in3 (List.mem_of_getElem? (i := 10) (by decide +kernel))) (by decide +kernel))
    · exact (tb_mem (t_in3 (List.mem_of_getElem? (i := 12) (by decide +kernel))) (by decide +kernel))
  intro w hw
  obtain ⟨k, hk, e⟩ := List.mem_map.mp hw
  rw [← e]
  exact h k (List.mem_range.mp hk)
theorem uwX8 : ∀ w ∈ u_ws RX8 TX8 29, w ∈ tb := by
  have h : ∀ k, k < 29 → u_lay RX8 TX8 k ∈ tb := by
    intro k hk
    have hk2 : k = 0 ∨ k = 1 ∨ k = 2 ∨ k = 3 ∨ k = 4 ∨ k = 5 ∨ k = 6 ∨ k = 7 ∨ k = 8 ∨ k = 9 ∨ k = 10 ∨ k = 11 ∨ k = 12 ∨ k = 13 ∨ k = 14 ∨ k = 15 ∨ k = 16 ∨ k = 17 ∨ k = 18 ∨ k = 19 ∨ k = 20 ∨ k = 21 ∨ k = 22 ∨ k = 23 ∨ k = 24 ∨ k = 25 ∨ k = 26 ∨ k = 27 ∨ k = 28 := by omega
    rcases hk2 with rfl | rfl | rfl | rfl | rfl | rfl | rfl | rfl | rfl | rfl | rfl | rfl | rfl | rfl | rfl | rfl | rfl | rfl | rfl | rfl | rfl | rfl | rfl | rfl | rfl | rfl | rfl | rfl | rfl
    · exact (tb_mem (t_in4 (List.mem_of_getElem? (i := 137) (by decide +kernel))) (by decide +kernel))
    · exact (tb_mem (t_in4 (List.mem_of_getElem? (i := 139) (by decide +kernel))) (by decide +kernel))
    · exact (tb_mem (t_in4 (List.mem_of_getElem? (i := 141) (by decide +kernel))) (by decide +kernel))
    · exact (tb_mem (t_in4 (List.mem_of_getElem? (i := 143) (by decide +kernel))) (by decide +kernel))
    · exact (tb_mem (t_in4 (List.mem_of_getElem? (i := 145) (by decide +kernel))) (by decide +kernel))
    · exact (tb_mem (t_in4 (List.mem_of_getElem? (i := 147) (by decide +kernel))) (by decide +kernel))
    · exact (tb_mem (t_in4 (List.mem_of_getElem? (i := 149) (by decide +kernel))) (by decide +kernel))
    · exact (tb_mem (t_in4 (List.mem_of_getElem? (i := 151) (by decide +kernel))) (by decide +kernel))
    · exact (tb_mem (t_in4 (List.mem_of_getElem? (i := 153) (by decide +kernel))) (by decide +kernel))
    · exact (tb_mem (t_in4 (List.mem_of_getElem? (i := 155) (by decide +kernel))) (by decide +kernel))
    · exact (tb_mem (t_in4 (List.mem_of_getElem? (i := 157) (by decide +kernel))) (by decide +kernel))
    · exact (tb_mem (t_in4 (List.mem_of_getElem? (i := 159) (by decide +kernel))) (by decide +kernel))
    · exact (tb_mem (t_in4 (List.mem_of_getElem? (i := 161) (by decide +kernel))) (by decide +kernel))
    · exact (tb_mem (t_in4 (List.mem_of_getElem? (i := 163) (by decide +kernel))) (by decide +kernel))
    · exact (tb_mem (t_in4 (List.mem_of_getElem? (i := 165) (by decide +kernel))) (by decide +kernel))
    · exact (tb_mem (t_in4 (List.mem_of_getElem? (i := 167) (by decide +kernel))) (by decide +kernel))
    · exact (tb_mem (t_in4 (List.mem_of_getElem? (i := 169) (by decide +kernel))) (by decide +kernel))
    · exact (tb_mem (t_in4 (List.mem_of_getElem? (i := 171) (by decide +kernel))) (by decide +kernel))
    · exact (tb_mem (t_in4 (List.mem_of_getElem? (i := 173) (by decide +kernel))) (by decide +kernel))
    · exact (tb_mem (t_in4 (List.mem_of_getElem? (i := 175) (by decide +kernel))) (by decide +kernel))
    · exact (tb_mem (t_in4 (List.mem_of_getElem? (i := 177) (by decide +kernel))) (by decide +kernel))
    · exact (tb_mem (t_in4 (List.mem_of_getElem? (i := 179) (by decide +kernel))) (by decide +kernel))
    · exact (tb_mem (t_in4 (List.mem_of_getElem? (i := 181) (by decide +kernel))) (by decide +kernel))
    · exact (tb_mem (t_in4 (List.mem_of_getElem? (i := 183) (by decide +kernel))) (by decide +kernel))
    · exact (tb_mem (t_in4 (List.mem_of_getElem? (i := 185) (by decide +kernel))) (by decide +kernel))
    · exact (tb_mem (t_in4 (List.mem_of_getElem? (i := 187) (by decide +kernel))) (by decide +kernel))
    · exact (tb_mem (t_in4 (List.mem_of_getElem? (i := 189) (by decide +kernel))) (by decide +kernel))
    · exact (tb_mem (t_in4 (List.mem_of_getElem? (i := 191) (by decide +kernel))) (by decide +kernel))
    · exact (tb_mem (t_in4 (List.mem_of_getElem? (i := 193) (by decide +kernel))) (by decide +kernel))
  intro w hw
  obtain ⟨k, hk, e⟩ := List.mem_map.mp hw
  rw [← e]
  exact h k (List.mem_range.mp hk)
/-- every place of a row gets one value -/
def filM (M : Mem) (r : Nat) (i n v : Int) : Mem := fun r' i' j => if r' = r ∧ i' = i ∧ 0 ≤ j ∧ j < n then v else M r' i' j
theorem filM_0 (M : Mem) (r : Nat) (i v : Int) : filM M r i 0 v = M := by
  funext r' i' j
  unfold filM
  rw [if_neg (by omega)]
theorem filM_s (M : Mem) (r : Nat) (i n v : Int) (hn : 0 ≤ n) : up3 (filM M r i n v) r i n v = filM M r i (n + 1) v := by
  funext r' i' j
  unfold up3 filM
  by_cases h : r' = r ∧ i' = i
  · obtain ⟨h1, h2⟩ := h
    by_cases h3 : j = n
    · rw [if_pos ⟨h1, h2, h3⟩, if_pos ⟨h1, h2, by omega, by omega⟩]
    · rw [if_neg (fun q => h3 q.2.2)]
      by_cases h4 : 0 ≤ j ∧ j < n
      · rw [if_pos ⟨h1, h2, h4⟩, if_pos ⟨h1, h2, by omega, by omega⟩]
      · rw [if_neg (fun q => h4 q.2.2), if_neg (fun q => h4 ⟨q.2.2.1, by have := q.2.2.2; omega⟩)]
  · rw [if_neg (fun q => h ⟨q.1, q.2.1⟩), if_neg (fun q => h ⟨q.1, q.2.1⟩), if_neg (fun q => h ⟨q.1, q.2.1⟩)]
theorem up3_s (M : Mem) (r : Nat) (i j v : Int) : up3 M r i j v r i j = v := if_pos ⟨rfl, rfl, rfl⟩
theorem up3_r (M : Mem) (r : Nat) (i j v : Int) {r' : Nat} (h : r' ≠ r) (i' j' : Int) : up3 M r i j v r' i' j' = M r' i' j' := if_neg (fun q => h q.1)
theorem up3_i (M : Mem) (r : Nat) (i j v : Int) {r' : Nat} {i' : Int} (h : i' ≠ i) (j' : Int) : up3 M r i j v r' i' j' = M r' i' j' := if_neg (fun q => h q.2.1)
theorem up3_j (M : Mem) (r : Nat) (i j v : Int) {r' : Nat} {i' j' : Int} (h : j' ≠ j) : up3 M r i j v r' i' j' = M r' i' j' := if_neg (fun q => h q.2.2)
theorem v_alen {κ : Kx} {own : String} {cc : ByteArray} {nL : Nat} {ret : Option FieldType} {rm : Room} {dom : Nat → Bool} {M : Mem} {pc : Nat} {lv : List (Option PV)} {st : List PV} {K : Kont} (C : Cx κ own cc nL ret rm dom) {r : Nat} {i : Int} (hd : decode cc pc = .ok (.arraylength, 1)) (hk : kd r = 20) (hs : inR (sz r)) (k : V κ nL M (pc + 1) lv (.inl (sz r) :: st) K) : V κ nL M pc lv (.inr (r, i) :: st) K := by
  refine ⟨?_, trivial⟩
  intro oM oL oS H locs ls hH hS hl
  obtain ⟨hv, oS⟩ := oS
  have h := k.1 oM oL ⟨hs, oS⟩ H locs ls hH hS hl
  have hat := hH r i hv.1 hv.2.1 hv.2.2
  rw [ent_int hk] at hat
  refine va_alen C.1 C.2.1 C.2.2.2.2.2.2.1 (P_one hat) 0 0 rfl rfl (v := Int32.ofInt (sz r)) ?_ hd h
  rw [Int32.ofInt_eq_ofNat]
theorem sz_small : ∀ r, inR (sz r) := by
  intro r
  by_cases h : r < 57
  · have key : ∀ r, r < 57 → sz r ≤ 20000 := by decide
    have := key r h
    constructor <;> omega
  · have : sz r = 0 := by
      unfold sz
      have e : rgT.getD r (99, 0, 0) = (99, 0, 0) := by
        rw [List.getD_eq_getElem?_getD, List.getElem?_eq_none (by simp [rgT]; omega)]
        rfl
      rw [e]
    rw [this]
    decide
abbrev rmJ7_fill : Room := { frames := 0, cells := 0, slots := 0, locals := 0 }
abbrev argFill (a : Nat × Int × Int) : List PV := [.inr (a.1, a.2.1), .inl a.2.2]
abbrev spFill (a : Nat × Int × Int) (M : Mem) (K : Kont) : Prop := kd a.1 = 20 ∧ K none (filM M a.1 a.2.1 (sz a.1) a.2.2)
theorem dJ7_fill_53178_0 : decode cJ7_fill_53178 0 = .ok (.iconst 0, 1) := by decide +kernel
theorem dJ7_fill_53178_1 : decode cJ7_fill_53178 1 = .ok (.istore_n 2, 1) := by decide +kernel
theorem dJ7_fill_53178_2 : decode cJ7_fill_53178 2 = .ok (.aload_n 0, 1) := by decide +kernel
theorem dJ7_fill_53178_3 : decode cJ7_fill_53178 3 = .ok (.arraylength, 1) := by decide +kernel
theorem dJ7_fill_53178_4 : decode cJ7_fill_53178 4 = .ok (.istore_n 3, 1) := by decide +kernel
theorem dJ7_fill_53178_5 : decode cJ7_fill_53178 5 = .ok (.iload_n 2, 1) := by decide +kernel
theorem dJ7_fill_53178_6 : decode cJ7_fill_53178 6 = .ok (.iload_n 3, 1) := by decide +kernel
theorem dJ7_fill_53178_7 : decode cJ7_fill_53178 7 = .ok (.if_icmp .ge 13, 3) := by decide +kernel
theorem dJ7_fill_53178_10 : decode cJ7_fill_53178 10 = .ok (.aload_n 0, 1) := by decide +kernel
theorem dJ7_fill_53178_11 : decode cJ7_fill_53178 11 = .ok (.iload_n 2, 1) := by decide +kernel
theorem dJ7_fill_53178_12 : decode cJ7_fill_53178 12 = .ok (.iload_n 1, 1) := by decide +kernel
theorem dJ7_fill_53178_13 : decode cJ7_fill_53178 13 = .ok (.iastore, 1) := by decide +kernel
theorem dJ7_fill_53178_14 : decode cJ7_fill_53178 14 = .ok (.iinc 2 1, 3) := by decide +kernel
theorem dJ7_fill_53178_17 : decode cJ7_fill_53178 17 = .ok (.goto (-12), 3) := by decide +kernel
theorem dJ7_fill_53178_20 : decode cJ7_fill_53178 20 = .ok (.return_, 1) := by decide +kernel
theorem fill_loop {κ : Kx} {K : Kont} {M : Mem} {dom : Nat → Bool} (C : Cx κ RJ7 cJ7_fill_53178 4 none rmJ7_fill dom) (r : Nat) (i v : Int) (hr : kd r = 20) (h : K none (filM M r i (sz r) v)) :
    ∀ (n : Nat) (j : Int), 0 ≤ j → j + n = sz r → V κ 4 (filM M r i j v) 5 [some (.inr (r, i)), some (.inl v), some (.inl j), some (.inl (sz r))] [] K := by
  intro n
  induction n with
  | zero =>
    intro j h0 hj
    have e : j = sz r := by omega
    refine v_iload_n C dJ7_fill_53178_5 rfl ?_
    refine v_iload_n C dJ7_fill_53178_6 rfl ?_
    refine v_icmp C dJ7_fill_53178_7 (tgt := 20) (by decide) (P := (sz r : Int) ≤ j) rfl (fun c => ?_) (fun c => ?_)
    · rw [e]
      exact v_vret C dJ7_fill_53178_20 h
    · exact absurd (by omega) c
  | succ n ih =>
    intro j h0 hj
    have hz := sz_small r
    refine v_iload_n C dJ7_fill_53178_5 rfl ?_
    refine v_iload_n C dJ7_fill_53178_6 rfl ?_
    refine v_icmp C dJ7_fill_53178_7 (tgt := 20) (by decide) (P := (sz r : Int) ≤ j) rfl (fun c => ?_) (fun c => ?_)
    · exact absurd c (by omega)
    · refine v_aload_n C dJ7_fill_53178_10 rfl ?_
      refine v_iload_n C dJ7_fill_53178_11 rfl ?_
      refine v_iload_n C dJ7_fill_53178_12 rfl ?_
      refine v_iast C dJ7_fill_53178_13 hr h0 (by omega) ?_
      rw [filM_s _ _ _ _ _ h0]
      refine v_iinc C dJ7_fill_53178_14 (by decide) rfl (by omega) (lv' := [some (.inr (r, i)), some (.inl v), some (.inl (j + 1)), some (.inl (sz r))]) rfl ?_
      refine v_goto C dJ7_fill_53178_17 (tgt := 5) (by decide) ?_
      exact ih (j + 1) (by omega) (by omega)
theorem ctFill (dom : Nat → Bool) (hdm : Dm dom) : Ct yJ7_fill_53178 cJ7_fill_53178 4 none rmJ7_fill dom argFill spFill := by
  refine ct_of (by decide) hdm (fun _ => Nat.le_of_ble_eq_true rfl) ?_
  intro κ a M K C oM h
  obtain ⟨r, i, v⟩ := a
  show V κ 4 M 0 [some (.inr (r, i)), some (.inl v), none, none] [] K
  refine v_iconst C dJ7_fill_53178_0 (by decide) ?_
  refine v_istore_n C dJ7_fill_53178_1 (by decide) (Nat.le_of_ble_eq_true rfl) (lv' := [some (.inr (r, i)), some (.inl v), some (.inl 0), none]) rfl ?_
  refine v_aload_n C dJ7_fill_53178_2 rfl ?_
  refine v_alen C dJ7_fill_53178_3 h.1 (sz_small r) ?_
  refine v_istore_n C dJ7_fill_53178_4 (by decide) (Nat.le_of_ble_eq_true rfl) (lv' := [some (.inr (r, i)), some (.inl v), some (.inl 0), some (.inl (sz r))]) rfl ?_
  have := fill_loop (M := M) C r i v h.1 h.2 (sz r) 0 (by omega) (by omega)
  rw [filM_0] at this
  exact this
