/-! ===== String's methods, walked: isLatin1, coder, length, charAt, indexOf ===== -/
abbrev rmS (f l : Nat) : Room := { frames := f, cells := 0, slots := 0, locals := l }
section SR1
variable {κ : Ks} {own : String} {cc : ByteArray} {nL : Nat} {ret : Option FieldType} {rm : Room} {adK adV : Nat → Nat} {A : Nat → Prop} {pc : Nat} {lv : List (Nat × Value)} {st : List Value} {r : Option Int32}
theorem s_invV1 (C : Cs κ own cc nL ret rm adK adV A) {y : MethodName} {b : ByteArray} {mL : Nat} {rt : Option FieldType} {rm' : Room} {x : Int32} {i idx n : Nat} {As st0 : List Value} (hi : i < 2) (hy : y.cls = "java/lang/String") (hM : CtS y b mL rt rm' adK adV A (.ref (adK i) :: As) (some x)) (hd : decode cc pc = .ok (.invokevirtual idx, 3)) (hw : IV own idx y b mL rt n) (hR : RmOk rm' rm mL) (hn : As.length = n) (hst : st0 = As.reverse ++ .ref (adK i) :: st) (h8 : (st.map fun v => v.category).sum ≤ 8)
    (k : SJ κ nL (pc + 3) lv (.int x :: st) r) : SJ κ nL pc lv st0 r := s_invV C hi hy hM hd hw hR hn hst h8 k
theorem s_invS1 (C : Cs κ own cc nL ret rm adK adV A) {y : MethodName} {b : ByteArray} {mL : Nat} {rt : Option FieldType} {rm' : Room} {x : Int32} {idx n : Nat} {As st0 : List Value} (hM : CtS y b mL rt rm' adK adV A As (some x)) (hd : decode cc pc = .ok (.invokestatic idx, 3)) (hw : IS own idx y b mL rt n) (hR : RmOk rm' rm mL) (hn : As.length = n) (hst : st0 = As.reverse ++ st) (h8 : (st.map fun v => v.category).sum ≤ 8)
    (k : SJ κ nL (pc + 3) lv (.int x :: st) r) : SJ κ nL pc lv st0 r := s_invS C hM hd hw hR hn hst h8 k
theorem s_invS0 (C : Cs κ own cc nL ret rm adK adV A) {y : MethodName} {b : ByteArray} {mL : Nat} {rt : Option FieldType} {rm' : Room} {idx n : Nat} {As st0 : List Value} (hM : CtS y b mL rt rm' adK adV A As none) (hd : decode cc pc = .ok (.invokestatic idx, 3)) (hw : IS own idx y b mL rt n) (hR : RmOk rm' rm mL) (hn : As.length = n) (hst : st0 = As.reverse ++ st) (h8 : (st.map fun v => v.category).sum ≤ 8)
    (k : SJ κ nL (pc + 3) lv st r) : SJ κ nL pc lv st0 r := s_invS C hM hd hw hR hn hst h8 k
theorem s_aload_v (C : Cs κ own cc nL ret rm adK adV A) {i : Fin 4} {a : Nat} (hd : decode cc pc = .ok (.aload_n i, 1)) (q : Nat) (hv : lv[q]? = some (i.val, .ref a)) (k : SJ κ nL (pc + 1) lv (.ref a :: st) r) : SJ κ nL pc lv st r := s_aload_n C hd q hv k
theorem s_min (C : Cs κ own cc nL ret rm adK adV A) {idx : Nat} {x y v : Int32} (hd : decode cc pc = .ok (.invokestatic idx, 3)) (hw : IMin own idx) (h8 : (st.map fun v => v.category).sum ≤ 8) (hR : 1 ≤ rm.frames ∧ 21 ≤ rm.locals) (hv : (if y < x then y else x) = v) (k : SJ κ nL (pc + 3) lv (.int v :: st) r) : SJ κ nL pc lv (.int y :: .int x :: st) r := by
  refine ⟨fun ls hl => ?_, trivial⟩
  obtain ⟨c1, c2, c3, c4, c5, c6, c7, c8, c9⟩ := id C
  refine va_mmin c1 c2 (by rw [c3]; exact hl.1.symm) c4 (c5 _ hw.1) (c5 _ hw.2.1) (c5 _ hw.2.2.1) (c5 _ hw.2.2.2) (by rw [c9]; exact hR.1) (by rw [c9]; have := hR.2; omega) (Nat.zero_le _) (Nat.zero_le _) hd ?_
  rw [hv]
  exact k.1 ls hl
theorem s_max (C : Cs κ own cc nL ret rm adK adV A) {idx : Nat} {x y v : Int32} (hd : decode cc pc = .ok (.invokestatic idx, 3)) (hw : IMax own idx) (h8 : (st.map fun v => v.category).sum ≤ 8) (hR : 1 ≤ rm.frames ∧ 21 ≤ rm.locals) (hv : (if x < y then y else x) = v) (k : SJ κ nL (pc + 3) lv (.int v :: st) r) : SJ κ nL pc lv (.int y :: .int x :: st) r := by
  refine ⟨fun ls hl => ?_, trivial⟩
  obtain ⟨c1, c2, c3, c4, c5, c6, c7, c8, c9⟩ := id C
  refine va_mmax c1 c2 (by rw [c3]; exact hl.1.symm) c4 (c5 _ hw.1) (c5 _ hw.2.1) (c5 _ hw.2.2.1) (c5 _ hw.2.2.2) (by rw [c9]; exact hR.1) (by rw [c9]; have := hR.2; omega) (Nat.zero_le _) (Nat.zero_le _) hd ?_
  rw [hv]
  exact k.1 ls hl
end SR1
theorem fwJ0_9 : Cond.fieldLink "java/lang/String" 9 "java/lang/String" "value" "[B" ∈ tb := (tb_mem (t_in5 (List.mem_of_getElem? (i := 169) (by decide +kernel))) (by decide +kernel))
theorem fwJ0_15 : Cond.fieldLink "java/lang/String" 15 "java/lang/String" "coder" "B" ∈ tb := (tb_mem (t_in5 (List.mem_of_getElem? (i := 170) (by decide +kernel))) (by decide +kernel))
theorem fwJ0_38 : Cond.fieldLink "java/lang/String" 38 "java/lang/String" "COMPACT_STRINGS" "Z" ∈ tb := (tb_mem (t_in2 (List.mem_of_getElem? (i := 29) (by decide +kernel))) (by decide +kernel))
theorem fwJ0_1053 : Cond.fieldLink "java/lang/String" 1053 "jdk/internal/util/Preconditions" "SIOOBE_FORMATTER" "Ljava/util/function/BiFunction;" ∈ tb := (tb_mem (t_in2 (List.mem_of_getElem? (i := 48) (by decide +kernel))) (by decide +kernel))
theorem ivJ0_492 : IV RJ0 492 yJ0_isLatin1_aae02 cJ0_isLatin1_aae02 1 (some .boolean) 0 := ⟨(tb_mem (t_in2 (List.mem_of_getElem? (i := 38) (by decide +kernel))) (by decide +kernel)), (tb_mem (t_in2 (List.mem_of_getElem? (i := 39) (by decide +kernel))) (by decide +kernel)), (tb_mem (t_in2 (List.mem_of_getElem? (i := 40) (by decide +kernel))) (by decide +kernel)), (tb_mem (t_in1 (List.mem_of_getElem? (i := 10) (by decide +kernel))) (by decide +kernel)), (tb_mem (t_in2 (List.mem_of_getElem? (i := 41) (by decide +kernel))) (by decide +kernel)), ⟨by decide +kernel, by decide +kernel, by decide +kernel⟩⟩
theorem ivJ0_335 : IV RJ0 335 yJ0_coder_7d493 cJ0_coder_7d493 1 (some .byte) 0 := ⟨(tb_mem (t_in2 (List.mem_of_getElem? (i := 25) (by decide +kernel))) (by decide +kernel)), (tb_mem (t_in2 (List.mem_of_getElem? (i := 26) (by decide +kernel))) (by decide +kernel)), (tb_mem (t_in2 (List.mem_of_getElem? (i := 27) (by decide +kernel))) (by decide +kernel)), (tb_mem (t_in1 (List.mem_of_getElem? (i := 10) (by decide +kernel))) (by decide +kernel)), (tb_mem (t_in2 (List.mem_of_getElem? (i := 28) (by decide +kernel))) (by decide +kernel)), ⟨by decide +kernel, by decide +kernel, by decide +kernel⟩⟩
theorem ivJ0_505 : IV RJ0 505 yJ0_length_8abf5 cJ0_length_8abf5 1 (some .int) 0 := ⟨(tb_mem (t_in2 (List.mem_of_getElem? (i := 109) (by decide +kernel))) (by decide +kernel)), (tb_mem (t_in2 (List.mem_of_getElem? (i := 22) (by decide +kernel))) (by decide +kernel)), (tb_mem (t_in2 (List.mem_of_getElem? (i := 23) (by decide +kernel))) (by decide +kernel)), (tb_mem (t_in1 (List.mem_of_getElem? (i := 10) (by decide +kernel))) (by decide +kernel)), (tb_mem (t_in2 (List.mem_of_getElem? (i := 24) (by decide +kernel))) (by decide +kernel)), ⟨by decide +kernel, by decide +kernel, by decide +kernel⟩⟩
theorem ivJ0_495 : IS RJ0 495 yJ1_charAt_3b067 cJ1_charAt_3b067 2 (some .char) 2 := ⟨(tb_mem (t_in2 (List.mem_of_getElem? (i := 42) (by decide +kernel))) (by decide +kernel)), (tb_mem (t_in2 (List.mem_of_getElem? (i := 43) (by decide +kernel))) (by decide +kernel)), (tb_mem (t_in1 (List.mem_of_getElem? (i := 12) (by decide +kernel))) (by decide +kernel)), (tb_mem (t_in2 (List.mem_of_getElem? (i := 44) (by decide +kernel))) (by decide +kernel)), ⟨by decide +kernel, by decide +kernel, by decide +kernel⟩⟩
theorem ivJ0_633 : IV RJ0 633 yJ0_indexOf_7cf53 cJ0_indexOf_7cf53 3 (some .int) 2 := ⟨(tb_mem (t_in2 (List.mem_of_getElem? (i := 105) (by decide +kernel))) (by decide +kernel)), (tb_mem (t_in2 (List.mem_of_getElem? (i := 106) (by decide +kernel))) (by decide +kernel)), (tb_mem (t_in2 (List.mem_of_getElem? (i := 107) (by decide +kernel))) (by decide +kernel)), (tb_mem (t_in1 (List.mem_of_getElem? (i := 10) (by decide +kernel))) (by decide +kernel)), (tb_mem (t_in2 (List.mem_of_getElem? (i := 108) (by decide +kernel))) (by decide +kernel)), ⟨by decide +kernel, by decide +kernel, by decide +kernel⟩⟩
theorem ivJ0_637 : IS RJ0 637 yJ1_indexOf_4cfef cJ1_indexOf_4cfef 4 (some .int) 4 := ⟨(tb_mem (t_in2 (List.mem_of_getElem? (i := 110) (by decide +kernel))) (by decide +kernel)), (tb_mem (t_in2 (List.mem_of_getElem? (i := 111) (by decide +kernel))) (by decide +kernel)), (tb_mem (t_in1 (List.mem_of_getElem? (i := 12) (by decide +kernel))) (by decide +kernel)), (tb_mem (t_in2 (List.mem_of_getElem? (i := 112) (by decide +kernel))) (by decide +kernel)), ⟨by decide +kernel, by decide +kernel, by decide +kernel⟩⟩
theorem ivJ0_1059 : IS RJ0 1059 yJ3_checkIndex_8e157 cJ3_checkIndex_8e157 3 (some .int) 3 := ⟨(tb_mem (t_in2 (List.mem_of_getElem? (i := 50) (by decide +kernel))) (by decide +kernel)), (tb_mem (t_in2 (List.mem_of_getElem? (i := 51) (by decide +kernel))) (by decide +kernel)), (tb_mem (t_in1 (List.mem_of_getElem? (i := 13) (by decide +kernel))) (by decide +kernel)), (tb_mem (t_in2 (List.mem_of_getElem? (i := 52) (by decide +kernel))) (by decide +kernel)), ⟨by decide +kernel, by decide +kernel, by decide +kernel⟩⟩
theorem ivJ1_9 : IS RJ1 9 yJ0_checkIndex_df160 cJ0_checkIndex_df160 2 none 2 := ⟨(tb_mem (t_in2 (List.mem_of_getElem? (i := 45) (by decide +kernel))) (by decide +kernel)), (tb_mem (t_in2 (List.mem_of_getElem? (i := 46) (by decide +kernel))) (by decide +kernel)), (tb_mem (t_in1 (List.mem_of_getElem? (i := 10) (by decide +kernel))) (by decide +kernel)), (tb_mem (t_in2 (List.mem_of_getElem? (i := 47) (by decide +kernel))) (by decide +kernel)), ⟨by decide +kernel, by decide +kernel, by decide +kernel⟩⟩
theorem ivJ1_88 : IS RJ1 88 yJ1_canEncode_9a6ad cJ1_canEncode_9a6ad 1 (some .boolean) 1 := ⟨(tb_mem (t_in2 (List.mem_of_getElem? (i := 113) (by decide +kernel))) (by decide +kernel)), (tb_mem (t_in2 (List.mem_of_getElem? (i := 114) (by decide +kernel))) (by decide +kernel)), (tb_mem (t_in1 (List.mem_of_getElem? (i := 12) (by decide +kernel))) (by decide +kernel)), (tb_mem (t_in2 (List.mem_of_getElem? (i := 115) (by decide +kernel))) (by decide +kernel)), ⟨by decide +kernel, by decide +kernel, by decide +kernel⟩⟩
theorem ivJ1_92 : IMax RJ1 92 := ⟨(tb_mem (t_in2 (List.mem_of_getElem? (i := 116) (by decide +kernel))) (by decide +kernel)), (tb_mem (t_in2 (List.mem_of_getElem? (i := 117) (by decide +kernel))) (by decide +kernel)), (tb_mem (t_in1 (List.mem_of_getElem? (i := 11) (by decide +kernel))) (by decide +kernel)), (tb_mem (t_in2 (List.mem_of_getElem? (i := 118) (by decide +kernel))) (by decide +kernel))⟩
theorem ivJ1_38 : IMin RJ1 38 := ⟨(tb_mem (t_in2 (List.mem_of_getElem? (i := 119) (by decide +kernel))) (by decide +kernel)), (tb_mem (t_in2 (List.mem_of_getElem? (i := 32) (by decide +kernel))) (by decide +kernel)), (tb_mem (t_in1 (List.mem_of_getElem? (i := 11) (by decide +kernel))) (by decide +kernel)), (tb_mem (t_in2 (List.mem_of_getElem? (i := 33) (by decide +kernel))) (by decide +kernel))⟩
theorem ivJ1_95 : IS RJ1 95 yJ1_indexOfChar_4cfef cJ1_indexOfChar_4cfef 6 (some .int) 4 := ⟨(tb_mem (t_in2 (List.mem_of_getElem? (i := 120) (by decide +kernel))) (by decide +kernel)), (tb_mem (t_in2 (List.mem_of_getElem? (i := 121) (by decide +kernel))) (by decide +kernel)), (tb_mem (t_in1 (List.mem_of_getElem? (i := 12) (by decide +kernel))) (by decide +kernel)), (tb_mem (t_in2 (List.mem_of_getElem? (i := 122) (by decide +kernel))) (by decide +kernel)), ⟨by decide +kernel, by decide +kernel, by decide +kernel⟩⟩
theorem dJ0_isLatin1_aae02_0 : decode cJ0_isLatin1_aae02 0 = .ok (.getstatic 38, 3) := by decide +kernel
theorem dJ0_isLatin1_aae02_3 : decode cJ0_isLatin1_aae02 3 = .ok (.ifCond .eq 14, 3) := by decide +kernel
theorem dJ0_isLatin1_aae02_6 : decode cJ0_isLatin1_aae02 6 = .ok (.aload_n 0, 1) := by decide +kernel
theorem dJ0_isLatin1_aae02_7 : decode cJ0_isLatin1_aae02 7 = .ok (.getfield 15, 3) := by decide +kernel
theorem dJ0_isLatin1_aae02_10 : decode cJ0_isLatin1_aae02 10 = .ok (.ifCond .ne 7, 3) := by decide +kernel
theorem dJ0_isLatin1_aae02_13 : decode cJ0_isLatin1_aae02 13 = .ok (.iconst 1, 1) := by decide +kernel
theorem dJ0_isLatin1_aae02_14 : decode cJ0_isLatin1_aae02 14 = .ok (.goto 4, 3) := by decide +kernel
theorem dJ0_isLatin1_aae02_17 : decode cJ0_isLatin1_aae02 17 = .ok (.iconst 0, 1) := by decide +kernel
theorem dJ0_isLatin1_aae02_18 : decode cJ0_isLatin1_aae02 18 = .ok (.ireturn, 1) := by decide +kernel
theorem dJ0_coder_7d493_0 : decode cJ0_coder_7d493 0 = .ok (.getstatic 38, 3) := by decide +kernel
theorem dJ0_coder_7d493_3 : decode cJ0_coder_7d493 3 = .ok (.ifCond .eq 10, 3) := by decide +kernel
theorem dJ0_coder_7d493_6 : decode cJ0_coder_7d493 6 = .ok (.aload_n 0, 1) := by decide +kernel
theorem dJ0_coder_7d493_7 : decode cJ0_coder_7d493 7 = .ok (.getfield 15, 3) := by decide +kernel
theorem dJ0_coder_7d493_10 : decode cJ0_coder_7d493 10 = .ok (.goto 4, 3) := by decide +kernel
theorem dJ0_coder_7d493_13 : decode cJ0_coder_7d493 13 = .ok (.iconst 1, 1) := by decide +kernel
theorem dJ0_coder_7d493_14 : decode cJ0_coder_7d493 14 = .ok (.ireturn, 1) := by decide +kernel
theorem dJ0_length_8abf5_0 : decode cJ0_length_8abf5 0 = .ok (.aload_n 0, 1) := by decide +kernel
theorem dJ0_length_8abf5_1 : decode cJ0_length_8abf5 1 = .ok (.getfield 9, 3) := by decide +kernel
theorem dJ0_length_8abf5_4 : decode cJ0_length_8abf5 4 = .ok (.arraylength, 1) := by decide +kernel
theorem dJ0_length_8abf5_5 : decode cJ0_length_8abf5 5 = .ok (.aload_n 0, 1) := by decide +kernel
theorem dJ0_length_8abf5_6 : decode cJ0_length_8abf5 6 = .ok (.invokevirtual 335, 3) := by decide +kernel
theorem dJ0_length_8abf5_9 : decode cJ0_length_8abf5 9 = .ok (.ishr, 1) := by decide +kernel
theorem dJ0_length_8abf5_10 : decode cJ0_length_8abf5 10 = .ok (.ireturn, 1) := by decide +kernel
theorem dJ0_charAt_5068e_0 : decode cJ0_charAt_5068e 0 = .ok (.aload_n 0, 1) := by decide +kernel
theorem dJ0_charAt_5068e_1 : decode cJ0_charAt_5068e 1 = .ok (.invokevirtual 492, 3) := by decide +kernel
theorem dJ0_charAt_5068e_4 : decode cJ0_charAt_5068e 4 = .ok (.ifCond .eq 12, 3) := by decide +kernel
theorem dJ0_charAt_5068e_7 : decode cJ0_charAt_5068e 7 = .ok (.aload_n 0, 1) := by decide +kernel
theorem dJ0_charAt_5068e_8 : decode cJ0_charAt_5068e 8 = .ok (.getfield 9, 3) := by decide +kernel
theorem dJ0_charAt_5068e_11 : decode cJ0_charAt_5068e 11 = .ok (.iload_n 1, 1) := by decide +kernel
theorem dJ0_charAt_5068e_12 : decode cJ0_charAt_5068e 12 = .ok (.invokestatic 495, 3) := by decide +kernel
theorem dJ0_charAt_5068e_15 : decode cJ0_charAt_5068e 15 = .ok (.ireturn, 1) := by decide +kernel
theorem dJ0_charAt_5068e_16 : decode cJ0_charAt_5068e 16 = .ok (.aload_n 0, 1) := by decide +kernel
theorem dJ0_charAt_5068e_17 : decode cJ0_charAt_5068e 17 = .ok (.getfield 9, 3) := by decide +kernel
theorem dJ0_charAt_5068e_20 : decode cJ0_charAt_5068e 20 = .ok (.iload_n 1, 1) := by decide +kernel
theorem dJ0_charAt_5068e_21 : decode cJ0_charAt_5068e 21 = .ok (.invokestatic 498, 3) := by decide +kernel
theorem dJ0_charAt_5068e_24 : decode cJ0_charAt_5068e 24 = .ok (.ireturn, 1) := by decide +kernel
theorem dJ0_checkIndex_df160_0 : decode cJ0_checkIndex_df160 0 = .ok (.iload_n 0, 1) := by decide +kernel
theorem dJ0_checkIndex_df160_1 : decode cJ0_checkIndex_df160 1 = .ok (.iload_n 1, 1) := by decide +kernel
theorem dJ0_checkIndex_df160_2 : decode cJ0_checkIndex_df160 2 = .ok (.getstatic 1053, 3) := by decide +kernel
theorem dJ0_checkIndex_df160_5 : decode cJ0_checkIndex_df160 5 = .ok (.invokestatic 1059, 3) := by decide +kernel
theorem dJ0_checkIndex_df160_8 : decode cJ0_checkIndex_df160 8 = .ok (.pop, 1) := by decide +kernel
theorem dJ0_checkIndex_df160_9 : decode cJ0_checkIndex_df160 9 = .ok (.return_, 1) := by decide +kernel
theorem dJ3_checkIndex_8e157_0 : decode cJ3_checkIndex_8e157 0 = .ok (.iload_n 0, 1) := by decide +kernel
theorem dJ3_checkIndex_8e157_1 : decode cJ3_checkIndex_8e157 1 = .ok (.ifCond .lt 8, 3) := by decide +kernel
theorem dJ3_checkIndex_8e157_4 : decode cJ3_checkIndex_8e157 4 = .ok (.iload_n 0, 1) := by decide +kernel
theorem dJ3_checkIndex_8e157_5 : decode cJ3_checkIndex_8e157 5 = .ok (.iload_n 1, 1) := by decide +kernel
theorem dJ3_checkIndex_8e157_6 : decode cJ3_checkIndex_8e157 6 = .ok (.if_icmp .lt 10, 3) := by decide +kernel
theorem dJ3_checkIndex_8e157_9 : decode cJ3_checkIndex_8e157 9 = .ok (.aload_n 2, 1) := by decide +kernel
theorem dJ3_checkIndex_8e157_10 : decode cJ3_checkIndex_8e157 10 = .ok (.iload_n 0, 1) := by decide +kernel
theorem dJ3_checkIndex_8e157_11 : decode cJ3_checkIndex_8e157 11 = .ok (.iload_n 1, 1) := by decide +kernel
theorem dJ3_checkIndex_8e157_12 : decode cJ3_checkIndex_8e157 12 = .ok (.invokestatic 95, 3) := by decide +kernel
theorem dJ3_checkIndex_8e157_15 : decode cJ3_checkIndex_8e157 15 = .ok (.athrow, 1) := by decide +kernel
theorem dJ3_checkIndex_8e157_16 : decode cJ3_checkIndex_8e157 16 = .ok (.iload_n 0, 1) := by decide +kernel
theorem dJ3_checkIndex_8e157_17 : decode cJ3_checkIndex_8e157 17 = .ok (.ireturn, 1) := by decide +kernel
theorem dJ1_charAt_3b067_0 : decode cJ1_charAt_3b067 0 = .ok (.iload_n 1, 1) := by decide +kernel
theorem dJ1_charAt_3b067_1 : decode cJ1_charAt_3b067 1 = .ok (.aload_n 0, 1) := by decide +kernel
theorem dJ1_charAt_3b067_2 : decode cJ1_charAt_3b067 2 = .ok (.arraylength, 1) := by decide +kernel
theorem dJ1_charAt_3b067_3 : decode cJ1_charAt_3b067 3 = .ok (.invokestatic 9, 3) := by decide +kernel
theorem dJ1_charAt_3b067_6 : decode cJ1_charAt_3b067 6 = .ok (.aload_n 0, 1) := by decide +kernel
theorem dJ1_charAt_3b067_7 : decode cJ1_charAt_3b067 7 = .ok (.iload_n 1, 1) := by decide +kernel
theorem dJ1_charAt_3b067_8 : decode cJ1_charAt_3b067 8 = .ok (.baload, 1) := by decide +kernel
theorem dJ1_charAt_3b067_9 : decode cJ1_charAt_3b067 9 = .ok (.sipush 255, 3) := by decide +kernel
theorem dJ1_charAt_3b067_12 : decode cJ1_charAt_3b067 12 = .ok (.iand, 1) := by decide +kernel
theorem dJ1_charAt_3b067_13 : decode cJ1_charAt_3b067 13 = .ok (.i2c, 1) := by decide +kernel
theorem dJ1_charAt_3b067_14 : decode cJ1_charAt_3b067 14 = .ok (.ireturn, 1) := by decide +kernel
theorem dJ0_indexOf_0f7a4_0 : decode cJ0_indexOf_0f7a4 0 = .ok (.aload_n 0, 1) := by decide +kernel
theorem dJ0_indexOf_0f7a4_1 : decode cJ0_indexOf_0f7a4 1 = .ok (.iload_n 1, 1) := by decide +kernel
theorem dJ0_indexOf_0f7a4_2 : decode cJ0_indexOf_0f7a4 2 = .ok (.iconst 0, 1) := by decide +kernel
theorem dJ0_indexOf_0f7a4_3 : decode cJ0_indexOf_0f7a4 3 = .ok (.invokevirtual 633, 3) := by decide +kernel
theorem dJ0_indexOf_0f7a4_6 : decode cJ0_indexOf_0f7a4 6 = .ok (.ireturn, 1) := by decide +kernel
theorem dJ0_indexOf_7cf53_0 : decode cJ0_indexOf_7cf53 0 = .ok (.aload_n 0, 1) := by decide +kernel
theorem dJ0_indexOf_7cf53_1 : decode cJ0_indexOf_7cf53 1 = .ok (.invokevirtual 492, 3) := by decide +kernel
theorem dJ0_indexOf_7cf53_4 : decode cJ0_indexOf_7cf53 4 = .ok (.ifCond .eq 19, 3) := by decide +kernel
theorem dJ0_indexOf_7cf53_7 : decode cJ0_indexOf_7cf53 7 = .ok (.aload_n 0, 1) := by decide +kernel
theorem dJ0_indexOf_7cf53_8 : decode cJ0_indexOf_7cf53 8 = .ok (.getfield 9, 3) := by decide +kernel
theorem dJ0_indexOf_7cf53_11 : decode cJ0_indexOf_7cf53 11 = .ok (.iload_n 1, 1) := by decide +kernel
theorem dJ0_indexOf_7cf53_12 : decode cJ0_indexOf_7cf53 12 = .ok (.iload_n 2, 1) := by decide +kernel
theorem dJ0_indexOf_7cf53_13 : decode cJ0_indexOf_7cf53 13 = .ok (.aload_n 0, 1) := by decide +kernel
theorem dJ0_indexOf_7cf53_14 : decode cJ0_indexOf_7cf53 14 = .ok (.invokevirtual 505, 3) := by decide +kernel
theorem dJ0_indexOf_7cf53_17 : decode cJ0_indexOf_7cf53 17 = .ok (.invokestatic 637, 3) := by decide +kernel
theorem dJ0_indexOf_7cf53_20 : decode cJ0_indexOf_7cf53 20 = .ok (.goto 16, 3) := by decide +kernel
theorem dJ0_indexOf_7cf53_23 : decode cJ0_indexOf_7cf53 23 = .ok (.aload_n 0, 1) := by decide +kernel
theorem dJ0_indexOf_7cf53_24 : decode cJ0_indexOf_7cf53 24 = .ok (.getfield 9, 3) := by decide +kernel
theorem dJ0_indexOf_7cf53_27 : decode cJ0_indexOf_7cf53 27 = .ok (.iload_n 1, 1) := by decide +kernel
theorem dJ0_indexOf_7cf53_28 : decode cJ0_indexOf_7cf53 28 = .ok (.iload_n 2, 1) := by decide +kernel
theorem dJ0_indexOf_7cf53_29 : decode cJ0_indexOf_7cf53 29 = .ok (.aload_n 0, 1) := by decide +kernel
theorem dJ0_indexOf_7cf53_30 : decode cJ0_indexOf_7cf53 30 = .ok (.invokevirtual 505, 3) := by decide +kernel
theorem dJ0_indexOf_7cf53_33 : decode cJ0_indexOf_7cf53 33 = .ok (.invokestatic 640, 3) := by decide +kernel
theorem dJ0_indexOf_7cf53_36 : decode cJ0_indexOf_7cf53 36 = .ok (.ireturn, 1) := by decide +kernel
theorem dJ1_indexOf_4cfef_0 : decode cJ1_indexOf_4cfef 0 = .ok (.iload_n 1, 1) := by decide +kernel
theorem dJ1_indexOf_4cfef_1 : decode cJ1_indexOf_4cfef 1 = .ok (.invokestatic 88, 3) := by decide +kernel
theorem dJ1_indexOf_4cfef_4 : decode cJ1_indexOf_4cfef 4 = .ok (.ifCond .ne 5, 3) := by decide +kernel
theorem dJ1_indexOf_4cfef_7 : decode cJ1_indexOf_4cfef 7 = .ok (.iconst (-1), 1) := by decide +kernel
theorem dJ1_indexOf_4cfef_8 : decode cJ1_indexOf_4cfef 8 = .ok (.ireturn, 1) := by decide +kernel
theorem dJ1_indexOf_4cfef_9 : decode cJ1_indexOf_4cfef 9 = .ok (.iload_n 2, 1) := by decide +kernel
theorem dJ1_indexOf_4cfef_10 : decode cJ1_indexOf_4cfef 10 = .ok (.iconst 0, 1) := by decide +kernel
theorem dJ1_indexOf_4cfef_11 : decode cJ1_indexOf_4cfef 11 = .ok (.invokestatic 92, 3) := by decide +kernel
theorem dJ1_indexOf_4cfef_14 : decode cJ1_indexOf_4cfef 14 = .ok (.istore_n 2, 1) := by decide +kernel
theorem dJ1_indexOf_4cfef_15 : decode cJ1_indexOf_4cfef 15 = .ok (.iload_n 3, 1) := by decide +kernel
theorem dJ1_indexOf_4cfef_16 : decode cJ1_indexOf_4cfef 16 = .ok (.aload_n 0, 1) := by decide +kernel
theorem dJ1_indexOf_4cfef_17 : decode cJ1_indexOf_4cfef 17 = .ok (.arraylength, 1) := by decide +kernel
theorem dJ1_indexOf_4cfef_18 : decode cJ1_indexOf_4cfef 18 = .ok (.invokestatic 38, 3) := by decide +kernel
theorem dJ1_indexOf_4cfef_21 : decode cJ1_indexOf_4cfef 21 = .ok (.istore_n 3, 1) := by decide +kernel
theorem dJ1_indexOf_4cfef_22 : decode cJ1_indexOf_4cfef 22 = .ok (.iload_n 2, 1) := by decide +kernel
theorem dJ1_indexOf_4cfef_23 : decode cJ1_indexOf_4cfef 23 = .ok (.iload_n 3, 1) := by decide +kernel
theorem dJ1_indexOf_4cfef_24 : decode cJ1_indexOf_4cfef 24 = .ok (.if_icmp .lt 5, 3) := by decide +kernel
theorem dJ1_indexOf_4cfef_27 : decode cJ1_indexOf_4cfef 27 = .ok (.iconst (-1), 1) := by decide +kernel
theorem dJ1_indexOf_4cfef_28 : decode cJ1_indexOf_4cfef 28 = .ok (.ireturn, 1) := by decide +kernel
theorem dJ1_indexOf_4cfef_29 : decode cJ1_indexOf_4cfef 29 = .ok (.aload_n 0, 1) := by decide +kernel
theorem dJ1_indexOf_4cfef_30 : decode cJ1_indexOf_4cfef 30 = .ok (.iload_n 1, 1) := by decide +kernel
theorem dJ1_indexOf_4cfef_31 : decode cJ1_indexOf_4cfef 31 = .ok (.iload_n 2, 1) := by decide +kernel
theorem dJ1_indexOf_4cfef_32 : decode cJ1_indexOf_4cfef 32 = .ok (.iload_n 3, 1) := by decide +kernel
theorem dJ1_indexOf_4cfef_33 : decode cJ1_indexOf_4cfef 33 = .ok (.invokestatic 95, 3) := by decide +kernel
theorem dJ1_indexOf_4cfef_36 : decode cJ1_indexOf_4cfef 36 = .ok (.ireturn, 1) := by decide +kernel
theorem dJ1_canEncode_9a6ad_0 : decode cJ1_canEncode_9a6ad 0 = .ok (.iload_n 0, 1) := by decide +kernel
theorem dJ1_canEncode_9a6ad_1 : decode cJ1_canEncode_9a6ad 1 = .ok (.ifCond .lt 14, 3) := by decide +kernel
theorem dJ1_canEncode_9a6ad_4 : decode cJ1_canEncode_9a6ad 4 = .ok (.iload_n 0, 1) := by decide +kernel
theorem dJ1_canEncode_9a6ad_5 : decode cJ1_canEncode_9a6ad 5 = .ok (.sipush 255, 3) := by decide +kernel
theorem dJ1_canEncode_9a6ad_8 : decode cJ1_canEncode_9a6ad 8 = .ok (.if_icmp .gt 7, 3) := by decide +kernel
theorem dJ1_canEncode_9a6ad_11 : decode cJ1_canEncode_9a6ad 11 = .ok (.iconst 1, 1) := by decide +kernel
theorem dJ1_canEncode_9a6ad_12 : decode cJ1_canEncode_9a6ad 12 = .ok (.goto 4, 3) := by decide +kernel
theorem dJ1_canEncode_9a6ad_15 : decode cJ1_canEncode_9a6ad 15 = .ok (.iconst 0, 1) := by decide +kernel
theorem dJ1_canEncode_9a6ad_16 : decode cJ1_canEncode_9a6ad 16 = .ok (.ireturn, 1) := by decide +kernel
theorem dJ1_indexOfChar_4cfef_0 : decode cJ1_indexOfChar_4cfef 0 = .ok (.iload_n 1, 1) := by decide +kernel
theorem dJ1_indexOfChar_4cfef_1 : decode cJ1_indexOfChar_4cfef 1 = .ok (.i2b, 1) := by decide +kernel
theorem dJ1_indexOfChar_4cfef_2 : decode cJ1_indexOfChar_4cfef 2 = .ok (.istore 4, 2) := by decide +kernel
theorem dJ1_indexOfChar_4cfef_4 : decode cJ1_indexOfChar_4cfef 4 = .ok (.iload_n 2, 1) := by decide +kernel
theorem dJ1_indexOfChar_4cfef_5 : decode cJ1_indexOfChar_4cfef 5 = .ok (.istore 5, 2) := by decide +kernel
theorem dJ1_indexOfChar_4cfef_7 : decode cJ1_indexOfChar_4cfef 7 = .ok (.iload 5, 2) := by decide +kernel
theorem dJ1_indexOfChar_4cfef_9 : decode cJ1_indexOfChar_4cfef 9 = .ok (.iload_n 3, 1) := by decide +kernel
theorem dJ1_indexOfChar_4cfef_10 : decode cJ1_indexOfChar_4cfef 10 = .ok (.if_icmp .ge 21, 3) := by decide +kernel
theorem dJ1_indexOfChar_4cfef_13 : decode cJ1_indexOfChar_4cfef 13 = .ok (.aload_n 0, 1) := by decide +kernel
theorem dJ1_indexOfChar_4cfef_14 : decode cJ1_indexOfChar_4cfef 14 = .ok (.iload 5, 2) := by decide +kernel
theorem dJ1_indexOfChar_4cfef_16 : decode cJ1_indexOfChar_4cfef 16 = .ok (.baload, 1) := by decide +kernel
theorem dJ1_indexOfChar_4cfef_17 : decode cJ1_indexOfChar_4cfef 17 = .ok (.iload 4, 2) := by decide +kernel
theorem dJ1_indexOfChar_4cfef_19 : decode cJ1_indexOfChar_4cfef 19 = .ok (.if_icmp .ne 6, 3) := by decide +kernel
theorem dJ1_indexOfChar_4cfef_22 : decode cJ1_indexOfChar_4cfef 22 = .ok (.iload 5, 2) := by decide +kernel
theorem dJ1_indexOfChar_4cfef_24 : decode cJ1_indexOfChar_4cfef 24 = .ok (.ireturn, 1) := by decide +kernel
theorem dJ1_indexOfChar_4cfef_25 : decode cJ1_indexOfChar_4cfef 25 = .ok (.iinc 5 1, 3) := by decide +kernel
theorem dJ1_indexOfChar_4cfef_28 : decode cJ1_indexOfChar_4cfef 28 = .ok (.goto (-21), 3) := by decide +kernel
theorem dJ1_indexOfChar_4cfef_31 : decode cJ1_indexOfChar_4cfef 31 = .ok (.iconst (-1), 1) := by decide +kernel
theorem dJ1_indexOfChar_4cfef_32 : decode cJ1_indexOfChar_4cfef 32 = .ok (.ireturn, 1) := by decide +kernel
section SM
variable {adK adV : Nat → Nat} {A : Nat → Prop}
theorem ctJ0_isLatin1 {i : Nat} (hi : i < 2) : CtS yJ0_isLatin1_aae02 cJ0_isLatin1_aae02 1 (some .boolean) (rmS 0 0) adK adV A [.ref (adK i)] (some 1) := by
  refine cs_of (by decide +kernel) (Nat.le_of_ble_eq_true rfl) (fun κ C => ?_)
  refine s_cs C dJ0_isLatin1_aae02_0 fwJ0_38 ?_
  refine s_if_eq C dJ0_isLatin1_aae02_3 (tgt := 17) (by decide) (fun h => absurd h (by decide)) (fun _ => ?_)
  refine s_aload_n C dJ0_isLatin1_aae02_6 0 rfl ?_
  refine s_cod C hi dJ0_isLatin1_aae02_7 fwJ0_15 ?_
  refine s_if_ne C dJ0_isLatin1_aae02_10 (tgt := 17) (by decide) (fun h => absurd rfl h) (fun _ => ?_)
  refine s_iconst C dJ0_isLatin1_aae02_13 rfl ?_
  refine s_goto C dJ0_isLatin1_aae02_14 (tgt := 18) (by decide) ?_
  exact s_zret C (by decide +kernel) dJ0_isLatin1_aae02_18
theorem ctJ0_coder {i : Nat} (hi : i < 2) : CtS yJ0_coder_7d493 cJ0_coder_7d493 1 (some .byte) (rmS 0 0) adK adV A [.ref (adK i)] (some 0) := by
  refine cs_of (by decide +kernel) (Nat.le_of_ble_eq_true rfl) (fun κ C => ?_)
  refine s_cs C dJ0_coder_7d493_0 fwJ0_38 ?_
  refine s_if_eq C dJ0_coder_7d493_3 (tgt := 13) (by decide) (fun h => absurd h (by decide)) (fun _ => ?_)
  refine s_aload_n C dJ0_coder_7d493_6 0 rfl ?_
  refine s_cod C hi dJ0_coder_7d493_7 fwJ0_15 ?_
  refine s_goto C dJ0_coder_7d493_10 (tgt := 14) (by decide) ?_
  exact s_zret C (by decide +kernel) dJ0_coder_7d493_14
theorem ctJ0_length {i : Nat} (hi : i < 2) : CtS yJ0_length_8abf5 cJ0_length_8abf5 1 (some .int) (rmS 1 20) adK adV A [.ref (adK i)] (some (Int32.ofNat (sLen.getD i 0))) := by
  refine cs_of (by decide +kernel) (Nat.le_of_ble_eq_true rfl) (fun κ C => ?_)
  refine s_aload_n C dJ0_length_8abf5_0 0 rfl ?_
  refine s_val C hi dJ0_length_8abf5_1 fwJ0_9 ?_
  refine s_alen C hi rfl dJ0_length_8abf5_4 ?_
  refine s_aload_n C dJ0_length_8abf5_5 0 rfl ?_
  refine s_invV1 C hi rfl (ctJ0_coder hi) dJ0_length_8abf5_6 ivJ0_335 ⟨by decide, by decide, rfl, rfl⟩ (As := []) rfl (st := [.int (Int32.ofNat (sLen.getD i 0))]) rfl (Nat.le_of_ble_eq_true rfl) ?_
  refine s_ishr C dJ0_length_8abf5_9 ?_
  have e : Int32.ofNat (sLen.getD i 0) >>> ((0 : Int32) &&& 31) = Int32.ofNat (sLen.getD i 0) := by
    have h2 : i = 0 ∨ i = 1 := by omega
    rcases h2 with rfl | rfl <;> decide +kernel
  rw [e]
  exact s_iret C dJ0_length_8abf5_10
theorem ctJ3_check {v : Value} {j n : Int32} (hc : v.category = 1) (h0 : ¬ j < 0) (h1 : j < n) : CtS yJ3_checkIndex_8e157 cJ3_checkIndex_8e157 3 (some .int) (rmS 0 0) adK adV A [.int j, .int n, v] (some j) := by
  refine cs_of (by decide +kernel) (by simp only [lg_sl, List.flatMap_cons, List.flatMap_nil, hc]; exact Nat.le_of_ble_eq_true rfl) (fun κ C => ?_)
  refine s_iload_n C dJ3_checkIndex_8e157_0 0 rfl ?_
  refine s_if_lt C dJ3_checkIndex_8e157_1 (tgt := 9) (by decide) (fun h => absurd h h0) (fun _ => ?_)
  refine s_iload_n C dJ3_checkIndex_8e157_4 0 rfl ?_
  refine s_iload_n C dJ3_checkIndex_8e157_5 1 rfl ?_
  refine s_icmp_lt C dJ3_checkIndex_8e157_6 (tgt := 16) (by decide) (fun _ => ?_) (fun h => absurd h1 h)
  refine s_iload_n C dJ3_checkIndex_8e157_16 0 rfl ?_
  exact s_iret C dJ3_checkIndex_8e157_17
theorem ctJ0_check {j n : Int32} (h0 : ¬ j < 0) (h1 : j < n) : CtS yJ0_checkIndex_df160 cJ0_checkIndex_df160 2 none (rmS 1 22) adK adV A [.int j, .int n] none := by
  refine cs_of (by decide +kernel) (Nat.le_of_ble_eq_true rfl) (fun κ C => ?_)
  refine s_iload_n C dJ0_checkIndex_df160_0 0 rfl ?_
  refine s_iload_n C dJ0_checkIndex_df160_1 1 rfl ?_
  refine s_fmt C dJ0_checkIndex_df160_2 fwJ0_1053 (fun v hv => ?_)
  refine s_invS1 C (ctJ3_check hv h0 h1) dJ0_checkIndex_df160_5 ivJ0_1059 ⟨by decide, by decide, rfl, rfl⟩ rfl (st := []) rfl (Nat.le_of_ble_eq_true rfl) ?_
  refine s_pop C dJ0_checkIndex_df160_8 ?_
  exact s_vret C dJ0_checkIndex_df160_9
/-- a letter of a text -/
def sCh (i : Nat) (j : Int32) : Int32 := (sByt.getD i []).getD j.toNatClampNeg 0
theorem ctJ1_charAt {i : Nat} (hi : i < 2) {j w : Int32} (h0 : ¬ j < 0) (h1 : j < Int32.ofNat (sLen.getD i 0)) (hj : vp_in j (sLen.getD i 0)) (hw : ((sCh i j &&& 255).toUInt32 % 65536).toInt32 = w) (hn : narrow .char (.int w) = .int w) : CtS yJ1_charAt_3b067 cJ1_charAt_3b067 2 (some .char) (rmS 2 43) adK adV A [.ref (adV i), .int j] (some w) := by
  refine cs_of (by decide +kernel) (Nat.le_of_ble_eq_true rfl) (fun κ C => ?_)
  refine s_iload_n C dJ1_charAt_3b067_0 1 rfl ?_
  refine s_aload_n C dJ1_charAt_3b067_1 0 rfl ?_
  refine s_alen C hi rfl dJ1_charAt_3b067_2 ?_
  refine s_invS0 C (ctJ0_check h0 h1) dJ1_charAt_3b067_3 ivJ1_9 ⟨by decide, by decide, rfl, rfl⟩ rfl (st := []) rfl (Nat.le_of_ble_eq_true rfl) ?_
  refine s_aload_n C dJ1_charAt_3b067_6 0 rfl ?_
  refine s_iload_n C dJ1_charAt_3b067_7 1 rfl ?_
  refine s_bald C hi hj dJ1_charAt_3b067_8 ?_
  refine s_sipush C dJ1_charAt_3b067_9 (v := 255) (by decide) ?_
  refine s_iand C dJ1_charAt_3b067_12 ?_
  refine s_i2c C dJ1_charAt_3b067_13 hw ?_
  exact s_zret C hn dJ1_charAt_3b067_14
theorem ctJ0_charAt {i : Nat} (hi : i < 2) {j w : Int32} (h0 : ¬ j < 0) (h1 : j < Int32.ofNat (sLen.getD i 0)) (hj : vp_in j (sLen.getD i 0)) (hw : ((sCh i j &&& 255).toUInt32 % 65536).toInt32 = w) (hn : narrow .char (.int w) = .int w) : CtS yJ0_charAt_5068e cJ0_charAt_5068e 2 (some .char) (rmS 3 64) adK adV A [.ref (adK i), .int j] (some w) := by
  refine cs_of (by decide +kernel) (Nat.le_of_ble_eq_true rfl) (fun κ C => ?_)
  refine s_aload_n C dJ0_charAt_5068e_0 0 rfl ?_
  refine s_invV1 C hi rfl (ctJ0_isLatin1 hi) dJ0_charAt_5068e_1 ivJ0_492 ⟨by decide, by decide, rfl, rfl⟩ (As := []) rfl (st := []) rfl (Nat.le_of_ble_eq_true rfl) ?_
  refine s_if_eq C dJ0_charAt_5068e_4 (tgt := 16) (by decide) (fun h => absurd h (by decide)) (fun _ => ?_)
  refine s_aload_n C dJ0_charAt_5068e_7 0 rfl ?_
  refine s_val C hi dJ0_charAt_5068e_8 fwJ0_9 ?_
  refine s_iload_n C dJ0_charAt_5068e_11 1 rfl ?_
  refine s_invS1 C (ctJ1_charAt hi h0 h1 hj hw hn) dJ0_charAt_5068e_12 ivJ0_495 ⟨by decide, by decide, rfl, rfl⟩ rfl (st := []) rfl (Nat.le_of_ble_eq_true rfl) ?_
  exact s_zret C hn dJ0_charAt_5068e_15
def ixS (c : Int32) : Int32 := if c = 115 then 0 else if c = 103 then 1 else if c = 110 then 2 else -1
theorem ctJ1_canEncode {c : Int32} : CtS yJ1_canEncode_9a6ad cJ1_canEncode_9a6ad 1 (some .boolean) (rmS 0 0) adK adV A [.int c] (some (if c < 0 ∨ 255 < c then 0 else 1)) := by
  refine cs_of (by decide +kernel) (Nat.le_of_ble_eq_true rfl) (fun κ C => ?_)
  have out : (c < 0 ∨ 255 < c) → SJ κ 1 15 (lv_args 0 [.int c]) [] (some (if c < 0 ∨ 255 < c then 0 else 1)) := by
    intro h
    rw [if_pos h]
    refine s_iconst C dJ1_canEncode_9a6ad_15 rfl ?_
    exact s_zret C (by decide +kernel) dJ1_canEncode_9a6ad_16
  refine s_iload_n C dJ1_canEncode_9a6ad_0 0 rfl ?_
  refine s_if_lt C dJ1_canEncode_9a6ad_1 (tgt := 15) (by decide) (fun h => out (Or.inl h)) (fun h0 => ?_)
  refine s_iload_n C dJ1_canEncode_9a6ad_4 0 rfl ?_
  refine s_sipush C dJ1_canEncode_9a6ad_5 (v := 255) (by decide) ?_
  refine s_icmp_gt C dJ1_canEncode_9a6ad_8 (tgt := 15) (by decide) (fun h => out (Or.inr h)) (fun h1 => ?_)
  rw [if_neg (fun h => h.elim h0 h1)]
  refine s_iconst C dJ1_canEncode_9a6ad_11 rfl ?_
  refine s_goto C dJ1_canEncode_9a6ad_12 (tgt := 16) (by decide) ?_
  exact s_zret C (by decide +kernel) dJ1_canEncode_9a6ad_16
abbrev ixL (adV : Nat → Nat) (c cb k : Int32) : List (Nat × Value) := [(5, .int k), (4, .int cb), (0, .ref (adV 1)), (1, .int c), (2, .int 0), (3, .int 3)]
theorem ixc_step {κ : Ks} {rm : Room} (C : Cs κ RJ1 cJ1_indexOfChar_4cfef 6 (some .int) rm adK adV A) {c cb k k' b r : Int32} (hk : ¬ (3 : Int32) ≤ k) (hin : vp_in k (sLen.getD 1 0)) (hb : (sByt.getD 1 []).getD k.toNatClampNeg 0 = b) (hk' : k + Int32.ofInt 1 = k') (h1 : b = cb → k = r) (h2 : ¬ b = cb → SJ κ 6 7 (ixL adV c cb k') [] (some r)) : SJ κ 6 7 (ixL adV c cb k) [] (some r) := by
  refine s_iload C dJ1_indexOfChar_4cfef_7 0 rfl ?_
  refine s_iload_n C dJ1_indexOfChar_4cfef_9 5 rfl ?_
  refine s_icmp_ge C dJ1_indexOfChar_4cfef_10 (tgt := 31) (by decide) (fun h => absurd h hk) (fun _ => ?_)
  refine s_aload_n C dJ1_indexOfChar_4cfef_13 2 rfl ?_
  refine s_iload C dJ1_indexOfChar_4cfef_14 0 rfl ?_
  refine s_bald C (by decide) hin dJ1_indexOfChar_4cfef_16 ?_
  rw [hb]
  refine s_iload C dJ1_indexOfChar_4cfef_17 1 rfl ?_
  refine s_icmp_ne C dJ1_indexOfChar_4cfef_19 (tgt := 25) (by decide) (fun h => ?_) (fun h => ?_)
  · refine s_iinc C dJ1_indexOfChar_4cfef_25 0 rfl hk' (by decide) (lv' := ixL adV c cb k') rfl ?_
    refine s_goto C dJ1_indexOfChar_4cfef_28 (tgt := 7) (by decide) ?_
    exact h2 h
  · have e := h1 (by simpa using h)
    subst e
    refine s_iload C dJ1_indexOfChar_4cfef_22 0 rfl ?_
    exact s_iret C dJ1_indexOfChar_4cfef_24
theorem ctJ1_ixChar {c cb : Int32} (hcb : c.toInt8.toInt32 = cb) (e1 : (115 : Int32) = cb ↔ c = 115) (e2 : (103 : Int32) = cb ↔ c = 103) (e3 : (110 : Int32) = cb ↔ c = 110) : CtS yJ1_indexOfChar_4cfef cJ1_indexOfChar_4cfef 6 (some .int) (rmS 0 0) adK adV A [.ref (adV 1), .int c, .int 0, .int 3] (some (ixS c)) := by
  refine cs_of (by decide +kernel) (Nat.le_of_ble_eq_true rfl) (fun κ C => ?_)
  refine s_iload_n C dJ1_indexOfChar_4cfef_0 1 rfl ?_
  refine s_i2b C dJ1_indexOfChar_4cfef_1 hcb ?_
  refine s_istore C dJ1_indexOfChar_4cfef_2 (by decide) (lv' := [(4, .int cb), (0, .ref (adV 1)), (1, .int c), (2, .int 0), (3, .int 3)]) rfl ?_
  refine s_iload_n C dJ1_indexOfChar_4cfef_4 3 rfl ?_
  refine s_istore C dJ1_indexOfChar_4cfef_5 (by decide) (lv' := ixL adV c cb 0) rfl ?_
  refine ixc_step C (b := 115) (k' := 1) (by decide) (vp_in_iff.mpr ⟨by decide +kernel, by decide +kernel⟩) (by decide +kernel) (by decide +kernel) (fun h => ?_) (fun h => ?_)
  · rw [ixS, if_pos (e1.mp h)]
  have h1 : ¬ c = 115 := fun z => h (e1.mpr z)
  refine ixc_step C (b := 103) (k' := 2) (by decide) (vp_in_iff.mpr ⟨by decide +kernel, by decide +kernel⟩) (by decide +kernel) (by decide +kernel) (fun h => ?_) (fun h => ?_)
  · rw [ixS, if_neg h1, if_pos (e2.mp h)]
  have h2 : ¬ c = 103 := fun z => h (e2.mpr z)
  refine ixc_step C (b := 110) (k' := 3) (by decide) (vp_in_iff.mpr ⟨by decide +kernel, by decide +kernel⟩) (by decide +kernel) (by decide +kernel) (fun h => ?_) (fun h => ?_)
  · rw [ixS, if_neg h1, if_neg h2, if_pos (e3.mp h)]
  have h3 : ¬ c = 110 := fun z => h (e3.mpr z)
  refine s_iload C dJ1_indexOfChar_4cfef_7 0 rfl ?_
  refine s_iload_n C dJ1_indexOfChar_4cfef_9 5 rfl ?_
  refine s_icmp_ge C dJ1_indexOfChar_4cfef_10 (tgt := 31) (by decide) (fun _ => ?_) (fun h => absurd (by decide) h)
  have e : ixS c = -1 := by rw [ixS, if_neg h1, if_neg h2, if_neg h3]
  rw [e]
  refine s_iconst C dJ1_indexOfChar_4cfef_31 (v := -1) (by decide) ?_
  exact s_iret C dJ1_indexOfChar_4cfef_32
theorem ixS_out {c : Int32} (h : c < 0 ∨ 255 < c) : ixS c = -1 := by
  have h1 : ¬ c = 115 := by rintro rfl; revert h; decide
  have h2 : ¬ c = 103 := by rintro rfl; revert h; decide
  have h3 : ¬ c = 110 := by rintro rfl; revert h; decide
  rw [ixS, if_neg h1, if_neg h2, if_neg h3]
theorem ctJ1_indexOf {c cb : Int32} (hcb : c.toInt8.toInt32 = cb) (he : ¬ (c < 0 ∨ 255 < c) → ((115 : Int32) = cb ↔ c = 115) ∧ ((103 : Int32) = cb ↔ c = 103) ∧ ((110 : Int32) = cb ↔ c = 110)) : CtS yJ1_indexOf_4cfef cJ1_indexOf_4cfef 4 (some .int) (rmS 1 25) adK adV A [.ref (adV 1), .int c, .int 0, .int 3] (some (ixS c)) := by
  refine cs_of (by decide +kernel) (Nat.le_of_ble_eq_true rfl) (fun κ C => ?_)
  refine s_iload_n C dJ1_indexOf_4cfef_0 1 rfl ?_
  refine s_invS1 C ctJ1_canEncode dJ1_indexOf_4cfef_1 ivJ1_88 ⟨by decide, by decide, rfl, rfl⟩ rfl (st := []) rfl (Nat.le_of_ble_eq_true rfl) ?_
  refine s_if_ne C dJ1_indexOf_4cfef_4 (tgt := 9) (by decide) (fun h => ?_) (fun h => ?_)
  · have hc : ¬ (c < 0 ∨ 255 < c) := fun z => h (if_pos z)
    refine s_iload_n C dJ1_indexOf_4cfef_9 2 rfl ?_
    refine s_iconst C dJ1_indexOf_4cfef_10 (v := 0) rfl ?_
    refine s_max C dJ1_indexOf_4cfef_11 ivJ1_92 (Nat.le_of_ble_eq_true rfl) ⟨by decide, by decide⟩ (v := 0) (by decide) ?_
    refine s_istore_n C dJ1_indexOf_4cfef_14 (by decide) (lv' := [(2, .int 0), (0, .ref (adV 1)), (1, .int c), (3, .int 3)]) rfl ?_
    refine s_iload_n C dJ1_indexOf_4cfef_15 3 rfl ?_
    refine s_aload_n C dJ1_indexOf_4cfef_16 1 rfl ?_
    refine s_alen C (i := 1) (by decide) (v := 3) (by decide) dJ1_indexOf_4cfef_17 ?_
    refine s_min C dJ1_indexOf_4cfef_18 ivJ1_38 (Nat.le_of_ble_eq_true rfl) ⟨by decide, by decide⟩ (v := 3) (by decide) ?_
    refine s_istore_n C dJ1_indexOf_4cfef_21 (by decide) (lv' := [(3, .int 3), (2, .int 0), (0, .ref (adV 1)), (1, .int c)]) rfl ?_
    refine s_iload_n C dJ1_indexOf_4cfef_22 1 rfl ?_
    refine s_iload_n C dJ1_indexOf_4cfef_23 0 rfl ?_
    refine s_icmp_lt C dJ1_indexOf_4cfef_24 (tgt := 29) (by decide) (fun _ => ?_) (fun h => absurd (by decide) h)
    refine s_aload_n C dJ1_indexOf_4cfef_29 2 rfl ?_
    refine s_iload_n C dJ1_indexOf_4cfef_30 3 rfl ?_
    refine s_iload_n C dJ1_indexOf_4cfef_31 1 rfl ?_
    refine s_iload_n C dJ1_indexOf_4cfef_32 0 rfl ?_
    obtain ⟨q1, q2, q3⟩ := he hc
    refine s_invS1 C (ctJ1_ixChar hcb q1 q2 q3) dJ1_indexOf_4cfef_33 ivJ1_95 ⟨by decide, by decide, rfl, rfl⟩ rfl (st := []) rfl (Nat.le_of_ble_eq_true rfl) ?_
    exact s_iret C dJ1_indexOf_4cfef_36
  · have hc : c < 0 ∨ 255 < c := by
      rcases Classical.em (c < 0 ∨ 255 < c) with z | z
      · exact z
      · rw [if_neg z] at h
        exact absurd (by decide) h
    rw [ixS_out hc]
    refine s_iconst C dJ1_indexOf_4cfef_7 (v := -1) (by decide) ?_
    exact s_iret C dJ1_indexOf_4cfef_8
theorem ctJ0_indexOf2 {c cb : Int32} (hcb : c.toInt8.toInt32 = cb) (he : ¬ (c < 0 ∨ 255 < c) → ((115 : Int32) = cb ↔ c = 115) ∧ ((103 : Int32) = cb ↔ c = 103) ∧ ((110 : Int32) = cb ↔ c = 110)) : CtS yJ0_indexOf_7cf53 cJ0_indexOf_7cf53 3 (some .int) (rmS 2 48) adK adV A [.ref (adK 1), .int c, .int 0] (some (ixS c)) := by
  refine cs_of (by decide +kernel) (Nat.le_of_ble_eq_true rfl) (fun κ C => ?_)
  refine s_aload_n C dJ0_indexOf_7cf53_0 0 rfl ?_
  refine s_invV1 C (by decide) rfl (ctJ0_isLatin1 (by decide)) dJ0_indexOf_7cf53_1 ivJ0_492 ⟨by decide, by decide, rfl, rfl⟩ (As := []) rfl (st := []) rfl (Nat.le_of_ble_eq_true rfl) ?_
  refine s_if_eq C dJ0_indexOf_7cf53_4 (tgt := 23) (by decide) (fun h => absurd h (by decide)) (fun _ => ?_)
  refine s_aload_n C dJ0_indexOf_7cf53_7 0 rfl ?_
  refine s_val C (i := 1) (by decide) dJ0_indexOf_7cf53_8 fwJ0_9 ?_
  refine s_iload_n C dJ0_indexOf_7cf53_11 1 rfl ?_
  refine s_iload_n C dJ0_indexOf_7cf53_12 2 rfl ?_
  refine s_aload_n C dJ0_indexOf_7cf53_13 0 rfl ?_
  refine s_invV1 C (by decide) rfl (ctJ0_length (by decide)) dJ0_indexOf_7cf53_14 ivJ0_505 ⟨by decide, by decide, rfl, rfl⟩ (As := []) rfl (st := [.int 0, .int c, .ref (adV 1)]) rfl (Nat.le_of_ble_eq_true rfl) ?_
  refine s_invS1 C (ctJ1_indexOf hcb he) dJ0_indexOf_7cf53_17 ivJ0_637 ⟨by decide, by decide, rfl, rfl⟩ rfl (st := []) rfl (Nat.le_of_ble_eq_true rfl) ?_
  refine s_goto C dJ0_indexOf_7cf53_20 (tgt := 36) (by decide) ?_
  exact s_iret C dJ0_indexOf_7cf53_36
theorem ctJ0_indexOf {c cb : Int32} (hcb : c.toInt8.toInt32 = cb) (he : ¬ (c < 0 ∨ 255 < c) → ((115 : Int32) = cb ↔ c = 115) ∧ ((103 : Int32) = cb ↔ c = 103) ∧ ((110 : Int32) = cb ↔ c = 110)) : CtS yJ0_indexOf_0f7a4 cJ0_indexOf_0f7a4 2 (some .int) (rmS 3 70) adK adV A [.ref (adK 1), .int c] (some (ixS c)) := by
  refine cs_of (by decide +kernel) (Nat.le_of_ble_eq_true rfl) (fun κ C => ?_)
  refine s_aload_n C dJ0_indexOf_0f7a4_0 0 rfl ?_
  refine s_iload_n C dJ0_indexOf_0f7a4_1 1 rfl ?_
  refine s_iconst C dJ0_indexOf_0f7a4_2 (v := 0) rfl ?_
  refine s_invV1 C (by decide) rfl (ctJ0_indexOf2 hcb he) dJ0_indexOf_0f7a4_3 ivJ0_633 ⟨by decide, by decide, rfl, rfl⟩ (As := [.int c, .int 0]) rfl (st := []) rfl (Nat.le_of_ble_eq_true rfl) ?_
  exact s_iret C dJ0_indexOf_0f7a4_6
theorem ix_byte : ∀ n : Fin 256, (((115 : Int32) = (Int32.ofNat n.val).toInt8.toInt32 ↔ Int32.ofNat n.val = 115) ∧ ((103 : Int32) = (Int32.ofNat n.val).toInt8.toInt32 ↔ Int32.ofNat n.val = 103) ∧ ((110 : Int32) = (Int32.ofNat n.val).toInt8.toInt32 ↔ Int32.ofNat n.val = 110)) := by decide +kernel
def ixP (x : Int) : Int := if x = 115 then 0 else if x = 103 then 1 else if x = 110 then 2 else -1
theorem ixS_P {x : Int} (hx : inR x) : ixS (Int32.ofInt x) = Int32.ofInt (ixP x) := by
  have h1 : Int32.ofInt x = 115 ↔ x = 115 := oi_eq (y := 115) hx (by decide)
  have h2 : Int32.ofInt x = 103 ↔ x = 103 := oi_eq (y := 103) hx (by decide)
  have h3 : Int32.ofInt x = 110 ↔ x = 110 := oi_eq (y := 110) hx (by decide)
  unfold ixS ixP
  by_cases a : x = 115
  · rw [if_pos a, if_pos (h1.mpr a)]; rfl
  by_cases b : x = 103
  · rw [if_neg a, if_neg (fun z => a (h1.mp z)), if_pos b, if_pos (h2.mpr b)]; rfl
  by_cases c : x = 110
  · rw [if_neg a, if_neg (fun z => a (h1.mp z)), if_neg b, if_neg (fun z => b (h2.mp z)), if_pos c, if_pos (h3.mpr c)]; rfl
  rw [if_neg a, if_neg (fun z => a (h1.mp z)), if_neg b, if_neg (fun z => b (h2.mp z)), if_neg c, if_neg (fun z => c (h3.mp z))]; rfl
theorem ixP_in (x : Int) : inR (ixP x) := by
  unfold ixP
  split
  · decide
  split
  · decide
  split
  · decide
  · decide
theorem ctJ0_ix {x : Int} (h0 : 0 ≤ x) (h1 : x < 65536) : CtS yJ0_indexOf_0f7a4 cJ0_indexOf_0f7a4 2 (some .int) (rmS 3 70) adK adV A [.ref (adK 1), .int (Int32.ofInt x)] (some (Int32.ofInt (ixP x))) := by
  have hx : inR x := ⟨by omega, by omega⟩
  rw [← ixS_P hx]
  refine ctJ0_indexOf rfl (fun hc => ?_)
  have h2 : x < 256 := by
    rcases Int.lt_or_le x 256 with z | z
    · exact z
    · exact absurd (Or.inr ((oi_lt (x := 255) (by decide) hx).mpr (by omega))) hc
  have := ix_byte ⟨x.toNat, by omega⟩
  have e : Int32.ofNat x.toNat = Int32.ofInt x := by
    have e2 : x = ((x.toNat : Nat) : Int) := by omega
    rw [e2]
    rfl
  dsimp only at this
  rw [e] at this
  exact this
end SM
/-! ===== 'the letters of sounds, indexOf' as one row of V ===== -/
theorem v_idx {κ : Kx} {cc : ByteArray} {nL : Nat} {ret : Option FieldType} {rm : Room} {dom : Nat → Bool} {M : Mem} {pc : Nat} {lv : List (Option PV)} {st : List PV} {K : Kont} (C : Cx κ RX5 cc nL ret rm dom) {i : Fin 4} {x : Int} (hd1 : decode cc pc = .ok (.ldc 49, 2)) (hd2 : decode cc (pc + 2) = .ok (.iload_n i, 1)) (hd3 : decode cc (pc + 3) = .ok (.invokevirtual 51, 3)) (hv : lv[i.val]? = some (some (.inl x))) (h0 : 0 ≤ x) (h1 : x < 65536) (hw : IV RX5 51 yJ0_indexOf_0f7a4 cJ0_indexOf_0f7a4 2 (some .int) 1) (hR : RmOk (rmS 3 70) rm 2) (h8 : st.length ≤ 8) (k : V κ nL M (pc + 6) lv (.inl (ixP x) :: st) K) : V κ nL M pc lv st K := by
  refine ⟨?_, trivial⟩
  intro oM oL oS H locs ls hH hS hl
  obtain ⟨c1, c2, c3, c4, c5, c6, c7, c8, c9, c10, c11, c12, c13⟩ := id C
  obtain ⟨adK, adV, hY⟩ := c6.2
  refine va_ldcS c1 c2 c4 hY.2.2.2.2 hd1 ?_
  refine lv_iload_n c1 c2 hd2 rfl (prs_at hl hv) ?_
  have hR' : RmOk (rmS 3 70) κ.1.2.2.2.1 2 := by rw [c11]; exact hR
  exact w_invVS (As := [.int (Int32.ofInt x)]) c1 c2 c3 c4 c5 hY hS (i := 1) (by decide) rfl (ctJ0_ix h0 h1) hd3 hw hR' rfl hl.1 (rest_room st h8) ⟨Nat.zero_le _, Nat.zero_le _⟩ (k.1 oM oL ⟨ixP_in x, oS⟩ H locs ls hH hS hl)
