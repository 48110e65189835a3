-- ===== PART A: goes FIRST, ahead of the names: the tables' words, and 'selects' of the private methods out of them =====
/-- a private method of a class that the tables say can be made, by its rows of tables_1 -/
def lw_okq (q : MethodName × Nat) : Prop := (q.1.cls ≠ "java/lang/invoke/MethodHandle" ∧ q.1.cls ≠ "java/lang/invoke/VarHandle") ∧ Cond.instantiable q.1.cls q.2 ∈ tables_1 ∧ Cond.privateMethod q.1 ∈ tables_1 ∧ Cond.instanceMethod q.1 ∈ tables_1
theorem lw_p0 : lw_okq (⟨"GapTellings", "layText", "()V"⟩, 13) := ⟨⟨by decide +kernel, by decide +kernel⟩, List.mem_of_getElem? (i := 20) (by decide +kernel), List.mem_of_getElem? (i := 313) (by decide +kernel), List.mem_of_getElem? (i := 314) (by decide +kernel)⟩
theorem lw_p1 : lw_okq (⟨"GapTellings", "filmChanged", "()V"⟩, 13) := ⟨⟨by decide +kernel, by decide +kernel⟩, List.mem_of_getElem? (i := 20) (by decide +kernel), List.mem_of_getElem? (i := 439) (by decide +kernel), List.mem_of_getElem? (i := 440) (by decide +kernel)⟩
theorem lw_p2 : lw_okq (⟨"GapTellings", "hasSound", "(I)Z"⟩, 13) := ⟨⟨by decide +kernel, by decide +kernel⟩, List.mem_of_getElem? (i := 20) (by decide +kernel), List.mem_of_getElem? (i := 566) (by decide +kernel), List.mem_of_getElem? (i := 567) (by decide +kernel)⟩
theorem lw_p3 : lw_okq (⟨"GapTellings", "hasPicture", "(I)Z"⟩, 13) := ⟨⟨by decide +kernel, by decide +kernel⟩, List.mem_of_getElem? (i := 20) (by decide +kernel), List.mem_of_getElem? (i := 578) (by decide +kernel), List.mem_of_getElem? (i := 579) (by decide +kernel)⟩
theorem lw_p4 : lw_okq (⟨"GapTellings", "hasVersion", "(II)Z"⟩, 13) := ⟨⟨by decide +kernel, by decide +kernel⟩, List.mem_of_getElem? (i := 20) (by decide +kernel), List.mem_of_getElem? (i := 587) (by decide +kernel), List.mem_of_getElem? (i := 588) (by decide +kernel)⟩
theorem lw_p5 : lw_okq (⟨"GapTellings", "hasTick", "(I)Z"⟩, 13) := ⟨⟨by decide +kernel, by decide +kernel⟩, List.mem_of_getElem? (i := 20) (by decide +kernel), List.mem_of_getElem? (i := 591) (by decide +kernel), List.mem_of_getElem? (i := 592) (by decide +kernel)⟩
theorem lw_p6 : lw_okq (⟨"GapTellings", "findBest", "()V"⟩, 13) := ⟨⟨by decide +kernel, by decide +kernel⟩, List.mem_of_getElem? (i := 20) (by decide +kernel), List.mem_of_getElem? (i := 637) (by decide +kernel), List.mem_of_getElem? (i := 638) (by decide +kernel)⟩
theorem lw_p7 : lw_okq (⟨"GapTellings", "ticksOpenNow", "(II)I"⟩, 13) := ⟨⟨by decide +kernel, by decide +kernel⟩, List.mem_of_getElem? (i := 20) (by decide +kernel), List.mem_of_getElem? (i := 709) (by decide +kernel), List.mem_of_getElem? (i := 710) (by decide +kernel)⟩
theorem lw_p8 : lw_okq (⟨"GapTellingsModel", "clears", "()V"⟩, 29) := ⟨⟨by decide +kernel, by decide +kernel⟩, List.mem_of_getElem? (i := 819) (by decide +kernel), List.mem_of_getElem? (i := 825) (by decide +kernel), List.mem_of_getElem? (i := 826) (by decide +kernel)⟩
theorem lw_p9 : lw_okq (⟨"GapTellingsModel", "reads", "()I"⟩, 29) := ⟨⟨by decide +kernel, by decide +kernel⟩, List.mem_of_getElem? (i := 819) (by decide +kernel), List.mem_of_getElem? (i := 929) (by decide +kernel), List.mem_of_getElem? (i := 930) (by decide +kernel)⟩
theorem lw_p10 : lw_okq (⟨"GapTellingsModel", "readsItem", "(II)Z"⟩, 29) := ⟨⟨by decide +kernel, by decide +kernel⟩, List.mem_of_getElem? (i := 819) (by decide +kernel), List.mem_of_getElem? (i := 933) (by decide +kernel), List.mem_of_getElem? (i := 934) (by decide +kernel)⟩
theorem lw_p11 : lw_okq (⟨"GapTellingsModel", "number", "(IIII)Z"⟩, 29) := ⟨⟨by decide +kernel, by decide +kernel⟩, List.mem_of_getElem? (i := 819) (by decide +kernel), List.mem_of_getElem? (i := 937) (by decide +kernel), List.mem_of_getElem? (i := 938) (by decide +kernel)⟩
theorem lw_p12 : lw_okq (⟨"GapTellingsModel", "isFigure", "(I)Z"⟩, 29) := ⟨⟨by decide +kernel, by decide +kernel⟩, List.mem_of_getElem? (i := 819) (by decide +kernel), List.mem_of_getElem? (i := 941) (by decide +kernel), List.mem_of_getElem? (i := 942) (by decide +kernel)⟩
theorem lw_p13 : lw_okq (⟨"GapTellingsModel", "letterAt", "(I)I"⟩, 29) := ⟨⟨by decide +kernel, by decide +kernel⟩, List.mem_of_getElem? (i := 819) (by decide +kernel), List.mem_of_getElem? (i := 945) (by decide +kernel), List.mem_of_getElem? (i := 946) (by decide +kernel)⟩
theorem lw_p14 : lw_okq (⟨"GapTellingsModel", "readsSound", "(II)Z"⟩, 29) := ⟨⟨by decide +kernel, by decide +kernel⟩, List.mem_of_getElem? (i := 819) (by decide +kernel), List.mem_of_getElem? (i := 952) (by decide +kernel), List.mem_of_getElem? (i := 953) (by decide +kernel)⟩
theorem lw_p15 : lw_okq (⟨"GapTellingsModel", "more", "(III)Z"⟩, 29) := ⟨⟨by decide +kernel, by decide +kernel⟩, List.mem_of_getElem? (i := 819) (by decide +kernel), List.mem_of_getElem? (i := 956) (by decide +kernel), List.mem_of_getElem? (i := 957) (by decide +kernel)⟩
def lw_privs_1 : List (MethodName × Nat) := [(⟨"GapTellings", "layText", "()V"⟩, 13), (⟨"GapTellings", "filmChanged", "()V"⟩, 13), (⟨"GapTellings", "hasSound", "(I)Z"⟩, 13), (⟨"GapTellings", "hasPicture", "(I)Z"⟩, 13), (⟨"GapTellings", "hasVersion", "(II)Z"⟩, 13), (⟨"GapTellings", "hasTick", "(I)Z"⟩, 13), (⟨"GapTellings", "findBest", "()V"⟩, 13), (⟨"GapTellings", "ticksOpenNow", "(II)I"⟩, 13), (⟨"GapTellingsModel", "clears", "()V"⟩, 29), (⟨"GapTellingsModel", "reads", "()I"⟩, 29), (⟨"GapTellingsModel", "readsItem", "(II)Z"⟩, 29), (⟨"GapTellingsModel", "number", "(IIII)Z"⟩, 29), (⟨"GapTellingsModel", "isFigure", "(I)Z"⟩, 29), (⟨"GapTellingsModel", "letterAt", "(I)I"⟩, 29), (⟨"GapTellingsModel", "readsSound", "(II)Z"⟩, 29), (⟨"GapTellingsModel", "more", "(III)Z"⟩, 29)]
theorem lw_r1 : ∀ q ∈ lw_privs_1, lw_okq q := List.forall_mem_cons.mpr ⟨lw_p0, List.forall_mem_cons.mpr ⟨lw_p1, List.forall_mem_cons.mpr ⟨lw_p2, List.forall_mem_cons.mpr ⟨lw_p3, List.forall_mem_cons.mpr ⟨lw_p4, List.forall_mem_cons.mpr ⟨lw_p5, List.forall_mem_cons.mpr ⟨lw_p6, List.forall_mem_cons.mpr ⟨lw_p7, List.forall_mem_cons.mpr ⟨lw_p8, List.forall_mem_cons.mpr ⟨lw_p9, List.forall_mem_cons.mpr ⟨lw_p10, List.forall_mem_cons.mpr ⟨lw_p11, List.forall_mem_cons.mpr ⟨lw_p12, List.forall_mem_cons.mpr ⟨lw_p13, List.forall_mem_cons.mpr ⟨lw_p14, List.forall_mem_cons.mpr ⟨lw_p15, fun _ h => absurd h List.not_mem_nil⟩⟩⟩⟩⟩⟩⟩⟩⟩⟩⟩⟩⟩⟩⟩⟩
theorem lw_p16 : lw_okq (⟨"GapTellingsModel", "readsPicture", "(I)Z"⟩, 29) := ⟨⟨by decide +kernel, by decide +kernel⟩, List.mem_of_getElem? (i := 819) (by decide +kernel), List.mem_of_getElem? (i := 960) (by decide +kernel), List.mem_of_getElem? (i := 961) (by decide +kernel)⟩
theorem lw_p17 : lw_okq (⟨"GapTellingsModel", "readsNeed", "(I)Z"⟩, 29) := ⟨⟨by decide +kernel, by decide +kernel⟩, List.mem_of_getElem? (i := 819) (by decide +kernel), List.mem_of_getElem? (i := 964) (by decide +kernel), List.mem_of_getElem? (i := 965) (by decide +kernel)⟩
theorem lw_p18 : lw_okq (⟨"GapTellingsModel", "hears", "()V"⟩, 29) := ⟨⟨by decide +kernel, by decide +kernel⟩, List.mem_of_getElem? (i := 819) (by decide +kernel), List.mem_of_getElem? (i := 984) (by decide +kernel), List.mem_of_getElem? (i := 985) (by decide +kernel)⟩
theorem lw_p19 : lw_okq (⟨"GapTellingsModel", "whyNot", "(III)I"⟩, 29) := ⟨⟨by decide +kernel, by decide +kernel⟩, List.mem_of_getElem? (i := 819) (by decide +kernel), List.mem_of_getElem? (i := 988) (by decide +kernel), List.mem_of_getElem? (i := 989) (by decide +kernel)⟩
theorem lw_p20 : lw_okq (⟨"GapTellingsModel", "whyByFilm", "(III)I"⟩, 29) := ⟨⟨by decide +kernel, by decide +kernel⟩, List.mem_of_getElem? (i := 819) (by decide +kernel), List.mem_of_getElem? (i := 992) (by decide +kernel), List.mem_of_getElem? (i := 993) (by decide +kernel)⟩
theorem lw_p21 : lw_okq (⟨"GapTellingsModel", "wide", "(II)I"⟩, 29) := ⟨⟨by decide +kernel, by decide +kernel⟩, List.mem_of_getElem? (i := 819) (by decide +kernel), List.mem_of_getElem? (i := 996) (by decide +kernel), List.mem_of_getElem? (i := 997) (by decide +kernel)⟩
theorem lw_p22 : lw_okq (⟨"GapTellingsModel", "endOf", "(I)I"⟩, 29) := ⟨⟨by decide +kernel, by decide +kernel⟩, List.mem_of_getElem? (i := 819) (by decide +kernel), List.mem_of_getElem? (i := 1000) (by decide +kernel), List.mem_of_getElem? (i := 1001) (by decide +kernel)⟩
theorem lw_p23 : lw_okq (⟨"GapTellingsModel", "isPicture", "(I)Z"⟩, 29) := ⟨⟨by decide +kernel, by decide +kernel⟩, List.mem_of_getElem? (i := 819) (by decide +kernel), List.mem_of_getElem? (i := 1012) (by decide +kernel), List.mem_of_getElem? (i := 1013) (by decide +kernel)⟩
theorem lw_p24 : lw_okq (⟨"GapTellingsModel", "isTelling", "(III)Z"⟩, 29) := ⟨⟨by decide +kernel, by decide +kernel⟩, List.mem_of_getElem? (i := 819) (by decide +kernel), List.mem_of_getElem? (i := 1020) (by decide +kernel), List.mem_of_getElem? (i := 1021) (by decide +kernel)⟩
theorem lw_p25 : lw_okq (⟨"GapTellingsModel", "gainOf", "(III)I"⟩, 29) := ⟨⟨by decide +kernel, by decide +kernel⟩, List.mem_of_getElem? (i := 819) (by decide +kernel), List.mem_of_getElem? (i := 1024) (by decide +kernel), List.mem_of_getElem? (i := 1025) (by decide +kernel)⟩
theorem lw_p26 : lw_okq (⟨"GapTellingsModel", "sum", "()I"⟩, 29) := ⟨⟨by decide +kernel, by decide +kernel⟩, List.mem_of_getElem? (i := 819) (by decide +kernel), List.mem_of_getElem? (i := 1045) (by decide +kernel), List.mem_of_getElem? (i := 1046) (by decide +kernel)⟩
theorem lw_p27 : lw_okq (⟨"GapTellingsModel", "plans", "()I"⟩, 29) := ⟨⟨by decide +kernel, by decide +kernel⟩, List.mem_of_getElem? (i := 819) (by decide +kernel), List.mem_of_getElem? (i := 1053) (by decide +kernel), List.mem_of_getElem? (i := 1054) (by decide +kernel)⟩
theorem lw_p28 : lw_okq (⟨"GapTellingsModel", "fills", "(I)I"⟩, 29) := ⟨⟨by decide +kernel, by decide +kernel⟩, List.mem_of_getElem? (i := 819) (by decide +kernel), List.mem_of_getElem? (i := 1057) (by decide +kernel), List.mem_of_getElem? (i := 1058) (by decide +kernel)⟩
theorem lw_p29 : lw_okq (⟨"GapTellingsModel", "begun", "(IIII)I"⟩, 29) := ⟨⟨by decide +kernel, by decide +kernel⟩, List.mem_of_getElem? (i := 819) (by decide +kernel), List.mem_of_getElem? (i := 1061) (by decide +kernel), List.mem_of_getElem? (i := 1062) (by decide +kernel)⟩
theorem lw_p30 : lw_okq (⟨"GapTellingsModel", "begins", "(II)I"⟩, 29) := ⟨⟨by decide +kernel, by decide +kernel⟩, List.mem_of_getElem? (i := 819) (by decide +kernel), List.mem_of_getElem? (i := 1066) (by decide +kernel), List.mem_of_getElem? (i := 1067) (by decide +kernel)⟩
theorem lw_p31 : lw_okq (⟨"GapTellingsModel", "isTold", "(I)Z"⟩, 29) := ⟨⟨by decide +kernel, by decide +kernel⟩, List.mem_of_getElem? (i := 819) (by decide +kernel), List.mem_of_getElem? (i := 1082) (by decide +kernel), List.mem_of_getElem? (i := 1083) (by decide +kernel)⟩
def lw_privs_2 : List (MethodName × Nat) := [(⟨"GapTellingsModel", "readsPicture", "(I)Z"⟩, 29), (⟨"GapTellingsModel", "readsNeed", "(I)Z"⟩, 29), (⟨"GapTellingsModel", "hears", "()V"⟩, 29), (⟨"GapTellingsModel", "whyNot", "(III)I"⟩, 29), (⟨"GapTellingsModel", "whyByFilm", "(III)I"⟩, 29), (⟨"GapTellingsModel", "wide", "(II)I"⟩, 29), (⟨"GapTellingsModel", "endOf", "(I)I"⟩, 29), (⟨"GapTellingsModel", "isPicture", "(I)Z"⟩, 29), (⟨"GapTellingsModel", "isTelling", "(III)Z"⟩, 29), (⟨"GapTellingsModel", "gainOf", "(III)I"⟩, 29), (⟨"GapTellingsModel", "sum", "()I"⟩, 29), (⟨"GapTellingsModel", "plans", "()I"⟩, 29), (⟨"GapTellingsModel", "fills", "(I)I"⟩, 29), (⟨"GapTellingsModel", "begun", "(IIII)I"⟩, 29), (⟨"GapTellingsModel", "begins", "(II)I"⟩, 29), (⟨"GapTellingsModel", "isTold", "(I)Z"⟩, 29)]
theorem lw_r2 : ∀ q ∈ lw_privs_2, lw_okq q := List.forall_mem_cons.mpr ⟨lw_p16, List.forall_mem_cons.mpr ⟨lw_p17, List.forall_mem_cons.mpr ⟨lw_p18, List.forall_mem_cons.mpr ⟨lw_p19, List.forall_mem_cons.mpr ⟨lw_p20, List.forall_mem_cons.mpr ⟨lw_p21, List.forall_mem_cons.mpr ⟨lw_p22, List.forall_mem_cons.mpr ⟨lw_p23, List.forall_mem_cons.mpr ⟨lw_p24, List.forall_mem_cons.mpr ⟨lw_p25, List.forall_mem_cons.mpr ⟨lw_p26, List.forall_mem_cons.mpr ⟨lw_p27, List.forall_mem_cons.mpr ⟨lw_p28, List.forall_mem_cons.mpr ⟨lw_p29, List.forall_mem_cons.mpr ⟨lw_p30, List.forall_mem_cons.mpr ⟨lw_p31, fun _ h => absurd h List.not_mem_nil⟩⟩⟩⟩⟩⟩⟩⟩⟩⟩⟩⟩⟩⟩⟩⟩
theorem lw_p32 : lw_okq (⟨"GapTellingsModel", "greeds", "()I"⟩, 29) := ⟨⟨by decide +kernel, by decide +kernel⟩, List.mem_of_getElem? (i := 819) (by decide +kernel), List.mem_of_getElem? (i := 1114) (by decide +kernel), List.mem_of_getElem? (i := 1115) (by decide +kernel)⟩
theorem lw_p33 : lw_okq (⟨"GapTellingsModel", "worthiest", "()I"⟩, 29) := ⟨⟨by decide +kernel, by decide +kernel⟩, List.mem_of_getElem? (i := 819) (by decide +kernel), List.mem_of_getElem? (i := 1118) (by decide +kernel), List.mem_of_getElem? (i := 1119) (by decide +kernel)⟩
def lw_privs_3 : List (MethodName × Nat) := [(⟨"GapTellingsModel", "greeds", "()I"⟩, 29), (⟨"GapTellingsModel", "worthiest", "()I"⟩, 29)]
theorem lw_r3 : ∀ q ∈ lw_privs_3, lw_okq q := List.forall_mem_cons.mpr ⟨lw_p32, List.forall_mem_cons.mpr ⟨lw_p33, fun _ h => absurd h List.not_mem_nil⟩⟩
def lw_privs : List (MethodName × Nat) := lw_privs_1 ++ (lw_privs_2 ++ (lw_privs_3))
def lw_tbl : List Cond := k2_sels lw_privs ++ tables_1
theorem lw_privs_ok : ∀ q ∈ lw_privs, lw_okq q := by
  show ∀ q ∈ lw_privs_1 ++ (lw_privs_2 ++ (lw_privs_3)), lw_okq q
  exact List.forall_mem_append.mpr ⟨lw_r1, List.forall_mem_append.mpr ⟨lw_r2, lw_r3⟩⟩
/-! ===== BEGIN words of one list among another's, by their places ===== -/
theorem goodIn_r {big : List Cond} (ws : List Cond) (ps : List Nat) (hp : ws = ps.filterMap (fun i => big[i]?)) (h : ws.all goodWord = true) : GoodIn big ws := by
  intro w hw
  have h1 := List.all_eq_true.mp h w hw
  rw [hp] at hw
  obtain ⟨i, -, hi⟩ := List.mem_filterMap.mp hw
  have hm : w ∈ big := by first | exact List.mem_of_getElem? hi | exact List.getElem?_mem hi
  exact ⟨hm, good_of_word h1⟩
theorem goodIn_app {big a b : List Cond} (ha : GoodIn big a) (hb : GoodIn big b) : GoodIn big (a ++ b) := fun w h => (List.mem_append.mp h).elim (ha w) (hb w)
theorem goodIn_ca {big a b : List Cond} {c : Cond} (ha : GoodIn big (c :: a)) (hb : GoodIn big b) : GoodIn big (c :: (a ++ b)) := fun w h => (List.mem_cons.mp h).elim (fun e => ha w (List.mem_cons.mpr (Or.inl e))) (fun h => (List.mem_append.mp h).elim (fun h => ha w (List.mem_cons.mpr (Or.inr h))) (hb w))
theorem goodIn_sub {big ws : List Cond} (hm : ∀ w ∈ ws, w ∈ big) (h : ws.all goodWord = true) : GoodIn big ws := fun w hw => ⟨hm w hw, good_of_word (List.all_eq_true.mp h w hw)⟩
/-! ===== END ===== -/

/-! ===== BEGIN printed: names, fields, word lists, decode rows ===== -/
def RX0 : String := "GapTellings$BestFinder"
def TX0 : u_T := fun k => match k with
  | 0 => ("GapTellings$BestFinder", "film", "LGapTellings$Film;", true)
  | _ => ("GapTellings$BestFinder", "table", "[I", true)
def tyX0 : Nat → FieldType := fun k => match k with
  | 0 => .object "GapTellings$Film"
  | _ => .array .int
abbrev wsX00 : List Cond := u_ws RX0 TX0 2
theorem nmX0 : ∀ a, a < 2 → ∀ b, b < 2 → a ≠ b → (TX0 a).2.1 ≠ (TX0 b).2.1 := by decide +kernel
theorem tyX0_ok : ∀ k, k < 2 → parseFieldDescriptor (TX0 k).2.2.1 = some (tyX0 k) := by decide +kernel
abbrev cX0_init : ByteArray := prog_2_method_1_code
def yX0_init : MethodName := ⟨RX0, "<init>", "(LGapTellings$Film;)V"⟩
abbrev cX0_solve : ByteArray := prog_2_method_2_code
def yX0_solve : MethodName := ⟨RX0, "solve", "(LGapTellings$Track;II)I"⟩
abbrev cX0_openAhead : ByteArray := prog_2_method_3_code
def yX0_openAhead : MethodName := ⟨RX0, "openAhead", "(II)I"⟩
abbrev cX0_tryPicture : ByteArray := prog_2_method_4_code
def yX0_tryPicture : MethodName := ⟨RX0, "tryPicture", "(LGapTellings$Track;IIII)V"⟩
abbrev cX0_raiseRow : ByteArray := prog_2_method_5_code
def yX0_raiseRow : MethodName := ⟨RX0, "raiseRow", "(IIIII)V"⟩
abbrev cX0_nextFree : ByteArray := prog_2_method_6_code
def yX0_nextFree : MethodName := ⟨RX0, "nextFree", "(IIII)I"⟩
abbrev cX0_neededSet : ByteArray := prog_2_method_7_code
def yX0_neededSet : MethodName := ⟨RX0, "neededSet", "(I)I"⟩
abbrev cX0_trace : ByteArray := prog_2_method_8_code
def yX0_trace : MethodName := ⟨RX0, "trace", "(LGapTellings$Track;ILGapTellings$Plan;)V"⟩
abbrev cX0_putFirst : ByteArray := prog_2_method_9_code
def yX0_putFirst : MethodName := ⟨RX0, "putFirst", "(LGapTellings$Track;ILGapTellings$Plan;II)I"⟩
def RX1 : String := "GapTellings$Film"
def TX1 : u_T := fun k => match k with
  | 0 => ("GapTellings$Film", "ticks", "I", false)
  | 1 => ("GapTellings$Film", "breath", "I", false)
  | 2 => ("GapTellings$Film", "rates", "[I", true)
  | 3 => ("GapTellings$Film", "soundCount", "I", false)
  | 4 => ("GapTellings$Film", "kinds", "[I", true)
  | 5 => ("GapTellings$Film", "begins", "[I", true)
  | 6 => ("GapTellings$Film", "ends", "[I", true)
  | 7 => ("GapTellings$Film", "pictureCount", "I", false)
  | _ => ("GapTellings$Film", "pictures", "[LGapTellings$Picture;", true)
def tyX1 : Nat → FieldType := fun k => match k with
  | 0 => .int
  | 1 => .int
  | 2 => .array .int
  | 3 => .int
  | 4 => .array .int
  | 5 => .array .int
  | 6 => .array .int
  | 7 => .int
  | _ => .array (.object "GapTellings$Picture")
abbrev wsX10 : List Cond := u_ws RX1 TX1 9
theorem nmX1 : ∀ a, a < 9 → ∀ b, b < 9 → a ≠ b → (TX1 a).2.1 ≠ (TX1 b).2.1 := by decide +kernel
theorem tyX1_ok : ∀ k, k < 9 → parseFieldDescriptor (TX1 k).2.2.1 = some (tyX1 k) := by decide +kernel
abbrev cX1_init : ByteArray := prog_3_method_1_code
def yX1_init : MethodName := ⟨RX1, "<init>", "()V"⟩
abbrev cX1_startAnew : ByteArray := prog_3_method_2_code
def yX1_startAnew : MethodName := ⟨RX1, "startAnew", "()V"⟩
abbrev cX1_addSound : ByteArray := prog_3_method_3_code
def yX1_addSound : MethodName := ⟨RX1, "addSound", "(III)V"⟩
abbrev cX1_dropSound : ByteArray := prog_3_method_4_code
def yX1_dropSound : MethodName := ⟨RX1, "dropSound", "(I)V"⟩
abbrev cX1_allPictures : ByteArray := prog_3_method_5_code
def yX1_allPictures : MethodName := ⟨RX1, "allPictures", "()I"⟩
def RX2 : String := "GapTellings$GreedyFinder"
def TX2 : u_T := fun k => match k with
  | 0 => ("GapTellings$GreedyFinder", "film", "LGapTellings$Film;", true)
  | 1 => ("GapTellings$GreedyFinder", "track", "LGapTellings$Track;", true)
  | 2 => ("GapTellings$GreedyFinder", "plan", "LGapTellings$Plan;", true)
  | 3 => ("GapTellings$GreedyFinder", "known", "Z", false)
  | 4 => ("GapTellings$GreedyFinder", "passed", "I", false)
  | 5 => ("GapTellings$GreedyFinder", "foundPicture", "I", false)
  | 6 => ("GapTellings$GreedyFinder", "foundVersion", "I", false)
  | 7 => ("GapTellings$GreedyFinder", "foundTick", "I", false)
  | 8 => ("GapTellings$GreedyFinder", "foundWorth", "I", false)
  | _ => ("GapTellings$GreedyFinder", "foundGain", "I", false)
def tyX2 : Nat → FieldType := fun k => match k with
  | 0 => .object "GapTellings$Film"
  | 1 => .object "GapTellings$Track"
  | 2 => .object "GapTellings$Plan"
  | 3 => .boolean
  | 4 => .int
  | 5 => .int
  | 6 => .int
  | 7 => .int
  | 8 => .int
  | _ => .int
abbrev wsX20 : List Cond := u_ws RX2 TX2 10
theorem nmX2 : ∀ a, a < 10 → ∀ b, b < 10 → a ≠ b → (TX2 a).2.1 ≠ (TX2 b).2.1 := by decide +kernel
theorem tyX2_ok : ∀ k, k < 10 → parseFieldDescriptor (TX2 k).2.2.1 = some (tyX2 k) := by decide +kernel
abbrev cX2_init : ByteArray := prog_4_method_1_code
def yX2_init : MethodName := ⟨RX2, "<init>", "(LGapTellings$Film;LGapTellings$Track;)V"⟩
abbrev cX2_fillPlan : ByteArray := prog_4_method_2_code
def yX2_fillPlan : MethodName := ⟨RX2, "fillPlan", "()V"⟩
abbrev cX2_versionBit : ByteArray := prog_4_method_3_code
def yX2_versionBit : MethodName := ⟨RX2, "versionBit", "(II)I"⟩
abbrev cX2_findWorthiest : ByteArray := prog_4_method_4_code
def yX2_findWorthiest : MethodName := ⟨RX2, "findWorthiest", "()V"⟩
abbrev cX2_lookAtTicks : ByteArray := prog_4_method_5_code
def yX2_lookAtTicks : MethodName := ⟨RX2, "lookAtTicks", "(II)V"⟩
abbrev cX2_offer : ByteArray := prog_4_method_6_code
def yX2_offer : MethodName := ⟨RX2, "offer", "(III)V"⟩
def RX3 : String := "GapTellings$Picture"
def TX3 : u_T := fun k => match k with
  | 0 => ("GapTellings$Picture", "tick", "I", false)
  | 1 => ("GapTellings$Picture", "early", "I", false)
  | 2 => ("GapTellings$Picture", "late", "I", false)
  | 3 => ("GapTellings$Picture", "needs", "I", false)
  | 4 => ("GapTellings$Picture", "versionCount", "I", false)
  | 5 => ("GapTellings$Picture", "lengths", "[I", true)
  | _ => ("GapTellings$Picture", "worths", "[I", true)
def tyX3 : Nat → FieldType := fun k => match k with
  | 0 => .int
  | 1 => .int
  | 2 => .int
  | 3 => .int
  | 4 => .int
  | 5 => .array .int
  | _ => .array .int
abbrev wsX30 : List Cond := u_ws RX3 TX3 7
theorem nmX3 : ∀ a, a < 7 → ∀ b, b < 7 → a ≠ b → (TX3 a).2.1 ≠ (TX3 b).2.1 := by decide +kernel
theorem tyX3_ok : ∀ k, k < 7 → parseFieldDescriptor (TX3 k).2.2.1 = some (tyX3 k) := by decide +kernel
abbrev cX3_init : ByteArray := prog_5_method_1_code
def yX3_init : MethodName := ⟨RX3, "<init>", "()V"⟩
abbrev cX3_start : ByteArray := prog_5_method_2_code
def yX3_start : MethodName := ⟨RX3, "start", "(III)V"⟩
abbrev cX3_isNear : ByteArray := prog_5_method_3_code
def yX3_isNear : MethodName := ⟨RX3, "isNear", "(I)Z"⟩
abbrev cX3_addVersion : ByteArray := prog_5_method_4_code
def yX3_addVersion : MethodName := ⟨RX3, "addVersion", "(II)V"⟩
def RX4 : String := "GapTellings$Plan"
def TX4 : u_T := fun k => match k with
  | 0 => ("GapTellings$Plan", "film", "LGapTellings$Film;", true)
  | 1 => ("GapTellings$Plan", "versions", "[I", true)
  | _ => ("GapTellings$Plan", "starts", "[I", true)
def tyX4 : Nat → FieldType := fun k => match k with
  | 0 => .object "GapTellings$Film"
  | 1 => .array .int
  | _ => .array .int
abbrev wsX40 : List Cond := u_ws RX4 TX4 3
theorem nmX4 : ∀ a, a < 3 → ∀ b, b < 3 → a ≠ b → (TX4 a).2.1 ≠ (TX4 b).2.1 := by decide +kernel
theorem tyX4_ok : ∀ k, k < 3 → parseFieldDescriptor (TX4 k).2.2.1 = some (tyX4 k) := by decide +kernel
abbrev cX4_init : ByteArray := prog_6_method_1_code
def yX4_init : MethodName := ⟨RX4, "<init>", "(LGapTellings$Film;)V"⟩
abbrev cX4_clear : ByteArray := prog_6_method_2_code
def yX4_clear : MethodName := ⟨RX4, "clear", "()V"⟩
abbrev cX4_copyFrom : ByteArray := prog_6_method_3_code
def yX4_copyFrom : MethodName := ⟨RX4, "copyFrom", "(LGapTellings$Plan;)V"⟩
abbrev cX4_has : ByteArray := prog_6_method_4_code
def yX4_has : MethodName := ⟨RX4, "has", "(I)Z"⟩
abbrev cX4_put : ByteArray := prog_6_method_5_code
def yX4_put : MethodName := ⟨RX4, "put", "(III)V"⟩
abbrev cX4_drop : ByteArray := prog_6_method_6_code
def yX4_drop : MethodName := ⟨RX4, "drop", "(I)V"⟩
abbrev cX4_size : ByteArray := prog_6_method_7_code
def yX4_size : MethodName := ⟨RX4, "size", "()I"⟩
abbrev cX4_endOf : ByteArray := prog_6_method_8_code
def yX4_endOf : MethodName := ⟨RX4, "endOf", "(I)I"⟩
abbrev cX4_whyNot : ByteArray := prog_6_method_9_code
def yX4_whyNot : MethodName := ⟨RX4, "whyNot", "(LGapTellings$Track;III)I"⟩
abbrev cX4_whyNotBesideOthers : ByteArray := prog_6_method_10_code
def yX4_whyNotBesideOthers : MethodName := ⟨RX4, "whyNotBesideOthers", "(III)I"⟩
abbrev cX4_dropFaulty : ByteArray := prog_6_method_11_code
def yX4_dropFaulty : MethodName := ⟨RX4, "dropFaulty", "(LGapTellings$Track;)V"⟩
abbrev cX4_lowestFaulty : ByteArray := prog_6_method_12_code
def yX4_lowestFaulty : MethodName := ⟨RX4, "lowestFaulty", "(LGapTellings$Track;)I"⟩
abbrev cX4_dropWithNeeders : ByteArray := prog_6_method_13_code
def yX4_dropWithNeeders : MethodName := ⟨RX4, "dropWithNeeders", "(I)I"⟩
abbrev cX4_valueOn : ByteArray := prog_6_method_14_code
def yX4_valueOn : MethodName := ⟨RX4, "valueOn", "(LGapTellings$Track;)I"⟩
abbrev cX4_tellsAt : ByteArray := prog_6_method_15_code
def yX4_tellsAt : MethodName := ⟨RX4, "tellsAt", "(I)Z"⟩
abbrev cX4_ticksTold : ByteArray := prog_6_method_16_code
def yX4_ticksTold : MethodName := ⟨RX4, "ticksTold", "(II)I"⟩
def RX5 : String := "GapTellings$TextReader"
def TX5 : u_T := fun k => match k with
  | 0 => ("GapTellings$TextReader", "numbers", "[I", true)
  | 1 => ("GapTellings$TextReader", "figures", "[I", true)
  | 2 => ("GapTellings$TextReader", "found", "I", false)
  | _ => ("GapTellings$TextReader", "at", "I", false)
def tyX5 : Nat → FieldType := fun k => match k with
  | 0 => .array .int
  | 1 => .array .int
  | 2 => .int
  | _ => .int
abbrev wsX50 : List Cond := u_ws RX5 TX5 4
theorem nmX5 : ∀ a, a < 4 → ∀ b, b < 4 → a ≠ b → (TX5 a).2.1 ≠ (TX5 b).2.1 := by decide +kernel
theorem tyX5_ok : ∀ k, k < 4 → parseFieldDescriptor (TX5 k).2.2.1 = some (tyX5 k) := by decide +kernel
abbrev cX5_init : ByteArray := prog_7_method_1_code
def yX5_init : MethodName := ⟨RX5, "<init>", "()V"⟩
abbrev cX5_read : ByteArray := prog_7_method_2_code
def yX5_read : MethodName := ⟨RX5, "read", "([CILGapTellings$Film;)I"⟩
abbrev cX5_readNumbers : ByteArray := prog_7_method_3_code
def yX5_readNumbers : MethodName := ⟨RX5, "readNumbers", "([CI)Z"⟩
abbrev cX5_readNumber : ByteArray := prog_7_method_4_code
def yX5_readNumber : MethodName := ⟨RX5, "readNumber", "([CII)V"⟩
abbrev cX5_tellItem : ByteArray := prog_7_method_5_code
def yX5_tellItem : MethodName := ⟨RX5, "tellItem", "(CLGapTellings$Film;)Z"⟩
abbrev cX5_tellFilm : ByteArray := prog_7_method_6_code
def yX5_tellFilm : MethodName := ⟨RX5, "tellFilm", "(LGapTellings$Film;)Z"⟩
abbrev cX5_tellSound : ByteArray := prog_7_method_7_code
def yX5_tellSound : MethodName := ⟨RX5, "tellSound", "(LGapTellings$Film;I)Z"⟩
abbrev cX5_tellPicture : ByteArray := prog_7_method_8_code
def yX5_tellPicture : MethodName := ⟨RX5, "tellPicture", "(LGapTellings$Film;)Z"⟩
abbrev cX5_isPicture : ByteArray := prog_7_method_9_code
def yX5_isPicture : MethodName := ⟨RX5, "isPicture", "(LGapTellings$Film;)Z"⟩
abbrev cX5_allShort : ByteArray := prog_7_method_10_code
def yX5_allShort : MethodName := ⟨RX5, "allShort", "()Z"⟩
abbrev cX5_tellNeed : ByteArray := prog_7_method_11_code
def yX5_tellNeed : MethodName := ⟨RX5, "tellNeed", "(LGapTellings$Film;)Z"⟩
abbrev cX5_tellBreath : ByteArray := prog_7_method_12_code
def yX5_tellBreath : MethodName := ⟨RX5, "tellBreath", "(LGapTellings$Film;)Z"⟩
def RX6 : String := "GapTellings$Track"
def TX6 : u_T := fun k => match k with
  | 0 => ("GapTellings$Track", "film", "LGapTellings$Film;", true)
  | 1 => ("GapTellings$Track", "marks", "[I", true)
  | 2 => ("GapTellings$Track", "speechBefore", "[I", true)
  | _ => ("GapTellings$Track", "costBefore", "[I", true)
def tyX6 : Nat → FieldType := fun k => match k with
  | 0 => .object "GapTellings$Film"
  | 1 => .array .int
  | 2 => .array .int
  | _ => .array .int
abbrev wsX60 : List Cond := u_ws RX6 TX6 4
theorem nmX6 : ∀ a, a < 4 → ∀ b, b < 4 → a ≠ b → (TX6 a).2.1 ≠ (TX6 b).2.1 := by decide +kernel
theorem tyX6_ok : ∀ k, k < 4 → parseFieldDescriptor (TX6 k).2.2.1 = some (tyX6 k) := by decide +kernel
abbrev cX6_init : ByteArray := prog_8_method_1_code
def yX6_init : MethodName := ⟨RX6, "<init>", "(LGapTellings$Film;)V"⟩
abbrev cX6_listen : ByteArray := prog_8_method_2_code
def yX6_listen : MethodName := ⟨RX6, "listen", "(II)V"⟩
abbrev cX6_hasSpeech : ByteArray := prog_8_method_3_code
def yX6_hasSpeech : MethodName := ⟨RX6, "hasSpeech", "(I)Z"⟩
abbrev cX6_soundCost : ByteArray := prog_8_method_4_code
def yX6_soundCost : MethodName := ⟨RX6, "soundCost", "(I)I"⟩
abbrev cX6_ownWhyNot : ByteArray := prog_8_method_5_code
def yX6_ownWhyNot : MethodName := ⟨RX6, "ownWhyNot", "(III)I"⟩
abbrev cX6_gainOf : ByteArray := prog_8_method_6_code
def yX6_gainOf : MethodName := ⟨RX6, "gainOf", "(III)I"⟩
abbrev cX6_ticksOpen : ByteArray := prog_8_method_7_code
def yX6_ticksOpen : MethodName := ⟨RX6, "ticksOpen", "(II)I"⟩
abbrev cX6_greatestGain : ByteArray := prog_8_method_8_code
def yX6_greatestGain : MethodName := ⟨RX6, "greatestGain", "(II)I"⟩
abbrev cX6_silenceBeginsAt : ByteArray := prog_8_method_9_code
def yX6_silenceBeginsAt : MethodName := ⟨RX6, "silenceBeginsAt", "(I)Z"⟩
abbrev cX6_silenceCount : ByteArray := prog_8_method_10_code
def yX6_silenceCount : MethodName := ⟨RX6, "silenceCount", "()I"⟩
abbrev cX6_silenceBegin : ByteArray := prog_8_method_11_code
def yX6_silenceBegin : MethodName := ⟨RX6, "silenceBegin", "(I)I"⟩
abbrev cX6_silenceEnd : ByteArray := prog_8_method_12_code
def yX6_silenceEnd : MethodName := ⟨RX6, "silenceEnd", "(I)I"⟩
def RX7 : String := "GapTellings"
def TX7 : u_T := fun k => match k with
  | 0 => ("GapTellings", "text", "[C", true)
  | 1 => ("GapTellings", "textLength", "I", false)
  | 2 => ("GapTellings", "reader", "LGapTellings$TextReader;", true)
  | 3 => ("GapTellings", "draft", "LGapTellings$Film;", true)
  | 4 => ("GapTellings", "film", "LGapTellings$Film;", true)
  | 5 => ("GapTellings", "track", "LGapTellings$Track;", true)
  | 6 => ("GapTellings", "supposed", "LGapTellings$Track;", true)
  | 7 => ("GapTellings", "placed", "LGapTellings$Plan;", true)
  | 8 => ("GapTellings", "bestFinder", "LGapTellings$BestFinder;", true)
  | 9 => ("GapTellings", "bestPlan", "LGapTellings$Plan;", true)
  | 10 => ("GapTellings", "bestValue", "I", false)
  | 11 => ("GapTellings", "bestKnown", "Z", false)
  | _ => ("GapTellings", "greedyFinder", "LGapTellings$GreedyFinder;", true)
def tyX7 : Nat → FieldType := fun k => match k with
  | 0 => .array .char
  | 1 => .int
  | 2 => .object "GapTellings$TextReader"
  | 3 => .object "GapTellings$Film"
  | 4 => .object "GapTellings$Film"
  | 5 => .object "GapTellings$Track"
  | 6 => .object "GapTellings$Track"
  | 7 => .object "GapTellings$Plan"
  | 8 => .object "GapTellings$BestFinder"
  | 9 => .object "GapTellings$Plan"
  | 10 => .int
  | 11 => .boolean
  | _ => .object "GapTellings$GreedyFinder"
abbrev wsX70 : List Cond := u_ws RX7 TX7 13
theorem nmX7 : ∀ a, a < 13 → ∀ b, b < 13 → a ≠ b → (TX7 a).2.1 ≠ (TX7 b).2.1 := by decide +kernel
theorem tyX7_ok : ∀ k, k < 13 → parseFieldDescriptor (TX7 k).2.2.1 = some (tyX7 k) := by decide +kernel
abbrev cX7_init : ByteArray := prog_1_method_1_code
def yX7_init : MethodName := ⟨RX7, "<init>", "()V"⟩
abbrev cX7_write : ByteArray := prog_1_method_2_code
def yX7_write : MethodName := ⟨RX7, "write", "(I)I"⟩
abbrev cX7_wipe : ByteArray := prog_1_method_3_code
def yX7_wipe : MethodName := ⟨RX7, "wipe", "()I"⟩
abbrev cX7_fault : ByteArray := prog_1_method_4_code
def yX7_fault : MethodName := ⟨RX7, "fault", "()I"⟩
abbrev cX7_lay : ByteArray := prog_1_method_5_code
def yX7_lay : MethodName := ⟨RX7, "lay", "()I"⟩
abbrev cX7_rate : ByteArray := prog_1_method_6_code
def yX7_rate : MethodName := ⟨RX7, "rate", "(II)I"⟩
abbrev cX7_breath : ByteArray := prog_1_method_7_code
def yX7_breath : MethodName := ⟨RX7, "breath", "(I)I"⟩
abbrev cX7_sound : ByteArray := prog_1_method_8_code
def yX7_sound : MethodName := ⟨RX7, "sound", "(III)I"⟩
abbrev cX7_hush : ByteArray := prog_1_method_9_code
def yX7_hush : MethodName := ⟨RX7, "hush", "(I)I"⟩
abbrev cX7_version : ByteArray := prog_1_method_10_code
def yX7_version : MethodName := ⟨RX7, "version", "(III)I"⟩
abbrev cX7_place : ByteArray := prog_1_method_11_code
def yX7_place : MethodName := ⟨RX7, "place", "(III)I"⟩
abbrev cX7_off : ByteArray := prog_1_method_12_code
def yX7_off : MethodName := ⟨RX7, "off", "(I)I"⟩
abbrev cX7_why : ByteArray := prog_1_method_13_code
def yX7_why : MethodName := ⟨RX7, "why", "(III)I"⟩
abbrev cX7_gain : ByteArray := prog_1_method_14_code
def yX7_gain : MethodName := ⟨RX7, "gain", "(III)I"⟩
abbrev cX7_value : ByteArray := prog_1_method_15_code
def yX7_value : MethodName := ⟨RX7, "value", "()I"⟩
abbrev cX7_adopt : ByteArray := prog_1_method_16_code
def yX7_adopt : MethodName := ⟨RX7, "adopt", "()I"⟩
abbrev cX7_picture : ByteArray := prog_1_method_17_code
def yX7_picture : MethodName := ⟨RX7, "picture", "(II)I"⟩
abbrev cX7_told : ByteArray := prog_1_method_18_code
def yX7_told : MethodName := ⟨RX7, "told", "(III)I"⟩
abbrev cX7_tick : ByteArray := prog_1_method_19_code
def yX7_tick : MethodName := ⟨RX7, "tick", "(I)I"⟩
abbrev cX7_silence : ByteArray := prog_1_method_20_code
def yX7_silence : MethodName := ⟨RX7, "silence", "(II)I"⟩
abbrev cX7_best : ByteArray := prog_1_method_21_code
def yX7_best : MethodName := ⟨RX7, "best", "()I"⟩
abbrev cX7_bestOf : ByteArray := prog_1_method_22_code
def yX7_bestOf : MethodName := ⟨RX7, "bestOf", "(II)I"⟩
abbrev cX7_bestBy : ByteArray := prog_1_method_23_code
def yX7_bestBy : MethodName := ⟨RX7, "bestBy", "(I)I"⟩
abbrev cX7_bestIf : ByteArray := prog_1_method_24_code
def yX7_bestIf : MethodName := ⟨RX7, "bestIf", "(II)I"⟩
abbrev cX7_bestBreath : ByteArray := prog_1_method_25_code
def yX7_bestBreath : MethodName := ⟨RX7, "bestBreath", "(I)I"⟩
abbrev cX7_greedy : ByteArray := prog_1_method_26_code
def yX7_greedy : MethodName := ⟨RX7, "greedy", "()I"⟩
abbrev cX7_greedyOf : ByteArray := prog_1_method_27_code
def yX7_greedyOf : MethodName := ⟨RX7, "greedyOf", "(II)I"⟩
abbrev cX7_count : ByteArray := prog_1_method_28_code
def yX7_count : MethodName := ⟨RX7, "count", "(I)I"⟩
abbrev cX7_hasPicture : ByteArray := prog_1_method_29_code
def yX7_hasPicture : MethodName := ⟨RX7, "hasPicture", "(I)Z"⟩
abbrev cX7_hasVersion : ByteArray := prog_1_method_30_code
def yX7_hasVersion : MethodName := ⟨RX7, "hasVersion", "(II)Z"⟩
abbrev cX7_hasTick : ByteArray := prog_1_method_31_code
def yX7_hasTick : MethodName := ⟨RX7, "hasTick", "(I)Z"⟩
abbrev cX7_hasSound : ByteArray := prog_1_method_32_code
def yX7_hasSound : MethodName := ⟨RX7, "hasSound", "(I)Z"⟩
abbrev cX7_layText : ByteArray := prog_1_method_33_code
def yX7_layText : MethodName := ⟨RX7, "layText", "()V"⟩
abbrev cX7_filmChanged : ByteArray := prog_1_method_34_code
def yX7_filmChanged : MethodName := ⟨RX7, "filmChanged", "()V"⟩
abbrev cX7_findBest : ByteArray := prog_1_method_35_code
def yX7_findBest : MethodName := ⟨RX7, "findBest", "()V"⟩
abbrev cX7_ticksOpenNow : ByteArray := prog_1_method_36_code
def yX7_ticksOpenNow : MethodName := ⟨RX7, "ticksOpenNow", "(II)I"⟩
def RX8 : String := "GapTellingsModel"
def TX8 : u_T := fun k => match k with
  | 0 => ("GapTellingsModel", "length", "I", false)
  | 1 => ("GapTellingsModel", "text", "[I", true)
  | 2 => ("GapTellingsModel", "ticks", "I", false)
  | 3 => ("GapTellingsModel", "breath", "I", false)
  | 4 => ("GapTellingsModel", "sounds", "I", false)
  | 5 => ("GapTellingsModel", "sound", "[I", true)
  | 6 => ("GapTellingsModel", "pictures", "I", false)
  | 7 => ("GapTellingsModel", "picture", "[I", true)
  | 8 => ("GapTellingsModel", "rates", "[I", true)
  | 9 => ("GapTellingsModel", "readTicks", "I", false)
  | 10 => ("GapTellingsModel", "readBreath", "I", false)
  | 11 => ("GapTellingsModel", "readSounds", "I", false)
  | 12 => ("GapTellingsModel", "readSound", "[I", true)
  | 13 => ("GapTellingsModel", "readPictures", "I", false)
  | 14 => ("GapTellingsModel", "readPicture", "[I", true)
  | 15 => ("GapTellingsModel", "versions", "[I", true)
  | 16 => ("GapTellingsModel", "places", "[I", true)
  | 17 => ("GapTellingsModel", "bestVersions", "[I", true)
  | 18 => ("GapTellingsModel", "bestPlaces", "[I", true)
  | 19 => ("GapTellingsModel", "handVersions", "[I", true)
  | 20 => ("GapTellingsModel", "handPlaces", "[I", true)
  | 21 => ("GapTellingsModel", "passed", "[I", true)
  | 22 => ("GapTellingsModel", "heard", "[I", true)
  | 23 => ("GapTellingsModel", "most", "[I", true)
  | 24 => ("GapTellingsModel", "firstSounds", "[I", true)
  | 25 => ("GapTellingsModel", "firstPictures", "[I", true)
  | 26 => ("GapTellingsModel", "lastPictures", "[I", true)
  | 27 => ("GapTellingsModel", "value", "I", false)
  | _ => ("GapTellingsModel", "ends", "I", false)
def tyX8 : Nat → FieldType := fun k => match k with
  | 0 => .int
  | 1 => .array .int
  | 2 => .int
  | 3 => .int
  | 4 => .int
  | 5 => .array .int
  | 6 => .int
  | 7 => .array .int
  | 8 => .array .int
  | 9 => .int
  | 10 => .int
  | 11 => .int
  | 12 => .array .int
  | 13 => .int
  | 14 => .array .int
  | 15 => .array .int
  | 16 => .array .int
  | 17 => .array .int
  | 18 => .array .int
  | 19 => .array .int
  | 20 => .array .int
  | 21 => .array .int
  | 22 => .array .int
  | 23 => .array .int
  | 24 => .array .int
  | 25 => .array .int
  | 26 => .array .int
  | 27 => .int
  | _ => .int
abbrev wsX80 : List Cond := u_ws RX8 TX8 29
theorem nmX8 : ∀ a, a < 29 → ∀ b, b < 29 → a ≠ b → (TX8 a).2.1 ≠ (TX8 b).2.1 := by decide +kernel
theorem tyX8_ok : ∀ k, k < 29 → parseFieldDescriptor (TX8 k).2.2.1 = some (tyX8 k) := by decide +kernel
abbrev cX8_init : ByteArray := prog_10_method_1_code
def yX8_init : MethodName := ⟨RX8, "<init>", "()V"⟩
abbrev cX8_clears : ByteArray := prog_10_method_2_code
def yX8_clears : MethodName := ⟨RX8, "clears", "()V"⟩
abbrev cX8_isIn : ByteArray := prog_10_method_3_code
def yX8_isIn : MethodName := ⟨RX8, "isIn", "(III)Z"⟩
abbrev cX8_letterAt : ByteArray := prog_10_method_4_code
def yX8_letterAt : MethodName := ⟨RX8, "letterAt", "(I)I"⟩
abbrev cX8_isFigure : ByteArray := prog_10_method_5_code
def yX8_isFigure : MethodName := ⟨RX8, "isFigure", "(I)Z"⟩
abbrev cX8_number : ByteArray := prog_10_method_6_code
def yX8_number : MethodName := ⟨RX8, "number", "(IIII)Z"⟩
abbrev cX8_more : ByteArray := prog_10_method_7_code
def yX8_more : MethodName := ⟨RX8, "more", "(III)Z"⟩
abbrev cX8_readsSound : ByteArray := prog_10_method_8_code
def yX8_readsSound : MethodName := ⟨RX8, "readsSound", "(II)Z"⟩
abbrev cX8_readsPicture : ByteArray := prog_10_method_9_code
def yX8_readsPicture : MethodName := ⟨RX8, "readsPicture", "(I)Z"⟩
abbrev cX8_readsNeed : ByteArray := prog_10_method_10_code
def yX8_readsNeed : MethodName := ⟨RX8, "readsNeed", "(I)Z"⟩
abbrev cX8_readsItem : ByteArray := prog_10_method_11_code
def yX8_readsItem : MethodName := ⟨RX8, "readsItem", "(II)Z"⟩
abbrev cX8_reads : ByteArray := prog_10_method_12_code
def yX8_reads : MethodName := ⟨RX8, "reads", "()I"⟩
abbrev cX8_write : ByteArray := prog_10_method_13_code
def yX8_write : MethodName := ⟨RX8, "write", "(I)I"⟩
abbrev cX8_wipe : ByteArray := prog_10_method_14_code
def yX8_wipe : MethodName := ⟨RX8, "wipe", "()I"⟩
abbrev cX8_fault : ByteArray := prog_10_method_15_code
def yX8_fault : MethodName := ⟨RX8, "fault", "()I"⟩
abbrev cX8_lay : ByteArray := prog_10_method_16_code
def yX8_lay : MethodName := ⟨RX8, "lay", "()I"⟩
abbrev cX8_rate : ByteArray := prog_10_method_17_code
def yX8_rate : MethodName := ⟨RX8, "rate", "(II)I"⟩
abbrev cX8_breath : ByteArray := prog_10_method_18_code
def yX8_breath : MethodName := ⟨RX8, "breath", "(I)I"⟩
abbrev cX8_sound : ByteArray := prog_10_method_19_code
def yX8_sound : MethodName := ⟨RX8, "sound", "(III)I"⟩
abbrev cX8_hush : ByteArray := prog_10_method_20_code
def yX8_hush : MethodName := ⟨RX8, "hush", "(I)I"⟩
abbrev cX8_isPicture : ByteArray := prog_10_method_21_code
def yX8_isPicture : MethodName := ⟨RX8, "isPicture", "(I)Z"⟩
abbrev cX8_version : ByteArray := prog_10_method_22_code
def yX8_version : MethodName := ⟨RX8, "version", "(III)I"⟩
abbrev cX8_hears : ByteArray := prog_10_method_23_code
def yX8_hears : MethodName := ⟨RX8, "hears", "()V"⟩
abbrev cX8_wide : ByteArray := prog_10_method_24_code
def yX8_wide : MethodName := ⟨RX8, "wide", "(II)I"⟩
abbrev cX8_whyByFilm : ByteArray := prog_10_method_25_code
def yX8_whyByFilm : MethodName := ⟨RX8, "whyByFilm", "(III)I"⟩
abbrev cX8_endOf : ByteArray := prog_10_method_26_code
def yX8_endOf : MethodName := ⟨RX8, "endOf", "(I)I"⟩
abbrev cX8_whyNot : ByteArray := prog_10_method_27_code
def yX8_whyNot : MethodName := ⟨RX8, "whyNot", "(III)I"⟩
abbrev cX8_gainOf : ByteArray := prog_10_method_28_code
def yX8_gainOf : MethodName := ⟨RX8, "gainOf", "(III)I"⟩
abbrev cX8_isTelling : ByteArray := prog_10_method_29_code
def yX8_isTelling : MethodName := ⟨RX8, "isTelling", "(III)Z"⟩
abbrev cX8_place : ByteArray := prog_10_method_30_code
def yX8_place : MethodName := ⟨RX8, "place", "(III)I"⟩
abbrev cX8_off : ByteArray := prog_10_method_31_code
def yX8_off : MethodName := ⟨RX8, "off", "(I)I"⟩
abbrev cX8_why : ByteArray := prog_10_method_32_code
def yX8_why : MethodName := ⟨RX8, "why", "(III)I"⟩
abbrev cX8_gain : ByteArray := prog_10_method_33_code
def yX8_gain : MethodName := ⟨RX8, "gain", "(III)I"⟩
abbrev cX8_sum : ByteArray := prog_10_method_34_code
def yX8_sum : MethodName := ⟨RX8, "sum", "()I"⟩
abbrev cX8_value : ByteArray := prog_10_method_35_code
def yX8_value : MethodName := ⟨RX8, "value", "()I"⟩
abbrev cX8_adopt : ByteArray := prog_10_method_36_code
def yX8_adopt : MethodName := ⟨RX8, "adopt", "()I"⟩
abbrev cX8_picture : ByteArray := prog_10_method_37_code
def yX8_picture : MethodName := ⟨RX8, "picture", "(II)I"⟩
abbrev cX8_told : ByteArray := prog_10_method_38_code
def yX8_told : MethodName := ⟨RX8, "told", "(III)I"⟩
abbrev cX8_isTold : ByteArray := prog_10_method_39_code
def yX8_isTold : MethodName := ⟨RX8, "isTold", "(I)Z"⟩
abbrev cX8_tick : ByteArray := prog_10_method_40_code
def yX8_tick : MethodName := ⟨RX8, "tick", "(I)I"⟩
abbrev cX8_silence : ByteArray := prog_10_method_41_code
def yX8_silence : MethodName := ⟨RX8, "silence", "(II)I"⟩
abbrev cX8_begun : ByteArray := prog_10_method_42_code
def yX8_begun : MethodName := ⟨RX8, "begun", "(IIII)I"⟩
abbrev cX8_fills : ByteArray := prog_10_method_43_code
def yX8_fills : MethodName := ⟨RX8, "fills", "(I)I"⟩
abbrev cX8_plans : ByteArray := prog_10_method_44_code
def yX8_plans : MethodName := ⟨RX8, "plans", "()I"⟩
abbrev cX8_begins : ByteArray := prog_10_method_45_code
def yX8_begins : MethodName := ⟨RX8, "begins", "(II)I"⟩
abbrev cX8_best : ByteArray := prog_10_method_46_code
def yX8_best : MethodName := ⟨RX8, "best", "()I"⟩
abbrev cX8_bestOf : ByteArray := prog_10_method_47_code
def yX8_bestOf : MethodName := ⟨RX8, "bestOf", "(II)I"⟩
abbrev cX8_bestBy : ByteArray := prog_10_method_48_code
def yX8_bestBy : MethodName := ⟨RX8, "bestBy", "(I)I"⟩
abbrev cX8_bestIf : ByteArray := prog_10_method_49_code
def yX8_bestIf : MethodName := ⟨RX8, "bestIf", "(II)I"⟩
abbrev cX8_bestBreath : ByteArray := prog_10_method_50_code
def yX8_bestBreath : MethodName := ⟨RX8, "bestBreath", "(I)I"⟩
abbrev cX8_worthiest : ByteArray := prog_10_method_51_code
def yX8_worthiest : MethodName := ⟨RX8, "worthiest", "()I"⟩
abbrev cX8_greeds : ByteArray := prog_10_method_52_code
def yX8_greeds : MethodName := ⟨RX8, "greeds", "()I"⟩
abbrev cX8_greedy : ByteArray := prog_10_method_53_code
def yX8_greedy : MethodName := ⟨RX8, "greedy", "()I"⟩
abbrev cX8_greedyOf : ByteArray := prog_10_method_54_code
def yX8_greedyOf : MethodName := ⟨RX8, "greedyOf", "(II)I"⟩
abbrev cX8_count : ByteArray := prog_10_method_55_code
def yX8_count : MethodName := ⟨RX8, "count", "(I)I"⟩
def RJx145de : String := "java/io/Serializable"
def TJx145de : u_T := fun k => match k with
  | _ => ("", "", "", false)
def tyJx145de : Nat → FieldType := fun k => match k with
  | _ => .int
abbrev wsJx145de0 : List Cond := u_ws RJx145de TJx145de 0
theorem nmJx145de : ∀ a, a < 0 → ∀ b, b < 0 → a ≠ b → (TJx145de a).2.1 ≠ (TJx145de b).2.1 := by decide +kernel
theorem tyJx145de_ok : ∀ k, k < 0 → parseFieldDescriptor (TJx145de k).2.2.1 = some (tyJx145de k) := by decide +kernel
def RJx9f9b0 : String := "java/lang/CharSequence"
def TJx9f9b0 : u_T := fun k => match k with
  | _ => ("", "", "", false)
def tyJx9f9b0 : Nat → FieldType := fun k => match k with
  | _ => .int
abbrev wsJx9f9b00 : List Cond := u_ws RJx9f9b0 TJx9f9b0 0
theorem nmJx9f9b0 : ∀ a, a < 0 → ∀ b, b < 0 → a ≠ b → (TJx9f9b0 a).2.1 ≠ (TJx9f9b0 b).2.1 := by decide +kernel
theorem tyJx9f9b0_ok : ∀ k, k < 0 → parseFieldDescriptor (TJx9f9b0 k).2.2.1 = some (tyJx9f9b0 k) := by decide +kernel
def RJ11 : String := "java/lang/Character"
def TJ11 : u_T := fun k => match k with
  | _ => ("", "", "", false)
def tyJ11 : Nat → FieldType := fun k => match k with
  | _ => .int
abbrev wsJ110 : List Cond := u_ws RJ11 TJ11 0
theorem nmJ11 : ∀ a, a < 0 → ∀ b, b < 0 → a ≠ b → (TJ11 a).2.1 ≠ (TJ11 b).2.1 := by decide +kernel
theorem tyJ11_ok : ∀ k, k < 0 → parseFieldDescriptor (TJ11 k).2.2.1 = some (tyJ11 k) := by decide +kernel
abbrev cJ11_isValidCodePoint_9a6ad : ByteArray := prog_11_method_11_code
def yJ11_isValidCodePoint_9a6ad : MethodName := ⟨RJ11, "isValidCodePoint", "(I)Z"⟩
abbrev cJ11_highSurrogate_5068e : ByteArray := prog_11_method_28_code
def yJ11_highSurrogate_5068e : MethodName := ⟨RJ11, "highSurrogate", "(I)C"⟩
abbrev cJ11_lowSurrogate_5068e : ByteArray := prog_11_method_29_code
def yJ11_lowSurrogate_5068e : MethodName := ⟨RJ11, "lowSurrogate", "(I)C"⟩
def RJxb160c : String := "java/lang/Comparable"
def TJxb160c : u_T := fun k => match k with
  | _ => ("", "", "", false)
def tyJxb160c : Nat → FieldType := fun k => match k with
  | _ => .int
abbrev wsJxb160c0 : List Cond := u_ws RJxb160c TJxb160c 0
theorem nmJxb160c : ∀ a, a < 0 → ∀ b, b < 0 → a ≠ b → (TJxb160c a).2.1 ≠ (TJxb160c b).2.1 := by decide +kernel
theorem tyJxb160c_ok : ∀ k, k < 0 → parseFieldDescriptor (TJxb160c k).2.2.1 = some (tyJxb160c k) := by decide +kernel
def RJ6 : String := "java/lang/Integer"
def TJ6 : u_T := fun k => match k with
  | _ => ("", "", "", false)
def tyJ6 : Nat → FieldType := fun k => match k with
  | _ => .int
abbrev wsJ60 : List Cond := u_ws RJ6 TJ6 0
theorem nmJ6 : ∀ a, a < 0 → ∀ b, b < 0 → a ≠ b → (TJ6 a).2.1 ≠ (TJ6 b).2.1 := by decide +kernel
theorem tyJ6_ok : ∀ k, k < 0 → parseFieldDescriptor (TJ6 k).2.2.1 = some (tyJ6 k) := by decide +kernel
abbrev cJ6_bitCount_0f7a4 : ByteArray := prog_12_method_49_code
def yJ6_bitCount_0f7a4 : MethodName := ⟨RJ6, "bitCount", "(I)I"⟩
def RJ9 : String := "java/lang/Math"
def TJ9 : u_T := fun k => match k with
  | _ => ("", "", "", false)
def tyJ9 : Nat → FieldType := fun k => match k with
  | _ => .int
abbrev wsJ90 : List Cond := u_ws RJ9 TJ9 0
theorem nmJ9 : ∀ a, a < 0 → ∀ b, b < 0 → a ≠ b → (TJ9 a).2.1 ≠ (TJ9 b).2.1 := by decide +kernel
theorem tyJ9_ok : ∀ k, k < 0 → parseFieldDescriptor (TJ9 k).2.2.1 = some (tyJ9 k) := by decide +kernel
abbrev cJ9_max_7cf53 : ByteArray := prog_13_method_65_code
def yJ9_max_7cf53 : MethodName := ⟨RJ9, "max", "(II)I"⟩
abbrev cJ9_min_7cf53 : ByteArray := prog_13_method_69_code
def yJ9_min_7cf53 : MethodName := ⟨RJ9, "min", "(II)I"⟩
def RJ0 : String := "java/lang/String"
def TJ0 : u_T := fun k => match k with
  | _ => ("", "", "", false)
def tyJ0 : Nat → FieldType := fun k => match k with
  | _ => .int
abbrev wsJ00 : List Cond := u_ws RJ0 TJ0 0
theorem nmJ0 : ∀ a, a < 0 → ∀ b, b < 0 → a ≠ b → (TJ0 a).2.1 ≠ (TJ0 b).2.1 := by decide +kernel
theorem tyJ0_ok : ∀ k, k < 0 → parseFieldDescriptor (TJ0 k).2.2.1 = some (tyJ0 k) := by decide +kernel
abbrev cJ0_length_8abf5 : ByteArray := prog_14_method_54_code
def yJ0_length_8abf5 : MethodName := ⟨RJ0, "length", "()I"⟩
abbrev cJ0_charAt_5068e : ByteArray := prog_14_method_56_code
def yJ0_charAt_5068e : MethodName := ⟨RJ0, "charAt", "(I)C"⟩
abbrev cJ0_indexOf_0f7a4 : ByteArray := prog_14_method_79_code
def yJ0_indexOf_0f7a4 : MethodName := ⟨RJ0, "indexOf", "(I)I"⟩
abbrev cJ0_indexOf_7cf53 : ByteArray := prog_14_method_80_code
def yJ0_indexOf_7cf53 : MethodName := ⟨RJ0, "indexOf", "(II)I"⟩
abbrev cJ0_coder_7d493 : ByteArray := prog_14_method_152_code
def yJ0_coder_7d493 : MethodName := ⟨RJ0, "coder", "()B"⟩
abbrev cJ0_isLatin1_aae02 : ByteArray := prog_14_method_154_code
def yJ0_isLatin1_aae02 : MethodName := ⟨RJ0, "isLatin1", "()Z"⟩
abbrev cJ0_checkIndex_df160 : ByteArray := prog_14_method_155_code
def yJ0_checkIndex_df160 : MethodName := ⟨RJ0, "checkIndex", "(II)V"⟩
abbrev cJ0_checkBoundsBeginEnd_23922 : ByteArray := prog_14_method_158_code
def yJ0_checkBoundsBeginEnd_23922 : MethodName := ⟨RJ0, "checkBoundsBeginEnd", "(III)V"⟩
def RJ1 : String := "java/lang/StringLatin1"
def TJ1 : u_T := fun k => match k with
  | _ => ("", "", "", false)
def tyJ1 : Nat → FieldType := fun k => match k with
  | _ => .int
abbrev wsJ10 : List Cond := u_ws RJ1 TJ1 0
theorem nmJ1 : ∀ a, a < 0 → ∀ b, b < 0 → a ≠ b → (TJ1 a).2.1 ≠ (TJ1 b).2.1 := by decide +kernel
theorem tyJ1_ok : ∀ k, k < 0 → parseFieldDescriptor (TJ1 k).2.2.1 = some (tyJ1 k) := by decide +kernel
abbrev cJ1_charAt_3b067 : ByteArray := prog_15_method_2_code
def yJ1_charAt_3b067 : MethodName := ⟨RJ1, "charAt", "([BI)C"⟩
abbrev cJ1_canEncode_9a6ad : ByteArray := prog_15_method_4_code
def yJ1_canEncode_9a6ad : MethodName := ⟨RJ1, "canEncode", "(I)Z"⟩
abbrev cJ1_indexOf_4cfef : ByteArray := prog_15_method_22_code
def yJ1_indexOf_4cfef : MethodName := ⟨RJ1, "indexOf", "([BIII)I"⟩
abbrev cJ1_indexOfChar_4cfef : ByteArray := prog_15_method_23_code
def yJ1_indexOfChar_4cfef : MethodName := ⟨RJ1, "indexOfChar", "([BIII)I"⟩
def RJ2 : String := "java/lang/StringUTF16"
def TJ2 : u_T := fun k => match k with
  | _ => ("", "", "", false)
def tyJ2 : Nat → FieldType := fun k => match k with
  | _ => .int
abbrev wsJ20 : List Cond := u_ws RJ2 TJ2 0
theorem nmJ2 : ∀ a, a < 0 → ∀ b, b < 0 → a ≠ b → (TJ2 a).2.1 ≠ (TJ2 b).2.1 := by decide +kernel
theorem tyJ2_ok : ∀ k, k < 0 → parseFieldDescriptor (TJ2 k).2.2.1 = some (tyJ2 k) := by decide +kernel
abbrev cJ2_getChar_3b067 : ByteArray := prog_16_method_5_code
def yJ2_getChar_3b067 : MethodName := ⟨RJ2, "getChar", "([BI)C"⟩
abbrev cJ2_length_9d52b : ByteArray := prog_16_method_6_code
def yJ2_length_9d52b : MethodName := ⟨RJ2, "length", "([B)I"⟩
abbrev cJ2_indexOf_4cfef : ByteArray := prog_16_method_40_code
def yJ2_indexOf_4cfef : MethodName := ⟨RJ2, "indexOf", "([BIII)I"⟩
abbrev cJ2_indexOfChar_4cfef : ByteArray := prog_16_method_47_code
def yJ2_indexOfChar_4cfef : MethodName := ⟨RJ2, "indexOfChar", "([BIII)I"⟩
abbrev cJ2_indexOfCharUnsafe_4cfef : ByteArray := prog_16_method_48_code
def yJ2_indexOfCharUnsafe_4cfef : MethodName := ⟨RJ2, "indexOfCharUnsafe", "([BIII)I"⟩
abbrev cJ2_indexOfSupplementary_4cfef : ByteArray := prog_16_method_49_code
def yJ2_indexOfSupplementary_4cfef : MethodName := ⟨RJ2, "indexOfSupplementary", "([BIII)I"⟩
abbrev cJ2_charAt_3b067 : ByteArray := prog_16_method_83_code
def yJ2_charAt_3b067 : MethodName := ⟨RJ2, "charAt", "([BI)C"⟩
abbrev cJ2_checkIndex_2214a : ByteArray := prog_16_method_91_code
def yJ2_checkIndex_2214a : MethodName := ⟨RJ2, "checkIndex", "(I[B)V"⟩
abbrev cJ2_checkBoundsBeginEnd_d044e : ByteArray := prog_16_method_93_code
def yJ2_checkBoundsBeginEnd_d044e : MethodName := ⟨RJ2, "checkBoundsBeginEnd", "(II[B)V"⟩
def RJ10 : String := "java/lang/System"
def TJ10 : u_T := fun k => match k with
  | _ => ("", "", "", false)
def tyJ10 : Nat → FieldType := fun k => match k with
  | _ => .int
abbrev wsJ100 : List Cond := u_ws RJ10 TJ10 0
theorem nmJ10 : ∀ a, a < 0 → ∀ b, b < 0 → a ≠ b → (TJ10 a).2.1 ≠ (TJ10 b).2.1 := by decide +kernel
theorem tyJ10_ok : ∀ k, k < 0 → parseFieldDescriptor (TJ10 k).2.2.1 = some (tyJ10 k) := by decide +kernel
def RJxfd54e : String := "java/lang/constant/Constable"
def TJxfd54e : u_T := fun k => match k with
  | _ => ("", "", "", false)
def tyJxfd54e : Nat → FieldType := fun k => match k with
  | _ => .int
abbrev wsJxfd54e0 : List Cond := u_ws RJxfd54e TJxfd54e 0
theorem nmJxfd54e : ∀ a, a < 0 → ∀ b, b < 0 → a ≠ b → (TJxfd54e a).2.1 ≠ (TJxfd54e b).2.1 := by decide +kernel
theorem tyJxfd54e_ok : ∀ k, k < 0 → parseFieldDescriptor (TJxfd54e k).2.2.1 = some (tyJxfd54e k) := by decide +kernel
def RJx3cf43 : String := "java/lang/constant/ConstantDesc"
def TJx3cf43 : u_T := fun k => match k with
  | _ => ("", "", "", false)
def tyJx3cf43 : Nat → FieldType := fun k => match k with
  | _ => .int
abbrev wsJx3cf430 : List Cond := u_ws RJx3cf43 TJx3cf43 0
theorem nmJx3cf43 : ∀ a, a < 0 → ∀ b, b < 0 → a ≠ b → (TJx3cf43 a).2.1 ≠ (TJx3cf43 b).2.1 := by decide +kernel
theorem tyJx3cf43_ok : ∀ k, k < 0 → parseFieldDescriptor (TJx3cf43 k).2.2.1 = some (tyJx3cf43 k) := by decide +kernel
def RJ7 : String := "java/util/Arrays"
def TJ7 : u_T := fun k => match k with
  | _ => ("", "", "", false)
def tyJ7 : Nat → FieldType := fun k => match k with
  | _ => .int
abbrev wsJ70 : List Cond := u_ws RJ7 TJ7 0
theorem nmJ7 : ∀ a, a < 0 → ∀ b, b < 0 → a ≠ b → (TJ7 a).2.1 ≠ (TJ7 b).2.1 := by decide +kernel
theorem tyJ7_ok : ∀ k, k < 0 → parseFieldDescriptor (TJ7 k).2.2.1 = some (tyJ7 k) := by decide +kernel
abbrev cJ7_fill_53178 : ByteArray := prog_18_method_103_code
def yJ7_fill_53178 : MethodName := ⟨RJ7, "fill", "([II)V"⟩
def RJ3 : String := "jdk/internal/util/Preconditions"
def TJ3 : u_T := fun k => match k with
  | _ => ("", "", "", false)
def tyJ3 : Nat → FieldType := fun k => match k with
  | _ => .int
abbrev wsJ30 : List Cond := u_ws RJ3 TJ3 0
theorem nmJ3 : ∀ a, a < 0 → ∀ b, b < 0 → a ≠ b → (TJ3 a).2.1 ≠ (TJ3 b).2.1 := by decide +kernel
theorem tyJ3_ok : ∀ k, k < 0 → parseFieldDescriptor (TJ3 k).2.2.1 = some (tyJ3 k) := by decide +kernel
abbrev cJ3_checkIndex_8e157 : ByteArray := prog_19_method_11_code
def yJ3_checkIndex_8e157 : MethodName := ⟨RJ3, "checkIndex", "(IILjava/util/function/BiFunction;)I"⟩
abbrev cJ3_checkFromToIndex_8c36e : ByteArray := prog_19_method_12_code
def yJ3_checkFromToIndex_8c36e : MethodName := ⟨RJ3, "checkFromToIndex", "(IIILjava/util/function/BiFunction;)I"⟩
def RL : String := "GapTellingsLaw"
abbrev cL_law : ByteArray := code
def yL_law : MethodName := ⟨RL, "law", "([I)Z"⟩
